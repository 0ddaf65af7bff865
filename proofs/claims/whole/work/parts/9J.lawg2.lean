/-! The law's cases: feed. -/
section ZLh
variable {M : zM} {n : Nat} {p1 p2 p3 p4 p5 p : Int}
def zfeed (M : zM) (n : Nat) (p1 p2 p3 p4 p5 : Int) : zM := zfour (zfour (zfour (zfour (zfour M n p1) (n + 4) p2) (n + 8) p3) (n + 12) p4) (n + 16) p5
theorem zfeed_lt {j : Nat} (h : j < n) : zfeed M n p1 p2 p3 p4 p5 16 j = M 16 j := by
  unfold zfeed
  rw [zfour_lt (by omega), zfour_lt (by omega), zfour_lt (by omega), zfour_lt (by omega), zfour_lt h]
theorem zfeed_k {k : Nat} (h : k ≠ 15) (h2 : k ≠ 16) : zfeed M n p1 p2 p3 p4 p5 k = M k := by
  unfold zfeed
  rw [zfour_k h h2, zfour_k h h2, zfour_k h h2, zfour_k h h2, zfour_k h h2]
theorem zfeed_ge {j : Nat} (h : j < 20) : zfeed M n p1 p2 p3 p4 p5 16 (n + j) = zby (zfd p1 p2 p3 p4 p5 j) (24 - 8 * (j % 4)) := by
  unfold zfeed zfd
  by_cases h1 : j < 4
  · rw [if_pos h1, zfour_lt (by omega), zfour_lt (by omega), zfour_lt (by omega), zfour_lt (by omega), zfour_ge h1, Nat.mod_eq_of_lt h1]
  by_cases h2 : j < 8
  · rw [if_neg h1, if_pos h2, zfour_lt (by omega), zfour_lt (by omega), zfour_lt (by omega), show n + j = (n + 4) + (j - 4) from by omega, zfour_ge (by omega), show j - 4 = j % 4 from by omega]
  by_cases h3 : j < 12
  · rw [if_neg h1, if_neg h2, if_pos h3, zfour_lt (by omega), zfour_lt (by omega), show n + j = (n + 8) + (j - 8) from by omega, zfour_ge (by omega), show j - 8 = j % 4 from by omega]
  by_cases h4 : j < 16
  · rw [if_neg h1, if_neg h2, if_neg h3, if_pos h4, zfour_lt (by omega), show n + j = (n + 12) + (j - 12) from by omega, zfour_ge (by omega), show j - 12 = j % 4 from by omega]
  · rw [if_neg h1, if_neg h2, if_neg h3, if_neg h4, show n + j = (n + 16) + (j - 16) from by omega, zfour_ge (by omega), show j - 16 = j % 4 from by omega]
theorem zfb_by {j : Nat} (h : j < 20) : zfb p1 p2 p3 p4 p5 j % 256 = zby (zfd p1 p2 p3 p4 p5 j) (24 - 8 * (j % 4)) := by
  unfold zfb
  rw [show (24 : Int) - 8 * ((j : Int) % 4) = ((24 - 8 * (j % 4) : Nat) : Int) from by omega]
  exact zby_shr _ _ (by omega)
end ZLh
