/-! The law's cases: feed; bytes. -/
section ZLf
variable {M : zM} {n : Nat} {p1 p2 p3 p4 p5 p : Int}
theorem zfour_lt {j : Nat} (h : j < n) : zfour M n p 16 j = M 16 j := by
  unfold zfour
  rw [zo_at, if_neg (by omega), if_neg (by omega), if_neg (by omega), if_neg (by omega)]
theorem zfour_ge {j : Nat} (h : j < 4) : zfour M n p 16 (n + j) = zby p (24 - 8 * j) := by
  unfold zfour
  rw [zo_at]
  obtain rfl | rfl | rfl | rfl : j = 0 ∨ j = 1 ∨ j = 2 ∨ j = 3 := by omega
  · rw [if_pos (by omega)]
  · rw [if_neg (by omega), if_pos rfl]
  · rw [if_neg (by omega), if_neg (by omega), if_pos rfl]
  · rw [if_neg (by omega), if_neg (by omega), if_neg (by omega), if_pos rfl]
theorem zfour_k {k : Nat} (h : k ≠ 15) (h2 : k ≠ 16) : zfour M n p k = M k := by
  unfold zfour
  rw [zo_off _ _ h2, zo_off _ _ h]
theorem zfour_15 : zfour M n p 15 1 = ((n + 4 : Nat) : Int) := by simp [zfour, zo]
end ZLf
