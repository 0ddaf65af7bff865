/-! Rings, the pure part: the determinants of the 16 sets are above 0 (printed by program). -/
theorem zb2_pos {x y z : Int} (h1 : 0 < x) (h2 : 0 < y) (h3 : 0 < z) : 0 < x * y + x * z + y * z := by
  have a := Int.mul_pos h1 h2
  have b := Int.mul_pos h1 h3
  have c := Int.mul_pos h2 h3
  omega
theorem zb3_pos {w x y z : Int} (h0 : 0 < w) (h1 : 0 < x) (h2 : 0 < y) (h3 : 0 < z) : 0 < w * (x * y + x * z + y * z) + x * (y * z) := by
  have a := Int.mul_pos h0 (zb2_pos h1 h2 h3)
  have b := Int.mul_pos h1 (Int.mul_pos h2 h3)
  omega
theorem zb4_pos {v w x y z : Int} (h : 0 < v) (h0 : 0 < w) (h1 : 0 < x) (h2 : 0 < y) (h3 : 0 < z) : 0 < v * (w * (x * y + x * z + y * z) + x * (y * z)) + w * (x * (y * z)) := by
  have a := Int.mul_pos h (zb3_pos h0 h1 h2 h3)
  have b := Int.mul_pos h0 (Int.mul_pos h1 (Int.mul_pos h2 h3))
  omega
theorem zdtp_0000 {g0 g1 g2 g3 g4 : Int} (h0 : 0 < g0) (h1 : 0 < g1) (h2 : 0 < g2) (h3 : 0 < g3) (h4 : 0 < g4) : 0 < zdt 1 0 0 0 0 1 0 0 0 0 1 0 0 0 0 1 := by
  have e : zdt 1 0 0 0 0 1 0 0 0 0 1 0 0 0 0 1 = 1 := by unfold zdt; grind
  rw [e]
  exact by decide
theorem zdtp_0001 {g0 g1 g2 g3 g4 : Int} (h0 : 0 < g0) (h1 : 0 < g1) (h2 : 0 < g2) (h3 : 0 < g3) (h4 : 0 < g4) : 0 < zdt 1 0 0 0 0 1 0 0 0 0 1 0 0 0 (-g3) (g3 + g4) := by
  have e : zdt 1 0 0 0 0 1 0 0 0 0 1 0 0 0 (-g3) (g3 + g4) = (g3 + g4) := by unfold zdt; grind
  rw [e]
  exact (by omega)
theorem zdtp_0010 {g0 g1 g2 g3 g4 : Int} (h0 : 0 < g0) (h1 : 0 < g1) (h2 : 0 < g2) (h3 : 0 < g3) (h4 : 0 < g4) : 0 < zdt 1 0 0 0 0 1 0 0 0 (-g2) (g2 + g3) (-g3) 0 0 0 1 := by
  have e : zdt 1 0 0 0 0 1 0 0 0 (-g2) (g2 + g3) (-g3) 0 0 0 1 = (g2 + g3) := by unfold zdt; grind
  rw [e]
  exact (by omega)
theorem zdtp_0011 {g0 g1 g2 g3 g4 : Int} (h0 : 0 < g0) (h1 : 0 < g1) (h2 : 0 < g2) (h3 : 0 < g3) (h4 : 0 < g4) : 0 < zdt 1 0 0 0 0 1 0 0 0 (-g2) (g2 + g3) (-g3) 0 0 (-g3) (g3 + g4) := by
  have e : zdt 1 0 0 0 0 1 0 0 0 (-g2) (g2 + g3) (-g3) 0 0 (-g3) (g3 + g4) = (g2 * g3 + g2 * g4 + g3 * g4) := by unfold zdt; grind
  rw [e]
  exact (zb2_pos h2 h3 h4)
theorem zdtp_0100 {g0 g1 g2 g3 g4 : Int} (h0 : 0 < g0) (h1 : 0 < g1) (h2 : 0 < g2) (h3 : 0 < g3) (h4 : 0 < g4) : 0 < zdt 1 0 0 0 (-g1) (g1 + g2) (-g2) 0 0 0 1 0 0 0 0 1 := by
  have e : zdt 1 0 0 0 (-g1) (g1 + g2) (-g2) 0 0 0 1 0 0 0 0 1 = (g1 + g2) := by unfold zdt; grind
  rw [e]
  exact (by omega)
theorem zdtp_0101 {g0 g1 g2 g3 g4 : Int} (h0 : 0 < g0) (h1 : 0 < g1) (h2 : 0 < g2) (h3 : 0 < g3) (h4 : 0 < g4) : 0 < zdt 1 0 0 0 (-g1) (g1 + g2) (-g2) 0 0 0 1 0 0 0 (-g3) (g3 + g4) := by
  have e : zdt 1 0 0 0 (-g1) (g1 + g2) (-g2) 0 0 0 1 0 0 0 (-g3) (g3 + g4) = (g1 + g2) * (g3 + g4) := by unfold zdt; grind
  rw [e]
  exact (Int.mul_pos (by omega) (by omega))
theorem zdtp_0110 {g0 g1 g2 g3 g4 : Int} (h0 : 0 < g0) (h1 : 0 < g1) (h2 : 0 < g2) (h3 : 0 < g3) (h4 : 0 < g4) : 0 < zdt 1 0 0 0 (-g1) (g1 + g2) (-g2) 0 0 (-g2) (g2 + g3) (-g3) 0 0 0 1 := by
  have e : zdt 1 0 0 0 (-g1) (g1 + g2) (-g2) 0 0 (-g2) (g2 + g3) (-g3) 0 0 0 1 = (g1 * g2 + g1 * g3 + g2 * g3) := by unfold zdt; grind
  rw [e]
  exact (zb2_pos h1 h2 h3)
theorem zdtp_0111 {g0 g1 g2 g3 g4 : Int} (h0 : 0 < g0) (h1 : 0 < g1) (h2 : 0 < g2) (h3 : 0 < g3) (h4 : 0 < g4) : 0 < zdt 1 0 0 0 (-g1) (g1 + g2) (-g2) 0 0 (-g2) (g2 + g3) (-g3) 0 0 (-g3) (g3 + g4) := by
  have e : zdt 1 0 0 0 (-g1) (g1 + g2) (-g2) 0 0 (-g2) (g2 + g3) (-g3) 0 0 (-g3) (g3 + g4) = (g1 * (g2 * g3 + g2 * g4 + g3 * g4) + g2 * (g3 * g4)) := by unfold zdt; grind
  rw [e]
  exact (zb3_pos h1 h2 h3 h4)
theorem zdtp_1000 {g0 g1 g2 g3 g4 : Int} (h0 : 0 < g0) (h1 : 0 < g1) (h2 : 0 < g2) (h3 : 0 < g3) (h4 : 0 < g4) : 0 < zdt (g0 + g1) (-g1) 0 0 0 1 0 0 0 0 1 0 0 0 0 1 := by
  have e : zdt (g0 + g1) (-g1) 0 0 0 1 0 0 0 0 1 0 0 0 0 1 = (g0 + g1) := by unfold zdt; grind
  rw [e]
  exact (by omega)
theorem zdtp_1001 {g0 g1 g2 g3 g4 : Int} (h0 : 0 < g0) (h1 : 0 < g1) (h2 : 0 < g2) (h3 : 0 < g3) (h4 : 0 < g4) : 0 < zdt (g0 + g1) (-g1) 0 0 0 1 0 0 0 0 1 0 0 0 (-g3) (g3 + g4) := by
  have e : zdt (g0 + g1) (-g1) 0 0 0 1 0 0 0 0 1 0 0 0 (-g3) (g3 + g4) = (g0 + g1) * (g3 + g4) := by unfold zdt; grind
  rw [e]
  exact (Int.mul_pos (by omega) (by omega))
theorem zdtp_1010 {g0 g1 g2 g3 g4 : Int} (h0 : 0 < g0) (h1 : 0 < g1) (h2 : 0 < g2) (h3 : 0 < g3) (h4 : 0 < g4) : 0 < zdt (g0 + g1) (-g1) 0 0 0 1 0 0 0 (-g2) (g2 + g3) (-g3) 0 0 0 1 := by
  have e : zdt (g0 + g1) (-g1) 0 0 0 1 0 0 0 (-g2) (g2 + g3) (-g3) 0 0 0 1 = (g0 + g1) * (g2 + g3) := by unfold zdt; grind
  rw [e]
  exact (Int.mul_pos (by omega) (by omega))
theorem zdtp_1011 {g0 g1 g2 g3 g4 : Int} (h0 : 0 < g0) (h1 : 0 < g1) (h2 : 0 < g2) (h3 : 0 < g3) (h4 : 0 < g4) : 0 < zdt (g0 + g1) (-g1) 0 0 0 1 0 0 0 (-g2) (g2 + g3) (-g3) 0 0 (-g3) (g3 + g4) := by
  have e : zdt (g0 + g1) (-g1) 0 0 0 1 0 0 0 (-g2) (g2 + g3) (-g3) 0 0 (-g3) (g3 + g4) = (g0 + g1) * (g2 * g3 + g2 * g4 + g3 * g4) := by unfold zdt; grind
  rw [e]
  exact (Int.mul_pos (by omega) (zb2_pos h2 h3 h4))
theorem zdtp_1100 {g0 g1 g2 g3 g4 : Int} (h0 : 0 < g0) (h1 : 0 < g1) (h2 : 0 < g2) (h3 : 0 < g3) (h4 : 0 < g4) : 0 < zdt (g0 + g1) (-g1) 0 0 (-g1) (g1 + g2) (-g2) 0 0 0 1 0 0 0 0 1 := by
  have e : zdt (g0 + g1) (-g1) 0 0 (-g1) (g1 + g2) (-g2) 0 0 0 1 0 0 0 0 1 = (g0 * g1 + g0 * g2 + g1 * g2) := by unfold zdt; grind
  rw [e]
  exact (zb2_pos h0 h1 h2)
theorem zdtp_1101 {g0 g1 g2 g3 g4 : Int} (h0 : 0 < g0) (h1 : 0 < g1) (h2 : 0 < g2) (h3 : 0 < g3) (h4 : 0 < g4) : 0 < zdt (g0 + g1) (-g1) 0 0 (-g1) (g1 + g2) (-g2) 0 0 0 1 0 0 0 (-g3) (g3 + g4) := by
  have e : zdt (g0 + g1) (-g1) 0 0 (-g1) (g1 + g2) (-g2) 0 0 0 1 0 0 0 (-g3) (g3 + g4) = (g0 * g1 + g0 * g2 + g1 * g2) * (g3 + g4) := by unfold zdt; grind
  rw [e]
  exact (Int.mul_pos (zb2_pos h0 h1 h2) (by omega))
theorem zdtp_1110 {g0 g1 g2 g3 g4 : Int} (h0 : 0 < g0) (h1 : 0 < g1) (h2 : 0 < g2) (h3 : 0 < g3) (h4 : 0 < g4) : 0 < zdt (g0 + g1) (-g1) 0 0 (-g1) (g1 + g2) (-g2) 0 0 (-g2) (g2 + g3) (-g3) 0 0 0 1 := by
  have e : zdt (g0 + g1) (-g1) 0 0 (-g1) (g1 + g2) (-g2) 0 0 (-g2) (g2 + g3) (-g3) 0 0 0 1 = (g0 * (g1 * g2 + g1 * g3 + g2 * g3) + g1 * (g2 * g3)) := by unfold zdt; grind
  rw [e]
  exact (zb3_pos h0 h1 h2 h3)
theorem zdtp_1111 {g0 g1 g2 g3 g4 : Int} (h0 : 0 < g0) (h1 : 0 < g1) (h2 : 0 < g2) (h3 : 0 < g3) (h4 : 0 < g4) : 0 < zdt (g0 + g1) (-g1) 0 0 (-g1) (g1 + g2) (-g2) 0 0 (-g2) (g2 + g3) (-g3) 0 0 (-g3) (g3 + g4) := by
  have e : zdt (g0 + g1) (-g1) 0 0 (-g1) (g1 + g2) (-g2) 0 0 (-g2) (g2 + g3) (-g3) 0 0 (-g3) (g3 + g4) = (g0 * (g1 * (g2 * g3 + g2 * g4 + g3 * g4) + g2 * (g3 * g4)) + g1 * (g2 * (g3 * g4))) := by unfold zdt; grind
  rw [e]
  exact (zb4_pos h0 h1 h2 h3 h4)
