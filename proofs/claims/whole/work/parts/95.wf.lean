/-! Rows as they may be, and that acts keep them so. -/
def zWf (R : Nat → Int) : Prop := (∀ j, z32 (R j) = R j) ∧ zRk R ∧ zMk R ∧ zPr R ∧ zBk R (R 97).toNat ∧ zIk R ∧ zPlk R ∧ zDk R ∧ (0 ≤ R 199 ∧ R 199 ≤ 12)
section ZWf
variable {R R' : Nat → Int}
theorem zRk_cg (h : zRk R) (e : ∀ j, j < 21 → R' j = R j) : zRk R' := by
  have h0 := h.1
  have e0 := e 0 (by decide)
  refine ⟨by rw [e0]; exact h0, fun r hr => ?_⟩
  rw [e0] at hr
  have := h.2 r hr
  unfold zrH zrS zrO zrF at *
  rw [e (1 + 4 * r) (by omega), e (2 + 4 * r) (by omega), e (3 + 4 * r) (by omega), e (4 + 4 * r) (by omega)]
  exact this
theorem zMk_cg (h : zMk R) (hz : ∀ j, z32 (R' j) = R' j) (e : ∀ j, 93 ≤ j → j < 97 → R' j = R j) : zMk R' := by
  obtain ⟨_, h1, h2, h3, h4⟩ := h
  refine ⟨hz, ?_, ?_, ?_, ?_⟩
  · rw [e 93 (by decide) (by decide)]; exact h1
  · rw [e 94 (by decide) (by decide)]; exact h2
  · rw [e 95 (by decide) (by decide)]; exact h3
  · rw [e 96 (by decide) (by decide)]; exact h4
theorem zPr_cg (h : zPr R) (e : ∀ j, 21 ≤ j → j < 93 → R' j = R j) : zPr R' := by
  intro s h1 h2
  have := h s h1 h2
  rw [e _ (by omega) (by omega), e _ (by omega) (by omega), e _ (by omega) (by omega)]
  exact this
theorem zBk_cg (h : zBk R (R 97).toNat) (hz : ∀ j, z32 (R' j) = R' j) (e : ∀ j, 97 ≤ j → j < 127 → R' j = R j) : zBk R' (R' 97).toNat := by
  obtain ⟨_, h1, h2, h3, h4, h5⟩ := h
  have e97 := e 97 (by decide) (by decide)
  refine ⟨hz, by rw [e97]; exact h1, by rw [e97]; exact h2, fun x hx => ?_, by rw [e 125 (by decide) (by decide)]; exact h4, by rw [e 126 (by decide) (by decide)]; exact h5⟩
  rw [e97] at hx
  have := h3 x hx
  unfold zhM zhX zhY at *
  rw [e _ (by omega) (by omega), e _ (by omega) (by omega), e _ (by omega) (by omega)]
  exact this
theorem zIk_cg (h : zIk R) (hz : ∀ j, z32 (R' j) = R' j) (e : ∀ j, 187 ≤ j → j < 194 → R' j = R j) : zIk R' := by
  obtain ⟨_, h1, h2, h3, h4, h5, h6⟩ := h
  unfold zIk
  rw [e 187 (by decide) (by decide), e 188 (by decide) (by decide), e 189 (by decide) (by decide), e 190 (by decide) (by decide), e 191 (by decide) (by decide), e 192 (by decide) (by decide), e 193 (by decide) (by decide)]
  exact ⟨hz, h1, h2, h3, h4, h5, h6⟩
theorem zgm_cg (e : ∀ j, 127 ≤ j → j < 134 → R' j = R j) {i : Nat} (hi : i < 3) : zgm R' i = zgm R i ∧ zgt R' i = zgt R i := by
  unfold zgm zgt
  rw [e 127 (by decide) (by decide), e (128 + i * 2) (by omega) (by omega), e (128 + i * 2 + 1) (by omega) (by omega)]
  exact ⟨rfl, rfl⟩
theorem zGk_cg (h : zGk R) (hz : ∀ j, z32 (R' j) = R' j) (e : ∀ j, 127 ≤ j → j < 134 → R' j = R j) : zGk R' := by
  obtain ⟨_, h1, h2, h3⟩ := h
  refine ⟨hz, by rw [e 127 (by decide) (by decide)]; exact h1, fun i hi => by rw [(zgm_cg e hi).1]; exact h2 i hi, fun i hi => by rw [(zgm_cg e hi).2]; exact h3 i hi⟩
/-- agreeing up to the first x moves -/
theorem zpl_cg {x : Nat} (hx : x ≤ 8) (e : ∀ j, 127 ≤ j → j < 139 → R' j = R j) (em : ∀ j, 140 ≤ j → j < 140 + 2 * x → R' j = R j) : ∀ n, n ≤ x → zpB R' n = zpB R n ∧ (∀ i, i < 3 → zpC R' i n = zpC R i n) ∧ (n < x → zcl R' n = zcl R n ∧ zgiv R' n = zgiv R n) := by
  have hm : ∀ n, n < x → zcl R' n = zcl R n ∧ zgiv R' n = zgiv R n := fun n hn => by
    unfold zcl zgiv
    exact ⟨em _ (by omega) (by omega), em _ (by omega) (by omega)⟩
  intro n
  induction n with
  | zero =>
    intro _
    refine ⟨?_, fun i hi => ?_, fun h => hm 0 h⟩
    · rw [zpB, zpB]; exact e 135 (by decide) (by decide)
    · rw [zpC, zpC]; exact e _ (by omega) (by omega)
  | succ n ih =>
    intro h
    obtain ⟨a1, a2, a3⟩ := ih (by omega)
    obtain ⟨b1, b2⟩ := hm n (by omega)
    refine ⟨?_, fun i hi => ?_, fun h => hm _ h⟩
    · rw [zpB, zpB, a1, b1]
    · rw [zpC, zpC, a2 i hi, b2, (zgm_cg (fun j h1 h2 => e j h1 (by omega)) hi).1]
theorem zPlk_cg (h : zPlk R) (hz : ∀ j, z32 (R' j) = R' j) (e : ∀ j, 127 ≤ j → j < 156 → R' j = R j) : zPlk R' := by
  obtain ⟨hg, p1, p2, p3, p4, p5⟩ := h
  obtain ⟨x, hx⟩ := Int.eq_ofNat_of_zero_le p1.1
  have e139 := e 139 (by decide) (by decide)
  have e134 := e 134 (by decide) (by decide)
  have c := zpl_cg (R := R) (R' := R') (x := x) (by omega) (fun j h1 h2 => e j h1 (by omega)) (fun j h1 h2 => e j (by omega) (by omega))
  refine ⟨zGk_cg hg hz fun j h1 h2 => e j h1 (by omega), by rw [e139]; exact p1, by rw [e134]; exact p2, by rw [e139, e134]; exact p3, fun n hn => ?_, fun n hn => ?_⟩
  · rw [e139, hx] at hn
    obtain ⟨c1, c2, _⟩ := c n (by omega)
    obtain ⟨q1, q2⟩ := p4 n (by omega)
    refine ⟨by rw [c1]; exact q1, fun i hi => ?_⟩
    rw [c2 i hi, (zgm_cg (fun j h1 h2 => e j h1 (by omega)) hi).1]
    exact q2 i hi
  · rw [e139, hx] at hn
    obtain ⟨c1, c2, c3⟩ := c n (by omega)
    obtain ⟨d1, d2⟩ := c3 (by omega)
    obtain ⟨q1, q2, q3, q4⟩ := p5 n (by omega)
    rw [d1, d2, c1]
    refine ⟨q1, q2, fun i hi => ?_, q4⟩
    rw [c2 i hi, (zgm_cg (fun j h1 h2 => e j h1 (by omega)) hi).2]
    exact q3 i hi
theorem zDk_cg (h : zDk R) (e : ∀ j, 156 ≤ j → j < 187 → R' j = R j) : zDk R' := by
  intro s h1 h2
  rw [e _ (by omega) (by omega)]
  exact h s h1 h2
theorem zWf_R (h : zWf R) : zRo R := ⟨h.2.2.2.2.2.2.1.2.1.1, h.1⟩
/-- all but what stands in one stretch of cells is as before -/
theorem zWf_cg (h : zWf R) (hz : ∀ j, z32 (R' j) = R' j) {lo hi : Nat} (e : ∀ j, ¬(lo ≤ j ∧ j < hi) → R' j = R j) (w2 : 21 ≤ lo ∨ zRk R') (w4 : hi ≤ 21 ∨ 93 ≤ lo ∨ zPr R') (w3 : hi ≤ 93 ∨ 97 ≤ lo ∨ zMk R') (w5 : hi ≤ 97 ∨ 127 ≤ lo ∨ zBk R' (R' 97).toNat) (w7 : hi ≤ 127 ∨ 156 ≤ lo ∨ zPlk R') (w8 : hi ≤ 156 ∨ 187 ≤ lo ∨ zDk R') (w6 : hi ≤ 187 ∨ 194 ≤ lo ∨ zIk R') (w9 : hi ≤ 199 ∨ (0 ≤ R' 199 ∧ R' 199 ≤ 12)) : zWf R' := by
  obtain ⟨h1, h2, h3, h4, h5, h6, h7, h8, h9⟩ := h
  refine ⟨hz, ?_, ?_, ?_, ?_, ?_, ?_, ?_, ?_⟩
  · rcases w2 with w | w
    · exact zRk_cg h2 fun j q1 => e j (by omega)
    · exact w
  · rcases w3 with w | w | w
    · exact zMk_cg h3 hz fun j q1 q2 => e j (by omega)
    · exact zMk_cg h3 hz fun j q1 q2 => e j (by omega)
    · exact w
  · rcases w4 with w | w | w
    · exact zPr_cg h4 fun j q1 q2 => e j (by omega)
    · exact zPr_cg h4 fun j q1 q2 => e j (by omega)
    · exact w
  · rcases w5 with w | w | w
    · exact zBk_cg h5 hz fun j q1 q2 => e j (by omega)
    · exact zBk_cg h5 hz fun j q1 q2 => e j (by omega)
    · exact w
  · rcases w6 with w | w | w
    · exact zIk_cg h6 hz fun j q1 q2 => e j (by omega)
    · exact zIk_cg h6 hz fun j q1 q2 => e j (by omega)
    · exact w
  · rcases w7 with w | w | w
    · exact zPlk_cg h7 hz fun j q1 q2 => e j (by omega)
    · exact zPlk_cg h7 hz fun j q1 q2 => e j (by omega)
    · exact w
  · rcases w8 with w | w | w
    · exact zDk_cg h8 fun j q1 q2 => e j (by omega)
    · exact zDk_cg h8 fun j q1 q2 => e j (by omega)
    · exact w
  · rcases w9 with w | w
    · rw [e 199 (by omega)]; exact h9
    · exact w
end ZWf
theorem zuR_z {R : Nat → Int} (h : ∀ j, z32 (R j) = R j) {q : Nat} {x : Int} (hx : z32 x = x) : ∀ j, z32 (zuR R q x j) = zuR R q x j := fun j => by
  unfold zuR
  split
  · exact hx
  · exact h j
section ZWg
variable {R : Nat → Int} {a b c e t : Int}
theorem zWf_1 (h : zWf R) (h1 : 0 ≤ a ∧ a ≤ 23) (h2 : 0 ≤ b ∧ b ≤ 99) (h3 : 0 ≤ c ∧ c ≤ 99) : zWf (zApp (zac 1 a b c 0 0) R) := by
  have h' := h
  obtain ⟨f1, f2, f3, f4, f5, f6, f7, f8, f9⟩ := h'
  obtain ⟨x, rfl⟩ := Int.eq_ofNat_of_zero_le h1.1
  rw [zApp_1]
  rw [Int.toNat_natCast]
  have hz : ∀ j, z32 ((zuR (zuR R (21 + 3 * x) b) (22 + 3 * x) c) j) = (zuR (zuR R (21 + 3 * x) b) (22 + 3 * x) c) j := (zuR_z (zuR_z f1 (z32_id (by omega) (by omega))) (z32_id (by omega) (by omega)))
  have he : ∀ j, ¬(21 ≤ j ∧ j < 93) → (zuR (zuR R (21 + 3 * x) b) (22 + 3 * x) c) j = R j := fun j hj => by
    simp only [zuR]
    (repeat' split) <;> first | rfl | omega
  refine zWf_cg (lo := 21) (hi := 93) h hz he (Or.inl (by decide)) (Or.inr (Or.inr ?_)) (Or.inl (by decide)) (Or.inl (by decide)) (Or.inl (by decide)) (Or.inl (by decide)) (Or.inl (by decide)) (Or.inl (by decide))
  intro s q1 q2
  have := f4 s q1 q2
  simp only [zuR]
  refine ⟨?_, ?_, ?_⟩ <;> (repeat' split) <;> omega
theorem zWf_2 (h : zWf R) (h1 : 0 ≤ a ∧ a ≤ 30) (h2 : 1 ≤ b ∧ b ≤ 9) (h3 : 0 ≤ c ∧ c ≤ 100) : zWf (zApp (zac 2 a b c 0 0) R) := by
  have h' := h
  obtain ⟨f1, f2, f3, f4, f5, f6, f7, f8, f9⟩ := h'
  rw [zApp_2]
  have hz : ∀ j, z32 ((zuR (zuR (zuR R 93 a) 94 b) 95 c) j) = (zuR (zuR (zuR R 93 a) 94 b) 95 c) j := (zuR_z (zuR_z (zuR_z f1 (z32_id (by omega) (by omega))) (z32_id (by omega) (by omega))) (z32_id (by omega) (by omega)))
  have he : ∀ j, ¬(93 ≤ j ∧ j < 97) → (zuR (zuR (zuR R 93 a) 94 b) 95 c) j = R j := fun j hj => by
    simp only [zuR]
    (repeat' split) <;> first | rfl | omega
  refine zWf_cg (lo := 93) (hi := 97) h hz he (Or.inl (by decide)) (Or.inr (Or.inl (by decide))) (Or.inr (Or.inr ?_)) (Or.inl (by decide)) (Or.inl (by decide)) (Or.inl (by decide)) (Or.inl (by decide)) (Or.inl (by decide))
  exact ⟨hz, h1, h2, h3, f3.2.2.2.2⟩
theorem zWf_3 (h : zWf R) (h1 : 0 ≤ a ∧ a ≤ 30) : zWf (zApp (zac 3 a 0 0 0 0) R) := by
  have h' := h
  obtain ⟨f1, f2, f3, f4, f5, f6, f7, f8, f9⟩ := h'
  rw [zApp_3]
  have hz : ∀ j, z32 ((zuR R 96 a) j) = (zuR R 96 a) j := (zuR_z f1 (z32_id (by omega) (by omega)))
  have he : ∀ j, ¬(93 ≤ j ∧ j < 97) → (zuR R 96 a) j = R j := fun j hj => by
    simp only [zuR]
    (repeat' split) <;> first | rfl | omega
  refine zWf_cg (lo := 93) (hi := 97) h hz he (Or.inl (by decide)) (Or.inr (Or.inl (by decide))) (Or.inr (Or.inr ?_)) (Or.inl (by decide)) (Or.inl (by decide)) (Or.inl (by decide)) (Or.inl (by decide)) (Or.inl (by decide))
  exact ⟨hz, f3.2.1, f3.2.2.1, f3.2.2.2.1, h1⟩
theorem zWf_5 (h : zWf R) (h0 : R 97 ≤ 8) (h1 : -99 ≤ a ∧ a ≤ 99) (h2 : -99 ≤ b ∧ b ≤ 99) (h3 : 1 ≤ c ∧ c ≤ 2) : zWf (zApp (zac 5 a b c 0 0) R) := by
  have h' := h
  obtain ⟨f1, f2, f3, f4, f5, f6, f7, f8, f9⟩ := h'
  obtain ⟨x, hx⟩ := Int.eq_ofNat_of_zero_le (show 0 ≤ R 97 by have := f5.2.1; omega)
  rw [hx] at h0
  have he2 : ∀ j, 125 ≤ j → (zuR (zuR (zuR (zuR R (98 + 3 * x) a) (99 + 3 * x) b) (100 + 3 * x) c) 97 ((x : Int) + 1)) j = R j := fun j hj => by
    simp only [zuR]
    (repeat' split) <;> first | rfl | omega
  rw [zApp_5]
  rw [hx, Int.toNat_natCast]
  have hz : ∀ j, z32 ((zuR (zuR (zuR (zuR R (98 + 3 * x) a) (99 + 3 * x) b) (100 + 3 * x) c) 97 ((x : Int) + 1)) j) = (zuR (zuR (zuR (zuR R (98 + 3 * x) a) (99 + 3 * x) b) (100 + 3 * x) c) 97 ((x : Int) + 1)) j := (zuR_z (zuR_z (zuR_z (zuR_z f1 (z32_id (by omega) (by omega))) (z32_id (by omega) (by omega))) (z32_id (by omega) (by omega))) (z32_id (by omega) (by omega)))
  have he : ∀ j, ¬(97 ≤ j ∧ j < 127) → (zuR (zuR (zuR (zuR R (98 + 3 * x) a) (99 + 3 * x) b) (100 + 3 * x) c) 97 ((x : Int) + 1)) j = R j := fun j hj => by
    simp only [zuR]
    (repeat' split) <;> first | rfl | omega
  refine zWf_cg (lo := 97) (hi := 127) h hz he (Or.inl (by decide)) (Or.inr (Or.inl (by decide))) (Or.inr (Or.inl (by decide))) (Or.inr (Or.inr ?_)) (Or.inl (by decide)) (Or.inl (by decide)) (Or.inl (by decide)) (Or.inl (by decide))
  obtain ⟨_, g1, g2, g3, g4, g5⟩ := f5
  have e97 : (zuR (zuR (zuR (zuR R (98 + 3 * x) a) (99 + 3 * x) b) (100 + 3 * x) c) 97 ((x : Int) + 1)) 97 = ((x + 1 : Nat) : Int) := rfl
  rw [e97, Int.toNat_natCast]
  refine ⟨hz, e97, by omega, fun y hy => ?_, ?_, ?_⟩
  · have := fun q => g3 y q
    unfold zhM zhX zhY at *
    have t0 : (98 + (y : Int) * 3).toNat = 98 + 3 * y := by omega
    have t1 : (98 + (y : Int) * 3 + 1).toNat = 99 + 3 * y := by omega
    have t2 : (98 + (y : Int) * 3 + 2).toNat = 100 + 3 * y := by omega
    rw [t0, t1, t2]
    simp only [zuR]
    by_cases hxy : y = x
    · subst hxy
      refine ⟨?_, ?_, ?_⟩ <;> (repeat' split) <;> omega
    · obtain ⟨u1, u2, u3⟩ := this (by omega)
      rw [t2] at u1
      rw [t0] at u2
      rw [t1] at u3
      refine ⟨?_, ?_, ?_⟩ <;> (repeat' split) <;> omega
  · rw [he2 125 (by omega)]; exact g4
  · rw [he2 126 (by omega)]; exact g5
theorem zWf_6 (h : zWf R) (h1 : -999 ≤ a ∧ a ≤ 999) (h2 : -999 ≤ b ∧ b ≤ 999) : zWf (zApp (zac 6 a b 0 0 0) R) := by
  have h' := h
  obtain ⟨f1, f2, f3, f4, f5, f6, f7, f8, f9⟩ := h'
  have he2 : ∀ j, j < 125 → (zuR (zuR R 125 a) 126 b) j = R j := fun j hj => by
    simp only [zuR]
    (repeat' split) <;> first | rfl | omega
  rw [zApp_6]
  have hz : ∀ j, z32 ((zuR (zuR R 125 a) 126 b) j) = (zuR (zuR R 125 a) 126 b) j := (zuR_z (zuR_z f1 (z32_id (by omega) (by omega))) (z32_id (by omega) (by omega)))
  have he : ∀ j, ¬(97 ≤ j ∧ j < 127) → (zuR (zuR R 125 a) 126 b) j = R j := fun j hj => by
    simp only [zuR]
    (repeat' split) <;> first | rfl | omega
  refine zWf_cg (lo := 97) (hi := 127) h hz he (Or.inl (by decide)) (Or.inr (Or.inl (by decide))) (Or.inr (Or.inl (by decide))) (Or.inr (Or.inr ?_)) (Or.inl (by decide)) (Or.inl (by decide)) (Or.inl (by decide)) (Or.inl (by decide))
  obtain ⟨_, g1, g2, g3, g4, g5⟩ := f5
  refine ⟨hz, g1, g2, fun y hy => ?_, h1, h2⟩
  have := g3 y hy
  have hy9 : y < 9 := Nat.lt_of_lt_of_le hy g2
  unfold zhM zhX zhY at *
  rw [he2 _ (by omega), he2 _ (by omega), he2 _ (by omega)]
  exact this
theorem zWf_7 (h : zWf R) (h1 : 0 ≤ a ∧ a ≤ 23) (h2 : -9 ≤ b ∧ b ≤ 9) : zWf (zApp (zac 7 a b 0 0 0) R) := by
  have h' := h
  obtain ⟨f1, f2, f3, f4, f5, f6, f7, f8, f9⟩ := h'
  obtain ⟨x, rfl⟩ := Int.eq_ofNat_of_zero_le h1.1
  rw [zApp_7]
  rw [Int.toNat_natCast]
  have hz : ∀ j, z32 ((zuR R (23 + 3 * x) b) j) = (zuR R (23 + 3 * x) b) j := (zuR_z f1 (z32_id (by omega) (by omega)))
  have he : ∀ j, ¬(21 ≤ j ∧ j < 93) → (zuR R (23 + 3 * x) b) j = R j := fun j hj => by
    simp only [zuR]
    (repeat' split) <;> first | rfl | omega
  refine zWf_cg (lo := 21) (hi := 93) h hz he (Or.inl (by decide)) (Or.inr (Or.inr ?_)) (Or.inl (by decide)) (Or.inl (by decide)) (Or.inl (by decide)) (Or.inl (by decide)) (Or.inl (by decide)) (Or.inl (by decide))
  intro s q1 q2
  have := f4 s q1 q2
  simp only [zuR]
  refine ⟨?_, ?_, ?_⟩ <;> (repeat' split) <;> omega
theorem zWf_10 (h : zWf R) (h1 : 0 ≤ a ∧ a ≤ 30) (h2 : 0 ≤ b ∧ b ≤ 999) : zWf (zApp (zac 10 a b 0 0 0) R) := by
  have h' := h
  obtain ⟨f1, f2, f3, f4, f5, f6, f7, f8, f9⟩ := h'
  obtain ⟨x, rfl⟩ := Int.eq_ofNat_of_zero_le h1.1
  rw [zApp_10]
  rw [Int.toNat_natCast]
  have hz : ∀ j, z32 ((zuR R (156 + x) b) j) = (zuR R (156 + x) b) j := (zuR_z f1 (z32_id (by omega) (by omega)))
  have he : ∀ j, ¬(156 ≤ j ∧ j < 187) → (zuR R (156 + x) b) j = R j := fun j hj => by
    simp only [zuR]
    (repeat' split) <;> first | rfl | omega
  refine zWf_cg (lo := 156) (hi := 187) h hz he (Or.inl (by decide)) (Or.inr (Or.inl (by decide))) (Or.inr (Or.inl (by decide))) (Or.inr (Or.inl (by decide))) (Or.inr (Or.inl (by decide))) (Or.inr (Or.inr ?_)) (Or.inl (by decide)) (Or.inl (by decide))
  intro s q1 q2
  have := f8 s q1 q2
  simp only [zuR]
  (repeat' split) <;> omega
theorem zWf_11 (h : zWf R) (h1 : 0 ≤ a ∧ a ≤ 8) (h2 : 0 ≤ b ∧ b ≤ 8 - a) (h3 : 1 ≤ c ∧ c ≤ 20) (h4 : 1 ≤ e ∧ e ≤ 20) : zWf (zApp (zac 11 a b c e 0) R) := by
  have h' := h
  obtain ⟨f1, f2, f3, f4, f5, f6, f7, f8, f9⟩ := h'
  rw [zApp_11]
  have hz : ∀ j, z32 ((zuR (zuR (zuR (zuR R 187 a) 188 b) 189 c) 190 e) j) = (zuR (zuR (zuR (zuR R 187 a) 188 b) 189 c) 190 e) j := (zuR_z (zuR_z (zuR_z (zuR_z f1 (z32_id (by omega) (by omega))) (z32_id (by omega) (by omega))) (z32_id (by omega) (by omega))) (z32_id (by omega) (by omega)))
  have he : ∀ j, ¬(187 ≤ j ∧ j < 194) → (zuR (zuR (zuR (zuR R 187 a) 188 b) 189 c) 190 e) j = R j := fun j hj => by
    simp only [zuR]
    (repeat' split) <;> first | rfl | omega
  refine zWf_cg (lo := 187) (hi := 194) h hz he (Or.inl (by decide)) (Or.inr (Or.inl (by decide))) (Or.inr (Or.inl (by decide))) (Or.inr (Or.inl (by decide))) (Or.inr (Or.inl (by decide))) (Or.inr (Or.inl (by decide))) (Or.inr (Or.inr ?_)) (Or.inl (by decide))
  exact ⟨hz, ⟨h1.1, h2.1, show a + b ≤ 8 by omega⟩, h3, h4, f6.2.2.2.2⟩
theorem zWf_12 (h : zWf R) (h1 : 0 ≤ a ∧ a ≤ 9999) (h2 : 0 ≤ b ∧ b ≤ 9999) (h3 : 0 ≤ c ∧ c ≤ 9999) : zWf (zApp (zac 12 a b c 0 0) R) := by
  have h' := h
  obtain ⟨f1, f2, f3, f4, f5, f6, f7, f8, f9⟩ := h'
  rw [zApp_12]
  have hz : ∀ j, z32 ((zuR (zuR (zuR R 191 a) 192 b) 193 c) j) = (zuR (zuR (zuR R 191 a) 192 b) 193 c) j := (zuR_z (zuR_z (zuR_z f1 (z32_id (by omega) (by omega))) (z32_id (by omega) (by omega))) (z32_id (by omega) (by omega)))
  have he : ∀ j, ¬(187 ≤ j ∧ j < 194) → (zuR (zuR (zuR R 191 a) 192 b) 193 c) j = R j := fun j hj => by
    simp only [zuR]
    (repeat' split) <;> first | rfl | omega
  refine zWf_cg (lo := 187) (hi := 194) h hz he (Or.inl (by decide)) (Or.inr (Or.inl (by decide))) (Or.inr (Or.inl (by decide))) (Or.inr (Or.inl (by decide))) (Or.inr (Or.inl (by decide))) (Or.inr (Or.inl (by decide))) (Or.inr (Or.inr ?_)) (Or.inl (by decide))
  exact ⟨hz, f6.2.1, f6.2.2.1, f6.2.2.2.1, h1, h2, h3⟩
theorem zWf_13 (h : zWf R) (h1 : 0 ≤ a ∧ a ≤ 4) (h2 : 0 ≤ b ∧ b ≤ 255) : zWf (zApp (zac 13 a b 0 0 0) R) := by
  have h' := h
  obtain ⟨f1, f2, f3, f4, f5, f6, f7, f8, f9⟩ := h'
  obtain ⟨x, rfl⟩ := Int.eq_ofNat_of_zero_le h1.1
  rw [zApp_13]
  rw [Int.toNat_natCast]
  have hz : ∀ j, z32 ((zuR R (194 + x) b) j) = (zuR R (194 + x) b) j := (zuR_z f1 (z32_id (by omega) (by omega)))
  have he : ∀ j, ¬(194 ≤ j ∧ j < 199) → (zuR R (194 + x) b) j = R j := fun j hj => by
    simp only [zuR]
    (repeat' split) <;> first | rfl | omega
  exact zWf_cg (lo := 194) (hi := 199) h hz he (Or.inl (by decide)) (Or.inr (Or.inl (by decide))) (Or.inr (Or.inl (by decide))) (Or.inr (Or.inl (by decide))) (Or.inr (Or.inl (by decide))) (Or.inr (Or.inl (by decide))) (Or.inr (Or.inl (by decide))) (Or.inl (by decide))
theorem zWf_14 (h : zWf R) (h0 : R 199 ≤ 11) (h1 : 0 ≤ a ∧ a ≤ 7) (h2 : b = 0 ∨ b = 1) : zWf (zApp (zac 14 a b 0 0 0) R) := by
  have h' := h
  obtain ⟨f1, f2, f3, f4, f5, f6, f7, f8, f9⟩ := h'
  obtain ⟨x, hx⟩ := Int.eq_ofNat_of_zero_le f9.1
  rw [hx] at h0
  rw [zApp_14]
  rw [hx, Int.toNat_natCast]
  have hz : ∀ j, z32 ((zuR (zuR (zuR R (200 + 2 * x) a) (201 + 2 * x) b) 199 ((x : Int) + 1)) j) = (zuR (zuR (zuR R (200 + 2 * x) a) (201 + 2 * x) b) 199 ((x : Int) + 1)) j := (zuR_z (zuR_z (zuR_z f1 (z32_id (by omega) (by omega))) (z32_id (by omega) (by omega))) (z32_id (by omega) (by omega)))
  have he : ∀ j, ¬(199 ≤ j ∧ j < 224) → (zuR (zuR (zuR R (200 + 2 * x) a) (201 + 2 * x) b) 199 ((x : Int) + 1)) j = R j := fun j hj => by
    simp only [zuR]
    (repeat' split) <;> first | rfl | omega
  refine zWf_cg (lo := 199) (hi := 224) h hz he (Or.inl (by decide)) (Or.inr (Or.inl (by decide))) (Or.inr (Or.inl (by decide))) (Or.inr (Or.inl (by decide))) (Or.inr (Or.inl (by decide))) (Or.inr (Or.inl (by decide))) (Or.inr (Or.inl (by decide))) (Or.inr ?_)
  show 0 ≤ (x : Int) + 1 ∧ (x : Int) + 1 ≤ 12
  omega
theorem zWf_8 (h : zWf R) (hs : zSt R t e a b c) : zWf (zApp (zac 8 t e a b c) R) := by
  have h' := h
  obtain ⟨f1, f2, f3, f4, f5, f6, f7, f8, f9⟩ := h'
  obtain ⟨hs1, hs2, hs3, hs4, hs5⟩ := hs
  have m0 := f7.1.2.2.1 0 (by decide); have m1 := f7.1.2.2.1 1 (by decide); have m2 := f7.1.2.2.1 2 (by decide)
  rw [zApp_8]
  have hz : ∀ j, z32 ((zuR (zuR (zuR (zuR (zuR (zuR R 134 t) 135 e) 136 a) 137 b) 138 c) 139 0) j) = (zuR (zuR (zuR (zuR (zuR (zuR R 134 t) 135 e) 136 a) 137 b) 138 c) 139 0) j := (zuR_z (zuR_z (zuR_z (zuR_z (zuR_z (zuR_z f1 (z32_id (by omega) (by omega))) (z32_id (by omega) (by omega))) (z32_id (by omega) (by omega))) (z32_id (by omega) (by omega))) (z32_id (by omega) (by omega))) (z32_id (by omega) (by omega)))
  have he : ∀ j, ¬(134 ≤ j ∧ j < 156) → (zuR (zuR (zuR (zuR (zuR (zuR R 134 t) 135 e) 136 a) 137 b) 138 c) 139 0) j = R j := fun j hj => by
    simp only [zuR]
    (repeat' split) <;> first | rfl | omega
  refine zWf_cg (lo := 134) (hi := 156) h hz he (Or.inl (by decide)) (Or.inr (Or.inl (by decide))) (Or.inr (Or.inl (by decide))) (Or.inr (Or.inl (by decide))) (Or.inr (Or.inr ?_)) (Or.inl (by decide)) (Or.inl (by decide)) (Or.inl (by decide))
  have hgk : zGk (zuR (zuR (zuR (zuR (zuR (zuR R 134 t) 135 e) 136 a) 137 b) 138 c) 139 0) := zGk_cg f7.1 hz fun j q1 q2 => he j (by omega)
  have hgm := fun i (hi : i < 3) => (zgm_cg (R := R) (R' := zuR (zuR (zuR (zuR (zuR (zuR R 134 t) 135 e) 136 a) 137 b) 138 c) 139 0) (fun j q1 q2 => he j (by omega)) hi).1
  refine ⟨hgk, show (0 : Int) ≤ 0 ∧ (0 : Int) ≤ 8 by decide, hs1, hs1.1, fun n hn => ?_, fun n hn => ?_⟩
  · have hn0 : (n : Int) ≤ 0 := hn
    obtain rfl : n = 0 := by omega
    refine ⟨hs2, fun i hi => ?_⟩
    rw [hgm i hi]
    rcases (show i = 0 ∨ i = 1 ∨ i = 2 by omega) with rfl | rfl | rfl
    · exact hs3
    · exact hs4
    · exact hs5
  · have hn0 : (n : Int) < 0 := hn
    omega
theorem zWf_9 (h : zWf R) (h0 : R 139 ≤ 7) (hc : zCmv R (R 139).toNat a b) : zWf (zApp (zac 9 a b 0 0 0) R) := by
  have h' := h
  obtain ⟨f1, f2, f3, f4, f5, f6, f7, f8, f9⟩ := h'
  obtain ⟨x, hx⟩ := Int.eq_ofNat_of_zero_le f7.2.1.1
  rw [hx] at h0 hc
  rw [Int.toNat_natCast] at hc
  have hca := hc.2.1
  have hcb := hc.2.2.1
  rw [zApp_9]
  rw [hx, Int.toNat_natCast]
  have hz : ∀ j, z32 ((zuR (zuR (zuR R (140 + 2 * x) a) (141 + 2 * x) b) 139 ((x : Int) + 1)) j) = (zuR (zuR (zuR R (140 + 2 * x) a) (141 + 2 * x) b) 139 ((x : Int) + 1)) j := (zuR_z (zuR_z (zuR_z f1 (z32_id (by omega) (by omega))) (z32_id (by omega) (by omega))) (z32_id (by omega) (by omega)))
  have he : ∀ j, ¬(134 ≤ j ∧ j < 156) → (zuR (zuR (zuR R (140 + 2 * x) a) (141 + 2 * x) b) 139 ((x : Int) + 1)) j = R j := fun j hj => by
    simp only [zuR]
    (repeat' split) <;> first | rfl | omega
  refine zWf_cg (lo := 134) (hi := 156) h hz he (Or.inl (by decide)) (Or.inr (Or.inl (by decide))) (Or.inr (Or.inl (by decide))) (Or.inr (Or.inl (by decide))) (Or.inr (Or.inr ?_)) (Or.inl (by decide)) (Or.inl (by decide)) (Or.inl (by decide))
  obtain ⟨hgk, p1, p2, p3, p4, p5⟩ := f7
  have hgk' : zGk (zuR (zuR (zuR R (140 + 2 * x) a) (141 + 2 * x) b) 139 ((x : Int) + 1)) := zGk_cg hgk hz fun j q1 q2 => he j (by omega)
  have e1 : ∀ j, 127 ≤ j → j < 139 → (zuR (zuR (zuR R (140 + 2 * x) a) (141 + 2 * x) b) 139 ((x : Int) + 1)) j = R j := fun j q1 q2 => by
    simp only [zuR]
    (repeat' split) <;> first | rfl | omega
  have e2 : ∀ j, 140 ≤ j → j < 140 + 2 * x → (zuR (zuR (zuR R (140 + 2 * x) a) (141 + 2 * x) b) 139 ((x : Int) + 1)) j = R j := fun j q1 q2 => by
    simp only [zuR]
    (repeat' split) <;> first | rfl | omega
  have x139 : (zuR (zuR (zuR R (140 + 2 * x) a) (141 + 2 * x) b) 139 ((x : Int) + 1)) 139 = (x : Int) + 1 := rfl
  have xcl : zcl (zuR (zuR (zuR R (140 + 2 * x) a) (141 + 2 * x) b) 139 ((x : Int) + 1)) x = a := by
    unfold zcl
    simp only [zuR]
    (repeat' split) <;> first | rfl | omega
  have xgv : zgiv (zuR (zuR (zuR R (140 + 2 * x) a) (141 + 2 * x) b) 139 ((x : Int) + 1)) x = b := by
    unfold zgiv
    simp only [zuR]
    (repeat' split) <;> first | rfl | omega
  have cg := zpl_cg (R := R) (x := x) (by omega) e1 e2
  have hgm := fun i (hi : i < 3) => zgm_cg (R := R) (fun j q1 q2 => e1 j q1 (by omega)) hi
  generalize zuR (zuR (zuR R (140 + 2 * x) a) (141 + 2 * x) b) 139 ((x : Int) + 1) = R' at *
  obtain ⟨u1, ⟨u2, u3, u4⟩, u5, u6, u7⟩ := hc
  obtain ⟨v1, v2⟩ := p4 x (by omega)
  obtain ⟨w1, w2, _⟩ := cg x (Nat.le_refl _)
  have e134 := e1 134 (by decide) (by decide)
  refine ⟨hgk', by rw [x139]; omega, by rw [e134]; exact p2, by rw [x139, e134]; omega, fun n hn => ?_, fun n hn => ?_⟩
  · rw [x139] at hn
    by_cases hnx : n ≤ x
    · obtain ⟨c1, c2, _⟩ := cg n hnx
      obtain ⟨q1, q2⟩ := p4 n (by omega)
      refine ⟨by rw [c1]; exact q1, fun i hi => ?_⟩
      rw [c2 i hi, (hgm i hi).1]
      exact q2 i hi
    · obtain rfl : n = x + 1 := by omega
      refine ⟨by rw [zpB, w1, xcl]; omega, fun i hi => ?_⟩
      rw [zpC, w2 i hi, xgv, (hgm i hi).1]
      have g := zgd_bd u5 i
      obtain ⟨y1, y2⟩ := u6 i hi
      obtain ⟨z1, z2⟩ := v2 i hi
      exact zcb_bd z1 z2 g.1 y2
  · rw [x139] at hn
    by_cases hnx : n < x
    · obtain ⟨c1, c2, c3⟩ := cg n (by omega)
      obtain ⟨d1, d2⟩ := c3 hnx
      obtain ⟨q1, q2, q3, q4⟩ := p5 n (by omega)
      rw [d1, d2, c1]
      refine ⟨q1, q2, fun i hi => ?_, q4⟩
      rw [c2 i hi, (hgm i hi).2]
      exact q3 i hi
    · obtain rfl : n = x := by omega
      rw [xcl, xgv, w1]
      refine ⟨⟨u2, u3, u4⟩, u5, fun i hi => ?_, u7⟩
      rw [w2 i hi, (hgm i hi).2]
      exact u6 i hi
theorem zWf_4 (h : zWf R) (h0 : R 127 ≤ 2) (h1 : 0 ≤ a ∧ a ≤ 6) (h2 : 1 ≤ b ∧ b ≤ 6) : zWf (zApp (zac 4 a b 0 0 0) R) := by
  have h' := h
  obtain ⟨f1, f2, f3, f4, f5, f6, f7, f8, f9⟩ := h'
  obtain ⟨hgk, p1, p2, p3, p4, p5⟩ := f7
  obtain ⟨x, hx⟩ := Int.eq_ofNat_of_zero_le hgk.2.1.1
  rw [hx] at h0
  rw [zApp_4, hx, Int.toNat_natCast]
  generalize hR : (fun j => if 134 ≤ j ∧ j < 156 then 0 else zuR (zuR (zuR R (128 + 2 * x) a) (129 + 2 * x) b) 127 ((x : Int) + 1) j) = R'
  have hv : ∀ j, R' j = if 134 ≤ j ∧ j < 156 then 0 else if j = 127 then (x : Int) + 1 else if j = 129 + 2 * x then b else if j = 128 + 2 * x then a else R j := fun j => by rw [← hR]; rfl
  have hz : ∀ j, z32 (R' j) = R' j := fun j => by
    by_cases hj : 134 ≤ j ∧ j < 156
    · rw [hv, if_pos hj]; rfl
    · have e : R' j = zuR (zuR (zuR R (128 + 2 * x) a) (129 + 2 * x) b) 127 ((x : Int) + 1) j := by rw [← hR]; exact if_neg hj
      rw [e]
      exact zuR_z (zuR_z (zuR_z f1 (z32_id (by omega) (by omega))) (z32_id (by omega) (by omega))) (z32_id (by omega) (by omega)) j
  have he : ∀ j, ¬(127 ≤ j ∧ j < 156) → R' j = R j := fun j hj => by
    rw [hv]
    (repeat' split) <;> first | rfl | omega
  have e127 : R' 127 = (x : Int) + 1 := by rw [hv]; rfl
  have e0 : ∀ j, 134 ≤ j → j < 156 → R' j = 0 := fun j q1 q2 => by rw [hv, if_pos ⟨q1, q2⟩]
  have hgm : ∀ i, i < 3 → (0 ≤ zgm R' i ∧ zgm R' i ≤ 6) ∧ (0 ≤ zgt R' i ∧ zgt R' i ≤ 6) := fun i hi => by
    have g1 := hgk.2.2.1 i hi
    have g2 := hgk.2.2.2 i hi
    unfold zgm zgt at *
    rw [hx] at g1 g2
    rw [e127]
    by_cases c1 : (i : Int) < (x : Int) + 1
    · rw [if_pos c1, if_pos c1]
      by_cases c2 : i = x
      · subst c2
        rw [hv, hv, if_neg (by omega), if_neg (by omega), if_neg (by omega), if_pos (by omega), if_neg (by omega), if_neg (by omega), if_pos (by omega)]
        omega
      · rw [if_pos (by omega)] at g1 g2
        rw [hv, hv, if_neg (by omega), if_neg (by omega), if_neg (by omega), if_neg (by omega), if_neg (by omega), if_neg (by omega), if_neg (by omega), if_neg (by omega)]
        exact ⟨g1, g2⟩
    · rw [if_neg c1, if_neg c1]
      decide
  have hgk' : zGk R' := ⟨hz, by rw [e127]; omega, fun i hi => (hgm i hi).1, fun i hi => (hgm i hi).2⟩
  refine zWf_cg (lo := 127) (hi := 156) h hz he (Or.inl (by decide)) (Or.inr (Or.inl (by decide))) (Or.inr (Or.inl (by decide))) (Or.inr (Or.inl (by decide))) (Or.inr (Or.inr ?_)) (Or.inl (by decide)) (Or.inl (by decide)) (Or.inl (by decide))
  have e139 := e0 139 (by decide) (by decide)
  have e134 := e0 134 (by decide) (by decide)
  refine ⟨hgk', by rw [e139]; decide, by rw [e134]; decide, by rw [e139, e134]; exact Int.le_refl _, fun n hn => ?_, fun n hn => ?_⟩
  · rw [e139] at hn
    obtain rfl : n = 0 := by omega
    refine ⟨by rw [zpB, e0 135 (by decide) (by decide)]; decide, fun i hi => ?_⟩
    rw [zpC, e0 (136 + i) (by omega) (by omega)]
    exact ⟨Int.le_refl _, (hgm i hi).1.1⟩
  · rw [e139] at hn
    omega
theorem zWf_0 (h : zWf R) {B : Nat → Int} {n r : Nat} {c : Nat → Int} (hp : zParse B n = .inr (r, c)) : zWf (zApp (zst r c) R) := by
  have h' := h
  obtain ⟨f1, f2, f3, f4, f5, f6, f7, f8, f9⟩ := h'
  obtain ⟨k1, k2, k3⟩ := zParse_ok hp
  rw [zApp_0]
  generalize hR : (fun j => if j ≤ 20 then zst r c (1 + j) else R j) = R'
  have hv : ∀ j, R' j = if j ≤ 20 then zst r c (1 + j) else R j := fun j => by rw [← hR]
  have v0 : R' 0 = (r : Int) := by rw [hv]; rfl
  have vj : ∀ j, 1 ≤ j → j ≤ 20 → R' j = c (j - 1) := fun j q1 q2 => by
    rw [hv, if_pos q2]
    unfold zst
    rw [if_neg (by omega), if_neg (by omega), show 1 + j - 2 = j - 1 by omega]
  have hcz : ∀ k, k < 20 → z32 (c k) = c k := fun k hk => by
    by_cases hk4 : 4 * r ≤ k
    · rw [k3 k hk4]; rfl
    · have q := k2 (k / 4) (by omega)
      unfold zRok at q
      rcases (show k = 4 * (k / 4) ∨ k = 4 * (k / 4) + 1 ∨ k = 4 * (k / 4) + 2 ∨ k = 4 * (k / 4) + 3 by omega) with e | e | e | e <;> (rw [e]; exact z32_id (by omega) (by omega))
  have hz : ∀ j, z32 (R' j) = R' j := fun j => by
    by_cases h20 : j ≤ 20
    · by_cases h0 : j = 0
      · rw [h0, v0]; exact z32_id (by omega) (by omega)
      · rw [vj j (by omega) h20]; exact hcz _ (by omega)
    · rw [hv, if_neg h20]; exact f1 j
  have he : ∀ j, ¬(0 ≤ j ∧ j < 21) → R' j = R j := fun j hj => by rw [hv, if_neg (by omega)]
  refine zWf_cg (lo := 0) (hi := 21) h hz he (Or.inr ?_) (Or.inl (by decide)) (Or.inl (by decide)) (Or.inl (by decide)) (Or.inl (by decide)) (Or.inl (by decide)) (Or.inl (by decide)) (Or.inl (by decide))
  refine ⟨by rw [v0]; omega, fun k hk => ?_⟩
  rw [v0] at hk
  have q := k2 k (by omega)
  unfold zrH zrS zrO zrF
  rw [vj (1 + 4 * k) (by omega) (by omega), vj (2 + 4 * k) (by omega) (by omega), vj (3 + 4 * k) (by omega) (by omega), vj (4 + 4 * k) (by omega) (by omega), show 1 + 4 * k - 1 = 4 * k by omega, show 2 + 4 * k - 1 = 4 * k + 1 by omega, show 3 + 4 * k - 1 = 4 * k + 2 by omega, show 4 + 4 * k - 1 = 4 * k + 3 by omega]
  exact q
end ZWg
