/-! What stands between two calls: the class's part and the model's part. -/
/-- the caches of the class, for the row R -/
def zKc (R : Nat → Int) (bw : Bool) (M : zM) : Prop := zMC R M ∧ zBC R (R 97).toNat M ∧ zIC R M ∧ zGcc bw M ∧ zOC R M ∧ zCC R M ∧ (-1 ≤ M 19 15 ∧ M 19 15 ≤ M 9 1) ∧ (-1 ≤ M 19 16 ∧ M 19 16 ≤ M 9 1)
/-- the class's part: v bounds the version -/
def zXC (hist : Nat → Nat → Int) (fi kp tk n : Nat) (B : Nat → Int) (v : Int) (bw : Bool) (M : zM) : Prop :=
  zCA hist fi kp tk M ∧ (∀ i, i ≤ kp + tk → zWf (hist i)) ∧ zTp B n M ∧ zStr M ∧ (0 ≤ M 9 1 ∧ M 9 1 ≤ v) ∧ zKc (hist kp) bw M
/-- the model's part -/
def zXM (hist : Nat → Nat → Int) (kp tk n : Nat) (B : Nat → Int) (M : zM) : Prop := zMA hist kp tk M ∧ zBy B n M ∧ zFilz M
section ZXc
variable {hist : Nat → Nat → Int} {fi kp tk n : Nat} {B : Nat → Int} {v : Int} {bw bw' : Bool} {M M' : zM} {R R' : Nat → Int}
theorem zMC_fr (h : zMC R M) (hf : ∀ k, k = 9 ∨ (36 ≤ k ∧ k ≤ 63) → M' k = M k) : zMC R M' := by
  unfold zMC zLefts zVals at *
  rw [hf 36 (by omega), hf 9 (by omega), hf 62 (by omega), hf 63 (by omega)]
  refine ⟨fun z => ⟨(h.1 z).1, fun s h1 h2 c h3 h4 => ?_⟩, h.2⟩
  rw [hf (38 + s) (by omega)]
  exact (h.1 z).2 s h1 h2 c h3 h4
theorem zBC_fr {m : Nat} (h : zBC R m M) (hf : ∀ k, k = 9 ∨ (64 ≤ k ∧ k ≤ 66) → M' k = M k) : zBC R m M' := by
  unfold zBC at *
  rw [hf 64 (by omega), hf 9 (by omega), hf 66 (by omega)]
  exact h
theorem zIC_fr (h : zIC R M) (hf : ∀ k, k = 9 ∨ (67 ≤ k ∧ k ≤ 80) → M' k = M k) : zIC R M' := by
  unfold zIC at *
  rw [hf 67 (by omega), hf 9 (by omega), hf 69 (by omega), hf 80 (by omega)]
  exact h
theorem zGcc_fr (h : zGcc bw M) (h31 : M' 31 5 = M 31 5) (h104 : M' 104 = M 104) : zGcc bw M' := by
  unfold zGcc zMem at *
  rw [h31, h104]
  exact h
theorem zOC_fr (h : zOC R M) (h9 : M' 9 1 = M 9 1) (h15 : M' 19 15 = M 19 15) (h29 : M' 29 = M 29) : zOC R M' := by
  unfold zOC at *
  rw [h9, h15, h29]
  exact h
theorem zCC_fr (h : zCC R M) (h9 : M' 9 1 = M 9 1) (h12 : M' 19 12 = M 19 12 ∨ M' 19 12 = R 0) (h13 : M' 19 13 = M 19 13) (h14 : M' 19 14 = M 19 14) (h16 : M' 19 16 = M 19 16) (h30 : M' 30 = M 30) : zCC R M' := by
  unfold zCC zBrr at *
  rw [h9, h13, h14, h16, h30]
  refine ⟨h.1, fun z => ?_⟩
  obtain ⟨q1, q2⟩ := h.2 z
  exact ⟨h12.elim (fun y => by rw [y]; exact q1) (fun y => y), q2⟩
/-- a call that changes no object that the caches look at -/
theorem zKc_fr (h : zKc R bw M) (hf : ∀ k, k = 9 ∨ k = 19 ∨ k = 29 ∨ k = 30 ∨ (36 ≤ k ∧ k ≤ 80) ∨ k = 104 → M' k = M k) (h31 : M' 31 5 = M 31 5) : zKc R bw M' := by
  obtain ⟨a1, a2, a3, a4, a5, a6, a7, a8⟩ := h
  have e9 := hf 9 (by omega)
  have e19 := hf 19 (by omega)
  refine ⟨zMC_fr a1 fun k hk => hf k (by omega), zBC_fr a2 fun k hk => hf k (by omega), zIC_fr a3 fun k hk => hf k (by omega), zGcc_fr a4 h31 (hf 104 (by omega)), zOC_fr a5 (by rw [e9]) (by rw [e19]) (hf 29 (by omega)), zCC_fr a6 (by rw [e9]) (Or.inl (by rw [e19])) (by rw [e19]) (by rw [e19]) (by rw [e19]) (hf 30 (by omega)), by rw [e19, e9]; exact a7, by rw [e19, e9]; exact a8⟩
/-- behind an act: the version is another, so that what is found waits -/
theorem zKc_act (h : zKc R bw M) (hf : ∀ k, k = 19 ∨ k = 29 ∨ k = 30 ∨ (36 ≤ k ∧ k ≤ 80) ∨ k = 104 → M' k = M k) (h31 : M' 31 5 = M 31 5) (h9 : M' 9 1 = M 9 1 + 1) : zKc R' bw M' := by
  obtain ⟨a1, a2, a3, a4, a5, a6, a7, a8⟩ := h
  have e19 := hf 19 (by omega)
  have e36 := hf 36 (by omega)
  have e64 := hf 64 (by omega)
  have e67 := hf 67 (by omega)
  obtain ⟨b1, b2, b3, b4⟩ := a1
  obtain ⟨c1, c2, c3⟩ := a2
  obtain ⟨d1, d2, d3, d4, d5⟩ := a3
  refine ⟨⟨fun z => ?_, fun j => by rw [hf 62 (by omega)]; exact b2 j, by rw [e36]; exact b3, by rw [e36, h9]; omega⟩, ⟨fun z => ?_, by rw [e64]; exact c2, by rw [e64, h9]; omega⟩, ⟨fun z => ?_, fun k hk => by rw [hf 69 (by omega)]; exact d2 k hk, ⟨by rw [e67]; exact d3.1, by rw [e67, h9]; omega⟩, by rw [e67]; exact d4, by rw [hf 80 (by omega)]; exact d5⟩, zGcc_fr a4 h31 (hf 104 (by omega)), fun z => ?_, ⟨fun k hk => by rw [hf 30 (by omega)]; exact a6.1 k hk, fun z => ?_⟩, ⟨by rw [e19]; exact a7.1, by rw [e19, h9]; omega⟩, ⟨by rw [e19]; exact a8.1, by rw [e19, h9]; omega⟩⟩
  · rw [e36, h9] at z; omega
  · rw [e64, h9] at z; omega
  · rw [e67, h9] at z; omega
  · rw [e19, h9] at z; omega
  · rw [e19, h9] at z; omega
theorem zStr_fr (h : zStr M) (hf : ∀ k, 2 ≤ k → k ≤ 7 → M' k = M k) : zStr M' := fun w h1 h2 i hi => by rw [hf w h1 h2]; exact h w h1 h2 i hi
theorem zTp_f2 (h : zTp B n M) (h15 : M' 15 = M 15) (h16 : M' 16 = M 16) : zTp B n M' := ⟨by rw [h15]; exact h.1, h.2.1, fun j hj => by rw [h16]; exact h.2.2 j hj⟩
/-- a call of the class that asks: the row and the tape are as before, the caches hold -/
theorem zXC_q (h : zXC hist fi kp tk n B v bw M) (hf : ∀ k, k ≤ 18 → M' k = M k) (hk : zKc (hist kp) bw' M') : zXC hist fi kp tk n B v bw' M' := by
  obtain ⟨a1, a2, a3, a4, a5, a6⟩ := h
  exact ⟨zCA_fr a1 fun k h1 h2 => hf k (by omega), a2, zTp_f2 a3 (hf 15 (by omega)) (hf 16 (by omega)), zStr_fr a4 fun k h1 h2 => hf k (by omega), by rw [hf 9 (by omega)]; exact a5, hk⟩
/-- a call of the class that tells an act -/
theorem zXC_act {fi' : Nat} {M1 : zM} (h : zXC hist fi kp tk n B v bw M) (hw : zWf R') (hf : zFac M1 M') (hm : ∀ k, k ≤ 18 → M1 k = M k) (hk : zKc (hist kp) bw M1) (h9 : M' 9 1 = M 9 1 + 1) (hc : zCA (zhA hist kp R') fi' (zkA kp) 0 M') : zXC (zhA hist kp R') fi' (zkA kp) 0 n B (v + 1) bw M' := by
  obtain ⟨a1, a2, a3, a4, a5, a6⟩ := h
  have hkp : kp ≤ 300 := by have := a1.2.2.2.2.1; omega
  refine ⟨hc, fun i hi => ?_, zTp_f2 a3 (by rw [hf 15 (by decide) (by omega), hm 15 (by omega)]) (by rw [hf 16 (by decide) (by omega), hm 16 (by omega)]), zStr_fr a4 fun k h1 h2 => by rw [hf k (by omega) (by omega), hm k (by omega)], by rw [h9]; omega, ?_⟩
  · unfold zhA
    unfold zkA at hi
    by_cases e : kp = 300
    · rw [if_pos e] at hi ⊢
      split
      · exact a2 (i + 1) (by omega)
      · exact hw
    · rw [if_neg e] at hi ⊢
      split
      · exact a2 i (by omega)
      · exact hw
  · exact zKc_act hk (fun k q => hf k (by omega) (by omega)) (by rw [hf 31 (by decide) (by omega)]) (by rw [h9, hm 9 (by omega)])
/-- the model's part looks at the model's objects alone -/
theorem zXM_fr (h : zXM hist kp tk n B M) (hf : ∀ k, 82 ≤ k → k ≤ 103 → M' k = M k) : zXM hist kp tk n B M' := by
  obtain ⟨a1, a2, a3⟩ := h
  have e82 := hf 82 (by decide) (by decide)
  refine ⟨zMA_fr a1 (fun k h1 h2 => hf k (by omega) (by omega)) (by rw [e82]) (by rw [e82]), ⟨by rw [e82]; exact a2.1, a2.2.1, fun j hj => by rw [hf 83 (by decide) (by decide)]; exact a2.2.2 j hj⟩, ?_⟩
  obtain ⟨b1, b2⟩ := a3
  refine ⟨?_, fun k hk => by rw [hf 96 (by decide) (by decide)]; exact b2 k hk⟩
  rcases b1 with h | ⟨R0, f, g1, g2, g3, g4, g5⟩
  · exact Or.inl (by rw [e82]; exact h)
  · exact Or.inr ⟨R0, f, g1, g2, by rw [e82]; exact g3, fun k hk => by rw [hf 96 (by decide) (by decide)]; exact g4 k hk, fun t ht BB a b c q1 q2 => by rw [hf 95 (by decide) (by decide)]; exact g5 t ht BB a b c q1 q2⟩
/-- the class's part looks at the class's objects alone -/
theorem zXC_fr (h : zXC hist fi kp tk n B v bw M) (hf : ∀ k, k < 82 ∨ k = 104 → M' k = M k) : zXC hist fi kp tk n B v bw M' :=
  zXC_q h (fun k hk => hf k (by omega)) (zKc_fr h.2.2.2.2.2 (fun k hk => hf k (by omega)) (by rw [hf 31 (by omega)]))
theorem zXM_q (h : zXM hist kp tk n B M) (h1 : ∀ k, 83 ≤ k → k ≤ 96 → k ≠ 84 → ¬(88 ≤ k ∧ k ≤ 94) → M' k = M k) (h2 : ∀ k, k = 2 ∨ k = 15 ∨ k = 16 ∨ k = 28 → M' 82 k = M 82 k) : zXM hist kp tk n B M' := by
  obtain ⟨a1, a2, a3⟩ := h
  refine ⟨zMA_fr a1 (fun k q1 q2 => h1 k (by omega) (by omega) (by omega) (by omega)) (h2 15 (by omega)) (h2 16 (by omega)), ⟨by rw [h2 2 (by omega)]; exact a2.1, a2.2.1, fun j hj => by rw [h1 83 (by decide) (by decide) (by decide) (by decide)]; exact a2.2.2 j hj⟩, ?_⟩
  obtain ⟨b1, b2⟩ := a3
  refine ⟨?_, fun k hk => by rw [h1 96 (by decide) (by decide) (by decide) (by decide)]; exact b2 k hk⟩
  rcases b1 with h | ⟨R0, f, g1, g2, g3, g4, g5⟩
  · exact Or.inl (by rw [h2 28 (by omega)]; exact h)
  · exact Or.inr ⟨R0, f, g1, g2, by rw [h2 28 (by omega)]; exact g3, fun k hk => by rw [h1 96 (by decide) (by decide) (by decide) (by decide)]; exact g4 k hk, fun t ht BB a b c q1 q2 => by rw [h1 95 (by decide) (by decide) (by decide) (by decide)]; exact g5 t ht BB a b c q1 q2⟩
end ZXc
