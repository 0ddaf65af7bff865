/-! A new object, on both sides: what stands before the first call. -/
theorem zR00_0 {j : Nat} (h : j ≠ 94 ∧ j ≠ 187 ∧ j ≠ 189 ∧ j ≠ 190) : zR00 j = 0 := by
  unfold zR00
  rw [if_neg h.2.2.2, if_neg h.2.2.1, if_neg h.2.1, if_neg h.1]
theorem zR00_32 (j : Nat) : z32 (zR00 j) = zR00 j := by
  unfold zR00
  (repeat' split) <;> rfl
theorem zR00_sg : ∀ j, j < 224 → zR00 (zsg j) = zR00 j := by decide +kernel
theorem zR00_gm : ∀ i, i < 3 → (0 ≤ zgm zR00 i ∧ zgm zR00 i ≤ 6) ∧ (0 ≤ zgt zR00 i ∧ zgt zR00 i ≤ 6) ∧ (0 ≤ zpC zR00 i 0 ∧ zpC zR00 i 0 ≤ zgm zR00 i) := by decide +kernel
theorem zR00_wf : zWf zR00 := by
  have e0 : zR00 0 = 0 := rfl
  have e97 : zR00 97 = 0 := rfl
  have e139 : zR00 139 = 0 := rfl
  refine ⟨zR00_32, ⟨by rw [e0]; decide, fun r hr => by rw [e0] at hr; omega⟩, ⟨zR00_32, by decide, by decide, by decide, by decide⟩, fun s h1 h2 => ?_, ⟨zR00_32, by rw [e97]; rfl, by rw [e97]; decide, fun h hh => by rw [e97] at hh; exact absurd hh (Nat.not_lt_zero _), by decide, by decide⟩, ⟨zR00_32, by decide, by decide, by decide, by decide, by decide, by decide⟩, ⟨⟨zR00_32, by decide, fun i hi => (zR00_gm i hi).1, fun i hi => (zR00_gm i hi).2.1⟩, by decide, by decide, by decide, fun n hn => ?_, fun n hn => by rw [e139] at hn; omega⟩, fun s h1 h2 => ?_, by decide⟩
  · rw [zR00_0 (j := (21 + s * 3).toNat) (by omega), zR00_0 (j := (21 + s * 3 + 1).toNat) (by omega), zR00_0 (j := (21 + s * 3 + 2).toNat) (by omega)]
    decide
  · rw [e139] at hn
    obtain rfl : n = 0 := by omega
    exact ⟨by decide, fun i hi => (zR00_gm i hi).2.2⟩
  · rw [zR00_0 (j := (156 + s).toNat) (by omega)]
    decide
theorem zJ_start {M0 M : zM} (h : zIm M0 M) (hs : ∀ j, z32 (M0 1 j) = M0 1 j) (ht : zStr M0) : zJ 0 false M := by
  obtain ⟨h0, h10, h85, h86, h30, h62, h69, h96, f_9_1, f_11_4, f_11_5, f_11_6, f_15_1, f_17_3, f_17_4, f_19_15, f_19_16, f_31_5, f_36_3, f_64_3, f_67_3, f_67_4, f_80_0, f_82_2, f_82_4, f_82_5, f_82_15, f_82_16, f_82_28⟩ := h
  have w := zR00_wf
  refine ⟨fun _ => zR00, 0, 0, 0, 0, fun _ => 0, ⟨⟨f_11_4, f_11_5, f_11_6, by decide, by decide, h10, fun i hi => absurd hi (Nat.not_lt_zero _)⟩, fun _ _ => w, ⟨f_15_1, by decide, fun j hj => absurd hj (Nat.not_lt_zero _)⟩, fun w h1 h2 i hi => by rw [h0 w (by omega)]; exact ht w h1 h2 i hi, by rw [f_9_1]; decide, ?_⟩, ⟨⟨f_82_15, f_82_16, by decide, fun j hj _ => ?_, fun j hj _ => ?_, fun i hi => absurd hi (Nat.not_lt_zero _), fun i _ => ⟨(by decide : (0 : Int) ≤ zR00 139), zR00_32⟩⟩, ⟨f_82_2, by decide, fun j hj => absurd hj (Nat.not_lt_zero _)⟩, Or.inl f_82_28, fun k hk => by rw [h96]; rfl⟩, ⟨by rw [f_17_3, f_82_4], by rw [f_17_4, f_82_5]⟩, fun j => by rw [h0 1 (by decide)]; exact hs j⟩
  · refine ⟨⟨fun z => ?_, fun j => by rw [h62], by rw [f_36_3]; decide, by rw [f_36_3, f_9_1]; decide⟩, ⟨fun z => ?_, by rw [f_64_3]; decide, by rw [f_64_3, f_9_1]; decide⟩, ⟨fun z => ?_, fun k hk => by rw [h69], by rw [f_67_3, f_9_1]; decide, by rw [f_67_4]; decide, f_80_0⟩, Or.inl f_31_5, fun z => ?_, ⟨fun k hk => by rw [h30]; exact (by decide : -99 ≤ (0 : Int) ∧ (0 : Int) ≤ 99), fun z => ?_⟩, by rw [f_19_15, f_9_1]; decide, by rw [f_19_16, f_9_1]; decide⟩
    · rw [f_36_3, f_9_1] at z; cases z
    · rw [f_64_3, f_9_1] at z; cases z
    · rw [f_67_3, f_9_1] at z; cases z
    · rw [f_19_15, f_9_1] at z; cases z
    · rw [f_19_16, f_9_1] at z; cases z
  · rw [h85]; exact zR00_sg j hj
  · rw [h86 _ (zsg_lt hj)]; exact zR00_sg j hj
theorem zlaw_all {d L : Nat} {M0 : zM} (hd : 95 ≤ d) (hL : L ≤ 3584) (hs : ∀ j, z32 (M0 1 j) = M0 1 j) (ht : zStr M0) : zF d x_La_law 0 [zr 1, zt, zt, zt] [] (zYs L 8, zRa0) M0 (zEnd L) :=
  zlaw_init (by omega) fun M' h => zlaw_loop hd hL L 0 0 false M' (by decide) (by omega) (by decide) (zJ_start h hs ht)
