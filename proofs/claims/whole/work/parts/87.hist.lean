/-! The class's acts against a history of rows. -/
def zhA (hist : Nat → Nat → Int) (kp : Nat) (R' : Nat → Int) (i : Nat) : Nat → Int := if kp = 300 then (if i < 300 then hist (i + 1) else R') else (if i ≤ kp then hist i else R')
def zkA (kp : Nat) : Nat := if kp = 300 then 300 else kp + 1
def zEn (hist : Nat → Nat → Int) (fi kp : Nat) (M : zM) (i : Nat) : Prop := ∃ f n : Nat, M 12 ((fi + i) % 300) = (f : Int) ∧ M 13 ((fi + i) % 300) = (n : Int) ∧ n ≤ 29 ∧ f + n ≤ 224 ∧ (∀ j, ¬(f ≤ j ∧ j < f + n) → hist (i + 1) j = hist i j) ∧ ∀ j, f ≤ j → j < f + n → M 14 ((fi + i) % 300 * 29 + (j - f)) = if i < kp then hist i j else hist (i + 1) j
def zCA (hist : Nat → Nat → Int) (fi kp tk : Nat) (M : zM) : Prop :=
  M 11 4 = (fi : Int) ∧ M 11 5 = (kp : Int) ∧ M 11 6 = (tk : Int) ∧ fi < 300 ∧ kp + tk ≤ 300 ∧ M 10 = hist kp ∧ ∀ i, i < kp + tk → zEn hist fi kp M i
theorem zCA_fr {hist : Nat → Nat → Int} {fi kp tk : Nat} {M M' : zM} (h : zCA hist fi kp tk M) (hf : ∀ k, 10 ≤ k → k ≤ 14 → M' k = M k) : zCA hist fi kp tk M' := by
  obtain ⟨h1, h2, h3, h4, h5, h6, h7⟩ := h
  have e11 := hf 11 (by decide) (by decide)
  refine ⟨by rw [e11]; exact h1, by rw [e11]; exact h2, by rw [e11]; exact h3, h4, h5, by rw [hf 10 (by decide) (by decide)]; exact h6, fun i hi => ?_⟩
  obtain ⟨f, n, a1, a2, a3, a4, a5, a6⟩ := h7 i hi
  exact ⟨f, n, by rw [hf 12 (by decide) (by decide)]; exact a1, by rw [hf 13 (by decide) (by decide)]; exact a2, a3, a4, a5, fun j q1 q2 => by rw [hf 14 (by decide) (by decide)]; exact a6 j q1 q2⟩
theorem zmod_ne {fi i k : Nat} (h : i < k) (hk : k < i + 300) : (fi + i) % 300 ≠ (fi + k) % 300 := by omega
theorem zmod_far {x y n j : Nat} (h : x ≠ y) (hj : j < 29) (hn : n ≤ 29) : ¬ (y * 29 ≤ x * 29 + j ∧ x * 29 + j < y * 29 + n) := by omega
theorem zhA_kp {hist : Nat → Nat → Int} {kp : Nat} (hk : kp ≤ 300) (R' : Nat → Int) : zhA hist kp R' (zkA kp) = R' := by
  unfold zhA zkA
  by_cases h : kp = 300
  · rw [if_pos h, if_pos h, if_neg (by omega)]
  · rw [if_neg h, if_neg h, if_neg (by omega)]
/-- behind an act that changed its stretch -/
theorem zCA_act {hist : Nat → Nat → Int} {fi kp tk : Nat} {M M1 M2 : zM} {f n : Nat} {R' : Nat → Int} (h : zCA hist fi kp tk M) (hn : n ≤ 29) (hf : f + n ≤ 224)
    (hb : zBegan M M1 f n ((if kp = 300 then (fi + 1) % 300 + 299 else fi + kp) % 300) (if kp = 300 then ((fi + 1) % 300 : Nat) else (fi : Nat)) (if kp = 300 then 299 else (kp : Nat)))
    (h2 : ∀ k, 11 ≤ k → k ≤ 14 → M2 k = M1 k) (h10 : M2 10 = R') (hR : ∀ j, ¬(f ≤ j ∧ j < f + n) → R' j = hist kp j) :
    zCA (zhA hist kp R') (if kp = 300 then (fi + 1) % 300 else fi) (zkA kp) 0 M2 := by
  obtain ⟨g1, g2, g3, g4, g5, g6, g7⟩ := h
  obtain ⟨b1, b2, b3, b4, b5, b6, b7, b8⟩ := hb
  have hkp : kp ≤ 300 := by omega
  have e11 := h2 11 (by decide) (by decide)
  have e12 := h2 12 (by decide) (by decide)
  have e13 := h2 13 (by decide) (by decide)
  have e14 := h2 14 (by decide) (by decide)
  refine ⟨?_, ?_, ?_, ?_, ?_, ?_, fun i hi => ?_⟩
  · rw [e11, b5]; split <;> rfl
  · rw [e11, b4]; unfold zkA; split <;> omega
  · rw [e11, b3]; rfl
  · split <;> omega
  · unfold zkA; split <;> omega
  · rw [h10, zhA_kp hkp]
  · by_cases hk : kp = 300
    · subst hk
      rw [if_pos rfl] at b6 b7 b8 ⊢
      have hz : zkA 300 = 300 := rfl
      rw [hz] at hi ⊢
      by_cases hl : i = 299
      · subst hl
        refine ⟨f, n, ?_, ?_, hn, hf, fun j hj => ?_, fun j j1 j2 => ?_⟩
        · rw [e12, b6, if_pos rfl]
        · rw [e13, b7, if_pos rfl]
        · unfold zhA
          rw [if_pos rfl, if_pos rfl, if_neg (by decide), if_pos (by decide)]
          exact hR j hj
        · rw [e14, b8, if_pos (by omega), if_pos (by omega), g6]
          unfold zhA
          rw [if_pos rfl, if_pos (by decide)]
          congr 1
          omega
      · obtain ⟨f', n', a1, a2, a3, a4, a5, a6⟩ := g7 (i + 1) (by omega)
        have ee : ((fi + 1) % 300 + i) % 300 = (fi + (i + 1)) % 300 := by omega
        have hne : ((fi + 1) % 300 + i) % 300 ≠ ((fi + 1) % 300 + 299) % 300 := by omega
        refine ⟨f', n', ?_, ?_, a3, a4, fun j hj => ?_, fun j j1 j2 => ?_⟩
        · rw [e12, b6, if_neg hne, ee]; exact a1
        · rw [e13, b7, if_neg hne, ee]; exact a2
        · unfold zhA
          rw [if_pos rfl, if_pos rfl, if_pos (by omega), if_pos (by omega)]
          exact a5 j hj
        · rw [e14, b8, if_neg (zmod_far hne (by omega) hn), ee, a6 j j1 j2, if_pos (by omega), if_pos (by omega)]
          unfold zhA
          rw [if_pos rfl, if_pos (by omega)]
    · rw [if_neg hk] at b6 b7 b8 ⊢
      have hz : zkA kp = kp + 1 := if_neg hk
      rw [hz] at hi ⊢
      by_cases hl : i = kp
      · subst hl
        refine ⟨f, n, ?_, ?_, hn, hf, fun j hj => ?_, fun j j1 j2 => ?_⟩
        · rw [e12, b6, if_pos rfl]
        · rw [e13, b7, if_pos rfl]
        · unfold zhA
          rw [if_neg hk, if_neg hk, if_neg (by omega), if_pos (by omega)]
          exact hR j hj
        · rw [e14, b8, if_pos (by omega), if_pos (by omega), g6]
          unfold zhA
          rw [if_neg hk, if_pos (by omega)]
          congr 1
          omega
      · obtain ⟨f', n', a1, a2, a3, a4, a5, a6⟩ := g7 i (by omega)
        have hne : (fi + i) % 300 ≠ (fi + kp) % 300 := zmod_ne (by omega) (by omega)
        refine ⟨f', n', ?_, ?_, a3, a4, fun j hj => ?_, fun j j1 j2 => ?_⟩
        · rw [e12, b6, if_neg hne]; exact a1
        · rw [e13, b7, if_neg hne]; exact a2
        · unfold zhA
          rw [if_neg hk, if_neg hk, if_pos (by omega), if_pos (by omega)]
          exact a5 j hj
        · rw [e14, b8, if_neg (zmod_far hne (by omega) hn), a6 j j1 j2, if_pos (by omega), if_pos (by omega)]
          unfold zhA
          rw [if_neg hk, if_pos (by omega)]
section ZCh
variable {d L : Nat} {bw : Bool} {M : zM} {Q : Option zV → zW → zM → Prop} {hist : Nat → Nat → Int} {fi kp tk : Nat}
set_option maxRecDepth 30000 in
theorem C_undo (hd : 10 ≤ d) (h : zCA hist fi kp tk M) (hQ0 : kp = 0 → Q (some (zi 0)) (zWd L bw) M)
    (hQ : ∀ M' : zM, 0 < kp → (∀ k, k ≠ 9 → k ≠ 10 → k ≠ 11 → k ≠ 14 → M' k = M k) → M' 9 1 = M 9 1 + 1 → zCA hist fi (kp - 1) (tk + 1) M' → Q (some (zi 1)) (zWd L bw) M') :
    zF d x_We_undo 0 [zr 8] [] (zWd L bw) M Q := by
  obtain ⟨g1, g2, g3, g4, g5, g6, g7⟩ := h
  by_cases hk : kp = 0
  · have h0 : M 11 5 = 0 := by rw [g2, hk]; rfl
    have ht := fun Q => C_takeBack0 (d := d - 1) (L := L) (bw := bw) (M := M) (Q := Q) (by omega) h0
    simp (disch := first | omega | assumption) only [zO, zA, zAs, true_and, and_true, and_self, false_and, and_false, true_or, or_true, false_or, or_false, Nat.reduceLT, Nat.reduceLeDiff, Nat.reduceEqDiff, Nat.reduceAdd, Nat.reduceSub, not_false_eq_true, not_true_eq_false, Int.cast_ofNat_Int, Int.reduceNatCast', Int.reduceToNat, Int.reduceAdd, Int.reduceSub, Int.reduceMul, Int.reduceNeg, Int.reduceLT, Int.reduceLE, Int.reduceEq, ↓reduceIte, ne_eq, zu_at, zu_off, z32_id, z64_id, znl_i, znl_r, znl_t, zwd_nil, zwd_i, zwd_r, zwd_l, ztoL_some, ztoL_none, zite1, ite_not, zite10, zite10', zs_8, zs_9, zs_10, zs_11, zs_12, zs_13, zs_14, zs_15, zs_16, zs_17, zs_18, zs_19, zs_20, zs_21, zs_22, zs_23, zs_24, zs_25, zs_26, zs_27, zs_28, zs_29, zs_30, zs_31, zs_32, zs_33, zs_34, zs_35, zs_36, zs_37, zs_38, zs_39, zs_40, zs_41, zs_42, zs_43, zs_44, zs_45, zs_46, zs_47, zs_48, zs_49, zs_50, zs_51, zs_52, zs_53, zs_54, zs_55, zs_56, zs_57, zs_58, zs_59, zs_60, zs_61, zs_62, zs_63, zs_64, zs_65, zs_66, zs_67, zs_68, zs_69, zs_70, zs_71, zs_72, zs_73, zs_74, zs_75, zs_76, zs_77, zs_78, zs_79, zs_80, zs_81, zs_82, zs_83, zs_84, zs_85, zs_86, zs_87, zs_88, zs_89, zs_90, zs_91, zs_92, zs_93, zs_94, zs_95, zs_96, zs_97, zs_98, zs_99, zs_100, zs_101, zs_102, zs_103, zr_8_0, zr_8_1, zr_8_2, zr_8_3, zr_8_4, zr_8_5, zr_8_6, zr_8_7, zr_8_8, zr_8_9, zr_9_0, zr_11_0, zr_11_1, zr_11_2, zr_11_3, zr_15_0, zr_17_0, zr_17_1, zr_19_0, zr_19_1, zr_19_2, zr_19_3, zr_19_4, zr_19_5, zr_19_6, zr_19_7, zr_19_8, zr_19_9, zr_19_10, zr_19_11, zr_31_0, zr_31_1, zr_31_2, zr_31_3, zr_36_0, zr_36_1, zr_36_2, zr_64_0, zr_64_1, zr_64_2, zr_67_0, zr_67_1, zr_67_2, zr_81_0, zr_82_0, zr_82_1, zr_82_11, zr_82_12, zr_82_13, zr_82_14, zr_82_17, zr_82_18, zr_82_19, zr_82_20, zr_82_21, zr_82_23, zr_82_24, zr_82_25, zr_82_26, zr_82_27, zr_82_35, zr_82_37, zr_82_38, zr_82_40, zr_82_41, zr_37, zr_68, zite11, zem, zem', f_We_undo_0, f_We_undo_1, f_We_undo_4, f_We_undo_7, ht, zNltT, zNleT, zleF, zleT, zltF, zltT, zeqF, ↓reduceIte, zNeqF]
    exact hQ0 hk
  · obtain ⟨k, rfl⟩ : ∃ k, kp = k + 1 := ⟨kp - 1, by omega⟩
    obtain ⟨f, n, a1, a2, a3, a4, a5, a6⟩ := g7 k (by omega)
    simp (disch := first | omega | assumption) only [zO, zA, zAs, true_and, and_true, and_self, false_and, and_false, true_or, or_true, false_or, or_false, Nat.reduceLT, Nat.reduceLeDiff, Nat.reduceEqDiff, Nat.reduceAdd, Nat.reduceSub, not_false_eq_true, not_true_eq_false, Int.cast_ofNat_Int, Int.reduceNatCast', Int.reduceToNat, Int.reduceAdd, Int.reduceSub, Int.reduceMul, Int.reduceNeg, Int.reduceLT, Int.reduceLE, Int.reduceEq, ↓reduceIte, ne_eq, zu_at, zu_off, z32_id, z64_id, znl_i, znl_r, znl_t, zwd_nil, zwd_i, zwd_r, zwd_l, ztoL_some, ztoL_none, zite1, ite_not, zite10, zite10', zs_8, zs_9, zs_10, zs_11, zs_12, zs_13, zs_14, zs_15, zs_16, zs_17, zs_18, zs_19, zs_20, zs_21, zs_22, zs_23, zs_24, zs_25, zs_26, zs_27, zs_28, zs_29, zs_30, zs_31, zs_32, zs_33, zs_34, zs_35, zs_36, zs_37, zs_38, zs_39, zs_40, zs_41, zs_42, zs_43, zs_44, zs_45, zs_46, zs_47, zs_48, zs_49, zs_50, zs_51, zs_52, zs_53, zs_54, zs_55, zs_56, zs_57, zs_58, zs_59, zs_60, zs_61, zs_62, zs_63, zs_64, zs_65, zs_66, zs_67, zs_68, zs_69, zs_70, zs_71, zs_72, zs_73, zs_74, zs_75, zs_76, zs_77, zs_78, zs_79, zs_80, zs_81, zs_82, zs_83, zs_84, zs_85, zs_86, zs_87, zs_88, zs_89, zs_90, zs_91, zs_92, zs_93, zs_94, zs_95, zs_96, zs_97, zs_98, zs_99, zs_100, zs_101, zs_102, zs_103, zr_8_0, zr_8_1, zr_8_2, zr_8_3, zr_8_4, zr_8_5, zr_8_6, zr_8_7, zr_8_8, zr_8_9, zr_9_0, zr_11_0, zr_11_1, zr_11_2, zr_11_3, zr_15_0, zr_17_0, zr_17_1, zr_19_0, zr_19_1, zr_19_2, zr_19_3, zr_19_4, zr_19_5, zr_19_6, zr_19_7, zr_19_8, zr_19_9, zr_19_10, zr_19_11, zr_31_0, zr_31_1, zr_31_2, zr_31_3, zr_36_0, zr_36_1, zr_36_2, zr_64_0, zr_64_1, zr_64_2, zr_67_0, zr_67_1, zr_67_2, zr_81_0, zr_82_0, zr_82_1, zr_82_11, zr_82_12, zr_82_13, zr_82_14, zr_82_17, zr_82_18, zr_82_19, zr_82_20, zr_82_21, zr_82_23, zr_82_24, zr_82_25, zr_82_26, zr_82_27, zr_82_35, zr_82_37, zr_82_38, zr_82_40, zr_82_41, zr_37, zr_68, zite11, zem, zem', f_We_undo_0, f_We_undo_1, f_We_undo_4, f_We_undo_7, zNltT, zNleT, zleF, zleT, zltF, zltT, zeqF, ↓reduceIte, zNeqF]
    refine C_takeBack (by omega) (fi := fi) (kp := k) (tk := tk) (f := f) (n := n) g1 g2 g3 g4 (by omega) (by omega) a3 a4 a1 a2 fun M' b1 b2 b3 b4 b5 b6 b7 => ?_
    simp (disch := first | omega | assumption) only [zO, zA, zAs, true_and, and_true, and_self, false_and, and_false, true_or, or_true, false_or, or_false, Nat.reduceLT, Nat.reduceLeDiff, Nat.reduceEqDiff, Nat.reduceAdd, Nat.reduceSub, not_false_eq_true, not_true_eq_false, Int.cast_ofNat_Int, Int.reduceNatCast', Int.reduceToNat, Int.reduceAdd, Int.reduceSub, Int.reduceMul, Int.reduceNeg, Int.reduceLT, Int.reduceLE, Int.reduceEq, ↓reduceIte, ne_eq, zu_at, zu_off, z32_id, z64_id, znl_i, znl_r, znl_t, zwd_nil, zwd_i, zwd_r, zwd_l, ztoL_some, ztoL_none, zite1, ite_not, zite10, zite10', zs_8, zs_9, zs_10, zs_11, zs_12, zs_13, zs_14, zs_15, zs_16, zs_17, zs_18, zs_19, zs_20, zs_21, zs_22, zs_23, zs_24, zs_25, zs_26, zs_27, zs_28, zs_29, zs_30, zs_31, zs_32, zs_33, zs_34, zs_35, zs_36, zs_37, zs_38, zs_39, zs_40, zs_41, zs_42, zs_43, zs_44, zs_45, zs_46, zs_47, zs_48, zs_49, zs_50, zs_51, zs_52, zs_53, zs_54, zs_55, zs_56, zs_57, zs_58, zs_59, zs_60, zs_61, zs_62, zs_63, zs_64, zs_65, zs_66, zs_67, zs_68, zs_69, zs_70, zs_71, zs_72, zs_73, zs_74, zs_75, zs_76, zs_77, zs_78, zs_79, zs_80, zs_81, zs_82, zs_83, zs_84, zs_85, zs_86, zs_87, zs_88, zs_89, zs_90, zs_91, zs_92, zs_93, zs_94, zs_95, zs_96, zs_97, zs_98, zs_99, zs_100, zs_101, zs_102, zs_103, zr_8_0, zr_8_1, zr_8_2, zr_8_3, zr_8_4, zr_8_5, zr_8_6, zr_8_7, zr_8_8, zr_8_9, zr_9_0, zr_11_0, zr_11_1, zr_11_2, zr_11_3, zr_15_0, zr_17_0, zr_17_1, zr_19_0, zr_19_1, zr_19_2, zr_19_3, zr_19_4, zr_19_5, zr_19_6, zr_19_7, zr_19_8, zr_19_9, zr_19_10, zr_19_11, zr_31_0, zr_31_1, zr_31_2, zr_31_3, zr_36_0, zr_36_1, zr_36_2, zr_64_0, zr_64_1, zr_64_2, zr_67_0, zr_67_1, zr_67_2, zr_81_0, zr_82_0, zr_82_1, zr_82_11, zr_82_12, zr_82_13, zr_82_14, zr_82_17, zr_82_18, zr_82_19, zr_82_20, zr_82_21, zr_82_23, zr_82_24, zr_82_25, zr_82_26, zr_82_27, zr_82_35, zr_82_37, zr_82_38, zr_82_40, zr_82_41, zr_37, zr_68, zite11, zem, zem', f_We_undo_0, f_We_undo_1, f_We_undo_4, f_We_undo_7, zNltT, zNleT, zleF, zleT, zltF, zltT, zeqF, ↓reduceIte, zNeqF]
    refine hQ M' (by omega) b1 b5 ⟨b2, b3, b4, g4, by omega, ?_, fun i hi => ?_⟩
    · rw [Nat.add_sub_cancel]
      funext j
      rw [b6 j]
      by_cases hj : f ≤ j ∧ j < f + n
      · rw [if_pos hj, a6 j hj.1 hj.2, if_pos (by omega)]
      · rw [if_neg hj, g6, a5 j hj]
    · rw [Nat.add_sub_cancel] at hi ⊢
      have e12 : M' 12 = M 12 := b1 12 (by decide) (by decide) (by decide) (by decide)
      have e13 : M' 13 = M 13 := b1 13 (by decide) (by decide) (by decide) (by decide)
      by_cases hl : i = k
      · subst hl
        refine ⟨f, n, by rw [e12]; exact a1, by rw [e13]; exact a2, a3, a4, a5, fun j j1 j2 => ?_⟩
        rw [b7, if_pos (by omega), if_neg (by omega), g6]
        congr 1
        omega
      · obtain ⟨f', n', c1, c2, c3, c4, c5, c6⟩ := g7 i (by omega)
        have hne : (fi + i) % 300 ≠ (fi + k) % 300 := by
          by_cases q : i < k
          · exact zmod_ne q (by omega)
          · exact (zmod_ne (fi := fi) (i := k) (k := i) (by omega) (by omega)).symm
        refine ⟨f', n', by rw [e12]; exact c1, by rw [e13]; exact c2, c3, c4, c5, fun j j1 j2 => ?_⟩
        rw [b7, if_neg (zmod_far hne (by omega) a3), c6 j j1 j2]
        by_cases q : i < k
        · rw [if_pos (show i < k + 1 by omega), if_pos q]
        · rw [if_neg (show ¬ i < k + 1 by omega), if_neg q]
set_option maxRecDepth 30000 in
theorem C_redo (hd : 10 ≤ d) (h : zCA hist fi kp tk M) (hQ0 : tk = 0 → Q (some (zi 0)) (zWd L bw) M)
    (hQ : ∀ M' : zM, 0 < tk → (∀ k, k ≠ 9 → k ≠ 10 → k ≠ 11 → k ≠ 14 → M' k = M k) → M' 9 1 = M 9 1 + 1 → zCA hist fi (kp + 1) (tk - 1) M' → Q (some (zi 1)) (zWd L bw) M') :
    zF d x_We_redo 0 [zr 8] [] (zWd L bw) M Q := by
  obtain ⟨g1, g2, g3, g4, g5, g6, g7⟩ := h
  by_cases hk : tk = 0
  · have h0 : M 11 6 = 0 := by rw [g3, hk]; rfl
    have ht := fun Q => C_tellAgain0 (d := d - 1) (L := L) (bw := bw) (M := M) (Q := Q) (by omega) h0
    simp (disch := first | omega | assumption) only [zO, zA, zAs, true_and, and_true, and_self, false_and, and_false, true_or, or_true, false_or, or_false, Nat.reduceLT, Nat.reduceLeDiff, Nat.reduceEqDiff, Nat.reduceAdd, Nat.reduceSub, not_false_eq_true, not_true_eq_false, Int.cast_ofNat_Int, Int.reduceNatCast', Int.reduceToNat, Int.reduceAdd, Int.reduceSub, Int.reduceMul, Int.reduceNeg, Int.reduceLT, Int.reduceLE, Int.reduceEq, ↓reduceIte, ne_eq, zu_at, zu_off, z32_id, z64_id, znl_i, znl_r, znl_t, zwd_nil, zwd_i, zwd_r, zwd_l, ztoL_some, ztoL_none, zite1, ite_not, zite10, zite10', zs_8, zs_9, zs_10, zs_11, zs_12, zs_13, zs_14, zs_15, zs_16, zs_17, zs_18, zs_19, zs_20, zs_21, zs_22, zs_23, zs_24, zs_25, zs_26, zs_27, zs_28, zs_29, zs_30, zs_31, zs_32, zs_33, zs_34, zs_35, zs_36, zs_37, zs_38, zs_39, zs_40, zs_41, zs_42, zs_43, zs_44, zs_45, zs_46, zs_47, zs_48, zs_49, zs_50, zs_51, zs_52, zs_53, zs_54, zs_55, zs_56, zs_57, zs_58, zs_59, zs_60, zs_61, zs_62, zs_63, zs_64, zs_65, zs_66, zs_67, zs_68, zs_69, zs_70, zs_71, zs_72, zs_73, zs_74, zs_75, zs_76, zs_77, zs_78, zs_79, zs_80, zs_81, zs_82, zs_83, zs_84, zs_85, zs_86, zs_87, zs_88, zs_89, zs_90, zs_91, zs_92, zs_93, zs_94, zs_95, zs_96, zs_97, zs_98, zs_99, zs_100, zs_101, zs_102, zs_103, zr_8_0, zr_8_1, zr_8_2, zr_8_3, zr_8_4, zr_8_5, zr_8_6, zr_8_7, zr_8_8, zr_8_9, zr_9_0, zr_11_0, zr_11_1, zr_11_2, zr_11_3, zr_15_0, zr_17_0, zr_17_1, zr_19_0, zr_19_1, zr_19_2, zr_19_3, zr_19_4, zr_19_5, zr_19_6, zr_19_7, zr_19_8, zr_19_9, zr_19_10, zr_19_11, zr_31_0, zr_31_1, zr_31_2, zr_31_3, zr_36_0, zr_36_1, zr_36_2, zr_64_0, zr_64_1, zr_64_2, zr_67_0, zr_67_1, zr_67_2, zr_81_0, zr_82_0, zr_82_1, zr_82_11, zr_82_12, zr_82_13, zr_82_14, zr_82_17, zr_82_18, zr_82_19, zr_82_20, zr_82_21, zr_82_23, zr_82_24, zr_82_25, zr_82_26, zr_82_27, zr_82_35, zr_82_37, zr_82_38, zr_82_40, zr_82_41, zr_37, zr_68, zite11, zem, zem', f_We_redo_0, f_We_redo_1, f_We_redo_4, f_We_redo_7, ht, zNltT, zNleT, zleF, zleT, zltF, zltT, zeqF, ↓reduceIte, zNeqF]
    exact hQ0 hk
  · obtain ⟨k, rfl⟩ : ∃ k, tk = k + 1 := ⟨tk - 1, by omega⟩
    obtain ⟨f, n, a1, a2, a3, a4, a5, a6⟩ := g7 kp (by omega)
    simp (disch := first | omega | assumption) only [zO, zA, zAs, true_and, and_true, and_self, false_and, and_false, true_or, or_true, false_or, or_false, Nat.reduceLT, Nat.reduceLeDiff, Nat.reduceEqDiff, Nat.reduceAdd, Nat.reduceSub, not_false_eq_true, not_true_eq_false, Int.cast_ofNat_Int, Int.reduceNatCast', Int.reduceToNat, Int.reduceAdd, Int.reduceSub, Int.reduceMul, Int.reduceNeg, Int.reduceLT, Int.reduceLE, Int.reduceEq, ↓reduceIte, ne_eq, zu_at, zu_off, z32_id, z64_id, znl_i, znl_r, znl_t, zwd_nil, zwd_i, zwd_r, zwd_l, ztoL_some, ztoL_none, zite1, ite_not, zite10, zite10', zs_8, zs_9, zs_10, zs_11, zs_12, zs_13, zs_14, zs_15, zs_16, zs_17, zs_18, zs_19, zs_20, zs_21, zs_22, zs_23, zs_24, zs_25, zs_26, zs_27, zs_28, zs_29, zs_30, zs_31, zs_32, zs_33, zs_34, zs_35, zs_36, zs_37, zs_38, zs_39, zs_40, zs_41, zs_42, zs_43, zs_44, zs_45, zs_46, zs_47, zs_48, zs_49, zs_50, zs_51, zs_52, zs_53, zs_54, zs_55, zs_56, zs_57, zs_58, zs_59, zs_60, zs_61, zs_62, zs_63, zs_64, zs_65, zs_66, zs_67, zs_68, zs_69, zs_70, zs_71, zs_72, zs_73, zs_74, zs_75, zs_76, zs_77, zs_78, zs_79, zs_80, zs_81, zs_82, zs_83, zs_84, zs_85, zs_86, zs_87, zs_88, zs_89, zs_90, zs_91, zs_92, zs_93, zs_94, zs_95, zs_96, zs_97, zs_98, zs_99, zs_100, zs_101, zs_102, zs_103, zr_8_0, zr_8_1, zr_8_2, zr_8_3, zr_8_4, zr_8_5, zr_8_6, zr_8_7, zr_8_8, zr_8_9, zr_9_0, zr_11_0, zr_11_1, zr_11_2, zr_11_3, zr_15_0, zr_17_0, zr_17_1, zr_19_0, zr_19_1, zr_19_2, zr_19_3, zr_19_4, zr_19_5, zr_19_6, zr_19_7, zr_19_8, zr_19_9, zr_19_10, zr_19_11, zr_31_0, zr_31_1, zr_31_2, zr_31_3, zr_36_0, zr_36_1, zr_36_2, zr_64_0, zr_64_1, zr_64_2, zr_67_0, zr_67_1, zr_67_2, zr_81_0, zr_82_0, zr_82_1, zr_82_11, zr_82_12, zr_82_13, zr_82_14, zr_82_17, zr_82_18, zr_82_19, zr_82_20, zr_82_21, zr_82_23, zr_82_24, zr_82_25, zr_82_26, zr_82_27, zr_82_35, zr_82_37, zr_82_38, zr_82_40, zr_82_41, zr_37, zr_68, zite11, zem, zem', f_We_redo_0, f_We_redo_1, f_We_redo_4, f_We_redo_7, zNltT, zNleT, zleF, zleT, zltF, zltT, zeqF, ↓reduceIte, zNeqF]
    refine C_tellAgain (by omega) (fi := fi) (kp := kp) (tk := k) (f := f) (n := n) g1 g2 g3 g4 (by omega) (by omega) a3 a4 a1 a2 fun M' b1 b2 b3 b4 b5 b6 b7 => ?_
    simp (disch := first | omega | assumption) only [zO, zA, zAs, true_and, and_true, and_self, false_and, and_false, true_or, or_true, false_or, or_false, Nat.reduceLT, Nat.reduceLeDiff, Nat.reduceEqDiff, Nat.reduceAdd, Nat.reduceSub, not_false_eq_true, not_true_eq_false, Int.cast_ofNat_Int, Int.reduceNatCast', Int.reduceToNat, Int.reduceAdd, Int.reduceSub, Int.reduceMul, Int.reduceNeg, Int.reduceLT, Int.reduceLE, Int.reduceEq, ↓reduceIte, ne_eq, zu_at, zu_off, z32_id, z64_id, znl_i, znl_r, znl_t, zwd_nil, zwd_i, zwd_r, zwd_l, ztoL_some, ztoL_none, zite1, ite_not, zite10, zite10', zs_8, zs_9, zs_10, zs_11, zs_12, zs_13, zs_14, zs_15, zs_16, zs_17, zs_18, zs_19, zs_20, zs_21, zs_22, zs_23, zs_24, zs_25, zs_26, zs_27, zs_28, zs_29, zs_30, zs_31, zs_32, zs_33, zs_34, zs_35, zs_36, zs_37, zs_38, zs_39, zs_40, zs_41, zs_42, zs_43, zs_44, zs_45, zs_46, zs_47, zs_48, zs_49, zs_50, zs_51, zs_52, zs_53, zs_54, zs_55, zs_56, zs_57, zs_58, zs_59, zs_60, zs_61, zs_62, zs_63, zs_64, zs_65, zs_66, zs_67, zs_68, zs_69, zs_70, zs_71, zs_72, zs_73, zs_74, zs_75, zs_76, zs_77, zs_78, zs_79, zs_80, zs_81, zs_82, zs_83, zs_84, zs_85, zs_86, zs_87, zs_88, zs_89, zs_90, zs_91, zs_92, zs_93, zs_94, zs_95, zs_96, zs_97, zs_98, zs_99, zs_100, zs_101, zs_102, zs_103, zr_8_0, zr_8_1, zr_8_2, zr_8_3, zr_8_4, zr_8_5, zr_8_6, zr_8_7, zr_8_8, zr_8_9, zr_9_0, zr_11_0, zr_11_1, zr_11_2, zr_11_3, zr_15_0, zr_17_0, zr_17_1, zr_19_0, zr_19_1, zr_19_2, zr_19_3, zr_19_4, zr_19_5, zr_19_6, zr_19_7, zr_19_8, zr_19_9, zr_19_10, zr_19_11, zr_31_0, zr_31_1, zr_31_2, zr_31_3, zr_36_0, zr_36_1, zr_36_2, zr_64_0, zr_64_1, zr_64_2, zr_67_0, zr_67_1, zr_67_2, zr_81_0, zr_82_0, zr_82_1, zr_82_11, zr_82_12, zr_82_13, zr_82_14, zr_82_17, zr_82_18, zr_82_19, zr_82_20, zr_82_21, zr_82_23, zr_82_24, zr_82_25, zr_82_26, zr_82_27, zr_82_35, zr_82_37, zr_82_38, zr_82_40, zr_82_41, zr_37, zr_68, zite11, zem, zem', f_We_redo_0, f_We_redo_1, f_We_redo_4, f_We_redo_7, zNltT, zNleT, zleF, zleT, zltF, zltT, zeqF, ↓reduceIte, zNeqF]
    refine hQ M' (by omega) b1 b5 ⟨b2, b3, b4, g4, by omega, ?_, fun i hi => ?_⟩
    · funext j
      rw [b6 j]
      by_cases hj : f ≤ j ∧ j < f + n
      · rw [if_pos hj, a6 j hj.1 hj.2, if_neg (by omega)]
      · rw [if_neg hj, g6, a5 j hj]
    · have e12 : M' 12 = M 12 := b1 12 (by decide) (by decide) (by decide) (by decide)
      have e13 : M' 13 = M 13 := b1 13 (by decide) (by decide) (by decide) (by decide)
      by_cases hl : i = kp
      · subst hl
        refine ⟨f, n, by rw [e12]; exact a1, by rw [e13]; exact a2, a3, a4, a5, fun j j1 j2 => ?_⟩
        rw [b7, if_pos (by omega), if_pos (by omega), g6]
        congr 1
        omega
      · obtain ⟨f', n', c1, c2, c3, c4, c5, c6⟩ := g7 i (by omega)
        have hne : (fi + i) % 300 ≠ (fi + kp) % 300 := by
          by_cases q : i < kp
          · exact zmod_ne q (by omega)
          · exact (zmod_ne (fi := fi) (i := kp) (k := i) (by omega) (by omega)).symm
        refine ⟨f', n', by rw [e12]; exact c1, by rw [e13]; exact c2, c3, c4, c5, fun j j1 j2 => ?_⟩
        rw [b7, if_neg (zmod_far hne (by omega) a3), c6 j j1 j2]
        by_cases q : i < kp
        · rw [if_pos q, if_pos (show i < kp + 1 by omega)]
        · rw [if_neg q, if_neg (show ¬ i < kp + 1 by omega)]
end ZCh
