/-! The law's loop. -/
theorem zk47 {k : Nat} (h : k ≤ 46) : k = 0 ∨ k = 1 ∨ k = 2 ∨ k = 3 ∨ k = 4 ∨ k = 5 ∨ k = 6 ∨ k = 7 ∨ k = 8 ∨ k = 9 ∨ k = 10 ∨ k = 11 ∨ k = 12 ∨ k = 13 ∨ k = 14 ∨ k = 15 ∨ k = 16 ∨ k = 17 ∨ k = 18 ∨ k = 19 ∨ k = 20 ∨ k = 21 ∨ k = 22 ∨ k = 23 ∨ k = 24 ∨ k = 25 ∨ k = 26 ∨ k = 27 ∨ k = 28 ∨ k = 29 ∨ k = 30 ∨ k = 31 ∨ k = 32 ∨ k = 33 ∨ k = 34 ∨ k = 35 ∨ k = 36 ∨ k = 37 ∨ k = 38 ∨ k = 39 ∨ k = 40 ∨ k = 41 ∨ k = 42 ∨ k = 43 ∨ k = 44 ∨ k = 45 ∨ k = 46 := by omega
section ZLoop
variable {d L : Nat}
def zEnd (L : Nat) : Option zV → zW → zM → Prop := fun r w' _ => r = some (zi 1) ∧ ∃ b, w' = zWd L b
set_option maxRecDepth 30000 in
theorem zlaw_end {i : Nat} {bw : Bool} {M : zM} : zF d x_La_law 1885 [zr 1, zr 8, zr 82, zi (i : Int)] [] (zWd L bw) M (zEnd L) := by
  simp (disch := first | omega | assumption) only [zO, zA, zAs, true_and, and_true, and_self, false_and, and_false, true_or, or_true, false_or, or_false, Nat.reduceLT, Nat.reduceLeDiff, Nat.reduceEqDiff, Nat.reduceAdd, Nat.reduceSub, not_false_eq_true, not_true_eq_false, Int.cast_ofNat_Int, Int.reduceNatCast', Int.reduceToNat, Int.reduceAdd, Int.reduceSub, Int.reduceMul, Int.reduceNeg, Int.reduceLT, Int.reduceLE, Int.reduceEq, ↓reduceIte, ne_eq, zu_at, zu_off, z32_id, z64_id, znl_i, znl_r, znl_t, zwd_nil, zwd_i, zwd_r, zwd_l, ztoL_some, ztoL_none, zite1, ite_not, zite10, zite10', zs_8, zs_9, zs_10, zs_11, zs_12, zs_13, zs_14, zs_15, zs_16, zs_17, zs_18, zs_19, zs_20, zs_21, zs_22, zs_23, zs_24, zs_25, zs_26, zs_27, zs_28, zs_29, zs_30, zs_31, zs_32, zs_33, zs_34, zs_35, zs_36, zs_37, zs_38, zs_39, zs_40, zs_41, zs_42, zs_43, zs_44, zs_45, zs_46, zs_47, zs_48, zs_49, zs_50, zs_51, zs_52, zs_53, zs_54, zs_55, zs_56, zs_57, zs_58, zs_59, zs_60, zs_61, zs_62, zs_63, zs_64, zs_65, zs_66, zs_67, zs_68, zs_69, zs_70, zs_71, zs_72, zs_73, zs_74, zs_75, zs_76, zs_77, zs_78, zs_79, zs_80, zs_81, zs_82, zs_83, zs_84, zs_85, zs_86, zs_87, zs_88, zs_89, zs_90, zs_91, zs_92, zs_93, zs_94, zs_95, zs_96, zs_97, zs_98, zs_99, zs_100, zs_101, zs_102, zs_103, zr_8_0, zr_8_1, zr_8_2, zr_8_3, zr_8_4, zr_8_5, zr_8_6, zr_8_7, zr_8_8, zr_8_9, zr_9_0, zr_11_0, zr_11_1, zr_11_2, zr_11_3, zr_15_0, zr_17_0, zr_17_1, zr_19_0, zr_19_1, zr_19_2, zr_19_3, zr_19_4, zr_19_5, zr_19_6, zr_19_7, zr_19_8, zr_19_9, zr_19_10, zr_19_11, zr_31_0, zr_31_1, zr_31_2, zr_31_3, zr_36_0, zr_36_1, zr_36_2, zr_64_0, zr_64_1, zr_64_2, zr_67_0, zr_67_1, zr_67_2, zr_81_0, zr_82_0, zr_82_1, zr_82_11, zr_82_12, zr_82_13, zr_82_14, zr_82_17, zr_82_18, zr_82_19, zr_82_20, zr_82_21, zr_82_23, zr_82_24, zr_82_25, zr_82_26, zr_82_27, zr_82_35, zr_82_37, zr_82_38, zr_82_40, zr_82_41, zr_37, zr_68, zite11, zem, zem', f_La_law_1885, f_La_law_1886, zNltT, zNleT, zleF, zleT, zltF, zltT, zeqF, ↓reduceIte, zNeqF]
  exact ⟨rfl, bw, rfl⟩
set_option maxRecDepth 100000 in
theorem zlaw_case {i : Nat} {v : Int} {bw : Bool} {M : zM} {Q : Option zV → zW → zM → Prop} (hd : 95 ≤ d) (hL : L ≤ 3584) (hi : i + 7 ≤ L) (hv : v ≤ 900) (hJ : zJ v bw M) {a : Int} (ha : 0 ≤ a ∧ a < 64) (hQ : ∀ (bw' : Bool) (M' : zM), zJ (v + 1) bw' M' → zF d x_La_law 1879 [zr 1, zr 8, zr 82, zi (i : Int)] [] (zWd L bw') M' Q) :
    zF d x_La_law 33 [zr 1, zr 8, zr 82, zi (i : Int)] [zi a] (zWd L bw) M Q := by
  have e : z32 a = a := z32_id (by omega) (by omega)
  by_cases hb : 46 < a
  · rw [f_La_law_33_d (by rw [e]; exact Or.inr hb)]
    obtain ⟨hist, fi, kp, tk, n, B, hc, hm, hf, hs⟩ := hJ
    exact hQ bw M ⟨hist, fi, kp, tk, n, B, zXC_le hc (by omega), hm, hf, hs⟩
  obtain ⟨k, rfl⟩ := Int.eq_ofNat_of_zero_le ha.1
  have hk : k ≤ 46 := by omega
  clear ha hb
  rcases zk47 hk with rfl | rfl | rfl | rfl | rfl | rfl | rfl | rfl | rfl | rfl | rfl | rfl | rfl | rfl | rfl | rfl | rfl | rfl | rfl | rfl | rfl | rfl | rfl | rfl | rfl | rfl | rfl | rfl | rfl | rfl | rfl | rfl | rfl | rfl | rfl | rfl | rfl | rfl | rfl | rfl | rfl | rfl | rfl | rfl | rfl | rfl | rfl
  · exact (f_La_law_33_0 (by decide)).mpr (L_feed hd hJ hi hL hQ)
  · exact (f_La_law_33_1 (by decide)).mpr (L_end hd hJ hi hL hQ)
  · exact (f_La_law_33_2 (by decide)).mpr (L_stack hd hJ hi hL hQ)
  · exact (f_La_law_33_3 (by decide)).mpr (L_fault hd hJ hi hL hQ)
  · exact (f_La_law_33_4 (by decide)).mpr (L_press hd hv hJ hi hL hQ)
  · exact (f_La_law_33_5 (by decide)).mpr (L_gap hd hv hJ hi hL hQ)
  · exact (f_La_law_33_6 (by decide)).mpr (L_stretch hd hv hJ hi hL hQ)
  · exact (f_La_law_33_7 (by decide)).mpr (L_opens hd hv hJ hi hL hQ)
  · exact (f_La_law_33_8 (by decide)).mpr (L_most hd hv hJ hi hL hQ)
  · exact (f_La_law_33_9 (by decide)).mpr (L_best hd hv hJ hi hL hQ)
  · exact (f_La_law_33_10 (by decide)).mpr (L_chosen hd hv hJ hi hL hQ)
  · exact (f_La_law_33_11 (by decide)).mpr (L_wheel hd hJ hi hL hQ)
  · exact (f_La_law_33_12 (by decide)).mpr (L_worst hd hJ hi hL hQ)
  · exact (f_La_law_33_13 (by decide)).mpr (L_call hd hJ hi hL hQ)
  · exact (f_La_law_33_14 (by decide)).mpr (L_give hd hJ hi hL hQ)
  · exact (f_La_law_33_15 (by decide)).mpr (L_begin hd hJ hi hL hQ)
  · exact (f_La_law_33_16 (by decide)).mpr (L_move hd hJ hi hL hQ)
  · exact (f_La_law_33_17 (by decide)).mpr (L_play hd hJ hi hL hQ)
  · exact (f_La_law_33_18 (by decide)).mpr (L_blame hd hJ hi hL hQ)
  · exact (f_La_law_33_19 (by decide)).mpr (L_price hd hJ hi hL hQ)
  · exact (f_La_law_33_20 (by decide)).mpr (L_store hd hJ hi hL hQ)
  · exact (f_La_law_33_21 (by decide)).mpr (L_misses hd hJ hi hL hQ)
  · exact (f_La_law_33_22 (by decide)).mpr (L_value hd hv hJ hi hL hQ)
  · exact (f_La_law_33_23 (by decide)).mpr (L_trade hd hv hJ hi hL hQ)
  · exact (f_La_law_33_24 (by decide)).mpr (L_worth hd hv hJ hi hL hQ)
  · exact (f_La_law_33_25 (by decide)).mpr (L_plan hd hJ hi hL hQ)
  · exact (f_La_law_33_26 (by decide)).mpr (L_check hd hJ hi hL hQ)
  · exact (f_La_law_33_27 (by decide)).mpr (L_hole hd hJ hi hL hQ)
  · exact (f_La_law_33_28 (by decide)).mpr (L_shake hd hJ hi hL hQ)
  · exact (f_La_law_33_29 (by decide)).mpr (L_off hd hv hJ hi hL hQ)
  · exact (f_La_law_33_30 (by decide)).mpr (L_weights hd hv hJ hi hL hQ)
  · exact (f_La_law_33_31 (by decide)).mpr (L_drag hd hJ hi hL hQ)
  · exact (f_La_law_33_32 (by decide)).mpr (L_alone hd hJ hi hL hQ)
  · exact (f_La_law_33_33 (by decide)).mpr (L_cracks hd hJ hi hL hQ)
  · exact (f_La_law_33_34 (by decide)).mpr (L_costs hd hJ hi hL hQ)
  · exact (f_La_law_33_35 (by decide)).mpr (L_cost hd hv hJ hi hL hQ)
  · exact (f_La_law_33_36 (by decide)).mpr (L_looks hd hv hJ hi hL hQ)
  · exact (f_La_law_33_37 (by decide)).mpr (L_makes hd hJ hi hL hQ)
  · exact (f_La_law_33_38 (by decide)).mpr (L_reads hd hJ hi hL hQ)
  · exact (f_La_law_33_39 (by decide)).mpr (L_agree hd hJ hi hL hQ)
  · exact (f_La_law_33_40 (by decide)).mpr (L_told hd hJ hi hL hQ)
  · exact (f_La_law_33_41 (by decide)).mpr (L_next hd hJ hi hL hQ)
  · exact (f_La_law_33_42 (by decide)).mpr (L_fewest hd hJ hi hL hQ)
  · exact (f_La_law_33_43 (by decide)).mpr (L_undo hd hJ hi hL hQ)
  · exact (f_La_law_33_44 (by decide)).mpr (L_redo hd hJ hi hL hQ)
  · exact (f_La_law_33_45 (by decide)).mpr (L_digest hd hJ hi hL hQ)
  · exact (f_La_law_33_46 (by decide)).mpr (L_about hd hJ hi hL hQ)
set_option maxRecDepth 30000 in
theorem zlaw_loop (hd : 95 ≤ d) (hL : L ≤ 3584) : ∀ (n i : Nat) (v : Int) (bw : Bool) (M : zM), 7 * v ≤ i → L ≤ i + n → i ≤ 4000 → zJ v bw M →
    zF d x_La_law 18 [zr 1, zr 8, zr 82, zi (i : Int)] [] (zWd L bw) M (zEnd L) := by
  intro n
  induction n with
  | zero =>
    intro i v bw M h1 h2 h3 hJ
    simp (disch := first | omega | assumption) only [zO, zA, zAs, true_and, and_true, and_self, false_and, and_false, true_or, or_true, false_or, or_false, Nat.reduceLT, Nat.reduceLeDiff, Nat.reduceEqDiff, Nat.reduceAdd, Nat.reduceSub, not_false_eq_true, not_true_eq_false, Int.cast_ofNat_Int, Int.reduceNatCast', Int.reduceToNat, Int.reduceAdd, Int.reduceSub, Int.reduceMul, Int.reduceNeg, Int.reduceLT, Int.reduceLE, Int.reduceEq, ↓reduceIte, ne_eq, zu_at, zu_off, z32_id, z64_id, znl_i, znl_r, znl_t, zwd_nil, zwd_i, zwd_r, zwd_l, ztoL_some, ztoL_none, zite1, ite_not, zite10, zite10', zs_8, zs_9, zs_10, zs_11, zs_12, zs_13, zs_14, zs_15, zs_16, zs_17, zs_18, zs_19, zs_20, zs_21, zs_22, zs_23, zs_24, zs_25, zs_26, zs_27, zs_28, zs_29, zs_30, zs_31, zs_32, zs_33, zs_34, zs_35, zs_36, zs_37, zs_38, zs_39, zs_40, zs_41, zs_42, zs_43, zs_44, zs_45, zs_46, zs_47, zs_48, zs_49, zs_50, zs_51, zs_52, zs_53, zs_54, zs_55, zs_56, zs_57, zs_58, zs_59, zs_60, zs_61, zs_62, zs_63, zs_64, zs_65, zs_66, zs_67, zs_68, zs_69, zs_70, zs_71, zs_72, zs_73, zs_74, zs_75, zs_76, zs_77, zs_78, zs_79, zs_80, zs_81, zs_82, zs_83, zs_84, zs_85, zs_86, zs_87, zs_88, zs_89, zs_90, zs_91, zs_92, zs_93, zs_94, zs_95, zs_96, zs_97, zs_98, zs_99, zs_100, zs_101, zs_102, zs_103, zr_8_0, zr_8_1, zr_8_2, zr_8_3, zr_8_4, zr_8_5, zr_8_6, zr_8_7, zr_8_8, zr_8_9, zr_9_0, zr_11_0, zr_11_1, zr_11_2, zr_11_3, zr_15_0, zr_17_0, zr_17_1, zr_19_0, zr_19_1, zr_19_2, zr_19_3, zr_19_4, zr_19_5, zr_19_6, zr_19_7, zr_19_8, zr_19_9, zr_19_10, zr_19_11, zr_31_0, zr_31_1, zr_31_2, zr_31_3, zr_36_0, zr_36_1, zr_36_2, zr_64_0, zr_64_1, zr_64_2, zr_67_0, zr_67_1, zr_67_2, zr_81_0, zr_82_0, zr_82_1, zr_82_11, zr_82_12, zr_82_13, zr_82_14, zr_82_17, zr_82_18, zr_82_19, zr_82_20, zr_82_21, zr_82_23, zr_82_24, zr_82_25, zr_82_26, zr_82_27, zr_82_35, zr_82_37, zr_82_38, zr_82_40, zr_82_41, zr_37, zr_68, zite11, zem, zem', f_La_law_18, f_La_law_19, f_La_law_20, f_La_law_21, f_La_law_23, f_La_law_24, zs_1, zNltT, zNleT, zleF, zleT, zltF, zltT, zeqF, ↓reduceIte, zNeqF]
    exact zlaw_end
  | succ n ih =>
    intro i v bw M h1 h2 h3 hJ
    by_cases h : i + 7 ≤ L
    · rw [f_La_law_18]
      simp (disch := first | omega | assumption) only [zO, zA, zAs, true_and, and_true, and_self, false_and, and_false, true_or, or_true, false_or, or_false, Nat.reduceLT, Nat.reduceLeDiff, Nat.reduceEqDiff, Nat.reduceAdd, Nat.reduceSub, not_false_eq_true, not_true_eq_false, Int.cast_ofNat_Int, Int.reduceNatCast', Int.reduceToNat, Int.reduceAdd, Int.reduceSub, Int.reduceMul, Int.reduceNeg, Int.reduceLT, Int.reduceLE, Int.reduceEq, ↓reduceIte, ne_eq, zu_at, zu_off, z32_id, z64_id, znl_i, znl_r, znl_t, zwd_nil, zwd_i, zwd_r, zwd_l, ztoL_some, ztoL_none, zite1, ite_not, zite10, zite10', zs_8, zs_9, zs_10, zs_11, zs_12, zs_13, zs_14, zs_15, zs_16, zs_17, zs_18, zs_19, zs_20, zs_21, zs_22, zs_23, zs_24, zs_25, zs_26, zs_27, zs_28, zs_29, zs_30, zs_31, zs_32, zs_33, zs_34, zs_35, zs_36, zs_37, zs_38, zs_39, zs_40, zs_41, zs_42, zs_43, zs_44, zs_45, zs_46, zs_47, zs_48, zs_49, zs_50, zs_51, zs_52, zs_53, zs_54, zs_55, zs_56, zs_57, zs_58, zs_59, zs_60, zs_61, zs_62, zs_63, zs_64, zs_65, zs_66, zs_67, zs_68, zs_69, zs_70, zs_71, zs_72, zs_73, zs_74, zs_75, zs_76, zs_77, zs_78, zs_79, zs_80, zs_81, zs_82, zs_83, zs_84, zs_85, zs_86, zs_87, zs_88, zs_89, zs_90, zs_91, zs_92, zs_93, zs_94, zs_95, zs_96, zs_97, zs_98, zs_99, zs_100, zs_101, zs_102, zs_103, zr_8_0, zr_8_1, zr_8_2, zr_8_3, zr_8_4, zr_8_5, zr_8_6, zr_8_7, zr_8_8, zr_8_9, zr_9_0, zr_11_0, zr_11_1, zr_11_2, zr_11_3, zr_15_0, zr_17_0, zr_17_1, zr_19_0, zr_19_1, zr_19_2, zr_19_3, zr_19_4, zr_19_5, zr_19_6, zr_19_7, zr_19_8, zr_19_9, zr_19_10, zr_19_11, zr_31_0, zr_31_1, zr_31_2, zr_31_3, zr_36_0, zr_36_1, zr_36_2, zr_64_0, zr_64_1, zr_64_2, zr_67_0, zr_67_1, zr_67_2, zr_81_0, zr_82_0, zr_82_1, zr_82_11, zr_82_12, zr_82_13, zr_82_14, zr_82_17, zr_82_18, zr_82_19, zr_82_20, zr_82_21, zr_82_23, zr_82_24, zr_82_25, zr_82_26, zr_82_27, zr_82_35, zr_82_37, zr_82_38, zr_82_40, zr_82_41, zr_37, zr_68, zite11, zem, zem', f_La_law_19, f_La_law_20, f_La_law_21, f_La_law_23, f_La_law_24, f_La_law_27, f_La_law_28, f_La_law_29, f_La_law_30, f_La_law_32, zs_1, Int.toNat_natCast, zNltT, zNleT, zleF, zleT, zltF, zltT, zeqF, ↓reduceIte, zNeqF]
      rw [zand63]
      refine zlaw_case hd hL h (by omega) hJ ⟨by omega, by omega⟩ fun bw' M' hJ' => ?_
      rw [f_La_law_1879]
      refine ⟨rfl, ?_⟩
      rw [f_La_law_1882, show (i : Int) + 7 = ((i + 7 : Nat) : Int) by omega]
      exact ih (i + 7) (v + 1) bw' M' (by omega) (by omega) (by omega) hJ'
    · simp (disch := first | omega | assumption) only [zO, zA, zAs, true_and, and_true, and_self, false_and, and_false, true_or, or_true, false_or, or_false, Nat.reduceLT, Nat.reduceLeDiff, Nat.reduceEqDiff, Nat.reduceAdd, Nat.reduceSub, not_false_eq_true, not_true_eq_false, Int.cast_ofNat_Int, Int.reduceNatCast', Int.reduceToNat, Int.reduceAdd, Int.reduceSub, Int.reduceMul, Int.reduceNeg, Int.reduceLT, Int.reduceLE, Int.reduceEq, ↓reduceIte, ne_eq, zu_at, zu_off, z32_id, z64_id, znl_i, znl_r, znl_t, zwd_nil, zwd_i, zwd_r, zwd_l, ztoL_some, ztoL_none, zite1, ite_not, zite10, zite10', zs_8, zs_9, zs_10, zs_11, zs_12, zs_13, zs_14, zs_15, zs_16, zs_17, zs_18, zs_19, zs_20, zs_21, zs_22, zs_23, zs_24, zs_25, zs_26, zs_27, zs_28, zs_29, zs_30, zs_31, zs_32, zs_33, zs_34, zs_35, zs_36, zs_37, zs_38, zs_39, zs_40, zs_41, zs_42, zs_43, zs_44, zs_45, zs_46, zs_47, zs_48, zs_49, zs_50, zs_51, zs_52, zs_53, zs_54, zs_55, zs_56, zs_57, zs_58, zs_59, zs_60, zs_61, zs_62, zs_63, zs_64, zs_65, zs_66, zs_67, zs_68, zs_69, zs_70, zs_71, zs_72, zs_73, zs_74, zs_75, zs_76, zs_77, zs_78, zs_79, zs_80, zs_81, zs_82, zs_83, zs_84, zs_85, zs_86, zs_87, zs_88, zs_89, zs_90, zs_91, zs_92, zs_93, zs_94, zs_95, zs_96, zs_97, zs_98, zs_99, zs_100, zs_101, zs_102, zs_103, zr_8_0, zr_8_1, zr_8_2, zr_8_3, zr_8_4, zr_8_5, zr_8_6, zr_8_7, zr_8_8, zr_8_9, zr_9_0, zr_11_0, zr_11_1, zr_11_2, zr_11_3, zr_15_0, zr_17_0, zr_17_1, zr_19_0, zr_19_1, zr_19_2, zr_19_3, zr_19_4, zr_19_5, zr_19_6, zr_19_7, zr_19_8, zr_19_9, zr_19_10, zr_19_11, zr_31_0, zr_31_1, zr_31_2, zr_31_3, zr_36_0, zr_36_1, zr_36_2, zr_64_0, zr_64_1, zr_64_2, zr_67_0, zr_67_1, zr_67_2, zr_81_0, zr_82_0, zr_82_1, zr_82_11, zr_82_12, zr_82_13, zr_82_14, zr_82_17, zr_82_18, zr_82_19, zr_82_20, zr_82_21, zr_82_23, zr_82_24, zr_82_25, zr_82_26, zr_82_27, zr_82_35, zr_82_37, zr_82_38, zr_82_40, zr_82_41, zr_37, zr_68, zite11, zem, zem', f_La_law_18, f_La_law_19, f_La_law_20, f_La_law_21, f_La_law_23, f_La_law_24, zs_1, zNltT, zNleT, zleF, zleT, zltF, zltT, zeqF, ↓reduceIte, zNeqF]
      exact zlaw_end
end ZLoop
