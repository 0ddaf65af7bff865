/-! Fractions in lowest terms: both sides. -/
theorem zlcmp0 (a : Int) : zlcmp a 0 = if z64 a < 0 then -1 else if z64 a = 0 then 0 else 1 := rfl
theorem zlcmp_eq0 {a : Int} : z32 (zlcmp a 0) = 0 ↔ z64 a = 0 := by
  unfold zlcmp
  have : z64 0 = 0 := by decide
  rw [this]
  by_cases h : z64 a < 0
  · rw [if_pos h]; exact ⟨fun z => absurd z (by decide), fun z => by omega⟩
  · rw [if_neg h]
    by_cases h2 : z64 a = 0
    · rw [if_pos h2]; exact ⟨fun _ => h2, fun _ => by decide⟩
    · rw [if_neg h2]; exact ⟨fun z => absurd z (by decide), fun z => absurd z h2⟩
theorem zlcmp_gt0 {a : Int} : 0 < z32 (zlcmp a 0) ↔ 0 < z64 a := by
  unfold zlcmp
  have : z64 0 = 0 := by decide
  rw [this]
  by_cases h : z64 a < 0
  · rw [if_pos h]; exact ⟨fun z => absurd z (by decide), fun z => by omega⟩
  · rw [if_neg h]
    by_cases h2 : z64 a = 0
    · rw [if_pos h2]; exact ⟨fun z => absurd z (by decide), fun z => by omega⟩
    · rw [if_neg h2]; exact ⟨fun _ => by omega, fun _ => by decide⟩
theorem zlcmp_ge0 {a : Int} : 0 ≤ z32 (zlcmp a 0) ↔ 0 ≤ z64 a := by
  unfold zlcmp
  have : z64 0 = 0 := by decide
  rw [this]
  by_cases h : z64 a < 0
  · rw [if_pos h]; exact ⟨fun z => absurd z (by decide), fun z => by omega⟩
  · rw [if_neg h]
    by_cases h2 : z64 a = 0
    · rw [if_pos h2]; exact ⟨fun _ => by omega, fun _ => by decide⟩
    · rw [if_neg h2]; exact ⟨fun _ => by omega, fun _ => by decide⟩
theorem zlrem_nat {a b : Nat} (ha : a < 9223372036854775808) (hb : b < 9223372036854775808) : zlrem (a : Int) (b : Int) = ((a % b : Nat) : Int) := by
  unfold zlrem
  rw [z64_id (by omega) (by omega), z64_id (by omega) (by omega), Int.tmod_eq_emod_of_nonneg (by omega)]
  rfl
theorem zhalf (b r : Nat) (h : r < b) (h0 : 0 < r) : 2 * (b % r) < b := by
  have h1 := Nat.mod_lt b h0
  by_cases h2 : 2 * r ≤ b
  · omega
  · have : b % r = b - r := by rw [Nat.mod_eq_sub_mod (by omega), Nat.mod_eq_of_lt (by omega)]
    omega
section ZFr
variable {d L : Nat} {bw : Bool} {M : zM} {Q : Option zV → zW → zM → Prop} {w : zW} {p : Int}
set_option maxRecDepth 30000 in
theorem C_shared_end {x y t : Int} {a : Nat} {v9 v10 : zV} : zF d x_We_greatestShared 9 [zl x, zt, zl y, zt, zl (a : Int), zt, zl 0, zt, zi t, v9, v10] [] w M Q ↔ Q (some (zl (a : Int))) w M := by
  have h0 : z64 0 = 0 := by decide
  rw [f_We_greatestShared_9]
  simp (disch := first | omega | assumption) only [zO, zA, zAs, true_and, and_true, and_self, false_and, and_false, true_or, or_true, false_or, or_false, Nat.reduceLT, Nat.reduceLeDiff, Nat.reduceEqDiff, Nat.reduceAdd, Nat.reduceSub, not_false_eq_true, not_true_eq_false, Int.cast_ofNat_Int, Int.reduceNatCast', Int.reduceToNat, Int.reduceAdd, Int.reduceSub, Int.reduceMul, Int.reduceNeg, Int.reduceLT, Int.reduceLE, Int.reduceEq, ↓reduceIte, ne_eq, zu_at, zu_off, z32_id, z64_id, znl_i, znl_r, znl_t, zwd_nil, zwd_i, zwd_r, zwd_l, ztoL_some, ztoL_none, zite1, ite_not, zite10, zite10', zs_8, zs_9, zs_10, zs_11, zs_12, zs_13, zs_14, zs_15, zs_16, zs_17, zs_18, zs_19, zs_20, zs_21, zs_22, zs_23, zs_24, zs_25, zs_26, zs_27, zs_28, zs_29, zs_30, zs_31, zs_32, zs_33, zs_34, zs_35, zs_36, zs_37, zs_38, zs_39, zs_40, zs_41, zs_42, zs_43, zs_44, zs_45, zs_46, zs_47, zs_48, zs_49, zs_50, zs_51, zs_52, zs_53, zs_54, zs_55, zs_56, zs_57, zs_58, zs_59, zs_60, zs_61, zs_62, zs_63, zs_64, zs_65, zs_66, zs_67, zs_68, zs_69, zs_70, zs_71, zs_72, zs_73, zs_74, zs_75, zs_76, zs_77, zs_78, zs_79, zs_80, zs_81, zs_82, zs_83, zs_84, zs_85, zs_86, zs_87, zs_88, zs_89, zs_90, zs_91, zs_92, zs_93, zs_94, zs_95, zs_96, zs_97, zs_98, zs_99, zs_100, zs_101, zs_102, zs_103, zr_8_0, zr_8_1, zr_8_2, zr_8_3, zr_8_4, zr_8_5, zr_8_6, zr_8_7, zr_8_8, zr_8_9, zr_9_0, zr_11_0, zr_11_1, zr_11_2, zr_11_3, zr_15_0, zr_17_0, zr_17_1, zr_19_0, zr_19_1, zr_19_2, zr_19_3, zr_19_4, zr_19_5, zr_19_6, zr_19_7, zr_19_8, zr_19_9, zr_19_10, zr_19_11, zr_31_0, zr_31_1, zr_31_2, zr_31_3, zr_36_0, zr_36_1, zr_36_2, zr_64_0, zr_64_1, zr_64_2, zr_67_0, zr_67_1, zr_67_2, zr_81_0, zr_82_0, zr_82_1, zr_82_11, zr_82_12, zr_82_13, zr_82_14, zr_82_17, zr_82_18, zr_82_19, zr_82_20, zr_82_21, zr_82_23, zr_82_24, zr_82_25, zr_82_26, zr_82_27, zr_82_35, zr_82_37, zr_82_38, zr_82_40, zr_82_41, zr_37, zr_68, zite11, zem, zem', f_We_greatestShared_0, f_We_greatestShared_1, f_We_greatestShared_3, f_We_greatestShared_4, f_We_greatestShared_6, f_We_greatestShared_7, f_We_greatestShared_11, f_We_greatestShared_13, f_We_greatestShared_16, f_We_greatestShared_18, f_We_greatestShared_19, f_We_greatestShared_20, f_We_greatestShared_23, f_We_greatestShared_25, f_We_greatestShared_27, f_We_greatestShared_28, f_We_greatestShared_30, f_We_greatestShared_32, f_We_greatestShared_34, f_We_greatestShared_36, f_We_greatestShared_38, f_We_greatestShared_41, f_We_greatestShared_44, f_We_greatestShared_46, zlcmp_eq0, h0]
  split <;> rfl
set_option maxRecDepth 30000 in
theorem C_shared_step {x y t : Int} {a b : Nat} {v9 v10 : zV} (ha : a < 9223372036854775808) (hb : b < 9223372036854775808) (hb0 : 0 < b) (ht : 0 ≤ t ∧ t < 100) : zF d x_We_greatestShared 9 [zl x, zt, zl y, zt, zl (a : Int), zt, zl (b : Int), zt, zi t, v9, v10] [] w M Q ↔ zF d x_We_greatestShared 9 [zl x, zt, zl y, zt, zl (b : Int), zt, zl ((a % b : Nat) : Int), zt, zi (t + 1), zl ((a % b : Nat) : Int), zt] [] w M Q := by
  have e := zlrem_nat ha hb
  rw [f_We_greatestShared_9]
  simp (disch := first | omega | assumption) only [zO, zA, zAs, true_and, and_true, and_self, false_and, and_false, true_or, or_true, false_or, or_false, Nat.reduceLT, Nat.reduceLeDiff, Nat.reduceEqDiff, Nat.reduceAdd, Nat.reduceSub, not_false_eq_true, not_true_eq_false, Int.cast_ofNat_Int, Int.reduceNatCast', Int.reduceToNat, Int.reduceAdd, Int.reduceSub, Int.reduceMul, Int.reduceNeg, Int.reduceLT, Int.reduceLE, Int.reduceEq, ↓reduceIte, ne_eq, zu_at, zu_off, z32_id, z64_id, znl_i, znl_r, znl_t, zwd_nil, zwd_i, zwd_r, zwd_l, ztoL_some, ztoL_none, zite1, ite_not, zite10, zite10', zs_8, zs_9, zs_10, zs_11, zs_12, zs_13, zs_14, zs_15, zs_16, zs_17, zs_18, zs_19, zs_20, zs_21, zs_22, zs_23, zs_24, zs_25, zs_26, zs_27, zs_28, zs_29, zs_30, zs_31, zs_32, zs_33, zs_34, zs_35, zs_36, zs_37, zs_38, zs_39, zs_40, zs_41, zs_42, zs_43, zs_44, zs_45, zs_46, zs_47, zs_48, zs_49, zs_50, zs_51, zs_52, zs_53, zs_54, zs_55, zs_56, zs_57, zs_58, zs_59, zs_60, zs_61, zs_62, zs_63, zs_64, zs_65, zs_66, zs_67, zs_68, zs_69, zs_70, zs_71, zs_72, zs_73, zs_74, zs_75, zs_76, zs_77, zs_78, zs_79, zs_80, zs_81, zs_82, zs_83, zs_84, zs_85, zs_86, zs_87, zs_88, zs_89, zs_90, zs_91, zs_92, zs_93, zs_94, zs_95, zs_96, zs_97, zs_98, zs_99, zs_100, zs_101, zs_102, zs_103, zr_8_0, zr_8_1, zr_8_2, zr_8_3, zr_8_4, zr_8_5, zr_8_6, zr_8_7, zr_8_8, zr_8_9, zr_9_0, zr_11_0, zr_11_1, zr_11_2, zr_11_3, zr_15_0, zr_17_0, zr_17_1, zr_19_0, zr_19_1, zr_19_2, zr_19_3, zr_19_4, zr_19_5, zr_19_6, zr_19_7, zr_19_8, zr_19_9, zr_19_10, zr_19_11, zr_31_0, zr_31_1, zr_31_2, zr_31_3, zr_36_0, zr_36_1, zr_36_2, zr_64_0, zr_64_1, zr_64_2, zr_67_0, zr_67_1, zr_67_2, zr_81_0, zr_82_0, zr_82_1, zr_82_11, zr_82_12, zr_82_13, zr_82_14, zr_82_17, zr_82_18, zr_82_19, zr_82_20, zr_82_21, zr_82_23, zr_82_24, zr_82_25, zr_82_26, zr_82_27, zr_82_35, zr_82_37, zr_82_38, zr_82_40, zr_82_41, zr_37, zr_68, zite11, zem, zem', f_We_greatestShared_0, f_We_greatestShared_1, f_We_greatestShared_3, f_We_greatestShared_4, f_We_greatestShared_6, f_We_greatestShared_7, f_We_greatestShared_11, f_We_greatestShared_13, f_We_greatestShared_16, f_We_greatestShared_18, f_We_greatestShared_19, f_We_greatestShared_20, f_We_greatestShared_23, f_We_greatestShared_25, f_We_greatestShared_27, f_We_greatestShared_28, f_We_greatestShared_30, f_We_greatestShared_32, f_We_greatestShared_34, f_We_greatestShared_36, f_We_greatestShared_38, f_We_greatestShared_41, f_We_greatestShared_44, f_We_greatestShared_46, zlcmp_eq0, e, zNltT, zNleT, zleF, zleT, zltF, zltT, zeqF, ↓reduceIte, zNeqF]
set_option maxRecDepth 30000 in
theorem C_shared_loop {x y : Int} : ∀ (k : Nat) (a b : Nat) (t : Int) (v9 v10 : zV), a < 4611686018427387904 → b < 2 ^ k → k ≤ 40 → 0 ≤ t → t + 2 * k ≤ 98 →
    (zF d x_We_greatestShared 9 [zl x, zt, zl y, zt, zl (a : Int), zt, zl (b : Int), zt, zi t, v9, v10] [] w M Q ↔ Q (some (zl (Nat.gcd a b : Int))) w M) := by
  intro k
  induction k with
  | zero =>
    intro a b t v9 v10 ha hb hk ht ht2
    obtain rfl : b = 0 := by omega
    rw [show ((0 : Nat) : Int) = 0 from rfl, C_shared_end, Nat.gcd_zero_right]
  | succ k ih =>
    intro a b t v9 v10 ha hb hk ht ht2
    have h40 : 2 ^ (k + 1) ≤ 2 ^ 40 := Nat.pow_le_pow_right (by decide) hk
    have h401 : (2 : Nat) ^ 40 = 1099511627776 := by decide
    by_cases h1 : b = 0
    · subst h1
      rw [show ((0 : Nat) : Int) = 0 from rfl, C_shared_end, Nat.gcd_zero_right]
    · rw [C_shared_step (by omega) (by omega) (by omega) (by omega), Nat.gcd_comm a b, Nat.gcd_rec b a]
      have h2 := Nat.mod_lt a (show 0 < b by omega)
      generalize a % b = r at *
      rw [Nat.gcd_comm r b]
      by_cases h3 : r = 0
      · subst h3
        rw [show ((0 : Nat) : Int) = 0 from rfl, C_shared_end, Nat.gcd_zero_right]
      · have h4 := zhalf b r h2 (by omega)
        rw [C_shared_step (by omega) (by omega) (by omega) (by omega), Nat.gcd_comm b r, Nat.gcd_rec r b, Nat.gcd_comm (b % r) r]
        exact ih _ _ _ _ _ (by omega) (by rw [Nat.pow_succ] at hb; omega) (by omega) (by omega) (by omega)
theorem zlabs_abs {u : Int} (h : -4611686018427387904 < u) (h2 : u < 4611686018427387904) : zlabs u = (u.natAbs : Int) := by
  unfold zlabs
  rw [z64_id (by omega) (by omega)]
  split <;> omega
-- the part of u / l in lowest terms
def zLow (u l p : Int) : Int := if p = 0 then Int.tdiv u (Nat.gcd u.natAbs l.toNat) else Int.tdiv l (Nat.gcd u.natAbs l.toNat)
theorem zldiv_id {u g : Int} (h : -4611686018427387904 < u) (h2 : u < 4611686018427387904) (h3 : 0 ≤ g) (h4 : g < 4611686018427387904) : zldiv u g = Int.tdiv u g := by
  unfold zldiv
  rw [z64_id (by omega) (by omega), z64_id (by omega) (by omega)]
set_option maxRecDepth 30000 in
theorem C_lowest (hd : 20 ≤ d) {u l : Int} (h : -4611686018427387904 < u) (h2 : u < 4611686018427387904) (h3 : 0 < l) (h4 : l < 1099511627776) (hp : z32 p = p) : zF d x_We_inLowestTerms 0 [zl u, zt, zl l, zt, zi p, zt, zt] [] w M Q ↔ Q (some (zl (zLow u l p))) w M := by
  have e1 := zlabs_abs h h2
  obtain ⟨n, rfl⟩ := Int.eq_ofNat_of_zero_le (show 0 ≤ l by omega)
  have h401 : (2 : Nat) ^ 40 = 1099511627776 := by decide
  have e2 := fun Q => C_shared_loop (d := d - 1) (w := w) (M := M) (Q := Q) (x := (u.natAbs : Int)) (y := (n : Int)) 40 u.natAbs n 0 zt zt (by omega) (by omega) (by decide) (by decide) (by decide)
  have g1 : 0 < Nat.gcd u.natAbs n := Nat.gcd_pos_of_pos_right _ (by omega)
  have g2 : Nat.gcd u.natAbs n ≤ n := Nat.gcd_le_right _ (by omega)
  have d1 := zldiv_id h h2 (g := (Nat.gcd u.natAbs n : Int)) (by omega) (by omega)
  have d2 := zldiv_id (u := (n : Int)) (g := (Nat.gcd u.natAbs n : Int)) (by omega) (by omega) (by omega) (by omega)
  simp (disch := first | omega | assumption) only [zO, zA, zAs, true_and, and_true, and_self, false_and, and_false, true_or, or_true, false_or, or_false, Nat.reduceLT, Nat.reduceLeDiff, Nat.reduceEqDiff, Nat.reduceAdd, Nat.reduceSub, not_false_eq_true, not_true_eq_false, Int.cast_ofNat_Int, Int.reduceNatCast', Int.reduceToNat, Int.reduceAdd, Int.reduceSub, Int.reduceMul, Int.reduceNeg, Int.reduceLT, Int.reduceLE, Int.reduceEq, ↓reduceIte, ne_eq, zu_at, zu_off, z32_id, z64_id, znl_i, znl_r, znl_t, zwd_nil, zwd_i, zwd_r, zwd_l, ztoL_some, ztoL_none, zite1, ite_not, zite10, zite10', zs_8, zs_9, zs_10, zs_11, zs_12, zs_13, zs_14, zs_15, zs_16, zs_17, zs_18, zs_19, zs_20, zs_21, zs_22, zs_23, zs_24, zs_25, zs_26, zs_27, zs_28, zs_29, zs_30, zs_31, zs_32, zs_33, zs_34, zs_35, zs_36, zs_37, zs_38, zs_39, zs_40, zs_41, zs_42, zs_43, zs_44, zs_45, zs_46, zs_47, zs_48, zs_49, zs_50, zs_51, zs_52, zs_53, zs_54, zs_55, zs_56, zs_57, zs_58, zs_59, zs_60, zs_61, zs_62, zs_63, zs_64, zs_65, zs_66, zs_67, zs_68, zs_69, zs_70, zs_71, zs_72, zs_73, zs_74, zs_75, zs_76, zs_77, zs_78, zs_79, zs_80, zs_81, zs_82, zs_83, zs_84, zs_85, zs_86, zs_87, zs_88, zs_89, zs_90, zs_91, zs_92, zs_93, zs_94, zs_95, zs_96, zs_97, zs_98, zs_99, zs_100, zs_101, zs_102, zs_103, zr_8_0, zr_8_1, zr_8_2, zr_8_3, zr_8_4, zr_8_5, zr_8_6, zr_8_7, zr_8_8, zr_8_9, zr_9_0, zr_11_0, zr_11_1, zr_11_2, zr_11_3, zr_15_0, zr_17_0, zr_17_1, zr_19_0, zr_19_1, zr_19_2, zr_19_3, zr_19_4, zr_19_5, zr_19_6, zr_19_7, zr_19_8, zr_19_9, zr_19_10, zr_19_11, zr_31_0, zr_31_1, zr_31_2, zr_31_3, zr_36_0, zr_36_1, zr_36_2, zr_64_0, zr_64_1, zr_64_2, zr_67_0, zr_67_1, zr_67_2, zr_81_0, zr_82_0, zr_82_1, zr_82_11, zr_82_12, zr_82_13, zr_82_14, zr_82_17, zr_82_18, zr_82_19, zr_82_20, zr_82_21, zr_82_23, zr_82_24, zr_82_25, zr_82_26, zr_82_27, zr_82_35, zr_82_37, zr_82_38, zr_82_40, zr_82_41, zr_37, zr_68, zite11, zem, zem', f_We_inLowestTerms_0, f_We_inLowestTerms_1, f_We_inLowestTerms_4, f_We_inLowestTerms_5, f_We_inLowestTerms_8, f_We_inLowestTerms_10, f_We_inLowestTerms_12, f_We_inLowestTerms_13, f_We_inLowestTerms_14, f_We_inLowestTerms_17, f_We_inLowestTerms_20, f_We_inLowestTerms_21, f_We_inLowestTerms_23, f_We_inLowestTerms_26, f_We_inLowestTerms_27, f_We_inLowestTerms_29, f_We_inLowestTerms_30, f_We_inLowestTerms_33, f_We_inLowestTerms_34, f_We_inLowestTerms_36, f_We_inLowestTerms_37, f_We_greatestShared_0, f_We_greatestShared_1, f_We_greatestShared_3, f_We_greatestShared_4, f_We_greatestShared_6, f_We_greatestShared_7, f_We_greatestShared_11, f_We_greatestShared_13, f_We_greatestShared_16, f_We_greatestShared_18, f_We_greatestShared_19, f_We_greatestShared_20, f_We_greatestShared_23, f_We_greatestShared_25, f_We_greatestShared_27, f_We_greatestShared_28, f_We_greatestShared_30, f_We_greatestShared_32, f_We_greatestShared_34, f_We_greatestShared_36, f_We_greatestShared_38, f_We_greatestShared_41, f_We_greatestShared_44, f_We_greatestShared_46, e1, e2, zlcmp_gt0, hp, d1, d2, zNltT, zNleT, zleF, zleT, zltF, zltT, zeqF, ↓reduceIte, zNeqF]
  unfold zLow
  rw [show ((n : Int)).toNat = n from rfl]
  split <;> rfl
set_option maxRecDepth 30000 in
theorem M_common_loop {x y : Int} : ∀ (b a : Nat) (v8 v9 : zV), a < 4611686018427387904 → b < 4611686018427387904 →
    (zF d x_Mo_common 17 [zl x, zt, zl y, zt, zl (a : Int), zt, zl (b : Int), zt, v8, v9] [] w M Q ↔ Q (some (zl (Nat.gcd a b : Int))) w M) := by
  intro b
  induction b using Nat.strongRecOn with
  | ind b ih =>
    intro a v8 v9 ha hb
    rw [f_Mo_common_17]
    by_cases h1 : b = 0
    · subst h1
      have h0 : z64 ((0 : Nat) : Int) = 0 := by decide
      simp (disch := first | omega | assumption) only [zO, zA, zAs, true_and, and_true, and_self, false_and, and_false, true_or, or_true, false_or, or_false, Nat.reduceLT, Nat.reduceLeDiff, Nat.reduceEqDiff, Nat.reduceAdd, Nat.reduceSub, not_false_eq_true, not_true_eq_false, Int.cast_ofNat_Int, Int.reduceNatCast', Int.reduceToNat, Int.reduceAdd, Int.reduceSub, Int.reduceMul, Int.reduceNeg, Int.reduceLT, Int.reduceLE, Int.reduceEq, ↓reduceIte, ne_eq, zu_at, zu_off, z32_id, z64_id, znl_i, znl_r, znl_t, zwd_nil, zwd_i, zwd_r, zwd_l, ztoL_some, ztoL_none, zite1, ite_not, zite10, zite10', zs_8, zs_9, zs_10, zs_11, zs_12, zs_13, zs_14, zs_15, zs_16, zs_17, zs_18, zs_19, zs_20, zs_21, zs_22, zs_23, zs_24, zs_25, zs_26, zs_27, zs_28, zs_29, zs_30, zs_31, zs_32, zs_33, zs_34, zs_35, zs_36, zs_37, zs_38, zs_39, zs_40, zs_41, zs_42, zs_43, zs_44, zs_45, zs_46, zs_47, zs_48, zs_49, zs_50, zs_51, zs_52, zs_53, zs_54, zs_55, zs_56, zs_57, zs_58, zs_59, zs_60, zs_61, zs_62, zs_63, zs_64, zs_65, zs_66, zs_67, zs_68, zs_69, zs_70, zs_71, zs_72, zs_73, zs_74, zs_75, zs_76, zs_77, zs_78, zs_79, zs_80, zs_81, zs_82, zs_83, zs_84, zs_85, zs_86, zs_87, zs_88, zs_89, zs_90, zs_91, zs_92, zs_93, zs_94, zs_95, zs_96, zs_97, zs_98, zs_99, zs_100, zs_101, zs_102, zs_103, zr_8_0, zr_8_1, zr_8_2, zr_8_3, zr_8_4, zr_8_5, zr_8_6, zr_8_7, zr_8_8, zr_8_9, zr_9_0, zr_11_0, zr_11_1, zr_11_2, zr_11_3, zr_15_0, zr_17_0, zr_17_1, zr_19_0, zr_19_1, zr_19_2, zr_19_3, zr_19_4, zr_19_5, zr_19_6, zr_19_7, zr_19_8, zr_19_9, zr_19_10, zr_19_11, zr_31_0, zr_31_1, zr_31_2, zr_31_3, zr_36_0, zr_36_1, zr_36_2, zr_64_0, zr_64_1, zr_64_2, zr_67_0, zr_67_1, zr_67_2, zr_81_0, zr_82_0, zr_82_1, zr_82_11, zr_82_12, zr_82_13, zr_82_14, zr_82_17, zr_82_18, zr_82_19, zr_82_20, zr_82_21, zr_82_23, zr_82_24, zr_82_25, zr_82_26, zr_82_27, zr_82_35, zr_82_37, zr_82_38, zr_82_40, zr_82_41, zr_37, zr_68, zite11, zem, zem', f_Mo_common_0, f_Mo_common_1, f_Mo_common_2, f_Mo_common_3, f_Mo_common_6, f_Mo_common_7, f_Mo_common_8, f_Mo_common_11, f_Mo_common_12, f_Mo_common_14, f_Mo_common_15, f_Mo_common_19, f_Mo_common_20, f_Mo_common_21, f_Mo_common_24, f_Mo_common_26, f_Mo_common_28, f_Mo_common_29, f_Mo_common_31, f_Mo_common_33, f_Mo_common_35, f_Mo_common_37, f_Mo_common_39, f_Mo_common_42, f_Mo_common_44, zlcmp_eq0, h0, zNltT, zNleT, zleF, zleT, zltF, zltT, zeqF, ↓reduceIte, zNeqF]
      rw [Nat.gcd_zero_right]
    · have e := zlrem_nat (a := a) (b := b) (by omega) (by omega)
      have h2 := Nat.mod_lt a (show 0 < b by omega)
      simp (disch := first | omega | assumption) only [zO, zA, zAs, true_and, and_true, and_self, false_and, and_false, true_or, or_true, false_or, or_false, Nat.reduceLT, Nat.reduceLeDiff, Nat.reduceEqDiff, Nat.reduceAdd, Nat.reduceSub, not_false_eq_true, not_true_eq_false, Int.cast_ofNat_Int, Int.reduceNatCast', Int.reduceToNat, Int.reduceAdd, Int.reduceSub, Int.reduceMul, Int.reduceNeg, Int.reduceLT, Int.reduceLE, Int.reduceEq, ↓reduceIte, ne_eq, zu_at, zu_off, z32_id, z64_id, znl_i, znl_r, znl_t, zwd_nil, zwd_i, zwd_r, zwd_l, ztoL_some, ztoL_none, zite1, ite_not, zite10, zite10', zs_8, zs_9, zs_10, zs_11, zs_12, zs_13, zs_14, zs_15, zs_16, zs_17, zs_18, zs_19, zs_20, zs_21, zs_22, zs_23, zs_24, zs_25, zs_26, zs_27, zs_28, zs_29, zs_30, zs_31, zs_32, zs_33, zs_34, zs_35, zs_36, zs_37, zs_38, zs_39, zs_40, zs_41, zs_42, zs_43, zs_44, zs_45, zs_46, zs_47, zs_48, zs_49, zs_50, zs_51, zs_52, zs_53, zs_54, zs_55, zs_56, zs_57, zs_58, zs_59, zs_60, zs_61, zs_62, zs_63, zs_64, zs_65, zs_66, zs_67, zs_68, zs_69, zs_70, zs_71, zs_72, zs_73, zs_74, zs_75, zs_76, zs_77, zs_78, zs_79, zs_80, zs_81, zs_82, zs_83, zs_84, zs_85, zs_86, zs_87, zs_88, zs_89, zs_90, zs_91, zs_92, zs_93, zs_94, zs_95, zs_96, zs_97, zs_98, zs_99, zs_100, zs_101, zs_102, zs_103, zr_8_0, zr_8_1, zr_8_2, zr_8_3, zr_8_4, zr_8_5, zr_8_6, zr_8_7, zr_8_8, zr_8_9, zr_9_0, zr_11_0, zr_11_1, zr_11_2, zr_11_3, zr_15_0, zr_17_0, zr_17_1, zr_19_0, zr_19_1, zr_19_2, zr_19_3, zr_19_4, zr_19_5, zr_19_6, zr_19_7, zr_19_8, zr_19_9, zr_19_10, zr_19_11, zr_31_0, zr_31_1, zr_31_2, zr_31_3, zr_36_0, zr_36_1, zr_36_2, zr_64_0, zr_64_1, zr_64_2, zr_67_0, zr_67_1, zr_67_2, zr_81_0, zr_82_0, zr_82_1, zr_82_11, zr_82_12, zr_82_13, zr_82_14, zr_82_17, zr_82_18, zr_82_19, zr_82_20, zr_82_21, zr_82_23, zr_82_24, zr_82_25, zr_82_26, zr_82_27, zr_82_35, zr_82_37, zr_82_38, zr_82_40, zr_82_41, zr_37, zr_68, zite11, zem, zem', f_Mo_common_0, f_Mo_common_1, f_Mo_common_2, f_Mo_common_3, f_Mo_common_6, f_Mo_common_7, f_Mo_common_8, f_Mo_common_11, f_Mo_common_12, f_Mo_common_14, f_Mo_common_15, f_Mo_common_19, f_Mo_common_20, f_Mo_common_21, f_Mo_common_24, f_Mo_common_26, f_Mo_common_28, f_Mo_common_29, f_Mo_common_31, f_Mo_common_33, f_Mo_common_35, f_Mo_common_37, f_Mo_common_39, f_Mo_common_42, f_Mo_common_44, zlcmp_eq0, e, zNltT, zNleT, zleF, zleT, zltF, zltT, zeqF, ↓reduceIte, zNeqF]
      rw [ih (a % b) h2 _ _ _ (by omega) (by omega), Nat.gcd_comm a b, Nat.gcd_rec b a, Nat.gcd_comm (a % b) b]
set_option maxRecDepth 30000 in
theorem M_partOf (hd : 2 ≤ d) {u l : Int} (h : -4611686018427387904 < u) (h2 : u < 4611686018427387904) (h3 : 0 < l) (h4 : l < 4611686018427387904) (hp : z32 p = p) : zF d x_Mo_partOf 0 [zl u, zt, zl l, zt, zi p, zt, zt] [] w M Q ↔ Q (some (zl (zLow u l p))) w M := by
  obtain ⟨n, rfl⟩ := Int.eq_ofNat_of_zero_le (show 0 ≤ l by omega)
  have e2 := fun Q => M_common_loop (d := d - 1) (w := w) (M := M) (Q := Q) (x := u) (y := (n : Int)) n u.natAbs zt zt (by omega) (by omega)
  have g1 : 0 < Nat.gcd u.natAbs n := Nat.gcd_pos_of_pos_right _ (by omega)
  have g2 : Nat.gcd u.natAbs n ≤ n := Nat.gcd_le_right _ (by omega)
  have d1 := zldiv_id h h2 (g := (Nat.gcd u.natAbs n : Int)) (by omega) (by omega)
  have d2 := zldiv_id (u := (n : Int)) (g := (Nat.gcd u.natAbs n : Int)) (by omega) (by omega) (by omega) (by omega)
  have ez := z64_id (a := u) (by omega) (by omega)
  have hend : zF (d - 1) x_Mo_common 12 [zl u, zt, zl (n : Int), zt, zt, zt, zt, zt, zt, zt] [zl (u.natAbs : Int)] w M (fun v w' M' => zF d x_Mo_partOf 5 [zl u, zt, zl (n : Int), zt, zi p, zt, zt] (v.toList ++ []) w' M' Q) ↔ Q (some (zl (zLow u n p))) w M := by
    simp (disch := first | omega | assumption) only [zO, zA, zAs, true_and, and_true, and_self, false_and, and_false, true_or, or_true, false_or, or_false, Nat.reduceLT, Nat.reduceLeDiff, Nat.reduceEqDiff, Nat.reduceAdd, Nat.reduceSub, not_false_eq_true, not_true_eq_false, Int.cast_ofNat_Int, Int.reduceNatCast', Int.reduceToNat, Int.reduceAdd, Int.reduceSub, Int.reduceMul, Int.reduceNeg, Int.reduceLT, Int.reduceLE, Int.reduceEq, ↓reduceIte, ne_eq, zu_at, zu_off, z32_id, z64_id, znl_i, znl_r, znl_t, zwd_nil, zwd_i, zwd_r, zwd_l, ztoL_some, ztoL_none, zite1, ite_not, zite10, zite10', zs_8, zs_9, zs_10, zs_11, zs_12, zs_13, zs_14, zs_15, zs_16, zs_17, zs_18, zs_19, zs_20, zs_21, zs_22, zs_23, zs_24, zs_25, zs_26, zs_27, zs_28, zs_29, zs_30, zs_31, zs_32, zs_33, zs_34, zs_35, zs_36, zs_37, zs_38, zs_39, zs_40, zs_41, zs_42, zs_43, zs_44, zs_45, zs_46, zs_47, zs_48, zs_49, zs_50, zs_51, zs_52, zs_53, zs_54, zs_55, zs_56, zs_57, zs_58, zs_59, zs_60, zs_61, zs_62, zs_63, zs_64, zs_65, zs_66, zs_67, zs_68, zs_69, zs_70, zs_71, zs_72, zs_73, zs_74, zs_75, zs_76, zs_77, zs_78, zs_79, zs_80, zs_81, zs_82, zs_83, zs_84, zs_85, zs_86, zs_87, zs_88, zs_89, zs_90, zs_91, zs_92, zs_93, zs_94, zs_95, zs_96, zs_97, zs_98, zs_99, zs_100, zs_101, zs_102, zs_103, zr_8_0, zr_8_1, zr_8_2, zr_8_3, zr_8_4, zr_8_5, zr_8_6, zr_8_7, zr_8_8, zr_8_9, zr_9_0, zr_11_0, zr_11_1, zr_11_2, zr_11_3, zr_15_0, zr_17_0, zr_17_1, zr_19_0, zr_19_1, zr_19_2, zr_19_3, zr_19_4, zr_19_5, zr_19_6, zr_19_7, zr_19_8, zr_19_9, zr_19_10, zr_19_11, zr_31_0, zr_31_1, zr_31_2, zr_31_3, zr_36_0, zr_36_1, zr_36_2, zr_64_0, zr_64_1, zr_64_2, zr_67_0, zr_67_1, zr_67_2, zr_81_0, zr_82_0, zr_82_1, zr_82_11, zr_82_12, zr_82_13, zr_82_14, zr_82_17, zr_82_18, zr_82_19, zr_82_20, zr_82_21, zr_82_23, zr_82_24, zr_82_25, zr_82_26, zr_82_27, zr_82_35, zr_82_37, zr_82_38, zr_82_40, zr_82_41, zr_37, zr_68, zite11, zem, zem', f_Mo_partOf_0, f_Mo_partOf_1, f_Mo_partOf_2, f_Mo_partOf_5, f_Mo_partOf_7, f_Mo_partOf_9, f_Mo_partOf_12, f_Mo_partOf_13, f_Mo_partOf_15, f_Mo_partOf_16, f_Mo_partOf_19, f_Mo_partOf_20, f_Mo_partOf_22, f_Mo_partOf_23, f_Mo_common_0, f_Mo_common_1, f_Mo_common_2, f_Mo_common_3, f_Mo_common_6, f_Mo_common_7, f_Mo_common_8, f_Mo_common_11, f_Mo_common_12, f_Mo_common_14, f_Mo_common_15, f_Mo_common_19, f_Mo_common_20, f_Mo_common_21, f_Mo_common_24, f_Mo_common_26, f_Mo_common_28, f_Mo_common_29, f_Mo_common_31, f_Mo_common_33, f_Mo_common_35, f_Mo_common_37, f_Mo_common_39, f_Mo_common_42, f_Mo_common_44, e2, hp, d1, d2, zNltT, zNleT, zleF, zleT, zltF, zltT, zeqF, ↓reduceIte, zNeqF]
    unfold zLow
    rw [show ((n : Int)).toNat = n from rfl]
    split <;> rfl
  rw [← hend]
  by_cases hu : 0 ≤ u
  · simp (disch := first | omega | assumption) only [zO, zA, zAs, true_and, and_true, and_self, false_and, and_false, true_or, or_true, false_or, or_false, Nat.reduceLT, Nat.reduceLeDiff, Nat.reduceEqDiff, Nat.reduceAdd, Nat.reduceSub, not_false_eq_true, not_true_eq_false, Int.cast_ofNat_Int, Int.reduceNatCast', Int.reduceToNat, Int.reduceAdd, Int.reduceSub, Int.reduceMul, Int.reduceNeg, Int.reduceLT, Int.reduceLE, Int.reduceEq, ↓reduceIte, ne_eq, zu_at, zu_off, z32_id, z64_id, znl_i, znl_r, znl_t, zwd_nil, zwd_i, zwd_r, zwd_l, ztoL_some, ztoL_none, zite1, ite_not, zite10, zite10', zs_8, zs_9, zs_10, zs_11, zs_12, zs_13, zs_14, zs_15, zs_16, zs_17, zs_18, zs_19, zs_20, zs_21, zs_22, zs_23, zs_24, zs_25, zs_26, zs_27, zs_28, zs_29, zs_30, zs_31, zs_32, zs_33, zs_34, zs_35, zs_36, zs_37, zs_38, zs_39, zs_40, zs_41, zs_42, zs_43, zs_44, zs_45, zs_46, zs_47, zs_48, zs_49, zs_50, zs_51, zs_52, zs_53, zs_54, zs_55, zs_56, zs_57, zs_58, zs_59, zs_60, zs_61, zs_62, zs_63, zs_64, zs_65, zs_66, zs_67, zs_68, zs_69, zs_70, zs_71, zs_72, zs_73, zs_74, zs_75, zs_76, zs_77, zs_78, zs_79, zs_80, zs_81, zs_82, zs_83, zs_84, zs_85, zs_86, zs_87, zs_88, zs_89, zs_90, zs_91, zs_92, zs_93, zs_94, zs_95, zs_96, zs_97, zs_98, zs_99, zs_100, zs_101, zs_102, zs_103, zr_8_0, zr_8_1, zr_8_2, zr_8_3, zr_8_4, zr_8_5, zr_8_6, zr_8_7, zr_8_8, zr_8_9, zr_9_0, zr_11_0, zr_11_1, zr_11_2, zr_11_3, zr_15_0, zr_17_0, zr_17_1, zr_19_0, zr_19_1, zr_19_2, zr_19_3, zr_19_4, zr_19_5, zr_19_6, zr_19_7, zr_19_8, zr_19_9, zr_19_10, zr_19_11, zr_31_0, zr_31_1, zr_31_2, zr_31_3, zr_36_0, zr_36_1, zr_36_2, zr_64_0, zr_64_1, zr_64_2, zr_67_0, zr_67_1, zr_67_2, zr_81_0, zr_82_0, zr_82_1, zr_82_11, zr_82_12, zr_82_13, zr_82_14, zr_82_17, zr_82_18, zr_82_19, zr_82_20, zr_82_21, zr_82_23, zr_82_24, zr_82_25, zr_82_26, zr_82_27, zr_82_35, zr_82_37, zr_82_38, zr_82_40, zr_82_41, zr_37, zr_68, zite11, zem, zem', f_Mo_partOf_0, f_Mo_partOf_1, f_Mo_partOf_2, f_Mo_partOf_7, f_Mo_partOf_9, f_Mo_partOf_12, f_Mo_partOf_13, f_Mo_partOf_15, f_Mo_partOf_16, f_Mo_partOf_19, f_Mo_partOf_20, f_Mo_partOf_22, f_Mo_partOf_23, f_Mo_common_0, f_Mo_common_1, f_Mo_common_2, f_Mo_common_3, f_Mo_common_6, f_Mo_common_7, f_Mo_common_8, f_Mo_common_11, f_Mo_common_14, f_Mo_common_15, f_Mo_common_19, f_Mo_common_20, f_Mo_common_21, f_Mo_common_24, f_Mo_common_26, f_Mo_common_28, f_Mo_common_29, f_Mo_common_31, f_Mo_common_33, f_Mo_common_35, f_Mo_common_37, f_Mo_common_39, f_Mo_common_42, f_Mo_common_44, zlcmp_ge0, ez, zNltT, zNleT, zleF, zleT, zltF, zltT, zeqF, ↓reduceIte, zNeqF]
    rw [show ((u.natAbs : Nat) : Int) = u by omega]
  · simp (disch := first | omega | assumption) only [zO, zA, zAs, true_and, and_true, and_self, false_and, and_false, true_or, or_true, false_or, or_false, Nat.reduceLT, Nat.reduceLeDiff, Nat.reduceEqDiff, Nat.reduceAdd, Nat.reduceSub, not_false_eq_true, not_true_eq_false, Int.cast_ofNat_Int, Int.reduceNatCast', Int.reduceToNat, Int.reduceAdd, Int.reduceSub, Int.reduceMul, Int.reduceNeg, Int.reduceLT, Int.reduceLE, Int.reduceEq, ↓reduceIte, ne_eq, zu_at, zu_off, z32_id, z64_id, znl_i, znl_r, znl_t, zwd_nil, zwd_i, zwd_r, zwd_l, ztoL_some, ztoL_none, zite1, ite_not, zite10, zite10', zs_8, zs_9, zs_10, zs_11, zs_12, zs_13, zs_14, zs_15, zs_16, zs_17, zs_18, zs_19, zs_20, zs_21, zs_22, zs_23, zs_24, zs_25, zs_26, zs_27, zs_28, zs_29, zs_30, zs_31, zs_32, zs_33, zs_34, zs_35, zs_36, zs_37, zs_38, zs_39, zs_40, zs_41, zs_42, zs_43, zs_44, zs_45, zs_46, zs_47, zs_48, zs_49, zs_50, zs_51, zs_52, zs_53, zs_54, zs_55, zs_56, zs_57, zs_58, zs_59, zs_60, zs_61, zs_62, zs_63, zs_64, zs_65, zs_66, zs_67, zs_68, zs_69, zs_70, zs_71, zs_72, zs_73, zs_74, zs_75, zs_76, zs_77, zs_78, zs_79, zs_80, zs_81, zs_82, zs_83, zs_84, zs_85, zs_86, zs_87, zs_88, zs_89, zs_90, zs_91, zs_92, zs_93, zs_94, zs_95, zs_96, zs_97, zs_98, zs_99, zs_100, zs_101, zs_102, zs_103, zr_8_0, zr_8_1, zr_8_2, zr_8_3, zr_8_4, zr_8_5, zr_8_6, zr_8_7, zr_8_8, zr_8_9, zr_9_0, zr_11_0, zr_11_1, zr_11_2, zr_11_3, zr_15_0, zr_17_0, zr_17_1, zr_19_0, zr_19_1, zr_19_2, zr_19_3, zr_19_4, zr_19_5, zr_19_6, zr_19_7, zr_19_8, zr_19_9, zr_19_10, zr_19_11, zr_31_0, zr_31_1, zr_31_2, zr_31_3, zr_36_0, zr_36_1, zr_36_2, zr_64_0, zr_64_1, zr_64_2, zr_67_0, zr_67_1, zr_67_2, zr_81_0, zr_82_0, zr_82_1, zr_82_11, zr_82_12, zr_82_13, zr_82_14, zr_82_17, zr_82_18, zr_82_19, zr_82_20, zr_82_21, zr_82_23, zr_82_24, zr_82_25, zr_82_26, zr_82_27, zr_82_35, zr_82_37, zr_82_38, zr_82_40, zr_82_41, zr_37, zr_68, zite11, zem, zem', f_Mo_partOf_0, f_Mo_partOf_1, f_Mo_partOf_2, f_Mo_partOf_7, f_Mo_partOf_9, f_Mo_partOf_12, f_Mo_partOf_13, f_Mo_partOf_15, f_Mo_partOf_16, f_Mo_partOf_19, f_Mo_partOf_20, f_Mo_partOf_22, f_Mo_partOf_23, f_Mo_common_0, f_Mo_common_1, f_Mo_common_2, f_Mo_common_3, f_Mo_common_6, f_Mo_common_7, f_Mo_common_8, f_Mo_common_11, f_Mo_common_14, f_Mo_common_15, f_Mo_common_19, f_Mo_common_20, f_Mo_common_21, f_Mo_common_24, f_Mo_common_26, f_Mo_common_28, f_Mo_common_29, f_Mo_common_31, f_Mo_common_33, f_Mo_common_35, f_Mo_common_37, f_Mo_common_39, f_Mo_common_42, f_Mo_common_44, zlcmp_ge0, ez, zNltT, zNleT, zleF, zleT, zltF, zltT, zeqF, ↓reduceIte, zNeqF]
    rw [show ((u.natAbs : Nat) : Int) = -u by omega]
end ZFr
/-- equal fractions have equal lowest terms -/
theorem zLow_eq {u l u' l' : Int} (h1 : 0 < l) (h2 : 0 < l') (h : u * l' = u' * l) (p : Int) : zLow u l p = zLow u' l' p := by
  obtain ⟨n, rfl⟩ := Int.eq_ofNat_of_zero_le (show 0 ≤ l by omega)
  obtain ⟨n', rfl⟩ := Int.eq_ofNat_of_zero_le (show 0 ≤ l' by omega)
  unfold zLow
  rw [show ((n : Int)).toNat = n from rfl, show ((n' : Int)).toNat = n' from rfl]
  -- n * gcd(u', n') = n' * gcd(u, n), u * gcd' = u' * gcd
  have ha : u.natAbs * n' = u'.natAbs * n := by
    have := congrArg Int.natAbs h
    rwa [Int.natAbs_mul, Int.natAbs_mul, Int.natAbs_natCast, Int.natAbs_natCast] at this
  have g0 : 0 < Nat.gcd u.natAbs n := Nat.gcd_pos_of_pos_right _ (by omega)
  have g0' : 0 < Nat.gcd u'.natAbs n' := Nat.gcd_pos_of_pos_right _ (by omega)
  have e1 : n * Nat.gcd u'.natAbs n' = n' * Nat.gcd u.natAbs n := by
    rw [← Nat.gcd_mul_left, ← Nat.gcd_mul_left, Nat.mul_comm n u'.natAbs, ← ha, Nat.mul_comm u.natAbs n', Nat.mul_comm n n']
  have e2 : u * Nat.gcd u'.natAbs n' = u' * Nat.gcd u.natAbs n := by
    have hn : (n : Int) ≠ 0 := by omega
    have := congrArg (fun z : Nat => (z : Int)) e1
    simp only [Int.natCast_mul] at this
    refine Int.eq_of_mul_eq_mul_left (a := (n' : Int)) (by omega) ?_
    rw [← Int.mul_assoc, Int.mul_comm (n' : Int) u, h, Int.mul_assoc, this]
    rw [Int.mul_left_comm]
  have k1 : (Nat.gcd u.natAbs n : Int) ∣ u := Int.ofNat_dvd_left.mpr (Nat.gcd_dvd_left _ _)
  have k2 : (Nat.gcd u.natAbs n : Int) ∣ n := Int.natCast_dvd_natCast.mpr (Nat.gcd_dvd_right _ _)
  have k3 : (Nat.gcd u'.natAbs n' : Int) ∣ u' := Int.ofNat_dvd_left.mpr (Nat.gcd_dvd_left _ _)
  have k4 : (Nat.gcd u'.natAbs n' : Int) ∣ n' := Int.natCast_dvd_natCast.mpr (Nat.gcd_dvd_right _ _)
  have e3 : (n : Int) * Nat.gcd u'.natAbs n' = n' * Nat.gcd u.natAbs n := by
    have := congrArg (fun z : Nat => (z : Int)) e1
    simpa only [Int.natCast_mul] using this
  clear e1 h ha
  generalize Nat.gcd u.natAbs n = g at *
  generalize Nat.gcd u'.natAbs n' = g' at *
  obtain ⟨a, rfl⟩ := k1
  obtain ⟨b, hb⟩ := k2
  obtain ⟨a', rfl⟩ := k3
  obtain ⟨b', hb'⟩ := k4
  rw [hb, hb'] at e3 ⊢
  rw [Int.mul_tdiv_cancel_left _ (by omega), Int.mul_tdiv_cancel_left _ (by omega), Int.mul_tdiv_cancel_left _ (by omega), Int.mul_tdiv_cancel_left _ (by omega)]
  have f1 : a = a' := Int.eq_of_mul_eq_mul_left (a := (g : Int) * g') (by have : 0 < (g : Int) * g' := Int.mul_pos (by omega) (by omega)
                                                                          omega) (by grind)
  have f2 : b = b' := Int.eq_of_mul_eq_mul_left (a := (g : Int) * g') (by have : 0 < (g : Int) * g' := Int.mul_pos (by omega) (by omega)
                                                                          omega) (by grind)
  rw [f1, f2]
