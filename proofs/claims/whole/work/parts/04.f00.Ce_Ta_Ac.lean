section ZFCe_Ta_Ac
variable {d : Nat} {st : List zV} {w : zW} {M : zM} {Q : Option zV → zW → zM → Prop} {l0 l1 l2 l3 l4 l5 l6 l7 l8 l9 l10 l11 l12 l13 l14 l15 l16 l17 l18 l19 l20 l21 l22 l23 : zV} {a b c e f h n : Int} {k k1 k2 : Nat}
theorem f_Ac_init_0 : zF d x_Ac_init 0 [zr k, l1] st w M Q ↔ zF d x_Ac_init 1 [zr k, l1] (zr k :: st) w M Q := zG_loc (zh_Ac_init 0 rfl) rfl rfl rfl
theorem f_Ac_init_1 : zF d x_Ac_init 1 [l0, l1] (zr k :: st) w M Q ↔ (20 ≤ d ∧ zwd st ≤ 8 ∧ zF d x_Ac_init 4 [l0, l1] st w M Q) := zG_pInit (zh_Ac_init 1 rfl) rfl
theorem f_Ac_init_4 : zF d x_Ac_init 4 [zr k, l1] st w M Q ↔ zF d x_Ac_init 5 [zr k, l1] (zr k :: st) w M Q := zG_loc (zh_Ac_init 4 rfl) rfl rfl rfl
theorem f_Ac_init_5 : zF d x_Ac_init 5 [l0, l1] st w M Q ↔ zF d x_Ac_init 8 [l0, l1] (zi (300) :: st) w M Q := zG_stk (zh_Ac_init 5 rfl) rfl rfl
theorem f_Ac_init_8 : zF d x_Ac_init 8 [l0, l1] (zi a :: st) w M Q ↔ ((0 ≤ z32 a ∧ z32 a ≤ 100000) ∧ zF d x_Ac_init 10 [l0, l1] (zr w.1.length :: st) (w.1 ++ [(1, 0, (z32 a).toNat)], zo w.2 w.1.length (fun _ => 0)) (zo M w.1.length (fun _ => 0)) Q) := zG_newa (zh_Ac_init 8 rfl) rfl
theorem f_Ac_init_10 : zF d x_Ac_init 10 [l0, l1] (zr k1 :: zr k :: st) w M Q ↔ (zO w k 0 1 ∧ 0 < k1 ∧ zF d x_Ac_init 13 [l0, l1] st (w.1, zu w.2 k 1 k1) M Q) := zG_putA (zh_Ac_init 10 rfl) rfl rfl rfl
theorem f_Ac_init_13 : zF d x_Ac_init 13 [zr k, l1] st w M Q ↔ zF d x_Ac_init 14 [zr k, l1] (zr k :: st) w M Q := zG_loc (zh_Ac_init 13 rfl) rfl rfl rfl
theorem f_Ac_init_14 : zF d x_Ac_init 14 [l0, l1] st w M Q ↔ zF d x_Ac_init 17 [l0, l1] (zi (300) :: st) w M Q := zG_stk (zh_Ac_init 14 rfl) rfl rfl
theorem f_Ac_init_17 : zF d x_Ac_init 17 [l0, l1] (zi a :: st) w M Q ↔ ((0 ≤ z32 a ∧ z32 a ≤ 100000) ∧ zF d x_Ac_init 19 [l0, l1] (zr w.1.length :: st) (w.1 ++ [(1, 0, (z32 a).toNat)], zo w.2 w.1.length (fun _ => 0)) (zo M w.1.length (fun _ => 0)) Q) := zG_newa (zh_Ac_init 17 rfl) rfl
theorem f_Ac_init_19 : zF d x_Ac_init 19 [l0, l1] (zr k1 :: zr k :: st) w M Q ↔ (zO w k 0 2 ∧ 0 < k1 ∧ zF d x_Ac_init 22 [l0, l1] st (w.1, zu w.2 k 2 k1) M Q) := zG_putA (zh_Ac_init 19 rfl) rfl rfl rfl
theorem f_Ac_init_22 : zF d x_Ac_init 22 [zr k, l1] st w M Q ↔ zF d x_Ac_init 23 [zr k, l1] (zr k :: st) w M Q := zG_loc (zh_Ac_init 22 rfl) rfl rfl rfl
theorem f_Ac_init_23 : zF d x_Ac_init 23 [l0, l1] st w M Q ↔ zF d x_Ac_init 26 [l0, l1] (zi (8700) :: st) w M Q := zG_stk (zh_Ac_init 23 rfl) rfl rfl
theorem f_Ac_init_26 : zF d x_Ac_init 26 [l0, l1] (zi a :: st) w M Q ↔ ((0 ≤ z32 a ∧ z32 a ≤ 100000) ∧ zF d x_Ac_init 28 [l0, l1] (zr w.1.length :: st) (w.1 ++ [(1, 0, (z32 a).toNat)], zo w.2 w.1.length (fun _ => 0)) (zo M w.1.length (fun _ => 0)) Q) := zG_newa (zh_Ac_init 26 rfl) rfl
theorem f_Ac_init_28 : zF d x_Ac_init 28 [l0, l1] (zr k1 :: zr k :: st) w M Q ↔ (zO w k 0 3 ∧ 0 < k1 ∧ zF d x_Ac_init 31 [l0, l1] st (w.1, zu w.2 k 3 k1) M Q) := zG_putA (zh_Ac_init 28 rfl) rfl rfl rfl
theorem f_Ac_init_31 : zF d x_Ac_init 31 [zr k, l1] st w M Q ↔ zF d x_Ac_init 32 [zr k, l1] (zr k :: st) w M Q := zG_loc (zh_Ac_init 31 rfl) rfl rfl rfl
theorem f_Ac_init_32 : zF d x_Ac_init 32 [l0, zr k] st w M Q ↔ zF d x_Ac_init 33 [l0, zr k] (zr k :: st) w M Q := zG_loc (zh_Ac_init 32 rfl) rfl rfl rfl
theorem f_Ac_init_33 : zF d x_Ac_init 33 [l0, l1] (zr k1 :: zr k :: st) w M Q ↔ (zO w k 0 0 ∧ 0 < k1 ∧ zF d x_Ac_init 36 [l0, l1] st (w.1, zu w.2 k 0 k1) M Q) := zG_putA (zh_Ac_init 33 rfl) rfl rfl rfl
theorem f_Ac_init_36 : zF d x_Ac_init 36 [l0, l1] [] w M Q ↔ Q none w M := zG_ret (zh_Ac_init 36 rfl) rfl rfl rfl rfl rfl
theorem f_Ac_kept_0 : zF d x_Ac_kept 0 [zr k] st w M Q ↔ zF d x_Ac_kept 1 [zr k] (zr k :: st) w M Q := zG_loc (zh_Ac_kept 0 rfl) rfl rfl rfl
theorem f_Ac_kept_1 : zF d x_Ac_kept 1 [l0] (zr k :: st) w M Q ↔ (zO w k 0 5 ∧ zF d x_Ac_kept 4 [l0] (zi (M k 5) :: st) w M Q) := zG_getI (zh_Ac_kept 1 rfl) rfl rfl rfl
theorem f_Ac_kept_4 : zF d x_Ac_kept 4 [l0] [zi a] w M Q ↔ Q (some (zi a)) w M := zG_ret (zh_Ac_kept 4 rfl) rfl rfl rfl rfl (by rw [zb_Ac_kept]; rfl)
theorem f_Ac_takenBack_0 : zF d x_Ac_takenBack 0 [zr k] st w M Q ↔ zF d x_Ac_takenBack 1 [zr k] (zr k :: st) w M Q := zG_loc (zh_Ac_takenBack 0 rfl) rfl rfl rfl
theorem f_Ac_takenBack_1 : zF d x_Ac_takenBack 1 [l0] (zr k :: st) w M Q ↔ (zO w k 0 6 ∧ zF d x_Ac_takenBack 4 [l0] (zi (M k 6) :: st) w M Q) := zG_getI (zh_Ac_takenBack 1 rfl) rfl rfl rfl
theorem f_Ac_takenBack_4 : zF d x_Ac_takenBack 4 [l0] [zi a] w M Q ↔ Q (some (zi a)) w M := zG_ret (zh_Ac_takenBack 4 rfl) rfl rfl rfl rfl (by rw [zb_Ac_takenBack]; rfl)
theorem f_Ac_begins_0 : zF d x_Ac_begins 0 [zr k, l1, l2, l3, l4] st w M Q ↔ zF d x_Ac_begins 1 [zr k, l1, l2, l3, l4] (zr k :: st) w M Q := zG_loc (zh_Ac_begins 0 rfl) rfl rfl rfl
theorem f_Ac_begins_1 : zF d x_Ac_begins 1 [l0, l1, l2, l3, l4] st w M Q ↔ zF d x_Ac_begins 2 [l0, l1, l2, l3, l4] (zi (0) :: st) w M Q := zG_stk (zh_Ac_begins 1 rfl) rfl rfl
theorem f_Ac_begins_2 : zF d x_Ac_begins 2 [l0, l1, l2, l3, l4] (zi a :: zr k :: st) w M Q ↔ (zO w k 0 6 ∧ zF d x_Ac_begins 5 [l0, l1, l2, l3, l4] st w (zu M k 6 a) Q) := zG_putI (zh_Ac_begins 2 rfl) rfl rfl rfl
theorem f_Ac_begins_5 : zF d x_Ac_begins 5 [zr k, l1, l2, l3, l4] st w M Q ↔ zF d x_Ac_begins 6 [zr k, l1, l2, l3, l4] (zr k :: st) w M Q := zG_loc (zh_Ac_begins 5 rfl) rfl rfl rfl
theorem f_Ac_begins_6 : zF d x_Ac_begins 6 [l0, l1, l2, l3, l4] (zr k :: st) w M Q ↔ (zO w k 0 5 ∧ zF d x_Ac_begins 9 [l0, l1, l2, l3, l4] (zi (M k 5) :: st) w M Q) := zG_getI (zh_Ac_begins 6 rfl) rfl rfl rfl
theorem f_Ac_begins_9 : zF d x_Ac_begins 9 [l0, l1, l2, l3, l4] st w M Q ↔ zF d x_Ac_begins 12 [l0, l1, l2, l3, l4] (zi (300) :: st) w M Q := zG_stk (zh_Ac_begins 9 rfl) rfl rfl
theorem f_Ac_begins_12 : zF d x_Ac_begins 12 [l0, l1, l2, l3, l4] (zi b :: zi a :: st) w M Q ↔ (if z32 a = z32 b then zF d x_Ac_begins 15 [l0, l1, l2, l3, l4] st w M Q else zF d x_Ac_begins 39 [l0, l1, l2, l3, l4] st w M Q) := zG_ifN (zh_Ac_begins 12 rfl) rfl rfl rfl decide_eq_true_iff
theorem f_Ac_begins_15 : zF d x_Ac_begins 15 [zr k, l1, l2, l3, l4] st w M Q ↔ zF d x_Ac_begins 16 [zr k, l1, l2, l3, l4] (zr k :: st) w M Q := zG_loc (zh_Ac_begins 15 rfl) rfl rfl rfl
theorem f_Ac_begins_16 : zF d x_Ac_begins 16 [zr k, l1, l2, l3, l4] st w M Q ↔ zF d x_Ac_begins 17 [zr k, l1, l2, l3, l4] (zr k :: st) w M Q := zG_loc (zh_Ac_begins 16 rfl) rfl rfl rfl
theorem f_Ac_begins_17 : zF d x_Ac_begins 17 [l0, l1, l2, l3, l4] (zr k :: st) w M Q ↔ (zO w k 0 4 ∧ zF d x_Ac_begins 20 [l0, l1, l2, l3, l4] (zi (M k 4) :: st) w M Q) := zG_getI (zh_Ac_begins 17 rfl) rfl rfl rfl
theorem f_Ac_begins_20 : zF d x_Ac_begins 20 [l0, l1, l2, l3, l4] st w M Q ↔ zF d x_Ac_begins 21 [l0, l1, l2, l3, l4] (zi (1) :: st) w M Q := zG_stk (zh_Ac_begins 20 rfl) rfl rfl
theorem f_Ac_begins_21 : zF d x_Ac_begins 21 [l0, l1, l2, l3, l4] (zi b :: zi a :: st) w M Q ↔ zF d x_Ac_begins 22 [l0, l1, l2, l3, l4] (zi (a + b) :: st) w M Q := zG_stk (zh_Ac_begins 21 rfl) rfl rfl
theorem f_Ac_begins_22 : zF d x_Ac_begins 22 [l0, l1, l2, l3, l4] st w M Q ↔ zF d x_Ac_begins 25 [l0, l1, l2, l3, l4] (zi (300) :: st) w M Q := zG_stk (zh_Ac_begins 22 rfl) rfl rfl
theorem f_Ac_begins_25 : zF d x_Ac_begins 25 [l0, l1, l2, l3, l4] (zi b :: zi a :: st) w M Q ↔ (¬ z32 b = 0 ∧ zF d x_Ac_begins 26 [l0, l1, l2, l3, l4] (zi (zrem a b) :: st) w M Q) := zG_stkD (zh_Ac_begins 25 rfl) rfl (by rfl) (fun _ => rfl) rfl
theorem f_Ac_begins_26 : zF d x_Ac_begins 26 [l0, l1, l2, l3, l4] (zi a :: zr k :: st) w M Q ↔ (zO w k 0 4 ∧ zF d x_Ac_begins 29 [l0, l1, l2, l3, l4] st w (zu M k 4 a) Q) := zG_putI (zh_Ac_begins 26 rfl) rfl rfl rfl
theorem f_Ac_begins_29 : zF d x_Ac_begins 29 [zr k, l1, l2, l3, l4] st w M Q ↔ zF d x_Ac_begins 30 [zr k, l1, l2, l3, l4] (zr k :: st) w M Q := zG_loc (zh_Ac_begins 29 rfl) rfl rfl rfl
theorem f_Ac_begins_30i : zF d x_Ac_begins 30 [l0, l1, l2, l3, l4] (zi a :: st) w M Q ↔ zF d x_Ac_begins 31 [l0, l1, l2, l3, l4] (zi a :: zi a :: st) w M Q := zG_stk (zh_Ac_begins 30 rfl) rfl rfl
theorem f_Ac_begins_30r : zF d x_Ac_begins 30 [l0, l1, l2, l3, l4] (zr k :: st) w M Q ↔ zF d x_Ac_begins 31 [l0, l1, l2, l3, l4] (zr k :: zr k :: st) w M Q := zG_stk (zh_Ac_begins 30 rfl) rfl rfl
theorem f_Ac_begins_31 : zF d x_Ac_begins 31 [l0, l1, l2, l3, l4] (zr k :: st) w M Q ↔ (zO w k 0 5 ∧ zF d x_Ac_begins 34 [l0, l1, l2, l3, l4] (zi (M k 5) :: st) w M Q) := zG_getI (zh_Ac_begins 31 rfl) rfl rfl rfl
theorem f_Ac_begins_34 : zF d x_Ac_begins 34 [l0, l1, l2, l3, l4] st w M Q ↔ zF d x_Ac_begins 35 [l0, l1, l2, l3, l4] (zi (1) :: st) w M Q := zG_stk (zh_Ac_begins 34 rfl) rfl rfl
theorem f_Ac_begins_35 : zF d x_Ac_begins 35 [l0, l1, l2, l3, l4] (zi b :: zi a :: st) w M Q ↔ zF d x_Ac_begins 36 [l0, l1, l2, l3, l4] (zi (a - b) :: st) w M Q := zG_stk (zh_Ac_begins 35 rfl) rfl rfl
theorem f_Ac_begins_36 : zF d x_Ac_begins 36 [l0, l1, l2, l3, l4] (zi a :: zr k :: st) w M Q ↔ (zO w k 0 5 ∧ zF d x_Ac_begins 39 [l0, l1, l2, l3, l4] st w (zu M k 5 a) Q) := zG_putI (zh_Ac_begins 36 rfl) rfl rfl rfl
theorem f_Ac_begins_39 : zF d x_Ac_begins 39 [zr k, l1, l2, l3, l4] st w M Q ↔ zF d x_Ac_begins 40 [zr k, l1, l2, l3, l4] (zr k :: st) w M Q := zG_loc (zh_Ac_begins 39 rfl) rfl rfl rfl
theorem f_Ac_begins_40 : zF d x_Ac_begins 40 [l0, l1, l2, l3, l4] (zr k :: st) w M Q ↔ (zO w k 0 4 ∧ zF d x_Ac_begins 43 [l0, l1, l2, l3, l4] (zi (M k 4) :: st) w M Q) := zG_getI (zh_Ac_begins 40 rfl) rfl rfl rfl
theorem f_Ac_begins_43 : zF d x_Ac_begins 43 [zr k, l1, l2, l3, l4] st w M Q ↔ zF d x_Ac_begins 44 [zr k, l1, l2, l3, l4] (zr k :: st) w M Q := zG_loc (zh_Ac_begins 43 rfl) rfl rfl rfl
theorem f_Ac_begins_44 : zF d x_Ac_begins 44 [l0, l1, l2, l3, l4] (zr k :: st) w M Q ↔ (zO w k 0 5 ∧ zF d x_Ac_begins 47 [l0, l1, l2, l3, l4] (zi (M k 5) :: st) w M Q) := zG_getI (zh_Ac_begins 44 rfl) rfl rfl rfl
theorem f_Ac_begins_47 : zF d x_Ac_begins 47 [l0, l1, l2, l3, l4] (zi b :: zi a :: st) w M Q ↔ zF d x_Ac_begins 48 [l0, l1, l2, l3, l4] (zi (a + b) :: st) w M Q := zG_stk (zh_Ac_begins 47 rfl) rfl rfl
theorem f_Ac_begins_48 : zF d x_Ac_begins 48 [l0, l1, l2, l3, l4] st w M Q ↔ zF d x_Ac_begins 51 [l0, l1, l2, l3, l4] (zi (300) :: st) w M Q := zG_stk (zh_Ac_begins 48 rfl) rfl rfl
theorem f_Ac_begins_51 : zF d x_Ac_begins 51 [l0, l1, l2, l3, l4] (zi b :: zi a :: st) w M Q ↔ (¬ z32 b = 0 ∧ zF d x_Ac_begins 52 [l0, l1, l2, l3, l4] (zi (zrem a b) :: st) w M Q) := zG_stkD (zh_Ac_begins 51 rfl) rfl (by rfl) (fun _ => rfl) rfl
theorem f_Ac_begins_52 : zF d x_Ac_begins 52 [l0, l1, l2, l3, l4] (zi a :: st) w M Q ↔ (znl l2 = true ∧ zF d x_Ac_begins 53 [l0, l1, l2, zi a, l4] st w M Q) := zG_stI (zh_Ac_begins 52 rfl) rfl rfl rfl rfl rfl rfl rfl rfl rfl rfl rfl
theorem f_Ac_begins_53 : zF d x_Ac_begins 53 [zr k, l1, l2, l3, l4] st w M Q ↔ zF d x_Ac_begins 54 [zr k, l1, l2, l3, l4] (zr k :: st) w M Q := zG_loc (zh_Ac_begins 53 rfl) rfl rfl rfl
theorem f_Ac_begins_54i : zF d x_Ac_begins 54 [l0, l1, l2, l3, l4] (zi a :: st) w M Q ↔ zF d x_Ac_begins 55 [l0, l1, l2, l3, l4] (zi a :: zi a :: st) w M Q := zG_stk (zh_Ac_begins 54 rfl) rfl rfl
theorem f_Ac_begins_54r : zF d x_Ac_begins 54 [l0, l1, l2, l3, l4] (zr k :: st) w M Q ↔ zF d x_Ac_begins 55 [l0, l1, l2, l3, l4] (zr k :: zr k :: st) w M Q := zG_stk (zh_Ac_begins 54 rfl) rfl rfl
theorem f_Ac_begins_55 : zF d x_Ac_begins 55 [l0, l1, l2, l3, l4] (zr k :: st) w M Q ↔ (zO w k 0 5 ∧ zF d x_Ac_begins 58 [l0, l1, l2, l3, l4] (zi (M k 5) :: st) w M Q) := zG_getI (zh_Ac_begins 55 rfl) rfl rfl rfl
theorem f_Ac_begins_58 : zF d x_Ac_begins 58 [l0, l1, l2, l3, l4] st w M Q ↔ zF d x_Ac_begins 59 [l0, l1, l2, l3, l4] (zi (1) :: st) w M Q := zG_stk (zh_Ac_begins 58 rfl) rfl rfl
theorem f_Ac_begins_59 : zF d x_Ac_begins 59 [l0, l1, l2, l3, l4] (zi b :: zi a :: st) w M Q ↔ zF d x_Ac_begins 60 [l0, l1, l2, l3, l4] (zi (a + b) :: st) w M Q := zG_stk (zh_Ac_begins 59 rfl) rfl rfl
theorem f_Ac_begins_60 : zF d x_Ac_begins 60 [l0, l1, l2, l3, l4] (zi a :: zr k :: st) w M Q ↔ (zO w k 0 5 ∧ zF d x_Ac_begins 63 [l0, l1, l2, l3, l4] st w (zu M k 5 a) Q) := zG_putI (zh_Ac_begins 60 rfl) rfl rfl rfl
theorem f_Ac_begins_63 : zF d x_Ac_begins 63 [zr k, l1, l2, l3, l4] st w M Q ↔ zF d x_Ac_begins 64 [zr k, l1, l2, l3, l4] (zr k :: st) w M Q := zG_loc (zh_Ac_begins 63 rfl) rfl rfl rfl
theorem f_Ac_begins_64 : zF d x_Ac_begins 64 [l0, l1, l2, l3, l4] (zr k :: st) w M Q ↔ (zO w k 0 1 ∧ ¬ w.2 k 1 = 0 ∧ zF d x_Ac_begins 67 [l0, l1, l2, l3, l4] (zr (w.2 k 1) :: st) w M Q) := zG_getA (zh_Ac_begins 64 rfl) rfl rfl rfl
theorem f_Ac_begins_67 : zF d x_Ac_begins 67 [l0, l1, l2, zi a, l4] st w M Q ↔ zF d x_Ac_begins 68 [l0, l1, l2, zi a, l4] (zi a :: st) w M Q := zG_loc (zh_Ac_begins 67 rfl) rfl rfl rfl
theorem f_Ac_begins_68 : zF d x_Ac_begins 68 [l0, zi a, l2, l3, l4] st w M Q ↔ zF d x_Ac_begins 69 [l0, zi a, l2, l3, l4] (zi a :: st) w M Q := zG_loc (zh_Ac_begins 68 rfl) rfl rfl rfl
theorem f_Ac_begins_69 : zF d x_Ac_begins 69 [l0, l1, l2, l3, l4] (zi b :: zi a :: zr k :: st) w M Q ↔ (zAs w k 0 (z32 a) ∧ zF d x_Ac_begins 70 [l0, l1, l2, l3, l4] st w (zu M k (z32 a).toNat b) Q) := zG_iast (zh_Ac_begins 69 rfl) rfl
theorem f_Ac_begins_70 : zF d x_Ac_begins 70 [zr k, l1, l2, l3, l4] st w M Q ↔ zF d x_Ac_begins 71 [zr k, l1, l2, l3, l4] (zr k :: st) w M Q := zG_loc (zh_Ac_begins 70 rfl) rfl rfl rfl
theorem f_Ac_begins_71 : zF d x_Ac_begins 71 [l0, l1, l2, l3, l4] (zr k :: st) w M Q ↔ (zO w k 0 2 ∧ ¬ w.2 k 2 = 0 ∧ zF d x_Ac_begins 74 [l0, l1, l2, l3, l4] (zr (w.2 k 2) :: st) w M Q) := zG_getA (zh_Ac_begins 71 rfl) rfl rfl rfl
theorem f_Ac_begins_74 : zF d x_Ac_begins 74 [l0, l1, l2, zi a, l4] st w M Q ↔ zF d x_Ac_begins 75 [l0, l1, l2, zi a, l4] (zi a :: st) w M Q := zG_loc (zh_Ac_begins 74 rfl) rfl rfl rfl
theorem f_Ac_begins_75 : zF d x_Ac_begins 75 [l0, l1, zi a, l3, l4] st w M Q ↔ zF d x_Ac_begins 76 [l0, l1, zi a, l3, l4] (zi a :: st) w M Q := zG_loc (zh_Ac_begins 75 rfl) rfl rfl rfl
theorem f_Ac_begins_76 : zF d x_Ac_begins 76 [l0, l1, l2, l3, l4] st w M Q ↔ zF d x_Ac_begins 78 [l0, l1, l2, l3, l4] (zi (29) :: st) w M Q := zG_stk (zh_Ac_begins 76 rfl) rfl rfl
theorem f_Ac_begins_78 : zF d x_Ac_begins 78 [l0, l1, l2, l3, l4] (zi b :: zi a :: st) w M Q ↔ (20 ≤ d ∧ zwd st ≤ 8 ∧ zF d x_Ac_begins 81 [l0, l1, l2, l3, l4] (zi (zmin a b) :: st) w M Q) := zG_pMin (zh_Ac_begins 78 rfl) rfl
theorem f_Ac_begins_81 : zF d x_Ac_begins 81 [l0, l1, l2, l3, l4] (zi b :: zi a :: zr k :: st) w M Q ↔ (zAs w k 0 (z32 a) ∧ zF d x_Ac_begins 82 [l0, l1, l2, l3, l4] st w (zu M k (z32 a).toNat b) Q) := zG_iast (zh_Ac_begins 81 rfl) rfl
theorem f_Ac_begins_82 : zF d x_Ac_begins 82 [l0, l1, l2, l3, l4] st w M Q ↔ zF d x_Ac_begins 83 [l0, l1, l2, l3, l4] (zi (0) :: st) w M Q := zG_stk (zh_Ac_begins 82 rfl) rfl rfl
theorem f_Ac_begins_83 : zF d x_Ac_begins 83 [l0, l1, l2, l3, l4] (zi a :: st) w M Q ↔ (znl l3 = true ∧ zF d x_Ac_begins 85 [l0, l1, l2, l3, zi a] st w M Q) := zG_stI (zh_Ac_begins 83 rfl) rfl rfl rfl rfl rfl rfl rfl rfl rfl rfl rfl
theorem f_Ac_begins_85 : zF d x_Ac_begins 85 [l0, l1, l2, l3, zi a] st w M Q ↔ zF d x_Ac_begins 87 [l0, l1, l2, l3, zi a] (zi a :: st) w M Q := zG_loc (zh_Ac_begins 85 rfl) rfl rfl rfl
theorem f_Ac_begins_87 : zF d x_Ac_begins 87 [zr k, l1, l2, l3, l4] st w M Q ↔ zF d x_Ac_begins 88 [zr k, l1, l2, l3, l4] (zr k :: st) w M Q := zG_loc (zh_Ac_begins 87 rfl) rfl rfl rfl
theorem f_Ac_begins_88 : zF d x_Ac_begins 88 [l0, l1, l2, l3, l4] (zr k :: st) w M Q ↔ (zO w k 0 2 ∧ ¬ w.2 k 2 = 0 ∧ zF d x_Ac_begins 91 [l0, l1, l2, l3, l4] (zr (w.2 k 2) :: st) w M Q) := zG_getA (zh_Ac_begins 88 rfl) rfl rfl rfl
theorem f_Ac_begins_91 : zF d x_Ac_begins 91 [l0, l1, l2, zi a, l4] st w M Q ↔ zF d x_Ac_begins 92 [l0, l1, l2, zi a, l4] (zi a :: st) w M Q := zG_loc (zh_Ac_begins 91 rfl) rfl rfl rfl
theorem f_Ac_begins_92 : zF d x_Ac_begins 92 [l0, l1, l2, l3, l4] (zi a :: zr k :: st) w M Q ↔ (zA w k 0 (z32 a) ∧ zF d x_Ac_begins 93 [l0, l1, l2, l3, l4] (zi (M k (z32 a).toNat) :: st) w M Q) := zG_iald (zh_Ac_begins 92 rfl) rfl
theorem f_Ac_begins_93 : zF d x_Ac_begins 93 [l0, l1, l2, l3, l4] (zi b :: zi a :: st) w M Q ↔ (if z32 b ≤ z32 a then zF d x_Ac_begins 125 [l0, l1, l2, l3, l4] st w M Q else zF d x_Ac_begins 96 [l0, l1, l2, l3, l4] st w M Q) := zG_ifP (zh_Ac_begins 93 rfl) rfl rfl rfl decide_eq_true_iff
theorem f_Ac_begins_96 : zF d x_Ac_begins 96 [zr k, l1, l2, l3, l4] st w M Q ↔ zF d x_Ac_begins 97 [zr k, l1, l2, l3, l4] (zr k :: st) w M Q := zG_loc (zh_Ac_begins 96 rfl) rfl rfl rfl
theorem f_Ac_begins_97 : zF d x_Ac_begins 97 [l0, l1, l2, l3, l4] (zr k :: st) w M Q ↔ (zO w k 0 3 ∧ ¬ w.2 k 3 = 0 ∧ zF d x_Ac_begins 100 [l0, l1, l2, l3, l4] (zr (w.2 k 3) :: st) w M Q) := zG_getA (zh_Ac_begins 97 rfl) rfl rfl rfl
theorem f_Ac_begins_100 : zF d x_Ac_begins 100 [l0, l1, l2, zi a, l4] st w M Q ↔ zF d x_Ac_begins 101 [l0, l1, l2, zi a, l4] (zi a :: st) w M Q := zG_loc (zh_Ac_begins 100 rfl) rfl rfl rfl
theorem f_Ac_begins_101 : zF d x_Ac_begins 101 [l0, l1, l2, l3, l4] st w M Q ↔ zF d x_Ac_begins 103 [l0, l1, l2, l3, l4] (zi (29) :: st) w M Q := zG_stk (zh_Ac_begins 101 rfl) rfl rfl
theorem f_Ac_begins_103 : zF d x_Ac_begins 103 [l0, l1, l2, l3, l4] (zi b :: zi a :: st) w M Q ↔ zF d x_Ac_begins 104 [l0, l1, l2, l3, l4] (zi (a * b) :: st) w M Q := zG_stk (zh_Ac_begins 103 rfl) rfl rfl
theorem f_Ac_begins_104 : zF d x_Ac_begins 104 [l0, l1, l2, l3, zi a] st w M Q ↔ zF d x_Ac_begins 106 [l0, l1, l2, l3, zi a] (zi a :: st) w M Q := zG_loc (zh_Ac_begins 104 rfl) rfl rfl rfl
theorem f_Ac_begins_106 : zF d x_Ac_begins 106 [l0, l1, l2, l3, l4] (zi b :: zi a :: st) w M Q ↔ zF d x_Ac_begins 107 [l0, l1, l2, l3, l4] (zi (a + b) :: st) w M Q := zG_stk (zh_Ac_begins 106 rfl) rfl rfl
theorem f_Ac_begins_107 : zF d x_Ac_begins 107 [zr k, l1, l2, l3, l4] st w M Q ↔ zF d x_Ac_begins 108 [zr k, l1, l2, l3, l4] (zr k :: st) w M Q := zG_loc (zh_Ac_begins 107 rfl) rfl rfl rfl
theorem f_Ac_begins_108 : zF d x_Ac_begins 108 [l0, l1, l2, l3, l4] (zr k :: st) w M Q ↔ (zO w k 0 0 ∧ ¬ w.2 k 0 = 0 ∧ zF d x_Ac_begins 111 [l0, l1, l2, l3, l4] (zr (w.2 k 0) :: st) w M Q) := zG_getA (zh_Ac_begins 108 rfl) rfl rfl rfl
theorem f_Ac_begins_111 : zF d x_Ac_begins 111 [l0, zi a, l2, l3, l4] st w M Q ↔ zF d x_Ac_begins 112 [l0, zi a, l2, l3, l4] (zi a :: st) w M Q := zG_loc (zh_Ac_begins 111 rfl) rfl rfl rfl
theorem f_Ac_begins_112 : zF d x_Ac_begins 112 [l0, l1, l2, l3, zi a] st w M Q ↔ zF d x_Ac_begins 114 [l0, l1, l2, l3, zi a] (zi a :: st) w M Q := zG_loc (zh_Ac_begins 112 rfl) rfl rfl rfl
theorem f_Ac_begins_114 : zF d x_Ac_begins 114 [l0, l1, l2, l3, l4] (zi b :: zi a :: st) w M Q ↔ zF d x_Ac_begins 115 [l0, l1, l2, l3, l4] (zi (a + b) :: st) w M Q := zG_stk (zh_Ac_begins 114 rfl) rfl rfl
theorem f_Ac_begins_115 : zF d x_Ac_begins 115 [l0, l1, l2, l3, l4] (zi a :: zr k :: st) w M Q ↔ (0 < d ∧ zwd st ≤ 8 ∧ ((zsh w k).1 = 0 ∧ (zsh w k).2.1 = 2) ∧ zF (d - 1) x_Ce_get 0 [zr k, zi a] [] w M (fun v w' M' => zF d x_Ac_begins 118 [l0, l1, l2, l3, l4] (v.toList ++ st) w' M' Q)) := zG_callO [zi a] (.inl rfl) (zh_Ac_begins 115 rfl) rfl rfl rfl (by rw [zm_Ce_get]; rfl) (by rw [zm_Ce_get]; rfl) rfl
theorem f_Ac_begins_118 : zF d x_Ac_begins 118 [l0, l1, l2, l3, l4] (zi b :: zi a :: zr k :: st) w M Q ↔ (zAs w k 0 (z32 a) ∧ zF d x_Ac_begins 119 [l0, l1, l2, l3, l4] st w (zu M k (z32 a).toNat b) Q) := zG_iast (zh_Ac_begins 118 rfl) rfl
theorem f_Ac_begins_119 : zF d x_Ac_begins 119 [l0, l1, l2, l3, zi a] st w M Q ↔ (znl l3 = true ∧ zF d x_Ac_begins 122 [l0, l1, l2, l3, zi (a + (1))] st w M Q) := zG_inc (zh_Ac_begins 119 rfl) rfl rfl rfl rfl rfl rfl rfl
theorem f_Ac_begins_122 : zF d x_Ac_begins 122 [l0, l1, l2, l3, l4] st w M Q ↔ zF d x_Ac_begins 85 [l0, l1, l2, l3, l4] st w M Q := zG_br (zh_Ac_begins 122 rfl) rfl rfl rfl
theorem f_Ac_begins_125 : zF d x_Ac_begins 125 [zr k, l1, l2, l3, l4] st w M Q ↔ zF d x_Ac_begins 126 [zr k, l1, l2, l3, l4] (zr k :: st) w M Q := zG_loc (zh_Ac_begins 125 rfl) rfl rfl rfl
theorem f_Ac_begins_126 : zF d x_Ac_begins 126 [l0, l1, l2, l3, l4] (zr k :: st) w M Q ↔ (zO w k 0 0 ∧ ¬ w.2 k 0 = 0 ∧ zF d x_Ac_begins 129 [l0, l1, l2, l3, l4] (zr (w.2 k 0) :: st) w M Q) := zG_getA (zh_Ac_begins 126 rfl) rfl rfl rfl
theorem f_Ac_begins_129 : zF d x_Ac_begins 129 [l0, l1, l2, l3, l4] (zr k :: st) w M Q ↔ (0 < d ∧ zwd st ≤ 8 ∧ ((zsh w k).1 = 0 ∧ (zsh w k).2.1 = 2) ∧ zF (d - 1) x_Ce_becomesAnother 0 [zr k] [] w M (fun v w' M' => zF d x_Ac_begins 132 [l0, l1, l2, l3, l4] (v.toList ++ st) w' M' Q)) := zG_callO [] (.inl rfl) (zh_Ac_begins 129 rfl) rfl rfl rfl (by rw [zm_Ce_becomesAnother]; rfl) (by rw [zm_Ce_becomesAnother]; rfl) rfl
theorem f_Ac_begins_132 : zF d x_Ac_begins 132 [l0, l1, l2, l3, l4] [] w M Q ↔ Q none w M := zG_ret (zh_Ac_begins 132 rfl) rfl rfl rfl rfl rfl
theorem f_Ac_takeBack_0 : zF d x_Ac_takeBack 0 [zr k] st w M Q ↔ zF d x_Ac_takeBack 1 [zr k] (zr k :: st) w M Q := zG_loc (zh_Ac_takeBack 0 rfl) rfl rfl rfl
theorem f_Ac_takeBack_1 : zF d x_Ac_takeBack 1 [l0] (zr k :: st) w M Q ↔ (zO w k 0 5 ∧ zF d x_Ac_takeBack 4 [l0] (zi (M k 5) :: st) w M Q) := zG_getI (zh_Ac_takeBack 1 rfl) rfl rfl rfl
theorem f_Ac_takeBack_4 : zF d x_Ac_takeBack 4 [l0] (zi a :: st) w M Q ↔ (if z32 a = 0 then zF d x_Ac_takeBack 7 [l0] st w M Q else zF d x_Ac_takeBack 9 [l0] st w M Q) := zG_ifN (zh_Ac_takeBack 4 rfl) rfl rfl rfl decide_eq_true_iff
theorem f_Ac_takeBack_7 : zF d x_Ac_takeBack 7 [l0] st w M Q ↔ zF d x_Ac_takeBack 8 [l0] (zi (0) :: st) w M Q := zG_stk (zh_Ac_takeBack 7 rfl) rfl rfl
theorem f_Ac_takeBack_8 : zF d x_Ac_takeBack 8 [l0] [zi a] w M Q ↔ ((a = 0 ∨ a = 1) ∧ Q (some (zi a)) w M) := zG_prR (zh_Ac_takeBack 8 rfl) zb_Ac_takeBack
theorem f_Ac_takeBack_9 : zF d x_Ac_takeBack 9 [zr k] st w M Q ↔ zF d x_Ac_takeBack 10 [zr k] (zr k :: st) w M Q := zG_loc (zh_Ac_takeBack 9 rfl) rfl rfl rfl
theorem f_Ac_takeBack_10i : zF d x_Ac_takeBack 10 [l0] (zi a :: st) w M Q ↔ zF d x_Ac_takeBack 11 [l0] (zi a :: zi a :: st) w M Q := zG_stk (zh_Ac_takeBack 10 rfl) rfl rfl
theorem f_Ac_takeBack_10r : zF d x_Ac_takeBack 10 [l0] (zr k :: st) w M Q ↔ zF d x_Ac_takeBack 11 [l0] (zr k :: zr k :: st) w M Q := zG_stk (zh_Ac_takeBack 10 rfl) rfl rfl
theorem f_Ac_takeBack_11 : zF d x_Ac_takeBack 11 [l0] (zr k :: st) w M Q ↔ (zO w k 0 5 ∧ zF d x_Ac_takeBack 14 [l0] (zi (M k 5) :: st) w M Q) := zG_getI (zh_Ac_takeBack 11 rfl) rfl rfl rfl
theorem f_Ac_takeBack_14 : zF d x_Ac_takeBack 14 [l0] st w M Q ↔ zF d x_Ac_takeBack 15 [l0] (zi (1) :: st) w M Q := zG_stk (zh_Ac_takeBack 14 rfl) rfl rfl
theorem f_Ac_takeBack_15 : zF d x_Ac_takeBack 15 [l0] (zi b :: zi a :: st) w M Q ↔ zF d x_Ac_takeBack 16 [l0] (zi (a - b) :: st) w M Q := zG_stk (zh_Ac_takeBack 15 rfl) rfl rfl
theorem f_Ac_takeBack_16 : zF d x_Ac_takeBack 16 [l0] (zi a :: zr k :: st) w M Q ↔ (zO w k 0 5 ∧ zF d x_Ac_takeBack 19 [l0] st w (zu M k 5 a) Q) := zG_putI (zh_Ac_takeBack 16 rfl) rfl rfl rfl
theorem f_Ac_takeBack_19 : zF d x_Ac_takeBack 19 [zr k] st w M Q ↔ zF d x_Ac_takeBack 20 [zr k] (zr k :: st) w M Q := zG_loc (zh_Ac_takeBack 19 rfl) rfl rfl rfl
theorem f_Ac_takeBack_20i : zF d x_Ac_takeBack 20 [l0] (zi a :: st) w M Q ↔ zF d x_Ac_takeBack 21 [l0] (zi a :: zi a :: st) w M Q := zG_stk (zh_Ac_takeBack 20 rfl) rfl rfl
theorem f_Ac_takeBack_20r : zF d x_Ac_takeBack 20 [l0] (zr k :: st) w M Q ↔ zF d x_Ac_takeBack 21 [l0] (zr k :: zr k :: st) w M Q := zG_stk (zh_Ac_takeBack 20 rfl) rfl rfl
theorem f_Ac_takeBack_21 : zF d x_Ac_takeBack 21 [l0] (zr k :: st) w M Q ↔ (zO w k 0 6 ∧ zF d x_Ac_takeBack 24 [l0] (zi (M k 6) :: st) w M Q) := zG_getI (zh_Ac_takeBack 21 rfl) rfl rfl rfl
theorem f_Ac_takeBack_24 : zF d x_Ac_takeBack 24 [l0] st w M Q ↔ zF d x_Ac_takeBack 25 [l0] (zi (1) :: st) w M Q := zG_stk (zh_Ac_takeBack 24 rfl) rfl rfl
theorem f_Ac_takeBack_25 : zF d x_Ac_takeBack 25 [l0] (zi b :: zi a :: st) w M Q ↔ zF d x_Ac_takeBack 26 [l0] (zi (a + b) :: st) w M Q := zG_stk (zh_Ac_takeBack 25 rfl) rfl rfl
theorem f_Ac_takeBack_26 : zF d x_Ac_takeBack 26 [l0] (zi a :: zr k :: st) w M Q ↔ (zO w k 0 6 ∧ zF d x_Ac_takeBack 29 [l0] st w (zu M k 6 a) Q) := zG_putI (zh_Ac_takeBack 26 rfl) rfl rfl rfl
theorem f_Ac_takeBack_29 : zF d x_Ac_takeBack 29 [zr k] st w M Q ↔ zF d x_Ac_takeBack 30 [zr k] (zr k :: st) w M Q := zG_loc (zh_Ac_takeBack 29 rfl) rfl rfl rfl
theorem f_Ac_takeBack_30 : zF d x_Ac_takeBack 30 [zr k] st w M Q ↔ zF d x_Ac_takeBack 31 [zr k] (zr k :: st) w M Q := zG_loc (zh_Ac_takeBack 30 rfl) rfl rfl rfl
theorem f_Ac_takeBack_31 : zF d x_Ac_takeBack 31 [l0] (zr k :: st) w M Q ↔ (zO w k 0 4 ∧ zF d x_Ac_takeBack 34 [l0] (zi (M k 4) :: st) w M Q) := zG_getI (zh_Ac_takeBack 31 rfl) rfl rfl rfl
theorem f_Ac_takeBack_34 : zF d x_Ac_takeBack 34 [zr k] st w M Q ↔ zF d x_Ac_takeBack 35 [zr k] (zr k :: st) w M Q := zG_loc (zh_Ac_takeBack 34 rfl) rfl rfl rfl
theorem f_Ac_takeBack_35 : zF d x_Ac_takeBack 35 [l0] (zr k :: st) w M Q ↔ (zO w k 0 5 ∧ zF d x_Ac_takeBack 38 [l0] (zi (M k 5) :: st) w M Q) := zG_getI (zh_Ac_takeBack 35 rfl) rfl rfl rfl
theorem f_Ac_takeBack_38 : zF d x_Ac_takeBack 38 [l0] (zi b :: zi a :: st) w M Q ↔ zF d x_Ac_takeBack 39 [l0] (zi (a + b) :: st) w M Q := zG_stk (zh_Ac_takeBack 38 rfl) rfl rfl
theorem f_Ac_takeBack_39 : zF d x_Ac_takeBack 39 [l0] st w M Q ↔ zF d x_Ac_takeBack 42 [l0] (zi (300) :: st) w M Q := zG_stk (zh_Ac_takeBack 39 rfl) rfl rfl
theorem f_Ac_takeBack_42 : zF d x_Ac_takeBack 42 [l0] (zi b :: zi a :: st) w M Q ↔ (¬ z32 b = 0 ∧ zF d x_Ac_takeBack 43 [l0] (zi (zrem a b) :: st) w M Q) := zG_stkD (zh_Ac_takeBack 42 rfl) rfl (by rfl) (fun _ => rfl) rfl
theorem f_Ac_takeBack_43 : zF d x_Ac_takeBack 43 [l0] (zi a :: zr k :: st) w M Q ↔ (0 < d ∧ zwd st ≤ 8 ∧ ((zsh w k).1 = 0 ∧ (zsh w k).2.1 = 0) ∧ zF (d - 1) x_Ac_passOver 0 [zr k, zi a, zt, zt] [] w M (fun v w' M' => zF d x_Ac_takeBack 46 [l0] (v.toList ++ st) w' M' Q)) := zG_callO [zi a] (.inl rfl) (zh_Ac_takeBack 43 rfl) rfl rfl rfl (by rw [zm_Ac_passOver]; rfl) (by rw [zm_Ac_passOver]; rfl) rfl
theorem f_Ac_takeBack_46 : zF d x_Ac_takeBack 46 [l0] st w M Q ↔ zF d x_Ac_takeBack 47 [l0] (zi (1) :: st) w M Q := zG_stk (zh_Ac_takeBack 46 rfl) rfl rfl
theorem f_Ac_takeBack_47 : zF d x_Ac_takeBack 47 [l0] [zi a] w M Q ↔ ((a = 0 ∨ a = 1) ∧ Q (some (zi a)) w M) := zG_prR (zh_Ac_takeBack 47 rfl) zb_Ac_takeBack
theorem f_Ac_tellAgain_0 : zF d x_Ac_tellAgain 0 [zr k] st w M Q ↔ zF d x_Ac_tellAgain 1 [zr k] (zr k :: st) w M Q := zG_loc (zh_Ac_tellAgain 0 rfl) rfl rfl rfl
theorem f_Ac_tellAgain_1 : zF d x_Ac_tellAgain 1 [l0] (zr k :: st) w M Q ↔ (zO w k 0 6 ∧ zF d x_Ac_tellAgain 4 [l0] (zi (M k 6) :: st) w M Q) := zG_getI (zh_Ac_tellAgain 1 rfl) rfl rfl rfl
theorem f_Ac_tellAgain_4 : zF d x_Ac_tellAgain 4 [l0] (zi a :: st) w M Q ↔ (if z32 a = 0 then zF d x_Ac_tellAgain 7 [l0] st w M Q else zF d x_Ac_tellAgain 9 [l0] st w M Q) := zG_ifN (zh_Ac_tellAgain 4 rfl) rfl rfl rfl decide_eq_true_iff
theorem f_Ac_tellAgain_7 : zF d x_Ac_tellAgain 7 [l0] st w M Q ↔ zF d x_Ac_tellAgain 8 [l0] (zi (0) :: st) w M Q := zG_stk (zh_Ac_tellAgain 7 rfl) rfl rfl
theorem f_Ac_tellAgain_8 : zF d x_Ac_tellAgain 8 [l0] [zi a] w M Q ↔ ((a = 0 ∨ a = 1) ∧ Q (some (zi a)) w M) := zG_prR (zh_Ac_tellAgain 8 rfl) zb_Ac_tellAgain
theorem f_Ac_tellAgain_9 : zF d x_Ac_tellAgain 9 [zr k] st w M Q ↔ zF d x_Ac_tellAgain 10 [zr k] (zr k :: st) w M Q := zG_loc (zh_Ac_tellAgain 9 rfl) rfl rfl rfl
theorem f_Ac_tellAgain_10 : zF d x_Ac_tellAgain 10 [zr k] st w M Q ↔ zF d x_Ac_tellAgain 11 [zr k] (zr k :: st) w M Q := zG_loc (zh_Ac_tellAgain 10 rfl) rfl rfl rfl
theorem f_Ac_tellAgain_11 : zF d x_Ac_tellAgain 11 [l0] (zr k :: st) w M Q ↔ (zO w k 0 4 ∧ zF d x_Ac_tellAgain 14 [l0] (zi (M k 4) :: st) w M Q) := zG_getI (zh_Ac_tellAgain 11 rfl) rfl rfl rfl
theorem f_Ac_tellAgain_14 : zF d x_Ac_tellAgain 14 [zr k] st w M Q ↔ zF d x_Ac_tellAgain 15 [zr k] (zr k :: st) w M Q := zG_loc (zh_Ac_tellAgain 14 rfl) rfl rfl rfl
theorem f_Ac_tellAgain_15 : zF d x_Ac_tellAgain 15 [l0] (zr k :: st) w M Q ↔ (zO w k 0 5 ∧ zF d x_Ac_tellAgain 18 [l0] (zi (M k 5) :: st) w M Q) := zG_getI (zh_Ac_tellAgain 15 rfl) rfl rfl rfl
theorem f_Ac_tellAgain_18 : zF d x_Ac_tellAgain 18 [l0] (zi b :: zi a :: st) w M Q ↔ zF d x_Ac_tellAgain 19 [l0] (zi (a + b) :: st) w M Q := zG_stk (zh_Ac_tellAgain 18 rfl) rfl rfl
theorem f_Ac_tellAgain_19 : zF d x_Ac_tellAgain 19 [l0] st w M Q ↔ zF d x_Ac_tellAgain 22 [l0] (zi (300) :: st) w M Q := zG_stk (zh_Ac_tellAgain 19 rfl) rfl rfl
theorem f_Ac_tellAgain_22 : zF d x_Ac_tellAgain 22 [l0] (zi b :: zi a :: st) w M Q ↔ (¬ z32 b = 0 ∧ zF d x_Ac_tellAgain 23 [l0] (zi (zrem a b) :: st) w M Q) := zG_stkD (zh_Ac_tellAgain 22 rfl) rfl (by rfl) (fun _ => rfl) rfl
theorem f_Ac_tellAgain_23 : zF d x_Ac_tellAgain 23 [l0] (zi a :: zr k :: st) w M Q ↔ (0 < d ∧ zwd st ≤ 8 ∧ ((zsh w k).1 = 0 ∧ (zsh w k).2.1 = 0) ∧ zF (d - 1) x_Ac_passOver 0 [zr k, zi a, zt, zt] [] w M (fun v w' M' => zF d x_Ac_tellAgain 26 [l0] (v.toList ++ st) w' M' Q)) := zG_callO [zi a] (.inl rfl) (zh_Ac_tellAgain 23 rfl) rfl rfl rfl (by rw [zm_Ac_passOver]; rfl) (by rw [zm_Ac_passOver]; rfl) rfl
theorem f_Ac_tellAgain_26 : zF d x_Ac_tellAgain 26 [zr k] st w M Q ↔ zF d x_Ac_tellAgain 27 [zr k] (zr k :: st) w M Q := zG_loc (zh_Ac_tellAgain 26 rfl) rfl rfl rfl
theorem f_Ac_tellAgain_27i : zF d x_Ac_tellAgain 27 [l0] (zi a :: st) w M Q ↔ zF d x_Ac_tellAgain 28 [l0] (zi a :: zi a :: st) w M Q := zG_stk (zh_Ac_tellAgain 27 rfl) rfl rfl
theorem f_Ac_tellAgain_27r : zF d x_Ac_tellAgain 27 [l0] (zr k :: st) w M Q ↔ zF d x_Ac_tellAgain 28 [l0] (zr k :: zr k :: st) w M Q := zG_stk (zh_Ac_tellAgain 27 rfl) rfl rfl
theorem f_Ac_tellAgain_28 : zF d x_Ac_tellAgain 28 [l0] (zr k :: st) w M Q ↔ (zO w k 0 5 ∧ zF d x_Ac_tellAgain 31 [l0] (zi (M k 5) :: st) w M Q) := zG_getI (zh_Ac_tellAgain 28 rfl) rfl rfl rfl
theorem f_Ac_tellAgain_31 : zF d x_Ac_tellAgain 31 [l0] st w M Q ↔ zF d x_Ac_tellAgain 32 [l0] (zi (1) :: st) w M Q := zG_stk (zh_Ac_tellAgain 31 rfl) rfl rfl
theorem f_Ac_tellAgain_32 : zF d x_Ac_tellAgain 32 [l0] (zi b :: zi a :: st) w M Q ↔ zF d x_Ac_tellAgain 33 [l0] (zi (a + b) :: st) w M Q := zG_stk (zh_Ac_tellAgain 32 rfl) rfl rfl
theorem f_Ac_tellAgain_33 : zF d x_Ac_tellAgain 33 [l0] (zi a :: zr k :: st) w M Q ↔ (zO w k 0 5 ∧ zF d x_Ac_tellAgain 36 [l0] st w (zu M k 5 a) Q) := zG_putI (zh_Ac_tellAgain 33 rfl) rfl rfl rfl
theorem f_Ac_tellAgain_36 : zF d x_Ac_tellAgain 36 [zr k] st w M Q ↔ zF d x_Ac_tellAgain 37 [zr k] (zr k :: st) w M Q := zG_loc (zh_Ac_tellAgain 36 rfl) rfl rfl rfl
theorem f_Ac_tellAgain_37i : zF d x_Ac_tellAgain 37 [l0] (zi a :: st) w M Q ↔ zF d x_Ac_tellAgain 38 [l0] (zi a :: zi a :: st) w M Q := zG_stk (zh_Ac_tellAgain 37 rfl) rfl rfl
theorem f_Ac_tellAgain_37r : zF d x_Ac_tellAgain 37 [l0] (zr k :: st) w M Q ↔ zF d x_Ac_tellAgain 38 [l0] (zr k :: zr k :: st) w M Q := zG_stk (zh_Ac_tellAgain 37 rfl) rfl rfl
theorem f_Ac_tellAgain_38 : zF d x_Ac_tellAgain 38 [l0] (zr k :: st) w M Q ↔ (zO w k 0 6 ∧ zF d x_Ac_tellAgain 41 [l0] (zi (M k 6) :: st) w M Q) := zG_getI (zh_Ac_tellAgain 38 rfl) rfl rfl rfl
theorem f_Ac_tellAgain_41 : zF d x_Ac_tellAgain 41 [l0] st w M Q ↔ zF d x_Ac_tellAgain 42 [l0] (zi (1) :: st) w M Q := zG_stk (zh_Ac_tellAgain 41 rfl) rfl rfl
theorem f_Ac_tellAgain_42 : zF d x_Ac_tellAgain 42 [l0] (zi b :: zi a :: st) w M Q ↔ zF d x_Ac_tellAgain 43 [l0] (zi (a - b) :: st) w M Q := zG_stk (zh_Ac_tellAgain 42 rfl) rfl rfl
theorem f_Ac_tellAgain_43 : zF d x_Ac_tellAgain 43 [l0] (zi a :: zr k :: st) w M Q ↔ (zO w k 0 6 ∧ zF d x_Ac_tellAgain 46 [l0] st w (zu M k 6 a) Q) := zG_putI (zh_Ac_tellAgain 43 rfl) rfl rfl rfl
theorem f_Ac_tellAgain_46 : zF d x_Ac_tellAgain 46 [l0] st w M Q ↔ zF d x_Ac_tellAgain 47 [l0] (zi (1) :: st) w M Q := zG_stk (zh_Ac_tellAgain 46 rfl) rfl rfl
theorem f_Ac_tellAgain_47 : zF d x_Ac_tellAgain 47 [l0] [zi a] w M Q ↔ ((a = 0 ∨ a = 1) ∧ Q (some (zi a)) w M) := zG_prR (zh_Ac_tellAgain 47 rfl) zb_Ac_tellAgain
theorem f_Ac_passOver_0 : zF d x_Ac_passOver 0 [l0, l1, l2, l3] st w M Q ↔ zF d x_Ac_passOver 1 [l0, l1, l2, l3] (zi (0) :: st) w M Q := zG_stk (zh_Ac_passOver 0 rfl) rfl rfl
theorem f_Ac_passOver_1 : zF d x_Ac_passOver 1 [l0, l1, l2, l3] (zi a :: st) w M Q ↔ (znl l1 = true ∧ zF d x_Ac_passOver 2 [l0, l1, zi a, l3] st w M Q) := zG_stI (zh_Ac_passOver 1 rfl) rfl rfl rfl rfl rfl rfl rfl rfl rfl rfl rfl
theorem f_Ac_passOver_2 : zF d x_Ac_passOver 2 [l0, l1, zi a, l3] st w M Q ↔ zF d x_Ac_passOver 3 [l0, l1, zi a, l3] (zi a :: st) w M Q := zG_loc (zh_Ac_passOver 2 rfl) rfl rfl rfl
theorem f_Ac_passOver_3 : zF d x_Ac_passOver 3 [zr k, l1, l2, l3] st w M Q ↔ zF d x_Ac_passOver 4 [zr k, l1, l2, l3] (zr k :: st) w M Q := zG_loc (zh_Ac_passOver 3 rfl) rfl rfl rfl
theorem f_Ac_passOver_4 : zF d x_Ac_passOver 4 [l0, l1, l2, l3] (zr k :: st) w M Q ↔ (zO w k 0 2 ∧ ¬ w.2 k 2 = 0 ∧ zF d x_Ac_passOver 7 [l0, l1, l2, l3] (zr (w.2 k 2) :: st) w M Q) := zG_getA (zh_Ac_passOver 4 rfl) rfl rfl rfl
theorem f_Ac_passOver_7 : zF d x_Ac_passOver 7 [l0, zi a, l2, l3] st w M Q ↔ zF d x_Ac_passOver 8 [l0, zi a, l2, l3] (zi a :: st) w M Q := zG_loc (zh_Ac_passOver 7 rfl) rfl rfl rfl
theorem f_Ac_passOver_8 : zF d x_Ac_passOver 8 [l0, l1, l2, l3] (zi a :: zr k :: st) w M Q ↔ (zA w k 0 (z32 a) ∧ zF d x_Ac_passOver 9 [l0, l1, l2, l3] (zi (M k (z32 a).toNat) :: st) w M Q) := zG_iald (zh_Ac_passOver 8 rfl) rfl
theorem f_Ac_passOver_9 : zF d x_Ac_passOver 9 [l0, l1, l2, l3] (zi b :: zi a :: st) w M Q ↔ (if z32 b ≤ z32 a then zF d x_Ac_passOver 72 [l0, l1, l2, l3] st w M Q else zF d x_Ac_passOver 12 [l0, l1, l2, l3] st w M Q) := zG_ifP (zh_Ac_passOver 9 rfl) rfl rfl rfl decide_eq_true_iff
theorem f_Ac_passOver_12 : zF d x_Ac_passOver 12 [zr k, l1, l2, l3] st w M Q ↔ zF d x_Ac_passOver 13 [zr k, l1, l2, l3] (zr k :: st) w M Q := zG_loc (zh_Ac_passOver 12 rfl) rfl rfl rfl
theorem f_Ac_passOver_13 : zF d x_Ac_passOver 13 [l0, l1, l2, l3] (zr k :: st) w M Q ↔ (zO w k 0 0 ∧ ¬ w.2 k 0 = 0 ∧ zF d x_Ac_passOver 16 [l0, l1, l2, l3] (zr (w.2 k 0) :: st) w M Q) := zG_getA (zh_Ac_passOver 13 rfl) rfl rfl rfl
theorem f_Ac_passOver_16 : zF d x_Ac_passOver 16 [zr k, l1, l2, l3] st w M Q ↔ zF d x_Ac_passOver 17 [zr k, l1, l2, l3] (zr k :: st) w M Q := zG_loc (zh_Ac_passOver 16 rfl) rfl rfl rfl
theorem f_Ac_passOver_17 : zF d x_Ac_passOver 17 [l0, l1, l2, l3] (zr k :: st) w M Q ↔ (zO w k 0 1 ∧ ¬ w.2 k 1 = 0 ∧ zF d x_Ac_passOver 20 [l0, l1, l2, l3] (zr (w.2 k 1) :: st) w M Q) := zG_getA (zh_Ac_passOver 17 rfl) rfl rfl rfl
theorem f_Ac_passOver_20 : zF d x_Ac_passOver 20 [l0, zi a, l2, l3] st w M Q ↔ zF d x_Ac_passOver 21 [l0, zi a, l2, l3] (zi a :: st) w M Q := zG_loc (zh_Ac_passOver 20 rfl) rfl rfl rfl
theorem f_Ac_passOver_21 : zF d x_Ac_passOver 21 [l0, l1, l2, l3] (zi a :: zr k :: st) w M Q ↔ (zA w k 0 (z32 a) ∧ zF d x_Ac_passOver 22 [l0, l1, l2, l3] (zi (M k (z32 a).toNat) :: st) w M Q) := zG_iald (zh_Ac_passOver 21 rfl) rfl
theorem f_Ac_passOver_22 : zF d x_Ac_passOver 22 [l0, l1, zi a, l3] st w M Q ↔ zF d x_Ac_passOver 23 [l0, l1, zi a, l3] (zi a :: st) w M Q := zG_loc (zh_Ac_passOver 22 rfl) rfl rfl rfl
theorem f_Ac_passOver_23 : zF d x_Ac_passOver 23 [l0, l1, l2, l3] (zi b :: zi a :: st) w M Q ↔ zF d x_Ac_passOver 24 [l0, l1, l2, l3] (zi (a + b) :: st) w M Q := zG_stk (zh_Ac_passOver 23 rfl) rfl rfl
theorem f_Ac_passOver_24 : zF d x_Ac_passOver 24 [l0, l1, l2, l3] (zi a :: zr k :: st) w M Q ↔ (0 < d ∧ zwd st ≤ 8 ∧ ((zsh w k).1 = 0 ∧ (zsh w k).2.1 = 2) ∧ zF (d - 1) x_Ce_get 0 [zr k, zi a] [] w M (fun v w' M' => zF d x_Ac_passOver 27 [l0, l1, l2, l3] (v.toList ++ st) w' M' Q)) := zG_callO [zi a] (.inl rfl) (zh_Ac_passOver 24 rfl) rfl rfl rfl (by rw [zm_Ce_get]; rfl) (by rw [zm_Ce_get]; rfl) rfl
theorem f_Ac_passOver_27 : zF d x_Ac_passOver 27 [l0, l1, l2, l3] (zi a :: st) w M Q ↔ (znl l2 = true ∧ zF d x_Ac_passOver 28 [l0, l1, l2, zi a] st w M Q) := zG_stI (zh_Ac_passOver 27 rfl) rfl rfl rfl rfl rfl rfl rfl rfl rfl rfl rfl
theorem f_Ac_passOver_28 : zF d x_Ac_passOver 28 [zr k, l1, l2, l3] st w M Q ↔ zF d x_Ac_passOver 29 [zr k, l1, l2, l3] (zr k :: st) w M Q := zG_loc (zh_Ac_passOver 28 rfl) rfl rfl rfl
theorem f_Ac_passOver_29 : zF d x_Ac_passOver 29 [l0, l1, l2, l3] (zr k :: st) w M Q ↔ (zO w k 0 0 ∧ ¬ w.2 k 0 = 0 ∧ zF d x_Ac_passOver 32 [l0, l1, l2, l3] (zr (w.2 k 0) :: st) w M Q) := zG_getA (zh_Ac_passOver 29 rfl) rfl rfl rfl
theorem f_Ac_passOver_32 : zF d x_Ac_passOver 32 [zr k, l1, l2, l3] st w M Q ↔ zF d x_Ac_passOver 33 [zr k, l1, l2, l3] (zr k :: st) w M Q := zG_loc (zh_Ac_passOver 32 rfl) rfl rfl rfl
theorem f_Ac_passOver_33 : zF d x_Ac_passOver 33 [l0, l1, l2, l3] (zr k :: st) w M Q ↔ (zO w k 0 1 ∧ ¬ w.2 k 1 = 0 ∧ zF d x_Ac_passOver 36 [l0, l1, l2, l3] (zr (w.2 k 1) :: st) w M Q) := zG_getA (zh_Ac_passOver 33 rfl) rfl rfl rfl
theorem f_Ac_passOver_36 : zF d x_Ac_passOver 36 [l0, zi a, l2, l3] st w M Q ↔ zF d x_Ac_passOver 37 [l0, zi a, l2, l3] (zi a :: st) w M Q := zG_loc (zh_Ac_passOver 36 rfl) rfl rfl rfl
theorem f_Ac_passOver_37 : zF d x_Ac_passOver 37 [l0, l1, l2, l3] (zi a :: zr k :: st) w M Q ↔ (zA w k 0 (z32 a) ∧ zF d x_Ac_passOver 38 [l0, l1, l2, l3] (zi (M k (z32 a).toNat) :: st) w M Q) := zG_iald (zh_Ac_passOver 37 rfl) rfl
theorem f_Ac_passOver_38 : zF d x_Ac_passOver 38 [l0, l1, zi a, l3] st w M Q ↔ zF d x_Ac_passOver 39 [l0, l1, zi a, l3] (zi a :: st) w M Q := zG_loc (zh_Ac_passOver 38 rfl) rfl rfl rfl
theorem f_Ac_passOver_39 : zF d x_Ac_passOver 39 [l0, l1, l2, l3] (zi b :: zi a :: st) w M Q ↔ zF d x_Ac_passOver 40 [l0, l1, l2, l3] (zi (a + b) :: st) w M Q := zG_stk (zh_Ac_passOver 39 rfl) rfl rfl
theorem f_Ac_passOver_40 : zF d x_Ac_passOver 40 [zr k, l1, l2, l3] st w M Q ↔ zF d x_Ac_passOver 41 [zr k, l1, l2, l3] (zr k :: st) w M Q := zG_loc (zh_Ac_passOver 40 rfl) rfl rfl rfl
theorem f_Ac_passOver_41 : zF d x_Ac_passOver 41 [l0, l1, l2, l3] (zr k :: st) w M Q ↔ (zO w k 0 3 ∧ ¬ w.2 k 3 = 0 ∧ zF d x_Ac_passOver 44 [l0, l1, l2, l3] (zr (w.2 k 3) :: st) w M Q) := zG_getA (zh_Ac_passOver 41 rfl) rfl rfl rfl
theorem f_Ac_passOver_44 : zF d x_Ac_passOver 44 [l0, zi a, l2, l3] st w M Q ↔ zF d x_Ac_passOver 45 [l0, zi a, l2, l3] (zi a :: st) w M Q := zG_loc (zh_Ac_passOver 44 rfl) rfl rfl rfl
theorem f_Ac_passOver_45 : zF d x_Ac_passOver 45 [l0, l1, l2, l3] st w M Q ↔ zF d x_Ac_passOver 47 [l0, l1, l2, l3] (zi (29) :: st) w M Q := zG_stk (zh_Ac_passOver 45 rfl) rfl rfl
theorem f_Ac_passOver_47 : zF d x_Ac_passOver 47 [l0, l1, l2, l3] (zi b :: zi a :: st) w M Q ↔ zF d x_Ac_passOver 48 [l0, l1, l2, l3] (zi (a * b) :: st) w M Q := zG_stk (zh_Ac_passOver 47 rfl) rfl rfl
theorem f_Ac_passOver_48 : zF d x_Ac_passOver 48 [l0, l1, zi a, l3] st w M Q ↔ zF d x_Ac_passOver 49 [l0, l1, zi a, l3] (zi a :: st) w M Q := zG_loc (zh_Ac_passOver 48 rfl) rfl rfl rfl
theorem f_Ac_passOver_49 : zF d x_Ac_passOver 49 [l0, l1, l2, l3] (zi b :: zi a :: st) w M Q ↔ zF d x_Ac_passOver 50 [l0, l1, l2, l3] (zi (a + b) :: st) w M Q := zG_stk (zh_Ac_passOver 49 rfl) rfl rfl
theorem f_Ac_passOver_50 : zF d x_Ac_passOver 50 [l0, l1, l2, l3] (zi a :: zr k :: st) w M Q ↔ (zA w k 0 (z32 a) ∧ zF d x_Ac_passOver 51 [l0, l1, l2, l3] (zi (M k (z32 a).toNat) :: st) w M Q) := zG_iald (zh_Ac_passOver 50 rfl) rfl
theorem f_Ac_passOver_51 : zF d x_Ac_passOver 51 [l0, l1, l2, l3] (zi b :: zi a :: zr k :: st) w M Q ↔ (0 < d ∧ zwd st ≤ 8 ∧ ((zsh w k).1 = 0 ∧ (zsh w k).2.1 = 2) ∧ zF (d - 1) x_Ce_put 0 [zr k, zi a, zi b] [] w M (fun v w' M' => zF d x_Ac_passOver 54 [l0, l1, l2, l3] (v.toList ++ st) w' M' Q)) := zG_callO [zi b, zi a] (.inl rfl) (zh_Ac_passOver 51 rfl) rfl rfl rfl (by rw [zm_Ce_put]; rfl) (by rw [zm_Ce_put]; rfl) rfl
theorem f_Ac_passOver_54 : zF d x_Ac_passOver 54 [zr k, l1, l2, l3] st w M Q ↔ zF d x_Ac_passOver 55 [zr k, l1, l2, l3] (zr k :: st) w M Q := zG_loc (zh_Ac_passOver 54 rfl) rfl rfl rfl
theorem f_Ac_passOver_55 : zF d x_Ac_passOver 55 [l0, l1, l2, l3] (zr k :: st) w M Q ↔ (zO w k 0 3 ∧ ¬ w.2 k 3 = 0 ∧ zF d x_Ac_passOver 58 [l0, l1, l2, l3] (zr (w.2 k 3) :: st) w M Q) := zG_getA (zh_Ac_passOver 55 rfl) rfl rfl rfl
theorem f_Ac_passOver_58 : zF d x_Ac_passOver 58 [l0, zi a, l2, l3] st w M Q ↔ zF d x_Ac_passOver 59 [l0, zi a, l2, l3] (zi a :: st) w M Q := zG_loc (zh_Ac_passOver 58 rfl) rfl rfl rfl
theorem f_Ac_passOver_59 : zF d x_Ac_passOver 59 [l0, l1, l2, l3] st w M Q ↔ zF d x_Ac_passOver 61 [l0, l1, l2, l3] (zi (29) :: st) w M Q := zG_stk (zh_Ac_passOver 59 rfl) rfl rfl
theorem f_Ac_passOver_61 : zF d x_Ac_passOver 61 [l0, l1, l2, l3] (zi b :: zi a :: st) w M Q ↔ zF d x_Ac_passOver 62 [l0, l1, l2, l3] (zi (a * b) :: st) w M Q := zG_stk (zh_Ac_passOver 61 rfl) rfl rfl
theorem f_Ac_passOver_62 : zF d x_Ac_passOver 62 [l0, l1, zi a, l3] st w M Q ↔ zF d x_Ac_passOver 63 [l0, l1, zi a, l3] (zi a :: st) w M Q := zG_loc (zh_Ac_passOver 62 rfl) rfl rfl rfl
theorem f_Ac_passOver_63 : zF d x_Ac_passOver 63 [l0, l1, l2, l3] (zi b :: zi a :: st) w M Q ↔ zF d x_Ac_passOver 64 [l0, l1, l2, l3] (zi (a + b) :: st) w M Q := zG_stk (zh_Ac_passOver 63 rfl) rfl rfl
theorem f_Ac_passOver_64 : zF d x_Ac_passOver 64 [l0, l1, l2, zi a] st w M Q ↔ zF d x_Ac_passOver 65 [l0, l1, l2, zi a] (zi a :: st) w M Q := zG_loc (zh_Ac_passOver 64 rfl) rfl rfl rfl
theorem f_Ac_passOver_65 : zF d x_Ac_passOver 65 [l0, l1, l2, l3] (zi b :: zi a :: zr k :: st) w M Q ↔ (zAs w k 0 (z32 a) ∧ zF d x_Ac_passOver 66 [l0, l1, l2, l3] st w (zu M k (z32 a).toNat b) Q) := zG_iast (zh_Ac_passOver 65 rfl) rfl
theorem f_Ac_passOver_66 : zF d x_Ac_passOver 66 [l0, l1, zi a, l3] st w M Q ↔ (znl l1 = true ∧ zF d x_Ac_passOver 69 [l0, l1, zi (a + (1)), l3] st w M Q) := zG_inc (zh_Ac_passOver 66 rfl) rfl rfl rfl rfl rfl rfl rfl
theorem f_Ac_passOver_69 : zF d x_Ac_passOver 69 [l0, l1, l2, l3] st w M Q ↔ zF d x_Ac_passOver 2 [l0, l1, l2, l3] st w M Q := zG_br (zh_Ac_passOver 69 rfl) rfl rfl rfl
theorem f_Ac_passOver_72 : zF d x_Ac_passOver 72 [zr k, l1, l2, l3] st w M Q ↔ zF d x_Ac_passOver 73 [zr k, l1, l2, l3] (zr k :: st) w M Q := zG_loc (zh_Ac_passOver 72 rfl) rfl rfl rfl
theorem f_Ac_passOver_73 : zF d x_Ac_passOver 73 [l0, l1, l2, l3] (zr k :: st) w M Q ↔ (zO w k 0 0 ∧ ¬ w.2 k 0 = 0 ∧ zF d x_Ac_passOver 76 [l0, l1, l2, l3] (zr (w.2 k 0) :: st) w M Q) := zG_getA (zh_Ac_passOver 73 rfl) rfl rfl rfl
theorem f_Ac_passOver_76 : zF d x_Ac_passOver 76 [l0, l1, l2, l3] (zr k :: st) w M Q ↔ (0 < d ∧ zwd st ≤ 8 ∧ ((zsh w k).1 = 0 ∧ (zsh w k).2.1 = 2) ∧ zF (d - 1) x_Ce_becomesAnother 0 [zr k] [] w M (fun v w' M' => zF d x_Ac_passOver 79 [l0, l1, l2, l3] (v.toList ++ st) w' M' Q)) := zG_callO [] (.inl rfl) (zh_Ac_passOver 76 rfl) rfl rfl rfl (by rw [zm_Ce_becomesAnother]; rfl) (by rw [zm_Ce_becomesAnother]; rfl) rfl
theorem f_Ac_passOver_79 : zF d x_Ac_passOver 79 [l0, l1, l2, l3] [] w M Q ↔ Q none w M := zG_ret (zh_Ac_passOver 79 rfl) rfl rfl rfl rfl rfl
theorem f_Ce_init_0 : zF d x_Ce_init 0 [zr k] st w M Q ↔ zF d x_Ce_init 1 [zr k] (zr k :: st) w M Q := zG_loc (zh_Ce_init 0 rfl) rfl rfl rfl
theorem f_Ce_init_1 : zF d x_Ce_init 1 [l0] (zr k :: st) w M Q ↔ (20 ≤ d ∧ zwd st ≤ 8 ∧ zF d x_Ce_init 4 [l0] st w M Q) := zG_pInit (zh_Ce_init 1 rfl) rfl
theorem f_Ce_init_4 : zF d x_Ce_init 4 [zr k] st w M Q ↔ zF d x_Ce_init 5 [zr k] (zr k :: st) w M Q := zG_loc (zh_Ce_init 4 rfl) rfl rfl rfl
theorem f_Ce_init_5 : zF d x_Ce_init 5 [l0] st w M Q ↔ zF d x_Ce_init 8 [l0] (zi (224) :: st) w M Q := zG_stk (zh_Ce_init 5 rfl) rfl rfl
theorem f_Ce_init_8 : zF d x_Ce_init 8 [l0] (zi a :: st) w M Q ↔ ((0 ≤ z32 a ∧ z32 a ≤ 100000) ∧ zF d x_Ce_init 10 [l0] (zr w.1.length :: st) (w.1 ++ [(1, 0, (z32 a).toNat)], zo w.2 w.1.length (fun _ => 0)) (zo M w.1.length (fun _ => 0)) Q) := zG_newa (zh_Ce_init 8 rfl) rfl
theorem f_Ce_init_10 : zF d x_Ce_init 10 [l0] (zr k1 :: zr k :: st) w M Q ↔ (zO w k 2 0 ∧ 0 < k1 ∧ zF d x_Ce_init 13 [l0] st (w.1, zu w.2 k 0 k1) M Q) := zG_putA (zh_Ce_init 10 rfl) rfl rfl rfl
theorem f_Ce_init_13 : zF d x_Ce_init 13 [zr k] st w M Q ↔ zF d x_Ce_init 14 [zr k] (zr k :: st) w M Q := zG_loc (zh_Ce_init 13 rfl) rfl rfl rfl
theorem f_Ce_init_14 : zF d x_Ce_init 14 [l0] (zr k :: st) w M Q ↔ (zO w k 2 0 ∧ ¬ w.2 k 0 = 0 ∧ zF d x_Ce_init 17 [l0] (zr (w.2 k 0) :: st) w M Q) := zG_getA (zh_Ce_init 14 rfl) rfl rfl rfl
theorem f_Ce_init_17 : zF d x_Ce_init 17 [l0] st w M Q ↔ zF d x_Ce_init 19 [l0] (zi (94) :: st) w M Q := zG_stk (zh_Ce_init 17 rfl) rfl rfl
theorem f_Ce_init_19 : zF d x_Ce_init 19 [l0] st w M Q ↔ zF d x_Ce_init 20 [l0] (zi (1) :: st) w M Q := zG_stk (zh_Ce_init 19 rfl) rfl rfl
theorem f_Ce_init_20 : zF d x_Ce_init 20 [l0] (zi b :: zi a :: zr k :: st) w M Q ↔ (zAs w k 0 (z32 a) ∧ zF d x_Ce_init 21 [l0] st w (zu M k (z32 a).toNat b) Q) := zG_iast (zh_Ce_init 20 rfl) rfl
theorem f_Ce_init_21 : zF d x_Ce_init 21 [zr k] st w M Q ↔ zF d x_Ce_init 22 [zr k] (zr k :: st) w M Q := zG_loc (zh_Ce_init 21 rfl) rfl rfl rfl
theorem f_Ce_init_22 : zF d x_Ce_init 22 [l0] (zr k :: st) w M Q ↔ (zO w k 2 0 ∧ ¬ w.2 k 0 = 0 ∧ zF d x_Ce_init 25 [l0] (zr (w.2 k 0) :: st) w M Q) := zG_getA (zh_Ce_init 22 rfl) rfl rfl rfl
theorem f_Ce_init_25 : zF d x_Ce_init 25 [l0] st w M Q ↔ zF d x_Ce_init 28 [l0] (zi (187) :: st) w M Q := zG_stk (zh_Ce_init 25 rfl) rfl rfl
theorem f_Ce_init_28 : zF d x_Ce_init 28 [l0] st w M Q ↔ zF d x_Ce_init 30 [l0] (zi (8) :: st) w M Q := zG_stk (zh_Ce_init 28 rfl) rfl rfl
theorem f_Ce_init_30 : zF d x_Ce_init 30 [l0] (zi b :: zi a :: zr k :: st) w M Q ↔ (zAs w k 0 (z32 a) ∧ zF d x_Ce_init 31 [l0] st w (zu M k (z32 a).toNat b) Q) := zG_iast (zh_Ce_init 30 rfl) rfl
theorem f_Ce_init_31 : zF d x_Ce_init 31 [zr k] st w M Q ↔ zF d x_Ce_init 32 [zr k] (zr k :: st) w M Q := zG_loc (zh_Ce_init 31 rfl) rfl rfl rfl
theorem f_Ce_init_32 : zF d x_Ce_init 32 [l0] (zr k :: st) w M Q ↔ (zO w k 2 0 ∧ ¬ w.2 k 0 = 0 ∧ zF d x_Ce_init 35 [l0] (zr (w.2 k 0) :: st) w M Q) := zG_getA (zh_Ce_init 32 rfl) rfl rfl rfl
theorem f_Ce_init_35 : zF d x_Ce_init 35 [l0] st w M Q ↔ zF d x_Ce_init 38 [l0] (zi (189) :: st) w M Q := zG_stk (zh_Ce_init 35 rfl) rfl rfl
theorem f_Ce_init_38 : zF d x_Ce_init 38 [l0] st w M Q ↔ zF d x_Ce_init 40 [l0] (zi (20) :: st) w M Q := zG_stk (zh_Ce_init 38 rfl) rfl rfl
theorem f_Ce_init_40 : zF d x_Ce_init 40 [l0] (zi b :: zi a :: zr k :: st) w M Q ↔ (zAs w k 0 (z32 a) ∧ zF d x_Ce_init 41 [l0] st w (zu M k (z32 a).toNat b) Q) := zG_iast (zh_Ce_init 40 rfl) rfl
theorem f_Ce_init_41 : zF d x_Ce_init 41 [zr k] st w M Q ↔ zF d x_Ce_init 42 [zr k] (zr k :: st) w M Q := zG_loc (zh_Ce_init 41 rfl) rfl rfl rfl
theorem f_Ce_init_42 : zF d x_Ce_init 42 [l0] (zr k :: st) w M Q ↔ (zO w k 2 0 ∧ ¬ w.2 k 0 = 0 ∧ zF d x_Ce_init 45 [l0] (zr (w.2 k 0) :: st) w M Q) := zG_getA (zh_Ce_init 42 rfl) rfl rfl rfl
theorem f_Ce_init_45 : zF d x_Ce_init 45 [l0] st w M Q ↔ zF d x_Ce_init 48 [l0] (zi (190) :: st) w M Q := zG_stk (zh_Ce_init 45 rfl) rfl rfl
theorem f_Ce_init_48 : zF d x_Ce_init 48 [l0] st w M Q ↔ zF d x_Ce_init 50 [l0] (zi (20) :: st) w M Q := zG_stk (zh_Ce_init 48 rfl) rfl rfl
theorem f_Ce_init_50 : zF d x_Ce_init 50 [l0] (zi b :: zi a :: zr k :: st) w M Q ↔ (zAs w k 0 (z32 a) ∧ zF d x_Ce_init 51 [l0] st w (zu M k (z32 a).toNat b) Q) := zG_iast (zh_Ce_init 50 rfl) rfl
theorem f_Ce_init_51 : zF d x_Ce_init 51 [l0] [] w M Q ↔ Q none w M := zG_ret (zh_Ce_init 51 rfl) rfl rfl rfl rfl rfl
theorem f_Ce_get_0 : zF d x_Ce_get 0 [l0, zi a] st w M Q ↔ zF d x_Ce_get 1 [l0, zi a] (zi a :: st) w M Q := zG_loc (zh_Ce_get 0 rfl) rfl rfl rfl
theorem f_Ce_get_1 : zF d x_Ce_get 1 [l0, l1] (zi a :: st) w M Q ↔ (if z32 a < 0 then zF d x_Ce_get 22 [l0, l1] st w M Q else zF d x_Ce_get 4 [l0, l1] st w M Q) := zG_ifP (zh_Ce_get 1 rfl) rfl rfl rfl decide_eq_true_iff
theorem f_Ce_get_4 : zF d x_Ce_get 4 [l0, zi a] st w M Q ↔ zF d x_Ce_get 5 [l0, zi a] (zi a :: st) w M Q := zG_loc (zh_Ce_get 4 rfl) rfl rfl rfl
theorem f_Ce_get_5 : zF d x_Ce_get 5 [zr k, l1] st w M Q ↔ zF d x_Ce_get 6 [zr k, l1] (zr k :: st) w M Q := zG_loc (zh_Ce_get 5 rfl) rfl rfl rfl
theorem f_Ce_get_6 : zF d x_Ce_get 6 [l0, l1] (zr k :: st) w M Q ↔ (zO w k 2 0 ∧ ¬ w.2 k 0 = 0 ∧ zF d x_Ce_get 9 [l0, l1] (zr (w.2 k 0) :: st) w M Q) := zG_getA (zh_Ce_get 6 rfl) rfl rfl rfl
theorem f_Ce_get_9 : zF d x_Ce_get 9 [l0, l1] (zr k :: st) w M Q ↔ ((zsh w k).1 = 1 ∧ zF d x_Ce_get 10 [l0, l1] (zi (zsh w k).2.2 :: st) w M Q) := zG_alen (zh_Ce_get 9 rfl) rfl
theorem f_Ce_get_10 : zF d x_Ce_get 10 [l0, l1] (zi b :: zi a :: st) w M Q ↔ (if z32 b ≤ z32 a then zF d x_Ce_get 22 [l0, l1] st w M Q else zF d x_Ce_get 13 [l0, l1] st w M Q) := zG_ifP (zh_Ce_get 10 rfl) rfl rfl rfl decide_eq_true_iff
theorem f_Ce_get_13 : zF d x_Ce_get 13 [zr k, l1] st w M Q ↔ zF d x_Ce_get 14 [zr k, l1] (zr k :: st) w M Q := zG_loc (zh_Ce_get 13 rfl) rfl rfl rfl
theorem f_Ce_get_14 : zF d x_Ce_get 14 [l0, l1] (zr k :: st) w M Q ↔ (zO w k 2 0 ∧ ¬ w.2 k 0 = 0 ∧ zF d x_Ce_get 17 [l0, l1] (zr (w.2 k 0) :: st) w M Q) := zG_getA (zh_Ce_get 14 rfl) rfl rfl rfl
theorem f_Ce_get_17 : zF d x_Ce_get 17 [l0, zi a] st w M Q ↔ zF d x_Ce_get 18 [l0, zi a] (zi a :: st) w M Q := zG_loc (zh_Ce_get 17 rfl) rfl rfl rfl
theorem f_Ce_get_18 : zF d x_Ce_get 18 [l0, l1] (zi a :: zr k :: st) w M Q ↔ (zA w k 0 (z32 a) ∧ zF d x_Ce_get 19 [l0, l1] (zi (M k (z32 a).toNat) :: st) w M Q) := zG_iald (zh_Ce_get 18 rfl) rfl
theorem f_Ce_get_19 : zF d x_Ce_get 19 [l0, l1] st w M Q ↔ zF d x_Ce_get 23 [l0, l1] st w M Q := zG_br (zh_Ce_get 19 rfl) rfl rfl rfl
theorem f_Ce_get_22 : zF d x_Ce_get 22 [l0, l1] st w M Q ↔ zF d x_Ce_get 23 [l0, l1] (zi (0) :: st) w M Q := zG_stk (zh_Ce_get 22 rfl) rfl rfl
theorem f_Ce_get_23 : zF d x_Ce_get 23 [l0, l1] [zi a] w M Q ↔ Q (some (zi a)) w M := zG_ret (zh_Ce_get 23 rfl) rfl rfl rfl rfl (by rw [zb_Ce_get]; rfl)
theorem f_Ce_put_0 : zF d x_Ce_put 0 [l0, zi a, l2] st w M Q ↔ zF d x_Ce_put 1 [l0, zi a, l2] (zi a :: st) w M Q := zG_loc (zh_Ce_put 0 rfl) rfl rfl rfl
theorem f_Ce_put_1 : zF d x_Ce_put 1 [l0, l1, l2] (zi a :: st) w M Q ↔ (if z32 a < 0 then zF d x_Ce_put 20 [l0, l1, l2] st w M Q else zF d x_Ce_put 4 [l0, l1, l2] st w M Q) := zG_ifP (zh_Ce_put 1 rfl) rfl rfl rfl decide_eq_true_iff
theorem f_Ce_put_4 : zF d x_Ce_put 4 [l0, zi a, l2] st w M Q ↔ zF d x_Ce_put 5 [l0, zi a, l2] (zi a :: st) w M Q := zG_loc (zh_Ce_put 4 rfl) rfl rfl rfl
theorem f_Ce_put_5 : zF d x_Ce_put 5 [zr k, l1, l2] st w M Q ↔ zF d x_Ce_put 6 [zr k, l1, l2] (zr k :: st) w M Q := zG_loc (zh_Ce_put 5 rfl) rfl rfl rfl
theorem f_Ce_put_6 : zF d x_Ce_put 6 [l0, l1, l2] (zr k :: st) w M Q ↔ (zO w k 2 0 ∧ ¬ w.2 k 0 = 0 ∧ zF d x_Ce_put 9 [l0, l1, l2] (zr (w.2 k 0) :: st) w M Q) := zG_getA (zh_Ce_put 6 rfl) rfl rfl rfl
theorem f_Ce_put_9 : zF d x_Ce_put 9 [l0, l1, l2] (zr k :: st) w M Q ↔ ((zsh w k).1 = 1 ∧ zF d x_Ce_put 10 [l0, l1, l2] (zi (zsh w k).2.2 :: st) w M Q) := zG_alen (zh_Ce_put 9 rfl) rfl
theorem f_Ce_put_10 : zF d x_Ce_put 10 [l0, l1, l2] (zi b :: zi a :: st) w M Q ↔ (if z32 b ≤ z32 a then zF d x_Ce_put 20 [l0, l1, l2] st w M Q else zF d x_Ce_put 13 [l0, l1, l2] st w M Q) := zG_ifP (zh_Ce_put 10 rfl) rfl rfl rfl decide_eq_true_iff
theorem f_Ce_put_13 : zF d x_Ce_put 13 [zr k, l1, l2] st w M Q ↔ zF d x_Ce_put 14 [zr k, l1, l2] (zr k :: st) w M Q := zG_loc (zh_Ce_put 13 rfl) rfl rfl rfl
theorem f_Ce_put_14 : zF d x_Ce_put 14 [l0, l1, l2] (zr k :: st) w M Q ↔ (zO w k 2 0 ∧ ¬ w.2 k 0 = 0 ∧ zF d x_Ce_put 17 [l0, l1, l2] (zr (w.2 k 0) :: st) w M Q) := zG_getA (zh_Ce_put 14 rfl) rfl rfl rfl
theorem f_Ce_put_17 : zF d x_Ce_put 17 [l0, zi a, l2] st w M Q ↔ zF d x_Ce_put 18 [l0, zi a, l2] (zi a :: st) w M Q := zG_loc (zh_Ce_put 17 rfl) rfl rfl rfl
theorem f_Ce_put_18 : zF d x_Ce_put 18 [l0, l1, zi a] st w M Q ↔ zF d x_Ce_put 19 [l0, l1, zi a] (zi a :: st) w M Q := zG_loc (zh_Ce_put 18 rfl) rfl rfl rfl
theorem f_Ce_put_19 : zF d x_Ce_put 19 [l0, l1, l2] (zi b :: zi a :: zr k :: st) w M Q ↔ (zAs w k 0 (z32 a) ∧ zF d x_Ce_put 20 [l0, l1, l2] st w (zu M k (z32 a).toNat b) Q) := zG_iast (zh_Ce_put 19 rfl) rfl
theorem f_Ce_put_20 : zF d x_Ce_put 20 [l0, l1, l2] [] w M Q ↔ Q none w M := zG_ret (zh_Ce_put 20 rfl) rfl rfl rfl rfl rfl
theorem f_Ce_version_0 : zF d x_Ce_version 0 [zr k] st w M Q ↔ zF d x_Ce_version 1 [zr k] (zr k :: st) w M Q := zG_loc (zh_Ce_version 0 rfl) rfl rfl rfl
theorem f_Ce_version_1 : zF d x_Ce_version 1 [l0] (zr k :: st) w M Q ↔ (zO w k 2 1 ∧ zF d x_Ce_version 4 [l0] (zi (M k 1) :: st) w M Q) := zG_getI (zh_Ce_version 1 rfl) rfl rfl rfl
theorem f_Ce_version_4 : zF d x_Ce_version 4 [l0] [zi a] w M Q ↔ Q (some (zi a)) w M := zG_ret (zh_Ce_version 4 rfl) rfl rfl rfl rfl (by rw [zb_Ce_version]; rfl)
theorem f_Ce_becomesAnother_0 : zF d x_Ce_becomesAnother 0 [zr k] st w M Q ↔ zF d x_Ce_becomesAnother 1 [zr k] (zr k :: st) w M Q := zG_loc (zh_Ce_becomesAnother 0 rfl) rfl rfl rfl
theorem f_Ce_becomesAnother_1i : zF d x_Ce_becomesAnother 1 [l0] (zi a :: st) w M Q ↔ zF d x_Ce_becomesAnother 2 [l0] (zi a :: zi a :: st) w M Q := zG_stk (zh_Ce_becomesAnother 1 rfl) rfl rfl
theorem f_Ce_becomesAnother_1r : zF d x_Ce_becomesAnother 1 [l0] (zr k :: st) w M Q ↔ zF d x_Ce_becomesAnother 2 [l0] (zr k :: zr k :: st) w M Q := zG_stk (zh_Ce_becomesAnother 1 rfl) rfl rfl
theorem f_Ce_becomesAnother_2 : zF d x_Ce_becomesAnother 2 [l0] (zr k :: st) w M Q ↔ (zO w k 2 1 ∧ zF d x_Ce_becomesAnother 5 [l0] (zi (M k 1) :: st) w M Q) := zG_getI (zh_Ce_becomesAnother 2 rfl) rfl rfl rfl
theorem f_Ce_becomesAnother_5 : zF d x_Ce_becomesAnother 5 [l0] st w M Q ↔ zF d x_Ce_becomesAnother 6 [l0] (zi (1) :: st) w M Q := zG_stk (zh_Ce_becomesAnother 5 rfl) rfl rfl
theorem f_Ce_becomesAnother_6 : zF d x_Ce_becomesAnother 6 [l0] (zi b :: zi a :: st) w M Q ↔ zF d x_Ce_becomesAnother 7 [l0] (zi (a + b) :: st) w M Q := zG_stk (zh_Ce_becomesAnother 6 rfl) rfl rfl
theorem f_Ce_becomesAnother_7 : zF d x_Ce_becomesAnother 7 [l0] (zi a :: zr k :: st) w M Q ↔ (zO w k 2 1 ∧ zF d x_Ce_becomesAnother 10 [l0] st w (zu M k 1 a) Q) := zG_putI (zh_Ce_becomesAnother 7 rfl) rfl rfl rfl
theorem f_Ce_becomesAnother_10 : zF d x_Ce_becomesAnother 10 [l0] [] w M Q ↔ Q none w M := zG_ret (zh_Ce_becomesAnother 10 rfl) rfl rfl rfl rfl rfl
theorem f_Ce_digestOfAll_0 : zF d x_Ce_digestOfAll 0 [zr k, l1] st w M Q ↔ zF d x_Ce_digestOfAll 1 [zr k, l1] (zr k :: st) w M Q := zG_loc (zh_Ce_digestOfAll 0 rfl) rfl rfl rfl
theorem f_Ce_digestOfAll_1 : zF d x_Ce_digestOfAll 1 [l0, l1] st w M Q ↔ zF d x_Ce_digestOfAll 3 [l0, l1] (zi (7) :: st) w M Q := zG_stk (zh_Ce_digestOfAll 1 rfl) rfl rfl
theorem f_Ce_digestOfAll_3 : zF d x_Ce_digestOfAll 3 [l0, l1] st w M Q ↔ zF d x_Ce_digestOfAll 4 [l0, l1] (zi (0) :: st) w M Q := zG_stk (zh_Ce_digestOfAll 3 rfl) rfl rfl
theorem f_Ce_digestOfAll_4 : zF d x_Ce_digestOfAll 4 [l0, l1] st w M Q ↔ zF d x_Ce_digestOfAll 5 [l0, l1] (zi (4) :: st) w M Q := zG_stk (zh_Ce_digestOfAll 4 rfl) rfl rfl
theorem f_Ce_digestOfAll_5 : zF d x_Ce_digestOfAll 5 [l0, l1] (zi c :: zi b :: zi a :: zr k :: st) w M Q ↔ (0 < d ∧ zwd st ≤ 8 ∧ ((zsh w k).1 = 0 ∧ (zsh w k).2.1 = 2) ∧ zF (d - 1) x_Ce_digestOfCounted 0 [zr k, zi a, zi b, zi c] [] w M (fun v w' M' => zF d x_Ce_digestOfAll 8 [l0, l1] (v.toList ++ st) w' M' Q)) := zG_callO [zi c, zi b, zi a] (.inl rfl) (zh_Ce_digestOfAll 5 rfl) rfl rfl rfl (by rw [zm_Ce_digestOfCounted]; rfl) (by rw [zm_Ce_digestOfCounted]; rfl) rfl
theorem f_Ce_digestOfAll_8 : zF d x_Ce_digestOfAll 8 [l0, l1] (zi a :: st) w M Q ↔ (znl l0 = true ∧ zF d x_Ce_digestOfAll 9 [l0, zi a] st w M Q) := zG_stI (zh_Ce_digestOfAll 8 rfl) rfl rfl rfl rfl rfl rfl rfl rfl rfl rfl rfl
theorem f_Ce_digestOfAll_9 : zF d x_Ce_digestOfAll 9 [zr k, l1] st w M Q ↔ zF d x_Ce_digestOfAll 10 [zr k, l1] (zr k :: st) w M Q := zG_loc (zh_Ce_digestOfAll 9 rfl) rfl rfl rfl
theorem f_Ce_digestOfAll_10 : zF d x_Ce_digestOfAll 10 [l0, zi a] st w M Q ↔ zF d x_Ce_digestOfAll 11 [l0, zi a] (zi a :: st) w M Q := zG_loc (zh_Ce_digestOfAll 10 rfl) rfl rfl rfl
theorem f_Ce_digestOfAll_11 : zF d x_Ce_digestOfAll 11 [l0, l1] st w M Q ↔ zF d x_Ce_digestOfAll 13 [l0, l1] (zi (21) :: st) w M Q := zG_stk (zh_Ce_digestOfAll 11 rfl) rfl rfl
theorem f_Ce_digestOfAll_13 : zF d x_Ce_digestOfAll 13 [l0, l1] st w M Q ↔ zF d x_Ce_digestOfAll 15 [l0, l1] (zi (97) :: st) w M Q := zG_stk (zh_Ce_digestOfAll 13 rfl) rfl rfl
theorem f_Ce_digestOfAll_15 : zF d x_Ce_digestOfAll 15 [l0, l1] (zi c :: zi b :: zi a :: zr k :: st) w M Q ↔ (0 < d ∧ zwd st ≤ 8 ∧ ((zsh w k).1 = 0 ∧ (zsh w k).2.1 = 2) ∧ zF (d - 1) x_Ce_digestOf 0 [zr k, zi a, zi b, zi c, zt, zt] [] w M (fun v w' M' => zF d x_Ce_digestOfAll 18 [l0, l1] (v.toList ++ st) w' M' Q)) := zG_callO [zi c, zi b, zi a] (.inl rfl) (zh_Ce_digestOfAll 15 rfl) rfl rfl rfl (by rw [zm_Ce_digestOf]; rfl) (by rw [zm_Ce_digestOf]; rfl) rfl
theorem f_Ce_digestOfAll_18 : zF d x_Ce_digestOfAll 18 [l0, l1] (zi a :: st) w M Q ↔ (znl l0 = true ∧ zF d x_Ce_digestOfAll 19 [l0, zi a] st w M Q) := zG_stI (zh_Ce_digestOfAll 18 rfl) rfl rfl rfl rfl rfl rfl rfl rfl rfl rfl rfl
theorem f_Ce_digestOfAll_19 : zF d x_Ce_digestOfAll 19 [zr k, l1] st w M Q ↔ zF d x_Ce_digestOfAll 20 [zr k, l1] (zr k :: st) w M Q := zG_loc (zh_Ce_digestOfAll 19 rfl) rfl rfl rfl
theorem f_Ce_digestOfAll_20 : zF d x_Ce_digestOfAll 20 [l0, zi a] st w M Q ↔ zF d x_Ce_digestOfAll 21 [l0, zi a] (zi a :: st) w M Q := zG_loc (zh_Ce_digestOfAll 20 rfl) rfl rfl rfl
theorem f_Ce_digestOfAll_21 : zF d x_Ce_digestOfAll 21 [l0, l1] st w M Q ↔ zF d x_Ce_digestOfAll 23 [l0, l1] (zi (127) :: st) w M Q := zG_stk (zh_Ce_digestOfAll 21 rfl) rfl rfl
theorem f_Ce_digestOfAll_23 : zF d x_Ce_digestOfAll 23 [l0, l1] st w M Q ↔ zF d x_Ce_digestOfAll 24 [l0, l1] (zi (2) :: st) w M Q := zG_stk (zh_Ce_digestOfAll 23 rfl) rfl rfl
theorem f_Ce_digestOfAll_24 : zF d x_Ce_digestOfAll 24 [l0, l1] (zi c :: zi b :: zi a :: zr k :: st) w M Q ↔ (0 < d ∧ zwd st ≤ 8 ∧ ((zsh w k).1 = 0 ∧ (zsh w k).2.1 = 2) ∧ zF (d - 1) x_Ce_digestOfCounted 0 [zr k, zi a, zi b, zi c] [] w M (fun v w' M' => zF d x_Ce_digestOfAll 27 [l0, l1] (v.toList ++ st) w' M' Q)) := zG_callO [zi c, zi b, zi a] (.inl rfl) (zh_Ce_digestOfAll 24 rfl) rfl rfl rfl (by rw [zm_Ce_digestOfCounted]; rfl) (by rw [zm_Ce_digestOfCounted]; rfl) rfl
theorem f_Ce_digestOfAll_27 : zF d x_Ce_digestOfAll 27 [l0, l1] (zi a :: st) w M Q ↔ (znl l0 = true ∧ zF d x_Ce_digestOfAll 28 [l0, zi a] st w M Q) := zG_stI (zh_Ce_digestOfAll 27 rfl) rfl rfl rfl rfl rfl rfl rfl rfl rfl rfl rfl
theorem f_Ce_digestOfAll_28 : zF d x_Ce_digestOfAll 28 [zr k, l1] st w M Q ↔ zF d x_Ce_digestOfAll 29 [zr k, l1] (zr k :: st) w M Q := zG_loc (zh_Ce_digestOfAll 28 rfl) rfl rfl rfl
theorem f_Ce_digestOfAll_29 : zF d x_Ce_digestOfAll 29 [l0, zi a] st w M Q ↔ zF d x_Ce_digestOfAll 30 [l0, zi a] (zi a :: st) w M Q := zG_loc (zh_Ce_digestOfAll 29 rfl) rfl rfl rfl
theorem f_Ce_digestOfAll_30 : zF d x_Ce_digestOfAll 30 [l0, l1] st w M Q ↔ zF d x_Ce_digestOfAll 32 [l0, l1] (zi (97) :: st) w M Q := zG_stk (zh_Ce_digestOfAll 30 rfl) rfl rfl
theorem f_Ce_digestOfAll_32 : zF d x_Ce_digestOfAll 32 [l0, l1] st w M Q ↔ zF d x_Ce_digestOfAll 33 [l0, l1] (zi (3) :: st) w M Q := zG_stk (zh_Ce_digestOfAll 32 rfl) rfl rfl
theorem f_Ce_digestOfAll_33 : zF d x_Ce_digestOfAll 33 [l0, l1] (zi c :: zi b :: zi a :: zr k :: st) w M Q ↔ (0 < d ∧ zwd st ≤ 8 ∧ ((zsh w k).1 = 0 ∧ (zsh w k).2.1 = 2) ∧ zF (d - 1) x_Ce_digestOfCounted 0 [zr k, zi a, zi b, zi c] [] w M (fun v w' M' => zF d x_Ce_digestOfAll 36 [l0, l1] (v.toList ++ st) w' M' Q)) := zG_callO [zi c, zi b, zi a] (.inl rfl) (zh_Ce_digestOfAll 33 rfl) rfl rfl rfl (by rw [zm_Ce_digestOfCounted]; rfl) (by rw [zm_Ce_digestOfCounted]; rfl) rfl
theorem f_Ce_digestOfAll_36 : zF d x_Ce_digestOfAll 36 [l0, l1] (zi a :: st) w M Q ↔ (znl l0 = true ∧ zF d x_Ce_digestOfAll 37 [l0, zi a] st w M Q) := zG_stI (zh_Ce_digestOfAll 36 rfl) rfl rfl rfl rfl rfl rfl rfl rfl rfl rfl rfl
theorem f_Ce_digestOfAll_37 : zF d x_Ce_digestOfAll 37 [zr k, l1] st w M Q ↔ zF d x_Ce_digestOfAll 38 [zr k, l1] (zr k :: st) w M Q := zG_loc (zh_Ce_digestOfAll 37 rfl) rfl rfl rfl
theorem f_Ce_digestOfAll_38 : zF d x_Ce_digestOfAll 38 [l0, zi a] st w M Q ↔ zF d x_Ce_digestOfAll 39 [l0, zi a] (zi a :: st) w M Q := zG_loc (zh_Ce_digestOfAll 38 rfl) rfl rfl rfl
theorem f_Ce_digestOfAll_39 : zF d x_Ce_digestOfAll 39 [l0, l1] st w M Q ↔ zF d x_Ce_digestOfAll 41 [l0, l1] (zi (125) :: st) w M Q := zG_stk (zh_Ce_digestOfAll 39 rfl) rfl rfl
theorem f_Ce_digestOfAll_41 : zF d x_Ce_digestOfAll 41 [l0, l1] st w M Q ↔ zF d x_Ce_digestOfAll 43 [l0, l1] (zi (127) :: st) w M Q := zG_stk (zh_Ce_digestOfAll 41 rfl) rfl rfl
theorem f_Ce_digestOfAll_43 : zF d x_Ce_digestOfAll 43 [l0, l1] (zi c :: zi b :: zi a :: zr k :: st) w M Q ↔ (0 < d ∧ zwd st ≤ 8 ∧ ((zsh w k).1 = 0 ∧ (zsh w k).2.1 = 2) ∧ zF (d - 1) x_Ce_digestOf 0 [zr k, zi a, zi b, zi c, zt, zt] [] w M (fun v w' M' => zF d x_Ce_digestOfAll 46 [l0, l1] (v.toList ++ st) w' M' Q)) := zG_callO [zi c, zi b, zi a] (.inl rfl) (zh_Ce_digestOfAll 43 rfl) rfl rfl rfl (by rw [zm_Ce_digestOf]; rfl) (by rw [zm_Ce_digestOf]; rfl) rfl
theorem f_Ce_digestOfAll_46 : zF d x_Ce_digestOfAll 46 [l0, l1] (zi a :: st) w M Q ↔ (znl l0 = true ∧ zF d x_Ce_digestOfAll 47 [l0, zi a] st w M Q) := zG_stI (zh_Ce_digestOfAll 46 rfl) rfl rfl rfl rfl rfl rfl rfl rfl rfl rfl rfl
theorem f_Ce_digestOfAll_47 : zF d x_Ce_digestOfAll 47 [zr k, l1] st w M Q ↔ zF d x_Ce_digestOfAll 48 [zr k, l1] (zr k :: st) w M Q := zG_loc (zh_Ce_digestOfAll 47 rfl) rfl rfl rfl
theorem f_Ce_digestOfAll_48 : zF d x_Ce_digestOfAll 48 [l0, zi a] st w M Q ↔ zF d x_Ce_digestOfAll 49 [l0, zi a] (zi a :: st) w M Q := zG_loc (zh_Ce_digestOfAll 48 rfl) rfl rfl rfl
theorem f_Ce_digestOfAll_49 : zF d x_Ce_digestOfAll 49 [l0, l1] st w M Q ↔ zF d x_Ce_digestOfAll 52 [l0, l1] (zi (134) :: st) w M Q := zG_stk (zh_Ce_digestOfAll 49 rfl) rfl rfl
theorem f_Ce_digestOfAll_52 : zF d x_Ce_digestOfAll 52 [l0, l1] st w M Q ↔ zF d x_Ce_digestOfAll 55 [l0, l1] (zi (139) :: st) w M Q := zG_stk (zh_Ce_digestOfAll 52 rfl) rfl rfl
theorem f_Ce_digestOfAll_55 : zF d x_Ce_digestOfAll 55 [l0, l1] (zi c :: zi b :: zi a :: zr k :: st) w M Q ↔ (0 < d ∧ zwd st ≤ 8 ∧ ((zsh w k).1 = 0 ∧ (zsh w k).2.1 = 2) ∧ zF (d - 1) x_Ce_digestOf 0 [zr k, zi a, zi b, zi c, zt, zt] [] w M (fun v w' M' => zF d x_Ce_digestOfAll 58 [l0, l1] (v.toList ++ st) w' M' Q)) := zG_callO [zi c, zi b, zi a] (.inl rfl) (zh_Ce_digestOfAll 55 rfl) rfl rfl rfl (by rw [zm_Ce_digestOf]; rfl) (by rw [zm_Ce_digestOf]; rfl) rfl
theorem f_Ce_digestOfAll_58 : zF d x_Ce_digestOfAll 58 [l0, l1] (zi a :: st) w M Q ↔ (znl l0 = true ∧ zF d x_Ce_digestOfAll 59 [l0, zi a] st w M Q) := zG_stI (zh_Ce_digestOfAll 58 rfl) rfl rfl rfl rfl rfl rfl rfl rfl rfl rfl rfl
theorem f_Ce_digestOfAll_59 : zF d x_Ce_digestOfAll 59 [zr k, l1] st w M Q ↔ zF d x_Ce_digestOfAll 60 [zr k, l1] (zr k :: st) w M Q := zG_loc (zh_Ce_digestOfAll 59 rfl) rfl rfl rfl
theorem f_Ce_digestOfAll_60 : zF d x_Ce_digestOfAll 60 [l0, zi a] st w M Q ↔ zF d x_Ce_digestOfAll 61 [l0, zi a] (zi a :: st) w M Q := zG_loc (zh_Ce_digestOfAll 60 rfl) rfl rfl rfl
theorem f_Ce_digestOfAll_61 : zF d x_Ce_digestOfAll 61 [l0, l1] st w M Q ↔ zF d x_Ce_digestOfAll 64 [l0, l1] (zi (139) :: st) w M Q := zG_stk (zh_Ce_digestOfAll 61 rfl) rfl rfl
theorem f_Ce_digestOfAll_64 : zF d x_Ce_digestOfAll 64 [l0, l1] st w M Q ↔ zF d x_Ce_digestOfAll 65 [l0, l1] (zi (2) :: st) w M Q := zG_stk (zh_Ce_digestOfAll 64 rfl) rfl rfl
theorem f_Ce_digestOfAll_65 : zF d x_Ce_digestOfAll 65 [l0, l1] (zi c :: zi b :: zi a :: zr k :: st) w M Q ↔ (0 < d ∧ zwd st ≤ 8 ∧ ((zsh w k).1 = 0 ∧ (zsh w k).2.1 = 2) ∧ zF (d - 1) x_Ce_digestOfCounted 0 [zr k, zi a, zi b, zi c] [] w M (fun v w' M' => zF d x_Ce_digestOfAll 68 [l0, l1] (v.toList ++ st) w' M' Q)) := zG_callO [zi c, zi b, zi a] (.inl rfl) (zh_Ce_digestOfAll 65 rfl) rfl rfl rfl (by rw [zm_Ce_digestOfCounted]; rfl) (by rw [zm_Ce_digestOfCounted]; rfl) rfl
theorem f_Ce_digestOfAll_68 : zF d x_Ce_digestOfAll 68 [l0, l1] (zi a :: st) w M Q ↔ (znl l0 = true ∧ zF d x_Ce_digestOfAll 69 [l0, zi a] st w M Q) := zG_stI (zh_Ce_digestOfAll 68 rfl) rfl rfl rfl rfl rfl rfl rfl rfl rfl rfl rfl
theorem f_Ce_digestOfAll_69 : zF d x_Ce_digestOfAll 69 [zr k, l1] st w M Q ↔ zF d x_Ce_digestOfAll 70 [zr k, l1] (zr k :: st) w M Q := zG_loc (zh_Ce_digestOfAll 69 rfl) rfl rfl rfl
theorem f_Ce_digestOfAll_70 : zF d x_Ce_digestOfAll 70 [l0, zi a] st w M Q ↔ zF d x_Ce_digestOfAll 71 [l0, zi a] (zi a :: st) w M Q := zG_loc (zh_Ce_digestOfAll 70 rfl) rfl rfl rfl
theorem f_Ce_digestOfAll_71 : zF d x_Ce_digestOfAll 71 [l0, l1] st w M Q ↔ zF d x_Ce_digestOfAll 74 [l0, l1] (zi (156) :: st) w M Q := zG_stk (zh_Ce_digestOfAll 71 rfl) rfl rfl
theorem f_Ce_digestOfAll_74 : zF d x_Ce_digestOfAll 74 [l0, l1] st w M Q ↔ zF d x_Ce_digestOfAll 77 [l0, l1] (zi (199) :: st) w M Q := zG_stk (zh_Ce_digestOfAll 74 rfl) rfl rfl
theorem f_Ce_digestOfAll_77 : zF d x_Ce_digestOfAll 77 [l0, l1] (zi c :: zi b :: zi a :: zr k :: st) w M Q ↔ (0 < d ∧ zwd st ≤ 8 ∧ ((zsh w k).1 = 0 ∧ (zsh w k).2.1 = 2) ∧ zF (d - 1) x_Ce_digestOf 0 [zr k, zi a, zi b, zi c, zt, zt] [] w M (fun v w' M' => zF d x_Ce_digestOfAll 80 [l0, l1] (v.toList ++ st) w' M' Q)) := zG_callO [zi c, zi b, zi a] (.inl rfl) (zh_Ce_digestOfAll 77 rfl) rfl rfl rfl (by rw [zm_Ce_digestOf]; rfl) (by rw [zm_Ce_digestOf]; rfl) rfl
theorem f_Ce_digestOfAll_80 : zF d x_Ce_digestOfAll 80 [l0, l1] (zi a :: st) w M Q ↔ (znl l0 = true ∧ zF d x_Ce_digestOfAll 81 [l0, zi a] st w M Q) := zG_stI (zh_Ce_digestOfAll 80 rfl) rfl rfl rfl rfl rfl rfl rfl rfl rfl rfl rfl
theorem f_Ce_digestOfAll_81 : zF d x_Ce_digestOfAll 81 [zr k, l1] st w M Q ↔ zF d x_Ce_digestOfAll 82 [zr k, l1] (zr k :: st) w M Q := zG_loc (zh_Ce_digestOfAll 81 rfl) rfl rfl rfl
theorem f_Ce_digestOfAll_82 : zF d x_Ce_digestOfAll 82 [l0, zi a] st w M Q ↔ zF d x_Ce_digestOfAll 83 [l0, zi a] (zi a :: st) w M Q := zG_loc (zh_Ce_digestOfAll 82 rfl) rfl rfl rfl
theorem f_Ce_digestOfAll_83 : zF d x_Ce_digestOfAll 83 [l0, l1] st w M Q ↔ zF d x_Ce_digestOfAll 86 [l0, l1] (zi (199) :: st) w M Q := zG_stk (zh_Ce_digestOfAll 83 rfl) rfl rfl
theorem f_Ce_digestOfAll_86 : zF d x_Ce_digestOfAll 86 [l0, l1] st w M Q ↔ zF d x_Ce_digestOfAll 87 [l0, l1] (zi (2) :: st) w M Q := zG_stk (zh_Ce_digestOfAll 86 rfl) rfl rfl
theorem f_Ce_digestOfAll_87 : zF d x_Ce_digestOfAll 87 [l0, l1] (zi c :: zi b :: zi a :: zr k :: st) w M Q ↔ (0 < d ∧ zwd st ≤ 8 ∧ ((zsh w k).1 = 0 ∧ (zsh w k).2.1 = 2) ∧ zF (d - 1) x_Ce_digestOfCounted 0 [zr k, zi a, zi b, zi c] [] w M (fun v w' M' => zF d x_Ce_digestOfAll 90 [l0, l1] (v.toList ++ st) w' M' Q)) := zG_callO [zi c, zi b, zi a] (.inl rfl) (zh_Ce_digestOfAll 87 rfl) rfl rfl rfl (by rw [zm_Ce_digestOfCounted]; rfl) (by rw [zm_Ce_digestOfCounted]; rfl) rfl
theorem f_Ce_digestOfAll_90 : zF d x_Ce_digestOfAll 90 [l0, l1] [zi a] w M Q ↔ Q (some (zi a)) w M := zG_ret (zh_Ce_digestOfAll 90 rfl) rfl rfl rfl rfl (by rw [zb_Ce_digestOfAll]; rfl)
theorem f_Ce_digestOfCounted_0 : zF d x_Ce_digestOfCounted 0 [zr k, l1, l2, l3] st w M Q ↔ zF d x_Ce_digestOfCounted 1 [zr k, l1, l2, l3] (zr k :: st) w M Q := zG_loc (zh_Ce_digestOfCounted 0 rfl) rfl rfl rfl
theorem f_Ce_digestOfCounted_1 : zF d x_Ce_digestOfCounted 1 [l0, zi a, l2, l3] st w M Q ↔ zF d x_Ce_digestOfCounted 2 [l0, zi a, l2, l3] (zi a :: st) w M Q := zG_loc (zh_Ce_digestOfCounted 1 rfl) rfl rfl rfl
theorem f_Ce_digestOfCounted_2 : zF d x_Ce_digestOfCounted 2 [l0, l1, zi a, l3] st w M Q ↔ zF d x_Ce_digestOfCounted 3 [l0, l1, zi a, l3] (zi a :: st) w M Q := zG_loc (zh_Ce_digestOfCounted 2 rfl) rfl rfl rfl
theorem f_Ce_digestOfCounted_3 : zF d x_Ce_digestOfCounted 3 [l0, l1, zi a, l3] st w M Q ↔ zF d x_Ce_digestOfCounted 4 [l0, l1, zi a, l3] (zi a :: st) w M Q := zG_loc (zh_Ce_digestOfCounted 3 rfl) rfl rfl rfl
theorem f_Ce_digestOfCounted_4 : zF d x_Ce_digestOfCounted 4 [l0, l1, l2, l3] st w M Q ↔ zF d x_Ce_digestOfCounted 5 [l0, l1, l2, l3] (zi (1) :: st) w M Q := zG_stk (zh_Ce_digestOfCounted 4 rfl) rfl rfl
theorem f_Ce_digestOfCounted_5 : zF d x_Ce_digestOfCounted 5 [l0, l1, l2, l3] (zi b :: zi a :: st) w M Q ↔ zF d x_Ce_digestOfCounted 6 [l0, l1, l2, l3] (zi (a + b) :: st) w M Q := zG_stk (zh_Ce_digestOfCounted 5 rfl) rfl rfl
theorem f_Ce_digestOfCounted_6 : zF d x_Ce_digestOfCounted 6 [zr k, l1, l2, l3] st w M Q ↔ zF d x_Ce_digestOfCounted 7 [zr k, l1, l2, l3] (zr k :: st) w M Q := zG_loc (zh_Ce_digestOfCounted 6 rfl) rfl rfl rfl
theorem f_Ce_digestOfCounted_7 : zF d x_Ce_digestOfCounted 7 [l0, l1, zi a, l3] st w M Q ↔ zF d x_Ce_digestOfCounted 8 [l0, l1, zi a, l3] (zi a :: st) w M Q := zG_loc (zh_Ce_digestOfCounted 7 rfl) rfl rfl rfl
theorem f_Ce_digestOfCounted_8 : zF d x_Ce_digestOfCounted 8 [l0, l1, l2, l3] (zi a :: zr k :: st) w M Q ↔ (0 < d ∧ zwd st ≤ 8 ∧ ((zsh w k).1 = 0 ∧ (zsh w k).2.1 = 2) ∧ zF (d - 1) x_Ce_get 0 [zr k, zi a] [] w M (fun v w' M' => zF d x_Ce_digestOfCounted 11 [l0, l1, l2, l3] (v.toList ++ st) w' M' Q)) := zG_callO [zi a] (.inl rfl) (zh_Ce_digestOfCounted 8 rfl) rfl rfl rfl (by rw [zm_Ce_get]; rfl) (by rw [zm_Ce_get]; rfl) rfl
theorem f_Ce_digestOfCounted_11 : zF d x_Ce_digestOfCounted 11 [l0, l1, l2, zi a] st w M Q ↔ zF d x_Ce_digestOfCounted 12 [l0, l1, l2, zi a] (zi a :: st) w M Q := zG_loc (zh_Ce_digestOfCounted 11 rfl) rfl rfl rfl
theorem f_Ce_digestOfCounted_12 : zF d x_Ce_digestOfCounted 12 [l0, l1, l2, l3] (zi b :: zi a :: st) w M Q ↔ zF d x_Ce_digestOfCounted 13 [l0, l1, l2, l3] (zi (a * b) :: st) w M Q := zG_stk (zh_Ce_digestOfCounted 12 rfl) rfl rfl
theorem f_Ce_digestOfCounted_13 : zF d x_Ce_digestOfCounted 13 [l0, l1, l2, l3] (zi b :: zi a :: st) w M Q ↔ zF d x_Ce_digestOfCounted 14 [l0, l1, l2, l3] (zi (a + b) :: st) w M Q := zG_stk (zh_Ce_digestOfCounted 13 rfl) rfl rfl
theorem f_Ce_digestOfCounted_14 : zF d x_Ce_digestOfCounted 14 [l0, l1, l2, l3] (zi c :: zi b :: zi a :: zr k :: st) w M Q ↔ (0 < d ∧ zwd st ≤ 8 ∧ ((zsh w k).1 = 0 ∧ (zsh w k).2.1 = 2) ∧ zF (d - 1) x_Ce_digestOf 0 [zr k, zi a, zi b, zi c, zt, zt] [] w M (fun v w' M' => zF d x_Ce_digestOfCounted 17 [l0, l1, l2, l3] (v.toList ++ st) w' M' Q)) := zG_callO [zi c, zi b, zi a] (.inl rfl) (zh_Ce_digestOfCounted 14 rfl) rfl rfl rfl (by rw [zm_Ce_digestOf]; rfl) (by rw [zm_Ce_digestOf]; rfl) rfl
theorem f_Ce_digestOfCounted_17 : zF d x_Ce_digestOfCounted 17 [l0, l1, l2, l3] [zi a] w M Q ↔ Q (some (zi a)) w M := zG_ret (zh_Ce_digestOfCounted 17 rfl) rfl rfl rfl rfl (by rw [zb_Ce_digestOfCounted]; rfl)
theorem f_Ce_digestOf_0 : zF d x_Ce_digestOf 0 [l0, zi a, l2, l3, l4, l5] st w M Q ↔ zF d x_Ce_digestOf 1 [l0, zi a, l2, l3, l4, l5] (zi a :: st) w M Q := zG_loc (zh_Ce_digestOf 0 rfl) rfl rfl rfl
theorem f_Ce_digestOf_1 : zF d x_Ce_digestOf 1 [l0, l1, l2, l3, l4, l5] (zi a :: st) w M Q ↔ (znl l3 = true ∧ zF d x_Ce_digestOf 3 [l0, l1, l2, l3, zi a, l5] st w M Q) := zG_stI (zh_Ce_digestOf 1 rfl) rfl rfl rfl rfl rfl rfl rfl rfl rfl rfl rfl
theorem f_Ce_digestOf_3 : zF d x_Ce_digestOf 3 [l0, l1, zi a, l3, l4, l5] st w M Q ↔ zF d x_Ce_digestOf 4 [l0, l1, zi a, l3, l4, l5] (zi a :: st) w M Q := zG_loc (zh_Ce_digestOf 3 rfl) rfl rfl rfl
theorem f_Ce_digestOf_4 : zF d x_Ce_digestOf 4 [l0, l1, l2, l3, l4, l5] (zi a :: st) w M Q ↔ (znl l4 = true ∧ zF d x_Ce_digestOf 6 [l0, l1, l2, l3, l4, zi a] st w M Q) := zG_stI (zh_Ce_digestOf 4 rfl) rfl rfl rfl rfl rfl rfl rfl rfl rfl rfl rfl
theorem f_Ce_digestOf_6 : zF d x_Ce_digestOf 6 [l0, l1, l2, l3, l4, zi a] st w M Q ↔ zF d x_Ce_digestOf 8 [l0, l1, l2, l3, l4, zi a] (zi a :: st) w M Q := zG_loc (zh_Ce_digestOf 6 rfl) rfl rfl rfl
theorem f_Ce_digestOf_8 : zF d x_Ce_digestOf 8 [l0, l1, l2, zi a, l4, l5] st w M Q ↔ zF d x_Ce_digestOf 9 [l0, l1, l2, zi a, l4, l5] (zi a :: st) w M Q := zG_loc (zh_Ce_digestOf 8 rfl) rfl rfl rfl
theorem f_Ce_digestOf_9 : zF d x_Ce_digestOf 9 [l0, l1, l2, l3, l4, l5] (zi b :: zi a :: st) w M Q ↔ (if z32 b ≤ z32 a then zF d x_Ce_digestOf 32 [l0, l1, l2, l3, l4, l5] st w M Q else zF d x_Ce_digestOf 12 [l0, l1, l2, l3, l4, l5] st w M Q) := zG_ifP (zh_Ce_digestOf 9 rfl) rfl rfl rfl decide_eq_true_iff
theorem f_Ce_digestOf_12 : zF d x_Ce_digestOf 12 [l0, l1, l2, l3, l4, l5] st w M Q ↔ zF d x_Ce_digestOf 14 [l0, l1, l2, l3, l4, l5] (zi (31) :: st) w M Q := zG_stk (zh_Ce_digestOf 12 rfl) rfl rfl
theorem f_Ce_digestOf_14 : zF d x_Ce_digestOf 14 [l0, l1, l2, l3, zi a, l5] st w M Q ↔ zF d x_Ce_digestOf 16 [l0, l1, l2, l3, zi a, l5] (zi a :: st) w M Q := zG_loc (zh_Ce_digestOf 14 rfl) rfl rfl rfl
theorem f_Ce_digestOf_16 : zF d x_Ce_digestOf 16 [l0, l1, l2, l3, l4, l5] (zi b :: zi a :: st) w M Q ↔ zF d x_Ce_digestOf 17 [l0, l1, l2, l3, l4, l5] (zi (a * b) :: st) w M Q := zG_stk (zh_Ce_digestOf 16 rfl) rfl rfl
theorem f_Ce_digestOf_17 : zF d x_Ce_digestOf 17 [zr k, l1, l2, l3, l4, l5] st w M Q ↔ zF d x_Ce_digestOf 18 [zr k, l1, l2, l3, l4, l5] (zr k :: st) w M Q := zG_loc (zh_Ce_digestOf 17 rfl) rfl rfl rfl
theorem f_Ce_digestOf_18 : zF d x_Ce_digestOf 18 [l0, l1, l2, l3, l4, zi a] st w M Q ↔ zF d x_Ce_digestOf 20 [l0, l1, l2, l3, l4, zi a] (zi a :: st) w M Q := zG_loc (zh_Ce_digestOf 18 rfl) rfl rfl rfl
theorem f_Ce_digestOf_20 : zF d x_Ce_digestOf 20 [l0, l1, l2, l3, l4, l5] (zi a :: zr k :: st) w M Q ↔ (0 < d ∧ zwd st ≤ 8 ∧ ((zsh w k).1 = 0 ∧ (zsh w k).2.1 = 2) ∧ zF (d - 1) x_Ce_get 0 [zr k, zi a] [] w M (fun v w' M' => zF d x_Ce_digestOf 23 [l0, l1, l2, l3, l4, l5] (v.toList ++ st) w' M' Q)) := zG_callO [zi a] (.inl rfl) (zh_Ce_digestOf 20 rfl) rfl rfl rfl (by rw [zm_Ce_get]; rfl) (by rw [zm_Ce_get]; rfl) rfl
theorem f_Ce_digestOf_23 : zF d x_Ce_digestOf 23 [l0, l1, l2, l3, l4, l5] (zi b :: zi a :: st) w M Q ↔ zF d x_Ce_digestOf 24 [l0, l1, l2, l3, l4, l5] (zi (a + b) :: st) w M Q := zG_stk (zh_Ce_digestOf 23 rfl) rfl rfl
theorem f_Ce_digestOf_24 : zF d x_Ce_digestOf 24 [l0, l1, l2, l3, l4, l5] (zi a :: st) w M Q ↔ (znl l3 = true ∧ zF d x_Ce_digestOf 26 [l0, l1, l2, l3, zi a, l5] st w M Q) := zG_stI (zh_Ce_digestOf 24 rfl) rfl rfl rfl rfl rfl rfl rfl rfl rfl rfl rfl
theorem f_Ce_digestOf_26 : zF d x_Ce_digestOf 26 [l0, l1, l2, l3, l4, zi a] st w M Q ↔ (znl l4 = true ∧ zF d x_Ce_digestOf 29 [l0, l1, l2, l3, l4, zi (a + (1))] st w M Q) := zG_inc (zh_Ce_digestOf 26 rfl) rfl rfl rfl rfl rfl rfl rfl
theorem f_Ce_digestOf_29 : zF d x_Ce_digestOf 29 [l0, l1, l2, l3, l4, l5] st w M Q ↔ zF d x_Ce_digestOf 6 [l0, l1, l2, l3, l4, l5] st w M Q := zG_br (zh_Ce_digestOf 29 rfl) rfl rfl rfl
theorem f_Ce_digestOf_32 : zF d x_Ce_digestOf 32 [l0, l1, l2, l3, zi a, l5] st w M Q ↔ zF d x_Ce_digestOf 34 [l0, l1, l2, l3, zi a, l5] (zi a :: st) w M Q := zG_loc (zh_Ce_digestOf 32 rfl) rfl rfl rfl
theorem f_Ce_digestOf_34 : zF d x_Ce_digestOf 34 [l0, l1, l2, l3, l4, l5] [zi a] w M Q ↔ Q (some (zi a)) w M := zG_ret (zh_Ce_digestOf 34 rfl) rfl rfl rfl rfl (by rw [zb_Ce_digestOf]; rfl)
theorem f_Ta_init_0 : zF d x_Ta_init 0 [zr k] st w M Q ↔ zF d x_Ta_init 1 [zr k] (zr k :: st) w M Q := zG_loc (zh_Ta_init 0 rfl) rfl rfl rfl
theorem f_Ta_init_1 : zF d x_Ta_init 1 [l0] (zr k :: st) w M Q ↔ (20 ≤ d ∧ zwd st ≤ 8 ∧ zF d x_Ta_init 4 [l0] st w M Q) := zG_pInit (zh_Ta_init 1 rfl) rfl
theorem f_Ta_init_4 : zF d x_Ta_init 4 [zr k] st w M Q ↔ zF d x_Ta_init 5 [zr k] (zr k :: st) w M Q := zG_loc (zh_Ta_init 4 rfl) rfl rfl rfl
theorem f_Ta_init_5 : zF d x_Ta_init 5 [l0] st w M Q ↔ zF d x_Ta_init 8 [l0] (zi (400) :: st) w M Q := zG_stk (zh_Ta_init 5 rfl) rfl rfl
theorem f_Ta_init_8 : zF d x_Ta_init 8 [l0] (zi a :: st) w M Q ↔ ((0 ≤ z32 a ∧ z32 a ≤ 100000) ∧ zF d x_Ta_init 10 [l0] (zr w.1.length :: st) (w.1 ++ [(1, 0, (z32 a).toNat)], zo w.2 w.1.length (fun _ => 0)) (zo M w.1.length (fun _ => 0)) Q) := zG_newa (zh_Ta_init 8 rfl) rfl
theorem f_Ta_init_10 : zF d x_Ta_init 10 [l0] (zr k1 :: zr k :: st) w M Q ↔ (zO w k 9 0 ∧ 0 < k1 ∧ zF d x_Ta_init 13 [l0] st (w.1, zu w.2 k 0 k1) M Q) := zG_putA (zh_Ta_init 10 rfl) rfl rfl rfl
theorem f_Ta_init_13 : zF d x_Ta_init 13 [l0] [] w M Q ↔ Q none w M := zG_ret (zh_Ta_init 13 rfl) rfl rfl rfl rfl rfl
theorem f_Ta_size_0 : zF d x_Ta_size 0 [zr k] st w M Q ↔ zF d x_Ta_size 1 [zr k] (zr k :: st) w M Q := zG_loc (zh_Ta_size 0 rfl) rfl rfl rfl
theorem f_Ta_size_1 : zF d x_Ta_size 1 [l0] (zr k :: st) w M Q ↔ (zO w k 9 1 ∧ zF d x_Ta_size 4 [l0] (zi (M k 1) :: st) w M Q) := zG_getI (zh_Ta_size 1 rfl) rfl rfl rfl
theorem f_Ta_size_4 : zF d x_Ta_size 4 [l0] [zi a] w M Q ↔ Q (some (zi a)) w M := zG_ret (zh_Ta_size 4 rfl) rfl rfl rfl rfl (by rw [zb_Ta_size]; rfl)
theorem f_Ta_byteAt_0 : zF d x_Ta_byteAt 0 [l0, zi a] st w M Q ↔ zF d x_Ta_byteAt 1 [l0, zi a] (zi a :: st) w M Q := zG_loc (zh_Ta_byteAt 0 rfl) rfl rfl rfl
theorem f_Ta_byteAt_1 : zF d x_Ta_byteAt 1 [l0, l1] (zi a :: st) w M Q ↔ (if z32 a < 0 then zF d x_Ta_byteAt 21 [l0, l1] st w M Q else zF d x_Ta_byteAt 4 [l0, l1] st w M Q) := zG_ifP (zh_Ta_byteAt 1 rfl) rfl rfl rfl decide_eq_true_iff
theorem f_Ta_byteAt_4 : zF d x_Ta_byteAt 4 [l0, zi a] st w M Q ↔ zF d x_Ta_byteAt 5 [l0, zi a] (zi a :: st) w M Q := zG_loc (zh_Ta_byteAt 4 rfl) rfl rfl rfl
theorem f_Ta_byteAt_5 : zF d x_Ta_byteAt 5 [zr k, l1] st w M Q ↔ zF d x_Ta_byteAt 6 [zr k, l1] (zr k :: st) w M Q := zG_loc (zh_Ta_byteAt 5 rfl) rfl rfl rfl
theorem f_Ta_byteAt_6 : zF d x_Ta_byteAt 6 [l0, l1] (zr k :: st) w M Q ↔ (zO w k 9 1 ∧ zF d x_Ta_byteAt 9 [l0, l1] (zi (M k 1) :: st) w M Q) := zG_getI (zh_Ta_byteAt 6 rfl) rfl rfl rfl
theorem f_Ta_byteAt_9 : zF d x_Ta_byteAt 9 [l0, l1] (zi b :: zi a :: st) w M Q ↔ (if z32 b ≤ z32 a then zF d x_Ta_byteAt 21 [l0, l1] st w M Q else zF d x_Ta_byteAt 12 [l0, l1] st w M Q) := zG_ifP (zh_Ta_byteAt 9 rfl) rfl rfl rfl decide_eq_true_iff
theorem f_Ta_byteAt_12 : zF d x_Ta_byteAt 12 [zr k, l1] st w M Q ↔ zF d x_Ta_byteAt 13 [zr k, l1] (zr k :: st) w M Q := zG_loc (zh_Ta_byteAt 12 rfl) rfl rfl rfl
theorem f_Ta_byteAt_13 : zF d x_Ta_byteAt 13 [l0, l1] (zr k :: st) w M Q ↔ (zO w k 9 0 ∧ ¬ w.2 k 0 = 0 ∧ zF d x_Ta_byteAt 16 [l0, l1] (zr (w.2 k 0) :: st) w M Q) := zG_getA (zh_Ta_byteAt 13 rfl) rfl rfl rfl
theorem f_Ta_byteAt_16 : zF d x_Ta_byteAt 16 [l0, zi a] st w M Q ↔ zF d x_Ta_byteAt 17 [l0, zi a] (zi a :: st) w M Q := zG_loc (zh_Ta_byteAt 16 rfl) rfl rfl rfl
theorem f_Ta_byteAt_17 : zF d x_Ta_byteAt 17 [l0, l1] (zi a :: zr k :: st) w M Q ↔ (zA w k 0 (z32 a) ∧ zF d x_Ta_byteAt 18 [l0, l1] (zi (M k (z32 a).toNat) :: st) w M Q) := zG_iald (zh_Ta_byteAt 17 rfl) rfl
theorem f_Ta_byteAt_18 : zF d x_Ta_byteAt 18 [l0, l1] st w M Q ↔ zF d x_Ta_byteAt 22 [l0, l1] st w M Q := zG_br (zh_Ta_byteAt 18 rfl) rfl rfl rfl
theorem f_Ta_byteAt_21 : zF d x_Ta_byteAt 21 [l0, l1] st w M Q ↔ zF d x_Ta_byteAt 22 [l0, l1] (zi (-1) :: st) w M Q := zG_stk (zh_Ta_byteAt 21 rfl) rfl rfl
theorem f_Ta_byteAt_22 : zF d x_Ta_byteAt 22 [l0, l1] [zi a] w M Q ↔ Q (some (zi a)) w M := zG_ret (zh_Ta_byteAt 22 rfl) rfl rfl rfl rfl (by rw [zb_Ta_byteAt]; rfl)
theorem f_Ta_hasPlaceFor_0 : zF d x_Ta_hasPlaceFor 0 [zr k, l1] st w M Q ↔ zF d x_Ta_hasPlaceFor 1 [zr k, l1] (zr k :: st) w M Q := zG_loc (zh_Ta_hasPlaceFor 0 rfl) rfl rfl rfl
theorem f_Ta_hasPlaceFor_1 : zF d x_Ta_hasPlaceFor 1 [l0, l1] (zr k :: st) w M Q ↔ (zO w k 9 1 ∧ zF d x_Ta_hasPlaceFor 4 [l0, l1] (zi (M k 1) :: st) w M Q) := zG_getI (zh_Ta_hasPlaceFor 1 rfl) rfl rfl rfl
theorem f_Ta_hasPlaceFor_4 : zF d x_Ta_hasPlaceFor 4 [l0, zi a] st w M Q ↔ zF d x_Ta_hasPlaceFor 5 [l0, zi a] (zi a :: st) w M Q := zG_loc (zh_Ta_hasPlaceFor 4 rfl) rfl rfl rfl
theorem f_Ta_hasPlaceFor_5 : zF d x_Ta_hasPlaceFor 5 [l0, l1] (zi b :: zi a :: st) w M Q ↔ zF d x_Ta_hasPlaceFor 6 [l0, l1] (zi (a + b) :: st) w M Q := zG_stk (zh_Ta_hasPlaceFor 5 rfl) rfl rfl
theorem f_Ta_hasPlaceFor_6 : zF d x_Ta_hasPlaceFor 6 [zr k, l1] st w M Q ↔ zF d x_Ta_hasPlaceFor 7 [zr k, l1] (zr k :: st) w M Q := zG_loc (zh_Ta_hasPlaceFor 6 rfl) rfl rfl rfl
theorem f_Ta_hasPlaceFor_7 : zF d x_Ta_hasPlaceFor 7 [l0, l1] (zr k :: st) w M Q ↔ (zO w k 9 0 ∧ ¬ w.2 k 0 = 0 ∧ zF d x_Ta_hasPlaceFor 10 [l0, l1] (zr (w.2 k 0) :: st) w M Q) := zG_getA (zh_Ta_hasPlaceFor 7 rfl) rfl rfl rfl
theorem f_Ta_hasPlaceFor_10 : zF d x_Ta_hasPlaceFor 10 [l0, l1] (zr k :: st) w M Q ↔ ((zsh w k).1 = 1 ∧ zF d x_Ta_hasPlaceFor 11 [l0, l1] (zi (zsh w k).2.2 :: st) w M Q) := zG_alen (zh_Ta_hasPlaceFor 10 rfl) rfl
theorem f_Ta_hasPlaceFor_11 : zF d x_Ta_hasPlaceFor 11 [l0, l1] (zi b :: zi a :: st) w M Q ↔ (if z32 b < z32 a then zF d x_Ta_hasPlaceFor 18 [l0, l1] st w M Q else zF d x_Ta_hasPlaceFor 14 [l0, l1] st w M Q) := zG_ifP (zh_Ta_hasPlaceFor 11 rfl) rfl rfl rfl decide_eq_true_iff
theorem f_Ta_hasPlaceFor_14 : zF d x_Ta_hasPlaceFor 14 [l0, l1] st w M Q ↔ zF d x_Ta_hasPlaceFor 15 [l0, l1] (zi (1) :: st) w M Q := zG_stk (zh_Ta_hasPlaceFor 14 rfl) rfl rfl
theorem f_Ta_hasPlaceFor_15 : zF d x_Ta_hasPlaceFor 15 [l0, l1] st w M Q ↔ zF d x_Ta_hasPlaceFor 19 [l0, l1] st w M Q := zG_br (zh_Ta_hasPlaceFor 15 rfl) rfl rfl rfl
theorem f_Ta_hasPlaceFor_18 : zF d x_Ta_hasPlaceFor 18 [l0, l1] st w M Q ↔ zF d x_Ta_hasPlaceFor 19 [l0, l1] (zi (0) :: st) w M Q := zG_stk (zh_Ta_hasPlaceFor 18 rfl) rfl rfl
theorem f_Ta_hasPlaceFor_19 : zF d x_Ta_hasPlaceFor 19 [l0, l1] [zi a] w M Q ↔ ((a = 0 ∨ a = 1) ∧ Q (some (zi a)) w M) := zG_prR (zh_Ta_hasPlaceFor 19 rfl) zb_Ta_hasPlaceFor
theorem f_Ta_addNumber_0 : zF d x_Ta_addNumber 0 [l0, l1, l2] st w M Q ↔ zF d x_Ta_addNumber 2 [l0, l1, l2] (zi (24) :: st) w M Q := zG_stk (zh_Ta_addNumber 0 rfl) rfl rfl
theorem f_Ta_addNumber_2 : zF d x_Ta_addNumber 2 [l0, l1, l2] (zi a :: st) w M Q ↔ (znl l1 = true ∧ zF d x_Ta_addNumber 3 [l0, l1, zi a] st w M Q) := zG_stI (zh_Ta_addNumber 2 rfl) rfl rfl rfl rfl rfl rfl rfl rfl rfl rfl rfl
theorem f_Ta_addNumber_3 : zF d x_Ta_addNumber 3 [l0, l1, zi a] st w M Q ↔ zF d x_Ta_addNumber 4 [l0, l1, zi a] (zi a :: st) w M Q := zG_loc (zh_Ta_addNumber 3 rfl) rfl rfl rfl
theorem f_Ta_addNumber_4 : zF d x_Ta_addNumber 4 [l0, l1, l2] (zi a :: st) w M Q ↔ (if z32 a < 0 then zF d x_Ta_addNumber 51 [l0, l1, l2] st w M Q else zF d x_Ta_addNumber 7 [l0, l1, l2] st w M Q) := zG_ifP (zh_Ta_addNumber 4 rfl) rfl rfl rfl decide_eq_true_iff
theorem f_Ta_addNumber_7 : zF d x_Ta_addNumber 7 [zr k, l1, l2] st w M Q ↔ zF d x_Ta_addNumber 8 [zr k, l1, l2] (zr k :: st) w M Q := zG_loc (zh_Ta_addNumber 7 rfl) rfl rfl rfl
theorem f_Ta_addNumber_8 : zF d x_Ta_addNumber 8 [l0, l1, l2] (zr k :: st) w M Q ↔ (zO w k 9 1 ∧ zF d x_Ta_addNumber 11 [l0, l1, l2] (zi (M k 1) :: st) w M Q) := zG_getI (zh_Ta_addNumber 8 rfl) rfl rfl rfl
theorem f_Ta_addNumber_11 : zF d x_Ta_addNumber 11 [zr k, l1, l2] st w M Q ↔ zF d x_Ta_addNumber 12 [zr k, l1, l2] (zr k :: st) w M Q := zG_loc (zh_Ta_addNumber 11 rfl) rfl rfl rfl
theorem f_Ta_addNumber_12 : zF d x_Ta_addNumber 12 [l0, l1, l2] (zr k :: st) w M Q ↔ (zO w k 9 0 ∧ ¬ w.2 k 0 = 0 ∧ zF d x_Ta_addNumber 15 [l0, l1, l2] (zr (w.2 k 0) :: st) w M Q) := zG_getA (zh_Ta_addNumber 12 rfl) rfl rfl rfl
theorem f_Ta_addNumber_15 : zF d x_Ta_addNumber 15 [l0, l1, l2] (zr k :: st) w M Q ↔ ((zsh w k).1 = 1 ∧ zF d x_Ta_addNumber 16 [l0, l1, l2] (zi (zsh w k).2.2 :: st) w M Q) := zG_alen (zh_Ta_addNumber 15 rfl) rfl
theorem f_Ta_addNumber_16 : zF d x_Ta_addNumber 16 [l0, l1, l2] (zi b :: zi a :: st) w M Q ↔ (if z32 b ≤ z32 a then zF d x_Ta_addNumber 51 [l0, l1, l2] st w M Q else zF d x_Ta_addNumber 19 [l0, l1, l2] st w M Q) := zG_ifP (zh_Ta_addNumber 16 rfl) rfl rfl rfl decide_eq_true_iff
theorem f_Ta_addNumber_19 : zF d x_Ta_addNumber 19 [zr k, l1, l2] st w M Q ↔ zF d x_Ta_addNumber 20 [zr k, l1, l2] (zr k :: st) w M Q := zG_loc (zh_Ta_addNumber 19 rfl) rfl rfl rfl
theorem f_Ta_addNumber_20 : zF d x_Ta_addNumber 20 [l0, l1, l2] (zr k :: st) w M Q ↔ (zO w k 9 0 ∧ ¬ w.2 k 0 = 0 ∧ zF d x_Ta_addNumber 23 [l0, l1, l2] (zr (w.2 k 0) :: st) w M Q) := zG_getA (zh_Ta_addNumber 20 rfl) rfl rfl rfl
theorem f_Ta_addNumber_23 : zF d x_Ta_addNumber 23 [zr k, l1, l2] st w M Q ↔ zF d x_Ta_addNumber 24 [zr k, l1, l2] (zr k :: st) w M Q := zG_loc (zh_Ta_addNumber 23 rfl) rfl rfl rfl
theorem f_Ta_addNumber_24 : zF d x_Ta_addNumber 24 [l0, l1, l2] (zr k :: st) w M Q ↔ (zO w k 9 1 ∧ zF d x_Ta_addNumber 27 [l0, l1, l2] (zi (M k 1) :: st) w M Q) := zG_getI (zh_Ta_addNumber 24 rfl) rfl rfl rfl
theorem f_Ta_addNumber_27 : zF d x_Ta_addNumber 27 [l0, zi a, l2] st w M Q ↔ zF d x_Ta_addNumber 28 [l0, zi a, l2] (zi a :: st) w M Q := zG_loc (zh_Ta_addNumber 27 rfl) rfl rfl rfl
theorem f_Ta_addNumber_28 : zF d x_Ta_addNumber 28 [l0, l1, zi a] st w M Q ↔ zF d x_Ta_addNumber 29 [l0, l1, zi a] (zi a :: st) w M Q := zG_loc (zh_Ta_addNumber 28 rfl) rfl rfl rfl
theorem f_Ta_addNumber_29 : zF d x_Ta_addNumber 29 [l0, l1, l2] (zi b :: zi a :: st) w M Q ↔ zF d x_Ta_addNumber 30 [l0, l1, l2] (zi (zushr a b) :: st) w M Q := zG_stk (zh_Ta_addNumber 29 rfl) rfl rfl
theorem f_Ta_addNumber_30 : zF d x_Ta_addNumber 30 [l0, l1, l2] st w M Q ↔ zF d x_Ta_addNumber 33 [l0, l1, l2] (zi (255) :: st) w M Q := zG_stk (zh_Ta_addNumber 30 rfl) rfl rfl
theorem f_Ta_addNumber_33 : zF d x_Ta_addNumber 33 [l0, l1, l2] (zi b :: zi a :: st) w M Q ↔ zF d x_Ta_addNumber 34 [l0, l1, l2] (zi (zand a b) :: st) w M Q := zG_stk (zh_Ta_addNumber 33 rfl) rfl rfl
theorem f_Ta_addNumber_34 : zF d x_Ta_addNumber 34 [l0, l1, l2] (zi b :: zi a :: zr k :: st) w M Q ↔ (zAs w k 0 (z32 a) ∧ zF d x_Ta_addNumber 35 [l0, l1, l2] st w (zu M k (z32 a).toNat b) Q) := zG_iast (zh_Ta_addNumber 34 rfl) rfl
theorem f_Ta_addNumber_35 : zF d x_Ta_addNumber 35 [zr k, l1, l2] st w M Q ↔ zF d x_Ta_addNumber 36 [zr k, l1, l2] (zr k :: st) w M Q := zG_loc (zh_Ta_addNumber 35 rfl) rfl rfl rfl
theorem f_Ta_addNumber_36i : zF d x_Ta_addNumber 36 [l0, l1, l2] (zi a :: st) w M Q ↔ zF d x_Ta_addNumber 37 [l0, l1, l2] (zi a :: zi a :: st) w M Q := zG_stk (zh_Ta_addNumber 36 rfl) rfl rfl
theorem f_Ta_addNumber_36r : zF d x_Ta_addNumber 36 [l0, l1, l2] (zr k :: st) w M Q ↔ zF d x_Ta_addNumber 37 [l0, l1, l2] (zr k :: zr k :: st) w M Q := zG_stk (zh_Ta_addNumber 36 rfl) rfl rfl
theorem f_Ta_addNumber_37 : zF d x_Ta_addNumber 37 [l0, l1, l2] (zr k :: st) w M Q ↔ (zO w k 9 1 ∧ zF d x_Ta_addNumber 40 [l0, l1, l2] (zi (M k 1) :: st) w M Q) := zG_getI (zh_Ta_addNumber 37 rfl) rfl rfl rfl
theorem f_Ta_addNumber_40 : zF d x_Ta_addNumber 40 [l0, l1, l2] st w M Q ↔ zF d x_Ta_addNumber 41 [l0, l1, l2] (zi (1) :: st) w M Q := zG_stk (zh_Ta_addNumber 40 rfl) rfl rfl
theorem f_Ta_addNumber_41 : zF d x_Ta_addNumber 41 [l0, l1, l2] (zi b :: zi a :: st) w M Q ↔ zF d x_Ta_addNumber 42 [l0, l1, l2] (zi (a + b) :: st) w M Q := zG_stk (zh_Ta_addNumber 41 rfl) rfl rfl
theorem f_Ta_addNumber_42 : zF d x_Ta_addNumber 42 [l0, l1, l2] (zi a :: zr k :: st) w M Q ↔ (zO w k 9 1 ∧ zF d x_Ta_addNumber 45 [l0, l1, l2] st w (zu M k 1 a) Q) := zG_putI (zh_Ta_addNumber 42 rfl) rfl rfl rfl
theorem f_Ta_addNumber_45 : zF d x_Ta_addNumber 45 [l0, l1, zi a] st w M Q ↔ (znl l1 = true ∧ zF d x_Ta_addNumber 48 [l0, l1, zi (a + (-8))] st w M Q) := zG_inc (zh_Ta_addNumber 45 rfl) rfl rfl rfl rfl rfl rfl rfl
theorem f_Ta_addNumber_48 : zF d x_Ta_addNumber 48 [l0, l1, l2] st w M Q ↔ zF d x_Ta_addNumber 3 [l0, l1, l2] st w M Q := zG_br (zh_Ta_addNumber 48 rfl) rfl rfl rfl
theorem f_Ta_addNumber_51 : zF d x_Ta_addNumber 51 [l0, l1, l2] [] w M Q ↔ Q none w M := zG_ret (zh_Ta_addNumber 51 rfl) rfl rfl rfl rfl rfl
theorem f_Ta_cutTo_0 : zF d x_Ta_cutTo 0 [zr k, l1] st w M Q ↔ zF d x_Ta_cutTo 1 [zr k, l1] (zr k :: st) w M Q := zG_loc (zh_Ta_cutTo 0 rfl) rfl rfl rfl
theorem f_Ta_cutTo_1 : zF d x_Ta_cutTo 1 [l0, l1] st w M Q ↔ zF d x_Ta_cutTo 2 [l0, l1] (zi (0) :: st) w M Q := zG_stk (zh_Ta_cutTo 1 rfl) rfl rfl
theorem f_Ta_cutTo_2 : zF d x_Ta_cutTo 2 [l0, zi a] st w M Q ↔ zF d x_Ta_cutTo 3 [l0, zi a] (zi a :: st) w M Q := zG_loc (zh_Ta_cutTo 2 rfl) rfl rfl rfl
theorem f_Ta_cutTo_3 : zF d x_Ta_cutTo 3 [zr k, l1] st w M Q ↔ zF d x_Ta_cutTo 4 [zr k, l1] (zr k :: st) w M Q := zG_loc (zh_Ta_cutTo 3 rfl) rfl rfl rfl
theorem f_Ta_cutTo_4 : zF d x_Ta_cutTo 4 [l0, l1] (zr k :: st) w M Q ↔ (zO w k 9 1 ∧ zF d x_Ta_cutTo 7 [l0, l1] (zi (M k 1) :: st) w M Q) := zG_getI (zh_Ta_cutTo 4 rfl) rfl rfl rfl
theorem f_Ta_cutTo_7 : zF d x_Ta_cutTo 7 [l0, l1] (zi b :: zi a :: st) w M Q ↔ (20 ≤ d ∧ zwd st ≤ 8 ∧ zF d x_Ta_cutTo 10 [l0, l1] (zi (zmin a b) :: st) w M Q) := zG_pMin (zh_Ta_cutTo 7 rfl) rfl
theorem f_Ta_cutTo_10 : zF d x_Ta_cutTo 10 [l0, l1] (zi b :: zi a :: st) w M Q ↔ (20 ≤ d ∧ zwd st ≤ 8 ∧ zF d x_Ta_cutTo 13 [l0, l1] (zi (zmax a b) :: st) w M Q) := zG_pMax (zh_Ta_cutTo 10 rfl) rfl
theorem f_Ta_cutTo_13 : zF d x_Ta_cutTo 13 [l0, l1] (zi a :: zr k :: st) w M Q ↔ (zO w k 9 1 ∧ zF d x_Ta_cutTo 16 [l0, l1] st w (zu M k 1 a) Q) := zG_putI (zh_Ta_cutTo 13 rfl) rfl rfl rfl
theorem f_Ta_cutTo_16 : zF d x_Ta_cutTo 16 [l0, l1] [] w M Q ↔ Q none w M := zG_ret (zh_Ta_cutTo 16 rfl) rfl rfl rfl rfl rfl
end ZFCe_Ta_Ac
