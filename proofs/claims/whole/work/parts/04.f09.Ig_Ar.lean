section ZFIg_Ar
variable {d : Nat} {st : List zV} {w : zW} {M : zM} {Q : Option zV → zW → zM → Prop} {l0 l1 l2 l3 l4 l5 l6 l7 l8 l9 l10 l11 l12 l13 l14 l15 l16 l17 l18 l19 l20 l21 l22 l23 : zV} {a b c e f h n : Int} {k k1 k2 : Nat}
theorem f_Ig_bitCount_0 : zF d x_Ig_bitCount 0 [zi a] st w M Q ↔ zF d x_Ig_bitCount 1 [zi a] (zi a :: st) w M Q := zG_loc (zh_Ig_bitCount 0 rfl) rfl rfl rfl
theorem f_Ig_bitCount_1 : zF d x_Ig_bitCount 1 [zi a] st w M Q ↔ zF d x_Ig_bitCount 2 [zi a] (zi a :: st) w M Q := zG_loc (zh_Ig_bitCount 1 rfl) rfl rfl rfl
theorem f_Ig_bitCount_2 : zF d x_Ig_bitCount 2 [l0] st w M Q ↔ zF d x_Ig_bitCount 3 [l0] (zi (1) :: st) w M Q := zG_stk (zh_Ig_bitCount 2 rfl) rfl rfl
theorem f_Ig_bitCount_3 : zF d x_Ig_bitCount 3 [l0] (zi b :: zi a :: st) w M Q ↔ zF d x_Ig_bitCount 4 [l0] (zi (zushr a b) :: st) w M Q := zG_stk (zh_Ig_bitCount 3 rfl) rfl rfl
theorem f_Ig_bitCount_4 : zF d x_Ig_bitCount 4 [l0] st w M Q ↔ zF d x_Ig_bitCount 7 [l0] (zi (1431655765) :: st) w M Q := zG_mem (zh_Ig_bitCount 4 rfl) rfl rfl rfl rfl rfl
theorem f_Ig_bitCount_7 : zF d x_Ig_bitCount 7 [l0] (zi b :: zi a :: st) w M Q ↔ zF d x_Ig_bitCount 8 [l0] (zi (zand a b) :: st) w M Q := zG_stk (zh_Ig_bitCount 7 rfl) rfl rfl
theorem f_Ig_bitCount_8 : zF d x_Ig_bitCount 8 [l0] (zi b :: zi a :: st) w M Q ↔ zF d x_Ig_bitCount 9 [l0] (zi (a - b) :: st) w M Q := zG_stk (zh_Ig_bitCount 8 rfl) rfl rfl
theorem f_Ig_bitCount_9 : zF d x_Ig_bitCount 9 [l0] (zi a :: st) w M Q ↔ zF d x_Ig_bitCount 10 [zi a] st w M Q := (zG_stI (zh_Ig_bitCount 9 rfl) rfl rfl rfl rfl rfl rfl rfl rfl rfl rfl rfl).trans (and_iff_right rfl)
theorem f_Ig_bitCount_10 : zF d x_Ig_bitCount 10 [zi a] st w M Q ↔ zF d x_Ig_bitCount 11 [zi a] (zi a :: st) w M Q := zG_loc (zh_Ig_bitCount 10 rfl) rfl rfl rfl
theorem f_Ig_bitCount_11 : zF d x_Ig_bitCount 11 [l0] st w M Q ↔ zF d x_Ig_bitCount 14 [l0] (zi (858993459) :: st) w M Q := zG_mem (zh_Ig_bitCount 11 rfl) rfl rfl rfl rfl rfl
theorem f_Ig_bitCount_14 : zF d x_Ig_bitCount 14 [l0] (zi b :: zi a :: st) w M Q ↔ zF d x_Ig_bitCount 15 [l0] (zi (zand a b) :: st) w M Q := zG_stk (zh_Ig_bitCount 14 rfl) rfl rfl
theorem f_Ig_bitCount_15 : zF d x_Ig_bitCount 15 [zi a] st w M Q ↔ zF d x_Ig_bitCount 16 [zi a] (zi a :: st) w M Q := zG_loc (zh_Ig_bitCount 15 rfl) rfl rfl rfl
theorem f_Ig_bitCount_16 : zF d x_Ig_bitCount 16 [l0] st w M Q ↔ zF d x_Ig_bitCount 17 [l0] (zi (2) :: st) w M Q := zG_stk (zh_Ig_bitCount 16 rfl) rfl rfl
theorem f_Ig_bitCount_17 : zF d x_Ig_bitCount 17 [l0] (zi b :: zi a :: st) w M Q ↔ zF d x_Ig_bitCount 18 [l0] (zi (zushr a b) :: st) w M Q := zG_stk (zh_Ig_bitCount 17 rfl) rfl rfl
theorem f_Ig_bitCount_18 : zF d x_Ig_bitCount 18 [l0] st w M Q ↔ zF d x_Ig_bitCount 21 [l0] (zi (858993459) :: st) w M Q := zG_mem (zh_Ig_bitCount 18 rfl) rfl rfl rfl rfl rfl
theorem f_Ig_bitCount_21 : zF d x_Ig_bitCount 21 [l0] (zi b :: zi a :: st) w M Q ↔ zF d x_Ig_bitCount 22 [l0] (zi (zand a b) :: st) w M Q := zG_stk (zh_Ig_bitCount 21 rfl) rfl rfl
theorem f_Ig_bitCount_22 : zF d x_Ig_bitCount 22 [l0] (zi b :: zi a :: st) w M Q ↔ zF d x_Ig_bitCount 23 [l0] (zi (a + b) :: st) w M Q := zG_stk (zh_Ig_bitCount 22 rfl) rfl rfl
theorem f_Ig_bitCount_23 : zF d x_Ig_bitCount 23 [l0] (zi a :: st) w M Q ↔ zF d x_Ig_bitCount 24 [zi a] st w M Q := (zG_stI (zh_Ig_bitCount 23 rfl) rfl rfl rfl rfl rfl rfl rfl rfl rfl rfl rfl).trans (and_iff_right rfl)
theorem f_Ig_bitCount_24 : zF d x_Ig_bitCount 24 [zi a] st w M Q ↔ zF d x_Ig_bitCount 25 [zi a] (zi a :: st) w M Q := zG_loc (zh_Ig_bitCount 24 rfl) rfl rfl rfl
theorem f_Ig_bitCount_25 : zF d x_Ig_bitCount 25 [zi a] st w M Q ↔ zF d x_Ig_bitCount 26 [zi a] (zi a :: st) w M Q := zG_loc (zh_Ig_bitCount 25 rfl) rfl rfl rfl
theorem f_Ig_bitCount_26 : zF d x_Ig_bitCount 26 [l0] st w M Q ↔ zF d x_Ig_bitCount 27 [l0] (zi (4) :: st) w M Q := zG_stk (zh_Ig_bitCount 26 rfl) rfl rfl
theorem f_Ig_bitCount_27 : zF d x_Ig_bitCount 27 [l0] (zi b :: zi a :: st) w M Q ↔ zF d x_Ig_bitCount 28 [l0] (zi (zushr a b) :: st) w M Q := zG_stk (zh_Ig_bitCount 27 rfl) rfl rfl
theorem f_Ig_bitCount_28 : zF d x_Ig_bitCount 28 [l0] (zi b :: zi a :: st) w M Q ↔ zF d x_Ig_bitCount 29 [l0] (zi (a + b) :: st) w M Q := zG_stk (zh_Ig_bitCount 28 rfl) rfl rfl
theorem f_Ig_bitCount_29 : zF d x_Ig_bitCount 29 [l0] st w M Q ↔ zF d x_Ig_bitCount 32 [l0] (zi (252645135) :: st) w M Q := zG_mem (zh_Ig_bitCount 29 rfl) rfl rfl rfl rfl rfl
theorem f_Ig_bitCount_32 : zF d x_Ig_bitCount 32 [l0] (zi b :: zi a :: st) w M Q ↔ zF d x_Ig_bitCount 33 [l0] (zi (zand a b) :: st) w M Q := zG_stk (zh_Ig_bitCount 32 rfl) rfl rfl
theorem f_Ig_bitCount_33 : zF d x_Ig_bitCount 33 [l0] (zi a :: st) w M Q ↔ zF d x_Ig_bitCount 34 [zi a] st w M Q := (zG_stI (zh_Ig_bitCount 33 rfl) rfl rfl rfl rfl rfl rfl rfl rfl rfl rfl rfl).trans (and_iff_right rfl)
theorem f_Ig_bitCount_34 : zF d x_Ig_bitCount 34 [zi a] st w M Q ↔ zF d x_Ig_bitCount 35 [zi a] (zi a :: st) w M Q := zG_loc (zh_Ig_bitCount 34 rfl) rfl rfl rfl
theorem f_Ig_bitCount_35 : zF d x_Ig_bitCount 35 [zi a] st w M Q ↔ zF d x_Ig_bitCount 36 [zi a] (zi a :: st) w M Q := zG_loc (zh_Ig_bitCount 35 rfl) rfl rfl rfl
theorem f_Ig_bitCount_36 : zF d x_Ig_bitCount 36 [l0] st w M Q ↔ zF d x_Ig_bitCount 38 [l0] (zi (8) :: st) w M Q := zG_stk (zh_Ig_bitCount 36 rfl) rfl rfl
theorem f_Ig_bitCount_38 : zF d x_Ig_bitCount 38 [l0] (zi b :: zi a :: st) w M Q ↔ zF d x_Ig_bitCount 39 [l0] (zi (zushr a b) :: st) w M Q := zG_stk (zh_Ig_bitCount 38 rfl) rfl rfl
theorem f_Ig_bitCount_39 : zF d x_Ig_bitCount 39 [l0] (zi b :: zi a :: st) w M Q ↔ zF d x_Ig_bitCount 40 [l0] (zi (a + b) :: st) w M Q := zG_stk (zh_Ig_bitCount 39 rfl) rfl rfl
theorem f_Ig_bitCount_40 : zF d x_Ig_bitCount 40 [l0] (zi a :: st) w M Q ↔ zF d x_Ig_bitCount 41 [zi a] st w M Q := (zG_stI (zh_Ig_bitCount 40 rfl) rfl rfl rfl rfl rfl rfl rfl rfl rfl rfl rfl).trans (and_iff_right rfl)
theorem f_Ig_bitCount_41 : zF d x_Ig_bitCount 41 [zi a] st w M Q ↔ zF d x_Ig_bitCount 42 [zi a] (zi a :: st) w M Q := zG_loc (zh_Ig_bitCount 41 rfl) rfl rfl rfl
theorem f_Ig_bitCount_42 : zF d x_Ig_bitCount 42 [zi a] st w M Q ↔ zF d x_Ig_bitCount 43 [zi a] (zi a :: st) w M Q := zG_loc (zh_Ig_bitCount 42 rfl) rfl rfl rfl
theorem f_Ig_bitCount_43 : zF d x_Ig_bitCount 43 [l0] st w M Q ↔ zF d x_Ig_bitCount 45 [l0] (zi (16) :: st) w M Q := zG_stk (zh_Ig_bitCount 43 rfl) rfl rfl
theorem f_Ig_bitCount_45 : zF d x_Ig_bitCount 45 [l0] (zi b :: zi a :: st) w M Q ↔ zF d x_Ig_bitCount 46 [l0] (zi (zushr a b) :: st) w M Q := zG_stk (zh_Ig_bitCount 45 rfl) rfl rfl
theorem f_Ig_bitCount_46 : zF d x_Ig_bitCount 46 [l0] (zi b :: zi a :: st) w M Q ↔ zF d x_Ig_bitCount 47 [l0] (zi (a + b) :: st) w M Q := zG_stk (zh_Ig_bitCount 46 rfl) rfl rfl
theorem f_Ig_bitCount_47 : zF d x_Ig_bitCount 47 [l0] (zi a :: st) w M Q ↔ zF d x_Ig_bitCount 48 [zi a] st w M Q := (zG_stI (zh_Ig_bitCount 47 rfl) rfl rfl rfl rfl rfl rfl rfl rfl rfl rfl rfl).trans (and_iff_right rfl)
theorem f_Ig_bitCount_48 : zF d x_Ig_bitCount 48 [zi a] st w M Q ↔ zF d x_Ig_bitCount 49 [zi a] (zi a :: st) w M Q := zG_loc (zh_Ig_bitCount 48 rfl) rfl rfl rfl
theorem f_Ig_bitCount_49 : zF d x_Ig_bitCount 49 [l0] st w M Q ↔ zF d x_Ig_bitCount 51 [l0] (zi (63) :: st) w M Q := zG_stk (zh_Ig_bitCount 49 rfl) rfl rfl
theorem f_Ig_bitCount_51 : zF d x_Ig_bitCount 51 [l0] (zi b :: zi a :: st) w M Q ↔ zF d x_Ig_bitCount 52 [l0] (zi (zand a b) :: st) w M Q := zG_stk (zh_Ig_bitCount 51 rfl) rfl rfl
theorem f_Ig_bitCount_52 : zF d x_Ig_bitCount 52 [l0] [zi a] w M Q ↔ Q (some (zi a)) w M := zG_ret (zh_Ig_bitCount 52 rfl) rfl rfl rfl rfl (by rw [zb_Ig_bitCount]; rfl)
theorem f_Ar_fill_0 : zF d x_Ar_fill 0 [l0, l1, l2, l3] st w M Q ↔ zF d x_Ar_fill 1 [l0, l1, l2, l3] (zi (0) :: st) w M Q := zG_stk (zh_Ar_fill 0 rfl) rfl rfl
theorem f_Ar_fill_1 : zF d x_Ar_fill 1 [l0, l1, l2, l3] (zi a :: st) w M Q ↔ (znl l1 = true ∧ zF d x_Ar_fill 2 [l0, l1, zi a, l3] st w M Q) := zG_stI (zh_Ar_fill 1 rfl) rfl rfl rfl rfl rfl rfl rfl rfl rfl rfl rfl
theorem f_Ar_fill_2 : zF d x_Ar_fill 2 [zr k, l1, l2, l3] st w M Q ↔ zF d x_Ar_fill 3 [zr k, l1, l2, l3] (zr k :: st) w M Q := zG_loc (zh_Ar_fill 2 rfl) rfl rfl rfl
theorem f_Ar_fill_3 : zF d x_Ar_fill 3 [l0, l1, l2, l3] (zr k :: st) w M Q ↔ ((zsh w k).1 = 1 ∧ zF d x_Ar_fill 4 [l0, l1, l2, l3] (zi (zsh w k).2.2 :: st) w M Q) := zG_alen (zh_Ar_fill 3 rfl) rfl
theorem f_Ar_fill_4 : zF d x_Ar_fill 4 [l0, l1, l2, l3] (zi a :: st) w M Q ↔ (znl l2 = true ∧ zF d x_Ar_fill 5 [l0, l1, l2, zi a] st w M Q) := zG_stI (zh_Ar_fill 4 rfl) rfl rfl rfl rfl rfl rfl rfl rfl rfl rfl rfl
theorem f_Ar_fill_5 : zF d x_Ar_fill 5 [l0, l1, zi a, l3] st w M Q ↔ zF d x_Ar_fill 6 [l0, l1, zi a, l3] (zi a :: st) w M Q := zG_loc (zh_Ar_fill 5 rfl) rfl rfl rfl
theorem f_Ar_fill_6 : zF d x_Ar_fill 6 [l0, l1, l2, zi a] st w M Q ↔ zF d x_Ar_fill 7 [l0, l1, l2, zi a] (zi a :: st) w M Q := zG_loc (zh_Ar_fill 6 rfl) rfl rfl rfl
theorem f_Ar_fill_7 : zF d x_Ar_fill 7 [l0, l1, l2, l3] (zi b :: zi a :: st) w M Q ↔ (if z32 b ≤ z32 a then zF d x_Ar_fill 20 [l0, l1, l2, l3] st w M Q else zF d x_Ar_fill 10 [l0, l1, l2, l3] st w M Q) := zG_ifP (zh_Ar_fill 7 rfl) rfl rfl rfl decide_eq_true_iff
theorem f_Ar_fill_10 : zF d x_Ar_fill 10 [zr k, l1, l2, l3] st w M Q ↔ zF d x_Ar_fill 11 [zr k, l1, l2, l3] (zr k :: st) w M Q := zG_loc (zh_Ar_fill 10 rfl) rfl rfl rfl
theorem f_Ar_fill_11 : zF d x_Ar_fill 11 [l0, l1, zi a, l3] st w M Q ↔ zF d x_Ar_fill 12 [l0, l1, zi a, l3] (zi a :: st) w M Q := zG_loc (zh_Ar_fill 11 rfl) rfl rfl rfl
theorem f_Ar_fill_12 : zF d x_Ar_fill 12 [l0, zi a, l2, l3] st w M Q ↔ zF d x_Ar_fill 13 [l0, zi a, l2, l3] (zi a :: st) w M Q := zG_loc (zh_Ar_fill 12 rfl) rfl rfl rfl
theorem f_Ar_fill_13 : zF d x_Ar_fill 13 [l0, l1, l2, l3] (zi b :: zi a :: zr k :: st) w M Q ↔ ((zAs w k 1 (z32 a) ∧ zF d x_Ar_fill 14 [l0, l1, l2, l3] st w (zu M k (z32 a).toNat (z8 b)) Q) ∨ (zAs w k 2 (z32 a) ∧ (b = 0 ∨ b = 1) ∧ zF d x_Ar_fill 14 [l0, l1, l2, l3] st w (zu M k (z32 a).toNat b) Q)) := zG_bast (zh_Ar_fill 13 rfl) rfl
theorem f_Ar_fill_14 : zF d x_Ar_fill 14 [l0, l1, zi a, l3] st w M Q ↔ (znl l1 = true ∧ zF d x_Ar_fill 17 [l0, l1, zi (a + (1)), l3] st w M Q) := zG_inc (zh_Ar_fill 14 rfl) rfl rfl rfl rfl rfl rfl rfl
theorem f_Ar_fill_17 : zF d x_Ar_fill 17 [l0, l1, l2, l3] st w M Q ↔ zF d x_Ar_fill 5 [l0, l1, l2, l3] st w M Q := zG_br (zh_Ar_fill 17 rfl) rfl rfl rfl
theorem f_Ar_fill_20 : zF d x_Ar_fill 20 [l0, l1, l2, l3] [] w M Q ↔ Q none w M := zG_ret (zh_Ar_fill 20 rfl) rfl rfl rfl rfl rfl
theorem f_Ar_fill2_0 : zF d x_Ar_fill2 0 [l0, l1, l2, l3, l4] st w M Q ↔ zF d x_Ar_fill2 1 [l0, l1, l2, l3, l4] (zi (0) :: st) w M Q := zG_stk (zh_Ar_fill2 0 rfl) rfl rfl
theorem f_Ar_fill2_1 : zF d x_Ar_fill2 1 [l0, l1, l2, l3, l4] (zi a :: st) w M Q ↔ (znl l2 = true ∧ zF d x_Ar_fill2 2 [l0, l1, l2, zi a, l4] st w M Q) := zG_stI (zh_Ar_fill2 1 rfl) rfl rfl rfl rfl rfl rfl rfl rfl rfl rfl rfl
theorem f_Ar_fill2_2 : zF d x_Ar_fill2 2 [zr k, l1, l2, l3, l4] st w M Q ↔ zF d x_Ar_fill2 3 [zr k, l1, l2, l3, l4] (zr k :: st) w M Q := zG_loc (zh_Ar_fill2 2 rfl) rfl rfl rfl
theorem f_Ar_fill2_3 : zF d x_Ar_fill2 3 [l0, l1, l2, l3, l4] (zr k :: st) w M Q ↔ ((zsh w k).1 = 1 ∧ zF d x_Ar_fill2 4 [l0, l1, l2, l3, l4] (zi (zsh w k).2.2 :: st) w M Q) := zG_alen (zh_Ar_fill2 3 rfl) rfl
theorem f_Ar_fill2_4 : zF d x_Ar_fill2 4 [l0, l1, l2, l3, l4] (zi a :: st) w M Q ↔ (znl l3 = true ∧ zF d x_Ar_fill2 6 [l0, l1, l2, l3, zi a] st w M Q) := zG_stI (zh_Ar_fill2 4 rfl) rfl rfl rfl rfl rfl rfl rfl rfl rfl rfl rfl
theorem f_Ar_fill2_6 : zF d x_Ar_fill2 6 [l0, l1, l2, zi a, l4] st w M Q ↔ zF d x_Ar_fill2 7 [l0, l1, l2, zi a, l4] (zi a :: st) w M Q := zG_loc (zh_Ar_fill2 6 rfl) rfl rfl rfl
theorem f_Ar_fill2_7 : zF d x_Ar_fill2 7 [l0, l1, l2, l3, zi a] st w M Q ↔ zF d x_Ar_fill2 9 [l0, l1, l2, l3, zi a] (zi a :: st) w M Q := zG_loc (zh_Ar_fill2 7 rfl) rfl rfl rfl
theorem f_Ar_fill2_9 : zF d x_Ar_fill2 9 [l0, l1, l2, l3, l4] (zi b :: zi a :: st) w M Q ↔ (if z32 b ≤ z32 a then zF d x_Ar_fill2 22 [l0, l1, l2, l3, l4] st w M Q else zF d x_Ar_fill2 12 [l0, l1, l2, l3, l4] st w M Q) := zG_ifP (zh_Ar_fill2 9 rfl) rfl rfl rfl decide_eq_true_iff
theorem f_Ar_fill2_12 : zF d x_Ar_fill2 12 [zr k, l1, l2, l3, l4] st w M Q ↔ zF d x_Ar_fill2 13 [zr k, l1, l2, l3, l4] (zr k :: st) w M Q := zG_loc (zh_Ar_fill2 12 rfl) rfl rfl rfl
theorem f_Ar_fill2_13 : zF d x_Ar_fill2 13 [l0, l1, l2, zi a, l4] st w M Q ↔ zF d x_Ar_fill2 14 [l0, l1, l2, zi a, l4] (zi a :: st) w M Q := zG_loc (zh_Ar_fill2 13 rfl) rfl rfl rfl
theorem f_Ar_fill2_14 : zF d x_Ar_fill2 14 [l0, zl a, l2, l3, l4] st w M Q ↔ zF d x_Ar_fill2 15 [l0, zl a, l2, l3, l4] (zl a :: st) w M Q := zG_loc (zh_Ar_fill2 14 rfl) rfl rfl rfl
theorem f_Ar_fill2_15 : zF d x_Ar_fill2 15 [l0, l1, l2, l3, l4] (zl b :: zi a :: zr k :: st) w M Q ↔ (zAs w k 3 (z32 a) ∧ zF d x_Ar_fill2 16 [l0, l1, l2, l3, l4] st w (zu M k (z32 a).toNat b) Q) := zG_last (zh_Ar_fill2 15 rfl) rfl
theorem f_Ar_fill2_16 : zF d x_Ar_fill2 16 [l0, l1, l2, zi a, l4] st w M Q ↔ (znl l2 = true ∧ zF d x_Ar_fill2 19 [l0, l1, l2, zi (a + (1)), l4] st w M Q) := zG_inc (zh_Ar_fill2 16 rfl) rfl rfl rfl rfl rfl rfl rfl
theorem f_Ar_fill2_19 : zF d x_Ar_fill2 19 [l0, l1, l2, l3, l4] st w M Q ↔ zF d x_Ar_fill2 6 [l0, l1, l2, l3, l4] st w M Q := zG_br (zh_Ar_fill2 19 rfl) rfl rfl rfl
theorem f_Ar_fill2_22 : zF d x_Ar_fill2 22 [l0, l1, l2, l3, l4] [] w M Q ↔ Q none w M := zG_ret (zh_Ar_fill2 22 rfl) rfl rfl rfl rfl rfl
end ZFIg_Ar
