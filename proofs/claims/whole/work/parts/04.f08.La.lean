section ZFLa
variable {d : Nat} {st : List zV} {w : zW} {M : zM} {Q : Option zV → zW → zM → Prop} {l0 l1 l2 l3 l4 l5 l6 l7 l8 l9 l10 l11 l12 l13 l14 l15 l16 l17 l18 l19 l20 l21 l22 l23 : zV} {a b c e f h n : Int} {k k1 k2 : Nat}
theorem f_La_law_0 : zF d x_La_law 0 [l0, l1, l2, l3] st w M Q ↔ zF d x_La_law 3 [l0, l1, l2, l3] (zr w.1.length :: st) (w.1 ++ [(0, 10, 10)], zo w.2 w.1.length (fun _ => 0)) (zo M w.1.length (fun _ => 0)) Q := zG_new (zh_La_law 0 rfl) rfl rfl rfl
theorem f_La_law_3i : zF d x_La_law 3 [l0, l1, l2, l3] (zi a :: st) w M Q ↔ zF d x_La_law 4 [l0, l1, l2, l3] (zi a :: zi a :: st) w M Q := zG_stk (zh_La_law 3 rfl) rfl rfl
theorem f_La_law_3r : zF d x_La_law 3 [l0, l1, l2, l3] (zr k :: st) w M Q ↔ zF d x_La_law 4 [l0, l1, l2, l3] (zr k :: zr k :: st) w M Q := zG_stk (zh_La_law 3 rfl) rfl rfl
theorem f_La_law_4 : zF d x_La_law 4 [l0, l1, l2, l3] (zr k :: st) w M Q ↔ (0 < d ∧ zwd st ≤ 8 ∧ ((zsh w k).1 = 0 ∧ (zsh w k).2.1 = 10) ∧ zF (d - 1) x_We_init 0 [zr k] [] w M (fun v w' M' => zF d x_La_law 7 [l0, l1, l2, l3] (v.toList ++ st) w' M' Q)) := zG_callO [] (.inr rfl) (zh_La_law 4 rfl) rfl rfl rfl (by rw [zm_We_init]; rfl) (by rw [zm_We_init]; rfl) rfl
theorem f_La_law_7 : zF d x_La_law 7 [l0, l1, l2, l3] (zr k :: st) w M Q ↔ (znl l0 = true ∧ zF d x_La_law 8 [l0, zr k, l2, l3] st w M Q) := zG_stA (zh_La_law 7 rfl) rfl rfl rfl rfl rfl rfl rfl rfl rfl rfl rfl
theorem f_La_law_8 : zF d x_La_law 8 [l0, l1, l2, l3] st w M Q ↔ zF d x_La_law 11 [l0, l1, l2, l3] (zr w.1.length :: st) (w.1 ++ [(0, 11, 42)], zo w.2 w.1.length (fun _ => 0)) (zo M w.1.length (fun _ => 0)) Q := zG_new (zh_La_law 8 rfl) rfl rfl rfl
theorem f_La_law_11i : zF d x_La_law 11 [l0, l1, l2, l3] (zi a :: st) w M Q ↔ zF d x_La_law 12 [l0, l1, l2, l3] (zi a :: zi a :: st) w M Q := zG_stk (zh_La_law 11 rfl) rfl rfl
theorem f_La_law_11r : zF d x_La_law 11 [l0, l1, l2, l3] (zr k :: st) w M Q ↔ zF d x_La_law 12 [l0, l1, l2, l3] (zr k :: zr k :: st) w M Q := zG_stk (zh_La_law 11 rfl) rfl rfl
theorem f_La_law_12 : zF d x_La_law 12 [l0, l1, l2, l3] (zr k :: st) w M Q ↔ (0 < d ∧ zwd st ≤ 8 ∧ ((zsh w k).1 = 0 ∧ (zsh w k).2.1 = 11) ∧ zF (d - 1) x_Mo_init 0 [zr k, zt] [] w M (fun v w' M' => zF d x_La_law 15 [l0, l1, l2, l3] (v.toList ++ st) w' M' Q)) := zG_callO [] (.inr rfl) (zh_La_law 12 rfl) rfl rfl rfl (by rw [zm_Mo_init]; rfl) (by rw [zm_Mo_init]; rfl) rfl
theorem f_La_law_15 : zF d x_La_law 15 [l0, l1, l2, l3] (zr k :: st) w M Q ↔ (znl l1 = true ∧ zF d x_La_law 16 [l0, l1, zr k, l3] st w M Q) := zG_stA (zh_La_law 15 rfl) rfl rfl rfl rfl rfl rfl rfl rfl rfl rfl rfl
theorem f_La_law_16 : zF d x_La_law 16 [l0, l1, l2, l3] st w M Q ↔ zF d x_La_law 17 [l0, l1, l2, l3] (zi (0) :: st) w M Q := zG_stk (zh_La_law 16 rfl) rfl rfl
theorem f_La_law_17 : zF d x_La_law 17 [l0, l1, l2, l3] (zi a :: st) w M Q ↔ (znl l2 = true ∧ zF d x_La_law 18 [l0, l1, l2, zi a] st w M Q) := zG_stI (zh_La_law 17 rfl) rfl rfl rfl rfl rfl rfl rfl rfl rfl rfl rfl
theorem f_La_law_18 : zF d x_La_law 18 [l0, l1, l2, zi a] st w M Q ↔ zF d x_La_law 19 [l0, l1, l2, zi a] (zi a :: st) w M Q := zG_loc (zh_La_law 18 rfl) rfl rfl rfl
theorem f_La_law_19 : zF d x_La_law 19 [zr k, l1, l2, l3] st w M Q ↔ zF d x_La_law 20 [zr k, l1, l2, l3] (zr k :: st) w M Q := zG_loc (zh_La_law 19 rfl) rfl rfl rfl
theorem f_La_law_20 : zF d x_La_law 20 [l0, l1, l2, l3] (zr k :: st) w M Q ↔ ((zsh w k).1 = 1 ∧ zF d x_La_law 21 [l0, l1, l2, l3] (zi (zsh w k).2.2 :: st) w M Q) := zG_alen (zh_La_law 20 rfl) rfl
theorem f_La_law_21 : zF d x_La_law 21 [l0, l1, l2, l3] st w M Q ↔ zF d x_La_law 23 [l0, l1, l2, l3] (zi (7) :: st) w M Q := zG_stk (zh_La_law 21 rfl) rfl rfl
theorem f_La_law_23 : zF d x_La_law 23 [l0, l1, l2, l3] (zi b :: zi a :: st) w M Q ↔ zF d x_La_law 24 [l0, l1, l2, l3] (zi (a - b) :: st) w M Q := zG_stk (zh_La_law 23 rfl) rfl rfl
theorem f_La_law_24 : zF d x_La_law 24 [l0, l1, l2, l3] (zi b :: zi a :: st) w M Q ↔ (if z32 b < z32 a then zF d x_La_law 1885 [l0, l1, l2, l3] st w M Q else zF d x_La_law 27 [l0, l1, l2, l3] st w M Q) := zG_ifP (zh_La_law 24 rfl) rfl rfl rfl decide_eq_true_iff
theorem f_La_law_27 : zF d x_La_law 27 [zr k, l1, l2, l3] st w M Q ↔ zF d x_La_law 28 [zr k, l1, l2, l3] (zr k :: st) w M Q := zG_loc (zh_La_law 27 rfl) rfl rfl rfl
theorem f_La_law_28 : zF d x_La_law 28 [l0, l1, l2, zi a] st w M Q ↔ zF d x_La_law 29 [l0, l1, l2, zi a] (zi a :: st) w M Q := zG_loc (zh_La_law 28 rfl) rfl rfl rfl
theorem f_La_law_29 : zF d x_La_law 29 [l0, l1, l2, l3] (zi a :: zr k :: st) w M Q ↔ (zA w k 0 (z32 a) ∧ zF d x_La_law 30 [l0, l1, l2, l3] (zi (M k (z32 a).toNat) :: st) w M Q) := zG_iald (zh_La_law 29 rfl) rfl
theorem f_La_law_30 : zF d x_La_law 30 [l0, l1, l2, l3] st w M Q ↔ zF d x_La_law 32 [l0, l1, l2, l3] (zi (63) :: st) w M Q := zG_stk (zh_La_law 30 rfl) rfl rfl
theorem f_La_law_32 : zF d x_La_law 32 [l0, l1, l2, l3] (zi b :: zi a :: st) w M Q ↔ zF d x_La_law 33 [l0, l1, l2, l3] (zi (zand a b) :: st) w M Q := zG_stk (zh_La_law 32 rfl) rfl rfl
theorem f_La_law_33_0 (hv : z32 a = 0) : zF d x_La_law 33 [l0, l1, l2, l3] (zi a :: st) w M Q ↔ zF d x_La_law 236 [l0, l1, l2, l3] st w M Q := zG_sw (zh_La_law 33 rfl) (by rw [hv]; rfl)
theorem f_La_law_33_1 (hv : z32 a = 1) : zF d x_La_law 33 [l0, l1, l2, l3] (zi a :: st) w M Q ↔ zF d x_La_law 299 [l0, l1, l2, l3] st w M Q := zG_sw (zh_La_law 33 rfl) (by rw [hv]; rfl)
theorem f_La_law_33_2 (hv : z32 a = 2) : zF d x_La_law 33 [l0, l1, l2, l3] (zi a :: st) w M Q ↔ zF d x_La_law 322 [l0, l1, l2, l3] st w M Q := zG_sw (zh_La_law 33 rfl) (by rw [hv]; rfl)
theorem f_La_law_33_3 (hv : z32 a = 3) : zF d x_La_law 33 [l0, l1, l2, l3] (zi a :: st) w M Q ↔ zF d x_La_law 335 [l0, l1, l2, l3] st w M Q := zG_sw (zh_La_law 33 rfl) (by rw [hv]; rfl)
theorem f_La_law_33_4 (hv : z32 a = 4) : zF d x_La_law 33 [l0, l1, l2, l3] (zi a :: st) w M Q ↔ zF d x_La_law 358 [l0, l1, l2, l3] st w M Q := zG_sw (zh_La_law 33 rfl) (by rw [hv]; rfl)
theorem f_La_law_33_5 (hv : z32 a = 5) : zF d x_La_law 33 [l0, l1, l2, l3] (zi a :: st) w M Q ↔ zF d x_La_law 402 [l0, l1, l2, l3] st w M Q := zG_sw (zh_La_law 33 rfl) (by rw [hv]; rfl)
theorem f_La_law_33_6 (hv : z32 a = 6) : zF d x_La_law 33 [l0, l1, l2, l3] (zi a :: st) w M Q ↔ zF d x_La_law 446 [l0, l1, l2, l3] st w M Q := zG_sw (zh_La_law 33 rfl) (by rw [hv]; rfl)
theorem f_La_law_33_7 (hv : z32 a = 7) : zF d x_La_law 33 [l0, l1, l2, l3] (zi a :: st) w M Q ↔ zF d x_La_law 490 [l0, l1, l2, l3] st w M Q := zG_sw (zh_La_law 33 rfl) (by rw [hv]; rfl)
theorem f_La_law_33_8 (hv : z32 a = 8) : zF d x_La_law 33 [l0, l1, l2, l3] (zi a :: st) w M Q ↔ zF d x_La_law 513 [l0, l1, l2, l3] st w M Q := zG_sw (zh_La_law 33 rfl) (by rw [hv]; rfl)
theorem f_La_law_33_9 (hv : z32 a = 9) : zF d x_La_law 33 [l0, l1, l2, l3] (zi a :: st) w M Q ↔ zF d x_La_law 526 [l0, l1, l2, l3] st w M Q := zG_sw (zh_La_law 33 rfl) (by rw [hv]; rfl)
theorem f_La_law_33_10 (hv : z32 a = 10) : zF d x_La_law 33 [l0, l1, l2, l3] (zi a :: st) w M Q ↔ zF d x_La_law 569 [l0, l1, l2, l3] st w M Q := zG_sw (zh_La_law 33 rfl) (by rw [hv]; rfl)
theorem f_La_law_33_11 (hv : z32 a = 11) : zF d x_La_law 33 [l0, l1, l2, l3] (zi a :: st) w M Q ↔ zF d x_La_law 622 [l0, l1, l2, l3] st w M Q := zG_sw (zh_La_law 33 rfl) (by rw [hv]; rfl)
theorem f_La_law_33_12 (hv : z32 a = 12) : zF d x_La_law 33 [l0, l1, l2, l3] (zi a :: st) w M Q ↔ zF d x_La_law 655 [l0, l1, l2, l3] st w M Q := zG_sw (zh_La_law 33 rfl) (by rw [hv]; rfl)
theorem f_La_law_33_13 (hv : z32 a = 13) : zF d x_La_law 33 [l0, l1, l2, l3] (zi a :: st) w M Q ↔ zF d x_La_law 718 [l0, l1, l2, l3] st w M Q := zG_sw (zh_La_law 33 rfl) (by rw [hv]; rfl)
theorem f_La_law_33_14 (hv : z32 a = 14) : zF d x_La_law 33 [l0, l1, l2, l3] (zi a :: st) w M Q ↔ zF d x_La_law 781 [l0, l1, l2, l3] st w M Q := zG_sw (zh_La_law 33 rfl) (by rw [hv]; rfl)
theorem f_La_law_33_15 (hv : z32 a = 15) : zF d x_La_law 33 [l0, l1, l2, l3] (zi a :: st) w M Q ↔ zF d x_La_law 856 [l0, l1, l2, l3] st w M Q := zG_sw (zh_La_law 33 rfl) (by rw [hv]; rfl)
theorem f_La_law_33_16 (hv : z32 a = 16) : zF d x_La_law 33 [l0, l1, l2, l3] (zi a :: st) w M Q ↔ zF d x_La_law 919 [l0, l1, l2, l3] st w M Q := zG_sw (zh_La_law 33 rfl) (by rw [hv]; rfl)
theorem f_La_law_33_17 (hv : z32 a = 17) : zF d x_La_law 33 [l0, l1, l2, l3] (zi a :: st) w M Q ↔ zF d x_La_law 952 [l0, l1, l2, l3] st w M Q := zG_sw (zh_La_law 33 rfl) (by rw [hv]; rfl)
theorem f_La_law_33_18 (hv : z32 a = 18) : zF d x_La_law 33 [l0, l1, l2, l3] (zi a :: st) w M Q ↔ zF d x_La_law 975 [l0, l1, l2, l3] st w M Q := zG_sw (zh_La_law 33 rfl) (by rw [hv]; rfl)
theorem f_La_law_33_19 (hv : z32 a = 19) : zF d x_La_law 33 [l0, l1, l2, l3] (zi a :: st) w M Q ↔ zF d x_La_law 1008 [l0, l1, l2, l3] st w M Q := zG_sw (zh_La_law 33 rfl) (by rw [hv]; rfl)
theorem f_La_law_33_20 (hv : z32 a = 20) : zF d x_La_law 33 [l0, l1, l2, l3] (zi a :: st) w M Q ↔ zF d x_La_law 1051 [l0, l1, l2, l3] st w M Q := zG_sw (zh_La_law 33 rfl) (by rw [hv]; rfl)
theorem f_La_law_33_21 (hv : z32 a = 21) : zF d x_La_law 33 [l0, l1, l2, l3] (zi a :: st) w M Q ↔ zF d x_La_law 1094 [l0, l1, l2, l3] st w M Q := zG_sw (zh_La_law 33 rfl) (by rw [hv]; rfl)
theorem f_La_law_33_22 (hv : z32 a = 22) : zF d x_La_law 33 [l0, l1, l2, l3] (zi a :: st) w M Q ↔ zF d x_La_law 1117 [l0, l1, l2, l3] st w M Q := zG_sw (zh_La_law 33 rfl) (by rw [hv]; rfl)
theorem f_La_law_33_23 (hv : z32 a = 23) : zF d x_La_law 33 [l0, l1, l2, l3] (zi a :: st) w M Q ↔ zF d x_La_law 1150 [l0, l1, l2, l3] st w M Q := zG_sw (zh_La_law 33 rfl) (by rw [hv]; rfl)
theorem f_La_law_33_24 (hv : z32 a = 24) : zF d x_La_law 33 [l0, l1, l2, l3] (zi a :: st) w M Q ↔ zF d x_La_law 1193 [l0, l1, l2, l3] st w M Q := zG_sw (zh_La_law 33 rfl) (by rw [hv]; rfl)
theorem f_La_law_33_25 (hv : z32 a = 25) : zF d x_La_law 33 [l0, l1, l2, l3] (zi a :: st) w M Q ↔ zF d x_La_law 1226 [l0, l1, l2, l3] st w M Q := zG_sw (zh_La_law 33 rfl) (by rw [hv]; rfl)
theorem f_La_law_33_26 (hv : z32 a = 26) : zF d x_La_law 33 [l0, l1, l2, l3] (zi a :: st) w M Q ↔ zF d x_La_law 1259 [l0, l1, l2, l3] st w M Q := zG_sw (zh_La_law 33 rfl) (by rw [hv]; rfl)
theorem f_La_law_33_27 (hv : z32 a = 27) : zF d x_La_law 33 [l0, l1, l2, l3] (zi a :: st) w M Q ↔ zF d x_La_law 1292 [l0, l1, l2, l3] st w M Q := zG_sw (zh_La_law 33 rfl) (by rw [hv]; rfl)
theorem f_La_law_33_28 (hv : z32 a = 28) : zF d x_La_law 33 [l0, l1, l2, l3] (zi a :: st) w M Q ↔ zF d x_La_law 1335 [l0, l1, l2, l3] st w M Q := zG_sw (zh_La_law 33 rfl) (by rw [hv]; rfl)
theorem f_La_law_33_29 (hv : z32 a = 29) : zF d x_La_law 33 [l0, l1, l2, l3] (zi a :: st) w M Q ↔ zF d x_La_law 1368 [l0, l1, l2, l3] st w M Q := zG_sw (zh_La_law 33 rfl) (by rw [hv]; rfl)
theorem f_La_law_33_30 (hv : z32 a = 30) : zF d x_La_law 33 [l0, l1, l2, l3] (zi a :: st) w M Q ↔ zF d x_La_law 1381 [l0, l1, l2, l3] st w M Q := zG_sw (zh_La_law 33 rfl) (by rw [hv]; rfl)
theorem f_La_law_33_31 (hv : z32 a = 31) : zF d x_La_law 33 [l0, l1, l2, l3] (zi a :: st) w M Q ↔ zF d x_La_law 1404 [l0, l1, l2, l3] st w M Q := zG_sw (zh_La_law 33 rfl) (by rw [hv]; rfl)
theorem f_La_law_33_32 (hv : z32 a = 32) : zF d x_La_law 33 [l0, l1, l2, l3] (zi a :: st) w M Q ↔ zF d x_La_law 1437 [l0, l1, l2, l3] st w M Q := zG_sw (zh_La_law 33 rfl) (by rw [hv]; rfl)
theorem f_La_law_33_33 (hv : z32 a = 33) : zF d x_La_law 33 [l0, l1, l2, l3] (zi a :: st) w M Q ↔ zF d x_La_law 1480 [l0, l1, l2, l3] st w M Q := zG_sw (zh_La_law 33 rfl) (by rw [hv]; rfl)
theorem f_La_law_33_34 (hv : z32 a = 34) : zF d x_La_law 33 [l0, l1, l2, l3] (zi a :: st) w M Q ↔ zF d x_La_law 1533 [l0, l1, l2, l3] st w M Q := zG_sw (zh_La_law 33 rfl) (by rw [hv]; rfl)
theorem f_La_law_33_35 (hv : z32 a = 35) : zF d x_La_law 33 [l0, l1, l2, l3] (zi a :: st) w M Q ↔ zF d x_La_law 1576 [l0, l1, l2, l3] st w M Q := zG_sw (zh_La_law 33 rfl) (by rw [hv]; rfl)
theorem f_La_law_33_36 (hv : z32 a = 36) : zF d x_La_law 33 [l0, l1, l2, l3] (zi a :: st) w M Q ↔ zF d x_La_law 1620 [l0, l1, l2, l3] st w M Q := zG_sw (zh_La_law 33 rfl) (by rw [hv]; rfl)
theorem f_La_law_33_37 (hv : z32 a = 37) : zF d x_La_law 33 [l0, l1, l2, l3] (zi a :: st) w M Q ↔ zF d x_La_law 1643 [l0, l1, l2, l3] st w M Q := zG_sw (zh_La_law 33 rfl) (by rw [hv]; rfl)
theorem f_La_law_33_38 (hv : z32 a = 38) : zF d x_La_law 33 [l0, l1, l2, l3] (zi a :: st) w M Q ↔ zF d x_La_law 1676 [l0, l1, l2, l3] st w M Q := zG_sw (zh_La_law 33 rfl) (by rw [hv]; rfl)
theorem f_La_law_33_39 (hv : z32 a = 39) : zF d x_La_law 33 [l0, l1, l2, l3] (zi a :: st) w M Q ↔ zF d x_La_law 1725 [l0, l1, l2, l3] st w M Q := zG_sw (zh_La_law 33 rfl) (by rw [hv]; rfl)
theorem f_La_law_33_40 (hv : z32 a = 40) : zF d x_La_law 33 [l0, l1, l2, l3] (zi a :: st) w M Q ↔ zF d x_La_law 1748 [l0, l1, l2, l3] st w M Q := zG_sw (zh_La_law 33 rfl) (by rw [hv]; rfl)
theorem f_La_law_33_41 (hv : z32 a = 41) : zF d x_La_law 33 [l0, l1, l2, l3] (zi a :: st) w M Q ↔ zF d x_La_law 1781 [l0, l1, l2, l3] st w M Q := zG_sw (zh_La_law 33 rfl) (by rw [hv]; rfl)
theorem f_La_law_33_42 (hv : z32 a = 42) : zF d x_La_law 33 [l0, l1, l2, l3] (zi a :: st) w M Q ↔ zF d x_La_law 1804 [l0, l1, l2, l3] st w M Q := zG_sw (zh_La_law 33 rfl) (by rw [hv]; rfl)
theorem f_La_law_33_43 (hv : z32 a = 43) : zF d x_La_law 33 [l0, l1, l2, l3] (zi a :: st) w M Q ↔ zF d x_La_law 1817 [l0, l1, l2, l3] st w M Q := zG_sw (zh_La_law 33 rfl) (by rw [hv]; rfl)
theorem f_La_law_33_44 (hv : z32 a = 44) : zF d x_La_law 33 [l0, l1, l2, l3] (zi a :: st) w M Q ↔ zF d x_La_law 1830 [l0, l1, l2, l3] st w M Q := zG_sw (zh_La_law 33 rfl) (by rw [hv]; rfl)
theorem f_La_law_33_45 (hv : z32 a = 45) : zF d x_La_law 33 [l0, l1, l2, l3] (zi a :: st) w M Q ↔ zF d x_La_law 1843 [l0, l1, l2, l3] st w M Q := zG_sw (zh_La_law 33 rfl) (by rw [hv]; rfl)
theorem f_La_law_33_46 (hv : z32 a = 46) : zF d x_La_law 33 [l0, l1, l2, l3] (zi a :: st) w M Q ↔ zF d x_La_law 1856 [l0, l1, l2, l3] st w M Q := zG_sw (zh_La_law 33 rfl) (by rw [hv]; rfl)
theorem f_La_law_33_d (hv : z32 a < 0 ∨ 46 < z32 a) : zF d x_La_law 33 [l0, l1, l2, l3] (zi a :: st) w M Q ↔ zF d x_La_law 1879 [l0, l1, l2, l3] st w M Q := zG_sw (zh_La_law 33 rfl) (by rw [if_pos hv]; rfl)
theorem f_La_law_236 : zF d x_La_law 236 [l0, zr k, l2, l3] st w M Q ↔ zF d x_La_law 237 [l0, zr k, l2, l3] (zr k :: st) w M Q := zG_loc (zh_La_law 236 rfl) rfl rfl rfl
theorem f_La_law_237 : zF d x_La_law 237 [zr k, l1, l2, l3] st w M Q ↔ zF d x_La_law 238 [zr k, l1, l2, l3] (zr k :: st) w M Q := zG_loc (zh_La_law 237 rfl) rfl rfl rfl
theorem f_La_law_238 : zF d x_La_law 238 [l0, l1, l2, zi a] st w M Q ↔ zF d x_La_law 239 [l0, l1, l2, zi a] (zi a :: st) w M Q := zG_loc (zh_La_law 238 rfl) rfl rfl rfl
theorem f_La_law_239 : zF d x_La_law 239 [l0, l1, l2, l3] st w M Q ↔ zF d x_La_law 240 [l0, l1, l2, l3] (zi (1) :: st) w M Q := zG_stk (zh_La_law 239 rfl) rfl rfl
theorem f_La_law_240 : zF d x_La_law 240 [l0, l1, l2, l3] (zi b :: zi a :: st) w M Q ↔ zF d x_La_law 241 [l0, l1, l2, l3] (zi (a + b) :: st) w M Q := zG_stk (zh_La_law 240 rfl) rfl rfl
theorem f_La_law_241 : zF d x_La_law 241 [l0, l1, l2, l3] (zi a :: zr k :: st) w M Q ↔ (zA w k 0 (z32 a) ∧ zF d x_La_law 242 [l0, l1, l2, l3] (zi (M k (z32 a).toNat) :: st) w M Q) := zG_iald (zh_La_law 241 rfl) rfl
theorem f_La_law_242 : zF d x_La_law 242 [zr k, l1, l2, l3] st w M Q ↔ zF d x_La_law 243 [zr k, l1, l2, l3] (zr k :: st) w M Q := zG_loc (zh_La_law 242 rfl) rfl rfl rfl
theorem f_La_law_243 : zF d x_La_law 243 [l0, l1, l2, zi a] st w M Q ↔ zF d x_La_law 244 [l0, l1, l2, zi a] (zi a :: st) w M Q := zG_loc (zh_La_law 243 rfl) rfl rfl rfl
theorem f_La_law_244 : zF d x_La_law 244 [l0, l1, l2, l3] st w M Q ↔ zF d x_La_law 245 [l0, l1, l2, l3] (zi (2) :: st) w M Q := zG_stk (zh_La_law 244 rfl) rfl rfl
theorem f_La_law_245 : zF d x_La_law 245 [l0, l1, l2, l3] (zi b :: zi a :: st) w M Q ↔ zF d x_La_law 246 [l0, l1, l2, l3] (zi (a + b) :: st) w M Q := zG_stk (zh_La_law 245 rfl) rfl rfl
theorem f_La_law_246 : zF d x_La_law 246 [l0, l1, l2, l3] (zi a :: zr k :: st) w M Q ↔ (zA w k 0 (z32 a) ∧ zF d x_La_law 247 [l0, l1, l2, l3] (zi (M k (z32 a).toNat) :: st) w M Q) := zG_iald (zh_La_law 246 rfl) rfl
theorem f_La_law_247 : zF d x_La_law 247 [zr k, l1, l2, l3] st w M Q ↔ zF d x_La_law 248 [zr k, l1, l2, l3] (zr k :: st) w M Q := zG_loc (zh_La_law 247 rfl) rfl rfl rfl
theorem f_La_law_248 : zF d x_La_law 248 [l0, l1, l2, zi a] st w M Q ↔ zF d x_La_law 249 [l0, l1, l2, zi a] (zi a :: st) w M Q := zG_loc (zh_La_law 248 rfl) rfl rfl rfl
theorem f_La_law_249 : zF d x_La_law 249 [l0, l1, l2, l3] st w M Q ↔ zF d x_La_law 250 [l0, l1, l2, l3] (zi (3) :: st) w M Q := zG_stk (zh_La_law 249 rfl) rfl rfl
theorem f_La_law_250 : zF d x_La_law 250 [l0, l1, l2, l3] (zi b :: zi a :: st) w M Q ↔ zF d x_La_law 251 [l0, l1, l2, l3] (zi (a + b) :: st) w M Q := zG_stk (zh_La_law 250 rfl) rfl rfl
theorem f_La_law_251 : zF d x_La_law 251 [l0, l1, l2, l3] (zi a :: zr k :: st) w M Q ↔ (zA w k 0 (z32 a) ∧ zF d x_La_law 252 [l0, l1, l2, l3] (zi (M k (z32 a).toNat) :: st) w M Q) := zG_iald (zh_La_law 251 rfl) rfl
theorem f_La_law_252 : zF d x_La_law 252 [zr k, l1, l2, l3] st w M Q ↔ zF d x_La_law 253 [zr k, l1, l2, l3] (zr k :: st) w M Q := zG_loc (zh_La_law 252 rfl) rfl rfl rfl
theorem f_La_law_253 : zF d x_La_law 253 [l0, l1, l2, zi a] st w M Q ↔ zF d x_La_law 254 [l0, l1, l2, zi a] (zi a :: st) w M Q := zG_loc (zh_La_law 253 rfl) rfl rfl rfl
theorem f_La_law_254 : zF d x_La_law 254 [l0, l1, l2, l3] st w M Q ↔ zF d x_La_law 255 [l0, l1, l2, l3] (zi (4) :: st) w M Q := zG_stk (zh_La_law 254 rfl) rfl rfl
theorem f_La_law_255 : zF d x_La_law 255 [l0, l1, l2, l3] (zi b :: zi a :: st) w M Q ↔ zF d x_La_law 256 [l0, l1, l2, l3] (zi (a + b) :: st) w M Q := zG_stk (zh_La_law 255 rfl) rfl rfl
theorem f_La_law_256 : zF d x_La_law 256 [l0, l1, l2, l3] (zi a :: zr k :: st) w M Q ↔ (zA w k 0 (z32 a) ∧ zF d x_La_law 257 [l0, l1, l2, l3] (zi (M k (z32 a).toNat) :: st) w M Q) := zG_iald (zh_La_law 256 rfl) rfl
theorem f_La_law_257 : zF d x_La_law 257 [zr k, l1, l2, l3] st w M Q ↔ zF d x_La_law 258 [zr k, l1, l2, l3] (zr k :: st) w M Q := zG_loc (zh_La_law 257 rfl) rfl rfl rfl
theorem f_La_law_258 : zF d x_La_law 258 [l0, l1, l2, zi a] st w M Q ↔ zF d x_La_law 259 [l0, l1, l2, zi a] (zi a :: st) w M Q := zG_loc (zh_La_law 258 rfl) rfl rfl rfl
theorem f_La_law_259 : zF d x_La_law 259 [l0, l1, l2, l3] st w M Q ↔ zF d x_La_law 260 [l0, l1, l2, l3] (zi (5) :: st) w M Q := zG_stk (zh_La_law 259 rfl) rfl rfl
theorem f_La_law_260 : zF d x_La_law 260 [l0, l1, l2, l3] (zi b :: zi a :: st) w M Q ↔ zF d x_La_law 261 [l0, l1, l2, l3] (zi (a + b) :: st) w M Q := zG_stk (zh_La_law 260 rfl) rfl rfl
theorem f_La_law_261 : zF d x_La_law 261 [l0, l1, l2, l3] (zi a :: zr k :: st) w M Q ↔ (zA w k 0 (z32 a) ∧ zF d x_La_law 262 [l0, l1, l2, l3] (zi (M k (z32 a).toNat) :: st) w M Q) := zG_iald (zh_La_law 261 rfl) rfl
theorem f_La_law_262 : zF d x_La_law 262 [l0, l1, l2, l3] (zi f :: zi e :: zi c :: zi b :: zi a :: zr k :: st) w M Q ↔ (0 < d ∧ zwd st ≤ 8 ∧ ((zsh w k).1 = 0 ∧ (zsh w k).2.1 = 10) ∧ zF (d - 1) x_We_feed 0 [zr k, zi a, zi b, zi c, zi e, zi f] [] w M (fun v w' M' => zF d x_La_law 265 [l0, l1, l2, l3] (v.toList ++ st) w' M' Q)) := zG_callO [zi f, zi e, zi c, zi b, zi a] (.inl rfl) (zh_La_law 262 rfl) rfl rfl rfl (by rw [zm_We_feed]; rfl) (by rw [zm_We_feed]; rfl) rfl
theorem f_La_law_265 : zF d x_La_law 265 [l0, l1, zr k, l3] st w M Q ↔ zF d x_La_law 266 [l0, l1, zr k, l3] (zr k :: st) w M Q := zG_loc (zh_La_law 265 rfl) rfl rfl rfl
theorem f_La_law_266 : zF d x_La_law 266 [zr k, l1, l2, l3] st w M Q ↔ zF d x_La_law 267 [zr k, l1, l2, l3] (zr k :: st) w M Q := zG_loc (zh_La_law 266 rfl) rfl rfl rfl
theorem f_La_law_267 : zF d x_La_law 267 [l0, l1, l2, zi a] st w M Q ↔ zF d x_La_law 268 [l0, l1, l2, zi a] (zi a :: st) w M Q := zG_loc (zh_La_law 267 rfl) rfl rfl rfl
theorem f_La_law_268 : zF d x_La_law 268 [l0, l1, l2, l3] st w M Q ↔ zF d x_La_law 269 [l0, l1, l2, l3] (zi (1) :: st) w M Q := zG_stk (zh_La_law 268 rfl) rfl rfl
theorem f_La_law_269 : zF d x_La_law 269 [l0, l1, l2, l3] (zi b :: zi a :: st) w M Q ↔ zF d x_La_law 270 [l0, l1, l2, l3] (zi (a + b) :: st) w M Q := zG_stk (zh_La_law 269 rfl) rfl rfl
theorem f_La_law_270 : zF d x_La_law 270 [l0, l1, l2, l3] (zi a :: zr k :: st) w M Q ↔ (zA w k 0 (z32 a) ∧ zF d x_La_law 271 [l0, l1, l2, l3] (zi (M k (z32 a).toNat) :: st) w M Q) := zG_iald (zh_La_law 270 rfl) rfl
theorem f_La_law_271 : zF d x_La_law 271 [zr k, l1, l2, l3] st w M Q ↔ zF d x_La_law 272 [zr k, l1, l2, l3] (zr k :: st) w M Q := zG_loc (zh_La_law 271 rfl) rfl rfl rfl
theorem f_La_law_272 : zF d x_La_law 272 [l0, l1, l2, zi a] st w M Q ↔ zF d x_La_law 273 [l0, l1, l2, zi a] (zi a :: st) w M Q := zG_loc (zh_La_law 272 rfl) rfl rfl rfl
theorem f_La_law_273 : zF d x_La_law 273 [l0, l1, l2, l3] st w M Q ↔ zF d x_La_law 274 [l0, l1, l2, l3] (zi (2) :: st) w M Q := zG_stk (zh_La_law 273 rfl) rfl rfl
theorem f_La_law_274 : zF d x_La_law 274 [l0, l1, l2, l3] (zi b :: zi a :: st) w M Q ↔ zF d x_La_law 275 [l0, l1, l2, l3] (zi (a + b) :: st) w M Q := zG_stk (zh_La_law 274 rfl) rfl rfl
theorem f_La_law_275 : zF d x_La_law 275 [l0, l1, l2, l3] (zi a :: zr k :: st) w M Q ↔ (zA w k 0 (z32 a) ∧ zF d x_La_law 276 [l0, l1, l2, l3] (zi (M k (z32 a).toNat) :: st) w M Q) := zG_iald (zh_La_law 275 rfl) rfl
theorem f_La_law_276 : zF d x_La_law 276 [zr k, l1, l2, l3] st w M Q ↔ zF d x_La_law 277 [zr k, l1, l2, l3] (zr k :: st) w M Q := zG_loc (zh_La_law 276 rfl) rfl rfl rfl
theorem f_La_law_277 : zF d x_La_law 277 [l0, l1, l2, zi a] st w M Q ↔ zF d x_La_law 278 [l0, l1, l2, zi a] (zi a :: st) w M Q := zG_loc (zh_La_law 277 rfl) rfl rfl rfl
theorem f_La_law_278 : zF d x_La_law 278 [l0, l1, l2, l3] st w M Q ↔ zF d x_La_law 279 [l0, l1, l2, l3] (zi (3) :: st) w M Q := zG_stk (zh_La_law 278 rfl) rfl rfl
theorem f_La_law_279 : zF d x_La_law 279 [l0, l1, l2, l3] (zi b :: zi a :: st) w M Q ↔ zF d x_La_law 280 [l0, l1, l2, l3] (zi (a + b) :: st) w M Q := zG_stk (zh_La_law 279 rfl) rfl rfl
theorem f_La_law_280 : zF d x_La_law 280 [l0, l1, l2, l3] (zi a :: zr k :: st) w M Q ↔ (zA w k 0 (z32 a) ∧ zF d x_La_law 281 [l0, l1, l2, l3] (zi (M k (z32 a).toNat) :: st) w M Q) := zG_iald (zh_La_law 280 rfl) rfl
theorem f_La_law_281 : zF d x_La_law 281 [zr k, l1, l2, l3] st w M Q ↔ zF d x_La_law 282 [zr k, l1, l2, l3] (zr k :: st) w M Q := zG_loc (zh_La_law 281 rfl) rfl rfl rfl
theorem f_La_law_282 : zF d x_La_law 282 [l0, l1, l2, zi a] st w M Q ↔ zF d x_La_law 283 [l0, l1, l2, zi a] (zi a :: st) w M Q := zG_loc (zh_La_law 282 rfl) rfl rfl rfl
theorem f_La_law_283 : zF d x_La_law 283 [l0, l1, l2, l3] st w M Q ↔ zF d x_La_law 284 [l0, l1, l2, l3] (zi (4) :: st) w M Q := zG_stk (zh_La_law 283 rfl) rfl rfl
theorem f_La_law_284 : zF d x_La_law 284 [l0, l1, l2, l3] (zi b :: zi a :: st) w M Q ↔ zF d x_La_law 285 [l0, l1, l2, l3] (zi (a + b) :: st) w M Q := zG_stk (zh_La_law 284 rfl) rfl rfl
theorem f_La_law_285 : zF d x_La_law 285 [l0, l1, l2, l3] (zi a :: zr k :: st) w M Q ↔ (zA w k 0 (z32 a) ∧ zF d x_La_law 286 [l0, l1, l2, l3] (zi (M k (z32 a).toNat) :: st) w M Q) := zG_iald (zh_La_law 285 rfl) rfl
theorem f_La_law_286 : zF d x_La_law 286 [zr k, l1, l2, l3] st w M Q ↔ zF d x_La_law 287 [zr k, l1, l2, l3] (zr k :: st) w M Q := zG_loc (zh_La_law 286 rfl) rfl rfl rfl
theorem f_La_law_287 : zF d x_La_law 287 [l0, l1, l2, zi a] st w M Q ↔ zF d x_La_law 288 [l0, l1, l2, zi a] (zi a :: st) w M Q := zG_loc (zh_La_law 287 rfl) rfl rfl rfl
theorem f_La_law_288 : zF d x_La_law 288 [l0, l1, l2, l3] st w M Q ↔ zF d x_La_law 289 [l0, l1, l2, l3] (zi (5) :: st) w M Q := zG_stk (zh_La_law 288 rfl) rfl rfl
theorem f_La_law_289 : zF d x_La_law 289 [l0, l1, l2, l3] (zi b :: zi a :: st) w M Q ↔ zF d x_La_law 290 [l0, l1, l2, l3] (zi (a + b) :: st) w M Q := zG_stk (zh_La_law 289 rfl) rfl rfl
theorem f_La_law_290 : zF d x_La_law 290 [l0, l1, l2, l3] (zi a :: zr k :: st) w M Q ↔ (zA w k 0 (z32 a) ∧ zF d x_La_law 291 [l0, l1, l2, l3] (zi (M k (z32 a).toNat) :: st) w M Q) := zG_iald (zh_La_law 290 rfl) rfl
theorem f_La_law_291 : zF d x_La_law 291 [l0, l1, l2, l3] (zi f :: zi e :: zi c :: zi b :: zi a :: zr k :: st) w M Q ↔ (0 < d ∧ zwd st ≤ 8 ∧ ((zsh w k).1 = 0 ∧ (zsh w k).2.1 = 11) ∧ zF (d - 1) x_Mo_feed 0 [zr k, zi a, zi b, zi c, zi e, zi f, zt, zt] [] w M (fun v w' M' => zF d x_La_law 294 [l0, l1, l2, l3] (v.toList ++ st) w' M' Q)) := zG_callO [zi f, zi e, zi c, zi b, zi a] (.inl rfl) (zh_La_law 291 rfl) rfl rfl rfl (by rw [zm_Mo_feed]; rfl) (by rw [zm_Mo_feed]; rfl) rfl
theorem f_La_law_294 : zF d x_La_law 294 [l0, l1, l2, l3] (zi b :: zi a :: st) w M Q ↔ (if z32 a = z32 b then zF d x_La_law 1879 [l0, l1, l2, l3] st w M Q else zF d x_La_law 297 [l0, l1, l2, l3] st w M Q) := zG_ifP (zh_La_law 294 rfl) rfl rfl rfl decide_eq_true_iff
theorem f_La_law_297 : zF d x_La_law 297 [l0, l1, l2, l3] st w M Q ↔ zF d x_La_law 298 [l0, l1, l2, l3] (zi (0) :: st) w M Q := zG_stk (zh_La_law 297 rfl) rfl rfl
theorem f_La_law_298 : zF d x_La_law 298 [l0, l1, l2, l3] [zi a] w M Q ↔ ((a = 0 ∨ a = 1) ∧ Q (some (zi a)) w M) := zG_prR (zh_La_law 298 rfl) zb_La_law
theorem f_La_law_299 : zF d x_La_law 299 [l0, zr k, l2, l3] st w M Q ↔ zF d x_La_law 300 [l0, zr k, l2, l3] (zr k :: st) w M Q := zG_loc (zh_La_law 299 rfl) rfl rfl rfl
theorem f_La_law_300 : zF d x_La_law 300 [zr k, l1, l2, l3] st w M Q ↔ zF d x_La_law 301 [zr k, l1, l2, l3] (zr k :: st) w M Q := zG_loc (zh_La_law 300 rfl) rfl rfl rfl
theorem f_La_law_301 : zF d x_La_law 301 [l0, l1, l2, zi a] st w M Q ↔ zF d x_La_law 302 [l0, l1, l2, zi a] (zi a :: st) w M Q := zG_loc (zh_La_law 301 rfl) rfl rfl rfl
theorem f_La_law_302 : zF d x_La_law 302 [l0, l1, l2, l3] st w M Q ↔ zF d x_La_law 303 [l0, l1, l2, l3] (zi (1) :: st) w M Q := zG_stk (zh_La_law 302 rfl) rfl rfl
theorem f_La_law_303 : zF d x_La_law 303 [l0, l1, l2, l3] (zi b :: zi a :: st) w M Q ↔ zF d x_La_law 304 [l0, l1, l2, l3] (zi (a + b) :: st) w M Q := zG_stk (zh_La_law 303 rfl) rfl rfl
theorem f_La_law_304 : zF d x_La_law 304 [l0, l1, l2, l3] (zi a :: zr k :: st) w M Q ↔ (zA w k 0 (z32 a) ∧ zF d x_La_law 305 [l0, l1, l2, l3] (zi (M k (z32 a).toNat) :: st) w M Q) := zG_iald (zh_La_law 304 rfl) rfl
theorem f_La_law_305 : zF d x_La_law 305 [l0, l1, l2, l3] (zi a :: zr k :: st) w M Q ↔ (0 < d ∧ zwd st ≤ 8 ∧ ((zsh w k).1 = 0 ∧ (zsh w k).2.1 = 10) ∧ zF (d - 1) x_We_end 0 [zr k, zi a] [] w M (fun v w' M' => zF d x_La_law 308 [l0, l1, l2, l3] (v.toList ++ st) w' M' Q)) := zG_callO [zi a] (.inl rfl) (zh_La_law 305 rfl) rfl rfl rfl (by rw [zm_We_end]; rfl) (by rw [zm_We_end]; rfl) rfl
theorem f_La_law_308 : zF d x_La_law 308 [l0, l1, zr k, l3] st w M Q ↔ zF d x_La_law 309 [l0, l1, zr k, l3] (zr k :: st) w M Q := zG_loc (zh_La_law 308 rfl) rfl rfl rfl
theorem f_La_law_309 : zF d x_La_law 309 [zr k, l1, l2, l3] st w M Q ↔ zF d x_La_law 310 [zr k, l1, l2, l3] (zr k :: st) w M Q := zG_loc (zh_La_law 309 rfl) rfl rfl rfl
theorem f_La_law_310 : zF d x_La_law 310 [l0, l1, l2, zi a] st w M Q ↔ zF d x_La_law 311 [l0, l1, l2, zi a] (zi a :: st) w M Q := zG_loc (zh_La_law 310 rfl) rfl rfl rfl
theorem f_La_law_311 : zF d x_La_law 311 [l0, l1, l2, l3] st w M Q ↔ zF d x_La_law 312 [l0, l1, l2, l3] (zi (1) :: st) w M Q := zG_stk (zh_La_law 311 rfl) rfl rfl
theorem f_La_law_312 : zF d x_La_law 312 [l0, l1, l2, l3] (zi b :: zi a :: st) w M Q ↔ zF d x_La_law 313 [l0, l1, l2, l3] (zi (a + b) :: st) w M Q := zG_stk (zh_La_law 312 rfl) rfl rfl
theorem f_La_law_313 : zF d x_La_law 313 [l0, l1, l2, l3] (zi a :: zr k :: st) w M Q ↔ (zA w k 0 (z32 a) ∧ zF d x_La_law 314 [l0, l1, l2, l3] (zi (M k (z32 a).toNat) :: st) w M Q) := zG_iald (zh_La_law 313 rfl) rfl
theorem f_La_law_314 : zF d x_La_law 314 [l0, l1, l2, l3] (zi a :: zr k :: st) w M Q ↔ (0 < d ∧ zwd st ≤ 8 ∧ ((zsh w k).1 = 0 ∧ (zsh w k).2.1 = 11) ∧ zF (d - 1) x_Mo_end 0 [zr k, zi a] [] w M (fun v w' M' => zF d x_La_law 317 [l0, l1, l2, l3] (v.toList ++ st) w' M' Q)) := zG_callO [zi a] (.inl rfl) (zh_La_law 314 rfl) rfl rfl rfl (by rw [zm_Mo_end]; rfl) (by rw [zm_Mo_end]; rfl) rfl
theorem f_La_law_317 : zF d x_La_law 317 [l0, l1, l2, l3] (zi b :: zi a :: st) w M Q ↔ (if z32 a = z32 b then zF d x_La_law 1879 [l0, l1, l2, l3] st w M Q else zF d x_La_law 320 [l0, l1, l2, l3] st w M Q) := zG_ifP (zh_La_law 317 rfl) rfl rfl rfl decide_eq_true_iff
theorem f_La_law_320 : zF d x_La_law 320 [l0, l1, l2, l3] st w M Q ↔ zF d x_La_law 321 [l0, l1, l2, l3] (zi (0) :: st) w M Q := zG_stk (zh_La_law 320 rfl) rfl rfl
theorem f_La_law_321 : zF d x_La_law 321 [l0, l1, l2, l3] [zi a] w M Q ↔ ((a = 0 ∨ a = 1) ∧ Q (some (zi a)) w M) := zG_prR (zh_La_law 321 rfl) zb_La_law
theorem f_La_law_322 : zF d x_La_law 322 [l0, zr k, l2, l3] st w M Q ↔ zF d x_La_law 323 [l0, zr k, l2, l3] (zr k :: st) w M Q := zG_loc (zh_La_law 322 rfl) rfl rfl rfl
theorem f_La_law_323 : zF d x_La_law 323 [l0, l1, l2, l3] (zr k :: st) w M Q ↔ (0 < d ∧ zwd st ≤ 8 ∧ ((zsh w k).1 = 0 ∧ (zsh w k).2.1 = 10) ∧ zF (d - 1) x_We_stack 0 [zr k, zt, zt] [] w M (fun v w' M' => zF d x_La_law 326 [l0, l1, l2, l3] (v.toList ++ st) w' M' Q)) := zG_callO [] (.inl rfl) (zh_La_law 323 rfl) rfl rfl rfl (by rw [zm_We_stack]; rfl) (by rw [zm_We_stack]; rfl) rfl
theorem f_La_law_326 : zF d x_La_law 326 [l0, l1, zr k, l3] st w M Q ↔ zF d x_La_law 327 [l0, l1, zr k, l3] (zr k :: st) w M Q := zG_loc (zh_La_law 326 rfl) rfl rfl rfl
theorem f_La_law_327 : zF d x_La_law 327 [l0, l1, l2, l3] (zr k :: st) w M Q ↔ (0 < d ∧ zwd st ≤ 8 ∧ ((zsh w k).1 = 0 ∧ (zsh w k).2.1 = 11) ∧ zF (d - 1) x_Mo_stack 0 [zr k, zt] [] w M (fun v w' M' => zF d x_La_law 330 [l0, l1, l2, l3] (v.toList ++ st) w' M' Q)) := zG_callO [] (.inl rfl) (zh_La_law 327 rfl) rfl rfl rfl (by rw [zm_Mo_stack]; rfl) (by rw [zm_Mo_stack]; rfl) rfl
theorem f_La_law_330 : zF d x_La_law 330 [l0, l1, l2, l3] (zi b :: zi a :: st) w M Q ↔ (if z32 a = z32 b then zF d x_La_law 1879 [l0, l1, l2, l3] st w M Q else zF d x_La_law 333 [l0, l1, l2, l3] st w M Q) := zG_ifP (zh_La_law 330 rfl) rfl rfl rfl decide_eq_true_iff
theorem f_La_law_333 : zF d x_La_law 333 [l0, l1, l2, l3] st w M Q ↔ zF d x_La_law 334 [l0, l1, l2, l3] (zi (0) :: st) w M Q := zG_stk (zh_La_law 333 rfl) rfl rfl
theorem f_La_law_334 : zF d x_La_law 334 [l0, l1, l2, l3] [zi a] w M Q ↔ ((a = 0 ∨ a = 1) ∧ Q (some (zi a)) w M) := zG_prR (zh_La_law 334 rfl) zb_La_law
theorem f_La_law_335 : zF d x_La_law 335 [l0, zr k, l2, l3] st w M Q ↔ zF d x_La_law 336 [l0, zr k, l2, l3] (zr k :: st) w M Q := zG_loc (zh_La_law 335 rfl) rfl rfl rfl
theorem f_La_law_336 : zF d x_La_law 336 [zr k, l1, l2, l3] st w M Q ↔ zF d x_La_law 337 [zr k, l1, l2, l3] (zr k :: st) w M Q := zG_loc (zh_La_law 336 rfl) rfl rfl rfl
theorem f_La_law_337 : zF d x_La_law 337 [l0, l1, l2, zi a] st w M Q ↔ zF d x_La_law 338 [l0, l1, l2, zi a] (zi a :: st) w M Q := zG_loc (zh_La_law 337 rfl) rfl rfl rfl
theorem f_La_law_338 : zF d x_La_law 338 [l0, l1, l2, l3] st w M Q ↔ zF d x_La_law 339 [l0, l1, l2, l3] (zi (1) :: st) w M Q := zG_stk (zh_La_law 338 rfl) rfl rfl
theorem f_La_law_339 : zF d x_La_law 339 [l0, l1, l2, l3] (zi b :: zi a :: st) w M Q ↔ zF d x_La_law 340 [l0, l1, l2, l3] (zi (a + b) :: st) w M Q := zG_stk (zh_La_law 339 rfl) rfl rfl
theorem f_La_law_340 : zF d x_La_law 340 [l0, l1, l2, l3] (zi a :: zr k :: st) w M Q ↔ (zA w k 0 (z32 a) ∧ zF d x_La_law 341 [l0, l1, l2, l3] (zi (M k (z32 a).toNat) :: st) w M Q) := zG_iald (zh_La_law 340 rfl) rfl
theorem f_La_law_341 : zF d x_La_law 341 [l0, l1, l2, l3] (zi a :: zr k :: st) w M Q ↔ (0 < d ∧ zwd st ≤ 8 ∧ ((zsh w k).1 = 0 ∧ (zsh w k).2.1 = 10) ∧ zF (d - 1) x_We_fault 0 [zr k, zi a] [] w M (fun v w' M' => zF d x_La_law 344 [l0, l1, l2, l3] (v.toList ++ st) w' M' Q)) := zG_callO [zi a] (.inl rfl) (zh_La_law 341 rfl) rfl rfl rfl (by rw [zm_We_fault]; rfl) (by rw [zm_We_fault]; rfl) rfl
theorem f_La_law_344 : zF d x_La_law 344 [l0, l1, zr k, l3] st w M Q ↔ zF d x_La_law 345 [l0, l1, zr k, l3] (zr k :: st) w M Q := zG_loc (zh_La_law 344 rfl) rfl rfl rfl
theorem f_La_law_345 : zF d x_La_law 345 [zr k, l1, l2, l3] st w M Q ↔ zF d x_La_law 346 [zr k, l1, l2, l3] (zr k :: st) w M Q := zG_loc (zh_La_law 345 rfl) rfl rfl rfl
theorem f_La_law_346 : zF d x_La_law 346 [l0, l1, l2, zi a] st w M Q ↔ zF d x_La_law 347 [l0, l1, l2, zi a] (zi a :: st) w M Q := zG_loc (zh_La_law 346 rfl) rfl rfl rfl
theorem f_La_law_347 : zF d x_La_law 347 [l0, l1, l2, l3] st w M Q ↔ zF d x_La_law 348 [l0, l1, l2, l3] (zi (1) :: st) w M Q := zG_stk (zh_La_law 347 rfl) rfl rfl
theorem f_La_law_348 : zF d x_La_law 348 [l0, l1, l2, l3] (zi b :: zi a :: st) w M Q ↔ zF d x_La_law 349 [l0, l1, l2, l3] (zi (a + b) :: st) w M Q := zG_stk (zh_La_law 348 rfl) rfl rfl
theorem f_La_law_349 : zF d x_La_law 349 [l0, l1, l2, l3] (zi a :: zr k :: st) w M Q ↔ (zA w k 0 (z32 a) ∧ zF d x_La_law 350 [l0, l1, l2, l3] (zi (M k (z32 a).toNat) :: st) w M Q) := zG_iald (zh_La_law 349 rfl) rfl
theorem f_La_law_350 : zF d x_La_law 350 [l0, l1, l2, l3] (zi a :: zr k :: st) w M Q ↔ (0 < d ∧ zwd st ≤ 8 ∧ ((zsh w k).1 = 0 ∧ (zsh w k).2.1 = 11) ∧ zF (d - 1) x_Mo_fault 0 [zr k, zi a] [] w M (fun v w' M' => zF d x_La_law 353 [l0, l1, l2, l3] (v.toList ++ st) w' M' Q)) := zG_callO [zi a] (.inl rfl) (zh_La_law 350 rfl) rfl rfl rfl (by rw [zm_Mo_fault]; rfl) (by rw [zm_Mo_fault]; rfl) rfl
theorem f_La_law_353 : zF d x_La_law 353 [l0, l1, l2, l3] (zi b :: zi a :: st) w M Q ↔ (if z32 a = z32 b then zF d x_La_law 1879 [l0, l1, l2, l3] st w M Q else zF d x_La_law 356 [l0, l1, l2, l3] st w M Q) := zG_ifP (zh_La_law 353 rfl) rfl rfl rfl decide_eq_true_iff
theorem f_La_law_356 : zF d x_La_law 356 [l0, l1, l2, l3] st w M Q ↔ zF d x_La_law 357 [l0, l1, l2, l3] (zi (0) :: st) w M Q := zG_stk (zh_La_law 356 rfl) rfl rfl
theorem f_La_law_357 : zF d x_La_law 357 [l0, l1, l2, l3] [zi a] w M Q ↔ ((a = 0 ∨ a = 1) ∧ Q (some (zi a)) w M) := zG_prR (zh_La_law 357 rfl) zb_La_law
set_option maxRecDepth 100000 in
theorem f_La_law_358 : zF d x_La_law 358 [l0, zr k, l2, l3] st w M Q ↔ zF d x_La_law 359 [l0, zr k, l2, l3] (zr k :: st) w M Q := zG_loc (zh_La_law 358 rfl) rfl rfl rfl
set_option maxRecDepth 100000 in
theorem f_La_law_359 : zF d x_La_law 359 [zr k, l1, l2, l3] st w M Q ↔ zF d x_La_law 360 [zr k, l1, l2, l3] (zr k :: st) w M Q := zG_loc (zh_La_law 359 rfl) rfl rfl rfl
set_option maxRecDepth 100000 in
theorem f_La_law_360 : zF d x_La_law 360 [l0, l1, l2, zi a] st w M Q ↔ zF d x_La_law 361 [l0, l1, l2, zi a] (zi a :: st) w M Q := zG_loc (zh_La_law 360 rfl) rfl rfl rfl
set_option maxRecDepth 100000 in
theorem f_La_law_361 : zF d x_La_law 361 [l0, l1, l2, l3] st w M Q ↔ zF d x_La_law 362 [l0, l1, l2, l3] (zi (1) :: st) w M Q := zG_stk (zh_La_law 361 rfl) rfl rfl
set_option maxRecDepth 100000 in
theorem f_La_law_362 : zF d x_La_law 362 [l0, l1, l2, l3] (zi b :: zi a :: st) w M Q ↔ zF d x_La_law 363 [l0, l1, l2, l3] (zi (a + b) :: st) w M Q := zG_stk (zh_La_law 362 rfl) rfl rfl
set_option maxRecDepth 100000 in
theorem f_La_law_363 : zF d x_La_law 363 [l0, l1, l2, l3] (zi a :: zr k :: st) w M Q ↔ (zA w k 0 (z32 a) ∧ zF d x_La_law 364 [l0, l1, l2, l3] (zi (M k (z32 a).toNat) :: st) w M Q) := zG_iald (zh_La_law 363 rfl) rfl
set_option maxRecDepth 100000 in
theorem f_La_law_364 : zF d x_La_law 364 [zr k, l1, l2, l3] st w M Q ↔ zF d x_La_law 365 [zr k, l1, l2, l3] (zr k :: st) w M Q := zG_loc (zh_La_law 364 rfl) rfl rfl rfl
set_option maxRecDepth 100000 in
theorem f_La_law_365 : zF d x_La_law 365 [l0, l1, l2, zi a] st w M Q ↔ zF d x_La_law 366 [l0, l1, l2, zi a] (zi a :: st) w M Q := zG_loc (zh_La_law 365 rfl) rfl rfl rfl
set_option maxRecDepth 100000 in
theorem f_La_law_366 : zF d x_La_law 366 [l0, l1, l2, l3] st w M Q ↔ zF d x_La_law 367 [l0, l1, l2, l3] (zi (2) :: st) w M Q := zG_stk (zh_La_law 366 rfl) rfl rfl
set_option maxRecDepth 100000 in
theorem f_La_law_367 : zF d x_La_law 367 [l0, l1, l2, l3] (zi b :: zi a :: st) w M Q ↔ zF d x_La_law 368 [l0, l1, l2, l3] (zi (a + b) :: st) w M Q := zG_stk (zh_La_law 367 rfl) rfl rfl
set_option maxRecDepth 100000 in
theorem f_La_law_368 : zF d x_La_law 368 [l0, l1, l2, l3] (zi a :: zr k :: st) w M Q ↔ (zA w k 0 (z32 a) ∧ zF d x_La_law 369 [l0, l1, l2, l3] (zi (M k (z32 a).toNat) :: st) w M Q) := zG_iald (zh_La_law 368 rfl) rfl
set_option maxRecDepth 100000 in
theorem f_La_law_369 : zF d x_La_law 369 [zr k, l1, l2, l3] st w M Q ↔ zF d x_La_law 370 [zr k, l1, l2, l3] (zr k :: st) w M Q := zG_loc (zh_La_law 369 rfl) rfl rfl rfl
set_option maxRecDepth 100000 in
theorem f_La_law_370 : zF d x_La_law 370 [l0, l1, l2, zi a] st w M Q ↔ zF d x_La_law 371 [l0, l1, l2, zi a] (zi a :: st) w M Q := zG_loc (zh_La_law 370 rfl) rfl rfl rfl
set_option maxRecDepth 100000 in
theorem f_La_law_371 : zF d x_La_law 371 [l0, l1, l2, l3] st w M Q ↔ zF d x_La_law 372 [l0, l1, l2, l3] (zi (3) :: st) w M Q := zG_stk (zh_La_law 371 rfl) rfl rfl
set_option maxRecDepth 100000 in
theorem f_La_law_372 : zF d x_La_law 372 [l0, l1, l2, l3] (zi b :: zi a :: st) w M Q ↔ zF d x_La_law 373 [l0, l1, l2, l3] (zi (a + b) :: st) w M Q := zG_stk (zh_La_law 372 rfl) rfl rfl
set_option maxRecDepth 100000 in
theorem f_La_law_373 : zF d x_La_law 373 [l0, l1, l2, l3] (zi a :: zr k :: st) w M Q ↔ (zA w k 0 (z32 a) ∧ zF d x_La_law 374 [l0, l1, l2, l3] (zi (M k (z32 a).toNat) :: st) w M Q) := zG_iald (zh_La_law 373 rfl) rfl
set_option maxRecDepth 100000 in
theorem f_La_law_374 : zF d x_La_law 374 [l0, l1, l2, l3] (zi c :: zi b :: zi a :: zr k :: st) w M Q ↔ (0 < d ∧ zwd st ≤ 8 ∧ ((zsh w k).1 = 0 ∧ (zsh w k).2.1 = 10) ∧ zF (d - 1) x_We_press 0 [zr k, zi a, zi b, zi c] [] w M (fun v w' M' => zF d x_La_law 377 [l0, l1, l2, l3] (v.toList ++ st) w' M' Q)) := zG_callO [zi c, zi b, zi a] (.inl rfl) (zh_La_law 374 rfl) rfl rfl rfl (by rw [zm_We_press]; rfl) (by rw [zm_We_press]; rfl) rfl
set_option maxRecDepth 100000 in
theorem f_La_law_377 : zF d x_La_law 377 [l0, l1, zr k, l3] st w M Q ↔ zF d x_La_law 378 [l0, l1, zr k, l3] (zr k :: st) w M Q := zG_loc (zh_La_law 377 rfl) rfl rfl rfl
set_option maxRecDepth 100000 in
theorem f_La_law_378 : zF d x_La_law 378 [zr k, l1, l2, l3] st w M Q ↔ zF d x_La_law 379 [zr k, l1, l2, l3] (zr k :: st) w M Q := zG_loc (zh_La_law 378 rfl) rfl rfl rfl
set_option maxRecDepth 100000 in
theorem f_La_law_379 : zF d x_La_law 379 [l0, l1, l2, zi a] st w M Q ↔ zF d x_La_law 380 [l0, l1, l2, zi a] (zi a :: st) w M Q := zG_loc (zh_La_law 379 rfl) rfl rfl rfl
set_option maxRecDepth 100000 in
theorem f_La_law_380 : zF d x_La_law 380 [l0, l1, l2, l3] st w M Q ↔ zF d x_La_law 381 [l0, l1, l2, l3] (zi (1) :: st) w M Q := zG_stk (zh_La_law 380 rfl) rfl rfl
set_option maxRecDepth 100000 in
theorem f_La_law_381 : zF d x_La_law 381 [l0, l1, l2, l3] (zi b :: zi a :: st) w M Q ↔ zF d x_La_law 382 [l0, l1, l2, l3] (zi (a + b) :: st) w M Q := zG_stk (zh_La_law 381 rfl) rfl rfl
set_option maxRecDepth 100000 in
theorem f_La_law_382 : zF d x_La_law 382 [l0, l1, l2, l3] (zi a :: zr k :: st) w M Q ↔ (zA w k 0 (z32 a) ∧ zF d x_La_law 383 [l0, l1, l2, l3] (zi (M k (z32 a).toNat) :: st) w M Q) := zG_iald (zh_La_law 382 rfl) rfl
set_option maxRecDepth 100000 in
theorem f_La_law_383 : zF d x_La_law 383 [zr k, l1, l2, l3] st w M Q ↔ zF d x_La_law 384 [zr k, l1, l2, l3] (zr k :: st) w M Q := zG_loc (zh_La_law 383 rfl) rfl rfl rfl
set_option maxRecDepth 100000 in
theorem f_La_law_384 : zF d x_La_law 384 [l0, l1, l2, zi a] st w M Q ↔ zF d x_La_law 385 [l0, l1, l2, zi a] (zi a :: st) w M Q := zG_loc (zh_La_law 384 rfl) rfl rfl rfl
set_option maxRecDepth 100000 in
theorem f_La_law_385 : zF d x_La_law 385 [l0, l1, l2, l3] st w M Q ↔ zF d x_La_law 386 [l0, l1, l2, l3] (zi (2) :: st) w M Q := zG_stk (zh_La_law 385 rfl) rfl rfl
set_option maxRecDepth 100000 in
theorem f_La_law_386 : zF d x_La_law 386 [l0, l1, l2, l3] (zi b :: zi a :: st) w M Q ↔ zF d x_La_law 387 [l0, l1, l2, l3] (zi (a + b) :: st) w M Q := zG_stk (zh_La_law 386 rfl) rfl rfl
set_option maxRecDepth 100000 in
theorem f_La_law_387 : zF d x_La_law 387 [l0, l1, l2, l3] (zi a :: zr k :: st) w M Q ↔ (zA w k 0 (z32 a) ∧ zF d x_La_law 388 [l0, l1, l2, l3] (zi (M k (z32 a).toNat) :: st) w M Q) := zG_iald (zh_La_law 387 rfl) rfl
set_option maxRecDepth 100000 in
theorem f_La_law_388 : zF d x_La_law 388 [zr k, l1, l2, l3] st w M Q ↔ zF d x_La_law 389 [zr k, l1, l2, l3] (zr k :: st) w M Q := zG_loc (zh_La_law 388 rfl) rfl rfl rfl
set_option maxRecDepth 100000 in
theorem f_La_law_389 : zF d x_La_law 389 [l0, l1, l2, zi a] st w M Q ↔ zF d x_La_law 390 [l0, l1, l2, zi a] (zi a :: st) w M Q := zG_loc (zh_La_law 389 rfl) rfl rfl rfl
set_option maxRecDepth 100000 in
theorem f_La_law_390 : zF d x_La_law 390 [l0, l1, l2, l3] st w M Q ↔ zF d x_La_law 391 [l0, l1, l2, l3] (zi (3) :: st) w M Q := zG_stk (zh_La_law 390 rfl) rfl rfl
set_option maxRecDepth 100000 in
theorem f_La_law_391 : zF d x_La_law 391 [l0, l1, l2, l3] (zi b :: zi a :: st) w M Q ↔ zF d x_La_law 392 [l0, l1, l2, l3] (zi (a + b) :: st) w M Q := zG_stk (zh_La_law 391 rfl) rfl rfl
set_option maxRecDepth 100000 in
theorem f_La_law_392 : zF d x_La_law 392 [l0, l1, l2, l3] (zi a :: zr k :: st) w M Q ↔ (zA w k 0 (z32 a) ∧ zF d x_La_law 393 [l0, l1, l2, l3] (zi (M k (z32 a).toNat) :: st) w M Q) := zG_iald (zh_La_law 392 rfl) rfl
set_option maxRecDepth 100000 in
theorem f_La_law_393 : zF d x_La_law 393 [l0, l1, l2, l3] (zi c :: zi b :: zi a :: zr k :: st) w M Q ↔ (0 < d ∧ zwd st ≤ 8 ∧ ((zsh w k).1 = 0 ∧ (zsh w k).2.1 = 11) ∧ zF (d - 1) x_Mo_press 0 [zr k, zi a, zi b, zi c] [] w M (fun v w' M' => zF d x_La_law 396 [l0, l1, l2, l3] (v.toList ++ st) w' M' Q)) := zG_callO [zi c, zi b, zi a] (.inl rfl) (zh_La_law 393 rfl) rfl rfl rfl (by rw [zm_Mo_press]; rfl) (by rw [zm_Mo_press]; rfl) rfl
set_option maxRecDepth 100000 in
theorem f_La_law_396 : zF d x_La_law 396 [l0, l1, l2, l3] (zl b :: zl a :: st) w M Q ↔ zF d x_La_law 397 [l0, l1, l2, l3] (zi (zlcmp a b) :: st) w M Q := zG_stk (zh_La_law 396 rfl) rfl rfl
set_option maxRecDepth 100000 in
theorem f_La_law_397 : zF d x_La_law 397 [l0, l1, l2, l3] (zi a :: st) w M Q ↔ (if z32 a = 0 then zF d x_La_law 1879 [l0, l1, l2, l3] st w M Q else zF d x_La_law 400 [l0, l1, l2, l3] st w M Q) := zG_ifP (zh_La_law 397 rfl) rfl rfl rfl decide_eq_true_iff
set_option maxRecDepth 100000 in
theorem f_La_law_400 : zF d x_La_law 400 [l0, l1, l2, l3] st w M Q ↔ zF d x_La_law 401 [l0, l1, l2, l3] (zi (0) :: st) w M Q := zG_stk (zh_La_law 400 rfl) rfl rfl
set_option maxRecDepth 100000 in
theorem f_La_law_401 : zF d x_La_law 401 [l0, l1, l2, l3] [zi a] w M Q ↔ ((a = 0 ∨ a = 1) ∧ Q (some (zi a)) w M) := zG_prR (zh_La_law 401 rfl) zb_La_law
set_option maxRecDepth 100000 in
theorem f_La_law_402 : zF d x_La_law 402 [l0, zr k, l2, l3] st w M Q ↔ zF d x_La_law 403 [l0, zr k, l2, l3] (zr k :: st) w M Q := zG_loc (zh_La_law 402 rfl) rfl rfl rfl
set_option maxRecDepth 100000 in
theorem f_La_law_403 : zF d x_La_law 403 [zr k, l1, l2, l3] st w M Q ↔ zF d x_La_law 404 [zr k, l1, l2, l3] (zr k :: st) w M Q := zG_loc (zh_La_law 403 rfl) rfl rfl rfl
set_option maxRecDepth 100000 in
theorem f_La_law_404 : zF d x_La_law 404 [l0, l1, l2, zi a] st w M Q ↔ zF d x_La_law 405 [l0, l1, l2, zi a] (zi a :: st) w M Q := zG_loc (zh_La_law 404 rfl) rfl rfl rfl
set_option maxRecDepth 100000 in
theorem f_La_law_405 : zF d x_La_law 405 [l0, l1, l2, l3] st w M Q ↔ zF d x_La_law 406 [l0, l1, l2, l3] (zi (1) :: st) w M Q := zG_stk (zh_La_law 405 rfl) rfl rfl
set_option maxRecDepth 100000 in
theorem f_La_law_406 : zF d x_La_law 406 [l0, l1, l2, l3] (zi b :: zi a :: st) w M Q ↔ zF d x_La_law 407 [l0, l1, l2, l3] (zi (a + b) :: st) w M Q := zG_stk (zh_La_law 406 rfl) rfl rfl
set_option maxRecDepth 100000 in
theorem f_La_law_407 : zF d x_La_law 407 [l0, l1, l2, l3] (zi a :: zr k :: st) w M Q ↔ (zA w k 0 (z32 a) ∧ zF d x_La_law 408 [l0, l1, l2, l3] (zi (M k (z32 a).toNat) :: st) w M Q) := zG_iald (zh_La_law 407 rfl) rfl
set_option maxRecDepth 100000 in
theorem f_La_law_408 : zF d x_La_law 408 [zr k, l1, l2, l3] st w M Q ↔ zF d x_La_law 409 [zr k, l1, l2, l3] (zr k :: st) w M Q := zG_loc (zh_La_law 408 rfl) rfl rfl rfl
set_option maxRecDepth 100000 in
theorem f_La_law_409 : zF d x_La_law 409 [l0, l1, l2, zi a] st w M Q ↔ zF d x_La_law 410 [l0, l1, l2, zi a] (zi a :: st) w M Q := zG_loc (zh_La_law 409 rfl) rfl rfl rfl
set_option maxRecDepth 100000 in
theorem f_La_law_410 : zF d x_La_law 410 [l0, l1, l2, l3] st w M Q ↔ zF d x_La_law 411 [l0, l1, l2, l3] (zi (2) :: st) w M Q := zG_stk (zh_La_law 410 rfl) rfl rfl
set_option maxRecDepth 100000 in
theorem f_La_law_411 : zF d x_La_law 411 [l0, l1, l2, l3] (zi b :: zi a :: st) w M Q ↔ zF d x_La_law 412 [l0, l1, l2, l3] (zi (a + b) :: st) w M Q := zG_stk (zh_La_law 411 rfl) rfl rfl
set_option maxRecDepth 100000 in
theorem f_La_law_412 : zF d x_La_law 412 [l0, l1, l2, l3] (zi a :: zr k :: st) w M Q ↔ (zA w k 0 (z32 a) ∧ zF d x_La_law 413 [l0, l1, l2, l3] (zi (M k (z32 a).toNat) :: st) w M Q) := zG_iald (zh_La_law 412 rfl) rfl
set_option maxRecDepth 100000 in
theorem f_La_law_413 : zF d x_La_law 413 [zr k, l1, l2, l3] st w M Q ↔ zF d x_La_law 414 [zr k, l1, l2, l3] (zr k :: st) w M Q := zG_loc (zh_La_law 413 rfl) rfl rfl rfl
set_option maxRecDepth 100000 in
theorem f_La_law_414 : zF d x_La_law 414 [l0, l1, l2, zi a] st w M Q ↔ zF d x_La_law 415 [l0, l1, l2, zi a] (zi a :: st) w M Q := zG_loc (zh_La_law 414 rfl) rfl rfl rfl
set_option maxRecDepth 100000 in
theorem f_La_law_415 : zF d x_La_law 415 [l0, l1, l2, l3] st w M Q ↔ zF d x_La_law 416 [l0, l1, l2, l3] (zi (3) :: st) w M Q := zG_stk (zh_La_law 415 rfl) rfl rfl
set_option maxRecDepth 100000 in
theorem f_La_law_416 : zF d x_La_law 416 [l0, l1, l2, l3] (zi b :: zi a :: st) w M Q ↔ zF d x_La_law 417 [l0, l1, l2, l3] (zi (a + b) :: st) w M Q := zG_stk (zh_La_law 416 rfl) rfl rfl
set_option maxRecDepth 100000 in
theorem f_La_law_417 : zF d x_La_law 417 [l0, l1, l2, l3] (zi a :: zr k :: st) w M Q ↔ (zA w k 0 (z32 a) ∧ zF d x_La_law 418 [l0, l1, l2, l3] (zi (M k (z32 a).toNat) :: st) w M Q) := zG_iald (zh_La_law 417 rfl) rfl
set_option maxRecDepth 100000 in
theorem f_La_law_418 : zF d x_La_law 418 [l0, l1, l2, l3] (zi c :: zi b :: zi a :: zr k :: st) w M Q ↔ (0 < d ∧ zwd st ≤ 8 ∧ ((zsh w k).1 = 0 ∧ (zsh w k).2.1 = 10) ∧ zF (d - 1) x_We_gap 0 [zr k, zi a, zi b, zi c] [] w M (fun v w' M' => zF d x_La_law 421 [l0, l1, l2, l3] (v.toList ++ st) w' M' Q)) := zG_callO [zi c, zi b, zi a] (.inl rfl) (zh_La_law 418 rfl) rfl rfl rfl (by rw [zm_We_gap]; rfl) (by rw [zm_We_gap]; rfl) rfl
set_option maxRecDepth 100000 in
theorem f_La_law_421 : zF d x_La_law 421 [l0, l1, zr k, l3] st w M Q ↔ zF d x_La_law 422 [l0, l1, zr k, l3] (zr k :: st) w M Q := zG_loc (zh_La_law 421 rfl) rfl rfl rfl
set_option maxRecDepth 100000 in
theorem f_La_law_422 : zF d x_La_law 422 [zr k, l1, l2, l3] st w M Q ↔ zF d x_La_law 423 [zr k, l1, l2, l3] (zr k :: st) w M Q := zG_loc (zh_La_law 422 rfl) rfl rfl rfl
set_option maxRecDepth 100000 in
theorem f_La_law_423 : zF d x_La_law 423 [l0, l1, l2, zi a] st w M Q ↔ zF d x_La_law 424 [l0, l1, l2, zi a] (zi a :: st) w M Q := zG_loc (zh_La_law 423 rfl) rfl rfl rfl
set_option maxRecDepth 100000 in
theorem f_La_law_424 : zF d x_La_law 424 [l0, l1, l2, l3] st w M Q ↔ zF d x_La_law 425 [l0, l1, l2, l3] (zi (1) :: st) w M Q := zG_stk (zh_La_law 424 rfl) rfl rfl
set_option maxRecDepth 100000 in
theorem f_La_law_425 : zF d x_La_law 425 [l0, l1, l2, l3] (zi b :: zi a :: st) w M Q ↔ zF d x_La_law 426 [l0, l1, l2, l3] (zi (a + b) :: st) w M Q := zG_stk (zh_La_law 425 rfl) rfl rfl
set_option maxRecDepth 100000 in
theorem f_La_law_426 : zF d x_La_law 426 [l0, l1, l2, l3] (zi a :: zr k :: st) w M Q ↔ (zA w k 0 (z32 a) ∧ zF d x_La_law 427 [l0, l1, l2, l3] (zi (M k (z32 a).toNat) :: st) w M Q) := zG_iald (zh_La_law 426 rfl) rfl
set_option maxRecDepth 100000 in
theorem f_La_law_427 : zF d x_La_law 427 [zr k, l1, l2, l3] st w M Q ↔ zF d x_La_law 428 [zr k, l1, l2, l3] (zr k :: st) w M Q := zG_loc (zh_La_law 427 rfl) rfl rfl rfl
set_option maxRecDepth 100000 in
theorem f_La_law_428 : zF d x_La_law 428 [l0, l1, l2, zi a] st w M Q ↔ zF d x_La_law 429 [l0, l1, l2, zi a] (zi a :: st) w M Q := zG_loc (zh_La_law 428 rfl) rfl rfl rfl
set_option maxRecDepth 100000 in
theorem f_La_law_429 : zF d x_La_law 429 [l0, l1, l2, l3] st w M Q ↔ zF d x_La_law 430 [l0, l1, l2, l3] (zi (2) :: st) w M Q := zG_stk (zh_La_law 429 rfl) rfl rfl
set_option maxRecDepth 100000 in
theorem f_La_law_430 : zF d x_La_law 430 [l0, l1, l2, l3] (zi b :: zi a :: st) w M Q ↔ zF d x_La_law 431 [l0, l1, l2, l3] (zi (a + b) :: st) w M Q := zG_stk (zh_La_law 430 rfl) rfl rfl
set_option maxRecDepth 100000 in
theorem f_La_law_431 : zF d x_La_law 431 [l0, l1, l2, l3] (zi a :: zr k :: st) w M Q ↔ (zA w k 0 (z32 a) ∧ zF d x_La_law 432 [l0, l1, l2, l3] (zi (M k (z32 a).toNat) :: st) w M Q) := zG_iald (zh_La_law 431 rfl) rfl
set_option maxRecDepth 100000 in
theorem f_La_law_432 : zF d x_La_law 432 [zr k, l1, l2, l3] st w M Q ↔ zF d x_La_law 433 [zr k, l1, l2, l3] (zr k :: st) w M Q := zG_loc (zh_La_law 432 rfl) rfl rfl rfl
set_option maxRecDepth 100000 in
theorem f_La_law_433 : zF d x_La_law 433 [l0, l1, l2, zi a] st w M Q ↔ zF d x_La_law 434 [l0, l1, l2, zi a] (zi a :: st) w M Q := zG_loc (zh_La_law 433 rfl) rfl rfl rfl
set_option maxRecDepth 100000 in
theorem f_La_law_434 : zF d x_La_law 434 [l0, l1, l2, l3] st w M Q ↔ zF d x_La_law 435 [l0, l1, l2, l3] (zi (3) :: st) w M Q := zG_stk (zh_La_law 434 rfl) rfl rfl
set_option maxRecDepth 100000 in
theorem f_La_law_435 : zF d x_La_law 435 [l0, l1, l2, l3] (zi b :: zi a :: st) w M Q ↔ zF d x_La_law 436 [l0, l1, l2, l3] (zi (a + b) :: st) w M Q := zG_stk (zh_La_law 435 rfl) rfl rfl
set_option maxRecDepth 100000 in
theorem f_La_law_436 : zF d x_La_law 436 [l0, l1, l2, l3] (zi a :: zr k :: st) w M Q ↔ (zA w k 0 (z32 a) ∧ zF d x_La_law 437 [l0, l1, l2, l3] (zi (M k (z32 a).toNat) :: st) w M Q) := zG_iald (zh_La_law 436 rfl) rfl
set_option maxRecDepth 100000 in
theorem f_La_law_437 : zF d x_La_law 437 [l0, l1, l2, l3] (zi c :: zi b :: zi a :: zr k :: st) w M Q ↔ (0 < d ∧ zwd st ≤ 8 ∧ ((zsh w k).1 = 0 ∧ (zsh w k).2.1 = 11) ∧ zF (d - 1) x_Mo_gap 0 [zr k, zi a, zi b, zi c] [] w M (fun v w' M' => zF d x_La_law 440 [l0, l1, l2, l3] (v.toList ++ st) w' M' Q)) := zG_callO [zi c, zi b, zi a] (.inl rfl) (zh_La_law 437 rfl) rfl rfl rfl (by rw [zm_Mo_gap]; rfl) (by rw [zm_Mo_gap]; rfl) rfl
set_option maxRecDepth 100000 in
theorem f_La_law_440 : zF d x_La_law 440 [l0, l1, l2, l3] (zl b :: zl a :: st) w M Q ↔ zF d x_La_law 441 [l0, l1, l2, l3] (zi (zlcmp a b) :: st) w M Q := zG_stk (zh_La_law 440 rfl) rfl rfl
set_option maxRecDepth 100000 in
theorem f_La_law_441 : zF d x_La_law 441 [l0, l1, l2, l3] (zi a :: st) w M Q ↔ (if z32 a = 0 then zF d x_La_law 1879 [l0, l1, l2, l3] st w M Q else zF d x_La_law 444 [l0, l1, l2, l3] st w M Q) := zG_ifP (zh_La_law 441 rfl) rfl rfl rfl decide_eq_true_iff
set_option maxRecDepth 100000 in
theorem f_La_law_444 : zF d x_La_law 444 [l0, l1, l2, l3] st w M Q ↔ zF d x_La_law 445 [l0, l1, l2, l3] (zi (0) :: st) w M Q := zG_stk (zh_La_law 444 rfl) rfl rfl
set_option maxRecDepth 100000 in
theorem f_La_law_445 : zF d x_La_law 445 [l0, l1, l2, l3] [zi a] w M Q ↔ ((a = 0 ∨ a = 1) ∧ Q (some (zi a)) w M) := zG_prR (zh_La_law 445 rfl) zb_La_law
set_option maxRecDepth 100000 in
theorem f_La_law_446 : zF d x_La_law 446 [l0, zr k, l2, l3] st w M Q ↔ zF d x_La_law 447 [l0, zr k, l2, l3] (zr k :: st) w M Q := zG_loc (zh_La_law 446 rfl) rfl rfl rfl
set_option maxRecDepth 100000 in
theorem f_La_law_447 : zF d x_La_law 447 [zr k, l1, l2, l3] st w M Q ↔ zF d x_La_law 448 [zr k, l1, l2, l3] (zr k :: st) w M Q := zG_loc (zh_La_law 447 rfl) rfl rfl rfl
set_option maxRecDepth 100000 in
theorem f_La_law_448 : zF d x_La_law 448 [l0, l1, l2, zi a] st w M Q ↔ zF d x_La_law 449 [l0, l1, l2, zi a] (zi a :: st) w M Q := zG_loc (zh_La_law 448 rfl) rfl rfl rfl
set_option maxRecDepth 100000 in
theorem f_La_law_449 : zF d x_La_law 449 [l0, l1, l2, l3] st w M Q ↔ zF d x_La_law 450 [l0, l1, l2, l3] (zi (1) :: st) w M Q := zG_stk (zh_La_law 449 rfl) rfl rfl
set_option maxRecDepth 100000 in
theorem f_La_law_450 : zF d x_La_law 450 [l0, l1, l2, l3] (zi b :: zi a :: st) w M Q ↔ zF d x_La_law 451 [l0, l1, l2, l3] (zi (a + b) :: st) w M Q := zG_stk (zh_La_law 450 rfl) rfl rfl
set_option maxRecDepth 100000 in
theorem f_La_law_451 : zF d x_La_law 451 [l0, l1, l2, l3] (zi a :: zr k :: st) w M Q ↔ (zA w k 0 (z32 a) ∧ zF d x_La_law 452 [l0, l1, l2, l3] (zi (M k (z32 a).toNat) :: st) w M Q) := zG_iald (zh_La_law 451 rfl) rfl
set_option maxRecDepth 100000 in
theorem f_La_law_452 : zF d x_La_law 452 [zr k, l1, l2, l3] st w M Q ↔ zF d x_La_law 453 [zr k, l1, l2, l3] (zr k :: st) w M Q := zG_loc (zh_La_law 452 rfl) rfl rfl rfl
set_option maxRecDepth 100000 in
theorem f_La_law_453 : zF d x_La_law 453 [l0, l1, l2, zi a] st w M Q ↔ zF d x_La_law 454 [l0, l1, l2, zi a] (zi a :: st) w M Q := zG_loc (zh_La_law 453 rfl) rfl rfl rfl
set_option maxRecDepth 100000 in
theorem f_La_law_454 : zF d x_La_law 454 [l0, l1, l2, l3] st w M Q ↔ zF d x_La_law 455 [l0, l1, l2, l3] (zi (2) :: st) w M Q := zG_stk (zh_La_law 454 rfl) rfl rfl
set_option maxRecDepth 100000 in
theorem f_La_law_455 : zF d x_La_law 455 [l0, l1, l2, l3] (zi b :: zi a :: st) w M Q ↔ zF d x_La_law 456 [l0, l1, l2, l3] (zi (a + b) :: st) w M Q := zG_stk (zh_La_law 455 rfl) rfl rfl
set_option maxRecDepth 100000 in
theorem f_La_law_456 : zF d x_La_law 456 [l0, l1, l2, l3] (zi a :: zr k :: st) w M Q ↔ (zA w k 0 (z32 a) ∧ zF d x_La_law 457 [l0, l1, l2, l3] (zi (M k (z32 a).toNat) :: st) w M Q) := zG_iald (zh_La_law 456 rfl) rfl
set_option maxRecDepth 100000 in
theorem f_La_law_457 : zF d x_La_law 457 [zr k, l1, l2, l3] st w M Q ↔ zF d x_La_law 458 [zr k, l1, l2, l3] (zr k :: st) w M Q := zG_loc (zh_La_law 457 rfl) rfl rfl rfl
set_option maxRecDepth 100000 in
theorem f_La_law_458 : zF d x_La_law 458 [l0, l1, l2, zi a] st w M Q ↔ zF d x_La_law 459 [l0, l1, l2, zi a] (zi a :: st) w M Q := zG_loc (zh_La_law 458 rfl) rfl rfl rfl
set_option maxRecDepth 100000 in
theorem f_La_law_459 : zF d x_La_law 459 [l0, l1, l2, l3] st w M Q ↔ zF d x_La_law 460 [l0, l1, l2, l3] (zi (3) :: st) w M Q := zG_stk (zh_La_law 459 rfl) rfl rfl
set_option maxRecDepth 100000 in
theorem f_La_law_460 : zF d x_La_law 460 [l0, l1, l2, l3] (zi b :: zi a :: st) w M Q ↔ zF d x_La_law 461 [l0, l1, l2, l3] (zi (a + b) :: st) w M Q := zG_stk (zh_La_law 460 rfl) rfl rfl
set_option maxRecDepth 100000 in
theorem f_La_law_461 : zF d x_La_law 461 [l0, l1, l2, l3] (zi a :: zr k :: st) w M Q ↔ (zA w k 0 (z32 a) ∧ zF d x_La_law 462 [l0, l1, l2, l3] (zi (M k (z32 a).toNat) :: st) w M Q) := zG_iald (zh_La_law 461 rfl) rfl
set_option maxRecDepth 100000 in
theorem f_La_law_462 : zF d x_La_law 462 [l0, l1, l2, l3] (zi c :: zi b :: zi a :: zr k :: st) w M Q ↔ (0 < d ∧ zwd st ≤ 8 ∧ ((zsh w k).1 = 0 ∧ (zsh w k).2.1 = 10) ∧ zF (d - 1) x_We_stretch 0 [zr k, zi a, zi b, zi c] [] w M (fun v w' M' => zF d x_La_law 465 [l0, l1, l2, l3] (v.toList ++ st) w' M' Q)) := zG_callO [zi c, zi b, zi a] (.inl rfl) (zh_La_law 462 rfl) rfl rfl rfl (by rw [zm_We_stretch]; rfl) (by rw [zm_We_stretch]; rfl) rfl
set_option maxRecDepth 100000 in
theorem f_La_law_465 : zF d x_La_law 465 [l0, l1, zr k, l3] st w M Q ↔ zF d x_La_law 466 [l0, l1, zr k, l3] (zr k :: st) w M Q := zG_loc (zh_La_law 465 rfl) rfl rfl rfl
set_option maxRecDepth 100000 in
theorem f_La_law_466 : zF d x_La_law 466 [zr k, l1, l2, l3] st w M Q ↔ zF d x_La_law 467 [zr k, l1, l2, l3] (zr k :: st) w M Q := zG_loc (zh_La_law 466 rfl) rfl rfl rfl
set_option maxRecDepth 100000 in
theorem f_La_law_467 : zF d x_La_law 467 [l0, l1, l2, zi a] st w M Q ↔ zF d x_La_law 468 [l0, l1, l2, zi a] (zi a :: st) w M Q := zG_loc (zh_La_law 467 rfl) rfl rfl rfl
set_option maxRecDepth 100000 in
theorem f_La_law_468 : zF d x_La_law 468 [l0, l1, l2, l3] st w M Q ↔ zF d x_La_law 469 [l0, l1, l2, l3] (zi (1) :: st) w M Q := zG_stk (zh_La_law 468 rfl) rfl rfl
set_option maxRecDepth 100000 in
theorem f_La_law_469 : zF d x_La_law 469 [l0, l1, l2, l3] (zi b :: zi a :: st) w M Q ↔ zF d x_La_law 470 [l0, l1, l2, l3] (zi (a + b) :: st) w M Q := zG_stk (zh_La_law 469 rfl) rfl rfl
set_option maxRecDepth 100000 in
theorem f_La_law_470 : zF d x_La_law 470 [l0, l1, l2, l3] (zi a :: zr k :: st) w M Q ↔ (zA w k 0 (z32 a) ∧ zF d x_La_law 471 [l0, l1, l2, l3] (zi (M k (z32 a).toNat) :: st) w M Q) := zG_iald (zh_La_law 470 rfl) rfl
set_option maxRecDepth 100000 in
theorem f_La_law_471 : zF d x_La_law 471 [zr k, l1, l2, l3] st w M Q ↔ zF d x_La_law 472 [zr k, l1, l2, l3] (zr k :: st) w M Q := zG_loc (zh_La_law 471 rfl) rfl rfl rfl
set_option maxRecDepth 100000 in
theorem f_La_law_472 : zF d x_La_law 472 [l0, l1, l2, zi a] st w M Q ↔ zF d x_La_law 473 [l0, l1, l2, zi a] (zi a :: st) w M Q := zG_loc (zh_La_law 472 rfl) rfl rfl rfl
set_option maxRecDepth 100000 in
theorem f_La_law_473 : zF d x_La_law 473 [l0, l1, l2, l3] st w M Q ↔ zF d x_La_law 474 [l0, l1, l2, l3] (zi (2) :: st) w M Q := zG_stk (zh_La_law 473 rfl) rfl rfl
set_option maxRecDepth 100000 in
theorem f_La_law_474 : zF d x_La_law 474 [l0, l1, l2, l3] (zi b :: zi a :: st) w M Q ↔ zF d x_La_law 475 [l0, l1, l2, l3] (zi (a + b) :: st) w M Q := zG_stk (zh_La_law 474 rfl) rfl rfl
set_option maxRecDepth 100000 in
theorem f_La_law_475 : zF d x_La_law 475 [l0, l1, l2, l3] (zi a :: zr k :: st) w M Q ↔ (zA w k 0 (z32 a) ∧ zF d x_La_law 476 [l0, l1, l2, l3] (zi (M k (z32 a).toNat) :: st) w M Q) := zG_iald (zh_La_law 475 rfl) rfl
set_option maxRecDepth 100000 in
theorem f_La_law_476 : zF d x_La_law 476 [zr k, l1, l2, l3] st w M Q ↔ zF d x_La_law 477 [zr k, l1, l2, l3] (zr k :: st) w M Q := zG_loc (zh_La_law 476 rfl) rfl rfl rfl
set_option maxRecDepth 100000 in
theorem f_La_law_477 : zF d x_La_law 477 [l0, l1, l2, zi a] st w M Q ↔ zF d x_La_law 478 [l0, l1, l2, zi a] (zi a :: st) w M Q := zG_loc (zh_La_law 477 rfl) rfl rfl rfl
set_option maxRecDepth 100000 in
theorem f_La_law_478 : zF d x_La_law 478 [l0, l1, l2, l3] st w M Q ↔ zF d x_La_law 479 [l0, l1, l2, l3] (zi (3) :: st) w M Q := zG_stk (zh_La_law 478 rfl) rfl rfl
set_option maxRecDepth 100000 in
theorem f_La_law_479 : zF d x_La_law 479 [l0, l1, l2, l3] (zi b :: zi a :: st) w M Q ↔ zF d x_La_law 480 [l0, l1, l2, l3] (zi (a + b) :: st) w M Q := zG_stk (zh_La_law 479 rfl) rfl rfl
set_option maxRecDepth 100000 in
theorem f_La_law_480 : zF d x_La_law 480 [l0, l1, l2, l3] (zi a :: zr k :: st) w M Q ↔ (zA w k 0 (z32 a) ∧ zF d x_La_law 481 [l0, l1, l2, l3] (zi (M k (z32 a).toNat) :: st) w M Q) := zG_iald (zh_La_law 480 rfl) rfl
set_option maxRecDepth 100000 in
theorem f_La_law_481 : zF d x_La_law 481 [l0, l1, l2, l3] (zi c :: zi b :: zi a :: zr k :: st) w M Q ↔ (0 < d ∧ zwd st ≤ 8 ∧ ((zsh w k).1 = 0 ∧ (zsh w k).2.1 = 11) ∧ zF (d - 1) x_Mo_stretch 0 [zr k, zi a, zi b, zi c] [] w M (fun v w' M' => zF d x_La_law 484 [l0, l1, l2, l3] (v.toList ++ st) w' M' Q)) := zG_callO [zi c, zi b, zi a] (.inl rfl) (zh_La_law 481 rfl) rfl rfl rfl (by rw [zm_Mo_stretch]; rfl) (by rw [zm_Mo_stretch]; rfl) rfl
set_option maxRecDepth 100000 in
theorem f_La_law_484 : zF d x_La_law 484 [l0, l1, l2, l3] (zl b :: zl a :: st) w M Q ↔ zF d x_La_law 485 [l0, l1, l2, l3] (zi (zlcmp a b) :: st) w M Q := zG_stk (zh_La_law 484 rfl) rfl rfl
set_option maxRecDepth 100000 in
theorem f_La_law_485 : zF d x_La_law 485 [l0, l1, l2, l3] (zi a :: st) w M Q ↔ (if z32 a = 0 then zF d x_La_law 1879 [l0, l1, l2, l3] st w M Q else zF d x_La_law 488 [l0, l1, l2, l3] st w M Q) := zG_ifP (zh_La_law 485 rfl) rfl rfl rfl decide_eq_true_iff
set_option maxRecDepth 100000 in
theorem f_La_law_488 : zF d x_La_law 488 [l0, l1, l2, l3] st w M Q ↔ zF d x_La_law 489 [l0, l1, l2, l3] (zi (0) :: st) w M Q := zG_stk (zh_La_law 488 rfl) rfl rfl
set_option maxRecDepth 100000 in
theorem f_La_law_489 : zF d x_La_law 489 [l0, l1, l2, l3] [zi a] w M Q ↔ ((a = 0 ∨ a = 1) ∧ Q (some (zi a)) w M) := zG_prR (zh_La_law 489 rfl) zb_La_law
set_option maxRecDepth 100000 in
theorem f_La_law_490 : zF d x_La_law 490 [l0, zr k, l2, l3] st w M Q ↔ zF d x_La_law 491 [l0, zr k, l2, l3] (zr k :: st) w M Q := zG_loc (zh_La_law 490 rfl) rfl rfl rfl
set_option maxRecDepth 100000 in
theorem f_La_law_491 : zF d x_La_law 491 [zr k, l1, l2, l3] st w M Q ↔ zF d x_La_law 492 [zr k, l1, l2, l3] (zr k :: st) w M Q := zG_loc (zh_La_law 491 rfl) rfl rfl rfl
set_option maxRecDepth 100000 in
theorem f_La_law_492 : zF d x_La_law 492 [l0, l1, l2, zi a] st w M Q ↔ zF d x_La_law 493 [l0, l1, l2, zi a] (zi a :: st) w M Q := zG_loc (zh_La_law 492 rfl) rfl rfl rfl
set_option maxRecDepth 100000 in
theorem f_La_law_493 : zF d x_La_law 493 [l0, l1, l2, l3] st w M Q ↔ zF d x_La_law 494 [l0, l1, l2, l3] (zi (1) :: st) w M Q := zG_stk (zh_La_law 493 rfl) rfl rfl
set_option maxRecDepth 100000 in
theorem f_La_law_494 : zF d x_La_law 494 [l0, l1, l2, l3] (zi b :: zi a :: st) w M Q ↔ zF d x_La_law 495 [l0, l1, l2, l3] (zi (a + b) :: st) w M Q := zG_stk (zh_La_law 494 rfl) rfl rfl
set_option maxRecDepth 100000 in
theorem f_La_law_495 : zF d x_La_law 495 [l0, l1, l2, l3] (zi a :: zr k :: st) w M Q ↔ (zA w k 0 (z32 a) ∧ zF d x_La_law 496 [l0, l1, l2, l3] (zi (M k (z32 a).toNat) :: st) w M Q) := zG_iald (zh_La_law 495 rfl) rfl
set_option maxRecDepth 100000 in
theorem f_La_law_496 : zF d x_La_law 496 [l0, l1, l2, l3] (zi a :: zr k :: st) w M Q ↔ (0 < d ∧ zwd st ≤ 8 ∧ ((zsh w k).1 = 0 ∧ (zsh w k).2.1 = 10) ∧ zF (d - 1) x_We_opens 0 [zr k, zi a] [] w M (fun v w' M' => zF d x_La_law 499 [l0, l1, l2, l3] (v.toList ++ st) w' M' Q)) := zG_callO [zi a] (.inl rfl) (zh_La_law 496 rfl) rfl rfl rfl (by rw [zm_We_opens]; rfl) (by rw [zm_We_opens]; rfl) rfl
set_option maxRecDepth 100000 in
theorem f_La_law_499 : zF d x_La_law 499 [l0, l1, zr k, l3] st w M Q ↔ zF d x_La_law 500 [l0, l1, zr k, l3] (zr k :: st) w M Q := zG_loc (zh_La_law 499 rfl) rfl rfl rfl
set_option maxRecDepth 100000 in
theorem f_La_law_500 : zF d x_La_law 500 [zr k, l1, l2, l3] st w M Q ↔ zF d x_La_law 501 [zr k, l1, l2, l3] (zr k :: st) w M Q := zG_loc (zh_La_law 500 rfl) rfl rfl rfl
set_option maxRecDepth 100000 in
theorem f_La_law_501 : zF d x_La_law 501 [l0, l1, l2, zi a] st w M Q ↔ zF d x_La_law 502 [l0, l1, l2, zi a] (zi a :: st) w M Q := zG_loc (zh_La_law 501 rfl) rfl rfl rfl
set_option maxRecDepth 100000 in
theorem f_La_law_502 : zF d x_La_law 502 [l0, l1, l2, l3] st w M Q ↔ zF d x_La_law 503 [l0, l1, l2, l3] (zi (1) :: st) w M Q := zG_stk (zh_La_law 502 rfl) rfl rfl
set_option maxRecDepth 100000 in
theorem f_La_law_503 : zF d x_La_law 503 [l0, l1, l2, l3] (zi b :: zi a :: st) w M Q ↔ zF d x_La_law 504 [l0, l1, l2, l3] (zi (a + b) :: st) w M Q := zG_stk (zh_La_law 503 rfl) rfl rfl
set_option maxRecDepth 100000 in
theorem f_La_law_504 : zF d x_La_law 504 [l0, l1, l2, l3] (zi a :: zr k :: st) w M Q ↔ (zA w k 0 (z32 a) ∧ zF d x_La_law 505 [l0, l1, l2, l3] (zi (M k (z32 a).toNat) :: st) w M Q) := zG_iald (zh_La_law 504 rfl) rfl
set_option maxRecDepth 100000 in
theorem f_La_law_505 : zF d x_La_law 505 [l0, l1, l2, l3] (zi a :: zr k :: st) w M Q ↔ (0 < d ∧ zwd st ≤ 8 ∧ ((zsh w k).1 = 0 ∧ (zsh w k).2.1 = 11) ∧ zF (d - 1) x_Mo_opens 0 [zr k, zi a, zt] [] w M (fun v w' M' => zF d x_La_law 508 [l0, l1, l2, l3] (v.toList ++ st) w' M' Q)) := zG_callO [zi a] (.inl rfl) (zh_La_law 505 rfl) rfl rfl rfl (by rw [zm_Mo_opens]; rfl) (by rw [zm_Mo_opens]; rfl) rfl
set_option maxRecDepth 100000 in
theorem f_La_law_508 : zF d x_La_law 508 [l0, l1, l2, l3] (zi b :: zi a :: st) w M Q ↔ (if z32 a = z32 b then zF d x_La_law 1879 [l0, l1, l2, l3] st w M Q else zF d x_La_law 511 [l0, l1, l2, l3] st w M Q) := zG_ifP (zh_La_law 508 rfl) rfl rfl rfl decide_eq_true_iff
set_option maxRecDepth 100000 in
theorem f_La_law_511 : zF d x_La_law 511 [l0, l1, l2, l3] st w M Q ↔ zF d x_La_law 512 [l0, l1, l2, l3] (zi (0) :: st) w M Q := zG_stk (zh_La_law 511 rfl) rfl rfl
set_option maxRecDepth 100000 in
theorem f_La_law_512 : zF d x_La_law 512 [l0, l1, l2, l3] [zi a] w M Q ↔ ((a = 0 ∨ a = 1) ∧ Q (some (zi a)) w M) := zG_prR (zh_La_law 512 rfl) zb_La_law
set_option maxRecDepth 100000 in
theorem f_La_law_513 : zF d x_La_law 513 [l0, zr k, l2, l3] st w M Q ↔ zF d x_La_law 514 [l0, zr k, l2, l3] (zr k :: st) w M Q := zG_loc (zh_La_law 513 rfl) rfl rfl rfl
set_option maxRecDepth 100000 in
theorem f_La_law_514 : zF d x_La_law 514 [l0, l1, l2, l3] (zr k :: st) w M Q ↔ (0 < d ∧ zwd st ≤ 8 ∧ ((zsh w k).1 = 0 ∧ (zsh w k).2.1 = 10) ∧ zF (d - 1) x_We_most 0 [zr k] [] w M (fun v w' M' => zF d x_La_law 517 [l0, l1, l2, l3] (v.toList ++ st) w' M' Q)) := zG_callO [] (.inl rfl) (zh_La_law 514 rfl) rfl rfl rfl (by rw [zm_We_most]; rfl) (by rw [zm_We_most]; rfl) rfl
set_option maxRecDepth 100000 in
theorem f_La_law_517 : zF d x_La_law 517 [l0, l1, zr k, l3] st w M Q ↔ zF d x_La_law 518 [l0, l1, zr k, l3] (zr k :: st) w M Q := zG_loc (zh_La_law 517 rfl) rfl rfl rfl
set_option maxRecDepth 100000 in
theorem f_La_law_518 : zF d x_La_law 518 [l0, l1, l2, l3] (zr k :: st) w M Q ↔ (0 < d ∧ zwd st ≤ 8 ∧ ((zsh w k).1 = 0 ∧ (zsh w k).2.1 = 11) ∧ zF (d - 1) x_Mo_most 0 [zr k] [] w M (fun v w' M' => zF d x_La_law 521 [l0, l1, l2, l3] (v.toList ++ st) w' M' Q)) := zG_callO [] (.inl rfl) (zh_La_law 518 rfl) rfl rfl rfl (by rw [zm_Mo_most]; rfl) (by rw [zm_Mo_most]; rfl) rfl
set_option maxRecDepth 100000 in
theorem f_La_law_521 : zF d x_La_law 521 [l0, l1, l2, l3] (zi b :: zi a :: st) w M Q ↔ (if z32 a = z32 b then zF d x_La_law 1879 [l0, l1, l2, l3] st w M Q else zF d x_La_law 524 [l0, l1, l2, l3] st w M Q) := zG_ifP (zh_La_law 521 rfl) rfl rfl rfl decide_eq_true_iff
set_option maxRecDepth 100000 in
theorem f_La_law_524 : zF d x_La_law 524 [l0, l1, l2, l3] st w M Q ↔ zF d x_La_law 525 [l0, l1, l2, l3] (zi (0) :: st) w M Q := zG_stk (zh_La_law 524 rfl) rfl rfl
set_option maxRecDepth 100000 in
theorem f_La_law_525 : zF d x_La_law 525 [l0, l1, l2, l3] [zi a] w M Q ↔ ((a = 0 ∨ a = 1) ∧ Q (some (zi a)) w M) := zG_prR (zh_La_law 525 rfl) zb_La_law
set_option maxRecDepth 100000 in
theorem f_La_law_526 : zF d x_La_law 526 [l0, zr k, l2, l3] st w M Q ↔ zF d x_La_law 527 [l0, zr k, l2, l3] (zr k :: st) w M Q := zG_loc (zh_La_law 526 rfl) rfl rfl rfl
set_option maxRecDepth 100000 in
theorem f_La_law_527 : zF d x_La_law 527 [zr k, l1, l2, l3] st w M Q ↔ zF d x_La_law 528 [zr k, l1, l2, l3] (zr k :: st) w M Q := zG_loc (zh_La_law 527 rfl) rfl rfl rfl
set_option maxRecDepth 100000 in
theorem f_La_law_528 : zF d x_La_law 528 [l0, l1, l2, zi a] st w M Q ↔ zF d x_La_law 529 [l0, l1, l2, zi a] (zi a :: st) w M Q := zG_loc (zh_La_law 528 rfl) rfl rfl rfl
set_option maxRecDepth 100000 in
theorem f_La_law_529 : zF d x_La_law 529 [l0, l1, l2, l3] st w M Q ↔ zF d x_La_law 530 [l0, l1, l2, l3] (zi (1) :: st) w M Q := zG_stk (zh_La_law 529 rfl) rfl rfl
set_option maxRecDepth 100000 in
theorem f_La_law_530 : zF d x_La_law 530 [l0, l1, l2, l3] (zi b :: zi a :: st) w M Q ↔ zF d x_La_law 531 [l0, l1, l2, l3] (zi (a + b) :: st) w M Q := zG_stk (zh_La_law 530 rfl) rfl rfl
set_option maxRecDepth 100000 in
theorem f_La_law_531 : zF d x_La_law 531 [l0, l1, l2, l3] (zi a :: zr k :: st) w M Q ↔ (zA w k 0 (z32 a) ∧ zF d x_La_law 532 [l0, l1, l2, l3] (zi (M k (z32 a).toNat) :: st) w M Q) := zG_iald (zh_La_law 531 rfl) rfl
set_option maxRecDepth 100000 in
theorem f_La_law_532 : zF d x_La_law 532 [zr k, l1, l2, l3] st w M Q ↔ zF d x_La_law 533 [zr k, l1, l2, l3] (zr k :: st) w M Q := zG_loc (zh_La_law 532 rfl) rfl rfl rfl
set_option maxRecDepth 100000 in
theorem f_La_law_533 : zF d x_La_law 533 [l0, l1, l2, zi a] st w M Q ↔ zF d x_La_law 534 [l0, l1, l2, zi a] (zi a :: st) w M Q := zG_loc (zh_La_law 533 rfl) rfl rfl rfl
set_option maxRecDepth 100000 in
theorem f_La_law_534 : zF d x_La_law 534 [l0, l1, l2, l3] st w M Q ↔ zF d x_La_law 535 [l0, l1, l2, l3] (zi (2) :: st) w M Q := zG_stk (zh_La_law 534 rfl) rfl rfl
set_option maxRecDepth 100000 in
theorem f_La_law_535 : zF d x_La_law 535 [l0, l1, l2, l3] (zi b :: zi a :: st) w M Q ↔ zF d x_La_law 536 [l0, l1, l2, l3] (zi (a + b) :: st) w M Q := zG_stk (zh_La_law 535 rfl) rfl rfl
set_option maxRecDepth 100000 in
theorem f_La_law_536 : zF d x_La_law 536 [l0, l1, l2, l3] (zi a :: zr k :: st) w M Q ↔ (zA w k 0 (z32 a) ∧ zF d x_La_law 537 [l0, l1, l2, l3] (zi (M k (z32 a).toNat) :: st) w M Q) := zG_iald (zh_La_law 536 rfl) rfl
set_option maxRecDepth 100000 in
theorem f_La_law_537 : zF d x_La_law 537 [zr k, l1, l2, l3] st w M Q ↔ zF d x_La_law 538 [zr k, l1, l2, l3] (zr k :: st) w M Q := zG_loc (zh_La_law 537 rfl) rfl rfl rfl
set_option maxRecDepth 100000 in
theorem f_La_law_538 : zF d x_La_law 538 [l0, l1, l2, zi a] st w M Q ↔ zF d x_La_law 539 [l0, l1, l2, zi a] (zi a :: st) w M Q := zG_loc (zh_La_law 538 rfl) rfl rfl rfl
set_option maxRecDepth 100000 in
theorem f_La_law_539 : zF d x_La_law 539 [l0, l1, l2, l3] st w M Q ↔ zF d x_La_law 540 [l0, l1, l2, l3] (zi (3) :: st) w M Q := zG_stk (zh_La_law 539 rfl) rfl rfl
set_option maxRecDepth 100000 in
theorem f_La_law_540 : zF d x_La_law 540 [l0, l1, l2, l3] (zi b :: zi a :: st) w M Q ↔ zF d x_La_law 541 [l0, l1, l2, l3] (zi (a + b) :: st) w M Q := zG_stk (zh_La_law 540 rfl) rfl rfl
set_option maxRecDepth 100000 in
theorem f_La_law_541 : zF d x_La_law 541 [l0, l1, l2, l3] (zi a :: zr k :: st) w M Q ↔ (zA w k 0 (z32 a) ∧ zF d x_La_law 542 [l0, l1, l2, l3] (zi (M k (z32 a).toNat) :: st) w M Q) := zG_iald (zh_La_law 541 rfl) rfl
set_option maxRecDepth 100000 in
theorem f_La_law_542 : zF d x_La_law 542 [l0, l1, l2, l3] (zi c :: zi b :: zi a :: zr k :: st) w M Q ↔ (0 < d ∧ zwd st ≤ 8 ∧ ((zsh w k).1 = 0 ∧ (zsh w k).2.1 = 10) ∧ zF (d - 1) x_We_best 0 [zr k, zi a, zi b, zi c] [] w M (fun v w' M' => zF d x_La_law 545 [l0, l1, l2, l3] (v.toList ++ st) w' M' Q)) := zG_callO [zi c, zi b, zi a] (.inl rfl) (zh_La_law 542 rfl) rfl rfl rfl (by rw [zm_We_best]; rfl) (by rw [zm_We_best]; rfl) rfl
set_option maxRecDepth 100000 in
theorem f_La_law_545 : zF d x_La_law 545 [l0, l1, zr k, l3] st w M Q ↔ zF d x_La_law 546 [l0, l1, zr k, l3] (zr k :: st) w M Q := zG_loc (zh_La_law 545 rfl) rfl rfl rfl
set_option maxRecDepth 100000 in
theorem f_La_law_546 : zF d x_La_law 546 [zr k, l1, l2, l3] st w M Q ↔ zF d x_La_law 547 [zr k, l1, l2, l3] (zr k :: st) w M Q := zG_loc (zh_La_law 546 rfl) rfl rfl rfl
set_option maxRecDepth 100000 in
theorem f_La_law_547 : zF d x_La_law 547 [l0, l1, l2, zi a] st w M Q ↔ zF d x_La_law 548 [l0, l1, l2, zi a] (zi a :: st) w M Q := zG_loc (zh_La_law 547 rfl) rfl rfl rfl
set_option maxRecDepth 100000 in
theorem f_La_law_548 : zF d x_La_law 548 [l0, l1, l2, l3] st w M Q ↔ zF d x_La_law 549 [l0, l1, l2, l3] (zi (1) :: st) w M Q := zG_stk (zh_La_law 548 rfl) rfl rfl
set_option maxRecDepth 100000 in
theorem f_La_law_549 : zF d x_La_law 549 [l0, l1, l2, l3] (zi b :: zi a :: st) w M Q ↔ zF d x_La_law 550 [l0, l1, l2, l3] (zi (a + b) :: st) w M Q := zG_stk (zh_La_law 549 rfl) rfl rfl
set_option maxRecDepth 100000 in
theorem f_La_law_550 : zF d x_La_law 550 [l0, l1, l2, l3] (zi a :: zr k :: st) w M Q ↔ (zA w k 0 (z32 a) ∧ zF d x_La_law 551 [l0, l1, l2, l3] (zi (M k (z32 a).toNat) :: st) w M Q) := zG_iald (zh_La_law 550 rfl) rfl
set_option maxRecDepth 100000 in
theorem f_La_law_551 : zF d x_La_law 551 [zr k, l1, l2, l3] st w M Q ↔ zF d x_La_law 552 [zr k, l1, l2, l3] (zr k :: st) w M Q := zG_loc (zh_La_law 551 rfl) rfl rfl rfl
set_option maxRecDepth 100000 in
theorem f_La_law_552 : zF d x_La_law 552 [l0, l1, l2, zi a] st w M Q ↔ zF d x_La_law 553 [l0, l1, l2, zi a] (zi a :: st) w M Q := zG_loc (zh_La_law 552 rfl) rfl rfl rfl
set_option maxRecDepth 100000 in
theorem f_La_law_553 : zF d x_La_law 553 [l0, l1, l2, l3] st w M Q ↔ zF d x_La_law 554 [l0, l1, l2, l3] (zi (2) :: st) w M Q := zG_stk (zh_La_law 553 rfl) rfl rfl
set_option maxRecDepth 100000 in
theorem f_La_law_554 : zF d x_La_law 554 [l0, l1, l2, l3] (zi b :: zi a :: st) w M Q ↔ zF d x_La_law 555 [l0, l1, l2, l3] (zi (a + b) :: st) w M Q := zG_stk (zh_La_law 554 rfl) rfl rfl
set_option maxRecDepth 100000 in
theorem f_La_law_555 : zF d x_La_law 555 [l0, l1, l2, l3] (zi a :: zr k :: st) w M Q ↔ (zA w k 0 (z32 a) ∧ zF d x_La_law 556 [l0, l1, l2, l3] (zi (M k (z32 a).toNat) :: st) w M Q) := zG_iald (zh_La_law 555 rfl) rfl
set_option maxRecDepth 100000 in
theorem f_La_law_556 : zF d x_La_law 556 [zr k, l1, l2, l3] st w M Q ↔ zF d x_La_law 557 [zr k, l1, l2, l3] (zr k :: st) w M Q := zG_loc (zh_La_law 556 rfl) rfl rfl rfl
set_option maxRecDepth 100000 in
theorem f_La_law_557 : zF d x_La_law 557 [l0, l1, l2, zi a] st w M Q ↔ zF d x_La_law 558 [l0, l1, l2, zi a] (zi a :: st) w M Q := zG_loc (zh_La_law 557 rfl) rfl rfl rfl
set_option maxRecDepth 100000 in
theorem f_La_law_558 : zF d x_La_law 558 [l0, l1, l2, l3] st w M Q ↔ zF d x_La_law 559 [l0, l1, l2, l3] (zi (3) :: st) w M Q := zG_stk (zh_La_law 558 rfl) rfl rfl
set_option maxRecDepth 100000 in
theorem f_La_law_559 : zF d x_La_law 559 [l0, l1, l2, l3] (zi b :: zi a :: st) w M Q ↔ zF d x_La_law 560 [l0, l1, l2, l3] (zi (a + b) :: st) w M Q := zG_stk (zh_La_law 559 rfl) rfl rfl
set_option maxRecDepth 100000 in
theorem f_La_law_560 : zF d x_La_law 560 [l0, l1, l2, l3] (zi a :: zr k :: st) w M Q ↔ (zA w k 0 (z32 a) ∧ zF d x_La_law 561 [l0, l1, l2, l3] (zi (M k (z32 a).toNat) :: st) w M Q) := zG_iald (zh_La_law 560 rfl) rfl
set_option maxRecDepth 100000 in
theorem f_La_law_561 : zF d x_La_law 561 [l0, l1, l2, l3] (zi c :: zi b :: zi a :: zr k :: st) w M Q ↔ (0 < d ∧ zwd st ≤ 8 ∧ ((zsh w k).1 = 0 ∧ (zsh w k).2.1 = 11) ∧ zF (d - 1) x_Mo_best 0 [zr k, zi a, zi b, zi c, zt, zt, zt, zt, zt, zt, zt, zt, zt] [] w M (fun v w' M' => zF d x_La_law 564 [l0, l1, l2, l3] (v.toList ++ st) w' M' Q)) := zG_callO [zi c, zi b, zi a] (.inl rfl) (zh_La_law 561 rfl) rfl rfl rfl (by rw [zm_Mo_best]; rfl) (by rw [zm_Mo_best]; rfl) rfl
set_option maxRecDepth 100000 in
theorem f_La_law_564 : zF d x_La_law 564 [l0, l1, l2, l3] (zi b :: zi a :: st) w M Q ↔ (if z32 a = z32 b then zF d x_La_law 1879 [l0, l1, l2, l3] st w M Q else zF d x_La_law 567 [l0, l1, l2, l3] st w M Q) := zG_ifP (zh_La_law 564 rfl) rfl rfl rfl decide_eq_true_iff
set_option maxRecDepth 100000 in
theorem f_La_law_567 : zF d x_La_law 567 [l0, l1, l2, l3] st w M Q ↔ zF d x_La_law 568 [l0, l1, l2, l3] (zi (0) :: st) w M Q := zG_stk (zh_La_law 567 rfl) rfl rfl
set_option maxRecDepth 100000 in
theorem f_La_law_568 : zF d x_La_law 568 [l0, l1, l2, l3] [zi a] w M Q ↔ ((a = 0 ∨ a = 1) ∧ Q (some (zi a)) w M) := zG_prR (zh_La_law 568 rfl) zb_La_law
set_option maxRecDepth 100000 in
theorem f_La_law_569 : zF d x_La_law 569 [l0, zr k, l2, l3] st w M Q ↔ zF d x_La_law 570 [l0, zr k, l2, l3] (zr k :: st) w M Q := zG_loc (zh_La_law 569 rfl) rfl rfl rfl
set_option maxRecDepth 100000 in
theorem f_La_law_570 : zF d x_La_law 570 [zr k, l1, l2, l3] st w M Q ↔ zF d x_La_law 571 [zr k, l1, l2, l3] (zr k :: st) w M Q := zG_loc (zh_La_law 570 rfl) rfl rfl rfl
set_option maxRecDepth 100000 in
theorem f_La_law_571 : zF d x_La_law 571 [l0, l1, l2, zi a] st w M Q ↔ zF d x_La_law 572 [l0, l1, l2, zi a] (zi a :: st) w M Q := zG_loc (zh_La_law 571 rfl) rfl rfl rfl
set_option maxRecDepth 100000 in
theorem f_La_law_572 : zF d x_La_law 572 [l0, l1, l2, l3] st w M Q ↔ zF d x_La_law 573 [l0, l1, l2, l3] (zi (1) :: st) w M Q := zG_stk (zh_La_law 572 rfl) rfl rfl
set_option maxRecDepth 100000 in
theorem f_La_law_573 : zF d x_La_law 573 [l0, l1, l2, l3] (zi b :: zi a :: st) w M Q ↔ zF d x_La_law 574 [l0, l1, l2, l3] (zi (a + b) :: st) w M Q := zG_stk (zh_La_law 573 rfl) rfl rfl
set_option maxRecDepth 100000 in
theorem f_La_law_574 : zF d x_La_law 574 [l0, l1, l2, l3] (zi a :: zr k :: st) w M Q ↔ (zA w k 0 (z32 a) ∧ zF d x_La_law 575 [l0, l1, l2, l3] (zi (M k (z32 a).toNat) :: st) w M Q) := zG_iald (zh_La_law 574 rfl) rfl
set_option maxRecDepth 100000 in
theorem f_La_law_575 : zF d x_La_law 575 [zr k, l1, l2, l3] st w M Q ↔ zF d x_La_law 576 [zr k, l1, l2, l3] (zr k :: st) w M Q := zG_loc (zh_La_law 575 rfl) rfl rfl rfl
set_option maxRecDepth 100000 in
theorem f_La_law_576 : zF d x_La_law 576 [l0, l1, l2, zi a] st w M Q ↔ zF d x_La_law 577 [l0, l1, l2, zi a] (zi a :: st) w M Q := zG_loc (zh_La_law 576 rfl) rfl rfl rfl
set_option maxRecDepth 100000 in
theorem f_La_law_577 : zF d x_La_law 577 [l0, l1, l2, l3] st w M Q ↔ zF d x_La_law 578 [l0, l1, l2, l3] (zi (2) :: st) w M Q := zG_stk (zh_La_law 577 rfl) rfl rfl
set_option maxRecDepth 100000 in
theorem f_La_law_578 : zF d x_La_law 578 [l0, l1, l2, l3] (zi b :: zi a :: st) w M Q ↔ zF d x_La_law 579 [l0, l1, l2, l3] (zi (a + b) :: st) w M Q := zG_stk (zh_La_law 578 rfl) rfl rfl
set_option maxRecDepth 100000 in
theorem f_La_law_579 : zF d x_La_law 579 [l0, l1, l2, l3] (zi a :: zr k :: st) w M Q ↔ (zA w k 0 (z32 a) ∧ zF d x_La_law 580 [l0, l1, l2, l3] (zi (M k (z32 a).toNat) :: st) w M Q) := zG_iald (zh_La_law 579 rfl) rfl
set_option maxRecDepth 100000 in
theorem f_La_law_580 : zF d x_La_law 580 [zr k, l1, l2, l3] st w M Q ↔ zF d x_La_law 581 [zr k, l1, l2, l3] (zr k :: st) w M Q := zG_loc (zh_La_law 580 rfl) rfl rfl rfl
set_option maxRecDepth 100000 in
theorem f_La_law_581 : zF d x_La_law 581 [l0, l1, l2, zi a] st w M Q ↔ zF d x_La_law 582 [l0, l1, l2, zi a] (zi a :: st) w M Q := zG_loc (zh_La_law 581 rfl) rfl rfl rfl
set_option maxRecDepth 100000 in
theorem f_La_law_582 : zF d x_La_law 582 [l0, l1, l2, l3] st w M Q ↔ zF d x_La_law 583 [l0, l1, l2, l3] (zi (3) :: st) w M Q := zG_stk (zh_La_law 582 rfl) rfl rfl
set_option maxRecDepth 100000 in
theorem f_La_law_583 : zF d x_La_law 583 [l0, l1, l2, l3] (zi b :: zi a :: st) w M Q ↔ zF d x_La_law 584 [l0, l1, l2, l3] (zi (a + b) :: st) w M Q := zG_stk (zh_La_law 583 rfl) rfl rfl
set_option maxRecDepth 100000 in
theorem f_La_law_584 : zF d x_La_law 584 [l0, l1, l2, l3] (zi a :: zr k :: st) w M Q ↔ (zA w k 0 (z32 a) ∧ zF d x_La_law 585 [l0, l1, l2, l3] (zi (M k (z32 a).toNat) :: st) w M Q) := zG_iald (zh_La_law 584 rfl) rfl
set_option maxRecDepth 100000 in
theorem f_La_law_585 : zF d x_La_law 585 [zr k, l1, l2, l3] st w M Q ↔ zF d x_La_law 586 [zr k, l1, l2, l3] (zr k :: st) w M Q := zG_loc (zh_La_law 585 rfl) rfl rfl rfl
set_option maxRecDepth 100000 in
theorem f_La_law_586 : zF d x_La_law 586 [l0, l1, l2, zi a] st w M Q ↔ zF d x_La_law 587 [l0, l1, l2, zi a] (zi a :: st) w M Q := zG_loc (zh_La_law 586 rfl) rfl rfl rfl
set_option maxRecDepth 100000 in
theorem f_La_law_587 : zF d x_La_law 587 [l0, l1, l2, l3] st w M Q ↔ zF d x_La_law 588 [l0, l1, l2, l3] (zi (4) :: st) w M Q := zG_stk (zh_La_law 587 rfl) rfl rfl
set_option maxRecDepth 100000 in
theorem f_La_law_588 : zF d x_La_law 588 [l0, l1, l2, l3] (zi b :: zi a :: st) w M Q ↔ zF d x_La_law 589 [l0, l1, l2, l3] (zi (a + b) :: st) w M Q := zG_stk (zh_La_law 588 rfl) rfl rfl
set_option maxRecDepth 100000 in
theorem f_La_law_589 : zF d x_La_law 589 [l0, l1, l2, l3] (zi a :: zr k :: st) w M Q ↔ (zA w k 0 (z32 a) ∧ zF d x_La_law 590 [l0, l1, l2, l3] (zi (M k (z32 a).toNat) :: st) w M Q) := zG_iald (zh_La_law 589 rfl) rfl
set_option maxRecDepth 100000 in
theorem f_La_law_590 : zF d x_La_law 590 [l0, l1, l2, l3] (zi e :: zi c :: zi b :: zi a :: zr k :: st) w M Q ↔ (0 < d ∧ zwd st ≤ 8 ∧ ((zsh w k).1 = 0 ∧ (zsh w k).2.1 = 10) ∧ zF (d - 1) x_We_chosen 0 [zr k, zi a, zi b, zi c, zi e] [] w M (fun v w' M' => zF d x_La_law 593 [l0, l1, l2, l3] (v.toList ++ st) w' M' Q)) := zG_callO [zi e, zi c, zi b, zi a] (.inl rfl) (zh_La_law 590 rfl) rfl rfl rfl (by rw [zm_We_chosen]; rfl) (by rw [zm_We_chosen]; rfl) rfl
set_option maxRecDepth 100000 in
theorem f_La_law_593 : zF d x_La_law 593 [l0, l1, zr k, l3] st w M Q ↔ zF d x_La_law 594 [l0, l1, zr k, l3] (zr k :: st) w M Q := zG_loc (zh_La_law 593 rfl) rfl rfl rfl
set_option maxRecDepth 100000 in
theorem f_La_law_594 : zF d x_La_law 594 [zr k, l1, l2, l3] st w M Q ↔ zF d x_La_law 595 [zr k, l1, l2, l3] (zr k :: st) w M Q := zG_loc (zh_La_law 594 rfl) rfl rfl rfl
set_option maxRecDepth 100000 in
theorem f_La_law_595 : zF d x_La_law 595 [l0, l1, l2, zi a] st w M Q ↔ zF d x_La_law 596 [l0, l1, l2, zi a] (zi a :: st) w M Q := zG_loc (zh_La_law 595 rfl) rfl rfl rfl
set_option maxRecDepth 100000 in
theorem f_La_law_596 : zF d x_La_law 596 [l0, l1, l2, l3] st w M Q ↔ zF d x_La_law 597 [l0, l1, l2, l3] (zi (1) :: st) w M Q := zG_stk (zh_La_law 596 rfl) rfl rfl
set_option maxRecDepth 100000 in
theorem f_La_law_597 : zF d x_La_law 597 [l0, l1, l2, l3] (zi b :: zi a :: st) w M Q ↔ zF d x_La_law 598 [l0, l1, l2, l3] (zi (a + b) :: st) w M Q := zG_stk (zh_La_law 597 rfl) rfl rfl
set_option maxRecDepth 100000 in
theorem f_La_law_598 : zF d x_La_law 598 [l0, l1, l2, l3] (zi a :: zr k :: st) w M Q ↔ (zA w k 0 (z32 a) ∧ zF d x_La_law 599 [l0, l1, l2, l3] (zi (M k (z32 a).toNat) :: st) w M Q) := zG_iald (zh_La_law 598 rfl) rfl
set_option maxRecDepth 100000 in
theorem f_La_law_599 : zF d x_La_law 599 [zr k, l1, l2, l3] st w M Q ↔ zF d x_La_law 600 [zr k, l1, l2, l3] (zr k :: st) w M Q := zG_loc (zh_La_law 599 rfl) rfl rfl rfl
set_option maxRecDepth 100000 in
theorem f_La_law_600 : zF d x_La_law 600 [l0, l1, l2, zi a] st w M Q ↔ zF d x_La_law 601 [l0, l1, l2, zi a] (zi a :: st) w M Q := zG_loc (zh_La_law 600 rfl) rfl rfl rfl
set_option maxRecDepth 100000 in
theorem f_La_law_601 : zF d x_La_law 601 [l0, l1, l2, l3] st w M Q ↔ zF d x_La_law 602 [l0, l1, l2, l3] (zi (2) :: st) w M Q := zG_stk (zh_La_law 601 rfl) rfl rfl
set_option maxRecDepth 100000 in
theorem f_La_law_602 : zF d x_La_law 602 [l0, l1, l2, l3] (zi b :: zi a :: st) w M Q ↔ zF d x_La_law 603 [l0, l1, l2, l3] (zi (a + b) :: st) w M Q := zG_stk (zh_La_law 602 rfl) rfl rfl
set_option maxRecDepth 100000 in
theorem f_La_law_603 : zF d x_La_law 603 [l0, l1, l2, l3] (zi a :: zr k :: st) w M Q ↔ (zA w k 0 (z32 a) ∧ zF d x_La_law 604 [l0, l1, l2, l3] (zi (M k (z32 a).toNat) :: st) w M Q) := zG_iald (zh_La_law 603 rfl) rfl
set_option maxRecDepth 100000 in
theorem f_La_law_604 : zF d x_La_law 604 [zr k, l1, l2, l3] st w M Q ↔ zF d x_La_law 605 [zr k, l1, l2, l3] (zr k :: st) w M Q := zG_loc (zh_La_law 604 rfl) rfl rfl rfl
set_option maxRecDepth 100000 in
theorem f_La_law_605 : zF d x_La_law 605 [l0, l1, l2, zi a] st w M Q ↔ zF d x_La_law 606 [l0, l1, l2, zi a] (zi a :: st) w M Q := zG_loc (zh_La_law 605 rfl) rfl rfl rfl
set_option maxRecDepth 100000 in
theorem f_La_law_606 : zF d x_La_law 606 [l0, l1, l2, l3] st w M Q ↔ zF d x_La_law 607 [l0, l1, l2, l3] (zi (3) :: st) w M Q := zG_stk (zh_La_law 606 rfl) rfl rfl
set_option maxRecDepth 100000 in
theorem f_La_law_607 : zF d x_La_law 607 [l0, l1, l2, l3] (zi b :: zi a :: st) w M Q ↔ zF d x_La_law 608 [l0, l1, l2, l3] (zi (a + b) :: st) w M Q := zG_stk (zh_La_law 607 rfl) rfl rfl
set_option maxRecDepth 100000 in
theorem f_La_law_608 : zF d x_La_law 608 [l0, l1, l2, l3] (zi a :: zr k :: st) w M Q ↔ (zA w k 0 (z32 a) ∧ zF d x_La_law 609 [l0, l1, l2, l3] (zi (M k (z32 a).toNat) :: st) w M Q) := zG_iald (zh_La_law 608 rfl) rfl
set_option maxRecDepth 100000 in
theorem f_La_law_609 : zF d x_La_law 609 [zr k, l1, l2, l3] st w M Q ↔ zF d x_La_law 610 [zr k, l1, l2, l3] (zr k :: st) w M Q := zG_loc (zh_La_law 609 rfl) rfl rfl rfl
set_option maxRecDepth 100000 in
theorem f_La_law_610 : zF d x_La_law 610 [l0, l1, l2, zi a] st w M Q ↔ zF d x_La_law 611 [l0, l1, l2, zi a] (zi a :: st) w M Q := zG_loc (zh_La_law 610 rfl) rfl rfl rfl
set_option maxRecDepth 100000 in
theorem f_La_law_611 : zF d x_La_law 611 [l0, l1, l2, l3] st w M Q ↔ zF d x_La_law 612 [l0, l1, l2, l3] (zi (4) :: st) w M Q := zG_stk (zh_La_law 611 rfl) rfl rfl
set_option maxRecDepth 100000 in
theorem f_La_law_612 : zF d x_La_law 612 [l0, l1, l2, l3] (zi b :: zi a :: st) w M Q ↔ zF d x_La_law 613 [l0, l1, l2, l3] (zi (a + b) :: st) w M Q := zG_stk (zh_La_law 612 rfl) rfl rfl
set_option maxRecDepth 100000 in
theorem f_La_law_613 : zF d x_La_law 613 [l0, l1, l2, l3] (zi a :: zr k :: st) w M Q ↔ (zA w k 0 (z32 a) ∧ zF d x_La_law 614 [l0, l1, l2, l3] (zi (M k (z32 a).toNat) :: st) w M Q) := zG_iald (zh_La_law 613 rfl) rfl
set_option maxRecDepth 100000 in
theorem f_La_law_614 : zF d x_La_law 614 [l0, l1, l2, l3] (zi e :: zi c :: zi b :: zi a :: zr k :: st) w M Q ↔ (0 < d ∧ zwd st ≤ 8 ∧ ((zsh w k).1 = 0 ∧ (zsh w k).2.1 = 11) ∧ zF (d - 1) x_Mo_chosen 0 [zr k, zi a, zi b, zi c, zi e] [] w M (fun v w' M' => zF d x_La_law 617 [l0, l1, l2, l3] (v.toList ++ st) w' M' Q)) := zG_callO [zi e, zi c, zi b, zi a] (.inl rfl) (zh_La_law 614 rfl) rfl rfl rfl (by rw [zm_Mo_chosen]; rfl) (by rw [zm_Mo_chosen]; rfl) rfl
set_option maxRecDepth 100000 in
theorem f_La_law_617 : zF d x_La_law 617 [l0, l1, l2, l3] (zi b :: zi a :: st) w M Q ↔ (if z32 a = z32 b then zF d x_La_law 1879 [l0, l1, l2, l3] st w M Q else zF d x_La_law 620 [l0, l1, l2, l3] st w M Q) := zG_ifP (zh_La_law 617 rfl) rfl rfl rfl decide_eq_true_iff
set_option maxRecDepth 100000 in
theorem f_La_law_620 : zF d x_La_law 620 [l0, l1, l2, l3] st w M Q ↔ zF d x_La_law 621 [l0, l1, l2, l3] (zi (0) :: st) w M Q := zG_stk (zh_La_law 620 rfl) rfl rfl
set_option maxRecDepth 100000 in
theorem f_La_law_621 : zF d x_La_law 621 [l0, l1, l2, l3] [zi a] w M Q ↔ ((a = 0 ∨ a = 1) ∧ Q (some (zi a)) w M) := zG_prR (zh_La_law 621 rfl) zb_La_law
set_option maxRecDepth 100000 in
theorem f_La_law_622 : zF d x_La_law 622 [l0, zr k, l2, l3] st w M Q ↔ zF d x_La_law 623 [l0, zr k, l2, l3] (zr k :: st) w M Q := zG_loc (zh_La_law 622 rfl) rfl rfl rfl
set_option maxRecDepth 100000 in
theorem f_La_law_623 : zF d x_La_law 623 [zr k, l1, l2, l3] st w M Q ↔ zF d x_La_law 624 [zr k, l1, l2, l3] (zr k :: st) w M Q := zG_loc (zh_La_law 623 rfl) rfl rfl rfl
set_option maxRecDepth 100000 in
theorem f_La_law_624 : zF d x_La_law 624 [l0, l1, l2, zi a] st w M Q ↔ zF d x_La_law 625 [l0, l1, l2, zi a] (zi a :: st) w M Q := zG_loc (zh_La_law 624 rfl) rfl rfl rfl
set_option maxRecDepth 100000 in
theorem f_La_law_625 : zF d x_La_law 625 [l0, l1, l2, l3] st w M Q ↔ zF d x_La_law 626 [l0, l1, l2, l3] (zi (1) :: st) w M Q := zG_stk (zh_La_law 625 rfl) rfl rfl
set_option maxRecDepth 100000 in
theorem f_La_law_626 : zF d x_La_law 626 [l0, l1, l2, l3] (zi b :: zi a :: st) w M Q ↔ zF d x_La_law 627 [l0, l1, l2, l3] (zi (a + b) :: st) w M Q := zG_stk (zh_La_law 626 rfl) rfl rfl
set_option maxRecDepth 100000 in
theorem f_La_law_627 : zF d x_La_law 627 [l0, l1, l2, l3] (zi a :: zr k :: st) w M Q ↔ (zA w k 0 (z32 a) ∧ zF d x_La_law 628 [l0, l1, l2, l3] (zi (M k (z32 a).toNat) :: st) w M Q) := zG_iald (zh_La_law 627 rfl) rfl
set_option maxRecDepth 100000 in
theorem f_La_law_628 : zF d x_La_law 628 [zr k, l1, l2, l3] st w M Q ↔ zF d x_La_law 629 [zr k, l1, l2, l3] (zr k :: st) w M Q := zG_loc (zh_La_law 628 rfl) rfl rfl rfl
set_option maxRecDepth 100000 in
theorem f_La_law_629 : zF d x_La_law 629 [l0, l1, l2, zi a] st w M Q ↔ zF d x_La_law 630 [l0, l1, l2, zi a] (zi a :: st) w M Q := zG_loc (zh_La_law 629 rfl) rfl rfl rfl
set_option maxRecDepth 100000 in
theorem f_La_law_630 : zF d x_La_law 630 [l0, l1, l2, l3] st w M Q ↔ zF d x_La_law 631 [l0, l1, l2, l3] (zi (2) :: st) w M Q := zG_stk (zh_La_law 630 rfl) rfl rfl
set_option maxRecDepth 100000 in
theorem f_La_law_631 : zF d x_La_law 631 [l0, l1, l2, l3] (zi b :: zi a :: st) w M Q ↔ zF d x_La_law 632 [l0, l1, l2, l3] (zi (a + b) :: st) w M Q := zG_stk (zh_La_law 631 rfl) rfl rfl
set_option maxRecDepth 100000 in
theorem f_La_law_632 : zF d x_La_law 632 [l0, l1, l2, l3] (zi a :: zr k :: st) w M Q ↔ (zA w k 0 (z32 a) ∧ zF d x_La_law 633 [l0, l1, l2, l3] (zi (M k (z32 a).toNat) :: st) w M Q) := zG_iald (zh_La_law 632 rfl) rfl
set_option maxRecDepth 100000 in
theorem f_La_law_633 : zF d x_La_law 633 [l0, l1, l2, l3] (zi b :: zi a :: zr k :: st) w M Q ↔ (0 < d ∧ zwd st ≤ 8 ∧ ((zsh w k).1 = 0 ∧ (zsh w k).2.1 = 10) ∧ zF (d - 1) x_We_wheel 0 [zr k, zi a, zi b, zt, zt] [] w M (fun v w' M' => zF d x_La_law 636 [l0, l1, l2, l3] (v.toList ++ st) w' M' Q)) := zG_callO [zi b, zi a] (.inl rfl) (zh_La_law 633 rfl) rfl rfl rfl (by rw [zm_We_wheel]; rfl) (by rw [zm_We_wheel]; rfl) rfl
set_option maxRecDepth 100000 in
theorem f_La_law_636 : zF d x_La_law 636 [l0, l1, zr k, l3] st w M Q ↔ zF d x_La_law 637 [l0, l1, zr k, l3] (zr k :: st) w M Q := zG_loc (zh_La_law 636 rfl) rfl rfl rfl
set_option maxRecDepth 100000 in
theorem f_La_law_637 : zF d x_La_law 637 [zr k, l1, l2, l3] st w M Q ↔ zF d x_La_law 638 [zr k, l1, l2, l3] (zr k :: st) w M Q := zG_loc (zh_La_law 637 rfl) rfl rfl rfl
set_option maxRecDepth 100000 in
theorem f_La_law_638 : zF d x_La_law 638 [l0, l1, l2, zi a] st w M Q ↔ zF d x_La_law 639 [l0, l1, l2, zi a] (zi a :: st) w M Q := zG_loc (zh_La_law 638 rfl) rfl rfl rfl
set_option maxRecDepth 100000 in
theorem f_La_law_639 : zF d x_La_law 639 [l0, l1, l2, l3] st w M Q ↔ zF d x_La_law 640 [l0, l1, l2, l3] (zi (1) :: st) w M Q := zG_stk (zh_La_law 639 rfl) rfl rfl
set_option maxRecDepth 100000 in
theorem f_La_law_640 : zF d x_La_law 640 [l0, l1, l2, l3] (zi b :: zi a :: st) w M Q ↔ zF d x_La_law 641 [l0, l1, l2, l3] (zi (a + b) :: st) w M Q := zG_stk (zh_La_law 640 rfl) rfl rfl
set_option maxRecDepth 100000 in
theorem f_La_law_641 : zF d x_La_law 641 [l0, l1, l2, l3] (zi a :: zr k :: st) w M Q ↔ (zA w k 0 (z32 a) ∧ zF d x_La_law 642 [l0, l1, l2, l3] (zi (M k (z32 a).toNat) :: st) w M Q) := zG_iald (zh_La_law 641 rfl) rfl
set_option maxRecDepth 100000 in
theorem f_La_law_642 : zF d x_La_law 642 [zr k, l1, l2, l3] st w M Q ↔ zF d x_La_law 643 [zr k, l1, l2, l3] (zr k :: st) w M Q := zG_loc (zh_La_law 642 rfl) rfl rfl rfl
set_option maxRecDepth 100000 in
theorem f_La_law_643 : zF d x_La_law 643 [l0, l1, l2, zi a] st w M Q ↔ zF d x_La_law 644 [l0, l1, l2, zi a] (zi a :: st) w M Q := zG_loc (zh_La_law 643 rfl) rfl rfl rfl
set_option maxRecDepth 100000 in
theorem f_La_law_644 : zF d x_La_law 644 [l0, l1, l2, l3] st w M Q ↔ zF d x_La_law 645 [l0, l1, l2, l3] (zi (2) :: st) w M Q := zG_stk (zh_La_law 644 rfl) rfl rfl
set_option maxRecDepth 100000 in
theorem f_La_law_645 : zF d x_La_law 645 [l0, l1, l2, l3] (zi b :: zi a :: st) w M Q ↔ zF d x_La_law 646 [l0, l1, l2, l3] (zi (a + b) :: st) w M Q := zG_stk (zh_La_law 645 rfl) rfl rfl
set_option maxRecDepth 100000 in
theorem f_La_law_646 : zF d x_La_law 646 [l0, l1, l2, l3] (zi a :: zr k :: st) w M Q ↔ (zA w k 0 (z32 a) ∧ zF d x_La_law 647 [l0, l1, l2, l3] (zi (M k (z32 a).toNat) :: st) w M Q) := zG_iald (zh_La_law 646 rfl) rfl
set_option maxRecDepth 100000 in
theorem f_La_law_647 : zF d x_La_law 647 [l0, l1, l2, l3] (zi b :: zi a :: zr k :: st) w M Q ↔ (0 < d ∧ zwd st ≤ 8 ∧ ((zsh w k).1 = 0 ∧ (zsh w k).2.1 = 11) ∧ zF (d - 1) x_Mo_wheel 0 [zr k, zi a, zi b, zt] [] w M (fun v w' M' => zF d x_La_law 650 [l0, l1, l2, l3] (v.toList ++ st) w' M' Q)) := zG_callO [zi b, zi a] (.inl rfl) (zh_La_law 647 rfl) rfl rfl rfl (by rw [zm_Mo_wheel]; rfl) (by rw [zm_Mo_wheel]; rfl) rfl
set_option maxRecDepth 100000 in
theorem f_La_law_650 : zF d x_La_law 650 [l0, l1, l2, l3] (zi b :: zi a :: st) w M Q ↔ (if z32 a = z32 b then zF d x_La_law 1879 [l0, l1, l2, l3] st w M Q else zF d x_La_law 653 [l0, l1, l2, l3] st w M Q) := zG_ifP (zh_La_law 650 rfl) rfl rfl rfl decide_eq_true_iff
set_option maxRecDepth 100000 in
theorem f_La_law_653 : zF d x_La_law 653 [l0, l1, l2, l3] st w M Q ↔ zF d x_La_law 654 [l0, l1, l2, l3] (zi (0) :: st) w M Q := zG_stk (zh_La_law 653 rfl) rfl rfl
set_option maxRecDepth 100000 in
theorem f_La_law_654 : zF d x_La_law 654 [l0, l1, l2, l3] [zi a] w M Q ↔ ((a = 0 ∨ a = 1) ∧ Q (some (zi a)) w M) := zG_prR (zh_La_law 654 rfl) zb_La_law
set_option maxRecDepth 100000 in
theorem f_La_law_655 : zF d x_La_law 655 [l0, zr k, l2, l3] st w M Q ↔ zF d x_La_law 656 [l0, zr k, l2, l3] (zr k :: st) w M Q := zG_loc (zh_La_law 655 rfl) rfl rfl rfl
set_option maxRecDepth 100000 in
theorem f_La_law_656 : zF d x_La_law 656 [zr k, l1, l2, l3] st w M Q ↔ zF d x_La_law 657 [zr k, l1, l2, l3] (zr k :: st) w M Q := zG_loc (zh_La_law 656 rfl) rfl rfl rfl
set_option maxRecDepth 100000 in
theorem f_La_law_657 : zF d x_La_law 657 [l0, l1, l2, zi a] st w M Q ↔ zF d x_La_law 658 [l0, l1, l2, zi a] (zi a :: st) w M Q := zG_loc (zh_La_law 657 rfl) rfl rfl rfl
set_option maxRecDepth 100000 in
theorem f_La_law_658 : zF d x_La_law 658 [l0, l1, l2, l3] st w M Q ↔ zF d x_La_law 659 [l0, l1, l2, l3] (zi (1) :: st) w M Q := zG_stk (zh_La_law 658 rfl) rfl rfl
set_option maxRecDepth 100000 in
theorem f_La_law_659 : zF d x_La_law 659 [l0, l1, l2, l3] (zi b :: zi a :: st) w M Q ↔ zF d x_La_law 660 [l0, l1, l2, l3] (zi (a + b) :: st) w M Q := zG_stk (zh_La_law 659 rfl) rfl rfl
set_option maxRecDepth 100000 in
theorem f_La_law_660 : zF d x_La_law 660 [l0, l1, l2, l3] (zi a :: zr k :: st) w M Q ↔ (zA w k 0 (z32 a) ∧ zF d x_La_law 661 [l0, l1, l2, l3] (zi (M k (z32 a).toNat) :: st) w M Q) := zG_iald (zh_La_law 660 rfl) rfl
set_option maxRecDepth 100000 in
theorem f_La_law_661 : zF d x_La_law 661 [zr k, l1, l2, l3] st w M Q ↔ zF d x_La_law 662 [zr k, l1, l2, l3] (zr k :: st) w M Q := zG_loc (zh_La_law 661 rfl) rfl rfl rfl
set_option maxRecDepth 100000 in
theorem f_La_law_662 : zF d x_La_law 662 [l0, l1, l2, zi a] st w M Q ↔ zF d x_La_law 663 [l0, l1, l2, zi a] (zi a :: st) w M Q := zG_loc (zh_La_law 662 rfl) rfl rfl rfl
set_option maxRecDepth 100000 in
theorem f_La_law_663 : zF d x_La_law 663 [l0, l1, l2, l3] st w M Q ↔ zF d x_La_law 664 [l0, l1, l2, l3] (zi (2) :: st) w M Q := zG_stk (zh_La_law 663 rfl) rfl rfl
set_option maxRecDepth 100000 in
theorem f_La_law_664 : zF d x_La_law 664 [l0, l1, l2, l3] (zi b :: zi a :: st) w M Q ↔ zF d x_La_law 665 [l0, l1, l2, l3] (zi (a + b) :: st) w M Q := zG_stk (zh_La_law 664 rfl) rfl rfl
set_option maxRecDepth 100000 in
theorem f_La_law_665 : zF d x_La_law 665 [l0, l1, l2, l3] (zi a :: zr k :: st) w M Q ↔ (zA w k 0 (z32 a) ∧ zF d x_La_law 666 [l0, l1, l2, l3] (zi (M k (z32 a).toNat) :: st) w M Q) := zG_iald (zh_La_law 665 rfl) rfl
set_option maxRecDepth 100000 in
theorem f_La_law_666 : zF d x_La_law 666 [zr k, l1, l2, l3] st w M Q ↔ zF d x_La_law 667 [zr k, l1, l2, l3] (zr k :: st) w M Q := zG_loc (zh_La_law 666 rfl) rfl rfl rfl
set_option maxRecDepth 100000 in
theorem f_La_law_667 : zF d x_La_law 667 [l0, l1, l2, zi a] st w M Q ↔ zF d x_La_law 668 [l0, l1, l2, zi a] (zi a :: st) w M Q := zG_loc (zh_La_law 667 rfl) rfl rfl rfl
set_option maxRecDepth 100000 in
theorem f_La_law_668 : zF d x_La_law 668 [l0, l1, l2, l3] st w M Q ↔ zF d x_La_law 669 [l0, l1, l2, l3] (zi (3) :: st) w M Q := zG_stk (zh_La_law 668 rfl) rfl rfl
set_option maxRecDepth 100000 in
theorem f_La_law_669 : zF d x_La_law 669 [l0, l1, l2, l3] (zi b :: zi a :: st) w M Q ↔ zF d x_La_law 670 [l0, l1, l2, l3] (zi (a + b) :: st) w M Q := zG_stk (zh_La_law 669 rfl) rfl rfl
set_option maxRecDepth 100000 in
theorem f_La_law_670 : zF d x_La_law 670 [l0, l1, l2, l3] (zi a :: zr k :: st) w M Q ↔ (zA w k 0 (z32 a) ∧ zF d x_La_law 671 [l0, l1, l2, l3] (zi (M k (z32 a).toNat) :: st) w M Q) := zG_iald (zh_La_law 670 rfl) rfl
set_option maxRecDepth 100000 in
theorem f_La_law_671 : zF d x_La_law 671 [zr k, l1, l2, l3] st w M Q ↔ zF d x_La_law 672 [zr k, l1, l2, l3] (zr k :: st) w M Q := zG_loc (zh_La_law 671 rfl) rfl rfl rfl
set_option maxRecDepth 100000 in
theorem f_La_law_672 : zF d x_La_law 672 [l0, l1, l2, zi a] st w M Q ↔ zF d x_La_law 673 [l0, l1, l2, zi a] (zi a :: st) w M Q := zG_loc (zh_La_law 672 rfl) rfl rfl rfl
set_option maxRecDepth 100000 in
theorem f_La_law_673 : zF d x_La_law 673 [l0, l1, l2, l3] st w M Q ↔ zF d x_La_law 674 [l0, l1, l2, l3] (zi (4) :: st) w M Q := zG_stk (zh_La_law 673 rfl) rfl rfl
set_option maxRecDepth 100000 in
theorem f_La_law_674 : zF d x_La_law 674 [l0, l1, l2, l3] (zi b :: zi a :: st) w M Q ↔ zF d x_La_law 675 [l0, l1, l2, l3] (zi (a + b) :: st) w M Q := zG_stk (zh_La_law 674 rfl) rfl rfl
set_option maxRecDepth 100000 in
theorem f_La_law_675 : zF d x_La_law 675 [l0, l1, l2, l3] (zi a :: zr k :: st) w M Q ↔ (zA w k 0 (z32 a) ∧ zF d x_La_law 676 [l0, l1, l2, l3] (zi (M k (z32 a).toNat) :: st) w M Q) := zG_iald (zh_La_law 675 rfl) rfl
set_option maxRecDepth 100000 in
theorem f_La_law_676 : zF d x_La_law 676 [zr k, l1, l2, l3] st w M Q ↔ zF d x_La_law 677 [zr k, l1, l2, l3] (zr k :: st) w M Q := zG_loc (zh_La_law 676 rfl) rfl rfl rfl
set_option maxRecDepth 100000 in
theorem f_La_law_677 : zF d x_La_law 677 [l0, l1, l2, zi a] st w M Q ↔ zF d x_La_law 678 [l0, l1, l2, zi a] (zi a :: st) w M Q := zG_loc (zh_La_law 677 rfl) rfl rfl rfl
set_option maxRecDepth 100000 in
theorem f_La_law_678 : zF d x_La_law 678 [l0, l1, l2, l3] st w M Q ↔ zF d x_La_law 679 [l0, l1, l2, l3] (zi (5) :: st) w M Q := zG_stk (zh_La_law 678 rfl) rfl rfl
set_option maxRecDepth 100000 in
theorem f_La_law_679 : zF d x_La_law 679 [l0, l1, l2, l3] (zi b :: zi a :: st) w M Q ↔ zF d x_La_law 680 [l0, l1, l2, l3] (zi (a + b) :: st) w M Q := zG_stk (zh_La_law 679 rfl) rfl rfl
set_option maxRecDepth 100000 in
theorem f_La_law_680 : zF d x_La_law 680 [l0, l1, l2, l3] (zi a :: zr k :: st) w M Q ↔ (zA w k 0 (z32 a) ∧ zF d x_La_law 681 [l0, l1, l2, l3] (zi (M k (z32 a).toNat) :: st) w M Q) := zG_iald (zh_La_law 680 rfl) rfl
set_option maxRecDepth 100000 in
theorem f_La_law_681 : zF d x_La_law 681 [l0, l1, l2, l3] (zi f :: zi e :: zi c :: zi b :: zi a :: zr k :: st) w M Q ↔ (0 < d ∧ zwd st ≤ 8 ∧ ((zsh w k).1 = 0 ∧ (zsh w k).2.1 = 10) ∧ zF (d - 1) x_We_worst 0 [zr k, zi a, zi b, zi c, zi e, zi f] [] w M (fun v w' M' => zF d x_La_law 684 [l0, l1, l2, l3] (v.toList ++ st) w' M' Q)) := zG_callO [zi f, zi e, zi c, zi b, zi a] (.inl rfl) (zh_La_law 681 rfl) rfl rfl rfl (by rw [zm_We_worst]; rfl) (by rw [zm_We_worst]; rfl) rfl
set_option maxRecDepth 100000 in
theorem f_La_law_684 : zF d x_La_law 684 [l0, l1, zr k, l3] st w M Q ↔ zF d x_La_law 685 [l0, l1, zr k, l3] (zr k :: st) w M Q := zG_loc (zh_La_law 684 rfl) rfl rfl rfl
set_option maxRecDepth 100000 in
theorem f_La_law_685 : zF d x_La_law 685 [zr k, l1, l2, l3] st w M Q ↔ zF d x_La_law 686 [zr k, l1, l2, l3] (zr k :: st) w M Q := zG_loc (zh_La_law 685 rfl) rfl rfl rfl
set_option maxRecDepth 100000 in
theorem f_La_law_686 : zF d x_La_law 686 [l0, l1, l2, zi a] st w M Q ↔ zF d x_La_law 687 [l0, l1, l2, zi a] (zi a :: st) w M Q := zG_loc (zh_La_law 686 rfl) rfl rfl rfl
set_option maxRecDepth 100000 in
theorem f_La_law_687 : zF d x_La_law 687 [l0, l1, l2, l3] st w M Q ↔ zF d x_La_law 688 [l0, l1, l2, l3] (zi (1) :: st) w M Q := zG_stk (zh_La_law 687 rfl) rfl rfl
set_option maxRecDepth 100000 in
theorem f_La_law_688 : zF d x_La_law 688 [l0, l1, l2, l3] (zi b :: zi a :: st) w M Q ↔ zF d x_La_law 689 [l0, l1, l2, l3] (zi (a + b) :: st) w M Q := zG_stk (zh_La_law 688 rfl) rfl rfl
set_option maxRecDepth 100000 in
theorem f_La_law_689 : zF d x_La_law 689 [l0, l1, l2, l3] (zi a :: zr k :: st) w M Q ↔ (zA w k 0 (z32 a) ∧ zF d x_La_law 690 [l0, l1, l2, l3] (zi (M k (z32 a).toNat) :: st) w M Q) := zG_iald (zh_La_law 689 rfl) rfl
set_option maxRecDepth 100000 in
theorem f_La_law_690 : zF d x_La_law 690 [zr k, l1, l2, l3] st w M Q ↔ zF d x_La_law 691 [zr k, l1, l2, l3] (zr k :: st) w M Q := zG_loc (zh_La_law 690 rfl) rfl rfl rfl
set_option maxRecDepth 100000 in
theorem f_La_law_691 : zF d x_La_law 691 [l0, l1, l2, zi a] st w M Q ↔ zF d x_La_law 692 [l0, l1, l2, zi a] (zi a :: st) w M Q := zG_loc (zh_La_law 691 rfl) rfl rfl rfl
set_option maxRecDepth 100000 in
theorem f_La_law_692 : zF d x_La_law 692 [l0, l1, l2, l3] st w M Q ↔ zF d x_La_law 693 [l0, l1, l2, l3] (zi (2) :: st) w M Q := zG_stk (zh_La_law 692 rfl) rfl rfl
set_option maxRecDepth 100000 in
theorem f_La_law_693 : zF d x_La_law 693 [l0, l1, l2, l3] (zi b :: zi a :: st) w M Q ↔ zF d x_La_law 694 [l0, l1, l2, l3] (zi (a + b) :: st) w M Q := zG_stk (zh_La_law 693 rfl) rfl rfl
set_option maxRecDepth 100000 in
theorem f_La_law_694 : zF d x_La_law 694 [l0, l1, l2, l3] (zi a :: zr k :: st) w M Q ↔ (zA w k 0 (z32 a) ∧ zF d x_La_law 695 [l0, l1, l2, l3] (zi (M k (z32 a).toNat) :: st) w M Q) := zG_iald (zh_La_law 694 rfl) rfl
set_option maxRecDepth 100000 in
theorem f_La_law_695 : zF d x_La_law 695 [zr k, l1, l2, l3] st w M Q ↔ zF d x_La_law 696 [zr k, l1, l2, l3] (zr k :: st) w M Q := zG_loc (zh_La_law 695 rfl) rfl rfl rfl
set_option maxRecDepth 100000 in
theorem f_La_law_696 : zF d x_La_law 696 [l0, l1, l2, zi a] st w M Q ↔ zF d x_La_law 697 [l0, l1, l2, zi a] (zi a :: st) w M Q := zG_loc (zh_La_law 696 rfl) rfl rfl rfl
set_option maxRecDepth 100000 in
theorem f_La_law_697 : zF d x_La_law 697 [l0, l1, l2, l3] st w M Q ↔ zF d x_La_law 698 [l0, l1, l2, l3] (zi (3) :: st) w M Q := zG_stk (zh_La_law 697 rfl) rfl rfl
set_option maxRecDepth 100000 in
theorem f_La_law_698 : zF d x_La_law 698 [l0, l1, l2, l3] (zi b :: zi a :: st) w M Q ↔ zF d x_La_law 699 [l0, l1, l2, l3] (zi (a + b) :: st) w M Q := zG_stk (zh_La_law 698 rfl) rfl rfl
set_option maxRecDepth 100000 in
theorem f_La_law_699 : zF d x_La_law 699 [l0, l1, l2, l3] (zi a :: zr k :: st) w M Q ↔ (zA w k 0 (z32 a) ∧ zF d x_La_law 700 [l0, l1, l2, l3] (zi (M k (z32 a).toNat) :: st) w M Q) := zG_iald (zh_La_law 699 rfl) rfl
set_option maxRecDepth 100000 in
theorem f_La_law_700 : zF d x_La_law 700 [zr k, l1, l2, l3] st w M Q ↔ zF d x_La_law 701 [zr k, l1, l2, l3] (zr k :: st) w M Q := zG_loc (zh_La_law 700 rfl) rfl rfl rfl
set_option maxRecDepth 100000 in
theorem f_La_law_701 : zF d x_La_law 701 [l0, l1, l2, zi a] st w M Q ↔ zF d x_La_law 702 [l0, l1, l2, zi a] (zi a :: st) w M Q := zG_loc (zh_La_law 701 rfl) rfl rfl rfl
set_option maxRecDepth 100000 in
theorem f_La_law_702 : zF d x_La_law 702 [l0, l1, l2, l3] st w M Q ↔ zF d x_La_law 703 [l0, l1, l2, l3] (zi (4) :: st) w M Q := zG_stk (zh_La_law 702 rfl) rfl rfl
set_option maxRecDepth 100000 in
theorem f_La_law_703 : zF d x_La_law 703 [l0, l1, l2, l3] (zi b :: zi a :: st) w M Q ↔ zF d x_La_law 704 [l0, l1, l2, l3] (zi (a + b) :: st) w M Q := zG_stk (zh_La_law 703 rfl) rfl rfl
set_option maxRecDepth 100000 in
theorem f_La_law_704 : zF d x_La_law 704 [l0, l1, l2, l3] (zi a :: zr k :: st) w M Q ↔ (zA w k 0 (z32 a) ∧ zF d x_La_law 705 [l0, l1, l2, l3] (zi (M k (z32 a).toNat) :: st) w M Q) := zG_iald (zh_La_law 704 rfl) rfl
set_option maxRecDepth 100000 in
theorem f_La_law_705 : zF d x_La_law 705 [zr k, l1, l2, l3] st w M Q ↔ zF d x_La_law 706 [zr k, l1, l2, l3] (zr k :: st) w M Q := zG_loc (zh_La_law 705 rfl) rfl rfl rfl
set_option maxRecDepth 100000 in
theorem f_La_law_706 : zF d x_La_law 706 [l0, l1, l2, zi a] st w M Q ↔ zF d x_La_law 707 [l0, l1, l2, zi a] (zi a :: st) w M Q := zG_loc (zh_La_law 706 rfl) rfl rfl rfl
set_option maxRecDepth 100000 in
theorem f_La_law_707 : zF d x_La_law 707 [l0, l1, l2, l3] st w M Q ↔ zF d x_La_law 708 [l0, l1, l2, l3] (zi (5) :: st) w M Q := zG_stk (zh_La_law 707 rfl) rfl rfl
set_option maxRecDepth 100000 in
theorem f_La_law_708 : zF d x_La_law 708 [l0, l1, l2, l3] (zi b :: zi a :: st) w M Q ↔ zF d x_La_law 709 [l0, l1, l2, l3] (zi (a + b) :: st) w M Q := zG_stk (zh_La_law 708 rfl) rfl rfl
set_option maxRecDepth 100000 in
theorem f_La_law_709 : zF d x_La_law 709 [l0, l1, l2, l3] (zi a :: zr k :: st) w M Q ↔ (zA w k 0 (z32 a) ∧ zF d x_La_law 710 [l0, l1, l2, l3] (zi (M k (z32 a).toNat) :: st) w M Q) := zG_iald (zh_La_law 709 rfl) rfl
set_option maxRecDepth 100000 in
theorem f_La_law_710 : zF d x_La_law 710 [l0, l1, l2, l3] (zi f :: zi e :: zi c :: zi b :: zi a :: zr k :: st) w M Q ↔ (0 < d ∧ zwd st ≤ 8 ∧ ((zsh w k).1 = 0 ∧ (zsh w k).2.1 = 11) ∧ zF (d - 1) x_Mo_worst 0 [zr k, zi a, zi b, zi c, zi e, zi f] [] w M (fun v w' M' => zF d x_La_law 713 [l0, l1, l2, l3] (v.toList ++ st) w' M' Q)) := zG_callO [zi f, zi e, zi c, zi b, zi a] (.inl rfl) (zh_La_law 710 rfl) rfl rfl rfl (by rw [zm_Mo_worst]; rfl) (by rw [zm_Mo_worst]; rfl) rfl
set_option maxRecDepth 100000 in
theorem f_La_law_713 : zF d x_La_law 713 [l0, l1, l2, l3] (zi b :: zi a :: st) w M Q ↔ (if z32 a = z32 b then zF d x_La_law 1879 [l0, l1, l2, l3] st w M Q else zF d x_La_law 716 [l0, l1, l2, l3] st w M Q) := zG_ifP (zh_La_law 713 rfl) rfl rfl rfl decide_eq_true_iff
set_option maxRecDepth 100000 in
theorem f_La_law_716 : zF d x_La_law 716 [l0, l1, l2, l3] st w M Q ↔ zF d x_La_law 717 [l0, l1, l2, l3] (zi (0) :: st) w M Q := zG_stk (zh_La_law 716 rfl) rfl rfl
set_option maxRecDepth 100000 in
theorem f_La_law_717 : zF d x_La_law 717 [l0, l1, l2, l3] [zi a] w M Q ↔ ((a = 0 ∨ a = 1) ∧ Q (some (zi a)) w M) := zG_prR (zh_La_law 717 rfl) zb_La_law
set_option maxRecDepth 100000 in
theorem f_La_law_718 : zF d x_La_law 718 [l0, zr k, l2, l3] st w M Q ↔ zF d x_La_law 719 [l0, zr k, l2, l3] (zr k :: st) w M Q := zG_loc (zh_La_law 718 rfl) rfl rfl rfl
set_option maxRecDepth 100000 in
theorem f_La_law_719 : zF d x_La_law 719 [zr k, l1, l2, l3] st w M Q ↔ zF d x_La_law 720 [zr k, l1, l2, l3] (zr k :: st) w M Q := zG_loc (zh_La_law 719 rfl) rfl rfl rfl
set_option maxRecDepth 100000 in
theorem f_La_law_720 : zF d x_La_law 720 [l0, l1, l2, zi a] st w M Q ↔ zF d x_La_law 721 [l0, l1, l2, zi a] (zi a :: st) w M Q := zG_loc (zh_La_law 720 rfl) rfl rfl rfl
set_option maxRecDepth 100000 in
theorem f_La_law_721 : zF d x_La_law 721 [l0, l1, l2, l3] st w M Q ↔ zF d x_La_law 722 [l0, l1, l2, l3] (zi (1) :: st) w M Q := zG_stk (zh_La_law 721 rfl) rfl rfl
set_option maxRecDepth 100000 in
theorem f_La_law_722 : zF d x_La_law 722 [l0, l1, l2, l3] (zi b :: zi a :: st) w M Q ↔ zF d x_La_law 723 [l0, l1, l2, l3] (zi (a + b) :: st) w M Q := zG_stk (zh_La_law 722 rfl) rfl rfl
set_option maxRecDepth 100000 in
theorem f_La_law_723 : zF d x_La_law 723 [l0, l1, l2, l3] (zi a :: zr k :: st) w M Q ↔ (zA w k 0 (z32 a) ∧ zF d x_La_law 724 [l0, l1, l2, l3] (zi (M k (z32 a).toNat) :: st) w M Q) := zG_iald (zh_La_law 723 rfl) rfl
set_option maxRecDepth 100000 in
theorem f_La_law_724 : zF d x_La_law 724 [zr k, l1, l2, l3] st w M Q ↔ zF d x_La_law 725 [zr k, l1, l2, l3] (zr k :: st) w M Q := zG_loc (zh_La_law 724 rfl) rfl rfl rfl
set_option maxRecDepth 100000 in
theorem f_La_law_725 : zF d x_La_law 725 [l0, l1, l2, zi a] st w M Q ↔ zF d x_La_law 726 [l0, l1, l2, zi a] (zi a :: st) w M Q := zG_loc (zh_La_law 725 rfl) rfl rfl rfl
set_option maxRecDepth 100000 in
theorem f_La_law_726 : zF d x_La_law 726 [l0, l1, l2, l3] st w M Q ↔ zF d x_La_law 727 [l0, l1, l2, l3] (zi (2) :: st) w M Q := zG_stk (zh_La_law 726 rfl) rfl rfl
set_option maxRecDepth 100000 in
theorem f_La_law_727 : zF d x_La_law 727 [l0, l1, l2, l3] (zi b :: zi a :: st) w M Q ↔ zF d x_La_law 728 [l0, l1, l2, l3] (zi (a + b) :: st) w M Q := zG_stk (zh_La_law 727 rfl) rfl rfl
set_option maxRecDepth 100000 in
theorem f_La_law_728 : zF d x_La_law 728 [l0, l1, l2, l3] (zi a :: zr k :: st) w M Q ↔ (zA w k 0 (z32 a) ∧ zF d x_La_law 729 [l0, l1, l2, l3] (zi (M k (z32 a).toNat) :: st) w M Q) := zG_iald (zh_La_law 728 rfl) rfl
set_option maxRecDepth 100000 in
theorem f_La_law_729 : zF d x_La_law 729 [zr k, l1, l2, l3] st w M Q ↔ zF d x_La_law 730 [zr k, l1, l2, l3] (zr k :: st) w M Q := zG_loc (zh_La_law 729 rfl) rfl rfl rfl
set_option maxRecDepth 100000 in
theorem f_La_law_730 : zF d x_La_law 730 [l0, l1, l2, zi a] st w M Q ↔ zF d x_La_law 731 [l0, l1, l2, zi a] (zi a :: st) w M Q := zG_loc (zh_La_law 730 rfl) rfl rfl rfl
set_option maxRecDepth 100000 in
theorem f_La_law_731 : zF d x_La_law 731 [l0, l1, l2, l3] st w M Q ↔ zF d x_La_law 732 [l0, l1, l2, l3] (zi (3) :: st) w M Q := zG_stk (zh_La_law 731 rfl) rfl rfl
set_option maxRecDepth 100000 in
theorem f_La_law_732 : zF d x_La_law 732 [l0, l1, l2, l3] (zi b :: zi a :: st) w M Q ↔ zF d x_La_law 733 [l0, l1, l2, l3] (zi (a + b) :: st) w M Q := zG_stk (zh_La_law 732 rfl) rfl rfl
set_option maxRecDepth 100000 in
theorem f_La_law_733 : zF d x_La_law 733 [l0, l1, l2, l3] (zi a :: zr k :: st) w M Q ↔ (zA w k 0 (z32 a) ∧ zF d x_La_law 734 [l0, l1, l2, l3] (zi (M k (z32 a).toNat) :: st) w M Q) := zG_iald (zh_La_law 733 rfl) rfl
set_option maxRecDepth 100000 in
theorem f_La_law_734 : zF d x_La_law 734 [zr k, l1, l2, l3] st w M Q ↔ zF d x_La_law 735 [zr k, l1, l2, l3] (zr k :: st) w M Q := zG_loc (zh_La_law 734 rfl) rfl rfl rfl
set_option maxRecDepth 100000 in
theorem f_La_law_735 : zF d x_La_law 735 [l0, l1, l2, zi a] st w M Q ↔ zF d x_La_law 736 [l0, l1, l2, zi a] (zi a :: st) w M Q := zG_loc (zh_La_law 735 rfl) rfl rfl rfl
set_option maxRecDepth 100000 in
theorem f_La_law_736 : zF d x_La_law 736 [l0, l1, l2, l3] st w M Q ↔ zF d x_La_law 737 [l0, l1, l2, l3] (zi (4) :: st) w M Q := zG_stk (zh_La_law 736 rfl) rfl rfl
set_option maxRecDepth 100000 in
theorem f_La_law_737 : zF d x_La_law 737 [l0, l1, l2, l3] (zi b :: zi a :: st) w M Q ↔ zF d x_La_law 738 [l0, l1, l2, l3] (zi (a + b) :: st) w M Q := zG_stk (zh_La_law 737 rfl) rfl rfl
set_option maxRecDepth 100000 in
theorem f_La_law_738 : zF d x_La_law 738 [l0, l1, l2, l3] (zi a :: zr k :: st) w M Q ↔ (zA w k 0 (z32 a) ∧ zF d x_La_law 739 [l0, l1, l2, l3] (zi (M k (z32 a).toNat) :: st) w M Q) := zG_iald (zh_La_law 738 rfl) rfl
set_option maxRecDepth 100000 in
theorem f_La_law_739 : zF d x_La_law 739 [zr k, l1, l2, l3] st w M Q ↔ zF d x_La_law 740 [zr k, l1, l2, l3] (zr k :: st) w M Q := zG_loc (zh_La_law 739 rfl) rfl rfl rfl
set_option maxRecDepth 100000 in
theorem f_La_law_740 : zF d x_La_law 740 [l0, l1, l2, zi a] st w M Q ↔ zF d x_La_law 741 [l0, l1, l2, zi a] (zi a :: st) w M Q := zG_loc (zh_La_law 740 rfl) rfl rfl rfl
set_option maxRecDepth 100000 in
theorem f_La_law_741 : zF d x_La_law 741 [l0, l1, l2, l3] st w M Q ↔ zF d x_La_law 742 [l0, l1, l2, l3] (zi (5) :: st) w M Q := zG_stk (zh_La_law 741 rfl) rfl rfl
set_option maxRecDepth 100000 in
theorem f_La_law_742 : zF d x_La_law 742 [l0, l1, l2, l3] (zi b :: zi a :: st) w M Q ↔ zF d x_La_law 743 [l0, l1, l2, l3] (zi (a + b) :: st) w M Q := zG_stk (zh_La_law 742 rfl) rfl rfl
set_option maxRecDepth 100000 in
theorem f_La_law_743 : zF d x_La_law 743 [l0, l1, l2, l3] (zi a :: zr k :: st) w M Q ↔ (zA w k 0 (z32 a) ∧ zF d x_La_law 744 [l0, l1, l2, l3] (zi (M k (z32 a).toNat) :: st) w M Q) := zG_iald (zh_La_law 743 rfl) rfl
set_option maxRecDepth 100000 in
theorem f_La_law_744 : zF d x_La_law 744 [l0, l1, l2, l3] (zi f :: zi e :: zi c :: zi b :: zi a :: zr k :: st) w M Q ↔ (0 < d ∧ zwd st ≤ 8 ∧ ((zsh w k).1 = 0 ∧ (zsh w k).2.1 = 10) ∧ zF (d - 1) x_We_call 0 [zr k, zi a, zi b, zi c, zi e, zi f] [] w M (fun v w' M' => zF d x_La_law 747 [l0, l1, l2, l3] (v.toList ++ st) w' M' Q)) := zG_callO [zi f, zi e, zi c, zi b, zi a] (.inl rfl) (zh_La_law 744 rfl) rfl rfl rfl (by rw [zm_We_call]; rfl) (by rw [zm_We_call]; rfl) rfl
set_option maxRecDepth 100000 in
theorem f_La_law_747 : zF d x_La_law 747 [l0, l1, zr k, l3] st w M Q ↔ zF d x_La_law 748 [l0, l1, zr k, l3] (zr k :: st) w M Q := zG_loc (zh_La_law 747 rfl) rfl rfl rfl
set_option maxRecDepth 100000 in
theorem f_La_law_748 : zF d x_La_law 748 [zr k, l1, l2, l3] st w M Q ↔ zF d x_La_law 749 [zr k, l1, l2, l3] (zr k :: st) w M Q := zG_loc (zh_La_law 748 rfl) rfl rfl rfl
set_option maxRecDepth 100000 in
theorem f_La_law_749 : zF d x_La_law 749 [l0, l1, l2, zi a] st w M Q ↔ zF d x_La_law 750 [l0, l1, l2, zi a] (zi a :: st) w M Q := zG_loc (zh_La_law 749 rfl) rfl rfl rfl
set_option maxRecDepth 100000 in
theorem f_La_law_750 : zF d x_La_law 750 [l0, l1, l2, l3] st w M Q ↔ zF d x_La_law 751 [l0, l1, l2, l3] (zi (1) :: st) w M Q := zG_stk (zh_La_law 750 rfl) rfl rfl
set_option maxRecDepth 100000 in
theorem f_La_law_751 : zF d x_La_law 751 [l0, l1, l2, l3] (zi b :: zi a :: st) w M Q ↔ zF d x_La_law 752 [l0, l1, l2, l3] (zi (a + b) :: st) w M Q := zG_stk (zh_La_law 751 rfl) rfl rfl
set_option maxRecDepth 100000 in
theorem f_La_law_752 : zF d x_La_law 752 [l0, l1, l2, l3] (zi a :: zr k :: st) w M Q ↔ (zA w k 0 (z32 a) ∧ zF d x_La_law 753 [l0, l1, l2, l3] (zi (M k (z32 a).toNat) :: st) w M Q) := zG_iald (zh_La_law 752 rfl) rfl
set_option maxRecDepth 100000 in
theorem f_La_law_753 : zF d x_La_law 753 [zr k, l1, l2, l3] st w M Q ↔ zF d x_La_law 754 [zr k, l1, l2, l3] (zr k :: st) w M Q := zG_loc (zh_La_law 753 rfl) rfl rfl rfl
set_option maxRecDepth 100000 in
theorem f_La_law_754 : zF d x_La_law 754 [l0, l1, l2, zi a] st w M Q ↔ zF d x_La_law 755 [l0, l1, l2, zi a] (zi a :: st) w M Q := zG_loc (zh_La_law 754 rfl) rfl rfl rfl
set_option maxRecDepth 100000 in
theorem f_La_law_755 : zF d x_La_law 755 [l0, l1, l2, l3] st w M Q ↔ zF d x_La_law 756 [l0, l1, l2, l3] (zi (2) :: st) w M Q := zG_stk (zh_La_law 755 rfl) rfl rfl
set_option maxRecDepth 100000 in
theorem f_La_law_756 : zF d x_La_law 756 [l0, l1, l2, l3] (zi b :: zi a :: st) w M Q ↔ zF d x_La_law 757 [l0, l1, l2, l3] (zi (a + b) :: st) w M Q := zG_stk (zh_La_law 756 rfl) rfl rfl
set_option maxRecDepth 100000 in
theorem f_La_law_757 : zF d x_La_law 757 [l0, l1, l2, l3] (zi a :: zr k :: st) w M Q ↔ (zA w k 0 (z32 a) ∧ zF d x_La_law 758 [l0, l1, l2, l3] (zi (M k (z32 a).toNat) :: st) w M Q) := zG_iald (zh_La_law 757 rfl) rfl
set_option maxRecDepth 100000 in
theorem f_La_law_758 : zF d x_La_law 758 [zr k, l1, l2, l3] st w M Q ↔ zF d x_La_law 759 [zr k, l1, l2, l3] (zr k :: st) w M Q := zG_loc (zh_La_law 758 rfl) rfl rfl rfl
set_option maxRecDepth 100000 in
theorem f_La_law_759 : zF d x_La_law 759 [l0, l1, l2, zi a] st w M Q ↔ zF d x_La_law 760 [l0, l1, l2, zi a] (zi a :: st) w M Q := zG_loc (zh_La_law 759 rfl) rfl rfl rfl
set_option maxRecDepth 100000 in
theorem f_La_law_760 : zF d x_La_law 760 [l0, l1, l2, l3] st w M Q ↔ zF d x_La_law 761 [l0, l1, l2, l3] (zi (3) :: st) w M Q := zG_stk (zh_La_law 760 rfl) rfl rfl
set_option maxRecDepth 100000 in
theorem f_La_law_761 : zF d x_La_law 761 [l0, l1, l2, l3] (zi b :: zi a :: st) w M Q ↔ zF d x_La_law 762 [l0, l1, l2, l3] (zi (a + b) :: st) w M Q := zG_stk (zh_La_law 761 rfl) rfl rfl
set_option maxRecDepth 100000 in
theorem f_La_law_762 : zF d x_La_law 762 [l0, l1, l2, l3] (zi a :: zr k :: st) w M Q ↔ (zA w k 0 (z32 a) ∧ zF d x_La_law 763 [l0, l1, l2, l3] (zi (M k (z32 a).toNat) :: st) w M Q) := zG_iald (zh_La_law 762 rfl) rfl
set_option maxRecDepth 100000 in
theorem f_La_law_763 : zF d x_La_law 763 [zr k, l1, l2, l3] st w M Q ↔ zF d x_La_law 764 [zr k, l1, l2, l3] (zr k :: st) w M Q := zG_loc (zh_La_law 763 rfl) rfl rfl rfl
set_option maxRecDepth 100000 in
theorem f_La_law_764 : zF d x_La_law 764 [l0, l1, l2, zi a] st w M Q ↔ zF d x_La_law 765 [l0, l1, l2, zi a] (zi a :: st) w M Q := zG_loc (zh_La_law 764 rfl) rfl rfl rfl
set_option maxRecDepth 100000 in
theorem f_La_law_765 : zF d x_La_law 765 [l0, l1, l2, l3] st w M Q ↔ zF d x_La_law 766 [l0, l1, l2, l3] (zi (4) :: st) w M Q := zG_stk (zh_La_law 765 rfl) rfl rfl
set_option maxRecDepth 100000 in
theorem f_La_law_766 : zF d x_La_law 766 [l0, l1, l2, l3] (zi b :: zi a :: st) w M Q ↔ zF d x_La_law 767 [l0, l1, l2, l3] (zi (a + b) :: st) w M Q := zG_stk (zh_La_law 766 rfl) rfl rfl
set_option maxRecDepth 100000 in
theorem f_La_law_767 : zF d x_La_law 767 [l0, l1, l2, l3] (zi a :: zr k :: st) w M Q ↔ (zA w k 0 (z32 a) ∧ zF d x_La_law 768 [l0, l1, l2, l3] (zi (M k (z32 a).toNat) :: st) w M Q) := zG_iald (zh_La_law 767 rfl) rfl
set_option maxRecDepth 100000 in
theorem f_La_law_768 : zF d x_La_law 768 [zr k, l1, l2, l3] st w M Q ↔ zF d x_La_law 769 [zr k, l1, l2, l3] (zr k :: st) w M Q := zG_loc (zh_La_law 768 rfl) rfl rfl rfl
set_option maxRecDepth 100000 in
theorem f_La_law_769 : zF d x_La_law 769 [l0, l1, l2, zi a] st w M Q ↔ zF d x_La_law 770 [l0, l1, l2, zi a] (zi a :: st) w M Q := zG_loc (zh_La_law 769 rfl) rfl rfl rfl
set_option maxRecDepth 100000 in
theorem f_La_law_770 : zF d x_La_law 770 [l0, l1, l2, l3] st w M Q ↔ zF d x_La_law 771 [l0, l1, l2, l3] (zi (5) :: st) w M Q := zG_stk (zh_La_law 770 rfl) rfl rfl
set_option maxRecDepth 100000 in
theorem f_La_law_771 : zF d x_La_law 771 [l0, l1, l2, l3] (zi b :: zi a :: st) w M Q ↔ zF d x_La_law 772 [l0, l1, l2, l3] (zi (a + b) :: st) w M Q := zG_stk (zh_La_law 771 rfl) rfl rfl
set_option maxRecDepth 100000 in
theorem f_La_law_772 : zF d x_La_law 772 [l0, l1, l2, l3] (zi a :: zr k :: st) w M Q ↔ (zA w k 0 (z32 a) ∧ zF d x_La_law 773 [l0, l1, l2, l3] (zi (M k (z32 a).toNat) :: st) w M Q) := zG_iald (zh_La_law 772 rfl) rfl
set_option maxRecDepth 100000 in
theorem f_La_law_773 : zF d x_La_law 773 [l0, l1, l2, l3] (zi f :: zi e :: zi c :: zi b :: zi a :: zr k :: st) w M Q ↔ (0 < d ∧ zwd st ≤ 8 ∧ ((zsh w k).1 = 0 ∧ (zsh w k).2.1 = 11) ∧ zF (d - 1) x_Mo_call 0 [zr k, zi a, zi b, zi c, zi e, zi f, zt] [] w M (fun v w' M' => zF d x_La_law 776 [l0, l1, l2, l3] (v.toList ++ st) w' M' Q)) := zG_callO [zi f, zi e, zi c, zi b, zi a] (.inl rfl) (zh_La_law 773 rfl) rfl rfl rfl (by rw [zm_Mo_call]; rfl) (by rw [zm_Mo_call]; rfl) rfl
set_option maxRecDepth 100000 in
theorem f_La_law_776 : zF d x_La_law 776 [l0, l1, l2, l3] (zi b :: zi a :: st) w M Q ↔ (if z32 a = z32 b then zF d x_La_law 1879 [l0, l1, l2, l3] st w M Q else zF d x_La_law 779 [l0, l1, l2, l3] st w M Q) := zG_ifP (zh_La_law 776 rfl) rfl rfl rfl decide_eq_true_iff
set_option maxRecDepth 100000 in
theorem f_La_law_779 : zF d x_La_law 779 [l0, l1, l2, l3] st w M Q ↔ zF d x_La_law 780 [l0, l1, l2, l3] (zi (0) :: st) w M Q := zG_stk (zh_La_law 779 rfl) rfl rfl
set_option maxRecDepth 100000 in
theorem f_La_law_780 : zF d x_La_law 780 [l0, l1, l2, l3] [zi a] w M Q ↔ ((a = 0 ∨ a = 1) ∧ Q (some (zi a)) w M) := zG_prR (zh_La_law 780 rfl) zb_La_law
set_option maxRecDepth 100000 in
theorem f_La_law_781 : zF d x_La_law 781 [l0, zr k, l2, l3] st w M Q ↔ zF d x_La_law 782 [l0, zr k, l2, l3] (zr k :: st) w M Q := zG_loc (zh_La_law 781 rfl) rfl rfl rfl
set_option maxRecDepth 100000 in
theorem f_La_law_782 : zF d x_La_law 782 [zr k, l1, l2, l3] st w M Q ↔ zF d x_La_law 783 [zr k, l1, l2, l3] (zr k :: st) w M Q := zG_loc (zh_La_law 782 rfl) rfl rfl rfl
set_option maxRecDepth 100000 in
theorem f_La_law_783 : zF d x_La_law 783 [l0, l1, l2, zi a] st w M Q ↔ zF d x_La_law 784 [l0, l1, l2, zi a] (zi a :: st) w M Q := zG_loc (zh_La_law 783 rfl) rfl rfl rfl
set_option maxRecDepth 100000 in
theorem f_La_law_784 : zF d x_La_law 784 [l0, l1, l2, l3] st w M Q ↔ zF d x_La_law 785 [l0, l1, l2, l3] (zi (1) :: st) w M Q := zG_stk (zh_La_law 784 rfl) rfl rfl
set_option maxRecDepth 100000 in
theorem f_La_law_785 : zF d x_La_law 785 [l0, l1, l2, l3] (zi b :: zi a :: st) w M Q ↔ zF d x_La_law 786 [l0, l1, l2, l3] (zi (a + b) :: st) w M Q := zG_stk (zh_La_law 785 rfl) rfl rfl
set_option maxRecDepth 100000 in
theorem f_La_law_786 : zF d x_La_law 786 [l0, l1, l2, l3] (zi a :: zr k :: st) w M Q ↔ (zA w k 0 (z32 a) ∧ zF d x_La_law 787 [l0, l1, l2, l3] (zi (M k (z32 a).toNat) :: st) w M Q) := zG_iald (zh_La_law 786 rfl) rfl
set_option maxRecDepth 100000 in
theorem f_La_law_787 : zF d x_La_law 787 [zr k, l1, l2, l3] st w M Q ↔ zF d x_La_law 788 [zr k, l1, l2, l3] (zr k :: st) w M Q := zG_loc (zh_La_law 787 rfl) rfl rfl rfl
set_option maxRecDepth 100000 in
theorem f_La_law_788 : zF d x_La_law 788 [l0, l1, l2, zi a] st w M Q ↔ zF d x_La_law 789 [l0, l1, l2, zi a] (zi a :: st) w M Q := zG_loc (zh_La_law 788 rfl) rfl rfl rfl
set_option maxRecDepth 100000 in
theorem f_La_law_789 : zF d x_La_law 789 [l0, l1, l2, l3] st w M Q ↔ zF d x_La_law 790 [l0, l1, l2, l3] (zi (2) :: st) w M Q := zG_stk (zh_La_law 789 rfl) rfl rfl
set_option maxRecDepth 100000 in
theorem f_La_law_790 : zF d x_La_law 790 [l0, l1, l2, l3] (zi b :: zi a :: st) w M Q ↔ zF d x_La_law 791 [l0, l1, l2, l3] (zi (a + b) :: st) w M Q := zG_stk (zh_La_law 790 rfl) rfl rfl
set_option maxRecDepth 100000 in
theorem f_La_law_791 : zF d x_La_law 791 [l0, l1, l2, l3] (zi a :: zr k :: st) w M Q ↔ (zA w k 0 (z32 a) ∧ zF d x_La_law 792 [l0, l1, l2, l3] (zi (M k (z32 a).toNat) :: st) w M Q) := zG_iald (zh_La_law 791 rfl) rfl
set_option maxRecDepth 100000 in
theorem f_La_law_792 : zF d x_La_law 792 [zr k, l1, l2, l3] st w M Q ↔ zF d x_La_law 793 [zr k, l1, l2, l3] (zr k :: st) w M Q := zG_loc (zh_La_law 792 rfl) rfl rfl rfl
set_option maxRecDepth 100000 in
theorem f_La_law_793 : zF d x_La_law 793 [l0, l1, l2, zi a] st w M Q ↔ zF d x_La_law 794 [l0, l1, l2, zi a] (zi a :: st) w M Q := zG_loc (zh_La_law 793 rfl) rfl rfl rfl
set_option maxRecDepth 100000 in
theorem f_La_law_794 : zF d x_La_law 794 [l0, l1, l2, l3] st w M Q ↔ zF d x_La_law 795 [l0, l1, l2, l3] (zi (3) :: st) w M Q := zG_stk (zh_La_law 794 rfl) rfl rfl
set_option maxRecDepth 100000 in
theorem f_La_law_795 : zF d x_La_law 795 [l0, l1, l2, l3] (zi b :: zi a :: st) w M Q ↔ zF d x_La_law 796 [l0, l1, l2, l3] (zi (a + b) :: st) w M Q := zG_stk (zh_La_law 795 rfl) rfl rfl
set_option maxRecDepth 100000 in
theorem f_La_law_796 : zF d x_La_law 796 [l0, l1, l2, l3] (zi a :: zr k :: st) w M Q ↔ (zA w k 0 (z32 a) ∧ zF d x_La_law 797 [l0, l1, l2, l3] (zi (M k (z32 a).toNat) :: st) w M Q) := zG_iald (zh_La_law 796 rfl) rfl
set_option maxRecDepth 100000 in
theorem f_La_law_797 : zF d x_La_law 797 [zr k, l1, l2, l3] st w M Q ↔ zF d x_La_law 798 [zr k, l1, l2, l3] (zr k :: st) w M Q := zG_loc (zh_La_law 797 rfl) rfl rfl rfl
set_option maxRecDepth 100000 in
theorem f_La_law_798 : zF d x_La_law 798 [l0, l1, l2, zi a] st w M Q ↔ zF d x_La_law 799 [l0, l1, l2, zi a] (zi a :: st) w M Q := zG_loc (zh_La_law 798 rfl) rfl rfl rfl
set_option maxRecDepth 100000 in
theorem f_La_law_799 : zF d x_La_law 799 [l0, l1, l2, l3] st w M Q ↔ zF d x_La_law 800 [l0, l1, l2, l3] (zi (4) :: st) w M Q := zG_stk (zh_La_law 799 rfl) rfl rfl
set_option maxRecDepth 100000 in
theorem f_La_law_800 : zF d x_La_law 800 [l0, l1, l2, l3] (zi b :: zi a :: st) w M Q ↔ zF d x_La_law 801 [l0, l1, l2, l3] (zi (a + b) :: st) w M Q := zG_stk (zh_La_law 800 rfl) rfl rfl
set_option maxRecDepth 100000 in
theorem f_La_law_801 : zF d x_La_law 801 [l0, l1, l2, l3] (zi a :: zr k :: st) w M Q ↔ (zA w k 0 (z32 a) ∧ zF d x_La_law 802 [l0, l1, l2, l3] (zi (M k (z32 a).toNat) :: st) w M Q) := zG_iald (zh_La_law 801 rfl) rfl
set_option maxRecDepth 100000 in
theorem f_La_law_802 : zF d x_La_law 802 [zr k, l1, l2, l3] st w M Q ↔ zF d x_La_law 803 [zr k, l1, l2, l3] (zr k :: st) w M Q := zG_loc (zh_La_law 802 rfl) rfl rfl rfl
set_option maxRecDepth 100000 in
theorem f_La_law_803 : zF d x_La_law 803 [l0, l1, l2, zi a] st w M Q ↔ zF d x_La_law 804 [l0, l1, l2, zi a] (zi a :: st) w M Q := zG_loc (zh_La_law 803 rfl) rfl rfl rfl
set_option maxRecDepth 100000 in
theorem f_La_law_804 : zF d x_La_law 804 [l0, l1, l2, l3] st w M Q ↔ zF d x_La_law 805 [l0, l1, l2, l3] (zi (5) :: st) w M Q := zG_stk (zh_La_law 804 rfl) rfl rfl
set_option maxRecDepth 100000 in
theorem f_La_law_805 : zF d x_La_law 805 [l0, l1, l2, l3] (zi b :: zi a :: st) w M Q ↔ zF d x_La_law 806 [l0, l1, l2, l3] (zi (a + b) :: st) w M Q := zG_stk (zh_La_law 805 rfl) rfl rfl
set_option maxRecDepth 100000 in
theorem f_La_law_806 : zF d x_La_law 806 [l0, l1, l2, l3] (zi a :: zr k :: st) w M Q ↔ (zA w k 0 (z32 a) ∧ zF d x_La_law 807 [l0, l1, l2, l3] (zi (M k (z32 a).toNat) :: st) w M Q) := zG_iald (zh_La_law 806 rfl) rfl
set_option maxRecDepth 100000 in
theorem f_La_law_807 : zF d x_La_law 807 [zr k, l1, l2, l3] st w M Q ↔ zF d x_La_law 808 [zr k, l1, l2, l3] (zr k :: st) w M Q := zG_loc (zh_La_law 807 rfl) rfl rfl rfl
set_option maxRecDepth 100000 in
theorem f_La_law_808 : zF d x_La_law 808 [l0, l1, l2, zi a] st w M Q ↔ zF d x_La_law 809 [l0, l1, l2, zi a] (zi a :: st) w M Q := zG_loc (zh_La_law 808 rfl) rfl rfl rfl
set_option maxRecDepth 100000 in
theorem f_La_law_809 : zF d x_La_law 809 [l0, l1, l2, l3] st w M Q ↔ zF d x_La_law 811 [l0, l1, l2, l3] (zi (6) :: st) w M Q := zG_stk (zh_La_law 809 rfl) rfl rfl
set_option maxRecDepth 100000 in
theorem f_La_law_811 : zF d x_La_law 811 [l0, l1, l2, l3] (zi b :: zi a :: st) w M Q ↔ zF d x_La_law 812 [l0, l1, l2, l3] (zi (a + b) :: st) w M Q := zG_stk (zh_La_law 811 rfl) rfl rfl
set_option maxRecDepth 100000 in
theorem f_La_law_812 : zF d x_La_law 812 [l0, l1, l2, l3] (zi a :: zr k :: st) w M Q ↔ (zA w k 0 (z32 a) ∧ zF d x_La_law 813 [l0, l1, l2, l3] (zi (M k (z32 a).toNat) :: st) w M Q) := zG_iald (zh_La_law 812 rfl) rfl
set_option maxRecDepth 100000 in
theorem f_La_law_813 : zF d x_La_law 813 [l0, l1, l2, l3] (zi h :: zi f :: zi e :: zi c :: zi b :: zi a :: zr k :: st) w M Q ↔ (0 < d ∧ zwd st ≤ 8 ∧ ((zsh w k).1 = 0 ∧ (zsh w k).2.1 = 10) ∧ zF (d - 1) x_We_give 0 [zr k, zi a, zi b, zi c, zi e, zi f, zi h] [] w M (fun v w' M' => zF d x_La_law 816 [l0, l1, l2, l3] (v.toList ++ st) w' M' Q)) := zG_callO [zi h, zi f, zi e, zi c, zi b, zi a] (.inl rfl) (zh_La_law 813 rfl) rfl rfl rfl (by rw [zm_We_give]; rfl) (by rw [zm_We_give]; rfl) rfl
set_option maxRecDepth 100000 in
theorem f_La_law_816 : zF d x_La_law 816 [l0, l1, zr k, l3] st w M Q ↔ zF d x_La_law 817 [l0, l1, zr k, l3] (zr k :: st) w M Q := zG_loc (zh_La_law 816 rfl) rfl rfl rfl
set_option maxRecDepth 100000 in
theorem f_La_law_817 : zF d x_La_law 817 [zr k, l1, l2, l3] st w M Q ↔ zF d x_La_law 818 [zr k, l1, l2, l3] (zr k :: st) w M Q := zG_loc (zh_La_law 817 rfl) rfl rfl rfl
set_option maxRecDepth 100000 in
theorem f_La_law_818 : zF d x_La_law 818 [l0, l1, l2, zi a] st w M Q ↔ zF d x_La_law 819 [l0, l1, l2, zi a] (zi a :: st) w M Q := zG_loc (zh_La_law 818 rfl) rfl rfl rfl
set_option maxRecDepth 100000 in
theorem f_La_law_819 : zF d x_La_law 819 [l0, l1, l2, l3] st w M Q ↔ zF d x_La_law 820 [l0, l1, l2, l3] (zi (1) :: st) w M Q := zG_stk (zh_La_law 819 rfl) rfl rfl
set_option maxRecDepth 100000 in
theorem f_La_law_820 : zF d x_La_law 820 [l0, l1, l2, l3] (zi b :: zi a :: st) w M Q ↔ zF d x_La_law 821 [l0, l1, l2, l3] (zi (a + b) :: st) w M Q := zG_stk (zh_La_law 820 rfl) rfl rfl
set_option maxRecDepth 100000 in
theorem f_La_law_821 : zF d x_La_law 821 [l0, l1, l2, l3] (zi a :: zr k :: st) w M Q ↔ (zA w k 0 (z32 a) ∧ zF d x_La_law 822 [l0, l1, l2, l3] (zi (M k (z32 a).toNat) :: st) w M Q) := zG_iald (zh_La_law 821 rfl) rfl
set_option maxRecDepth 100000 in
theorem f_La_law_822 : zF d x_La_law 822 [zr k, l1, l2, l3] st w M Q ↔ zF d x_La_law 823 [zr k, l1, l2, l3] (zr k :: st) w M Q := zG_loc (zh_La_law 822 rfl) rfl rfl rfl
set_option maxRecDepth 100000 in
theorem f_La_law_823 : zF d x_La_law 823 [l0, l1, l2, zi a] st w M Q ↔ zF d x_La_law 824 [l0, l1, l2, zi a] (zi a :: st) w M Q := zG_loc (zh_La_law 823 rfl) rfl rfl rfl
set_option maxRecDepth 100000 in
theorem f_La_law_824 : zF d x_La_law 824 [l0, l1, l2, l3] st w M Q ↔ zF d x_La_law 825 [l0, l1, l2, l3] (zi (2) :: st) w M Q := zG_stk (zh_La_law 824 rfl) rfl rfl
set_option maxRecDepth 100000 in
theorem f_La_law_825 : zF d x_La_law 825 [l0, l1, l2, l3] (zi b :: zi a :: st) w M Q ↔ zF d x_La_law 826 [l0, l1, l2, l3] (zi (a + b) :: st) w M Q := zG_stk (zh_La_law 825 rfl) rfl rfl
set_option maxRecDepth 100000 in
theorem f_La_law_826 : zF d x_La_law 826 [l0, l1, l2, l3] (zi a :: zr k :: st) w M Q ↔ (zA w k 0 (z32 a) ∧ zF d x_La_law 827 [l0, l1, l2, l3] (zi (M k (z32 a).toNat) :: st) w M Q) := zG_iald (zh_La_law 826 rfl) rfl
set_option maxRecDepth 100000 in
theorem f_La_law_827 : zF d x_La_law 827 [zr k, l1, l2, l3] st w M Q ↔ zF d x_La_law 828 [zr k, l1, l2, l3] (zr k :: st) w M Q := zG_loc (zh_La_law 827 rfl) rfl rfl rfl
set_option maxRecDepth 100000 in
theorem f_La_law_828 : zF d x_La_law 828 [l0, l1, l2, zi a] st w M Q ↔ zF d x_La_law 829 [l0, l1, l2, zi a] (zi a :: st) w M Q := zG_loc (zh_La_law 828 rfl) rfl rfl rfl
set_option maxRecDepth 100000 in
theorem f_La_law_829 : zF d x_La_law 829 [l0, l1, l2, l3] st w M Q ↔ zF d x_La_law 830 [l0, l1, l2, l3] (zi (3) :: st) w M Q := zG_stk (zh_La_law 829 rfl) rfl rfl
set_option maxRecDepth 100000 in
theorem f_La_law_830 : zF d x_La_law 830 [l0, l1, l2, l3] (zi b :: zi a :: st) w M Q ↔ zF d x_La_law 831 [l0, l1, l2, l3] (zi (a + b) :: st) w M Q := zG_stk (zh_La_law 830 rfl) rfl rfl
set_option maxRecDepth 100000 in
theorem f_La_law_831 : zF d x_La_law 831 [l0, l1, l2, l3] (zi a :: zr k :: st) w M Q ↔ (zA w k 0 (z32 a) ∧ zF d x_La_law 832 [l0, l1, l2, l3] (zi (M k (z32 a).toNat) :: st) w M Q) := zG_iald (zh_La_law 831 rfl) rfl
set_option maxRecDepth 100000 in
theorem f_La_law_832 : zF d x_La_law 832 [zr k, l1, l2, l3] st w M Q ↔ zF d x_La_law 833 [zr k, l1, l2, l3] (zr k :: st) w M Q := zG_loc (zh_La_law 832 rfl) rfl rfl rfl
set_option maxRecDepth 100000 in
theorem f_La_law_833 : zF d x_La_law 833 [l0, l1, l2, zi a] st w M Q ↔ zF d x_La_law 834 [l0, l1, l2, zi a] (zi a :: st) w M Q := zG_loc (zh_La_law 833 rfl) rfl rfl rfl
set_option maxRecDepth 100000 in
theorem f_La_law_834 : zF d x_La_law 834 [l0, l1, l2, l3] st w M Q ↔ zF d x_La_law 835 [l0, l1, l2, l3] (zi (4) :: st) w M Q := zG_stk (zh_La_law 834 rfl) rfl rfl
set_option maxRecDepth 100000 in
theorem f_La_law_835 : zF d x_La_law 835 [l0, l1, l2, l3] (zi b :: zi a :: st) w M Q ↔ zF d x_La_law 836 [l0, l1, l2, l3] (zi (a + b) :: st) w M Q := zG_stk (zh_La_law 835 rfl) rfl rfl
set_option maxRecDepth 100000 in
theorem f_La_law_836 : zF d x_La_law 836 [l0, l1, l2, l3] (zi a :: zr k :: st) w M Q ↔ (zA w k 0 (z32 a) ∧ zF d x_La_law 837 [l0, l1, l2, l3] (zi (M k (z32 a).toNat) :: st) w M Q) := zG_iald (zh_La_law 836 rfl) rfl
set_option maxRecDepth 100000 in
theorem f_La_law_837 : zF d x_La_law 837 [zr k, l1, l2, l3] st w M Q ↔ zF d x_La_law 838 [zr k, l1, l2, l3] (zr k :: st) w M Q := zG_loc (zh_La_law 837 rfl) rfl rfl rfl
set_option maxRecDepth 100000 in
theorem f_La_law_838 : zF d x_La_law 838 [l0, l1, l2, zi a] st w M Q ↔ zF d x_La_law 839 [l0, l1, l2, zi a] (zi a :: st) w M Q := zG_loc (zh_La_law 838 rfl) rfl rfl rfl
set_option maxRecDepth 100000 in
theorem f_La_law_839 : zF d x_La_law 839 [l0, l1, l2, l3] st w M Q ↔ zF d x_La_law 840 [l0, l1, l2, l3] (zi (5) :: st) w M Q := zG_stk (zh_La_law 839 rfl) rfl rfl
set_option maxRecDepth 100000 in
theorem f_La_law_840 : zF d x_La_law 840 [l0, l1, l2, l3] (zi b :: zi a :: st) w M Q ↔ zF d x_La_law 841 [l0, l1, l2, l3] (zi (a + b) :: st) w M Q := zG_stk (zh_La_law 840 rfl) rfl rfl
set_option maxRecDepth 100000 in
theorem f_La_law_841 : zF d x_La_law 841 [l0, l1, l2, l3] (zi a :: zr k :: st) w M Q ↔ (zA w k 0 (z32 a) ∧ zF d x_La_law 842 [l0, l1, l2, l3] (zi (M k (z32 a).toNat) :: st) w M Q) := zG_iald (zh_La_law 841 rfl) rfl
set_option maxRecDepth 100000 in
theorem f_La_law_842 : zF d x_La_law 842 [zr k, l1, l2, l3] st w M Q ↔ zF d x_La_law 843 [zr k, l1, l2, l3] (zr k :: st) w M Q := zG_loc (zh_La_law 842 rfl) rfl rfl rfl
set_option maxRecDepth 100000 in
theorem f_La_law_843 : zF d x_La_law 843 [l0, l1, l2, zi a] st w M Q ↔ zF d x_La_law 844 [l0, l1, l2, zi a] (zi a :: st) w M Q := zG_loc (zh_La_law 843 rfl) rfl rfl rfl
set_option maxRecDepth 100000 in
theorem f_La_law_844 : zF d x_La_law 844 [l0, l1, l2, l3] st w M Q ↔ zF d x_La_law 846 [l0, l1, l2, l3] (zi (6) :: st) w M Q := zG_stk (zh_La_law 844 rfl) rfl rfl
set_option maxRecDepth 100000 in
theorem f_La_law_846 : zF d x_La_law 846 [l0, l1, l2, l3] (zi b :: zi a :: st) w M Q ↔ zF d x_La_law 847 [l0, l1, l2, l3] (zi (a + b) :: st) w M Q := zG_stk (zh_La_law 846 rfl) rfl rfl
set_option maxRecDepth 100000 in
theorem f_La_law_847 : zF d x_La_law 847 [l0, l1, l2, l3] (zi a :: zr k :: st) w M Q ↔ (zA w k 0 (z32 a) ∧ zF d x_La_law 848 [l0, l1, l2, l3] (zi (M k (z32 a).toNat) :: st) w M Q) := zG_iald (zh_La_law 847 rfl) rfl
set_option maxRecDepth 100000 in
theorem f_La_law_848 : zF d x_La_law 848 [l0, l1, l2, l3] (zi h :: zi f :: zi e :: zi c :: zi b :: zi a :: zr k :: st) w M Q ↔ (0 < d ∧ zwd st ≤ 8 ∧ ((zsh w k).1 = 0 ∧ (zsh w k).2.1 = 11) ∧ zF (d - 1) x_Mo_give 0 [zr k, zi a, zi b, zi c, zi e, zi f, zi h, zt] [] w M (fun v w' M' => zF d x_La_law 851 [l0, l1, l2, l3] (v.toList ++ st) w' M' Q)) := zG_callO [zi h, zi f, zi e, zi c, zi b, zi a] (.inl rfl) (zh_La_law 848 rfl) rfl rfl rfl (by rw [zm_Mo_give]; rfl) (by rw [zm_Mo_give]; rfl) rfl
set_option maxRecDepth 100000 in
theorem f_La_law_851 : zF d x_La_law 851 [l0, l1, l2, l3] (zi b :: zi a :: st) w M Q ↔ (if z32 a = z32 b then zF d x_La_law 1879 [l0, l1, l2, l3] st w M Q else zF d x_La_law 854 [l0, l1, l2, l3] st w M Q) := zG_ifP (zh_La_law 851 rfl) rfl rfl rfl decide_eq_true_iff
set_option maxRecDepth 100000 in
theorem f_La_law_854 : zF d x_La_law 854 [l0, l1, l2, l3] st w M Q ↔ zF d x_La_law 855 [l0, l1, l2, l3] (zi (0) :: st) w M Q := zG_stk (zh_La_law 854 rfl) rfl rfl
set_option maxRecDepth 100000 in
theorem f_La_law_855 : zF d x_La_law 855 [l0, l1, l2, l3] [zi a] w M Q ↔ ((a = 0 ∨ a = 1) ∧ Q (some (zi a)) w M) := zG_prR (zh_La_law 855 rfl) zb_La_law
set_option maxRecDepth 100000 in
theorem f_La_law_856 : zF d x_La_law 856 [l0, zr k, l2, l3] st w M Q ↔ zF d x_La_law 857 [l0, zr k, l2, l3] (zr k :: st) w M Q := zG_loc (zh_La_law 856 rfl) rfl rfl rfl
set_option maxRecDepth 100000 in
theorem f_La_law_857 : zF d x_La_law 857 [zr k, l1, l2, l3] st w M Q ↔ zF d x_La_law 858 [zr k, l1, l2, l3] (zr k :: st) w M Q := zG_loc (zh_La_law 857 rfl) rfl rfl rfl
set_option maxRecDepth 100000 in
theorem f_La_law_858 : zF d x_La_law 858 [l0, l1, l2, zi a] st w M Q ↔ zF d x_La_law 859 [l0, l1, l2, zi a] (zi a :: st) w M Q := zG_loc (zh_La_law 858 rfl) rfl rfl rfl
set_option maxRecDepth 100000 in
theorem f_La_law_859 : zF d x_La_law 859 [l0, l1, l2, l3] st w M Q ↔ zF d x_La_law 860 [l0, l1, l2, l3] (zi (1) :: st) w M Q := zG_stk (zh_La_law 859 rfl) rfl rfl
set_option maxRecDepth 100000 in
theorem f_La_law_860 : zF d x_La_law 860 [l0, l1, l2, l3] (zi b :: zi a :: st) w M Q ↔ zF d x_La_law 861 [l0, l1, l2, l3] (zi (a + b) :: st) w M Q := zG_stk (zh_La_law 860 rfl) rfl rfl
set_option maxRecDepth 100000 in
theorem f_La_law_861 : zF d x_La_law 861 [l0, l1, l2, l3] (zi a :: zr k :: st) w M Q ↔ (zA w k 0 (z32 a) ∧ zF d x_La_law 862 [l0, l1, l2, l3] (zi (M k (z32 a).toNat) :: st) w M Q) := zG_iald (zh_La_law 861 rfl) rfl
set_option maxRecDepth 100000 in
theorem f_La_law_862 : zF d x_La_law 862 [zr k, l1, l2, l3] st w M Q ↔ zF d x_La_law 863 [zr k, l1, l2, l3] (zr k :: st) w M Q := zG_loc (zh_La_law 862 rfl) rfl rfl rfl
set_option maxRecDepth 100000 in
theorem f_La_law_863 : zF d x_La_law 863 [l0, l1, l2, zi a] st w M Q ↔ zF d x_La_law 864 [l0, l1, l2, zi a] (zi a :: st) w M Q := zG_loc (zh_La_law 863 rfl) rfl rfl rfl
set_option maxRecDepth 100000 in
theorem f_La_law_864 : zF d x_La_law 864 [l0, l1, l2, l3] st w M Q ↔ zF d x_La_law 865 [l0, l1, l2, l3] (zi (2) :: st) w M Q := zG_stk (zh_La_law 864 rfl) rfl rfl
set_option maxRecDepth 100000 in
theorem f_La_law_865 : zF d x_La_law 865 [l0, l1, l2, l3] (zi b :: zi a :: st) w M Q ↔ zF d x_La_law 866 [l0, l1, l2, l3] (zi (a + b) :: st) w M Q := zG_stk (zh_La_law 865 rfl) rfl rfl
set_option maxRecDepth 100000 in
theorem f_La_law_866 : zF d x_La_law 866 [l0, l1, l2, l3] (zi a :: zr k :: st) w M Q ↔ (zA w k 0 (z32 a) ∧ zF d x_La_law 867 [l0, l1, l2, l3] (zi (M k (z32 a).toNat) :: st) w M Q) := zG_iald (zh_La_law 866 rfl) rfl
set_option maxRecDepth 100000 in
theorem f_La_law_867 : zF d x_La_law 867 [zr k, l1, l2, l3] st w M Q ↔ zF d x_La_law 868 [zr k, l1, l2, l3] (zr k :: st) w M Q := zG_loc (zh_La_law 867 rfl) rfl rfl rfl
set_option maxRecDepth 100000 in
theorem f_La_law_868 : zF d x_La_law 868 [l0, l1, l2, zi a] st w M Q ↔ zF d x_La_law 869 [l0, l1, l2, zi a] (zi a :: st) w M Q := zG_loc (zh_La_law 868 rfl) rfl rfl rfl
set_option maxRecDepth 100000 in
theorem f_La_law_869 : zF d x_La_law 869 [l0, l1, l2, l3] st w M Q ↔ zF d x_La_law 870 [l0, l1, l2, l3] (zi (3) :: st) w M Q := zG_stk (zh_La_law 869 rfl) rfl rfl
set_option maxRecDepth 100000 in
theorem f_La_law_870 : zF d x_La_law 870 [l0, l1, l2, l3] (zi b :: zi a :: st) w M Q ↔ zF d x_La_law 871 [l0, l1, l2, l3] (zi (a + b) :: st) w M Q := zG_stk (zh_La_law 870 rfl) rfl rfl
set_option maxRecDepth 100000 in
theorem f_La_law_871 : zF d x_La_law 871 [l0, l1, l2, l3] (zi a :: zr k :: st) w M Q ↔ (zA w k 0 (z32 a) ∧ zF d x_La_law 872 [l0, l1, l2, l3] (zi (M k (z32 a).toNat) :: st) w M Q) := zG_iald (zh_La_law 871 rfl) rfl
set_option maxRecDepth 100000 in
theorem f_La_law_872 : zF d x_La_law 872 [zr k, l1, l2, l3] st w M Q ↔ zF d x_La_law 873 [zr k, l1, l2, l3] (zr k :: st) w M Q := zG_loc (zh_La_law 872 rfl) rfl rfl rfl
set_option maxRecDepth 100000 in
theorem f_La_law_873 : zF d x_La_law 873 [l0, l1, l2, zi a] st w M Q ↔ zF d x_La_law 874 [l0, l1, l2, zi a] (zi a :: st) w M Q := zG_loc (zh_La_law 873 rfl) rfl rfl rfl
set_option maxRecDepth 100000 in
theorem f_La_law_874 : zF d x_La_law 874 [l0, l1, l2, l3] st w M Q ↔ zF d x_La_law 875 [l0, l1, l2, l3] (zi (4) :: st) w M Q := zG_stk (zh_La_law 874 rfl) rfl rfl
set_option maxRecDepth 100000 in
theorem f_La_law_875 : zF d x_La_law 875 [l0, l1, l2, l3] (zi b :: zi a :: st) w M Q ↔ zF d x_La_law 876 [l0, l1, l2, l3] (zi (a + b) :: st) w M Q := zG_stk (zh_La_law 875 rfl) rfl rfl
set_option maxRecDepth 100000 in
theorem f_La_law_876 : zF d x_La_law 876 [l0, l1, l2, l3] (zi a :: zr k :: st) w M Q ↔ (zA w k 0 (z32 a) ∧ zF d x_La_law 877 [l0, l1, l2, l3] (zi (M k (z32 a).toNat) :: st) w M Q) := zG_iald (zh_La_law 876 rfl) rfl
set_option maxRecDepth 100000 in
theorem f_La_law_877 : zF d x_La_law 877 [zr k, l1, l2, l3] st w M Q ↔ zF d x_La_law 878 [zr k, l1, l2, l3] (zr k :: st) w M Q := zG_loc (zh_La_law 877 rfl) rfl rfl rfl
set_option maxRecDepth 100000 in
theorem f_La_law_878 : zF d x_La_law 878 [l0, l1, l2, zi a] st w M Q ↔ zF d x_La_law 879 [l0, l1, l2, zi a] (zi a :: st) w M Q := zG_loc (zh_La_law 878 rfl) rfl rfl rfl
set_option maxRecDepth 100000 in
theorem f_La_law_879 : zF d x_La_law 879 [l0, l1, l2, l3] st w M Q ↔ zF d x_La_law 880 [l0, l1, l2, l3] (zi (5) :: st) w M Q := zG_stk (zh_La_law 879 rfl) rfl rfl
set_option maxRecDepth 100000 in
theorem f_La_law_880 : zF d x_La_law 880 [l0, l1, l2, l3] (zi b :: zi a :: st) w M Q ↔ zF d x_La_law 881 [l0, l1, l2, l3] (zi (a + b) :: st) w M Q := zG_stk (zh_La_law 880 rfl) rfl rfl
set_option maxRecDepth 100000 in
theorem f_La_law_881 : zF d x_La_law 881 [l0, l1, l2, l3] (zi a :: zr k :: st) w M Q ↔ (zA w k 0 (z32 a) ∧ zF d x_La_law 882 [l0, l1, l2, l3] (zi (M k (z32 a).toNat) :: st) w M Q) := zG_iald (zh_La_law 881 rfl) rfl
set_option maxRecDepth 100000 in
theorem f_La_law_882 : zF d x_La_law 882 [l0, l1, l2, l3] (zi f :: zi e :: zi c :: zi b :: zi a :: zr k :: st) w M Q ↔ (0 < d ∧ zwd st ≤ 8 ∧ ((zsh w k).1 = 0 ∧ (zsh w k).2.1 = 10) ∧ zF (d - 1) x_We_begin 0 [zr k, zi a, zi b, zi c, zi e, zi f] [] w M (fun v w' M' => zF d x_La_law 885 [l0, l1, l2, l3] (v.toList ++ st) w' M' Q)) := zG_callO [zi f, zi e, zi c, zi b, zi a] (.inl rfl) (zh_La_law 882 rfl) rfl rfl rfl (by rw [zm_We_begin]; rfl) (by rw [zm_We_begin]; rfl) rfl
set_option maxRecDepth 100000 in
theorem f_La_law_885 : zF d x_La_law 885 [l0, l1, zr k, l3] st w M Q ↔ zF d x_La_law 886 [l0, l1, zr k, l3] (zr k :: st) w M Q := zG_loc (zh_La_law 885 rfl) rfl rfl rfl
set_option maxRecDepth 100000 in
theorem f_La_law_886 : zF d x_La_law 886 [zr k, l1, l2, l3] st w M Q ↔ zF d x_La_law 887 [zr k, l1, l2, l3] (zr k :: st) w M Q := zG_loc (zh_La_law 886 rfl) rfl rfl rfl
set_option maxRecDepth 100000 in
theorem f_La_law_887 : zF d x_La_law 887 [l0, l1, l2, zi a] st w M Q ↔ zF d x_La_law 888 [l0, l1, l2, zi a] (zi a :: st) w M Q := zG_loc (zh_La_law 887 rfl) rfl rfl rfl
set_option maxRecDepth 100000 in
theorem f_La_law_888 : zF d x_La_law 888 [l0, l1, l2, l3] st w M Q ↔ zF d x_La_law 889 [l0, l1, l2, l3] (zi (1) :: st) w M Q := zG_stk (zh_La_law 888 rfl) rfl rfl
set_option maxRecDepth 100000 in
theorem f_La_law_889 : zF d x_La_law 889 [l0, l1, l2, l3] (zi b :: zi a :: st) w M Q ↔ zF d x_La_law 890 [l0, l1, l2, l3] (zi (a + b) :: st) w M Q := zG_stk (zh_La_law 889 rfl) rfl rfl
set_option maxRecDepth 100000 in
theorem f_La_law_890 : zF d x_La_law 890 [l0, l1, l2, l3] (zi a :: zr k :: st) w M Q ↔ (zA w k 0 (z32 a) ∧ zF d x_La_law 891 [l0, l1, l2, l3] (zi (M k (z32 a).toNat) :: st) w M Q) := zG_iald (zh_La_law 890 rfl) rfl
set_option maxRecDepth 100000 in
theorem f_La_law_891 : zF d x_La_law 891 [zr k, l1, l2, l3] st w M Q ↔ zF d x_La_law 892 [zr k, l1, l2, l3] (zr k :: st) w M Q := zG_loc (zh_La_law 891 rfl) rfl rfl rfl
set_option maxRecDepth 100000 in
theorem f_La_law_892 : zF d x_La_law 892 [l0, l1, l2, zi a] st w M Q ↔ zF d x_La_law 893 [l0, l1, l2, zi a] (zi a :: st) w M Q := zG_loc (zh_La_law 892 rfl) rfl rfl rfl
set_option maxRecDepth 100000 in
theorem f_La_law_893 : zF d x_La_law 893 [l0, l1, l2, l3] st w M Q ↔ zF d x_La_law 894 [l0, l1, l2, l3] (zi (2) :: st) w M Q := zG_stk (zh_La_law 893 rfl) rfl rfl
set_option maxRecDepth 100000 in
theorem f_La_law_894 : zF d x_La_law 894 [l0, l1, l2, l3] (zi b :: zi a :: st) w M Q ↔ zF d x_La_law 895 [l0, l1, l2, l3] (zi (a + b) :: st) w M Q := zG_stk (zh_La_law 894 rfl) rfl rfl
set_option maxRecDepth 100000 in
theorem f_La_law_895 : zF d x_La_law 895 [l0, l1, l2, l3] (zi a :: zr k :: st) w M Q ↔ (zA w k 0 (z32 a) ∧ zF d x_La_law 896 [l0, l1, l2, l3] (zi (M k (z32 a).toNat) :: st) w M Q) := zG_iald (zh_La_law 895 rfl) rfl
set_option maxRecDepth 100000 in
theorem f_La_law_896 : zF d x_La_law 896 [zr k, l1, l2, l3] st w M Q ↔ zF d x_La_law 897 [zr k, l1, l2, l3] (zr k :: st) w M Q := zG_loc (zh_La_law 896 rfl) rfl rfl rfl
set_option maxRecDepth 100000 in
theorem f_La_law_897 : zF d x_La_law 897 [l0, l1, l2, zi a] st w M Q ↔ zF d x_La_law 898 [l0, l1, l2, zi a] (zi a :: st) w M Q := zG_loc (zh_La_law 897 rfl) rfl rfl rfl
set_option maxRecDepth 100000 in
theorem f_La_law_898 : zF d x_La_law 898 [l0, l1, l2, l3] st w M Q ↔ zF d x_La_law 899 [l0, l1, l2, l3] (zi (3) :: st) w M Q := zG_stk (zh_La_law 898 rfl) rfl rfl
set_option maxRecDepth 100000 in
theorem f_La_law_899 : zF d x_La_law 899 [l0, l1, l2, l3] (zi b :: zi a :: st) w M Q ↔ zF d x_La_law 900 [l0, l1, l2, l3] (zi (a + b) :: st) w M Q := zG_stk (zh_La_law 899 rfl) rfl rfl
set_option maxRecDepth 100000 in
theorem f_La_law_900 : zF d x_La_law 900 [l0, l1, l2, l3] (zi a :: zr k :: st) w M Q ↔ (zA w k 0 (z32 a) ∧ zF d x_La_law 901 [l0, l1, l2, l3] (zi (M k (z32 a).toNat) :: st) w M Q) := zG_iald (zh_La_law 900 rfl) rfl
set_option maxRecDepth 100000 in
theorem f_La_law_901 : zF d x_La_law 901 [zr k, l1, l2, l3] st w M Q ↔ zF d x_La_law 902 [zr k, l1, l2, l3] (zr k :: st) w M Q := zG_loc (zh_La_law 901 rfl) rfl rfl rfl
set_option maxRecDepth 100000 in
theorem f_La_law_902 : zF d x_La_law 902 [l0, l1, l2, zi a] st w M Q ↔ zF d x_La_law 903 [l0, l1, l2, zi a] (zi a :: st) w M Q := zG_loc (zh_La_law 902 rfl) rfl rfl rfl
set_option maxRecDepth 100000 in
theorem f_La_law_903 : zF d x_La_law 903 [l0, l1, l2, l3] st w M Q ↔ zF d x_La_law 904 [l0, l1, l2, l3] (zi (4) :: st) w M Q := zG_stk (zh_La_law 903 rfl) rfl rfl
set_option maxRecDepth 100000 in
theorem f_La_law_904 : zF d x_La_law 904 [l0, l1, l2, l3] (zi b :: zi a :: st) w M Q ↔ zF d x_La_law 905 [l0, l1, l2, l3] (zi (a + b) :: st) w M Q := zG_stk (zh_La_law 904 rfl) rfl rfl
set_option maxRecDepth 100000 in
theorem f_La_law_905 : zF d x_La_law 905 [l0, l1, l2, l3] (zi a :: zr k :: st) w M Q ↔ (zA w k 0 (z32 a) ∧ zF d x_La_law 906 [l0, l1, l2, l3] (zi (M k (z32 a).toNat) :: st) w M Q) := zG_iald (zh_La_law 905 rfl) rfl
set_option maxRecDepth 100000 in
theorem f_La_law_906 : zF d x_La_law 906 [zr k, l1, l2, l3] st w M Q ↔ zF d x_La_law 907 [zr k, l1, l2, l3] (zr k :: st) w M Q := zG_loc (zh_La_law 906 rfl) rfl rfl rfl
set_option maxRecDepth 100000 in
theorem f_La_law_907 : zF d x_La_law 907 [l0, l1, l2, zi a] st w M Q ↔ zF d x_La_law 908 [l0, l1, l2, zi a] (zi a :: st) w M Q := zG_loc (zh_La_law 907 rfl) rfl rfl rfl
set_option maxRecDepth 100000 in
theorem f_La_law_908 : zF d x_La_law 908 [l0, l1, l2, l3] st w M Q ↔ zF d x_La_law 909 [l0, l1, l2, l3] (zi (5) :: st) w M Q := zG_stk (zh_La_law 908 rfl) rfl rfl
set_option maxRecDepth 100000 in
theorem f_La_law_909 : zF d x_La_law 909 [l0, l1, l2, l3] (zi b :: zi a :: st) w M Q ↔ zF d x_La_law 910 [l0, l1, l2, l3] (zi (a + b) :: st) w M Q := zG_stk (zh_La_law 909 rfl) rfl rfl
set_option maxRecDepth 100000 in
theorem f_La_law_910 : zF d x_La_law 910 [l0, l1, l2, l3] (zi a :: zr k :: st) w M Q ↔ (zA w k 0 (z32 a) ∧ zF d x_La_law 911 [l0, l1, l2, l3] (zi (M k (z32 a).toNat) :: st) w M Q) := zG_iald (zh_La_law 910 rfl) rfl
set_option maxRecDepth 100000 in
theorem f_La_law_911 : zF d x_La_law 911 [l0, l1, l2, l3] (zi f :: zi e :: zi c :: zi b :: zi a :: zr k :: st) w M Q ↔ (0 < d ∧ zwd st ≤ 8 ∧ ((zsh w k).1 = 0 ∧ (zsh w k).2.1 = 11) ∧ zF (d - 1) x_Mo_begin 0 [zr k, zi a, zi b, zi c, zi e, zi f] [] w M (fun v w' M' => zF d x_La_law 914 [l0, l1, l2, l3] (v.toList ++ st) w' M' Q)) := zG_callO [zi f, zi e, zi c, zi b, zi a] (.inl rfl) (zh_La_law 911 rfl) rfl rfl rfl (by rw [zm_Mo_begin]; rfl) (by rw [zm_Mo_begin]; rfl) rfl
set_option maxRecDepth 100000 in
theorem f_La_law_914 : zF d x_La_law 914 [l0, l1, l2, l3] (zi b :: zi a :: st) w M Q ↔ (if z32 a = z32 b then zF d x_La_law 1879 [l0, l1, l2, l3] st w M Q else zF d x_La_law 917 [l0, l1, l2, l3] st w M Q) := zG_ifP (zh_La_law 914 rfl) rfl rfl rfl decide_eq_true_iff
set_option maxRecDepth 100000 in
theorem f_La_law_917 : zF d x_La_law 917 [l0, l1, l2, l3] st w M Q ↔ zF d x_La_law 918 [l0, l1, l2, l3] (zi (0) :: st) w M Q := zG_stk (zh_La_law 917 rfl) rfl rfl
set_option maxRecDepth 100000 in
theorem f_La_law_918 : zF d x_La_law 918 [l0, l1, l2, l3] [zi a] w M Q ↔ ((a = 0 ∨ a = 1) ∧ Q (some (zi a)) w M) := zG_prR (zh_La_law 918 rfl) zb_La_law
set_option maxRecDepth 100000 in
theorem f_La_law_919 : zF d x_La_law 919 [l0, zr k, l2, l3] st w M Q ↔ zF d x_La_law 920 [l0, zr k, l2, l3] (zr k :: st) w M Q := zG_loc (zh_La_law 919 rfl) rfl rfl rfl
set_option maxRecDepth 100000 in
theorem f_La_law_920 : zF d x_La_law 920 [zr k, l1, l2, l3] st w M Q ↔ zF d x_La_law 921 [zr k, l1, l2, l3] (zr k :: st) w M Q := zG_loc (zh_La_law 920 rfl) rfl rfl rfl
set_option maxRecDepth 100000 in
theorem f_La_law_921 : zF d x_La_law 921 [l0, l1, l2, zi a] st w M Q ↔ zF d x_La_law 922 [l0, l1, l2, zi a] (zi a :: st) w M Q := zG_loc (zh_La_law 921 rfl) rfl rfl rfl
set_option maxRecDepth 100000 in
theorem f_La_law_922 : zF d x_La_law 922 [l0, l1, l2, l3] st w M Q ↔ zF d x_La_law 923 [l0, l1, l2, l3] (zi (1) :: st) w M Q := zG_stk (zh_La_law 922 rfl) rfl rfl
set_option maxRecDepth 100000 in
theorem f_La_law_923 : zF d x_La_law 923 [l0, l1, l2, l3] (zi b :: zi a :: st) w M Q ↔ zF d x_La_law 924 [l0, l1, l2, l3] (zi (a + b) :: st) w M Q := zG_stk (zh_La_law 923 rfl) rfl rfl
set_option maxRecDepth 100000 in
theorem f_La_law_924 : zF d x_La_law 924 [l0, l1, l2, l3] (zi a :: zr k :: st) w M Q ↔ (zA w k 0 (z32 a) ∧ zF d x_La_law 925 [l0, l1, l2, l3] (zi (M k (z32 a).toNat) :: st) w M Q) := zG_iald (zh_La_law 924 rfl) rfl
set_option maxRecDepth 100000 in
theorem f_La_law_925 : zF d x_La_law 925 [zr k, l1, l2, l3] st w M Q ↔ zF d x_La_law 926 [zr k, l1, l2, l3] (zr k :: st) w M Q := zG_loc (zh_La_law 925 rfl) rfl rfl rfl
set_option maxRecDepth 100000 in
theorem f_La_law_926 : zF d x_La_law 926 [l0, l1, l2, zi a] st w M Q ↔ zF d x_La_law 927 [l0, l1, l2, zi a] (zi a :: st) w M Q := zG_loc (zh_La_law 926 rfl) rfl rfl rfl
set_option maxRecDepth 100000 in
theorem f_La_law_927 : zF d x_La_law 927 [l0, l1, l2, l3] st w M Q ↔ zF d x_La_law 928 [l0, l1, l2, l3] (zi (2) :: st) w M Q := zG_stk (zh_La_law 927 rfl) rfl rfl
set_option maxRecDepth 100000 in
theorem f_La_law_928 : zF d x_La_law 928 [l0, l1, l2, l3] (zi b :: zi a :: st) w M Q ↔ zF d x_La_law 929 [l0, l1, l2, l3] (zi (a + b) :: st) w M Q := zG_stk (zh_La_law 928 rfl) rfl rfl
set_option maxRecDepth 100000 in
theorem f_La_law_929 : zF d x_La_law 929 [l0, l1, l2, l3] (zi a :: zr k :: st) w M Q ↔ (zA w k 0 (z32 a) ∧ zF d x_La_law 930 [l0, l1, l2, l3] (zi (M k (z32 a).toNat) :: st) w M Q) := zG_iald (zh_La_law 929 rfl) rfl
set_option maxRecDepth 100000 in
theorem f_La_law_930 : zF d x_La_law 930 [l0, l1, l2, l3] (zi b :: zi a :: zr k :: st) w M Q ↔ (0 < d ∧ zwd st ≤ 8 ∧ ((zsh w k).1 = 0 ∧ (zsh w k).2.1 = 10) ∧ zF (d - 1) x_We_move 0 [zr k, zi a, zi b, zt] [] w M (fun v w' M' => zF d x_La_law 933 [l0, l1, l2, l3] (v.toList ++ st) w' M' Q)) := zG_callO [zi b, zi a] (.inl rfl) (zh_La_law 930 rfl) rfl rfl rfl (by rw [zm_We_move]; rfl) (by rw [zm_We_move]; rfl) rfl
set_option maxRecDepth 100000 in
theorem f_La_law_933 : zF d x_La_law 933 [l0, l1, zr k, l3] st w M Q ↔ zF d x_La_law 934 [l0, l1, zr k, l3] (zr k :: st) w M Q := zG_loc (zh_La_law 933 rfl) rfl rfl rfl
set_option maxRecDepth 100000 in
theorem f_La_law_934 : zF d x_La_law 934 [zr k, l1, l2, l3] st w M Q ↔ zF d x_La_law 935 [zr k, l1, l2, l3] (zr k :: st) w M Q := zG_loc (zh_La_law 934 rfl) rfl rfl rfl
set_option maxRecDepth 100000 in
theorem f_La_law_935 : zF d x_La_law 935 [l0, l1, l2, zi a] st w M Q ↔ zF d x_La_law 936 [l0, l1, l2, zi a] (zi a :: st) w M Q := zG_loc (zh_La_law 935 rfl) rfl rfl rfl
set_option maxRecDepth 100000 in
theorem f_La_law_936 : zF d x_La_law 936 [l0, l1, l2, l3] st w M Q ↔ zF d x_La_law 937 [l0, l1, l2, l3] (zi (1) :: st) w M Q := zG_stk (zh_La_law 936 rfl) rfl rfl
set_option maxRecDepth 100000 in
theorem f_La_law_937 : zF d x_La_law 937 [l0, l1, l2, l3] (zi b :: zi a :: st) w M Q ↔ zF d x_La_law 938 [l0, l1, l2, l3] (zi (a + b) :: st) w M Q := zG_stk (zh_La_law 937 rfl) rfl rfl
set_option maxRecDepth 100000 in
theorem f_La_law_938 : zF d x_La_law 938 [l0, l1, l2, l3] (zi a :: zr k :: st) w M Q ↔ (zA w k 0 (z32 a) ∧ zF d x_La_law 939 [l0, l1, l2, l3] (zi (M k (z32 a).toNat) :: st) w M Q) := zG_iald (zh_La_law 938 rfl) rfl
set_option maxRecDepth 100000 in
theorem f_La_law_939 : zF d x_La_law 939 [zr k, l1, l2, l3] st w M Q ↔ zF d x_La_law 940 [zr k, l1, l2, l3] (zr k :: st) w M Q := zG_loc (zh_La_law 939 rfl) rfl rfl rfl
set_option maxRecDepth 100000 in
theorem f_La_law_940 : zF d x_La_law 940 [l0, l1, l2, zi a] st w M Q ↔ zF d x_La_law 941 [l0, l1, l2, zi a] (zi a :: st) w M Q := zG_loc (zh_La_law 940 rfl) rfl rfl rfl
set_option maxRecDepth 100000 in
theorem f_La_law_941 : zF d x_La_law 941 [l0, l1, l2, l3] st w M Q ↔ zF d x_La_law 942 [l0, l1, l2, l3] (zi (2) :: st) w M Q := zG_stk (zh_La_law 941 rfl) rfl rfl
set_option maxRecDepth 100000 in
theorem f_La_law_942 : zF d x_La_law 942 [l0, l1, l2, l3] (zi b :: zi a :: st) w M Q ↔ zF d x_La_law 943 [l0, l1, l2, l3] (zi (a + b) :: st) w M Q := zG_stk (zh_La_law 942 rfl) rfl rfl
set_option maxRecDepth 100000 in
theorem f_La_law_943 : zF d x_La_law 943 [l0, l1, l2, l3] (zi a :: zr k :: st) w M Q ↔ (zA w k 0 (z32 a) ∧ zF d x_La_law 944 [l0, l1, l2, l3] (zi (M k (z32 a).toNat) :: st) w M Q) := zG_iald (zh_La_law 943 rfl) rfl
set_option maxRecDepth 100000 in
theorem f_La_law_944 : zF d x_La_law 944 [l0, l1, l2, l3] (zi b :: zi a :: zr k :: st) w M Q ↔ (0 < d ∧ zwd st ≤ 8 ∧ ((zsh w k).1 = 0 ∧ (zsh w k).2.1 = 11) ∧ zF (d - 1) x_Mo_move 0 [zr k, zi a, zi b] [] w M (fun v w' M' => zF d x_La_law 947 [l0, l1, l2, l3] (v.toList ++ st) w' M' Q)) := zG_callO [zi b, zi a] (.inl rfl) (zh_La_law 944 rfl) rfl rfl rfl (by rw [zm_Mo_move]; rfl) (by rw [zm_Mo_move]; rfl) rfl
set_option maxRecDepth 100000 in
theorem f_La_law_947 : zF d x_La_law 947 [l0, l1, l2, l3] (zi b :: zi a :: st) w M Q ↔ (if z32 a = z32 b then zF d x_La_law 1879 [l0, l1, l2, l3] st w M Q else zF d x_La_law 950 [l0, l1, l2, l3] st w M Q) := zG_ifP (zh_La_law 947 rfl) rfl rfl rfl decide_eq_true_iff
set_option maxRecDepth 100000 in
theorem f_La_law_950 : zF d x_La_law 950 [l0, l1, l2, l3] st w M Q ↔ zF d x_La_law 951 [l0, l1, l2, l3] (zi (0) :: st) w M Q := zG_stk (zh_La_law 950 rfl) rfl rfl
set_option maxRecDepth 100000 in
theorem f_La_law_951 : zF d x_La_law 951 [l0, l1, l2, l3] [zi a] w M Q ↔ ((a = 0 ∨ a = 1) ∧ Q (some (zi a)) w M) := zG_prR (zh_La_law 951 rfl) zb_La_law
set_option maxRecDepth 100000 in
theorem f_La_law_952 : zF d x_La_law 952 [l0, zr k, l2, l3] st w M Q ↔ zF d x_La_law 953 [l0, zr k, l2, l3] (zr k :: st) w M Q := zG_loc (zh_La_law 952 rfl) rfl rfl rfl
set_option maxRecDepth 100000 in
theorem f_La_law_953 : zF d x_La_law 953 [zr k, l1, l2, l3] st w M Q ↔ zF d x_La_law 954 [zr k, l1, l2, l3] (zr k :: st) w M Q := zG_loc (zh_La_law 953 rfl) rfl rfl rfl
set_option maxRecDepth 100000 in
theorem f_La_law_954 : zF d x_La_law 954 [l0, l1, l2, zi a] st w M Q ↔ zF d x_La_law 955 [l0, l1, l2, zi a] (zi a :: st) w M Q := zG_loc (zh_La_law 954 rfl) rfl rfl rfl
set_option maxRecDepth 100000 in
theorem f_La_law_955 : zF d x_La_law 955 [l0, l1, l2, l3] st w M Q ↔ zF d x_La_law 956 [l0, l1, l2, l3] (zi (1) :: st) w M Q := zG_stk (zh_La_law 955 rfl) rfl rfl
set_option maxRecDepth 100000 in
theorem f_La_law_956 : zF d x_La_law 956 [l0, l1, l2, l3] (zi b :: zi a :: st) w M Q ↔ zF d x_La_law 957 [l0, l1, l2, l3] (zi (a + b) :: st) w M Q := zG_stk (zh_La_law 956 rfl) rfl rfl
set_option maxRecDepth 100000 in
theorem f_La_law_957 : zF d x_La_law 957 [l0, l1, l2, l3] (zi a :: zr k :: st) w M Q ↔ (zA w k 0 (z32 a) ∧ zF d x_La_law 958 [l0, l1, l2, l3] (zi (M k (z32 a).toNat) :: st) w M Q) := zG_iald (zh_La_law 957 rfl) rfl
set_option maxRecDepth 100000 in
theorem f_La_law_958 : zF d x_La_law 958 [l0, l1, l2, l3] (zi a :: zr k :: st) w M Q ↔ (0 < d ∧ zwd st ≤ 8 ∧ ((zsh w k).1 = 0 ∧ (zsh w k).2.1 = 10) ∧ zF (d - 1) x_We_play 0 [zr k, zi a] [] w M (fun v w' M' => zF d x_La_law 961 [l0, l1, l2, l3] (v.toList ++ st) w' M' Q)) := zG_callO [zi a] (.inl rfl) (zh_La_law 958 rfl) rfl rfl rfl (by rw [zm_We_play]; rfl) (by rw [zm_We_play]; rfl) rfl
set_option maxRecDepth 100000 in
theorem f_La_law_961 : zF d x_La_law 961 [l0, l1, zr k, l3] st w M Q ↔ zF d x_La_law 962 [l0, l1, zr k, l3] (zr k :: st) w M Q := zG_loc (zh_La_law 961 rfl) rfl rfl rfl
set_option maxRecDepth 100000 in
theorem f_La_law_962 : zF d x_La_law 962 [zr k, l1, l2, l3] st w M Q ↔ zF d x_La_law 963 [zr k, l1, l2, l3] (zr k :: st) w M Q := zG_loc (zh_La_law 962 rfl) rfl rfl rfl
set_option maxRecDepth 100000 in
theorem f_La_law_963 : zF d x_La_law 963 [l0, l1, l2, zi a] st w M Q ↔ zF d x_La_law 964 [l0, l1, l2, zi a] (zi a :: st) w M Q := zG_loc (zh_La_law 963 rfl) rfl rfl rfl
set_option maxRecDepth 100000 in
theorem f_La_law_964 : zF d x_La_law 964 [l0, l1, l2, l3] st w M Q ↔ zF d x_La_law 965 [l0, l1, l2, l3] (zi (1) :: st) w M Q := zG_stk (zh_La_law 964 rfl) rfl rfl
set_option maxRecDepth 100000 in
theorem f_La_law_965 : zF d x_La_law 965 [l0, l1, l2, l3] (zi b :: zi a :: st) w M Q ↔ zF d x_La_law 966 [l0, l1, l2, l3] (zi (a + b) :: st) w M Q := zG_stk (zh_La_law 965 rfl) rfl rfl
set_option maxRecDepth 100000 in
theorem f_La_law_966 : zF d x_La_law 966 [l0, l1, l2, l3] (zi a :: zr k :: st) w M Q ↔ (zA w k 0 (z32 a) ∧ zF d x_La_law 967 [l0, l1, l2, l3] (zi (M k (z32 a).toNat) :: st) w M Q) := zG_iald (zh_La_law 966 rfl) rfl
set_option maxRecDepth 100000 in
theorem f_La_law_967 : zF d x_La_law 967 [l0, l1, l2, l3] (zi a :: zr k :: st) w M Q ↔ (0 < d ∧ zwd st ≤ 8 ∧ ((zsh w k).1 = 0 ∧ (zsh w k).2.1 = 11) ∧ zF (d - 1) x_Mo_play 0 [zr k, zi a] [] w M (fun v w' M' => zF d x_La_law 970 [l0, l1, l2, l3] (v.toList ++ st) w' M' Q)) := zG_callO [zi a] (.inl rfl) (zh_La_law 967 rfl) rfl rfl rfl (by rw [zm_Mo_play]; rfl) (by rw [zm_Mo_play]; rfl) rfl
set_option maxRecDepth 100000 in
theorem f_La_law_970 : zF d x_La_law 970 [l0, l1, l2, l3] (zi b :: zi a :: st) w M Q ↔ (if z32 a = z32 b then zF d x_La_law 1879 [l0, l1, l2, l3] st w M Q else zF d x_La_law 973 [l0, l1, l2, l3] st w M Q) := zG_ifP (zh_La_law 970 rfl) rfl rfl rfl decide_eq_true_iff
set_option maxRecDepth 100000 in
theorem f_La_law_973 : zF d x_La_law 973 [l0, l1, l2, l3] st w M Q ↔ zF d x_La_law 974 [l0, l1, l2, l3] (zi (0) :: st) w M Q := zG_stk (zh_La_law 973 rfl) rfl rfl
set_option maxRecDepth 100000 in
theorem f_La_law_974 : zF d x_La_law 974 [l0, l1, l2, l3] [zi a] w M Q ↔ ((a = 0 ∨ a = 1) ∧ Q (some (zi a)) w M) := zG_prR (zh_La_law 974 rfl) zb_La_law
set_option maxRecDepth 100000 in
theorem f_La_law_975 : zF d x_La_law 975 [l0, zr k, l2, l3] st w M Q ↔ zF d x_La_law 976 [l0, zr k, l2, l3] (zr k :: st) w M Q := zG_loc (zh_La_law 975 rfl) rfl rfl rfl
set_option maxRecDepth 100000 in
theorem f_La_law_976 : zF d x_La_law 976 [zr k, l1, l2, l3] st w M Q ↔ zF d x_La_law 977 [zr k, l1, l2, l3] (zr k :: st) w M Q := zG_loc (zh_La_law 976 rfl) rfl rfl rfl
set_option maxRecDepth 100000 in
theorem f_La_law_977 : zF d x_La_law 977 [l0, l1, l2, zi a] st w M Q ↔ zF d x_La_law 978 [l0, l1, l2, zi a] (zi a :: st) w M Q := zG_loc (zh_La_law 977 rfl) rfl rfl rfl
set_option maxRecDepth 100000 in
theorem f_La_law_978 : zF d x_La_law 978 [l0, l1, l2, l3] st w M Q ↔ zF d x_La_law 979 [l0, l1, l2, l3] (zi (1) :: st) w M Q := zG_stk (zh_La_law 978 rfl) rfl rfl
set_option maxRecDepth 100000 in
theorem f_La_law_979 : zF d x_La_law 979 [l0, l1, l2, l3] (zi b :: zi a :: st) w M Q ↔ zF d x_La_law 980 [l0, l1, l2, l3] (zi (a + b) :: st) w M Q := zG_stk (zh_La_law 979 rfl) rfl rfl
set_option maxRecDepth 100000 in
theorem f_La_law_980 : zF d x_La_law 980 [l0, l1, l2, l3] (zi a :: zr k :: st) w M Q ↔ (zA w k 0 (z32 a) ∧ zF d x_La_law 981 [l0, l1, l2, l3] (zi (M k (z32 a).toNat) :: st) w M Q) := zG_iald (zh_La_law 980 rfl) rfl
set_option maxRecDepth 100000 in
theorem f_La_law_981 : zF d x_La_law 981 [zr k, l1, l2, l3] st w M Q ↔ zF d x_La_law 982 [zr k, l1, l2, l3] (zr k :: st) w M Q := zG_loc (zh_La_law 981 rfl) rfl rfl rfl
set_option maxRecDepth 100000 in
theorem f_La_law_982 : zF d x_La_law 982 [l0, l1, l2, zi a] st w M Q ↔ zF d x_La_law 983 [l0, l1, l2, zi a] (zi a :: st) w M Q := zG_loc (zh_La_law 982 rfl) rfl rfl rfl
set_option maxRecDepth 100000 in
theorem f_La_law_983 : zF d x_La_law 983 [l0, l1, l2, l3] st w M Q ↔ zF d x_La_law 984 [l0, l1, l2, l3] (zi (2) :: st) w M Q := zG_stk (zh_La_law 983 rfl) rfl rfl
set_option maxRecDepth 100000 in
theorem f_La_law_984 : zF d x_La_law 984 [l0, l1, l2, l3] (zi b :: zi a :: st) w M Q ↔ zF d x_La_law 985 [l0, l1, l2, l3] (zi (a + b) :: st) w M Q := zG_stk (zh_La_law 984 rfl) rfl rfl
set_option maxRecDepth 100000 in
theorem f_La_law_985 : zF d x_La_law 985 [l0, l1, l2, l3] (zi a :: zr k :: st) w M Q ↔ (zA w k 0 (z32 a) ∧ zF d x_La_law 986 [l0, l1, l2, l3] (zi (M k (z32 a).toNat) :: st) w M Q) := zG_iald (zh_La_law 985 rfl) rfl
set_option maxRecDepth 100000 in
theorem f_La_law_986 : zF d x_La_law 986 [l0, l1, l2, l3] (zi b :: zi a :: zr k :: st) w M Q ↔ (0 < d ∧ zwd st ≤ 8 ∧ ((zsh w k).1 = 0 ∧ (zsh w k).2.1 = 10) ∧ zF (d - 1) x_We_blame 0 [zr k, zi a, zi b] [] w M (fun v w' M' => zF d x_La_law 989 [l0, l1, l2, l3] (v.toList ++ st) w' M' Q)) := zG_callO [zi b, zi a] (.inl rfl) (zh_La_law 986 rfl) rfl rfl rfl (by rw [zm_We_blame]; rfl) (by rw [zm_We_blame]; rfl) rfl
set_option maxRecDepth 100000 in
theorem f_La_law_989 : zF d x_La_law 989 [l0, l1, zr k, l3] st w M Q ↔ zF d x_La_law 990 [l0, l1, zr k, l3] (zr k :: st) w M Q := zG_loc (zh_La_law 989 rfl) rfl rfl rfl
set_option maxRecDepth 100000 in
theorem f_La_law_990 : zF d x_La_law 990 [zr k, l1, l2, l3] st w M Q ↔ zF d x_La_law 991 [zr k, l1, l2, l3] (zr k :: st) w M Q := zG_loc (zh_La_law 990 rfl) rfl rfl rfl
set_option maxRecDepth 100000 in
theorem f_La_law_991 : zF d x_La_law 991 [l0, l1, l2, zi a] st w M Q ↔ zF d x_La_law 992 [l0, l1, l2, zi a] (zi a :: st) w M Q := zG_loc (zh_La_law 991 rfl) rfl rfl rfl
set_option maxRecDepth 100000 in
theorem f_La_law_992 : zF d x_La_law 992 [l0, l1, l2, l3] st w M Q ↔ zF d x_La_law 993 [l0, l1, l2, l3] (zi (1) :: st) w M Q := zG_stk (zh_La_law 992 rfl) rfl rfl
set_option maxRecDepth 100000 in
theorem f_La_law_993 : zF d x_La_law 993 [l0, l1, l2, l3] (zi b :: zi a :: st) w M Q ↔ zF d x_La_law 994 [l0, l1, l2, l3] (zi (a + b) :: st) w M Q := zG_stk (zh_La_law 993 rfl) rfl rfl
set_option maxRecDepth 100000 in
theorem f_La_law_994 : zF d x_La_law 994 [l0, l1, l2, l3] (zi a :: zr k :: st) w M Q ↔ (zA w k 0 (z32 a) ∧ zF d x_La_law 995 [l0, l1, l2, l3] (zi (M k (z32 a).toNat) :: st) w M Q) := zG_iald (zh_La_law 994 rfl) rfl
set_option maxRecDepth 100000 in
theorem f_La_law_995 : zF d x_La_law 995 [zr k, l1, l2, l3] st w M Q ↔ zF d x_La_law 996 [zr k, l1, l2, l3] (zr k :: st) w M Q := zG_loc (zh_La_law 995 rfl) rfl rfl rfl
set_option maxRecDepth 100000 in
theorem f_La_law_996 : zF d x_La_law 996 [l0, l1, l2, zi a] st w M Q ↔ zF d x_La_law 997 [l0, l1, l2, zi a] (zi a :: st) w M Q := zG_loc (zh_La_law 996 rfl) rfl rfl rfl
set_option maxRecDepth 100000 in
theorem f_La_law_997 : zF d x_La_law 997 [l0, l1, l2, l3] st w M Q ↔ zF d x_La_law 998 [l0, l1, l2, l3] (zi (2) :: st) w M Q := zG_stk (zh_La_law 997 rfl) rfl rfl
set_option maxRecDepth 100000 in
theorem f_La_law_998 : zF d x_La_law 998 [l0, l1, l2, l3] (zi b :: zi a :: st) w M Q ↔ zF d x_La_law 999 [l0, l1, l2, l3] (zi (a + b) :: st) w M Q := zG_stk (zh_La_law 998 rfl) rfl rfl
set_option maxRecDepth 100000 in
theorem f_La_law_999 : zF d x_La_law 999 [l0, l1, l2, l3] (zi a :: zr k :: st) w M Q ↔ (zA w k 0 (z32 a) ∧ zF d x_La_law 1000 [l0, l1, l2, l3] (zi (M k (z32 a).toNat) :: st) w M Q) := zG_iald (zh_La_law 999 rfl) rfl
set_option maxRecDepth 100000 in
theorem f_La_law_1000 : zF d x_La_law 1000 [l0, l1, l2, l3] (zi b :: zi a :: zr k :: st) w M Q ↔ (0 < d ∧ zwd st ≤ 8 ∧ ((zsh w k).1 = 0 ∧ (zsh w k).2.1 = 11) ∧ zF (d - 1) x_Mo_blame 0 [zr k, zi a, zi b, zt, zt, zt, zt] [] w M (fun v w' M' => zF d x_La_law 1003 [l0, l1, l2, l3] (v.toList ++ st) w' M' Q)) := zG_callO [zi b, zi a] (.inl rfl) (zh_La_law 1000 rfl) rfl rfl rfl (by rw [zm_Mo_blame]; rfl) (by rw [zm_Mo_blame]; rfl) rfl
set_option maxRecDepth 100000 in
theorem f_La_law_1003 : zF d x_La_law 1003 [l0, l1, l2, l3] (zi b :: zi a :: st) w M Q ↔ (if z32 a = z32 b then zF d x_La_law 1879 [l0, l1, l2, l3] st w M Q else zF d x_La_law 1006 [l0, l1, l2, l3] st w M Q) := zG_ifP (zh_La_law 1003 rfl) rfl rfl rfl decide_eq_true_iff
set_option maxRecDepth 100000 in
theorem f_La_law_1006 : zF d x_La_law 1006 [l0, l1, l2, l3] st w M Q ↔ zF d x_La_law 1007 [l0, l1, l2, l3] (zi (0) :: st) w M Q := zG_stk (zh_La_law 1006 rfl) rfl rfl
set_option maxRecDepth 100000 in
theorem f_La_law_1007 : zF d x_La_law 1007 [l0, l1, l2, l3] [zi a] w M Q ↔ ((a = 0 ∨ a = 1) ∧ Q (some (zi a)) w M) := zG_prR (zh_La_law 1007 rfl) zb_La_law
set_option maxRecDepth 100000 in
theorem f_La_law_1008 : zF d x_La_law 1008 [l0, zr k, l2, l3] st w M Q ↔ zF d x_La_law 1009 [l0, zr k, l2, l3] (zr k :: st) w M Q := zG_loc (zh_La_law 1008 rfl) rfl rfl rfl
set_option maxRecDepth 100000 in
theorem f_La_law_1009 : zF d x_La_law 1009 [zr k, l1, l2, l3] st w M Q ↔ zF d x_La_law 1010 [zr k, l1, l2, l3] (zr k :: st) w M Q := zG_loc (zh_La_law 1009 rfl) rfl rfl rfl
set_option maxRecDepth 100000 in
theorem f_La_law_1010 : zF d x_La_law 1010 [l0, l1, l2, zi a] st w M Q ↔ zF d x_La_law 1011 [l0, l1, l2, zi a] (zi a :: st) w M Q := zG_loc (zh_La_law 1010 rfl) rfl rfl rfl
set_option maxRecDepth 100000 in
theorem f_La_law_1011 : zF d x_La_law 1011 [l0, l1, l2, l3] st w M Q ↔ zF d x_La_law 1012 [l0, l1, l2, l3] (zi (1) :: st) w M Q := zG_stk (zh_La_law 1011 rfl) rfl rfl
set_option maxRecDepth 100000 in
theorem f_La_law_1012 : zF d x_La_law 1012 [l0, l1, l2, l3] (zi b :: zi a :: st) w M Q ↔ zF d x_La_law 1013 [l0, l1, l2, l3] (zi (a + b) :: st) w M Q := zG_stk (zh_La_law 1012 rfl) rfl rfl
set_option maxRecDepth 100000 in
theorem f_La_law_1013 : zF d x_La_law 1013 [l0, l1, l2, l3] (zi a :: zr k :: st) w M Q ↔ (zA w k 0 (z32 a) ∧ zF d x_La_law 1014 [l0, l1, l2, l3] (zi (M k (z32 a).toNat) :: st) w M Q) := zG_iald (zh_La_law 1013 rfl) rfl
set_option maxRecDepth 100000 in
theorem f_La_law_1014 : zF d x_La_law 1014 [zr k, l1, l2, l3] st w M Q ↔ zF d x_La_law 1015 [zr k, l1, l2, l3] (zr k :: st) w M Q := zG_loc (zh_La_law 1014 rfl) rfl rfl rfl
set_option maxRecDepth 100000 in
theorem f_La_law_1015 : zF d x_La_law 1015 [l0, l1, l2, zi a] st w M Q ↔ zF d x_La_law 1016 [l0, l1, l2, zi a] (zi a :: st) w M Q := zG_loc (zh_La_law 1015 rfl) rfl rfl rfl
set_option maxRecDepth 100000 in
theorem f_La_law_1016 : zF d x_La_law 1016 [l0, l1, l2, l3] st w M Q ↔ zF d x_La_law 1017 [l0, l1, l2, l3] (zi (2) :: st) w M Q := zG_stk (zh_La_law 1016 rfl) rfl rfl
set_option maxRecDepth 100000 in
theorem f_La_law_1017 : zF d x_La_law 1017 [l0, l1, l2, l3] (zi b :: zi a :: st) w M Q ↔ zF d x_La_law 1018 [l0, l1, l2, l3] (zi (a + b) :: st) w M Q := zG_stk (zh_La_law 1017 rfl) rfl rfl
set_option maxRecDepth 100000 in
theorem f_La_law_1018 : zF d x_La_law 1018 [l0, l1, l2, l3] (zi a :: zr k :: st) w M Q ↔ (zA w k 0 (z32 a) ∧ zF d x_La_law 1019 [l0, l1, l2, l3] (zi (M k (z32 a).toNat) :: st) w M Q) := zG_iald (zh_La_law 1018 rfl) rfl
set_option maxRecDepth 100000 in
theorem f_La_law_1019 : zF d x_La_law 1019 [zr k, l1, l2, l3] st w M Q ↔ zF d x_La_law 1020 [zr k, l1, l2, l3] (zr k :: st) w M Q := zG_loc (zh_La_law 1019 rfl) rfl rfl rfl
set_option maxRecDepth 100000 in
theorem f_La_law_1020 : zF d x_La_law 1020 [l0, l1, l2, zi a] st w M Q ↔ zF d x_La_law 1021 [l0, l1, l2, zi a] (zi a :: st) w M Q := zG_loc (zh_La_law 1020 rfl) rfl rfl rfl
set_option maxRecDepth 100000 in
theorem f_La_law_1021 : zF d x_La_law 1021 [l0, l1, l2, l3] st w M Q ↔ zF d x_La_law 1022 [l0, l1, l2, l3] (zi (3) :: st) w M Q := zG_stk (zh_La_law 1021 rfl) rfl rfl
set_option maxRecDepth 100000 in
theorem f_La_law_1022 : zF d x_La_law 1022 [l0, l1, l2, l3] (zi b :: zi a :: st) w M Q ↔ zF d x_La_law 1023 [l0, l1, l2, l3] (zi (a + b) :: st) w M Q := zG_stk (zh_La_law 1022 rfl) rfl rfl
set_option maxRecDepth 100000 in
theorem f_La_law_1023 : zF d x_La_law 1023 [l0, l1, l2, l3] (zi a :: zr k :: st) w M Q ↔ (zA w k 0 (z32 a) ∧ zF d x_La_law 1024 [l0, l1, l2, l3] (zi (M k (z32 a).toNat) :: st) w M Q) := zG_iald (zh_La_law 1023 rfl) rfl
set_option maxRecDepth 100000 in
theorem f_La_law_1024 : zF d x_La_law 1024 [l0, l1, l2, l3] (zi c :: zi b :: zi a :: zr k :: st) w M Q ↔ (0 < d ∧ zwd st ≤ 8 ∧ ((zsh w k).1 = 0 ∧ (zsh w k).2.1 = 10) ∧ zF (d - 1) x_We_price 0 [zr k, zi a, zi b, zi c, zt] [] w M (fun v w' M' => zF d x_La_law 1027 [l0, l1, l2, l3] (v.toList ++ st) w' M' Q)) := zG_callO [zi c, zi b, zi a] (.inl rfl) (zh_La_law 1024 rfl) rfl rfl rfl (by rw [zm_We_price]; rfl) (by rw [zm_We_price]; rfl) rfl
set_option maxRecDepth 100000 in
theorem f_La_law_1027 : zF d x_La_law 1027 [l0, l1, zr k, l3] st w M Q ↔ zF d x_La_law 1028 [l0, l1, zr k, l3] (zr k :: st) w M Q := zG_loc (zh_La_law 1027 rfl) rfl rfl rfl
set_option maxRecDepth 100000 in
theorem f_La_law_1028 : zF d x_La_law 1028 [zr k, l1, l2, l3] st w M Q ↔ zF d x_La_law 1029 [zr k, l1, l2, l3] (zr k :: st) w M Q := zG_loc (zh_La_law 1028 rfl) rfl rfl rfl
set_option maxRecDepth 100000 in
theorem f_La_law_1029 : zF d x_La_law 1029 [l0, l1, l2, zi a] st w M Q ↔ zF d x_La_law 1030 [l0, l1, l2, zi a] (zi a :: st) w M Q := zG_loc (zh_La_law 1029 rfl) rfl rfl rfl
set_option maxRecDepth 100000 in
theorem f_La_law_1030 : zF d x_La_law 1030 [l0, l1, l2, l3] st w M Q ↔ zF d x_La_law 1031 [l0, l1, l2, l3] (zi (1) :: st) w M Q := zG_stk (zh_La_law 1030 rfl) rfl rfl
set_option maxRecDepth 100000 in
theorem f_La_law_1031 : zF d x_La_law 1031 [l0, l1, l2, l3] (zi b :: zi a :: st) w M Q ↔ zF d x_La_law 1032 [l0, l1, l2, l3] (zi (a + b) :: st) w M Q := zG_stk (zh_La_law 1031 rfl) rfl rfl
set_option maxRecDepth 100000 in
theorem f_La_law_1032 : zF d x_La_law 1032 [l0, l1, l2, l3] (zi a :: zr k :: st) w M Q ↔ (zA w k 0 (z32 a) ∧ zF d x_La_law 1033 [l0, l1, l2, l3] (zi (M k (z32 a).toNat) :: st) w M Q) := zG_iald (zh_La_law 1032 rfl) rfl
set_option maxRecDepth 100000 in
theorem f_La_law_1033 : zF d x_La_law 1033 [zr k, l1, l2, l3] st w M Q ↔ zF d x_La_law 1034 [zr k, l1, l2, l3] (zr k :: st) w M Q := zG_loc (zh_La_law 1033 rfl) rfl rfl rfl
set_option maxRecDepth 100000 in
theorem f_La_law_1034 : zF d x_La_law 1034 [l0, l1, l2, zi a] st w M Q ↔ zF d x_La_law 1035 [l0, l1, l2, zi a] (zi a :: st) w M Q := zG_loc (zh_La_law 1034 rfl) rfl rfl rfl
set_option maxRecDepth 100000 in
theorem f_La_law_1035 : zF d x_La_law 1035 [l0, l1, l2, l3] st w M Q ↔ zF d x_La_law 1036 [l0, l1, l2, l3] (zi (2) :: st) w M Q := zG_stk (zh_La_law 1035 rfl) rfl rfl
set_option maxRecDepth 100000 in
theorem f_La_law_1036 : zF d x_La_law 1036 [l0, l1, l2, l3] (zi b :: zi a :: st) w M Q ↔ zF d x_La_law 1037 [l0, l1, l2, l3] (zi (a + b) :: st) w M Q := zG_stk (zh_La_law 1036 rfl) rfl rfl
set_option maxRecDepth 100000 in
theorem f_La_law_1037 : zF d x_La_law 1037 [l0, l1, l2, l3] (zi a :: zr k :: st) w M Q ↔ (zA w k 0 (z32 a) ∧ zF d x_La_law 1038 [l0, l1, l2, l3] (zi (M k (z32 a).toNat) :: st) w M Q) := zG_iald (zh_La_law 1037 rfl) rfl
set_option maxRecDepth 100000 in
theorem f_La_law_1038 : zF d x_La_law 1038 [zr k, l1, l2, l3] st w M Q ↔ zF d x_La_law 1039 [zr k, l1, l2, l3] (zr k :: st) w M Q := zG_loc (zh_La_law 1038 rfl) rfl rfl rfl
set_option maxRecDepth 100000 in
theorem f_La_law_1039 : zF d x_La_law 1039 [l0, l1, l2, zi a] st w M Q ↔ zF d x_La_law 1040 [l0, l1, l2, zi a] (zi a :: st) w M Q := zG_loc (zh_La_law 1039 rfl) rfl rfl rfl
set_option maxRecDepth 100000 in
theorem f_La_law_1040 : zF d x_La_law 1040 [l0, l1, l2, l3] st w M Q ↔ zF d x_La_law 1041 [l0, l1, l2, l3] (zi (3) :: st) w M Q := zG_stk (zh_La_law 1040 rfl) rfl rfl
set_option maxRecDepth 100000 in
theorem f_La_law_1041 : zF d x_La_law 1041 [l0, l1, l2, l3] (zi b :: zi a :: st) w M Q ↔ zF d x_La_law 1042 [l0, l1, l2, l3] (zi (a + b) :: st) w M Q := zG_stk (zh_La_law 1041 rfl) rfl rfl
set_option maxRecDepth 100000 in
theorem f_La_law_1042 : zF d x_La_law 1042 [l0, l1, l2, l3] (zi a :: zr k :: st) w M Q ↔ (zA w k 0 (z32 a) ∧ zF d x_La_law 1043 [l0, l1, l2, l3] (zi (M k (z32 a).toNat) :: st) w M Q) := zG_iald (zh_La_law 1042 rfl) rfl
set_option maxRecDepth 100000 in
theorem f_La_law_1043 : zF d x_La_law 1043 [l0, l1, l2, l3] (zi c :: zi b :: zi a :: zr k :: st) w M Q ↔ (0 < d ∧ zwd st ≤ 8 ∧ ((zsh w k).1 = 0 ∧ (zsh w k).2.1 = 11) ∧ zF (d - 1) x_Mo_price 0 [zr k, zi a, zi b, zi c] [] w M (fun v w' M' => zF d x_La_law 1046 [l0, l1, l2, l3] (v.toList ++ st) w' M' Q)) := zG_callO [zi c, zi b, zi a] (.inl rfl) (zh_La_law 1043 rfl) rfl rfl rfl (by rw [zm_Mo_price]; rfl) (by rw [zm_Mo_price]; rfl) rfl
set_option maxRecDepth 100000 in
theorem f_La_law_1046 : zF d x_La_law 1046 [l0, l1, l2, l3] (zi b :: zi a :: st) w M Q ↔ (if z32 a = z32 b then zF d x_La_law 1879 [l0, l1, l2, l3] st w M Q else zF d x_La_law 1049 [l0, l1, l2, l3] st w M Q) := zG_ifP (zh_La_law 1046 rfl) rfl rfl rfl decide_eq_true_iff
set_option maxRecDepth 100000 in
theorem f_La_law_1049 : zF d x_La_law 1049 [l0, l1, l2, l3] st w M Q ↔ zF d x_La_law 1050 [l0, l1, l2, l3] (zi (0) :: st) w M Q := zG_stk (zh_La_law 1049 rfl) rfl rfl
set_option maxRecDepth 100000 in
theorem f_La_law_1050 : zF d x_La_law 1050 [l0, l1, l2, l3] [zi a] w M Q ↔ ((a = 0 ∨ a = 1) ∧ Q (some (zi a)) w M) := zG_prR (zh_La_law 1050 rfl) zb_La_law
set_option maxRecDepth 100000 in
theorem f_La_law_1051 : zF d x_La_law 1051 [l0, zr k, l2, l3] st w M Q ↔ zF d x_La_law 1052 [l0, zr k, l2, l3] (zr k :: st) w M Q := zG_loc (zh_La_law 1051 rfl) rfl rfl rfl
set_option maxRecDepth 100000 in
theorem f_La_law_1052 : zF d x_La_law 1052 [zr k, l1, l2, l3] st w M Q ↔ zF d x_La_law 1053 [zr k, l1, l2, l3] (zr k :: st) w M Q := zG_loc (zh_La_law 1052 rfl) rfl rfl rfl
set_option maxRecDepth 100000 in
theorem f_La_law_1053 : zF d x_La_law 1053 [l0, l1, l2, zi a] st w M Q ↔ zF d x_La_law 1054 [l0, l1, l2, zi a] (zi a :: st) w M Q := zG_loc (zh_La_law 1053 rfl) rfl rfl rfl
set_option maxRecDepth 100000 in
theorem f_La_law_1054 : zF d x_La_law 1054 [l0, l1, l2, l3] st w M Q ↔ zF d x_La_law 1055 [l0, l1, l2, l3] (zi (1) :: st) w M Q := zG_stk (zh_La_law 1054 rfl) rfl rfl
set_option maxRecDepth 100000 in
theorem f_La_law_1055 : zF d x_La_law 1055 [l0, l1, l2, l3] (zi b :: zi a :: st) w M Q ↔ zF d x_La_law 1056 [l0, l1, l2, l3] (zi (a + b) :: st) w M Q := zG_stk (zh_La_law 1055 rfl) rfl rfl
set_option maxRecDepth 100000 in
theorem f_La_law_1056 : zF d x_La_law 1056 [l0, l1, l2, l3] (zi a :: zr k :: st) w M Q ↔ (zA w k 0 (z32 a) ∧ zF d x_La_law 1057 [l0, l1, l2, l3] (zi (M k (z32 a).toNat) :: st) w M Q) := zG_iald (zh_La_law 1056 rfl) rfl
set_option maxRecDepth 100000 in
theorem f_La_law_1057 : zF d x_La_law 1057 [zr k, l1, l2, l3] st w M Q ↔ zF d x_La_law 1058 [zr k, l1, l2, l3] (zr k :: st) w M Q := zG_loc (zh_La_law 1057 rfl) rfl rfl rfl
set_option maxRecDepth 100000 in
theorem f_La_law_1058 : zF d x_La_law 1058 [l0, l1, l2, zi a] st w M Q ↔ zF d x_La_law 1059 [l0, l1, l2, zi a] (zi a :: st) w M Q := zG_loc (zh_La_law 1058 rfl) rfl rfl rfl
set_option maxRecDepth 100000 in
theorem f_La_law_1059 : zF d x_La_law 1059 [l0, l1, l2, l3] st w M Q ↔ zF d x_La_law 1060 [l0, l1, l2, l3] (zi (2) :: st) w M Q := zG_stk (zh_La_law 1059 rfl) rfl rfl
set_option maxRecDepth 100000 in
theorem f_La_law_1060 : zF d x_La_law 1060 [l0, l1, l2, l3] (zi b :: zi a :: st) w M Q ↔ zF d x_La_law 1061 [l0, l1, l2, l3] (zi (a + b) :: st) w M Q := zG_stk (zh_La_law 1060 rfl) rfl rfl
set_option maxRecDepth 100000 in
theorem f_La_law_1061 : zF d x_La_law 1061 [l0, l1, l2, l3] (zi a :: zr k :: st) w M Q ↔ (zA w k 0 (z32 a) ∧ zF d x_La_law 1062 [l0, l1, l2, l3] (zi (M k (z32 a).toNat) :: st) w M Q) := zG_iald (zh_La_law 1061 rfl) rfl
set_option maxRecDepth 100000 in
theorem f_La_law_1062 : zF d x_La_law 1062 [zr k, l1, l2, l3] st w M Q ↔ zF d x_La_law 1063 [zr k, l1, l2, l3] (zr k :: st) w M Q := zG_loc (zh_La_law 1062 rfl) rfl rfl rfl
set_option maxRecDepth 100000 in
theorem f_La_law_1063 : zF d x_La_law 1063 [l0, l1, l2, zi a] st w M Q ↔ zF d x_La_law 1064 [l0, l1, l2, zi a] (zi a :: st) w M Q := zG_loc (zh_La_law 1063 rfl) rfl rfl rfl
set_option maxRecDepth 100000 in
theorem f_La_law_1064 : zF d x_La_law 1064 [l0, l1, l2, l3] st w M Q ↔ zF d x_La_law 1065 [l0, l1, l2, l3] (zi (3) :: st) w M Q := zG_stk (zh_La_law 1064 rfl) rfl rfl
set_option maxRecDepth 100000 in
theorem f_La_law_1065 : zF d x_La_law 1065 [l0, l1, l2, l3] (zi b :: zi a :: st) w M Q ↔ zF d x_La_law 1066 [l0, l1, l2, l3] (zi (a + b) :: st) w M Q := zG_stk (zh_La_law 1065 rfl) rfl rfl
set_option maxRecDepth 100000 in
theorem f_La_law_1066 : zF d x_La_law 1066 [l0, l1, l2, l3] (zi a :: zr k :: st) w M Q ↔ (zA w k 0 (z32 a) ∧ zF d x_La_law 1067 [l0, l1, l2, l3] (zi (M k (z32 a).toNat) :: st) w M Q) := zG_iald (zh_La_law 1066 rfl) rfl
set_option maxRecDepth 100000 in
theorem f_La_law_1067 : zF d x_La_law 1067 [l0, l1, l2, l3] (zi c :: zi b :: zi a :: zr k :: st) w M Q ↔ (0 < d ∧ zwd st ≤ 8 ∧ ((zsh w k).1 = 0 ∧ (zsh w k).2.1 = 10) ∧ zF (d - 1) x_We_store 0 [zr k, zi a, zi b, zi c] [] w M (fun v w' M' => zF d x_La_law 1070 [l0, l1, l2, l3] (v.toList ++ st) w' M' Q)) := zG_callO [zi c, zi b, zi a] (.inl rfl) (zh_La_law 1067 rfl) rfl rfl rfl (by rw [zm_We_store]; rfl) (by rw [zm_We_store]; rfl) rfl
set_option maxRecDepth 100000 in
theorem f_La_law_1070 : zF d x_La_law 1070 [l0, l1, zr k, l3] st w M Q ↔ zF d x_La_law 1071 [l0, l1, zr k, l3] (zr k :: st) w M Q := zG_loc (zh_La_law 1070 rfl) rfl rfl rfl
set_option maxRecDepth 100000 in
theorem f_La_law_1071 : zF d x_La_law 1071 [zr k, l1, l2, l3] st w M Q ↔ zF d x_La_law 1072 [zr k, l1, l2, l3] (zr k :: st) w M Q := zG_loc (zh_La_law 1071 rfl) rfl rfl rfl
set_option maxRecDepth 100000 in
theorem f_La_law_1072 : zF d x_La_law 1072 [l0, l1, l2, zi a] st w M Q ↔ zF d x_La_law 1073 [l0, l1, l2, zi a] (zi a :: st) w M Q := zG_loc (zh_La_law 1072 rfl) rfl rfl rfl
set_option maxRecDepth 100000 in
theorem f_La_law_1073 : zF d x_La_law 1073 [l0, l1, l2, l3] st w M Q ↔ zF d x_La_law 1074 [l0, l1, l2, l3] (zi (1) :: st) w M Q := zG_stk (zh_La_law 1073 rfl) rfl rfl
set_option maxRecDepth 100000 in
theorem f_La_law_1074 : zF d x_La_law 1074 [l0, l1, l2, l3] (zi b :: zi a :: st) w M Q ↔ zF d x_La_law 1075 [l0, l1, l2, l3] (zi (a + b) :: st) w M Q := zG_stk (zh_La_law 1074 rfl) rfl rfl
set_option maxRecDepth 100000 in
theorem f_La_law_1075 : zF d x_La_law 1075 [l0, l1, l2, l3] (zi a :: zr k :: st) w M Q ↔ (zA w k 0 (z32 a) ∧ zF d x_La_law 1076 [l0, l1, l2, l3] (zi (M k (z32 a).toNat) :: st) w M Q) := zG_iald (zh_La_law 1075 rfl) rfl
set_option maxRecDepth 100000 in
theorem f_La_law_1076 : zF d x_La_law 1076 [zr k, l1, l2, l3] st w M Q ↔ zF d x_La_law 1077 [zr k, l1, l2, l3] (zr k :: st) w M Q := zG_loc (zh_La_law 1076 rfl) rfl rfl rfl
set_option maxRecDepth 100000 in
theorem f_La_law_1077 : zF d x_La_law 1077 [l0, l1, l2, zi a] st w M Q ↔ zF d x_La_law 1078 [l0, l1, l2, zi a] (zi a :: st) w M Q := zG_loc (zh_La_law 1077 rfl) rfl rfl rfl
set_option maxRecDepth 100000 in
theorem f_La_law_1078 : zF d x_La_law 1078 [l0, l1, l2, l3] st w M Q ↔ zF d x_La_law 1079 [l0, l1, l2, l3] (zi (2) :: st) w M Q := zG_stk (zh_La_law 1078 rfl) rfl rfl
set_option maxRecDepth 100000 in
theorem f_La_law_1079 : zF d x_La_law 1079 [l0, l1, l2, l3] (zi b :: zi a :: st) w M Q ↔ zF d x_La_law 1080 [l0, l1, l2, l3] (zi (a + b) :: st) w M Q := zG_stk (zh_La_law 1079 rfl) rfl rfl
set_option maxRecDepth 100000 in
theorem f_La_law_1080 : zF d x_La_law 1080 [l0, l1, l2, l3] (zi a :: zr k :: st) w M Q ↔ (zA w k 0 (z32 a) ∧ zF d x_La_law 1081 [l0, l1, l2, l3] (zi (M k (z32 a).toNat) :: st) w M Q) := zG_iald (zh_La_law 1080 rfl) rfl
set_option maxRecDepth 100000 in
theorem f_La_law_1081 : zF d x_La_law 1081 [zr k, l1, l2, l3] st w M Q ↔ zF d x_La_law 1082 [zr k, l1, l2, l3] (zr k :: st) w M Q := zG_loc (zh_La_law 1081 rfl) rfl rfl rfl
set_option maxRecDepth 100000 in
theorem f_La_law_1082 : zF d x_La_law 1082 [l0, l1, l2, zi a] st w M Q ↔ zF d x_La_law 1083 [l0, l1, l2, zi a] (zi a :: st) w M Q := zG_loc (zh_La_law 1082 rfl) rfl rfl rfl
set_option maxRecDepth 100000 in
theorem f_La_law_1083 : zF d x_La_law 1083 [l0, l1, l2, l3] st w M Q ↔ zF d x_La_law 1084 [l0, l1, l2, l3] (zi (3) :: st) w M Q := zG_stk (zh_La_law 1083 rfl) rfl rfl
set_option maxRecDepth 100000 in
theorem f_La_law_1084 : zF d x_La_law 1084 [l0, l1, l2, l3] (zi b :: zi a :: st) w M Q ↔ zF d x_La_law 1085 [l0, l1, l2, l3] (zi (a + b) :: st) w M Q := zG_stk (zh_La_law 1084 rfl) rfl rfl
set_option maxRecDepth 100000 in
theorem f_La_law_1085 : zF d x_La_law 1085 [l0, l1, l2, l3] (zi a :: zr k :: st) w M Q ↔ (zA w k 0 (z32 a) ∧ zF d x_La_law 1086 [l0, l1, l2, l3] (zi (M k (z32 a).toNat) :: st) w M Q) := zG_iald (zh_La_law 1085 rfl) rfl
set_option maxRecDepth 100000 in
theorem f_La_law_1086 : zF d x_La_law 1086 [l0, l1, l2, l3] (zi c :: zi b :: zi a :: zr k :: st) w M Q ↔ (0 < d ∧ zwd st ≤ 8 ∧ ((zsh w k).1 = 0 ∧ (zsh w k).2.1 = 11) ∧ zF (d - 1) x_Mo_store 0 [zr k, zi a, zi b, zi c] [] w M (fun v w' M' => zF d x_La_law 1089 [l0, l1, l2, l3] (v.toList ++ st) w' M' Q)) := zG_callO [zi c, zi b, zi a] (.inl rfl) (zh_La_law 1086 rfl) rfl rfl rfl (by rw [zm_Mo_store]; rfl) (by rw [zm_Mo_store]; rfl) rfl
set_option maxRecDepth 100000 in
theorem f_La_law_1089 : zF d x_La_law 1089 [l0, l1, l2, l3] (zi b :: zi a :: st) w M Q ↔ (if z32 a = z32 b then zF d x_La_law 1879 [l0, l1, l2, l3] st w M Q else zF d x_La_law 1092 [l0, l1, l2, l3] st w M Q) := zG_ifP (zh_La_law 1089 rfl) rfl rfl rfl decide_eq_true_iff
set_option maxRecDepth 100000 in
theorem f_La_law_1092 : zF d x_La_law 1092 [l0, l1, l2, l3] st w M Q ↔ zF d x_La_law 1093 [l0, l1, l2, l3] (zi (0) :: st) w M Q := zG_stk (zh_La_law 1092 rfl) rfl rfl
set_option maxRecDepth 100000 in
theorem f_La_law_1093 : zF d x_La_law 1093 [l0, l1, l2, l3] [zi a] w M Q ↔ ((a = 0 ∨ a = 1) ∧ Q (some (zi a)) w M) := zG_prR (zh_La_law 1093 rfl) zb_La_law
set_option maxRecDepth 100000 in
theorem f_La_law_1094 : zF d x_La_law 1094 [l0, zr k, l2, l3] st w M Q ↔ zF d x_La_law 1095 [l0, zr k, l2, l3] (zr k :: st) w M Q := zG_loc (zh_La_law 1094 rfl) rfl rfl rfl
set_option maxRecDepth 100000 in
theorem f_La_law_1095 : zF d x_La_law 1095 [zr k, l1, l2, l3] st w M Q ↔ zF d x_La_law 1096 [zr k, l1, l2, l3] (zr k :: st) w M Q := zG_loc (zh_La_law 1095 rfl) rfl rfl rfl
set_option maxRecDepth 100000 in
theorem f_La_law_1096 : zF d x_La_law 1096 [l0, l1, l2, zi a] st w M Q ↔ zF d x_La_law 1097 [l0, l1, l2, zi a] (zi a :: st) w M Q := zG_loc (zh_La_law 1096 rfl) rfl rfl rfl
set_option maxRecDepth 100000 in
theorem f_La_law_1097 : zF d x_La_law 1097 [l0, l1, l2, l3] st w M Q ↔ zF d x_La_law 1098 [l0, l1, l2, l3] (zi (1) :: st) w M Q := zG_stk (zh_La_law 1097 rfl) rfl rfl
set_option maxRecDepth 100000 in
theorem f_La_law_1098 : zF d x_La_law 1098 [l0, l1, l2, l3] (zi b :: zi a :: st) w M Q ↔ zF d x_La_law 1099 [l0, l1, l2, l3] (zi (a + b) :: st) w M Q := zG_stk (zh_La_law 1098 rfl) rfl rfl
set_option maxRecDepth 100000 in
theorem f_La_law_1099 : zF d x_La_law 1099 [l0, l1, l2, l3] (zi a :: zr k :: st) w M Q ↔ (zA w k 0 (z32 a) ∧ zF d x_La_law 1100 [l0, l1, l2, l3] (zi (M k (z32 a).toNat) :: st) w M Q) := zG_iald (zh_La_law 1099 rfl) rfl
set_option maxRecDepth 100000 in
theorem f_La_law_1100 : zF d x_La_law 1100 [l0, l1, l2, l3] (zi a :: zr k :: st) w M Q ↔ (0 < d ∧ zwd st ≤ 8 ∧ ((zsh w k).1 = 0 ∧ (zsh w k).2.1 = 10) ∧ zF (d - 1) x_We_misses 0 [zr k, zi a] [] w M (fun v w' M' => zF d x_La_law 1103 [l0, l1, l2, l3] (v.toList ++ st) w' M' Q)) := zG_callO [zi a] (.inl rfl) (zh_La_law 1100 rfl) rfl rfl rfl (by rw [zm_We_misses]; rfl) (by rw [zm_We_misses]; rfl) rfl
set_option maxRecDepth 100000 in
theorem f_La_law_1103 : zF d x_La_law 1103 [l0, l1, zr k, l3] st w M Q ↔ zF d x_La_law 1104 [l0, l1, zr k, l3] (zr k :: st) w M Q := zG_loc (zh_La_law 1103 rfl) rfl rfl rfl
set_option maxRecDepth 100000 in
theorem f_La_law_1104 : zF d x_La_law 1104 [zr k, l1, l2, l3] st w M Q ↔ zF d x_La_law 1105 [zr k, l1, l2, l3] (zr k :: st) w M Q := zG_loc (zh_La_law 1104 rfl) rfl rfl rfl
set_option maxRecDepth 100000 in
theorem f_La_law_1105 : zF d x_La_law 1105 [l0, l1, l2, zi a] st w M Q ↔ zF d x_La_law 1106 [l0, l1, l2, zi a] (zi a :: st) w M Q := zG_loc (zh_La_law 1105 rfl) rfl rfl rfl
set_option maxRecDepth 100000 in
theorem f_La_law_1106 : zF d x_La_law 1106 [l0, l1, l2, l3] st w M Q ↔ zF d x_La_law 1107 [l0, l1, l2, l3] (zi (1) :: st) w M Q := zG_stk (zh_La_law 1106 rfl) rfl rfl
set_option maxRecDepth 100000 in
theorem f_La_law_1107 : zF d x_La_law 1107 [l0, l1, l2, l3] (zi b :: zi a :: st) w M Q ↔ zF d x_La_law 1108 [l0, l1, l2, l3] (zi (a + b) :: st) w M Q := zG_stk (zh_La_law 1107 rfl) rfl rfl
set_option maxRecDepth 100000 in
theorem f_La_law_1108 : zF d x_La_law 1108 [l0, l1, l2, l3] (zi a :: zr k :: st) w M Q ↔ (zA w k 0 (z32 a) ∧ zF d x_La_law 1109 [l0, l1, l2, l3] (zi (M k (z32 a).toNat) :: st) w M Q) := zG_iald (zh_La_law 1108 rfl) rfl
set_option maxRecDepth 100000 in
theorem f_La_law_1109 : zF d x_La_law 1109 [l0, l1, l2, l3] (zi a :: zr k :: st) w M Q ↔ (0 < d ∧ zwd st ≤ 8 ∧ ((zsh w k).1 = 0 ∧ (zsh w k).2.1 = 11) ∧ zF (d - 1) x_Mo_misses 0 [zr k, zi a] [] w M (fun v w' M' => zF d x_La_law 1112 [l0, l1, l2, l3] (v.toList ++ st) w' M' Q)) := zG_callO [zi a] (.inl rfl) (zh_La_law 1109 rfl) rfl rfl rfl (by rw [zm_Mo_misses]; rfl) (by rw [zm_Mo_misses]; rfl) rfl
set_option maxRecDepth 100000 in
theorem f_La_law_1112 : zF d x_La_law 1112 [l0, l1, l2, l3] (zi b :: zi a :: st) w M Q ↔ (if z32 a = z32 b then zF d x_La_law 1879 [l0, l1, l2, l3] st w M Q else zF d x_La_law 1115 [l0, l1, l2, l3] st w M Q) := zG_ifP (zh_La_law 1112 rfl) rfl rfl rfl decide_eq_true_iff
set_option maxRecDepth 100000 in
theorem f_La_law_1115 : zF d x_La_law 1115 [l0, l1, l2, l3] st w M Q ↔ zF d x_La_law 1116 [l0, l1, l2, l3] (zi (0) :: st) w M Q := zG_stk (zh_La_law 1115 rfl) rfl rfl
set_option maxRecDepth 100000 in
theorem f_La_law_1116 : zF d x_La_law 1116 [l0, l1, l2, l3] [zi a] w M Q ↔ ((a = 0 ∨ a = 1) ∧ Q (some (zi a)) w M) := zG_prR (zh_La_law 1116 rfl) zb_La_law
set_option maxRecDepth 100000 in
theorem f_La_law_1117 : zF d x_La_law 1117 [l0, zr k, l2, l3] st w M Q ↔ zF d x_La_law 1118 [l0, zr k, l2, l3] (zr k :: st) w M Q := zG_loc (zh_La_law 1117 rfl) rfl rfl rfl
set_option maxRecDepth 100000 in
theorem f_La_law_1118 : zF d x_La_law 1118 [zr k, l1, l2, l3] st w M Q ↔ zF d x_La_law 1119 [zr k, l1, l2, l3] (zr k :: st) w M Q := zG_loc (zh_La_law 1118 rfl) rfl rfl rfl
set_option maxRecDepth 100000 in
theorem f_La_law_1119 : zF d x_La_law 1119 [l0, l1, l2, zi a] st w M Q ↔ zF d x_La_law 1120 [l0, l1, l2, zi a] (zi a :: st) w M Q := zG_loc (zh_La_law 1119 rfl) rfl rfl rfl
set_option maxRecDepth 100000 in
theorem f_La_law_1120 : zF d x_La_law 1120 [l0, l1, l2, l3] st w M Q ↔ zF d x_La_law 1121 [l0, l1, l2, l3] (zi (1) :: st) w M Q := zG_stk (zh_La_law 1120 rfl) rfl rfl
set_option maxRecDepth 100000 in
theorem f_La_law_1121 : zF d x_La_law 1121 [l0, l1, l2, l3] (zi b :: zi a :: st) w M Q ↔ zF d x_La_law 1122 [l0, l1, l2, l3] (zi (a + b) :: st) w M Q := zG_stk (zh_La_law 1121 rfl) rfl rfl
set_option maxRecDepth 100000 in
theorem f_La_law_1122 : zF d x_La_law 1122 [l0, l1, l2, l3] (zi a :: zr k :: st) w M Q ↔ (zA w k 0 (z32 a) ∧ zF d x_La_law 1123 [l0, l1, l2, l3] (zi (M k (z32 a).toNat) :: st) w M Q) := zG_iald (zh_La_law 1122 rfl) rfl
set_option maxRecDepth 100000 in
theorem f_La_law_1123 : zF d x_La_law 1123 [zr k, l1, l2, l3] st w M Q ↔ zF d x_La_law 1124 [zr k, l1, l2, l3] (zr k :: st) w M Q := zG_loc (zh_La_law 1123 rfl) rfl rfl rfl
set_option maxRecDepth 100000 in
theorem f_La_law_1124 : zF d x_La_law 1124 [l0, l1, l2, zi a] st w M Q ↔ zF d x_La_law 1125 [l0, l1, l2, zi a] (zi a :: st) w M Q := zG_loc (zh_La_law 1124 rfl) rfl rfl rfl
set_option maxRecDepth 100000 in
theorem f_La_law_1125 : zF d x_La_law 1125 [l0, l1, l2, l3] st w M Q ↔ zF d x_La_law 1126 [l0, l1, l2, l3] (zi (2) :: st) w M Q := zG_stk (zh_La_law 1125 rfl) rfl rfl
set_option maxRecDepth 100000 in
theorem f_La_law_1126 : zF d x_La_law 1126 [l0, l1, l2, l3] (zi b :: zi a :: st) w M Q ↔ zF d x_La_law 1127 [l0, l1, l2, l3] (zi (a + b) :: st) w M Q := zG_stk (zh_La_law 1126 rfl) rfl rfl
set_option maxRecDepth 100000 in
theorem f_La_law_1127 : zF d x_La_law 1127 [l0, l1, l2, l3] (zi a :: zr k :: st) w M Q ↔ (zA w k 0 (z32 a) ∧ zF d x_La_law 1128 [l0, l1, l2, l3] (zi (M k (z32 a).toNat) :: st) w M Q) := zG_iald (zh_La_law 1127 rfl) rfl
set_option maxRecDepth 100000 in
theorem f_La_law_1128 : zF d x_La_law 1128 [l0, l1, l2, l3] (zi b :: zi a :: zr k :: st) w M Q ↔ (0 < d ∧ zwd st ≤ 8 ∧ ((zsh w k).1 = 0 ∧ (zsh w k).2.1 = 10) ∧ zF (d - 1) x_We_value 0 [zr k, zi a, zi b] [] w M (fun v w' M' => zF d x_La_law 1131 [l0, l1, l2, l3] (v.toList ++ st) w' M' Q)) := zG_callO [zi b, zi a] (.inl rfl) (zh_La_law 1128 rfl) rfl rfl rfl (by rw [zm_We_value]; rfl) (by rw [zm_We_value]; rfl) rfl
set_option maxRecDepth 100000 in
theorem f_La_law_1131 : zF d x_La_law 1131 [l0, l1, zr k, l3] st w M Q ↔ zF d x_La_law 1132 [l0, l1, zr k, l3] (zr k :: st) w M Q := zG_loc (zh_La_law 1131 rfl) rfl rfl rfl
set_option maxRecDepth 100000 in
theorem f_La_law_1132 : zF d x_La_law 1132 [zr k, l1, l2, l3] st w M Q ↔ zF d x_La_law 1133 [zr k, l1, l2, l3] (zr k :: st) w M Q := zG_loc (zh_La_law 1132 rfl) rfl rfl rfl
set_option maxRecDepth 100000 in
theorem f_La_law_1133 : zF d x_La_law 1133 [l0, l1, l2, zi a] st w M Q ↔ zF d x_La_law 1134 [l0, l1, l2, zi a] (zi a :: st) w M Q := zG_loc (zh_La_law 1133 rfl) rfl rfl rfl
set_option maxRecDepth 100000 in
theorem f_La_law_1134 : zF d x_La_law 1134 [l0, l1, l2, l3] st w M Q ↔ zF d x_La_law 1135 [l0, l1, l2, l3] (zi (1) :: st) w M Q := zG_stk (zh_La_law 1134 rfl) rfl rfl
set_option maxRecDepth 100000 in
theorem f_La_law_1135 : zF d x_La_law 1135 [l0, l1, l2, l3] (zi b :: zi a :: st) w M Q ↔ zF d x_La_law 1136 [l0, l1, l2, l3] (zi (a + b) :: st) w M Q := zG_stk (zh_La_law 1135 rfl) rfl rfl
set_option maxRecDepth 100000 in
theorem f_La_law_1136 : zF d x_La_law 1136 [l0, l1, l2, l3] (zi a :: zr k :: st) w M Q ↔ (zA w k 0 (z32 a) ∧ zF d x_La_law 1137 [l0, l1, l2, l3] (zi (M k (z32 a).toNat) :: st) w M Q) := zG_iald (zh_La_law 1136 rfl) rfl
set_option maxRecDepth 100000 in
theorem f_La_law_1137 : zF d x_La_law 1137 [zr k, l1, l2, l3] st w M Q ↔ zF d x_La_law 1138 [zr k, l1, l2, l3] (zr k :: st) w M Q := zG_loc (zh_La_law 1137 rfl) rfl rfl rfl
set_option maxRecDepth 100000 in
theorem f_La_law_1138 : zF d x_La_law 1138 [l0, l1, l2, zi a] st w M Q ↔ zF d x_La_law 1139 [l0, l1, l2, zi a] (zi a :: st) w M Q := zG_loc (zh_La_law 1138 rfl) rfl rfl rfl
set_option maxRecDepth 100000 in
theorem f_La_law_1139 : zF d x_La_law 1139 [l0, l1, l2, l3] st w M Q ↔ zF d x_La_law 1140 [l0, l1, l2, l3] (zi (2) :: st) w M Q := zG_stk (zh_La_law 1139 rfl) rfl rfl
set_option maxRecDepth 100000 in
theorem f_La_law_1140 : zF d x_La_law 1140 [l0, l1, l2, l3] (zi b :: zi a :: st) w M Q ↔ zF d x_La_law 1141 [l0, l1, l2, l3] (zi (a + b) :: st) w M Q := zG_stk (zh_La_law 1140 rfl) rfl rfl
set_option maxRecDepth 100000 in
theorem f_La_law_1141 : zF d x_La_law 1141 [l0, l1, l2, l3] (zi a :: zr k :: st) w M Q ↔ (zA w k 0 (z32 a) ∧ zF d x_La_law 1142 [l0, l1, l2, l3] (zi (M k (z32 a).toNat) :: st) w M Q) := zG_iald (zh_La_law 1141 rfl) rfl
set_option maxRecDepth 100000 in
theorem f_La_law_1142 : zF d x_La_law 1142 [l0, l1, l2, l3] (zi b :: zi a :: zr k :: st) w M Q ↔ (0 < d ∧ zwd st ≤ 8 ∧ ((zsh w k).1 = 0 ∧ (zsh w k).2.1 = 11) ∧ zF (d - 1) x_Mo_value 0 [zr k, zi a, zi b] [] w M (fun v w' M' => zF d x_La_law 1145 [l0, l1, l2, l3] (v.toList ++ st) w' M' Q)) := zG_callO [zi b, zi a] (.inl rfl) (zh_La_law 1142 rfl) rfl rfl rfl (by rw [zm_Mo_value]; rfl) (by rw [zm_Mo_value]; rfl) rfl
set_option maxRecDepth 100000 in
theorem f_La_law_1145 : zF d x_La_law 1145 [l0, l1, l2, l3] (zi b :: zi a :: st) w M Q ↔ (if z32 a = z32 b then zF d x_La_law 1879 [l0, l1, l2, l3] st w M Q else zF d x_La_law 1148 [l0, l1, l2, l3] st w M Q) := zG_ifP (zh_La_law 1145 rfl) rfl rfl rfl decide_eq_true_iff
set_option maxRecDepth 100000 in
theorem f_La_law_1148 : zF d x_La_law 1148 [l0, l1, l2, l3] st w M Q ↔ zF d x_La_law 1149 [l0, l1, l2, l3] (zi (0) :: st) w M Q := zG_stk (zh_La_law 1148 rfl) rfl rfl
set_option maxRecDepth 100000 in
theorem f_La_law_1149 : zF d x_La_law 1149 [l0, l1, l2, l3] [zi a] w M Q ↔ ((a = 0 ∨ a = 1) ∧ Q (some (zi a)) w M) := zG_prR (zh_La_law 1149 rfl) zb_La_law
set_option maxRecDepth 100000 in
theorem f_La_law_1150 : zF d x_La_law 1150 [l0, zr k, l2, l3] st w M Q ↔ zF d x_La_law 1151 [l0, zr k, l2, l3] (zr k :: st) w M Q := zG_loc (zh_La_law 1150 rfl) rfl rfl rfl
set_option maxRecDepth 100000 in
theorem f_La_law_1151 : zF d x_La_law 1151 [zr k, l1, l2, l3] st w M Q ↔ zF d x_La_law 1152 [zr k, l1, l2, l3] (zr k :: st) w M Q := zG_loc (zh_La_law 1151 rfl) rfl rfl rfl
set_option maxRecDepth 100000 in
theorem f_La_law_1152 : zF d x_La_law 1152 [l0, l1, l2, zi a] st w M Q ↔ zF d x_La_law 1153 [l0, l1, l2, zi a] (zi a :: st) w M Q := zG_loc (zh_La_law 1152 rfl) rfl rfl rfl
set_option maxRecDepth 100000 in
theorem f_La_law_1153 : zF d x_La_law 1153 [l0, l1, l2, l3] st w M Q ↔ zF d x_La_law 1154 [l0, l1, l2, l3] (zi (1) :: st) w M Q := zG_stk (zh_La_law 1153 rfl) rfl rfl
set_option maxRecDepth 100000 in
theorem f_La_law_1154 : zF d x_La_law 1154 [l0, l1, l2, l3] (zi b :: zi a :: st) w M Q ↔ zF d x_La_law 1155 [l0, l1, l2, l3] (zi (a + b) :: st) w M Q := zG_stk (zh_La_law 1154 rfl) rfl rfl
set_option maxRecDepth 100000 in
theorem f_La_law_1155 : zF d x_La_law 1155 [l0, l1, l2, l3] (zi a :: zr k :: st) w M Q ↔ (zA w k 0 (z32 a) ∧ zF d x_La_law 1156 [l0, l1, l2, l3] (zi (M k (z32 a).toNat) :: st) w M Q) := zG_iald (zh_La_law 1155 rfl) rfl
set_option maxRecDepth 100000 in
theorem f_La_law_1156 : zF d x_La_law 1156 [zr k, l1, l2, l3] st w M Q ↔ zF d x_La_law 1157 [zr k, l1, l2, l3] (zr k :: st) w M Q := zG_loc (zh_La_law 1156 rfl) rfl rfl rfl
set_option maxRecDepth 100000 in
theorem f_La_law_1157 : zF d x_La_law 1157 [l0, l1, l2, zi a] st w M Q ↔ zF d x_La_law 1158 [l0, l1, l2, zi a] (zi a :: st) w M Q := zG_loc (zh_La_law 1157 rfl) rfl rfl rfl
set_option maxRecDepth 100000 in
theorem f_La_law_1158 : zF d x_La_law 1158 [l0, l1, l2, l3] st w M Q ↔ zF d x_La_law 1159 [l0, l1, l2, l3] (zi (2) :: st) w M Q := zG_stk (zh_La_law 1158 rfl) rfl rfl
set_option maxRecDepth 100000 in
theorem f_La_law_1159 : zF d x_La_law 1159 [l0, l1, l2, l3] (zi b :: zi a :: st) w M Q ↔ zF d x_La_law 1160 [l0, l1, l2, l3] (zi (a + b) :: st) w M Q := zG_stk (zh_La_law 1159 rfl) rfl rfl
set_option maxRecDepth 100000 in
theorem f_La_law_1160 : zF d x_La_law 1160 [l0, l1, l2, l3] (zi a :: zr k :: st) w M Q ↔ (zA w k 0 (z32 a) ∧ zF d x_La_law 1161 [l0, l1, l2, l3] (zi (M k (z32 a).toNat) :: st) w M Q) := zG_iald (zh_La_law 1160 rfl) rfl
set_option maxRecDepth 100000 in
theorem f_La_law_1161 : zF d x_La_law 1161 [zr k, l1, l2, l3] st w M Q ↔ zF d x_La_law 1162 [zr k, l1, l2, l3] (zr k :: st) w M Q := zG_loc (zh_La_law 1161 rfl) rfl rfl rfl
set_option maxRecDepth 100000 in
theorem f_La_law_1162 : zF d x_La_law 1162 [l0, l1, l2, zi a] st w M Q ↔ zF d x_La_law 1163 [l0, l1, l2, zi a] (zi a :: st) w M Q := zG_loc (zh_La_law 1162 rfl) rfl rfl rfl
set_option maxRecDepth 100000 in
theorem f_La_law_1163 : zF d x_La_law 1163 [l0, l1, l2, l3] st w M Q ↔ zF d x_La_law 1164 [l0, l1, l2, l3] (zi (3) :: st) w M Q := zG_stk (zh_La_law 1163 rfl) rfl rfl
set_option maxRecDepth 100000 in
theorem f_La_law_1164 : zF d x_La_law 1164 [l0, l1, l2, l3] (zi b :: zi a :: st) w M Q ↔ zF d x_La_law 1165 [l0, l1, l2, l3] (zi (a + b) :: st) w M Q := zG_stk (zh_La_law 1164 rfl) rfl rfl
set_option maxRecDepth 100000 in
theorem f_La_law_1165 : zF d x_La_law 1165 [l0, l1, l2, l3] (zi a :: zr k :: st) w M Q ↔ (zA w k 0 (z32 a) ∧ zF d x_La_law 1166 [l0, l1, l2, l3] (zi (M k (z32 a).toNat) :: st) w M Q) := zG_iald (zh_La_law 1165 rfl) rfl
set_option maxRecDepth 100000 in
theorem f_La_law_1166 : zF d x_La_law 1166 [l0, l1, l2, l3] (zi c :: zi b :: zi a :: zr k :: st) w M Q ↔ (0 < d ∧ zwd st ≤ 8 ∧ ((zsh w k).1 = 0 ∧ (zsh w k).2.1 = 10) ∧ zF (d - 1) x_We_trade 0 [zr k, zi a, zi b, zi c] [] w M (fun v w' M' => zF d x_La_law 1169 [l0, l1, l2, l3] (v.toList ++ st) w' M' Q)) := zG_callO [zi c, zi b, zi a] (.inl rfl) (zh_La_law 1166 rfl) rfl rfl rfl (by rw [zm_We_trade]; rfl) (by rw [zm_We_trade]; rfl) rfl
set_option maxRecDepth 100000 in
theorem f_La_law_1169 : zF d x_La_law 1169 [l0, l1, zr k, l3] st w M Q ↔ zF d x_La_law 1170 [l0, l1, zr k, l3] (zr k :: st) w M Q := zG_loc (zh_La_law 1169 rfl) rfl rfl rfl
set_option maxRecDepth 100000 in
theorem f_La_law_1170 : zF d x_La_law 1170 [zr k, l1, l2, l3] st w M Q ↔ zF d x_La_law 1171 [zr k, l1, l2, l3] (zr k :: st) w M Q := zG_loc (zh_La_law 1170 rfl) rfl rfl rfl
set_option maxRecDepth 100000 in
theorem f_La_law_1171 : zF d x_La_law 1171 [l0, l1, l2, zi a] st w M Q ↔ zF d x_La_law 1172 [l0, l1, l2, zi a] (zi a :: st) w M Q := zG_loc (zh_La_law 1171 rfl) rfl rfl rfl
set_option maxRecDepth 100000 in
theorem f_La_law_1172 : zF d x_La_law 1172 [l0, l1, l2, l3] st w M Q ↔ zF d x_La_law 1173 [l0, l1, l2, l3] (zi (1) :: st) w M Q := zG_stk (zh_La_law 1172 rfl) rfl rfl
set_option maxRecDepth 100000 in
theorem f_La_law_1173 : zF d x_La_law 1173 [l0, l1, l2, l3] (zi b :: zi a :: st) w M Q ↔ zF d x_La_law 1174 [l0, l1, l2, l3] (zi (a + b) :: st) w M Q := zG_stk (zh_La_law 1173 rfl) rfl rfl
set_option maxRecDepth 100000 in
theorem f_La_law_1174 : zF d x_La_law 1174 [l0, l1, l2, l3] (zi a :: zr k :: st) w M Q ↔ (zA w k 0 (z32 a) ∧ zF d x_La_law 1175 [l0, l1, l2, l3] (zi (M k (z32 a).toNat) :: st) w M Q) := zG_iald (zh_La_law 1174 rfl) rfl
set_option maxRecDepth 100000 in
theorem f_La_law_1175 : zF d x_La_law 1175 [zr k, l1, l2, l3] st w M Q ↔ zF d x_La_law 1176 [zr k, l1, l2, l3] (zr k :: st) w M Q := zG_loc (zh_La_law 1175 rfl) rfl rfl rfl
set_option maxRecDepth 100000 in
theorem f_La_law_1176 : zF d x_La_law 1176 [l0, l1, l2, zi a] st w M Q ↔ zF d x_La_law 1177 [l0, l1, l2, zi a] (zi a :: st) w M Q := zG_loc (zh_La_law 1176 rfl) rfl rfl rfl
set_option maxRecDepth 100000 in
theorem f_La_law_1177 : zF d x_La_law 1177 [l0, l1, l2, l3] st w M Q ↔ zF d x_La_law 1178 [l0, l1, l2, l3] (zi (2) :: st) w M Q := zG_stk (zh_La_law 1177 rfl) rfl rfl
set_option maxRecDepth 100000 in
theorem f_La_law_1178 : zF d x_La_law 1178 [l0, l1, l2, l3] (zi b :: zi a :: st) w M Q ↔ zF d x_La_law 1179 [l0, l1, l2, l3] (zi (a + b) :: st) w M Q := zG_stk (zh_La_law 1178 rfl) rfl rfl
set_option maxRecDepth 100000 in
theorem f_La_law_1179 : zF d x_La_law 1179 [l0, l1, l2, l3] (zi a :: zr k :: st) w M Q ↔ (zA w k 0 (z32 a) ∧ zF d x_La_law 1180 [l0, l1, l2, l3] (zi (M k (z32 a).toNat) :: st) w M Q) := zG_iald (zh_La_law 1179 rfl) rfl
set_option maxRecDepth 100000 in
theorem f_La_law_1180 : zF d x_La_law 1180 [zr k, l1, l2, l3] st w M Q ↔ zF d x_La_law 1181 [zr k, l1, l2, l3] (zr k :: st) w M Q := zG_loc (zh_La_law 1180 rfl) rfl rfl rfl
set_option maxRecDepth 100000 in
theorem f_La_law_1181 : zF d x_La_law 1181 [l0, l1, l2, zi a] st w M Q ↔ zF d x_La_law 1182 [l0, l1, l2, zi a] (zi a :: st) w M Q := zG_loc (zh_La_law 1181 rfl) rfl rfl rfl
set_option maxRecDepth 100000 in
theorem f_La_law_1182 : zF d x_La_law 1182 [l0, l1, l2, l3] st w M Q ↔ zF d x_La_law 1183 [l0, l1, l2, l3] (zi (3) :: st) w M Q := zG_stk (zh_La_law 1182 rfl) rfl rfl
set_option maxRecDepth 100000 in
theorem f_La_law_1183 : zF d x_La_law 1183 [l0, l1, l2, l3] (zi b :: zi a :: st) w M Q ↔ zF d x_La_law 1184 [l0, l1, l2, l3] (zi (a + b) :: st) w M Q := zG_stk (zh_La_law 1183 rfl) rfl rfl
set_option maxRecDepth 100000 in
theorem f_La_law_1184 : zF d x_La_law 1184 [l0, l1, l2, l3] (zi a :: zr k :: st) w M Q ↔ (zA w k 0 (z32 a) ∧ zF d x_La_law 1185 [l0, l1, l2, l3] (zi (M k (z32 a).toNat) :: st) w M Q) := zG_iald (zh_La_law 1184 rfl) rfl
set_option maxRecDepth 100000 in
theorem f_La_law_1185 : zF d x_La_law 1185 [l0, l1, l2, l3] (zi c :: zi b :: zi a :: zr k :: st) w M Q ↔ (0 < d ∧ zwd st ≤ 8 ∧ ((zsh w k).1 = 0 ∧ (zsh w k).2.1 = 11) ∧ zF (d - 1) x_Mo_trade 0 [zr k, zi a, zi b, zi c, zt] [] w M (fun v w' M' => zF d x_La_law 1188 [l0, l1, l2, l3] (v.toList ++ st) w' M' Q)) := zG_callO [zi c, zi b, zi a] (.inl rfl) (zh_La_law 1185 rfl) rfl rfl rfl (by rw [zm_Mo_trade]; rfl) (by rw [zm_Mo_trade]; rfl) rfl
set_option maxRecDepth 100000 in
theorem f_La_law_1188 : zF d x_La_law 1188 [l0, l1, l2, l3] (zi b :: zi a :: st) w M Q ↔ (if z32 a = z32 b then zF d x_La_law 1879 [l0, l1, l2, l3] st w M Q else zF d x_La_law 1191 [l0, l1, l2, l3] st w M Q) := zG_ifP (zh_La_law 1188 rfl) rfl rfl rfl decide_eq_true_iff
set_option maxRecDepth 100000 in
theorem f_La_law_1191 : zF d x_La_law 1191 [l0, l1, l2, l3] st w M Q ↔ zF d x_La_law 1192 [l0, l1, l2, l3] (zi (0) :: st) w M Q := zG_stk (zh_La_law 1191 rfl) rfl rfl
set_option maxRecDepth 100000 in
theorem f_La_law_1192 : zF d x_La_law 1192 [l0, l1, l2, l3] [zi a] w M Q ↔ ((a = 0 ∨ a = 1) ∧ Q (some (zi a)) w M) := zG_prR (zh_La_law 1192 rfl) zb_La_law
set_option maxRecDepth 100000 in
theorem f_La_law_1193 : zF d x_La_law 1193 [l0, zr k, l2, l3] st w M Q ↔ zF d x_La_law 1194 [l0, zr k, l2, l3] (zr k :: st) w M Q := zG_loc (zh_La_law 1193 rfl) rfl rfl rfl
set_option maxRecDepth 100000 in
theorem f_La_law_1194 : zF d x_La_law 1194 [zr k, l1, l2, l3] st w M Q ↔ zF d x_La_law 1195 [zr k, l1, l2, l3] (zr k :: st) w M Q := zG_loc (zh_La_law 1194 rfl) rfl rfl rfl
set_option maxRecDepth 100000 in
theorem f_La_law_1195 : zF d x_La_law 1195 [l0, l1, l2, zi a] st w M Q ↔ zF d x_La_law 1196 [l0, l1, l2, zi a] (zi a :: st) w M Q := zG_loc (zh_La_law 1195 rfl) rfl rfl rfl
set_option maxRecDepth 100000 in
theorem f_La_law_1196 : zF d x_La_law 1196 [l0, l1, l2, l3] st w M Q ↔ zF d x_La_law 1197 [l0, l1, l2, l3] (zi (1) :: st) w M Q := zG_stk (zh_La_law 1196 rfl) rfl rfl
set_option maxRecDepth 100000 in
theorem f_La_law_1197 : zF d x_La_law 1197 [l0, l1, l2, l3] (zi b :: zi a :: st) w M Q ↔ zF d x_La_law 1198 [l0, l1, l2, l3] (zi (a + b) :: st) w M Q := zG_stk (zh_La_law 1197 rfl) rfl rfl
set_option maxRecDepth 100000 in
theorem f_La_law_1198 : zF d x_La_law 1198 [l0, l1, l2, l3] (zi a :: zr k :: st) w M Q ↔ (zA w k 0 (z32 a) ∧ zF d x_La_law 1199 [l0, l1, l2, l3] (zi (M k (z32 a).toNat) :: st) w M Q) := zG_iald (zh_La_law 1198 rfl) rfl
set_option maxRecDepth 100000 in
theorem f_La_law_1199 : zF d x_La_law 1199 [zr k, l1, l2, l3] st w M Q ↔ zF d x_La_law 1200 [zr k, l1, l2, l3] (zr k :: st) w M Q := zG_loc (zh_La_law 1199 rfl) rfl rfl rfl
set_option maxRecDepth 100000 in
theorem f_La_law_1200 : zF d x_La_law 1200 [l0, l1, l2, zi a] st w M Q ↔ zF d x_La_law 1201 [l0, l1, l2, zi a] (zi a :: st) w M Q := zG_loc (zh_La_law 1200 rfl) rfl rfl rfl
set_option maxRecDepth 100000 in
theorem f_La_law_1201 : zF d x_La_law 1201 [l0, l1, l2, l3] st w M Q ↔ zF d x_La_law 1202 [l0, l1, l2, l3] (zi (2) :: st) w M Q := zG_stk (zh_La_law 1201 rfl) rfl rfl
set_option maxRecDepth 100000 in
theorem f_La_law_1202 : zF d x_La_law 1202 [l0, l1, l2, l3] (zi b :: zi a :: st) w M Q ↔ zF d x_La_law 1203 [l0, l1, l2, l3] (zi (a + b) :: st) w M Q := zG_stk (zh_La_law 1202 rfl) rfl rfl
set_option maxRecDepth 100000 in
theorem f_La_law_1203 : zF d x_La_law 1203 [l0, l1, l2, l3] (zi a :: zr k :: st) w M Q ↔ (zA w k 0 (z32 a) ∧ zF d x_La_law 1204 [l0, l1, l2, l3] (zi (M k (z32 a).toNat) :: st) w M Q) := zG_iald (zh_La_law 1203 rfl) rfl
set_option maxRecDepth 100000 in
theorem f_La_law_1204 : zF d x_La_law 1204 [l0, l1, l2, l3] (zi b :: zi a :: zr k :: st) w M Q ↔ (0 < d ∧ zwd st ≤ 8 ∧ ((zsh w k).1 = 0 ∧ (zsh w k).2.1 = 10) ∧ zF (d - 1) x_We_worth 0 [zr k, zi a, zi b] [] w M (fun v w' M' => zF d x_La_law 1207 [l0, l1, l2, l3] (v.toList ++ st) w' M' Q)) := zG_callO [zi b, zi a] (.inl rfl) (zh_La_law 1204 rfl) rfl rfl rfl (by rw [zm_We_worth]; rfl) (by rw [zm_We_worth]; rfl) rfl
set_option maxRecDepth 100000 in
theorem f_La_law_1207 : zF d x_La_law 1207 [l0, l1, zr k, l3] st w M Q ↔ zF d x_La_law 1208 [l0, l1, zr k, l3] (zr k :: st) w M Q := zG_loc (zh_La_law 1207 rfl) rfl rfl rfl
set_option maxRecDepth 100000 in
theorem f_La_law_1208 : zF d x_La_law 1208 [zr k, l1, l2, l3] st w M Q ↔ zF d x_La_law 1209 [zr k, l1, l2, l3] (zr k :: st) w M Q := zG_loc (zh_La_law 1208 rfl) rfl rfl rfl
set_option maxRecDepth 100000 in
theorem f_La_law_1209 : zF d x_La_law 1209 [l0, l1, l2, zi a] st w M Q ↔ zF d x_La_law 1210 [l0, l1, l2, zi a] (zi a :: st) w M Q := zG_loc (zh_La_law 1209 rfl) rfl rfl rfl
set_option maxRecDepth 100000 in
theorem f_La_law_1210 : zF d x_La_law 1210 [l0, l1, l2, l3] st w M Q ↔ zF d x_La_law 1211 [l0, l1, l2, l3] (zi (1) :: st) w M Q := zG_stk (zh_La_law 1210 rfl) rfl rfl
set_option maxRecDepth 100000 in
theorem f_La_law_1211 : zF d x_La_law 1211 [l0, l1, l2, l3] (zi b :: zi a :: st) w M Q ↔ zF d x_La_law 1212 [l0, l1, l2, l3] (zi (a + b) :: st) w M Q := zG_stk (zh_La_law 1211 rfl) rfl rfl
set_option maxRecDepth 100000 in
theorem f_La_law_1212 : zF d x_La_law 1212 [l0, l1, l2, l3] (zi a :: zr k :: st) w M Q ↔ (zA w k 0 (z32 a) ∧ zF d x_La_law 1213 [l0, l1, l2, l3] (zi (M k (z32 a).toNat) :: st) w M Q) := zG_iald (zh_La_law 1212 rfl) rfl
set_option maxRecDepth 100000 in
theorem f_La_law_1213 : zF d x_La_law 1213 [zr k, l1, l2, l3] st w M Q ↔ zF d x_La_law 1214 [zr k, l1, l2, l3] (zr k :: st) w M Q := zG_loc (zh_La_law 1213 rfl) rfl rfl rfl
set_option maxRecDepth 100000 in
theorem f_La_law_1214 : zF d x_La_law 1214 [l0, l1, l2, zi a] st w M Q ↔ zF d x_La_law 1215 [l0, l1, l2, zi a] (zi a :: st) w M Q := zG_loc (zh_La_law 1214 rfl) rfl rfl rfl
set_option maxRecDepth 100000 in
theorem f_La_law_1215 : zF d x_La_law 1215 [l0, l1, l2, l3] st w M Q ↔ zF d x_La_law 1216 [l0, l1, l2, l3] (zi (2) :: st) w M Q := zG_stk (zh_La_law 1215 rfl) rfl rfl
set_option maxRecDepth 100000 in
theorem f_La_law_1216 : zF d x_La_law 1216 [l0, l1, l2, l3] (zi b :: zi a :: st) w M Q ↔ zF d x_La_law 1217 [l0, l1, l2, l3] (zi (a + b) :: st) w M Q := zG_stk (zh_La_law 1216 rfl) rfl rfl
set_option maxRecDepth 100000 in
theorem f_La_law_1217 : zF d x_La_law 1217 [l0, l1, l2, l3] (zi a :: zr k :: st) w M Q ↔ (zA w k 0 (z32 a) ∧ zF d x_La_law 1218 [l0, l1, l2, l3] (zi (M k (z32 a).toNat) :: st) w M Q) := zG_iald (zh_La_law 1217 rfl) rfl
set_option maxRecDepth 100000 in
theorem f_La_law_1218 : zF d x_La_law 1218 [l0, l1, l2, l3] (zi b :: zi a :: zr k :: st) w M Q ↔ (0 < d ∧ zwd st ≤ 8 ∧ ((zsh w k).1 = 0 ∧ (zsh w k).2.1 = 11) ∧ zF (d - 1) x_Mo_worth 0 [zr k, zi a, zi b] [] w M (fun v w' M' => zF d x_La_law 1221 [l0, l1, l2, l3] (v.toList ++ st) w' M' Q)) := zG_callO [zi b, zi a] (.inl rfl) (zh_La_law 1218 rfl) rfl rfl rfl (by rw [zm_Mo_worth]; rfl) (by rw [zm_Mo_worth]; rfl) rfl
set_option maxRecDepth 100000 in
theorem f_La_law_1221 : zF d x_La_law 1221 [l0, l1, l2, l3] (zi b :: zi a :: st) w M Q ↔ (if z32 a = z32 b then zF d x_La_law 1879 [l0, l1, l2, l3] st w M Q else zF d x_La_law 1224 [l0, l1, l2, l3] st w M Q) := zG_ifP (zh_La_law 1221 rfl) rfl rfl rfl decide_eq_true_iff
set_option maxRecDepth 100000 in
theorem f_La_law_1224 : zF d x_La_law 1224 [l0, l1, l2, l3] st w M Q ↔ zF d x_La_law 1225 [l0, l1, l2, l3] (zi (0) :: st) w M Q := zG_stk (zh_La_law 1224 rfl) rfl rfl
set_option maxRecDepth 100000 in
theorem f_La_law_1225 : zF d x_La_law 1225 [l0, l1, l2, l3] [zi a] w M Q ↔ ((a = 0 ∨ a = 1) ∧ Q (some (zi a)) w M) := zG_prR (zh_La_law 1225 rfl) zb_La_law
set_option maxRecDepth 100000 in
theorem f_La_law_1226 : zF d x_La_law 1226 [l0, zr k, l2, l3] st w M Q ↔ zF d x_La_law 1227 [l0, zr k, l2, l3] (zr k :: st) w M Q := zG_loc (zh_La_law 1226 rfl) rfl rfl rfl
set_option maxRecDepth 100000 in
theorem f_La_law_1227 : zF d x_La_law 1227 [zr k, l1, l2, l3] st w M Q ↔ zF d x_La_law 1228 [zr k, l1, l2, l3] (zr k :: st) w M Q := zG_loc (zh_La_law 1227 rfl) rfl rfl rfl
set_option maxRecDepth 100000 in
theorem f_La_law_1228 : zF d x_La_law 1228 [l0, l1, l2, zi a] st w M Q ↔ zF d x_La_law 1229 [l0, l1, l2, zi a] (zi a :: st) w M Q := zG_loc (zh_La_law 1228 rfl) rfl rfl rfl
set_option maxRecDepth 100000 in
theorem f_La_law_1229 : zF d x_La_law 1229 [l0, l1, l2, l3] st w M Q ↔ zF d x_La_law 1230 [l0, l1, l2, l3] (zi (1) :: st) w M Q := zG_stk (zh_La_law 1229 rfl) rfl rfl
set_option maxRecDepth 100000 in
theorem f_La_law_1230 : zF d x_La_law 1230 [l0, l1, l2, l3] (zi b :: zi a :: st) w M Q ↔ zF d x_La_law 1231 [l0, l1, l2, l3] (zi (a + b) :: st) w M Q := zG_stk (zh_La_law 1230 rfl) rfl rfl
set_option maxRecDepth 100000 in
theorem f_La_law_1231 : zF d x_La_law 1231 [l0, l1, l2, l3] (zi a :: zr k :: st) w M Q ↔ (zA w k 0 (z32 a) ∧ zF d x_La_law 1232 [l0, l1, l2, l3] (zi (M k (z32 a).toNat) :: st) w M Q) := zG_iald (zh_La_law 1231 rfl) rfl
set_option maxRecDepth 100000 in
theorem f_La_law_1232 : zF d x_La_law 1232 [zr k, l1, l2, l3] st w M Q ↔ zF d x_La_law 1233 [zr k, l1, l2, l3] (zr k :: st) w M Q := zG_loc (zh_La_law 1232 rfl) rfl rfl rfl
set_option maxRecDepth 100000 in
theorem f_La_law_1233 : zF d x_La_law 1233 [l0, l1, l2, zi a] st w M Q ↔ zF d x_La_law 1234 [l0, l1, l2, zi a] (zi a :: st) w M Q := zG_loc (zh_La_law 1233 rfl) rfl rfl rfl
set_option maxRecDepth 100000 in
theorem f_La_law_1234 : zF d x_La_law 1234 [l0, l1, l2, l3] st w M Q ↔ zF d x_La_law 1235 [l0, l1, l2, l3] (zi (2) :: st) w M Q := zG_stk (zh_La_law 1234 rfl) rfl rfl
set_option maxRecDepth 100000 in
theorem f_La_law_1235 : zF d x_La_law 1235 [l0, l1, l2, l3] (zi b :: zi a :: st) w M Q ↔ zF d x_La_law 1236 [l0, l1, l2, l3] (zi (a + b) :: st) w M Q := zG_stk (zh_La_law 1235 rfl) rfl rfl
set_option maxRecDepth 100000 in
theorem f_La_law_1236 : zF d x_La_law 1236 [l0, l1, l2, l3] (zi a :: zr k :: st) w M Q ↔ (zA w k 0 (z32 a) ∧ zF d x_La_law 1237 [l0, l1, l2, l3] (zi (M k (z32 a).toNat) :: st) w M Q) := zG_iald (zh_La_law 1236 rfl) rfl
set_option maxRecDepth 100000 in
theorem f_La_law_1237 : zF d x_La_law 1237 [l0, l1, l2, l3] (zi b :: zi a :: zr k :: st) w M Q ↔ (0 < d ∧ zwd st ≤ 8 ∧ ((zsh w k).1 = 0 ∧ (zsh w k).2.1 = 10) ∧ zF (d - 1) x_We_plan 0 [zr k, zi a, zi b, zt] [] w M (fun v w' M' => zF d x_La_law 1240 [l0, l1, l2, l3] (v.toList ++ st) w' M' Q)) := zG_callO [zi b, zi a] (.inl rfl) (zh_La_law 1237 rfl) rfl rfl rfl (by rw [zm_We_plan]; rfl) (by rw [zm_We_plan]; rfl) rfl
set_option maxRecDepth 100000 in
theorem f_La_law_1240 : zF d x_La_law 1240 [l0, l1, zr k, l3] st w M Q ↔ zF d x_La_law 1241 [l0, l1, zr k, l3] (zr k :: st) w M Q := zG_loc (zh_La_law 1240 rfl) rfl rfl rfl
set_option maxRecDepth 100000 in
theorem f_La_law_1241 : zF d x_La_law 1241 [zr k, l1, l2, l3] st w M Q ↔ zF d x_La_law 1242 [zr k, l1, l2, l3] (zr k :: st) w M Q := zG_loc (zh_La_law 1241 rfl) rfl rfl rfl
set_option maxRecDepth 100000 in
theorem f_La_law_1242 : zF d x_La_law 1242 [l0, l1, l2, zi a] st w M Q ↔ zF d x_La_law 1243 [l0, l1, l2, zi a] (zi a :: st) w M Q := zG_loc (zh_La_law 1242 rfl) rfl rfl rfl
set_option maxRecDepth 100000 in
theorem f_La_law_1243 : zF d x_La_law 1243 [l0, l1, l2, l3] st w M Q ↔ zF d x_La_law 1244 [l0, l1, l2, l3] (zi (1) :: st) w M Q := zG_stk (zh_La_law 1243 rfl) rfl rfl
set_option maxRecDepth 100000 in
theorem f_La_law_1244 : zF d x_La_law 1244 [l0, l1, l2, l3] (zi b :: zi a :: st) w M Q ↔ zF d x_La_law 1245 [l0, l1, l2, l3] (zi (a + b) :: st) w M Q := zG_stk (zh_La_law 1244 rfl) rfl rfl
set_option maxRecDepth 100000 in
theorem f_La_law_1245 : zF d x_La_law 1245 [l0, l1, l2, l3] (zi a :: zr k :: st) w M Q ↔ (zA w k 0 (z32 a) ∧ zF d x_La_law 1246 [l0, l1, l2, l3] (zi (M k (z32 a).toNat) :: st) w M Q) := zG_iald (zh_La_law 1245 rfl) rfl
set_option maxRecDepth 100000 in
theorem f_La_law_1246 : zF d x_La_law 1246 [zr k, l1, l2, l3] st w M Q ↔ zF d x_La_law 1247 [zr k, l1, l2, l3] (zr k :: st) w M Q := zG_loc (zh_La_law 1246 rfl) rfl rfl rfl
set_option maxRecDepth 100000 in
theorem f_La_law_1247 : zF d x_La_law 1247 [l0, l1, l2, zi a] st w M Q ↔ zF d x_La_law 1248 [l0, l1, l2, zi a] (zi a :: st) w M Q := zG_loc (zh_La_law 1247 rfl) rfl rfl rfl
set_option maxRecDepth 100000 in
theorem f_La_law_1248 : zF d x_La_law 1248 [l0, l1, l2, l3] st w M Q ↔ zF d x_La_law 1249 [l0, l1, l2, l3] (zi (2) :: st) w M Q := zG_stk (zh_La_law 1248 rfl) rfl rfl
set_option maxRecDepth 100000 in
theorem f_La_law_1249 : zF d x_La_law 1249 [l0, l1, l2, l3] (zi b :: zi a :: st) w M Q ↔ zF d x_La_law 1250 [l0, l1, l2, l3] (zi (a + b) :: st) w M Q := zG_stk (zh_La_law 1249 rfl) rfl rfl
set_option maxRecDepth 100000 in
theorem f_La_law_1250 : zF d x_La_law 1250 [l0, l1, l2, l3] (zi a :: zr k :: st) w M Q ↔ (zA w k 0 (z32 a) ∧ zF d x_La_law 1251 [l0, l1, l2, l3] (zi (M k (z32 a).toNat) :: st) w M Q) := zG_iald (zh_La_law 1250 rfl) rfl
set_option maxRecDepth 100000 in
theorem f_La_law_1251 : zF d x_La_law 1251 [l0, l1, l2, l3] (zi b :: zi a :: zr k :: st) w M Q ↔ (0 < d ∧ zwd st ≤ 8 ∧ ((zsh w k).1 = 0 ∧ (zsh w k).2.1 = 11) ∧ zF (d - 1) x_Mo_plan 0 [zr k, zi a, zi b] [] w M (fun v w' M' => zF d x_La_law 1254 [l0, l1, l2, l3] (v.toList ++ st) w' M' Q)) := zG_callO [zi b, zi a] (.inl rfl) (zh_La_law 1251 rfl) rfl rfl rfl (by rw [zm_Mo_plan]; rfl) (by rw [zm_Mo_plan]; rfl) rfl
set_option maxRecDepth 100000 in
theorem f_La_law_1254 : zF d x_La_law 1254 [l0, l1, l2, l3] (zi b :: zi a :: st) w M Q ↔ (if z32 a = z32 b then zF d x_La_law 1879 [l0, l1, l2, l3] st w M Q else zF d x_La_law 1257 [l0, l1, l2, l3] st w M Q) := zG_ifP (zh_La_law 1254 rfl) rfl rfl rfl decide_eq_true_iff
set_option maxRecDepth 100000 in
theorem f_La_law_1257 : zF d x_La_law 1257 [l0, l1, l2, l3] st w M Q ↔ zF d x_La_law 1258 [l0, l1, l2, l3] (zi (0) :: st) w M Q := zG_stk (zh_La_law 1257 rfl) rfl rfl
set_option maxRecDepth 100000 in
theorem f_La_law_1258 : zF d x_La_law 1258 [l0, l1, l2, l3] [zi a] w M Q ↔ ((a = 0 ∨ a = 1) ∧ Q (some (zi a)) w M) := zG_prR (zh_La_law 1258 rfl) zb_La_law
set_option maxRecDepth 100000 in
theorem f_La_law_1259 : zF d x_La_law 1259 [l0, zr k, l2, l3] st w M Q ↔ zF d x_La_law 1260 [l0, zr k, l2, l3] (zr k :: st) w M Q := zG_loc (zh_La_law 1259 rfl) rfl rfl rfl
set_option maxRecDepth 100000 in
theorem f_La_law_1260 : zF d x_La_law 1260 [zr k, l1, l2, l3] st w M Q ↔ zF d x_La_law 1261 [zr k, l1, l2, l3] (zr k :: st) w M Q := zG_loc (zh_La_law 1260 rfl) rfl rfl rfl
set_option maxRecDepth 100000 in
theorem f_La_law_1261 : zF d x_La_law 1261 [l0, l1, l2, zi a] st w M Q ↔ zF d x_La_law 1262 [l0, l1, l2, zi a] (zi a :: st) w M Q := zG_loc (zh_La_law 1261 rfl) rfl rfl rfl
set_option maxRecDepth 100000 in
theorem f_La_law_1262 : zF d x_La_law 1262 [l0, l1, l2, l3] st w M Q ↔ zF d x_La_law 1263 [l0, l1, l2, l3] (zi (1) :: st) w M Q := zG_stk (zh_La_law 1262 rfl) rfl rfl
set_option maxRecDepth 100000 in
theorem f_La_law_1263 : zF d x_La_law 1263 [l0, l1, l2, l3] (zi b :: zi a :: st) w M Q ↔ zF d x_La_law 1264 [l0, l1, l2, l3] (zi (a + b) :: st) w M Q := zG_stk (zh_La_law 1263 rfl) rfl rfl
set_option maxRecDepth 100000 in
theorem f_La_law_1264 : zF d x_La_law 1264 [l0, l1, l2, l3] (zi a :: zr k :: st) w M Q ↔ (zA w k 0 (z32 a) ∧ zF d x_La_law 1265 [l0, l1, l2, l3] (zi (M k (z32 a).toNat) :: st) w M Q) := zG_iald (zh_La_law 1264 rfl) rfl
set_option maxRecDepth 100000 in
theorem f_La_law_1265 : zF d x_La_law 1265 [zr k, l1, l2, l3] st w M Q ↔ zF d x_La_law 1266 [zr k, l1, l2, l3] (zr k :: st) w M Q := zG_loc (zh_La_law 1265 rfl) rfl rfl rfl
set_option maxRecDepth 100000 in
theorem f_La_law_1266 : zF d x_La_law 1266 [l0, l1, l2, zi a] st w M Q ↔ zF d x_La_law 1267 [l0, l1, l2, zi a] (zi a :: st) w M Q := zG_loc (zh_La_law 1266 rfl) rfl rfl rfl
set_option maxRecDepth 100000 in
theorem f_La_law_1267 : zF d x_La_law 1267 [l0, l1, l2, l3] st w M Q ↔ zF d x_La_law 1268 [l0, l1, l2, l3] (zi (2) :: st) w M Q := zG_stk (zh_La_law 1267 rfl) rfl rfl
set_option maxRecDepth 100000 in
theorem f_La_law_1268 : zF d x_La_law 1268 [l0, l1, l2, l3] (zi b :: zi a :: st) w M Q ↔ zF d x_La_law 1269 [l0, l1, l2, l3] (zi (a + b) :: st) w M Q := zG_stk (zh_La_law 1268 rfl) rfl rfl
set_option maxRecDepth 100000 in
theorem f_La_law_1269 : zF d x_La_law 1269 [l0, l1, l2, l3] (zi a :: zr k :: st) w M Q ↔ (zA w k 0 (z32 a) ∧ zF d x_La_law 1270 [l0, l1, l2, l3] (zi (M k (z32 a).toNat) :: st) w M Q) := zG_iald (zh_La_law 1269 rfl) rfl
set_option maxRecDepth 100000 in
theorem f_La_law_1270 : zF d x_La_law 1270 [l0, l1, l2, l3] (zi b :: zi a :: zr k :: st) w M Q ↔ (0 < d ∧ zwd st ≤ 8 ∧ ((zsh w k).1 = 0 ∧ (zsh w k).2.1 = 10) ∧ zF (d - 1) x_We_check 0 [zr k, zi a, zi b] [] w M (fun v w' M' => zF d x_La_law 1273 [l0, l1, l2, l3] (v.toList ++ st) w' M' Q)) := zG_callO [zi b, zi a] (.inl rfl) (zh_La_law 1270 rfl) rfl rfl rfl (by rw [zm_We_check]; rfl) (by rw [zm_We_check]; rfl) rfl
set_option maxRecDepth 100000 in
theorem f_La_law_1273 : zF d x_La_law 1273 [l0, l1, zr k, l3] st w M Q ↔ zF d x_La_law 1274 [l0, l1, zr k, l3] (zr k :: st) w M Q := zG_loc (zh_La_law 1273 rfl) rfl rfl rfl
set_option maxRecDepth 100000 in
theorem f_La_law_1274 : zF d x_La_law 1274 [zr k, l1, l2, l3] st w M Q ↔ zF d x_La_law 1275 [zr k, l1, l2, l3] (zr k :: st) w M Q := zG_loc (zh_La_law 1274 rfl) rfl rfl rfl
set_option maxRecDepth 100000 in
theorem f_La_law_1275 : zF d x_La_law 1275 [l0, l1, l2, zi a] st w M Q ↔ zF d x_La_law 1276 [l0, l1, l2, zi a] (zi a :: st) w M Q := zG_loc (zh_La_law 1275 rfl) rfl rfl rfl
set_option maxRecDepth 100000 in
theorem f_La_law_1276 : zF d x_La_law 1276 [l0, l1, l2, l3] st w M Q ↔ zF d x_La_law 1277 [l0, l1, l2, l3] (zi (1) :: st) w M Q := zG_stk (zh_La_law 1276 rfl) rfl rfl
set_option maxRecDepth 100000 in
theorem f_La_law_1277 : zF d x_La_law 1277 [l0, l1, l2, l3] (zi b :: zi a :: st) w M Q ↔ zF d x_La_law 1278 [l0, l1, l2, l3] (zi (a + b) :: st) w M Q := zG_stk (zh_La_law 1277 rfl) rfl rfl
set_option maxRecDepth 100000 in
theorem f_La_law_1278 : zF d x_La_law 1278 [l0, l1, l2, l3] (zi a :: zr k :: st) w M Q ↔ (zA w k 0 (z32 a) ∧ zF d x_La_law 1279 [l0, l1, l2, l3] (zi (M k (z32 a).toNat) :: st) w M Q) := zG_iald (zh_La_law 1278 rfl) rfl
set_option maxRecDepth 100000 in
theorem f_La_law_1279 : zF d x_La_law 1279 [zr k, l1, l2, l3] st w M Q ↔ zF d x_La_law 1280 [zr k, l1, l2, l3] (zr k :: st) w M Q := zG_loc (zh_La_law 1279 rfl) rfl rfl rfl
set_option maxRecDepth 100000 in
theorem f_La_law_1280 : zF d x_La_law 1280 [l0, l1, l2, zi a] st w M Q ↔ zF d x_La_law 1281 [l0, l1, l2, zi a] (zi a :: st) w M Q := zG_loc (zh_La_law 1280 rfl) rfl rfl rfl
set_option maxRecDepth 100000 in
theorem f_La_law_1281 : zF d x_La_law 1281 [l0, l1, l2, l3] st w M Q ↔ zF d x_La_law 1282 [l0, l1, l2, l3] (zi (2) :: st) w M Q := zG_stk (zh_La_law 1281 rfl) rfl rfl
set_option maxRecDepth 100000 in
theorem f_La_law_1282 : zF d x_La_law 1282 [l0, l1, l2, l3] (zi b :: zi a :: st) w M Q ↔ zF d x_La_law 1283 [l0, l1, l2, l3] (zi (a + b) :: st) w M Q := zG_stk (zh_La_law 1282 rfl) rfl rfl
set_option maxRecDepth 100000 in
theorem f_La_law_1283 : zF d x_La_law 1283 [l0, l1, l2, l3] (zi a :: zr k :: st) w M Q ↔ (zA w k 0 (z32 a) ∧ zF d x_La_law 1284 [l0, l1, l2, l3] (zi (M k (z32 a).toNat) :: st) w M Q) := zG_iald (zh_La_law 1283 rfl) rfl
set_option maxRecDepth 100000 in
theorem f_La_law_1284 : zF d x_La_law 1284 [l0, l1, l2, l3] (zi b :: zi a :: zr k :: st) w M Q ↔ (0 < d ∧ zwd st ≤ 8 ∧ ((zsh w k).1 = 0 ∧ (zsh w k).2.1 = 11) ∧ zF (d - 1) x_Mo_check 0 [zr k, zi a, zi b, zt, zt, zt, zt, zt] [] w M (fun v w' M' => zF d x_La_law 1287 [l0, l1, l2, l3] (v.toList ++ st) w' M' Q)) := zG_callO [zi b, zi a] (.inl rfl) (zh_La_law 1284 rfl) rfl rfl rfl (by rw [zm_Mo_check]; rfl) (by rw [zm_Mo_check]; rfl) rfl
set_option maxRecDepth 100000 in
theorem f_La_law_1287 : zF d x_La_law 1287 [l0, l1, l2, l3] (zi b :: zi a :: st) w M Q ↔ (if z32 a = z32 b then zF d x_La_law 1879 [l0, l1, l2, l3] st w M Q else zF d x_La_law 1290 [l0, l1, l2, l3] st w M Q) := zG_ifP (zh_La_law 1287 rfl) rfl rfl rfl decide_eq_true_iff
set_option maxRecDepth 100000 in
theorem f_La_law_1290 : zF d x_La_law 1290 [l0, l1, l2, l3] st w M Q ↔ zF d x_La_law 1291 [l0, l1, l2, l3] (zi (0) :: st) w M Q := zG_stk (zh_La_law 1290 rfl) rfl rfl
set_option maxRecDepth 100000 in
theorem f_La_law_1291 : zF d x_La_law 1291 [l0, l1, l2, l3] [zi a] w M Q ↔ ((a = 0 ∨ a = 1) ∧ Q (some (zi a)) w M) := zG_prR (zh_La_law 1291 rfl) zb_La_law
set_option maxRecDepth 100000 in
theorem f_La_law_1292 : zF d x_La_law 1292 [l0, zr k, l2, l3] st w M Q ↔ zF d x_La_law 1293 [l0, zr k, l2, l3] (zr k :: st) w M Q := zG_loc (zh_La_law 1292 rfl) rfl rfl rfl
set_option maxRecDepth 100000 in
theorem f_La_law_1293 : zF d x_La_law 1293 [zr k, l1, l2, l3] st w M Q ↔ zF d x_La_law 1294 [zr k, l1, l2, l3] (zr k :: st) w M Q := zG_loc (zh_La_law 1293 rfl) rfl rfl rfl
set_option maxRecDepth 100000 in
theorem f_La_law_1294 : zF d x_La_law 1294 [l0, l1, l2, zi a] st w M Q ↔ zF d x_La_law 1295 [l0, l1, l2, zi a] (zi a :: st) w M Q := zG_loc (zh_La_law 1294 rfl) rfl rfl rfl
set_option maxRecDepth 100000 in
theorem f_La_law_1295 : zF d x_La_law 1295 [l0, l1, l2, l3] st w M Q ↔ zF d x_La_law 1296 [l0, l1, l2, l3] (zi (1) :: st) w M Q := zG_stk (zh_La_law 1295 rfl) rfl rfl
set_option maxRecDepth 100000 in
theorem f_La_law_1296 : zF d x_La_law 1296 [l0, l1, l2, l3] (zi b :: zi a :: st) w M Q ↔ zF d x_La_law 1297 [l0, l1, l2, l3] (zi (a + b) :: st) w M Q := zG_stk (zh_La_law 1296 rfl) rfl rfl
set_option maxRecDepth 100000 in
theorem f_La_law_1297 : zF d x_La_law 1297 [l0, l1, l2, l3] (zi a :: zr k :: st) w M Q ↔ (zA w k 0 (z32 a) ∧ zF d x_La_law 1298 [l0, l1, l2, l3] (zi (M k (z32 a).toNat) :: st) w M Q) := zG_iald (zh_La_law 1297 rfl) rfl
set_option maxRecDepth 100000 in
theorem f_La_law_1298 : zF d x_La_law 1298 [zr k, l1, l2, l3] st w M Q ↔ zF d x_La_law 1299 [zr k, l1, l2, l3] (zr k :: st) w M Q := zG_loc (zh_La_law 1298 rfl) rfl rfl rfl
set_option maxRecDepth 100000 in
theorem f_La_law_1299 : zF d x_La_law 1299 [l0, l1, l2, zi a] st w M Q ↔ zF d x_La_law 1300 [l0, l1, l2, zi a] (zi a :: st) w M Q := zG_loc (zh_La_law 1299 rfl) rfl rfl rfl
set_option maxRecDepth 100000 in
theorem f_La_law_1300 : zF d x_La_law 1300 [l0, l1, l2, l3] st w M Q ↔ zF d x_La_law 1301 [l0, l1, l2, l3] (zi (2) :: st) w M Q := zG_stk (zh_La_law 1300 rfl) rfl rfl
set_option maxRecDepth 100000 in
theorem f_La_law_1301 : zF d x_La_law 1301 [l0, l1, l2, l3] (zi b :: zi a :: st) w M Q ↔ zF d x_La_law 1302 [l0, l1, l2, l3] (zi (a + b) :: st) w M Q := zG_stk (zh_La_law 1301 rfl) rfl rfl
set_option maxRecDepth 100000 in
theorem f_La_law_1302 : zF d x_La_law 1302 [l0, l1, l2, l3] (zi a :: zr k :: st) w M Q ↔ (zA w k 0 (z32 a) ∧ zF d x_La_law 1303 [l0, l1, l2, l3] (zi (M k (z32 a).toNat) :: st) w M Q) := zG_iald (zh_La_law 1302 rfl) rfl
set_option maxRecDepth 100000 in
theorem f_La_law_1303 : zF d x_La_law 1303 [zr k, l1, l2, l3] st w M Q ↔ zF d x_La_law 1304 [zr k, l1, l2, l3] (zr k :: st) w M Q := zG_loc (zh_La_law 1303 rfl) rfl rfl rfl
set_option maxRecDepth 100000 in
theorem f_La_law_1304 : zF d x_La_law 1304 [l0, l1, l2, zi a] st w M Q ↔ zF d x_La_law 1305 [l0, l1, l2, zi a] (zi a :: st) w M Q := zG_loc (zh_La_law 1304 rfl) rfl rfl rfl
set_option maxRecDepth 100000 in
theorem f_La_law_1305 : zF d x_La_law 1305 [l0, l1, l2, l3] st w M Q ↔ zF d x_La_law 1306 [l0, l1, l2, l3] (zi (3) :: st) w M Q := zG_stk (zh_La_law 1305 rfl) rfl rfl
set_option maxRecDepth 100000 in
theorem f_La_law_1306 : zF d x_La_law 1306 [l0, l1, l2, l3] (zi b :: zi a :: st) w M Q ↔ zF d x_La_law 1307 [l0, l1, l2, l3] (zi (a + b) :: st) w M Q := zG_stk (zh_La_law 1306 rfl) rfl rfl
set_option maxRecDepth 100000 in
theorem f_La_law_1307 : zF d x_La_law 1307 [l0, l1, l2, l3] (zi a :: zr k :: st) w M Q ↔ (zA w k 0 (z32 a) ∧ zF d x_La_law 1308 [l0, l1, l2, l3] (zi (M k (z32 a).toNat) :: st) w M Q) := zG_iald (zh_La_law 1307 rfl) rfl
set_option maxRecDepth 100000 in
theorem f_La_law_1308 : zF d x_La_law 1308 [l0, l1, l2, l3] (zi c :: zi b :: zi a :: zr k :: st) w M Q ↔ (0 < d ∧ zwd st ≤ 8 ∧ ((zsh w k).1 = 0 ∧ (zsh w k).2.1 = 10) ∧ zF (d - 1) x_We_hole 0 [zr k, zi a, zi b, zi c, zt, zt] [] w M (fun v w' M' => zF d x_La_law 1311 [l0, l1, l2, l3] (v.toList ++ st) w' M' Q)) := zG_callO [zi c, zi b, zi a] (.inl rfl) (zh_La_law 1308 rfl) rfl rfl rfl (by rw [zm_We_hole]; rfl) (by rw [zm_We_hole]; rfl) rfl
set_option maxRecDepth 100000 in
theorem f_La_law_1311 : zF d x_La_law 1311 [l0, l1, zr k, l3] st w M Q ↔ zF d x_La_law 1312 [l0, l1, zr k, l3] (zr k :: st) w M Q := zG_loc (zh_La_law 1311 rfl) rfl rfl rfl
set_option maxRecDepth 100000 in
theorem f_La_law_1312 : zF d x_La_law 1312 [zr k, l1, l2, l3] st w M Q ↔ zF d x_La_law 1313 [zr k, l1, l2, l3] (zr k :: st) w M Q := zG_loc (zh_La_law 1312 rfl) rfl rfl rfl
set_option maxRecDepth 100000 in
theorem f_La_law_1313 : zF d x_La_law 1313 [l0, l1, l2, zi a] st w M Q ↔ zF d x_La_law 1314 [l0, l1, l2, zi a] (zi a :: st) w M Q := zG_loc (zh_La_law 1313 rfl) rfl rfl rfl
set_option maxRecDepth 100000 in
theorem f_La_law_1314 : zF d x_La_law 1314 [l0, l1, l2, l3] st w M Q ↔ zF d x_La_law 1315 [l0, l1, l2, l3] (zi (1) :: st) w M Q := zG_stk (zh_La_law 1314 rfl) rfl rfl
set_option maxRecDepth 100000 in
theorem f_La_law_1315 : zF d x_La_law 1315 [l0, l1, l2, l3] (zi b :: zi a :: st) w M Q ↔ zF d x_La_law 1316 [l0, l1, l2, l3] (zi (a + b) :: st) w M Q := zG_stk (zh_La_law 1315 rfl) rfl rfl
set_option maxRecDepth 100000 in
theorem f_La_law_1316 : zF d x_La_law 1316 [l0, l1, l2, l3] (zi a :: zr k :: st) w M Q ↔ (zA w k 0 (z32 a) ∧ zF d x_La_law 1317 [l0, l1, l2, l3] (zi (M k (z32 a).toNat) :: st) w M Q) := zG_iald (zh_La_law 1316 rfl) rfl
set_option maxRecDepth 100000 in
theorem f_La_law_1317 : zF d x_La_law 1317 [zr k, l1, l2, l3] st w M Q ↔ zF d x_La_law 1318 [zr k, l1, l2, l3] (zr k :: st) w M Q := zG_loc (zh_La_law 1317 rfl) rfl rfl rfl
set_option maxRecDepth 100000 in
theorem f_La_law_1318 : zF d x_La_law 1318 [l0, l1, l2, zi a] st w M Q ↔ zF d x_La_law 1319 [l0, l1, l2, zi a] (zi a :: st) w M Q := zG_loc (zh_La_law 1318 rfl) rfl rfl rfl
set_option maxRecDepth 100000 in
theorem f_La_law_1319 : zF d x_La_law 1319 [l0, l1, l2, l3] st w M Q ↔ zF d x_La_law 1320 [l0, l1, l2, l3] (zi (2) :: st) w M Q := zG_stk (zh_La_law 1319 rfl) rfl rfl
set_option maxRecDepth 100000 in
theorem f_La_law_1320 : zF d x_La_law 1320 [l0, l1, l2, l3] (zi b :: zi a :: st) w M Q ↔ zF d x_La_law 1321 [l0, l1, l2, l3] (zi (a + b) :: st) w M Q := zG_stk (zh_La_law 1320 rfl) rfl rfl
set_option maxRecDepth 100000 in
theorem f_La_law_1321 : zF d x_La_law 1321 [l0, l1, l2, l3] (zi a :: zr k :: st) w M Q ↔ (zA w k 0 (z32 a) ∧ zF d x_La_law 1322 [l0, l1, l2, l3] (zi (M k (z32 a).toNat) :: st) w M Q) := zG_iald (zh_La_law 1321 rfl) rfl
set_option maxRecDepth 100000 in
theorem f_La_law_1322 : zF d x_La_law 1322 [zr k, l1, l2, l3] st w M Q ↔ zF d x_La_law 1323 [zr k, l1, l2, l3] (zr k :: st) w M Q := zG_loc (zh_La_law 1322 rfl) rfl rfl rfl
set_option maxRecDepth 100000 in
theorem f_La_law_1323 : zF d x_La_law 1323 [l0, l1, l2, zi a] st w M Q ↔ zF d x_La_law 1324 [l0, l1, l2, zi a] (zi a :: st) w M Q := zG_loc (zh_La_law 1323 rfl) rfl rfl rfl
set_option maxRecDepth 100000 in
theorem f_La_law_1324 : zF d x_La_law 1324 [l0, l1, l2, l3] st w M Q ↔ zF d x_La_law 1325 [l0, l1, l2, l3] (zi (3) :: st) w M Q := zG_stk (zh_La_law 1324 rfl) rfl rfl
set_option maxRecDepth 100000 in
theorem f_La_law_1325 : zF d x_La_law 1325 [l0, l1, l2, l3] (zi b :: zi a :: st) w M Q ↔ zF d x_La_law 1326 [l0, l1, l2, l3] (zi (a + b) :: st) w M Q := zG_stk (zh_La_law 1325 rfl) rfl rfl
set_option maxRecDepth 100000 in
theorem f_La_law_1326 : zF d x_La_law 1326 [l0, l1, l2, l3] (zi a :: zr k :: st) w M Q ↔ (zA w k 0 (z32 a) ∧ zF d x_La_law 1327 [l0, l1, l2, l3] (zi (M k (z32 a).toNat) :: st) w M Q) := zG_iald (zh_La_law 1326 rfl) rfl
set_option maxRecDepth 100000 in
theorem f_La_law_1327 : zF d x_La_law 1327 [l0, l1, l2, l3] (zi c :: zi b :: zi a :: zr k :: st) w M Q ↔ (0 < d ∧ zwd st ≤ 8 ∧ ((zsh w k).1 = 0 ∧ (zsh w k).2.1 = 11) ∧ zF (d - 1) x_Mo_hole 0 [zr k, zi a, zi b, zi c, zt] [] w M (fun v w' M' => zF d x_La_law 1330 [l0, l1, l2, l3] (v.toList ++ st) w' M' Q)) := zG_callO [zi c, zi b, zi a] (.inl rfl) (zh_La_law 1327 rfl) rfl rfl rfl (by rw [zm_Mo_hole]; rfl) (by rw [zm_Mo_hole]; rfl) rfl
set_option maxRecDepth 100000 in
theorem f_La_law_1330 : zF d x_La_law 1330 [l0, l1, l2, l3] (zi b :: zi a :: st) w M Q ↔ (if z32 a = z32 b then zF d x_La_law 1879 [l0, l1, l2, l3] st w M Q else zF d x_La_law 1333 [l0, l1, l2, l3] st w M Q) := zG_ifP (zh_La_law 1330 rfl) rfl rfl rfl decide_eq_true_iff
set_option maxRecDepth 100000 in
theorem f_La_law_1333 : zF d x_La_law 1333 [l0, l1, l2, l3] st w M Q ↔ zF d x_La_law 1334 [l0, l1, l2, l3] (zi (0) :: st) w M Q := zG_stk (zh_La_law 1333 rfl) rfl rfl
set_option maxRecDepth 100000 in
theorem f_La_law_1334 : zF d x_La_law 1334 [l0, l1, l2, l3] [zi a] w M Q ↔ ((a = 0 ∨ a = 1) ∧ Q (some (zi a)) w M) := zG_prR (zh_La_law 1334 rfl) zb_La_law
set_option maxRecDepth 100000 in
theorem f_La_law_1335 : zF d x_La_law 1335 [l0, zr k, l2, l3] st w M Q ↔ zF d x_La_law 1336 [l0, zr k, l2, l3] (zr k :: st) w M Q := zG_loc (zh_La_law 1335 rfl) rfl rfl rfl
set_option maxRecDepth 100000 in
theorem f_La_law_1336 : zF d x_La_law 1336 [zr k, l1, l2, l3] st w M Q ↔ zF d x_La_law 1337 [zr k, l1, l2, l3] (zr k :: st) w M Q := zG_loc (zh_La_law 1336 rfl) rfl rfl rfl
set_option maxRecDepth 100000 in
theorem f_La_law_1337 : zF d x_La_law 1337 [l0, l1, l2, zi a] st w M Q ↔ zF d x_La_law 1338 [l0, l1, l2, zi a] (zi a :: st) w M Q := zG_loc (zh_La_law 1337 rfl) rfl rfl rfl
set_option maxRecDepth 100000 in
theorem f_La_law_1338 : zF d x_La_law 1338 [l0, l1, l2, l3] st w M Q ↔ zF d x_La_law 1339 [l0, l1, l2, l3] (zi (1) :: st) w M Q := zG_stk (zh_La_law 1338 rfl) rfl rfl
set_option maxRecDepth 100000 in
theorem f_La_law_1339 : zF d x_La_law 1339 [l0, l1, l2, l3] (zi b :: zi a :: st) w M Q ↔ zF d x_La_law 1340 [l0, l1, l2, l3] (zi (a + b) :: st) w M Q := zG_stk (zh_La_law 1339 rfl) rfl rfl
set_option maxRecDepth 100000 in
theorem f_La_law_1340 : zF d x_La_law 1340 [l0, l1, l2, l3] (zi a :: zr k :: st) w M Q ↔ (zA w k 0 (z32 a) ∧ zF d x_La_law 1341 [l0, l1, l2, l3] (zi (M k (z32 a).toNat) :: st) w M Q) := zG_iald (zh_La_law 1340 rfl) rfl
set_option maxRecDepth 100000 in
theorem f_La_law_1341 : zF d x_La_law 1341 [zr k, l1, l2, l3] st w M Q ↔ zF d x_La_law 1342 [zr k, l1, l2, l3] (zr k :: st) w M Q := zG_loc (zh_La_law 1341 rfl) rfl rfl rfl
set_option maxRecDepth 100000 in
theorem f_La_law_1342 : zF d x_La_law 1342 [l0, l1, l2, zi a] st w M Q ↔ zF d x_La_law 1343 [l0, l1, l2, zi a] (zi a :: st) w M Q := zG_loc (zh_La_law 1342 rfl) rfl rfl rfl
set_option maxRecDepth 100000 in
theorem f_La_law_1343 : zF d x_La_law 1343 [l0, l1, l2, l3] st w M Q ↔ zF d x_La_law 1344 [l0, l1, l2, l3] (zi (2) :: st) w M Q := zG_stk (zh_La_law 1343 rfl) rfl rfl
set_option maxRecDepth 100000 in
theorem f_La_law_1344 : zF d x_La_law 1344 [l0, l1, l2, l3] (zi b :: zi a :: st) w M Q ↔ zF d x_La_law 1345 [l0, l1, l2, l3] (zi (a + b) :: st) w M Q := zG_stk (zh_La_law 1344 rfl) rfl rfl
set_option maxRecDepth 100000 in
theorem f_La_law_1345 : zF d x_La_law 1345 [l0, l1, l2, l3] (zi a :: zr k :: st) w M Q ↔ (zA w k 0 (z32 a) ∧ zF d x_La_law 1346 [l0, l1, l2, l3] (zi (M k (z32 a).toNat) :: st) w M Q) := zG_iald (zh_La_law 1345 rfl) rfl
set_option maxRecDepth 100000 in
theorem f_La_law_1346 : zF d x_La_law 1346 [l0, l1, l2, l3] (zi b :: zi a :: zr k :: st) w M Q ↔ (0 < d ∧ zwd st ≤ 8 ∧ ((zsh w k).1 = 0 ∧ (zsh w k).2.1 = 10) ∧ zF (d - 1) x_We_shake 0 [zr k, zi a, zi b] [] w M (fun v w' M' => zF d x_La_law 1349 [l0, l1, l2, l3] (v.toList ++ st) w' M' Q)) := zG_callO [zi b, zi a] (.inl rfl) (zh_La_law 1346 rfl) rfl rfl rfl (by rw [zm_We_shake]; rfl) (by rw [zm_We_shake]; rfl) rfl
set_option maxRecDepth 100000 in
theorem f_La_law_1349 : zF d x_La_law 1349 [l0, l1, zr k, l3] st w M Q ↔ zF d x_La_law 1350 [l0, l1, zr k, l3] (zr k :: st) w M Q := zG_loc (zh_La_law 1349 rfl) rfl rfl rfl
set_option maxRecDepth 100000 in
theorem f_La_law_1350 : zF d x_La_law 1350 [zr k, l1, l2, l3] st w M Q ↔ zF d x_La_law 1351 [zr k, l1, l2, l3] (zr k :: st) w M Q := zG_loc (zh_La_law 1350 rfl) rfl rfl rfl
set_option maxRecDepth 100000 in
theorem f_La_law_1351 : zF d x_La_law 1351 [l0, l1, l2, zi a] st w M Q ↔ zF d x_La_law 1352 [l0, l1, l2, zi a] (zi a :: st) w M Q := zG_loc (zh_La_law 1351 rfl) rfl rfl rfl
set_option maxRecDepth 100000 in
theorem f_La_law_1352 : zF d x_La_law 1352 [l0, l1, l2, l3] st w M Q ↔ zF d x_La_law 1353 [l0, l1, l2, l3] (zi (1) :: st) w M Q := zG_stk (zh_La_law 1352 rfl) rfl rfl
set_option maxRecDepth 100000 in
theorem f_La_law_1353 : zF d x_La_law 1353 [l0, l1, l2, l3] (zi b :: zi a :: st) w M Q ↔ zF d x_La_law 1354 [l0, l1, l2, l3] (zi (a + b) :: st) w M Q := zG_stk (zh_La_law 1353 rfl) rfl rfl
set_option maxRecDepth 100000 in
theorem f_La_law_1354 : zF d x_La_law 1354 [l0, l1, l2, l3] (zi a :: zr k :: st) w M Q ↔ (zA w k 0 (z32 a) ∧ zF d x_La_law 1355 [l0, l1, l2, l3] (zi (M k (z32 a).toNat) :: st) w M Q) := zG_iald (zh_La_law 1354 rfl) rfl
set_option maxRecDepth 100000 in
theorem f_La_law_1355 : zF d x_La_law 1355 [zr k, l1, l2, l3] st w M Q ↔ zF d x_La_law 1356 [zr k, l1, l2, l3] (zr k :: st) w M Q := zG_loc (zh_La_law 1355 rfl) rfl rfl rfl
set_option maxRecDepth 100000 in
theorem f_La_law_1356 : zF d x_La_law 1356 [l0, l1, l2, zi a] st w M Q ↔ zF d x_La_law 1357 [l0, l1, l2, zi a] (zi a :: st) w M Q := zG_loc (zh_La_law 1356 rfl) rfl rfl rfl
set_option maxRecDepth 100000 in
theorem f_La_law_1357 : zF d x_La_law 1357 [l0, l1, l2, l3] st w M Q ↔ zF d x_La_law 1358 [l0, l1, l2, l3] (zi (2) :: st) w M Q := zG_stk (zh_La_law 1357 rfl) rfl rfl
set_option maxRecDepth 100000 in
theorem f_La_law_1358 : zF d x_La_law 1358 [l0, l1, l2, l3] (zi b :: zi a :: st) w M Q ↔ zF d x_La_law 1359 [l0, l1, l2, l3] (zi (a + b) :: st) w M Q := zG_stk (zh_La_law 1358 rfl) rfl rfl
set_option maxRecDepth 100000 in
theorem f_La_law_1359 : zF d x_La_law 1359 [l0, l1, l2, l3] (zi a :: zr k :: st) w M Q ↔ (zA w k 0 (z32 a) ∧ zF d x_La_law 1360 [l0, l1, l2, l3] (zi (M k (z32 a).toNat) :: st) w M Q) := zG_iald (zh_La_law 1359 rfl) rfl
set_option maxRecDepth 100000 in
theorem f_La_law_1360 : zF d x_La_law 1360 [l0, l1, l2, l3] (zi b :: zi a :: zr k :: st) w M Q ↔ (0 < d ∧ zwd st ≤ 8 ∧ ((zsh w k).1 = 0 ∧ (zsh w k).2.1 = 11) ∧ zF (d - 1) x_Mo_shake 0 [zr k, zi a, zi b] [] w M (fun v w' M' => zF d x_La_law 1363 [l0, l1, l2, l3] (v.toList ++ st) w' M' Q)) := zG_callO [zi b, zi a] (.inl rfl) (zh_La_law 1360 rfl) rfl rfl rfl (by rw [zm_Mo_shake]; rfl) (by rw [zm_Mo_shake]; rfl) rfl
set_option maxRecDepth 100000 in
theorem f_La_law_1363 : zF d x_La_law 1363 [l0, l1, l2, l3] (zi b :: zi a :: st) w M Q ↔ (if z32 a = z32 b then zF d x_La_law 1879 [l0, l1, l2, l3] st w M Q else zF d x_La_law 1366 [l0, l1, l2, l3] st w M Q) := zG_ifP (zh_La_law 1363 rfl) rfl rfl rfl decide_eq_true_iff
set_option maxRecDepth 100000 in
theorem f_La_law_1366 : zF d x_La_law 1366 [l0, l1, l2, l3] st w M Q ↔ zF d x_La_law 1367 [l0, l1, l2, l3] (zi (0) :: st) w M Q := zG_stk (zh_La_law 1366 rfl) rfl rfl
set_option maxRecDepth 100000 in
theorem f_La_law_1367 : zF d x_La_law 1367 [l0, l1, l2, l3] [zi a] w M Q ↔ ((a = 0 ∨ a = 1) ∧ Q (some (zi a)) w M) := zG_prR (zh_La_law 1367 rfl) zb_La_law
set_option maxRecDepth 100000 in
theorem f_La_law_1368 : zF d x_La_law 1368 [l0, zr k, l2, l3] st w M Q ↔ zF d x_La_law 1369 [l0, zr k, l2, l3] (zr k :: st) w M Q := zG_loc (zh_La_law 1368 rfl) rfl rfl rfl
set_option maxRecDepth 100000 in
theorem f_La_law_1369 : zF d x_La_law 1369 [l0, l1, l2, l3] (zr k :: st) w M Q ↔ (0 < d ∧ zwd st ≤ 8 ∧ ((zsh w k).1 = 0 ∧ (zsh w k).2.1 = 10) ∧ zF (d - 1) x_We_off 0 [zr k] [] w M (fun v w' M' => zF d x_La_law 1372 [l0, l1, l2, l3] (v.toList ++ st) w' M' Q)) := zG_callO [] (.inl rfl) (zh_La_law 1369 rfl) rfl rfl rfl (by rw [zm_We_off]; rfl) (by rw [zm_We_off]; rfl) rfl
set_option maxRecDepth 100000 in
theorem f_La_law_1372 : zF d x_La_law 1372 [l0, l1, zr k, l3] st w M Q ↔ zF d x_La_law 1373 [l0, l1, zr k, l3] (zr k :: st) w M Q := zG_loc (zh_La_law 1372 rfl) rfl rfl rfl
set_option maxRecDepth 100000 in
theorem f_La_law_1373 : zF d x_La_law 1373 [l0, l1, l2, l3] (zr k :: st) w M Q ↔ (0 < d ∧ zwd st ≤ 8 ∧ ((zsh w k).1 = 0 ∧ (zsh w k).2.1 = 11) ∧ zF (d - 1) x_Mo_off 0 [zr k] [] w M (fun v w' M' => zF d x_La_law 1376 [l0, l1, l2, l3] (v.toList ++ st) w' M' Q)) := zG_callO [] (.inl rfl) (zh_La_law 1373 rfl) rfl rfl rfl (by rw [zm_Mo_off]; rfl) (by rw [zm_Mo_off]; rfl) rfl
set_option maxRecDepth 100000 in
theorem f_La_law_1376 : zF d x_La_law 1376 [l0, l1, l2, l3] (zi b :: zi a :: st) w M Q ↔ (if z32 a = z32 b then zF d x_La_law 1879 [l0, l1, l2, l3] st w M Q else zF d x_La_law 1379 [l0, l1, l2, l3] st w M Q) := zG_ifP (zh_La_law 1376 rfl) rfl rfl rfl decide_eq_true_iff
set_option maxRecDepth 100000 in
theorem f_La_law_1379 : zF d x_La_law 1379 [l0, l1, l2, l3] st w M Q ↔ zF d x_La_law 1380 [l0, l1, l2, l3] (zi (0) :: st) w M Q := zG_stk (zh_La_law 1379 rfl) rfl rfl
set_option maxRecDepth 100000 in
theorem f_La_law_1380 : zF d x_La_law 1380 [l0, l1, l2, l3] [zi a] w M Q ↔ ((a = 0 ∨ a = 1) ∧ Q (some (zi a)) w M) := zG_prR (zh_La_law 1380 rfl) zb_La_law
set_option maxRecDepth 100000 in
theorem f_La_law_1381 : zF d x_La_law 1381 [l0, zr k, l2, l3] st w M Q ↔ zF d x_La_law 1382 [l0, zr k, l2, l3] (zr k :: st) w M Q := zG_loc (zh_La_law 1381 rfl) rfl rfl rfl
set_option maxRecDepth 100000 in
theorem f_La_law_1382 : zF d x_La_law 1382 [zr k, l1, l2, l3] st w M Q ↔ zF d x_La_law 1383 [zr k, l1, l2, l3] (zr k :: st) w M Q := zG_loc (zh_La_law 1382 rfl) rfl rfl rfl
set_option maxRecDepth 100000 in
theorem f_La_law_1383 : zF d x_La_law 1383 [l0, l1, l2, zi a] st w M Q ↔ zF d x_La_law 1384 [l0, l1, l2, zi a] (zi a :: st) w M Q := zG_loc (zh_La_law 1383 rfl) rfl rfl rfl
set_option maxRecDepth 100000 in
theorem f_La_law_1384 : zF d x_La_law 1384 [l0, l1, l2, l3] st w M Q ↔ zF d x_La_law 1385 [l0, l1, l2, l3] (zi (1) :: st) w M Q := zG_stk (zh_La_law 1384 rfl) rfl rfl
set_option maxRecDepth 100000 in
theorem f_La_law_1385 : zF d x_La_law 1385 [l0, l1, l2, l3] (zi b :: zi a :: st) w M Q ↔ zF d x_La_law 1386 [l0, l1, l2, l3] (zi (a + b) :: st) w M Q := zG_stk (zh_La_law 1385 rfl) rfl rfl
set_option maxRecDepth 100000 in
theorem f_La_law_1386 : zF d x_La_law 1386 [l0, l1, l2, l3] (zi a :: zr k :: st) w M Q ↔ (zA w k 0 (z32 a) ∧ zF d x_La_law 1387 [l0, l1, l2, l3] (zi (M k (z32 a).toNat) :: st) w M Q) := zG_iald (zh_La_law 1386 rfl) rfl
set_option maxRecDepth 100000 in
theorem f_La_law_1387 : zF d x_La_law 1387 [l0, l1, l2, l3] (zi a :: zr k :: st) w M Q ↔ (0 < d ∧ zwd st ≤ 8 ∧ ((zsh w k).1 = 0 ∧ (zsh w k).2.1 = 10) ∧ zF (d - 1) x_We_weights 0 [zr k, zi a] [] w M (fun v w' M' => zF d x_La_law 1390 [l0, l1, l2, l3] (v.toList ++ st) w' M' Q)) := zG_callO [zi a] (.inl rfl) (zh_La_law 1387 rfl) rfl rfl rfl (by rw [zm_We_weights]; rfl) (by rw [zm_We_weights]; rfl) rfl
set_option maxRecDepth 100000 in
theorem f_La_law_1390 : zF d x_La_law 1390 [l0, l1, zr k, l3] st w M Q ↔ zF d x_La_law 1391 [l0, l1, zr k, l3] (zr k :: st) w M Q := zG_loc (zh_La_law 1390 rfl) rfl rfl rfl
set_option maxRecDepth 100000 in
theorem f_La_law_1391 : zF d x_La_law 1391 [zr k, l1, l2, l3] st w M Q ↔ zF d x_La_law 1392 [zr k, l1, l2, l3] (zr k :: st) w M Q := zG_loc (zh_La_law 1391 rfl) rfl rfl rfl
set_option maxRecDepth 100000 in
theorem f_La_law_1392 : zF d x_La_law 1392 [l0, l1, l2, zi a] st w M Q ↔ zF d x_La_law 1393 [l0, l1, l2, zi a] (zi a :: st) w M Q := zG_loc (zh_La_law 1392 rfl) rfl rfl rfl
set_option maxRecDepth 100000 in
theorem f_La_law_1393 : zF d x_La_law 1393 [l0, l1, l2, l3] st w M Q ↔ zF d x_La_law 1394 [l0, l1, l2, l3] (zi (1) :: st) w M Q := zG_stk (zh_La_law 1393 rfl) rfl rfl
set_option maxRecDepth 100000 in
theorem f_La_law_1394 : zF d x_La_law 1394 [l0, l1, l2, l3] (zi b :: zi a :: st) w M Q ↔ zF d x_La_law 1395 [l0, l1, l2, l3] (zi (a + b) :: st) w M Q := zG_stk (zh_La_law 1394 rfl) rfl rfl
set_option maxRecDepth 100000 in
theorem f_La_law_1395 : zF d x_La_law 1395 [l0, l1, l2, l3] (zi a :: zr k :: st) w M Q ↔ (zA w k 0 (z32 a) ∧ zF d x_La_law 1396 [l0, l1, l2, l3] (zi (M k (z32 a).toNat) :: st) w M Q) := zG_iald (zh_La_law 1395 rfl) rfl
set_option maxRecDepth 100000 in
theorem f_La_law_1396 : zF d x_La_law 1396 [l0, l1, l2, l3] (zi a :: zr k :: st) w M Q ↔ (0 < d ∧ zwd st ≤ 8 ∧ ((zsh w k).1 = 0 ∧ (zsh w k).2.1 = 11) ∧ zF (d - 1) x_Mo_weights 0 [zr k, zi a] [] w M (fun v w' M' => zF d x_La_law 1399 [l0, l1, l2, l3] (v.toList ++ st) w' M' Q)) := zG_callO [zi a] (.inl rfl) (zh_La_law 1396 rfl) rfl rfl rfl (by rw [zm_Mo_weights]; rfl) (by rw [zm_Mo_weights]; rfl) rfl
set_option maxRecDepth 100000 in
theorem f_La_law_1399 : zF d x_La_law 1399 [l0, l1, l2, l3] (zi b :: zi a :: st) w M Q ↔ (if z32 a = z32 b then zF d x_La_law 1879 [l0, l1, l2, l3] st w M Q else zF d x_La_law 1402 [l0, l1, l2, l3] st w M Q) := zG_ifP (zh_La_law 1399 rfl) rfl rfl rfl decide_eq_true_iff
set_option maxRecDepth 100000 in
theorem f_La_law_1402 : zF d x_La_law 1402 [l0, l1, l2, l3] st w M Q ↔ zF d x_La_law 1403 [l0, l1, l2, l3] (zi (0) :: st) w M Q := zG_stk (zh_La_law 1402 rfl) rfl rfl
set_option maxRecDepth 100000 in
theorem f_La_law_1403 : zF d x_La_law 1403 [l0, l1, l2, l3] [zi a] w M Q ↔ ((a = 0 ∨ a = 1) ∧ Q (some (zi a)) w M) := zG_prR (zh_La_law 1403 rfl) zb_La_law
set_option maxRecDepth 100000 in
theorem f_La_law_1404 : zF d x_La_law 1404 [l0, zr k, l2, l3] st w M Q ↔ zF d x_La_law 1405 [l0, zr k, l2, l3] (zr k :: st) w M Q := zG_loc (zh_La_law 1404 rfl) rfl rfl rfl
set_option maxRecDepth 100000 in
theorem f_La_law_1405 : zF d x_La_law 1405 [zr k, l1, l2, l3] st w M Q ↔ zF d x_La_law 1406 [zr k, l1, l2, l3] (zr k :: st) w M Q := zG_loc (zh_La_law 1405 rfl) rfl rfl rfl
set_option maxRecDepth 100000 in
theorem f_La_law_1406 : zF d x_La_law 1406 [l0, l1, l2, zi a] st w M Q ↔ zF d x_La_law 1407 [l0, l1, l2, zi a] (zi a :: st) w M Q := zG_loc (zh_La_law 1406 rfl) rfl rfl rfl
set_option maxRecDepth 100000 in
theorem f_La_law_1407 : zF d x_La_law 1407 [l0, l1, l2, l3] st w M Q ↔ zF d x_La_law 1408 [l0, l1, l2, l3] (zi (1) :: st) w M Q := zG_stk (zh_La_law 1407 rfl) rfl rfl
set_option maxRecDepth 100000 in
theorem f_La_law_1408 : zF d x_La_law 1408 [l0, l1, l2, l3] (zi b :: zi a :: st) w M Q ↔ zF d x_La_law 1409 [l0, l1, l2, l3] (zi (a + b) :: st) w M Q := zG_stk (zh_La_law 1408 rfl) rfl rfl
set_option maxRecDepth 100000 in
theorem f_La_law_1409 : zF d x_La_law 1409 [l0, l1, l2, l3] (zi a :: zr k :: st) w M Q ↔ (zA w k 0 (z32 a) ∧ zF d x_La_law 1410 [l0, l1, l2, l3] (zi (M k (z32 a).toNat) :: st) w M Q) := zG_iald (zh_La_law 1409 rfl) rfl
set_option maxRecDepth 100000 in
theorem f_La_law_1410 : zF d x_La_law 1410 [zr k, l1, l2, l3] st w M Q ↔ zF d x_La_law 1411 [zr k, l1, l2, l3] (zr k :: st) w M Q := zG_loc (zh_La_law 1410 rfl) rfl rfl rfl
set_option maxRecDepth 100000 in
theorem f_La_law_1411 : zF d x_La_law 1411 [l0, l1, l2, zi a] st w M Q ↔ zF d x_La_law 1412 [l0, l1, l2, zi a] (zi a :: st) w M Q := zG_loc (zh_La_law 1411 rfl) rfl rfl rfl
set_option maxRecDepth 100000 in
theorem f_La_law_1412 : zF d x_La_law 1412 [l0, l1, l2, l3] st w M Q ↔ zF d x_La_law 1413 [l0, l1, l2, l3] (zi (2) :: st) w M Q := zG_stk (zh_La_law 1412 rfl) rfl rfl
set_option maxRecDepth 100000 in
theorem f_La_law_1413 : zF d x_La_law 1413 [l0, l1, l2, l3] (zi b :: zi a :: st) w M Q ↔ zF d x_La_law 1414 [l0, l1, l2, l3] (zi (a + b) :: st) w M Q := zG_stk (zh_La_law 1413 rfl) rfl rfl
set_option maxRecDepth 100000 in
theorem f_La_law_1414 : zF d x_La_law 1414 [l0, l1, l2, l3] (zi a :: zr k :: st) w M Q ↔ (zA w k 0 (z32 a) ∧ zF d x_La_law 1415 [l0, l1, l2, l3] (zi (M k (z32 a).toNat) :: st) w M Q) := zG_iald (zh_La_law 1414 rfl) rfl
set_option maxRecDepth 100000 in
theorem f_La_law_1415 : zF d x_La_law 1415 [l0, l1, l2, l3] (zi b :: zi a :: zr k :: st) w M Q ↔ (0 < d ∧ zwd st ≤ 8 ∧ ((zsh w k).1 = 0 ∧ (zsh w k).2.1 = 10) ∧ zF (d - 1) x_We_drag 0 [zr k, zi a, zi b] [] w M (fun v w' M' => zF d x_La_law 1418 [l0, l1, l2, l3] (v.toList ++ st) w' M' Q)) := zG_callO [zi b, zi a] (.inl rfl) (zh_La_law 1415 rfl) rfl rfl rfl (by rw [zm_We_drag]; rfl) (by rw [zm_We_drag]; rfl) rfl
set_option maxRecDepth 100000 in
theorem f_La_law_1418 : zF d x_La_law 1418 [l0, l1, zr k, l3] st w M Q ↔ zF d x_La_law 1419 [l0, l1, zr k, l3] (zr k :: st) w M Q := zG_loc (zh_La_law 1418 rfl) rfl rfl rfl
set_option maxRecDepth 100000 in
theorem f_La_law_1419 : zF d x_La_law 1419 [zr k, l1, l2, l3] st w M Q ↔ zF d x_La_law 1420 [zr k, l1, l2, l3] (zr k :: st) w M Q := zG_loc (zh_La_law 1419 rfl) rfl rfl rfl
set_option maxRecDepth 100000 in
theorem f_La_law_1420 : zF d x_La_law 1420 [l0, l1, l2, zi a] st w M Q ↔ zF d x_La_law 1421 [l0, l1, l2, zi a] (zi a :: st) w M Q := zG_loc (zh_La_law 1420 rfl) rfl rfl rfl
set_option maxRecDepth 100000 in
theorem f_La_law_1421 : zF d x_La_law 1421 [l0, l1, l2, l3] st w M Q ↔ zF d x_La_law 1422 [l0, l1, l2, l3] (zi (1) :: st) w M Q := zG_stk (zh_La_law 1421 rfl) rfl rfl
set_option maxRecDepth 100000 in
theorem f_La_law_1422 : zF d x_La_law 1422 [l0, l1, l2, l3] (zi b :: zi a :: st) w M Q ↔ zF d x_La_law 1423 [l0, l1, l2, l3] (zi (a + b) :: st) w M Q := zG_stk (zh_La_law 1422 rfl) rfl rfl
set_option maxRecDepth 100000 in
theorem f_La_law_1423 : zF d x_La_law 1423 [l0, l1, l2, l3] (zi a :: zr k :: st) w M Q ↔ (zA w k 0 (z32 a) ∧ zF d x_La_law 1424 [l0, l1, l2, l3] (zi (M k (z32 a).toNat) :: st) w M Q) := zG_iald (zh_La_law 1423 rfl) rfl
set_option maxRecDepth 100000 in
theorem f_La_law_1424 : zF d x_La_law 1424 [zr k, l1, l2, l3] st w M Q ↔ zF d x_La_law 1425 [zr k, l1, l2, l3] (zr k :: st) w M Q := zG_loc (zh_La_law 1424 rfl) rfl rfl rfl
set_option maxRecDepth 100000 in
theorem f_La_law_1425 : zF d x_La_law 1425 [l0, l1, l2, zi a] st w M Q ↔ zF d x_La_law 1426 [l0, l1, l2, zi a] (zi a :: st) w M Q := zG_loc (zh_La_law 1425 rfl) rfl rfl rfl
set_option maxRecDepth 100000 in
theorem f_La_law_1426 : zF d x_La_law 1426 [l0, l1, l2, l3] st w M Q ↔ zF d x_La_law 1427 [l0, l1, l2, l3] (zi (2) :: st) w M Q := zG_stk (zh_La_law 1426 rfl) rfl rfl
set_option maxRecDepth 100000 in
theorem f_La_law_1427 : zF d x_La_law 1427 [l0, l1, l2, l3] (zi b :: zi a :: st) w M Q ↔ zF d x_La_law 1428 [l0, l1, l2, l3] (zi (a + b) :: st) w M Q := zG_stk (zh_La_law 1427 rfl) rfl rfl
set_option maxRecDepth 100000 in
theorem f_La_law_1428 : zF d x_La_law 1428 [l0, l1, l2, l3] (zi a :: zr k :: st) w M Q ↔ (zA w k 0 (z32 a) ∧ zF d x_La_law 1429 [l0, l1, l2, l3] (zi (M k (z32 a).toNat) :: st) w M Q) := zG_iald (zh_La_law 1428 rfl) rfl
set_option maxRecDepth 100000 in
theorem f_La_law_1429 : zF d x_La_law 1429 [l0, l1, l2, l3] (zi b :: zi a :: zr k :: st) w M Q ↔ (0 < d ∧ zwd st ≤ 8 ∧ ((zsh w k).1 = 0 ∧ (zsh w k).2.1 = 11) ∧ zF (d - 1) x_Mo_drag 0 [zr k, zi a, zi b] [] w M (fun v w' M' => zF d x_La_law 1432 [l0, l1, l2, l3] (v.toList ++ st) w' M' Q)) := zG_callO [zi b, zi a] (.inl rfl) (zh_La_law 1429 rfl) rfl rfl rfl (by rw [zm_Mo_drag]; rfl) (by rw [zm_Mo_drag]; rfl) rfl
set_option maxRecDepth 100000 in
theorem f_La_law_1432 : zF d x_La_law 1432 [l0, l1, l2, l3] (zi b :: zi a :: st) w M Q ↔ (if z32 a = z32 b then zF d x_La_law 1879 [l0, l1, l2, l3] st w M Q else zF d x_La_law 1435 [l0, l1, l2, l3] st w M Q) := zG_ifP (zh_La_law 1432 rfl) rfl rfl rfl decide_eq_true_iff
set_option maxRecDepth 100000 in
theorem f_La_law_1435 : zF d x_La_law 1435 [l0, l1, l2, l3] st w M Q ↔ zF d x_La_law 1436 [l0, l1, l2, l3] (zi (0) :: st) w M Q := zG_stk (zh_La_law 1435 rfl) rfl rfl
set_option maxRecDepth 100000 in
theorem f_La_law_1436 : zF d x_La_law 1436 [l0, l1, l2, l3] [zi a] w M Q ↔ ((a = 0 ∨ a = 1) ∧ Q (some (zi a)) w M) := zG_prR (zh_La_law 1436 rfl) zb_La_law
set_option maxRecDepth 100000 in
theorem f_La_law_1437 : zF d x_La_law 1437 [l0, zr k, l2, l3] st w M Q ↔ zF d x_La_law 1438 [l0, zr k, l2, l3] (zr k :: st) w M Q := zG_loc (zh_La_law 1437 rfl) rfl rfl rfl
set_option maxRecDepth 100000 in
theorem f_La_law_1438 : zF d x_La_law 1438 [zr k, l1, l2, l3] st w M Q ↔ zF d x_La_law 1439 [zr k, l1, l2, l3] (zr k :: st) w M Q := zG_loc (zh_La_law 1438 rfl) rfl rfl rfl
set_option maxRecDepth 100000 in
theorem f_La_law_1439 : zF d x_La_law 1439 [l0, l1, l2, zi a] st w M Q ↔ zF d x_La_law 1440 [l0, l1, l2, zi a] (zi a :: st) w M Q := zG_loc (zh_La_law 1439 rfl) rfl rfl rfl
set_option maxRecDepth 100000 in
theorem f_La_law_1440 : zF d x_La_law 1440 [l0, l1, l2, l3] st w M Q ↔ zF d x_La_law 1441 [l0, l1, l2, l3] (zi (1) :: st) w M Q := zG_stk (zh_La_law 1440 rfl) rfl rfl
set_option maxRecDepth 100000 in
theorem f_La_law_1441 : zF d x_La_law 1441 [l0, l1, l2, l3] (zi b :: zi a :: st) w M Q ↔ zF d x_La_law 1442 [l0, l1, l2, l3] (zi (a + b) :: st) w M Q := zG_stk (zh_La_law 1441 rfl) rfl rfl
set_option maxRecDepth 100000 in
theorem f_La_law_1442 : zF d x_La_law 1442 [l0, l1, l2, l3] (zi a :: zr k :: st) w M Q ↔ (zA w k 0 (z32 a) ∧ zF d x_La_law 1443 [l0, l1, l2, l3] (zi (M k (z32 a).toNat) :: st) w M Q) := zG_iald (zh_La_law 1442 rfl) rfl
set_option maxRecDepth 100000 in
theorem f_La_law_1443 : zF d x_La_law 1443 [zr k, l1, l2, l3] st w M Q ↔ zF d x_La_law 1444 [zr k, l1, l2, l3] (zr k :: st) w M Q := zG_loc (zh_La_law 1443 rfl) rfl rfl rfl
set_option maxRecDepth 100000 in
theorem f_La_law_1444 : zF d x_La_law 1444 [l0, l1, l2, zi a] st w M Q ↔ zF d x_La_law 1445 [l0, l1, l2, zi a] (zi a :: st) w M Q := zG_loc (zh_La_law 1444 rfl) rfl rfl rfl
set_option maxRecDepth 100000 in
theorem f_La_law_1445 : zF d x_La_law 1445 [l0, l1, l2, l3] st w M Q ↔ zF d x_La_law 1446 [l0, l1, l2, l3] (zi (2) :: st) w M Q := zG_stk (zh_La_law 1445 rfl) rfl rfl
set_option maxRecDepth 100000 in
theorem f_La_law_1446 : zF d x_La_law 1446 [l0, l1, l2, l3] (zi b :: zi a :: st) w M Q ↔ zF d x_La_law 1447 [l0, l1, l2, l3] (zi (a + b) :: st) w M Q := zG_stk (zh_La_law 1446 rfl) rfl rfl
set_option maxRecDepth 100000 in
theorem f_La_law_1447 : zF d x_La_law 1447 [l0, l1, l2, l3] (zi a :: zr k :: st) w M Q ↔ (zA w k 0 (z32 a) ∧ zF d x_La_law 1448 [l0, l1, l2, l3] (zi (M k (z32 a).toNat) :: st) w M Q) := zG_iald (zh_La_law 1447 rfl) rfl
set_option maxRecDepth 100000 in
theorem f_La_law_1448 : zF d x_La_law 1448 [zr k, l1, l2, l3] st w M Q ↔ zF d x_La_law 1449 [zr k, l1, l2, l3] (zr k :: st) w M Q := zG_loc (zh_La_law 1448 rfl) rfl rfl rfl
set_option maxRecDepth 100000 in
theorem f_La_law_1449 : zF d x_La_law 1449 [l0, l1, l2, zi a] st w M Q ↔ zF d x_La_law 1450 [l0, l1, l2, zi a] (zi a :: st) w M Q := zG_loc (zh_La_law 1449 rfl) rfl rfl rfl
set_option maxRecDepth 100000 in
theorem f_La_law_1450 : zF d x_La_law 1450 [l0, l1, l2, l3] st w M Q ↔ zF d x_La_law 1451 [l0, l1, l2, l3] (zi (3) :: st) w M Q := zG_stk (zh_La_law 1450 rfl) rfl rfl
set_option maxRecDepth 100000 in
theorem f_La_law_1451 : zF d x_La_law 1451 [l0, l1, l2, l3] (zi b :: zi a :: st) w M Q ↔ zF d x_La_law 1452 [l0, l1, l2, l3] (zi (a + b) :: st) w M Q := zG_stk (zh_La_law 1451 rfl) rfl rfl
set_option maxRecDepth 100000 in
theorem f_La_law_1452 : zF d x_La_law 1452 [l0, l1, l2, l3] (zi a :: zr k :: st) w M Q ↔ (zA w k 0 (z32 a) ∧ zF d x_La_law 1453 [l0, l1, l2, l3] (zi (M k (z32 a).toNat) :: st) w M Q) := zG_iald (zh_La_law 1452 rfl) rfl
set_option maxRecDepth 100000 in
theorem f_La_law_1453 : zF d x_La_law 1453 [l0, l1, l2, l3] (zi c :: zi b :: zi a :: zr k :: st) w M Q ↔ (0 < d ∧ zwd st ≤ 8 ∧ ((zsh w k).1 = 0 ∧ (zsh w k).2.1 = 10) ∧ zF (d - 1) x_We_alone 0 [zr k, zi a, zi b, zi c] [] w M (fun v w' M' => zF d x_La_law 1456 [l0, l1, l2, l3] (v.toList ++ st) w' M' Q)) := zG_callO [zi c, zi b, zi a] (.inl rfl) (zh_La_law 1453 rfl) rfl rfl rfl (by rw [zm_We_alone]; rfl) (by rw [zm_We_alone]; rfl) rfl
set_option maxRecDepth 100000 in
theorem f_La_law_1456 : zF d x_La_law 1456 [l0, l1, zr k, l3] st w M Q ↔ zF d x_La_law 1457 [l0, l1, zr k, l3] (zr k :: st) w M Q := zG_loc (zh_La_law 1456 rfl) rfl rfl rfl
set_option maxRecDepth 100000 in
theorem f_La_law_1457 : zF d x_La_law 1457 [zr k, l1, l2, l3] st w M Q ↔ zF d x_La_law 1458 [zr k, l1, l2, l3] (zr k :: st) w M Q := zG_loc (zh_La_law 1457 rfl) rfl rfl rfl
set_option maxRecDepth 100000 in
theorem f_La_law_1458 : zF d x_La_law 1458 [l0, l1, l2, zi a] st w M Q ↔ zF d x_La_law 1459 [l0, l1, l2, zi a] (zi a :: st) w M Q := zG_loc (zh_La_law 1458 rfl) rfl rfl rfl
set_option maxRecDepth 100000 in
theorem f_La_law_1459 : zF d x_La_law 1459 [l0, l1, l2, l3] st w M Q ↔ zF d x_La_law 1460 [l0, l1, l2, l3] (zi (1) :: st) w M Q := zG_stk (zh_La_law 1459 rfl) rfl rfl
set_option maxRecDepth 100000 in
theorem f_La_law_1460 : zF d x_La_law 1460 [l0, l1, l2, l3] (zi b :: zi a :: st) w M Q ↔ zF d x_La_law 1461 [l0, l1, l2, l3] (zi (a + b) :: st) w M Q := zG_stk (zh_La_law 1460 rfl) rfl rfl
set_option maxRecDepth 100000 in
theorem f_La_law_1461 : zF d x_La_law 1461 [l0, l1, l2, l3] (zi a :: zr k :: st) w M Q ↔ (zA w k 0 (z32 a) ∧ zF d x_La_law 1462 [l0, l1, l2, l3] (zi (M k (z32 a).toNat) :: st) w M Q) := zG_iald (zh_La_law 1461 rfl) rfl
set_option maxRecDepth 100000 in
theorem f_La_law_1462 : zF d x_La_law 1462 [zr k, l1, l2, l3] st w M Q ↔ zF d x_La_law 1463 [zr k, l1, l2, l3] (zr k :: st) w M Q := zG_loc (zh_La_law 1462 rfl) rfl rfl rfl
set_option maxRecDepth 100000 in
theorem f_La_law_1463 : zF d x_La_law 1463 [l0, l1, l2, zi a] st w M Q ↔ zF d x_La_law 1464 [l0, l1, l2, zi a] (zi a :: st) w M Q := zG_loc (zh_La_law 1463 rfl) rfl rfl rfl
set_option maxRecDepth 100000 in
theorem f_La_law_1464 : zF d x_La_law 1464 [l0, l1, l2, l3] st w M Q ↔ zF d x_La_law 1465 [l0, l1, l2, l3] (zi (2) :: st) w M Q := zG_stk (zh_La_law 1464 rfl) rfl rfl
set_option maxRecDepth 100000 in
theorem f_La_law_1465 : zF d x_La_law 1465 [l0, l1, l2, l3] (zi b :: zi a :: st) w M Q ↔ zF d x_La_law 1466 [l0, l1, l2, l3] (zi (a + b) :: st) w M Q := zG_stk (zh_La_law 1465 rfl) rfl rfl
set_option maxRecDepth 100000 in
theorem f_La_law_1466 : zF d x_La_law 1466 [l0, l1, l2, l3] (zi a :: zr k :: st) w M Q ↔ (zA w k 0 (z32 a) ∧ zF d x_La_law 1467 [l0, l1, l2, l3] (zi (M k (z32 a).toNat) :: st) w M Q) := zG_iald (zh_La_law 1466 rfl) rfl
set_option maxRecDepth 100000 in
theorem f_La_law_1467 : zF d x_La_law 1467 [zr k, l1, l2, l3] st w M Q ↔ zF d x_La_law 1468 [zr k, l1, l2, l3] (zr k :: st) w M Q := zG_loc (zh_La_law 1467 rfl) rfl rfl rfl
set_option maxRecDepth 100000 in
theorem f_La_law_1468 : zF d x_La_law 1468 [l0, l1, l2, zi a] st w M Q ↔ zF d x_La_law 1469 [l0, l1, l2, zi a] (zi a :: st) w M Q := zG_loc (zh_La_law 1468 rfl) rfl rfl rfl
set_option maxRecDepth 100000 in
theorem f_La_law_1469 : zF d x_La_law 1469 [l0, l1, l2, l3] st w M Q ↔ zF d x_La_law 1470 [l0, l1, l2, l3] (zi (3) :: st) w M Q := zG_stk (zh_La_law 1469 rfl) rfl rfl
set_option maxRecDepth 100000 in
theorem f_La_law_1470 : zF d x_La_law 1470 [l0, l1, l2, l3] (zi b :: zi a :: st) w M Q ↔ zF d x_La_law 1471 [l0, l1, l2, l3] (zi (a + b) :: st) w M Q := zG_stk (zh_La_law 1470 rfl) rfl rfl
set_option maxRecDepth 100000 in
theorem f_La_law_1471 : zF d x_La_law 1471 [l0, l1, l2, l3] (zi a :: zr k :: st) w M Q ↔ (zA w k 0 (z32 a) ∧ zF d x_La_law 1472 [l0, l1, l2, l3] (zi (M k (z32 a).toNat) :: st) w M Q) := zG_iald (zh_La_law 1471 rfl) rfl
set_option maxRecDepth 100000 in
theorem f_La_law_1472 : zF d x_La_law 1472 [l0, l1, l2, l3] (zi c :: zi b :: zi a :: zr k :: st) w M Q ↔ (0 < d ∧ zwd st ≤ 8 ∧ ((zsh w k).1 = 0 ∧ (zsh w k).2.1 = 11) ∧ zF (d - 1) x_Mo_alone 0 [zr k, zi a, zi b, zi c, zt, zt, zt, zt] [] w M (fun v w' M' => zF d x_La_law 1475 [l0, l1, l2, l3] (v.toList ++ st) w' M' Q)) := zG_callO [zi c, zi b, zi a] (.inl rfl) (zh_La_law 1472 rfl) rfl rfl rfl (by rw [zm_Mo_alone]; rfl) (by rw [zm_Mo_alone]; rfl) rfl
set_option maxRecDepth 100000 in
theorem f_La_law_1475 : zF d x_La_law 1475 [l0, l1, l2, l3] (zi b :: zi a :: st) w M Q ↔ (if z32 a = z32 b then zF d x_La_law 1879 [l0, l1, l2, l3] st w M Q else zF d x_La_law 1478 [l0, l1, l2, l3] st w M Q) := zG_ifP (zh_La_law 1475 rfl) rfl rfl rfl decide_eq_true_iff
set_option maxRecDepth 100000 in
theorem f_La_law_1478 : zF d x_La_law 1478 [l0, l1, l2, l3] st w M Q ↔ zF d x_La_law 1479 [l0, l1, l2, l3] (zi (0) :: st) w M Q := zG_stk (zh_La_law 1478 rfl) rfl rfl
set_option maxRecDepth 100000 in
theorem f_La_law_1479 : zF d x_La_law 1479 [l0, l1, l2, l3] [zi a] w M Q ↔ ((a = 0 ∨ a = 1) ∧ Q (some (zi a)) w M) := zG_prR (zh_La_law 1479 rfl) zb_La_law
set_option maxRecDepth 100000 in
theorem f_La_law_1480 : zF d x_La_law 1480 [l0, zr k, l2, l3] st w M Q ↔ zF d x_La_law 1481 [l0, zr k, l2, l3] (zr k :: st) w M Q := zG_loc (zh_La_law 1480 rfl) rfl rfl rfl
set_option maxRecDepth 100000 in
theorem f_La_law_1481 : zF d x_La_law 1481 [zr k, l1, l2, l3] st w M Q ↔ zF d x_La_law 1482 [zr k, l1, l2, l3] (zr k :: st) w M Q := zG_loc (zh_La_law 1481 rfl) rfl rfl rfl
set_option maxRecDepth 100000 in
theorem f_La_law_1482 : zF d x_La_law 1482 [l0, l1, l2, zi a] st w M Q ↔ zF d x_La_law 1483 [l0, l1, l2, zi a] (zi a :: st) w M Q := zG_loc (zh_La_law 1482 rfl) rfl rfl rfl
set_option maxRecDepth 100000 in
theorem f_La_law_1483 : zF d x_La_law 1483 [l0, l1, l2, l3] st w M Q ↔ zF d x_La_law 1484 [l0, l1, l2, l3] (zi (1) :: st) w M Q := zG_stk (zh_La_law 1483 rfl) rfl rfl
set_option maxRecDepth 100000 in
theorem f_La_law_1484 : zF d x_La_law 1484 [l0, l1, l2, l3] (zi b :: zi a :: st) w M Q ↔ zF d x_La_law 1485 [l0, l1, l2, l3] (zi (a + b) :: st) w M Q := zG_stk (zh_La_law 1484 rfl) rfl rfl
set_option maxRecDepth 100000 in
theorem f_La_law_1485 : zF d x_La_law 1485 [l0, l1, l2, l3] (zi a :: zr k :: st) w M Q ↔ (zA w k 0 (z32 a) ∧ zF d x_La_law 1486 [l0, l1, l2, l3] (zi (M k (z32 a).toNat) :: st) w M Q) := zG_iald (zh_La_law 1485 rfl) rfl
set_option maxRecDepth 100000 in
theorem f_La_law_1486 : zF d x_La_law 1486 [zr k, l1, l2, l3] st w M Q ↔ zF d x_La_law 1487 [zr k, l1, l2, l3] (zr k :: st) w M Q := zG_loc (zh_La_law 1486 rfl) rfl rfl rfl
set_option maxRecDepth 100000 in
theorem f_La_law_1487 : zF d x_La_law 1487 [l0, l1, l2, zi a] st w M Q ↔ zF d x_La_law 1488 [l0, l1, l2, zi a] (zi a :: st) w M Q := zG_loc (zh_La_law 1487 rfl) rfl rfl rfl
set_option maxRecDepth 100000 in
theorem f_La_law_1488 : zF d x_La_law 1488 [l0, l1, l2, l3] st w M Q ↔ zF d x_La_law 1489 [l0, l1, l2, l3] (zi (2) :: st) w M Q := zG_stk (zh_La_law 1488 rfl) rfl rfl
set_option maxRecDepth 100000 in
theorem f_La_law_1489 : zF d x_La_law 1489 [l0, l1, l2, l3] (zi b :: zi a :: st) w M Q ↔ zF d x_La_law 1490 [l0, l1, l2, l3] (zi (a + b) :: st) w M Q := zG_stk (zh_La_law 1489 rfl) rfl rfl
set_option maxRecDepth 100000 in
theorem f_La_law_1490 : zF d x_La_law 1490 [l0, l1, l2, l3] (zi a :: zr k :: st) w M Q ↔ (zA w k 0 (z32 a) ∧ zF d x_La_law 1491 [l0, l1, l2, l3] (zi (M k (z32 a).toNat) :: st) w M Q) := zG_iald (zh_La_law 1490 rfl) rfl
set_option maxRecDepth 100000 in
theorem f_La_law_1491 : zF d x_La_law 1491 [zr k, l1, l2, l3] st w M Q ↔ zF d x_La_law 1492 [zr k, l1, l2, l3] (zr k :: st) w M Q := zG_loc (zh_La_law 1491 rfl) rfl rfl rfl
set_option maxRecDepth 100000 in
theorem f_La_law_1492 : zF d x_La_law 1492 [l0, l1, l2, zi a] st w M Q ↔ zF d x_La_law 1493 [l0, l1, l2, zi a] (zi a :: st) w M Q := zG_loc (zh_La_law 1492 rfl) rfl rfl rfl
set_option maxRecDepth 100000 in
theorem f_La_law_1493 : zF d x_La_law 1493 [l0, l1, l2, l3] st w M Q ↔ zF d x_La_law 1494 [l0, l1, l2, l3] (zi (3) :: st) w M Q := zG_stk (zh_La_law 1493 rfl) rfl rfl
set_option maxRecDepth 100000 in
theorem f_La_law_1494 : zF d x_La_law 1494 [l0, l1, l2, l3] (zi b :: zi a :: st) w M Q ↔ zF d x_La_law 1495 [l0, l1, l2, l3] (zi (a + b) :: st) w M Q := zG_stk (zh_La_law 1494 rfl) rfl rfl
set_option maxRecDepth 100000 in
theorem f_La_law_1495 : zF d x_La_law 1495 [l0, l1, l2, l3] (zi a :: zr k :: st) w M Q ↔ (zA w k 0 (z32 a) ∧ zF d x_La_law 1496 [l0, l1, l2, l3] (zi (M k (z32 a).toNat) :: st) w M Q) := zG_iald (zh_La_law 1495 rfl) rfl
set_option maxRecDepth 100000 in
theorem f_La_law_1496 : zF d x_La_law 1496 [zr k, l1, l2, l3] st w M Q ↔ zF d x_La_law 1497 [zr k, l1, l2, l3] (zr k :: st) w M Q := zG_loc (zh_La_law 1496 rfl) rfl rfl rfl
set_option maxRecDepth 100000 in
theorem f_La_law_1497 : zF d x_La_law 1497 [l0, l1, l2, zi a] st w M Q ↔ zF d x_La_law 1498 [l0, l1, l2, zi a] (zi a :: st) w M Q := zG_loc (zh_La_law 1497 rfl) rfl rfl rfl
set_option maxRecDepth 100000 in
theorem f_La_law_1498 : zF d x_La_law 1498 [l0, l1, l2, l3] st w M Q ↔ zF d x_La_law 1499 [l0, l1, l2, l3] (zi (4) :: st) w M Q := zG_stk (zh_La_law 1498 rfl) rfl rfl
set_option maxRecDepth 100000 in
theorem f_La_law_1499 : zF d x_La_law 1499 [l0, l1, l2, l3] (zi b :: zi a :: st) w M Q ↔ zF d x_La_law 1500 [l0, l1, l2, l3] (zi (a + b) :: st) w M Q := zG_stk (zh_La_law 1499 rfl) rfl rfl
set_option maxRecDepth 100000 in
theorem f_La_law_1500 : zF d x_La_law 1500 [l0, l1, l2, l3] (zi a :: zr k :: st) w M Q ↔ (zA w k 0 (z32 a) ∧ zF d x_La_law 1501 [l0, l1, l2, l3] (zi (M k (z32 a).toNat) :: st) w M Q) := zG_iald (zh_La_law 1500 rfl) rfl
set_option maxRecDepth 100000 in
theorem f_La_law_1501 : zF d x_La_law 1501 [l0, l1, l2, l3] (zi e :: zi c :: zi b :: zi a :: zr k :: st) w M Q ↔ (0 < d ∧ zwd st ≤ 8 ∧ ((zsh w k).1 = 0 ∧ (zsh w k).2.1 = 10) ∧ zF (d - 1) x_We_cracks 0 [zr k, zi a, zi b, zi c, zi e] [] w M (fun v w' M' => zF d x_La_law 1504 [l0, l1, l2, l3] (v.toList ++ st) w' M' Q)) := zG_callO [zi e, zi c, zi b, zi a] (.inl rfl) (zh_La_law 1501 rfl) rfl rfl rfl (by rw [zm_We_cracks]; rfl) (by rw [zm_We_cracks]; rfl) rfl
set_option maxRecDepth 100000 in
theorem f_La_law_1504 : zF d x_La_law 1504 [l0, l1, zr k, l3] st w M Q ↔ zF d x_La_law 1505 [l0, l1, zr k, l3] (zr k :: st) w M Q := zG_loc (zh_La_law 1504 rfl) rfl rfl rfl
set_option maxRecDepth 100000 in
theorem f_La_law_1505 : zF d x_La_law 1505 [zr k, l1, l2, l3] st w M Q ↔ zF d x_La_law 1506 [zr k, l1, l2, l3] (zr k :: st) w M Q := zG_loc (zh_La_law 1505 rfl) rfl rfl rfl
set_option maxRecDepth 100000 in
theorem f_La_law_1506 : zF d x_La_law 1506 [l0, l1, l2, zi a] st w M Q ↔ zF d x_La_law 1507 [l0, l1, l2, zi a] (zi a :: st) w M Q := zG_loc (zh_La_law 1506 rfl) rfl rfl rfl
set_option maxRecDepth 100000 in
theorem f_La_law_1507 : zF d x_La_law 1507 [l0, l1, l2, l3] st w M Q ↔ zF d x_La_law 1508 [l0, l1, l2, l3] (zi (1) :: st) w M Q := zG_stk (zh_La_law 1507 rfl) rfl rfl
set_option maxRecDepth 100000 in
theorem f_La_law_1508 : zF d x_La_law 1508 [l0, l1, l2, l3] (zi b :: zi a :: st) w M Q ↔ zF d x_La_law 1509 [l0, l1, l2, l3] (zi (a + b) :: st) w M Q := zG_stk (zh_La_law 1508 rfl) rfl rfl
set_option maxRecDepth 100000 in
theorem f_La_law_1509 : zF d x_La_law 1509 [l0, l1, l2, l3] (zi a :: zr k :: st) w M Q ↔ (zA w k 0 (z32 a) ∧ zF d x_La_law 1510 [l0, l1, l2, l3] (zi (M k (z32 a).toNat) :: st) w M Q) := zG_iald (zh_La_law 1509 rfl) rfl
set_option maxRecDepth 100000 in
theorem f_La_law_1510 : zF d x_La_law 1510 [zr k, l1, l2, l3] st w M Q ↔ zF d x_La_law 1511 [zr k, l1, l2, l3] (zr k :: st) w M Q := zG_loc (zh_La_law 1510 rfl) rfl rfl rfl
set_option maxRecDepth 100000 in
theorem f_La_law_1511 : zF d x_La_law 1511 [l0, l1, l2, zi a] st w M Q ↔ zF d x_La_law 1512 [l0, l1, l2, zi a] (zi a :: st) w M Q := zG_loc (zh_La_law 1511 rfl) rfl rfl rfl
set_option maxRecDepth 100000 in
theorem f_La_law_1512 : zF d x_La_law 1512 [l0, l1, l2, l3] st w M Q ↔ zF d x_La_law 1513 [l0, l1, l2, l3] (zi (2) :: st) w M Q := zG_stk (zh_La_law 1512 rfl) rfl rfl
set_option maxRecDepth 100000 in
theorem f_La_law_1513 : zF d x_La_law 1513 [l0, l1, l2, l3] (zi b :: zi a :: st) w M Q ↔ zF d x_La_law 1514 [l0, l1, l2, l3] (zi (a + b) :: st) w M Q := zG_stk (zh_La_law 1513 rfl) rfl rfl
set_option maxRecDepth 100000 in
theorem f_La_law_1514 : zF d x_La_law 1514 [l0, l1, l2, l3] (zi a :: zr k :: st) w M Q ↔ (zA w k 0 (z32 a) ∧ zF d x_La_law 1515 [l0, l1, l2, l3] (zi (M k (z32 a).toNat) :: st) w M Q) := zG_iald (zh_La_law 1514 rfl) rfl
set_option maxRecDepth 100000 in
theorem f_La_law_1515 : zF d x_La_law 1515 [zr k, l1, l2, l3] st w M Q ↔ zF d x_La_law 1516 [zr k, l1, l2, l3] (zr k :: st) w M Q := zG_loc (zh_La_law 1515 rfl) rfl rfl rfl
set_option maxRecDepth 100000 in
theorem f_La_law_1516 : zF d x_La_law 1516 [l0, l1, l2, zi a] st w M Q ↔ zF d x_La_law 1517 [l0, l1, l2, zi a] (zi a :: st) w M Q := zG_loc (zh_La_law 1516 rfl) rfl rfl rfl
set_option maxRecDepth 100000 in
theorem f_La_law_1517 : zF d x_La_law 1517 [l0, l1, l2, l3] st w M Q ↔ zF d x_La_law 1518 [l0, l1, l2, l3] (zi (3) :: st) w M Q := zG_stk (zh_La_law 1517 rfl) rfl rfl
set_option maxRecDepth 100000 in
theorem f_La_law_1518 : zF d x_La_law 1518 [l0, l1, l2, l3] (zi b :: zi a :: st) w M Q ↔ zF d x_La_law 1519 [l0, l1, l2, l3] (zi (a + b) :: st) w M Q := zG_stk (zh_La_law 1518 rfl) rfl rfl
set_option maxRecDepth 100000 in
theorem f_La_law_1519 : zF d x_La_law 1519 [l0, l1, l2, l3] (zi a :: zr k :: st) w M Q ↔ (zA w k 0 (z32 a) ∧ zF d x_La_law 1520 [l0, l1, l2, l3] (zi (M k (z32 a).toNat) :: st) w M Q) := zG_iald (zh_La_law 1519 rfl) rfl
set_option maxRecDepth 100000 in
theorem f_La_law_1520 : zF d x_La_law 1520 [zr k, l1, l2, l3] st w M Q ↔ zF d x_La_law 1521 [zr k, l1, l2, l3] (zr k :: st) w M Q := zG_loc (zh_La_law 1520 rfl) rfl rfl rfl
set_option maxRecDepth 100000 in
theorem f_La_law_1521 : zF d x_La_law 1521 [l0, l1, l2, zi a] st w M Q ↔ zF d x_La_law 1522 [l0, l1, l2, zi a] (zi a :: st) w M Q := zG_loc (zh_La_law 1521 rfl) rfl rfl rfl
set_option maxRecDepth 100000 in
theorem f_La_law_1522 : zF d x_La_law 1522 [l0, l1, l2, l3] st w M Q ↔ zF d x_La_law 1523 [l0, l1, l2, l3] (zi (4) :: st) w M Q := zG_stk (zh_La_law 1522 rfl) rfl rfl
set_option maxRecDepth 100000 in
theorem f_La_law_1523 : zF d x_La_law 1523 [l0, l1, l2, l3] (zi b :: zi a :: st) w M Q ↔ zF d x_La_law 1524 [l0, l1, l2, l3] (zi (a + b) :: st) w M Q := zG_stk (zh_La_law 1523 rfl) rfl rfl
set_option maxRecDepth 100000 in
theorem f_La_law_1524 : zF d x_La_law 1524 [l0, l1, l2, l3] (zi a :: zr k :: st) w M Q ↔ (zA w k 0 (z32 a) ∧ zF d x_La_law 1525 [l0, l1, l2, l3] (zi (M k (z32 a).toNat) :: st) w M Q) := zG_iald (zh_La_law 1524 rfl) rfl
set_option maxRecDepth 100000 in
theorem f_La_law_1525 : zF d x_La_law 1525 [l0, l1, l2, l3] (zi e :: zi c :: zi b :: zi a :: zr k :: st) w M Q ↔ (0 < d ∧ zwd st ≤ 8 ∧ ((zsh w k).1 = 0 ∧ (zsh w k).2.1 = 11) ∧ zF (d - 1) x_Mo_cracks 0 [zr k, zi a, zi b, zi c, zi e] [] w M (fun v w' M' => zF d x_La_law 1528 [l0, l1, l2, l3] (v.toList ++ st) w' M' Q)) := zG_callO [zi e, zi c, zi b, zi a] (.inl rfl) (zh_La_law 1525 rfl) rfl rfl rfl (by rw [zm_Mo_cracks]; rfl) (by rw [zm_Mo_cracks]; rfl) rfl
set_option maxRecDepth 100000 in
theorem f_La_law_1528 : zF d x_La_law 1528 [l0, l1, l2, l3] (zi b :: zi a :: st) w M Q ↔ (if z32 a = z32 b then zF d x_La_law 1879 [l0, l1, l2, l3] st w M Q else zF d x_La_law 1531 [l0, l1, l2, l3] st w M Q) := zG_ifP (zh_La_law 1528 rfl) rfl rfl rfl decide_eq_true_iff
set_option maxRecDepth 100000 in
theorem f_La_law_1531 : zF d x_La_law 1531 [l0, l1, l2, l3] st w M Q ↔ zF d x_La_law 1532 [l0, l1, l2, l3] (zi (0) :: st) w M Q := zG_stk (zh_La_law 1531 rfl) rfl rfl
set_option maxRecDepth 100000 in
theorem f_La_law_1532 : zF d x_La_law 1532 [l0, l1, l2, l3] [zi a] w M Q ↔ ((a = 0 ∨ a = 1) ∧ Q (some (zi a)) w M) := zG_prR (zh_La_law 1532 rfl) zb_La_law
set_option maxRecDepth 100000 in
theorem f_La_law_1533 : zF d x_La_law 1533 [l0, zr k, l2, l3] st w M Q ↔ zF d x_La_law 1534 [l0, zr k, l2, l3] (zr k :: st) w M Q := zG_loc (zh_La_law 1533 rfl) rfl rfl rfl
set_option maxRecDepth 100000 in
theorem f_La_law_1534 : zF d x_La_law 1534 [zr k, l1, l2, l3] st w M Q ↔ zF d x_La_law 1535 [zr k, l1, l2, l3] (zr k :: st) w M Q := zG_loc (zh_La_law 1534 rfl) rfl rfl rfl
set_option maxRecDepth 100000 in
theorem f_La_law_1535 : zF d x_La_law 1535 [l0, l1, l2, zi a] st w M Q ↔ zF d x_La_law 1536 [l0, l1, l2, zi a] (zi a :: st) w M Q := zG_loc (zh_La_law 1535 rfl) rfl rfl rfl
set_option maxRecDepth 100000 in
theorem f_La_law_1536 : zF d x_La_law 1536 [l0, l1, l2, l3] st w M Q ↔ zF d x_La_law 1537 [l0, l1, l2, l3] (zi (1) :: st) w M Q := zG_stk (zh_La_law 1536 rfl) rfl rfl
set_option maxRecDepth 100000 in
theorem f_La_law_1537 : zF d x_La_law 1537 [l0, l1, l2, l3] (zi b :: zi a :: st) w M Q ↔ zF d x_La_law 1538 [l0, l1, l2, l3] (zi (a + b) :: st) w M Q := zG_stk (zh_La_law 1537 rfl) rfl rfl
set_option maxRecDepth 100000 in
theorem f_La_law_1538 : zF d x_La_law 1538 [l0, l1, l2, l3] (zi a :: zr k :: st) w M Q ↔ (zA w k 0 (z32 a) ∧ zF d x_La_law 1539 [l0, l1, l2, l3] (zi (M k (z32 a).toNat) :: st) w M Q) := zG_iald (zh_La_law 1538 rfl) rfl
set_option maxRecDepth 100000 in
theorem f_La_law_1539 : zF d x_La_law 1539 [zr k, l1, l2, l3] st w M Q ↔ zF d x_La_law 1540 [zr k, l1, l2, l3] (zr k :: st) w M Q := zG_loc (zh_La_law 1539 rfl) rfl rfl rfl
set_option maxRecDepth 100000 in
theorem f_La_law_1540 : zF d x_La_law 1540 [l0, l1, l2, zi a] st w M Q ↔ zF d x_La_law 1541 [l0, l1, l2, zi a] (zi a :: st) w M Q := zG_loc (zh_La_law 1540 rfl) rfl rfl rfl
set_option maxRecDepth 100000 in
theorem f_La_law_1541 : zF d x_La_law 1541 [l0, l1, l2, l3] st w M Q ↔ zF d x_La_law 1542 [l0, l1, l2, l3] (zi (2) :: st) w M Q := zG_stk (zh_La_law 1541 rfl) rfl rfl
set_option maxRecDepth 100000 in
theorem f_La_law_1542 : zF d x_La_law 1542 [l0, l1, l2, l3] (zi b :: zi a :: st) w M Q ↔ zF d x_La_law 1543 [l0, l1, l2, l3] (zi (a + b) :: st) w M Q := zG_stk (zh_La_law 1542 rfl) rfl rfl
set_option maxRecDepth 100000 in
theorem f_La_law_1543 : zF d x_La_law 1543 [l0, l1, l2, l3] (zi a :: zr k :: st) w M Q ↔ (zA w k 0 (z32 a) ∧ zF d x_La_law 1544 [l0, l1, l2, l3] (zi (M k (z32 a).toNat) :: st) w M Q) := zG_iald (zh_La_law 1543 rfl) rfl
set_option maxRecDepth 100000 in
theorem f_La_law_1544 : zF d x_La_law 1544 [zr k, l1, l2, l3] st w M Q ↔ zF d x_La_law 1545 [zr k, l1, l2, l3] (zr k :: st) w M Q := zG_loc (zh_La_law 1544 rfl) rfl rfl rfl
set_option maxRecDepth 100000 in
theorem f_La_law_1545 : zF d x_La_law 1545 [l0, l1, l2, zi a] st w M Q ↔ zF d x_La_law 1546 [l0, l1, l2, zi a] (zi a :: st) w M Q := zG_loc (zh_La_law 1545 rfl) rfl rfl rfl
set_option maxRecDepth 100000 in
theorem f_La_law_1546 : zF d x_La_law 1546 [l0, l1, l2, l3] st w M Q ↔ zF d x_La_law 1547 [l0, l1, l2, l3] (zi (3) :: st) w M Q := zG_stk (zh_La_law 1546 rfl) rfl rfl
set_option maxRecDepth 100000 in
theorem f_La_law_1547 : zF d x_La_law 1547 [l0, l1, l2, l3] (zi b :: zi a :: st) w M Q ↔ zF d x_La_law 1548 [l0, l1, l2, l3] (zi (a + b) :: st) w M Q := zG_stk (zh_La_law 1547 rfl) rfl rfl
set_option maxRecDepth 100000 in
theorem f_La_law_1548 : zF d x_La_law 1548 [l0, l1, l2, l3] (zi a :: zr k :: st) w M Q ↔ (zA w k 0 (z32 a) ∧ zF d x_La_law 1549 [l0, l1, l2, l3] (zi (M k (z32 a).toNat) :: st) w M Q) := zG_iald (zh_La_law 1548 rfl) rfl
set_option maxRecDepth 100000 in
theorem f_La_law_1549 : zF d x_La_law 1549 [l0, l1, l2, l3] (zi c :: zi b :: zi a :: zr k :: st) w M Q ↔ (0 < d ∧ zwd st ≤ 8 ∧ ((zsh w k).1 = 0 ∧ (zsh w k).2.1 = 10) ∧ zF (d - 1) x_We_costs 0 [zr k, zi a, zi b, zi c] [] w M (fun v w' M' => zF d x_La_law 1552 [l0, l1, l2, l3] (v.toList ++ st) w' M' Q)) := zG_callO [zi c, zi b, zi a] (.inl rfl) (zh_La_law 1549 rfl) rfl rfl rfl (by rw [zm_We_costs]; rfl) (by rw [zm_We_costs]; rfl) rfl
set_option maxRecDepth 100000 in
theorem f_La_law_1552 : zF d x_La_law 1552 [l0, l1, zr k, l3] st w M Q ↔ zF d x_La_law 1553 [l0, l1, zr k, l3] (zr k :: st) w M Q := zG_loc (zh_La_law 1552 rfl) rfl rfl rfl
set_option maxRecDepth 100000 in
theorem f_La_law_1553 : zF d x_La_law 1553 [zr k, l1, l2, l3] st w M Q ↔ zF d x_La_law 1554 [zr k, l1, l2, l3] (zr k :: st) w M Q := zG_loc (zh_La_law 1553 rfl) rfl rfl rfl
set_option maxRecDepth 100000 in
theorem f_La_law_1554 : zF d x_La_law 1554 [l0, l1, l2, zi a] st w M Q ↔ zF d x_La_law 1555 [l0, l1, l2, zi a] (zi a :: st) w M Q := zG_loc (zh_La_law 1554 rfl) rfl rfl rfl
set_option maxRecDepth 100000 in
theorem f_La_law_1555 : zF d x_La_law 1555 [l0, l1, l2, l3] st w M Q ↔ zF d x_La_law 1556 [l0, l1, l2, l3] (zi (1) :: st) w M Q := zG_stk (zh_La_law 1555 rfl) rfl rfl
set_option maxRecDepth 100000 in
theorem f_La_law_1556 : zF d x_La_law 1556 [l0, l1, l2, l3] (zi b :: zi a :: st) w M Q ↔ zF d x_La_law 1557 [l0, l1, l2, l3] (zi (a + b) :: st) w M Q := zG_stk (zh_La_law 1556 rfl) rfl rfl
set_option maxRecDepth 100000 in
theorem f_La_law_1557 : zF d x_La_law 1557 [l0, l1, l2, l3] (zi a :: zr k :: st) w M Q ↔ (zA w k 0 (z32 a) ∧ zF d x_La_law 1558 [l0, l1, l2, l3] (zi (M k (z32 a).toNat) :: st) w M Q) := zG_iald (zh_La_law 1557 rfl) rfl
set_option maxRecDepth 100000 in
theorem f_La_law_1558 : zF d x_La_law 1558 [zr k, l1, l2, l3] st w M Q ↔ zF d x_La_law 1559 [zr k, l1, l2, l3] (zr k :: st) w M Q := zG_loc (zh_La_law 1558 rfl) rfl rfl rfl
set_option maxRecDepth 100000 in
theorem f_La_law_1559 : zF d x_La_law 1559 [l0, l1, l2, zi a] st w M Q ↔ zF d x_La_law 1560 [l0, l1, l2, zi a] (zi a :: st) w M Q := zG_loc (zh_La_law 1559 rfl) rfl rfl rfl
set_option maxRecDepth 100000 in
theorem f_La_law_1560 : zF d x_La_law 1560 [l0, l1, l2, l3] st w M Q ↔ zF d x_La_law 1561 [l0, l1, l2, l3] (zi (2) :: st) w M Q := zG_stk (zh_La_law 1560 rfl) rfl rfl
set_option maxRecDepth 100000 in
theorem f_La_law_1561 : zF d x_La_law 1561 [l0, l1, l2, l3] (zi b :: zi a :: st) w M Q ↔ zF d x_La_law 1562 [l0, l1, l2, l3] (zi (a + b) :: st) w M Q := zG_stk (zh_La_law 1561 rfl) rfl rfl
set_option maxRecDepth 100000 in
theorem f_La_law_1562 : zF d x_La_law 1562 [l0, l1, l2, l3] (zi a :: zr k :: st) w M Q ↔ (zA w k 0 (z32 a) ∧ zF d x_La_law 1563 [l0, l1, l2, l3] (zi (M k (z32 a).toNat) :: st) w M Q) := zG_iald (zh_La_law 1562 rfl) rfl
set_option maxRecDepth 100000 in
theorem f_La_law_1563 : zF d x_La_law 1563 [zr k, l1, l2, l3] st w M Q ↔ zF d x_La_law 1564 [zr k, l1, l2, l3] (zr k :: st) w M Q := zG_loc (zh_La_law 1563 rfl) rfl rfl rfl
set_option maxRecDepth 100000 in
theorem f_La_law_1564 : zF d x_La_law 1564 [l0, l1, l2, zi a] st w M Q ↔ zF d x_La_law 1565 [l0, l1, l2, zi a] (zi a :: st) w M Q := zG_loc (zh_La_law 1564 rfl) rfl rfl rfl
set_option maxRecDepth 100000 in
theorem f_La_law_1565 : zF d x_La_law 1565 [l0, l1, l2, l3] st w M Q ↔ zF d x_La_law 1566 [l0, l1, l2, l3] (zi (3) :: st) w M Q := zG_stk (zh_La_law 1565 rfl) rfl rfl
set_option maxRecDepth 100000 in
theorem f_La_law_1566 : zF d x_La_law 1566 [l0, l1, l2, l3] (zi b :: zi a :: st) w M Q ↔ zF d x_La_law 1567 [l0, l1, l2, l3] (zi (a + b) :: st) w M Q := zG_stk (zh_La_law 1566 rfl) rfl rfl
set_option maxRecDepth 100000 in
theorem f_La_law_1567 : zF d x_La_law 1567 [l0, l1, l2, l3] (zi a :: zr k :: st) w M Q ↔ (zA w k 0 (z32 a) ∧ zF d x_La_law 1568 [l0, l1, l2, l3] (zi (M k (z32 a).toNat) :: st) w M Q) := zG_iald (zh_La_law 1567 rfl) rfl
set_option maxRecDepth 100000 in
theorem f_La_law_1568 : zF d x_La_law 1568 [l0, l1, l2, l3] (zi c :: zi b :: zi a :: zr k :: st) w M Q ↔ (0 < d ∧ zwd st ≤ 8 ∧ ((zsh w k).1 = 0 ∧ (zsh w k).2.1 = 11) ∧ zF (d - 1) x_Mo_costs 0 [zr k, zi a, zi b, zi c] [] w M (fun v w' M' => zF d x_La_law 1571 [l0, l1, l2, l3] (v.toList ++ st) w' M' Q)) := zG_callO [zi c, zi b, zi a] (.inl rfl) (zh_La_law 1568 rfl) rfl rfl rfl (by rw [zm_Mo_costs]; rfl) (by rw [zm_Mo_costs]; rfl) rfl
set_option maxRecDepth 100000 in
theorem f_La_law_1571 : zF d x_La_law 1571 [l0, l1, l2, l3] (zi b :: zi a :: st) w M Q ↔ (if z32 a = z32 b then zF d x_La_law 1879 [l0, l1, l2, l3] st w M Q else zF d x_La_law 1574 [l0, l1, l2, l3] st w M Q) := zG_ifP (zh_La_law 1571 rfl) rfl rfl rfl decide_eq_true_iff
set_option maxRecDepth 100000 in
theorem f_La_law_1574 : zF d x_La_law 1574 [l0, l1, l2, l3] st w M Q ↔ zF d x_La_law 1575 [l0, l1, l2, l3] (zi (0) :: st) w M Q := zG_stk (zh_La_law 1574 rfl) rfl rfl
set_option maxRecDepth 100000 in
theorem f_La_law_1575 : zF d x_La_law 1575 [l0, l1, l2, l3] [zi a] w M Q ↔ ((a = 0 ∨ a = 1) ∧ Q (some (zi a)) w M) := zG_prR (zh_La_law 1575 rfl) zb_La_law
set_option maxRecDepth 100000 in
theorem f_La_law_1576 : zF d x_La_law 1576 [l0, zr k, l2, l3] st w M Q ↔ zF d x_La_law 1577 [l0, zr k, l2, l3] (zr k :: st) w M Q := zG_loc (zh_La_law 1576 rfl) rfl rfl rfl
set_option maxRecDepth 100000 in
theorem f_La_law_1577 : zF d x_La_law 1577 [zr k, l1, l2, l3] st w M Q ↔ zF d x_La_law 1578 [zr k, l1, l2, l3] (zr k :: st) w M Q := zG_loc (zh_La_law 1577 rfl) rfl rfl rfl
set_option maxRecDepth 100000 in
theorem f_La_law_1578 : zF d x_La_law 1578 [l0, l1, l2, zi a] st w M Q ↔ zF d x_La_law 1579 [l0, l1, l2, zi a] (zi a :: st) w M Q := zG_loc (zh_La_law 1578 rfl) rfl rfl rfl
set_option maxRecDepth 100000 in
theorem f_La_law_1579 : zF d x_La_law 1579 [l0, l1, l2, l3] st w M Q ↔ zF d x_La_law 1580 [l0, l1, l2, l3] (zi (1) :: st) w M Q := zG_stk (zh_La_law 1579 rfl) rfl rfl
set_option maxRecDepth 100000 in
theorem f_La_law_1580 : zF d x_La_law 1580 [l0, l1, l2, l3] (zi b :: zi a :: st) w M Q ↔ zF d x_La_law 1581 [l0, l1, l2, l3] (zi (a + b) :: st) w M Q := zG_stk (zh_La_law 1580 rfl) rfl rfl
set_option maxRecDepth 100000 in
theorem f_La_law_1581 : zF d x_La_law 1581 [l0, l1, l2, l3] (zi a :: zr k :: st) w M Q ↔ (zA w k 0 (z32 a) ∧ zF d x_La_law 1582 [l0, l1, l2, l3] (zi (M k (z32 a).toNat) :: st) w M Q) := zG_iald (zh_La_law 1581 rfl) rfl
set_option maxRecDepth 100000 in
theorem f_La_law_1582 : zF d x_La_law 1582 [zr k, l1, l2, l3] st w M Q ↔ zF d x_La_law 1583 [zr k, l1, l2, l3] (zr k :: st) w M Q := zG_loc (zh_La_law 1582 rfl) rfl rfl rfl
set_option maxRecDepth 100000 in
theorem f_La_law_1583 : zF d x_La_law 1583 [l0, l1, l2, zi a] st w M Q ↔ zF d x_La_law 1584 [l0, l1, l2, zi a] (zi a :: st) w M Q := zG_loc (zh_La_law 1583 rfl) rfl rfl rfl
set_option maxRecDepth 100000 in
theorem f_La_law_1584 : zF d x_La_law 1584 [l0, l1, l2, l3] st w M Q ↔ zF d x_La_law 1585 [l0, l1, l2, l3] (zi (2) :: st) w M Q := zG_stk (zh_La_law 1584 rfl) rfl rfl
set_option maxRecDepth 100000 in
theorem f_La_law_1585 : zF d x_La_law 1585 [l0, l1, l2, l3] (zi b :: zi a :: st) w M Q ↔ zF d x_La_law 1586 [l0, l1, l2, l3] (zi (a + b) :: st) w M Q := zG_stk (zh_La_law 1585 rfl) rfl rfl
set_option maxRecDepth 100000 in
theorem f_La_law_1586 : zF d x_La_law 1586 [l0, l1, l2, l3] (zi a :: zr k :: st) w M Q ↔ (zA w k 0 (z32 a) ∧ zF d x_La_law 1587 [l0, l1, l2, l3] (zi (M k (z32 a).toNat) :: st) w M Q) := zG_iald (zh_La_law 1586 rfl) rfl
set_option maxRecDepth 100000 in
theorem f_La_law_1587 : zF d x_La_law 1587 [zr k, l1, l2, l3] st w M Q ↔ zF d x_La_law 1588 [zr k, l1, l2, l3] (zr k :: st) w M Q := zG_loc (zh_La_law 1587 rfl) rfl rfl rfl
set_option maxRecDepth 100000 in
theorem f_La_law_1588 : zF d x_La_law 1588 [l0, l1, l2, zi a] st w M Q ↔ zF d x_La_law 1589 [l0, l1, l2, zi a] (zi a :: st) w M Q := zG_loc (zh_La_law 1588 rfl) rfl rfl rfl
set_option maxRecDepth 100000 in
theorem f_La_law_1589 : zF d x_La_law 1589 [l0, l1, l2, l3] st w M Q ↔ zF d x_La_law 1590 [l0, l1, l2, l3] (zi (3) :: st) w M Q := zG_stk (zh_La_law 1589 rfl) rfl rfl
set_option maxRecDepth 100000 in
theorem f_La_law_1590 : zF d x_La_law 1590 [l0, l1, l2, l3] (zi b :: zi a :: st) w M Q ↔ zF d x_La_law 1591 [l0, l1, l2, l3] (zi (a + b) :: st) w M Q := zG_stk (zh_La_law 1590 rfl) rfl rfl
set_option maxRecDepth 100000 in
theorem f_La_law_1591 : zF d x_La_law 1591 [l0, l1, l2, l3] (zi a :: zr k :: st) w M Q ↔ (zA w k 0 (z32 a) ∧ zF d x_La_law 1592 [l0, l1, l2, l3] (zi (M k (z32 a).toNat) :: st) w M Q) := zG_iald (zh_La_law 1591 rfl) rfl
set_option maxRecDepth 100000 in
theorem f_La_law_1592 : zF d x_La_law 1592 [l0, l1, l2, l3] (zi c :: zi b :: zi a :: zr k :: st) w M Q ↔ (0 < d ∧ zwd st ≤ 8 ∧ ((zsh w k).1 = 0 ∧ (zsh w k).2.1 = 10) ∧ zF (d - 1) x_We_cost 0 [zr k, zi a, zi b, zi c] [] w M (fun v w' M' => zF d x_La_law 1595 [l0, l1, l2, l3] (v.toList ++ st) w' M' Q)) := zG_callO [zi c, zi b, zi a] (.inl rfl) (zh_La_law 1592 rfl) rfl rfl rfl (by rw [zm_We_cost]; rfl) (by rw [zm_We_cost]; rfl) rfl
set_option maxRecDepth 100000 in
theorem f_La_law_1595 : zF d x_La_law 1595 [l0, l1, zr k, l3] st w M Q ↔ zF d x_La_law 1596 [l0, l1, zr k, l3] (zr k :: st) w M Q := zG_loc (zh_La_law 1595 rfl) rfl rfl rfl
set_option maxRecDepth 100000 in
theorem f_La_law_1596 : zF d x_La_law 1596 [zr k, l1, l2, l3] st w M Q ↔ zF d x_La_law 1597 [zr k, l1, l2, l3] (zr k :: st) w M Q := zG_loc (zh_La_law 1596 rfl) rfl rfl rfl
set_option maxRecDepth 100000 in
theorem f_La_law_1597 : zF d x_La_law 1597 [l0, l1, l2, zi a] st w M Q ↔ zF d x_La_law 1598 [l0, l1, l2, zi a] (zi a :: st) w M Q := zG_loc (zh_La_law 1597 rfl) rfl rfl rfl
set_option maxRecDepth 100000 in
theorem f_La_law_1598 : zF d x_La_law 1598 [l0, l1, l2, l3] st w M Q ↔ zF d x_La_law 1599 [l0, l1, l2, l3] (zi (1) :: st) w M Q := zG_stk (zh_La_law 1598 rfl) rfl rfl
set_option maxRecDepth 100000 in
theorem f_La_law_1599 : zF d x_La_law 1599 [l0, l1, l2, l3] (zi b :: zi a :: st) w M Q ↔ zF d x_La_law 1600 [l0, l1, l2, l3] (zi (a + b) :: st) w M Q := zG_stk (zh_La_law 1599 rfl) rfl rfl
set_option maxRecDepth 100000 in
theorem f_La_law_1600 : zF d x_La_law 1600 [l0, l1, l2, l3] (zi a :: zr k :: st) w M Q ↔ (zA w k 0 (z32 a) ∧ zF d x_La_law 1601 [l0, l1, l2, l3] (zi (M k (z32 a).toNat) :: st) w M Q) := zG_iald (zh_La_law 1600 rfl) rfl
set_option maxRecDepth 100000 in
theorem f_La_law_1601 : zF d x_La_law 1601 [zr k, l1, l2, l3] st w M Q ↔ zF d x_La_law 1602 [zr k, l1, l2, l3] (zr k :: st) w M Q := zG_loc (zh_La_law 1601 rfl) rfl rfl rfl
set_option maxRecDepth 100000 in
theorem f_La_law_1602 : zF d x_La_law 1602 [l0, l1, l2, zi a] st w M Q ↔ zF d x_La_law 1603 [l0, l1, l2, zi a] (zi a :: st) w M Q := zG_loc (zh_La_law 1602 rfl) rfl rfl rfl
set_option maxRecDepth 100000 in
theorem f_La_law_1603 : zF d x_La_law 1603 [l0, l1, l2, l3] st w M Q ↔ zF d x_La_law 1604 [l0, l1, l2, l3] (zi (2) :: st) w M Q := zG_stk (zh_La_law 1603 rfl) rfl rfl
set_option maxRecDepth 100000 in
theorem f_La_law_1604 : zF d x_La_law 1604 [l0, l1, l2, l3] (zi b :: zi a :: st) w M Q ↔ zF d x_La_law 1605 [l0, l1, l2, l3] (zi (a + b) :: st) w M Q := zG_stk (zh_La_law 1604 rfl) rfl rfl
set_option maxRecDepth 100000 in
theorem f_La_law_1605 : zF d x_La_law 1605 [l0, l1, l2, l3] (zi a :: zr k :: st) w M Q ↔ (zA w k 0 (z32 a) ∧ zF d x_La_law 1606 [l0, l1, l2, l3] (zi (M k (z32 a).toNat) :: st) w M Q) := zG_iald (zh_La_law 1605 rfl) rfl
set_option maxRecDepth 100000 in
theorem f_La_law_1606 : zF d x_La_law 1606 [zr k, l1, l2, l3] st w M Q ↔ zF d x_La_law 1607 [zr k, l1, l2, l3] (zr k :: st) w M Q := zG_loc (zh_La_law 1606 rfl) rfl rfl rfl
set_option maxRecDepth 100000 in
theorem f_La_law_1607 : zF d x_La_law 1607 [l0, l1, l2, zi a] st w M Q ↔ zF d x_La_law 1608 [l0, l1, l2, zi a] (zi a :: st) w M Q := zG_loc (zh_La_law 1607 rfl) rfl rfl rfl
set_option maxRecDepth 100000 in
theorem f_La_law_1608 : zF d x_La_law 1608 [l0, l1, l2, l3] st w M Q ↔ zF d x_La_law 1609 [l0, l1, l2, l3] (zi (3) :: st) w M Q := zG_stk (zh_La_law 1608 rfl) rfl rfl
set_option maxRecDepth 100000 in
theorem f_La_law_1609 : zF d x_La_law 1609 [l0, l1, l2, l3] (zi b :: zi a :: st) w M Q ↔ zF d x_La_law 1610 [l0, l1, l2, l3] (zi (a + b) :: st) w M Q := zG_stk (zh_La_law 1609 rfl) rfl rfl
set_option maxRecDepth 100000 in
theorem f_La_law_1610 : zF d x_La_law 1610 [l0, l1, l2, l3] (zi a :: zr k :: st) w M Q ↔ (zA w k 0 (z32 a) ∧ zF d x_La_law 1611 [l0, l1, l2, l3] (zi (M k (z32 a).toNat) :: st) w M Q) := zG_iald (zh_La_law 1610 rfl) rfl
set_option maxRecDepth 100000 in
theorem f_La_law_1611 : zF d x_La_law 1611 [l0, l1, l2, l3] (zi c :: zi b :: zi a :: zr k :: st) w M Q ↔ (0 < d ∧ zwd st ≤ 8 ∧ ((zsh w k).1 = 0 ∧ (zsh w k).2.1 = 11) ∧ zF (d - 1) x_Mo_cost 0 [zr k, zi a, zi b, zi c] [] w M (fun v w' M' => zF d x_La_law 1614 [l0, l1, l2, l3] (v.toList ++ st) w' M' Q)) := zG_callO [zi c, zi b, zi a] (.inl rfl) (zh_La_law 1611 rfl) rfl rfl rfl (by rw [zm_Mo_cost]; rfl) (by rw [zm_Mo_cost]; rfl) rfl
set_option maxRecDepth 100000 in
theorem f_La_law_1614 : zF d x_La_law 1614 [l0, l1, l2, l3] (zl b :: zl a :: st) w M Q ↔ zF d x_La_law 1615 [l0, l1, l2, l3] (zi (zlcmp a b) :: st) w M Q := zG_stk (zh_La_law 1614 rfl) rfl rfl
set_option maxRecDepth 100000 in
theorem f_La_law_1615 : zF d x_La_law 1615 [l0, l1, l2, l3] (zi a :: st) w M Q ↔ (if z32 a = 0 then zF d x_La_law 1879 [l0, l1, l2, l3] st w M Q else zF d x_La_law 1618 [l0, l1, l2, l3] st w M Q) := zG_ifP (zh_La_law 1615 rfl) rfl rfl rfl decide_eq_true_iff
set_option maxRecDepth 100000 in
theorem f_La_law_1618 : zF d x_La_law 1618 [l0, l1, l2, l3] st w M Q ↔ zF d x_La_law 1619 [l0, l1, l2, l3] (zi (0) :: st) w M Q := zG_stk (zh_La_law 1618 rfl) rfl rfl
set_option maxRecDepth 100000 in
theorem f_La_law_1619 : zF d x_La_law 1619 [l0, l1, l2, l3] [zi a] w M Q ↔ ((a = 0 ∨ a = 1) ∧ Q (some (zi a)) w M) := zG_prR (zh_La_law 1619 rfl) zb_La_law
set_option maxRecDepth 100000 in
theorem f_La_law_1620 : zF d x_La_law 1620 [l0, zr k, l2, l3] st w M Q ↔ zF d x_La_law 1621 [l0, zr k, l2, l3] (zr k :: st) w M Q := zG_loc (zh_La_law 1620 rfl) rfl rfl rfl
set_option maxRecDepth 100000 in
theorem f_La_law_1621 : zF d x_La_law 1621 [zr k, l1, l2, l3] st w M Q ↔ zF d x_La_law 1622 [zr k, l1, l2, l3] (zr k :: st) w M Q := zG_loc (zh_La_law 1621 rfl) rfl rfl rfl
set_option maxRecDepth 100000 in
theorem f_La_law_1622 : zF d x_La_law 1622 [l0, l1, l2, zi a] st w M Q ↔ zF d x_La_law 1623 [l0, l1, l2, zi a] (zi a :: st) w M Q := zG_loc (zh_La_law 1622 rfl) rfl rfl rfl
set_option maxRecDepth 100000 in
theorem f_La_law_1623 : zF d x_La_law 1623 [l0, l1, l2, l3] st w M Q ↔ zF d x_La_law 1624 [l0, l1, l2, l3] (zi (1) :: st) w M Q := zG_stk (zh_La_law 1623 rfl) rfl rfl
set_option maxRecDepth 100000 in
theorem f_La_law_1624 : zF d x_La_law 1624 [l0, l1, l2, l3] (zi b :: zi a :: st) w M Q ↔ zF d x_La_law 1625 [l0, l1, l2, l3] (zi (a + b) :: st) w M Q := zG_stk (zh_La_law 1624 rfl) rfl rfl
set_option maxRecDepth 100000 in
theorem f_La_law_1625 : zF d x_La_law 1625 [l0, l1, l2, l3] (zi a :: zr k :: st) w M Q ↔ (zA w k 0 (z32 a) ∧ zF d x_La_law 1626 [l0, l1, l2, l3] (zi (M k (z32 a).toNat) :: st) w M Q) := zG_iald (zh_La_law 1625 rfl) rfl
set_option maxRecDepth 100000 in
theorem f_La_law_1626 : zF d x_La_law 1626 [l0, l1, l2, l3] (zi a :: zr k :: st) w M Q ↔ (0 < d ∧ zwd st ≤ 8 ∧ ((zsh w k).1 = 0 ∧ (zsh w k).2.1 = 10) ∧ zF (d - 1) x_We_looks 0 [zr k, zi a] [] w M (fun v w' M' => zF d x_La_law 1629 [l0, l1, l2, l3] (v.toList ++ st) w' M' Q)) := zG_callO [zi a] (.inl rfl) (zh_La_law 1626 rfl) rfl rfl rfl (by rw [zm_We_looks]; rfl) (by rw [zm_We_looks]; rfl) rfl
set_option maxRecDepth 100000 in
theorem f_La_law_1629 : zF d x_La_law 1629 [l0, l1, zr k, l3] st w M Q ↔ zF d x_La_law 1630 [l0, l1, zr k, l3] (zr k :: st) w M Q := zG_loc (zh_La_law 1629 rfl) rfl rfl rfl
set_option maxRecDepth 100000 in
theorem f_La_law_1630 : zF d x_La_law 1630 [zr k, l1, l2, l3] st w M Q ↔ zF d x_La_law 1631 [zr k, l1, l2, l3] (zr k :: st) w M Q := zG_loc (zh_La_law 1630 rfl) rfl rfl rfl
set_option maxRecDepth 100000 in
theorem f_La_law_1631 : zF d x_La_law 1631 [l0, l1, l2, zi a] st w M Q ↔ zF d x_La_law 1632 [l0, l1, l2, zi a] (zi a :: st) w M Q := zG_loc (zh_La_law 1631 rfl) rfl rfl rfl
set_option maxRecDepth 100000 in
theorem f_La_law_1632 : zF d x_La_law 1632 [l0, l1, l2, l3] st w M Q ↔ zF d x_La_law 1633 [l0, l1, l2, l3] (zi (1) :: st) w M Q := zG_stk (zh_La_law 1632 rfl) rfl rfl
set_option maxRecDepth 100000 in
theorem f_La_law_1633 : zF d x_La_law 1633 [l0, l1, l2, l3] (zi b :: zi a :: st) w M Q ↔ zF d x_La_law 1634 [l0, l1, l2, l3] (zi (a + b) :: st) w M Q := zG_stk (zh_La_law 1633 rfl) rfl rfl
set_option maxRecDepth 100000 in
theorem f_La_law_1634 : zF d x_La_law 1634 [l0, l1, l2, l3] (zi a :: zr k :: st) w M Q ↔ (zA w k 0 (z32 a) ∧ zF d x_La_law 1635 [l0, l1, l2, l3] (zi (M k (z32 a).toNat) :: st) w M Q) := zG_iald (zh_La_law 1634 rfl) rfl
set_option maxRecDepth 100000 in
theorem f_La_law_1635 : zF d x_La_law 1635 [l0, l1, l2, l3] (zi a :: zr k :: st) w M Q ↔ (0 < d ∧ zwd st ≤ 8 ∧ ((zsh w k).1 = 0 ∧ (zsh w k).2.1 = 11) ∧ zF (d - 1) x_Mo_looks 0 [zr k, zi a, zt, zt, zt, zt, zt, zt] [] w M (fun v w' M' => zF d x_La_law 1638 [l0, l1, l2, l3] (v.toList ++ st) w' M' Q)) := zG_callO [zi a] (.inl rfl) (zh_La_law 1635 rfl) rfl rfl rfl (by rw [zm_Mo_looks]; rfl) (by rw [zm_Mo_looks]; rfl) rfl
set_option maxRecDepth 100000 in
theorem f_La_law_1638 : zF d x_La_law 1638 [l0, l1, l2, l3] (zi b :: zi a :: st) w M Q ↔ (if z32 a = z32 b then zF d x_La_law 1879 [l0, l1, l2, l3] st w M Q else zF d x_La_law 1641 [l0, l1, l2, l3] st w M Q) := zG_ifP (zh_La_law 1638 rfl) rfl rfl rfl decide_eq_true_iff
set_option maxRecDepth 100000 in
theorem f_La_law_1641 : zF d x_La_law 1641 [l0, l1, l2, l3] st w M Q ↔ zF d x_La_law 1642 [l0, l1, l2, l3] (zi (0) :: st) w M Q := zG_stk (zh_La_law 1641 rfl) rfl rfl
set_option maxRecDepth 100000 in
theorem f_La_law_1642 : zF d x_La_law 1642 [l0, l1, l2, l3] [zi a] w M Q ↔ ((a = 0 ∨ a = 1) ∧ Q (some (zi a)) w M) := zG_prR (zh_La_law 1642 rfl) zb_La_law
set_option maxRecDepth 100000 in
theorem f_La_law_1643 : zF d x_La_law 1643 [l0, zr k, l2, l3] st w M Q ↔ zF d x_La_law 1644 [l0, zr k, l2, l3] (zr k :: st) w M Q := zG_loc (zh_La_law 1643 rfl) rfl rfl rfl
set_option maxRecDepth 100000 in
theorem f_La_law_1644 : zF d x_La_law 1644 [zr k, l1, l2, l3] st w M Q ↔ zF d x_La_law 1645 [zr k, l1, l2, l3] (zr k :: st) w M Q := zG_loc (zh_La_law 1644 rfl) rfl rfl rfl
set_option maxRecDepth 100000 in
theorem f_La_law_1645 : zF d x_La_law 1645 [l0, l1, l2, zi a] st w M Q ↔ zF d x_La_law 1646 [l0, l1, l2, zi a] (zi a :: st) w M Q := zG_loc (zh_La_law 1645 rfl) rfl rfl rfl
set_option maxRecDepth 100000 in
theorem f_La_law_1646 : zF d x_La_law 1646 [l0, l1, l2, l3] st w M Q ↔ zF d x_La_law 1647 [l0, l1, l2, l3] (zi (1) :: st) w M Q := zG_stk (zh_La_law 1646 rfl) rfl rfl
set_option maxRecDepth 100000 in
theorem f_La_law_1647 : zF d x_La_law 1647 [l0, l1, l2, l3] (zi b :: zi a :: st) w M Q ↔ zF d x_La_law 1648 [l0, l1, l2, l3] (zi (a + b) :: st) w M Q := zG_stk (zh_La_law 1647 rfl) rfl rfl
set_option maxRecDepth 100000 in
theorem f_La_law_1648 : zF d x_La_law 1648 [l0, l1, l2, l3] (zi a :: zr k :: st) w M Q ↔ (zA w k 0 (z32 a) ∧ zF d x_La_law 1649 [l0, l1, l2, l3] (zi (M k (z32 a).toNat) :: st) w M Q) := zG_iald (zh_La_law 1648 rfl) rfl
set_option maxRecDepth 100000 in
theorem f_La_law_1649 : zF d x_La_law 1649 [zr k, l1, l2, l3] st w M Q ↔ zF d x_La_law 1650 [zr k, l1, l2, l3] (zr k :: st) w M Q := zG_loc (zh_La_law 1649 rfl) rfl rfl rfl
set_option maxRecDepth 100000 in
theorem f_La_law_1650 : zF d x_La_law 1650 [l0, l1, l2, zi a] st w M Q ↔ zF d x_La_law 1651 [l0, l1, l2, zi a] (zi a :: st) w M Q := zG_loc (zh_La_law 1650 rfl) rfl rfl rfl
set_option maxRecDepth 100000 in
theorem f_La_law_1651 : zF d x_La_law 1651 [l0, l1, l2, l3] st w M Q ↔ zF d x_La_law 1652 [l0, l1, l2, l3] (zi (2) :: st) w M Q := zG_stk (zh_La_law 1651 rfl) rfl rfl
set_option maxRecDepth 100000 in
theorem f_La_law_1652 : zF d x_La_law 1652 [l0, l1, l2, l3] (zi b :: zi a :: st) w M Q ↔ zF d x_La_law 1653 [l0, l1, l2, l3] (zi (a + b) :: st) w M Q := zG_stk (zh_La_law 1652 rfl) rfl rfl
set_option maxRecDepth 100000 in
theorem f_La_law_1653 : zF d x_La_law 1653 [l0, l1, l2, l3] (zi a :: zr k :: st) w M Q ↔ (zA w k 0 (z32 a) ∧ zF d x_La_law 1654 [l0, l1, l2, l3] (zi (M k (z32 a).toNat) :: st) w M Q) := zG_iald (zh_La_law 1653 rfl) rfl
set_option maxRecDepth 100000 in
theorem f_La_law_1654 : zF d x_La_law 1654 [l0, l1, l2, l3] (zi b :: zi a :: zr k :: st) w M Q ↔ (0 < d ∧ zwd st ≤ 8 ∧ ((zsh w k).1 = 0 ∧ (zsh w k).2.1 = 10) ∧ zF (d - 1) x_We_makes 0 [zr k, zi a, zi b] [] w M (fun v w' M' => zF d x_La_law 1657 [l0, l1, l2, l3] (v.toList ++ st) w' M' Q)) := zG_callO [zi b, zi a] (.inl rfl) (zh_La_law 1654 rfl) rfl rfl rfl (by rw [zm_We_makes]; rfl) (by rw [zm_We_makes]; rfl) rfl
set_option maxRecDepth 100000 in
theorem f_La_law_1657 : zF d x_La_law 1657 [l0, l1, zr k, l3] st w M Q ↔ zF d x_La_law 1658 [l0, l1, zr k, l3] (zr k :: st) w M Q := zG_loc (zh_La_law 1657 rfl) rfl rfl rfl
set_option maxRecDepth 100000 in
theorem f_La_law_1658 : zF d x_La_law 1658 [zr k, l1, l2, l3] st w M Q ↔ zF d x_La_law 1659 [zr k, l1, l2, l3] (zr k :: st) w M Q := zG_loc (zh_La_law 1658 rfl) rfl rfl rfl
set_option maxRecDepth 100000 in
theorem f_La_law_1659 : zF d x_La_law 1659 [l0, l1, l2, zi a] st w M Q ↔ zF d x_La_law 1660 [l0, l1, l2, zi a] (zi a :: st) w M Q := zG_loc (zh_La_law 1659 rfl) rfl rfl rfl
set_option maxRecDepth 100000 in
theorem f_La_law_1660 : zF d x_La_law 1660 [l0, l1, l2, l3] st w M Q ↔ zF d x_La_law 1661 [l0, l1, l2, l3] (zi (1) :: st) w M Q := zG_stk (zh_La_law 1660 rfl) rfl rfl
set_option maxRecDepth 100000 in
theorem f_La_law_1661 : zF d x_La_law 1661 [l0, l1, l2, l3] (zi b :: zi a :: st) w M Q ↔ zF d x_La_law 1662 [l0, l1, l2, l3] (zi (a + b) :: st) w M Q := zG_stk (zh_La_law 1661 rfl) rfl rfl
set_option maxRecDepth 100000 in
theorem f_La_law_1662 : zF d x_La_law 1662 [l0, l1, l2, l3] (zi a :: zr k :: st) w M Q ↔ (zA w k 0 (z32 a) ∧ zF d x_La_law 1663 [l0, l1, l2, l3] (zi (M k (z32 a).toNat) :: st) w M Q) := zG_iald (zh_La_law 1662 rfl) rfl
set_option maxRecDepth 100000 in
theorem f_La_law_1663 : zF d x_La_law 1663 [zr k, l1, l2, l3] st w M Q ↔ zF d x_La_law 1664 [zr k, l1, l2, l3] (zr k :: st) w M Q := zG_loc (zh_La_law 1663 rfl) rfl rfl rfl
set_option maxRecDepth 100000 in
theorem f_La_law_1664 : zF d x_La_law 1664 [l0, l1, l2, zi a] st w M Q ↔ zF d x_La_law 1665 [l0, l1, l2, zi a] (zi a :: st) w M Q := zG_loc (zh_La_law 1664 rfl) rfl rfl rfl
set_option maxRecDepth 100000 in
theorem f_La_law_1665 : zF d x_La_law 1665 [l0, l1, l2, l3] st w M Q ↔ zF d x_La_law 1666 [l0, l1, l2, l3] (zi (2) :: st) w M Q := zG_stk (zh_La_law 1665 rfl) rfl rfl
set_option maxRecDepth 100000 in
theorem f_La_law_1666 : zF d x_La_law 1666 [l0, l1, l2, l3] (zi b :: zi a :: st) w M Q ↔ zF d x_La_law 1667 [l0, l1, l2, l3] (zi (a + b) :: st) w M Q := zG_stk (zh_La_law 1666 rfl) rfl rfl
set_option maxRecDepth 100000 in
theorem f_La_law_1667 : zF d x_La_law 1667 [l0, l1, l2, l3] (zi a :: zr k :: st) w M Q ↔ (zA w k 0 (z32 a) ∧ zF d x_La_law 1668 [l0, l1, l2, l3] (zi (M k (z32 a).toNat) :: st) w M Q) := zG_iald (zh_La_law 1667 rfl) rfl
set_option maxRecDepth 100000 in
theorem f_La_law_1668 : zF d x_La_law 1668 [l0, l1, l2, l3] (zi b :: zi a :: zr k :: st) w M Q ↔ (0 < d ∧ zwd st ≤ 8 ∧ ((zsh w k).1 = 0 ∧ (zsh w k).2.1 = 11) ∧ zF (d - 1) x_Mo_makes 0 [zr k, zi a, zi b] [] w M (fun v w' M' => zF d x_La_law 1671 [l0, l1, l2, l3] (v.toList ++ st) w' M' Q)) := zG_callO [zi b, zi a] (.inl rfl) (zh_La_law 1668 rfl) rfl rfl rfl (by rw [zm_Mo_makes]; rfl) (by rw [zm_Mo_makes]; rfl) rfl
set_option maxRecDepth 100000 in
theorem f_La_law_1671 : zF d x_La_law 1671 [l0, l1, l2, l3] (zi b :: zi a :: st) w M Q ↔ (if z32 a = z32 b then zF d x_La_law 1879 [l0, l1, l2, l3] st w M Q else zF d x_La_law 1674 [l0, l1, l2, l3] st w M Q) := zG_ifP (zh_La_law 1671 rfl) rfl rfl rfl decide_eq_true_iff
set_option maxRecDepth 100000 in
theorem f_La_law_1674 : zF d x_La_law 1674 [l0, l1, l2, l3] st w M Q ↔ zF d x_La_law 1675 [l0, l1, l2, l3] (zi (0) :: st) w M Q := zG_stk (zh_La_law 1674 rfl) rfl rfl
set_option maxRecDepth 100000 in
theorem f_La_law_1675 : zF d x_La_law 1675 [l0, l1, l2, l3] [zi a] w M Q ↔ ((a = 0 ∨ a = 1) ∧ Q (some (zi a)) w M) := zG_prR (zh_La_law 1675 rfl) zb_La_law
set_option maxRecDepth 100000 in
theorem f_La_law_1676 : zF d x_La_law 1676 [l0, zr k, l2, l3] st w M Q ↔ zF d x_La_law 1677 [l0, zr k, l2, l3] (zr k :: st) w M Q := zG_loc (zh_La_law 1676 rfl) rfl rfl rfl
set_option maxRecDepth 100000 in
theorem f_La_law_1677 : zF d x_La_law 1677 [zr k, l1, l2, l3] st w M Q ↔ zF d x_La_law 1678 [zr k, l1, l2, l3] (zr k :: st) w M Q := zG_loc (zh_La_law 1677 rfl) rfl rfl rfl
set_option maxRecDepth 100000 in
theorem f_La_law_1678 : zF d x_La_law 1678 [l0, l1, l2, zi a] st w M Q ↔ zF d x_La_law 1679 [l0, l1, l2, zi a] (zi a :: st) w M Q := zG_loc (zh_La_law 1678 rfl) rfl rfl rfl
set_option maxRecDepth 100000 in
theorem f_La_law_1679 : zF d x_La_law 1679 [l0, l1, l2, l3] st w M Q ↔ zF d x_La_law 1680 [l0, l1, l2, l3] (zi (1) :: st) w M Q := zG_stk (zh_La_law 1679 rfl) rfl rfl
set_option maxRecDepth 100000 in
theorem f_La_law_1680 : zF d x_La_law 1680 [l0, l1, l2, l3] (zi b :: zi a :: st) w M Q ↔ zF d x_La_law 1681 [l0, l1, l2, l3] (zi (a + b) :: st) w M Q := zG_stk (zh_La_law 1680 rfl) rfl rfl
set_option maxRecDepth 100000 in
theorem f_La_law_1681 : zF d x_La_law 1681 [l0, l1, l2, l3] (zi a :: zr k :: st) w M Q ↔ (zA w k 0 (z32 a) ∧ zF d x_La_law 1682 [l0, l1, l2, l3] (zi (M k (z32 a).toNat) :: st) w M Q) := zG_iald (zh_La_law 1681 rfl) rfl
set_option maxRecDepth 100000 in
theorem f_La_law_1682 : zF d x_La_law 1682 [zr k, l1, l2, l3] st w M Q ↔ zF d x_La_law 1683 [zr k, l1, l2, l3] (zr k :: st) w M Q := zG_loc (zh_La_law 1682 rfl) rfl rfl rfl
set_option maxRecDepth 100000 in
theorem f_La_law_1683 : zF d x_La_law 1683 [l0, l1, l2, zi a] st w M Q ↔ zF d x_La_law 1684 [l0, l1, l2, zi a] (zi a :: st) w M Q := zG_loc (zh_La_law 1683 rfl) rfl rfl rfl
set_option maxRecDepth 100000 in
theorem f_La_law_1684 : zF d x_La_law 1684 [l0, l1, l2, l3] st w M Q ↔ zF d x_La_law 1685 [l0, l1, l2, l3] (zi (2) :: st) w M Q := zG_stk (zh_La_law 1684 rfl) rfl rfl
set_option maxRecDepth 100000 in
theorem f_La_law_1685 : zF d x_La_law 1685 [l0, l1, l2, l3] (zi b :: zi a :: st) w M Q ↔ zF d x_La_law 1686 [l0, l1, l2, l3] (zi (a + b) :: st) w M Q := zG_stk (zh_La_law 1685 rfl) rfl rfl
set_option maxRecDepth 100000 in
theorem f_La_law_1686 : zF d x_La_law 1686 [l0, l1, l2, l3] (zi a :: zr k :: st) w M Q ↔ (zA w k 0 (z32 a) ∧ zF d x_La_law 1687 [l0, l1, l2, l3] (zi (M k (z32 a).toNat) :: st) w M Q) := zG_iald (zh_La_law 1686 rfl) rfl
set_option maxRecDepth 100000 in
theorem f_La_law_1687 : zF d x_La_law 1687 [l0, l1, l2, l3] (zi a :: st) w M Q ↔ (if z32 a = 0 then zF d x_La_law 1694 [l0, l1, l2, l3] st w M Q else zF d x_La_law 1690 [l0, l1, l2, l3] st w M Q) := zG_ifP (zh_La_law 1687 rfl) rfl rfl rfl decide_eq_true_iff
set_option maxRecDepth 100000 in
theorem f_La_law_1690 : zF d x_La_law 1690 [l0, l1, l2, l3] st w M Q ↔ zF d x_La_law 1691 [l0, l1, l2, l3] (zi (1) :: st) w M Q := zG_stk (zh_La_law 1690 rfl) rfl rfl
set_option maxRecDepth 100000 in
theorem f_La_law_1691 : zF d x_La_law 1691 [l0, l1, l2, l3] st w M Q ↔ zF d x_La_law 1695 [l0, l1, l2, l3] st w M Q := zG_br (zh_La_law 1691 rfl) rfl rfl rfl
set_option maxRecDepth 100000 in
theorem f_La_law_1694 : zF d x_La_law 1694 [l0, l1, l2, l3] st w M Q ↔ zF d x_La_law 1695 [l0, l1, l2, l3] (zi (0) :: st) w M Q := zG_stk (zh_La_law 1694 rfl) rfl rfl
set_option maxRecDepth 100000 in
theorem f_La_law_1695 : zF d x_La_law 1695 [l0, l1, l2, l3] (zi b :: zi a :: zr k :: st) w M Q ↔ (0 < d ∧ zwd st ≤ 8 ∧ ((zsh w k).1 = 0 ∧ (zsh w k).2.1 = 10) ∧ zF (d - 1) x_We_reads 0 [zr k, zi a, zi b, zt] [] w M (fun v w' M' => zF d x_La_law 1698 [l0, l1, l2, l3] (v.toList ++ st) w' M' Q)) := zG_callO [zi b, zi a] (.inl rfl) (zh_La_law 1695 rfl) rfl rfl rfl (by rw [zm_We_reads]; rfl) (by rw [zm_We_reads]; rfl) rfl
set_option maxRecDepth 100000 in
theorem f_La_law_1698 : zF d x_La_law 1698 [l0, l1, zr k, l3] st w M Q ↔ zF d x_La_law 1699 [l0, l1, zr k, l3] (zr k :: st) w M Q := zG_loc (zh_La_law 1698 rfl) rfl rfl rfl
set_option maxRecDepth 100000 in
theorem f_La_law_1699 : zF d x_La_law 1699 [zr k, l1, l2, l3] st w M Q ↔ zF d x_La_law 1700 [zr k, l1, l2, l3] (zr k :: st) w M Q := zG_loc (zh_La_law 1699 rfl) rfl rfl rfl
set_option maxRecDepth 100000 in
theorem f_La_law_1700 : zF d x_La_law 1700 [l0, l1, l2, zi a] st w M Q ↔ zF d x_La_law 1701 [l0, l1, l2, zi a] (zi a :: st) w M Q := zG_loc (zh_La_law 1700 rfl) rfl rfl rfl
set_option maxRecDepth 100000 in
theorem f_La_law_1701 : zF d x_La_law 1701 [l0, l1, l2, l3] st w M Q ↔ zF d x_La_law 1702 [l0, l1, l2, l3] (zi (1) :: st) w M Q := zG_stk (zh_La_law 1701 rfl) rfl rfl
set_option maxRecDepth 100000 in
theorem f_La_law_1702 : zF d x_La_law 1702 [l0, l1, l2, l3] (zi b :: zi a :: st) w M Q ↔ zF d x_La_law 1703 [l0, l1, l2, l3] (zi (a + b) :: st) w M Q := zG_stk (zh_La_law 1702 rfl) rfl rfl
set_option maxRecDepth 100000 in
theorem f_La_law_1703 : zF d x_La_law 1703 [l0, l1, l2, l3] (zi a :: zr k :: st) w M Q ↔ (zA w k 0 (z32 a) ∧ zF d x_La_law 1704 [l0, l1, l2, l3] (zi (M k (z32 a).toNat) :: st) w M Q) := zG_iald (zh_La_law 1703 rfl) rfl
set_option maxRecDepth 100000 in
theorem f_La_law_1704 : zF d x_La_law 1704 [zr k, l1, l2, l3] st w M Q ↔ zF d x_La_law 1705 [zr k, l1, l2, l3] (zr k :: st) w M Q := zG_loc (zh_La_law 1704 rfl) rfl rfl rfl
set_option maxRecDepth 100000 in
theorem f_La_law_1705 : zF d x_La_law 1705 [l0, l1, l2, zi a] st w M Q ↔ zF d x_La_law 1706 [l0, l1, l2, zi a] (zi a :: st) w M Q := zG_loc (zh_La_law 1705 rfl) rfl rfl rfl
set_option maxRecDepth 100000 in
theorem f_La_law_1706 : zF d x_La_law 1706 [l0, l1, l2, l3] st w M Q ↔ zF d x_La_law 1707 [l0, l1, l2, l3] (zi (2) :: st) w M Q := zG_stk (zh_La_law 1706 rfl) rfl rfl
set_option maxRecDepth 100000 in
theorem f_La_law_1707 : zF d x_La_law 1707 [l0, l1, l2, l3] (zi b :: zi a :: st) w M Q ↔ zF d x_La_law 1708 [l0, l1, l2, l3] (zi (a + b) :: st) w M Q := zG_stk (zh_La_law 1707 rfl) rfl rfl
set_option maxRecDepth 100000 in
theorem f_La_law_1708 : zF d x_La_law 1708 [l0, l1, l2, l3] (zi a :: zr k :: st) w M Q ↔ (zA w k 0 (z32 a) ∧ zF d x_La_law 1709 [l0, l1, l2, l3] (zi (M k (z32 a).toNat) :: st) w M Q) := zG_iald (zh_La_law 1708 rfl) rfl
set_option maxRecDepth 100000 in
theorem f_La_law_1709 : zF d x_La_law 1709 [l0, l1, l2, l3] (zi a :: st) w M Q ↔ (if z32 a = 0 then zF d x_La_law 1716 [l0, l1, l2, l3] st w M Q else zF d x_La_law 1712 [l0, l1, l2, l3] st w M Q) := zG_ifP (zh_La_law 1709 rfl) rfl rfl rfl decide_eq_true_iff
set_option maxRecDepth 100000 in
theorem f_La_law_1712 : zF d x_La_law 1712 [l0, l1, l2, l3] st w M Q ↔ zF d x_La_law 1713 [l0, l1, l2, l3] (zi (1) :: st) w M Q := zG_stk (zh_La_law 1712 rfl) rfl rfl
set_option maxRecDepth 100000 in
theorem f_La_law_1713 : zF d x_La_law 1713 [l0, l1, l2, l3] st w M Q ↔ zF d x_La_law 1717 [l0, l1, l2, l3] st w M Q := zG_br (zh_La_law 1713 rfl) rfl rfl rfl
set_option maxRecDepth 100000 in
theorem f_La_law_1716 : zF d x_La_law 1716 [l0, l1, l2, l3] st w M Q ↔ zF d x_La_law 1717 [l0, l1, l2, l3] (zi (0) :: st) w M Q := zG_stk (zh_La_law 1716 rfl) rfl rfl
set_option maxRecDepth 100000 in
theorem f_La_law_1717 : zF d x_La_law 1717 [l0, l1, l2, l3] (zi b :: zi a :: zr k :: st) w M Q ↔ (0 < d ∧ zwd st ≤ 8 ∧ ((zsh w k).1 = 0 ∧ (zsh w k).2.1 = 11) ∧ zF (d - 1) x_Mo_reads 0 [zr k, zi a, zi b, zt] [] w M (fun v w' M' => zF d x_La_law 1720 [l0, l1, l2, l3] (v.toList ++ st) w' M' Q)) := zG_callO [zi b, zi a] (.inl rfl) (zh_La_law 1717 rfl) rfl rfl rfl (by rw [zm_Mo_reads]; rfl) (by rw [zm_Mo_reads]; rfl) rfl
set_option maxRecDepth 100000 in
theorem f_La_law_1720 : zF d x_La_law 1720 [l0, l1, l2, l3] (zi b :: zi a :: st) w M Q ↔ (if z32 a = z32 b then zF d x_La_law 1879 [l0, l1, l2, l3] st w M Q else zF d x_La_law 1723 [l0, l1, l2, l3] st w M Q) := zG_ifP (zh_La_law 1720 rfl) rfl rfl rfl decide_eq_true_iff
set_option maxRecDepth 100000 in
theorem f_La_law_1723 : zF d x_La_law 1723 [l0, l1, l2, l3] st w M Q ↔ zF d x_La_law 1724 [l0, l1, l2, l3] (zi (0) :: st) w M Q := zG_stk (zh_La_law 1723 rfl) rfl rfl
set_option maxRecDepth 100000 in
theorem f_La_law_1724 : zF d x_La_law 1724 [l0, l1, l2, l3] [zi a] w M Q ↔ ((a = 0 ∨ a = 1) ∧ Q (some (zi a)) w M) := zG_prR (zh_La_law 1724 rfl) zb_La_law
set_option maxRecDepth 100000 in
theorem f_La_law_1725 : zF d x_La_law 1725 [l0, zr k, l2, l3] st w M Q ↔ zF d x_La_law 1726 [l0, zr k, l2, l3] (zr k :: st) w M Q := zG_loc (zh_La_law 1725 rfl) rfl rfl rfl
set_option maxRecDepth 100000 in
theorem f_La_law_1726 : zF d x_La_law 1726 [zr k, l1, l2, l3] st w M Q ↔ zF d x_La_law 1727 [zr k, l1, l2, l3] (zr k :: st) w M Q := zG_loc (zh_La_law 1726 rfl) rfl rfl rfl
set_option maxRecDepth 100000 in
theorem f_La_law_1727 : zF d x_La_law 1727 [l0, l1, l2, zi a] st w M Q ↔ zF d x_La_law 1728 [l0, l1, l2, zi a] (zi a :: st) w M Q := zG_loc (zh_La_law 1727 rfl) rfl rfl rfl
set_option maxRecDepth 100000 in
theorem f_La_law_1728 : zF d x_La_law 1728 [l0, l1, l2, l3] st w M Q ↔ zF d x_La_law 1729 [l0, l1, l2, l3] (zi (1) :: st) w M Q := zG_stk (zh_La_law 1728 rfl) rfl rfl
set_option maxRecDepth 100000 in
theorem f_La_law_1729 : zF d x_La_law 1729 [l0, l1, l2, l3] (zi b :: zi a :: st) w M Q ↔ zF d x_La_law 1730 [l0, l1, l2, l3] (zi (a + b) :: st) w M Q := zG_stk (zh_La_law 1729 rfl) rfl rfl
set_option maxRecDepth 100000 in
theorem f_La_law_1730 : zF d x_La_law 1730 [l0, l1, l2, l3] (zi a :: zr k :: st) w M Q ↔ (zA w k 0 (z32 a) ∧ zF d x_La_law 1731 [l0, l1, l2, l3] (zi (M k (z32 a).toNat) :: st) w M Q) := zG_iald (zh_La_law 1730 rfl) rfl
set_option maxRecDepth 100000 in
theorem f_La_law_1731 : zF d x_La_law 1731 [l0, l1, l2, l3] (zi a :: zr k :: st) w M Q ↔ (0 < d ∧ zwd st ≤ 8 ∧ ((zsh w k).1 = 0 ∧ (zsh w k).2.1 = 10) ∧ zF (d - 1) x_We_agree 0 [zr k, zi a] [] w M (fun v w' M' => zF d x_La_law 1734 [l0, l1, l2, l3] (v.toList ++ st) w' M' Q)) := zG_callO [zi a] (.inl rfl) (zh_La_law 1731 rfl) rfl rfl rfl (by rw [zm_We_agree]; rfl) (by rw [zm_We_agree]; rfl) rfl
set_option maxRecDepth 100000 in
theorem f_La_law_1734 : zF d x_La_law 1734 [l0, l1, zr k, l3] st w M Q ↔ zF d x_La_law 1735 [l0, l1, zr k, l3] (zr k :: st) w M Q := zG_loc (zh_La_law 1734 rfl) rfl rfl rfl
set_option maxRecDepth 100000 in
theorem f_La_law_1735 : zF d x_La_law 1735 [zr k, l1, l2, l3] st w M Q ↔ zF d x_La_law 1736 [zr k, l1, l2, l3] (zr k :: st) w M Q := zG_loc (zh_La_law 1735 rfl) rfl rfl rfl
set_option maxRecDepth 100000 in
theorem f_La_law_1736 : zF d x_La_law 1736 [l0, l1, l2, zi a] st w M Q ↔ zF d x_La_law 1737 [l0, l1, l2, zi a] (zi a :: st) w M Q := zG_loc (zh_La_law 1736 rfl) rfl rfl rfl
set_option maxRecDepth 100000 in
theorem f_La_law_1737 : zF d x_La_law 1737 [l0, l1, l2, l3] st w M Q ↔ zF d x_La_law 1738 [l0, l1, l2, l3] (zi (1) :: st) w M Q := zG_stk (zh_La_law 1737 rfl) rfl rfl
set_option maxRecDepth 100000 in
theorem f_La_law_1738 : zF d x_La_law 1738 [l0, l1, l2, l3] (zi b :: zi a :: st) w M Q ↔ zF d x_La_law 1739 [l0, l1, l2, l3] (zi (a + b) :: st) w M Q := zG_stk (zh_La_law 1738 rfl) rfl rfl
set_option maxRecDepth 100000 in
theorem f_La_law_1739 : zF d x_La_law 1739 [l0, l1, l2, l3] (zi a :: zr k :: st) w M Q ↔ (zA w k 0 (z32 a) ∧ zF d x_La_law 1740 [l0, l1, l2, l3] (zi (M k (z32 a).toNat) :: st) w M Q) := zG_iald (zh_La_law 1739 rfl) rfl
set_option maxRecDepth 100000 in
theorem f_La_law_1740 : zF d x_La_law 1740 [l0, l1, l2, l3] (zi a :: zr k :: st) w M Q ↔ (0 < d ∧ zwd st ≤ 8 ∧ ((zsh w k).1 = 0 ∧ (zsh w k).2.1 = 11) ∧ zF (d - 1) x_Mo_agree 0 [zr k, zi a, zt, zt] [] w M (fun v w' M' => zF d x_La_law 1743 [l0, l1, l2, l3] (v.toList ++ st) w' M' Q)) := zG_callO [zi a] (.inl rfl) (zh_La_law 1740 rfl) rfl rfl rfl (by rw [zm_Mo_agree]; rfl) (by rw [zm_Mo_agree]; rfl) rfl
set_option maxRecDepth 100000 in
theorem f_La_law_1743 : zF d x_La_law 1743 [l0, l1, l2, l3] (zi b :: zi a :: st) w M Q ↔ (if z32 a = z32 b then zF d x_La_law 1879 [l0, l1, l2, l3] st w M Q else zF d x_La_law 1746 [l0, l1, l2, l3] st w M Q) := zG_ifP (zh_La_law 1743 rfl) rfl rfl rfl decide_eq_true_iff
set_option maxRecDepth 100000 in
theorem f_La_law_1746 : zF d x_La_law 1746 [l0, l1, l2, l3] st w M Q ↔ zF d x_La_law 1747 [l0, l1, l2, l3] (zi (0) :: st) w M Q := zG_stk (zh_La_law 1746 rfl) rfl rfl
set_option maxRecDepth 100000 in
theorem f_La_law_1747 : zF d x_La_law 1747 [l0, l1, l2, l3] [zi a] w M Q ↔ ((a = 0 ∨ a = 1) ∧ Q (some (zi a)) w M) := zG_prR (zh_La_law 1747 rfl) zb_La_law
set_option maxRecDepth 100000 in
theorem f_La_law_1748 : zF d x_La_law 1748 [l0, zr k, l2, l3] st w M Q ↔ zF d x_La_law 1749 [l0, zr k, l2, l3] (zr k :: st) w M Q := zG_loc (zh_La_law 1748 rfl) rfl rfl rfl
set_option maxRecDepth 100000 in
theorem f_La_law_1749 : zF d x_La_law 1749 [zr k, l1, l2, l3] st w M Q ↔ zF d x_La_law 1750 [zr k, l1, l2, l3] (zr k :: st) w M Q := zG_loc (zh_La_law 1749 rfl) rfl rfl rfl
set_option maxRecDepth 100000 in
theorem f_La_law_1750 : zF d x_La_law 1750 [l0, l1, l2, zi a] st w M Q ↔ zF d x_La_law 1751 [l0, l1, l2, zi a] (zi a :: st) w M Q := zG_loc (zh_La_law 1750 rfl) rfl rfl rfl
set_option maxRecDepth 100000 in
theorem f_La_law_1751 : zF d x_La_law 1751 [l0, l1, l2, l3] st w M Q ↔ zF d x_La_law 1752 [l0, l1, l2, l3] (zi (1) :: st) w M Q := zG_stk (zh_La_law 1751 rfl) rfl rfl
set_option maxRecDepth 100000 in
theorem f_La_law_1752 : zF d x_La_law 1752 [l0, l1, l2, l3] (zi b :: zi a :: st) w M Q ↔ zF d x_La_law 1753 [l0, l1, l2, l3] (zi (a + b) :: st) w M Q := zG_stk (zh_La_law 1752 rfl) rfl rfl
set_option maxRecDepth 100000 in
theorem f_La_law_1753 : zF d x_La_law 1753 [l0, l1, l2, l3] (zi a :: zr k :: st) w M Q ↔ (zA w k 0 (z32 a) ∧ zF d x_La_law 1754 [l0, l1, l2, l3] (zi (M k (z32 a).toNat) :: st) w M Q) := zG_iald (zh_La_law 1753 rfl) rfl
set_option maxRecDepth 100000 in
theorem f_La_law_1754 : zF d x_La_law 1754 [zr k, l1, l2, l3] st w M Q ↔ zF d x_La_law 1755 [zr k, l1, l2, l3] (zr k :: st) w M Q := zG_loc (zh_La_law 1754 rfl) rfl rfl rfl
set_option maxRecDepth 100000 in
theorem f_La_law_1755 : zF d x_La_law 1755 [l0, l1, l2, zi a] st w M Q ↔ zF d x_La_law 1756 [l0, l1, l2, zi a] (zi a :: st) w M Q := zG_loc (zh_La_law 1755 rfl) rfl rfl rfl
set_option maxRecDepth 100000 in
theorem f_La_law_1756 : zF d x_La_law 1756 [l0, l1, l2, l3] st w M Q ↔ zF d x_La_law 1757 [l0, l1, l2, l3] (zi (2) :: st) w M Q := zG_stk (zh_La_law 1756 rfl) rfl rfl
set_option maxRecDepth 100000 in
theorem f_La_law_1757 : zF d x_La_law 1757 [l0, l1, l2, l3] (zi b :: zi a :: st) w M Q ↔ zF d x_La_law 1758 [l0, l1, l2, l3] (zi (a + b) :: st) w M Q := zG_stk (zh_La_law 1757 rfl) rfl rfl
set_option maxRecDepth 100000 in
theorem f_La_law_1758 : zF d x_La_law 1758 [l0, l1, l2, l3] (zi a :: zr k :: st) w M Q ↔ (zA w k 0 (z32 a) ∧ zF d x_La_law 1759 [l0, l1, l2, l3] (zi (M k (z32 a).toNat) :: st) w M Q) := zG_iald (zh_La_law 1758 rfl) rfl
set_option maxRecDepth 100000 in
theorem f_La_law_1759 : zF d x_La_law 1759 [l0, l1, l2, l3] (zi b :: zi a :: zr k :: st) w M Q ↔ (0 < d ∧ zwd st ≤ 8 ∧ ((zsh w k).1 = 0 ∧ (zsh w k).2.1 = 10) ∧ zF (d - 1) x_We_told 0 [zr k, zi a, zi b] [] w M (fun v w' M' => zF d x_La_law 1762 [l0, l1, l2, l3] (v.toList ++ st) w' M' Q)) := zG_callO [zi b, zi a] (.inl rfl) (zh_La_law 1759 rfl) rfl rfl rfl (by rw [zm_We_told]; rfl) (by rw [zm_We_told]; rfl) rfl
set_option maxRecDepth 100000 in
theorem f_La_law_1762 : zF d x_La_law 1762 [l0, l1, zr k, l3] st w M Q ↔ zF d x_La_law 1763 [l0, l1, zr k, l3] (zr k :: st) w M Q := zG_loc (zh_La_law 1762 rfl) rfl rfl rfl
set_option maxRecDepth 100000 in
theorem f_La_law_1763 : zF d x_La_law 1763 [zr k, l1, l2, l3] st w M Q ↔ zF d x_La_law 1764 [zr k, l1, l2, l3] (zr k :: st) w M Q := zG_loc (zh_La_law 1763 rfl) rfl rfl rfl
set_option maxRecDepth 100000 in
theorem f_La_law_1764 : zF d x_La_law 1764 [l0, l1, l2, zi a] st w M Q ↔ zF d x_La_law 1765 [l0, l1, l2, zi a] (zi a :: st) w M Q := zG_loc (zh_La_law 1764 rfl) rfl rfl rfl
set_option maxRecDepth 100000 in
theorem f_La_law_1765 : zF d x_La_law 1765 [l0, l1, l2, l3] st w M Q ↔ zF d x_La_law 1766 [l0, l1, l2, l3] (zi (1) :: st) w M Q := zG_stk (zh_La_law 1765 rfl) rfl rfl
set_option maxRecDepth 100000 in
theorem f_La_law_1766 : zF d x_La_law 1766 [l0, l1, l2, l3] (zi b :: zi a :: st) w M Q ↔ zF d x_La_law 1767 [l0, l1, l2, l3] (zi (a + b) :: st) w M Q := zG_stk (zh_La_law 1766 rfl) rfl rfl
set_option maxRecDepth 100000 in
theorem f_La_law_1767 : zF d x_La_law 1767 [l0, l1, l2, l3] (zi a :: zr k :: st) w M Q ↔ (zA w k 0 (z32 a) ∧ zF d x_La_law 1768 [l0, l1, l2, l3] (zi (M k (z32 a).toNat) :: st) w M Q) := zG_iald (zh_La_law 1767 rfl) rfl
set_option maxRecDepth 100000 in
theorem f_La_law_1768 : zF d x_La_law 1768 [zr k, l1, l2, l3] st w M Q ↔ zF d x_La_law 1769 [zr k, l1, l2, l3] (zr k :: st) w M Q := zG_loc (zh_La_law 1768 rfl) rfl rfl rfl
set_option maxRecDepth 100000 in
theorem f_La_law_1769 : zF d x_La_law 1769 [l0, l1, l2, zi a] st w M Q ↔ zF d x_La_law 1770 [l0, l1, l2, zi a] (zi a :: st) w M Q := zG_loc (zh_La_law 1769 rfl) rfl rfl rfl
set_option maxRecDepth 100000 in
theorem f_La_law_1770 : zF d x_La_law 1770 [l0, l1, l2, l3] st w M Q ↔ zF d x_La_law 1771 [l0, l1, l2, l3] (zi (2) :: st) w M Q := zG_stk (zh_La_law 1770 rfl) rfl rfl
set_option maxRecDepth 100000 in
theorem f_La_law_1771 : zF d x_La_law 1771 [l0, l1, l2, l3] (zi b :: zi a :: st) w M Q ↔ zF d x_La_law 1772 [l0, l1, l2, l3] (zi (a + b) :: st) w M Q := zG_stk (zh_La_law 1771 rfl) rfl rfl
set_option maxRecDepth 100000 in
theorem f_La_law_1772 : zF d x_La_law 1772 [l0, l1, l2, l3] (zi a :: zr k :: st) w M Q ↔ (zA w k 0 (z32 a) ∧ zF d x_La_law 1773 [l0, l1, l2, l3] (zi (M k (z32 a).toNat) :: st) w M Q) := zG_iald (zh_La_law 1772 rfl) rfl
set_option maxRecDepth 100000 in
theorem f_La_law_1773 : zF d x_La_law 1773 [l0, l1, l2, l3] (zi b :: zi a :: zr k :: st) w M Q ↔ (0 < d ∧ zwd st ≤ 8 ∧ ((zsh w k).1 = 0 ∧ (zsh w k).2.1 = 11) ∧ zF (d - 1) x_Mo_told 0 [zr k, zi a, zi b, zt, zt, zt] [] w M (fun v w' M' => zF d x_La_law 1776 [l0, l1, l2, l3] (v.toList ++ st) w' M' Q)) := zG_callO [zi b, zi a] (.inl rfl) (zh_La_law 1773 rfl) rfl rfl rfl (by rw [zm_Mo_told]; rfl) (by rw [zm_Mo_told]; rfl) rfl
set_option maxRecDepth 100000 in
theorem f_La_law_1776 : zF d x_La_law 1776 [l0, l1, l2, l3] (zi b :: zi a :: st) w M Q ↔ (if z32 a = z32 b then zF d x_La_law 1879 [l0, l1, l2, l3] st w M Q else zF d x_La_law 1779 [l0, l1, l2, l3] st w M Q) := zG_ifP (zh_La_law 1776 rfl) rfl rfl rfl decide_eq_true_iff
set_option maxRecDepth 100000 in
theorem f_La_law_1779 : zF d x_La_law 1779 [l0, l1, l2, l3] st w M Q ↔ zF d x_La_law 1780 [l0, l1, l2, l3] (zi (0) :: st) w M Q := zG_stk (zh_La_law 1779 rfl) rfl rfl
set_option maxRecDepth 100000 in
theorem f_La_law_1780 : zF d x_La_law 1780 [l0, l1, l2, l3] [zi a] w M Q ↔ ((a = 0 ∨ a = 1) ∧ Q (some (zi a)) w M) := zG_prR (zh_La_law 1780 rfl) zb_La_law
set_option maxRecDepth 100000 in
theorem f_La_law_1781 : zF d x_La_law 1781 [l0, zr k, l2, l3] st w M Q ↔ zF d x_La_law 1782 [l0, zr k, l2, l3] (zr k :: st) w M Q := zG_loc (zh_La_law 1781 rfl) rfl rfl rfl
set_option maxRecDepth 100000 in
theorem f_La_law_1782 : zF d x_La_law 1782 [zr k, l1, l2, l3] st w M Q ↔ zF d x_La_law 1783 [zr k, l1, l2, l3] (zr k :: st) w M Q := zG_loc (zh_La_law 1782 rfl) rfl rfl rfl
set_option maxRecDepth 100000 in
theorem f_La_law_1783 : zF d x_La_law 1783 [l0, l1, l2, zi a] st w M Q ↔ zF d x_La_law 1784 [l0, l1, l2, zi a] (zi a :: st) w M Q := zG_loc (zh_La_law 1783 rfl) rfl rfl rfl
set_option maxRecDepth 100000 in
theorem f_La_law_1784 : zF d x_La_law 1784 [l0, l1, l2, l3] st w M Q ↔ zF d x_La_law 1785 [l0, l1, l2, l3] (zi (1) :: st) w M Q := zG_stk (zh_La_law 1784 rfl) rfl rfl
set_option maxRecDepth 100000 in
theorem f_La_law_1785 : zF d x_La_law 1785 [l0, l1, l2, l3] (zi b :: zi a :: st) w M Q ↔ zF d x_La_law 1786 [l0, l1, l2, l3] (zi (a + b) :: st) w M Q := zG_stk (zh_La_law 1785 rfl) rfl rfl
set_option maxRecDepth 100000 in
theorem f_La_law_1786 : zF d x_La_law 1786 [l0, l1, l2, l3] (zi a :: zr k :: st) w M Q ↔ (zA w k 0 (z32 a) ∧ zF d x_La_law 1787 [l0, l1, l2, l3] (zi (M k (z32 a).toNat) :: st) w M Q) := zG_iald (zh_La_law 1786 rfl) rfl
set_option maxRecDepth 100000 in
theorem f_La_law_1787 : zF d x_La_law 1787 [l0, l1, l2, l3] (zi a :: zr k :: st) w M Q ↔ (0 < d ∧ zwd st ≤ 8 ∧ ((zsh w k).1 = 0 ∧ (zsh w k).2.1 = 10) ∧ zF (d - 1) x_We_next 0 [zr k, zi a] [] w M (fun v w' M' => zF d x_La_law 1790 [l0, l1, l2, l3] (v.toList ++ st) w' M' Q)) := zG_callO [zi a] (.inl rfl) (zh_La_law 1787 rfl) rfl rfl rfl (by rw [zm_We_next]; rfl) (by rw [zm_We_next]; rfl) rfl
set_option maxRecDepth 100000 in
theorem f_La_law_1790 : zF d x_La_law 1790 [l0, l1, zr k, l3] st w M Q ↔ zF d x_La_law 1791 [l0, l1, zr k, l3] (zr k :: st) w M Q := zG_loc (zh_La_law 1790 rfl) rfl rfl rfl
set_option maxRecDepth 100000 in
theorem f_La_law_1791 : zF d x_La_law 1791 [zr k, l1, l2, l3] st w M Q ↔ zF d x_La_law 1792 [zr k, l1, l2, l3] (zr k :: st) w M Q := zG_loc (zh_La_law 1791 rfl) rfl rfl rfl
set_option maxRecDepth 100000 in
theorem f_La_law_1792 : zF d x_La_law 1792 [l0, l1, l2, zi a] st w M Q ↔ zF d x_La_law 1793 [l0, l1, l2, zi a] (zi a :: st) w M Q := zG_loc (zh_La_law 1792 rfl) rfl rfl rfl
set_option maxRecDepth 100000 in
theorem f_La_law_1793 : zF d x_La_law 1793 [l0, l1, l2, l3] st w M Q ↔ zF d x_La_law 1794 [l0, l1, l2, l3] (zi (1) :: st) w M Q := zG_stk (zh_La_law 1793 rfl) rfl rfl
set_option maxRecDepth 100000 in
theorem f_La_law_1794 : zF d x_La_law 1794 [l0, l1, l2, l3] (zi b :: zi a :: st) w M Q ↔ zF d x_La_law 1795 [l0, l1, l2, l3] (zi (a + b) :: st) w M Q := zG_stk (zh_La_law 1794 rfl) rfl rfl
set_option maxRecDepth 100000 in
theorem f_La_law_1795 : zF d x_La_law 1795 [l0, l1, l2, l3] (zi a :: zr k :: st) w M Q ↔ (zA w k 0 (z32 a) ∧ zF d x_La_law 1796 [l0, l1, l2, l3] (zi (M k (z32 a).toNat) :: st) w M Q) := zG_iald (zh_La_law 1795 rfl) rfl
set_option maxRecDepth 100000 in
theorem f_La_law_1796 : zF d x_La_law 1796 [l0, l1, l2, l3] (zi a :: zr k :: st) w M Q ↔ (0 < d ∧ zwd st ≤ 8 ∧ ((zsh w k).1 = 0 ∧ (zsh w k).2.1 = 11) ∧ zF (d - 1) x_Mo_next 0 [zr k, zi a, zt, zt, zt, zt, zt, zt] [] w M (fun v w' M' => zF d x_La_law 1799 [l0, l1, l2, l3] (v.toList ++ st) w' M' Q)) := zG_callO [zi a] (.inl rfl) (zh_La_law 1796 rfl) rfl rfl rfl (by rw [zm_Mo_next]; rfl) (by rw [zm_Mo_next]; rfl) rfl
set_option maxRecDepth 100000 in
theorem f_La_law_1799 : zF d x_La_law 1799 [l0, l1, l2, l3] (zi b :: zi a :: st) w M Q ↔ (if z32 a = z32 b then zF d x_La_law 1879 [l0, l1, l2, l3] st w M Q else zF d x_La_law 1802 [l0, l1, l2, l3] st w M Q) := zG_ifP (zh_La_law 1799 rfl) rfl rfl rfl decide_eq_true_iff
set_option maxRecDepth 100000 in
theorem f_La_law_1802 : zF d x_La_law 1802 [l0, l1, l2, l3] st w M Q ↔ zF d x_La_law 1803 [l0, l1, l2, l3] (zi (0) :: st) w M Q := zG_stk (zh_La_law 1802 rfl) rfl rfl
set_option maxRecDepth 100000 in
theorem f_La_law_1803 : zF d x_La_law 1803 [l0, l1, l2, l3] [zi a] w M Q ↔ ((a = 0 ∨ a = 1) ∧ Q (some (zi a)) w M) := zG_prR (zh_La_law 1803 rfl) zb_La_law
set_option maxRecDepth 100000 in
theorem f_La_law_1804 : zF d x_La_law 1804 [l0, zr k, l2, l3] st w M Q ↔ zF d x_La_law 1805 [l0, zr k, l2, l3] (zr k :: st) w M Q := zG_loc (zh_La_law 1804 rfl) rfl rfl rfl
set_option maxRecDepth 100000 in
theorem f_La_law_1805 : zF d x_La_law 1805 [l0, l1, l2, l3] (zr k :: st) w M Q ↔ (0 < d ∧ zwd st ≤ 8 ∧ ((zsh w k).1 = 0 ∧ (zsh w k).2.1 = 10) ∧ zF (d - 1) x_We_fewest 0 [zr k] [] w M (fun v w' M' => zF d x_La_law 1808 [l0, l1, l2, l3] (v.toList ++ st) w' M' Q)) := zG_callO [] (.inl rfl) (zh_La_law 1805 rfl) rfl rfl rfl (by rw [zm_We_fewest]; rfl) (by rw [zm_We_fewest]; rfl) rfl
set_option maxRecDepth 100000 in
theorem f_La_law_1808 : zF d x_La_law 1808 [l0, l1, zr k, l3] st w M Q ↔ zF d x_La_law 1809 [l0, l1, zr k, l3] (zr k :: st) w M Q := zG_loc (zh_La_law 1808 rfl) rfl rfl rfl
set_option maxRecDepth 100000 in
theorem f_La_law_1809 : zF d x_La_law 1809 [l0, l1, l2, l3] (zr k :: st) w M Q ↔ (0 < d ∧ zwd st ≤ 8 ∧ ((zsh w k).1 = 0 ∧ (zsh w k).2.1 = 11) ∧ zF (d - 1) x_Mo_fewest 0 [zr k, zt] [] w M (fun v w' M' => zF d x_La_law 1812 [l0, l1, l2, l3] (v.toList ++ st) w' M' Q)) := zG_callO [] (.inl rfl) (zh_La_law 1809 rfl) rfl rfl rfl (by rw [zm_Mo_fewest]; rfl) (by rw [zm_Mo_fewest]; rfl) rfl
set_option maxRecDepth 100000 in
theorem f_La_law_1812 : zF d x_La_law 1812 [l0, l1, l2, l3] (zi b :: zi a :: st) w M Q ↔ (if z32 a = z32 b then zF d x_La_law 1879 [l0, l1, l2, l3] st w M Q else zF d x_La_law 1815 [l0, l1, l2, l3] st w M Q) := zG_ifP (zh_La_law 1812 rfl) rfl rfl rfl decide_eq_true_iff
set_option maxRecDepth 100000 in
theorem f_La_law_1815 : zF d x_La_law 1815 [l0, l1, l2, l3] st w M Q ↔ zF d x_La_law 1816 [l0, l1, l2, l3] (zi (0) :: st) w M Q := zG_stk (zh_La_law 1815 rfl) rfl rfl
set_option maxRecDepth 100000 in
theorem f_La_law_1816 : zF d x_La_law 1816 [l0, l1, l2, l3] [zi a] w M Q ↔ ((a = 0 ∨ a = 1) ∧ Q (some (zi a)) w M) := zG_prR (zh_La_law 1816 rfl) zb_La_law
set_option maxRecDepth 100000 in
theorem f_La_law_1817 : zF d x_La_law 1817 [l0, zr k, l2, l3] st w M Q ↔ zF d x_La_law 1818 [l0, zr k, l2, l3] (zr k :: st) w M Q := zG_loc (zh_La_law 1817 rfl) rfl rfl rfl
set_option maxRecDepth 100000 in
theorem f_La_law_1818 : zF d x_La_law 1818 [l0, l1, l2, l3] (zr k :: st) w M Q ↔ (0 < d ∧ zwd st ≤ 8 ∧ ((zsh w k).1 = 0 ∧ (zsh w k).2.1 = 10) ∧ zF (d - 1) x_We_undo 0 [zr k] [] w M (fun v w' M' => zF d x_La_law 1821 [l0, l1, l2, l3] (v.toList ++ st) w' M' Q)) := zG_callO [] (.inl rfl) (zh_La_law 1818 rfl) rfl rfl rfl (by rw [zm_We_undo]; rfl) (by rw [zm_We_undo]; rfl) rfl
set_option maxRecDepth 100000 in
theorem f_La_law_1821 : zF d x_La_law 1821 [l0, l1, zr k, l3] st w M Q ↔ zF d x_La_law 1822 [l0, l1, zr k, l3] (zr k :: st) w M Q := zG_loc (zh_La_law 1821 rfl) rfl rfl rfl
set_option maxRecDepth 100000 in
theorem f_La_law_1822 : zF d x_La_law 1822 [l0, l1, l2, l3] (zr k :: st) w M Q ↔ (0 < d ∧ zwd st ≤ 8 ∧ ((zsh w k).1 = 0 ∧ (zsh w k).2.1 = 11) ∧ zF (d - 1) x_Mo_undo 0 [zr k, zt] [] w M (fun v w' M' => zF d x_La_law 1825 [l0, l1, l2, l3] (v.toList ++ st) w' M' Q)) := zG_callO [] (.inl rfl) (zh_La_law 1822 rfl) rfl rfl rfl (by rw [zm_Mo_undo]; rfl) (by rw [zm_Mo_undo]; rfl) rfl
set_option maxRecDepth 100000 in
theorem f_La_law_1825 : zF d x_La_law 1825 [l0, l1, l2, l3] (zi b :: zi a :: st) w M Q ↔ (if z32 a = z32 b then zF d x_La_law 1879 [l0, l1, l2, l3] st w M Q else zF d x_La_law 1828 [l0, l1, l2, l3] st w M Q) := zG_ifP (zh_La_law 1825 rfl) rfl rfl rfl decide_eq_true_iff
set_option maxRecDepth 100000 in
theorem f_La_law_1828 : zF d x_La_law 1828 [l0, l1, l2, l3] st w M Q ↔ zF d x_La_law 1829 [l0, l1, l2, l3] (zi (0) :: st) w M Q := zG_stk (zh_La_law 1828 rfl) rfl rfl
set_option maxRecDepth 100000 in
theorem f_La_law_1829 : zF d x_La_law 1829 [l0, l1, l2, l3] [zi a] w M Q ↔ ((a = 0 ∨ a = 1) ∧ Q (some (zi a)) w M) := zG_prR (zh_La_law 1829 rfl) zb_La_law
set_option maxRecDepth 100000 in
theorem f_La_law_1830 : zF d x_La_law 1830 [l0, zr k, l2, l3] st w M Q ↔ zF d x_La_law 1831 [l0, zr k, l2, l3] (zr k :: st) w M Q := zG_loc (zh_La_law 1830 rfl) rfl rfl rfl
set_option maxRecDepth 100000 in
theorem f_La_law_1831 : zF d x_La_law 1831 [l0, l1, l2, l3] (zr k :: st) w M Q ↔ (0 < d ∧ zwd st ≤ 8 ∧ ((zsh w k).1 = 0 ∧ (zsh w k).2.1 = 10) ∧ zF (d - 1) x_We_redo 0 [zr k] [] w M (fun v w' M' => zF d x_La_law 1834 [l0, l1, l2, l3] (v.toList ++ st) w' M' Q)) := zG_callO [] (.inl rfl) (zh_La_law 1831 rfl) rfl rfl rfl (by rw [zm_We_redo]; rfl) (by rw [zm_We_redo]; rfl) rfl
set_option maxRecDepth 100000 in
theorem f_La_law_1834 : zF d x_La_law 1834 [l0, l1, zr k, l3] st w M Q ↔ zF d x_La_law 1835 [l0, l1, zr k, l3] (zr k :: st) w M Q := zG_loc (zh_La_law 1834 rfl) rfl rfl rfl
set_option maxRecDepth 100000 in
theorem f_La_law_1835 : zF d x_La_law 1835 [l0, l1, l2, l3] (zr k :: st) w M Q ↔ (0 < d ∧ zwd st ≤ 8 ∧ ((zsh w k).1 = 0 ∧ (zsh w k).2.1 = 11) ∧ zF (d - 1) x_Mo_redo 0 [zr k] [] w M (fun v w' M' => zF d x_La_law 1838 [l0, l1, l2, l3] (v.toList ++ st) w' M' Q)) := zG_callO [] (.inl rfl) (zh_La_law 1835 rfl) rfl rfl rfl (by rw [zm_Mo_redo]; rfl) (by rw [zm_Mo_redo]; rfl) rfl
set_option maxRecDepth 100000 in
theorem f_La_law_1838 : zF d x_La_law 1838 [l0, l1, l2, l3] (zi b :: zi a :: st) w M Q ↔ (if z32 a = z32 b then zF d x_La_law 1879 [l0, l1, l2, l3] st w M Q else zF d x_La_law 1841 [l0, l1, l2, l3] st w M Q) := zG_ifP (zh_La_law 1838 rfl) rfl rfl rfl decide_eq_true_iff
set_option maxRecDepth 100000 in
theorem f_La_law_1841 : zF d x_La_law 1841 [l0, l1, l2, l3] st w M Q ↔ zF d x_La_law 1842 [l0, l1, l2, l3] (zi (0) :: st) w M Q := zG_stk (zh_La_law 1841 rfl) rfl rfl
set_option maxRecDepth 100000 in
theorem f_La_law_1842 : zF d x_La_law 1842 [l0, l1, l2, l3] [zi a] w M Q ↔ ((a = 0 ∨ a = 1) ∧ Q (some (zi a)) w M) := zG_prR (zh_La_law 1842 rfl) zb_La_law
set_option maxRecDepth 100000 in
theorem f_La_law_1843 : zF d x_La_law 1843 [l0, zr k, l2, l3] st w M Q ↔ zF d x_La_law 1844 [l0, zr k, l2, l3] (zr k :: st) w M Q := zG_loc (zh_La_law 1843 rfl) rfl rfl rfl
set_option maxRecDepth 100000 in
theorem f_La_law_1844 : zF d x_La_law 1844 [l0, l1, l2, l3] (zr k :: st) w M Q ↔ (0 < d ∧ zwd st ≤ 8 ∧ ((zsh w k).1 = 0 ∧ (zsh w k).2.1 = 10) ∧ zF (d - 1) x_We_digest 0 [zr k] [] w M (fun v w' M' => zF d x_La_law 1847 [l0, l1, l2, l3] (v.toList ++ st) w' M' Q)) := zG_callO [] (.inl rfl) (zh_La_law 1844 rfl) rfl rfl rfl (by rw [zm_We_digest]; rfl) (by rw [zm_We_digest]; rfl) rfl
set_option maxRecDepth 100000 in
theorem f_La_law_1847 : zF d x_La_law 1847 [l0, l1, zr k, l3] st w M Q ↔ zF d x_La_law 1848 [l0, l1, zr k, l3] (zr k :: st) w M Q := zG_loc (zh_La_law 1847 rfl) rfl rfl rfl
set_option maxRecDepth 100000 in
theorem f_La_law_1848 : zF d x_La_law 1848 [l0, l1, l2, l3] (zr k :: st) w M Q ↔ (0 < d ∧ zwd st ≤ 8 ∧ ((zsh w k).1 = 0 ∧ (zsh w k).2.1 = 11) ∧ zF (d - 1) x_Mo_digest 0 [zr k, zt, zt] [] w M (fun v w' M' => zF d x_La_law 1851 [l0, l1, l2, l3] (v.toList ++ st) w' M' Q)) := zG_callO [] (.inl rfl) (zh_La_law 1848 rfl) rfl rfl rfl (by rw [zm_Mo_digest]; rfl) (by rw [zm_Mo_digest]; rfl) rfl
set_option maxRecDepth 100000 in
theorem f_La_law_1851 : zF d x_La_law 1851 [l0, l1, l2, l3] (zi b :: zi a :: st) w M Q ↔ (if z32 a = z32 b then zF d x_La_law 1879 [l0, l1, l2, l3] st w M Q else zF d x_La_law 1854 [l0, l1, l2, l3] st w M Q) := zG_ifP (zh_La_law 1851 rfl) rfl rfl rfl decide_eq_true_iff
set_option maxRecDepth 100000 in
theorem f_La_law_1854 : zF d x_La_law 1854 [l0, l1, l2, l3] st w M Q ↔ zF d x_La_law 1855 [l0, l1, l2, l3] (zi (0) :: st) w M Q := zG_stk (zh_La_law 1854 rfl) rfl rfl
set_option maxRecDepth 100000 in
theorem f_La_law_1855 : zF d x_La_law 1855 [l0, l1, l2, l3] [zi a] w M Q ↔ ((a = 0 ∨ a = 1) ∧ Q (some (zi a)) w M) := zG_prR (zh_La_law 1855 rfl) zb_La_law
set_option maxRecDepth 100000 in
theorem f_La_law_1856 : zF d x_La_law 1856 [l0, zr k, l2, l3] st w M Q ↔ zF d x_La_law 1857 [l0, zr k, l2, l3] (zr k :: st) w M Q := zG_loc (zh_La_law 1856 rfl) rfl rfl rfl
set_option maxRecDepth 100000 in
theorem f_La_law_1857 : zF d x_La_law 1857 [zr k, l1, l2, l3] st w M Q ↔ zF d x_La_law 1858 [zr k, l1, l2, l3] (zr k :: st) w M Q := zG_loc (zh_La_law 1857 rfl) rfl rfl rfl
set_option maxRecDepth 100000 in
theorem f_La_law_1858 : zF d x_La_law 1858 [l0, l1, l2, zi a] st w M Q ↔ zF d x_La_law 1859 [l0, l1, l2, zi a] (zi a :: st) w M Q := zG_loc (zh_La_law 1858 rfl) rfl rfl rfl
set_option maxRecDepth 100000 in
theorem f_La_law_1859 : zF d x_La_law 1859 [l0, l1, l2, l3] st w M Q ↔ zF d x_La_law 1860 [l0, l1, l2, l3] (zi (1) :: st) w M Q := zG_stk (zh_La_law 1859 rfl) rfl rfl
set_option maxRecDepth 100000 in
theorem f_La_law_1860 : zF d x_La_law 1860 [l0, l1, l2, l3] (zi b :: zi a :: st) w M Q ↔ zF d x_La_law 1861 [l0, l1, l2, l3] (zi (a + b) :: st) w M Q := zG_stk (zh_La_law 1860 rfl) rfl rfl
set_option maxRecDepth 100000 in
theorem f_La_law_1861 : zF d x_La_law 1861 [l0, l1, l2, l3] (zi a :: zr k :: st) w M Q ↔ (zA w k 0 (z32 a) ∧ zF d x_La_law 1862 [l0, l1, l2, l3] (zi (M k (z32 a).toNat) :: st) w M Q) := zG_iald (zh_La_law 1861 rfl) rfl
set_option maxRecDepth 100000 in
theorem f_La_law_1862 : zF d x_La_law 1862 [l0, l1, l2, l3] (zi a :: zr k :: st) w M Q ↔ (0 < d ∧ zwd st ≤ 8 ∧ ((zsh w k).1 = 0 ∧ (zsh w k).2.1 = 10) ∧ zF (d - 1) x_We_about 0 [zr k, zi a] [] w M (fun v w' M' => zF d x_La_law 1865 [l0, l1, l2, l3] (v.toList ++ st) w' M' Q)) := zG_callO [zi a] (.inl rfl) (zh_La_law 1862 rfl) rfl rfl rfl (by rw [zm_We_about]; rfl) (by rw [zm_We_about]; rfl) rfl
set_option maxRecDepth 100000 in
theorem f_La_law_1865 : zF d x_La_law 1865 [l0, l1, zr k, l3] st w M Q ↔ zF d x_La_law 1866 [l0, l1, zr k, l3] (zr k :: st) w M Q := zG_loc (zh_La_law 1865 rfl) rfl rfl rfl
set_option maxRecDepth 100000 in
theorem f_La_law_1866 : zF d x_La_law 1866 [zr k, l1, l2, l3] st w M Q ↔ zF d x_La_law 1867 [zr k, l1, l2, l3] (zr k :: st) w M Q := zG_loc (zh_La_law 1866 rfl) rfl rfl rfl
set_option maxRecDepth 100000 in
theorem f_La_law_1867 : zF d x_La_law 1867 [l0, l1, l2, zi a] st w M Q ↔ zF d x_La_law 1868 [l0, l1, l2, zi a] (zi a :: st) w M Q := zG_loc (zh_La_law 1867 rfl) rfl rfl rfl
set_option maxRecDepth 100000 in
theorem f_La_law_1868 : zF d x_La_law 1868 [l0, l1, l2, l3] st w M Q ↔ zF d x_La_law 1869 [l0, l1, l2, l3] (zi (1) :: st) w M Q := zG_stk (zh_La_law 1868 rfl) rfl rfl
set_option maxRecDepth 100000 in
theorem f_La_law_1869 : zF d x_La_law 1869 [l0, l1, l2, l3] (zi b :: zi a :: st) w M Q ↔ zF d x_La_law 1870 [l0, l1, l2, l3] (zi (a + b) :: st) w M Q := zG_stk (zh_La_law 1869 rfl) rfl rfl
set_option maxRecDepth 100000 in
theorem f_La_law_1870 : zF d x_La_law 1870 [l0, l1, l2, l3] (zi a :: zr k :: st) w M Q ↔ (zA w k 0 (z32 a) ∧ zF d x_La_law 1871 [l0, l1, l2, l3] (zi (M k (z32 a).toNat) :: st) w M Q) := zG_iald (zh_La_law 1870 rfl) rfl
set_option maxRecDepth 100000 in
theorem f_La_law_1871 : zF d x_La_law 1871 [l0, l1, l2, l3] (zi a :: zr k :: st) w M Q ↔ (0 < d ∧ zwd st ≤ 8 ∧ ((zsh w k).1 = 0 ∧ (zsh w k).2.1 = 11) ∧ zF (d - 1) x_Mo_about 0 [zr k, zi a] [] w M (fun v w' M' => zF d x_La_law 1874 [l0, l1, l2, l3] (v.toList ++ st) w' M' Q)) := zG_callO [zi a] (.inl rfl) (zh_La_law 1871 rfl) rfl rfl rfl (by rw [zm_Mo_about]; rfl) (by rw [zm_Mo_about]; rfl) rfl
set_option maxRecDepth 100000 in
theorem f_La_law_1874 : zF d x_La_law 1874 [l0, l1, l2, l3] (zi b :: zi a :: st) w M Q ↔ (if z32 a = z32 b then zF d x_La_law 1879 [l0, l1, l2, l3] st w M Q else zF d x_La_law 1877 [l0, l1, l2, l3] st w M Q) := zG_ifP (zh_La_law 1874 rfl) rfl rfl rfl decide_eq_true_iff
set_option maxRecDepth 100000 in
theorem f_La_law_1877 : zF d x_La_law 1877 [l0, l1, l2, l3] st w M Q ↔ zF d x_La_law 1878 [l0, l1, l2, l3] (zi (0) :: st) w M Q := zG_stk (zh_La_law 1877 rfl) rfl rfl
set_option maxRecDepth 100000 in
theorem f_La_law_1878 : zF d x_La_law 1878 [l0, l1, l2, l3] [zi a] w M Q ↔ ((a = 0 ∨ a = 1) ∧ Q (some (zi a)) w M) := zG_prR (zh_La_law 1878 rfl) zb_La_law
set_option maxRecDepth 100000 in
theorem f_La_law_1879 : zF d x_La_law 1879 [l0, l1, l2, zi a] st w M Q ↔ (znl l2 = true ∧ zF d x_La_law 1882 [l0, l1, l2, zi (a + (7))] st w M Q) := zG_inc (zh_La_law 1879 rfl) rfl rfl rfl rfl rfl rfl rfl
set_option maxRecDepth 100000 in
theorem f_La_law_1882 : zF d x_La_law 1882 [l0, l1, l2, l3] st w M Q ↔ zF d x_La_law 18 [l0, l1, l2, l3] st w M Q := zG_br (zh_La_law 1882 rfl) rfl rfl rfl
set_option maxRecDepth 100000 in
theorem f_La_law_1885 : zF d x_La_law 1885 [l0, l1, l2, l3] st w M Q ↔ zF d x_La_law 1886 [l0, l1, l2, l3] (zi (1) :: st) w M Q := zG_stk (zh_La_law 1885 rfl) rfl rfl
set_option maxRecDepth 100000 in
theorem f_La_law_1886 : zF d x_La_law 1886 [l0, l1, l2, l3] [zi a] w M Q ↔ ((a = 0 ∨ a = 1) ∧ Q (some (zi a)) w M) := zG_prR (zh_La_law 1886 rfl) zb_La_law
end ZFLa
