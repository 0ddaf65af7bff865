/-! The seven contracts. -/
section ZJdk2
variable {l : Launch} {ad : Nat → Nat} {D : va_G} {base : Nat} {Hb : Heap} {w : zW} {M : zM}
set_option maxHeartbeats 4000000 in
theorem cj_Cod {i : Nat} (hi : i < 6) : Met l zjCod.1 (zws zjCod) (zrm 0 0 0) (zPg D ad base Hb [.ref (ad (2 + i))] w M) (zQg D ad base Hb (some (.int 0)) w M) 0 0 (fun a => base ≤ a) := by
  refine Met.ofW (cc := zjCod.2.1) (maxL := 1) (ret := some .byte) (by decide) rfl ?_
  intro p e s m args below meth c s₁ B hml hv
  obtain ⟨rfl, hP, hK⟩ := hv
  have hx := B.exec
  have hb := B.bytes
  have hr := B.returns
  have hts0 := atoms_spec (ws := zws zjCod) B.pre
  have hts : ∀ wd ∈ zTb, wd.before [Value.ref (ad (2 + i))].toArray s = true := fun wd h => hts0 wd (List.mem_cons_of_mem _ h)
  have hown : s.vm.findClass "java/lang/String" = some m.cls := findClass_of_methodNamed B.named
  have hlocks := B.notSynchronized
  have hl := lv_entry ([.ref (ad (2 + i))]) (n := 1) (Nat.le_of_ble_eq_true rfl)
  rw [lg_entry_eq]
  generalize (lg_sl ([Value.ref (ad (2 + i))]) ++ List.replicate (1 - (lg_sl ([Value.ref (ad (2 + i))])).length) Slot.unset).toArray = ls at hl ⊢
  have hl : lv_has ls 1 [(0, .ref (ad (2 + i)))] := hl
  obtain ⟨adV, vF, hvF, hS, hZ, hF⟩ := zj_str hP hK
  refine zj_gets hx hb hZ hown (hts _ (zjw 7 rfl)) dCod_0 ?_
  refine lv_if_eq hx hb dCod_3 (tgt := 13) rfl (fun h => absurd h (by decide)) fun _ => ?_
  refine lv_aload_n hx hb dCod_6 rfl (lv_at hl 0 rfl) ?_
  refine zj_getf hx hb (hS.1 i hi).2.1 hown (hts _ (zjw 8 rfl)) dCod_7 ?_
  refine lv_goto hx hb dCod_10 (tgt := 14) rfl ?_
  exact W.zret (v := 0) (ty := .byte) hx hb hr rfl (fun t ht hW => ⟨rfl, by rw [ht]; exact zHp_moved hW.alike hP⟩) (fun q hq => absurd hq List.not_mem_nil) dCod_14 hlocks
set_option maxHeartbeats 4000000 in
theorem cj_Lat {i : Nat} (hi : i < 6) : Met l zjLat.1 (zws zjLat) (zrm 0 0 0) (zPg D ad base Hb [.ref (ad (2 + i))] w M) (zQg D ad base Hb (some (.int 1)) w M) 0 0 (fun a => base ≤ a) := by
  refine Met.ofW (cc := zjLat.2.1) (maxL := 1) (ret := some .boolean) (by decide) rfl ?_
  intro p e s m args below meth c s₁ B hml hv
  obtain ⟨rfl, hP, hK⟩ := hv
  have hx := B.exec
  have hb := B.bytes
  have hr := B.returns
  have hts0 := atoms_spec (ws := zws zjLat) B.pre
  have hts : ∀ wd ∈ zTb, wd.before [Value.ref (ad (2 + i))].toArray s = true := fun wd h => hts0 wd (List.mem_cons_of_mem _ h)
  have hown : s.vm.findClass "java/lang/String" = some m.cls := findClass_of_methodNamed B.named
  have hlocks := B.notSynchronized
  have hl := lv_entry ([.ref (ad (2 + i))]) (n := 1) (Nat.le_of_ble_eq_true rfl)
  rw [lg_entry_eq]
  generalize (lg_sl ([Value.ref (ad (2 + i))]) ++ List.replicate (1 - (lg_sl ([Value.ref (ad (2 + i))])).length) Slot.unset).toArray = ls at hl ⊢
  have hl : lv_has ls 1 [(0, .ref (ad (2 + i)))] := hl
  obtain ⟨adV, vF, hvF, hS, hZ, hF⟩ := zj_str hP hK
  refine zj_gets hx hb hZ hown (hts _ (zjw 7 rfl)) dLat_0 ?_
  refine lv_if_eq hx hb dLat_3 (tgt := 17) rfl (fun h => absurd h (by decide)) fun _ => ?_
  refine lv_aload_n hx hb dLat_6 rfl (lv_at hl 0 rfl) ?_
  refine zj_getf hx hb (hS.1 i hi).2.1 hown (hts _ (zjw 8 rfl)) dLat_7 ?_
  refine lv_if_ne hx hb dLat_10 (tgt := 17) rfl (fun h => absurd rfl h) fun _ => ?_
  refine lv_iconst hx hb dLat_13 (v := 1) rfl ?_
  refine lv_goto hx hb dLat_14 (tgt := 18) rfl ?_
  exact W.zret (v := 1) (ty := .boolean) hx hb hr rfl (fun t ht hW => ⟨rfl, by rw [ht]; exact zHp_moved hW.alike hP⟩) (fun q hq => absurd hq List.not_mem_nil) dLat_18 hlocks
set_option maxHeartbeats 4000000 in
theorem cj_Len {i : Nat} (hi : i < 6) : Met l zjLen.1 (zws zjLen) (zrm 1 0 0) (zPg D ad base Hb [.ref (ad (2 + i))] w M) (zQg D ad base Hb (some (.int (Int32.ofNat (zsN.getD i 0)))) w M) 0 0 (fun a => base ≤ a) := by
  refine Met.ofW (cc := zjLen.2.1) (maxL := 1) (ret := some .int) (by decide) rfl ?_
  intro p e s m args below meth c s₁ B hml hv
  obtain ⟨rfl, hP, hK⟩ := hv
  have hx := B.exec
  have hb := B.bytes
  have hr := B.returns
  have hts0 := atoms_spec (ws := zws zjLen) B.pre
  have hts : ∀ wd ∈ zTb, wd.before [Value.ref (ad (2 + i))].toArray s = true := fun wd h => hts0 wd (List.mem_cons_of_mem _ h)
  have hown : s.vm.findClass "java/lang/String" = some m.cls := findClass_of_methodNamed B.named
  have hlocks := B.notSynchronized
  have hl := lv_entry ([.ref (ad (2 + i))]) (n := 1) (Nat.le_of_ble_eq_true rfl)
  rw [lg_entry_eq]
  generalize (lg_sl ([Value.ref (ad (2 + i))]) ++ List.replicate (1 - (lg_sl ([Value.ref (ad (2 + i))])).length) Slot.unset).toArray = ls at hl ⊢
  have hl : lv_has ls 1 [(0, .ref (ad (2 + i)))] := hl
  obtain ⟨adV, vF, hvF, hS, hZ, hF⟩ := zj_str hP hK
  refine lv_aload_n hx hb dLen_0 rfl (lv_at hl 0 rfl) ?_
  refine zj_getf hx hb (hS.1 i hi).2.2.1 hown (hts _ (zjw 9 rfl)) dLen_1 ?_
  refine zj_len hx hb (hS.1 i hi).2.2.2 dLen_4 ?_
  refine lv_aload_n hx hb dLen_5 rfl (lv_at hl 0 rfl) ?_
  refine zcallTV (r := zjCod) (d := 0) (As := []) hi (cj_Cod hi) rfl (zjw 1 rfl) (by decide) hx hb hml hown hts hK hP (hts _ (zjw 10 rfl)) (zjw 11 rfl) (zjw 12 rfl) (by decide +kernel) dLen_6 hl.1 (by decide) (by decide) (Nat.zero_le _) (Nat.zero_le _) (Nat.le_of_ble_eq_true rfl) (fun q hq => absurd hq List.not_mem_nil) fun H1 l1 hP1 hl1 => ?_
  refine lv_ishr hx hb dLen_9 ?_
  rw [zjN i hi]
  exact W.iret hx hb hr (fun t ht hW => ⟨rfl, by rw [ht]; exact zHp_moved hW.alike hP1⟩) hl1 dLen_10 hlocks
set_option maxHeartbeats 4000000 in
theorem cj_PreR {x n : Int32} {q : Nat} (h0 : ¬ x < 0) (h1 : x < n) : Met l zjPre.1 (zws zjPre) (zrm 0 0 0) (zPg D ad base Hb [.int x, .int n, .ref q] w M) (zQg D ad base Hb (some (.int x)) w M) 0 0 (fun a => base ≤ a) := by
  refine Met.ofW (cc := zjPre.2.1) (maxL := 3) (ret := some .int) (by decide) rfl ?_
  intro p e s m args below meth c s₁ B hml hv
  obtain ⟨rfl, hP, hK⟩ := hv
  have hx := B.exec
  have hb := B.bytes
  have hr := B.returns
  have hlocks := B.notSynchronized
  have hl := lv_entry ([.int x, .int n, .ref q]) (n := 3) (Nat.le_of_ble_eq_true rfl)
  rw [lg_entry_eq]
  generalize (lg_sl ([Value.int x, .int n, .ref q]) ++ List.replicate (3 - (lg_sl ([Value.int x, .int n, .ref q])).length) Slot.unset).toArray = ls at hl ⊢
  have hl : lv_has ls 3 [(0, .int x), (1, .int n), (2, .ref q)] := hl
  refine lv_iload_n hx hb dPre_0 rfl (lv_at hl 0 rfl) ?_
  refine lv_if_lt hx hb dPre_1 (tgt := 9) rfl (fun h => absurd h h0) fun _ => ?_
  refine lv_iload_n hx hb dPre_4 rfl (lv_at hl 0 rfl) ?_
  refine lv_iload_n hx hb dPre_5 rfl (lv_at hl 1 rfl) ?_
  refine lv_icmp_lt hx hb dPre_6 (tgt := 16) rfl (fun _ => ?_) (fun h => absurd h1 h)
  refine lv_iload_n hx hb dPre_16 rfl (lv_at hl 0 rfl) ?_
  exact W.iret hx hb hr (fun t ht hW => ⟨rfl, by rw [ht]; exact zHp_moved hW.alike hP⟩) (fun q hq => absurd hq List.not_mem_nil) dPre_17 hlocks
set_option maxHeartbeats 4000000 in
theorem cj_PreN {x n : Int32} (h0 : ¬ x < 0) (h1 : x < n) : Met l zjPre.1 (zws zjPre) (zrm 0 0 0) (zPg D ad base Hb [.int x, .int n, .null] w M) (zQg D ad base Hb (some (.int x)) w M) 0 0 (fun a => base ≤ a) := by
  refine Met.ofW (cc := zjPre.2.1) (maxL := 3) (ret := some .int) (by decide) rfl ?_
  intro p e s m args below meth c s₁ B hml hv
  obtain ⟨rfl, hP, hK⟩ := hv
  have hx := B.exec
  have hb := B.bytes
  have hr := B.returns
  have hlocks := B.notSynchronized
  have hl := lv_entry ([.int x, .int n, .null]) (n := 3) (Nat.le_of_ble_eq_true rfl)
  rw [lg_entry_eq]
  generalize (lg_sl ([Value.int x, .int n, .null]) ++ List.replicate (3 - (lg_sl ([Value.int x, .int n, .null])).length) Slot.unset).toArray = ls at hl ⊢
  have hl : lv_has ls 3 [(0, .int x), (1, .int n), (2, .null)] := hl
  refine lv_iload_n hx hb dPre_0 rfl (lv_at hl 0 rfl) ?_
  refine lv_if_lt hx hb dPre_1 (tgt := 9) rfl (fun h => absurd h h0) fun _ => ?_
  refine lv_iload_n hx hb dPre_4 rfl (lv_at hl 0 rfl) ?_
  refine lv_iload_n hx hb dPre_5 rfl (lv_at hl 1 rfl) ?_
  refine lv_icmp_lt hx hb dPre_6 (tgt := 16) rfl (fun _ => ?_) (fun h => absurd h1 h)
  refine lv_iload_n hx hb dPre_16 rfl (lv_at hl 0 rfl) ?_
  exact W.iret hx hb hr (fun t ht hW => ⟨rfl, by rw [ht]; exact zHp_moved hW.alike hP⟩) (fun q hq => absurd hq List.not_mem_nil) dPre_17 hlocks
theorem cj_Pre {x n : Int32} {v : Value} (hv : v.isRef = true) (h0 : ¬ x < 0) (h1 : x < n) : Met l zjPre.1 (zws zjPre) (zrm 0 0 0) (zPg D ad base Hb [.int x, .int n, v] w M) (zQg D ad base Hb (some (.int x)) w M) 0 0 (fun a => base ≤ a) := by
  cases v with
  | ref q => exact cj_PreR h0 h1
  | null => exact cj_PreN h0 h1
  | _ => cases hv
set_option maxHeartbeats 4000000 in
theorem cj_Chk {x n : Int32} (h0 : ¬ x < 0) (h1 : x < n) : Met l zjChk.1 (zws zjChk) (zrm 1 0 0) (zPg D ad base Hb [.int x, .int n] w M) (zQg D ad base Hb none w M) 0 0 (fun a => base ≤ a) := by
  refine Met.ofW (cc := zjChk.2.1) (maxL := 2) (ret := none) (by decide) rfl ?_
  intro p e s m args below meth c s₁ B hml hv
  obtain ⟨rfl, hP, hK⟩ := hv
  have hx := B.exec
  have hb := B.bytes
  have hr := B.returns
  have hts0 := atoms_spec (ws := zws zjChk) B.pre
  have hts : ∀ wd ∈ zTb, wd.before [Value.int x, .int n].toArray s = true := fun wd h => hts0 wd (List.mem_cons_of_mem _ h)
  have hown : s.vm.findClass "java/lang/String" = some m.cls := findClass_of_methodNamed B.named
  have hlocks := B.notSynchronized
  have hl := lv_entry ([.int x, .int n]) (n := 2) (Nat.le_of_ble_eq_true rfl)
  rw [lg_entry_eq]
  generalize (lg_sl ([Value.int x, .int n]) ++ List.replicate (2 - (lg_sl ([Value.int x, .int n])).length) Slot.unset).toArray = ls at hl ⊢
  have hl : lv_has ls 2 [(0, .int x), (1, .int n)] := hl
  obtain ⟨adV, vF, hvF, hS, hZ, hF⟩ := zj_str hP hK
  refine lv_iload_n hx hb dChk_0 rfl (lv_at hl 0 rfl) ?_
  refine lv_iload_n hx hb dChk_1 rfl (lv_at hl 1 rfl) ?_
  refine zj_gets hx hb hF hown (hts _ (zjw 22 rfl)) dChk_2 ?_
  refine zcallTS (r := zjPre) (d := 0) (As := [.int x, .int n, vF]) (rest := []) (cj_Pre hvF h0 h1) (by decide) (zjw 6 rfl) (by decide) hx hb hml hown hts hK hP (zjw 23 rfl) (zjw 24 rfl) (zjw 25 rfl) (show zpar zjPre.1 = some 3 by decide +kernel) dChk_5 hl.1 (by decide) (by decide) (Nat.zero_le _) (Nat.zero_le _) (by decide) (fun q hq => absurd hq List.not_mem_nil) fun H1 l1 hP1 hl1 => ?_
  refine lv_pop hx hb dChk_8 rfl ?_
  exact W.vret hx hb hr (fun t ht hW => ⟨rfl, by rw [ht]; exact zHp_moved hW.alike hP1⟩) hl1 dChk_9 hlocks
set_option maxHeartbeats 4000000 in
theorem cj_Ch1 {i : Nat} (hi : i < 6) {x : Int32} {q : Nat} (h0 : ¬ x < 0) (h1 : x < Int32.ofNat (zsN.getD i 0)) (h2 : x.toNatClampNeg < zsN.getD i 0) : Met l zjCh1.1 (zws zjCh1) (zrm 2 0 0) (zPx D ad base Hb [.ref q, .int x] w M (fun U => va_T .byte q (zsN.getD i 0) (fun j => .int ((zsB.getD i []).getD j 0)) (fun q => base ≤ q) U Hb)) (zQg D ad base Hb (some (.int ((zsB.getD i []).getD x.toNatClampNeg 0))) w M) 0 0 (fun a => base ≤ a) := by
  refine Met.ofW (cc := zjCh1.2.1) (maxL := 2) (ret := some .char) (by decide) rfl ?_
  intro p e s m args below meth c s₁ B hml hv
  obtain ⟨⟨rfl, hP, hK⟩, hT⟩ := hv
  have hq : ∀ H : Heap, zHp D ad base Hb s w M H → ∀ a : Nat, a < Hb.size → ¬ base ≤ a → H[a]? = Hb[a]? := fun H hP a _ h => hP.2.2.2.2.1 a (by omega)
  have hx := B.exec
  have hb := B.bytes
  have hr := B.returns
  have hts0 := atoms_spec (ws := zws zjCh1) B.pre
  have hts : ∀ wd ∈ zTb, wd.before [Value.ref q, .int x].toArray s = true := fun wd h => hts0 wd (List.mem_cons_of_mem _ h)
  have hown : s.vm.findClass "java/lang/StringLatin1" = some m.cls := findClass_of_methodNamed B.named
  have hlocks := B.notSynchronized
  have hl := lv_entry ([.ref q, .int x]) (n := 2) (Nat.le_of_ble_eq_true rfl)
  rw [lg_entry_eq]
  generalize (lg_sl ([Value.ref q, .int x]) ++ List.replicate (2 - (lg_sl ([Value.ref q, .int x])).length) Slot.unset).toArray = ls at hl ⊢
  have hl : lv_has ls 2 [(0, .ref q), (1, .int x)] := hl
  refine lv_iload_n hx hb dCh1_0 rfl (lv_at hl 1 rfl) ?_
  refine lv_aload_n hx hb dCh1_1 rfl (lv_at hl 0 rfl) ?_
  refine zj_len hx hb (hT.kept (hq _ hP)) dCh1_2 ?_
  refine zcallTS (r := zjChk) (d := 1) (As := [.int x, .int (Int32.ofNat (zsN.getD i 0))]) (rest := []) (cj_Chk h0 h1) (by decide) (zjw 4 rfl) (by decide) hx hb hml hown hts hK hP (zjw 20 rfl) (zjw 21 rfl) (zjw 13 rfl) (show zpar zjChk.1 = some 2 by decide +kernel) dCh1_3 hl.1 (by decide) (by decide) (Nat.zero_le _) (Nat.zero_le _) (by decide) (fun q hq => absurd hq List.not_mem_nil) fun H1 l1 hP1 hl1 => ?_
  refine lv_aload_n hx hb dCh1_6 rfl (lv_at hl 0 rfl) ?_
  refine lv_iload_n hx hb dCh1_7 rfl (lv_at hl 1 rfl) ?_
  refine zj_tb hx hb (hT.kept (hq _ hP1)) (fun h => by rcases h with h | h; exact h0 h; omega) dCh1_8 ?_
  refine lv_sipush hx hb dCh1_9 (v := 255) (by decide) ?_
  refine lv_iand hx hb dCh1_12 ?_
  refine lv_i2c hx hb dCh1_13 (zjB i hi _ h2).1 ?_
  exact W.zret (ty := .char) hx hb hr (congrArg Value.int (zjB i hi _ h2).2) (fun t ht hW => ⟨rfl, by rw [ht]; exact zHp_moved hW.alike hP1⟩) hl1 dCh1_14 hlocks
set_option maxHeartbeats 4000000 in
theorem cj_Ch {i : Nat} (hi : i < 6) {x : Int32} (h0 : ¬ x < 0) (h1 : x < Int32.ofNat (zsN.getD i 0)) (h2 : x.toNatClampNeg < zsN.getD i 0) : Met l zjCh.1 (zws zjCh) (zrm 3 0 0) (zPg D ad base Hb [.ref (ad (2 + i)), .int x] w M) (zQg D ad base Hb (some (.int ((zsB.getD i []).getD x.toNatClampNeg 0))) w M) 0 0 (fun a => base ≤ a) := by
  refine Met.ofW (cc := zjCh.2.1) (maxL := 2) (ret := some .char) (by decide) rfl ?_
  intro p e s m args below meth c s₁ B hml hv
  obtain ⟨rfl, hP, hK⟩ := hv
  have hx := B.exec
  have hb := B.bytes
  have hr := B.returns
  have hts0 := atoms_spec (ws := zws zjCh) B.pre
  have hts : ∀ wd ∈ zTb, wd.before [Value.ref (ad (2 + i)), .int x].toArray s = true := fun wd h => hts0 wd (List.mem_cons_of_mem _ h)
  have hown : s.vm.findClass "java/lang/String" = some m.cls := findClass_of_methodNamed B.named
  have hlocks := B.notSynchronized
  have hl := lv_entry ([.ref (ad (2 + i)), .int x]) (n := 2) (Nat.le_of_ble_eq_true rfl)
  rw [lg_entry_eq]
  generalize (lg_sl ([Value.ref (ad (2 + i)), .int x]) ++ List.replicate (2 - (lg_sl ([Value.ref (ad (2 + i)), .int x])).length) Slot.unset).toArray = ls at hl ⊢
  have hl : lv_has ls 2 [(0, .ref (ad (2 + i))), (1, .int x)] := hl
  refine lv_aload_n hx hb dCh_0 rfl (lv_at hl 0 rfl) ?_
  refine zcallTV (r := zjLat) (d := 0) (As := []) (rest := []) hi (cj_Lat hi) rfl (zjw 3 rfl) (by decide) hx hb hml hown hts hK hP (hts _ (zjw 14 rfl)) (zjw 15 rfl) (zjw 16 rfl) (by decide +kernel) dCh_1 hl.1 (by decide) (by decide) (Nat.zero_le _) (Nat.zero_le _) (by decide) (fun q hq => absurd hq List.not_mem_nil) fun H1 l1 hP1 hl1 => ?_
  refine lv_if_eq hx hb dCh_4 (tgt := 16) rfl (fun h => absurd h (by decide)) fun _ => ?_
  refine lv_aload_n hx hb dCh_7 rfl (lv_at hl 0 rfl) ?_
  have hK0 := hK
  obtain ⟨k1, k2, k3, k4, ⟨adV, k5⟩, k7, vF, hvF, k8⟩ := hK
  have hq : ∀ (H : Heap) (s : State), zHp D ad base Hb s w M H → ∀ a : Nat, a < Hb.size → ¬ base ≤ a → H[a]? = Hb[a]? := fun H s hP a _ h => hP.2.2.2.2.1 a (by omega)
  refine zj_getf hx hb ((k5.1 i hi).2.2.1.kept (hq H1 s hP1)) hown (hts _ (zjw 9 rfl)) dCh_8 ?_
  refine lv_iload_n hx hb dCh_11 rfl (lv_at hl 1 rfl) ?_
  refine zcallTX (r := zjCh1) (d := 2) (As := [.ref (adV i), .int x]) (rest := []) (X := fun U => va_T .byte (adV i) (zsN.getD i 0) (fun j => .int ((zsB.getD i []).getD j 0)) (fun q => base ≤ q) U Hb) (fun u U hal h => va_T.moved hal h) (k5.1 i hi).2.2.2 (cj_Ch1 hi h0 h1 h2) (by decide) (zjw 5 rfl) (by decide) hx hb hml hown hts hK0 hP1 (zjw 17 rfl) (zjw 18 rfl) (zjw 19 rfl) (show zpar zjCh1.1 = some 2 by decide +kernel) dCh_12 hl.1 (by decide) (by decide) (Nat.zero_le _) (Nat.zero_le _) (by decide) hl1 fun H2 l2 hP2 hl2 => ?_
  exact W.zret (ty := .char) hx hb hr (congrArg Value.int (zjB i hi _ h2).2) (fun t ht hW => ⟨rfl, by rw [ht]; exact zHp_moved hW.alike hP2⟩) hl2 dCh_15 hlocks
end ZJdk2
