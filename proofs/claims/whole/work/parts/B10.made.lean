/-! New cells; and all instructions of the memory at once. -/
section ZMade
variable {p : Program} {l : Launch} {e : Env} {R : Room} {s : State} {m : MethodId} {args : Array Value} {below : List Frame} {meth : Method} {c : Code} {H : Heap} {locs : List Loc} {cells slots : Nat} {Q : State → Prop} {cc : ByteArray} {ad : Nat → Nat} {D : va_G} {base : Nat} {Hb : Heap} {own : String} {ini : Bool} {w : zW} {M : zM} {pc : Nat} {lsC : Array Slot} {rest : List zV} {k : Nat}
theorem zad_new (hP : zHp D ad base Hb s w M H) : ad w.1.length = H.size := by
  have h1 := hP.2.1 w.1.length hP.2.2.2.1
  have h2 := hP.2.2.1
  omega
theorem zVal_def (t : FieldType) (ht : t = .int ∨ t = .long ∨ zrefT t = true) : defaultValue t = zVal ad t 0 0 := by
  rcases ht with rfl | rfl | h
  · rfl
  · rfl
  · rw [zVal_ref h, if_pos rfl]
    cases t <;> first | rfl | cases h
theorem zty_kind : ∀ (c : Nat) (r : vw_C), vwCl[c]? = some r → ∀ j, j < r.2.2 → zty c j = .int ∨ zty c j = .long ∨ zrefT (zty c j) = true := by
  intro c r h
  match c, h with
  | 0, h => cases h; decide +kernel
  | 1, h => cases h; decide +kernel
  | 2, h => cases h; decide +kernel
  | 3, h => cases h; decide +kernel
  | 4, h => cases h; decide +kernel
  | 5, h => cases h; decide +kernel
  | 6, h => cases h; decide +kernel
  | 7, h => cases h; decide +kernel
  | 8, h => cases h; decide +kernel
  | 9, h => cases h; decide +kernel
  | 10, h => cases h; decide +kernel
  | 11, h => cases h; decide +kernel
  | n + 12, h => cases h
theorem zm_new (hx : p.tables.exec = Jvm.exec) (hb : c.code = cc) (hts : ∀ wd ∈ zTb, wd.before args s = true) (hown : s.vm.findClass own = some m.cls) (hK : zK D ad base Hb s) (hP : zHp D ad base Hb s w M H) {idx cn : Nat} {q1 q2 q3 : Int} {r : vw_C} (hr : vwCl[cn]? = some r) (h1 : zq q1 = some (.classLink own idx r.1)) (h2 : zq q2 = some (.instantiable r.1 r.2.2)) (h3 : zq q3 = some (.initialized r.1)) (hd : decode cc pc = .ok (.new idx, 3)) (hcells : cells + 1 ≤ R.cells) (hslots : slots + r.2.2 ≤ R.slots)
    (kk : ∀ H' : Heap, zHp D ad base Hb s (w.1 ++ [(0, cn, r.2.2)], zo w.2 w.1.length (fun _ => 0)) (zo M w.1.length (fun _ => 0)) H' → W p l e R s m args below meth c H' locs (cells + 1) (slots + r.2.2) Q (F0 m (pc + 3) lsC ((zr w.1.length :: rest).map (zcv ad)))) : W p l e R s m args below meth c H locs cells slots Q (F0 m pc lsC (rest.map (zcv ad))) := by
  have hKn := hK.1.1 cn r hr
  obtain ⟨hi0, hi2, hi3⟩ := zcl_ok cn r hr
  have hi1 : ∀ wd ∈ u_ws r.1 r.2.1 r.2.2, wd ∈ zTb := fun wd hw => List.mem_filter.mpr (hi0 wd hw)
  have had := zad_new hP
  refine W.newcK hx hb hown (hts _ (zq_mem h1)) (hts _ (zq_mem h2)) (hts _ (zq_mem h3)) rfl hd hcells hslots hKn.2.1 rfl fun H1 kC hkC e1 z1 o1 => ?_
  have hk := kk H1 (zHp_new hP z1 o1 (fun e he => by rw [List.mem_singleton.mp he]; exact (by decide : (0 : Nat) ≠ 2)) (fun k hk => zo_ne _ _ (by omega)) (fun k hk => zo_ne _ _ (by omega)) fun k hk1 hk2 => ?_)
  · have e : (zr w.1.length :: rest).map (zcv ad) = .ref H.size :: rest.map (zcv ad) := by rw [← had]; rfl
    rw [e] at hk
    exact hk
  · have hk3 : k = w.1.length := by simp at hk2; omega
    subst hk3
    have hsh : zsh (w.1 ++ [(0, cn, r.2.2)], zo w.2 w.1.length (fun _ => 0)) w.1.length = (0, cn, r.2.2) := zgetS_right w.1 [(0, cn, r.2.2)] 0
    refine ⟨fun _ => ⟨r, by rw [hsh]; exact hr, by rw [hsh], ?_⟩, fun h0 => (by rw [hsh] at h0; cases h0)⟩
    rw [hsh, had]
    refine (u_born (zty cn) hts hi1 hKn hkC e1 hi2).to fun j hj => ?_
    show _ = zVal ad (zty cn j) (zo w.2 w.1.length (fun _ => 0) w.1.length j) (zo M w.1.length (fun _ => 0) w.1.length j)
    rw [zo_self, zo_self]
    exact zVal_def _ (zty_kind cn r hr j hj)
theorem zm_newa (hx : p.tables.exec = Jvm.exec) (hb : c.code = cc) (hts : ∀ wd ∈ zTb, wd.before args s = true) (hP : zHp D ad base Hb s w M H) {t : ArrayType} {q : Int} {a : Int} (h1 : zq q = some (.arrayClass (newarray.typeOf t))) (ht : zatype t ≠ 9) (ha : 0 ≤ z32 a ∧ z32 a ≤ 100000) (hd : decode cc pc = .ok (.newarray t, 2)) (hcells : cells + 1 ≤ R.cells) (hslots : slots + (z32 a).toNat ≤ R.slots)
    (kk : ∀ H' : Heap, zHp D ad base Hb s (w.1 ++ [(1, zatype t, (z32 a).toNat)], zo w.2 w.1.length (fun _ => 0)) (zo M w.1.length (fun _ => 0)) H' → W p l e R s m args below meth c H' locs (cells + 1) (slots + (z32 a).toNat) Q (F0 m (pc + 2) lsC ((zr w.1.length :: rest).map (zcv ad)))) : W p l e R s m args below meth c H locs cells slots Q (F0 m pc lsC ((zi a :: rest).map (zcv ad))) := by
  have had := zad_new hP
  have hty : zat (zatype t) = newarray.typeOf t := by cases t <;> first | rfl | exact absurd rfl ht
  refine va_newaK hx hb (hts _ (zq_mem h1)) rfl hd rfl (zI_nonneg ha.1) (zI_nat ha.1) ?_ hcells hslots rfl fun H1 cA e1 z1 o1 hA hN => ?_
  · have : componentBytes (newarray.typeOf t) ≤ 8 := by cases t <;> decide
    have h2 : (z32 a).toNat ≤ 100000 := by omega
    calc (z32 a).toNat * componentBytes (newarray.typeOf t) ≤ 100000 * 8 := Nat.mul_le_mul h2 this
      _ ≤ 536870912 := by decide
  have hk := kk H1 (zHp_new hP z1 o1 (fun e he => by rw [List.mem_singleton.mp he]; exact (by decide : (1 : Nat) ≠ 2)) (fun k hk => zo_ne _ _ (by omega)) (fun k hk => zo_ne _ _ (by omega)) fun k hk1 hk2 => ?_)
  · have e : (zr w.1.length :: rest).map (zcv ad) = .ref H.size :: rest.map (zcv ad) := by rw [← had]; rfl
    rw [e] at hk
    exact hk
  · have hk3 : k = w.1.length := by simp at hk2; omega
    subst hk3
    have hsh : zsh (w.1 ++ [(1, zatype t, (z32 a).toNat)], zo w.2 w.1.length (fun _ => 0)) w.1.length = (1, zatype t, (z32 a).toNat) := zgetS_right w.1 [(1, zatype t, (z32 a).toNat)] 0
    refine ⟨fun h0 => (by rw [hsh] at h0; cases h0), fun _ => ?_⟩
    rw [hsh]
    refine ⟨_, by rw [had]; exact e1, by rw [hty]; exact hA _ _, (fun h => by cases h), by rw [arrV_size], fun j hj => ?_⟩
    rw [arrV_read _ _ hj]
    show _ = some (zAv ad (zatype t) (zo w.2 w.1.length (fun _ => 0) w.1.length j) (zo M w.1.length (fun _ => 0) w.1.length j))
    rw [zo_self, zo_self]
    cases t <;> first | rfl | exact absurd rfl ht
theorem zm_mna (hx : p.tables.exec = Jvm.exec) (hb : c.code = cc) (hts : ∀ wd ∈ zTb, wd.before args s = true) (hown : s.vm.findClass own = some m.cls) (hK : zK D ad base Hb s) (hP : zHp D ad base Hb s w M H) {idx : Nat} {q t : Int} {a b : Int} {ty : FieldType} {tn ti : Nat} (hty : (t = 4 ∧ ty = .int ∧ tn = 4 ∧ ti = 0) ∨ (t = 5 ∧ ty = .long ∧ tn = 5 ∧ ti = 3)) (h1 : zq q = some (.classLink own idx ("[" ++ (FieldType.array ty).toString))) (ha : 0 ≤ z32 a ∧ z32 a ≤ 1000 ∧ 0 ≤ z32 b ∧ z32 b ≤ 1000) (hd : decode cc pc = .ok (.multianewarray idx 2, 4)) (hcells : cells + (1 + (z32 a).toNat) ≤ R.cells) (hslots : slots + ((z32 a).toNat + (z32 a).toNat * (z32 b).toNat) ≤ R.slots)
    (kk : ∀ H' : Heap, zHp D ad base Hb s (w.1 ++ (1, tn, (z32 a).toNat) :: List.replicate (z32 a).toNat (1, ti, (z32 b).toNat), fun q => if w.1.length ≤ q then (fun j => if q = w.1.length then q + 1 + j else 0) else w.2 q) (fun q => if w.1.length ≤ q then (fun _ => 0) else M q) H' → W p l e R s m args below meth c H' locs (cells + 1 + (z32 a).toNat) (slots + (z32 a).toNat + (z32 a).toNat * (z32 b).toNat) Q (F0 m (pc + 4) lsC ((zr w.1.length :: rest).map (zcv ad)))) : W p l e R s m args below meth c H locs cells slots Q (F0 m pc lsC ((zi b :: zi a :: rest).map (zcv ad))) := by
  have had := zad_new hP
  have hna := zI_nat ha.1
  have hnb := zI_nat ha.2.2.1
  have harr : (Cond.arrayClass ty) ∈ zTb := by
    rcases hty with ⟨-, rfl, -⟩ | ⟨-, rfl, -⟩
    · exact List.mem_filter.mpr ⟨by decide +kernel, rfl⟩
    · exact List.mem_filter.mpr ⟨by decide +kernel, rfl⟩
  have hover : (Cond.arrayOver (.array ty)).before args s = true := by
    rcases hty with ⟨-, rfl, -⟩ | ⟨-, rfl, -⟩
    · exact hK.2.2.1.1
    · exact hK.2.2.1.2
  intro T hT X
  have hb1 : (Int32.ofInt a).toNatClampNeg * 4 ≤ 536870912 := by rw [hna]; omega
  have hb3 : (Int32.ofInt b).toNatClampNeg ≤ 536870912 := by rw [hnb]; omega
  have hcb : componentBytes ty ≤ 8 := by rcases hty with ⟨-, rfl, -⟩ | ⟨-, rfl, -⟩ <;> decide
  have hb2 : (Int32.ofInt b).toNatClampNeg * componentBytes ty ≤ 536870912 := by
    rw [hnb]
    calc (z32 b).toNat * componentBytes ty ≤ 1000 * 8 := Nat.mul_le_mul (by omega) hcb
      _ ≤ 536870912 := by decide
  have hdf : fits ty (defaultValue ty) = true := by rcases hty with ⟨-, rfl, -⟩ | ⟨-, rfl, -⟩ <;> rfl
  have hdd : (defaultValue ty).isDefault = true := by rcases hty with ⟨-, rfl, -⟩ | ⟨-, rfl, -⟩ <;> rfl
  obtain ⟨vm₁, cA, comp, -, fA, fC, hO, hI, X', step⟩ := X.multianewarray2F hx hown (hts _ (zq_mem h1)) hover (hts _ harr) (g := F0 m pc lsC ((zi b :: zi a :: rest).map (zcv ad))) (n := Int32.ofInt a) (k := Int32.ofInt b) (rest := rest.map (zcv ad)) rfl (by rw [hb]; exact hd) rfl (zI_nonneg ha.1) (zI_nonneg ha.2.2.1) hb1 hb2 hb3 hdf hdd (by rw [hna]; exact hcells) (by rw [hna, hnb]; exact hslots)
  rw [hna, hnb] at X' step
  generalize hF : Jvm.Free.Multi.fill (T.setVm vm₁) cA comp (z32 a).toNat (z32 b).toNat (defaultValue ty) (z32 a).toNat = F at X' step
  have hTh : (T.setVm vm₁).heap = H := hT
  obtain ⟨f1, f2, -, -⟩ := Jvm.Free.Multi.fill_facts (T.setVm vm₁) cA comp (z32 a).toNat (z32 b).toNat (defaultValue ty) (z32 a).toNat
  rw [hF, hTh] at f1 f2
  have hold : ∀ x : Nat, x < H.size → F.heap[x]? = H[x]? := fun x hx => by
    have := Jvm.Free.Multi.fill_old (T.setVm vm₁) cA comp (z32 a).toNat (z32 b).toNat (defaultValue ty) (a := x) (by rw [hTh]; exact hx) (z32 a).toNat
    rw [hF, hTh] at this
    exact this
  have hrow : ∀ j : Nat, j < (z32 a).toNat → F.heap[H.size + 1 + j]? = some (Jvm.Free.Multi.innerC comp (z32 b).toNat (defaultValue ty)) := fun j hj => by
    have := Jvm.Free.Multi.fill_inner (T.setVm vm₁) cA comp (z32 a).toNat (z32 b).toNat (defaultValue ty) (z32 a).toNat j hj
    rw [hF, hTh] at this
    exact this
  have hosl : ∀ (N i j : Nat), i ≤ N → j < N → (Jvm.Free.Multi.outerC cA N H.size i).slots[j]? = some (if j < i then .ref (H.size + 1 + j) else .null) := by
    intro N i j
    induction i with
    | zero => intro _ hj; simp [Jvm.Free.Multi.outerC, hj]
    | succ i ih =>
      intro hi hj
      show ((Jvm.Free.Multi.outerC cA N H.size i).setSlot i (.ref (H.size + 1 + i))).slots[j]? = _
      rw [zsetSlot_get (Jvm.Free.Multi.outerC_facts cA N H.size i).2.2 (by omega)]
      by_cases hji : j = i
      · subst hji; rw [if_pos rfl, if_pos (by omega)]
      · rw [if_neg hji, ih (by omega) hj]
        by_cases h9 : j < i
        · rw [if_pos h9, if_pos (by omega)]
        · rw [if_neg h9, if_neg (by omega)]
  have hk := kk F.heap (zHp_new hP (by rw [f1]; simp; omega) hold (fun e he => by
      rcases List.mem_cons.mp he with h | h
      · rw [h]; exact (by decide : (1 : Nat) ≠ 2)
      · rw [(List.mem_replicate.mp h).2]; exact (by decide : (1 : Nat) ≠ 2)) (fun k hk => if_neg (by omega)) (fun k hk => if_neg (by omega)) fun k hk1 hk2 => ?_)
  · obtain ⟨t2, a1, b1⟩ := hk F rfl X'
    refine ⟨t2, step t2 ?_, b1⟩
    have e : (T.heap.size : Nat) = ad w.1.length := by rw [hT, had]
    rw [e]
    exact a1
  · simp only [List.length_cons, List.length_replicate] at hk2
    have hk8 : ad k = H.size + (k - w.1.length) := by
      have h1 := hP.2.1 k (by have := hP.2.2.2.1; omega)
      have h2 := hP.2.2.1
      have h3 := hP.2.2.2.1
      omega
    by_cases hk0 : k = w.1.length
    · subst hk0
      have hsh : ∀ r', zsh (w.1 ++ (1, tn, (z32 a).toNat) :: List.replicate (z32 a).toNat (1, ti, (z32 b).toNat), r') w.1.length = (1, tn, (z32 a).toNat) := fun r' => zgetS_right w.1 _ 0
      refine ⟨fun h0 => (by rw [hsh] at h0; cases h0), fun _ => ?_⟩
      rw [hsh]
      refine ⟨_, by rw [had]; exact f2, ?_, (hO _ _ _).2, (Jvm.Free.Multi.outerC_facts _ _ _ _).2.2, fun j hj => ?_⟩
      · rcases hty with ⟨-, rfl, rfl, -⟩ | ⟨-, rfl, rfl, -⟩ <;> exact (hO _ _ _).1
      · rw [hosl _ _ j (Nat.le_refl _) hj, if_pos hj, zAv_ref (show 4 ≤ tn by rcases hty with ⟨-, -, rfl, -⟩ | ⟨-, -, rfl, -⟩ <;> decide)]
        show some (Value.ref (H.size + 1 + j)) = some (if (if w.1.length ≤ w.1.length then (fun j => if w.1.length = w.1.length then w.1.length + 1 + j else 0) else w.2 w.1.length) j = 0 then Value.null else .ref (ad ((if w.1.length ≤ w.1.length then (fun j => if w.1.length = w.1.length then w.1.length + 1 + j else 0) else w.2 w.1.length) j)))
        rw [if_pos (Nat.le_refl _)]
        show _ = some (if (if w.1.length = w.1.length then w.1.length + 1 + j else 0) = 0 then Value.null else .ref (ad (if w.1.length = w.1.length then w.1.length + 1 + j else 0)))
        rw [if_pos rfl, if_neg (by omega)]
        have h1 := hP.2.1 (w.1.length + 1 + j) (by have := hP.2.2.2.1; omega)
        have h2 := hP.2.2.1
        have h3 := hP.2.2.2.1
        rw [show ad (w.1.length + 1 + j) = H.size + 1 + j by omega]
    · obtain ⟨j, rfl⟩ : ∃ j, k = w.1.length + (j + 1) := ⟨k - w.1.length - 1, by omega⟩
      have hj : j < (z32 a).toNat := by omega
      have hsh : ∀ r', zsh (w.1 ++ (1, tn, (z32 a).toNat) :: List.replicate (z32 a).toNat (1, ti, (z32 b).toNat), r') (w.1.length + (j + 1)) = (1, ti, (z32 b).toNat) := fun r' => by
        refine (zgetS_right w.1 _ (j + 1)).trans ?_
        show zgetS (List.replicate (z32 a).toNat (1, ti, (z32 b).toNat)) j = _
        clear hk8 hk0 hk2 hk1
        revert hj
        generalize (z32 a).toNat = N
        intro hj
        induction N generalizing j with
        | zero => omega
        | succ N ih =>
          cases j with
          | zero => rfl
          | succ j => exact ih j (by omega)
      refine ⟨fun h0 => (by rw [hsh] at h0; cases h0), fun _ => ?_⟩
      rw [hsh]
      refine ⟨_, by rw [hk8, show H.size + (w.1.length + (j + 1) - w.1.length) = H.size + 1 + j by omega]; exact hrow j hj, ?_, (hI _ _).2, by simp [Jvm.Free.Multi.innerC], fun i hi => ?_⟩
      · rcases hty with ⟨-, rfl, -, rfl⟩ | ⟨-, rfl, -, rfl⟩ <;> exact (hI _ _).1
      · have e : (Jvm.Free.Multi.innerC comp (z32 b).toNat (defaultValue ty)).slots[i]? = some (defaultValue ty) := by simp [Jvm.Free.Multi.innerC, hi]
        refine e.trans ?_
        show _ = some (zAv ad ti _ ((if w.1.length ≤ w.1.length + (j + 1) then (fun _ => (0 : Int)) else M (w.1.length + (j + 1))) i))
        rw [if_pos (by omega)]
        rcases hty with ⟨-, rfl, -, rfl⟩ | ⟨-, rfl, -, rfl⟩ <;> rfl
end ZMade
