/-! Fields, arrays, what is made, constants: a step of the small machine is a step of the machine. -/
theorem zq_mem {q : Int} {c : Cond} (h : zq q = some c) : c ∈ zTb := by
  unfold zq at h
  split at h
  · rename_i c' hc
    split at h
    · rename_i hg
      cases h
      exact List.mem_filter.mpr ⟨List.mem_of_getElem? hc, hg⟩
    · cases h
  · cases h
theorem zAv_int {ad : Nat → Nat} {t : Nat} (ht : t ≤ 2) (r : Nat) (m : Int) : zAv ad t r m = .int (Int32.ofInt m) := by
  match t, ht with
  | 0, _ => rfl
  | 1, _ => rfl
  | 2, _ => rfl
theorem zAv_ref {ad : Nat → Nat} {t : Nat} (ht : 4 ≤ t) (r : Nat) (m : Int) : zAv ad t r m = if r = 0 then .null else .ref (ad r) := by
  match t, ht with
  | t + 4, _ => rfl
theorem zVal_ref {ad : Nat → Nat} {t : FieldType} (ht : zrefT t = true) (r : Nat) (m : Int) : zVal ad t r m = if r = 0 then .null else .ref (ad r) := by
  unfold zVal
  split
  · cases ht
  · cases ht
  · rfl
theorem zisArr_set {s : State} {cell : Cell} {ty : FieldType} (h : s.isArrayOf cell ty) (i : Nat) (v : Value) : s.isArrayOf (cell.setSlot i v) ty := h
theorem zsetSlot_get {cell : Cell} {i n : Nat} {v : Value} (hn : cell.slots.size = n) (hi : i < n) (j : Nat) : (cell.setSlot i v).slots[j]? = if j = i then some v else cell.slots[j]? := by
  have h1 : (cell.setSlot i v).slots = cell.slots.setIfInBounds i v := rfl
  rw [h1, Array.getElem?_setIfInBounds]
  by_cases hji : i = j
  · subst hji; simp [hn, hi]
  · rw [if_neg hji, if_neg (fun h => hji h.symm)]
theorem zsetSlot_size {cell : Cell} {i : Nat} {v : Value} : (cell.setSlot i v).slots.size = cell.slots.size := by
  show (cell.slots.setIfInBounds i v).size = _
  simp
section ZMem
variable {p : Program} {l : Launch} {e : Env} {R : Room} {s : State} {m : MethodId} {args : Array Value} {below : List Frame} {meth : Method} {c : Code} {H : Heap} {locs : List Loc} {cells slots : Nat} {Q : State → Prop} {cc : ByteArray} {ad : Nat → Nat} {D : va_G} {base : Nat} {Hb : Heap} {own : String} {ini : Bool} {w : zW} {M : zM} {pc : Nat} {lsC : Array Slot} {rest : List zV} {k : Nat}
theorem zm_ald (hx : p.tables.exec = Jvm.exec) (hb : c.code = cc) (hP : zHp D ad base Hb s w M H) {t : Nat} {a : Int} (hA : zA w k t (z32 a)) {ins : Instr} {v : zV} (hd : decode cc pc = .ok (ins, 1)) (hins : (ins = .iaload ∧ t = 0 ∧ v = zi (M k (z32 a).toNat)) ∨ (ins = .laload ∧ t = 3 ∧ v = zl (M k (z32 a).toNat)) ∨ (ins = .baload ∧ (t = 1 ∨ t = 2) ∧ v = zi (M k (z32 a).toNat)))
    (kk : W p l e R s m args below meth c H locs cells slots Q (F0 m (pc + 1) lsC ((v :: rest).map (zcv ad)))) : W p l e R s m args below meth c H locs cells slots Q (F0 m pc lsC ((zi a :: zr k :: rest).map (zcv ad))) := by
  obtain ⟨h1, h2, h3, h4⟩ := hA
  obtain ⟨cell, g1, g2, g3, g4, g5⟩ := (hP.1 k).2 h1
  rw [h2] at g2 g5
  have hin : ¬ (Int32.ofInt a < 0 ∨ cell.slots.size ≤ (Int32.ofInt a).toNatClampNeg) := zI_in h3 (by rw [g4]; exact h4)
  have hv := g5 (z32 a).toNat (by omega)
  rw [← zI_nat h3] at hv
  rcases hins with ⟨rfl, rfl, rfl⟩ | ⟨rfl, rfl, rfl⟩ | ⟨rfl, rfl | rfl, rfl⟩
  · exact W.iald hx hb g1 g2 g3 hin hv rfl rfl hd (by rw [zI_nat h3]; exact kk)
  · exact W.lald hx hb g1 g2 g3 hin hv rfl rfl hd (by rw [zI_nat h3]; exact kk)
  · exact W.bald hx hb g1 g2 g3 hin hv rfl rfl hd (by rw [zI_nat h3]; exact kk)
  · exact W.zald hx hb g1 g2 g3 hin hv rfl rfl hd (by rw [zI_nat h3]; exact kk)
theorem zm_aald (hx : p.tables.exec = Jvm.exec) (hb : c.code = cc) (hP : zHp D ad base Hb s w M H) {t : Nat} {a : Int} (hA : zA w k t (z32 a)) (ht : t = 4 ∨ t = 5) (h0 : ¬ w.2 k (z32 a).toNat = 0) (hd : decode cc pc = .ok (.aaload, 1))
    (kk : W p l e R s m args below meth c H locs cells slots Q (F0 m (pc + 1) lsC ((zr (w.2 k (z32 a).toNat) :: rest).map (zcv ad)))) : W p l e R s m args below meth c H locs cells slots Q (F0 m pc lsC ((zi a :: zr k :: rest).map (zcv ad))) := by
  obtain ⟨h1, h2, h3, h4⟩ := hA
  obtain ⟨cell, g1, g2, g3, g4, g5⟩ := (hP.1 k).2 h1
  rw [h2] at g2 g5
  have hin : ¬ (Int32.ofInt a < 0 ∨ cell.slots.size ≤ (Int32.ofInt a).toNatClampNeg) := zI_in h3 (by rw [g4]; exact h4)
  have hv := g5 (z32 a).toNat (by omega)
  rw [zAv_ref (by omega), if_neg h0, ← zI_nat h3] at hv
  refine W.aald hx hb g1 g2 (by rcases ht with rfl | rfl <;> rfl) g3 hin hv rfl rfl hd ?_
  rw [zI_nat h3]; exact kk
theorem zm_ast (hx : p.tables.exec = Jvm.exec) (hb : c.code = cc) (hP : zHp D ad base Hb s w M H) (hloc : ∀ q ∈ locs, base ≤ q.base) {t : Nat} {a v : Int} (hA : zAs w k t (z32 a)) {ins : Instr} {u : zV} {v' : Int} (hd : decode cc pc = .ok (ins, 1)) (hins : (ins = .iastore ∧ t = 0 ∧ u = zi v ∧ v' = v) ∨ (ins = .lastore ∧ t = 3 ∧ u = zl v ∧ v' = v) ∨ (ins = .bastore ∧ t = 1 ∧ u = zi v ∧ v' = z8 v) ∨ (ins = .bastore ∧ t = 2 ∧ u = zi v ∧ v' = v ∧ (v = 0 ∨ v = 1)))
    (kk : ∀ (H' : Heap) (locs' : List Loc), zHp D ad base Hb s w (zu M k (z32 a).toNat v') H' → (∀ q ∈ locs', base ≤ q.base) → W p l e R s m args below meth c H' locs' cells slots Q (F0 m (pc + 1) lsC (rest.map (zcv ad)))) : W p l e R s m args below meth c H locs cells slots Q (F0 m pc lsC ((u :: zi a :: zr k :: rest).map (zcv ad))) := by
  obtain ⟨⟨h1, h2, h3, h4⟩, h8⟩ := hA
  obtain ⟨cell, g1, g2, g3, g4, g5⟩ := (hP.1 k).2 h1
  rw [h2] at g2 g5
  have hin : ¬ (Int32.ofInt a < 0 ∨ cell.slots.size ≤ (Int32.ofInt a).toNatClampNeg) := zI_in h3 (by rw [g4]; exact h4)
  have hal : base ≤ ad k := by have := hP.2.1 k h8; omega
  have key : ∀ (H' : Heap) (x : Value), x = zAv ad t 0 v' → t ≤ 3 → H'[ad k]? = some (cell.setSlot (Int32.ofInt a).toNatClampNeg x) → H'.size = H.size → (∀ q, q ≠ ad k → H'[q]? = H[q]?) → zHp D ad base Hb s w (zu M k (z32 a).toNat v') H' := by
    intro H' x hxx ht3 e1 e2 e3
    refine zHp_put hP h8 e2 e3 ⟨fun h0 => (by rw [h1] at h0; cases h0), fun _ => ⟨_, e1, ?_, g3, ?_, fun j hj => ?_⟩⟩
    · rw [h2]; exact zisArr_set g2 _ _
    · rw [zsetSlot_size]; exact g4
    · rw [zsetSlot_get g4 (by rw [zI_nat h3]; omega), zI_nat h3, h2, zu_self]
      by_cases hji : j = (z32 a).toNat
      · rw [if_pos hji, hxx]
        show _ = some (zAv ad t (w.2 k j) (if j = (z32 a).toNat then v' else M k j))
        rw [if_pos hji]
        rcases (by omega : t ≤ 2 ∨ t = 3) with h | h
        · rw [zAv_int h, zAv_int h]
        · rw [h]; rfl
      · rw [if_neg hji, g5 j hj]
        show _ = some (zAv ad t (w.2 k j) (if j = (z32 a).toNat then v' else M k j))
        rw [if_neg hji]
  have hl2 : ∀ q ∈ locs ++ [(⟨ad k, (Int32.ofInt a).toNatClampNeg⟩ : Loc)], base ≤ q.base := fun q hq => by
    rcases List.mem_append.mp hq with h | h
    · exact hloc q h
    · rw [List.mem_singleton.mp h]; exact hal
  rcases hins with ⟨rfl, rfl, rfl, rfl⟩ | ⟨rfl, rfl, rfl, rfl⟩ | ⟨rfl, rfl, rfl, rfl⟩ | ⟨rfl, rfl, rfl, rfl, hv⟩
  · exact W.iast hx hb g1 g2 g3 hin rfl rfl hd fun H' e1 e2 e3 => kk H' _ (key H' _ rfl (by omega) e1 e2 e3) hl2
  · exact W.last hx hb g1 g2 g3 hin rfl rfl hd fun H' e1 e2 e3 => kk H' _ (key H' _ rfl (by omega) e1 e2 e3) hl2
  · refine W.bast hx hb g1 g2 g3 hin rfl rfl hd fun H' e1 e2 e3 => kk H' _ (key H' _ ?_ (by omega) e1 e2 e3) hl2
    show Value.int ((Int32.ofInt v).toInt8.toInt32) = _
    rw [zI_i2b]; rfl
  · refine W.zast hx hb g1 g2 g3 hin rfl rfl hd fun H' e1 e2 e3 => kk H' _ (key H' _ ?_ (by omega) e1 e2 e3) hl2
    rcases hv with rfl | rfl <;> rfl
theorem zm_alen (hx : p.tables.exec = Jvm.exec) (hb : c.code = cc) (hP : zHp D ad base Hb s w M H) (hk : (zsh w k).1 = 1) (hd : decode cc pc = .ok (.arraylength, 1))
    (kk : W p l e R s m args below meth c H locs cells slots Q (F0 m (pc + 1) lsC ((zi (zsh w k).2.2 :: rest).map (zcv ad)))) : W p l e R s m args below meth c H locs cells slots Q (F0 m pc lsC ((zr k :: rest).map (zcv ad))) := by
  obtain ⟨cell, g1, g2, g3, g4, g5⟩ := (hP.1 k).2 hk
  exact W.alen hx hb g1 g2 (by rw [g4]; rfl) rfl rfl hd kk
theorem zm_get (hx : p.tables.exec = Jvm.exec) (hb : c.code = cc) (hts : ∀ wd ∈ zTb, wd.before args s = true) (hown : s.vm.findClass own = some m.cls) (hK : zK D ad base Hb s) (hP : zHp D ad base Hb s w M H) {idx cn jn : Nat} {q : Int} {r : vw_C} (hr : vwCl[cn]? = some r) (hlink : zq q = some (.fieldLink own idx (r.2.1 jn).1 (r.2.1 jn).2.1 (r.2.1 jn).2.2.1)) (hO : zO w k cn jn) (hd : decode cc pc = .ok (.getfield idx, 3)) {v : zV} (hv : zVal ad (zty cn jn) (w.2 k jn) (M k jn) = zcv ad v)
    (kk : W p l e R s m args below meth c H locs cells slots Q (F0 m (pc + 3) lsC ((v :: rest).map (zcv ad)))) : W p l e R s m args below meth c H locs cells slots Q (F0 m pc lsC ((zr k :: rest).map (zcv ad))) := by
  obtain ⟨h1, h2, h3⟩ := hO
  obtain ⟨r', g1, g2, cell, g3, g4, g5, g6⟩ := (hP.1 k).1 h1
  rw [h2] at g1 g4 g6
  obtain rfl : r = r' := Option.some.inj (hr.symm.trans g1)
  obtain ⟨hi0, hi2, hi3⟩ := zcl_ok cn r hr
  have hi1 : ∀ wd ∈ u_ws r.1 r.2.1 r.2.2, wd ∈ zTb := fun wd hw => List.mem_filter.mpr (hi0 wd hw)
  have hj : jn < r.2.2 := by rw [g2]; exact h3
  obtain ⟨hS, hfc, kC, hkC, hkind⟩ := hK.1.1 cn r hr
  obtain ⟨cf, kf, fi, f, hi, hsl⟩ := hS jn hj
  refine W.getf hx hb hown (hts _ (zq_mem hlink)) hi (u_facts hfc hkC (u_lays hts hi1 hj) hi).1 g3 (by rw [g5]; exact fun h => by cases h) (v := zcv ad v) ?_ rfl rfl hd kk
  rw [hsl, g6 jn h3]
  exact congrArg some hv
theorem zm_put (hx : p.tables.exec = Jvm.exec) (hb : c.code = cc) (hts : ∀ wd ∈ zTb, wd.before args s = true) (hown : s.vm.findClass own = some m.cls) (hini : ini = true → meth.name = "<init>") (hK : zK D ad base Hb s) (hP : zHp D ad base Hb s w M H) (hloc : ∀ q ∈ locs, base ≤ q.base) {idx cn jn : Nat} {q : Int} {r : vw_C} (hr : vwCl[cn]? = some r) (hlink : zq q = some (.fieldLink own idx (r.2.1 jn).1 (r.2.1 jn).2.1 (r.2.1 jn).2.2.1)) (hfin : (r.2.1 jn).2.2.2 = false ∨ (ini = true ∧ (r.2.1 jn).1 = own)) (hO : zO w k cn jn) (hd : decode cc pc = .ok (.putfield idx, 3)) {v : zV} (hn : narrow (zty cn jn) (zcv ad v) = zcv ad v) (hft : fits (zty cn jn) (zcv ad v) = true) {w' : zW} {M' : zM} (hw : (w' = w ∧ ∃ x, M' = zu M k jn x ∧ zVal ad (zty cn jn) (w.2 k jn) x = zcv ad v) ∨ (M' = M ∧ ∃ x, w' = (w.1, zu w.2 k jn x) ∧ zVal ad (zty cn jn) x (M k jn) = zcv ad v))
    (kk : ∀ (H' : Heap) (locs' : List Loc), zHp D ad base Hb s w' M' H' → (∀ q ∈ locs', base ≤ q.base) → W p l e R s m args below meth c H' locs' cells slots Q (F0 m (pc + 3) lsC (rest.map (zcv ad)))) : W p l e R s m args below meth c H locs cells slots Q (F0 m pc lsC ((v :: zr k :: rest).map (zcv ad))) := by
  obtain ⟨h1, h2, h3⟩ := hO
  have h8 : 8 ≤ k := zHp_ge hP h1
  have hal : base ≤ ad k := by have := hP.2.1 k h8; omega
  obtain ⟨r', g1, g2, cell, g3, g4, g5, g6⟩ := (hP.1 k).1 h1
  rw [h2] at g1 g4 g6
  obtain rfl : r = r' := Option.some.inj (hr.symm.trans g1)
  obtain ⟨hi0, hi2, hi3⟩ := zcl_ok cn r hr
  have hi1 : ∀ wd ∈ u_ws r.1 r.2.1 r.2.2, wd ∈ zTb := fun wd hw => List.mem_filter.mpr (hi0 wd hw)
  have hj : jn < r.2.2 := by rw [g2]; exact h3
  have hKn := hK.1.1 cn r hr
  have hap := va_apart (own := own) hts hi1 (zty cn) hi2 hi3 hK.1 hr
  obtain ⟨hS, hfc, kC, hkC, hkind⟩ := hKn
  obtain ⟨cf, kf, fi, f, hi, hsl⟩ := hS jn hj
  have hst := (u_facts hfc hkC (u_lays hts hi1 hj) hi).1
  have hlay := hts _ (hi1 _ (u_in_lay hj))
  have hset : ∀ H' : Heap, H'[ad k]? = some (cell.setSlot f.slot (zcv ad v)) → H'.size = H.size → (∀ q, q ≠ ad k → H'[q]? = H[q]?) → zHp D ad base Hb s w' M' H' := by
    intro H' e1 e2 e3
    rw [hsl] at e1
    have hob : ∀ V : Nat → Value, (∀ j, j < r.2.2 → updV (fun j => zVal ad (zty cn j) (w.2 k j) (M k j)) jn (zcv ad v) j = V j) → t_OB (ad k) (D.1 cn) (zsh w k).2.2 (D.2 cn) H' V := by
      intro V hV
      rw [← g2]
      exact t_OB.to (V := updV (fun j => zVal ad (zty cn j) (w.2 k j) (M k j)) jn (zcv ad v)) ⟨_, e1, g4, g5, t_set (fun j hj => g6 j (by rw [← g2]; exact hj)) hap hj (zcv ad v)⟩ hV
    rcases hw with ⟨rfl, x, rfl, hx2⟩ | ⟨rfl, x, rfl, hx2⟩
    · refine zHp_put hP h8 e2 e3 ⟨fun _ => ⟨r, by rw [h2]; exact hr, g2, ?_⟩, fun h0 => by rw [h1] at h0; cases h0⟩
      rw [h2]
      refine hob _ fun j _ => ?_
      rw [zu_self]
      show (if j = jn then _ else _) = zVal ad (zty cn j) (w'.2 k j) (if j = jn then x else M k j)
      by_cases hjj : j = jn
      · subst hjj; rw [if_pos rfl, if_pos rfl, hx2]
      · rw [if_neg hjj, if_neg hjj]
    · refine zHp_putR hP h8 e2 e3 ⟨fun _ => ⟨r, by show vwCl[(zsh w k).2.1]? = _; rw [h2]; exact hr, g2, ?_⟩, fun h0 => by have h0 : (zsh w k).1 = 1 := h0; rw [h1] at h0; cases h0⟩
      show t_OB (ad k) (D.1 (zsh w k).2.1) (zsh w k).2.2 (D.2 (zsh w k).2.1) H' _
      rw [h2]
      refine hob _ fun j _ => ?_
      show (if j = jn then _ else _) = zVal ad (zty (zsh w k).2.1 j) (zu w.2 k jn x k j) (M' k j)
      rw [zu_self, h2]
      show _ = zVal ad (zty cn j) (if j = jn then x else w.2 k j) (M' k j)
      by_cases hjj : j = jn
      · subst hjj; rw [if_pos rfl, if_pos rfl, hx2]
      · rw [if_neg hjj, if_neg hjj]
  have hl2 : ∀ q ∈ locs ++ [(⟨ad k, f.slot⟩ : Loc)], base ≤ q.base := fun q hq => by
    rcases List.mem_append.mp hq with h | h
    · exact hloc q h
    · rw [List.mem_singleton.mp h]; exact hal
  unfold u_lay at hlay
  cases hf : (r.2.1 jn).2.2.2 with
  | false =>
    rw [hf, if_neg (by decide)] at hlay
    have h6 := u_store hfc hkC hkind hlay hi (hi2 jn hj) hn hft
    exact W.putK hx hb (f := f) ⟨hown, hts _ (zq_mem hlink), ⟨_, _, _, hi⟩, hst⟩ (by rw [g4]; exact h6) g3 g5 (by rw [hsl]; exact k2_hasslot (g6 jn h3)) rfl rfl hd fun H' e1 e2 e3 => kk H' _ (hset H' e1 e2 e3) hl2
  | true =>
    rw [hf, if_pos rfl] at hlay
    obtain ⟨hin, hdecl⟩ : ini = true ∧ (r.2.1 jn).1 = own := by
      rcases hfin with h | h
      · rw [hf] at h; cases h
      · exact h
    have hcf : m.cls = cf := by
      obtain ⟨_, _, c', _, _, _, -, -, hf', -, -, -, hown2, -⟩ := Cond.laysFinal_spec hlay
      have e1 : c' = cf := by have := hi.symm.trans hf'; simp at this; exact this.1.symm
      rw [hdecl] at hown2
      rw [← e1]; exact Option.some.inj (hown.symm.trans hown2)
    have h6 := u_fits hfc hkC hkind (Or.inr hlay) hi (hi2 jn hj) hn hft
    exact W.putFinK hx hb hown (hts _ (zq_mem hlink)) hi hst hcf (hini hin) (by rw [g4]; exact h6) g3 g5 (by rw [hsl]; exact k2_hasslot (g6 jn h3)) rfl rfl hd fun H' e1 e2 e3 => kk H' _ (hset H' e1 e2 e3) hl2
end ZMem
