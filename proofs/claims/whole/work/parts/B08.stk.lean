/-! Stack, locals, branches: a step of the small machine is a step of the machine. -/
theorem zb2_some {f : Int → Int → Int} {st st' : List zV} (h : zb2 f st = some st') : ∃ a b t, st = zi b :: zi a :: t ∧ st' = zi (f a b) :: t := by
  unfold zb2 at h
  split at h
  · cases h; exact ⟨_, _, _, rfl, rfl⟩
  · cases h
theorem zb2d_some {f : Int → Int → Int} {st st' : List zV} (h : zb2d f st = some st') : ∃ a b t, st = zi b :: zi a :: t ∧ st' = zi (f a b) :: t ∧ ¬ z32 b = 0 := by
  unfold zb2d at h
  split at h
  · split at h
    · cases h
    · rename_i hb; cases h; exact ⟨_, _, _, rfl, rfl, hb⟩
  · cases h
theorem zB2_some {f : Int → Int → Int} {st st' : List zV} (h : zB2 f st = some st') : ∃ a b t, st = zl b :: zl a :: t ∧ st' = zl (f a b) :: t := by
  unfold zB2 at h
  split at h
  · cases h; exact ⟨_, _, _, rfl, rfl⟩
  · cases h
theorem zB2d_some {f : Int → Int → Int} {st st' : List zV} (h : zB2d f st = some st') : ∃ a b t, st = zl b :: zl a :: t ∧ st' = zl (f a b) :: t ∧ ¬ z64 b = 0 := by
  unfold zB2d at h
  split at h
  · split at h
    · cases h
    · rename_i hb; cases h; exact ⟨_, _, _, rfl, rfl, hb⟩
  · cases h
theorem zi1_some {f : Int → zV} {st st' : List zV} (h : zi1 f st = some st') : ∃ a t, st = zi a :: t ∧ st' = f a :: t := by
  unfold zi1 at h
  split at h
  · cases h; exact ⟨_, _, rfl, rfl⟩
  · cases h
theorem zI_rem2 (a b : Int) : Int32.ofInt a - Int32.ofInt a / Int32.ofInt b * Int32.ofInt b = Int32.ofInt (zrem a b) := by
  rw [zI_div, show zrem a b = z32 a - z32 b * zdiv a b from Int.tmod_def _ _, ← zI_sub, ← zI_mul, zI_z32, zI_z32, Int32.mul_comm]
theorem zL_z64 (a : Int) : Int64.ofInt (z64 a) = Int64.ofInt a := zL_eq (z64_z64 a)
theorem zL_rem2 (a b : Int) : Int64.ofInt a - Int64.ofInt a / Int64.ofInt b * Int64.ofInt b = Int64.ofInt (zlrem a b) := by
  rw [zL_div, show zlrem a b = z64 a - z64 b * zldiv a b from Int.tmod_def _ _, ← zL_sub, ← zL_mul, zL_z64, zL_z64, Int64.mul_comm]
section ZStk
variable {p : Program} {l : Launch} {e : Env} {R : Room} {s : State} {m : MethodId} {args : Array Value} {below : List Frame} {meth : Method} {c : Code} {H : Heap} {locs : List Loc} {cells slots : Nat} {Q : State → Prop} {cc : ByteArray} {ad : Nat → Nat}
theorem zs_stk_ok (hx : p.tables.exec = Jvm.exec) (hb : c.code = cc) {ins : Instr} {st st' : List zV} {pc : Nat} {lsC : Array Slot} (hd : decode cc pc = .ok (ins, zlen ins)) (hr : zrng ins pc = true) (h : zsStk ins st = some st')
    (k : W p l e R s m args below meth c H locs cells slots Q (F0 m (pc + zlen ins) lsC (st'.map (zcv ad)))) : W p l e R s m args below meth c H locs cells slots Q (F0 m pc lsC (st.map (zcv ad))) := by
  unfold zsStk at h
  split at h
  · cases h; exact lv_iconst hx hb hd rfl k
  · cases h
    have hr := of_decide_eq_true hr
    exact lv_bipush hx hb hd (zI_bi hr.1 hr.2) k
  · cases h
    have hr := of_decide_eq_true hr
    exact lv_sipush hx hb hd (zI_si hr.1 hr.2) k
  · cases h; exact lv_lconst hx hb hd rfl k
  · obtain ⟨a, b, t, rfl, rfl⟩ := zb2_some h
    refine lv_iadd hx hb hd ?_
    rw [zI_add]; exact k
  · obtain ⟨a, b, t, rfl, rfl⟩ := zb2_some h
    refine lv_isub hx hb hd ?_
    rw [zI_sub]; exact k
  · obtain ⟨a, b, t, rfl, rfl⟩ := zb2_some h
    refine lv_imul hx hb hd ?_
    rw [zI_mul]; exact k
  · obtain ⟨a, b, t, rfl, rfl, hn⟩ := zb2d_some h
    refine lv_idiv hx hb hd (zI_zero hn) ?_
    rw [zI_div]; exact k
  · obtain ⟨a, b, t, rfl, rfl, hn⟩ := zb2d_some h
    refine lv_irem hx hb hd (zI_zero hn) ?_
    rw [zI_rem2]; exact k
  · obtain ⟨a, b, t, rfl, rfl⟩ := zb2_some h
    refine lv_iand hx hb hd ?_
    rw [← zI_back (Int32.ofInt a &&& Int32.ofInt b)]; exact k
  · obtain ⟨a, b, t, rfl, rfl⟩ := zb2_some h
    refine lv_ior hx hb hd ?_
    rw [← zI_back (Int32.ofInt a ||| Int32.ofInt b)]; exact k
  · obtain ⟨a, b, t, rfl, rfl⟩ := zb2_some h
    refine lv_ixor hx hb hd ?_
    rw [← zI_back (Int32.ofInt a ^^^ Int32.ofInt b)]; exact k
  · obtain ⟨a, b, t, rfl, rfl⟩ := zb2_some h
    refine lv_ishl hx hb hd ?_
    rw [← zI_back (Int32.ofInt a <<< (Int32.ofInt b &&& 31))]; exact k
  · obtain ⟨a, b, t, rfl, rfl⟩ := zb2_some h
    refine lv_ishr hx hb hd ?_
    rw [← zI_back (Int32.ofInt a >>> (Int32.ofInt b &&& 31))]; exact k
  · obtain ⟨a, b, t, rfl, rfl⟩ := zb2_some h
    exact lv_iushr hx hb hd (zI_back _).symm k
  · obtain ⟨a, t, rfl, rfl⟩ := zi1_some h
    refine lv_ineg hx hb hd ?_
    rw [zI_neg]; exact k
  · obtain ⟨a, t, rfl, rfl⟩ := zi1_some h
    exact lv_i2l hx hb hd (zI_i2l a) k
  · obtain ⟨a, t, rfl, rfl⟩ := zi1_some h
    exact lv_i2b hx hb hd (zI_i2b a) k
  · obtain ⟨a, b, t, rfl, rfl⟩ := zB2_some h
    refine lv_ladd hx hb hd ?_
    rw [zL_add]; exact k
  · obtain ⟨a, b, t, rfl, rfl⟩ := zB2_some h
    refine lv_lsub hx hb hd ?_
    rw [zL_sub]; exact k
  · obtain ⟨a, b, t, rfl, rfl⟩ := zB2_some h
    refine lv_lmul hx hb hd ?_
    rw [zL_mul]; exact k
  · obtain ⟨a, b, t, rfl, rfl, hn⟩ := zB2d_some h
    refine lv_ldiv hx hb hd (zL_zero hn) ?_
    rw [zL_div]; exact k
  · obtain ⟨a, b, t, rfl, rfl, hn⟩ := zB2d_some h
    refine lv_lrem hx hb hd (zL_zero hn) ?_
    rw [zL_rem2]; exact k
  · obtain ⟨a, b, t, rfl, rfl⟩ := zB2_some h
    refine lv_lor hx hb hd ?_
    rw [← zL_back (Int64.ofInt a ||| Int64.ofInt b)]; exact k
  · split at h
    · cases h
      refine lv_lneg hx hb hd ?_
      rw [zL_neg]; exact k
    · cases h
  · split at h
    · cases h
      exact lv_lshl hx hb hd (zL_back _).symm k
    · cases h
  · split at h
    · cases h
      refine W.lcmp hx hb hd ?_
      rw [zL_cmp]; exact k
    · cases h
  · split at h
    · cases h; exact lv_dup hx hb hd rfl k
    · cases h; exact lv_dup hx hb hd rfl k
    · cases h
  · split at h
    · cases h; exact lv_dup2_11 hx hb hd rfl rfl k
    · cases h
  · split at h
    · cases h; exact lv_pop hx hb hd rfl k
    · cases h; exact lv_pop hx hb hd rfl k
    · cases h
  · cases h
theorem zget_some : ∀ (ls : List zV) (i : Nat) (v : zV), zget ls i = v → v ≠ zt → ls[i]? = some v
  | [], _, _, h, hv => absurd h.symm hv
  | _ :: _, 0, _, h, _ => by rw [← h]; rfl
  | _ :: l, i + 1, v, h, hv => by
    rw [List.getElem?_cons_succ]
    exact zget_some l i v h hv
theorem zi_ne (a : Int) : zi a ≠ zt := by simp [zi, zt]
theorem zl_ne (a : Int) : zl a ≠ zt := by simp [zl, zt]
theorem zr_ne (a : Nat) : zr a ≠ zt := by simp [zr, zt]
theorem zput_len : ∀ (ls : List zV) (i : Nat) (v : zV), (zput ls i v).length = ls.length
  | [], _, _ => rfl
  | _ :: _, 0, _ => rfl
  | _ :: l, i + 1, v => by
    show (zput l i v).length + 1 = l.length + 1
    rw [zput_len l i v]
theorem zput_get : ∀ (ls : List zV) (i : Nat) (v : zV) (j : Nat), (zput ls i v)[j]? = if j = i then (if i < ls.length then some v else none) else ls[j]?
  | [], i, v, j => by simp [zput]
  | a :: l, 0, v, j => by
    cases j with
    | zero => simp [zput]
    | succ j => simp [zput]
  | a :: l, i + 1, v, j => by
    cases j with
    | zero => simp [zput]
    | succ j =>
      show (zput l i v)[j]? = _
      rw [zput_get l i v j]
      simp
theorem zprev_nl {ls : List zV} {i : Nat} (h : znl (zprev ls i) = true) {j : Nat} {v : zV} (hj : ls[j]? = some v) (hji : j + 1 = i) : (zcv ad v).category ≠ 2 := by
  subst hji
  have h2 : zget ls j = v := by
    clear h
    induction ls generalizing j with
    | nil => simp at hj
    | cons a l ih =>
      cases j with
      | zero => simpa [zget] using hj
      | succ j => exact ih (by simpa using hj)
  have h3 : znl v = true := by
    have h4 : zprev ls (j + 1) = zget ls j := rfl
    rw [h4, h2] at h
    exact h
  unfold zcv
  split
  · simp [Value.category]
  · exact absurd h3 (by simp [znl])
  · simp [Value.category]
  · simp [Value.category]
theorem zLoc_get {ls : List zV} {lsC : Array Slot} {i : Nat} {v : zV} (h : zLoc ad ls lsC) (hg : zget ls i = v) (hv : v ≠ zt) : lsC[i]? = some (.val (zcv ad v)) := h.2.2 i v (zget_some ls i v hg hv) hv
theorem zldI_some {ls st : List zV} {i : Nat} {r : List zV × List zV} (h : zldI ls i st = some r) : ∃ x, zget ls i = zi x ∧ r = (ls, zi x :: st) := by
  unfold zldI at h
  split at h
  · rename_i hx; cases h; exact ⟨_, hx, rfl⟩
  · cases h
theorem zldL_some {ls st : List zV} {i : Nat} {r : List zV × List zV} (h : zldL ls i st = some r) : ∃ x, zget ls i = zl x ∧ r = (ls, zl x :: st) := by
  unfold zldL at h
  split at h
  · rename_i hx; cases h; exact ⟨_, hx, rfl⟩
  · cases h
theorem zldA_some {ls st : List zV} {i : Nat} {r : List zV × List zV} (h : zldA ls i st = some r) : ∃ x, zget ls i = zr x ∧ r = (ls, zr x :: st) := by
  unfold zldA at h
  split at h
  · rename_i hx; cases h; exact ⟨_, hx, rfl⟩
  · cases h
theorem zstI_some {ls st : List zV} {i : Nat} {r : List zV × List zV} (h : zstI ls i st = some r) : ∃ x t, st = zi x :: t ∧ i < ls.length ∧ znl (zprev ls i) = true ∧ r = (zput ls i (zi x), t) := by
  unfold zstI at h
  split at h
  · split at h
    · rename_i hx; cases h; exact ⟨_, _, rfl, hx.1, hx.2, rfl⟩
    · cases h
  · cases h
theorem zstA_some {ls st : List zV} {i : Nat} {r : List zV × List zV} (h : zstA ls i st = some r) : ∃ x t, st = zr x :: t ∧ i < ls.length ∧ znl (zprev ls i) = true ∧ r = (zput ls i (zr x), t) := by
  unfold zstA at h
  split at h
  · split at h
    · rename_i hx; cases h; exact ⟨_, _, rfl, hx.1, hx.2, rfl⟩
    · cases h
  · cases h
theorem zstL_some {ls st : List zV} {i : Nat} {r : List zV × List zV} (h : zstL ls i st = some r) : ∃ x t, st = zl x :: t ∧ i + 1 < ls.length ∧ znl (zprev ls i) = true ∧ r = (zput (zput ls i (zl x)) (i + 1) zt, t) := by
  unfold zstL at h
  split at h
  · split at h
    · rename_i hx; cases h; exact ⟨_, _, rfl, hx.1, hx.2, rfl⟩
    · cases h
  · cases h
def ztb (v : zV) : Bool := match v with
  | .inr (.inr (.inr _)) => true
  | _ => false
theorem ztb_iff {v : zV} : ztb v = false ↔ v ≠ zt := by
  unfold ztb zt
  split <;> simp_all
def zlvs (ad : Nat → Nat) (ls : List zV) : List (Nat × Value) := (List.range ls.length).filterMap fun i => match ls[i]? with
  | some v => if ztb v = true then none else some (i, zcv ad v)
  | none => none
theorem zlvs_has {ls : List zV} {lsC : Array Slot} (h : zLoc ad ls lsC) : lv_has lsC ls.length (zlvs ad ls) := by
  refine ⟨h.1, h.2.1, fun q hq => ?_⟩
  obtain ⟨i, -, hi⟩ := List.mem_filterMap.mp hq
  split at hi
  · rename_i v hv
    split at hi
    · cases hi
    · rename_i hz
      cases hi
      exact h.2.2 i v hv (ztb_iff.mp (by simpa using hz))
  · cases hi
theorem zlvs_mem {ls : List zV} {j : Nat} {u : zV} (hj : ls[j]? = some u) (hu : u ≠ zt) : (j, zcv ad u) ∈ zlvs ad ls := by
  refine List.mem_filterMap.mpr ⟨j, List.mem_range.mpr (List.getElem?_eq_some_iff.mp hj).1, ?_⟩
  rw [hj]
  simp [ztb_iff.mpr hu]
/-- the locals behind a store of one word -/
theorem zLoc_put {ls : List zV} {lsC' : Array Slot} {i : Nat} {v : zV} (hi : i < ls.length) (hp : znl (zprev ls i) = true)
    (h0 : lv_has lsC' ls.length ((i, zcv ad v) :: (zlvs ad ls).filter (fun q => !(q.1 == i) && !(q.1 + 1 == i && q.2.category == 2)))) : zLoc ad (zput ls i v) lsC' := by
  refine ⟨by rw [zput_len]; exact h0.1, h0.2.1, fun j u hj hu => ?_⟩
  rw [zput_get] at hj
  by_cases hji : j = i
  · subst hji
    rw [if_pos rfl, if_pos hi] at hj
    cases hj
    exact h0.2.2 (j, zcv ad v) List.mem_cons_self
  · rw [if_neg hji] at hj
    refine h0.2.2 (j, zcv ad u) (List.mem_cons_of_mem _ ?_)
    rw [List.mem_filter]
    refine ⟨zlvs_mem hj hu, ?_⟩
    simp only [Bool.and_eq_true, Bool.not_eq_true', beq_eq_false_iff_ne, Bool.and_eq_false_iff]
    refine ⟨hji, ?_⟩
    by_cases hj2 : j + 1 = i
    · exact Or.inr (zprev_nl hp hj hj2)
    · exact Or.inl hj2
theorem zLoc_put2 {ls : List zV} {lsC' : Array Slot} {i : Nat} {x : Int} (hi : i + 1 < ls.length) (hp : znl (zprev ls i) = true)
    (h0 : lv_has lsC' ls.length ((i, Value.long (Int64.ofInt x)) :: (zlvs ad ls).filter (fun q => !(q.1 == i) && (!(q.1 == i + 1) && !(q.1 + 1 == i && q.2.category == 2))))) : zLoc ad (zput (zput ls i (zl x)) (i + 1) zt) lsC' := by
  refine ⟨by rw [zput_len, zput_len]; exact h0.1, h0.2.1, fun j u hj hu => ?_⟩
  rw [zput_get, zput_len] at hj
  by_cases hj1 : j = i + 1
  · rw [if_pos hj1, if_pos hi] at hj
    cases hj
    exact absurd rfl hu
  · rw [if_neg hj1, zput_get] at hj
    by_cases hji : j = i
    · subst hji
      rw [if_pos rfl, if_pos (by omega)] at hj
      cases hj
      exact h0.2.2 (j, Value.long (Int64.ofInt x)) List.mem_cons_self
    · rw [if_neg hji] at hj
      refine h0.2.2 (j, zcv ad u) (List.mem_cons_of_mem _ ?_)
      rw [List.mem_filter]
      refine ⟨zlvs_mem hj hu, ?_⟩
      simp only [Bool.and_eq_true, Bool.not_eq_true', beq_eq_false_iff_ne, Bool.and_eq_false_iff]
      refine ⟨hji, hj1, ?_⟩
      by_cases hj2 : j + 1 = i
      · exact Or.inr (zprev_nl hp hj hj2)
      · exact Or.inl hj2
theorem zs_loc_ok (hx : p.tables.exec = Jvm.exec) (hb : c.code = cc) {ins : Instr} {ls ls' st st' : List zV} {pc : Nat} {lsC : Array Slot} (hd : decode cc pc = .ok (ins, zlen ins)) (h : zsLoc ins ls st = some (ls', st')) (hL : zLoc ad ls lsC)
    (k : ∀ lsC', zLoc ad ls' lsC' → W p l e R s m args below meth c H locs cells slots Q (F0 m (pc + zlen ins) lsC' (st'.map (zcv ad)))) : W p l e R s m args below meth c H locs cells slots Q (F0 m pc lsC (st.map (zcv ad))) := by
  have hh : lv_has lsC ls.length [] := ⟨hL.1, hL.2.1, fun q hq => absurd hq List.not_mem_nil⟩
  unfold zsLoc at h
  split at h
  · obtain ⟨x, hg, h2⟩ := zldI_some h
    cases h2
    exact lv_iload hx hb hd (zLoc_get hL hg (zi_ne x)) (k _ hL)
  · obtain ⟨x, hg, h2⟩ := zldI_some h
    cases h2
    exact lv_iload_n hx hb hd rfl (zLoc_get hL hg (zi_ne x)) (k _ hL)
  · obtain ⟨x, hg, h2⟩ := zldL_some h
    cases h2
    exact lv_lload hx hb hd (zLoc_get hL hg (zl_ne x)) (k _ hL)
  · obtain ⟨x, hg, h2⟩ := zldL_some h
    cases h2
    exact lv_lload_n hx hb hd rfl (zLoc_get hL hg (zl_ne x)) (k _ hL)
  · obtain ⟨x, hg, h2⟩ := zldA_some h
    cases h2
    exact lv_aload hx hb hd (zLoc_get hL hg (zr_ne x)) (k _ hL)
  · obtain ⟨x, hg, h2⟩ := zldA_some h
    cases h2
    exact lv_aload_n hx hb hd rfl (zLoc_get hL hg (zr_ne x)) (k _ hL)
  · obtain ⟨x, t, rfl, hi, hp, h2⟩ := zstI_some h
    cases h2
    exact lv_istore hx hb hd (zlvs_has hL) hi rfl fun lsC' h' => k _ (zLoc_put hi hp h')
  · obtain ⟨x, t, rfl, hi, hp, h2⟩ := zstI_some h
    cases h2
    exact lv_istore_n hx hb hd rfl (zlvs_has hL) hi rfl fun lsC' h' => k _ (zLoc_put hi hp h')
  · obtain ⟨x, t, rfl, hi, hp, h2⟩ := zstL_some h
    cases h2
    exact lv_lstore hx hb hd (zlvs_has hL) hi rfl fun lsC' h' => k _ (zLoc_put2 hi hp h')
  · obtain ⟨x, t, rfl, hi, hp, h2⟩ := zstL_some h
    cases h2
    exact lv_lstore_n hx hb hd rfl (zlvs_has hL) hi rfl fun lsC' h' => k _ (zLoc_put2 hi hp h')
  · obtain ⟨x, t, rfl, hi, hp, h2⟩ := zstA_some h
    cases h2
    exact lv_astore hx hb hd (zlvs_has hL) hi rfl fun lsC' h' => k _ (zLoc_put hi hp h')
  · obtain ⟨x, t, rfl, hi, hp, h2⟩ := zstA_some h
    cases h2
    exact lv_astore_n hx hb hd rfl (zlvs_has hL) hi rfl fun lsC' h' => k _ (zLoc_put hi hp h')
  · split at h
    · rename_i hg
      split at h
      · rename_i hz
        cases h
        obtain ⟨q, hq, hq2⟩ := List.mem_iff_getElem.mp (zlvs_mem (ad := ad) (zget_some ls _ _ hg (zi_ne _)) (zi_ne _))
        refine lv_iinc hx hb hd (zlvs_has hL) (k := q) (by rw [List.getElem?_eq_getElem hq, hq2]; rfl) rfl hz.1 rfl fun lsC' h' => k _ (zLoc_put hz.1 hz.2 ?_)
        rw [zI_add] at h'
        exact h'
      · cases h
    · cases h
  · cases h
theorem zs_br_ok (hx : p.tables.exec = Jvm.exec) (hb : c.code = cc) {ins : Instr} {st st' : List zV} {pc pc' len : Nat} {lsC : Array Slot} (hd : decode cc pc = .ok (ins, len)) (hlen : len = zlen ins ∨ ∃ a b x y, ins = .tableswitch a b x y) (hr : zrng ins pc = true) (h : zsBr ins pc st = some (pc', st'))
    (k : W p l e R s m args below meth c H locs cells slots Q (F0 m pc' lsC (st'.map (zcv ad)))) : W p l e R s m args below meth c H locs cells slots Q (F0 m pc lsC (st.map (zcv ad))) := by
  have ht : ∀ o : Int, 0 ≤ (pc : Int) + o → (pc : Int) + o = (ztgt pc o : Int) := fun o ho => by unfold ztgt; omega
  unfold zsBr at h
  split at h
  · cases h
    obtain rfl : len = 3 := by rcases hlen with h | ⟨_, _, _, _, h⟩; exact h; cases h
    exact lv_goto hx hb hd (ht _ (of_decide_eq_true hr)) k
  · split at h
    · rename_i cd off _ b a t
      obtain rfl : len = 3 := by rcases hlen with h | ⟨_, _, _, _, h⟩; exact h; cases h
      have ht2 := ht _ (of_decide_eq_true hr)
      simp only [Option.some.injEq, Prod.mk.injEq] at h
      obtain ⟨h1, rfl⟩ := h
      subst h1
      cases cd
      · refine lv_icmp_eq hx hb hd ht2 (fun hc => ?_) (fun hc => ?_) <;> rw [zI_eqi] at hc <;> simpa [zcndB, hc] using k
      · refine lv_icmp_ne hx hb hd ht2 (fun hc => ?_) (fun hc => ?_) <;> simp only [ne_eq, zI_eqi, Decidable.not_not] at hc <;> simpa [zcndB, hc] using k
      · refine lv_icmp_lt hx hb hd ht2 (fun hc => ?_) (fun hc => ?_) <;> rw [zI_lt] at hc <;> simpa [zcndB, hc] using k
      · refine lv_icmp_ge hx hb hd ht2 (fun hc => ?_) (fun hc => ?_) <;> rw [zI_le] at hc <;> simpa [zcndB, hc] using k
      · refine lv_icmp_gt hx hb hd ht2 (fun hc => ?_) (fun hc => ?_) <;> rw [zI_lt] at hc <;> simpa [zcndB, hc] using k
      · refine lv_icmp_le hx hb hd ht2 (fun hc => ?_) (fun hc => ?_) <;> rw [zI_le] at hc <;> simpa [zcndB, hc] using k
    · cases h
  · split at h
    · rename_i cd off _ a t
      obtain rfl : len = 3 := by rcases hlen with h | ⟨_, _, _, _, h⟩; exact h; cases h
      have ht2 := ht _ (of_decide_eq_true hr)
      simp only [Option.some.injEq, Prod.mk.injEq] at h
      obtain ⟨h1, rfl⟩ := h
      subst h1
      have e0 : (0 : Int32) = Int32.ofInt 0 := rfl
      have z0 : z32 0 = 0 := rfl
      cases cd
      · refine lv_if_eq hx hb hd ht2 (fun hc => ?_) (fun hc => ?_) <;> rw [e0, zI_eqi, z0] at hc <;> simpa [zcndB, hc] using k
      · refine lv_if_ne hx hb hd ht2 (fun hc => ?_) (fun hc => ?_) <;> simp only [ne_eq, e0, zI_eqi, z0, Decidable.not_not] at hc <;> simpa [zcndB, hc] using k
      · refine lv_if_lt hx hb hd ht2 (fun hc => ?_) (fun hc => ?_) <;> rw [e0, zI_lt, z0] at hc <;> simpa [zcndB, hc] using k
      · refine lv_if_ge hx hb hd ht2 (fun hc => ?_) (fun hc => ?_) <;> rw [e0, zI_le, z0] at hc <;> simpa [zcndB, hc] using k
      · refine lv_if_gt hx hb hd ht2 (fun hc => ?_) (fun hc => ?_) <;> rw [e0, zI_lt, z0] at hc <;> simpa [zcndB, hc] using k
      · refine lv_if_le hx hb hd ht2 (fun hc => ?_) (fun hc => ?_) <;> rw [e0, zI_le, z0] at hc <;> simpa [zcndB, hc] using k
    · cases h
  · split at h
    · rename_i dflt lo hi offs _ a t
      have hr := of_decide_eq_true hr
      simp only [Option.some.injEq, Prod.mk.injEq] at h
      obtain ⟨h1, rfl⟩ := h
      by_cases hc : z32 a < lo ∨ hi < z32 a
      · rw [if_pos hc] at h1
        subst h1
        exact lv_tableOut hx hb hd (by rw [zI_toInt]; exact hc) (ht _ hr.1) k
      · rw [if_neg hc] at h1
        subst h1
        have hlt : (z32 a - lo).toNat < offs.size := by omega
        have ho : offs[(z32 a - lo).toNat]? = some (offs.toList.getD (z32 a - lo).toNat 0) := by
          rw [List.getD_eq_getElem?_getD, Array.getElem?_toList, Array.getElem?_eq_getElem hlt]; rfl
        have hmem : offs.toList.getD (z32 a - lo).toNat 0 ∈ offs.toList := by
          refine List.mem_of_getElem? (i := (z32 a - lo).toNat) ?_
          rw [Array.getElem?_toList]; exact ho
        exact lv_tableIn hx hb hd (by rw [zI_toInt]; omega) (by rw [zI_toInt]; omega) (by rw [zI_toInt]; exact ho) (ht _ (hr.2.2 _ hmem)) k
    · cases h
  · cases h
end ZStk
