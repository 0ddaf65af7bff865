/-! Stack, locals, branches: a step of the small machine is a step of the machine. -/
def zlen (ins : Instr) : Nat := match ins with
  | .bipush _ => 2
  | .iload _ => 2
  | .istore _ => 2
  | .lload _ => 2
  | .lstore _ => 2
  | .aload _ => 2
  | .astore _ => 2
  | .newarray _ => 2
  | .ldc _ => 2
  | .sipush _ => 3
  | .iinc _ _ => 3
  | .goto _ => 3
  | .if_icmp _ _ => 3
  | .ifCond _ _ => 3
  | .getfield _ => 3
  | .putfield _ => 3
  | .new _ => 3
  | .invokevirtual _ => 3
  | .invokestatic _ => 3
  | .invokespecial _ => 3
  | .ldc_w _ => 3
  | .ldc2_w _ => 3
  | .multianewarray _ _ => 4
  | _ => 1
theorem zb2_some {f : Int → Int → Int} {st st' : List zV} (h : zb2 f st = some st') : ∃ a b t, st = zi b :: zi a :: t ∧ st' = zi (f a b) :: t := by
  unfold zb2 at h
  split at h
  · cases h; exact ⟨_, _, _, rfl, rfl⟩
  · cases h
theorem zb2d_some {f : Int → Int → Int} {st st' : List zV} (h : zb2d f st = some st') : ∃ a b t, st = zi b :: zi a :: t ∧ st' = zi (f a b) :: t ∧ ¬ z32 b = 0 := by
  unfold zb2d at h
  split at h
  · split at h
    · cases h
    · rename_i hb; cases h; exact ⟨_, _, _, rfl, rfl, hb⟩
  · cases h
theorem zB2_some {f : Int → Int → Int} {st st' : List zV} (h : zB2 f st = some st') : ∃ a b t, st = zl b :: zl a :: t ∧ st' = zl (f a b) :: t := by
  unfold zB2 at h
  split at h
  · cases h; exact ⟨_, _, _, rfl, rfl⟩
  · cases h
theorem zB2d_some {f : Int → Int → Int} {st st' : List zV} (h : zB2d f st = some st') : ∃ a b t, st = zl b :: zl a :: t ∧ st' = zl (f a b) :: t ∧ ¬ z64 b = 0 := by
  unfold zB2d at h
  split at h
  · split at h
    · cases h
    · rename_i hb; cases h; exact ⟨_, _, _, rfl, rfl, hb⟩
  · cases h
theorem zi1_some {f : Int → zV} {st st' : List zV} (h : zi1 f st = some st') : ∃ a t, st = zi a :: t ∧ st' = f a :: t := by
  unfold zi1 at h
  split at h
  · cases h; exact ⟨_, _, rfl, rfl⟩
  · cases h
def zrng (ins : Instr) (pc : Nat) : Bool := match ins with
  | .bipush n => decide (-128 ≤ n ∧ n ≤ 127)
  | .sipush n => decide (-32768 ≤ n ∧ n ≤ 32767)
  | .goto o => decide (0 ≤ (pc : Int) + o)
  | .if_icmp _ o => decide (0 ≤ (pc : Int) + o)
  | .ifCond _ o => decide (0 ≤ (pc : Int) + o)
  | .tableswitch d lo hi offs => decide (0 ≤ (pc : Int) + d ∧ hi - lo + 1 = offs.size ∧ ∀ o ∈ offs.toList, 0 ≤ (pc : Int) + o)
  | _ => true
section ZStk
variable {p : Program} {l : Launch} {e : Env} {R : Room} {s : State} {m : MethodId} {args : Array Value} {below : List Frame} {meth : Method} {c : Code} {H : Heap} {locs : List Loc} {cells slots : Nat} {Q : State → Prop} {cc : ByteArray} {ad : Nat → Nat}
theorem zs_stk_ok (hx : p.tables.exec = Jvm.exec) (hb : c.code = cc) {ins : Instr} {st st' : List zV} {pc : Nat} {lsC : Array Slot} (hd : decode cc pc = .ok (ins, zlen ins)) (hr : zrng ins pc = true) (h : zsStk ins st = some st')
    (k : W p l e R s m args below meth c H locs cells slots Q (F0 m (pc + zlen ins) lsC (st'.map (zcv ad)))) : W p l e R s m args below meth c H locs cells slots Q (F0 m pc lsC (st.map (zcv ad))) := by
  unfold zsStk at h
  split at h
  · cases h; exact lv_iconst hx hb hd rfl k
  · cases h
    have hr := of_decide_eq_true hr
    exact lv_bipush hx hb hd (zI_bi hr.1 hr.2) k
  · cases h
    have hr := of_decide_eq_true hr
    exact lv_sipush hx hb hd (zI_si hr.1 hr.2) k
  · cases h; exact lv_lconst hx hb hd rfl k
  · obtain ⟨a, b, t, rfl, rfl⟩ := zb2_some h
    refine lv_iadd hx hb hd ?_
    rw [zI_add]; exact k
  · obtain ⟨a, b, t, rfl, rfl⟩ := zb2_some h
    refine lv_isub hx hb hd ?_
    rw [zI_sub]; exact k
  · obtain ⟨a, b, t, rfl, rfl⟩ := zb2_some h
    refine lv_imul hx hb hd ?_
    rw [zI_mul]; exact k
  · obtain ⟨a, b, t, rfl, rfl, hn⟩ := zb2d_some h
    refine lv_idiv hx hb hd (zI_zero hn) ?_
    rw [zI_div]; exact k
  · obtain ⟨a, b, t, rfl, rfl, hn⟩ := zb2d_some h
    refine lv_irem hx hb hd (zI_zero hn) ?_
    rw [zI_rem]; exact k
  · obtain ⟨a, b, t, rfl, rfl⟩ := zb2_some h
    refine lv_iand hx hb hd ?_
    rw [← zI_back (Int32.ofInt a &&& Int32.ofInt b)]; exact k
  · obtain ⟨a, b, t, rfl, rfl⟩ := zb2_some h
    refine lv_ior hx hb hd ?_
    rw [← zI_back (Int32.ofInt a ||| Int32.ofInt b)]; exact k
  · obtain ⟨a, b, t, rfl, rfl⟩ := zb2_some h
    refine lv_ixor hx hb hd ?_
    rw [← zI_back (Int32.ofInt a ^^^ Int32.ofInt b)]; exact k
  · obtain ⟨a, b, t, rfl, rfl⟩ := zb2_some h
    refine lv_ishl hx hb hd ?_
    rw [← zI_back (Int32.ofInt a <<< (Int32.ofInt b &&& 31))]; exact k
  · obtain ⟨a, b, t, rfl, rfl⟩ := zb2_some h
    refine lv_ishr hx hb hd ?_
    rw [← zI_back (Int32.ofInt a >>> (Int32.ofInt b &&& 31))]; exact k
  · obtain ⟨a, b, t, rfl, rfl⟩ := zb2_some h
    exact lv_iushr hx hb hd (zI_back _).symm k
  · obtain ⟨a, t, rfl, rfl⟩ := zi1_some h
    refine lv_ineg hx hb hd ?_
    rw [zI_neg]; exact k
  · obtain ⟨a, t, rfl, rfl⟩ := zi1_some h
    exact lv_i2l hx hb hd (zI_i2l a) k
  · obtain ⟨a, t, rfl, rfl⟩ := zi1_some h
    exact lv_i2b hx hb hd (zI_i2b a) k
  · obtain ⟨a, b, t, rfl, rfl⟩ := zB2_some h
    refine lv_ladd hx hb hd ?_
    rw [zL_add]; exact k
  · obtain ⟨a, b, t, rfl, rfl⟩ := zB2_some h
    refine lv_lsub hx hb hd ?_
    rw [zL_sub]; exact k
  · obtain ⟨a, b, t, rfl, rfl⟩ := zB2_some h
    refine lv_lmul hx hb hd ?_
    rw [zL_mul]; exact k
  · obtain ⟨a, b, t, rfl, rfl, hn⟩ := zB2d_some h
    refine lv_ldiv hx hb hd (zL_zero hn) ?_
    rw [zL_div]; exact k
  · obtain ⟨a, b, t, rfl, rfl, hn⟩ := zB2d_some h
    refine lv_lrem hx hb hd (zL_zero hn) ?_
    rw [zL_rem]; exact k
  · obtain ⟨a, b, t, rfl, rfl⟩ := zB2_some h
    refine lv_lor hx hb hd ?_
    rw [← zL_back (Int64.ofInt a ||| Int64.ofInt b)]; exact k
  · split at h
    · cases h
      refine lv_lneg hx hb hd ?_
      rw [zL_neg]; exact k
    · cases h
  · split at h
    · cases h
      exact lv_lshl hx hb hd (zL_back _).symm k
    · cases h
  · split at h
    · cases h
      refine W.lcmp hx hb hd ?_
      rw [zL_cmp]; exact k
    · cases h
  · split at h
    · cases h; exact lv_dup hx hb hd rfl k
    · cases h; exact lv_dup hx hb hd rfl k
    · cases h
  · split at h
    · cases h; exact lv_dup2_11 hx hb hd rfl rfl k
    · cases h
  · split at h
    · cases h; exact lv_pop hx hb hd rfl k
    · cases h; exact lv_pop hx hb hd rfl k
    · cases h
  · cases h
end ZStk
