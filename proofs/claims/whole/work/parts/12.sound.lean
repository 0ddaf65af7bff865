/-! Calls, and the whole: what the small machine runs, the machine runs. -/
def zretB (ins : Instr) (ret : Option FieldType) : Bool := match ins with
  | .ireturn => decide (ret = some .int) || decide (ret = some .boolean)
  | .lreturn => decide (ret = some .long)
  | .return_ => decide (ret = none)
  | _ => true
def zpar (y : MethodName) : Option Nat := (parseMethodDescriptor y.desc).map fun d => d.parameters.length
def zokC (T : Nat → zX) (N : Nat) (own : String) (ins : Instr) (aux : List Int) : Bool := match ins with
  | .invokestatic idx => match aux with
    | [y, n, _, nest, q1, q2, _, q4] => decide (0 ≤ y ∧ y.toNat < N) && ((if nest = 0 then decide (zq q1 = some (.methodLink own idx (T y.toNat).1)) else decide (Cond.methodLinkNest own idx (T y.toNat).1 "WheelStore" ∈ zNest)) && (decide (zq q2 = some (.static (T y.toNat).1)) && (decide (zq q4 = some (.initialized (T y.toNat).1.cls)) && decide (zpar (T y.toNat).1 = some n.toNat))))
    | _ => false
  | .invokevirtual idx => match aux with
    | [y, n, c, _, q1, q2, q3, q4] => decide (0 ≤ y ∧ y.toNat < N) && (decide (zq q1 = some (.methodLink own idx (T y.toNat).1)) && (decide (zq q2 = some (.instanceMethod (T y.toNat).1)) && (decide (zq q3 = some (.selects (T y.toNat).1.cls (T y.toNat).1 (T y.toNat).1)) && (decide (zq q4 = some (.initialized (T y.toNat).1.cls)) && (decide ((vwCl[c.toNat]?).map (fun r => r.1) = some (T y.toNat).1.cls) && decide ((zpar (T y.toNat).1).map (fun k => k + 1) = some n.toNat))))))
    | [y, q] => (decide (y = -2) && decide (zq q = some (.methodLink own idx ⟨"java/lang/String", "length", "()I"⟩))) || (decide (y = -3) && decide (zq q = some (.methodLink own idx ⟨"java/lang/String", "charAt", "(I)C"⟩)))
    | _ => false
  | .invokespecial idx => match aux with
    | [y, n, c, nest, q1, q2, _, q4] => decide (0 ≤ y ∧ y.toNat < N) && ((if nest = 0 then decide (zq q1 = some (.methodLink own idx (T y.toNat).1)) else decide (Cond.methodLinkNest own idx (T y.toNat).1 "WheelStore" ∈ zNest)) && (decide (zq q2 = some (.instanceMethod (T y.toNat).1)) && (decide ((T y.toNat).1.name = "<init>" ∧ (T y.toNat).2.2.2.1 = none) && (decide (zq q4 = some (.initialized (T y.toNat).1.cls)) && (decide ((vwCl[c.toNat]?).map (fun r => r.1) = some (T y.toNat).1.cls) && decide ((zpar (T y.toNat).1).map (fun k => k + 1) = some n.toNat))))))
    | [y, q1, q2, q3] => decide (y = -1) && (decide (zq q1 = some (.methodLink own idx Lib.objectInit)) && (decide (zq q2 = some (.instanceMethod Lib.objectInit)) && decide (zq q3 = some (.code Lib.objectInit ⟨#[0xb1]⟩ 1 none))))
    | _ => false
  | _ => true
def zisSw (ins : Instr) : Bool := match ins with
  | .tableswitch _ _ _ _ => true
  | _ => false
/-- a row of a method's list is right -/
def zokE (T : Nat → zX) (N : Nat) (r : zX) (e : zE) : Bool :=
  decide (decode r.2.1 e.1 = .ok (e.2.1, e.2.2.1)) && ((decide (e.2.2.1 = zlen e.2.1) || zisSw e.2.1) && (zrng e.2.1 e.1 && (zokM r.1.cls (decide (r.1.name = "<init>")) e.2.1 e.2.2.2 && (zokC T N r.1.cls e.2.1 e.2.2.2 && zretB e.2.1 r.2.2.2.1))))
/-- a method that may be called -/
def zokX (r : zX) : Bool := decide (plainName r.1.cls = true ∧ r.1.cls ≠ "java/lang/invoke/MethodHandle" ∧ r.1.cls ≠ "java/lang/invoke/VarHandle") && (decide (zq r.2.2.2.2.1 = some (.code r.1 r.2.1 r.2.2.1 r.2.2.2.1)) && decide (r.2.2.1 ≤ 60))
theorem zfind_mem : ∀ (l : List zE) (pc : Nat) (x : Instr × Nat × List Int), zfind l pc = some x → (pc, x) ∈ l
  | [], _, _, h => by cases h
  | (q, e) :: l, pc, x, h => by
    unfold zfind at h
    split at h
    · rename_i hq; subst hq; cases h; exact List.mem_cons_self
    · exact List.mem_cons_of_mem _ (zfind_mem l pc x h)
theorem zlay_args (ad : Nat → Nat) : ∀ (as : List zV) (k i : Nat) (v : zV), (zlay as)[i]? = some v → v ≠ zt → (k + i, zcv ad v) ∈ lv_args k (as.map (zcv ad))
  | [], k, i, v, h, _ => by simp [zlay] at h
  | .inl x :: as, k, i, v, h, hv => by
    cases i with
    | zero => cases h; exact List.mem_cons_self
    | succ i =>
      have h1 := zlay_args ad as (k + 1) i v h hv
      rw [show k + (i + 1) = k + 1 + i by omega]
      exact List.mem_cons_of_mem _ h1
  | .inr (.inl x) :: as, k, i, v, h, hv => by
    cases i with
    | zero => cases h; exact List.mem_cons_self
    | succ i =>
      cases i with
      | zero => cases h; exact absurd rfl hv
      | succ i =>
        have h1 := zlay_args ad as (k + 2) i v h hv
        rw [show k + (i + 1 + 1) = k + 2 + i by omega]
        exact List.mem_cons_of_mem _ h1
  | .inr (.inr (.inl x)) :: as, k, i, v, h, hv => by
    cases i with
    | zero => cases h; exact List.mem_cons_self
    | succ i =>
      have h1 := zlay_args ad as (k + 1) i v h hv
      rw [show k + (i + 1) = k + 1 + i by omega]
      exact List.mem_cons_of_mem _ h1
  | .inr (.inr (.inr x)) :: as, k, i, v, h, hv => by
    cases i with
    | zero => cases h; exact absurd rfl hv
    | succ i =>
      have h1 := zlay_args ad as (k + 1) i v h hv
      rw [show k + (i + 1) = k + 1 + i by omega]
      exact List.mem_cons_of_mem _ h1
theorem zlay_len (ad : Nat → Nat) : ∀ as : List zV, (lg_sl (as.map (zcv ad))).length = (zlay as).length
  | [] => rfl
  | .inl x :: as => by
    show ([Slot.val (Value.int (Int32.ofInt x))] ++ lg_sl (as.map (zcv ad))).length = (zlay as).length + 1
    rw [List.length_append, zlay_len ad as]; simp; omega
  | .inr (.inl x) :: as => by
    show ([Slot.val (Value.long (Int64.ofInt x)), .second] ++ lg_sl (as.map (zcv ad))).length = (zlay as).length + 1 + 1
    rw [List.length_append, zlay_len ad as]; simp; omega
  | .inr (.inr (.inl x)) :: as => by
    show ([Slot.val (Value.ref (ad x))] ++ lg_sl (as.map (zcv ad))).length = (zlay as).length + 1
    rw [List.length_append, zlay_len ad as]; simp; omega
  | .inr (.inr (.inr x)) :: as => by
    show ([Slot.val Value.null] ++ lg_sl (as.map (zcv ad))).length = (zlay as).length + 1
    rw [List.length_append, zlay_len ad as]; simp; omega
theorem zpad_len : ∀ (n : Nat) (l : List zV), l.length ≤ n → (zpad n l).length = n
  | n, [], _ => by simp [zpad]
  | 0, a :: l, h => absurd h (by simp)
  | n + 1, a :: l, h => by
    show (zpad n l).length + 1 = n + 1
    rw [zpad_len n l (by simpa using h)]
theorem zpad_get : ∀ (n : Nat) (l : List zV) (i : Nat) (v : zV), (zpad n l)[i]? = some v → v ≠ zt → l[i]? = some v
  | n, [], i, v, h, hv => by
    simp only [zpad, List.getElem?_replicate] at h
    split at h
    · cases h; exact absurd rfl hv
    · cases h
  | 0, a :: l, i, v, h, _ => h
  | n + 1, a :: l, 0, v, h, _ => h
  | n + 1, a :: l, i + 1, v, h, hv => zpad_get n l i v h hv
theorem zLoc_entry (ad : Nat → Nat) {as : List zV} {n : Nat} (h : (zlay as).length ≤ n) : zLoc ad (zpad n (zlay as)) ((lg_sl (as.map (zcv ad)) ++ List.replicate (n - (lg_sl (as.map (zcv ad))).length) Slot.unset).toArray) := by
  have hl := lv_entry (as.map (zcv ad)) (n := n) (by rw [zlay_len]; exact h)
  refine ⟨by rw [zpad_len n _ h]; exact hl.1, hl.2.1, fun i v hi hv => ?_⟩
  have h1 := zlay_args ad as 0 i v (zpad_get n _ i v hi hv) hv
  rw [Nat.zero_add] at h1
  exact hl.2.2 _ h1
theorem zsLoc_len {ins : Instr} {ls ls' st st' : List zV} (h : zsLoc ins ls st = some (ls', st')) : ls'.length = ls.length := by
  have aI : ∀ i, zldI ls i st = some (ls', st') → ls'.length = ls.length := fun i h => by obtain ⟨x, -, h2⟩ := zldI_some h; cases h2; rfl
  have aL : ∀ i, zldL ls i st = some (ls', st') → ls'.length = ls.length := fun i h => by obtain ⟨x, -, h2⟩ := zldL_some h; cases h2; rfl
  have aA : ∀ i, zldA ls i st = some (ls', st') → ls'.length = ls.length := fun i h => by obtain ⟨x, -, h2⟩ := zldA_some h; cases h2; rfl
  have bI : ∀ i, zstI ls i st = some (ls', st') → ls'.length = ls.length := fun i h => by obtain ⟨x, t, -, -, -, h2⟩ := zstI_some h; cases h2; exact zput_len _ _ _
  have bL : ∀ i, zstL ls i st = some (ls', st') → ls'.length = ls.length := fun i h => by obtain ⟨x, t, -, -, -, h2⟩ := zstL_some h; cases h2; rw [zput_len, zput_len]
  have bA : ∀ i, zstA ls i st = some (ls', st') → ls'.length = ls.length := fun i h => by obtain ⟨x, t, -, -, -, h2⟩ := zstA_some h; cases h2; exact zput_len _ _ _
  unfold zsLoc at h
  split at h
  · exact aI _ h
  · exact aI _ h
  · exact aL _ h
  · exact aL _ h
  · exact aA _ h
  · exact aA _ h
  · exact bI _ h
  · exact bI _ h
  · exact bL _ h
  · exact bL _ h
  · exact bA _ h
  · exact bA _ h
  · split at h
    · split at h
      · cases h; exact zput_len _ _ _
      · cases h
    · cases h
  · cases h
/-- nothing is taken away from the shapes -/
theorem zsMem_pre {ins : Instr} {aux : List Int} {st st' : List zV} {w w' : zW} {M M' : zM} (h : zsMem ins aux st w M = some (st', w', M')) : ∃ x, w'.1 = w.1 ++ x := by
  unfold zsMem at h
  repeat' split at h
  all_goals first
    | (cases h; done)
    | (cases h; exact ⟨[], (List.append_nil _).symm⟩)
    | (cases h; exact ⟨_, rfl⟩)
theorem zrun_pre (T : Nat → zX) : ∀ (n d x pc : Nat) (ls st : List zV) (w : zW) (M : zM) (r : Option zV) (w' : zW) (M' : zM), zrun T n d x pc ls st w M = some (r, w', M') → ∃ x, w'.1 = w.1 ++ x := by
  intro n
  induction n with
  | zero => intro d x pc ls st w M r w' M' h; simp [zrun] at h
  | succ n ih =>
    intro d x pc ls st w M r w' M' h
    rw [zrun] at h
    split at h
    · cases h
    · split at h
      · exact ih _ _ _ _ _ _ _ _ _ _ h
      · split at h
        · exact ih _ _ _ _ _ _ _ _ _ _ h
        · split at h
          · exact ih _ _ _ _ _ _ _ _ _ _ h
          · split at h
            · rename_i hm
              obtain ⟨y, hy⟩ := zsMem_pre hm
              obtain ⟨z, hz⟩ := ih _ _ _ _ _ _ _ _ _ _ h
              exact ⟨y ++ z, by rw [hz, hy, List.append_assoc]⟩
            · split at h
              · cases h; exact ⟨[], (List.append_nil _).symm⟩
              · split at h
                · split at h
                  · exact ih _ _ _ _ _ _ _ _ _ _ h
                  · cases h
                · split at h
                  · cases h
                  · cases d with
                    | zero => cases h
                    | succ d' =>
                      simp only at h
                      split at h
                      · split at h
                        · cases h
                        · rename_i h8
                          obtain ⟨y, hy⟩ := ih _ _ _ _ _ _ _ _ _ _ h8
                          obtain ⟨z, hz⟩ := ih _ _ _ _ _ _ _ _ _ _ h
                          exact ⟨y ++ z, by rw [hz, hy, List.append_assoc]⟩
                      · cases h
