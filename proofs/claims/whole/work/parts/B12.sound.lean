/-! Calls, and the whole: what the small machine runs, the machine runs. -/
theorem zfind_mem : ∀ (l : List zE) (pc : Nat) (x : Instr × Nat × List Int), zfind l pc = some x → (pc, x) ∈ l
  | [], _, _, h => by cases h
  | (q, e) :: l, pc, x, h => by
    unfold zfind at h
    split at h
    · rename_i hq; subst hq; cases h; exact List.mem_cons_self
    · exact List.mem_cons_of_mem _ (zfind_mem l pc x h)
theorem zlay_args (ad : Nat → Nat) : ∀ (as : List zV) (k i : Nat) (v : zV), (zlay as)[i]? = some v → v ≠ zt → (k + i, zcv ad v) ∈ lv_args k (as.map (zcv ad))
  | [], k, i, v, h, _ => by simp [zlay] at h
  | .inl x :: as, k, i, v, h, hv => by
    cases i with
    | zero => cases h; exact List.mem_cons_self
    | succ i =>
      have h1 := zlay_args ad as (k + 1) i v h hv
      rw [show k + (i + 1) = k + 1 + i by omega]
      exact List.mem_cons_of_mem _ h1
  | .inr (.inl x) :: as, k, i, v, h, hv => by
    cases i with
    | zero => cases h; exact List.mem_cons_self
    | succ i =>
      cases i with
      | zero => cases h; exact absurd rfl hv
      | succ i =>
        have h1 := zlay_args ad as (k + 2) i v h hv
        rw [show k + (i + 1 + 1) = k + 2 + i by omega]
        exact List.mem_cons_of_mem _ h1
  | .inr (.inr (.inl x)) :: as, k, i, v, h, hv => by
    cases i with
    | zero => cases h; exact List.mem_cons_self
    | succ i =>
      have h1 := zlay_args ad as (k + 1) i v h hv
      rw [show k + (i + 1) = k + 1 + i by omega]
      exact List.mem_cons_of_mem _ h1
  | .inr (.inr (.inr x)) :: as, k, i, v, h, hv => by
    cases i with
    | zero => cases h; exact absurd rfl hv
    | succ i =>
      have h1 := zlay_args ad as (k + 1) i v h hv
      rw [show k + (i + 1) = k + 1 + i by omega]
      exact List.mem_cons_of_mem _ h1
theorem zlay_len (ad : Nat → Nat) : ∀ as : List zV, (lg_sl (as.map (zcv ad))).length = (zlay as).length
  | [] => rfl
  | .inl x :: as => by
    show ([Slot.val (Value.int (Int32.ofInt x))] ++ lg_sl (as.map (zcv ad))).length = (zlay as).length + 1
    rw [List.length_append, zlay_len ad as]; simp; omega
  | .inr (.inl x) :: as => by
    show ([Slot.val (Value.long (Int64.ofInt x)), .second] ++ lg_sl (as.map (zcv ad))).length = (zlay as).length + 1 + 1
    rw [List.length_append, zlay_len ad as]; simp; omega
  | .inr (.inr (.inl x)) :: as => by
    show ([Slot.val (Value.ref (ad x))] ++ lg_sl (as.map (zcv ad))).length = (zlay as).length + 1
    rw [List.length_append, zlay_len ad as]; simp; omega
  | .inr (.inr (.inr x)) :: as => by
    show ([Slot.val Value.null] ++ lg_sl (as.map (zcv ad))).length = (zlay as).length + 1
    rw [List.length_append, zlay_len ad as]; simp; omega
theorem zpad_len : ∀ (n : Nat) (l : List zV), l.length ≤ n → (zpad n l).length = n
  | n, [], _ => by simp [zpad]
  | 0, a :: l, h => absurd h (by simp)
  | n + 1, a :: l, h => by
    show (zpad n l).length + 1 = n + 1
    rw [zpad_len n l (by simpa using h)]
theorem zpad_get : ∀ (n : Nat) (l : List zV) (i : Nat) (v : zV), (zpad n l)[i]? = some v → v ≠ zt → l[i]? = some v
  | n, [], i, v, h, hv => by
    simp only [zpad, List.getElem?_replicate] at h
    split at h
    · cases h; exact absurd rfl hv
    · cases h
  | 0, a :: l, i, v, h, _ => h
  | n + 1, a :: l, 0, v, h, _ => h
  | n + 1, a :: l, i + 1, v, h, hv => zpad_get n l i v h hv
theorem zLoc_entry (ad : Nat → Nat) {as : List zV} {n : Nat} (h : (zlay as).length ≤ n) : zLoc ad (zpad n (zlay as)) ((lg_sl (as.map (zcv ad)) ++ List.replicate (n - (lg_sl (as.map (zcv ad))).length) Slot.unset).toArray) := by
  have hl := lv_entry (as.map (zcv ad)) (n := n) (by rw [zlay_len]; exact h)
  refine ⟨by rw [zpad_len n _ h]; exact hl.1, hl.2.1, fun i v hi hv => ?_⟩
  have h1 := zlay_args ad as 0 i v (zpad_get n _ i v hi hv) hv
  rw [Nat.zero_add] at h1
  exact hl.2.2 _ h1
theorem zsLoc_len {ins : Instr} {ls ls' st st' : List zV} (h : zsLoc ins ls st = some (ls', st')) : ls'.length = ls.length := by
  have aI : ∀ i, zldI ls i st = some (ls', st') → ls'.length = ls.length := fun i h => by obtain ⟨x, -, h2⟩ := zldI_some h; cases h2; rfl
  have aL : ∀ i, zldL ls i st = some (ls', st') → ls'.length = ls.length := fun i h => by obtain ⟨x, -, h2⟩ := zldL_some h; cases h2; rfl
  have aA : ∀ i, zldA ls i st = some (ls', st') → ls'.length = ls.length := fun i h => by obtain ⟨x, -, h2⟩ := zldA_some h; cases h2; rfl
  have bI : ∀ i, zstI ls i st = some (ls', st') → ls'.length = ls.length := fun i h => by obtain ⟨x, t, -, -, -, h2⟩ := zstI_some h; cases h2; exact zput_len _ _ _
  have bL : ∀ i, zstL ls i st = some (ls', st') → ls'.length = ls.length := fun i h => by obtain ⟨x, t, -, -, -, h2⟩ := zstL_some h; cases h2; rw [zput_len, zput_len]
  have bA : ∀ i, zstA ls i st = some (ls', st') → ls'.length = ls.length := fun i h => by obtain ⟨x, t, -, -, -, h2⟩ := zstA_some h; cases h2; exact zput_len _ _ _
  unfold zsLoc at h
  split at h
  · exact aI _ h
  · exact aI _ h
  · exact aL _ h
  · exact aL _ h
  · exact aA _ h
  · exact aA _ h
  · exact bI _ h
  · exact bI _ h
  · exact bL _ h
  · exact bL _ h
  · exact bA _ h
  · exact bA _ h
  · split at h
    · split at h
      · cases h; exact zput_len _ _ _
      · cases h
    · cases h
  · cases h
/-- nothing is taken away from the shapes -/
theorem zsMem_pre {ins : Instr} {aux : List Int} {st st' : List zV} {w w' : zW} {M M' : zM} (h : zsMem ins aux st w M = some (st', w', M')) : ∃ x, w'.1 = w.1 ++ x := by
  unfold zsMem at h
  repeat' split at h
  all_goals first
    | (cases h; done)
    | (cases h; exact ⟨[], (List.append_nil _).symm⟩)
    | (cases h; exact ⟨_, rfl⟩)
theorem zrun_pre (T : Nat → zX) : ∀ (n d x pc : Nat) (ls st : List zV) (w : zW) (M : zM) (r : Option zV) (w' : zW) (M' : zM), zrun T n d x pc ls st w M = some (r, w', M') → ∃ x, w'.1 = w.1 ++ x := by
  intro n
  induction n with
  | zero => intro d x pc ls st w M r w' M' h; simp [zrun] at h
  | succ n ih =>
    intro d x pc ls st w M r w' M' h
    rw [zrun] at h
    split at h
    · cases h
    · split at h
      · exact ih _ _ _ _ _ _ _ _ _ _ h
      · split at h
        · exact ih _ _ _ _ _ _ _ _ _ _ h
        · split at h
          · exact ih _ _ _ _ _ _ _ _ _ _ h
          · split at h
            · rename_i hm
              obtain ⟨y, hy⟩ := zsMem_pre hm
              obtain ⟨z, hz⟩ := ih _ _ _ _ _ _ _ _ _ _ h
              exact ⟨y ++ z, by rw [hz, hy, List.append_assoc]⟩
            · split at h
              · cases h; exact ⟨[], (List.append_nil _).symm⟩
              · split at h
                · split at h
                  · exact ih _ _ _ _ _ _ _ _ _ _ h
                  · cases h
                · split at h
                  · cases h
                  · cases d with
                    | zero => cases h
                    | succ d' =>
                      simp only at h
                      split at h
                      · split at h
                        · cases h
                        · rename_i h8
                          obtain ⟨y, hy⟩ := ih _ _ _ _ _ _ _ _ _ _ h8
                          obtain ⟨z, hz⟩ := ih _ _ _ _ _ _ _ _ _ _ h
                          exact ⟨y ++ z, by rw [hz, hy, List.append_assoc]⟩
                      · cases h
