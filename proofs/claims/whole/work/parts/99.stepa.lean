/-! Acts of both sides, between two states. -/
section ZSa
variable {d L : Nat} {hist : Nat → Nat → Int} {fi kp tk n : Nat} {B : Nat → Int} {v : Int} {bw bw' : Bool} {M M' M1 : zM} {R R' : Nat → Int} {Q : Option zV → zW → zM → Prop} {a b c e t y : Int}
theorem zXM_act (h : zXM hist kp tk n B M) (f : zFma M M') (hm : zMA (zhA hist kp R') (zkA kp) 0 M') : zXM (zhA hist kp R') (zkA kp) 0 n B M' ∧ zMou M M' := by
  obtain ⟨a1, a2, a3⟩ := h
  have e83 := f.1 83 (by decide) (by decide)
  have e95 := f.1 95 (by decide) (by decide)
  have e96 := f.1 96 (by decide) (by decide)
  have e28 := f.2 28 (by decide) (by decide)
  refine ⟨⟨hm, ⟨by rw [f.2 2 (by decide) (by decide)]; exact a2.1, a2.2.1, fun j hj => by rw [e83]; exact a2.2.2 j hj⟩, ?_⟩, fun k q => f.1 k (by omega) (by omega), f.2 4 (by decide) (by decide), f.2 5 (by decide) (by decide)⟩
  obtain ⟨b1, b2⟩ := a3
  refine ⟨?_, fun k hk => by rw [e96]; exact b2 k hk⟩
  rcases b1 with h | ⟨R0, g, g1, g2, g3, g4, g5⟩
  · exact Or.inl (by rw [e28]; exact h)
  · exact Or.inr ⟨R0, g, g1, g2, by rw [e28]; exact g3, fun k hk => by rw [e96]; exact g4 k hk, fun t ht BB a b c q1 q2 => by rw [e95]; exact g5 t ht BB a b c q1 q2⟩
theorem zOut_ac (f : zFac M M') : zOut M M' := ⟨fun k q1 q2 => f k (by omega) (by omega), f 1 (by decide) (by decide), f 17 (by decide) (by decide)⟩
theorem zXC_kp (h : zXC hist fi kp tk n B v bw M) : kp ≤ 300 := by have := h.1.2.2.2.2.1; omega
theorem zXM_kp (h : zXM hist kp tk n B M) : kp ≤ 300 := by have := h.1.2.2.1; omega
theorem SC_price (hd : 60 ≤ d) (h : zXC hist fi kp tk n B v bw M) (ha : z32 a = a) (hb : z32 b = b) (hc : z32 c = c) (hQ0 : ¬ ((0 ≤ a ∧ a ≤ 23) ∧ (0 ≤ b ∧ b ≤ 99) ∧ (0 ≤ c ∧ c ≤ 99)) → Q (some (zi (0))) (zWd L bw) M)
    (hQ : (0 ≤ a ∧ a ≤ 23) ∧ (0 ≤ b ∧ b ≤ 99) ∧ (0 ≤ c ∧ c ≤ 99) → ∀ (M' : zM) (fi' : Nat), zXC (zhA hist kp (zApp (zac 1 a b c 0 0) (hist kp))) fi' (zkA kp) 0 n B (v + 1) bw M' → zOut M M' → Q (some (zi (1))) (zWd L bw) M') : zF d x_We_price 0 [zr 8, zi a, zi b, zi c, zt] [] (zWd L bw) M Q := by
  have hw := zXC_w h
  refine C_price (by omega) h.1 ha hb hc hQ0 fun z M' fi' q1 q2 q3 => hQ z M' fi' (zXC_act h (zWf_1 hw z.1 z.2.1 z.2.2) q1 (fun _ _ => rfl) h.2.2.2.2.2 q2 q3) (zOut_ac q1)
theorem SM_price (hd : 60 ≤ d) (h : zXM hist kp tk n B M) (hw : zWf (hist kp)) (ha : z32 a = a) (hb : z32 b = b) (hc : z32 c = c) (hQ0 : ¬ ((0 ≤ a ∧ a ≤ 23) ∧ (0 ≤ b ∧ b ≤ 99) ∧ (0 ≤ c ∧ c ≤ 99)) → Q (some (zi (0))) (zWd L bw) M)
    (hQ : (0 ≤ a ∧ a ≤ 23) ∧ (0 ≤ b ∧ b ≤ 99) ∧ (0 ≤ c ∧ c ≤ 99) → ∀ M' : zM, zXM (zhA hist kp (zApp (zac 1 a b c 0 0) (hist kp))) (zkA kp) 0 n B M' → zMou M M' → Q (some (zi (1))) (zWd L bw) M') : zF d x_Mo_price 0 [zr 82, zi a, zi b, zi c] [] (zWd L bw) M Q := by
  refine M_price (by omega) h.1 ha hb hc (fun z => zWf_R (zWf_1 hw z.1 z.2.1 z.2.2)) hQ0 fun z M' q1 q2 => hQ z M' (zXM_act h q1 q2).1 (zXM_act h q1 q2).2
theorem SC_store (hd : 60 ≤ d) (h : zXC hist fi kp tk n B v bw M) (ha : z32 a = a) (hb : z32 b = b) (hc : z32 c = c) (hQ0 : ¬ ((0 ≤ a ∧ a ≤ 30) ∧ (1 ≤ b ∧ b ≤ 9) ∧ (0 ≤ c ∧ c ≤ 100)) → Q (some (zi (0))) (zWd L bw) M)
    (hQ : (0 ≤ a ∧ a ≤ 30) ∧ (1 ≤ b ∧ b ≤ 9) ∧ (0 ≤ c ∧ c ≤ 100) → ∀ (M' : zM) (fi' : Nat), zXC (zhA hist kp (zApp (zac 2 a b c 0 0) (hist kp))) fi' (zkA kp) 0 n B (v + 1) bw M' → zOut M M' → Q (some (zi (1))) (zWd L bw) M') : zF d x_We_store 0 [zr 8, zi a, zi b, zi c] [] (zWd L bw) M Q := by
  have hw := zXC_w h
  refine C_store (by omega) h.1 ha hb hc hQ0 fun z M' fi' q1 q2 q3 => hQ z M' fi' (zXC_act h (zWf_2 hw z.1 z.2.1 z.2.2) q1 (fun _ _ => rfl) h.2.2.2.2.2 q2 q3) (zOut_ac q1)
theorem SM_store (hd : 60 ≤ d) (h : zXM hist kp tk n B M) (hw : zWf (hist kp)) (ha : z32 a = a) (hb : z32 b = b) (hc : z32 c = c) (hQ0 : ¬ ((0 ≤ a ∧ a ≤ 30) ∧ (1 ≤ b ∧ b ≤ 9) ∧ (0 ≤ c ∧ c ≤ 100)) → Q (some (zi (0))) (zWd L bw) M)
    (hQ : (0 ≤ a ∧ a ≤ 30) ∧ (1 ≤ b ∧ b ≤ 9) ∧ (0 ≤ c ∧ c ≤ 100) → ∀ M' : zM, zXM (zhA hist kp (zApp (zac 2 a b c 0 0) (hist kp))) (zkA kp) 0 n B M' → zMou M M' → Q (some (zi (1))) (zWd L bw) M') : zF d x_Mo_store 0 [zr 82, zi a, zi b, zi c] [] (zWd L bw) M Q := by
  refine M_store (by omega) h.1 ha hb hc (fun z => zWf_R (zWf_2 hw z.1 z.2.1 z.2.2)) hQ0 fun z M' q1 q2 => hQ z M' (zXM_act h q1 q2).1 (zXM_act h q1 q2).2
theorem SC_misses (hd : 60 ≤ d) (h : zXC hist fi kp tk n B v bw M) (ha : z32 a = a) (hQ0 : ¬ ((0 ≤ a ∧ a ≤ 30)) → Q (some (zi (0))) (zWd L bw) M)
    (hQ : (0 ≤ a ∧ a ≤ 30) → ∀ (M' : zM) (fi' : Nat), zXC (zhA hist kp (zApp (zac 3 a 0 0 0 0) (hist kp))) fi' (zkA kp) 0 n B (v + 1) bw M' → zOut M M' → Q (some (zi (1))) (zWd L bw) M') : zF d x_We_misses 0 [zr 8, zi a] [] (zWd L bw) M Q := by
  have hw := zXC_w h
  refine C_misses (by omega) h.1 ha hQ0 fun z M' fi' q1 q2 q3 => hQ z M' fi' (zXC_act h (zWf_3 hw z) q1 (fun _ _ => rfl) h.2.2.2.2.2 q2 q3) (zOut_ac q1)
theorem SM_misses (hd : 60 ≤ d) (h : zXM hist kp tk n B M) (hw : zWf (hist kp)) (ha : z32 a = a) (hQ0 : ¬ ((0 ≤ a ∧ a ≤ 30)) → Q (some (zi (0))) (zWd L bw) M)
    (hQ : (0 ≤ a ∧ a ≤ 30) → ∀ M' : zM, zXM (zhA hist kp (zApp (zac 3 a 0 0 0 0) (hist kp))) (zkA kp) 0 n B M' → zMou M M' → Q (some (zi (1))) (zWd L bw) M') : zF d x_Mo_misses 0 [zr 82, zi a] [] (zWd L bw) M Q := by
  refine M_misses (by omega) h.1 ha (fun z => zWf_R (zWf_3 hw z)) hQ0 fun z M' q1 q2 => hQ z M' (zXM_act h q1 q2).1 (zXM_act h q1 q2).2
theorem SC_shake (hd : 60 ≤ d) (h : zXC hist fi kp tk n B v bw M) (ha : z32 a = a) (hb : z32 b = b) (hQ0 : ¬ ((-999 ≤ a ∧ a ≤ 999) ∧ (-999 ≤ b ∧ b ≤ 999)) → Q (some (zi (0))) (zWd L bw) M)
    (hQ : (-999 ≤ a ∧ a ≤ 999) ∧ (-999 ≤ b ∧ b ≤ 999) → ∀ (M' : zM) (fi' : Nat), zXC (zhA hist kp (zApp (zac 6 a b 0 0 0) (hist kp))) fi' (zkA kp) 0 n B (v + 1) bw M' → zOut M M' → Q (some (zi (1))) (zWd L bw) M') : zF d x_We_shake 0 [zr 8, zi a, zi b] [] (zWd L bw) M Q := by
  have hw := zXC_w h
  refine C_shake (by omega) h.1 ha hb hQ0 fun z M' fi' q1 q2 q3 => hQ z M' fi' (zXC_act h (zWf_6 hw z.1 z.2) q1 (fun _ _ => rfl) h.2.2.2.2.2 q2 q3) (zOut_ac q1)
theorem SM_shake (hd : 60 ≤ d) (h : zXM hist kp tk n B M) (hw : zWf (hist kp)) (ha : z32 a = a) (hb : z32 b = b) (hQ0 : ¬ ((-999 ≤ a ∧ a ≤ 999) ∧ (-999 ≤ b ∧ b ≤ 999)) → Q (some (zi (0))) (zWd L bw) M)
    (hQ : (-999 ≤ a ∧ a ≤ 999) ∧ (-999 ≤ b ∧ b ≤ 999) → ∀ M' : zM, zXM (zhA hist kp (zApp (zac 6 a b 0 0 0) (hist kp))) (zkA kp) 0 n B M' → zMou M M' → Q (some (zi (1))) (zWd L bw) M') : zF d x_Mo_shake 0 [zr 82, zi a, zi b] [] (zWd L bw) M Q := by
  refine M_shake (by omega) h.1 ha hb (fun z => zWf_R (zWf_6 hw z.1 z.2)) hQ0 fun z M' q1 q2 => hQ z M' (zXM_act h q1 q2).1 (zXM_act h q1 q2).2
theorem SC_plan (hd : 60 ≤ d) (h : zXC hist fi kp tk n B v bw M) (ha : z32 a = a) (hb : z32 b = b) (hQ0 : ¬ ((0 ≤ a ∧ a ≤ 23) ∧ (-9 ≤ b ∧ b ≤ 9)) → Q (some (zi (0))) (zWd L bw) M)
    (hQ : (0 ≤ a ∧ a ≤ 23) ∧ (-9 ≤ b ∧ b ≤ 9) → ∀ (M' : zM) (fi' : Nat), zXC (zhA hist kp (zApp (zac 7 a b 0 0 0) (hist kp))) fi' (zkA kp) 0 n B (v + 1) bw M' → zOut M M' → Q (some (zi (1))) (zWd L bw) M') : zF d x_We_plan 0 [zr 8, zi a, zi b, zt] [] (zWd L bw) M Q := by
  have hw := zXC_w h
  refine C_plan (by omega) h.1 ha hb hQ0 fun z M' fi' q1 q2 q3 => hQ z M' fi' (zXC_act h (zWf_7 hw z.1 z.2) q1 (fun _ _ => rfl) h.2.2.2.2.2 q2 q3) (zOut_ac q1)
theorem SM_plan (hd : 60 ≤ d) (h : zXM hist kp tk n B M) (hw : zWf (hist kp)) (ha : z32 a = a) (hb : z32 b = b) (hQ0 : ¬ ((0 ≤ a ∧ a ≤ 23) ∧ (-9 ≤ b ∧ b ≤ 9)) → Q (some (zi (0))) (zWd L bw) M)
    (hQ : (0 ≤ a ∧ a ≤ 23) ∧ (-9 ≤ b ∧ b ≤ 9) → ∀ M' : zM, zXM (zhA hist kp (zApp (zac 7 a b 0 0 0) (hist kp))) (zkA kp) 0 n B M' → zMou M M' → Q (some (zi (1))) (zWd L bw) M') : zF d x_Mo_plan 0 [zr 82, zi a, zi b] [] (zWd L bw) M Q := by
  refine M_plan (by omega) h.1 ha hb (fun z => zWf_R (zWf_7 hw z.1 z.2)) hQ0 fun z M' q1 q2 => hQ z M' (zXM_act h q1 q2).1 (zXM_act h q1 q2).2
theorem SC_drag (hd : 60 ≤ d) (h : zXC hist fi kp tk n B v bw M) (ha : z32 a = a) (hb : z32 b = b) (hQ0 : ¬ ((0 ≤ a ∧ a ≤ 30) ∧ (0 ≤ b ∧ b ≤ 999)) → Q (some (zi (0))) (zWd L bw) M)
    (hQ : (0 ≤ a ∧ a ≤ 30) ∧ (0 ≤ b ∧ b ≤ 999) → ∀ (M' : zM) (fi' : Nat), zXC (zhA hist kp (zApp (zac 10 a b 0 0 0) (hist kp))) fi' (zkA kp) 0 n B (v + 1) bw M' → zOut M M' → Q (some (zi (1))) (zWd L bw) M') : zF d x_We_drag 0 [zr 8, zi a, zi b] [] (zWd L bw) M Q := by
  have hw := zXC_w h
  refine C_drag (by omega) h.1 ha hb hQ0 fun z M' fi' q1 q2 q3 => hQ z M' fi' (zXC_act h (zWf_10 hw z.1 z.2) q1 (fun _ _ => rfl) h.2.2.2.2.2 q2 q3) (zOut_ac q1)
theorem SM_drag (hd : 60 ≤ d) (h : zXM hist kp tk n B M) (hw : zWf (hist kp)) (ha : z32 a = a) (hb : z32 b = b) (hQ0 : ¬ ((0 ≤ a ∧ a ≤ 30) ∧ (0 ≤ b ∧ b ≤ 999)) → Q (some (zi (0))) (zWd L bw) M)
    (hQ : (0 ≤ a ∧ a ≤ 30) ∧ (0 ≤ b ∧ b ≤ 999) → ∀ M' : zM, zXM (zhA hist kp (zApp (zac 10 a b 0 0 0) (hist kp))) (zkA kp) 0 n B M' → zMou M M' → Q (some (zi (1))) (zWd L bw) M') : zF d x_Mo_drag 0 [zr 82, zi a, zi b] [] (zWd L bw) M Q := by
  refine M_drag (by omega) h.1 ha hb (fun z => zWf_R (zWf_10 hw z.1 z.2)) hQ0 fun z M' q1 q2 => hQ z M' (zXM_act h q1 q2).1 (zXM_act h q1 q2).2
theorem SC_costs (hd : 60 ≤ d) (h : zXC hist fi kp tk n B v bw M) (ha : z32 a = a) (hb : z32 b = b) (hc : z32 c = c) (hQ0 : ¬ ((0 ≤ a ∧ a ≤ 9999) ∧ (0 ≤ b ∧ b ≤ 9999) ∧ (0 ≤ c ∧ c ≤ 9999)) → Q (some (zi (0))) (zWd L bw) M)
    (hQ : (0 ≤ a ∧ a ≤ 9999) ∧ (0 ≤ b ∧ b ≤ 9999) ∧ (0 ≤ c ∧ c ≤ 9999) → ∀ (M' : zM) (fi' : Nat), zXC (zhA hist kp (zApp (zac 12 a b c 0 0) (hist kp))) fi' (zkA kp) 0 n B (v + 1) bw M' → zOut M M' → Q (some (zi (1))) (zWd L bw) M') : zF d x_We_costs 0 [zr 8, zi a, zi b, zi c] [] (zWd L bw) M Q := by
  have hw := zXC_w h
  refine C_costs (by omega) h.1 ha hb hc hQ0 fun z M' fi' q1 q2 q3 => hQ z M' fi' (zXC_act h (zWf_12 hw z.1 z.2.1 z.2.2) q1 (fun _ _ => rfl) h.2.2.2.2.2 q2 q3) (zOut_ac q1)
theorem SM_costs (hd : 60 ≤ d) (h : zXM hist kp tk n B M) (hw : zWf (hist kp)) (ha : z32 a = a) (hb : z32 b = b) (hc : z32 c = c) (hQ0 : ¬ ((0 ≤ a ∧ a ≤ 9999) ∧ (0 ≤ b ∧ b ≤ 9999) ∧ (0 ≤ c ∧ c ≤ 9999)) → Q (some (zi (0))) (zWd L bw) M)
    (hQ : (0 ≤ a ∧ a ≤ 9999) ∧ (0 ≤ b ∧ b ≤ 9999) ∧ (0 ≤ c ∧ c ≤ 9999) → ∀ M' : zM, zXM (zhA hist kp (zApp (zac 12 a b c 0 0) (hist kp))) (zkA kp) 0 n B M' → zMou M M' → Q (some (zi (1))) (zWd L bw) M') : zF d x_Mo_costs 0 [zr 82, zi a, zi b, zi c] [] (zWd L bw) M Q := by
  refine M_costs (by omega) h.1 ha hb hc (fun z => zWf_R (zWf_12 hw z.1 z.2.1 z.2.2)) hQ0 fun z M' q1 q2 => hQ z M' (zXM_act h q1 q2).1 (zXM_act h q1 q2).2
theorem SC_makes (hd : 60 ≤ d) (h : zXC hist fi kp tk n B v bw M) (ha : z32 a = a) (hb : z32 b = b) (hQ0 : ¬ ((0 ≤ a ∧ a ≤ 4) ∧ (0 ≤ b ∧ b ≤ 255)) → Q (some (zi (0))) (zWd L bw) M)
    (hQ : (0 ≤ a ∧ a ≤ 4) ∧ (0 ≤ b ∧ b ≤ 255) → ∀ (M' : zM) (fi' : Nat), zXC (zhA hist kp (zApp (zac 13 a b 0 0 0) (hist kp))) fi' (zkA kp) 0 n B (v + 1) bw M' → zOut M M' → Q (some (zi (1))) (zWd L bw) M') : zF d x_We_makes 0 [zr 8, zi a, zi b] [] (zWd L bw) M Q := by
  have hw := zXC_w h
  refine C_makes (by omega) h.1 ha hb hQ0 fun z M' fi' q1 q2 q3 => hQ z M' fi' (zXC_act h (zWf_13 hw z.1 z.2) q1 (fun _ _ => rfl) h.2.2.2.2.2 q2 q3) (zOut_ac q1)
theorem SM_makes (hd : 60 ≤ d) (h : zXM hist kp tk n B M) (hw : zWf (hist kp)) (ha : z32 a = a) (hb : z32 b = b) (hQ0 : ¬ ((0 ≤ a ∧ a ≤ 4) ∧ (0 ≤ b ∧ b ≤ 255)) → Q (some (zi (0))) (zWd L bw) M)
    (hQ : (0 ≤ a ∧ a ≤ 4) ∧ (0 ≤ b ∧ b ≤ 255) → ∀ M' : zM, zXM (zhA hist kp (zApp (zac 13 a b 0 0 0) (hist kp))) (zkA kp) 0 n B M' → zMou M M' → Q (some (zi (1))) (zWd L bw) M') : zF d x_Mo_makes 0 [zr 82, zi a, zi b] [] (zWd L bw) M Q := by
  refine M_makes (by omega) h.1 ha hb (fun z => zWf_R (zWf_13 hw z.1 z.2)) hQ0 fun z M' q1 q2 => hQ z M' (zXM_act h q1 q2).1 (zXM_act h q1 q2).2
theorem SC_wheel (hd : 60 ≤ d) (h : zXC hist fi kp tk n B v bw M) (ha : z32 a = a) (hb : z32 b = b) (hQ0 : ¬ (hist kp 127 ≤ 2 ∧ (0 ≤ a ∧ a ≤ 6) ∧ (1 ≤ b ∧ b ≤ 6)) → Q (some (zi (-1))) (zWd L bw) M)
    (hQ : hist kp 127 ≤ 2 ∧ (0 ≤ a ∧ a ≤ 6) ∧ (1 ≤ b ∧ b ≤ 6) → ∀ (M' : zM) (fi' : Nat), zXC (zhA hist kp (zApp (zac 4 a b 0 0 0) (hist kp))) fi' (zkA kp) 0 n B (v + 1) bw M' → zOut M M' → Q (some (zi (hist kp 127))) (zWd L bw) M') : zF d x_We_wheel 0 [zr 8, zi a, zi b, zt, zt] [] (zWd L bw) M Q := by
  have hw := zXC_w h
  refine C_wheel (by omega) h.1 hw.2.2.2.2.2.2.1.1.2.1 ha hb hQ0 fun z M' fi' q1 q2 q3 => hQ z M' fi' (zXC_act h (zWf_4 hw z.1 z.2.1 z.2.2) q1 (fun _ _ => rfl) h.2.2.2.2.2 q2 q3) (zOut_ac q1)
theorem SM_wheel (hd : 60 ≤ d) (h : zXM hist kp tk n B M) (hw : zWf (hist kp)) (ha : z32 a = a) (hb : z32 b = b) (hQ0 : ¬ (hist kp 127 ≤ 2 ∧ (0 ≤ a ∧ a ≤ 6) ∧ (1 ≤ b ∧ b ≤ 6)) → Q (some (zi (-1))) (zWd L bw) M)
    (hQ : hist kp 127 ≤ 2 ∧ (0 ≤ a ∧ a ≤ 6) ∧ (1 ≤ b ∧ b ≤ 6) → ∀ M' : zM, zXM (zhA hist kp (zApp (zac 4 a b 0 0 0) (hist kp))) (zkA kp) 0 n B M' → zMou M M' → Q (some (zi (hist kp 127))) (zWd L bw) M') : zF d x_Mo_wheel 0 [zr 82, zi a, zi b, zt] [] (zWd L bw) M Q := by
  refine M_wheel (by omega) h.1 hw.2.2.2.2.2.2.1.1.2.1 (zXM_kp h) ha hb (fun z => zWf_R (zWf_4 hw z.1 z.2.1 z.2.2)) hQ0 fun z M' q1 q2 => hQ z M' (zXM_act h q1 q2).1 (zXM_act h q1 q2).2
theorem SC_hole (hd : 60 ≤ d) (h : zXC hist fi kp tk n B v bw M) (ha : z32 a = a) (hb : z32 b = b) (hc : z32 c = c) (hQ0 : ¬ (hist kp 97 ≤ 8 ∧ (-99 ≤ a ∧ a ≤ 99) ∧ (-99 ≤ b ∧ b ≤ 99) ∧ (1 ≤ c ∧ c ≤ 2)) → Q (some (zi (-1))) (zWd L bw) M)
    (hQ : hist kp 97 ≤ 8 ∧ (-99 ≤ a ∧ a ≤ 99) ∧ (-99 ≤ b ∧ b ≤ 99) ∧ (1 ≤ c ∧ c ≤ 2) → ∀ (M' : zM) (fi' : Nat), zXC (zhA hist kp (zApp (zac 5 a b c 0 0) (hist kp))) fi' (zkA kp) 0 n B (v + 1) bw M' → zOut M M' → Q (some (zi (hist kp 97))) (zWd L bw) M') : zF d x_We_hole 0 [zr 8, zi a, zi b, zi c, zt, zt] [] (zWd L bw) M Q := by
  have hw := zXC_w h
  refine C_hole (by omega) h.1 (by have q := hw.2.2.2.2.1; have q1 := q.2.1; have q2 := q.2.2.1; omega) ha hb hc hQ0 fun z M' fi' q1 q2 q3 => hQ z M' fi' (zXC_act h (zWf_5 hw z.1 z.2.1 z.2.2.1 z.2.2.2) q1 (fun _ _ => rfl) h.2.2.2.2.2 q2 q3) (zOut_ac q1)
theorem SM_hole (hd : 60 ≤ d) (h : zXM hist kp tk n B M) (hw : zWf (hist kp)) (ha : z32 a = a) (hb : z32 b = b) (hc : z32 c = c) (hQ0 : ¬ (hist kp 97 ≤ 8 ∧ (-99 ≤ a ∧ a ≤ 99) ∧ (-99 ≤ b ∧ b ≤ 99) ∧ (1 ≤ c ∧ c ≤ 2)) → Q (some (zi (-1))) (zWd L bw) M)
    (hQ : hist kp 97 ≤ 8 ∧ (-99 ≤ a ∧ a ≤ 99) ∧ (-99 ≤ b ∧ b ≤ 99) ∧ (1 ≤ c ∧ c ≤ 2) → ∀ M' : zM, zXM (zhA hist kp (zApp (zac 5 a b c 0 0) (hist kp))) (zkA kp) 0 n B M' → zMou M M' → Q (some (zi (hist kp 97))) (zWd L bw) M') : zF d x_Mo_hole 0 [zr 82, zi a, zi b, zi c, zt] [] (zWd L bw) M Q := by
  refine M_hole (by omega) h.1 (by have q := hw.2.2.2.2.1; have q1 := q.2.1; have q2 := q.2.2.1; omega) (zXM_kp h) ha hb hc (fun z => zWf_R (zWf_5 hw z.1 z.2.1 z.2.2.1 z.2.2.2)) hQ0 fun z M' q1 q2 => hQ z M' (zXM_act h q1 q2).1 (zXM_act h q1 q2).2
theorem SC_cracks (hd : 60 ≤ d) (h : zXC hist fi kp tk n B v bw M) (ha : z32 a = a) (hb : z32 b = b) (hc : z32 c = c) (he : z32 e = e) (hQ0 : ¬ ((0 ≤ a ∧ a ≤ 8) ∧ (0 ≤ b ∧ b ≤ 8 - a) ∧ (1 ≤ c ∧ c ≤ 20) ∧ (1 ≤ e ∧ e ≤ 20)) → Q (some (zi (0))) (zWd L bw) M)
    (hQ : (0 ≤ a ∧ a ≤ 8) ∧ (0 ≤ b ∧ b ≤ 8 - a) ∧ (1 ≤ c ∧ c ≤ 20) ∧ (1 ≤ e ∧ e ≤ 20) → ∀ (M' : zM) (fi' : Nat), zXC (zhA hist kp (zApp (zac 11 a b c e 0) (hist kp))) fi' (zkA kp) 0 n B (v + 1) bw M' → zOut M M' → Q (some (zi (1))) (zWd L bw) M') : zF d x_We_cracks 0 [zr 8, zi a, zi b, zi c, zi e] [] (zWd L bw) M Q := by
  have hw := zXC_w h
  refine C_cracks (by omega) h.1 ha hb hc he hQ0 fun z M' fi' q1 q2 q3 => hQ z M' fi' (zXC_act h (zWf_11 hw z.1 z.2.1 z.2.2.1 z.2.2.2) q1 (fun _ _ => rfl) h.2.2.2.2.2 q2 q3) (zOut_ac q1)
theorem SM_cracks (hd : 60 ≤ d) (h : zXM hist kp tk n B M) (hw : zWf (hist kp)) (ha : z32 a = a) (hb : z32 b = b) (hc : z32 c = c) (he : z32 e = e) (hQ0 : ¬ ((0 ≤ a ∧ a ≤ 8) ∧ (0 ≤ b ∧ b ≤ 8 - a) ∧ (1 ≤ c ∧ c ≤ 20) ∧ (1 ≤ e ∧ e ≤ 20)) → Q (some (zi (0))) (zWd L bw) M)
    (hQ : (0 ≤ a ∧ a ≤ 8) ∧ (0 ≤ b ∧ b ≤ 8 - a) ∧ (1 ≤ c ∧ c ≤ 20) ∧ (1 ≤ e ∧ e ≤ 20) → ∀ M' : zM, zXM (zhA hist kp (zApp (zac 11 a b c e 0) (hist kp))) (zkA kp) 0 n B M' → zMou M M' → Q (some (zi (1))) (zWd L bw) M') : zF d x_Mo_cracks 0 [zr 82, zi a, zi b, zi c, zi e] [] (zWd L bw) M Q := by
  refine M_cracks (by omega) h.1 ha hb hc he (fun z => zWf_R (zWf_11 hw z.1 z.2.1 z.2.2.1 z.2.2.2)) hQ0 fun z M' q1 q2 => hQ z M' (zXM_act h q1 q2).1 (zXM_act h q1 q2).2
theorem SC_reads (hd : 60 ≤ d) (h : zXC hist fi kp tk n B v bw M) (ha : z32 a = a) (hb : b = 0 ∨ b = 1) (hQ0 : ¬ (hist kp 199 ≤ 11 ∧ (0 ≤ a ∧ a ≤ 7)) → Q (some (zi (-1))) (zWd L bw) M)
    (hQ : hist kp 199 ≤ 11 ∧ (0 ≤ a ∧ a ≤ 7) → ∀ (M' : zM) (fi' : Nat), zXC (zhA hist kp (zApp (zac 14 a b 0 0 0) (hist kp))) fi' (zkA kp) 0 n B (v + 1) bw M' → zOut M M' → Q (some (zi (hist kp 199))) (zWd L bw) M') : zF d x_We_reads 0 [zr 8, zi a, zi b, zt] [] (zWd L bw) M Q := by
  have hw := zXC_w h
  refine C_reads (by omega) h.1 hw.2.2.2.2.2.2.2.2 ha hb hQ0 fun z M' fi' q1 q2 q3 => hQ z M' fi' (zXC_act h (zWf_14 hw z.1 z.2 hb) q1 (fun _ _ => rfl) h.2.2.2.2.2 q2 q3) (zOut_ac q1)
theorem SM_reads (hd : 60 ≤ d) (h : zXM hist kp tk n B M) (hw : zWf (hist kp)) (ha : z32 a = a) (hb : b = 0 ∨ b = 1) (hQ0 : ¬ (hist kp 199 ≤ 11 ∧ (0 ≤ a ∧ a ≤ 7)) → Q (some (zi (-1))) (zWd L bw) M)
    (hQ : hist kp 199 ≤ 11 ∧ (0 ≤ a ∧ a ≤ 7) → ∀ M' : zM, zXM (zhA hist kp (zApp (zac 14 a b 0 0 0) (hist kp))) (zkA kp) 0 n B M' → zMou M M' → Q (some (zi (hist kp 199))) (zWd L bw) M') : zF d x_Mo_reads 0 [zr 82, zi a, zi b, zt] [] (zWd L bw) M Q := by
  refine M_reads (by omega) h.1 hw.2.2.2.2.2.2.2.2 (zXM_kp h) ha hb (fun z => zWf_R (zWf_14 hw z.1 z.2 hb)) hQ0 fun z M' q1 q2 => hQ z M' (zXM_act h q1 q2).1 (zXM_act h q1 q2).2
end ZSa
