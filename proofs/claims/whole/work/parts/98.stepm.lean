/-! The model's asking calls, between two states. -/
def zMou (M M' : zM) : Prop := (∀ k, k < 82 ∨ k = 104 → M' k = M k) ∧ M' 82 4 = M 82 4 ∧ M' 82 5 = M 82 5
section ZSm
variable {d L : Nat} {hist : Nat → Nat → Int} {kp tk n : Nat} {B : Nat → Int} {bw : Bool} {M M' : zM} {Q : Option zV → zW → zM → Prop} {a b c e t y : Int}
theorem zXM_R (h : zXM hist kp tk n B M) (hw : zWf (hist kp)) : zMR (hist kp) M := zMR_of h.1.2.2.2.1 (zWf_R hw).1
theorem zXM_m (h : zXM hist kp tk n B M) (f : zFrm M M') : zXM hist kp tk n B M' ∧ zMou M M' :=
  ⟨zXM_q h (fun k q1 q2 q3 q4 => f.1 k (by omega) (by omega)) (fun k q => f.2 k (by omega)), fun k q => f.1 k (by omega) (by omega), f.2 4 (by decide), f.2 5 (by decide)⟩
theorem zXM_b (h : zXM hist kp tk n B M) (f : zFrmB M M') : zXM hist kp tk n B M' ∧ zMou M M' :=
  ⟨zXM_q h (fun k q1 q2 q3 q4 => f.1 k (by omega) (by omega) (by omega)) (fun k q => f.2 k (by omega)), fun k q => f.1 k (by omega) (by omega) (by omega), f.2 4 (by decide), f.2 5 (by decide)⟩
theorem zXM_i (h : zXM hist kp tk n B M) (f : zFrmI M M') : zXM hist kp tk n B M' ∧ zMou M M' := by
  have f' : ∀ k, k ≠ 102 → k ≠ 103 → M' k = M k := f
  have e := f' 82 (by decide) (by decide)
  exact ⟨zXM_q h (fun k q1 q2 q3 q4 => f' k (by omega) (by omega)) (fun k q => by rw [e]), fun k q => f' k (by omega) (by omega), by rw [e], by rw [e]⟩
theorem zXM_r (h : zXM hist kp tk n B M) (f : zFmr M M') : zXM hist kp tk n B M' ∧ zMou M M' :=
  ⟨zXM_q h (fun k q1 q2 q3 q4 => f.1 k (by omega) (by omega)) (fun k q => f.2 k (by omega)), fun k q => f.1 k (by omega) (by omega), f.2 4 (by decide), f.2 5 (by decide)⟩
theorem zXM_p (h : zXM hist kp tk n B M) (f : zFg M M') : zXM hist kp tk n B M' ∧ zMou M M' :=
  ⟨zXM_q h (fun k q1 q2 q3 q4 => f.1 k (by omega) (by omega) (by omega)) (fun k q => f.2 k (by omega)), fun k q => f.1 k (by omega) (by omega) (by omega), f.2 4 (by decide), f.2 5 (by decide)⟩
theorem zXM_f (h : zXM hist kp tk n B M) (h1 : ∀ k, k ≠ 82 → k ≠ 95 → k ≠ 96 → k ≠ 97 → k ≠ 98 → M' k = M k) (h2 : ∀ j, ¬(28 ≤ j ∧ j ≤ 34) → M' 82 j = M 82 j) (hf : zFilz M') : zXM hist kp tk n B M' ∧ zMou M M' := by
  obtain ⟨a1, a2, a3⟩ := h
  exact ⟨⟨zMA_fr a1 (fun k q1 q2 => h1 k (by omega) (by omega) (by omega) (by omega) (by omega)) (h2 15 (by omega)) (h2 16 (by omega)), ⟨by rw [h2 2 (by omega)]; exact a2.1, a2.2.1, fun j hj => by rw [h1 83 (by decide) (by decide) (by decide) (by decide) (by decide)]; exact a2.2.2 j hj⟩, hf⟩, fun k q => h1 k (by omega) (by omega) (by omega) (by omega) (by omega), h2 4 (by omega), h2 5 (by omega)⟩
theorem zXM_ff (h : zXM hist kp tk n B M) (f : zFf M M') (hf : zFilz M') : zXM hist kp tk n B M' ∧ zMou M M' := zXM_f h f.1 (fun j q => f.2 j (by omega) (by omega) (by omega)) hf
theorem zXM_0 (h : zXM hist kp tk n B M) : ∀ j, j ≤ 20 → M 85 j = hist kp j := fun j hj => by
  have := h.1.2.2.2.1 j (by omega) (by omega); rw [zsg_s (by omega)] at this; exact this
theorem zXM_hi (h : zXM hist kp tk n B M) : ∀ j : Nat, 156 ≤ j → j < 224 → M 85 j = hist kp j := fun j h1 h2 => by
  have := h.1.2.2.2.1 j (by omega) (by omega); rw [zsg_s (by omega)] at this; exact this
theorem SM_value (hd : 60 ≤ d) (h : zXM hist kp tk n B M) (hw : zWf (hist kp)) (ha : z32 a = a) (hb : z32 b = b)
    (hQ : ∀ M', zXM hist kp tk n B M' → zMou M M' → Q (some (zi (if (0 ≤ a ∧ a ≤ 24) ∧ (0 ≤ b ∧ b ≤ hist kp 93) then zVl (hist kp) (24 - a.toNat) b else -1))) (zWd L bw) M') : zF d x_Mo_value 0 [zr 82, zi a, zi b] [] (zWd L bw) M Q :=
  M_value (by omega) hw.2.2.1 hw.2.2.2.1 (zXM_R h hw) ha hb fun M' f => hQ M' (zXM_m h f).1 (zXM_m h f).2
theorem SM_worth (hd : 60 ≤ d) (h : zXM hist kp tk n B M) (hw : zWf (hist kp)) (ha : z32 a = a) (hb : z32 b = b)
    (hQ : ∀ M', zXM hist kp tk n B M' → zMou M M' → Q (some (zi (if (0 ≤ a ∧ a ≤ 24) ∧ (0 ≤ b ∧ b ≤ hist kp 93 - 1) then zVl (hist kp) (24 - a.toNat) (b + 1) - zVl (hist kp) (24 - a.toNat) b else -100000))) (zWd L bw) M') : zF d x_Mo_worth 0 [zr 82, zi a, zi b] [] (zWd L bw) M Q :=
  M_worth (by omega) hw.2.2.1 hw.2.2.2.1 (zXM_R h hw) ha hb fun M' f => hQ M' (zXM_m h f).1 (zXM_m h f).2
theorem SM_trade (hd : 60 ≤ d) (h : zXM hist kp tk n B M) (hw : zWf (hist kp)) (ha : z32 a = a) (hb : z32 b = b) (hy : z32 y = y)
    (hQ : ∀ M', zXM hist kp tk n B M' → zMou M M' → Q (some (zi (if (0 ≤ a ∧ a ≤ 23) ∧ (0 ≤ b ∧ b ≤ hist kp 93) ∧ (0 ≤ y ∧ y ≤ 2) then (zMB (hist kp) (fun x => zVl (hist kp) (24 - (a.toNat + 1)) (zLeft (hist kp 95) x)) a b y).2 else -100))) (zWd L bw) M') : zF d x_Mo_trade 0 [zr 82, zi a, zi b, zi y, zt] [] (zWd L bw) M Q :=
  M_trade (by omega) hw.2.2.1 hw.2.2.2.1 (zXM_R h hw) ha hb hy fun M' f => hQ M' (zXM_m h f).1 (zXM_m h f).2
theorem SM_off (hd : 60 ≤ d) (h : zXM hist kp tk n B M) (hw : zWf (hist kp))
    (hQ : ∀ M', zXM hist kp tk n B M' → zMou M M' → Q (some (zi (zStl (hist kp) (hist kp 97).toNat).1)) (zWd L bw) M') : zF d x_Mo_off 0 [zr 82] [] (zWd L bw) M Q :=
  M_off (by omega) hw.2.2.2.2.1 (zXM_R h hw) fun M' f => hQ M' (zXM_b h f).1 (zXM_b h f).2
theorem SM_weights (hd : 60 ≤ d) (h : zXM hist kp tk n B M) (hw : zWf (hist kp)) (ha : z32 a = a)
    (hQ : ∀ M', zXM hist kp tk n B M' → zMou M M' → Q (some (zi (if 0 ≤ a ∧ a ≤ hist kp 97 - 1 then (zStl (hist kp) (hist kp 97).toNat).2.2 a.toNat else -1))) (zWd L bw) M') : zF d x_Mo_weights 0 [zr 82, zi a] [] (zWd L bw) M Q :=
  M_weights (by omega) hw.2.2.2.2.1 (zXM_R h hw) ha fun M' f => hQ M' (zXM_b h f).1 (zXM_b h f).2
theorem SM_looks (hd : 60 ≤ d) (h : zXM hist kp tk n B M) (hw : zWf (hist kp)) (ha : z32 a = a)
    (hQ : ∀ M', zXM hist kp tk n B M' → zMou M M' → Q (some (zi (if 1 ≤ a ∧ a ≤ 10 then zLooks (hist kp) a.toNat else -1))) (zWd L bw) M') : zF d x_Mo_looks 0 [zr 82, zi a, zt, zt, zt, zt, zt, zt] [] (zWd L bw) M Q :=
  M_looks (by omega) hw.2.2.2.2.2.1 (zXM_hi h) ha fun M' f => hQ M' (zXM_i h f).1 (zXM_i h f).2
theorem SM_cost (hd : 60 ≤ d) (h : zXM hist kp tk n B M) (hw : zWf (hist kp)) (ha : z32 a = a) (hb : z32 b = b) (hcc : z32 c = c)
    (hQ : ∀ M', zXM hist kp tk n B M' → zMou M M' → Q (some (zl (if (1 ≤ a ∧ a ≤ 10) ∧ (0 ≤ b ∧ b < ((2 ^ a.toNat : Nat) : Int)) ∧ (0 ≤ c ∧ c ≤ 1) then zLow (zcst (hist kp) b a.toNat) (zp8 a.toNat) c else -1))) (zWd L bw) M') : zF d x_Mo_cost 0 [zr 82, zi a, zi b, zi c] [] (zWd L bw) M Q :=
  M_cost (by omega) hw.2.2.2.2.2.1 (zXM_hi h) ha hb hcc fun M' f => hQ M' (zXM_i h f).1 (zXM_i h f).2
theorem SM_press (hd : 60 ≤ d) (h : zXM hist kp tk n B M) (hw : zWf (hist kp)) (ha : z32 a = a) (hb : z32 b = b) (hcc : z32 c = c)
    (hQ : ∀ M', zXM hist kp tk n B M' → zMou M M' → Q (some (zl (zPre (hist kp) a b c))) (zWd L bw) M') : zF d x_Mo_press 0 [zr 82, zi a, zi b, zi c] [] (zWd L bw) M Q :=
  M_press (by omega) hw.2.1 (zXM_0 h) ha hb hcc fun M' f => hQ M' (zXM_r h f).1 (zXM_r h f).2
theorem SM_gap (hd : 60 ≤ d) (h : zXM hist kp tk n B M) (hw : zWf (hist kp)) (ha : z32 a = a) (hb : z32 b = b) (hcc : z32 c = c)
    (hQ : ∀ M', zXM hist kp tk n B M' → zMou M M' → Q (some (zl (zGapA (hist kp) a b c))) (zWd L bw) M') : zF d x_Mo_gap 0 [zr 82, zi a, zi b, zi c] [] (zWd L bw) M Q :=
  M_gap (by omega) hw.2.1 (zXM_0 h) ha hb hcc fun M' f => hQ M' (zXM_r h f).1 (zXM_r h f).2
theorem SM_stretch (hd : 60 ≤ d) (h : zXM hist kp tk n B M) (hw : zWf (hist kp)) (ha : z32 a = a) (hb : z32 b = b) (hcc : z32 c = c)
    (hQ : ∀ M', zXM hist kp tk n B M' → zMou M M' → Q (some (zl (zStrA (hist kp) a b c))) (zWd L bw) M') : zF d x_Mo_stretch 0 [zr 82, zi a, zi b, zi c] [] (zWd L bw) M Q :=
  M_stretch (by omega) hw.2.1 (zXM_0 h) ha hb hcc fun M' f => hQ M' (zXM_r h f).1 (zXM_r h f).2
theorem SM_most (hd : 60 ≤ d) (h : zXM hist kp tk n B M) (hw : zWf (hist kp))
    (hQ : ∀ M', zXM hist kp tk n B M' → zMou M M' → Q (some (zi (zMost (hist kp) (zrF (hist kp))))) (zWd L bw) M') : zF d x_Mo_most 0 [zr 82] [] (zWd L bw) M Q :=
  M_rmost (by omega) hw.2.1 (zXM_0 h) fun M' f => hQ M' (zXM_r h f).1 (zXM_r h f).2
theorem SM_opens (hd : 60 ≤ d) (h : zXM hist kp tk n B M) (hw : zWf (hist kp)) (ha : z32 a = a)
    (hQ : ∀ M', zXM hist kp tk n B M' → zMou M M' → Q (some (zi (zOpA (hist kp) a))) (zWd L bw) M') : zF d x_Mo_opens 0 [zr 82, zi a, zt] [] (zWd L bw) M Q :=
  M_opens (by omega) hw.2.1 (zXM_0 h) ha fun M' f => hQ M' (zXM_r h f).1 (zXM_r h f).2
theorem SM_best (hd : 60 ≤ d) (h : zXM hist kp tk n B M) (hw : zWf (hist kp)) (ha : z32 a = a) (hb : z32 b = b) (hcc : z32 c = c)
    (hQ : ∀ M', zXM hist kp tk n B M' → zMou M M' → Q (some (zi (zBstA (hist kp) a b c))) (zWd L bw) M') : zF d x_Mo_best 0 [zr 82, zi a, zi b, zi c, zt, zt, zt, zt, zt, zt, zt, zt, zt] [] (zWd L bw) M Q :=
  M_best (by omega) hw.2.1 (zXM_0 h) ha hb hcc fun M' f => hQ M' (zXM_r h f).1 (zXM_r h f).2
theorem SM_chosen (hd : 60 ≤ d) (h : zXM hist kp tk n B M) (hw : zWf (hist kp)) (ha : z32 a = a) (hb : z32 b = b) (hcc : z32 c = c) (he : z32 e = e)
    (hQ : ∀ M', zXM hist kp tk n B M' → zMou M M' → Q (some (zi (zChos (hist kp) a b c e))) (zWd L bw) M') : zF d x_Mo_chosen 0 [zr 82, zi a, zi b, zi c, zi e] [] (zWd L bw) M Q :=
  M_chosen (by omega) hw.2.1 (zXM_0 h) ha hb hcc he fun M' f => hQ M' (zXM_r h f).1 (zXM_r h f).2
theorem SM_play (hd : 60 ≤ d) (h : zXM hist kp tk n B M) (hw : zWf (hist kp)) (ha : z32 a = a)
    (hQ : ∀ M', zXM hist kp tk n B M' → zMou M M' → Q (some (zi (if 0 ≤ a ∧ a ≤ 6 then zPlay (hist kp) a else -1))) (zWd L bw) M') : zF d x_Mo_play 0 [zr 82, zi a] [] (zWd L bw) M Q :=
  M_play (by omega) hw.2.2.2.2.2.2.1 (zMA_w h.1) (zMA_p h.1) ha fun M' f => hQ M' (zXM_p h f).1 (zXM_p h f).2
theorem SM_blame (hd : 60 ≤ d) (h : zXM hist kp tk n B M) (hw : zWf (hist kp)) (ha : z32 a = a) (hb : z32 b = b)
    (hQ : ∀ M', zXM hist kp tk n B M' → zMou M M' → Q (some (zi (if (0 ≤ a ∧ a ≤ hist kp 139 - 1) ∧ (0 ≤ b ∧ b ≤ 1) then zBla (hist kp) a.toNat b else -1))) (zWd L bw) M') : zF d x_Mo_blame 0 [zr 82, zi a, zi b, zt, zt, zt, zt] [] (zWd L bw) M Q :=
  M_blame (by omega) hw.2.2.2.2.2.2.1 (zMA_w h.1) (zMA_p h.1) h.2.2 ha hb fun M' f g => hQ M' (zXM_f h f.1 f.2 g).1 (zXM_f h f.1 f.2 g).2
theorem SM_worst (hd : 60 ≤ d) (h : zXM hist kp tk n B M) (hw : zWf (hist kp)) (ht : z32 t = t) (he : z32 e = e) (ha : z32 a = a) (hb : z32 b = b) (hcc : z32 c = c)
    (h1 : zSt (hist kp) t e a b c → ∀ M', zXM hist kp tk n B M' → zMou M M' → Q (some (zi (zWo (hist kp) t.toNat e a b c))) (zWd L bw) M')
    (h0 : ¬ zSt (hist kp) t e a b c → ∀ M', zXM hist kp tk n B M' → zMou M M' → Q (some (zi (-1))) (zWd L bw) M') : zF d x_Mo_worst 0 [zr 82, zi t, zi e, zi a, zi b, zi c] [] (zWd L bw) M Q :=
  M_worst (by omega) hw.2.2.2.2.2.2.1.1 (zMA_w h.1) h.2.2 ht he ha hb hcc (fun hs M' f q1 q2 q3 q4 => h1 hs M' (zXM_ff h q3 q4).1 (zXM_ff h q3 q4).2) fun hs => h0 hs M h ⟨fun _ _ => rfl, rfl, rfl⟩
theorem SM_call (hd : 60 ≤ d) (h : zXM hist kp tk n B M) (hw : zWf (hist kp)) (ht : z32 t = t) (he : z32 e = e) (ha : z32 a = a) (hb : z32 b = b) (hcc : z32 c = c)
    (h1 : (¬ t = 0 ∧ zSt (hist kp) t e a b c) → ∀ M', zXM hist kp tk n B M' → zMou M M' → Q (some (zi (zCall (hist kp) (t.toNat - 1) e a b c))) (zWd L bw) M')
    (h0 : ¬ (¬ t = 0 ∧ zSt (hist kp) t e a b c) → ∀ M', zXM hist kp tk n B M' → zMou M M' → Q (some (zi (-1))) (zWd L bw) M') : zF d x_Mo_call 0 [zr 82, zi t, zi e, zi a, zi b, zi c, zt] [] (zWd L bw) M Q :=
  M_call (by omega) hw.2.2.2.2.2.2.1.1 (zMA_w h.1) h.2.2 ht he ha hb hcc (fun hs M' q3 q4 => h1 hs M' (zXM_ff h q3 q4).1 (zXM_ff h q3 q4).2) fun hs => h0 hs M h ⟨fun _ _ => rfl, rfl, rfl⟩
theorem SM_give (hd : 60 ≤ d) (h : zXM hist kp tk n B M) (hw : zWf (hist kp)) (ht : z32 t = t) (he : z32 e = e) (ha : z32 a = a) (hb : z32 b = b) (hcc : z32 c = c) (hy : z32 y = y)
    (h1 : (¬ t = 0 ∧ zSt (hist kp) t e a b c ∧ (0 ≤ y ∧ y ≤ 6 ∧ y ≤ e)) → ∀ M', zXM hist kp tk n B M' → zMou M M' → Q (some (zi (zGive (hist kp) (fun a' b' c' => zWo (hist kp) (t.toNat - 1) (e - y) a' b' c') a b c y))) (zWd L bw) M')
    (h0 : ¬ (¬ t = 0 ∧ zSt (hist kp) t e a b c ∧ (0 ≤ y ∧ y ≤ 6 ∧ y ≤ e)) → ∀ M', zXM hist kp tk n B M' → zMou M M' → Q (some (zi (-1))) (zWd L bw) M') : zF d x_Mo_give 0 [zr 82, zi t, zi e, zi a, zi b, zi c, zi y, zt] [] (zWd L bw) M Q :=
  M_give (by omega) hw.2.2.2.2.2.2.1.1 (zMA_w h.1) h.2.2 ht he ha hb hcc hy (fun hs M' q3 q4 => h1 hs M' (zXM_ff h q3 q4).1 (zXM_ff h q3 q4).2) fun hs M' q3 q4 => h0 hs M' (zXM_ff h q3 q4).1 (zXM_ff h q3 q4).2
end ZSm
