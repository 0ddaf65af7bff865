/-! The class's asking calls, between two states. -/
/-- what a call of the class leaves alone -/
def zOut (M M' : zM) : Prop := (∀ k, 82 ≤ k → k ≤ 103 → M' k = M k) ∧ M' 1 = M 1 ∧ M' 17 = M 17
section ZSc
variable {d L : Nat} {hist : Nat → Nat → Int} {fi kp tk n : Nat} {B : Nat → Int} {v : Int} {bw bw' : Bool} {M M' : zM} {R R' : Nat → Int} {Q : Option zV → zW → zM → Prop} {a b c e t y : Int}
theorem zKc_m (h : zKc R bw M) (hc : zMC R M') (hf : zFrM M M') : zKc R bw M' := by
  obtain ⟨a1, a2, a3, a4, a5, a6, a7, a8⟩ := h
  have hk : ∀ k, k ≠ 36 → ¬(38 ≤ k ∧ k < 62) → k ≠ 63 → M' k = M k := hf
  have e9 := hk 9 (by decide) (by decide) (by decide)
  have e19 := hk 19 (by decide) (by decide) (by decide)
  exact ⟨hc, zBC_fr a2 fun k q => hk k (by omega) (by omega) (by omega), zIC_fr a3 fun k q => hk k (by omega) (by omega) (by omega), zGcc_fr a4 (by rw [hk 31 (by decide) (by decide) (by decide)]) (hk 104 (by decide) (by decide) (by decide)), zOC_fr a5 (by rw [e9]) (by rw [e19]) (hk 29 (by decide) (by decide) (by decide)), zCC_fr a6 (by rw [e9]) (Or.inl (by rw [e19])) (by rw [e19]) (by rw [e19]) (by rw [e19]) (hk 30 (by decide) (by decide) (by decide)), by rw [e19, e9]; exact a7, by rw [e19, e9]; exact a8⟩
theorem zKc_b (h : zKc R bw M) (hc : zBC R (R 97).toNat M') (hk : zFrB M M') : zKc R bw M' := by
  obtain ⟨a1, a2, a3, a4, a5, a6, a7, a8⟩ := h
  have e9 := hk 9 (by decide) (by decide) (by decide)
  have e19 := hk 19 (by decide) (by decide) (by decide)
  exact ⟨zMC_fr a1 fun k q => hk k (by omega) (by omega) (by omega), hc, zIC_fr a3 fun k q => hk k (by omega) (by omega) (by omega), zGcc_fr a4 (by rw [hk 31 (by decide) (by decide) (by decide)]) (hk 104 (by decide) (by decide) (by decide)), zOC_fr a5 (by rw [e9]) (by rw [e19]) (hk 29 (by decide) (by decide) (by decide)), zCC_fr a6 (by rw [e9]) (Or.inl (by rw [e19])) (by rw [e19]) (by rw [e19]) (by rw [e19]) (hk 30 (by decide) (by decide) (by decide)), by rw [e19, e9]; exact a7, by rw [e19, e9]; exact a8⟩
theorem zKc_i (h : zKc R bw M) (hc : zIC R M') (hk : zFrI M M') : zKc R bw M' := by
  obtain ⟨a1, a2, a3, a4, a5, a6, a7, a8⟩ := h
  have e9 := hk 9 (by decide) (by decide)
  have e19 := hk 19 (by decide) (by decide)
  exact ⟨zMC_fr a1 fun k q => hk k (by omega) (by omega), zBC_fr a2 fun k q => hk k (by omega) (by omega), hc, zGcc_fr a4 (by rw [hk 31 (by decide) (by decide)]) (hk 104 (by decide) (by decide)), zOC_fr a5 (by rw [e9]) (by rw [e19]) (hk 29 (by decide) (by decide)), zCC_fr a6 (by rw [e9]) (Or.inl (by rw [e19])) (by rw [e19]) (by rw [e19]) (by rw [e19]) (hk 30 (by decide) (by decide)), by rw [e19, e9]; exact a7, by rw [e19, e9]; exact a8⟩
theorem zKc_g (h : zKc R bw M) (hc : zGcc bw' M') (hk : zFrGm M M') : zKc R bw' M' := by
  obtain ⟨a1, a2, a3, a4, a5, a6, a7, a8⟩ := h
  have hq : ∀ k, k ≠ 31 → k ≠ 32 → k ≠ 33 → k ≠ 34 → k ≠ 104 → M' k = M k := hk
  have e9 := hq 9 (by decide) (by decide) (by decide) (by decide) (by decide)
  have e19 := hq 19 (by decide) (by decide) (by decide) (by decide) (by decide)
  exact ⟨zMC_fr a1 fun k q => hq k (by omega) (by omega) (by omega) (by omega) (by omega), zBC_fr a2 fun k q => hq k (by omega) (by omega) (by omega) (by omega) (by omega), zIC_fr a3 fun k q => hq k (by omega) (by omega) (by omega) (by omega) (by omega), hc, zOC_fr a5 (by rw [e9]) (by rw [e19]) (hq 29 (by decide) (by decide) (by decide) (by decide) (by decide)), zCC_fr a6 (by rw [e9]) (Or.inl (by rw [e19])) (by rw [e19]) (by rw [e19]) (by rw [e19]) (hq 30 (by decide) (by decide) (by decide) (by decide) (by decide)), by rw [e19, e9]; exact a7, by rw [e19, e9]; exact a8⟩
theorem zKc_r (h : zKc R bw M) (hf : zFrR R M M') : zKc R bw M' := by
  obtain ⟨a1, a2, a3, a4, a5, a6, a7, a8⟩ := h
  obtain ⟨⟨hk, h19⟩, h12⟩ := hf
  have e9 := hk 9 (by decide)
  exact ⟨zMC_fr a1 fun k q => hk k (by omega), zBC_fr a2 fun k q => hk k (by omega), zIC_fr a3 fun k q => hk k (by omega), zGcc_fr a4 (by rw [hk 31 (by decide)]) (hk 104 (by decide)), zOC_fr a5 (by rw [e9]) (h19 15 (by decide)) (hk 29 (by decide)), zCC_fr a6 (by rw [e9]) h12 (h19 13 (by decide)) (h19 14 (by decide)) (h19 16 (by decide)) (hk 30 (by decide)), by rw [h19 15 (by decide), e9]; exact a7, by rw [h19 16 (by decide), e9]; exact a8⟩
theorem zXC_R (h : zXC hist fi kp tk n B v bw M) : M 10 = hist kp := h.1.2.2.2.2.2.1
theorem zXC_w (h : zXC hist fi kp tk n B v bw M) : zWf (hist kp) := h.2.1 kp (by omega)
theorem SC_value (hd : 60 ≤ d) (h : zXC hist fi kp tk n B v bw M) (hv : v ≤ 1000) (ha : z32 a = a) (hb : z32 b = b)
    (hQ : ∀ M', zXC hist fi kp tk n B v bw M' → zOut M M' → Q (some (zi (if (0 ≤ a ∧ a ≤ 24) ∧ (0 ≤ b ∧ b ≤ hist kp 93) then zVl (hist kp) (24 - a.toNat) b else -1))) (zWd L bw) M') : zF d x_We_value 0 [zr 8, zi a, zi b] [] (zWd L bw) M Q := by
  have h9 := h.2.2.2.2.1
  have hk := h.2.2.2.2.2
  refine C_value (by omega) (zXC_R h) (zXC_w h).2.2.1 (by omega) hk.1 ha hb fun M' f c => hQ M' (zXC_q h (fun k q => f k (by omega) (by omega) (by omega)) (zKc_m hk c f)) ⟨fun k q1 q2 => f k (by omega) (by omega) (by omega), f 1 (by decide) (by decide) (by decide), f 17 (by decide) (by decide) (by decide)⟩
theorem SC_trade (hd : 60 ≤ d) (h : zXC hist fi kp tk n B v bw M) (hv : v ≤ 1000) (ha : z32 a = a) (hb : z32 b = b) (hy : z32 y = y)
    (hQ : ∀ M', zXC hist fi kp tk n B v bw M' → zOut M M' → Q (some (zi (if (0 ≤ a ∧ a ≤ 23) ∧ (0 ≤ b ∧ b ≤ hist kp 93) ∧ (0 ≤ y ∧ y ≤ 2) then (zMB (hist kp) (fun x => zVl (hist kp) (24 - (a.toNat + 1)) (zLeft (hist kp 95) x)) a b y).2 else -100))) (zWd L bw) M') : zF d x_We_trade 0 [zr 8, zi a, zi b, zi y] [] (zWd L bw) M Q := by
  have h9 := h.2.2.2.2.1
  have hk := h.2.2.2.2.2
  refine C_trade (by omega) (zXC_R h) (zXC_w h).2.2.1 (by omega) hk.1 ha hb hy fun M' f c => hQ M' (zXC_q h (fun k q => f k (by omega) (by omega) (by omega)) (zKc_m hk c f)) ⟨fun k q1 q2 => f k (by omega) (by omega) (by omega), f 1 (by decide) (by decide) (by decide), f 17 (by decide) (by decide) (by decide)⟩
theorem SC_worth (hd : 60 ≤ d) (h : zXC hist fi kp tk n B v bw M) (hv : v ≤ 1000) (ha : z32 a = a) (hb : z32 b = b)
    (hQ : ∀ M', zXC hist fi kp tk n B v bw M' → zOut M M' → Q (some (zi (if (0 ≤ a ∧ a ≤ 24) ∧ (0 ≤ b ∧ b ≤ hist kp 93 - 1) then zVl (hist kp) (24 - a.toNat) (b + 1) - zVl (hist kp) (24 - a.toNat) b else -100000))) (zWd L bw) M') : zF d x_We_worth 0 [zr 8, zi a, zi b] [] (zWd L bw) M Q := by
  have h9 := h.2.2.2.2.1
  have hk := h.2.2.2.2.2
  refine C_worth (by omega) (zXC_R h) (zXC_w h).2.2.1 (by omega) hk.1 ha hb fun M' f c => hQ M' (zXC_q h (fun k q => f k (by omega) (by omega) (by omega)) (zKc_m hk c f)) ⟨fun k q1 q2 => f k (by omega) (by omega) (by omega), f 1 (by decide) (by decide) (by decide), f 17 (by decide) (by decide) (by decide)⟩
theorem SC_check (hd : 60 ≤ d) (h : zXC hist fi kp tk n B v bw M) (ha : z32 a = a) (hb : z32 b = b)
    (hQ : ∀ M', zXC hist fi kp tk n B v bw M' → zOut M M' → Q (some (zi (if (0 ≤ a ∧ a ≤ hist kp 93) ∧ (0 ≤ b ∧ b ≤ 2) then (if b = 0 then (zWalk (hist kp) 24 0 a 0).1 else if b = 1 then (zWalk (hist kp) 24 0 a 0).2.1 else (zWalk (hist kp) 24 0 a 0).2.2) else -100001))) (zWd L bw) M') : zF d x_We_check 0 [zr 8, zi a, zi b] [] (zWd L bw) M Q := by
  have hk := h.2.2.2.2.2
  refine C_check (by omega) (zXC_R h) (zXC_w h).2.2.1 (zXC_w h).2.2.2.1 hk.1 ha hb fun M' f c => hQ M' (zXC_q h (fun k q => f k (by omega) (by omega) (by omega)) (zKc_m hk c f)) ⟨fun k q1 q2 => f k (by omega) (by omega) (by omega), f 1 (by decide) (by decide) (by decide), f 17 (by decide) (by decide) (by decide)⟩
theorem SC_off (hd : 60 ≤ d) (h : zXC hist fi kp tk n B v bw M) (hv : v ≤ 1000)
    (hQ : ∀ M', zXC hist fi kp tk n B v bw M' → zOut M M' → Q (some (zi (zStl (hist kp) (hist kp 97).toNat).1)) (zWd L bw) M') : zF d x_We_off 0 [zr 8] [] (zWd L bw) M Q := by
  have h9 := h.2.2.2.2.1
  have hk := h.2.2.2.2.2
  refine C_off (by omega) (zXC_w h).2.2.2.2.1 (zXC_R h) (by omega) hk.2.1 fun M' f c => hQ M' (zXC_q h (fun k q => f k (by omega) (by omega) (by omega)) (zKc_b hk c f)) ⟨fun k q1 q2 => f k (by omega) (by omega) (by omega), f 1 (by decide) (by decide) (by decide), f 17 (by decide) (by decide) (by decide)⟩
theorem SC_weights (hd : 60 ≤ d) (h : zXC hist fi kp tk n B v bw M) (hv : v ≤ 1000) (ha : z32 a = a)
    (hQ : ∀ M', zXC hist fi kp tk n B v bw M' → zOut M M' → Q (some (zi (if 0 ≤ a ∧ a ≤ hist kp 97 - 1 then (zStl (hist kp) (hist kp 97).toNat).2.2 a.toNat else -1))) (zWd L bw) M') : zF d x_We_weights 0 [zr 8, zi a] [] (zWd L bw) M Q := by
  have h9 := h.2.2.2.2.1
  have hk := h.2.2.2.2.2
  refine C_weights (by omega) (zXC_w h).2.2.2.2.1 (zXC_R h) (by omega) hk.2.1 ha fun M' f c => hQ M' (zXC_q h (fun k q => f k (by omega) (by omega) (by omega)) (zKc_b hk c f)) ⟨fun k q1 q2 => f k (by omega) (by omega) (by omega), f 1 (by decide) (by decide) (by decide), f 17 (by decide) (by decide) (by decide)⟩
theorem SC_looks (hd : 60 ≤ d) (h : zXC hist fi kp tk n B v bw M) (hv : v ≤ 1000) (ha : z32 a = a)
    (hQ : ∀ M', zXC hist fi kp tk n B v bw M' → zOut M M' → Q (some (zi (if 1 ≤ a ∧ a ≤ 10 then zLooks (hist kp) a.toNat else -1))) (zWd L bw) M') : zF d x_We_looks 0 [zr 8, zi a] [] (zWd L bw) M Q := by
  have h9 := h.2.2.2.2.1
  have hk := h.2.2.2.2.2
  refine C_looks (by omega) (zXC_w h).2.2.2.2.2.1 (zXC_R h) (by omega) hk.2.2.1 ha fun M' f c => hQ M' (zXC_q h (fun k q => f k (by omega) (by omega)) (zKc_i hk c f)) ⟨fun k q1 q2 => f k (by omega) (by omega), f 1 (by decide) (by decide), f 17 (by decide) (by decide)⟩
theorem SC_cost (hd : 60 ≤ d) (h : zXC hist fi kp tk n B v bw M) (ha : z32 a = a) (hb : z32 b = b) (hcc : z32 c = c)
    (hQ : ∀ M', zXC hist fi kp tk n B v bw M' → zOut M M' → Q (some (zl (if (1 ≤ a ∧ a ≤ 10) ∧ (0 ≤ b ∧ b < ((2 ^ a.toNat : Nat) : Int)) ∧ (0 ≤ c ∧ c ≤ 1) then zLow (zcst (hist kp) b a.toNat) (zp8 a.toNat) c else -1))) (zWd L bw) M') : zF d x_We_cost 0 [zr 8, zi a, zi b, zi c] [] (zWd L bw) M Q := by
  have hk := h.2.2.2.2.2
  refine C_cost (by omega) (zXC_w h).2.2.2.2.2.1 (zXC_R h) hk.2.2.1 ha hb hcc fun M' f c => hQ M' (zXC_q h (fun k q => f k (by omega) (by omega)) (zKc_i hk c f)) ⟨fun k q1 q2 => f k (by omega) (by omega), f 1 (by decide) (by decide), f 17 (by decide) (by decide)⟩
theorem SC_press (hd : 60 ≤ d) (h : zXC hist fi kp tk n B v bw M) (ha : z32 a = a) (hb : z32 b = b) (hcc : z32 c = c)
    (hQ : ∀ M', zXC hist fi kp tk n B v bw M' → zOut M M' → Q (some (zl (zPre (hist kp) a b c))) (zWd L bw) M') : zF d x_We_press 0 [zr 8, zi a, zi b, zi c] [] (zWd L bw) M Q := by
  refine C_press (by omega) (zXC_R h) (zXC_w h).2.1 ha hb hcc fun M' f => hQ M' (zXC_q h (fun k q => f.1.1 k (by omega)) (zKc_r h.2.2.2.2.2 f)) ⟨fun k q1 q2 => f.1.1 k (by omega), f.1.1 1 (by decide), f.1.1 17 (by decide)⟩
theorem SC_gap (hd : 60 ≤ d) (h : zXC hist fi kp tk n B v bw M) (ha : z32 a = a) (hb : z32 b = b) (hcc : z32 c = c)
    (hQ : ∀ M', zXC hist fi kp tk n B v bw M' → zOut M M' → Q (some (zl (zGapA (hist kp) a b c))) (zWd L bw) M') : zF d x_We_gap 0 [zr 8, zi a, zi b, zi c] [] (zWd L bw) M Q := by
  refine C_gap (by omega) (zXC_R h) (zXC_w h).2.1 ha hb hcc fun M' f => hQ M' (zXC_q h (fun k q => f.1.1 k (by omega)) (zKc_r h.2.2.2.2.2 f)) ⟨fun k q1 q2 => f.1.1 k (by omega), f.1.1 1 (by decide), f.1.1 17 (by decide)⟩
theorem SC_stretch (hd : 60 ≤ d) (h : zXC hist fi kp tk n B v bw M) (ha : z32 a = a) (hb : z32 b = b) (hcc : z32 c = c)
    (hQ : ∀ M', zXC hist fi kp tk n B v bw M' → zOut M M' → Q (some (zl (zStrA (hist kp) a b c))) (zWd L bw) M') : zF d x_We_stretch 0 [zr 8, zi a, zi b, zi c] [] (zWd L bw) M Q := by
  refine C_stretch (by omega) (zXC_R h) (zXC_w h).2.1 ha hb hcc fun M' f => hQ M' (zXC_q h (fun k q => f.1.1 k (by omega)) (zKc_r h.2.2.2.2.2 f)) ⟨fun k q1 q2 => f.1.1 k (by omega), f.1.1 1 (by decide), f.1.1 17 (by decide)⟩
theorem SC_most (hd : 60 ≤ d) (h : zXC hist fi kp tk n B v bw M)
    (hQ : ∀ M', zXC hist fi kp tk n B v bw M' → zOut M M' → Q (some (zi (zMost (hist kp) (zrF (hist kp))))) (zWd L bw) M') : zF d x_We_most 0 [zr 8] [] (zWd L bw) M Q := by
  refine C_rmost (by omega) (zXC_R h) (zXC_w h).2.1 fun M' f => hQ M' (zXC_q h (fun k q => f.1.1 k (by omega)) (zKc_r h.2.2.2.2.2 f)) ⟨fun k q1 q2 => f.1.1 k (by omega), f.1.1 1 (by decide), f.1.1 17 (by decide)⟩
theorem SC_opens (hd : 60 ≤ d) (h : zXC hist fi kp tk n B v bw M) (hv : v ≤ 1000) (ha : z32 a = a)
    (hQ : ∀ M', zXC hist fi kp tk n B v bw M' → zOut M M' → Q (some (zi (zOpA (hist kp) a))) (zWd L bw) M') : zF d x_We_opens 0 [zr 8, zi a] [] (zWd L bw) M Q := by
  have h9 := h.2.2.2.2.1
  obtain ⟨a1, a2, a3, a4, a5, a6, a7, a8⟩ := h.2.2.2.2.2
  refine C_opens (by omega) (zXC_R h) (zXC_w h).2.1 (z32_id (by omega) (by omega)) (z32_id (by omega) (by omega)) a5 ha fun M' hk h19 h12 h15 ho => ?_
  have e9 := hk 9 (by decide)
  refine hQ M' (zXC_q h (fun k q => hk k (by omega)) ⟨zMC_fr a1 fun k q => hk k (by omega), zBC_fr a2 fun k q => hk k (by omega), zIC_fr a3 fun k q => hk k (by omega), zGcc_fr a4 (by rw [hk 31 (by decide)]) (hk 104 (by decide)), ho, zCC_fr a6 (by rw [e9]) h12 (h19 13 (by decide) (by decide)) (h19 14 (by decide) (by decide)) (h19 16 (by decide) (by decide)) (hk 30 (by decide)), ?_, by rw [h19 16 (by decide) (by decide), e9]; exact a8⟩) ⟨fun k q1 q2 => hk k (by omega), hk 1 (by decide), hk 17 (by decide)⟩
  rw [e9]
  rcases h15 with q | q
  · rw [q]; exact a7
  · rw [q]; omega
theorem zKc_ch (h : zKc R bw M) (hb : zFrb M M') (hc : zCC R M') (h9 : 0 ≤ M 9 1) : zKc R bw M' := by
  obtain ⟨a1, a2, a3, a4, a5, a6, a7, a8⟩ := h
  obtain ⟨hk, h19, h16⟩ := hb
  have e9 := hk 9 (by decide) (by decide)
  refine ⟨zMC_fr a1 fun k q => hk k (by omega) (by omega), zBC_fr a2 fun k q => hk k (by omega) (by omega), zIC_fr a3 fun k q => hk k (by omega) (by omega), zGcc_fr a4 (by rw [hk 31 (by decide) (by decide)]) (hk 104 (by decide) (by decide)), zOC_fr a5 (by rw [e9]) (h19 15 (by decide) (by decide)) (hk 29 (by decide) (by decide)), hc, by rw [h19 15 (by decide) (by decide), e9]; exact a7, ?_⟩
  rw [e9]
  rcases h16 with q | q
  · rw [q]; exact a8
  · rw [q]; omega
theorem SC_best (hd : 60 ≤ d) (h : zXC hist fi kp tk n B v bw M) (hv : v ≤ 1000) (ha : z32 a = a) (hb : z32 b = b) (hcc : z32 c = c)
    (hQ : ∀ M', zXC hist fi kp tk n B v bw M' → zOut M M' → Q (some (zi (zBstA (hist kp) a b c))) (zWd L bw) M') : zF d x_We_best 0 [zr 8, zi a, zi b, zi c] [] (zWd L bw) M Q := by
  have h9 := h.2.2.2.2.1
  obtain ⟨a1, a2, a3, a4, a5, a6, a7, a8⟩ := h.2.2.2.2.2
  refine C_best (by omega) (zXC_R h) (zXC_w h).2.1 ha hb hcc (z32_id (by omega) (by omega)) (z32_id (by omega) (by omega)) a6 fun M' f c => hQ M' (zXC_q h (fun k q => f.1 k (by omega) (by omega)) (zKc_ch h.2.2.2.2.2 f c h9.1)) ⟨fun k q1 q2 => f.1 k (by omega) (by omega), f.1 1 (by decide) (by decide), f.1 17 (by decide) (by decide)⟩
theorem SC_chosen (hd : 60 ≤ d) (h : zXC hist fi kp tk n B v bw M) (hv : v ≤ 1000) (ha : z32 a = a) (hb : z32 b = b) (hcc : z32 c = c) (he : z32 e = e)
    (hQ : ∀ M', zXC hist fi kp tk n B v bw M' → zOut M M' → Q (some (zi (zChos (hist kp) a b c e))) (zWd L bw) M') : zF d x_We_chosen 0 [zr 8, zi a, zi b, zi c, zi e] [] (zWd L bw) M Q := by
  have h9 := h.2.2.2.2.1
  obtain ⟨a1, a2, a3, a4, a5, a6, a7, a8⟩ := h.2.2.2.2.2
  refine C_chosen (by omega) (zXC_R h) (zXC_w h).2.1 ha hb hcc he (z32_id (by omega) (by omega)) (z32_id (by omega) (by omega)) a6 fun M' f c => hQ M' (zXC_q h (fun k q => f.1 k (by omega) (by omega)) (zKc_ch h.2.2.2.2.2 f c h9.1)) ⟨fun k q1 q2 => f.1 k (by omega) (by omega), f.1 1 (by decide) (by decide), f.1 17 (by decide) (by decide)⟩
end ZSc
