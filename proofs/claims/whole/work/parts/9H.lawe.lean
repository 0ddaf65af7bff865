/-! The law's cases: end. -/
section ZLe
variable {d L i : Nat} {v : Int} {bw bw' : Bool} {M M' : zM} {Q : Option zV → zW → zM → Prop}
theorem zXM_by {hist : Nat → Nat → Int} {kp tk n n' : Nat} {B B' : Nat → Int} (h : zXM hist kp tk n B M) (f1 : ∀ k, k ≠ 82 → k ≠ 83 → M' k = M k) (f2 : ∀ k, k ≠ 2 → M' 82 k = M 82 k) (hb : zBy B' n' M') : zXM hist kp tk n' B' M' := by
  obtain ⟨a1, a2, a3⟩ := h
  refine ⟨zMA_fr a1 (fun k q1 q2 => f1 k (by omega) (by omega)) (f2 15 (by omega)) (f2 16 (by omega)), hb, ?_⟩
  obtain ⟨b1, b2⟩ := a3
  refine ⟨?_, fun k hk => by rw [f1 96 (by decide) (by decide)]; exact b2 k hk⟩
  rcases b1 with h | ⟨R0, f, g1, g2, g3, g4, g5⟩
  · exact Or.inl (by rw [f2 28 (by omega)]; exact h)
  · exact Or.inr ⟨R0, f, g1, g2, by rw [f2 28 (by omega)]; exact g3, fun k hk => by rw [f1 96 (by decide) (by decide)]; exact g4 k hk, fun t ht BB a b c q1 q2 => by rw [f1 95 (by decide) (by decide)]; exact g5 t ht BB a b c q1 q2⟩
theorem zXC_by {hist : Nat → Nat → Int} {fi kp tk n n' : Nat} {B B' : Nat → Int} (h : zXC hist fi kp tk n B v bw M) (f1 : ∀ k, k ≠ 15 → k ≠ 16 → M' k = M k) (hb : zTp B' n' M') : zXC hist fi kp tk n' B' v bw M' :=
  ⟨zCA_fr h.1 fun k h1 h2 => f1 k (by omega) (by omega), h.2.1, hb, zStr_fr h.2.2.2.1 fun k h1 h2 => f1 k (by omega) (by omega), by rw [f1 9 (by decide) (by decide)]; exact h.2.2.2.2.1, zKc_fr h.2.2.2.2.2 (fun k q => f1 k (by omega) (by omega)) (by rw [f1 31 (by decide) (by decide)])⟩
end ZLe
