/-! Rings, the pure part: the one answer. p 0 = 0, p (f + 1) the press of fit f, all over D. -/
def zRw (g own : Nat → Int) (D : Int) (p : Nat → Int) (f : Nat) : Int := p (f + 1) * (g f + g (f + 1)) - p (f + 2) * g (f + 1) - p f * g f + own f * D
def zSol (n : Nat) (g own : Nat → Int) (D : Int) (p : Nat → Int) : Prop := 0 < D ∧ p 0 = 0 ∧ p (n + 1) = 0 ∧ ∀ f, f < n → 0 ≤ p (f + 1) ∧ 0 ≤ zRw g own D p f ∧ (p (f + 1) = 0 ∨ zRw g own D p f = 0)
theorem zlmax (δ : Nat → Int) : ∀ N : Nat, ∃ k, k ≤ N ∧ (∀ j, j ≤ N → δ j ≤ δ k) ∧ ∀ j, j < k → δ j < δ k := by
  intro N
  induction N with
  | zero => exact ⟨0, Nat.le_refl _, fun j hj => by rw [show j = 0 by omega]; exact Int.le_refl _, fun j hj => by omega⟩
  | succ N ih =>
    obtain ⟨k, h1, h2, h3⟩ := ih
    by_cases h : δ k < δ (N + 1)
    · refine ⟨N + 1, Nat.le_refl _, fun j hj => ?_, fun j hj => ?_⟩
      · by_cases e : j = N + 1
        · rw [e]; exact Int.le_refl _
        · have := h2 j (by omega); omega
      · have := h2 j (by omega); omega
    · refine ⟨k, by omega, fun j hj => ?_, h3⟩
      by_cases e : j = N + 1
      · rw [e]; omega
      · exact h2 j (by omega)
theorem zSol_le {n : Nat} {g own : Nat → Int} {D D' : Int} {p p' : Nat → Int} (hg : ∀ f, f ≤ n → 0 < g f) (h : zSol n g own D p) (h' : zSol n g own D' p') : ∀ k, k ≤ n + 1 → p k * D' ≤ p' k * D := by
  obtain ⟨hD, h0, hn, hf⟩ := h
  obtain ⟨hD', h0', hn', hf'⟩ := h'
  obtain ⟨k, k1, k2, k3⟩ := zlmax (fun k => p k * D' - p' k * D) (n + 1)
  have hk : p k * D' - p' k * D ≤ 0 := by
    by_cases hpos : p k * D' - p' k * D ≤ 0
    · exact hpos
    · exfalso
      have e0 : k ≠ 0 := fun e => by rw [e, h0, h0'] at hpos; simp at hpos
      have e1 : k ≠ n + 1 := fun e => by rw [e, hn, hn'] at hpos; simp at hpos
      obtain ⟨f, rfl⟩ : ∃ f, k = f + 1 := ⟨k - 1, by omega⟩
      obtain ⟨a1, a2, a3⟩ := hf f (by omega)
      obtain ⟨b1, b2, b3⟩ := hf' f (by omega)
      have c1 := k3 f (by omega)
      have c2 := k2 (f + 2) (by omega)
      have g1 := hg f (by omega)
      have g2 := hg (f + 1) (by omega)
      have hpD : 0 ≤ p' (f + 1) * D := Int.mul_nonneg b1 (by omega)
      have hp : p (f + 1) ≠ 0 := fun e => by rw [e, Int.zero_mul] at hpos; omega
      have hz : zRw g own D p f = 0 := a3.resolve_left hp
      have m1 : 0 < ((p (f + 1) * D' - p' (f + 1) * D) - (p f * D' - p' f * D)) * g f := Int.mul_pos (by omega) g1
      have m2 : 0 ≤ ((p (f + 1) * D' - p' (f + 1) * D) - (p (f + 2) * D' - p' (f + 2) * D)) * g (f + 1) := Int.mul_nonneg (by omega) (by omega)
      have m3 : 0 ≤ zRw g own D' p' f * D := Int.mul_nonneg b2 (by omega)
      have e : ((p (f + 1) * D' - p' (f + 1) * D) - (p f * D' - p' f * D)) * g f + ((p (f + 1) * D' - p' (f + 1) * D) - (p (f + 2) * D' - p' (f + 2) * D)) * g (f + 1) = zRw g own D p f * D' - zRw g own D' p' f * D := by
        unfold zRw
        grind
      rw [hz, Int.zero_mul] at e
      omega
  intro j hj
  have := k2 j hj
  omega
theorem zSol_uniq {n : Nat} {g own : Nat → Int} {D D' : Int} {p p' : Nat → Int} (hg : ∀ f, f ≤ n → 0 < g f) (h : zSol n g own D p) (h' : zSol n g own D' p') : (∀ k, k ≤ n + 1 → p k * D' = p' k * D) ∧ ∀ f, f < n → zRw g own D p f * D' = zRw g own D' p' f * D := by
  have e : ∀ k, k ≤ n + 1 → p k * D' = p' k * D := fun k hk => by
    have a := zSol_le hg h h' k hk
    have b := zSol_le hg h' h k hk
    omega
  refine ⟨e, fun f hf => ?_⟩
  have e1 := e f (by omega)
  have e2 := e (f + 1) (by omega)
  have e3 := e (f + 2) (by omega)
  unfold zRw
  grind
