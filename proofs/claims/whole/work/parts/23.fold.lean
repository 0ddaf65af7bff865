/-! Loops as folds; words of 32 bits stay such. -/
def zfold {σ : Type} (f : Int → σ → σ) : Nat → Int → σ → σ
  | 0, _, s => s
  | n + 1, i, s => zfold f n (i + 1) (f i s)
theorem zfold_0 {σ : Type} (f : Int → σ → σ) (i : Int) (s : σ) : zfold f 0 i s = s := rfl
theorem zfold_s {σ : Type} (f : Int → σ → σ) (n : Nat) (i : Int) (s : σ) : zfold f (n + 1) i s = zfold f n (i + 1) (f i s) := rfl
theorem zfold_inv {σ : Type} {f : Int → σ → σ} (P : Int → σ → Prop) : ∀ (n : Nat) (i : Int) (s : σ), P i s → (∀ j s, i ≤ j → j < i + n → P j s → P (j + 1) (f j s)) → P (i + n) (zfold f n i s) := by
  intro n
  induction n with
  | zero => intro i s h _; rw [show i + ((0 : Nat) : Int) = i by omega]; exact h
  | succ n ih =>
    intro i s h hs
    rw [zfold_s, show i + ((n + 1 : Nat) : Int) = i + 1 + n by omega]
    exact ih _ _ (hs i s (by omega) (by omega) h) fun j s h1 h2 h3 => hs j s (by omega) (by omega) h3
theorem zfold_rel {σ τ : Type} {f : Int → σ → σ} {g : Int → τ → τ} (P : Int → σ → τ → Prop) : ∀ (n : Nat) (i : Int) (s : σ) (t : τ), P i s t → (∀ j s t, i ≤ j → j < i + n → P j s t → P (j + 1) (f j s) (g j t)) → P (i + n) (zfold f n i s) (zfold g n i t) := by
  intro n
  induction n with
  | zero => intro i s t h _; rw [show i + ((0 : Nat) : Int) = i by omega]; exact h
  | succ n ih =>
    intro i s t h hs
    rw [zfold_s, zfold_s, show i + ((n + 1 : Nat) : Int) = i + 1 + n by omega]
    exact ih _ _ _ (hs i s t (by omega) (by omega) h) fun j s t h1 h2 h3 => hs j s t (by omega) (by omega) h3
theorem zfold_congr {σ : Type} {f g : Int → σ → σ} (P : Int → σ → Prop) (n : Nat) (i : Int) (s : σ) (h : P i s) (hs : ∀ j s, i ≤ j → j < i + n → P j s → f j s = g j s ∧ P (j + 1) (g j s)) : zfold f n i s = zfold g n i s := by
  have := zfold_rel (f := f) (g := g) (fun j a b => a = b ∧ P j b) n i s s ⟨rfl, h⟩ fun j a b h1 h2 h3 => by
    obtain ⟨rfl, h3⟩ := h3
    exact hs j a h1 h2 h3
  exact this.1
theorem zfold_congr' {σ : Type} {f g : Int → σ → σ} (n : Nat) (i : Int) (s : σ) (hs : ∀ j s, i ≤ j → j < i + n → f j s = g j s) : zfold f n i s = zfold g n i s :=
  zfold_congr (fun _ _ => True) n i s trivial fun j s h1 h2 _ => ⟨hs j s h1 h2, trivial⟩
theorem zfold_app {σ : Type} (f : Int → σ → σ) : ∀ (n m : Nat) (i : Int) (s : σ), zfold f (n + m) i s = zfold f m (i + n) (zfold f n i s) := by
  intro n
  induction n with
  | zero => intro m i s; rw [zfold_0, Nat.zero_add, show i + ((0 : Nat) : Int) = i by omega]
  | succ n ih => intro m i s; rw [show n + 1 + m = (n + m) + 1 by omega, zfold_s, zfold_s, ih, show i + 1 + (n : Int) = i + ((n + 1 : Nat) : Int) by omega]
theorem zfold_last {σ : Type} (f : Int → σ → σ) (n : Nat) (i : Int) (s : σ) : zfold f (n + 1) i s = f (i + n) (zfold f n i s) := by
  rw [zfold_app f n 1 i s]; rfl
/-- cells written one after the other -/
theorem zfold_put (k : Nat) (g : Int → Int) : ∀ (n : Nat) (i : Int) (M : zM), 0 ≤ i → zfold (fun i (M : zM) => zu M k i.toNat (g i)) n i M = zo M k (fun j => if i ≤ j ∧ (j : Int) < i + n then g j else M k j) := by
  intro n
  induction n with
  | zero =>
    intro i M h
    rw [zfold_0]
    funext a b
    simp only [zo]
    split
    · rename_i e; subst e; dsimp only; rw [if_neg (by omega)]
    · rfl
  | succ n ih =>
    intro i M h
    rw [zfold_s, ih _ _ (by omega)]
    funext a b
    simp only [zo]
    split
    · rename_i e
      subst e
      dsimp only
      rw [zu_at]
      by_cases h1 : b = i.toNat
      · subst h1
        rw [if_neg (by omega), if_pos rfl, if_pos (by omega), show ((i.toNat : Nat) : Int) = i by omega]
      · rw [if_neg h1]
        by_cases h2 : i + 1 ≤ (b : Int) ∧ (b : Int) < i + 1 + n
        · rw [if_pos h2, if_pos (by omega)]
        · rw [if_neg h2, if_neg (by omega)]
    · rename_i e
      rw [zu_off _ _ _ e]
theorem zo_at {α : Type} (M : Nat → Nat → α) (k : Nat) (f : Nat → α) : zo M k f k = f := by unfold zo; simp
theorem zo_off {α : Type} (M : Nat → Nat → α) {k k' : Nat} (f : Nat → α) (h : k' ≠ k) : zo M k f k' = M k' := by unfold zo; simp [h]
theorem z32_idem (a : Int) : z32 (z32 a) = z32 a := by unfold z32; omega
theorem z32_I (x : Int32) : z32 x.toInt = x.toInt := by
  have h1 := x.toInt_lt; have h2 := x.le_toInt
  exact z32_id (by omega) (by omega)
theorem z32_and (a b : Int) : z32 (zand a b) = zand a b := z32_I _
theorem z32_or (a b : Int) : z32 (zor a b) = zor a b := z32_I _
theorem z32_xor (a b : Int) : z32 (zxor a b) = zxor a b := z32_I _
theorem z32_shl (a b : Int) : z32 (zshl a b) = zshl a b := z32_I _
theorem z32_shr (a b : Int) : z32 (zshr a b) = zshr a b := z32_I _
theorem z32_ushr (a b : Int) : z32 (zushr a b) = zushr a b := z32_I _
theorem z32_ite (p : Prop) [Decidable p] (a b : Int) : z32 (if p then a else b) = if p then z32 a else z32 b := by split <;> rfl
theorem zor_zero (a : Int) : zor a 0 = z32 a := by
  unfold zor
  have : Int32.ofInt a ||| Int32.ofInt 0 = Int32.ofInt a := by
    have h0 : (Int32.ofInt 0) = 0 := rfl
    rw [h0, Int32.or_zero]
  rw [this]
  exact zI_toInt' a
theorem zI_ofz32 (a : Int) : Int32.ofInt (z32 a) = Int32.ofInt a := by
  apply Int32.toInt_inj.mp
  rw [zI_toInt', zI_toInt', z32_idem]
theorem zite_zi (p : Prop) [Decidable p] (a b : Int) : (if p then zi a else zi b) = zi (if p then a else b) := by split <;> rfl
theorem zite11 (p : Prop) [Decidable p] : ((if p then (1 : Int) else 0) = 1) ↔ p := by by_cases h : p <;> simp [h]
theorem zem (p : Prop) : (¬ p ∨ p) = True := eq_true (Classical.or_iff_not_imp_left.mpr fun h => Classical.not_not.mp h)
theorem zem' (p : Prop) : (p ∨ ¬ p) = True := eq_true (Classical.em p)
theorem zNeqF {a b : Nat} (h : a < b ∨ b < a) : (a = b) = False := eq_false (by omega)
