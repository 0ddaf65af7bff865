/-! LOOKS that are best: one answer, found by both sides. -/
theorem zcst_congr {R : Nat → Int} {a b : Int} : ∀ r : Nat, (∀ i, i < r → zbit a i = zbit b i) → zdst R a r = zdst R b r ∧ zcst R a r = zcst R b r := by
  intro r
  induction r with
  | zero => intro _; exact ⟨by funext k; rw [zdst, zdst], by rw [zcst, zcst]⟩
  | succ r ih =>
    intro h
    obtain ⟨e1, e2⟩ := ih fun i hi => h i (by omega)
    refine ⟨by funext k; rw [zdst, zdst, e1, h r (by omega)], by rw [zcst, zcst, e1, e2, h r (by omega)]⟩
theorem zss_nn {f : Nat → Int} (n : Nat) (h : ∀ i, i < n → 0 ≤ f i) : 0 ≤ zss f n := by
  have := zss_le (f := fun _ => 0) (g := f) n h
  rw [zss_zero] at this
  exact this
theorem zss_one {f : Nat → Int} {i : Nat} : ∀ n : Nat, i < n → (∀ i, i < n → 0 ≤ f i) → f i ≤ zss f n := by
  intro n
  induction n with
  | zero => intro h _; omega
  | succ n ih =>
    intro h h2
    rw [zss]
    have h3 := zss_nn n fun i hi => h2 i (by omega)
    by_cases e : i = n
    · subst e; omega
    · have := ih (by omega) fun i hi => h2 i (by omega)
      have := h2 n (by omega)
      omega
theorem zgrw_nn {R A : Nat → Int} (hk : zIk R) (hA : ∀ c, c < 20 → 0 ≤ A c) : 0 ≤ zbst R A ∧ ∀ k, 0 ≤ zgrw R A k := by
  obtain ⟨hr, k1, k2, k3, k4, k5, k6⟩ := hk
  have g1 : ∀ c, c < 20 → 0 ≤ A c * R 187 := fun c hc => Int.mul_nonneg (hA c hc) k1.1
  have g2 : ∀ c, c < 20 → 0 ≤ A c * R 188 := fun c hc => Int.mul_nonneg (hA c hc) k1.2.1
  have g3 : ∀ c, c < 20 → 0 ≤ A c * (8 - R 187 - R 188) := fun c hc => Int.mul_nonneg (hA c hc) (by omega)
  have e1 : 0 ≤ zbst R A := zss_nn _ fun c hc => by
    have := g2 c (by omega); have := g3 c (by omega)
    unfold zcu; (repeat' split) <;> omega
  refine ⟨e1, fun k => ?_⟩
  have e2 : 0 ≤ zss (fun c => zcB R A c k) (R 189).toNat := zss_nn _ fun c hc => by
    have := g1 c (by omega); have := g2 c (by omega); have := g3 c (by omega)
    show 0 ≤ zcB R A c k
    unfold zcB; (repeat' split) <;> omega
  unfold zgrw
  split <;> omega
theorem zrnd_nn {R A : Nat → Int} (hk : zIk R) (hA : ∀ c, c < 20 → 0 ≤ A c) (lk : Int) (k : Nat) : 0 ≤ zrnd R A lk k := by
  obtain ⟨e1, e2⟩ := zgrw_nn hk hA
  have e3 : 0 ≤ zfnd R (zgrw R A) := zss_nn _ fun k _ => by
    have := e2 k
    split <;> omega
  have := e2 k
  unfold zrnd zlok
  (repeat' split) <;> omega
theorem zdst_nn {R : Nat → Int} (hk : zIk R) (a : Int) : ∀ (r k : Nat), 0 ≤ zdst R a r k := by
  intro r
  induction r with
  | zero => intro k; rw [zdst]; split <;> omega
  | succ r ih => intro k; rw [zdst]; exact zrnd_nn hk (fun c _ => ih c) _ k
theorem zrco_bd {R : Nat → Int} (hk : zIk R) (a : Int) (r : Nat) : 0 ≤ zrco R (zdst R a r) (zbit a r) (zp8 (r + 1)) ∧ zrco R (zdst R a r) (zbit a r) (zp8 (r + 1)) ≤ zp8 (r + 1) * 29997 := by
  have hA := fun c (_ : c < 20) => zdst_nn hk a r c
  obtain ⟨e1, e2⟩ := zgrw_nn hk hA
  have et := zgrw_tot hk (zdst_sup hk a r)
  rw [zdst_tot hk, ← zp8_s] at et
  have e3 : 0 ≤ zfnd R (zgrw R (zdst R a r)) := zss_nn _ fun k _ => by
    have := e2 k
    split <;> omega
  have e4 : zfnd R (zgrw R (zdst R a r)) ≤ zp8 (r + 1) := by
    rw [← et]
    exact zss_le 20 fun k _ => by have := e2 k; split <;> omega
  have e5 : zbst R (zdst R a r) ≤ zp8 (r + 1) := by
    have h0 := zss_one (f := zgrw R (zdst R a r)) (i := 0) 20 (by decide) fun i _ => e2 i
    have h1 : zgrw R (zdst R a r) 0 = zss (fun c => zcB R (zdst R a r) c 0) (R 189).toNat + zbst R (zdst R a r) := by unfold zgrw; rw [if_pos rfl]
    have h2 : 0 ≤ zss (fun c => zcB R (zdst R a r) c 0) (R 189).toNat := zss_nn _ fun c hc => by
      have k2 := hk.2.2.1
      show 0 ≤ zcB R (zdst R a r) c 0
      unfold zcB
      rw [if_neg (show ¬ (0 = c + 1 ∧ _) by omega), if_neg (show ¬ (0 = c + 2 ∧ _) by omega)]
      have := Int.mul_nonneg (hA c (by omega)) hk.2.1.1
      split <;> omega
    omega
  obtain ⟨hr, k1, k2, k3, k4, k5, k6⟩ := hk
  have m1 := zmul_bd e1 e5 k6.1 k6.2
  have m2 := zmul_bd e3 e4 k5.1 k5.2
  have h8 : 0 ≤ zp8 (r + 1) := by omega
  have m3 := zmul_bd h8 (Int.le_refl _) k4.1 k4.2
  unfold zrco
  split <;> omega
theorem zcst_bd {R : Nat → Int} (hk : zIk R) (a : Int) : ∀ r : Nat, 0 ≤ zcst R a r ∧ zcst R a r ≤ r * (zp8 r * 29997) := by
  intro r
  induction r with
  | zero => rw [zcst]; simp
  | succ r ih =>
    have h := zrco_bd hk a r
    rw [zcst]
    have e : (r : Int) * (zp8 (r + 1) * 29997) = r * (zp8 r * 29997) * 8 := by rw [zp8_s]; grind
    have e2 : ((r + 1 : Nat) : Int) * (zp8 (r + 1) * 29997) = r * (zp8 (r + 1) * 29997) + zp8 (r + 1) * 29997 := by rw [Int.natCast_succ, Int.add_mul, Int.one_mul]
    omega
theorem zcst_bd' {R : Nat → Int} (hk : zIk R) (a : Int) {r : Nat} (hr : r ≤ 10) : 0 ≤ zcst R a r ∧ zcst R a r < 4611686018427387904 := by
  have h := zcst_bd hk a r
  have h2 := zp8_bd (r := r) (by omega)
  have h3 := zmul_bd (a := (r : Int)) (b := zp8 r * 29997) (A := 10) (B := 8589934592 * 29997) (by omega) (by omega) (by omega) (by omega)
  omega
/-- a is better than b -/
def zlt (R : Nat → Int) (r a b : Nat) : Prop := zcst R a r < zcst R b r ∨ (zcst R a r = zcst R b r ∧ (zpop 12 a < zpop 12 b ∨ (zpop 12 a = zpop 12 b ∧ a < b)))
def zBest (R : Nat → Int) (r a : Nat) : Prop := a < 2 ^ r ∧ ∀ b, b < 2 ^ r → b ≠ a → zlt R r a b
theorem zBest_uniq {R : Nat → Int} {r a b : Nat} (ha : zBest R r a) (hb : zBest R r b) : a = b := by
  by_cases h : a = b
  · exact h
  · have h1 := ha.2 b hb.1 (by omega)
    have h2 := hb.2 a ha.1 h
    unfold zlt at h1 h2
    omega
theorem zlt_trans {R : Nat → Int} {r a b c : Nat} (h1 : zlt R r a b) (h2 : zlt R r b c) : zlt R r a c := by
  unfold zlt at *
  omega
theorem zlt_tot (R : Nat → Int) (r a b : Nat) (h : a ≠ b) : ¬ zlt R r a b → zlt R r b a := by
  unfold zlt
  intro h2
  omega
