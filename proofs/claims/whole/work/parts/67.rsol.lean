/-! Rings: what the class ends in is the one answer (pure). -/
theorem zscale {L : Nat → Int} : ∀ c : Nat, (∀ r, r < c → 0 < L r) → ∃ (D : Int) (E : Nat → Int), 0 < D ∧ ∀ r, r < c → 0 < E r ∧ E r * L r = D := by
  intro c
  induction c with
  | zero => intro _; exact ⟨1, fun _ => 1, by decide, fun r hr => by omega⟩
  | succ c ih =>
    intro h
    obtain ⟨D, E, h1, h2⟩ := ih fun r hr => h r (by omega)
    have hc := h c (by omega)
    refine ⟨D * L c, fun r => if r < c then E r * L c else D, Int.mul_pos h1 hc, fun r hr => ?_⟩
    by_cases e : r < c
    · obtain ⟨a1, a2⟩ := h2 r e
      dsimp only
      rw [if_pos e]
      refine ⟨Int.mul_pos a1 hc, ?_⟩
      rw [← a2]
      grind
    · dsimp only
      rw [if_neg e, show r = c by omega]
      exact ⟨h1, rfl⟩
def zon (H g F : Nat → Int) (w : Int) (f : Nat) : Int := H (f + 1) * w * g (f + 1) - H f * w * g f - 12 * F f
def zpz (P E : Nat → Int) (k : Nat) : Int := if k = 0 then 0 else P (k - 1) * E (k - 1)
theorem zpz_s (P E : Nat → Int) (k : Nat) : zpz P E (k + 1) = P k * E k := by
  unfold zpz
  rw [if_neg (by omega)]
  rfl
section ZRp
variable {c : Nat} {H S F g T L U P E : Nat → Int} {w D : Int}
theorem zBl_V (h : zBl c H S F w T L U P c) (hE : ∀ r, r < c → 0 < E r ∧ E r * L r = D) {r : Nat} (hr : r < c) : S r * (U r * E r) = H r * w * D + zpz P E r - zpz P E (r + 1) := by
  obtain ⟨a1, a2, a3, a4, a5, a6⟩ := h r hr
  obtain ⟨e1, e2⟩ := hE r hr
  rw [zpz_s]
  by_cases h0 : r = 0
  · rw [if_pos h0] at a4
    have : zpz P E r = 0 := by unfold zpz; rw [if_pos h0]
    rw [this, ← e2]
    have : S r * (U r * E r) = (S r * U r) * E r := by grind
    rw [this, a4]
    grind
  · rw [if_neg h0] at a4
    obtain ⟨k, rfl⟩ : ∃ k, r = k + 1 := ⟨r - 1, by omega⟩
    rw [zpz_s, show k + 1 - 1 = k from rfl] at *
    obtain ⟨b1, b2, b3, b4, b5, b6⟩ := h k (by omega)
    obtain ⟨f1, f2⟩ := hE k (by omega)
    have : P k * E (k + 1) = P k * E k := by
      by_cases ht : T k = 0
      · rw [b6 (Or.inr ht), Int.zero_mul, Int.zero_mul]
      · have := (b5 (by omega) ht).1
        rw [this] at e2
        have : E (k + 1) = E k := Int.eq_of_mul_eq_mul_right (by omega : L k ≠ 0) (e2.trans f2.symm)
        rw [this]
    have e : S (k + 1) * (U (k + 1) * E (k + 1)) = (S (k + 1) * U (k + 1)) * E (k + 1) := by grind
    rw [e, a4, ← this, ← e2]
    grind
theorem zBl_rw (hg : ∀ r, r < c → g r * S r = 12) (h : zBl c H S F w T L U P c) (hE : ∀ r, r < c → 0 < E r ∧ E r * L r = D) {f : Nat} (hf : f + 1 < c) : zRw g (zon H g F w) D (zpz P E) f = 12 * (U (f + 1) * E (f + 1) - U f * E f - F f * D) := by
  have v1 := zBl_V h hE (r := f) (by omega)
  have v2 := zBl_V h hE (r := f + 1) hf
  have g1 := hg f (by omega)
  have g2 := hg (f + 1) hf
  have k1 : g f * (S f * (U f * E f)) = 12 * (U f * E f) := by rw [← g1]; grind
  have k2 : g (f + 1) * (S (f + 1) * (U (f + 1) * E (f + 1))) = 12 * (U (f + 1) * E (f + 1)) := by rw [← g2]; grind
  rw [v1] at k1
  rw [v2] at k2
  unfold zRw zon
  rw [show f + 1 + 1 = f + 2 from rfl] at k2
  grind
theorem zBl_gp (h : zBl c H S F w T L U P c) (hE : ∀ r, r < c → 0 < E r ∧ E r * L r = D) {f : Nat} (hf : f + 1 < c) : D * (U (f + 1) * E (f + 1) - U f * E f - F f * D) = zgp F L U f * (E f * E (f + 1)) := by
  obtain ⟨e1, e2⟩ := hE f (by omega)
  obtain ⟨f1, f2⟩ := hE (f + 1) hf
  unfold zgp
  have k1 : U (f + 1) * L f * (E f * E (f + 1)) = U (f + 1) * E (f + 1) * D := by rw [← e2]; grind
  have k2 : U f * L (f + 1) * (E f * E (f + 1)) = U f * E f * D := by rw [← f2]; grind
  have k3 : F f * L f * L (f + 1) * (E f * E (f + 1)) = F f * D * D := by
    have : F f * L f * L (f + 1) * (E f * E (f + 1)) = F f * (E f * L f) * (E (f + 1) * L (f + 1)) := by grind
    rw [this, e2, f2]
  have : (U (f + 1) * L f - U f * L (f + 1) - F f * L f * L (f + 1)) * (E f * E (f + 1)) = U (f + 1) * L f * (E f * E (f + 1)) - U f * L (f + 1) * (E f * E (f + 1)) - F f * L f * L (f + 1) * (E f * E (f + 1)) := by grind
  rw [this, k1, k2, k3]
  grind
theorem zBl_touch (h : zBl c H S F w T L U P c) (hE : ∀ r, r < c → 0 < E r ∧ E r * L r = D) {f : Nat} (hf : f + 1 < c) (ht : T f ≠ 0) : U (f + 1) * E (f + 1) - U f * E f - F f * D = 0 := by
  obtain ⟨a1, a2, a3, a4, a5, a6⟩ := h f (by omega)
  obtain ⟨e1, e2⟩ := hE f (by omega)
  obtain ⟨f1, f2⟩ := hE (f + 1) hf
  obtain ⟨b1, b2⟩ := a5 hf ht
  rw [b1] at f2
  have : E (f + 1) = E f := Int.eq_of_mul_eq_mul_right (by omega : L f ≠ 0) (f2.trans e2.symm)
  rw [b2, this, ← e2]
  grind
/-- one that touches never parts -/
theorem zBl_mono {T' L' U' P' : Nat → Int} (hgp : ∀ r, r < c → 0 < g r) (hg : ∀ r, r < c → g r * S r = 12) (h : zBl c H S F w T L U P c) (h' : zBl c H S F w T' L' U' P' c) (hT : ∀ f, f + 1 < c → (T' f = 0 ↔ T f = 0 ∧ 0 ≤ zgp F L U f)) (hP : ∀ f, f < c → 0 ≤ P f) : ∀ f, f < c → 0 ≤ P' f := by
  obtain ⟨D, E, hD, hE⟩ := zscale c (fun r hr => (h r hr).1.1)
  obtain ⟨D', E', hD', hE'⟩ := zscale c (fun r hr => (h' r hr).1.1)
  obtain ⟨k, k1, k2, k3⟩ := zlmax (fun k => zpz P E k * D' - zpz P' E' k * D) c
  have hk : zpz P E k * D' - zpz P' E' k * D ≤ 0 := by
    by_cases hpos : zpz P E k * D' - zpz P' E' k * D ≤ 0
    · exact hpos
    · exfalso
      have e0 : k ≠ 0 := fun e => by rw [e] at hpos; simp [zpz] at hpos
      obtain ⟨f, rfl⟩ : ∃ f, k = f + 1 := ⟨k - 1, by omega⟩
      have e1 : f + 1 ≠ c := fun e => by
        rw [zpz_s, zpz_s, (h f (by omega)).2.2.2.2.2 (Or.inl e), (h' f (by omega)).2.2.2.2.2 (Or.inl e)] at hpos
        simp at hpos
      have ht : T' f ≠ 0 := fun e => by
        rw [zpz_s, zpz_s, (h f (by omega)).2.2.2.2.2 (Or.inr ((hT f (by omega)).mp e).1), (h' f (by omega)).2.2.2.2.2 (Or.inr e)] at hpos
        simp at hpos
      have c1 := k3 f (by omega)
      have c2 := k2 (f + 2) (by omega)
      have g1 := hgp f (by omega)
      have g2 := hgp (f + 1) (by omega)
      have hz' : zRw g (zon H g F w) D' (zpz P' E') f = 0 := by rw [zBl_rw hg h' hE' (by omega), zBl_touch h' hE' (by omega) ht]; rfl
      have hz : zRw g (zon H g F w) D (zpz P E) f ≤ 0 := by
        rw [zBl_rw hg h hE (by omega)]
        by_cases htt : T f = 0
        · have hneg : zgp F L U f < 0 := Int.not_le.mp fun q => ht ((hT f (by omega)).mpr ⟨htt, q⟩)
          have q1 := zBl_gp h hE (f := f) (by omega)
          have q2 : zgp F L U f * (E f * E (f + 1)) < 0 := Int.mul_neg_of_neg_of_pos hneg (Int.mul_pos (hE f (by omega)).1 (hE (f + 1) (by omega)).1)
          rw [← q1] at q2
          have q3 := Int.neg_of_mul_neg_right q2 (by omega)
          omega
        · rw [zBl_touch h hE (by omega) htt]; decide
      have m1 : 0 < ((zpz P E (f + 1) * D' - zpz P' E' (f + 1) * D) - (zpz P E f * D' - zpz P' E' f * D)) * g f := Int.mul_pos (by omega) g1
      have m2 : 0 ≤ ((zpz P E (f + 1) * D' - zpz P' E' (f + 1) * D) - (zpz P E (f + 2) * D' - zpz P' E' (f + 2) * D)) * g (f + 1) := Int.mul_nonneg (by omega) (by omega)
      have m3 : zRw g (zon H g F w) D (zpz P E) f * D' ≤ 0 := Int.mul_nonpos_of_nonpos_of_nonneg hz (by omega)
      have e : ((zpz P E (f + 1) * D' - zpz P' E' (f + 1) * D) - (zpz P E f * D' - zpz P' E' f * D)) * g f + ((zpz P E (f + 1) * D' - zpz P' E' (f + 1) * D) - (zpz P E (f + 2) * D' - zpz P' E' (f + 2) * D)) * g (f + 1) = zRw g (zon H g F w) D (zpz P E) f * D' - zRw g (zon H g F w) D' (zpz P' E') f * D := by
        unfold zRw
        grind
      rw [hz', Int.zero_mul] at e
      omega
  intro f hf
  have a := k2 (f + 1) (by omega)
  rw [zpz_s, zpz_s] at a
  have b : 0 ≤ P f * E f * D' := Int.mul_nonneg (Int.mul_nonneg (hP f hf) (by have := (hE f hf).1; omega)) (by omega)
  have c1 : 0 ≤ P' f * (E' f * D) := by
    have : P' f * E' f * D = P' f * (E' f * D) := by grind
    omega
  exact Int.nonneg_of_mul_nonneg_left c1 (Int.mul_pos (hE' f hf).1 hD)
/-- what is known behind the class's settle -/
def zStd (c : Nat) (H S F g : Nat → Int) (w : Int) (L U P G : Nat → Int) : Prop :=
  (∀ r, r < c → (0 < L r ∧ L r ≤ 60) ∧ (-149400 ≤ U r ∧ U r ≤ 149400) ∧ (-14364000 ≤ P r ∧ P r ≤ 14364000) ∧ -20000000 ≤ G r ∧ G r ≤ 20000000) ∧ (∀ r, r + 1 = c → G r = 0) ∧
  ∃ D p, zSol (c - 1) g (zon H g F w) D p ∧ (∀ r, r < c → P r * D = p (r + 1) * L r ∧ U r * (S r * D) = (H r * w * D + p r - p (r + 1)) * L r) ∧ ∀ f, f + 1 < c → 12 * G f * D = zRw g (zon H g F w) D p f * (L f * L (f + 1))
theorem zBl_std (hc : 0 < c) (hrg : zRg c H S F) (hg : ∀ r, r < c → g r * S r = 12) (h : zBl c H S F w T L U P c) (hP : ∀ f, f < c → 0 ≤ P f) {G : Nat → Int} (hG : ∀ f, f + 1 < c → G f = if T f = 0 then zgp F L U f else 0) (hG2 : ∀ r, r + 1 = c → G r = 0) (hn : ∀ f, f + 1 < c → T f = 0 → 0 ≤ zgp F L U f) : zStd c H S F g w L U P G := by
  refine ⟨fun r hr => ?_, hG2, ?_⟩
  · obtain ⟨a1, a2, a3, _⟩ := h r hr
    refine ⟨a1, a2, a3, ?_⟩
    by_cases e : r + 1 = c
    · rw [hG2 r e]; decide
    · have := zgp_bd hrg h (f := r) (by omega)
      rw [hG r (by omega)]
      split <;> omega
  · obtain ⟨D, E, hD, hE⟩ := zscale c (fun r hr => (h r hr).1.1)
    have hrw : ∀ f, f + 1 < c → D * zRw g (zon H g F w) D (zpz P E) f = 12 * G f * (E f * E (f + 1)) := fun f hf => by
      rw [zBl_rw hg h hE hf, hG f hf]
      have q := zBl_gp h hE hf
      by_cases ht : T f = 0
      · rw [if_pos ht]
        have : D * (12 * (U (f + 1) * E (f + 1) - U f * E f - F f * D)) = 12 * (D * (U (f + 1) * E (f + 1) - U f * E f - F f * D)) := by grind
        rw [this, q]
        grind
      · rw [if_neg ht, zBl_touch h hE hf ht]
        simp
    have hG0 : ∀ f, f + 1 < c → 0 ≤ G f := fun f hf => by
      rw [hG f hf]
      split
      · exact hn f hf (by assumption)
      · exact Int.le_refl _
    refine ⟨D, zpz P E, ⟨hD, by simp [zpz], ?_, fun f hf => ⟨?_, ?_, ?_⟩⟩, fun r hr => ⟨?_, ?_⟩, fun f hf => ?_⟩
    · rw [show c - 1 + 1 = c - 1 + 1 from rfl, zpz_s, (h (c - 1) (by omega)).2.2.2.2.2 (Or.inl (by omega)), Int.zero_mul]
    · rw [zpz_s]
      exact Int.mul_nonneg (hP f (by omega)) (by have := (hE f (by omega)).1; omega)
    · have a := hrw f (by omega)
      have b : 0 ≤ 12 * G f * (E f * E (f + 1)) := Int.mul_nonneg (by have := hG0 f (by omega); omega) (by have := Int.mul_pos (hE f (by omega)).1 (hE (f + 1) (by omega)).1; omega)
      rw [← a, Int.mul_comm] at b
      exact Int.nonneg_of_mul_nonneg_left b hD
    · by_cases ht : T f = 0
      · exact Or.inl (by rw [zpz_s, (h f (by omega)).2.2.2.2.2 (Or.inr ht), Int.zero_mul])
      · right
        rw [zBl_rw hg h hE (by omega), zBl_touch h hE (by omega) ht]
        rfl
    · rw [zpz_s, ← (hE r hr).2]
      grind
    · rw [← zBl_V h hE hr, ← (hE r hr).2]
      grind
    · have a := hrw f hf
      obtain ⟨e1, e2⟩ := hE f (by omega)
      obtain ⟨f1, f2⟩ := hE (f + 1) hf
      have k : D * (12 * G f * D) = D * (zRw g (zon H g F w) D (zpz P E) f * (L f * L (f + 1))) := by
        have k1 : D * (12 * G f * D) = 12 * G f * ((E f * L f) * (E (f + 1) * L (f + 1))) := by rw [e2, f2]; grind
        have k2 : D * (zRw g (zon H g F w) D (zpz P E) f * (L f * L (f + 1))) = (D * zRw g (zon H g F w) D (zpz P E) f) * (L f * L (f + 1)) := by grind
        rw [k1, k2, a]
        grind
      exact Int.eq_of_mul_eq_mul_left (by omega) k
/-- the same with any answer -/
theorem zStd_any (hgp : ∀ r, r < c → 0 < g r) {G : Nat → Int} (h : zStd c H S F g w L U P G) (hc : 0 < c) {D : Int} {p : Nat → Int} (hs : zSol (c - 1) g (zon H g F w) D p) : (∀ r, r < c → P r * D = p (r + 1) * L r ∧ U r * (S r * D) = (H r * w * D + p r - p (r + 1)) * L r) ∧ ∀ f, f + 1 < c → 12 * G f * D = zRw g (zon H g F w) D p f * (L f * L (f + 1)) := by
  obtain ⟨b1, b2, D', p', hs', h1, h2⟩ := h
  obtain ⟨u1, u2⟩ := zSol_uniq (n := c - 1) (fun f hf => hgp f (by omega)) hs hs'
  have hD' : 0 < D' := hs'.1
  refine ⟨fun r hr => ⟨?_, ?_⟩, fun f hf => ?_⟩
  · have e := (h1 r hr).1
    have k := u1 (r + 1) (by omega)
    refine Int.eq_of_mul_eq_mul_right (by omega : D' ≠ 0) ?_
    have k1 : P r * D * D' = P r * D' * D := by grind
    have k2 : p (r + 1) * L r * D' = p (r + 1) * D' * L r := by grind
    rw [k1, k2, e, k]
    grind
  · have e := (h1 r hr).2
    have k := u1 (r + 1) (by omega)
    have k' := u1 r (by omega)
    refine Int.eq_of_mul_eq_mul_right (by omega : D' ≠ 0) ?_
    have k1 : U r * (S r * D) * D' = U r * (S r * D') * D := by grind
    have k2 : (H r * w * D + p r - p (r + 1)) * L r * D' = (H r * w * D * D' + p r * D' - p (r + 1) * D') * L r := by grind
    rw [k1, k2, e, k, k']
    grind
  · have e := h2 f hf
    have k := u2 f (by omega)
    refine Int.eq_of_mul_eq_mul_right (by omega : D' ≠ 0) ?_
    have k1 : 12 * G f * D * D' = 12 * G f * D' * D := by grind
    have k2 : zRw g (zon H g F w) D p f * (L f * L (f + 1)) * D' = zRw g (zon H g F w) D p f * D' * (L f * L (f + 1)) := by grind
    rw [k1, k2, e, k]
    grind
end ZRp
