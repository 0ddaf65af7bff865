/-! THE GAME: WORST as a number; the class's search. -/
def zminr (f : Nat → Int) : Nat → Int
  | 0 => f 0
  | n + 1 => if f (n + 1) < zminr f n then f (n + 1) else zminr f n
theorem zminr_le (f : Nat → Int) : ∀ n i : Nat, i ≤ n → zminr f n ≤ f i := by
  intro n
  induction n with
  | zero => intro i h; rw [show i = 0 by omega]; exact Int.le_refl _
  | succ n ih =>
    intro i h
    rw [zminr]
    by_cases e : i = n + 1
    · subst e; split <;> omega
    · have := ih i (by omega); split <;> omega
theorem zminr_ex (f : Nat → Int) : ∀ n : Nat, ∃ i, i ≤ n ∧ zminr f n = f i := by
  intro n
  induction n with
  | zero => exact ⟨0, Nat.le_refl _, rfl⟩
  | succ n ih =>
    obtain ⟨i, h1, h2⟩ := ih
    rw [zminr]
    split
    · exact ⟨n + 1, Nat.le_refl _, rfl⟩
    · exact ⟨i, by omega, h2⟩
def zmaxr (f : Nat → Int) : Nat → Int
  | 0 => f 0
  | n + 1 => if zmaxr f n < f (n + 1) then f (n + 1) else zmaxr f n
theorem zmaxr_ge (f : Nat → Int) : ∀ n i : Nat, i ≤ n → f i ≤ zmaxr f n := by
  intro n
  induction n with
  | zero => intro i h; rw [show i = 0 by omega]; exact Int.le_refl _
  | succ n ih =>
    intro i h
    rw [zmaxr]
    by_cases e : i = n + 1
    · subst e; split <;> omega
    · have := ih i (by omega); split <;> omega
theorem zmaxr_ex (f : Nat → Int) : ∀ n : Nat, ∃ i, i ≤ n ∧ zmaxr f n = f i := by
  intro n
  induction n with
  | zero => exact ⟨0, Nat.le_refl _, rfl⟩
  | succ n ih =>
    obtain ⟨i, h1, h2⟩ := ih
    rw [zmaxr]
    split
    · exact ⟨n + 1, Nat.le_refl _, rfl⟩
    · exact ⟨i, by omega, h2⟩
/-- room and rate of a wheel -/
def zgm (R : Nat → Int) (i : Nat) : Int := if (i : Int) < R 127 then R (128 + i * 2) else 0
def zgt (R : Nat → Int) (i : Nat) : Int := if (i : Int) < R 127 then R (128 + i * 2 + 1) else 0
def zGk (R : Nat → Int) : Prop := (∀ j, z32 (R j) = R j) ∧ (0 ≤ R 127 ∧ R 127 ≤ 3) ∧ (∀ i, i < 3 → 0 ≤ zgm R i ∧ zgm R i ≤ 6) ∧ (∀ i, i < 3 → 0 ≤ zgt R i ∧ zgt R i ≤ 6)
/-- a charge behind a give -/
def zcb (m h g : Int) : Int := if g = 0 then (if h < m then h + 1 else m) else h - g
def zmn (a b : Int) : Int := if b < a then b else a
def zmg (t h d : Int) : Nat := (zmn (zmn t h) d).toNat
/-- what a give brings about, of the short behind it -/
def zgv (R : Nat → Int) (V : Int → Int → Int → Int) (a b c d : Int) (x y z : Nat) : Int := d - x - y - z + V (zcb (zgm R 0) a x) (zcb (zgm R 1) b y) (zcb (zgm R 2) c z)
/-- the least short upon a call -/
def zU (R : Nat → Int) (V : Int → Int → Int → Int) (a b c d : Int) : Int :=
  zminr (fun x => zminr (fun y => zminr (fun z => zgv R V a b c d x y z) (zmg (zgt R 2) c (d - x - y))) (zmg (zgt R 1) b (d - x))) (zmg (zgt R 0) a d)
def zWo (R : Nat → Int) : Nat → Int → Int → Int → Int → Int
  | 0, _, _, _, _ => 0
  | t + 1, B, a, b, c => zmaxr (fun d => zU R (fun a' b' c' => zWo R t (B - d) a' b' c') a b c d) (zmn 6 B).toNat
/-- a give that can be -/
def zLg (R : Nat → Int) (a b c d : Int) (x y z : Nat) : Prop := x ≤ zmg (zgt R 0) a d ∧ y ≤ zmg (zgt R 1) b (d - x) ∧ z ≤ zmg (zgt R 2) c (d - x - y)
theorem zU_le {R : Nat → Int} {V : Int → Int → Int → Int} {a b c d : Int} {x y z : Nat} (h : zLg R a b c d x y z) : zU R V a b c d ≤ zgv R V a b c d x y z := by
  have h1 := zminr_le (fun x => zminr (fun y => zminr (fun z => zgv R V a b c d x y z) (zmg (zgt R 2) c (d - x - y))) (zmg (zgt R 1) b (d - x))) (zmg (zgt R 0) a d) x h.1
  have h2 := zminr_le (fun y => zminr (fun z => zgv R V a b c d x y z) (zmg (zgt R 2) c (d - x - y))) (zmg (zgt R 1) b (d - x)) y h.2.1
  have h3 := zminr_le (fun z => zgv R V a b c d x y z) (zmg (zgt R 2) c (d - x - y)) z h.2.2
  exact Int.le_trans h1 (Int.le_trans h2 h3)
theorem zU_ex {R : Nat → Int} {V : Int → Int → Int → Int} {a b c d : Int} : ∃ x y z, zLg R a b c d x y z ∧ zU R V a b c d = zgv R V a b c d x y z := by
  obtain ⟨x, h1, h2⟩ := zminr_ex (fun x => zminr (fun y => zminr (fun z => zgv R V a b c d x y z) (zmg (zgt R 2) c (d - x - y))) (zmg (zgt R 1) b (d - x))) (zmg (zgt R 0) a d)
  obtain ⟨y, h3, h4⟩ := zminr_ex (fun y => zminr (fun z => zgv R V a b c d x y z) (zmg (zgt R 2) c (d - x - y))) (zmg (zgt R 1) b (d - x))
  obtain ⟨z, h5, h6⟩ := zminr_ex (fun z => zgv R V a b c d x y z) (zmg (zgt R 2) c (d - x - y))
  exact ⟨x, y, z, ⟨h1, h3, h5⟩, h2.trans (h4.trans h6)⟩
theorem zcb_bd {m h g : Int} (h1 : 0 ≤ h) (h2 : h ≤ m) (h3 : 0 ≤ g) (h4 : g ≤ h) : 0 ≤ zcb m h g ∧ zcb m h g ≤ m := by
  unfold zcb
  (repeat' split) <;> omega
theorem zmg_le {t h d : Int} {x : Nat} (h0 : 0 ≤ t) (h1 : 0 ≤ h) (h2 : 0 ≤ d) (hx : x ≤ zmg t h d) : (x : Int) ≤ t ∧ (x : Int) ≤ h ∧ (x : Int) ≤ d := by
  unfold zmg zmn at hx
  (repeat' split at hx) <;> omega
/-- the charges as they can be -/
def zCg (R : Nat → Int) (a b c : Int) : Prop := (0 ≤ a ∧ a ≤ zgm R 0) ∧ (0 ≤ b ∧ b ≤ zgm R 1) ∧ (0 ≤ c ∧ c ≤ zgm R 2)
theorem zLg_bd {R : Nat → Int} (hk : zGk R) {a b c d : Int} (hc : zCg R a b c) (hd : 0 ≤ d) {x y z : Nat} (h : zLg R a b c d x y z) : (x : Int) + y + z ≤ d ∧ (x : Int) ≤ a ∧ (y : Int) ≤ b ∧ (z : Int) ≤ c ∧ x ≤ 6 ∧ y ≤ 6 ∧ z ≤ 6 := by
  obtain ⟨hr, k1, k2, k3⟩ := hk
  have r0 := k3 0 (by decide); have r1 := k3 1 (by decide); have r2 := k3 2 (by decide)
  have a1 := zmg_le r0.1 hc.1.1 hd h.1
  have a2 := zmg_le r1.1 hc.2.1.1 (by omega) h.2.1
  have a3 := zmg_le r2.1 hc.2.2.1 (by omega) h.2.2
  omega
theorem zLg_cg {R : Nat → Int} (hk : zGk R) {a b c d : Int} (hc : zCg R a b c) (hd : 0 ≤ d) {x y z : Nat} (h : zLg R a b c d x y z) : zCg R (zcb (zgm R 0) a x) (zcb (zgm R 1) b y) (zcb (zgm R 2) c z) := by
  have e := zLg_bd hk hc hd h
  exact ⟨zcb_bd hc.1.1 hc.1.2 (by omega) (by omega), zcb_bd hc.2.1.1 hc.2.1.2 (by omega) (by omega), zcb_bd hc.2.2.1 hc.2.2.2 (by omega) (by omega)⟩
theorem zmg_0 (t h d : Int) : 0 ≤ zmg t h d := Nat.zero_le _
theorem zU_bd {R : Nat → Int} (hk : zGk R) {V : Int → Int → Int → Int} {a b c d B : Int} (hc : zCg R a b c) (hd : 0 ≤ d) (hV : ∀ a' b' c', zCg R a' b' c' → 0 ≤ V a' b' c' ∧ V a' b' c' ≤ B) : 0 ≤ zU R V a b c d ∧ zU R V a b c d ≤ d + B := by
  obtain ⟨x, y, z, h1, h2⟩ := zU_ex (R := R) (V := V) (a := a) (b := b) (c := c) (d := d)
  have e := zLg_bd hk hc hd h1
  have v := hV _ _ _ (zLg_cg hk hc hd h1)
  have h3 : zLg R a b c d 0 0 0 := ⟨Nat.zero_le _, Nat.zero_le _, Nat.zero_le _⟩
  have h4 := zU_le (V := V) h3
  have v0 := hV _ _ _ (zLg_cg hk hc hd h3)
  unfold zgv at h2 h4
  omega
theorem zWo_bd {R : Nat → Int} (hk : zGk R) : ∀ (t : Nat) (B a b c : Int), 0 ≤ B → zCg R a b c → 0 ≤ zWo R t B a b c ∧ zWo R t B a b c ≤ B := by
  intro t
  induction t with
  | zero => intro B a b c hB _; rw [zWo]; omega
  | succ t ih =>
    intro B a b c hB hc
    rw [zWo]
    obtain ⟨d, h1, h2⟩ := zmaxr_ex (fun d => zU R (fun a' b' c' => zWo R t (B - d) a' b' c') a b c d) (zmn 6 B).toNat
    have h3 : (d : Int) ≤ 6 ∧ (d : Int) ≤ B := by unfold zmn at h1; split at h1 <;> omega
    have := zU_bd (V := fun a' b' c' => zWo R t (B - d) a' b' c') (B := B - d) hk hc (d := d) (by omega) fun a' b' c' hc' => ih _ _ _ _ (by omega) hc'
    rw [h2]
    omega
theorem zWo_0 {R : Nat → Int} (hk : zGk R) (t : Nat) {a b c : Int} (hc : zCg R a b c) : zWo R t 0 a b c = 0 := by
  have := zWo_bd hk t 0 a b c (by decide) hc
  omega
/-- the state of the search: all gives of a code from k on were looked at; L the least short, F the first give of it -/
def zGS (R : Nat → Int) (V : Int → Int → Int → Int) (a b c d en : Int) (k : Nat) (L F : Int) : Prop :=
  (L = 1000 ∨ ∃ x y z, zLg R a b c d x y z ∧ L = zgv R V a b c d x y z) ∧
  (en < L → (∀ x y z, zLg R a b c d x y z → k ≤ 100 * x + 10 * y + z → L ≤ zgv R V a b c d x y z) ∧
    ((∃ x y z, zLg R a b c d x y z ∧ k ≤ 100 * x + 10 * y + z ∧ zgv R V a b c d x y z = L ∧ F = ((100 * x + 10 * y + z : Nat) : Int) ∧ ∀ x' y' z', zLg R a b c d x' y' z' → k ≤ 100 * x' + 10 * y' + z' → zgv R V a b c d x' y' z' = L → 100 * x + 10 * y + z ≤ 100 * x' + 10 * y' + z') ∨
     (L = 1000 ∧ ∀ x y z, zLg R a b c d x y z → ¬ k ≤ 100 * x + 10 * y + z)))
/-- on to a lower code, where no give lies between, or only such as are worse -/
theorem zGS_skip {R : Nat → Int} {V : Int → Int → Int → Int} {a b c d en : Int} {k k' : Nat} {L F : Int} (h : zGS R V a b c d en k L F) (hk : ∀ x y z, zLg R a b c d x y z → k' ≤ 100 * x + 10 * y + z → ¬ k ≤ 100 * x + 10 * y + z → L < zgv R V a b c d x y z ∧ L ≠ 1000) (hle : k' ≤ k) : zGS R V a b c d en k' L F := by
  refine ⟨h.1, fun hl => ?_⟩
  obtain ⟨h1, h2⟩ := h.2 hl
  refine ⟨fun x y z g1 g2 => ?_, ?_⟩
  · by_cases e : k ≤ 100 * x + 10 * y + z
    · exact h1 x y z g1 e
    · exact Int.le_of_lt (hk x y z g1 g2 e).1
  · rcases h2 with ⟨x, y, z, g1, g2, g3, g4, g5⟩ | ⟨g1, g2⟩
    · refine Or.inl ⟨x, y, z, g1, by omega, g3, g4, fun x' y' z' q1 q2 q3 => ?_⟩
      by_cases e : k ≤ 100 * x' + 10 * y' + z'
      · exact g5 x' y' z' q1 e q3
      · have := (hk x' y' z' q1 q2 e).1; omega
    · refine Or.inr ⟨g1, fun x y z q1 q2 => ?_⟩
      exact (hk x y z q1 q2 (g2 x y z q1)).2 g1
/-- one more give looked at -/
theorem zGS_step {R : Nat → Int} {V : Int → Int → Int → Int} {a b c d en : Int} {x y z : Nat} {L F : Int} (h : zGS R V a b c d en (100 * x + 10 * y + z + 1) L F) (hx : zLg R a b c d x y z) (hu : ∀ x' y' z', zLg R a b c d x' y' z' → 100 * x' + 10 * y' + z' = 100 * x + 10 * y + z → x' = x ∧ y' = y ∧ z' = z) (hL : en < L) (hv : zgv R V a b c d x y z < 1000) :
    zGS R V a b c d en (100 * x + 10 * y + z) (if L < zgv R V a b c d x y z then L else zgv R V a b c d x y z) (if L < zgv R V a b c d x y z then F else ((100 * x + 10 * y + z : Nat) : Int)) := by
  obtain ⟨h1, h2⟩ := h.2 hL
  by_cases hc : L < zgv R V a b c d x y z
  · rw [if_pos hc, if_pos hc]
    refine zGS_skip h (fun x' y' z' g1 g2 g3 => ?_) (by omega)
    obtain ⟨rfl, rfl, rfl⟩ := hu x' y' z' g1 (by omega)
    exact ⟨hc, by omega⟩
  · rw [if_neg hc, if_neg hc]
    refine ⟨Or.inr ⟨x, y, z, hx, rfl⟩, fun _ => ⟨fun x' y' z' g1 g2 => ?_, Or.inl ⟨x, y, z, hx, Nat.le_refl _, rfl, rfl, fun x' y' z' g1 g2 _ => g2⟩⟩⟩
    by_cases e : 100 * x' + 10 * y' + z' = 100 * x + 10 * y + z
    · obtain ⟨rfl, rfl, rfl⟩ := hu x' y' z' g1 e
      exact Int.le_refl _
    · have := h1 x' y' z' g1 (by omega); omega
theorem zGS_end {R : Nat → Int} {V : Int → Int → Int → Int} {a b c d en : Int} {L F : Int} (h : zGS R V a b c d en 0 L F) : zU R V a b c d ≤ L ∨ L = 1000 := by
  rcases h.1 with h | ⟨x, y, z, h1, h2⟩
  · exact Or.inr h
  · rw [h2]; exact Or.inl (zU_le h1)
theorem zGS_min {R : Nat → Int} {V : Int → Int → Int → Int} {a b c d en : Int} {L F : Int} (h : zGS R V a b c d en 0 L F) (hl : en < L) : L = zU R V a b c d := by
  obtain ⟨h1, h2⟩ := h.2 hl
  obtain ⟨x, y, z, g1, g2⟩ := zU_ex (R := R) (V := V) (a := a) (b := b) (c := c) (d := d)
  have h3 := h1 x y z g1 (Nat.zero_le _)
  rcases h2 with ⟨x', y', z', q1, q2, q3, q4, q5⟩ | ⟨q1, q2⟩
  · have := zU_le (V := V) q1
    omega
  · exact absurd (Nat.zero_le _) (q2 x y z g1)
