/-! Rings of the model, pure: its matrix, Cramer, bounds. -/
def zdtM (A : Nat → Int) : Int := zdt (A 0) (A 1) (A 2) (A 3) (A 4) (A 5) (A 6) (A 7) (A 8) (A 9) (A 10) (A 11) (A 12) (A 13) (A 14) (A 15)
def zcol (A : Nat → Int) (f : Nat) (r : Nat → Int) (k : Nat) : Int := if k % 4 = f then r (k / 4) else A k
def zbt (s f : Nat) : Nat := s / 2 ^ f % 2
def zid (k : Nat) : Int := if k / 4 = k % 4 then 1 else 0
def zmr (g : Nat → Int) (s n : Nat) (k : Nat) : Int :=
  if k / 4 < n ∧ zbt s (k / 4) = 1 then (if k % 4 = k / 4 then g (k / 4) + g (k / 4 + 1) else if k % 4 + 1 = k / 4 then -g (k / 4) else if k % 4 = k / 4 + 1 ∧ k / 4 + 1 < n then -g (k / 4 + 1) else 0) else zid k
theorem zcr {A r : Nat → Int} {i : Nat} (hi : i < 4) : A (4 * i) * zdtM (zcol A 0 r) + A (4 * i + 1) * zdtM (zcol A 1 r) + A (4 * i + 2) * zdtM (zcol A 2 r) + A (4 * i + 3) * zdtM (zcol A 3 r) = r i * zdtM A := by
  rcases (show i = 0 ∨ i = 1 ∨ i = 2 ∨ i = 3 by omega) with rfl | rfl | rfl | rfl
  · exact zcramer0 (A 0) (A 1) (A 2) (A 3) (A 4) (A 5) (A 6) (A 7) (A 8) (A 9) (A 10) (A 11) (A 12) (A 13) (A 14) (A 15) (r 0) (r 1) (r 2) (r 3)
  · exact zcramer1 (A 0) (A 1) (A 2) (A 3) (A 4) (A 5) (A 6) (A 7) (A 8) (A 9) (A 10) (A 11) (A 12) (A 13) (A 14) (A 15) (r 0) (r 1) (r 2) (r 3)
  · exact zcramer2 (A 0) (A 1) (A 2) (A 3) (A 4) (A 5) (A 6) (A 7) (A 8) (A 9) (A 10) (A 11) (A 12) (A 13) (A 14) (A 15) (r 0) (r 1) (r 2) (r 3)
  · exact zcramer3 (A 0) (A 1) (A 2) (A 3) (A 4) (A 5) (A 6) (A 7) (A 8) (A 9) (A 10) (A 11) (A 12) (A 13) (A 14) (A 15) (r 0) (r 1) (r 2) (r 3)
theorem zmn2 {a b c d A B : Int} (a1 : -A ≤ a) (a2 : a ≤ A) (b1 : -B ≤ b) (b2 : b ≤ B) (c1 : -A ≤ c) (c2 : c ≤ A) (d1 : -B ≤ d) (d2 : d ≤ B) : -(2 * (A * B)) ≤ a * d - b * c ∧ a * d - b * c ≤ 2 * (A * B) := by
  have h1 := zmul_pm a1 a2 d1 d2
  have h2 := zmul_pm c1 c2 b1 b2
  have e : b * c = c * b := Int.mul_comm b c
  omega
theorem zdt_bd {a0 a1 a2 a3 b0 b1 b2 b3 c0 c1 c2 c3 d0 d1 d2 d3 C0 C1 C2 C3 : Int}
    (ha0 : -C0 ≤ a0 ∧ a0 ≤ C0) (hb0 : -C0 ≤ b0 ∧ b0 ≤ C0) (hc0 : -C0 ≤ c0 ∧ c0 ≤ C0) (hd0 : -C0 ≤ d0 ∧ d0 ≤ C0)
    (ha1 : -C1 ≤ a1 ∧ a1 ≤ C1) (hb1 : -C1 ≤ b1 ∧ b1 ≤ C1) (hc1 : -C1 ≤ c1 ∧ c1 ≤ C1) (hd1 : -C1 ≤ d1 ∧ d1 ≤ C1)
    (ha2 : -C2 ≤ a2 ∧ a2 ≤ C2) (hb2 : -C2 ≤ b2 ∧ b2 ≤ C2) (hc2 : -C2 ≤ c2 ∧ c2 ≤ C2) (hd2 : -C2 ≤ d2 ∧ d2 ≤ C2)
    (ha3 : -C3 ≤ a3 ∧ a3 ≤ C3) (hb3 : -C3 ≤ b3 ∧ b3 ≤ C3) (hc3 : -C3 ≤ c3 ∧ c3 ≤ C3) (hd3 : -C3 ≤ d3 ∧ d3 ≤ C3) :
    -(24 * (C0 * C1 * C2 * C3)) ≤ zdt a0 a1 a2 a3 b0 b1 b2 b3 c0 c1 c2 c3 d0 d1 d2 d3 ∧ zdt a0 a1 a2 a3 b0 b1 b2 b3 c0 c1 c2 c3 d0 d1 d2 d3 ≤ 24 * (C0 * C1 * C2 * C3) := by
  have p01 := zmn2 ha0.1 ha0.2 ha1.1 ha1.2 hb0.1 hb0.2 hb1.1 hb1.2
  have q01 := zmn2 hc0.1 hc0.2 hc1.1 hc1.2 hd0.1 hd0.2 hd1.1 hd1.2
  have p02 := zmn2 ha0.1 ha0.2 ha2.1 ha2.2 hb0.1 hb0.2 hb2.1 hb2.2
  have q02 := zmn2 hc0.1 hc0.2 hc2.1 hc2.2 hd0.1 hd0.2 hd2.1 hd2.2
  have p03 := zmn2 ha0.1 ha0.2 ha3.1 ha3.2 hb0.1 hb0.2 hb3.1 hb3.2
  have q03 := zmn2 hc0.1 hc0.2 hc3.1 hc3.2 hd0.1 hd0.2 hd3.1 hd3.2
  have p12 := zmn2 ha1.1 ha1.2 ha2.1 ha2.2 hb1.1 hb1.2 hb2.1 hb2.2
  have q12 := zmn2 hc1.1 hc1.2 hc2.1 hc2.2 hd1.1 hd1.2 hd2.1 hd2.2
  have p13 := zmn2 ha1.1 ha1.2 ha3.1 ha3.2 hb1.1 hb1.2 hb3.1 hb3.2
  have q13 := zmn2 hc1.1 hc1.2 hc3.1 hc3.2 hd1.1 hd1.2 hd3.1 hd3.2
  have p23 := zmn2 ha2.1 ha2.2 ha3.1 ha3.2 hb2.1 hb2.2 hb3.1 hb3.2
  have q23 := zmn2 hc2.1 hc2.2 hc3.1 hc3.2 hd2.1 hd2.2 hd3.1 hd3.2
  have r01 := zmul_pm p01.1 p01.2 q23.1 q23.2
  have e01 : 2 * (C0 * C1) * (2 * (C2 * C3)) = 4 * (C0 * C1 * C2 * C3) := by grind
  rw [e01] at r01
  have r02 := zmul_pm p02.1 p02.2 q13.1 q13.2
  have e02 : 2 * (C0 * C2) * (2 * (C1 * C3)) = 4 * (C0 * C1 * C2 * C3) := by grind
  rw [e02] at r02
  have r03 := zmul_pm p03.1 p03.2 q12.1 q12.2
  have e03 : 2 * (C0 * C3) * (2 * (C1 * C2)) = 4 * (C0 * C1 * C2 * C3) := by grind
  rw [e03] at r03
  have r12 := zmul_pm p12.1 p12.2 q03.1 q03.2
  have e12 : 2 * (C1 * C2) * (2 * (C0 * C3)) = 4 * (C0 * C1 * C2 * C3) := by grind
  rw [e12] at r12
  have r13 := zmul_pm p13.1 p13.2 q02.1 q02.2
  have e13 : 2 * (C1 * C3) * (2 * (C0 * C2)) = 4 * (C0 * C1 * C2 * C3) := by grind
  rw [e13] at r13
  have r23 := zmul_pm p23.1 p23.2 q01.1 q01.2
  have e23 : 2 * (C2 * C3) * (2 * (C0 * C1)) = 4 * (C0 * C1 * C2 * C3) := by grind
  rw [e23] at r23
  unfold zdt
  omega
theorem zdm_0_0 {g : Nat → Int} (hg : ∀ f, f ≤ 0 → 0 < g f) : 0 < zdtM (zmr g 0 0) := by
  have e : zdtM (zmr g 0 0) = zdt 1 0 0 0 0 1 0 0 0 0 1 0 0 0 0 1 := rfl
  have h := zdtp_0000 (g0 := g 0) (g1 := 1) (g2 := 1) (g3 := 1) (g4 := 1) (hg 0 (by decide)) (by decide) (by decide) (by decide) (by decide)
  rw [e]
  unfold zdt at h ⊢
  grind
theorem zdm_1_0 {g : Nat → Int} (hg : ∀ f, f ≤ 1 → 0 < g f) : 0 < zdtM (zmr g 0 1) := by
  have e : zdtM (zmr g 0 1) = zdt 1 0 0 0 0 1 0 0 0 0 1 0 0 0 0 1 := rfl
  have h := zdtp_0000 (g0 := g 0) (g1 := g 1) (g2 := 1) (g3 := 1) (g4 := 1) (hg 0 (by decide)) (hg 1 (by decide)) (by decide) (by decide) (by decide)
  rw [e]
  unfold zdt at h ⊢
  grind
theorem zdm_1_1 {g : Nat → Int} (hg : ∀ f, f ≤ 1 → 0 < g f) : 0 < zdtM (zmr g 1 1) := by
  have e : zdtM (zmr g 1 1) = zdt (g 0 + g 1) 0 0 0 0 1 0 0 0 0 1 0 0 0 0 1 := rfl
  have h := zdtp_1000 (g0 := g 0) (g1 := g 1) (g2 := 1) (g3 := 1) (g4 := 1) (hg 0 (by decide)) (hg 1 (by decide)) (by decide) (by decide) (by decide)
  rw [e]
  unfold zdt at h ⊢
  grind
theorem zdm_2_0 {g : Nat → Int} (hg : ∀ f, f ≤ 2 → 0 < g f) : 0 < zdtM (zmr g 0 2) := by
  have e : zdtM (zmr g 0 2) = zdt 1 0 0 0 0 1 0 0 0 0 1 0 0 0 0 1 := rfl
  have h := zdtp_0000 (g0 := g 0) (g1 := g 1) (g2 := g 2) (g3 := 1) (g4 := 1) (hg 0 (by decide)) (hg 1 (by decide)) (hg 2 (by decide)) (by decide) (by decide)
  rw [e]
  unfold zdt at h ⊢
  grind
theorem zdm_2_1 {g : Nat → Int} (hg : ∀ f, f ≤ 2 → 0 < g f) : 0 < zdtM (zmr g 1 2) := by
  have e : zdtM (zmr g 1 2) = zdt (g 0 + g 1) (-g 1) 0 0 0 1 0 0 0 0 1 0 0 0 0 1 := rfl
  have h := zdtp_1000 (g0 := g 0) (g1 := g 1) (g2 := g 2) (g3 := 1) (g4 := 1) (hg 0 (by decide)) (hg 1 (by decide)) (hg 2 (by decide)) (by decide) (by decide)
  rw [e]
  unfold zdt at h ⊢
  grind
theorem zdm_2_2 {g : Nat → Int} (hg : ∀ f, f ≤ 2 → 0 < g f) : 0 < zdtM (zmr g 2 2) := by
  have e : zdtM (zmr g 2 2) = zdt 1 0 0 0 (-g 1) (g 1 + g 2) 0 0 0 0 1 0 0 0 0 1 := rfl
  have h := zdtp_0100 (g0 := g 0) (g1 := g 1) (g2 := g 2) (g3 := 1) (g4 := 1) (hg 0 (by decide)) (hg 1 (by decide)) (hg 2 (by decide)) (by decide) (by decide)
  rw [e]
  unfold zdt at h ⊢
  grind
theorem zdm_2_3 {g : Nat → Int} (hg : ∀ f, f ≤ 2 → 0 < g f) : 0 < zdtM (zmr g 3 2) := by
  have e : zdtM (zmr g 3 2) = zdt (g 0 + g 1) (-g 1) 0 0 (-g 1) (g 1 + g 2) 0 0 0 0 1 0 0 0 0 1 := rfl
  have h := zdtp_1100 (g0 := g 0) (g1 := g 1) (g2 := g 2) (g3 := 1) (g4 := 1) (hg 0 (by decide)) (hg 1 (by decide)) (hg 2 (by decide)) (by decide) (by decide)
  rw [e]
  unfold zdt at h ⊢
  grind
theorem zdm_3_0 {g : Nat → Int} (hg : ∀ f, f ≤ 3 → 0 < g f) : 0 < zdtM (zmr g 0 3) := by
  have e : zdtM (zmr g 0 3) = zdt 1 0 0 0 0 1 0 0 0 0 1 0 0 0 0 1 := rfl
  have h := zdtp_0000 (g0 := g 0) (g1 := g 1) (g2 := g 2) (g3 := g 3) (g4 := 1) (hg 0 (by decide)) (hg 1 (by decide)) (hg 2 (by decide)) (hg 3 (by decide)) (by decide)
  rw [e]
  unfold zdt at h ⊢
  grind
theorem zdm_3_1 {g : Nat → Int} (hg : ∀ f, f ≤ 3 → 0 < g f) : 0 < zdtM (zmr g 1 3) := by
  have e : zdtM (zmr g 1 3) = zdt (g 0 + g 1) (-g 1) 0 0 0 1 0 0 0 0 1 0 0 0 0 1 := rfl
  have h := zdtp_1000 (g0 := g 0) (g1 := g 1) (g2 := g 2) (g3 := g 3) (g4 := 1) (hg 0 (by decide)) (hg 1 (by decide)) (hg 2 (by decide)) (hg 3 (by decide)) (by decide)
  rw [e]
  unfold zdt at h ⊢
  grind
theorem zdm_3_2 {g : Nat → Int} (hg : ∀ f, f ≤ 3 → 0 < g f) : 0 < zdtM (zmr g 2 3) := by
  have e : zdtM (zmr g 2 3) = zdt 1 0 0 0 (-g 1) (g 1 + g 2) (-g 2) 0 0 0 1 0 0 0 0 1 := rfl
  have h := zdtp_0100 (g0 := g 0) (g1 := g 1) (g2 := g 2) (g3 := g 3) (g4 := 1) (hg 0 (by decide)) (hg 1 (by decide)) (hg 2 (by decide)) (hg 3 (by decide)) (by decide)
  rw [e]
  unfold zdt at h ⊢
  grind
theorem zdm_3_3 {g : Nat → Int} (hg : ∀ f, f ≤ 3 → 0 < g f) : 0 < zdtM (zmr g 3 3) := by
  have e : zdtM (zmr g 3 3) = zdt (g 0 + g 1) (-g 1) 0 0 (-g 1) (g 1 + g 2) (-g 2) 0 0 0 1 0 0 0 0 1 := rfl
  have h := zdtp_1100 (g0 := g 0) (g1 := g 1) (g2 := g 2) (g3 := g 3) (g4 := 1) (hg 0 (by decide)) (hg 1 (by decide)) (hg 2 (by decide)) (hg 3 (by decide)) (by decide)
  rw [e]
  unfold zdt at h ⊢
  grind
theorem zdm_3_4 {g : Nat → Int} (hg : ∀ f, f ≤ 3 → 0 < g f) : 0 < zdtM (zmr g 4 3) := by
  have e : zdtM (zmr g 4 3) = zdt 1 0 0 0 0 1 0 0 0 (-g 2) (g 2 + g 3) 0 0 0 0 1 := rfl
  have h := zdtp_0010 (g0 := g 0) (g1 := g 1) (g2 := g 2) (g3 := g 3) (g4 := 1) (hg 0 (by decide)) (hg 1 (by decide)) (hg 2 (by decide)) (hg 3 (by decide)) (by decide)
  rw [e]
  unfold zdt at h ⊢
  grind
theorem zdm_3_5 {g : Nat → Int} (hg : ∀ f, f ≤ 3 → 0 < g f) : 0 < zdtM (zmr g 5 3) := by
  have e : zdtM (zmr g 5 3) = zdt (g 0 + g 1) (-g 1) 0 0 0 1 0 0 0 (-g 2) (g 2 + g 3) 0 0 0 0 1 := rfl
  have h := zdtp_1010 (g0 := g 0) (g1 := g 1) (g2 := g 2) (g3 := g 3) (g4 := 1) (hg 0 (by decide)) (hg 1 (by decide)) (hg 2 (by decide)) (hg 3 (by decide)) (by decide)
  rw [e]
  unfold zdt at h ⊢
  grind
theorem zdm_3_6 {g : Nat → Int} (hg : ∀ f, f ≤ 3 → 0 < g f) : 0 < zdtM (zmr g 6 3) := by
  have e : zdtM (zmr g 6 3) = zdt 1 0 0 0 (-g 1) (g 1 + g 2) (-g 2) 0 0 (-g 2) (g 2 + g 3) 0 0 0 0 1 := rfl
  have h := zdtp_0110 (g0 := g 0) (g1 := g 1) (g2 := g 2) (g3 := g 3) (g4 := 1) (hg 0 (by decide)) (hg 1 (by decide)) (hg 2 (by decide)) (hg 3 (by decide)) (by decide)
  rw [e]
  unfold zdt at h ⊢
  grind
theorem zdm_3_7 {g : Nat → Int} (hg : ∀ f, f ≤ 3 → 0 < g f) : 0 < zdtM (zmr g 7 3) := by
  have e : zdtM (zmr g 7 3) = zdt (g 0 + g 1) (-g 1) 0 0 (-g 1) (g 1 + g 2) (-g 2) 0 0 (-g 2) (g 2 + g 3) 0 0 0 0 1 := rfl
  have h := zdtp_1110 (g0 := g 0) (g1 := g 1) (g2 := g 2) (g3 := g 3) (g4 := 1) (hg 0 (by decide)) (hg 1 (by decide)) (hg 2 (by decide)) (hg 3 (by decide)) (by decide)
  rw [e]
  unfold zdt at h ⊢
  grind
theorem zdm_4_0 {g : Nat → Int} (hg : ∀ f, f ≤ 4 → 0 < g f) : 0 < zdtM (zmr g 0 4) := by
  have e : zdtM (zmr g 0 4) = zdt 1 0 0 0 0 1 0 0 0 0 1 0 0 0 0 1 := rfl
  have h := zdtp_0000 (g0 := g 0) (g1 := g 1) (g2 := g 2) (g3 := g 3) (g4 := g 4) (hg 0 (by decide)) (hg 1 (by decide)) (hg 2 (by decide)) (hg 3 (by decide)) (hg 4 (by decide))
  rw [e]
  unfold zdt at h ⊢
  grind
theorem zdm_4_1 {g : Nat → Int} (hg : ∀ f, f ≤ 4 → 0 < g f) : 0 < zdtM (zmr g 1 4) := by
  have e : zdtM (zmr g 1 4) = zdt (g 0 + g 1) (-g 1) 0 0 0 1 0 0 0 0 1 0 0 0 0 1 := rfl
  have h := zdtp_1000 (g0 := g 0) (g1 := g 1) (g2 := g 2) (g3 := g 3) (g4 := g 4) (hg 0 (by decide)) (hg 1 (by decide)) (hg 2 (by decide)) (hg 3 (by decide)) (hg 4 (by decide))
  rw [e]
  unfold zdt at h ⊢
  grind
theorem zdm_4_2 {g : Nat → Int} (hg : ∀ f, f ≤ 4 → 0 < g f) : 0 < zdtM (zmr g 2 4) := by
  have e : zdtM (zmr g 2 4) = zdt 1 0 0 0 (-g 1) (g 1 + g 2) (-g 2) 0 0 0 1 0 0 0 0 1 := rfl
  have h := zdtp_0100 (g0 := g 0) (g1 := g 1) (g2 := g 2) (g3 := g 3) (g4 := g 4) (hg 0 (by decide)) (hg 1 (by decide)) (hg 2 (by decide)) (hg 3 (by decide)) (hg 4 (by decide))
  rw [e]
  unfold zdt at h ⊢
  grind
theorem zdm_4_3 {g : Nat → Int} (hg : ∀ f, f ≤ 4 → 0 < g f) : 0 < zdtM (zmr g 3 4) := by
  have e : zdtM (zmr g 3 4) = zdt (g 0 + g 1) (-g 1) 0 0 (-g 1) (g 1 + g 2) (-g 2) 0 0 0 1 0 0 0 0 1 := rfl
  have h := zdtp_1100 (g0 := g 0) (g1 := g 1) (g2 := g 2) (g3 := g 3) (g4 := g 4) (hg 0 (by decide)) (hg 1 (by decide)) (hg 2 (by decide)) (hg 3 (by decide)) (hg 4 (by decide))
  rw [e]
  unfold zdt at h ⊢
  grind
theorem zdm_4_4 {g : Nat → Int} (hg : ∀ f, f ≤ 4 → 0 < g f) : 0 < zdtM (zmr g 4 4) := by
  have e : zdtM (zmr g 4 4) = zdt 1 0 0 0 0 1 0 0 0 (-g 2) (g 2 + g 3) (-g 3) 0 0 0 1 := rfl
  have h := zdtp_0010 (g0 := g 0) (g1 := g 1) (g2 := g 2) (g3 := g 3) (g4 := g 4) (hg 0 (by decide)) (hg 1 (by decide)) (hg 2 (by decide)) (hg 3 (by decide)) (hg 4 (by decide))
  rw [e]
  unfold zdt at h ⊢
  grind
theorem zdm_4_5 {g : Nat → Int} (hg : ∀ f, f ≤ 4 → 0 < g f) : 0 < zdtM (zmr g 5 4) := by
  have e : zdtM (zmr g 5 4) = zdt (g 0 + g 1) (-g 1) 0 0 0 1 0 0 0 (-g 2) (g 2 + g 3) (-g 3) 0 0 0 1 := rfl
  have h := zdtp_1010 (g0 := g 0) (g1 := g 1) (g2 := g 2) (g3 := g 3) (g4 := g 4) (hg 0 (by decide)) (hg 1 (by decide)) (hg 2 (by decide)) (hg 3 (by decide)) (hg 4 (by decide))
  rw [e]
  unfold zdt at h ⊢
  grind
theorem zdm_4_6 {g : Nat → Int} (hg : ∀ f, f ≤ 4 → 0 < g f) : 0 < zdtM (zmr g 6 4) := by
  have e : zdtM (zmr g 6 4) = zdt 1 0 0 0 (-g 1) (g 1 + g 2) (-g 2) 0 0 (-g 2) (g 2 + g 3) (-g 3) 0 0 0 1 := rfl
  have h := zdtp_0110 (g0 := g 0) (g1 := g 1) (g2 := g 2) (g3 := g 3) (g4 := g 4) (hg 0 (by decide)) (hg 1 (by decide)) (hg 2 (by decide)) (hg 3 (by decide)) (hg 4 (by decide))
  rw [e]
  unfold zdt at h ⊢
  grind
theorem zdm_4_7 {g : Nat → Int} (hg : ∀ f, f ≤ 4 → 0 < g f) : 0 < zdtM (zmr g 7 4) := by
  have e : zdtM (zmr g 7 4) = zdt (g 0 + g 1) (-g 1) 0 0 (-g 1) (g 1 + g 2) (-g 2) 0 0 (-g 2) (g 2 + g 3) (-g 3) 0 0 0 1 := rfl
  have h := zdtp_1110 (g0 := g 0) (g1 := g 1) (g2 := g 2) (g3 := g 3) (g4 := g 4) (hg 0 (by decide)) (hg 1 (by decide)) (hg 2 (by decide)) (hg 3 (by decide)) (hg 4 (by decide))
  rw [e]
  unfold zdt at h ⊢
  grind
theorem zdm_4_8 {g : Nat → Int} (hg : ∀ f, f ≤ 4 → 0 < g f) : 0 < zdtM (zmr g 8 4) := by
  have e : zdtM (zmr g 8 4) = zdt 1 0 0 0 0 1 0 0 0 0 1 0 0 0 (-g 3) (g 3 + g 4) := rfl
  have h := zdtp_0001 (g0 := g 0) (g1 := g 1) (g2 := g 2) (g3 := g 3) (g4 := g 4) (hg 0 (by decide)) (hg 1 (by decide)) (hg 2 (by decide)) (hg 3 (by decide)) (hg 4 (by decide))
  rw [e]
  unfold zdt at h ⊢
  grind
theorem zdm_4_9 {g : Nat → Int} (hg : ∀ f, f ≤ 4 → 0 < g f) : 0 < zdtM (zmr g 9 4) := by
  have e : zdtM (zmr g 9 4) = zdt (g 0 + g 1) (-g 1) 0 0 0 1 0 0 0 0 1 0 0 0 (-g 3) (g 3 + g 4) := rfl
  have h := zdtp_1001 (g0 := g 0) (g1 := g 1) (g2 := g 2) (g3 := g 3) (g4 := g 4) (hg 0 (by decide)) (hg 1 (by decide)) (hg 2 (by decide)) (hg 3 (by decide)) (hg 4 (by decide))
  rw [e]
  unfold zdt at h ⊢
  grind
theorem zdm_4_10 {g : Nat → Int} (hg : ∀ f, f ≤ 4 → 0 < g f) : 0 < zdtM (zmr g 10 4) := by
  have e : zdtM (zmr g 10 4) = zdt 1 0 0 0 (-g 1) (g 1 + g 2) (-g 2) 0 0 0 1 0 0 0 (-g 3) (g 3 + g 4) := rfl
  have h := zdtp_0101 (g0 := g 0) (g1 := g 1) (g2 := g 2) (g3 := g 3) (g4 := g 4) (hg 0 (by decide)) (hg 1 (by decide)) (hg 2 (by decide)) (hg 3 (by decide)) (hg 4 (by decide))
  rw [e]
  unfold zdt at h ⊢
  grind
theorem zdm_4_11 {g : Nat → Int} (hg : ∀ f, f ≤ 4 → 0 < g f) : 0 < zdtM (zmr g 11 4) := by
  have e : zdtM (zmr g 11 4) = zdt (g 0 + g 1) (-g 1) 0 0 (-g 1) (g 1 + g 2) (-g 2) 0 0 0 1 0 0 0 (-g 3) (g 3 + g 4) := rfl
  have h := zdtp_1101 (g0 := g 0) (g1 := g 1) (g2 := g 2) (g3 := g 3) (g4 := g 4) (hg 0 (by decide)) (hg 1 (by decide)) (hg 2 (by decide)) (hg 3 (by decide)) (hg 4 (by decide))
  rw [e]
  unfold zdt at h ⊢
  grind
theorem zdm_4_12 {g : Nat → Int} (hg : ∀ f, f ≤ 4 → 0 < g f) : 0 < zdtM (zmr g 12 4) := by
  have e : zdtM (zmr g 12 4) = zdt 1 0 0 0 0 1 0 0 0 (-g 2) (g 2 + g 3) (-g 3) 0 0 (-g 3) (g 3 + g 4) := rfl
  have h := zdtp_0011 (g0 := g 0) (g1 := g 1) (g2 := g 2) (g3 := g 3) (g4 := g 4) (hg 0 (by decide)) (hg 1 (by decide)) (hg 2 (by decide)) (hg 3 (by decide)) (hg 4 (by decide))
  rw [e]
  unfold zdt at h ⊢
  grind
theorem zdm_4_13 {g : Nat → Int} (hg : ∀ f, f ≤ 4 → 0 < g f) : 0 < zdtM (zmr g 13 4) := by
  have e : zdtM (zmr g 13 4) = zdt (g 0 + g 1) (-g 1) 0 0 0 1 0 0 0 (-g 2) (g 2 + g 3) (-g 3) 0 0 (-g 3) (g 3 + g 4) := rfl
  have h := zdtp_1011 (g0 := g 0) (g1 := g 1) (g2 := g 2) (g3 := g 3) (g4 := g 4) (hg 0 (by decide)) (hg 1 (by decide)) (hg 2 (by decide)) (hg 3 (by decide)) (hg 4 (by decide))
  rw [e]
  unfold zdt at h ⊢
  grind
theorem zdm_4_14 {g : Nat → Int} (hg : ∀ f, f ≤ 4 → 0 < g f) : 0 < zdtM (zmr g 14 4) := by
  have e : zdtM (zmr g 14 4) = zdt 1 0 0 0 (-g 1) (g 1 + g 2) (-g 2) 0 0 (-g 2) (g 2 + g 3) (-g 3) 0 0 (-g 3) (g 3 + g 4) := rfl
  have h := zdtp_0111 (g0 := g 0) (g1 := g 1) (g2 := g 2) (g3 := g 3) (g4 := g 4) (hg 0 (by decide)) (hg 1 (by decide)) (hg 2 (by decide)) (hg 3 (by decide)) (hg 4 (by decide))
  rw [e]
  unfold zdt at h ⊢
  grind
theorem zdm_4_15 {g : Nat → Int} (hg : ∀ f, f ≤ 4 → 0 < g f) : 0 < zdtM (zmr g 15 4) := by
  have e : zdtM (zmr g 15 4) = zdt (g 0 + g 1) (-g 1) 0 0 (-g 1) (g 1 + g 2) (-g 2) 0 0 (-g 2) (g 2 + g 3) (-g 3) 0 0 (-g 3) (g 3 + g 4) := rfl
  have h := zdtp_1111 (g0 := g 0) (g1 := g 1) (g2 := g 2) (g3 := g 3) (g4 := g 4) (hg 0 (by decide)) (hg 1 (by decide)) (hg 2 (by decide)) (hg 3 (by decide)) (hg 4 (by decide))
  rw [e]
  unfold zdt at h ⊢
  grind
theorem zdm_pos {g : Nat → Int} {n s : Nat} (hn : n ≤ 4) (hs : s < 2 ^ n) (hg : ∀ f, f ≤ n → 0 < g f) : 0 < zdtM (zmr g s n) := by
  rcases (show n = 0 ∨ n = 1 ∨ n = 2 ∨ n = 3 ∨ n = 4 by omega) with rfl | rfl | rfl | rfl | rfl
  · rw [show s = 0 by omega]; exact zdm_0_0 hg
  · rw [show (2 : Nat) ^ 1 = 2 from rfl] at hs
    rcases (show s = 0 ∨ s = 1 by omega) with rfl | rfl
    · exact zdm_1_0 hg
    · exact zdm_1_1 hg
  · rw [show (2 : Nat) ^ 2 = 4 from rfl] at hs
    rcases (show s = 0 ∨ s = 1 ∨ s = 2 ∨ s = 3 by omega) with rfl | rfl | rfl | rfl
    · exact zdm_2_0 hg
    · exact zdm_2_1 hg
    · exact zdm_2_2 hg
    · exact zdm_2_3 hg
  · rw [show (2 : Nat) ^ 3 = 8 from rfl] at hs
    rcases (show s = 0 ∨ s = 1 ∨ s = 2 ∨ s = 3 ∨ s = 4 ∨ s = 5 ∨ s = 6 ∨ s = 7 by omega) with rfl | rfl | rfl | rfl | rfl | rfl | rfl | rfl
    · exact zdm_3_0 hg
    · exact zdm_3_1 hg
    · exact zdm_3_2 hg
    · exact zdm_3_3 hg
    · exact zdm_3_4 hg
    · exact zdm_3_5 hg
    · exact zdm_3_6 hg
    · exact zdm_3_7 hg
  · rw [show (2 : Nat) ^ 4 = 16 from rfl] at hs
    rcases (show s = 0 ∨ s = 1 ∨ s = 2 ∨ s = 3 ∨ s = 4 ∨ s = 5 ∨ s = 6 ∨ s = 7 ∨ s = 8 ∨ s = 9 ∨ s = 10 ∨ s = 11 ∨ s = 12 ∨ s = 13 ∨ s = 14 ∨ s = 15 by omega) with rfl | rfl | rfl | rfl | rfl | rfl | rfl | rfl | rfl | rfl | rfl | rfl | rfl | rfl | rfl | rfl
    · exact zdm_4_0 hg
    · exact zdm_4_1 hg
    · exact zdm_4_2 hg
    · exact zdm_4_3 hg
    · exact zdm_4_4 hg
    · exact zdm_4_5 hg
    · exact zdm_4_6 hg
    · exact zdm_4_7 hg
    · exact zdm_4_8 hg
    · exact zdm_4_9 hg
    · exact zdm_4_10 hg
    · exact zdm_4_11 hg
    · exact zdm_4_12 hg
    · exact zdm_4_13 hg
    · exact zdm_4_14 hg
    · exact zdm_4_15 hg
theorem zmr_bd {g : Nat → Int} {s n : Nat} (hn : n ≤ 4) (hg : ∀ f, f ≤ n → 0 < g f ∧ g f ≤ 12) (k : Nat) : -24 ≤ zmr g s n k ∧ zmr g s n k ≤ 24 := by
  unfold zmr zid
  by_cases h : k / 4 < n ∧ zbt s (k / 4) = 1
  · rw [if_pos h]
    have a := hg (k / 4) (by omega)
    have b := hg (k / 4 + 1) (by omega)
    (repeat' split) <;> omega
  · rw [if_neg h]
    split <;> decide
theorem zdtM_bd {A : Nat → Int} (h : ∀ k, -24 ≤ A k ∧ A k ≤ 24) : -8000000 ≤ zdtM A ∧ zdtM A ≤ 8000000 := by
  have := zdt_bd (C0 := 24) (C1 := 24) (C2 := 24) (C3 := 24) (h 0) (h 4) (h 8) (h 12) (h 1) (h 5) (h 9) (h 13) (h 2) (h 6) (h 10) (h 14) (h 3) (h 7) (h 11) (h 15)
  unfold zdtM
  omega
theorem zcol_bd {A r : Nat → Int} {f : Nat} (hf : f < 4) (h : ∀ k, -24 ≤ A k ∧ A k ≤ 24) (hr : ∀ i, i < 4 → -440000 ≤ r i ∧ r i ≤ 440000) : -150000000000 ≤ zdtM (zcol A f r) ∧ zdtM (zcol A f r) ≤ 150000000000 := by
  rcases (show f = 0 ∨ f = 1 ∨ f = 2 ∨ f = 3 by omega) with rfl | rfl | rfl | rfl
  · have := zdt_bd (C0 := 440000) (C1 := 24) (C2 := 24) (C3 := 24) (hr 0 (by decide)) (hr 1 (by decide)) (hr 2 (by decide)) (hr 3 (by decide)) (h 1) (h 5) (h 9) (h 13) (h 2) (h 6) (h 10) (h 14) (h 3) (h 7) (h 11) (h 15)
    show -150000000000 ≤ zdt (r 0) (A 1) (A 2) (A 3) (r 1) (A 5) (A 6) (A 7) (r 2) (A 9) (A 10) (A 11) (r 3) (A 13) (A 14) (A 15) ∧ zdt (r 0) (A 1) (A 2) (A 3) (r 1) (A 5) (A 6) (A 7) (r 2) (A 9) (A 10) (A 11) (r 3) (A 13) (A 14) (A 15) ≤ 150000000000
    omega
  · have := zdt_bd (C0 := 24) (C1 := 440000) (C2 := 24) (C3 := 24) (h 0) (h 4) (h 8) (h 12) (hr 0 (by decide)) (hr 1 (by decide)) (hr 2 (by decide)) (hr 3 (by decide)) (h 2) (h 6) (h 10) (h 14) (h 3) (h 7) (h 11) (h 15)
    show -150000000000 ≤ zdt (A 0) (r 0) (A 2) (A 3) (A 4) (r 1) (A 6) (A 7) (A 8) (r 2) (A 10) (A 11) (A 12) (r 3) (A 14) (A 15) ∧ zdt (A 0) (r 0) (A 2) (A 3) (A 4) (r 1) (A 6) (A 7) (A 8) (r 2) (A 10) (A 11) (A 12) (r 3) (A 14) (A 15) ≤ 150000000000
    omega
  · have := zdt_bd (C0 := 24) (C1 := 24) (C2 := 440000) (C3 := 24) (h 0) (h 4) (h 8) (h 12) (h 1) (h 5) (h 9) (h 13) (hr 0 (by decide)) (hr 1 (by decide)) (hr 2 (by decide)) (hr 3 (by decide)) (h 3) (h 7) (h 11) (h 15)
    show -150000000000 ≤ zdt (A 0) (A 1) (r 0) (A 3) (A 4) (A 5) (r 1) (A 7) (A 8) (A 9) (r 2) (A 11) (A 12) (A 13) (r 3) (A 15) ∧ zdt (A 0) (A 1) (r 0) (A 3) (A 4) (A 5) (r 1) (A 7) (A 8) (A 9) (r 2) (A 11) (A 12) (A 13) (r 3) (A 15) ≤ 150000000000
    omega
  · have := zdt_bd (C0 := 24) (C1 := 24) (C2 := 24) (C3 := 440000) (h 0) (h 4) (h 8) (h 12) (h 1) (h 5) (h 9) (h 13) (h 2) (h 6) (h 10) (h 14) (hr 0 (by decide)) (hr 1 (by decide)) (hr 2 (by decide)) (hr 3 (by decide))
    show -150000000000 ≤ zdt (A 0) (A 1) (A 2) (r 0) (A 4) (A 5) (A 6) (r 1) (A 8) (A 9) (A 10) (r 2) (A 12) (A 13) (A 14) (r 3) ∧ zdt (A 0) (A 1) (A 2) (r 0) (A 4) (A 5) (A 6) (r 1) (A 8) (A 9) (A 10) (r 2) (A 12) (A 13) (A 14) (r 3) ≤ 150000000000
    omega
/-- the right side, and the answer of a set -/
def zrh (own : Nat → Int) (s n i : Nat) : Int := if i < n ∧ zbt s i = 1 then -own i else 0
def zxs (g own : Nat → Int) (s n : Nat) (k : Nat) : Int := if k = 0 then 0 else if k ≤ 4 then zdtM (zcol (zmr g s n) (k - 1) (zrh own s n)) else 0
theorem zbt01 (s f : Nat) : zbt s f = 0 ∨ zbt s f = 1 := by
  have := Nat.mod_lt (s / 2 ^ f) (show 0 < 2 by decide)
  unfold zbt
  omega
theorem zxs_row {g own : Nat → Int} {s n f : Nat} (hn : n ≤ 4) (hf : f < 4) : if f < n ∧ zbt s f = 1 then zxs g own s n (f + 1) * (g f + g (f + 1)) - (if f + 1 < n then zxs g own s n (f + 2) else 0) * g (f + 1) - zxs g own s n f * g f + own f * zdtM (zmr g s n) = 0 else zxs g own s n (f + 1) = 0 := by
  have h := zcr (A := zmr g s n) (r := zrh own s n) hf
  have x1 : zxs g own s n 1 = zdtM (zcol (zmr g s n) 0 (zrh own s n)) := rfl
  have x2 : zxs g own s n 2 = zdtM (zcol (zmr g s n) 1 (zrh own s n)) := rfl
  have x3 : zxs g own s n 3 = zdtM (zcol (zmr g s n) 2 (zrh own s n)) := rfl
  have x4 : zxs g own s n 4 = zdtM (zcol (zmr g s n) 3 (zrh own s n)) := rfl
  have x5 : zxs g own s n 5 = 0 := rfl
  have x0 : zxs g own s n 0 = 0 := rfl
  rw [← x1, ← x2, ← x3, ← x4] at h
  by_cases hb : f < n ∧ zbt s f = 1
  · rw [if_pos hb]
    have hr : zrh own s n f = -own f := by unfold zrh; rw [if_pos hb]
    rw [hr] at h
    have hA : ∀ j, j < 4 → zmr g s n (4 * f + j) = if j = f then g f + g (f + 1) else if j + 1 = f then -g f else if j = f + 1 ∧ f + 1 < n then -g (f + 1) else 0 := fun j hj => by
      unfold zmr
      rw [show (4 * f + j) / 4 = f by omega, show (4 * f + j) % 4 = j by omega, if_pos hb]
    have A0 := hA 0 (by decide)
    have A1 := hA 1 (by decide)
    have A2 := hA 2 (by decide)
    have A3 := hA 3 (by decide)
    rw [Nat.add_zero] at A0
    rw [A0, A1, A2, A3] at h
    by_cases hl : f + 1 < n
    · rw [if_pos hl]
      rcases (show f = 0 ∨ f = 1 ∨ f = 2 ∨ f = 3 by omega) with rfl | rfl | rfl | rfl
      · simp only [hl, and_true, Nat.zero_add] at h; simp at h ⊢; rw [x0]; grind
      · simp only [hl, and_true] at h; simp at h ⊢; grind
      · simp only [hl, and_true] at h; simp at h ⊢; grind
      · omega
    · rw [if_neg hl]
      rcases (show f = 0 ∨ f = 1 ∨ f = 2 ∨ f = 3 by omega) with rfl | rfl | rfl | rfl
      · simp only [hl, and_false, Nat.zero_add] at h; simp at h ⊢; rw [x0]; grind
      · simp only [hl, and_false] at h; simp at h ⊢; grind
      · simp only [hl, and_false] at h; simp at h ⊢; grind
      · simp only [hl, and_false] at h; simp at h ⊢; grind
  · rw [if_neg hb]
    have hr : zrh own s n f = 0 := by unfold zrh; rw [if_neg hb]
    have hA : ∀ j, j < 4 → zmr g s n (4 * f + j) = if f = j then 1 else 0 := fun j hj => by
      unfold zmr zid
      rw [show (4 * f + j) / 4 = f by omega, show (4 * f + j) % 4 = j by omega, if_neg hb]
    have A0 := hA 0 (by decide)
    rw [Nat.add_zero] at A0
    rw [A0, hA 1 (by decide), hA 2 (by decide), hA 3 (by decide), hr, Int.zero_mul] at h
    rcases (show f = 0 ∨ f = 1 ∨ f = 2 ∨ f = 3 by omega) with rfl | rfl | rfl | rfl
    · simp at h; exact h
    · simp at h; exact h
    · simp at h; exact h
    · simp at h; exact h
/-- what is beyond the fits is 0 -/
theorem zxs_out {g own : Nat → Int} {s n : Nat} (hn : n ≤ 4) : zxs g own s n (n + 1) = 0 := by
  by_cases h : n < 4
  · have := zxs_row (g := g) (own := own) (s := s) hn h
    rw [if_neg (by omega)] at this
    exact this
  · rw [show n = 4 by omega]; rfl
theorem zxs_rw {g own : Nat → Int} {s n f : Nat} (hn : n ≤ 4) (hf : f < n) (hb : zbt s f = 1) : zRw g own (zdtM (zmr g s n)) (zxs g own s n) f = 0 := by
  have := zxs_row (g := g) (own := own) (s := s) hn (show f < 4 by omega)
  rw [if_pos ⟨hf, hb⟩] at this
  unfold zRw
  by_cases hl : f + 1 < n
  · rw [if_pos hl] at this; exact this
  · rw [if_neg hl] at this
    rw [show f + 2 = n + 1 by omega, zxs_out hn]
    exact this
theorem zxs_z {g own : Nat → Int} {s n f : Nat} (hn : n ≤ 4) (hf : f < n) (hb : zbt s f ≠ 1) : zxs g own s n (f + 1) = 0 := by
  have := zxs_row (g := g) (own := own) (s := s) hn (show f < 4 by omega)
  rw [if_neg (fun z => hb z.2)] at this
  exact this
/-- a set that is fine gives the one answer -/
theorem zxs_sol {g own : Nat → Int} {s n : Nat} (hn : n ≤ 4) (hs : s < 2 ^ n) (hg : ∀ f, f ≤ n → 0 < g f) (hf : ∀ f, f < n → 0 ≤ zxs g own s n (f + 1) ∧ 0 ≤ zRw g own (zdtM (zmr g s n)) (zxs g own s n) f) : zSol n g own (zdtM (zmr g s n)) (zxs g own s n) := by
  refine ⟨zdm_pos hn hs hg, rfl, zxs_out hn, fun f h => ⟨(hf f h).1, (hf f h).2, ?_⟩⟩
  rcases zbt01 s f with h0 | h1
  · exact Or.inl (zxs_z hn h (by omega))
  · exact Or.inr (zxs_rw hn h h1)
/-- the set of the fits that press is fine -/
theorem zxs_eq {g own : Nat → Int} {s n : Nat} (hn : n ≤ 4) (hs : s < 2 ^ n) (hg : ∀ f, f ≤ n → 0 < g f) {D : Int} {p : Nat → Int} (h : zSol n g own D p) (hset : ∀ f, f < n → (zbt s f = 1 → zRw g own D p f = 0) ∧ (zbt s f ≠ 1 → p (f + 1) = 0)) : ∀ f, f < n → 0 ≤ zxs g own s n (f + 1) ∧ 0 ≤ zRw g own (zdtM (zmr g s n)) (zxs g own s n) f := by
  have hD := zdm_pos hn hs hg
  obtain ⟨hD', h0, hout, hf⟩ := h
  have key : ∀ (e : Int), e = 1 ∨ e = -1 → ∀ k, k ≤ n + 1 → e * (zxs g own s n k * D - p k * zdtM (zmr g s n)) ≤ 0 := fun e he => by
    obtain ⟨k, k1, k2, k3⟩ := zlmax (fun k => e * (zxs g own s n k * D - p k * zdtM (zmr g s n))) (n + 1)
    have hk : e * (zxs g own s n k * D - p k * zdtM (zmr g s n)) ≤ 0 := by
      by_cases hpos : e * (zxs g own s n k * D - p k * zdtM (zmr g s n)) ≤ 0
      · exact hpos
      · exfalso
        have e0 : k ≠ 0 := fun z => by rw [z, h0, show zxs g own s n 0 = 0 from rfl] at hpos; simp at hpos
        have e1 : k ≠ n + 1 := fun z => by rw [z, hout, zxs_out hn] at hpos; simp at hpos
        obtain ⟨f, rfl⟩ : ∃ f, k = f + 1 := ⟨k - 1, by omega⟩
        have hb : zbt s f = 1 := by
          rcases zbt01 s f with z | z
          · rw [zxs_z hn (by omega) (by omega), (hset f (by omega)).2 (by omega)] at hpos; simp at hpos
          · exact z
        have z1 := zxs_rw (g := g) (own := own) hn (show f < n by omega) hb
        have z2 := (hset f (by omega)).1 hb
        have c1 := k3 f (by omega)
        have c2 := k2 (f + 2) (by omega)
        have g1 := hg f (by omega)
        have g2 := hg (f + 1) (by omega)
        have m1 : 0 < (e * (zxs g own s n (f + 1) * D - p (f + 1) * zdtM (zmr g s n)) - e * (zxs g own s n f * D - p f * zdtM (zmr g s n))) * g f := Int.mul_pos (by omega) g1
        have m2 : 0 ≤ (e * (zxs g own s n (f + 1) * D - p (f + 1) * zdtM (zmr g s n)) - e * (zxs g own s n (f + 2) * D - p (f + 2) * zdtM (zmr g s n))) * g (f + 1) := Int.mul_nonneg (by omega) (by omega)
        have ee : (e * (zxs g own s n (f + 1) * D - p (f + 1) * zdtM (zmr g s n)) - e * (zxs g own s n f * D - p f * zdtM (zmr g s n))) * g f + (e * (zxs g own s n (f + 1) * D - p (f + 1) * zdtM (zmr g s n)) - e * (zxs g own s n (f + 2) * D - p (f + 2) * zdtM (zmr g s n))) * g (f + 1) = e * (zRw g own (zdtM (zmr g s n)) (zxs g own s n) f * D - zRw g own D p f * zdtM (zmr g s n)) := by
          unfold zRw
          grind
        rw [z1, z2, Int.zero_mul, Int.zero_mul] at ee
        simp only [Int.sub_zero, Int.mul_zero] at ee
        omega
    intro j hj
    have := k2 j hj
    omega
  have eq : ∀ k, k ≤ n + 1 → zxs g own s n k * D = p k * zdtM (zmr g s n) := fun k hk => by
    have a := key 1 (Or.inl rfl) k hk
    have b := key (-1) (Or.inr rfl) k hk
    omega
  intro f hlt
  obtain ⟨a1, a2, a3⟩ := hf f hlt
  have e1 := eq (f + 1) (by omega)
  have e2 := eq (f + 2) (by omega)
  have e3 := eq f (by omega)
  constructor
  · have : 0 ≤ zxs g own s n (f + 1) * D := by rw [e1]; exact Int.mul_nonneg a1 (by omega)
    exact Int.nonneg_of_mul_nonneg_left this hD'
  · have er : zRw g own (zdtM (zmr g s n)) (zxs g own s n) f * D = zRw g own D p f * zdtM (zmr g s n) := by
      unfold zRw
      grind
    have : 0 ≤ zRw g own (zdtM (zmr g s n)) (zxs g own s n) f * D := by rw [er]; exact Int.mul_nonneg a2 (by omega)
    exact Int.nonneg_of_mul_nonneg_left this hD'
/-- there is such a set -/
theorem zset_ex {n : Nat} (hn : n ≤ 4) (b : Nat → Bool) : ∃ s, s < 2 ^ n ∧ ∀ f, f < n → zbt s f = if b f then 1 else 0 := by
  refine ⟨(if b 0 ∧ 0 < n then 1 else 0) + (if b 1 ∧ 1 < n then 2 else 0) + (if b 2 ∧ 2 < n then 4 else 0) + (if b 3 ∧ 3 < n then 8 else 0), ?_, fun f hf => ?_⟩
  · rcases (show n = 0 ∨ n = 1 ∨ n = 2 ∨ n = 3 ∨ n = 4 by omega) with rfl | rfl | rfl | rfl | rfl <;> cases b 0 <;> cases b 1 <;> cases b 2 <;> cases b 3 <;> decide
  · rcases (show f = 0 ∨ f = 1 ∨ f = 2 ∨ f = 3 by omega) with rfl | rfl | rfl | rfl <;>
    rcases (show n = 0 ∨ n = 1 ∨ n = 2 ∨ n = 3 ∨ n = 4 by omega) with rfl | rfl | rfl | rfl | rfl <;> first | omega | (cases b 0 <;> cases b 1 <;> cases b 2 <;> cases b 3 <;> decide)
theorem zset_fine {g own : Nat → Int} {n : Nat} (hn : n ≤ 4) (hg : ∀ f, f ≤ n → 0 < g f) {D : Int} {p : Nat → Int} (h : zSol n g own D p) : ∃ s, s < 2 ^ n ∧ ∀ f, f < n → 0 ≤ zxs g own s n (f + 1) ∧ 0 ≤ zRw g own (zdtM (zmr g s n)) (zxs g own s n) f := by
  obtain ⟨s, h1, h2⟩ := zset_ex hn fun f => !decide (p (f + 1) = 0)
  refine ⟨s, h1, zxs_eq hn h1 hg h fun f hf => ⟨fun z => ?_, fun z => ?_⟩⟩
  · have e := h2 f hf
    rw [z] at e
    by_cases hp : p (f + 1) = 0
    · simp [hp] at e
    · exact (h.2.2.2 f hf).2.2.resolve_left hp
  · have e := h2 f hf
    by_cases hp : p (f + 1) = 0
    · exact hp
    · simp [hp] at e
      exact absurd e z
