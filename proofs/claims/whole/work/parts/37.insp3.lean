/-! Inspection: sums of a round; the model's round and cost. -/
def zGr (R : Nat → Int) (g : Int) : Int := if g = 0 then R 187 else if g = 1 then R 188 else 8 - R 187 - R 188
def zx1 (R : Nat → Int) (x : Int) : Int := if R 189 ≤ x then 0 else x
def zx2 (R : Nat → Int) (lk x : Int) : Int := if lk = 1 then (if R 190 ≤ zx1 R x then 0 else zx1 R x) else zx1 R x
def zpc (R : Nat → Int) (lk x n : Int) : Int := (if R 189 ≤ x then n * R 193 else 0) + (if lk = 1 then n * R 191 + (if R 190 ≤ zx1 R x then n * R 192 else 0) else 0)
/-- of crack c: what is found at a look -/
def zcf (R A : Nat → Int) (c : Nat) : Int := (if R 190 ≤ (c : Int) then A c * R 187 else 0) + (if (c : Int) + 1 < R 189 ∧ R 190 ≤ (c : Int) + 1 then A c * R 188 else 0) + (if (c : Int) + 2 < R 189 ∧ R 190 ≤ (c : Int) + 2 then A c * (8 - R 187 - R 188) else 0)
theorem zgrw_sup {R A : Nat → Int} (hk : zIk R) {k : Nat} (h : R 189 ≤ (k : Int)) : zgrw R A k = 0 := by
  have k2 := hk.2.2.1
  unfold zgrw
  rw [if_neg (by omega), zss_congr (g := fun _ => 0) _ fun c hc => ?_, zss_zero]; rfl
  unfold zcB
  rw [if_neg (by omega), if_neg (by omega), if_neg (by omega)]; rfl
theorem zdst_sup {R : Nat → Int} (hk : zIk R) (a : Int) : ∀ (r k : Nat), R 189 ≤ (k : Int) → zdst R a r k = 0 := by
  intro r
  induction r with
  | zero => intro k h; rw [zdst, if_neg (by have := hk.2.2.1; omega)]
  | succ r ih =>
    intro k h
    have k2 := hk.2.2.1
    rw [zdst]
    unfold zrnd zlok
    rw [zgrw_sup hk h]
    (repeat' split) <;> omega
theorem zcB_sum {R A : Nat → Int} (p : Nat → Prop) [∀ j, Decidable (p j)] {c : Nat} (hc : (c : Int) < R 189) (hb : R 189 ≤ 20) : zss (fun k => if p k then zcB R A c k else 0) 20 = (if p c then A c * R 187 else 0) + (if (c : Int) + 1 < R 189 ∧ p (c + 1) then A c * R 188 else 0) + (if (c : Int) + 2 < R 189 ∧ p (c + 2) then A c * (8 - R 187 - R 188) else 0) := by
  have e : zss (fun k => if p k then zcB R A c k else 0) 20 = zss (fun k => ((if k = c then (if p c then A c * R 187 else 0) else 0) + (if k = c + 1 then (if (c : Int) + 1 < R 189 ∧ p (c + 1) then A c * R 188 else 0) else 0)) + (if k = c + 2 then (if (c : Int) + 2 < R 189 ∧ p (c + 2) then A c * (8 - R 187 - R 188) else 0) else 0)) 20 := by
    refine zss_congr 20 fun k hk => ?_
    unfold zcB
    by_cases q0 : k = c
    · subst q0
      simp only [show ¬ (k = k + 1) by omega, show ¬(k = k + 2) by omega, false_and, if_false, if_true, Int.add_zero, ite_self]
    · by_cases q1 : k = c + 1
      · subst q1
        simp only [show ¬ (c + 1 = c) by omega, show ¬ (c + 1 = c + 2) by omega, true_and, false_and, if_false, if_true, Int.add_zero, Int.zero_add]
        by_cases h1 : p (c + 1) <;> simp only [h1, and_true, and_false, if_true, if_false]
      · by_cases q2 : k = c + 2
        · subst q2
          simp only [show ¬ (c + 2 = c) by omega, show ¬ (c + 2 = c + 1) by omega, true_and, false_and, if_false, if_true, Int.add_zero, Int.zero_add]
          by_cases h1 : p (c + 2) <;> simp only [h1, and_true, and_false, if_true, if_false]
        · simp only [q0, q1, q2, false_and, if_false, ite_self, Int.add_zero]
  rw [e, zss_add, zss_add, zss_delta, zss_delta, zss_delta, if_pos (by omega)]
  by_cases q1 : c + 1 < 20
  · by_cases q2 : c + 2 < 20
    · simp only [q1, q2, if_true]
    · simp only [q1, q2, if_true, if_false, show ¬((c : Int) + 2 < R 189) by omega, false_and]
  · simp only [q1, show ¬ (c + 2 < 20) by omega, if_false, show ¬((c : Int) + 1 < R 189) by omega, show ¬((c : Int) + 2 < R 189) by omega, false_and]
theorem zfnd_cf {R A : Nat → Int} (hk : zIk R) : zfnd R (zgrw R A) = zss (zcf R A) (R 189).toNat := by
  have k2 := hk.2.2.1
  have k3 := hk.2.2.2.1
  unfold zfnd
  have e : zss (fun k => if R 190 ≤ (k : Int) then zgrw R A k else 0) 20 = zss (fun k => if R 190 ≤ (k : Int) then zss (fun c => zcB R A c k) (R 189).toNat else 0) 20 := zss_congr 20 fun k hk => by
    by_cases h : R 190 ≤ (k : Int)
    · rw [if_pos h, if_pos h]; unfold zgrw; rw [if_neg (by omega)]; omega
    · rw [if_neg h, if_neg h]
  rw [e, zss_ite (fun k => R 190 ≤ (k : Int)) (fun c k => zcB R A c k)]
  refine zss_congr _ fun c hc => ?_
  rw [zcB_sum (fun k => R 190 ≤ (k : Int)) (by omega) k2.2]
  unfold zcf
  rw [show ((c + 1 : Nat) : Int) = c + 1 from rfl, show ((c + 2 : Nat) : Int) = c + 2 from rfl]
theorem zgrw_tot {R A : Nat → Int} (hk : zIk R) (hs : ∀ c : Nat, R 189 ≤ (c : Int) → A c = 0) : zss (zgrw R A) 20 = zss A 20 * 8 := by
  have k2 := hk.2.2.1
  have e1 : zss (zgrw R A) 20 = zss (fun k => zss (fun c => zcB R A c k) (R 189).toNat) 20 + zss (fun k => if k = 0 then zbst R A else 0) 20 := by rw [← zss_add]; rfl
  have e2 : zss (fun k => zss (fun c => zcB R A c k) (R 189).toNat) 20 = zss (fun c => zss (fun k => zcB R A c k) 20) (R 189).toNat := zss_swap (fun c k => zcB R A c k) 20 _
  rw [e1, e2, zss_delta, if_pos (by decide)]
  unfold zbst
  rw [← zss_add, zss_tail (m := (R 189).toNat) 20 (by omega) (fun i h1 h2 => hs i (by omega)), ← zss_mul]
  refine zss_congr _ fun c hc => ?_
  have e3 := zcB_sum (R := R) (A := A) (c := c) (fun _ => True) (by omega) k2.2
  have e4 : zss (fun k => zcB R A c k) 20 = zss (fun k => if True then zcB R A c k else 0) 20 := zss_congr 20 fun k _ => by rw [if_pos trivial]
  rw [e4, e3, if_pos trivial]
  simp only [and_true]
  unfold zcu
  have e5 : A c * (8 - R 187 - R 188) = A c * 8 - A c * R 187 - A c * R 188 := by rw [Int.mul_sub, Int.mul_sub]
  rw [e5]
  (repeat' split) <;> omega
theorem zlok_tot {R f : Nat → Int} (h : 1 ≤ R 190) : zss (zlok R f) 20 = zss f 20 := by
    unfold zlok
    have e : zss (fun k => if R 190 ≤ (k : Int) then 0 else f k + if k = 0 then zfnd R f else 0) 20 = zss (fun k => (if R 190 ≤ (k : Int) then 0 else f k) + (if k = 0 then zfnd R f else 0)) 20 := zss_congr 20 fun k _ => by
      by_cases q : R 190 ≤ (k : Int)
      · rw [if_pos q, if_pos q, if_neg (by omega)]; rfl
      · rw [if_neg q, if_neg q]
    rw [e, zss_add, zss_delta, if_pos (by decide)]
    unfold zfnd
    rw [← zss_add]
    exact zss_congr 20 fun k _ => by split <;> omega
theorem zdst_tot {R : Nat → Int} (hk : zIk R) (a : Int) : ∀ r : Nat, zss (zdst R a r) 20 = zp8 r := by
  intro r
  induction r with
  | zero => rfl
  | succ r ih =>
    rw [zp8_s, ← ih, ← zgrw_tot hk (zdst_sup hk a r)]
    have e : zdst R a (r + 1) = zrnd R (zdst R a r) (zbit a r) := by funext k; rw [zdst]
    rw [e]
    unfold zrnd
    by_cases h : zbit a r = 1
    · simp only [if_pos h]; exact zlok_tot hk.2.2.2.1.1
    · simp only [if_neg h]
/-- what one crack's chances become in the model -/
def znx (R A : Nat → Int) (lk : Int) (c k : Nat) : Int := if lk = 1 then (if R 190 ≤ (k : Int) then 0 else zcB R A c k + (if k = 0 then zcu R A c + zcf R A c else 0)) else zcB R A c k + (if k = 0 then zcu R A c else 0)
def znc (R A : Nat → Int) (lk : Int) (c : Nat) : Int := zcu R A c * R 193 + (if lk = 1 then A c * 8 * R 191 + zcf R A c * R 192 else 0)
theorem znx_sum {R A : Nat → Int} (hk : zIk R) (hs : ∀ c : Nat, R 189 ≤ (c : Int) → A c = 0) (lk : Int) (k : Nat) : zss (fun c => znx R A lk c k) 20 = zrnd R A lk k := by
  have k2 := hk.2.2.1
  have z1 : ∀ c : Nat, (R 189).toNat ≤ c → c < 20 → znx R A lk c k = 0 := fun c h1 h2 => by
    have h0 := hs c (by omega)
    unfold znx zcB zcu zcf
    rw [h0]
    simp only [Int.zero_mul]
    (repeat' split) <;> first | rfl | omega
  rw [zss_tail 20 (by omega) z1]
  unfold zrnd zlok
  by_cases h : lk = 1
  · simp only [znx, if_pos h]
    by_cases q : R 190 ≤ (k : Int)
    · simp only [if_pos q]; exact zss_zero _
    · simp only [if_neg q]
      rw [zss_add, zfnd_cf hk]
      unfold zgrw
      by_cases q0 : k = 0
      · simp only [if_pos q0]; rw [zss_add]; unfold zbst; omega
      · simp only [if_neg q0]; rw [zss_zero]; omega
  · simp only [znx, if_neg h]
    rw [zss_add]
    unfold zgrw
    by_cases q0 : k = 0
    · simp only [if_pos q0]; rfl
    · simp only [if_neg q0]; rw [zss_zero]
theorem znc_sum {R A : Nat → Int} (hk : zIk R) (hs : ∀ c : Nat, R 189 ≤ (c : Int) → A c = 0) (lk : Int) : zss (znc R A lk) 20 = zrco R A lk (zss A 20 * 8) := by
  have k2 := hk.2.2.1
  have z1 : ∀ c : Nat, (R 189).toNat ≤ c → c < 20 → znc R A lk c = 0 := fun c h1 h2 => by
    have h0 := hs c (by omega)
    unfold znc zcu zcf
    rw [h0]
    simp only [Int.zero_mul]
    (repeat' split) <;> simp
  rw [zss_tail 20 (by omega) z1, zss_tail (f := A) (m := (R 189).toNat) 20 (by omega) (fun i h1 h2 => hs i (by omega))]
  unfold zrco
  by_cases h : lk = 1
  · have e : znc R A lk = fun c => zcu R A c * R 193 + (A c * 8 * R 191 + zcf R A c * R 192) := by funext c; unfold znc; rw [if_pos h]
    rw [if_pos h, e, zss_add, zss_add, zss_mul, zss_mul, zss_mul, zss_mul, zfnd_cf hk]
    rfl
  · have e : znc R A lk = fun c => zcu R A c * R 193 := by funext c; unfold znc; rw [if_neg h, Int.add_zero]
    rw [if_neg h, e, zss_mul]
    rfl
