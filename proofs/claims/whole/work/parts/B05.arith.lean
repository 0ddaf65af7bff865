/-! The small machine's numbers and the machine's own. -/
theorem z32_bmod (a : Int) : Int.bmod a 4294967296 = z32 a := by simp only [Int.bmod, z32]; split <;> omega
theorem z64_bmod (a : Int) : Int.bmod a 18446744073709551616 = z64 a := by simp only [Int.bmod, z64]; split <;> omega
theorem z8_bmod (a : Int) : Int.bmod a 256 = z8 a := by simp only [Int.bmod, z8]; split <;> omega
theorem zI_toInt (a : Int) : (Int32.ofInt a).toInt = z32 a := by rw [Int32.toInt_ofInt]; exact z32_bmod a
theorem zL_toInt (a : Int) : (Int64.ofInt a).toInt = z64 a := by rw [Int64.toInt_ofInt]; exact z64_bmod a
theorem z32_z32 (a : Int) : z32 (z32 a) = z32 a := by unfold z32; omega
theorem z64_z64 (a : Int) : z64 (z64 a) = z64 a := by unfold z64; omega
theorem zI_eq {a b : Int} (h : z32 a = z32 b) : Int32.ofInt a = Int32.ofInt b := Int32.toInt_inj.mp (by rw [zI_toInt, zI_toInt, h])
theorem zL_eq {a b : Int} (h : z64 a = z64 b) : Int64.ofInt a = Int64.ofInt b := Int64.toInt_inj.mp (by rw [zL_toInt, zL_toInt, h])
theorem zI_z32 (a : Int) : Int32.ofInt (z32 a) = Int32.ofInt a := zI_eq (z32_z32 a)
theorem zI_back (x : Int32) : Int32.ofInt x.toInt = x := Int32.toInt_inj.mp (by rw [zI_toInt, ← z32_bmod]; exact Int32.toInt_bmod_size x)
theorem zL_back (x : Int64) : Int64.ofInt x.toInt = x := Int64.toInt_inj.mp (by rw [zL_toInt, ← z64_bmod]; exact Int64.toInt_bmod_size x)
theorem zI_add (a b : Int) : Int32.ofInt a + Int32.ofInt b = Int32.ofInt (a + b) := (Int32.ofInt_add a b).symm
theorem zI_sub (a b : Int) : Int32.ofInt a - Int32.ofInt b = Int32.ofInt (a - b) := (Int32.ofInt_sub a b).symm
theorem zI_mul (a b : Int) : Int32.ofInt a * Int32.ofInt b = Int32.ofInt (a * b) := (Int32.ofInt_mul a b).symm
theorem zI_neg (a : Int) : -Int32.ofInt a = Int32.ofInt (-a) := (Int32.ofInt_neg a).symm
theorem zL_add (a b : Int) : Int64.ofInt a + Int64.ofInt b = Int64.ofInt (a + b) := (Int64.ofInt_add a b).symm
theorem zL_sub (a b : Int) : Int64.ofInt a - Int64.ofInt b = Int64.ofInt (a - b) := (Int64.ofInt_sub a b).symm
theorem zL_mul (a b : Int) : Int64.ofInt a * Int64.ofInt b = Int64.ofInt (a * b) := (Int64.ofInt_mul a b).symm
theorem zL_neg (a : Int) : -Int64.ofInt a = Int64.ofInt (-a) := (Int64.ofInt_neg a).symm
theorem zI_div (a b : Int) : Int32.ofInt a / Int32.ofInt b = Int32.ofInt (zdiv a b) := Int32.toInt_inj.mp (by rw [Int32.toInt_div, zI_toInt, zI_toInt, zI_toInt]; exact z32_bmod _)
theorem zI_rem (a b : Int) : Int32.ofInt a % Int32.ofInt b = Int32.ofInt (zrem a b) := by
  have h : (Int32.ofInt a % Int32.ofInt b).toInt = zrem a b := by rw [Int32.toInt_mod, zI_toInt, zI_toInt]; rfl
  rw [← h, zI_back]
theorem zL_div (a b : Int) : Int64.ofInt a / Int64.ofInt b = Int64.ofInt (zldiv a b) := Int64.toInt_inj.mp (by rw [Int64.toInt_div, zL_toInt, zL_toInt, zL_toInt]; exact z64_bmod _)
theorem zL_rem (a b : Int) : Int64.ofInt a % Int64.ofInt b = Int64.ofInt (zlrem a b) := by
  have h : (Int64.ofInt a % Int64.ofInt b).toInt = zlrem a b := by rw [Int64.toInt_mod, zL_toInt, zL_toInt]; rfl
  rw [← h, zL_back]
theorem zI_i2l (a : Int) : (Int32.ofInt a).toInt64 = Int64.ofInt (z32 a) := Int64.toInt_inj.mp (by
  rw [Int32.toInt_toInt64, zI_toInt, zL_toInt]; unfold z64 z32; omega)
theorem zI_i2b (a : Int) : (Int32.ofInt a).toInt8.toInt32 = Int32.ofInt (z8 a) := Int32.toInt_inj.mp (by
  rw [Int8.toInt_toInt32, Int32.toInt_toInt8, zI_toInt, zI_toInt]
  have h := z8_bmod (z32 a)
  rw [h]
  unfold z8 z32; omega)
theorem zI_bi {n : Int} (h1 : -128 ≤ n) (h2 : n ≤ 127) : (Int8.ofInt n).toInt32 = Int32.ofInt n := Int32.toInt_inj.mp (by
  rw [Int8.toInt_toInt32, Int8.toInt_ofInt, zI_toInt]
  have h := z8_bmod n
  rw [h]
  unfold z8 z32; omega)
theorem zI_si {n : Int} (h1 : -32768 ≤ n) (h2 : n ≤ 32767) : (Int16.ofInt n).toInt32 = Int32.ofInt n := Int32.toInt_inj.mp (by
  rw [Int16.toInt_toInt32, Int16.toInt_ofInt, zI_toInt]
  have h : Int.bmod n 65536 = n := by simp only [Int.bmod]; split <;> omega
  rw [h]
  unfold z32; omega)
theorem zI_zero {b : Int} (h : ¬ z32 b = 0) : ¬ Int32.ofInt b = 0 := fun e => h (by
  have e2 := congrArg Int32.toInt e
  rw [zI_toInt] at e2
  exact e2)
theorem zL_zero {b : Int} (h : ¬ z64 b = 0) : ¬ Int64.ofInt b = 0 := fun e => h (by
  have e2 := congrArg Int64.toInt e
  rw [zL_toInt] at e2
  exact e2)
theorem zI_lt (a b : Int) : Int32.ofInt a < Int32.ofInt b ↔ z32 a < z32 b := by rw [Int32.lt_iff_toInt_lt, zI_toInt, zI_toInt]
theorem zI_le (a b : Int) : Int32.ofInt a ≤ Int32.ofInt b ↔ z32 a ≤ z32 b := by rw [Int32.le_iff_toInt_le, zI_toInt, zI_toInt]
theorem zI_eqi (a b : Int) : Int32.ofInt a = Int32.ofInt b ↔ z32 a = z32 b := ⟨fun h => by have := congrArg Int32.toInt h; rwa [zI_toInt, zI_toInt] at this, zI_eq⟩
theorem zL_lt (a b : Int) : Int64.ofInt a < Int64.ofInt b ↔ z64 a < z64 b := by rw [Int64.lt_iff_toInt_lt, zL_toInt, zL_toInt]
theorem zL_eqi (a b : Int) : Int64.ofInt a = Int64.ofInt b ↔ z64 a = z64 b := ⟨fun h => by have := congrArg Int64.toInt h; rwa [zL_toInt, zL_toInt] at this, zL_eq⟩
theorem zL_cmp (a b : Int) : lg_cmp (Int64.ofInt a) (Int64.ofInt b) = Int32.ofInt (zlcmp a b) := by
  unfold lg_cmp zlcmp
  by_cases h1 : z64 a < z64 b
  · rw [if_pos h1, if_neg (fun h => by have h2 : Int64.ofInt b < Int64.ofInt a := h; rw [zL_lt] at h2; omega), if_neg (fun h => by rw [zL_eqi] at h; omega)]
    rfl
  · rw [if_neg h1]
    by_cases h2 : z64 a = z64 b
    · rw [if_pos h2, if_neg (fun h => by have h3 : Int64.ofInt b < Int64.ofInt a := h; rw [zL_lt] at h3; omega), if_pos ((zL_eqi a b).mpr h2)]
      rfl
    · rw [if_neg h2, if_pos (show Int64.ofInt b < Int64.ofInt a from (zL_lt b a).mpr (by omega))]
      rfl
theorem zI_nat {a : Int} (h1 : 0 ≤ z32 a) : (Int32.ofInt a).toNatClampNeg = (z32 a).toNat := by
  show (Int32.ofInt a).toInt.toNat = _
  rw [zI_toInt]
theorem zI_in {a : Int} {n : Nat} (h1 : 0 ≤ z32 a) (h2 : z32 a < n) : ¬ (Int32.ofInt a < 0 ∨ n ≤ (Int32.ofInt a).toNatClampNeg) := by
  rw [zI_nat h1]
  rintro (h | h)
  · have h3 : (Int32.ofInt a).toInt < (0 : Int32).toInt := Int32.lt_iff_toInt_lt.mp h
    rw [zI_toInt] at h3
    have : (0 : Int32).toInt = 0 := rfl
    omega
  · omega
theorem zI_nonneg {a : Int} (h1 : 0 ≤ z32 a) : ¬ Int32.ofInt a < 0 := fun h => by
  have h3 : (Int32.ofInt a).toInt < (0 : Int32).toInt := Int32.lt_iff_toInt_lt.mp h
  rw [zI_toInt] at h3
  have : (0 : Int32).toInt = 0 := rfl
  omega
theorem zI_len {n : Nat} : n.toInt32 = Int32.ofInt (n : Int) := rfl
