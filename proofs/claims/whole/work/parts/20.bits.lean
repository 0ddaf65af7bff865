/-! Masks and shifts as arithmetic. -/
theorem zI_toInt' (a : Int) : (Int32.ofInt a).toInt = z32 a := by
  rw [Int32.toInt_ofInt]
  show Int.bmod a 4294967296 = z32 a
  simp only [Int.bmod, z32]; split <;> omega
theorem zI_bv (a : Int) : (Int32.ofInt a).toBitVec = BitVec.ofInt 32 a := rfl
theorem zI_nat_bv (a : Int) : (BitVec.ofInt 32 a).toNat = (a % 4294967296).toNat := by
  rw [BitVec.toNat_ofInt]; rfl
theorem zand_mask (a : Int) (k : Nat) (hk : k ≤ 30) : zand a ((2 ^ k - 1 : Nat) : Int) = a % (2 ^ k : Nat) := by
  have hp : (2 : Nat) ^ k ≤ 2 ^ 30 := Nat.pow_le_pow_right (by decide) hk
  have hp0 : 0 < (2 : Nat) ^ k := Nat.pow_pos (by decide)
  have hp1 : (2 : Nat) ^ 30 = 1073741824 := by decide
  unfold zand
  have h1 : (Int32.ofInt a &&& Int32.ofInt ((2 ^ k - 1 : Nat) : Int)).toInt = (BitVec.ofInt 32 a &&& BitVec.ofInt 32 ((2 ^ k - 1 : Nat) : Int)).toInt := rfl
  rw [h1]
  have h2 : (BitVec.ofInt 32 ((2 ^ k - 1 : Nat) : Int)).toNat = 2 ^ k - 1 := by
    rw [zI_nat_bv]; omega
  have h3 : (BitVec.ofInt 32 a &&& BitVec.ofInt 32 ((2 ^ k - 1 : Nat) : Int)).toNat = (a % 4294967296).toNat % 2 ^ k := by
    rw [BitVec.toNat_and, h2, zI_nat_bv, Nat.and_two_pow_sub_one_eq_mod]
  have h4 : (a % 4294967296).toNat % 2 ^ k < 2 ^ k := Nat.mod_lt _ hp0
  rw [BitVec.toInt_eq_toNat_of_lt (by rw [h3]; omega), h3]
  have h5 : (((a % 4294967296).toNat % 2 ^ k : Nat) : Int) = (a % 4294967296) % ((2 ^ k : Nat) : Int) := by
    rw [Int.natCast_emod, Int.toNat_of_nonneg (by omega)]
  rw [h5]
  have hd : ((2 ^ k : Nat) : Int) ∣ 4294967296 := by
    have : (2 : Nat) ^ k ∣ 2 ^ 32 := Nat.pow_dvd_pow 2 (by omega)
    have h6 : (2 : Nat) ^ 32 = 4294967296 := by decide
    rw [h6] at this
    exact Int.natCast_dvd_natCast.mpr this
  exact Int.emod_emod_of_dvd a hd
theorem zand255 (a : Int) : zand a 255 = a % 256 := zand_mask a 8 (by decide)
theorem zand63 (a : Int) : zand a 63 = a % 64 := zand_mask a 6 (by decide)
theorem zand3 (a : Int) : zand a 3 = a % 4 := zand_mask a 2 (by decide)
theorem zand1 (a : Int) : zand a 1 = a % 2 := zand_mask a 1 (by decide)
theorem zshr_lit (a : Int) (k : Nat) (hk : k < 32) : zshr a (k : Int) = z32 a / (2 ^ k : Nat) := by
  unfold zshr
  have h0 : (Int32.ofInt (k : Int) &&& 31) = Int32.ofInt (k : Int) := by
    have := zand_mask (k : Int) 5 (by decide)
    unfold zand at this
    apply Int32.toInt_inj.mp
    have h31 : Int32.ofInt ((2 ^ 5 - 1 : Nat) : Int) = 31 := rfl
    rw [h31] at this
    rw [this]
    have h9 : (Int32.ofInt (k : Int)).toInt = (k : Int) := Int32.toInt_ofInt_of_le (by omega) (by omega)
    rw [h9]
    omega
  rw [h0]
  have h1 : (Int32.ofInt a >>> Int32.ofInt (k : Int)).toInt = ((Int32.ofInt a).toBitVec.sshiftRight' ((Int32.ofInt (k:Int)).toBitVec.smod 32)).toInt := rfl
  have h2 : ∀ k : Nat, k < 32 → ((Int32.ofInt (k : Int)).toBitVec.smod 32) = BitVec.ofNat 32 k := by decide
  have h3 : ((Int32.ofInt a).toBitVec).toInt = z32 a := zI_toInt' a
  rw [h1, h2 k hk, BitVec.sshiftRight_eq', BitVec.toInt_sshiftRight, h3, BitVec.toNat_ofNat, Nat.mod_eq_of_lt (by omega), Int.shiftRight_eq_div_pow]
theorem zushr_lit (a : Int) (k : Nat) (hk : 0 < k) (hk2 : k < 32) : zushr a (k : Int) = (a % 4294967296) / (2 ^ k : Nat) := by
  unfold zushr
  have h0 : ∀ k : Nat, k < 32 → (Int32.ofInt (k : Int)).toUInt32 &&& Int32.toUInt32 31 = UInt32.ofNat k := by decide
  rw [h0 k hk2]
  have h1 : ((Int32.ofInt a).toUInt32 >>> UInt32.ofNat k).toNat = (a % 4294967296).toNat / 2 ^ k := by
    rw [UInt32.toNat_shiftRight]
    have h2 : (UInt32.ofNat k).toNat % 32 = k := by
      rw [UInt32.toNat_ofNat']; omega
    rw [h2, Nat.shiftRight_eq_div_pow]
    have h3 : (Int32.ofInt a).toUInt32.toNat = (a % 4294967296).toNat := zI_nat_bv a
    rw [h3]
  have hp : 2 ≤ (2 : Nat) ^ k := by
    have := Nat.pow_le_pow_right (n := 2) (by decide) hk
    omega
  have hle : (a % 4294967296).toNat / 2 ^ k ≤ (a % 4294967296).toNat / 2 := Nat.div_le_div_left hp (by decide)
  have hlt : ((Int32.ofInt a).toUInt32 >>> UInt32.ofNat k).toBitVec.toNat = (a % 4294967296).toNat / 2 ^ k := h1
  have h4 : ((Int32.ofInt a).toUInt32 >>> UInt32.ofNat k).toInt32.toInt = ((Int32.ofInt a).toUInt32 >>> UInt32.ofNat k).toBitVec.toInt := rfl
  rw [h4, BitVec.toInt_eq_toNat_of_lt (by rw [hlt]; omega), hlt, Int.natCast_ediv, Int.toNat_of_nonneg (by omega)]
theorem zushr0 (a : Int) : zushr a 0 = z32 a := by
  unfold zushr
  have h0 : (Int32.ofInt (0 : Int)).toUInt32 &&& Int32.toUInt32 31 = 0 := by decide
  rw [h0, UInt32.shiftRight_zero]
  exact zI_toInt' a
