/-! Bits counted and mirrored. -/
def zbc1 (a : Int) : Int := a - zand (zushr a 1) 1431655765
def zbc2 (i : Int) : Int := zand i 858993459 + zand (zushr i 2) 858993459
def zbc3 (i : Int) : Int := zand (i + zushr i 4) 252645135
def zbc4 (i : Int) : Int := i + zushr i 8
def zbc5 (i : Int) : Int := i + zushr i 16
def zbc (a : Int) : Int := zand (zbc5 (zbc4 (zbc3 (zbc2 (zbc1 a))))) 63
def zpop : Nat → Nat → Nat
  | 0, _ => 0
  | k + 1, n => n % 2 + zpop k (n / 2)
def zmir : Nat → Nat → Nat
  | 0, _ => 0
  | r + 1, w => (w % 2) * 2 ^ r + zmir r (w / 2)
theorem zbc_pop : ∀ n : Nat, n < 2048 → zbc n = zpop 12 n := by decide +kernel
theorem zbm_pop : ∀ n : Nat, n < 1024 → zfold (fun i c => c + zand (zshr (n : Int) i) 1) 10 0 0 = zpop 12 n := by decide +kernel
theorem zmir_m : ∀ r : Nat, r < 11 → ∀ w : Nat, w < 2 ^ r → zfold (fun i s => zor s (zshl (zand (zshr (w : Int) i) 1) ((r : Int) - 1 - i))) r 0 0 = zmir r w := by decide +kernel
theorem zmir_f : ∀ r : Nat, r < 11 → ∀ w : Nat, w < 2 ^ r → zmir r w < 2 ^ r ∧ zmir r (zmir r w) = w ∧ (w + 1 < 2 ^ r → zpop 12 (w ^^^ (w + 1)) ≤ r ∧ zmir r w % 2 ^ (r - zpop 12 (w ^^^ (w + 1))) = zmir r (w + 1) % 2 ^ (r - zpop 12 (w ^^^ (w + 1)))) := by decide +kernel
theorem zxor_n : ∀ w : Nat, w < 1024 → zxor w ((w : Int) + 1) = ((w ^^^ (w + 1) : Nat) : Int) ∧ (w ^^^ (w + 1)) < 2048 := by decide +kernel
theorem zshl1 : ∀ r : Nat, r < 11 → zshl 1 (r : Int) = ((2 ^ r : Nat) : Int) := by decide +kernel
