/-! Small facts that the walks use. -/
theorem z32_id {a : Int} (h1 : -2147483648 ≤ a) (h2 : a < 2147483648) : z32 a = a := by unfold z32; omega
theorem z64_id {a : Int} (h1 : -9223372036854775808 ≤ a) (h2 : a < 9223372036854775808) : z64 a = a := by unfold z64; omega
theorem z32_lo (a : Int) : -2147483648 ≤ z32 a := by unfold z32; omega
theorem z32_hi (a : Int) : z32 a < 2147483648 := by unfold z32; omega
theorem zu_same {α : Type} (M : Nat → Nat → α) (k j : Nat) (v : α) : zu M k j v k j = v := by simp [zu]
theorem zu_at {α : Type} (M : Nat → Nat → α) (k j i : Nat) (v : α) : zu M k j v k i = if i = j then v else M k i := by simp [zu]
theorem zu_off {α : Type} (M : Nat → Nat → α) {k k' : Nat} (j : Nat) (v : α) (h : k' ≠ k) : zu M k j v k' = M k' := zu_ne M j v h
theorem zite10 (p : Prop) [Decidable p] : (z32 (if p then 1 else 0) = 0) ↔ ¬ p := by by_cases h : p <;> simp [h, z32]
theorem zite10' (p : Prop) [Decidable p] : ((if p then (1 : Int) else 0) = 0 ∨ (if p then (1 : Int) else 0) = 1) := by by_cases h : p <;> simp [h]
theorem ztoL_some (v : zV) (st : List zV) : (some v).toList ++ st = v :: st := rfl
theorem ztoL_none (st : List zV) : (none : Option zV).toList ++ st = st := rfl
section ZB
variable {d L : Nat} {bw : Bool} {M : zM} {Q : Option zV → zW → zM → Prop} {a b c e : Int} {w : zW}
theorem C_get : zF d x_Ce_get 0 [zr 9, zi a] [] (zWd L bw) M Q ↔ Q (some (zi (if 0 ≤ z32 a ∧ z32 a < 224 then M 10 (z32 a).toNat else 0))) (zWd L bw) M := by
  simp (disch := omega) only [f_Ce_get_0, f_Ce_get_1, f_Ce_get_4, f_Ce_get_5, f_Ce_get_6, f_Ce_get_9, f_Ce_get_10, f_Ce_get_13, f_Ce_get_14, f_Ce_get_17, f_Ce_get_18, f_Ce_get_19, f_Ce_get_22, f_Ce_get_23, zO, zA, zs_9, zs_10, zr_9_0, z32_id]
  trace_state
  sorry
end ZB
