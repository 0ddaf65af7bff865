/-! The start: what the Statement gives is what the small machine's world wants. -/
theorem zgo_inst : ∀ (c : Nat) (r : vw_C), vwCl[c]? = some r → Cond.instantiable r.1 r.2.2 ∈ lw_tbl := by
  intro c r h
  match c, h with
  | 0, h => cases h; decide +kernel
  | 1, h => cases h; decide +kernel
  | 2, h => cases h; decide +kernel
  | 3, h => cases h; decide +kernel
  | 4, h => cases h; decide +kernel
  | 5, h => cases h; decide +kernel
  | 6, h => cases h; decide +kernel
  | 7, h => cases h; decide +kernel
  | 8, h => cases h; decide +kernel
  | 9, h => cases h; decide +kernel
  | 10, h => cases h; decide +kernel
  | 11, h => cases h; decide +kernel
  | n + 12, h => cases h
abbrev zgoS (i : Nat) : Term := Term.string "WheelStore$StackReader" (zsK.getD i 0)
abbrev zgoF : List Cond := flatC (Jvm.Cond.and given_1 narrow_1)
theorem zgo_N : ∀ i, i < 6 → zsN.getD i 0 < 2 ^ 31 := by decide
theorem zgo_ex : ∀ i, i < 6 → Cond.exactly (zgoS i) "java/lang/String" ∈ zgoF := by decide +kernel
theorem zgo_co : ∀ i, i < 6 → Cond.eq (.field (zgoS i) "java/lang/String" "coder" "B") (.int 0) ∈ zgoF := by decide +kernel
theorem zgo_ar : ∀ i, i < 6 → Cond.arrayOf (.field (zgoS i) "java/lang/String" "value" "[B") .byte ∈ zgoF := by decide +kernel
theorem zgo_le : ∀ i, i < 6 → Cond.eq (.length (.field (zgoS i) "java/lang/String" "value" "[B")) (.int (Int32.ofNat (zsN.getD i 0))) ∈ zgoF := by decide +kernel
theorem zgo_el : ∀ i, i < 6 → ∀ j, j < zsN.getD i 0 → Cond.eq (.elem (.field (zgoS i) "java/lang/String" "value" "[B") (.int (Int32.ofNat j))) (.int ((zsB.getD i []).getD j 0)) ∈ zgoF := by decide +kernel
theorem zgo_ne : ∀ i, i < 6 → ∀ j, j < 6 → i ≠ j → Cond.not (Cond.eq (zgoS i) (zgoS j)) ∈ zgoF ∨ Cond.not (Cond.eq (zgoS j) (zgoS i)) ∈ zgoF := by decide +kernel
theorem zgo_sr : ∀ i, i < 6 → Cond.stringRef "WheelStore$StackReader" (zsK.getD i 0) (zstrs.getD i "") ∈ lw_tbl := by decide +kernel
theorem zgo_st : ∀ k, 2 ≤ k → k < 8 → ∀ j, j < zwN k → zsch (k - 2) j = zwC k j := by
  have h : ∀ k, k < 8 → 2 ≤ k → ∀ j, j < zwN k → zsch (k - 2) j = zwC k j := by decide +kernel
  exact fun k h1 h2 => h k h2 h1
def zgoM (xs : Nat → Int32) : zM := fun k j => if k = 1 then (xs j).toInt else zsch (k - 2) j
theorem zgo_K {s : State} {b L : Nat} {xs : Nat → Int32} (hts : ∀ w ∈ lw_tbl, w.before #[Value.ref b] s = true) (hgv : (Jvm.Cond.and given_1 narrow_1).before #[Value.ref b] s = true) (hbl : b < s.heap.size) (hX : va_X b L xs s s.heap) :
    ∃ (D : va_G) (ad : Nat → Nat), zK D ad s.heap.size s.heap s ∧ zHp D ad s.heap.size s.heap s (zYs L 8, zRa0) (zgoM xs) s.heap ∧ zcv ad (zr 1) = .ref b := by
  have hs := flat_of_before _ hgv
  have hA : ∀ a : Nat, a < s.heap.size → ¬ (fun q : Nat => s.heap.size ≤ q) a := fun a h => Nat.not_le.mpr h
  obtain ⟨adK, adV, hS, hE⟩ := vk_Sof (N := 6) (tm := zgoS) (len := zsN) (byt := zsB) (A := fun q : Nat => s.heap.size ≤ q) (args := #[Value.ref b]) (s := s) zgo_N (fun i hi => hs _ (zgo_ex i hi)) (fun i hi => hs _ (zgo_co i hi)) (fun i hi => hs _ (zgo_ar i hi)) (fun i hi => hs _ (zgo_le i hi)) (fun i hi j hj => hs _ (zgo_el i hi j hj)) (fun i j hi hj hij => (zgo_ne i hi j hj hij).imp (hs _) (hs _)) hA
  have hD : ∀ k : Nat, ∃ x : ClassId × (Nat → Nat), ∀ q : vw_C, vwCl[k]? = some q → u_Kn s q.1 q.2.1 q.2.2 x.1 x.2 := by
    intro k
    cases h : vwCl[k]? with
    | none => exact ⟨(0, fun _ => 0), fun q hq => by cases hq⟩
    | some q =>
      obtain ⟨c, iS, hK⟩ := u_known (C := q.1) (T := q.2.1) (N := q.2.2) (n := q.2.2) hts (fun w hw => ((zcl_ok k q h).1 w hw).1) (hts _ (zgo_inst k q h))
      exact ⟨(c, iS), fun q' hq => by cases hq; exact hK⟩
  obtain ⟨DD, hDD⟩ := Classical.axiomOfChoice hD
  have hlt : ∀ i, i < 6 → adK i < s.heap.size := fun i hi => by
    obtain ⟨cell, g1, -⟩ := (hS.1 i hi).1
    exact (Array.getElem?_eq_some_iff.mp g1).1
  generalize had : (fun k : Nat => if k = 1 then b else if k < 8 then adK (k - 2) else s.heap.size + (k - 8)) = ad
  have a1 : ad 1 = b := by rw [← had]; rfl
  have a2 : ∀ i, i < 6 → ad (2 + i) = adK i := fun i hi => by
    rw [← had]
    show (if 2 + i = 1 then b else if 2 + i < 8 then adK (2 + i - 2) else _) = adK i
    rw [if_neg (by omega), if_pos (by omega), show 2 + i - 2 = i by omega]
  have a3 : ∀ k, 8 ≤ k → ad k = s.heap.size + (k - 8) := fun k hk => by
    rw [← had]
    show (if k = 1 then b else if k < 8 then adK (k - 2) else _) = _
    rw [if_neg (by omega), if_neg (by omega)]
  have a4 : ∀ k, k < 8 → ad k < s.heap.size := fun k hk => by
    rw [← had]
    show (if k = 1 then b else if k < 8 then adK (k - 2) else _) < _
    by_cases h : k = 1
    · rw [if_pos h]; exact hbl
    · rw [if_neg h, if_pos hk]; exact hlt _ (by omega)
  have hsh : ∀ k, 8 ≤ k → zsh (zYs L 8, zRa0) k = (9, 0, 0) := fun k hk => zgetS_ge _ _ (by show (zYs L 8).length ≤ k; rw [zYs_len (by decide)]; exact hk)
  refine ⟨(fun k => (DD k).1, fun k => (DD k).2), ad, ⟨⟨fun k q h => hDD k q h, fun k q h => by simp at h⟩, fun w hw => ?_, ⟨?_, ?_⟩, fun i hi => ?_, ⟨adV, ?_⟩, ?_, ?_⟩, ⟨fun k => ?_, a3, ?_, ?_, fun q _ => rfl, fun k hk => ?_, a4, fun i hi => ⟨?_, fun j hj => ?_⟩, fun k hk => ?_⟩, ?_⟩
  · simp only [zNest, List.mem_cons, List.not_mem_nil, or_false] at hw
    rcases hw with rfl | rfl | rfl | rfl <;> exact va_Nw.of rfl (hts _ (by decide +kernel))
  · exact hts (.arrayOver (.array .int)) (by decide +kernel)
  · exact hts (.arrayOver (.array .long)) (by decide +kernel)
  · rw [a2 i hi]
    exact vk_R.of (hts _ (zgo_sr i hi)) (hE i hi)
  · refine ⟨fun i hi => ?_, fun i j hi hj h => ?_⟩
    · show va_O _ (ad (2 + i)) _ _ _ ∧ va_OF _ _ _ _ (ad (2 + i)) _ _ _ ∧ va_OF _ _ _ _ (ad (2 + i)) _ _ _ ∧ _
      rw [a2 i hi]
      exact hS.1 i hi
    · have h : ad (2 + i) = ad (2 + j) := h
      rw [a2 i hi, a2 j hj] at h
      exact hS.2 i j hi hj h
  · exact va_Zof (hts _ (by decide +kernel)) (hts _ (by decide +kernel)) (va_eqi (hs (.eq (.static "java/lang/String" "COMPACT_STRINGS" "Z") (.int 1)) (by decide +kernel))) hA
  · obtain ⟨v, h1, h2⟩ := Cond.isRef_spec (hs (.isRef (.static "jdk/internal/util/Preconditions" "SIOOBE_FORMATTER" "Ljava/util/function/BiFunction;")) (by decide +kernel))
    exact ⟨v, h2, va_Zof (hts _ (by decide +kernel)) (hts _ (by decide +kernel)) h1 hA⟩
  · rcases Nat.lt_or_ge k 8 with hk | hk
    · refine ⟨fun h => ?_, fun h => ?_⟩
      · match k, hk with
        | 0, _ => cases h
        | 1, _ => cases h
        | 2, _ => cases h
        | 3, _ => cases h
        | 4, _ => cases h
        | 5, _ => cases h
        | 6, _ => cases h
        | 7, _ => cases h
        | n + 8, h => omega
      · have : k = 1 := by
          match k, hk with
          | 0, _ => cases h
          | 1, _ => rfl
          | 2, _ => cases h
          | 3, _ => cases h
          | 4, _ => cases h
          | 5, _ => cases h
          | 6, _ => cases h
          | 7, _ => cases h
          | n + 8, h => omega
        subst this
        obtain ⟨scr, h1, h2, h3, h4, h5⟩ := hX
        refine ⟨scr, by rw [a1]; exact h1, h2, h3, h4, fun j hj => ?_⟩
        rw [h5 j hj]
        show some (Value.int (xs j)) = some (Value.int (Int32.ofInt (xs j).toInt))
        rw [zI_back]
    · refine ⟨fun h => ?_, fun h => ?_⟩ <;> (rw [hsh k hk] at h; cases h)
  · show s.heap.size = s.heap.size + ((zYs L 8).length - 8)
    rw [zYs_len (by decide)]
    rfl
  · show 8 ≤ (zYs L 8).length
    rw [zYs_len (by decide)]
    exact Nat.le_refl 8
  · match k, hk with
    | 0, _ => exact (by decide : (9 : Nat) ≠ 0)
    | 1, _ => exact (by decide : (1 : Nat) ≠ 0)
    | 2, _ => exact (by decide : (2 : Nat) ≠ 0)
    | 3, _ => exact (by decide : (2 : Nat) ≠ 0)
    | 4, _ => exact (by decide : (2 : Nat) ≠ 0)
    | 5, _ => exact (by decide : (2 : Nat) ≠ 0)
    | 6, _ => exact (by decide : (2 : Nat) ≠ 0)
    | 7, _ => exact (by decide : (2 : Nat) ≠ 0)
    | n + 8, h => omega
  · match i, hi with
    | 0, _ => rfl
    | 1, _ => rfl
    | 2, _ => rfl
    | 3, _ => rfl
    | 4, _ => rfl
    | 5, _ => rfl
    | n + 6, h => omega
  · show (if 2 + i = 1 then _ else zsch (2 + i - 2) j) = zsch i j
    rw [if_neg (by omega), show 2 + i - 2 = i by omega]
  · rcases Nat.lt_or_ge k 8 with h8 | h8
    · match k, h8 with
      | 0, _ => cases hk
      | 1, _ => cases hk
      | n + 2, h => omega
    · rw [hsh k h8] at hk; cases hk
  · show Value.ref (ad 1) = .ref b
    rw [a1]
