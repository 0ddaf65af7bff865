/-! All instructions of the memory at once; the prims. -/
section ZMemOk
variable {p : Program} {l : Launch} {e : Env} {R : Room} {s : State} {m : MethodId} {args : Array Value} {below : List Frame} {meth : Method} {c : Code} {H : Heap} {locs : List Loc} {cells slots : Nat} {Q : State → Prop} {cc : ByteArray} {ad : Nat → Nat} {D : va_G} {base : Nat} {Hb : Heap} {own : String} {ini : Bool} {w : zW} {M : zM} {pc : Nat} {lsC : Array Slot} {rest : List zV} {k : Nat}
theorem zokTy_cases {ty : Int} {t : FieldType} (h : zokTy ty t = true) : (ty = 0 ∧ t = .int) ∨ (ty = 3 ∧ t = .long) ∨ (ty = 4 ∧ zrefT t = true) := by
  unfold zokTy at h
  simp only [Bool.or_eq_true, Bool.and_eq_true, decide_eq_true_eq] at h
  exact h
theorem zs_mem_ok (hx : p.tables.exec = Jvm.exec) (hb : c.code = cc) (hts : ∀ wd ∈ zTb, wd.before args s = true) (hown : s.vm.findClass own = some m.cls) (hini : ini = true → meth.name = "<init>") (hK : zK D ad base Hb s) (hP : zHp D ad base Hb s w M H) (hloc : ∀ q ∈ locs, base ≤ q.base) {ins : Instr} {aux : List Int} {st st' : List zV} {w' : zW} {M' : zM} (hd : decode cc pc = .ok (ins, zlen ins)) (hok : zokM own ini ins aux = true) (h : zsMem ins aux st w M = some (st', w', M'))
    (hcells : cells + (w'.1.length - w.1.length) ≤ R.cells) (hslots : slots + (zslots w'.1 - zslots w.1) ≤ R.slots)
    (kk : ∀ (H' : Heap) (locs' : List Loc), zHp D ad base Hb s w' M' H' → (∀ q ∈ locs', base ≤ q.base) → W p l e R s m args below meth c H' locs' (cells + (w'.1.length - w.1.length)) (slots + (zslots w'.1 - zslots w.1)) Q (F0 m (pc + zlen ins) lsC (st'.map (zcv ad)))) : W p l e R s m args below meth c H locs cells slots Q (F0 m pc lsC (st.map (zcv ad))) := by
  have same : ∀ {w1 : zW} {X : Heap} {lo : List Loc} {g : JFrame}, w1.1 = w.1 → W p l e R s m args below meth c X lo (cells + (w1.1.length - w.1.length)) (slots + (zslots w1.1 - zslots w.1)) Q g → W p l e R s m args below meth c X lo cells slots Q g := by
    intro w1 X lo g he hw
    rw [he, Nat.sub_self, Nat.sub_self] at hw
    exact hw
  unfold zsMem at h
  split at h
  · split at h
    · split at h
      · rename_i hA
        cases h
        exact zm_ald hx hb hP (zAb_iff.mp hA) hd (.inl ⟨rfl, rfl, rfl⟩) (same rfl (kk H locs hP hloc))
      · cases h
    · cases h
  · split at h
    · split at h
      · rename_i hA
        cases h
        exact zm_ald hx hb hP (zAb_iff.mp hA) hd (.inr (.inl ⟨rfl, rfl, rfl⟩)) (same rfl (kk H locs hP hloc))
      · cases h
    · cases h
  · split at h
    · split at h
      · rename_i hA
        cases h
        rw [Bool.or_eq_true, zAb_iff, zAb_iff] at hA
        rcases hA with hA | hA
        · exact zm_ald hx hb hP hA hd (.inr (.inr ⟨rfl, .inl rfl, rfl⟩)) (same rfl (kk H locs hP hloc))
        · exact zm_ald hx hb hP hA hd (.inr (.inr ⟨rfl, .inr rfl, rfl⟩)) (same rfl (kk H locs hP hloc))
      · cases h
    · cases h
  · split at h
    · split at h
      · rename_i hA
        cases h
        obtain ⟨hA, h0⟩ := hA
        rw [Bool.or_eq_true, zAb_iff, zAb_iff] at hA
        rcases hA with hA | hA
        · exact zm_aald hx hb hP hA (.inl rfl) h0 hd (same rfl (kk H locs hP hloc))
        · exact zm_aald hx hb hP hA (.inr rfl) h0 hd (same rfl (kk H locs hP hloc))
      · cases h
    · cases h
  · split at h
    · split at h
      · rename_i hA
        cases h
        exact zm_ast hx hb hP hloc (zAsb_iff.mp hA) hd (.inl ⟨rfl, rfl, rfl, rfl⟩) fun H' l' a b => same rfl (kk H' l' a b)
      · cases h
    · cases h
  · split at h
    · split at h
      · rename_i hA
        cases h
        exact zm_ast hx hb hP hloc (zAsb_iff.mp hA) hd (.inr (.inl ⟨rfl, rfl, rfl, rfl⟩)) fun H' l' a b => same rfl (kk H' l' a b)
      · cases h
    · cases h
  · split at h
    · split at h
      · rename_i hA
        cases h
        exact zm_ast hx hb hP hloc (zAsb_iff.mp hA) hd (.inr (.inr (.inl ⟨rfl, rfl, rfl, rfl⟩))) fun H' l' a b => same rfl (kk H' l' a b)
      · split at h
        · rename_i hA
          cases h
          exact zm_ast hx hb hP hloc (zAsb_iff.mp hA.1) hd (.inr (.inr (.inr ⟨rfl, rfl, rfl, rfl, hA.2⟩))) fun H' l' a b => same rfl (kk H' l' a b)
        · cases h
    · cases h
  · split at h
    · split at h
      · rename_i hA
        cases h
        exact zm_alen hx hb hP hA hd (same rfl (kk H locs hP hloc))
      · cases h
    · cases h
  · split at h
    · rename_i idx _ _ q cI jI ty k t
      split at h
      · rename_i hO
        have hO := zOb_iff.mp hO
        unfold zokM at hok
        simp only at hok
        cases hr : vwCl[cI.toNat]? with
        | none => rw [hr] at hok; cases hok
        | some r =>
          rw [hr] at hok
          simp only [Bool.and_eq_true, decide_eq_true_eq] at hok
          have hty := zokTy_cases hok.2
          split at h
          · rename_i h0
            cases h
            refine zm_get hx hb hts hown hK hP hr hok.1 hO hd ?_ (same rfl (kk H locs hP hloc))
            rcases hty with ⟨-, ht⟩ | ⟨h1, -⟩ | ⟨h1, -⟩
            · rw [ht]; rfl
            · omega
            · omega
          · split at h
            · rename_i h0
              cases h
              refine zm_get hx hb hts hown hK hP hr hok.1 hO hd ?_ (same rfl (kk H locs hP hloc))
              rcases hty with ⟨h1, -⟩ | ⟨-, ht⟩ | ⟨h1, -⟩
              · omega
              · rw [ht]; rfl
              · omega
            · split at h
              · cases h
              · rename_i h0 h3 hn
                cases h
                refine zm_get hx hb hts hown hK hP hr hok.1 hO hd ?_ (same rfl (kk H locs hP hloc))
                rcases hty with ⟨h1, -⟩ | ⟨h1, -⟩ | ⟨-, ht⟩
                · omega
                · omega
                · rw [zVal_ref ht, if_neg hn]; rfl
      · cases h
    · cases h
  · rename_i idx
    have hput : ∀ {q cI jI ty : Int} {k : Nat} {t : List zV} {v : zV}, aux = [q, cI, jI, ty] → st = v :: zr k :: t → zO w k cI.toNat jI.toNat → (∃ x, zty cI.toNat jI.toNat = .int ∧ v = zi x ∧ w' = w ∧ M' = zu M k jI.toNat x ∧ ty = 0) ∨ (∃ x, v = zl x ∧ w' = w ∧ M' = zu M k jI.toNat x ∧ ty = 3) ∨ (∃ x, v = zr x ∧ 0 < x ∧ M' = M ∧ w' = (w.1, zu w.2 k jI.toNat x) ∧ ty = 4) ∨ (∃ x, v = zi x ∧ w' = w ∧ M' = zu M k jI.toNat x ∧ ty = 0) → t = st' → W p l e R s m args below meth c H locs cells slots Q (F0 m pc lsC (st.map (zcv ad))) := by
      intro q cI jI ty k t v haux hst hO hv ht
      subst haux; subst hst; subst ht
      unfold zokM at hok
      simp only at hok
      cases hr : vwCl[cI.toNat]? with
      | none => rw [hr] at hok; cases hok
      | some r =>
        rw [hr] at hok
        simp only [Bool.and_eq_true, Bool.or_eq_true, decide_eq_true_eq] at hok
        obtain ⟨ok1, ok2, ok3⟩ := hok
        have hty := zokTy_cases ok2
        rcases hv with ⟨x, e0, rfl, rfl, rfl, e1⟩ | ⟨x, rfl, rfl, rfl, e1⟩ | ⟨x, rfl, hx0, rfl, rfl, e1⟩ | ⟨x, rfl, rfl, rfl, e1⟩
        · refine zm_put hx hb hts hown hini hK hP hloc hr ok1 ok3 hO hd ?_ ?_ (.inl ⟨rfl, x, rfl, ?_⟩) fun H' l' a b => same rfl (kk H' l' a b)
          all_goals rw [e0]
          all_goals rfl
        · have ht : zty cI.toNat jI.toNat = .long := by
            rcases hty with ⟨h1, -⟩ | ⟨-, ht⟩ | ⟨h1, -⟩
            · omega
            · exact ht
            · omega
          refine zm_put hx hb hts hown hini hK hP hloc hr ok1 ok3 hO hd ?_ ?_ (.inl ⟨rfl, x, rfl, ?_⟩) fun H' l' a b => same rfl (kk H' l' a b)
          all_goals rw [ht]
          all_goals rfl
        · have ht : zrefT (zty cI.toNat jI.toNat) = true := by
            rcases hty with ⟨h1, -⟩ | ⟨h1, -⟩ | ⟨-, ht⟩
            · omega
            · omega
            · exact ht
          refine zm_put hx hb hts hown hini hK hP hloc hr ok1 ok3 hO hd ?_ ?_ (.inr ⟨rfl, x, rfl, ?_⟩) fun H' l' a b => same rfl (kk H' l' a b)
          · revert ht; generalize zty cI.toNat jI.toNat = T; intro ht; cases T <;> first | rfl | cases ht
          · revert ht; generalize zty cI.toNat jI.toNat = T; intro ht; cases T <;> first | rfl | cases ht
          · rw [zVal_ref ht, if_neg (by omega)]; rfl
        · have ht : zty cI.toNat jI.toNat = .int := by
            rcases hty with ⟨-, ht⟩ | ⟨h1, -⟩ | ⟨h1, -⟩
            · exact ht
            · omega
            · omega
          refine zm_put hx hb hts hown hini hK hP hloc hr ok1 ok3 hO hd ?_ ?_ (.inl ⟨rfl, x, rfl, ?_⟩) fun H' l' a b => same rfl (kk H' l' a b)
          all_goals rw [ht]
          all_goals rfl
    split at h
    · split at h
      · rename_i hO
        cases h
        exact hput rfl rfl (zOb_iff.mp hO.1) (.inr (.inr (.inr ⟨_, rfl, rfl, rfl, hO.2⟩))) rfl
      · cases h
    · split at h
      · rename_i hO
        cases h
        exact hput rfl rfl (zOb_iff.mp hO.1) (.inr (.inl ⟨_, rfl, rfl, rfl, hO.2⟩)) rfl
      · cases h
    · split at h
      · rename_i hO
        cases h
        exact hput rfl rfl (zOb_iff.mp hO.1) (.inr (.inr (.inl ⟨_, rfl, hO.2.2, rfl, rfl, hO.2.1⟩))) rfl
      · cases h
    · cases h
  · split at h
    · rename_i idx _ q1 q2 q3 cI n
      cases h
      unfold zokM at hok
      simp only at hok
      cases hr : vwCl[cI.toNat]? with
      | none => rw [hr] at hok; cases hok
      | some r =>
        rw [hr] at hok
        simp only [Bool.and_eq_true, decide_eq_true_eq] at hok
        obtain ⟨o1, o2, o3, o4⟩ := hok
        rw [o4] at hcells hslots kk
        have e1 : (w.1 ++ [(0, cI.toNat, r.2.2)]).length - w.1.length = 1 := by simp
        have e2 : zslots (w.1 ++ [(0, cI.toNat, r.2.2)]) - zslots w.1 = r.2.2 := by rw [zslots_app]; simp [zslots]
        simp only [e1, e2] at hcells hslots kk
        exact zm_new hx hb hts hown hK hP hr o1 o2 o3 hd hcells hslots fun H' hH => kk H' locs hH hloc
    · cases h
  · split at h
    · split at h
      · rename_i n r hn
        cases h
        unfold zokM at hok
        simp only at hok
        split at hok
        · rename_i q
          simp only [Bool.and_eq_true, decide_eq_true_eq] at hok
          have e1 : ∀ u : Nat, (w.1 ++ [(1, u, (z32 n).toNat)]).length - w.1.length = 1 := fun u => by simp
          have e2 : ∀ u : Nat, zslots (w.1 ++ [(1, u, (z32 n).toNat)]) - zslots w.1 = (z32 n).toNat := fun u => by rw [zslots_app]; simp [zslots]
          simp only [e1, e2] at hcells hslots kk
          exact zm_newa hx hb hts hP hok.1 hok.2 hn hd hcells hslots fun H' hH => kk H' locs hH hloc
        · cases hok
      · cases h
    · cases h
  · split at h
    · split at h
      · rename_i idx dm _ _ q t b a r hn
        cases h
        unfold zokM at hok
        simp only [Bool.and_eq_true, Bool.or_eq_true, decide_eq_true_eq] at hok
        obtain ⟨rfl, hok⟩ := hok
        have hsum : ∀ (N : Nat) (x : zSh), zslots (List.replicate N x) = N * x.2.2 := by
          intro N x
          induction N with
          | zero => simp [zslots]
          | succ N ih =>
            show x.2.2 + zslots (List.replicate N x) = _
            rw [ih, Nat.succ_mul]; omega
        have e1 : ∀ y z : zSh, (w.1 ++ y :: List.replicate (z32 a).toNat z).length - w.1.length = 1 + (z32 a).toNat := fun y z => by simp; omega
        have e2 : ∀ y z : zSh, zslots (w.1 ++ y :: List.replicate (z32 a).toNat z) - zslots w.1 = y.2.2 + (z32 a).toNat * z.2.2 := fun y z => by
          rw [zslots_app]
          show zslots w.1 + (y.2.2 + zslots (List.replicate (z32 a).toNat z)) - zslots w.1 = _
          rw [hsum]; omega
        simp only [e1, e2] at hcells hslots kk
        rcases hok with ⟨rfl, hq⟩ | ⟨rfl, hq⟩
        · refine zm_mna hx hb hts hown hK hP (.inl ⟨rfl, rfl, rfl, rfl⟩) hq hn hd (by omega) (by omega) fun H' hH => ?_
          have := kk H' locs hH hloc
          rw [← Nat.add_assoc, ← Nat.add_assoc] at this
          exact this
        · refine zm_mna hx hb hts hown hK hP (.inr ⟨rfl, rfl, rfl, rfl⟩) hq hn hd (by omega) (by omega) fun H' hH => ?_
          have := kk H' locs hH hloc
          rw [← Nat.add_assoc, ← Nat.add_assoc] at this
          exact this
      · cases h
    · cases h
  · split at h
    · rename_i idx _ q v
      cases h
      unfold zokM at hok
      simp only [decide_eq_true_eq] at hok
      exact lv_ldc hx hb hown (hts _ (zq_mem hok)) hd (same rfl (kk H locs hP hloc))
    · rename_i idx _ q k0 u
      cases h
      unfold zokM at hok
      simp only [decide_eq_true_eq] at hok
      obtain ⟨h1, h2, rfl, rfl⟩ := hok
      have h4 := hK.2.2.2.1 (k0.toNat - 2) (by omega)
      rw [show 2 + (k0.toNat - 2) = k0.toNat by omega] at h4
      exact va_ldcS hx hb hown h4 hd (same rfl (kk H locs hP hloc))
    · cases h
  · split at h
    · cases h
      unfold zokM at hok
      simp only [decide_eq_true_eq] at hok
      exact lv_ldcw hx hb hown (hts _ (zq_mem hok)) hd (same rfl (kk H locs hP hloc))
    · cases h
  · split at h
    · cases h
      unfold zokM at hok
      simp only [decide_eq_true_eq] at hok
      exact lv_ldc2 hx hb hown (hts _ (zq_mem hok)) hd (same rfl (kk H locs hP hloc))
    · cases h
  · cases h
end ZMemOk
