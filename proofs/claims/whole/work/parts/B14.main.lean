/-! The prims, and the theorem. -/
section ZPrim
variable {p : Program} {l : Launch} {e : Env} {R : Room} {s : State} {m : MethodId} {args : Array Value} {below : List Frame} {meth : Method} {c : Code} {H : Heap} {locs : List Loc} {cells slots : Nat} {Q : State → Prop} {cc : ByteArray} {ad : Nat → Nat} {D : va_G} {base : Nat} {Hb : Heap} {own : String} {w : zW} {M : zM} {pc nL : Nat} {lsC : Array Slot} {rest : List zV} {k : Nat}
theorem zm_slen (hx : p.tables.exec = Jvm.exec) (hb : c.code = cc) (hml : c.maxLocals = nL) (hts : ∀ wd ∈ zTb, wd.before args s = true) (hown : s.vm.findClass own = some m.cls) (hK : zK D ad base Hb s) (hP : zHp D ad base Hb s w M H) {idx : Nat} {q : Int} (hq : zq q = some (.methodLink own idx ⟨"java/lang/String", "length", "()I"⟩)) (hk : (zsh w k).1 = 2) (hw : zwd rest ≤ 8) (hd : decode cc pc = .ok (.invokevirtual idx, 3)) (hsz : lsC.size = nL) (hf : 20 ≤ R.frames) (hl : 2000 ≤ R.locals)
    (hcs : cells ≤ R.cells) (hss : slots ≤ R.slots) (hloc : ∀ q ∈ locs, base ≤ q.base) (kk : ∀ (H' : Heap) (l' : List Loc), zHp D ad base Hb s w M H' → (∀ q ∈ l', base ≤ q.base) → W p l e R s m args below meth c H' l' cells slots Q (F0 m (pc + 3) lsC ((zi (zsh w k).2.2 :: rest).map (zcv ad)))) : W p l e R s m args below meth c H locs cells slots Q (F0 m pc lsC ((zr k :: rest).map (zcv ad))) := by
  obtain ⟨g1, g2⟩ := hP.2.2.2.2.2.2.2.2 k hk
  obtain ⟨i, hi, rfl⟩ : ∃ i, i < 6 ∧ k = 2 + i := ⟨k - 2, by omega, by omega⟩
  obtain ⟨g3, g4⟩ := hP.2.2.2.2.2.2.2.1 i hi
  have hwd := zcat_sum ad rest
  rw [g3] at kk
  exact zcallTV (r := zjLen) (d := 1) (As := []) (rest := rest.map (zcv ad)) hi (cj_Len hi) rfl (zjw 0 rfl) (by decide) hx hb hml hown hts hK hP (hts _ (zq_mem hq)) (zjw 26 rfl) (zjw 27 rfl) (by decide +kernel) hd hsz (by omega) (by omega) hcs hss (by rw [hwd]; exact hw) hloc kk
theorem zm_sat (hx : p.tables.exec = Jvm.exec) (hb : c.code = cc) (hml : c.maxLocals = nL) (hts : ∀ wd ∈ zTb, wd.before args s = true) (hown : s.vm.findClass own = some m.cls) (hK : zK D ad base Hb s) (hP : zHp D ad base Hb s w M H) {idx : Nat} {q : Int} (hq : zq q = some (.methodLink own idx ⟨"java/lang/String", "charAt", "(I)C"⟩)) {a : Int} (hk : (zsh w k).1 = 2) (h1 : 0 ≤ z32 a) (h2 : z32 a < (zsh w k).2.2) (hw : zwd rest ≤ 8) (hd : decode cc pc = .ok (.invokevirtual idx, 3)) (hsz : lsC.size = nL) (hf : 20 ≤ R.frames) (hl : 2000 ≤ R.locals)
    (hcs : cells ≤ R.cells) (hss : slots ≤ R.slots) (hloc : ∀ q ∈ locs, base ≤ q.base) (kk : ∀ (H' : Heap) (l' : List Loc), zHp D ad base Hb s w M H' → (∀ q ∈ l', base ≤ q.base) → W p l e R s m args below meth c H' l' cells slots Q (F0 m (pc + 3) lsC ((zi (M k (z32 a).toNat) :: rest).map (zcv ad)))) : W p l e R s m args below meth c H locs cells slots Q (F0 m pc lsC ((zi a :: zr k :: rest).map (zcv ad))) := by
  obtain ⟨g1, g2⟩ := hP.2.2.2.2.2.2.2.2 k hk
  obtain ⟨i, hi, rfl⟩ : ∃ i, i < 6 ∧ k = 2 + i := ⟨k - 2, by omega, by omega⟩
  obtain ⟨g3, g4⟩ := hP.2.2.2.2.2.2.2.1 i hi
  have hwd := zcat_sum ad rest
  rw [g3] at h2
  have h2 : z32 a < ((zsN.getD i 0 : Nat) : Int) := h2
  have hn : (Int32.ofInt a).toNatClampNeg < zsN.getD i 0 := by rw [zI_nat h1]; omega
  have hN : ∀ i, i < 6 → ((zsN.getD i 0 : Nat) : Int) ≤ 5 := by decide
  have hlt : Int32.ofInt a < Int32.ofNat (zsN.getD i 0) := by
    have := hN i hi
    rw [show Int32.ofNat (zsN.getD i 0) = Int32.ofInt ((zsN.getD i 0 : Nat) : Int) from rfl, zI_lt]
    have e : z32 ((zsN.getD i 0 : Nat) : Int) = ((zsN.getD i 0 : Nat) : Int) := by unfold z32; omega
    rw [e]; exact h2
  refine zcallTV (r := zjCh) (d := 3) (As := [.int (Int32.ofInt a)]) (rest := rest.map (zcv ad)) hi (cj_Ch hi (zI_nonneg h1) hlt hn) rfl (zjw 2 rfl) (by decide) hx hb hml hown hts hK hP (hts _ (zq_mem hq)) (zjw 28 rfl) (zjw 29 rfl) (show zpar zjCh.1 = some 1 by decide +kernel) hd hsz (by omega) (by omega) hcs hss (by rw [hwd]; exact hw) hloc fun H' l' hP' hl' => ?_
  have := kk H' l' hP' hl'
  rw [g4 _ (by omega)] at this
  rw [zI_nat h1]
  have e9 : Int32.ofInt (zsch i (z32 a).toNat) = (zsB.getD i []).getD (z32 a).toNat 0 := by unfold zsch; exact zI_back _
  show W p l e R s m args below meth c H' l' cells slots Q (F0 m (pc + 3) lsC (Value.int ((zsB.getD i []).getD (z32 a).toNat 0) :: rest.map (zcv ad)))
  rw [← e9]
  exact this
end ZPrim
theorem zsSw {ins : Instr} (h : zisSw ins = true) : ∃ a b x y, ins = .tableswitch a b x y := by
  unfold zisSw at h
  split at h
  · exact ⟨_, _, _, _, rfl⟩
  · cases h
theorem zsound {l : Launch} {D : va_G} {ad : Nat → Nat} {base : Nat} {Hb : Heap} {T : Nat → zX} {N : Nat} (hT : zTok T N) (hTrow : ∀ x, x ≤ N → ∀ e ∈ (T x).2.2.2.2.2, zokE T N (T x) e = true) : ∀ n, zSound l D ad base Hb T N n := by
  intro n
  induction n with
  | zero => intro d x pc ls st w M v w' M' hx h; simp [zrun] at h
  | succ n ih =>
  intro d x pc ls st w M v w' M' hxN h hls p e R s m args below meth c H locs cells slots lsC Q hC hf hl hcells hslots hP hloc hL kk
  obtain ⟨hx, hb, hml, hown, hts, hK, hini⟩ := hC
  have hC : zCtx D ad base Hb (T x) p s m args meth c := ⟨hx, hb, hml, hown, hts, hK, hini⟩
  rw [zrun] at h
  cases hfd : zfind (zcode T x) pc with
  | none => rw [hfd] at h; cases h
  | some en =>
  obtain ⟨ins, len, aux⟩ := en
  rw [hfd] at h
  simp only at h
  have hrow := hTrow x hxN _ (zfind_mem _ _ _ hfd)
  unfold zokE at hrow
  simp only [Bool.and_eq_true, Bool.or_eq_true, decide_eq_true_eq] at hrow
  obtain ⟨hd, hlen, hrng, hoM, hoC, hoR⟩ := hrow
  have hln : zisSw ins = false → len = zlen ins := fun hs => by
    rcases hlen with h | h
    · exact h
    · rw [hs] at h; cases h
  have hsw : ∀ {P : Prop}, (∀ a b x y, ins = .tableswitch a b x y → P) → zisSw ins = true → P := fun f h => by
    obtain ⟨a, b, x, y, h2⟩ := zsSw h
    exact f a b x y h2
  have hnsw : (∀ a b x y, ins ≠ .tableswitch a b x y) → zisSw ins = false := fun h => by
    cases hz : zisSw ins with
    | false => rfl
    | true => obtain ⟨a, b, x, y, h2⟩ := zsSw hz; exact absurd h2 (h a b x y)
  have hini' : decide ((T x).1.name = "<init>") = true → meth.name = "<init>" := fun h => hini (of_decide_eq_true h)
  cases h1 : zsStk ins st with
  | some st' =>
    rw [h1] at h
    have hl2 := hln (hnsw fun a b x y e => by subst e; cases h1)
    subst hl2
    exact zs_stk_ok hx hb hd hrng h1 (ih d x _ ls st' w M v w' M' hxN h hls p e R s m args below meth c H locs cells slots lsC Q hC hf hl hcells hslots hP hloc hL kk)
  | none =>
  rw [h1] at h
  simp only at h
  cases h2 : zsLoc ins ls st with
  | some en =>
    obtain ⟨ls', st'⟩ := en
    rw [h2] at h
    have hl2 := hln (hnsw fun a b x y e => by subst e; cases h2)
    subst hl2
    exact zs_loc_ok hx hb hd h2 hL fun lsC' hL' => ih d x _ ls' st' w M v w' M' hxN h ((zsLoc_len h2).trans hls) p e R s m args below meth c H locs cells slots lsC' Q hC hf hl hcells hslots hP hloc hL' kk
  | none =>
  rw [h2] at h
  simp only at h
  cases h3 : zsBr ins pc st with
  | some en =>
    obtain ⟨pc', st'⟩ := en
    rw [h3] at h
    refine zs_br_ok hx hb hd ?_ hrng h3 (ih d x _ ls st' w M v w' M' hxN h hls p e R s m args below meth c H locs cells slots lsC Q hC hf hl hcells hslots hP hloc hL kk)
    rcases hlen with h | h
    · exact Or.inl h
    · exact Or.inr (zsSw h)
  | none =>
  rw [h3] at h
  simp only at h
  cases h4 : zsMem ins aux st w M with
  | some en =>
    obtain ⟨st', w1, M1⟩ := en
    rw [h4] at h
    have hl2 := hln (hnsw fun a b x y e => by subst e; cases h4)
    subst hl2
    obtain ⟨y1, hy1⟩ := zsMem_pre h4
    obtain ⟨y2, hy2⟩ := zrun_pre T _ _ _ _ _ _ _ _ _ _ _ h
    have el1 : w1.1.length = w.1.length + y1.length := by rw [hy1, List.length_append]
    have el2 : w'.1.length = w1.1.length + y2.length := by rw [hy2, List.length_append]
    have es1 : zslots w1.1 = zslots w.1 + zslots y1 := by rw [hy1, zslots_app]
    have es2 : zslots w'.1 = zslots w1.1 + zslots y2 := by rw [hy2, zslots_app]
    refine zs_mem_ok hx hb hts hown hini' hK hP hloc hd hoM h4 (by omega) (by omega) fun H' locs' hP' hl' => ?_
    refine ih d x _ ls st' w1 M1 v w' M' hxN h hls p e R s m args below meth c H' locs' _ _ lsC Q hC hf hl (by omega) (by omega) hP' hl' hL fun H2 locs2 lsC2 pc2 ins2 st2 a1 a2 a3 a4 a5 => ?_
    have := kk H2 locs2 lsC2 pc2 ins2 st2 a1 a2 a3 a4 a5
    rw [show cells + (w1.1.length - w.1.length) + (w'.1.length - w1.1.length) = cells + (w'.1.length - w.1.length) by omega, show slots + (zslots w1.1 - zslots w.1) + (zslots w'.1 - zslots w1.1) = slots + (zslots w'.1 - zslots w.1) by omega]
    exact this
  | none =>
  rw [h4] at h
  simp only at h
  cases h5 : zsRet ins (zbool T x) st with
  | some en =>
    rw [h5] at h
    cases h
    have hl2 := hln (hnsw fun a b x y e => by subst e; cases h5)
    have hl3 : zlen ins = 1 := by
      unfold zsRet at h5
      split at h5
      · rfl
      · rfl
      · rfl
      · cases h5
    rw [hl2, hl3] at hd
    have := kk H locs lsC pc ins st hP hloc hd hoR h5
    rw [Nat.sub_self, Nat.sub_self] at this
    exact this
  | none =>
  rw [h5] at h
  simp only at h
  cases h6 : zsPrim ins aux st w M with
  | some st' =>
    rw [h6] at h
    simp only at h
    by_cases h20 : 20 ≤ d
    case neg => rw [if_neg h20] at h; cases h
    rw [if_pos h20] at h
    have hl2 := hln (hnsw fun a b x y e => by subst e; cases h6)
    subst hl2
    have hgo' := fun (H' : Heap) (l' : List Loc) (hP' : zHp D ad base Hb s w M H') (hl' : ∀ q ∈ l', base ≤ q.base) => ih d x _ ls st' w M v w' M' hxN h hls p e R s m args below meth c H' l' cells slots lsC Q hC hf hl hcells hslots hP' hl' hL kk
    have hgo := hgo' H locs hP hloc
    have hsz : lsC.size = (T x).2.2.1 := hL.1.trans hls
    unfold zsPrim at h6
    split at h6
    · rename_i i
      unfold zsPrS at h6
      split at h6
      · rename_i _ yI rr
        unfold zokC at hoC
        simp only at hoC
        split at hoC
        · rename_i haux
          cases haux
          simp only [Bool.and_eq_true, decide_eq_true_eq] at hoC
          have := hoC.1.1
          rw [if_neg (by omega), if_neg (by omega), if_neg (by omega), if_neg (by omega)] at h6
          cases h6
        · rename_i haux
          cases haux
          simp only [Bool.or_eq_true, decide_eq_true_eq] at hoC
          have hloc2 : ∀ t : List zV, zwd t ≤ 8 → ((t.map (zcv ad)).map fun v => v.category).sum + 13 ≤ R.locals := fun t ht => by rw [zcat_sum]; omega
          have hcs : cells ≤ R.cells := by omega
          have hss : slots ≤ R.slots := by omega
          rcases hoC with ((⟨rfl, k1, k2, k3, k4⟩ | ⟨rfl, k1, k2, k3, k4⟩) | ⟨rfl, k1, k2, k3, k4⟩) | ⟨rfl, k1, k2, k3, k4⟩
          · rw [if_pos rfl] at h6
            unfold zp2 at h6
            split at h6
            · split at h6
              · rename_i hw8
                cases h6
                refine va_mmin hx hb (hml.trans hsz.symm) hown (hts _ (zq_mem k1)) (hts _ (zq_mem k2)) (hts _ (zq_mem k3)) (hts _ (zq_mem k4)) (by omega) (hloc2 _ hw8) hcs hss hd ?_
                refine Eq.mp ?_ hgo
                congr 4
                refine List.cons_eq_cons.mpr ⟨?_, rfl⟩
                show Value.int (Int32.ofInt (zmin _ _)) = _
                unfold zmin
                simp only [zI_lt]
                split <;> rfl
              · cases h6
            · cases h6
          · rw [if_neg (by decide), if_pos rfl] at h6
            unfold zp2 at h6
            split at h6
            · split at h6
              · rename_i hw8
                cases h6
                refine va_mmax hx hb (hml.trans hsz.symm) hown (hts _ (zq_mem k1)) (hts _ (zq_mem k2)) (hts _ (zq_mem k3)) (hts _ (zq_mem k4)) (by omega) (hloc2 _ hw8) hcs hss hd ?_
                refine Eq.mp ?_ hgo
                congr 4
                refine List.cons_eq_cons.mpr ⟨?_, rfl⟩
                show Value.int (Int32.ofInt (zmax _ _)) = _
                unfold zmax
                simp only [zI_lt]
                split <;> rfl
              · cases h6
            · cases h6
          · rw [if_neg (by decide), if_neg (by decide), if_pos rfl] at h6
            unfold zp1 at h6
            split at h6
            · split at h6
              · rename_i hw8
                cases h6
                refine va_mabs hx hb (hml.trans hsz.symm) hown (hts _ (zq_mem k1)) (hts _ (zq_mem k2)) (hts _ (zq_mem k3)) (hts _ (zq_mem k4)) (by omega) (hloc2 _ hw8) hcs hss hd ?_
                refine Eq.mp ?_ hgo
                congr 4
                refine List.cons_eq_cons.mpr ⟨?_, rfl⟩
                show Value.int (Int32.ofInt (zabs _)) = _
                unfold zabs
                have e0 : (0 : Int32) = Int32.ofInt 0 := rfl
                rw [e0]
                simp only [zI_le, zI_sub, show z32 0 = 0 from rfl]
                split <;> rfl
              · cases h6
            · cases h6
          · rw [if_neg (by decide), if_neg (by decide), if_neg (by decide), if_pos rfl] at h6
            unfold zpL at h6
            split at h6
            · split at h6
              · rename_i hw8
                cases h6
                refine va_mabs_long hx hb (hml.trans hsz.symm) hown (hts _ (zq_mem k1)) (hts _ (zq_mem k2)) (hts _ (zq_mem k3)) (hts _ (zq_mem k4)) (by omega) (hloc2 _ hw8) hcs hss hd ?_
                refine Eq.mp ?_ hgo
                congr 4
                refine List.cons_eq_cons.mpr ⟨?_, rfl⟩
                show Value.long (Int64.ofInt (zlabs _)) = _
                unfold zlabs
                have e0 : (0 : Int64) = Int64.ofInt 0 := rfl
                rw [e0]
                simp only [zL_lt, zL_neg, show z64 0 = 0 from rfl]
                split <;> rfl
              · cases h6
            · cases h6
        · cases hoC
      · cases h6
    · rename_i i
      unfold zsPrI at h6
      split at h6
      · rename_i _ yI rr
        split at h6
        · rename_i hy
          subst hy
          split at h6
          · rename_i kk0 t
            split at h6
            · rename_i hw8
              cases h6
              unfold zokC at hoC
              simp only at hoC
              split at hoC
              · rename_i haux
                cases haux
                simp only [Bool.and_eq_true, decide_eq_true_eq] at hoC
                exact absurd hoC.1.1 (by decide)
              · rename_i haux
                cases haux
                simp only [Bool.and_eq_true, decide_eq_true_eq] at hoC
                refine W.objInit hx hb hown (hts _ (zq_mem hoC.2.1)) (hts _ (zq_mem hoC.2.2.1)) (hts _ (zq_mem hoC.2.2.2)) rfl (by rw [hml]; exact hsz) rfl hd (by omega) ?_ hgo
                rw [zcat_sum, show (F0 m pc lsC ((zr kk0 :: st').map (zcv ad))).monitorRoom = 0 from rfl]
                omega
              · cases hoC
            · cases h6
          · cases h6
        · cases h6
      · cases h6
    · rename_i i
      unfold zsPrV at h6
      split at h6
      · rename_i _ yI rr
        have hneg : yI = -2 ∨ yI = -3 := by
          by_cases h9 : yI = -2
          · exact Or.inl h9
          · rw [if_neg h9] at h6
            by_cases h10 : yI = -3
            · exact Or.inr h10
            · rw [if_neg h10] at h6; cases h6
        unfold zokC at hoC
        simp only at hoC
        split at hoC
        · rename_i haux
          cases haux
          simp only [Bool.and_eq_true, decide_eq_true_eq] at hoC
          have := hoC.1.1
          omega
        · rename_i haux
          cases haux
          simp only [Bool.or_eq_true, Bool.and_eq_true, decide_eq_true_eq] at hoC
          rcases hoC with ⟨rfl, hq⟩ | ⟨rfl, hq⟩
          · rw [if_pos rfl] at h6
            split at h6
            · split at h6
              · rename_i hk
                cases h6
                exact zm_slen hx hb hml hts hown hK hP hq hk.1 hk.2 hd hsz (by omega) (by omega) (by omega) (by omega) hloc (fun H' l' hP' hl' => hgo' H' l' hP' hl')
              · cases h6
            · cases h6
          · rw [if_neg (by decide), if_pos rfl] at h6
            split at h6
            · split at h6
              · rename_i hk
                cases h6
                exact zm_sat hx hb hml hts hown hK hP hq hk.1 hk.2.1 hk.2.2.1 hk.2.2.2 hd hsz (by omega) (by omega) (by omega) (by omega) hloc (fun H' l' hP' hl' => hgo' H' l' hP' hl')
              · cases h6
            · cases h6
        · cases hoC
      · cases h6
    · cases h6
  | none =>
  rw [h6] at h
  simp only at h
  cases h7 : zsCall ins aux st w with
  | none => rw [h7] at h; cases h
  | some en =>
  obtain ⟨y, as, r0⟩ := en
  rw [h7] at h
  simp only at h
  cases d with
  | zero => cases h
  | succ d' =>
  simp only at h
  by_cases hle : Nat.ble (zlay as).length (zmaxL T y) = true
  case neg => rw [if_neg hle] at h; cases h
  rw [if_pos hle] at h
  have hle := Nat.le_of_ble_eq_true hle
  cases h8 : zrun T n d' y 0 (zpad (zmaxL T y) (zlay as)) [] w M with
  | none => rw [h8] at h; cases h
  | some en =>
  obtain ⟨v1, w1, M1⟩ := en
  rw [h8] at h
  simp only at h
  have hl2 := hln (hnsw fun a b x y e => by subst e; cases h7)
  subst hl2
  obtain ⟨y1, hy1⟩ := zrun_pre T _ _ _ _ _ _ _ _ _ _ _ h8
  obtain ⟨y2, hy2⟩ := zrun_pre T _ _ _ _ _ _ _ _ _ _ _ h
  have el1 : w1.1.length = w.1.length + y1.length := by rw [hy1, List.length_append]
  have el2 : w'.1.length = w1.1.length + y2.length := by rw [hy2, List.length_append]
  have es1 : zslots w1.1 = zslots w.1 + zslots y1 := by rw [hy1, zslots_app]
  have es2 : zslots w'.1 = zslots w1.1 + zslots y2 := by rw [hy2, zslots_app]
  obtain ⟨a, hrunv, hz3⟩ := zrun_call hT ih (ini := true) hx hb hml hown hts hK hP hoC h7 h8 hle hd (hL.1.trans hls) hf hl (locs := locs) (cells := cells) (slots := slots) (below := below) (e := e) (meth := meth) (by omega) (by omega)
  refine zcall_go hrunv hloc fun H' locs' hP' hl' => ?_
  have hmap : (v1.map (zcv ad)).toList ++ r0.map (zcv ad) = (v1.toList ++ r0).map (zcv ad) := by cases v1 <;> rfl
  rw [hmap]
  rw [hz3] at h
  refine ih (d' + 1) x _ ls _ w1 M1 v w' M' hxN h hls p e R s m args below meth c H' locs' _ _ lsC Q hC hf hl (by omega) (by omega) hP' hl' hL fun H2 locs2 lsC2 pc2 ins2 st2 a1 a2 a3 a4 a5 => ?_
  have := kk H2 locs2 lsC2 pc2 ins2 st2 a1 a2 a3 a4 a5
  rw [show cells + (w1.1.length - w.1.length) + (w'.1.length - w1.1.length) = cells + (w'.1.length - w.1.length) by omega, show slots + (zslots w1.1 - zslots w.1) + (zslots w'.1 - zslots w1.1) = slots + (zslots w'.1 - zslots w.1) by omega]
  exact this
