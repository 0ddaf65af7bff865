/-! The walk: by induction on the small machine's steps. -/
def zCtx (D : va_G) (ad : Nat → Nat) (base : Nat) (Hb : Heap) (r : zX) (p : Program) (s : State) (m : MethodId) (args : Array Value) (meth : Method) (c : Code) : Prop :=
  p.tables.exec = Jvm.exec ∧ c.code = r.2.1 ∧ c.maxLocals = r.2.2.1 ∧ s.vm.findClass r.1.cls = some m.cls ∧ (∀ wd ∈ zTb, wd.before args s = true) ∧ zK D ad base Hb s ∧ (r.1.name = "<init>" → meth.name = "<init>")
def zSound (l : Launch) (D : va_G) (ad : Nat → Nat) (base : Nat) (Hb : Heap) (T : Nat → zX) (N n : Nat) : Prop := ∀ (d x pc : Nat) (ls st : List zV) (w : zW) (M : zM) (v : Option zV) (w' : zW) (M' : zM), x ≤ N → zrun T n d x pc ls st w M = some (v, w', M') → ls.length = (T x).2.2.1 →
  ∀ (p : Program) (e : Env) (R : Room) (s : State) (m : MethodId) (args : Array Value) (below : List Frame) (meth : Method) (c : Code) (H : Heap) (locs : List Loc) (cells slots : Nat) (lsC : Array Slot) (Q : State → Prop), zCtx D ad base Hb (T x) p s m args meth c → d ≤ R.frames → 100 * d ≤ R.locals → cells + (w'.1.length - w.1.length) ≤ R.cells → slots + (zslots w'.1 - zslots w.1) ≤ R.slots →
  zHp D ad base Hb s w M H → (∀ q ∈ locs, base ≤ q.base) → zLoc ad ls lsC →
  (∀ (H' : Heap) (locs' : List Loc) (lsC' : Array Slot) (pc' : Nat) (ins : Instr) (st' : List zV), zHp D ad base Hb s w' M' H' → (∀ q ∈ locs', base ≤ q.base) → decode (T x).2.1 pc' = .ok (ins, 1) → zretB ins (T x).2.2.2.1 = true → zsRet ins (zbool T x) st' = some v → W p l e R s m args below meth c H' locs' (cells + (w'.1.length - w.1.length)) (slots + (zslots w'.1 - zslots w.1)) Q (F0 m pc' lsC' (st'.map (zcv ad)))) →
  W p l e R s m args below meth c H locs cells slots Q (F0 m pc lsC (st.map (zcv ad)))
def zTok (T : Nat → zX) (N : Nat) : Prop := ∀ x, x < N → zokX (T x) = true ∧ ∀ e ∈ (T x).2.2.2.2.2, zokE T N (T x) e = true
section ZWalk
variable {l : Launch} {D : va_G} {ad : Nat → Nat} {base : Nat} {Hb : Heap} {T : Nat → zX} {N : Nat}
theorem zgood {w : Cond} (h : w ∈ zTb) : (w.onTables && w.keeps) = true ∨ ∃ ty, w = .arrayClass ty := good_of_word (List.mem_filter.mp h).2
def zPc (D : va_G) (ad : Nat → Nat) (base : Nat) (Hb : Heap) (as : List zV) (w : zW) (M : zM) : Array Value → State → Prop := fun a U => a = (as.map (zcv ad)).toArray ∧ zHp D ad base Hb U w M U.heap ∧ zK D ad base Hb U
def zQc (D : va_G) (ad : Nat → Nat) (base : Nat) (Hb : Heap) (v : Option zV) (w' : zW) (M' : zM) : Array Value → State → Outcome → State → Prop := fun _ _ o t => o = .returned (v.map (zcv ad)) ∧ zHp D ad base Hb t w' M' t.heap
def zws (r : zX) : List Cond := Cond.code r.1 r.2.1 r.2.2.1 r.2.2.2.1 :: zTb
def zrm (d mc ms : Nat) : Room := { frames := d, cells := mc, slots := ms, locals := 100 * d }
theorem zPc_blind {as : List zV} {w : zW} {M : zM} : FrameBlind (zPc D ad base Hb as w M) := by
  intro a U g mk ⟨h1, h2, h3⟩
  exact ⟨h1, zHp_moved (s := U) (U := U.calling g mk a) (Vm.Alike.refl U.vm) h2, zK_same (u := U) (U := U.calling g mk a) rfl h3⟩
theorem zmet (hT : zTok T N) {n : Nat} (ih : zSound l D ad base Hb T N n) {d y : Nat} {as : List zV} {w w' : zW} {M M' : zM} {v : Option zV} (hy : y < N) (hrun : zrun T n d y 0 (zpad (zmaxL T y) (zlay as)) [] w M = some (v, w', M')) (hlen : (zlay as).length ≤ zmaxL T y) :
    Met l (T y).1 (zws (T y)) (zrm d (w'.1.length - w.1.length) (zslots w'.1 - zslots w.1)) (zPc D ad base Hb as w M) (zQc D ad base Hb v w' M') (w'.1.length - w.1.length) (zslots w'.1 - zslots w.1) (fun a => base ≤ a) := by
  have hX := (hT y hy).1
  unfold zokX at hX
  simp only [Bool.and_eq_true, decide_eq_true_eq] at hX
  refine Met.ofW (cc := (T y).2.1) (maxL := (T y).2.2.1) (ret := (T y).2.2.2.1) hX.1.1 rfl ?_
  intro p e s m args below meth c s₁ B hml hv
  obtain ⟨rfl, hP, hK⟩ := hv
  have hx := B.exec
  have hb := B.bytes
  have hr := B.returns
  have hts := atoms_spec (ws := zws (T y)) B.pre
  have hown : s.vm.findClass (T y).1.cls = some m.cls := findClass_of_methodNamed B.named
  have hlocks := B.notSynchronized
  have hname : (T y).1.name = "<init>" → meth.name = "<init>" := fun h => by
    have := (name_of_methodNamed B.named B.method).1
    rw [this]; exact h
  rw [lg_entry_eq]
  refine ih d y 0 _ [] w M v w' M' (Nat.le_of_lt hy) hrun (zpad_len _ _ hlen) p e (zrm d (w'.1.length - w.1.length) (zslots w'.1 - zslots w.1)) s m _ below meth c s.heap [] 0 0 _ _ ⟨hx, hb, hml, hown, fun wd h => hts wd (List.mem_cons_of_mem _ h), hK, hname⟩ (Nat.le_refl _) (Nat.le_refl _) (by rw [Nat.zero_add]; exact Nat.le_refl _) (by rw [Nat.zero_add]; exact Nat.le_refl _) hP (fun q hq => absurd hq List.not_mem_nil) (zLoc_entry ad hlen) ?_
  intro H' locs' lsC' pc' ins st' hP' hl' hd' hz hret
  rw [Nat.zero_add, Nat.zero_add]
  have fin : ∀ t : State, t.heap = H' → s.WarmedH t.vm → zHp D ad base Hb t w' M' t.heap := fun t ht hW => by
    rw [ht]; exact zHp_moved hW.alike hP'
  unfold zsRet at hret
  split at hret
  · split at hret
    · rename_i v0
      unfold zretB at hz
      simp only [Bool.or_eq_true, decide_eq_true_eq] at hz
      split at hret
      · split at hret
        · rename_i hbo hv0
          cases hret
          have hbo2 : (T y).2.2.2.1 = some .boolean := by unfold zbool at hbo; exact of_decide_eq_true hbo
          refine W.zret (v := Int32.ofInt v0) (ty := .boolean) hx hb (hr.trans hbo2) (by rcases hv0 with rfl | rfl <;> rfl) (fun t ht hW => ⟨rfl, fin t ht hW⟩) hl' hd' hlocks
        · cases hret
      · rename_i hbo
        cases hret
        have hin : (T y).2.2.2.1 = some .int := by
          rcases hz with h | h
          · exact h
          · exact absurd (by unfold zbool; exact decide_eq_true h) hbo
        exact W.iret (v := Int32.ofInt v0) hx hb (hr.trans hin) (fun t ht hW => ⟨rfl, fin t ht hW⟩) hl' hd' hlocks
    · cases hret
  · split at hret
    · rename_i v0
      cases hret
      have hin := of_decide_eq_true hz
      exact W.lret (v := Int64.ofInt v0) hx hb (hr.trans hin) (fun t ht hW => ⟨rfl, fin t ht hW⟩) hl' hd' hlocks
    · cases hret
  · split at hret
    · cases hret
      have hin := of_decide_eq_true hz
      exact W.vret hx hb (hr.trans hin) (fun t ht hW => ⟨rfl, fin t ht hW⟩) hl' hd' hlocks
    · cases hret
  · cases hret
theorem zcall_go {p : Program} {e : Env} {R : Room} {s : State} {m : MethodId} {args : Array Value} {below : List Frame} {meth : Method} {c : Code} {H : Heap} {locs : List Loc} {cells slots : Nat} {Q : State → Prop} {mc ms pc : Nat} {lsC : Array Slot} {st0 rest : List Value} {v1 : Option zV} {w1 : zW} {M1 : zM} {a : Array Value}
    (hr : va_Run p l e R s m args below meth c H locs cells slots mc ms (F0 m pc lsC st0) rest (zQc D ad base Hb v1 w1 M1 a) (fun a => base ≤ a)) (hloc : ∀ q ∈ locs, base ≤ q.base)
    (kk : ∀ (H' : Heap) (locs' : List Loc), zHp D ad base Hb s w1 M1 H' → (∀ q ∈ locs', base ≤ q.base) → W p l e R s m args below meth c H' locs' (cells + mc) (slots + ms) Q (F0 m (pc + 3) lsC ((v1.map (zcv ad)).toList ++ rest))) : W p l e R s m args below meth c H locs cells slots Q (F0 m pc lsC st0) := by
  intro T hT X
  obtain ⟨v, st₀, t, T', L, h0, X', hL, e1, e2, ⟨hv, hp⟩, st⟩ := hr T hT X
  cases hv
  obtain ⟨t2, a1, b1⟩ := kk T'.heap (locs ++ L) (by rw [e1]; exact zHp_moved (by rw [← e2]; exact X'.warmed.alike.symm) hp) (fun q hq => by
    rcases List.mem_append.mp hq with h | h
    · exact hloc q h
    · exact hL q h) T' rfl X'
  exact ⟨t2, st t2 a1, b1⟩
theorem zcat_sum (ad : Nat → Nat) : ∀ r : List zV, ((r.map (zcv ad)).map fun v => v.category).sum = zwd r
  | [] => rfl
  | .inl x :: r => by
    show 1 + ((r.map (zcv ad)).map fun v => v.category).sum = 1 + zwd r
    rw [zcat_sum ad r]
  | .inr (.inl x) :: r => by
    show 2 + ((r.map (zcv ad)).map fun v => v.category).sum = 2 + zwd r
    rw [zcat_sum ad r]
  | .inr (.inr (.inl x)) :: r => by
    show 1 + ((r.map (zcv ad)).map fun v => v.category).sum = 1 + zwd r
    rw [zcat_sum ad r]
  | .inr (.inr (.inr x)) :: r => by
    show 1 + ((r.map (zcv ad)).map fun v => v.category).sum = 1 + zwd r
    rw [zcat_sum ad r]
theorem zpar_len {y : MethodName} {n : Nat} (h : zpar y = some n) : ∀ sig, parseMethodDescriptor y.desc = some sig → n = sig.parameters.length := fun sig hs => by
  unfold zpar at h
  rw [hs] at h
  exact (Option.some.inj h).symm
section ZCalls
variable {p : Program} {e : Env} {R : Room} {s : State} {m : MethodId} {args : Array Value} {below : List Frame} {meth : Method} {c : Code} {H : Heap} {locs : List Loc} {cells slots : Nat} {Q : State → Prop} {pc idx d y mc ms : Nat} {lsC : Array Slot} {own : String}
theorem zcallB0 (hT : zTok T N) (hy : y < N) (hts : ∀ wd ∈ zTb, wd.before args s = true) (hf : d + 1 ≤ R.frames) (hl : 100 * (d + 1) ≤ R.locals) :
    (zrm d mc ms).cells = mc ∧ (zrm d mc ms).slots = ms ∧ (zrm d mc ms).frames + 1 ≤ R.frames ∧ 8 + ((T y).2.2.1 + 11) + (zrm d mc ms).locals ≤ R.locals ∧ (∀ w ∈ zws (T y), ∀ (a' : Array Value) (U : State), s.WarmedH U.vm → w.before a' U = true) ∧ Cond.code (T y).1 (T y).2.1 (T y).2.2.1 (T y).2.2.2.1 ∈ zws (T y) ∧ (Cond.code (T y).1 (T y).2.1 (T y).2.2.1 (T y).2.2.2.1).before args s = true ∧ ((T y).1.cls ≠ "java/lang/invoke/MethodHandle" ∧ (T y).1.cls ≠ "java/lang/invoke/VarHandle") := by
  have hX := (hT y hy).1
  unfold zokX at hX
  simp only [Bool.and_eq_true, decide_eq_true_eq] at hX
  have hc := zq_mem hX.2.1
  refine ⟨rfl, rfl, hf, ?_, fun w hw a' U hW => ?_, List.mem_cons_self, hts _ hc, hX.1.2⟩
  · show 8 + ((T y).2.2.1 + 11) + 100 * d ≤ R.locals
    have := hX.2.2; omega
  · have hw2 : w ∈ zTb := by
      rcases List.mem_cons.mp hw with h | h
      · rw [h]; exact hc
      · exact h
    exact word_at hW (zgood hw2) (hts w hw2)
theorem zrun_call (hT : zTok T N) {n : Nat} (ih : zSound l D ad base Hb T N n) {ini : Bool} (hx : p.tables.exec = Jvm.exec) {cc : ByteArray} {nL : Nat} (hb : c.code = cc) (hml : c.maxLocals = nL) (hown : s.vm.findClass own = some m.cls) (hts : ∀ wd ∈ zTb, wd.before args s = true) (hK : zK D ad base Hb s) {w w1 : zW} {M M1 : zM} (hP : zHp D ad base Hb s w M H) {ins : Instr} {aux : List Int} {st as r0 : List zV} {v1 : Option zV}
    (hok : zokC T N own ins aux = true) (hcall : zsCall ins aux st w = some (y, as, r0)) (hrun : zrun T n d y 0 (zpad (zmaxL T y) (zlay as)) [] w M = some (v1, w1, M1)) (hlen : (zlay as).length ≤ zmaxL T y) (hd : decode cc pc = .ok (ins, zlen ins)) (hsz : lsC.size = nL) (hf : d + 1 ≤ R.frames) (hl : 100 * (d + 1) ≤ R.locals)
    (hcells : cells + (w1.1.length - w.1.length) ≤ R.cells) (hslots : slots + (zslots w1.1 - zslots w.1) ≤ R.slots) :
    ∃ a, va_Run p l e R s m args below meth c H locs cells slots (w1.1.length - w.1.length) (zslots w1.1 - zslots w.1) (F0 m pc lsC (st.map (zcv ad))) (r0.map (zcv ad)) (zQc D ad base Hb v1 w1 M1 a) (fun a => base ≤ a) ∧ zlen ins = 3 := by
  have hS : CallFix p m c cc nL s args zTb own := ⟨hx, hb, hml, hown, hts⟩
  have hobj : ∀ (yI nI cI : Int) (rr : List Int), zsCalO (yI :: nI :: cI :: rr) st w = some (y, as, r0) → 0 ≤ yI ∧ y = yI.toNat ∧ nI.toNat ≤ st.length ∧ zwd r0 ≤ 8 ∧ ∃ (k : Nat) (r : List zV), as = zr k :: r ∧ r0 = st.drop nI.toNat ∧ st.map (zcv ad) = (r.map (zcv ad)).reverse ++ .ref (ad k) :: r0.map (zcv ad) ∧ r.length + 1 = nI.toNat ∧ (zsh w k).1 = 0 ∧ (zsh w k).2.1 = cI.toNat := by
    intro yI nI cI rr h
    unfold zsCalO at h
    simp only at h
    split at h
    · cases h
    · rename_i hc
      simp only [not_or, Int.not_lt, Nat.not_lt] at hc
      split at h
      · rename_i k r hr
        split at h
        · rename_i hk
          cases h
          refine ⟨hc.1, rfl, hc.2.1, hc.2.2, k, r, rfl, rfl, ?_, ?_, hk⟩
          · have h1 : st.take nI.toNat = (zr k :: r).reverse := by
              have h2 := congrArg List.reverse hr
              rw [List.reverse_reverse] at h2
              exact h2
            conv => lhs; rw [← List.take_append_drop nI.toNat st]
            rw [List.map_append, h1, List.map_reverse, List.map_cons, List.reverse_cons, List.append_assoc]
            rfl
          · have h2 := congrArg List.length hr
            simp at h2
            omega
        · cases h
      · cases h
  have hrecv : ∀ (k : Nat) (cI : Int) (C : String), (zsh w k).1 = 0 → (zsh w k).2.1 = cI.toNat → (vwCl[cI.toNat]?).map (fun r => r.1) = some C → ∃ cellB : Cell, H[ad k]? = some cellB ∧ cellB.vm.isStatics = false ∧ s.vm.findClass C = some cellB.cls := by
    intro k cI C h0 h1 h2
    obtain ⟨r', g1, g2, cell, g3, g4, g5, g6⟩ := (hP.1 k).1 h0
    rw [h1] at g1 g4
    rw [g1] at h2
    cases h2
    exact ⟨cell, g3, by rw [g5]; rfl, by rw [g4]; exact (hK.1.1 _ _ g1).2.1⟩
  unfold zsCall at hcall
  split at hcall
  · -- static
    rename_i i
    unfold zsCalS at hcall
    split at hcall
    · rename_i _ yI nI rr
      split at hcall
      · cases hcall
      · rename_i hc
        simp only [not_or, Int.not_lt, Nat.not_lt] at hc
        cases hcall
        unfold zokC at hok
        simp only at hok
        split at hok
        · rename_i _ yI' nI' u nest q1 q2 u2 q4 haux
          cases haux
          simp only [Bool.and_eq_true, decide_eq_true_eq] at hok
          obtain ⟨⟨-, o1⟩, o2, o3, o4, o5⟩ := hok
          obtain ⟨b1, b2, b3, b4, b5, b6, b7, b8⟩ := zcallB0 (mc := w1.1.length - w.1.length) (ms := zslots w1.1 - zslots w.1) hT o1 hts hf hl
          have hM := zmet hT ih o1 hrun hlen
          have hp : PreS s H (zPc D ad base Hb (st.take nI.toNat).reverse w M) ((st.take nI.toNat).reverse.map (zcv ad)) := ⟨zPc_blind, fun U hU hW => ⟨rfl, by rw [hU]; exact zHp_moved hW.alike hP, zK_warm hW hK⟩⟩
          have hn : ((st.take nI.toNat).reverse.map (zcv ad)).length = nI.toNat := by simp; omega
          have hst : st.map (zcv ad) = ((st.take nI.toNat).reverse.map (zcv ad)).reverse ++ (st.drop nI.toNat).map (zcv ad) := by
            rw [List.map_reverse, List.reverse_reverse, ← List.map_append, List.take_append_drop]
          have hWd : 2 * (F0 m pc lsC (st.map (zcv ad))).monitorRoom + (((st.drop nI.toNat).map (zcv ad)).map fun v => v.category).sum ≤ 8 := by
            rw [zcat_sum, show (F0 m pc lsC (st.map (zcv ad))).monitorRoom = 0 from rfl]; have := hc.2.2; omega
          split at o2
          · have o2 := of_decide_eq_true o2
            refine ⟨_, va_runS (y := (T yI.toNat).1) (bytes := (T yI.toNat).2.1) (maxL := (T yI.toNat).2.2.1) (ret := (T yI.toNat).2.2.2.1) (ws := zws (T yI.toNat)) (n := nI.toNat) hS hM ⟨⟨b1, b2, b3, b4, b5, b6, b7, hts _ (zq_mem o4), b8, zpar_len o5, hts _ (zq_mem o2)⟩, hts _ (zq_mem o3)⟩ hp rfl hn hsz hst hWd hd ⟨hcells, hslots⟩, rfl⟩
          · have o2 := of_decide_eq_true o2
            refine ⟨_, va_runSN (y := (T yI.toNat).1) (bytes := (T yI.toNat).2.1) (maxL := (T yI.toNat).2.2.1) (ret := (T yI.toNat).2.2.2.1) (ws := zws (T yI.toNat)) (n := nI.toNat) (host := "WheelStore") hS hM ⟨⟨⟨b1, b2, b3, b4, b5, b6⟩, b7, hts _ (zq_mem o4), b8, zpar_len o5, va_Nw.use rfl (hK.2.1 _ o2)⟩, hts _ (zq_mem o3), trivial⟩ hp rfl hn hsz hst hWd hd ⟨hcells, hslots⟩, rfl⟩
        · rename_i haux
          cases haux
          simp only [Bool.or_eq_true, decide_eq_true_eq] at hok
          have := hc.1
          omega
        · cases hok
    · cases hcall
  · -- virtual
    rename_i i
    unfold zokC at hok
    simp only at hok
    split at hok
    · rename_i _ yI nI cI u q1 q2 q3 q4
      obtain ⟨hy0, rfl, hnl, hw8, k, r, rfl, rfl, hst, hrl, hk0, hk1⟩ := hobj _ _ _ _ hcall
      simp only [Bool.and_eq_true, decide_eq_true_eq] at hok
      obtain ⟨⟨-, o1⟩, o2, o3, o4, o5, o6, o7⟩ := hok
      obtain ⟨b1, b2, b3, b4, b5, b6, b7, b8⟩ := zcallB0 (mc := w1.1.length - w.1.length) (ms := zslots w1.1 - zslots w.1) hT o1 hts hf hl
      have hM := zmet hT ih o1 hrun hlen
      have hpn : zpar (T yI.toNat).1 = some (nI.toNat - 1) := by
        cases hz : zpar (T yI.toNat).1 with
        | none => rw [hz] at o7; cases o7
        | some k => rw [hz] at o7; simp at o7; rw [← o7]; simp
      have hWd : 2 * (F0 m pc lsC (st.map (zcv ad))).monitorRoom + (((st.drop nI.toNat).map (zcv ad)).map fun v => v.category).sum ≤ 8 := by
        rw [zcat_sum, show (F0 m pc lsC (st.map (zcv ad))).monitorRoom = 0 from rfl]; omega
      exact ⟨_, va_runV (C := (T yI.toNat).1.cls) (b := ad k) (As := r.map (zcv ad)) (y := (T yI.toNat).1) (bytes := (T yI.toNat).2.1) (maxL := (T yI.toNat).2.2.1) (ret := (T yI.toNat).2.2.2.1) (ws := zws (T yI.toNat)) (n := nI.toNat - 1) hS hM ⟨⟨b1, b2, b3, b4, b5, b6, b7, hts _ (zq_mem o5), b8, zpar_len hpn, hts _ (zq_mem o2)⟩, hts _ (zq_mem o3), hts _ (zq_mem o4)⟩ ⟨zPc_blind, hrecv k cI _ hk0 hk1 o6, fun U hU hW => ⟨rfl, by rw [hU]; exact zHp_moved hW.alike hP, zK_warm hW hK⟩⟩ rfl (by simp; omega) hsz hst hWd hd ⟨hcells, hslots⟩, rfl⟩
    · rename_i yI q
      simp only [Bool.or_eq_true, Bool.and_eq_true, decide_eq_true_eq] at hok
      unfold zsCalO at hcall
      cases hcall
    · cases hok
  · -- special
    rename_i i
    unfold zokC at hok
    simp only at hok
    split at hok
    · rename_i _ yI nI cI nest q1 q2 u q4
      obtain ⟨hy0, rfl, hnl, hw8, k, r, rfl, rfl, hst, hrl, hk0, hk1⟩ := hobj _ _ _ _ hcall
      simp only [Bool.and_eq_true, decide_eq_true_eq] at hok
      obtain ⟨⟨-, o1⟩, o2, o3, o4, o5, o6, o7⟩ := hok
      obtain ⟨b1, b2, b3, b4, b5, b6, b7, b8⟩ := zcallB0 (mc := w1.1.length - w.1.length) (ms := zslots w1.1 - zslots w.1) hT o1 hts hf hl
      have hM := zmet hT ih o1 hrun hlen
      have hpn : zpar (T yI.toNat).1 = some (nI.toNat - 1) := by
        cases hz : zpar (T yI.toNat).1 with
        | none => rw [hz] at o7; cases o7
        | some k => rw [hz] at o7; simp at o7; rw [← o7]; simp
      have hWd : 2 * (F0 m pc lsC (st.map (zcv ad))).monitorRoom + (((st.drop nI.toNat).map (zcv ad)).map fun v => v.category).sum ≤ 8 := by
        rw [zcat_sum, show (F0 m pc lsC (st.map (zcv ad))).monitorRoom = 0 from rfl]; omega
      have hpS : PreS s H (zPc D ad base Hb (zr k :: r) w M) (.ref (ad k) :: r.map (zcv ad)) := ⟨zPc_blind, fun U hU hW => ⟨rfl, by rw [hU]; exact zHp_moved hW.alike hP, zK_warm hW hK⟩⟩
      rw [o4.2] at b6 b7
      split at o2
      · have o2 := of_decide_eq_true o2
        exact ⟨_, va_runI (b := ad k) (As := r.map (zcv ad)) (y := (T yI.toNat).1) (bytes := (T yI.toNat).2.1) (maxL := (T yI.toNat).2.2.1) (ws := zws (T yI.toNat)) (n := nI.toNat - 1) hS hM ⟨⟨b1, b2, b3, b4, b5, b6, b7, hts _ (zq_mem o5), b8, zpar_len hpn, hts _ (zq_mem o2)⟩, o4.1, hts _ (zq_mem o3)⟩ hpS rfl (by simp; omega) hsz hst hWd hd ⟨hcells, hslots⟩, rfl⟩
      · have o2 := of_decide_eq_true o2
        exact ⟨_, va_runIN (host := "WheelStore") (b := ad k) (As := r.map (zcv ad)) (y := (T yI.toNat).1) (bytes := (T yI.toNat).2.1) (maxL := (T yI.toNat).2.2.1) (ws := zws (T yI.toNat)) (n := nI.toNat - 1) hS hM ⟨⟨⟨b1, b2, b3, b4, b5, b6⟩, b7, hts _ (zq_mem o5), b8, zpar_len hpn, va_Nw.use rfl (hK.2.1 _ o2)⟩, o4.1, hts _ (zq_mem o3)⟩ hpS rfl (by simp; omega) hsz hst hWd hd ⟨hcells, hslots⟩, rfl⟩
    · rename_i yI q1 q2 q3
      simp only [Bool.and_eq_true, decide_eq_true_eq] at hok
      obtain ⟨rfl, -⟩ := hok
      have := (hobj _ _ _ _ hcall).1
      omega
    · cases hok
  · cases hcall
end ZCalls
end ZWalk
