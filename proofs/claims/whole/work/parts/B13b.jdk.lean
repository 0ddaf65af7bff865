/-! String.length, String.charAt and what they call: the heap stands. -/
def zjLen : zX := (⟨"java/lang/String", "length", "()I"⟩, prog_16_method_54_code, 1, some .int, 0, [])
def zjCod : zX := (⟨"java/lang/String", "coder", "()B"⟩, prog_16_method_152_code, 1, some .byte, 0, [])
def zjCh : zX := (⟨"java/lang/String", "charAt", "(I)C"⟩, prog_16_method_56_code, 2, some .char, 0, [])
def zjLat : zX := (⟨"java/lang/String", "isLatin1", "()Z"⟩, prog_16_method_154_code, 1, some .boolean, 0, [])
def zjChk : zX := (⟨"java/lang/String", "checkIndex", "(II)V"⟩, prog_16_method_155_code, 2, none, 0, [])
def zjCh1 : zX := (⟨"java/lang/StringLatin1", "charAt", "([BI)C"⟩, prog_17_method_2_code, 2, some .char, 0, [])
def zjPre : zX := (⟨"jdk/internal/util/Preconditions", "checkIndex", "(IILjava/util/function/BiFunction;)I"⟩, prog_20_method_11_code, 3, some .int, 0, [])
def zjws : List Cond := [.code zjLen.1 zjLen.2.1 1 (some .int), .code zjCod.1 zjCod.2.1 1 (some .byte), .code zjCh.1 zjCh.2.1 2 (some .char), .code zjLat.1 zjLat.2.1 1 (some .boolean), .code zjChk.1 zjChk.2.1 2 none, .code zjCh1.1 zjCh1.2.1 2 (some .char), .code zjPre.1 zjPre.2.1 3 (some .int),
  .fieldLink "java/lang/String" 38 "java/lang/String" "COMPACT_STRINGS" "Z", .fieldLink "java/lang/String" 15 "java/lang/String" "coder" "B", .fieldLink "java/lang/String" 9 "java/lang/String" "value" "[B", .methodLink "java/lang/String" 335 zjCod.1, .instanceMethod zjCod.1, .selects "java/lang/String" zjCod.1 zjCod.1, .initialized "java/lang/String",
  .methodLink "java/lang/String" 492 zjLat.1, .instanceMethod zjLat.1, .selects "java/lang/String" zjLat.1 zjLat.1, .methodLink "java/lang/String" 495 zjCh1.1, .static zjCh1.1, .initialized "java/lang/StringLatin1", .methodLink "java/lang/StringLatin1" 9 zjChk.1, .static zjChk.1,
  .fieldLink "java/lang/String" 1053 "jdk/internal/util/Preconditions" "SIOOBE_FORMATTER" "Ljava/util/function/BiFunction;", .methodLink "java/lang/String" 1059 zjPre.1, .static zjPre.1, .initialized "jdk/internal/util/Preconditions", .instanceMethod zjLen.1, .selects "java/lang/String" zjLen.1 zjLen.1, .instanceMethod zjCh.1, .selects "java/lang/String" zjCh.1 zjCh.1]
theorem zjws_in : ∀ wd ∈ zjws, wd ∈ lw_tbl ∧ goodWord wd = true := by decide +kernel
theorem zjw {wd : Cond} (i : Nat) (h : zjws[i]? = some wd) : wd ∈ zTb := List.mem_filter.mpr (zjws_in wd (List.mem_of_getElem? h))
theorem zjN : ∀ i, i < 6 → Int32.ofNat (zsN.getD i 0) >>> ((0 : Int32) &&& 31) = Int32.ofNat (zsN.getD i 0) := by decide +kernel
theorem zjB : ∀ i, i < 6 → ∀ k, k < zsN.getD i 0 → (((zsB.getD i []).getD k 0 &&& 255).toUInt32 % 65536).toInt32 = (zsB.getD i []).getD k 0 ∧ ((zsB.getD i []).getD k 0).toUInt32.toUInt16.toUInt32.toInt32 = (zsB.getD i []).getD k 0 := by decide +kernel
theorem dCod_0 : decode zjCod.2.1 0 = .ok (.getstatic 38, 3) := by decide +kernel
theorem dCod_3 : decode zjCod.2.1 3 = .ok (.ifCond .eq 10, 3) := by decide +kernel
theorem dCod_6 : decode zjCod.2.1 6 = .ok (.aload_n 0, 1) := by decide +kernel
theorem dCod_7 : decode zjCod.2.1 7 = .ok (.getfield 15, 3) := by decide +kernel
theorem dCod_10 : decode zjCod.2.1 10 = .ok (.goto 4, 3) := by decide +kernel
theorem dCod_14 : decode zjCod.2.1 14 = .ok (.ireturn, 1) := by decide +kernel
theorem dLat_0 : decode zjLat.2.1 0 = .ok (.getstatic 38, 3) := by decide +kernel
theorem dLat_3 : decode zjLat.2.1 3 = .ok (.ifCond .eq 14, 3) := by decide +kernel
theorem dLat_6 : decode zjLat.2.1 6 = .ok (.aload_n 0, 1) := by decide +kernel
theorem dLat_7 : decode zjLat.2.1 7 = .ok (.getfield 15, 3) := by decide +kernel
theorem dLat_10 : decode zjLat.2.1 10 = .ok (.ifCond .ne 7, 3) := by decide +kernel
theorem dLat_13 : decode zjLat.2.1 13 = .ok (.iconst 1, 1) := by decide +kernel
theorem dLat_14 : decode zjLat.2.1 14 = .ok (.goto 4, 3) := by decide +kernel
theorem dLat_18 : decode zjLat.2.1 18 = .ok (.ireturn, 1) := by decide +kernel
theorem dLen_0 : decode zjLen.2.1 0 = .ok (.aload_n 0, 1) := by decide +kernel
theorem dLen_1 : decode zjLen.2.1 1 = .ok (.getfield 9, 3) := by decide +kernel
theorem dLen_4 : decode zjLen.2.1 4 = .ok (.arraylength, 1) := by decide +kernel
theorem dLen_5 : decode zjLen.2.1 5 = .ok (.aload_n 0, 1) := by decide +kernel
theorem dLen_6 : decode zjLen.2.1 6 = .ok (.invokevirtual 335, 3) := by decide +kernel
theorem dLen_9 : decode zjLen.2.1 9 = .ok (.ishr, 1) := by decide +kernel
theorem dLen_10 : decode zjLen.2.1 10 = .ok (.ireturn, 1) := by decide +kernel
theorem dCh_0 : decode zjCh.2.1 0 = .ok (.aload_n 0, 1) := by decide +kernel
theorem dCh_1 : decode zjCh.2.1 1 = .ok (.invokevirtual 492, 3) := by decide +kernel
theorem dCh_4 : decode zjCh.2.1 4 = .ok (.ifCond .eq 12, 3) := by decide +kernel
theorem dCh_7 : decode zjCh.2.1 7 = .ok (.aload_n 0, 1) := by decide +kernel
theorem dCh_8 : decode zjCh.2.1 8 = .ok (.getfield 9, 3) := by decide +kernel
theorem dCh_11 : decode zjCh.2.1 11 = .ok (.iload_n 1, 1) := by decide +kernel
theorem dCh_12 : decode zjCh.2.1 12 = .ok (.invokestatic 495, 3) := by decide +kernel
theorem dCh_15 : decode zjCh.2.1 15 = .ok (.ireturn, 1) := by decide +kernel
theorem dChk_0 : decode zjChk.2.1 0 = .ok (.iload_n 0, 1) := by decide +kernel
theorem dChk_1 : decode zjChk.2.1 1 = .ok (.iload_n 1, 1) := by decide +kernel
theorem dChk_2 : decode zjChk.2.1 2 = .ok (.getstatic 1053, 3) := by decide +kernel
theorem dChk_5 : decode zjChk.2.1 5 = .ok (.invokestatic 1059, 3) := by decide +kernel
theorem dChk_8 : decode zjChk.2.1 8 = .ok (.pop, 1) := by decide +kernel
theorem dChk_9 : decode zjChk.2.1 9 = .ok (.return_, 1) := by decide +kernel
theorem dCh1_0 : decode zjCh1.2.1 0 = .ok (.iload_n 1, 1) := by decide +kernel
theorem dCh1_1 : decode zjCh1.2.1 1 = .ok (.aload_n 0, 1) := by decide +kernel
theorem dCh1_2 : decode zjCh1.2.1 2 = .ok (.arraylength, 1) := by decide +kernel
theorem dCh1_3 : decode zjCh1.2.1 3 = .ok (.invokestatic 9, 3) := by decide +kernel
theorem dCh1_6 : decode zjCh1.2.1 6 = .ok (.aload_n 0, 1) := by decide +kernel
theorem dCh1_7 : decode zjCh1.2.1 7 = .ok (.iload_n 1, 1) := by decide +kernel
theorem dCh1_8 : decode zjCh1.2.1 8 = .ok (.baload, 1) := by decide +kernel
theorem dCh1_9 : decode zjCh1.2.1 9 = .ok (.sipush 255, 3) := by decide +kernel
theorem dCh1_12 : decode zjCh1.2.1 12 = .ok (.iand, 1) := by decide +kernel
theorem dCh1_13 : decode zjCh1.2.1 13 = .ok (.i2c, 1) := by decide +kernel
theorem dCh1_14 : decode zjCh1.2.1 14 = .ok (.ireturn, 1) := by decide +kernel
theorem dPre_0 : decode zjPre.2.1 0 = .ok (.iload_n 0, 1) := by decide +kernel
theorem dPre_1 : decode zjPre.2.1 1 = .ok (.ifCond .lt 8, 3) := by decide +kernel
theorem dPre_4 : decode zjPre.2.1 4 = .ok (.iload_n 0, 1) := by decide +kernel
theorem dPre_5 : decode zjPre.2.1 5 = .ok (.iload_n 1, 1) := by decide +kernel
theorem dPre_6 : decode zjPre.2.1 6 = .ok (.if_icmp .lt 10, 3) := by decide +kernel
theorem dPre_16 : decode zjPre.2.1 16 = .ok (.iload_n 0, 1) := by decide +kernel
theorem dPre_17 : decode zjPre.2.1 17 = .ok (.ireturn, 1) := by decide +kernel
def zPg (D : va_G) (ad : Nat → Nat) (base : Nat) (Hb : Heap) (as : List Value) (w : zW) (M : zM) : Array Value → State → Prop := fun a U => a = as.toArray ∧ zHp D ad base Hb U w M U.heap ∧ zK D ad base Hb U
def zQg (D : va_G) (ad : Nat → Nat) (base : Nat) (Hb : Heap) (v : Option Value) (w : zW) (M : zM) : Array Value → State → Outcome → State → Prop := fun _ _ o t => o = .returned v ∧ zHp D ad base Hb t w M t.heap
def zPx (D : va_G) (ad : Nat → Nat) (base : Nat) (Hb : Heap) (as : List Value) (w : zW) (M : zM) (X : State → Prop) : Array Value → State → Prop := fun a U => zPg D ad base Hb as w M a U ∧ X U
section ZJdk
variable {p : Program} {l : Launch} {e : Env} {R : Room} {s : State} {m : MethodId} {args : Array Value} {below : List Frame} {meth : Method} {c : Code} {H : Heap} {locs : List Loc} {cells slots : Nat} {Q : State → Prop} {cc : ByteArray} {ad : Nat → Nat} {D : va_G} {base : Nat} {Hb : Heap} {own : String} {w : zW} {M : zM} {pc : Nat} {ls : Array Slot} {rest : List Value}
theorem zPg_blind {as : List Value} : FrameBlind (zPg D ad base Hb as w M) := by
  intro a U g mk ⟨h1, h2, h3⟩
  exact ⟨h1, zHp_moved (s := U) (U := U.calling g mk a) (Vm.Alike.refl U.vm) h2, zK_same (u := U) (U := U.calling g mk a) rfl h3⟩
theorem zPx_blind {as : List Value} {X : State → Prop} (hXb : ∀ u U : State, u.vm.Alike U.vm → X u → X U) : FrameBlind (zPx D ad base Hb as w M X) := by
  intro a U g mk ⟨⟨h1, h2, h3⟩, h4⟩
  exact ⟨⟨h1, zHp_moved (s := U) (U := U.calling g mk a) (Vm.Alike.refl U.vm) h2, zK_same (u := U) (U := U.calling g mk a) rfl h3⟩, hXb U (U.calling g mk a) (Vm.Alike.refl U.vm) h4⟩
theorem zj_str (hP : zHp D ad base Hb s w M H) (hK : zK D ad base Hb s) : ∃ (adV : Nat → Nat) (vF : Value), vF.isRef = true ∧ vk_S 6 zsN zsB (fun i => ad (2 + i)) adV (fun q => base ≤ q) s H ∧ va_Z "java/lang/String" "COMPACT_STRINGS" "Z" (.int 1) (fun q => base ≤ q) s H ∧ va_Z "jdk/internal/util/Preconditions" "SIOOBE_FORMATTER" "Ljava/util/function/BiFunction;" vF (fun q => base ≤ q) s H := by
  obtain ⟨h1, h2, h3, h4, ⟨adV, h5⟩, h7, vF, hvF, h8⟩ := hK
  have hq : ∀ a : Nat, a < Hb.size → ¬ base ≤ a → H[a]? = Hb[a]? := fun a _ h => hP.2.2.2.2.1 a (by omega)
  exact ⟨adV, vF, hvF, h5.kept hq, h7.kept hq, h8.kept hq⟩
theorem zj_gets (hexec : p.tables.exec = Jvm.exec) (hb : c.code = cc) {C n d : String} {v : Value} {index : Nat} {A : Nat → Prop} (hZ : va_Z C n d v A s H) (hown : s.vm.findClass own = some m.cls) (hlink : (Cond.fieldLink own index C n d).before args s = true) (hdg : decode cc pc = .ok (.getstatic index, 3))
    (kk : W p l e R s m args below meth c H locs cells slots Q (F0 m (pc + 3) ls (v :: rest))) : W p l e R s m args below meth c H locs cells slots Q (F0 m pc ls rest) := by
  obtain ⟨cf, kf, fi, f, a, cell, h1, h2, h3, h4, h5, h6, h7, h8⟩ := hZ
  exact W.gets hexec hb hown hlink h1 h2 h3 h4 h5 (fun e => by rw [e] at h6; cases h6) h7 rfl hdg kk
theorem zj_getf (hexec : p.tables.exec = Jvm.exec) (hb : c.code = cc) {C n d : String} {index q : Nat} {v : Value} {A : Nat → Prop} (hE : va_OF C n d v q A s H) (hown : s.vm.findClass own = some m.cls) (hlink : (Cond.fieldLink own index C n d).before args s = true) (hdg : decode cc pc = .ok (.getfield index, 3))
    (kk : W p l e R s m args below meth c H locs cells slots Q (F0 m (pc + 3) ls (v :: rest))) : W p l e R s m args below meth c H locs cells slots Q (F0 m pc ls (.ref q :: rest)) := by
  obtain ⟨cf, k, fi, f, cell, h1, h2, h3, h4, h5, h6⟩ := hE
  exact W.getf hexec hb hown hlink h1 h2 h3 h4 (v := v) h5 rfl rfl hdg kk
theorem zj_len (hexec : p.tables.exec = Jvm.exec) (hb : c.code = cc) {ty : FieldType} {t N : Nat} {f : Nat → Value} {A : Nat → Prop} (hT : va_T ty t N f A s H) (hdg : decode cc pc = .ok (.arraylength, 1))
    (kk : W p l e R s m args below meth c H locs cells slots Q (F0 m (pc + 1) ls (.int (Int32.ofNat N) :: rest))) : W p l e R s m args below meth c H locs cells slots Q (F0 m pc ls (.ref t :: rest)) := by
  obtain ⟨cell, h1, h2, h3, h4, h5, h6, h7⟩ := hT
  exact W.alen (n := Int32.ofNat N) hexec hb h1 h2 h5 rfl rfl hdg kk
theorem zj_tb (hexec : p.tables.exec = Jvm.exec) (hb : c.code = cc) {t N : Nat} {f : Nat → Value} {A : Nat → Prop} (hT : va_T .byte t N f A s H) {i : Int32} (hin : vp_in i N) (hdg : decode cc pc = .ok (.baload, 1))
    (kk : W p l e R s m args below meth c H locs cells slots Q (F0 m (pc + 1) ls (f i.toNatClampNeg :: rest))) : W p l e R s m args below meth c H locs cells slots Q (F0 m pc ls (.int i :: .ref t :: rest)) := by
  obtain ⟨cell, h1, h2, h3, h4, h5, h6, h7⟩ := hT
  have hlt : i.toNatClampNeg < N := Nat.not_le.mp fun q => hin (Or.inr q)
  have hin' : ¬ (i < 0 ∨ cell.slots.size ≤ i.toNatClampNeg) := by
    intro q
    rcases q with q | q
    · exact hin (Or.inl q)
    · omega
  exact W.bald hexec hb h1 h2 h3 hin' (h6 _ hlt) rfl rfl hdg kk
theorem zcallBJ {r : zX} {d mc ms : Nat} (hc : Cond.code r.1 r.2.1 r.2.2.1 r.2.2.2.1 ∈ zTb) (hm : r.2.2.1 ≤ 60) (hne : r.1.cls ≠ "java/lang/invoke/MethodHandle" ∧ r.1.cls ≠ "java/lang/invoke/VarHandle") (hts : ∀ wd ∈ zTb, wd.before args s = true) (hf : d + 1 ≤ R.frames) (hl : 100 * (d + 1) ≤ R.locals) :
    (zrm d mc ms).cells = mc ∧ (zrm d mc ms).slots = ms ∧ (zrm d mc ms).frames + 1 ≤ R.frames ∧ 8 + (r.2.2.1 + 11) + (zrm d mc ms).locals ≤ R.locals ∧ (∀ w ∈ zws r, ∀ (a' : Array Value) (U : State), s.WarmedH U.vm → w.before a' U = true) ∧ Cond.code r.1 r.2.1 r.2.2.1 r.2.2.2.1 ∈ zws r ∧ (Cond.code r.1 r.2.1 r.2.2.1 r.2.2.2.1).before args s = true ∧ (r.1.cls ≠ "java/lang/invoke/MethodHandle" ∧ r.1.cls ≠ "java/lang/invoke/VarHandle") := by
  refine ⟨rfl, rfl, hf, ?_, fun w hw a' U hW => ?_, List.mem_cons_self, hts _ hc, hne⟩
  · show 8 + (r.2.2.1 + 11) + 100 * d ≤ R.locals
    omega
  · have hw2 : w ∈ zTb := by
      rcases List.mem_cons.mp hw with h | h
      · rw [h]; exact hc
      · exact h
    exact word_at hW (zgood hw2) (hts w hw2)
theorem zcall_goG {mc ms : Nat} {st0 : List Value} {v1 : Option Value} {w1 : zW} {M1 : zM} {a : Array Value}
    (hr : va_Run p l e R s m args below meth c H locs cells slots mc ms (F0 m pc ls st0) rest (zQg D ad base Hb v1 w1 M1 a) (fun a => base ≤ a)) (hloc : ∀ q ∈ locs, base ≤ q.base)
    (kk : ∀ (H' : Heap) (locs' : List Loc), zHp D ad base Hb s w1 M1 H' → (∀ q ∈ locs', base ≤ q.base) → W p l e R s m args below meth c H' locs' (cells + mc) (slots + ms) Q (F0 m (pc + 3) ls (v1.toList ++ rest))) : W p l e R s m args below meth c H locs cells slots Q (F0 m pc ls st0) := by
  intro T hT X
  obtain ⟨v, st₀, t, T', L, h0, X', hL, e1, e2, ⟨hv, hp⟩, st⟩ := hr T hT X
  cases hv
  obtain ⟨t2, a1, b1⟩ := kk T'.heap (locs ++ L) (by rw [e1]; exact zHp_moved (by rw [← e2]; exact X'.warmed.alike.symm) hp) (fun q hq => by
    rcases List.mem_append.mp hq with h | h
    · exact hloc q h
    · exact hL q h) T' rfl X'
  exact ⟨t2, st t2 a1, b1⟩
/-- a virtual call on a text -/
theorem zcallTV {r : zX} {d idx nL i : Nat} {As : List Value} {v : Option Value} (hi : i < 6) (hM : Met l r.1 (zws r) (zrm d 0 0) (zPg D ad base Hb (.ref (ad (2 + i)) :: As) w M) (zQg D ad base Hb v w M) 0 0 (fun a => base ≤ a)) (hcls : r.1.cls = "java/lang/String") (hc : Cond.code r.1 r.2.1 r.2.2.1 r.2.2.2.1 ∈ zTb) (hm : r.2.2.1 ≤ 60) (hx : p.tables.exec = Jvm.exec) (hb : c.code = cc) (hml : c.maxLocals = nL) (hown : s.vm.findClass own = some m.cls) (hts : ∀ wd ∈ zTb, wd.before args s = true) (hK : zK D ad base Hb s) (hP : zHp D ad base Hb s w M H)
    (h1 : (Cond.methodLink own idx r.1).before args s = true) (h2 : Cond.instanceMethod r.1 ∈ zTb) (h3 : Cond.selects "java/lang/String" r.1 r.1 ∈ zTb) (h5 : zpar r.1 = some As.length) (hd : decode cc pc = .ok (.invokevirtual idx, 3)) (hsz : ls.size = nL) (hf : d + 1 ≤ R.frames) (hl : 100 * (d + 1) ≤ R.locals) (hcells : cells ≤ R.cells) (hslots : slots ≤ R.slots) (hrest : (rest.map fun v => v.category).sum ≤ 8) (hloc : ∀ q ∈ locs, base ≤ q.base)
    (kk : ∀ (H' : Heap) (locs' : List Loc), zHp D ad base Hb s w M H' → (∀ q ∈ locs', base ≤ q.base) → W p l e R s m args below meth c H' locs' cells slots Q (F0 m (pc + 3) ls (v.toList ++ rest))) : W p l e R s m args below meth c H locs cells slots Q (F0 m pc ls (As.reverse ++ .ref (ad (2 + i)) :: rest)) := by
  obtain ⟨b1, b2, b3, b4, b5, b6, b7, b8⟩ := zcallBJ (r := r) (mc := 0) (ms := 0) hc hm (by rw [hcls]; decide) hts hf hl
  obtain ⟨adV, vF, -, hS, -, -⟩ := zj_str hP hK
  obtain ⟨cell, g1, g2, g3, g4⟩ := (hS.1 i hi).1
  have hini : (Cond.initialized r.1.cls).before args s = true := by rw [hcls]; exact hts _ (zjw 13 rfl)
  refine zcall_goG (va_runV (C := "java/lang/String") (b := ad (2 + i)) (As := As) (y := r.1) (bytes := r.2.1) (maxL := r.2.2.1) (ret := r.2.2.2.1) (ws := zws r) (n := As.length) (mc := 0) (ms := 0) (Ts := zTb) (own := own) (nL := nL) ⟨hx, hb, hml, hown, hts⟩ hM ⟨⟨b1, b2, b3, b4, b5, b6, b7, hini, b8, zpar_len h5, h1⟩, hts _ h2, hts _ h3⟩ ⟨zPg_blind, ⟨cell, g1, g2, g3⟩, fun U hU hW => ⟨rfl, by rw [hU]; exact zHp_moved hW.alike hP, zK_warm hW hK⟩⟩ rfl rfl hsz rfl ?_ hd ⟨hcells, hslots⟩) hloc fun H' locs' hP' hl' => kk H' locs' hP' hl'
  rw [show (F0 m pc ls (As.reverse ++ .ref (ad (2 + i)) :: rest)).monitorRoom = 0 from rfl]
  omega
theorem zcallTS {r : zX} {d idx nL : Nat} {As : List Value} {v : Option Value} (hM : Met l r.1 (zws r) (zrm d 0 0) (zPg D ad base Hb As w M) (zQg D ad base Hb v w M) 0 0 (fun a => base ≤ a)) (hne : r.1.cls ≠ "java/lang/invoke/MethodHandle" ∧ r.1.cls ≠ "java/lang/invoke/VarHandle") (hc : Cond.code r.1 r.2.1 r.2.2.1 r.2.2.2.1 ∈ zTb) (hm : r.2.2.1 ≤ 60) (hx : p.tables.exec = Jvm.exec) (hb : c.code = cc) (hml : c.maxLocals = nL) (hown : s.vm.findClass own = some m.cls) (hts : ∀ wd ∈ zTb, wd.before args s = true) (hK : zK D ad base Hb s) (hP : zHp D ad base Hb s w M H)
    (h1 : Cond.methodLink own idx r.1 ∈ zTb) (h2 : Cond.static r.1 ∈ zTb) (h3 : Cond.initialized r.1.cls ∈ zTb) (h5 : zpar r.1 = some As.length) (hd : decode cc pc = .ok (.invokestatic idx, 3)) (hsz : ls.size = nL) (hf : d + 1 ≤ R.frames) (hl : 100 * (d + 1) ≤ R.locals) (hcells : cells ≤ R.cells) (hslots : slots ≤ R.slots) (hrest : (rest.map fun v => v.category).sum ≤ 8) (hloc : ∀ q ∈ locs, base ≤ q.base)
    (kk : ∀ (H' : Heap) (locs' : List Loc), zHp D ad base Hb s w M H' → (∀ q ∈ locs', base ≤ q.base) → W p l e R s m args below meth c H' locs' cells slots Q (F0 m (pc + 3) ls (v.toList ++ rest))) : W p l e R s m args below meth c H locs cells slots Q (F0 m pc ls (As.reverse ++ rest)) := by
  obtain ⟨b1, b2, b3, b4, b5, b6, b7, b8⟩ := zcallBJ (r := r) (mc := 0) (ms := 0) hc hm hne hts hf hl
  refine zcall_goG (va_runS (As := As) (y := r.1) (bytes := r.2.1) (maxL := r.2.2.1) (ret := r.2.2.2.1) (ws := zws r) (n := As.length) (mc := 0) (ms := 0) (Ts := zTb) (own := own) (nL := nL) ⟨hx, hb, hml, hown, hts⟩ hM ⟨⟨b1, b2, b3, b4, b5, b6, b7, hts _ h3, b8, zpar_len h5, hts _ h1⟩, hts _ h2⟩ ⟨zPg_blind, fun U hU hW => ⟨rfl, by rw [hU]; exact zHp_moved hW.alike hP, zK_warm hW hK⟩⟩ rfl rfl hsz rfl ?_ hd ⟨hcells, hslots⟩) hloc fun H' locs' hP' hl' => kk H' locs' hP' hl'
  rw [show (F0 m pc ls (As.reverse ++ rest)).monitorRoom = 0 from rfl]
  omega
theorem zcallTX {r : zX} {X : State → Prop} (hXb : ∀ u U : State, u.vm.Alike U.vm → X u → X U) (hXs : X s) {d idx nL : Nat} {As : List Value} {v : Option Value} (hM : Met l r.1 (zws r) (zrm d 0 0) (zPx D ad base Hb As w M X) (zQg D ad base Hb v w M) 0 0 (fun a => base ≤ a)) (hne : r.1.cls ≠ "java/lang/invoke/MethodHandle" ∧ r.1.cls ≠ "java/lang/invoke/VarHandle") (hc : Cond.code r.1 r.2.1 r.2.2.1 r.2.2.2.1 ∈ zTb) (hm : r.2.2.1 ≤ 60) (hx : p.tables.exec = Jvm.exec) (hb : c.code = cc) (hml : c.maxLocals = nL) (hown : s.vm.findClass own = some m.cls) (hts : ∀ wd ∈ zTb, wd.before args s = true) (hK : zK D ad base Hb s) (hP : zHp D ad base Hb s w M H)
    (h1 : Cond.methodLink own idx r.1 ∈ zTb) (h2 : Cond.static r.1 ∈ zTb) (h3 : Cond.initialized r.1.cls ∈ zTb) (h5 : zpar r.1 = some As.length) (hd : decode cc pc = .ok (.invokestatic idx, 3)) (hsz : ls.size = nL) (hf : d + 1 ≤ R.frames) (hl : 100 * (d + 1) ≤ R.locals) (hcells : cells ≤ R.cells) (hslots : slots ≤ R.slots) (hrest : (rest.map fun v => v.category).sum ≤ 8) (hloc : ∀ q ∈ locs, base ≤ q.base)
    (kk : ∀ (H' : Heap) (locs' : List Loc), zHp D ad base Hb s w M H' → (∀ q ∈ locs', base ≤ q.base) → W p l e R s m args below meth c H' locs' cells slots Q (F0 m (pc + 3) ls (v.toList ++ rest))) : W p l e R s m args below meth c H locs cells slots Q (F0 m pc ls (As.reverse ++ rest)) := by
  obtain ⟨b1, b2, b3, b4, b5, b6, b7, b8⟩ := zcallBJ (r := r) (mc := 0) (ms := 0) hc hm hne hts hf hl
  refine zcall_goG (va_runS (As := As) (y := r.1) (bytes := r.2.1) (maxL := r.2.2.1) (ret := r.2.2.2.1) (ws := zws r) (n := As.length) (mc := 0) (ms := 0) (Ts := zTb) (own := own) (nL := nL) ⟨hx, hb, hml, hown, hts⟩ hM ⟨⟨b1, b2, b3, b4, b5, b6, b7, hts _ h3, b8, zpar_len h5, hts _ h1⟩, hts _ h2⟩ ⟨zPx_blind hXb, fun U hU hW => ⟨⟨rfl, by rw [hU]; exact zHp_moved hW.alike hP, zK_warm hW hK⟩, hXb _ _ hW.alike hXs⟩⟩ rfl rfl hsz rfl ?_ hd ⟨hcells, hslots⟩) hloc fun H' locs' hP' hl' => kk H' locs' hP' hl'
  rw [show (F0 m pc ls (As.reverse ++ rest)).monitorRoom = 0 from rfl]
  omega
end ZJdk
