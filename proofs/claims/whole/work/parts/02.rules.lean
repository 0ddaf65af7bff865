/-! Rules of the small machine, one a kind of instruction, each an 'exactly when'. -/
section ZRules
variable {T : Nat → zX} {d x pc : Nat} {ls st : List zV} {w : zW} {M : zM} {Q : Option zV → zW → zM → Prop} {ins : Instr} {len : Nat} {aux : List Int} {pc' : Nat} {ls' st' : List zV}
theorem znl_i (a : Int) : znl (zi a) = true := rfl
theorem znl_r (k : Nat) : znl (zr k) = true := rfl
theorem znl_t : znl zt = true := rfl
theorem zwd_nil : zwd [] = 0 := rfl
theorem zwd_i (a : Int) (l : List zV) : zwd (zi a :: l) = 1 + zwd l := rfl
theorem zwd_r (k : Nat) (l : List zV) : zwd (zr k :: l) = 1 + zwd l := rfl
theorem zwd_l (a : Int) (l : List zV) : zwd (zl a :: l) = 2 + zwd l := rfl
theorem zG_stI {i : Nat} {a : Int} {v : zV} (hf : zfind (zcode T x) pc = some (ins, len, aux)) (h0 : zsStk ins (zi a :: st) = none) (h1 : zsLoc ins ls (zi a :: st) = zstI ls i (zi a :: st)) (hl : Nat.ble (i + 1) ls.length = true) (hv : zprev ls i = v) (hs : zput ls i (zi a) = ls') (hb : zsBr ins pc (zi a :: st) = none) (hm : zsMem ins aux (zi a :: st) w M = none) (hr : zsRet ins (zbool T x) (zi a :: st) = none) (hq : zsPrim ins aux (zi a :: st) w M = none) (hcl : zsCall ins aux (zi a :: st) w = none) (hp : pc' = pc + len) :
    zG T d x pc ls (zi a :: st) w M Q ↔ (znl v = true ∧ zG T d x pc' ls' st w M Q) := by
  have hl := Nat.le_of_ble_eq_true hl
  by_cases hz : znl v = true
  · have e : zstI ls i (zi a :: st) = some (ls', st) := by
      show (if i < ls.length ∧ znl (zprev ls i) = true then some (zput ls i (zi a), st) else none) = _
      rw [if_pos ⟨hl, by rw [hv]; exact hz⟩, hs]
    rw [zG_loc hf h0 (h1.trans e) hp]
    exact ⟨fun h => ⟨hz, h⟩, fun h => h.2⟩
  · have e : zstI ls i (zi a :: st) = none := by
      show (if i < ls.length ∧ znl (zprev ls i) = true then some (zput ls i (zi a), st) else none) = _
      rw [if_neg (fun h => hz (by rw [← hv]; exact h.2))]
    rw [zG_none (fun n => by rw [zrun]; simp only [hf, h0, h1.trans e, hb, hm, hr, hq, hcl])]
    exact ⟨False.elim, fun h => absurd h.1 hz⟩
theorem zG_stA {i k : Nat} {v : zV} (hf : zfind (zcode T x) pc = some (ins, len, aux)) (h0 : zsStk ins (zr k :: st) = none) (h1 : zsLoc ins ls (zr k :: st) = zstA ls i (zr k :: st)) (hl : Nat.ble (i + 1) ls.length = true) (hv : zprev ls i = v) (hs : zput ls i (zr k) = ls') (hb : zsBr ins pc (zr k :: st) = none) (hm : zsMem ins aux (zr k :: st) w M = none) (hr : zsRet ins (zbool T x) (zr k :: st) = none) (hq : zsPrim ins aux (zr k :: st) w M = none) (hcl : zsCall ins aux (zr k :: st) w = none) (hp : pc' = pc + len) :
    zG T d x pc ls (zr k :: st) w M Q ↔ (znl v = true ∧ zG T d x pc' ls' st w M Q) := by
  have hl := Nat.le_of_ble_eq_true hl
  by_cases hz : znl v = true
  · have e : zstA ls i (zr k :: st) = some (ls', st) := by
      show (if i < ls.length ∧ znl (zprev ls i) = true then some (zput ls i (zr k), st) else none) = _
      rw [if_pos ⟨hl, by rw [hv]; exact hz⟩, hs]
    rw [zG_loc hf h0 (h1.trans e) hp]
    exact ⟨fun h => ⟨hz, h⟩, fun h => h.2⟩
  · have e : zstA ls i (zr k :: st) = none := by
      show (if i < ls.length ∧ znl (zprev ls i) = true then some (zput ls i (zr k), st) else none) = _
      rw [if_neg (fun h => hz (by rw [← hv]; exact h.2))]
    rw [zG_none (fun n => by rw [zrun]; simp only [hf, h0, h1.trans e, hb, hm, hr, hq, hcl])]
    exact ⟨False.elim, fun h => absurd h.1 hz⟩
theorem zG_stL {i : Nat} {a : Int} {v : zV} (hf : zfind (zcode T x) pc = some (ins, len, aux)) (h0 : zsStk ins (zl a :: st) = none) (h1 : zsLoc ins ls (zl a :: st) = zstL ls i (zl a :: st)) (hl : Nat.ble (i + 2) ls.length = true) (hv : zprev ls i = v) (hs : zput (zput ls i (zl a)) (i + 1) zt = ls') (hb : zsBr ins pc (zl a :: st) = none) (hm : zsMem ins aux (zl a :: st) w M = none) (hr : zsRet ins (zbool T x) (zl a :: st) = none) (hq : zsPrim ins aux (zl a :: st) w M = none) (hcl : zsCall ins aux (zl a :: st) w = none) (hp : pc' = pc + len) :
    zG T d x pc ls (zl a :: st) w M Q ↔ (znl v = true ∧ zG T d x pc' ls' st w M Q) := by
  have hl := Nat.le_of_ble_eq_true hl
  by_cases hz : znl v = true
  · have e : zstL ls i (zl a :: st) = some (ls', st) := by
      show (if i + 1 < ls.length ∧ znl (zprev ls i) = true then some (zput (zput ls i (zl a)) (i + 1) zt, st) else none) = _
      rw [if_pos ⟨hl, by rw [hv]; exact hz⟩, hs]
    rw [zG_loc hf h0 (h1.trans e) hp]
    exact ⟨fun h => ⟨hz, h⟩, fun h => h.2⟩
  · have e : zstL ls i (zl a :: st) = none := by
      show (if i + 1 < ls.length ∧ znl (zprev ls i) = true then some (zput (zput ls i (zl a)) (i + 1) zt, st) else none) = _
      rw [if_neg (fun h => hz (by rw [← hv]; exact h.2))]
    rw [zG_none (fun n => by rw [zrun]; simp only [hf, h0, h1.trans e, hb, hm, hr, hq, hcl])]
    exact ⟨False.elim, fun h => absurd h.1 hz⟩
theorem zG_inc {i : Nat} {a n : Int} {v : zV} (hf : zfind (zcode T x) pc = some (.iinc i n, len, aux)) (hg : zget ls i = zi a) (hl : Nat.ble (i + 1) ls.length = true) (hv : zprev ls i = v) (hs : zput ls i (zi (a + n)) = ls') (hcl : zsCall (.iinc i n) aux st w = none) (hq : zsPrim (.iinc i n) aux st w M = none) (hp : pc' = pc + len) :
    zG T d x pc ls st w M Q ↔ (znl v = true ∧ zG T d x pc' ls' st w M Q) := by
  have hl := Nat.le_of_ble_eq_true hl
  have h1 : zsLoc (.iinc i n) ls st = if i < ls.length ∧ znl (zprev ls i) = true then some (zput ls i (zi (a + n)), st) else none := by
    show (match zget ls i with
      | .inl x => if i < ls.length ∧ znl (zprev ls i) = true then some (zput ls i (zi (x + n)), st) else none
      | _ => none) = _
    rw [hg]
    rfl
  by_cases hz : znl v = true
  · rw [if_pos ⟨hl, by rw [hv]; exact hz⟩, hs] at h1
    rw [zG_loc hf rfl h1 hp]
    exact ⟨fun h => ⟨hz, h⟩, fun h => h.2⟩
  · rw [if_neg (fun h => hz (by rw [← hv]; exact h.2))] at h1
    rw [zG_none (fun n => by rw [zrun]; simp only [hf, h1, zsStk, zsBr, zsMem, zsRet, hq, hcl])]
    exact ⟨False.elim, fun h => absurd h.1 hz⟩
theorem zG_ifP {p : Prop} [Decidable p] {c : Bool} {a b : Nat} (hf : zfind (zcode T x) pc = some (ins, len, aux)) (h0 : zsStk ins st = none) (h1 : zsLoc ins ls st = none) (h : zsBr ins pc st = some (if c = true then a else b, st')) (hc : c = true ↔ p) : zG T d x pc ls st w M Q ↔ (if p then zG T d x a ls st' w M Q else zG T d x b ls st' w M Q) := by
  rw [zG_if hf h0 h1 h]
  by_cases hp : p
  · rw [if_pos hp, if_pos (hc.mpr hp)]
  · rw [if_neg hp, if_neg (fun z => hp (hc.mp z))]
theorem zG_ifN {p : Prop} [Decidable p] {c : Bool} {a b : Nat} (hf : zfind (zcode T x) pc = some (ins, len, aux)) (h0 : zsStk ins st = none) (h1 : zsLoc ins ls st = none) (h : zsBr ins pc st = some (if c = true then a else b, st')) (hc : c = true ↔ ¬ p) : zG T d x pc ls st w M Q ↔ (if p then zG T d x b ls st' w M Q else zG T d x a ls st' w M Q) := by
  rw [zG_if hf h0 h1 h]
  by_cases hp : p
  · rw [if_pos hp, if_neg (fun z => hc.mp z hp)]
  · rw [if_neg hp, if_pos (hc.mpr hp)]
theorem zG_sw {a : Int} {dflt lo hi : Int} {offs : Array Int} (hf : zfind (zcode T x) pc = some (.tableswitch dflt lo hi offs, len, aux)) (hp : (if z32 a < lo ∨ hi < z32 a then ztgt pc dflt else ztgt pc (offs.toList.getD (z32 a - lo).toNat 0)) = pc') : zG T d x pc ls (zi a :: st) w M Q ↔ zG T d x pc' ls st w M Q :=
  zG_br hf rfl rfl (by show some (_, st) = some (pc', st); rw [hp])
/-- an instruction of the memory that goes on only if c -/
theorem zG_memC {c : Prop} [Decidable c] {w' : zW} {M' : zM} (hf : zfind (zcode T x) pc = some (ins, len, aux)) (h0 : zsStk ins st = none) (h1 : zsLoc ins ls st = none) (h2 : zsBr ins pc st = none) (h : zsMem ins aux st w M = if c then some (st', w', M') else none) (hr : zsRet ins (zbool T x) st = none) (hq : zsPrim ins aux st w M = none) (hcl : zsCall ins aux st w = none) (hp : pc' = pc + len) :
    zG T d x pc ls st w M Q ↔ (c ∧ zG T d x pc' ls st' w' M' Q) := by
  by_cases hc : c
  · rw [if_pos hc] at h
    rw [zG_mem hf h0 h1 h2 h hp]
    exact ⟨fun z => ⟨hc, z⟩, fun z => z.2⟩
  · rw [if_neg hc] at h
    rw [zG_none (fun n => by rw [zrun]; simp only [hf, h0, h1, h2, h, hr, hq, hcl])]
    exact ⟨False.elim, fun z => absurd z.1 hc⟩
variable {k t : Nat} {a b v : Int}
theorem zG_iald (hf : zfind (zcode T x) pc = some (.iaload, 1, [])) (hp : pc' = pc + 1) : zG T d x pc ls (zi a :: zr k :: st) w M Q ↔ (zA w k 0 (z32 a) ∧ zG T d x pc' ls (zi (M k (z32 a).toNat) :: st) w M Q) := by
  rw [← zAb_iff]; exact zG_memC hf rfl rfl rfl rfl rfl rfl rfl hp
theorem zG_lald (hf : zfind (zcode T x) pc = some (.laload, 1, [])) (hp : pc' = pc + 1) : zG T d x pc ls (zi a :: zr k :: st) w M Q ↔ (zA w k 3 (z32 a) ∧ zG T d x pc' ls (zl (M k (z32 a).toNat) :: st) w M Q) := by
  rw [← zAb_iff]; exact zG_memC hf rfl rfl rfl rfl rfl rfl rfl hp
theorem zG_bald (hf : zfind (zcode T x) pc = some (.baload, 1, [])) (hp : pc' = pc + 1) : zG T d x pc ls (zi a :: zr k :: st) w M Q ↔ ((zA w k 1 (z32 a) ∨ zA w k 2 (z32 a)) ∧ zG T d x pc' ls (zi (M k (z32 a).toNat) :: st) w M Q) := by
  rw [← zAb_iff, ← zAb_iff, ← Bool.or_eq_true]; exact zG_memC hf rfl rfl rfl rfl rfl rfl rfl hp
theorem zG_aald (hf : zfind (zcode T x) pc = some (.aaload, 1, [])) (hp : pc' = pc + 1) : zG T d x pc ls (zi a :: zr k :: st) w M Q ↔ (((zA w k 4 (z32 a) ∨ zA w k 5 (z32 a)) ∧ ¬ w.2 k (z32 a).toNat = 0) ∧ zG T d x pc' ls (zr (w.2 k (z32 a).toNat) :: st) w M Q) := by
  rw [← zAb_iff, ← zAb_iff, ← Bool.or_eq_true]; exact zG_memC hf rfl rfl rfl rfl rfl rfl rfl hp
theorem zG_iast (hf : zfind (zcode T x) pc = some (.iastore, 1, [])) (hp : pc' = pc + 1) : zG T d x pc ls (zi v :: zi a :: zr k :: st) w M Q ↔ (zAs w k 0 (z32 a) ∧ zG T d x pc' ls st w (zu M k (z32 a).toNat v) Q) := by
  rw [← zAsb_iff]; exact zG_memC hf rfl rfl rfl rfl rfl rfl rfl hp
theorem zG_last (hf : zfind (zcode T x) pc = some (.lastore, 1, [])) (hp : pc' = pc + 1) : zG T d x pc ls (zl v :: zi a :: zr k :: st) w M Q ↔ (zAs w k 3 (z32 a) ∧ zG T d x pc' ls st w (zu M k (z32 a).toNat v) Q) := by
  rw [← zAsb_iff]; exact zG_memC hf rfl rfl rfl rfl rfl rfl rfl hp
theorem zG_bast (hf : zfind (zcode T x) pc = some (.bastore, 1, [])) (hp : pc' = pc + 1) : zG T d x pc ls (zi v :: zi a :: zr k :: st) w M Q ↔ ((zAs w k 1 (z32 a) ∧ zG T d x pc' ls st w (zu M k (z32 a).toNat (z8 v)) Q) ∨ (zAs w k 2 (z32 a) ∧ (v = 0 ∨ v = 1) ∧ zG T d x pc' ls st w (zu M k (z32 a).toNat v) Q)) := by
  have h : zsMem .bastore [] (zi v :: zi a :: zr k :: st) w M = if zAsb w k 1 (z32 a) = true then some (st, w, zu M k (z32 a).toNat (z8 v)) else if zAsb w k 2 (z32 a) = true ∧ (v = 0 ∨ v = 1) then some (st, w, zu M k (z32 a).toNat v) else none := rfl
  by_cases h1 : zAs w k 1 (z32 a)
  · rw [if_pos (zAsb_iff.mpr h1)] at h
    rw [zG_mem hf rfl rfl rfl h hp]
    exact ⟨fun z => .inl ⟨h1, z⟩, fun z => z.elim (fun q => q.2) (fun q => by have e1 := h1.1.2.1; have e2 := q.1.1.2.1; omega)⟩
  · rw [if_neg (fun z => h1 (zAsb_iff.mp z))] at h
    rw [zG_memC (c := zAsb w k 2 (z32 a) = true ∧ (v = 0 ∨ v = 1)) hf rfl rfl rfl h rfl rfl rfl hp, zAsb_iff]
    exact ⟨fun z => .inr ⟨z.1.1, z.1.2, z.2⟩, fun z => z.elim (fun q => absurd q.1 h1) (fun q => ⟨⟨q.1, q.2.1⟩, q.2.2⟩)⟩
theorem zG_alen (hf : zfind (zcode T x) pc = some (.arraylength, 1, [])) (hp : pc' = pc + 1) : zG T d x pc ls (zr k :: st) w M Q ↔ ((zsh w k).1 = 1 ∧ zG T d x pc' ls (zi (zsh w k).2.2 :: st) w M Q) :=
  zG_memC hf rfl rfl rfl rfl rfl rfl rfl hp
variable {i : Nat} {q c j ty : Int} {cn jn : Nat}
theorem zG_getI (hf : zfind (zcode T x) pc = some (.getfield i, 3, [q, c, j, 0])) (hc : c.toNat = cn) (hj : j.toNat = jn) (hp : pc' = pc + 3) : zG T d x pc ls (zr k :: st) w M Q ↔ (zO w k cn jn ∧ zG T d x pc' ls (zi (M k jn) :: st) w M Q) := by
  subst hc; subst hj; rw [← zOb_iff]; exact zG_memC hf rfl rfl rfl rfl rfl rfl rfl hp
theorem zG_getL (hf : zfind (zcode T x) pc = some (.getfield i, 3, [q, c, j, 3])) (hc : c.toNat = cn) (hj : j.toNat = jn) (hp : pc' = pc + 3) : zG T d x pc ls (zr k :: st) w M Q ↔ (zO w k cn jn ∧ zG T d x pc' ls (zl (M k jn) :: st) w M Q) := by
  subst hc; subst hj; rw [← zOb_iff]; exact zG_memC hf rfl rfl rfl rfl rfl rfl rfl hp
theorem zG_getA (hf : zfind (zcode T x) pc = some (.getfield i, 3, [q, c, j, 4])) (hc : c.toNat = cn) (hj : j.toNat = jn) (hp : pc' = pc + 3) : zG T d x pc ls (zr k :: st) w M Q ↔ (zO w k cn jn ∧ ¬ w.2 k jn = 0 ∧ zG T d x pc' ls (zr (w.2 k jn) :: st) w M Q) := by
  subst hc; subst hj
  rw [← zOb_iff]
  have h : zsMem (.getfield i) [q, c, j, 4] (zr k :: st) w M = if zOb w k c.toNat j.toNat = true then (if w.2 k j.toNat = 0 then none else some (zr (w.2 k j.toNat) :: st, w, M)) else none := rfl
  by_cases h0 : w.2 k j.toNat = 0
  · simp only [h0, if_true, ite_self] at h
    rw [zG_none (fun n => by rw [zrun]; simp only [hf, zsStk, zsLoc, zsBr, h, zsRet, zsPrim, zsCall])]
    exact ⟨False.elim, fun z => absurd h0 z.2.1⟩
  · rw [if_neg h0] at h
    rw [zG_memC hf rfl rfl rfl h rfl rfl rfl hp]
    exact ⟨fun z => ⟨z.1, h0, z.2⟩, fun z => ⟨z.1, z.2.2⟩⟩
theorem zG_putI (hf : zfind (zcode T x) pc = some (.putfield i, 3, [q, c, j, 0])) (hc : c.toNat = cn) (hj : j.toNat = jn) (hp : pc' = pc + 3) : zG T d x pc ls (zi v :: zr k :: st) w M Q ↔ (zO w k cn jn ∧ zG T d x pc' ls st w (zu M k jn v) Q) := by
  subst hc; subst hj
  rw [← zOb_iff, zG_memC (c := zOb w k c.toNat j.toNat = true ∧ (0 : Int) = 0) hf rfl rfl rfl rfl rfl rfl rfl hp]
  exact ⟨fun z => ⟨z.1.1, z.2⟩, fun z => ⟨⟨z.1, rfl⟩, z.2⟩⟩
theorem zG_putL (hf : zfind (zcode T x) pc = some (.putfield i, 3, [q, c, j, 3])) (hc : c.toNat = cn) (hj : j.toNat = jn) (hp : pc' = pc + 3) : zG T d x pc ls (zl v :: zr k :: st) w M Q ↔ (zO w k cn jn ∧ zG T d x pc' ls st w (zu M k jn v) Q) := by
  subst hc; subst hj
  rw [← zOb_iff, zG_memC (c := zOb w k c.toNat j.toNat = true ∧ (3 : Int) = 3) hf rfl rfl rfl rfl rfl rfl rfl hp]
  exact ⟨fun z => ⟨z.1.1, z.2⟩, fun z => ⟨⟨z.1, rfl⟩, z.2⟩⟩
theorem zG_putA {u : Nat} (hf : zfind (zcode T x) pc = some (.putfield i, 3, [q, c, j, 4])) (hc : c.toNat = cn) (hj : j.toNat = jn) (hp : pc' = pc + 3) : zG T d x pc ls (zr u :: zr k :: st) w M Q ↔ (zO w k cn jn ∧ 0 < u ∧ zG T d x pc' ls st (w.1, zu w.2 k jn u) M Q) := by
  subst hc; subst hj
  rw [← zOb_iff, zG_memC (c := zOb w k c.toNat j.toNat = true ∧ (4 : Int) = 4 ∧ 0 < u) hf rfl rfl rfl rfl rfl rfl rfl hp]
  exact ⟨fun z => ⟨z.1.1, z.1.2.2, z.2⟩, fun z => ⟨⟨z.1, rfl, z.2.1⟩, z.2.2⟩⟩
theorem zG_new {q1 q2 q3 c n : Int} {cn nn : Nat} (hf : zfind (zcode T x) pc = some (.new i, 3, [q1, q2, q3, c, n])) (hc : c.toNat = cn) (hn : n.toNat = nn) (hp : pc' = pc + 3) : zG T d x pc ls st w M Q ↔ zG T d x pc' ls (zr w.1.length :: st) (w.1 ++ [(0, cn, nn)], zo w.2 w.1.length (fun _ => 0)) (zo M w.1.length (fun _ => 0)) Q := by
  subst hc; subst hn
  exact zG_mem hf rfl rfl rfl rfl hp
theorem zG_newa {at' : ArrayType} (hf : zfind (zcode T x) pc = some (.newarray at', 2, [q])) (hp : pc' = pc + 2) : zG T d x pc ls (zi a :: st) w M Q ↔ ((0 ≤ z32 a ∧ z32 a ≤ 100000) ∧ zG T d x pc' ls (zr w.1.length :: st) (w.1 ++ [(1, zatype at', (z32 a).toNat)], zo w.2 w.1.length (fun _ => 0)) (zo M w.1.length (fun _ => 0)) Q) :=
  zG_memC hf rfl rfl rfl rfl rfl rfl rfl hp
theorem zG_mna {dm : Nat} {t : Int} (hf : zfind (zcode T x) pc = some (.multianewarray i dm, 4, [q, t])) (hp : pc' = pc + 4) : zG T d x pc ls (zi b :: zi a :: st) w M Q ↔ ((0 ≤ z32 a ∧ z32 a ≤ 1000 ∧ 0 ≤ z32 b ∧ z32 b ≤ 1000) ∧ zG T d x pc' ls (zr w.1.length :: st) (w.1 ++ (1, t.toNat, (z32 a).toNat) :: List.replicate (z32 a).toNat (1, (if t = 5 then 3 else 0), (z32 b).toNat), fun q => if w.1.length ≤ q then (fun j => if q = w.1.length then q + 1 + j else 0) else w.2 q) (fun q => if w.1.length ≤ q then (fun _ => 0) else M q) Q) :=
  zG_memC hf rfl rfl rfl rfl rfl rfl rfl hp
theorem zG_prR {v : Int} (hf : zfind (zcode T x) pc = some (.ireturn, 1, [])) (hb : zbool T x = true) : zG T d x pc ls [zi v] w M Q ↔ ((v = 0 ∨ v = 1) ∧ Q (some (zi v)) w M) := by
  by_cases hv : v = 0 ∨ v = 1
  · rw [zG_ret (v := some (zi v)) hf rfl rfl rfl rfl (by rw [hb]; show (if (true : Bool) = true then (if v = 0 ∨ v = 1 then some (some (zi v)) else none) else some (some (zi v))) = _; rw [if_pos rfl, if_pos hv])]
    exact ⟨fun z => ⟨hv, z⟩, fun z => z.2⟩
  · have e : zsRet .ireturn true [zi v] = none := by
      show (if (true : Bool) = true then (if v = 0 ∨ v = 1 then some (some (zi v)) else none) else some (some (zi v))) = _
      rw [if_pos rfl, if_neg hv]
    rw [zG_none (fun n => by rw [zrun]; simp only [hf, zsStk, zsLoc, zsBr, zsMem, hb, e, zsPrim, zsCall])]
    exact ⟨False.elim, fun z => absurd z.1 hv⟩
theorem zG_callS {y n cc nest : Int} {rr : List Int} {yn : Nat} (as' : List zV) {L : List zV} {r : List zV} (hf : zfind (zcode T x) pc = some (.invokestatic i, 3, y :: n :: cc :: nest :: rr)) (hy : y = (yn : Int)) (hn : n = (as'.length : Int)) (hlen : Nat.ble (zlay as'.reverse).length (zmaxL T yn) = true) (hL : zpad (zmaxL T yn) (zlay as'.reverse) = L) (hp : pc' = pc + 3) :
    zG T d x pc ls (as' ++ r) w M Q ↔ (0 < d ∧ zwd r ≤ 8 ∧ zG T (d - 1) yn 0 L [] w M (fun v w' M' => zG T d x pc' ls (v.toList ++ r) w' M' Q)) := by
  subst hy; subst hn; subst hL
  have hd : (as' ++ r).drop as'.length = r := List.drop_left
  have ht : (as' ++ r).take as'.length = as' := List.take_left
  have hpr : zsPrim (.invokestatic i) (↑yn :: ↑as'.length :: cc :: nest :: rr) (as' ++ r) w M = none := by
    simp only [zsPrim, zsPrS]
    rw [if_neg (by omega), if_neg (by omega), if_neg (by omega), if_neg (by omega)]
  by_cases hw : zwd r ≤ 8
  · have e : zsCall (.invokestatic i) (↑yn :: ↑as'.length :: cc :: nest :: rr) (as' ++ r) w = some (yn, as'.reverse, r) := by
      show (if (yn : Int) < 0 ∨ (as' ++ r).length < ((as'.length : Int)).toNat ∨ 8 < zwd ((as' ++ r).drop ((as'.length : Int)).toNat) then none else some (((yn : Int)).toNat, ((as' ++ r).take ((as'.length : Int)).toNat).reverse, (as' ++ r).drop ((as'.length : Int)).toNat)) = _
      rw [Int.toNat_natCast, Int.toNat_natCast, hd, ht, if_neg (by rw [List.length_append]; omega)]
    rw [zG_call hf rfl rfl rfl rfl rfl hpr e hlen hp]
    exact ⟨fun z => ⟨z.1, hw, z.2⟩, fun z => ⟨z.1, z.2.2⟩⟩
  · have e : zsCall (.invokestatic i) (↑yn :: ↑as'.length :: cc :: nest :: rr) (as' ++ r) w = none := by
      show (if (yn : Int) < 0 ∨ (as' ++ r).length < ((as'.length : Int)).toNat ∨ 8 < zwd ((as' ++ r).drop ((as'.length : Int)).toNat) then none else some (((yn : Int)).toNat, ((as' ++ r).take ((as'.length : Int)).toNat).reverse, (as' ++ r).drop ((as'.length : Int)).toNat)) = _
      rw [Int.toNat_natCast, Int.toNat_natCast, hd, if_pos (by omega)]
    rw [zG_none (fun n => by rw [zrun]; simp only [hf, zsStk, zsLoc, zsBr, zsMem, zsRet, hpr, e])]
    exact ⟨False.elim, fun z => absurd z.2.1 hw⟩
theorem zG_callO {y n cc nest : Int} {rr : List Int} {yn cn : Nat} (as' : List zV) {L : List zV} {r : List zV} (hi : ins = .invokevirtual i ∨ ins = .invokespecial i) (hf : zfind (zcode T x) pc = some (ins, 3, y :: n :: cc :: nest :: rr)) (hy : y = (yn : Int)) (hn : n = (as'.length : Int) + 1) (hc : cc.toNat = cn) (hlen : Nat.ble (zlay (zr k :: as'.reverse)).length (zmaxL T yn) = true) (hL : zpad (zmaxL T yn) (zlay (zr k :: as'.reverse)) = L) (hp : pc' = pc + 3) :
    zG T d x pc ls (as' ++ zr k :: r) w M Q ↔ (0 < d ∧ zwd r ≤ 8 ∧ ((zsh w k).1 = 0 ∧ (zsh w k).2.1 = cn) ∧ zG T (d - 1) yn 0 L [] w M (fun v w' M' => zG T d x pc' ls (v.toList ++ r) w' M' Q)) := by
  subst hy; subst hn; subst hL; subst hc
  have hnn : ((as'.length : Int) + 1).toNat = (as' ++ [zr k]).length := by rw [List.length_append]; show _ = as'.length + 1; omega
  have hx : as' ++ zr k :: r = (as' ++ [zr k]) ++ r := by rw [List.append_assoc]; rfl
  have hd : ((as' ++ [zr k]) ++ r).drop (as' ++ [zr k]).length = r := List.drop_left
  have ht : ((as' ++ [zr k]) ++ r).take (as' ++ [zr k]).length = as' ++ [zr k] := List.take_left
  have hrev : (as' ++ [zr k]).reverse = zr k :: as'.reverse := by rw [List.reverse_append]; rfl
  have hy0 : ¬ ((yn : Int) < 0) := by omega
  have hstk : zsStk ins (as' ++ zr k :: r) = none := by rcases hi with rfl | rfl <;> rfl
  have hloc : zsLoc ins ls (as' ++ zr k :: r) = none := by rcases hi with rfl | rfl <;> rfl
  have hbr : zsBr ins pc (as' ++ zr k :: r) = none := by rcases hi with rfl | rfl <;> rfl
  have hmem : zsMem ins (↑yn :: (↑as'.length + 1) :: cc :: nest :: rr) (as' ++ zr k :: r) w M = none := by rcases hi with rfl | rfl <;> rfl
  have hret : zsRet ins (zbool T x) (as' ++ zr k :: r) = none := by rcases hi with rfl | rfl <;> rfl
  have hpr : zsPrim ins (↑yn :: (↑as'.length + 1) :: cc :: nest :: rr) (as' ++ zr k :: r) w M = none := by
    rcases hi with rfl | rfl
    · simp only [zsPrim, zsPrV]
      rw [if_neg (by omega), if_neg (by omega)]
    · simp only [zsPrim, zsPrI]
      rw [if_neg (by omega)]
  have e : zsCall ins (↑yn :: (↑as'.length + 1) :: cc :: nest :: rr) (as' ++ zr k :: r) w = if zwd r ≤ 8 ∧ ((zsh w k).1 = 0 ∧ (zsh w k).2.1 = cc.toNat) then some (yn, zr k :: as'.reverse, r) else none := by
    have e0 : zsCall ins (↑yn :: (↑as'.length + 1) :: cc :: nest :: rr) (as' ++ zr k :: r) w = zsCalO (↑yn :: (↑as'.length + 1) :: cc :: nest :: rr) (as' ++ zr k :: r) w := by rcases hi with rfl | rfl <;> rfl
    rw [e0, zsCalO, hnn, hx, hd, ht, hrev]
    by_cases hw : zwd r ≤ 8
    · rw [if_neg (by rw [List.length_append]; omega)]
      simp only [zr, hw, true_and, Int.toNat_natCast]
    · rw [if_pos (by omega), if_neg (fun z => hw z.1)]
  by_cases hg : zwd r ≤ 8 ∧ ((zsh w k).1 = 0 ∧ (zsh w k).2.1 = cc.toNat)
  · rw [if_pos hg] at e
    rw [zG_call hf hstk hloc hbr hmem hret hpr e hlen hp]
    exact ⟨fun z => ⟨z.1, hg.1, hg.2, z.2⟩, fun z => ⟨z.1, z.2.2.2⟩⟩
  · rw [if_neg hg] at e
    rw [zG_none (fun n => by rw [zrun]; simp only [hf, hstk, hloc, hbr, hmem, hret, hpr, e])]
    exact ⟨False.elim, fun z => absurd ⟨z.2.1, z.2.2.1⟩ hg⟩
theorem zG_primC {c : Prop} [Decidable c] (hf : zfind (zcode T x) pc = some (ins, len, aux)) (h0 : zsStk ins st = none) (h1 : zsLoc ins ls st = none) (h2 : zsBr ins pc st = none) (h3 : zsMem ins aux st w M = none) (h4 : zsRet ins (zbool T x) st = none) (h : zsPrim ins aux st w M = if c then some st' else none) (hcl : zsCall ins aux st w = none) (hp : pc' = pc + len) : zG T d x pc ls st w M Q ↔ (20 ≤ d ∧ c ∧ zG T d x pc' ls st' w M Q) := by
  by_cases hc : c
  · rw [if_pos hc] at h
    rw [zG_prim hf h0 h1 h2 h3 h4 h hp]
    exact ⟨fun z => ⟨z.1, hc, z.2⟩, fun z => ⟨z.1, z.2.2⟩⟩
  · rw [if_neg hc] at h
    rw [zG_none (fun n => by rw [zrun]; simp only [hf, h0, h1, h2, h3, h4, h, hcl])]
    exact ⟨False.elim, fun z => absurd z.2.1 hc⟩
theorem zG_pInit {rr : List Int} (hf : zfind (zcode T x) pc = some (.invokespecial i, 3, (-1 : Int) :: rr)) (hp : pc' = pc + 3) (hcl : zsCall (.invokespecial i) ((-1 : Int) :: rr) (zr k :: st) w = none := by rfl) : zG T d x pc ls (zr k :: st) w M Q ↔ (20 ≤ d ∧ zwd st ≤ 8 ∧ zG T d x pc' ls st w M Q) :=
  zG_primC hf rfl rfl rfl rfl rfl rfl hcl hp
theorem zG_pMin {rr : List Int} (hf : zfind (zcode T x) pc = some (.invokestatic i, 3, (-4 : Int) :: rr)) (hp : pc' = pc + 3) (hcl : zsCall (.invokestatic i) ((-4 : Int) :: rr) (zi b :: zi a :: st) w = none := by rfl) : zG T d x pc ls (zi b :: zi a :: st) w M Q ↔ (20 ≤ d ∧ zwd st ≤ 8 ∧ zG T d x pc' ls (zi (zmin a b) :: st) w M Q) :=
  zG_primC hf rfl rfl rfl rfl rfl rfl hcl hp
theorem zG_pMax {rr : List Int} (hf : zfind (zcode T x) pc = some (.invokestatic i, 3, (-5 : Int) :: rr)) (hp : pc' = pc + 3) (hcl : zsCall (.invokestatic i) ((-5 : Int) :: rr) (zi b :: zi a :: st) w = none := by rfl) : zG T d x pc ls (zi b :: zi a :: st) w M Q ↔ (20 ≤ d ∧ zwd st ≤ 8 ∧ zG T d x pc' ls (zi (zmax a b) :: st) w M Q) :=
  zG_primC hf rfl rfl rfl rfl rfl rfl hcl hp
theorem zG_pAbs {rr : List Int} (hf : zfind (zcode T x) pc = some (.invokestatic i, 3, (-6 : Int) :: rr)) (hp : pc' = pc + 3) (hcl : zsCall (.invokestatic i) ((-6 : Int) :: rr) (zi a :: st) w = none := by rfl) : zG T d x pc ls (zi a :: st) w M Q ↔ (20 ≤ d ∧ zwd st ≤ 8 ∧ zG T d x pc' ls (zi (zabs a) :: st) w M Q) :=
  zG_primC hf rfl rfl rfl rfl rfl rfl hcl hp
theorem zG_pAbsL {rr : List Int} (hf : zfind (zcode T x) pc = some (.invokestatic i, 3, (-7 : Int) :: rr)) (hp : pc' = pc + 3) (hcl : zsCall (.invokestatic i) ((-7 : Int) :: rr) (zl a :: st) w = none := by rfl) : zG T d x pc ls (zl a :: st) w M Q ↔ (20 ≤ d ∧ zwd st ≤ 8 ∧ zG T d x pc' ls (zl (zlabs a) :: st) w M Q) :=
  zG_primC hf rfl rfl rfl rfl rfl rfl hcl hp
theorem zG_pLen {rr : List Int} (hf : zfind (zcode T x) pc = some (.invokevirtual i, 3, (-2 : Int) :: rr)) (hw : zwd st ≤ 8) (hk : (zsh w k).1 = 2) (hp : pc' = pc + 3) : zG T d x pc ls (zr k :: st) w M Q ↔ (20 ≤ d ∧ zG T d x pc' ls (zi (zsh w k).2.2 :: st) w M Q) :=
  zG_prim hf rfl rfl rfl rfl rfl (by simp [zsPrim, zsPrV, zr, hk, hw]) hp
theorem zG_pAt {rr : List Int} (hf : zfind (zcode T x) pc = some (.invokevirtual i, 3, (-3 : Int) :: rr)) (hw : zwd st ≤ 8) (hk : (zsh w k).1 = 2) (h1 : 0 ≤ z32 a) (h2 : z32 a < (zsh w k).2.2) (hp : pc' = pc + 3) : zG T d x pc ls (zi a :: zr k :: st) w M Q ↔ (20 ≤ d ∧ zG T d x pc' ls (zi (M k (z32 a).toNat) :: st) w M Q) :=
  zG_prim hf rfl rfl rfl rfl rfl (by simp [zsPrim, zsPrV, zr, zi, hk, hw, h1, h2]) hp
end ZRules
theorem zG_stkD {T : Nat → zX} {d x pc pc' : Nat} {ls st st' : List zV} {w : zW} {M : zM} {Q : Option zV → zW → zM → Prop} {ins : Instr} {len : Nat} {aux : List Int} {c : Int} (hf : zfind (zcode T x) pc = some (ins, len, aux)) (h : zsStk ins st = if c = 0 then none else some st') (hn : (zsLoc ins ls st, zsBr ins pc st, zsMem ins aux st w M, zsPrim ins aux st w M, zsCall ins aux st w) = (none, none, none, none, none)) (hr : ∀ b, zsRet ins b st = none) (hp : pc' = pc + len) : zG T d x pc ls st w M Q ↔ (¬ c = 0 ∧ zG T d x pc' ls st' w M Q) := by
  by_cases hc : c = 0
  · rw [if_pos hc] at h
    simp only [Prod.mk.injEq] at hn
    rw [zG_none (fun n => by rw [zrun]; simp only [hf, h, hn, hr])]
    exact ⟨False.elim, fun z => absurd hc z.1⟩
  · rw [if_neg hc] at h
    rw [zG_stk hf h hp]
    exact ⟨fun z => ⟨hc, z⟩, fun z => z.2⟩
