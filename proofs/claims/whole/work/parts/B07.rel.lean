/-! What ties the small machine to the machine: values, locals, heap; what a row of the tables must be. -/
def zcv (ad : Nat → Nat) (v : zV) : Value := match v with
  | .inl x => .int (Int32.ofInt x)
  | .inr (.inl x) => .long (Int64.ofInt x)
  | .inr (.inr (.inl k)) => .ref (ad k)
  | .inr (.inr (.inr _)) => .null
theorem zcv_i (ad : Nat → Nat) (x : Int) : zcv ad (zi x) = .int (Int32.ofInt x) := rfl
theorem zcv_l (ad : Nat → Nat) (x : Int) : zcv ad (zl x) = .long (Int64.ofInt x) := rfl
theorem zcv_r (ad : Nat → Nat) (k : Nat) : zcv ad (zr k) = .ref (ad k) := rfl
def zLoc (ad : Nat → Nat) (ls : List zV) (lsC : Array Slot) : Prop := lsC.size = ls.length ∧ lv_wf lsC ∧ ∀ (i : Nat) (v : zV), ls[i]? = some v → v ≠ zt → lsC[i]? = some (.val (zcv ad v))
def zVal (ad : Nat → Nat) (ty : FieldType) (r : Nat) (m : Int) : Value := match ty with
  | .int => .int (Int32.ofInt m)
  | .long => .long (Int64.ofInt m)
  | _ => if r = 0 then .null else .ref (ad r)
def zat (t : Nat) : FieldType := match t with
  | 0 => .int
  | 1 => .byte
  | 2 => .boolean
  | 3 => .long
  | 4 => .array .int
  | _ => .array .long
def zAv (ad : Nat → Nat) (t : Nat) (r : Nat) (m : Int) : Value := match t with
  | 0 => .int (Int32.ofInt m)
  | 1 => .int (Int32.ofInt m)
  | 2 => .int (Int32.ofInt m)
  | 3 => .long (Int64.ofInt m)
  | _ => if r = 0 then .null else .ref (ad r)
def zObj (D : va_G) (ad : Nat → Nat) (H : Heap) (k c n : Nat) (r : Nat → Nat) (m : Nat → Int) : Prop :=
  ∃ q : vw_C, vwCl[c]? = some q ∧ q.2.2 = n ∧ t_OB (ad k) (D.1 c) n (D.2 c) H (fun j => zVal ad (zty c j) (r j) (m j))
def zArr (ad : Nat → Nat) (s : State) (H : Heap) (k t n : Nat) (r : Nat → Nat) (m : Nat → Int) : Prop :=
  ∃ cell : Cell, H[ad k]? = some cell ∧ s.isArrayOf cell (zat t) ∧ cell.vm ≠ .unknown ∧ cell.slots.size = n ∧ ∀ j, j < n → cell.slots[j]? = some (zAv ad t (r j) (m j))
def zCell (D : va_G) (ad : Nat → Nat) (s : State) (w : zW) (M : zM) (H : Heap) (k : Nat) : Prop :=
  ((zsh w k).1 = 0 → zObj D ad H k (zsh w k).2.1 (zsh w k).2.2 (w.2 k) (M k)) ∧ ((zsh w k).1 = 1 → zArr ad s H k (zsh w k).2.1 (zsh w k).2.2 (w.2 k) (M k))
def zsch (i j : Nat) : Int := ((zsB.getD i []).getD j 0).toInt
/-- the six texts, as the small machine has them -/
def zTx (w : zW) (M : zM) : Prop := (∀ i, i < 6 → zsh w (2 + i) = (2, i, zsN.getD i 0) ∧ ∀ j, j < zsN.getD i 0 → M (2 + i) j = zsch i j) ∧ ∀ k, (zsh w k).1 = 2 → 2 ≤ k ∧ k < 8
/-- the heap holds the small machine's world: from the cell base on its own objects (8 and on), below it what was there -/
def zHp (D : va_G) (ad : Nat → Nat) (base : Nat) (Hb : Heap) (s : State) (w : zW) (M : zM) (H : Heap) : Prop :=
  (∀ k, zCell D ad s w M H k) ∧ (∀ k, 8 ≤ k → ad k = base + (k - 8)) ∧ H.size = base + (w.1.length - 8) ∧ 8 ≤ w.1.length ∧ (∀ q, q < base → H[q]? = Hb[q]?) ∧ (∀ k, k < 8 → (zsh w k).1 ≠ 0) ∧ (∀ k, k < 8 → ad k < base) ∧ zTx w M
theorem zgetS_ge : ∀ (l : List zSh) (k : Nat), l.length ≤ k → zgetS l k = (9, 0, 0)
  | [], _, _ => rfl
  | _ :: _, 0, h => absurd h (by simp)
  | _ :: l, k + 1, h => zgetS_ge l k (by simpa using h)
theorem zgetS_mem : ∀ (l : List zSh) (k : Nat), zgetS l k = (9, 0, 0) ∨ zgetS l k ∈ l
  | [], _ => Or.inl rfl
  | _ :: _, 0 => Or.inr List.mem_cons_self
  | _ :: l, k + 1 => (zgetS_mem l k).imp id fun h => List.mem_cons_of_mem _ h
theorem zgetS_left : ∀ (l x : List zSh) (k : Nat), k < l.length → zgetS (l ++ x) k = zgetS l k
  | [], _, _, h => absurd h (by simp)
  | _ :: _, _, 0, _ => rfl
  | _ :: l, x, k + 1, h => zgetS_left l x k (by simpa using h)
theorem zgetS_right : ∀ (l x : List zSh) (k : Nat), zgetS (l ++ x) (l.length + k) = zgetS x k
  | [], x, k => by simp
  | a :: l, x, k => by
    show zgetS (a :: (l ++ x)) (l.length + 1 + k) = _
    rw [show l.length + 1 + k = (l.length + k) + 1 by omega]
    exact zgetS_right l x k
theorem zsh_lt {w : zW} {k : Nat} (h : (zsh w k).1 ≠ 9) : k < w.1.length := by
  rcases Nat.lt_or_ge k w.1.length with h1 | h1
  · exact h1
  · exact absurd (by unfold zsh; rw [zgetS_ge _ _ h1]) h
theorem zHp_ge {D : va_G} {ad : Nat → Nat} {base : Nat} {Hb : Heap} {s : State} {w : zW} {M : zM} {H : Heap} (h : zHp D ad base Hb s w M H) {k : Nat} (hk : (zsh w k).1 = 0) : 8 ≤ k := by
  rcases Nat.lt_or_ge k 8 with h1 | h1
  · exact absurd hk (h.2.2.2.2.2.1 k h1)
  · exact h1
theorem zHp_inj {D : va_G} {ad : Nat → Nat} {base : Nat} {Hb : Heap} {s : State} {w : zW} {M : zM} {H : Heap} (h : zHp D ad base Hb s w M H) {k k' : Nat} (hk : 8 ≤ k) (hne : k' ≠ k) : ad k' ≠ ad k := by
  have h1 := h.2.1 k hk
  rcases Nat.lt_or_ge k' 8 with h2 | h2
  · have := h.2.2.2.2.2.2.1 k' h2; omega
  · have := h.2.1 k' h2; omega
theorem zObj_same {D : va_G} {ad : Nat → Nat} {H H1 : Heap} {k c n : Nat} {r r' : Nat → Nat} {m m' : Nat → Int} (h : zObj D ad H k c n r m) (hH : H1[ad k]? = H[ad k]?) (hr : r' = r) (hm : m' = m) : zObj D ad H1 k c n r' m' := by
  subst hr; subst hm
  obtain ⟨q, h1, h2, h3⟩ := h
  exact ⟨q, h1, h2, h3.kept hH⟩
theorem zArr_same {ad : Nat → Nat} {s : State} {H H1 : Heap} {k t n : Nat} {r r' : Nat → Nat} {m m' : Nat → Int} (h : zArr ad s H k t n r m) (hH : H1[ad k]? = H[ad k]?) (hr : r' = r) (hm : m' = m) : zArr ad s H1 k t n r' m' := by
  subst hr; subst hm
  obtain ⟨cell, h1, h2⟩ := h
  exact ⟨cell, by rw [hH]; exact h1, h2⟩
theorem zHp_moved {D : va_G} {ad : Nat → Nat} {base : Nat} {Hb : Heap} {s U : State} {w : zW} {M : zM} {H : Heap} (hvm : s.vm.Alike U.vm) (h : zHp D ad base Hb s w M H) : zHp D ad base Hb U w M H := by
  refine ⟨fun k => ⟨(h.1 k).1, fun hk => ?_⟩, h.2⟩
  obtain ⟨cell, h1, h2, h3⟩ := (h.1 k).2 hk
  exact ⟨cell, h1, State.isArrayOf_alike hvm h2, h3⟩
theorem zu_self {α : Type} (M : Nat → Nat → α) (k j : Nat) (v : α) : zu M k j v k = fun b => if b = j then v else M k b := by
  funext b; simp [zu]
theorem zu_ne {α : Type} (M : Nat → Nat → α) {k k' : Nat} (j : Nat) (v : α) (h : k' ≠ k) : zu M k j v k' = M k' := by
  funext b; simp [zu, h]
theorem zo_self {α : Type} (M : Nat → Nat → α) (k : Nat) (f : Nat → α) : zo M k f k = f := by simp [zo]
theorem zo_ne {α : Type} (M : Nat → Nat → α) {k k' : Nat} (f : Nat → α) (h : k' ≠ k) : zo M k f k' = M k' := by simp [zo, h]
/-- one cell changes: the rest of the world stands -/
theorem zHp_put {D : va_G} {ad : Nat → Nat} {base : Nat} {Hb : Heap} {s : State} {w : zW} {M : zM} {H H1 : Heap} (h : zHp D ad base Hb s w M H) {k j : Nat} {v : Int} (hk : 8 ≤ k) (e2 : H1.size = H.size) (e3 : ∀ q, q ≠ ad k → H1[q]? = H[q]?)
    (hc : zCell D ad s w (zu M k j v) H1 k) : zHp D ad base Hb s w (zu M k j v) H1 := by
  obtain ⟨a1, a2, a3, a4, a5, a6, a7, a8⟩ := h
  refine ⟨fun k' => ?_, a2, by rw [e2]; exact a3, a4, fun q hq => by rw [e3 q (by have := a2 k hk; omega)]; exact a5 q hq, a6, a7, ⟨fun i hi => ⟨(a8.1 i hi).1, fun j hj => by first | exact (a8.1 i hi).2 j hj | (rw [zu_ne M _ _ (by omega)]; exact (a8.1 i hi).2 j hj)⟩, a8.2⟩⟩
  by_cases hkk : k' = k
  · subst hkk; exact hc
  · have hne : ad k' ≠ ad k := zHp_inj ⟨a1, a2, a3, a4, a5, a6, a7, a8⟩ hk hkk
    refine ⟨fun h0 => ?_, fun h1 => ?_⟩
    · exact zObj_same ((a1 k').1 h0) (e3 _ hne) rfl (zu_ne M j v hkk)
    · exact zArr_same ((a1 k').2 h1) (e3 _ hne) rfl (zu_ne M j v hkk)
theorem zHp_putR {D : va_G} {ad : Nat → Nat} {base : Nat} {Hb : Heap} {s : State} {w : zW} {M : zM} {H H1 : Heap} (h : zHp D ad base Hb s w M H) {k j v : Nat} (hk : 8 ≤ k) (e2 : H1.size = H.size) (e3 : ∀ q, q ≠ ad k → H1[q]? = H[q]?)
    (hc : zCell D ad s (w.1, zu w.2 k j v) M H1 k) : zHp D ad base Hb s (w.1, zu w.2 k j v) M H1 := by
  obtain ⟨a1, a2, a3, a4, a5, a6, a7, a8⟩ := h
  refine ⟨fun k' => ?_, a2, by rw [e2]; exact a3, a4, fun q hq => by rw [e3 q (by have := a2 k hk; omega)]; exact a5 q hq, a6, a7, ⟨fun i hi => ⟨(a8.1 i hi).1, fun j hj => by first | exact (a8.1 i hi).2 j hj | (rw [zu_ne M _ _ (by omega)]; exact (a8.1 i hi).2 j hj)⟩, a8.2⟩⟩
  by_cases hkk : k' = k
  · subst hkk; exact hc
  · have hne : ad k' ≠ ad k := zHp_inj ⟨a1, a2, a3, a4, a5, a6, a7, a8⟩ hk hkk
    refine ⟨fun h0 => ?_, fun h1 => ?_⟩
    · exact zObj_same ((a1 k').1 h0) (e3 _ hne) (zu_ne w.2 j v hkk) rfl
    · exact zArr_same ((a1 k').2 h1) (e3 _ hne) (zu_ne w.2 j v hkk) rfl
def zslots : List zSh → Nat
  | [] => 0
  | a :: l => a.2.2 + zslots l
theorem zslots_app : ∀ a b : List zSh, zslots (a ++ b) = zslots a + zslots b
  | [], b => by simp [zslots]
  | x :: a, b => by
    show x.2.2 + zslots (a ++ b) = x.2.2 + zslots a + zslots b
    rw [zslots_app a b]; omega
/-- new cells at the end: the rest of the world stands -/
theorem zHp_new {D : va_G} {ad : Nat → Nat} {base : Nat} {Hb : Heap} {s : State} {w : zW} {M : zM} {H H1 : Heap} (h : zHp D ad base Hb s w M H) {x : List zSh} {r' : Nat → Nat → Nat} {m' : zM} (e2 : H1.size = H.size + x.length) (e3 : ∀ q, q < H.size → H1[q]? = H[q]?) (hx2 : ∀ e ∈ x, e.1 ≠ 2)
    (hr : ∀ k, k < w.1.length → r' k = w.2 k) (hm : ∀ k, k < w.1.length → m' k = M k) (hc : ∀ k, w.1.length ≤ k → k < w.1.length + x.length → zCell D ad s (w.1 ++ x, r') m' H1 k) : zHp D ad base Hb s (w.1 ++ x, r') m' H1 := by
  obtain ⟨a1, a2, a3, a4, a5, a6, a7, a8⟩ := h
  have hsh : ∀ k, k < w.1.length → zsh (w.1 ++ x, r') k = zsh w k := fun k hk => zgetS_left _ _ _ hk
  have hlt : ∀ k, k < w.1.length → ad k < H.size := fun k hk => by
    rcases Nat.lt_or_ge k 8 with h1 | h1
    · have := a7 k h1; omega
    · have := a2 k h1; omega
  refine ⟨fun k => ?_, a2, by rw [e2, a3]; show _ = base + ((w.1 ++ x).length - 8); rw [List.length_append]; omega, by show 8 ≤ (w.1 ++ x).length; rw [List.length_append]; omega, fun q hq => by rw [e3 q (by omega)]; exact a5 q hq, fun k hk => by rw [hsh k (by omega)]; exact a6 k hk, a7, ⟨fun i hi => ⟨by rw [hsh _ (by omega)]; exact (a8.1 i hi).1, fun j hj => by rw [hm _ (by omega)]; exact (a8.1 i hi).2 j hj⟩, fun k hk => ?_⟩⟩
  rotate_left
  · rcases Nat.lt_or_ge k w.1.length with h1 | h1
    · rw [hsh k h1] at hk; exact a8.2 k hk
    · obtain ⟨j, rfl⟩ : ∃ j, k = w.1.length + j := ⟨k - w.1.length, by omega⟩
      have h2 : zsh (w.1 ++ x, r') (w.1.length + j) = zgetS x j := zgetS_right w.1 x j
      rw [h2] at hk
      rcases zgetS_mem x j with h3 | h3
      · rw [h3] at hk; cases hk
      · exact absurd hk (hx2 _ h3)
  rcases Nat.lt_or_ge k w.1.length with h1 | h1
  · refine ⟨fun h0 => ?_, fun h2 => ?_⟩
    · rw [hsh k h1] at h0 ⊢
      exact zObj_same ((a1 k).1 h0) (e3 _ (hlt k h1)) (hr k h1) (hm k h1)
    · rw [hsh k h1] at h2 ⊢
      exact zArr_same ((a1 k).2 h2) (e3 _ (hlt k h1)) (hr k h1) (hm k h1)
  · rcases Nat.lt_or_ge k (w.1.length + x.length) with h3 | h3
    · exact hc k h1 h3
    · have : zsh (w.1 ++ x, r') k = (9, 0, 0) := zgetS_ge _ _ (by rw [List.length_append]; exact h3)
      refine ⟨fun h0 => ?_, fun h0 => ?_⟩ <;> (rw [this] at h0; cases h0)
def zK (D : va_G) (ad : Nat → Nat) (base : Nat) (Hb : Heap) (s : State) : Prop := va_K D vwCl [] s ∧ (∀ w ∈ zNest, va_Nw w s) ∧ ((Cond.arrayOver (.array .int)).before #[] s = true ∧ (Cond.arrayOver (.array .long)).before #[] s = true) ∧ (∀ i, i < 6 → vk_R "WheelStore$StackReader" (zsK.getD i 0) (zstrs.getD i "") (ad (2 + i)) s) ∧ ((∃ adV : Nat → Nat, vk_S 6 zsN zsB (fun i => ad (2 + i)) adV (fun q => base ≤ q) s Hb) ∧ va_Z "java/lang/String" "COMPACT_STRINGS" "Z" (.int 1) (fun q => base ≤ q) s Hb ∧ ∃ vF : Value, vF.isRef = true ∧ va_Z "jdk/internal/util/Preconditions" "SIOOBE_FORMATTER" "Ljava/util/function/BiFunction;" vF (fun q => base ≤ q) s Hb)
theorem zao_alike {t : FieldType} {s U : State} (hal : s.vm.Alike U.vm) (h : (Cond.arrayOver (.array t)).before #[] s = true) : (Cond.arrayOver (.array t)).before #[] U = true := Jvm.Stand.arrayOver_alikeB hal h
theorem zK_warm {D : va_G} {ad : Nat → Nat} {base : Nat} {Hb : Heap} {s U : State} (hW : s.WarmedH U.vm) (h : zK D ad base Hb s) : zK D ad base Hb U := by
  obtain ⟨h1, h2, h3, h4, ⟨adV, h5⟩, h7, vF, hvF, h8⟩ := h
  refine ⟨va_K.moved hW.alike h1, fun w hw => ?_, ⟨zao_alike hW.alike h3.1, zao_alike hW.alike h3.2⟩, fun i hi => vk_R.warm hW (h4 i hi), ⟨adV, vk_S.moved hW.alike h5⟩, va_Z.moved hW.alike h7, vF, hvF, va_Z.moved hW.alike h8⟩
  have h6 := h2 w hw
  simp only [zNest, List.mem_cons, List.not_mem_nil, or_false] at hw
  rcases hw with rfl | rfl | rfl | rfl <;> exact va_Nw.warmM hW h6
theorem zK_same {D : va_G} {ad : Nat → Nat} {base : Nat} {Hb : Heap} {u U : State} (hv : u.vm = U.vm) (h : zK D ad base Hb u) : zK D ad base Hb U := by
  obtain ⟨h1, h2, h3, h4, ⟨adV, h5⟩, h7, vF, hvF, h8⟩ := h
  have hal : u.vm.Alike U.vm := by rw [hv]; exact Vm.Alike.refl _
  refine ⟨va_K.moved hal h1, fun w hw => ?_, ⟨zao_alike hal h3.1, zao_alike hal h3.2⟩, fun i hi => vk_R.same hv.symm (h4 i hi), ⟨adV, vk_S.moved hal h5⟩, va_Z.moved hal h7, vF, hvF, va_Z.moved hal h8⟩
  have h6 := h2 w hw
  simp only [zNest, List.mem_cons, List.not_mem_nil, or_false] at hw
  rcases hw with rfl | rfl | rfl | rfl <;> exact va_Nw.same rfl hv h6
