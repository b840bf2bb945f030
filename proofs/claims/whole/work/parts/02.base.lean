/-! tagged worlds: a cell is named by a number of ours (its tag), 'ad' says where it lies, 'ce' what it holds -/
abbrev zW : Type := Nat → Option va_E
def z_up (ce : zW) (t : Nat) (e : va_E) : zW := fun x => if x = t then some e else ce x
theorem z_up_s {ce : zW} {t : Nat} {e : va_E} : z_up ce t e t = some e := if_pos rfl
theorem z_up_n {ce : zW} {t u : Nat} {e : va_E} (h : u ≠ t) : z_up ce t e u = ce u := if_neg h
/-- the addresses that a method may write: those of its world, and those that come -/
def zA (ad : Nat → Nat) (ce : zW) (sz : Nat) : Nat → Prop := fun q => (∃ (u : Nat) (e : va_E), ce u = some e ∧ ad u = q) ∨ sz ≤ q
def z_H (D : va_G) (cl : List vw_C) (A : Nat → Prop) (ad : Nat → Nat) (ce : zW) (H : Heap) : Prop :=
  (∀ (t : Nat) (e : va_E), ce t = some e → va_at D cl (ad t, e) H ∧ A (ad t)) ∧ (∀ (t u : Nat) (e f : va_E), ce t = some e → ce u = some f → ad t = ad u → t = u)
theorem z_H.set {D : va_G} {cl : List vw_C} {A : Nat → Prop} {ad : Nat → Nat} {ce : zW} {H H1 : Heap} {t : Nat} {e0 e : va_E} (h : z_H D cl A ad ce H) (ht : ce t = some e0) (h1 : va_at D cl (ad t, e) H1) (oq : ∀ q : Nat, q ≠ ad t → H1[q]? = H[q]?) : z_H D cl A ad (z_up ce t e) H1 := by
  refine ⟨fun u f hu => ?_, fun u w f g hu hw huw => ?_⟩
  · by_cases hut : u = t
    · subst hut
      rw [z_up_s] at hu
      cases hu
      exact ⟨h1, (h.1 _ _ ht).2⟩
    · rw [z_up_n hut] at hu
      exact ⟨(h.1 u f hu).1.kept (oq (ad u) (fun q => hut (h.2 u t _ _ hu ht q))), (h.1 u f hu).2⟩
  · by_cases hut : u = t <;> by_cases hwt : w = t
    · rw [hut, hwt]
    · rw [z_up_n hwt] at hw
      subst hut
      exact h.2 u w _ _ ht hw huw
    · rw [z_up_n hut] at hu
      subst hwt
      exact h.2 u w _ _ hu ht huw
    · rw [z_up_n hut] at hu
      rw [z_up_n hwt] at hw
      exact h.2 u w _ _ hu hw huw
theorem z_H.kept {D : va_G} {cl : List vw_C} {A : Nat → Prop} {ad : Nat → Nat} {ce : zW} {H H1 : Heap} (h : z_H D cl A ad ce H) (oq : ∀ q : Nat, q < H.size → H1[q]? = H[q]?) : z_H D cl A ad ce H1 :=
  ⟨fun t e ht => ⟨(h.1 t e ht).1.kept (oq _ (h.1 t e ht).1.lt), (h.1 t e ht).2⟩, h.2⟩
theorem z_H.weaken {D : va_G} {cl : List vw_C} {A B : Nat → Prop} {ad : Nat → Nat} {ce : zW} {H : Heap} (h : z_H D cl A ad ce H) (hAB : ∀ q, A q → B q) : z_H D cl B ad ce H :=
  ⟨fun t e ht => ⟨(h.1 t e ht).1, hAB _ (h.1 t e ht).2⟩, h.2⟩
/-- a new cell, under a tag that is free -/
theorem z_H.new {D : va_G} {cl : List vw_C} {A : Nat → Prop} {ad : Nat → Nat} {ce : zW} {H H1 : Heap} {t : Nat} {e : va_E} (h : z_H D cl A ad ce H) (ht : ce t = none) (h1 : va_at D cl (H.size, e) H1) (hA : A H.size) (oq : ∀ q : Nat, q < H.size → H1[q]? = H[q]?) : z_H D cl A (va_up ad t H.size) (z_up ce t e) H1 := by
  have hk := h.kept oq
  refine ⟨fun u f hu => ?_, fun u w f g hu hw huw => ?_⟩
  · by_cases hut : u = t
    · subst hut
      rw [z_up_s] at hu
      cases hu
      rw [va_up_self]
      exact ⟨h1, hA⟩
    · rw [z_up_n hut] at hu
      rw [va_up_ne _ _ hut]
      exact hk.1 u f hu
  · by_cases hut : u = t <;> by_cases hwt : w = t
    · rw [hut, hwt]
    · rw [z_up_n hwt] at hw
      rw [hut, va_up_self, va_up_ne _ _ hwt] at huw
      exact absurd huw.symm (Nat.ne_of_lt (h.1 w _ hw).1.lt)
    · rw [z_up_n hut] at hu
      rw [hwt, va_up_self, va_up_ne _ _ hut] at huw
      exact absurd huw (Nat.ne_of_lt (h.1 u _ hu).1.lt)
    · rw [z_up_n hut] at hu
      rw [z_up_n hwt] at hw
      rw [va_up_ne _ _ hut, va_up_ne _ _ hwt] at huw
      exact h.2 u w _ _ hu hw huw
theorem z_H.cong {D : va_G} {cl : List vw_C} {A : Nat → Prop} {ad : Nat → Nat} {ce ce' : zW} {H : Heap} (h : z_H D cl A ad ce H) (hc : ∀ t, ce' t = ce t) : z_H D cl A ad ce' H := by
  have : ce' = ce := funext hc
  rw [this]
  exact h
theorem z_P1 {D : va_G} {cl : List vw_C} {a : Nat} {e : va_E} {H : Heap} (h : va_at D cl (a, e) H) : va_P D cl [(a, e)] H := by
  intro k q hq
  cases k with
  | zero => cases hq; exact h
  | succ k => simp at hq
/-- the tables' words, for good -/
def zT (Ts : List Cond) (s : State) : Prop := ∀ w ∈ Ts, ∀ (a' : Array Value) (U : State), s.WarmedH U.vm → w.before a' U = true
theorem zT.on {Ts : List Cond} {s U : State} (h : zT Ts s) (hW : s.WarmedH U.vm) : zT Ts U := fun w hw a' V hV => h w hw a' V (State.WarmedH.trans hW hV)
theorem zT.at {Ts : List Cond} {s : State} (h : zT Ts s) {w : Cond} (hw : w ∈ Ts) (a : Array Value) : w.before a s = true := h w hw a s (State.WarmedH.refl s)
/-- what Throwable's two statics hold, so long as nobody writes them -/
def zS (A : Nat → Prop) (U : State) (H : Heap) : Prop := vx_Zq Bundle.tN "UNASSIGNED_STACK" Bundle.steD A U H ∧ vx_Zq Bundle.tN "SUPPRESSED_SENTINEL" Bundle.listD A U H
theorem zS.on {A B : Nat → Prop} {s U : State} (hal : s.vm.Alike U.vm) (h : zS A s s.heap) (hq : ∀ q : Nat, q < s.heap.size → ¬ A q → U.heap[q]? = s.heap[q]?) (hAB : ∀ q, B q → A q) : zS B U U.heap :=
  ⟨(vx_Zq.moved hal (h.1.kept hq)).narrow hAB, (vx_Zq.moved hal (h.2.kept hq)).narrow hAB⟩
abbrev zX : Type := (Program × Launch × Env × Room × State) × (MethodId × Array Value × List Frame × Method × Code) × (va_G × List vw_C × List (ClassId × FieldType)) × (Nat → Prop) × (State → Prop)
abbrev zRm (x : zX) : Room := x.1.2.2.2.1
abbrev zcl (x : zX) : List vw_C := x.2.2.1.2.1
abbrev ztys (x : zX) : List (ClassId × FieldType) := x.2.2.1.2.2
abbrev zmeth (x : zX) : Method := x.2.1.2.2.2.1
abbrev zcode (x : zX) : Code := x.2.1.2.2.2.2
def zV (x : zX) (ad : Nat → Nat) (ce : zW) (n i : Nat) (lv : List (Nat × Value)) (pc : Nat) (st : List Value) : Prop :=
  ∀ (H : Heap) (locs : List Loc) (ls : Array Slot), z_H x.2.2.1.1 x.2.2.1.2.1 x.2.2.2.1 ad ce H → va_S x.2.2.2.1 x.1.2.2.2.2.heap H locs → lv_has ls x.2.1.2.2.2.2.maxLocals lv →
    W x.1.1 x.1.2.1 x.1.2.2.1 x.1.2.2.2.1 x.1.2.2.2.2 x.2.1.1 x.2.1.2.1 x.2.1.2.2.1 x.2.1.2.2.2.1 x.2.1.2.2.2.2 H locs n i x.2.2.2.2 (F0 x.2.1.1 pc ls st)
def zOk (x : zX) (cc : ByteArray) (own : String) (Ts : List Cond) (l : Launch) (D : va_G) (cl : List vw_C) (tys : List (ClassId × FieldType)) : Prop :=
  x.1.1.tables.exec = Jvm.exec ∧ x.2.1.2.2.2.2.code = cc ∧ x.1.2.2.2.2.vm.findClass own = some x.2.1.1.cls ∧ zT Ts x.1.2.2.2.2 ∧ va_K x.2.2.1.1 x.2.2.1.2.1 x.2.2.1.2.2 x.1.2.2.2.2 ∧ (∀ q, x.1.2.2.2.2.heap.size ≤ q → x.2.2.2.1 q) ∧ x.2.1.2.2.2.1.locks = false ∧ zS x.2.2.2.1 x.1.2.2.2.2 x.1.2.2.2.2.heap ∧ x.1.2.1 = l ∧ x.2.2.1 = (D, cl, tys)
/-- what is known of a class of the list: its place, its words, its types, its names apart -/
def zCl (Ts : List Cond) (cl : List vw_C) (ci : Nat) (C : String) (T : u_T) (N : Nat) (ty : Nat → FieldType) : Prop := cl[ci]? = some (C, T, N) ∧ (∀ w ∈ u_ws C T N, w ∈ Ts) ∧ (∀ k, k < N → parseFieldDescriptor (T k).2.2.1 = some (ty k)) ∧ (∀ a, a < N → ∀ b, b < N → a ≠ b → (T a).2.1 ≠ (T b).2.1)
section ZR
variable {x : zX} {cc : ByteArray} {own : String} {Ts : List Cond} {l : Launch} {D : va_G} {cl : List vw_C} {tys : List (ClassId × FieldType)} {ad : Nat → Nat} {ce : zW} {n i pc : Nat} {lv : List (Nat × Value)} {st : List Value}
/-- another picture of the same cells -/
theorem z_pic {ce' : zW} (h : ∀ t, ce' t = ce t) (k : zV x ad ce' n i lv pc st) : zV x ad ce n i lv pc st := by
  have : ce' = ce := funext h
  rw [← this]
  exact k
theorem z_widen {n' i' : Nat} (h1 : n ≤ n') (h2 : i ≤ i') (k : zV x ad ce n' i' lv pc st) : zV x ad ce n i lv pc st :=
  fun H locs ls hH hS hl => W.widen h1 h2 (k H locs ls hH hS hl)
theorem z_lv (ks : List Nat) (lv' : List (Nat × Value)) (h : lv_pick lv ks = lv') (k : zV x ad ce n i lv' pc st) : zV x ad ce n i lv pc st :=
  fun H locs ls hH hS hl => k H locs ls hH hS (lv_sub hl ks h)
theorem z_pc {pc' : Nat} (h : pc' = pc) (k : zV x ad ce n i lv pc' st) : zV x ad ce n i lv pc st := h ▸ k
theorem z_iconst (hx : zOk x cc own Ts l D cl tys) {q : Int} {v : Int32} (hd : decode cc pc = .ok (.iconst q, 1)) (hv : Int32.ofInt q = v) (k : zV x ad ce n i lv (pc + 1) (.int v :: st)) : zV x ad ce n i lv pc st := by
  obtain ⟨⟨p, l0, e, R, s⟩, ⟨m, args, below, meth, c⟩, ⟨D0, cl0, tys0⟩, A, Q⟩ := x
  obtain ⟨hexec, hb, hown, hts0, hK, hA, hlocks, hZ, hE1, hE⟩ := hx
  cases hE1
  cases hE
  have hts := fun w (h : w ∈ Ts) => zT.at hts0 h args
  intro H locs ls hH hS hl
  exact lv_iconst hexec hb hd hv (k H locs ls hH hS hl)
theorem z_bipush (hx : zOk x cc own Ts l D cl tys) {q : Int} {v : Int32} (hd : decode cc pc = .ok (.bipush q, 2)) (hv : (Int8.ofInt q).toInt32 = v) (k : zV x ad ce n i lv (pc + 2) (.int v :: st)) : zV x ad ce n i lv pc st := by
  obtain ⟨⟨p, l0, e, R, s⟩, ⟨m, args, below, meth, c⟩, ⟨D0, cl0, tys0⟩, A, Q⟩ := x
  obtain ⟨hexec, hb, hown, hts0, hK, hA, hlocks, hZ, hE1, hE⟩ := hx
  cases hE1
  cases hE
  have hts := fun w (h : w ∈ Ts) => zT.at hts0 h args
  intro H locs ls hH hS hl
  exact lv_bipush hexec hb hd hv (k H locs ls hH hS hl)
theorem z_sipush (hx : zOk x cc own Ts l D cl tys) {q : Int} {v : Int32} (hd : decode cc pc = .ok (.sipush q, 3)) (hv : (Int16.ofInt q).toInt32 = v) (k : zV x ad ce n i lv (pc + 3) (.int v :: st)) : zV x ad ce n i lv pc st := by
  obtain ⟨⟨p, l0, e, R, s⟩, ⟨m, args, below, meth, c⟩, ⟨D0, cl0, tys0⟩, A, Q⟩ := x
  obtain ⟨hexec, hb, hown, hts0, hK, hA, hlocks, hZ, hE1, hE⟩ := hx
  cases hE1
  cases hE
  have hts := fun w (h : w ∈ Ts) => zT.at hts0 h args
  intro H locs ls hH hS hl
  exact lv_sipush hexec hb hd hv (k H locs ls hH hS hl)
theorem z_lconst (hx : zOk x cc own Ts l D cl tys) {q : Fin 2} {v : Int64} (hd : decode cc pc = .ok (.lconst q, 1)) (hv : Int64.ofNat (q : Nat) = v) (k : zV x ad ce n i lv (pc + 1) (.long v :: st)) : zV x ad ce n i lv pc st := by
  obtain ⟨⟨p, l0, e, R, s⟩, ⟨m, args, below, meth, c⟩, ⟨D0, cl0, tys0⟩, A, Q⟩ := x
  obtain ⟨hexec, hb, hown, hts0, hK, hA, hlocks, hZ, hE1, hE⟩ := hx
  cases hE1
  cases hE
  have hts := fun w (h : w ∈ Ts) => zT.at hts0 h args
  intro H locs ls hH hS hl
  exact lv_lconst hexec hb hd hv (k H locs ls hH hS hl)
theorem z_ldc (hx : zOk x cc own Ts l D cl tys) {idx : Nat} {v : Int32} (hd : decode cc pc = .ok (.ldc idx, 2)) (hw : Jvm.Cond.constant own idx v ∈ Ts) (k : zV x ad ce n i lv (pc + 2) (.int v :: st)) : zV x ad ce n i lv pc st := by
  obtain ⟨⟨p, l0, e, R, s⟩, ⟨m, args, below, meth, c⟩, ⟨D0, cl0, tys0⟩, A, Q⟩ := x
  obtain ⟨hexec, hb, hown, hts0, hK, hA, hlocks, hZ, hE1, hE⟩ := hx
  cases hE1
  cases hE
  have hts := fun w (h : w ∈ Ts) => zT.at hts0 h args
  intro H locs ls hH hS hl
  exact lv_ldc hexec hb hown (hts _ hw) hd (k H locs ls hH hS hl)
theorem z_ldc2 (hx : zOk x cc own Ts l D cl tys) {idx : Nat} {v : Int64} (hd : decode cc pc = .ok (.ldc2_w idx, 3)) (hw : Jvm.Cond.constantLong own idx v ∈ Ts) (k : zV x ad ce n i lv (pc + 3) (.long v :: st)) : zV x ad ce n i lv pc st := by
  obtain ⟨⟨p, l0, e, R, s⟩, ⟨m, args, below, meth, c⟩, ⟨D0, cl0, tys0⟩, A, Q⟩ := x
  obtain ⟨hexec, hb, hown, hts0, hK, hA, hlocks, hZ, hE1, hE⟩ := hx
  cases hE1
  cases hE
  have hts := fun w (h : w ∈ Ts) => zT.at hts0 h args
  intro H locs ls hH hS hl
  exact lv_ldc2 hexec hb hown (hts _ hw) hd (k H locs ls hH hS hl)
theorem z_null (hx : zOk x cc own Ts l D cl tys)  (hd : decode cc pc = .ok (.aconst_null, 1)) (k : zV x ad ce n i lv (pc + 1) (.null :: st)) : zV x ad ce n i lv pc st := by
  obtain ⟨⟨p, l0, e, R, s⟩, ⟨m, args, below, meth, c⟩, ⟨D0, cl0, tys0⟩, A, Q⟩ := x
  obtain ⟨hexec, hb, hown, hts0, hK, hA, hlocks, hZ, hE1, hE⟩ := hx
  cases hE1
  cases hE
  have hts := fun w (h : w ∈ Ts) => zT.at hts0 h args
  intro H locs ls hH hS hl
  exact lv_null hexec hb hd (k H locs ls hH hS hl)
theorem z_iload_n (hx : zOk x cc own Ts l D cl tys) {q : Fin 4} {v : Int32} (j : Nat) (hd : decode cc pc = .ok (.iload_n q, 1)) (hj : lv[j]? = some ((q : Nat), .int v)) (k : zV x ad ce n i lv (pc + 1) (.int v :: st)) : zV x ad ce n i lv pc st := by
  obtain ⟨⟨p, l0, e, R, s⟩, ⟨m, args, below, meth, c⟩, ⟨D0, cl0, tys0⟩, A, Q⟩ := x
  obtain ⟨hexec, hb, hown, hts0, hK, hA, hlocks, hZ, hE1, hE⟩ := hx
  cases hE1
  cases hE
  have hts := fun w (h : w ∈ Ts) => zT.at hts0 h args
  intro H locs ls hH hS hl
  exact lv_iload_n hexec hb hd rfl (lv_at hl j hj) (k H locs ls hH hS hl)
theorem z_iload (hx : zOk x cc own Ts l D cl tys) {q : Nat} {v : Int32} (j : Nat) (hd : decode cc pc = .ok (.iload q, 2)) (hj : lv[j]? = some (q, .int v)) (k : zV x ad ce n i lv (pc + 2) (.int v :: st)) : zV x ad ce n i lv pc st := by
  obtain ⟨⟨p, l0, e, R, s⟩, ⟨m, args, below, meth, c⟩, ⟨D0, cl0, tys0⟩, A, Q⟩ := x
  obtain ⟨hexec, hb, hown, hts0, hK, hA, hlocks, hZ, hE1, hE⟩ := hx
  cases hE1
  cases hE
  have hts := fun w (h : w ∈ Ts) => zT.at hts0 h args
  intro H locs ls hH hS hl
  exact lv_iload hexec hb hd (lv_at hl j hj) (k H locs ls hH hS hl)
theorem z_lload_n (hx : zOk x cc own Ts l D cl tys) {q : Fin 4} {v : Int64} (j : Nat) (hd : decode cc pc = .ok (.lload_n q, 1)) (hj : lv[j]? = some ((q : Nat), .long v)) (k : zV x ad ce n i lv (pc + 1) (.long v :: st)) : zV x ad ce n i lv pc st := by
  obtain ⟨⟨p, l0, e, R, s⟩, ⟨m, args, below, meth, c⟩, ⟨D0, cl0, tys0⟩, A, Q⟩ := x
  obtain ⟨hexec, hb, hown, hts0, hK, hA, hlocks, hZ, hE1, hE⟩ := hx
  cases hE1
  cases hE
  have hts := fun w (h : w ∈ Ts) => zT.at hts0 h args
  intro H locs ls hH hS hl
  exact lv_lload_n hexec hb hd rfl (lv_at hl j hj) (k H locs ls hH hS hl)
theorem z_lload (hx : zOk x cc own Ts l D cl tys) {q : Nat} {v : Int64} (j : Nat) (hd : decode cc pc = .ok (.lload q, 2)) (hj : lv[j]? = some (q, .long v)) (k : zV x ad ce n i lv (pc + 2) (.long v :: st)) : zV x ad ce n i lv pc st := by
  obtain ⟨⟨p, l0, e, R, s⟩, ⟨m, args, below, meth, c⟩, ⟨D0, cl0, tys0⟩, A, Q⟩ := x
  obtain ⟨hexec, hb, hown, hts0, hK, hA, hlocks, hZ, hE1, hE⟩ := hx
  cases hE1
  cases hE
  have hts := fun w (h : w ∈ Ts) => zT.at hts0 h args
  intro H locs ls hH hS hl
  exact lv_lload hexec hb hd (lv_at hl j hj) (k H locs ls hH hS hl)
theorem z_aload_n (hx : zOk x cc own Ts l D cl tys) {q : Fin 4} {v : Nat} (j : Nat) (hd : decode cc pc = .ok (.aload_n q, 1)) (hj : lv[j]? = some ((q : Nat), .ref v)) (k : zV x ad ce n i lv (pc + 1) (.ref v :: st)) : zV x ad ce n i lv pc st := by
  obtain ⟨⟨p, l0, e, R, s⟩, ⟨m, args, below, meth, c⟩, ⟨D0, cl0, tys0⟩, A, Q⟩ := x
  obtain ⟨hexec, hb, hown, hts0, hK, hA, hlocks, hZ, hE1, hE⟩ := hx
  cases hE1
  cases hE
  have hts := fun w (h : w ∈ Ts) => zT.at hts0 h args
  intro H locs ls hH hS hl
  exact lv_aload_n hexec hb hd rfl (lv_at hl j hj) (k H locs ls hH hS hl)
theorem z_aload (hx : zOk x cc own Ts l D cl tys) {q : Nat} {v : Nat} (j : Nat) (hd : decode cc pc = .ok (.aload q, 2)) (hj : lv[j]? = some (q, .ref v)) (k : zV x ad ce n i lv (pc + 2) (.ref v :: st)) : zV x ad ce n i lv pc st := by
  obtain ⟨⟨p, l0, e, R, s⟩, ⟨m, args, below, meth, c⟩, ⟨D0, cl0, tys0⟩, A, Q⟩ := x
  obtain ⟨hexec, hb, hown, hts0, hK, hA, hlocks, hZ, hE1, hE⟩ := hx
  cases hE1
  cases hE
  have hts := fun w (h : w ∈ Ts) => zT.at hts0 h args
  intro H locs ls hH hS hl
  exact lv_aload hexec hb hd (lv_at hl j hj) (k H locs ls hH hS hl)
theorem z_aload_nN (hx : zOk x cc own Ts l D cl tys) {q : Fin 4} (j : Nat) (hd : decode cc pc = .ok (.aload_n q, 1)) (hj : lv[j]? = some ((q : Nat), .null)) (k : zV x ad ce n i lv (pc + 1) (.null :: st)) : zV x ad ce n i lv pc st := by
  obtain ⟨⟨p, l0, e, R, s⟩, ⟨m, args, below, meth, c⟩, ⟨D0, cl0, tys0⟩, A, Q⟩ := x
  obtain ⟨hexec, hb, hown, hts0, hK, hA, hlocks, hZ, hE1, hE⟩ := hx
  cases hE1
  cases hE
  have hts := fun w (h : w ∈ Ts) => zT.at hts0 h args
  intro H locs ls hH hS hl
  exact lv_aload_nN hexec hb hd rfl (lv_at hl j hj) (k H locs ls hH hS hl)
theorem z_aloadN (hx : zOk x cc own Ts l D cl tys) {q : Nat} (j : Nat) (hd : decode cc pc = .ok (.aload q, 2)) (hj : lv[j]? = some (q, .null)) (k : zV x ad ce n i lv (pc + 2) (.null :: st)) : zV x ad ce n i lv pc st := by
  obtain ⟨⟨p, l0, e, R, s⟩, ⟨m, args, below, meth, c⟩, ⟨D0, cl0, tys0⟩, A, Q⟩ := x
  obtain ⟨hexec, hb, hown, hts0, hK, hA, hlocks, hZ, hE1, hE⟩ := hx
  cases hE1
  cases hE
  have hts := fun w (h : w ∈ Ts) => zT.at hts0 h args
  intro H locs ls hH hS hl
  exact lv_aloadN hexec hb hd (lv_at hl j hj) (k H locs ls hH hS hl)
theorem z_iadd (hx : zOk x cc own Ts l D cl tys) {x1 y1 : Int32} (hd : decode cc pc = .ok (.iadd, 1)) (k : zV x ad ce n i lv (pc + 1) (.int (x1 + y1) :: st)) : zV x ad ce n i lv pc (.int y1 :: .int x1 :: st) := by
  obtain ⟨⟨p, l0, e, R, s⟩, ⟨m, args, below, meth, c⟩, ⟨D0, cl0, tys0⟩, A, Q⟩ := x
  obtain ⟨hexec, hb, hown, hts0, hK, hA, hlocks, hZ, hE1, hE⟩ := hx
  cases hE1
  cases hE
  have hts := fun w (h : w ∈ Ts) => zT.at hts0 h args
  intro H locs ls hH hS hl
  exact lv_iadd hexec hb hd (k H locs ls hH hS hl)
theorem z_isub (hx : zOk x cc own Ts l D cl tys) {x1 y1 : Int32} (hd : decode cc pc = .ok (.isub, 1)) (k : zV x ad ce n i lv (pc + 1) (.int (x1 - y1) :: st)) : zV x ad ce n i lv pc (.int y1 :: .int x1 :: st) := by
  obtain ⟨⟨p, l0, e, R, s⟩, ⟨m, args, below, meth, c⟩, ⟨D0, cl0, tys0⟩, A, Q⟩ := x
  obtain ⟨hexec, hb, hown, hts0, hK, hA, hlocks, hZ, hE1, hE⟩ := hx
  cases hE1
  cases hE
  have hts := fun w (h : w ∈ Ts) => zT.at hts0 h args
  intro H locs ls hH hS hl
  exact lv_isub hexec hb hd (k H locs ls hH hS hl)
theorem z_imul (hx : zOk x cc own Ts l D cl tys) {x1 y1 : Int32} (hd : decode cc pc = .ok (.imul, 1)) (k : zV x ad ce n i lv (pc + 1) (.int (x1 * y1) :: st)) : zV x ad ce n i lv pc (.int y1 :: .int x1 :: st) := by
  obtain ⟨⟨p, l0, e, R, s⟩, ⟨m, args, below, meth, c⟩, ⟨D0, cl0, tys0⟩, A, Q⟩ := x
  obtain ⟨hexec, hb, hown, hts0, hK, hA, hlocks, hZ, hE1, hE⟩ := hx
  cases hE1
  cases hE
  have hts := fun w (h : w ∈ Ts) => zT.at hts0 h args
  intro H locs ls hH hS hl
  exact lv_imul hexec hb hd (k H locs ls hH hS hl)
theorem z_iand (hx : zOk x cc own Ts l D cl tys) {x1 y1 : Int32} (hd : decode cc pc = .ok (.iand, 1)) (k : zV x ad ce n i lv (pc + 1) (.int (x1 &&& y1) :: st)) : zV x ad ce n i lv pc (.int y1 :: .int x1 :: st) := by
  obtain ⟨⟨p, l0, e, R, s⟩, ⟨m, args, below, meth, c⟩, ⟨D0, cl0, tys0⟩, A, Q⟩ := x
  obtain ⟨hexec, hb, hown, hts0, hK, hA, hlocks, hZ, hE1, hE⟩ := hx
  cases hE1
  cases hE
  have hts := fun w (h : w ∈ Ts) => zT.at hts0 h args
  intro H locs ls hH hS hl
  exact lv_iand hexec hb hd (k H locs ls hH hS hl)
theorem z_ior (hx : zOk x cc own Ts l D cl tys) {x1 y1 : Int32} (hd : decode cc pc = .ok (.ior, 1)) (k : zV x ad ce n i lv (pc + 1) (.int (x1 ||| y1) :: st)) : zV x ad ce n i lv pc (.int y1 :: .int x1 :: st) := by
  obtain ⟨⟨p, l0, e, R, s⟩, ⟨m, args, below, meth, c⟩, ⟨D0, cl0, tys0⟩, A, Q⟩ := x
  obtain ⟨hexec, hb, hown, hts0, hK, hA, hlocks, hZ, hE1, hE⟩ := hx
  cases hE1
  cases hE
  have hts := fun w (h : w ∈ Ts) => zT.at hts0 h args
  intro H locs ls hH hS hl
  exact lv_ior hexec hb hd (k H locs ls hH hS hl)
theorem z_ixor (hx : zOk x cc own Ts l D cl tys) {x1 y1 : Int32} (hd : decode cc pc = .ok (.ixor, 1)) (k : zV x ad ce n i lv (pc + 1) (.int (x1 ^^^ y1) :: st)) : zV x ad ce n i lv pc (.int y1 :: .int x1 :: st) := by
  obtain ⟨⟨p, l0, e, R, s⟩, ⟨m, args, below, meth, c⟩, ⟨D0, cl0, tys0⟩, A, Q⟩ := x
  obtain ⟨hexec, hb, hown, hts0, hK, hA, hlocks, hZ, hE1, hE⟩ := hx
  cases hE1
  cases hE
  have hts := fun w (h : w ∈ Ts) => zT.at hts0 h args
  intro H locs ls hH hS hl
  exact lv_ixor hexec hb hd (k H locs ls hH hS hl)
theorem z_ishl (hx : zOk x cc own Ts l D cl tys) {x1 y1 : Int32} (hd : decode cc pc = .ok (.ishl, 1)) (k : zV x ad ce n i lv (pc + 1) (.int (x1 <<< (y1 &&& 31)) :: st)) : zV x ad ce n i lv pc (.int y1 :: .int x1 :: st) := by
  obtain ⟨⟨p, l0, e, R, s⟩, ⟨m, args, below, meth, c⟩, ⟨D0, cl0, tys0⟩, A, Q⟩ := x
  obtain ⟨hexec, hb, hown, hts0, hK, hA, hlocks, hZ, hE1, hE⟩ := hx
  cases hE1
  cases hE
  have hts := fun w (h : w ∈ Ts) => zT.at hts0 h args
  intro H locs ls hH hS hl
  exact lv_ishl hexec hb hd (k H locs ls hH hS hl)
theorem z_ishr (hx : zOk x cc own Ts l D cl tys) {x1 y1 : Int32} (hd : decode cc pc = .ok (.ishr, 1)) (k : zV x ad ce n i lv (pc + 1) (.int (x1 >>> (y1 &&& 31)) :: st)) : zV x ad ce n i lv pc (.int y1 :: .int x1 :: st) := by
  obtain ⟨⟨p, l0, e, R, s⟩, ⟨m, args, below, meth, c⟩, ⟨D0, cl0, tys0⟩, A, Q⟩ := x
  obtain ⟨hexec, hb, hown, hts0, hK, hA, hlocks, hZ, hE1, hE⟩ := hx
  cases hE1
  cases hE
  have hts := fun w (h : w ∈ Ts) => zT.at hts0 h args
  intro H locs ls hH hS hl
  exact lv_ishr hexec hb hd (k H locs ls hH hS hl)
theorem z_ladd (hx : zOk x cc own Ts l D cl tys) {x1 y1 : Int64} (hd : decode cc pc = .ok (.ladd, 1)) (k : zV x ad ce n i lv (pc + 1) (.long (x1 + y1) :: st)) : zV x ad ce n i lv pc (.long y1 :: .long x1 :: st) := by
  obtain ⟨⟨p, l0, e, R, s⟩, ⟨m, args, below, meth, c⟩, ⟨D0, cl0, tys0⟩, A, Q⟩ := x
  obtain ⟨hexec, hb, hown, hts0, hK, hA, hlocks, hZ, hE1, hE⟩ := hx
  cases hE1
  cases hE
  have hts := fun w (h : w ∈ Ts) => zT.at hts0 h args
  intro H locs ls hH hS hl
  exact lv_ladd hexec hb hd (k H locs ls hH hS hl)
theorem z_lsub (hx : zOk x cc own Ts l D cl tys) {x1 y1 : Int64} (hd : decode cc pc = .ok (.lsub, 1)) (k : zV x ad ce n i lv (pc + 1) (.long (x1 - y1) :: st)) : zV x ad ce n i lv pc (.long y1 :: .long x1 :: st) := by
  obtain ⟨⟨p, l0, e, R, s⟩, ⟨m, args, below, meth, c⟩, ⟨D0, cl0, tys0⟩, A, Q⟩ := x
  obtain ⟨hexec, hb, hown, hts0, hK, hA, hlocks, hZ, hE1, hE⟩ := hx
  cases hE1
  cases hE
  have hts := fun w (h : w ∈ Ts) => zT.at hts0 h args
  intro H locs ls hH hS hl
  exact lv_lsub hexec hb hd (k H locs ls hH hS hl)
theorem z_lmul (hx : zOk x cc own Ts l D cl tys) {x1 y1 : Int64} (hd : decode cc pc = .ok (.lmul, 1)) (k : zV x ad ce n i lv (pc + 1) (.long (x1 * y1) :: st)) : zV x ad ce n i lv pc (.long y1 :: .long x1 :: st) := by
  obtain ⟨⟨p, l0, e, R, s⟩, ⟨m, args, below, meth, c⟩, ⟨D0, cl0, tys0⟩, A, Q⟩ := x
  obtain ⟨hexec, hb, hown, hts0, hK, hA, hlocks, hZ, hE1, hE⟩ := hx
  cases hE1
  cases hE
  have hts := fun w (h : w ∈ Ts) => zT.at hts0 h args
  intro H locs ls hH hS hl
  exact lv_lmul hexec hb hd (k H locs ls hH hS hl)
theorem z_land (hx : zOk x cc own Ts l D cl tys) {x1 y1 : Int64} (hd : decode cc pc = .ok (.land, 1)) (k : zV x ad ce n i lv (pc + 1) (.long (x1 &&& y1) :: st)) : zV x ad ce n i lv pc (.long y1 :: .long x1 :: st) := by
  obtain ⟨⟨p, l0, e, R, s⟩, ⟨m, args, below, meth, c⟩, ⟨D0, cl0, tys0⟩, A, Q⟩ := x
  obtain ⟨hexec, hb, hown, hts0, hK, hA, hlocks, hZ, hE1, hE⟩ := hx
  cases hE1
  cases hE
  have hts := fun w (h : w ∈ Ts) => zT.at hts0 h args
  intro H locs ls hH hS hl
  exact lv_land hexec hb hd (k H locs ls hH hS hl)
theorem z_lor (hx : zOk x cc own Ts l D cl tys) {x1 y1 : Int64} (hd : decode cc pc = .ok (.lor, 1)) (k : zV x ad ce n i lv (pc + 1) (.long (x1 ||| y1) :: st)) : zV x ad ce n i lv pc (.long y1 :: .long x1 :: st) := by
  obtain ⟨⟨p, l0, e, R, s⟩, ⟨m, args, below, meth, c⟩, ⟨D0, cl0, tys0⟩, A, Q⟩ := x
  obtain ⟨hexec, hb, hown, hts0, hK, hA, hlocks, hZ, hE1, hE⟩ := hx
  cases hE1
  cases hE
  have hts := fun w (h : w ∈ Ts) => zT.at hts0 h args
  intro H locs ls hH hS hl
  exact lv_lor hexec hb hd (k H locs ls hH hS hl)
theorem z_lxor (hx : zOk x cc own Ts l D cl tys) {x1 y1 : Int64} (hd : decode cc pc = .ok (.lxor, 1)) (k : zV x ad ce n i lv (pc + 1) (.long (x1 ^^^ y1) :: st)) : zV x ad ce n i lv pc (.long y1 :: .long x1 :: st) := by
  obtain ⟨⟨p, l0, e, R, s⟩, ⟨m, args, below, meth, c⟩, ⟨D0, cl0, tys0⟩, A, Q⟩ := x
  obtain ⟨hexec, hb, hown, hts0, hK, hA, hlocks, hZ, hE1, hE⟩ := hx
  cases hE1
  cases hE
  have hts := fun w (h : w ∈ Ts) => zT.at hts0 h args
  intro H locs ls hH hS hl
  exact lv_lxor hexec hb hd (k H locs ls hH hS hl)
theorem z_idiv (hx : zOk x cc own Ts l D cl tys) {x1 y1 : Int32} (hd : decode cc pc = .ok (.idiv, 1)) (hne : ¬ y1 = 0) (k : zV x ad ce n i lv (pc + 1) (.int (x1 / y1) :: st)) : zV x ad ce n i lv pc (.int y1 :: .int x1 :: st) := by
  obtain ⟨⟨p, l0, e, R, s⟩, ⟨m, args, below, meth, c⟩, ⟨D0, cl0, tys0⟩, A, Q⟩ := x
  obtain ⟨hexec, hb, hown, hts0, hK, hA, hlocks, hZ, hE1, hE⟩ := hx
  cases hE1
  cases hE
  have hts := fun w (h : w ∈ Ts) => zT.at hts0 h args
  intro H locs ls hH hS hl
  exact lv_idiv hexec hb hd hne (k H locs ls hH hS hl)
theorem z_irem (hx : zOk x cc own Ts l D cl tys) {x1 y1 : Int32} (hd : decode cc pc = .ok (.irem, 1)) (hne : ¬ y1 = 0) (k : zV x ad ce n i lv (pc + 1) (.int (x1 - x1 / y1 * y1) :: st)) : zV x ad ce n i lv pc (.int y1 :: .int x1 :: st) := by
  obtain ⟨⟨p, l0, e, R, s⟩, ⟨m, args, below, meth, c⟩, ⟨D0, cl0, tys0⟩, A, Q⟩ := x
  obtain ⟨hexec, hb, hown, hts0, hK, hA, hlocks, hZ, hE1, hE⟩ := hx
  cases hE1
  cases hE
  have hts := fun w (h : w ∈ Ts) => zT.at hts0 h args
  intro H locs ls hH hS hl
  exact lv_irem hexec hb hd hne (k H locs ls hH hS hl)
theorem z_ldiv (hx : zOk x cc own Ts l D cl tys) {x1 y1 : Int64} (hd : decode cc pc = .ok (.ldiv, 1)) (hne : ¬ y1 = 0) (k : zV x ad ce n i lv (pc + 1) (.long (x1 / y1) :: st)) : zV x ad ce n i lv pc (.long y1 :: .long x1 :: st) := by
  obtain ⟨⟨p, l0, e, R, s⟩, ⟨m, args, below, meth, c⟩, ⟨D0, cl0, tys0⟩, A, Q⟩ := x
  obtain ⟨hexec, hb, hown, hts0, hK, hA, hlocks, hZ, hE1, hE⟩ := hx
  cases hE1
  cases hE
  have hts := fun w (h : w ∈ Ts) => zT.at hts0 h args
  intro H locs ls hH hS hl
  exact lv_ldiv hexec hb hd hne (k H locs ls hH hS hl)
theorem z_lrem (hx : zOk x cc own Ts l D cl tys) {x1 y1 : Int64} (hd : decode cc pc = .ok (.lrem, 1)) (hne : ¬ y1 = 0) (k : zV x ad ce n i lv (pc + 1) (.long (x1 - x1 / y1 * y1) :: st)) : zV x ad ce n i lv pc (.long y1 :: .long x1 :: st) := by
  obtain ⟨⟨p, l0, e, R, s⟩, ⟨m, args, below, meth, c⟩, ⟨D0, cl0, tys0⟩, A, Q⟩ := x
  obtain ⟨hexec, hb, hown, hts0, hK, hA, hlocks, hZ, hE1, hE⟩ := hx
  cases hE1
  cases hE
  have hts := fun w (h : w ∈ Ts) => zT.at hts0 h args
  intro H locs ls hH hS hl
  exact lv_lrem hexec hb hd hne (k H locs ls hH hS hl)
theorem z_ineg (hx : zOk x cc own Ts l D cl tys) {x1 : Int32} (hd : decode cc pc = .ok (.ineg, 1)) (k : zV x ad ce n i lv (pc + 1) (.int (-x1) :: st)) : zV x ad ce n i lv pc (.int x1 :: st) := by
  obtain ⟨⟨p, l0, e, R, s⟩, ⟨m, args, below, meth, c⟩, ⟨D0, cl0, tys0⟩, A, Q⟩ := x
  obtain ⟨hexec, hb, hown, hts0, hK, hA, hlocks, hZ, hE1, hE⟩ := hx
  cases hE1
  cases hE
  have hts := fun w (h : w ∈ Ts) => zT.at hts0 h args
  intro H locs ls hH hS hl
  exact lv_ineg hexec hb hd (k H locs ls hH hS hl)
theorem z_lneg (hx : zOk x cc own Ts l D cl tys) {x1 : Int64} (hd : decode cc pc = .ok (.lneg, 1)) (k : zV x ad ce n i lv (pc + 1) (.long (-x1) :: st)) : zV x ad ce n i lv pc (.long x1 :: st) := by
  obtain ⟨⟨p, l0, e, R, s⟩, ⟨m, args, below, meth, c⟩, ⟨D0, cl0, tys0⟩, A, Q⟩ := x
  obtain ⟨hexec, hb, hown, hts0, hK, hA, hlocks, hZ, hE1, hE⟩ := hx
  cases hE1
  cases hE
  have hts := fun w (h : w ∈ Ts) => zT.at hts0 h args
  intro H locs ls hH hS hl
  exact lv_lneg hexec hb hd (k H locs ls hH hS hl)
theorem z_i2l (hx : zOk x cc own Ts l D cl tys) {x1 : Int32} (hd : decode cc pc = .ok (.i2l, 1)) (k : zV x ad ce n i lv (pc + 1) (.long x1.toInt64 :: st)) : zV x ad ce n i lv pc (.int x1 :: st) := by
  obtain ⟨⟨p, l0, e, R, s⟩, ⟨m, args, below, meth, c⟩, ⟨D0, cl0, tys0⟩, A, Q⟩ := x
  obtain ⟨hexec, hb, hown, hts0, hK, hA, hlocks, hZ, hE1, hE⟩ := hx
  cases hE1
  cases hE
  have hts := fun w (h : w ∈ Ts) => zT.at hts0 h args
  intro H locs ls hH hS hl
  exact lv_i2l hexec hb hd rfl (k H locs ls hH hS hl)
theorem z_l2i (hx : zOk x cc own Ts l D cl tys) {x1 : Int64} (hd : decode cc pc = .ok (.l2i, 1)) (k : zV x ad ce n i lv (pc + 1) (.int x1.toInt32 :: st)) : zV x ad ce n i lv pc (.long x1 :: st) := by
  obtain ⟨⟨p, l0, e, R, s⟩, ⟨m, args, below, meth, c⟩, ⟨D0, cl0, tys0⟩, A, Q⟩ := x
  obtain ⟨hexec, hb, hown, hts0, hK, hA, hlocks, hZ, hE1, hE⟩ := hx
  cases hE1
  cases hE
  have hts := fun w (h : w ∈ Ts) => zT.at hts0 h args
  intro H locs ls hH hS hl
  exact lv_l2i hexec hb hd rfl (k H locs ls hH hS hl)
theorem z_iushr (hx : zOk x cc own Ts l D cl tys) {x1 y1 : Int32} (hd : decode cc pc = .ok (.iushr, 1)) (k : zV x ad ce n i lv (pc + 1) (.int (x1.toUInt32 >>> (y1.toUInt32 &&& Int32.toUInt32 31)).toInt32 :: st)) : zV x ad ce n i lv pc (.int y1 :: .int x1 :: st) := by
  obtain ⟨⟨p, l0, e, R, s⟩, ⟨m, args, below, meth, c⟩, ⟨D0, cl0, tys0⟩, A, Q⟩ := x
  obtain ⟨hexec, hb, hown, hts0, hK, hA, hlocks, hZ, hE1, hE⟩ := hx
  cases hE1
  cases hE
  have hts := fun w (h : w ∈ Ts) => zT.at hts0 h args
  intro H locs ls hH hS hl
  exact lv_iushr hexec hb hd rfl (k H locs ls hH hS hl)
theorem z_lushr (hx : zOk x cc own Ts l D cl tys) {x1 : Int64} {y1 : Int32} (hd : decode cc pc = .ok (.lushr, 1)) (k : zV x ad ce n i lv (pc + 1) (.long (x1.toUInt64 >>> (y1.toInt64.toUInt64 &&& Int64.toUInt64 63)).toInt64 :: st)) : zV x ad ce n i lv pc (.int y1 :: .long x1 :: st) := by
  obtain ⟨⟨p, l0, e, R, s⟩, ⟨m, args, below, meth, c⟩, ⟨D0, cl0, tys0⟩, A, Q⟩ := x
  obtain ⟨hexec, hb, hown, hts0, hK, hA, hlocks, hZ, hE1, hE⟩ := hx
  cases hE1
  cases hE
  have hts := fun w (h : w ∈ Ts) => zT.at hts0 h args
  intro H locs ls hH hS hl
  exact lv_lushr hexec hb hd rfl (k H locs ls hH hS hl)
theorem z_lshl (hx : zOk x cc own Ts l D cl tys) {x1 : Int64} {y1 : Int32} (hd : decode cc pc = .ok (.lshl, 1)) (k : zV x ad ce n i lv (pc + 1) (.long (x1 <<< (y1.toInt64 &&& 63)) :: st)) : zV x ad ce n i lv pc (.int y1 :: .long x1 :: st) := by
  obtain ⟨⟨p, l0, e, R, s⟩, ⟨m, args, below, meth, c⟩, ⟨D0, cl0, tys0⟩, A, Q⟩ := x
  obtain ⟨hexec, hb, hown, hts0, hK, hA, hlocks, hZ, hE1, hE⟩ := hx
  cases hE1
  cases hE
  have hts := fun w (h : w ∈ Ts) => zT.at hts0 h args
  intro H locs ls hH hS hl
  exact lv_lshl hexec hb hd rfl (k H locs ls hH hS hl)
theorem z_lshr (hx : zOk x cc own Ts l D cl tys) {x1 : Int64} {y1 : Int32} (hd : decode cc pc = .ok (.lshr, 1)) (k : zV x ad ce n i lv (pc + 1) (.long (x1 >>> (y1.toInt64 &&& 63)) :: st)) : zV x ad ce n i lv pc (.int y1 :: .long x1 :: st) := by
  obtain ⟨⟨p, l0, e, R, s⟩, ⟨m, args, below, meth, c⟩, ⟨D0, cl0, tys0⟩, A, Q⟩ := x
  obtain ⟨hexec, hb, hown, hts0, hK, hA, hlocks, hZ, hE1, hE⟩ := hx
  cases hE1
  cases hE
  have hts := fun w (h : w ∈ Ts) => zT.at hts0 h args
  intro H locs ls hH hS hl
  exact lv_lshr hexec hb hd rfl (k H locs ls hH hS hl)
theorem z_lcmp (hx : zOk x cc own Ts l D cl tys) {x1 y1 : Int64} (hd : decode cc pc = .ok (.lcmp, 1)) (k : zV x ad ce n i lv (pc + 1) (.int (lg_cmp x1 y1) :: st)) : zV x ad ce n i lv pc (.long y1 :: .long x1 :: st) := by
  obtain ⟨⟨p, l0, e, R, s⟩, ⟨m, args, below, meth, c⟩, ⟨D0, cl0, tys0⟩, A, Q⟩ := x
  obtain ⟨hexec, hb, hown, hts0, hK, hA, hlocks, hZ, hE1, hE⟩ := hx
  cases hE1
  cases hE
  have hts := fun w (h : w ∈ Ts) => zT.at hts0 h args
  intro H locs ls hH hS hl
  exact W.lcmp hexec hb hd (k H locs ls hH hS hl)
theorem z_dup (hx : zOk x cc own Ts l D cl tys) {va : Value} (hd : decode cc pc = .ok (.dup, 1)) (h1 : va.category = 1) (k : zV x ad ce n i lv (pc + 1) (va :: va :: st)) : zV x ad ce n i lv pc (va :: st) := by
  obtain ⟨⟨p, l0, e, R, s⟩, ⟨m, args, below, meth, c⟩, ⟨D0, cl0, tys0⟩, A, Q⟩ := x
  obtain ⟨hexec, hb, hown, hts0, hK, hA, hlocks, hZ, hE1, hE⟩ := hx
  cases hE1
  cases hE
  have hts := fun w (h : w ∈ Ts) => zT.at hts0 h args
  intro H locs ls hH hS hl
  exact lv_dup hexec hb hd h1 (k H locs ls hH hS hl)
theorem z_pop (hx : zOk x cc own Ts l D cl tys) {va : Value} (hd : decode cc pc = .ok (.pop, 1)) (h1 : va.category = 1) (k : zV x ad ce n i lv (pc + 1) st) : zV x ad ce n i lv pc (va :: st) := by
  obtain ⟨⟨p, l0, e, R, s⟩, ⟨m, args, below, meth, c⟩, ⟨D0, cl0, tys0⟩, A, Q⟩ := x
  obtain ⟨hexec, hb, hown, hts0, hK, hA, hlocks, hZ, hE1, hE⟩ := hx
  cases hE1
  cases hE
  have hts := fun w (h : w ∈ Ts) => zT.at hts0 h args
  intro H locs ls hH hS hl
  exact lv_pop hexec hb hd h1 (k H locs ls hH hS hl)
theorem z_dup_x1 (hx : zOk x cc own Ts l D cl tys) {va vb : Value} (hd : decode cc pc = .ok (.dup_x1, 1)) (h1 : va.category = 1) (h2 : vb.category = 1) (k : zV x ad ce n i lv (pc + 1) (va :: vb :: va :: st)) : zV x ad ce n i lv pc (va :: vb :: st) := by
  obtain ⟨⟨p, l0, e, R, s⟩, ⟨m, args, below, meth, c⟩, ⟨D0, cl0, tys0⟩, A, Q⟩ := x
  obtain ⟨hexec, hb, hown, hts0, hK, hA, hlocks, hZ, hE1, hE⟩ := hx
  cases hE1
  cases hE
  have hts := fun w (h : w ∈ Ts) => zT.at hts0 h args
  intro H locs ls hH hS hl
  exact lv_dup_x1 hexec hb hd h1 h2 (k H locs ls hH hS hl)
theorem z_dup_x2 (hx : zOk x cc own Ts l D cl tys) {va vb vd : Value} (hd : decode cc pc = .ok (.dup_x2, 1)) (h1 : va.category = 1) (h2 : vb.category = 1) (h3 : vd.category = 1) (k : zV x ad ce n i lv (pc + 1) (va :: vb :: vd :: va :: st)) : zV x ad ce n i lv pc (va :: vb :: vd :: st) := by
  obtain ⟨⟨p, l0, e, R, s⟩, ⟨m, args, below, meth, c⟩, ⟨D0, cl0, tys0⟩, A, Q⟩ := x
  obtain ⟨hexec, hb, hown, hts0, hK, hA, hlocks, hZ, hE1, hE⟩ := hx
  cases hE1
  cases hE
  have hts := fun w (h : w ∈ Ts) => zT.at hts0 h args
  intro H locs ls hH hS hl
  exact lv_dup_x2 hexec hb hd h1 h2 h3 (k H locs ls hH hS hl)
theorem z_dup2_11 (hx : zOk x cc own Ts l D cl tys) {va vb : Value} (hd : decode cc pc = .ok (.dup2, 1)) (h1 : va.category = 1) (h2 : vb.category = 1) (k : zV x ad ce n i lv (pc + 1) (va :: vb :: va :: vb :: st)) : zV x ad ce n i lv pc (va :: vb :: st) := by
  obtain ⟨⟨p, l0, e, R, s⟩, ⟨m, args, below, meth, c⟩, ⟨D0, cl0, tys0⟩, A, Q⟩ := x
  obtain ⟨hexec, hb, hown, hts0, hK, hA, hlocks, hZ, hE1, hE⟩ := hx
  cases hE1
  cases hE
  have hts := fun w (h : w ∈ Ts) => zT.at hts0 h args
  intro H locs ls hH hS hl
  exact lv_dup2_11 hexec hb hd h1 h2 (k H locs ls hH hS hl)
theorem z_dup2_2 (hx : zOk x cc own Ts l D cl tys) {va : Value} (hd : decode cc pc = .ok (.dup2, 1)) (h1 : va.category = 2) (k : zV x ad ce n i lv (pc + 1) (va :: va :: st)) : zV x ad ce n i lv pc (va :: st) := by
  obtain ⟨⟨p, l0, e, R, s⟩, ⟨m, args, below, meth, c⟩, ⟨D0, cl0, tys0⟩, A, Q⟩ := x
  obtain ⟨hexec, hb, hown, hts0, hK, hA, hlocks, hZ, hE1, hE⟩ := hx
  cases hE1
  cases hE
  have hts := fun w (h : w ∈ Ts) => zT.at hts0 h args
  intro H locs ls hH hS hl
  exact lv_dup2_2 hexec hb hd h1 (k H locs ls hH hS hl)
theorem z_pop2_2 (hx : zOk x cc own Ts l D cl tys) {va : Value} (hd : decode cc pc = .ok (.pop2, 1)) (h1 : va.category = 2) (k : zV x ad ce n i lv (pc + 1) st) : zV x ad ce n i lv pc (va :: st) := by
  obtain ⟨⟨p, l0, e, R, s⟩, ⟨m, args, below, meth, c⟩, ⟨D0, cl0, tys0⟩, A, Q⟩ := x
  obtain ⟨hexec, hb, hown, hts0, hK, hA, hlocks, hZ, hE1, hE⟩ := hx
  cases hE1
  cases hE
  have hts := fun w (h : w ∈ Ts) => zT.at hts0 h args
  intro H locs ls hH hS hl
  exact lv_pop2_2 hexec hb hd h1 (k H locs ls hH hS hl)
theorem z_dup2_x1_2 (hx : zOk x cc own Ts l D cl tys) {va vb : Value} (hd : decode cc pc = .ok (.dup2_x1, 1)) (h1 : va.category = 2) (h2 : vb.category = 1) (k : zV x ad ce n i lv (pc + 1) (va :: vb :: va :: st)) : zV x ad ce n i lv pc (va :: vb :: st) := by
  obtain ⟨⟨p, l0, e, R, s⟩, ⟨m, args, below, meth, c⟩, ⟨D0, cl0, tys0⟩, A, Q⟩ := x
  obtain ⟨hexec, hb, hown, hts0, hK, hA, hlocks, hZ, hE1, hE⟩ := hx
  cases hE1
  cases hE
  have hts := fun w (h : w ∈ Ts) => zT.at hts0 h args
  intro H locs ls hH hS hl
  exact lv_dup2_x1_2 hexec hb hd h1 h2 (k H locs ls hH hS hl)
theorem z_dup2_x2_2 (hx : zOk x cc own Ts l D cl tys) {va vb vd : Value} (hd : decode cc pc = .ok (.dup2_x2, 1)) (h1 : va.category = 2) (h2 : vb.category = 1) (h3 : vd.category = 1) (k : zV x ad ce n i lv (pc + 1) (va :: vb :: vd :: va :: st)) : zV x ad ce n i lv pc (va :: vb :: vd :: st) := by
  obtain ⟨⟨p, l0, e, R, s⟩, ⟨m, args, below, meth, c⟩, ⟨D0, cl0, tys0⟩, A, Q⟩ := x
  obtain ⟨hexec, hb, hown, hts0, hK, hA, hlocks, hZ, hE1, hE⟩ := hx
  cases hE1
  cases hE
  have hts := fun w (h : w ∈ Ts) => zT.at hts0 h args
  intro H locs ls hH hS hl
  exact lv_dup2_x2_2 hexec hb hd h1 h2 h3 (k H locs ls hH hS hl)
theorem z_goto (hx : zOk x cc own Ts l D cl tys) {off : Int} {tgt : Nat} (hd : decode cc pc = .ok (.goto off, 3)) (ht : (pc : Int) + off = (tgt : Int)) (k : zV x ad ce n i lv tgt st) : zV x ad ce n i lv pc st := by
  obtain ⟨⟨p, l0, e, R, s⟩, ⟨m, args, below, meth, c⟩, ⟨D0, cl0, tys0⟩, A, Q⟩ := x
  obtain ⟨hexec, hb, hown, hts0, hK, hA, hlocks, hZ, hE1, hE⟩ := hx
  cases hE1
  cases hE
  have hts := fun w (h : w ∈ Ts) => zT.at hts0 h args
  intro H locs ls hH hS hl
  exact lv_goto hexec hb hd ht (k H locs ls hH hS hl)
theorem z_ifnullR (hx : zOk x cc own Ts l D cl tys) {q : Nat} {off : Int} (hd : decode cc pc = .ok (.ifnull off, 3)) (k : zV x ad ce n i lv (pc + 3) st) : zV x ad ce n i lv pc (.ref q :: st) := by
  obtain ⟨⟨p, l0, e, R, s⟩, ⟨m, args, below, meth, c⟩, ⟨D0, cl0, tys0⟩, A, Q⟩ := x
  obtain ⟨hexec, hb, hown, hts0, hK, hA, hlocks, hZ, hE1, hE⟩ := hx
  cases hE1
  cases hE
  have hts := fun w (h : w ∈ Ts) => zT.at hts0 h args
  intro H locs ls hH hS hl
  exact lv_ifnull hexec hb hd (k H locs ls hH hS hl)
theorem z_ifnullN (hx : zOk x cc own Ts l D cl tys) {off : Int} {tgt : Nat} (hd : decode cc pc = .ok (.ifnull off, 3)) (ht : (pc : Int) + off = (tgt : Int)) (k : zV x ad ce n i lv tgt st) : zV x ad ce n i lv pc (.null :: st) := by
  obtain ⟨⟨p, l0, e, R, s⟩, ⟨m, args, below, meth, c⟩, ⟨D0, cl0, tys0⟩, A, Q⟩ := x
  obtain ⟨hexec, hb, hown, hts0, hK, hA, hlocks, hZ, hE1, hE⟩ := hx
  cases hE1
  cases hE
  have hts := fun w (h : w ∈ Ts) => zT.at hts0 h args
  intro H locs ls hH hS hl
  exact lv_ifnullN hexec hb hd ht (k H locs ls hH hS hl)
theorem z_ifnonnullR (hx : zOk x cc own Ts l D cl tys) {q : Nat} {off : Int} {tgt : Nat} (hd : decode cc pc = .ok (.ifnonnull off, 3)) (ht : (pc : Int) + off = (tgt : Int)) (k : zV x ad ce n i lv tgt st) : zV x ad ce n i lv pc (.ref q :: st) := by
  obtain ⟨⟨p, l0, e, R, s⟩, ⟨m, args, below, meth, c⟩, ⟨D0, cl0, tys0⟩, A, Q⟩ := x
  obtain ⟨hexec, hb, hown, hts0, hK, hA, hlocks, hZ, hE1, hE⟩ := hx
  cases hE1
  cases hE
  have hts := fun w (h : w ∈ Ts) => zT.at hts0 h args
  intro H locs ls hH hS hl
  exact lv_ifnonnull hexec hb hd ht (k H locs ls hH hS hl)
theorem z_ifnonnullN (hx : zOk x cc own Ts l D cl tys) {off : Int} (hd : decode cc pc = .ok (.ifnonnull off, 3)) (k : zV x ad ce n i lv (pc + 3) st) : zV x ad ce n i lv pc (.null :: st) := by
  obtain ⟨⟨p, l0, e, R, s⟩, ⟨m, args, below, meth, c⟩, ⟨D0, cl0, tys0⟩, A, Q⟩ := x
  obtain ⟨hexec, hb, hown, hts0, hK, hA, hlocks, hZ, hE1, hE⟩ := hx
  cases hE1
  cases hE
  have hts := fun w (h : w ∈ Ts) => zT.at hts0 h args
  intro H locs ls hH hS hl
  exact lv_ifnonnullN hexec hb hd (k H locs ls hH hS hl)
theorem z_if_eq (hx : zOk x cc own Ts l D cl tys) {x1 : Int32} {off : Int} {tgt : Nat} (hd : decode cc pc = .ok (.ifCond .eq off, 3)) (ht : (pc : Int) + off = (tgt : Int)) (kt : x1 = 0 → zV x ad ce n i lv tgt st) (kf : ¬ x1 = 0 → zV x ad ce n i lv (pc + 3) st) : zV x ad ce n i lv pc (.int x1 :: st) := by
  obtain ⟨⟨p, l0, e, R, s⟩, ⟨m, args, below, meth, c⟩, ⟨D0, cl0, tys0⟩, A, Q⟩ := x
  obtain ⟨hexec, hb, hown, hts0, hK, hA, hlocks, hZ, hE1, hE⟩ := hx
  cases hE1
  cases hE
  have hts := fun w (h : w ∈ Ts) => zT.at hts0 h args
  intro H locs ls hH hS hl
  exact lv_if_eq hexec hb hd ht (fun h => kt h H locs ls hH hS hl) (fun h => kf h H locs ls hH hS hl)
theorem z_icmp_eq (hx : zOk x cc own Ts l D cl tys) {x1 y1 : Int32} {off : Int} {tgt : Nat} (hd : decode cc pc = .ok (.if_icmp .eq off, 3)) (ht : (pc : Int) + off = (tgt : Int)) (kt : x1 = y1 → zV x ad ce n i lv tgt st) (kf : ¬ x1 = y1 → zV x ad ce n i lv (pc + 3) st) : zV x ad ce n i lv pc (.int y1 :: .int x1 :: st) := by
  obtain ⟨⟨p, l0, e, R, s⟩, ⟨m, args, below, meth, c⟩, ⟨D0, cl0, tys0⟩, A, Q⟩ := x
  obtain ⟨hexec, hb, hown, hts0, hK, hA, hlocks, hZ, hE1, hE⟩ := hx
  cases hE1
  cases hE
  have hts := fun w (h : w ∈ Ts) => zT.at hts0 h args
  intro H locs ls hH hS hl
  exact lv_icmp_eq hexec hb hd ht (fun h => kt h H locs ls hH hS hl) (fun h => kf h H locs ls hH hS hl)
theorem z_if_ne (hx : zOk x cc own Ts l D cl tys) {x1 : Int32} {off : Int} {tgt : Nat} (hd : decode cc pc = .ok (.ifCond .ne off, 3)) (ht : (pc : Int) + off = (tgt : Int)) (kt : ¬ x1 = 0 → zV x ad ce n i lv tgt st) (kf : x1 = 0 → zV x ad ce n i lv (pc + 3) st) : zV x ad ce n i lv pc (.int x1 :: st) := by
  obtain ⟨⟨p, l0, e, R, s⟩, ⟨m, args, below, meth, c⟩, ⟨D0, cl0, tys0⟩, A, Q⟩ := x
  obtain ⟨hexec, hb, hown, hts0, hK, hA, hlocks, hZ, hE1, hE⟩ := hx
  cases hE1
  cases hE
  have hts := fun w (h : w ∈ Ts) => zT.at hts0 h args
  intro H locs ls hH hS hl
  exact lv_if_ne hexec hb hd ht (fun h => kt h H locs ls hH hS hl) (fun h => kf h H locs ls hH hS hl)
theorem z_icmp_ne (hx : zOk x cc own Ts l D cl tys) {x1 y1 : Int32} {off : Int} {tgt : Nat} (hd : decode cc pc = .ok (.if_icmp .ne off, 3)) (ht : (pc : Int) + off = (tgt : Int)) (kt : ¬ x1 = y1 → zV x ad ce n i lv tgt st) (kf : x1 = y1 → zV x ad ce n i lv (pc + 3) st) : zV x ad ce n i lv pc (.int y1 :: .int x1 :: st) := by
  obtain ⟨⟨p, l0, e, R, s⟩, ⟨m, args, below, meth, c⟩, ⟨D0, cl0, tys0⟩, A, Q⟩ := x
  obtain ⟨hexec, hb, hown, hts0, hK, hA, hlocks, hZ, hE1, hE⟩ := hx
  cases hE1
  cases hE
  have hts := fun w (h : w ∈ Ts) => zT.at hts0 h args
  intro H locs ls hH hS hl
  exact lv_icmp_ne hexec hb hd ht (fun h => kt h H locs ls hH hS hl) (fun h => kf h H locs ls hH hS hl)
theorem z_if_lt (hx : zOk x cc own Ts l D cl tys) {x1 : Int32} {off : Int} {tgt : Nat} (hd : decode cc pc = .ok (.ifCond .lt off, 3)) (ht : (pc : Int) + off = (tgt : Int)) (kt : x1 < 0 → zV x ad ce n i lv tgt st) (kf : ¬ x1 < 0 → zV x ad ce n i lv (pc + 3) st) : zV x ad ce n i lv pc (.int x1 :: st) := by
  obtain ⟨⟨p, l0, e, R, s⟩, ⟨m, args, below, meth, c⟩, ⟨D0, cl0, tys0⟩, A, Q⟩ := x
  obtain ⟨hexec, hb, hown, hts0, hK, hA, hlocks, hZ, hE1, hE⟩ := hx
  cases hE1
  cases hE
  have hts := fun w (h : w ∈ Ts) => zT.at hts0 h args
  intro H locs ls hH hS hl
  exact lv_if_lt hexec hb hd ht (fun h => kt h H locs ls hH hS hl) (fun h => kf h H locs ls hH hS hl)
theorem z_icmp_lt (hx : zOk x cc own Ts l D cl tys) {x1 y1 : Int32} {off : Int} {tgt : Nat} (hd : decode cc pc = .ok (.if_icmp .lt off, 3)) (ht : (pc : Int) + off = (tgt : Int)) (kt : x1 < y1 → zV x ad ce n i lv tgt st) (kf : ¬ x1 < y1 → zV x ad ce n i lv (pc + 3) st) : zV x ad ce n i lv pc (.int y1 :: .int x1 :: st) := by
  obtain ⟨⟨p, l0, e, R, s⟩, ⟨m, args, below, meth, c⟩, ⟨D0, cl0, tys0⟩, A, Q⟩ := x
  obtain ⟨hexec, hb, hown, hts0, hK, hA, hlocks, hZ, hE1, hE⟩ := hx
  cases hE1
  cases hE
  have hts := fun w (h : w ∈ Ts) => zT.at hts0 h args
  intro H locs ls hH hS hl
  exact lv_icmp_lt hexec hb hd ht (fun h => kt h H locs ls hH hS hl) (fun h => kf h H locs ls hH hS hl)
theorem z_if_ge (hx : zOk x cc own Ts l D cl tys) {x1 : Int32} {off : Int} {tgt : Nat} (hd : decode cc pc = .ok (.ifCond .ge off, 3)) (ht : (pc : Int) + off = (tgt : Int)) (kt : 0 ≤ x1 → zV x ad ce n i lv tgt st) (kf : ¬ 0 ≤ x1 → zV x ad ce n i lv (pc + 3) st) : zV x ad ce n i lv pc (.int x1 :: st) := by
  obtain ⟨⟨p, l0, e, R, s⟩, ⟨m, args, below, meth, c⟩, ⟨D0, cl0, tys0⟩, A, Q⟩ := x
  obtain ⟨hexec, hb, hown, hts0, hK, hA, hlocks, hZ, hE1, hE⟩ := hx
  cases hE1
  cases hE
  have hts := fun w (h : w ∈ Ts) => zT.at hts0 h args
  intro H locs ls hH hS hl
  exact lv_if_ge hexec hb hd ht (fun h => kt h H locs ls hH hS hl) (fun h => kf h H locs ls hH hS hl)
theorem z_icmp_ge (hx : zOk x cc own Ts l D cl tys) {x1 y1 : Int32} {off : Int} {tgt : Nat} (hd : decode cc pc = .ok (.if_icmp .ge off, 3)) (ht : (pc : Int) + off = (tgt : Int)) (kt : y1 ≤ x1 → zV x ad ce n i lv tgt st) (kf : ¬ y1 ≤ x1 → zV x ad ce n i lv (pc + 3) st) : zV x ad ce n i lv pc (.int y1 :: .int x1 :: st) := by
  obtain ⟨⟨p, l0, e, R, s⟩, ⟨m, args, below, meth, c⟩, ⟨D0, cl0, tys0⟩, A, Q⟩ := x
  obtain ⟨hexec, hb, hown, hts0, hK, hA, hlocks, hZ, hE1, hE⟩ := hx
  cases hE1
  cases hE
  have hts := fun w (h : w ∈ Ts) => zT.at hts0 h args
  intro H locs ls hH hS hl
  exact lv_icmp_ge hexec hb hd ht (fun h => kt h H locs ls hH hS hl) (fun h => kf h H locs ls hH hS hl)
theorem z_if_gt (hx : zOk x cc own Ts l D cl tys) {x1 : Int32} {off : Int} {tgt : Nat} (hd : decode cc pc = .ok (.ifCond .gt off, 3)) (ht : (pc : Int) + off = (tgt : Int)) (kt : 0 < x1 → zV x ad ce n i lv tgt st) (kf : ¬ 0 < x1 → zV x ad ce n i lv (pc + 3) st) : zV x ad ce n i lv pc (.int x1 :: st) := by
  obtain ⟨⟨p, l0, e, R, s⟩, ⟨m, args, below, meth, c⟩, ⟨D0, cl0, tys0⟩, A, Q⟩ := x
  obtain ⟨hexec, hb, hown, hts0, hK, hA, hlocks, hZ, hE1, hE⟩ := hx
  cases hE1
  cases hE
  have hts := fun w (h : w ∈ Ts) => zT.at hts0 h args
  intro H locs ls hH hS hl
  exact lv_if_gt hexec hb hd ht (fun h => kt h H locs ls hH hS hl) (fun h => kf h H locs ls hH hS hl)
theorem z_icmp_gt (hx : zOk x cc own Ts l D cl tys) {x1 y1 : Int32} {off : Int} {tgt : Nat} (hd : decode cc pc = .ok (.if_icmp .gt off, 3)) (ht : (pc : Int) + off = (tgt : Int)) (kt : y1 < x1 → zV x ad ce n i lv tgt st) (kf : ¬ y1 < x1 → zV x ad ce n i lv (pc + 3) st) : zV x ad ce n i lv pc (.int y1 :: .int x1 :: st) := by
  obtain ⟨⟨p, l0, e, R, s⟩, ⟨m, args, below, meth, c⟩, ⟨D0, cl0, tys0⟩, A, Q⟩ := x
  obtain ⟨hexec, hb, hown, hts0, hK, hA, hlocks, hZ, hE1, hE⟩ := hx
  cases hE1
  cases hE
  have hts := fun w (h : w ∈ Ts) => zT.at hts0 h args
  intro H locs ls hH hS hl
  exact lv_icmp_gt hexec hb hd ht (fun h => kt h H locs ls hH hS hl) (fun h => kf h H locs ls hH hS hl)
theorem z_if_le (hx : zOk x cc own Ts l D cl tys) {x1 : Int32} {off : Int} {tgt : Nat} (hd : decode cc pc = .ok (.ifCond .le off, 3)) (ht : (pc : Int) + off = (tgt : Int)) (kt : x1 ≤ 0 → zV x ad ce n i lv tgt st) (kf : ¬ x1 ≤ 0 → zV x ad ce n i lv (pc + 3) st) : zV x ad ce n i lv pc (.int x1 :: st) := by
  obtain ⟨⟨p, l0, e, R, s⟩, ⟨m, args, below, meth, c⟩, ⟨D0, cl0, tys0⟩, A, Q⟩ := x
  obtain ⟨hexec, hb, hown, hts0, hK, hA, hlocks, hZ, hE1, hE⟩ := hx
  cases hE1
  cases hE
  have hts := fun w (h : w ∈ Ts) => zT.at hts0 h args
  intro H locs ls hH hS hl
  exact lv_if_le hexec hb hd ht (fun h => kt h H locs ls hH hS hl) (fun h => kf h H locs ls hH hS hl)
theorem z_icmp_le (hx : zOk x cc own Ts l D cl tys) {x1 y1 : Int32} {off : Int} {tgt : Nat} (hd : decode cc pc = .ok (.if_icmp .le off, 3)) (ht : (pc : Int) + off = (tgt : Int)) (kt : x1 ≤ y1 → zV x ad ce n i lv tgt st) (kf : ¬ x1 ≤ y1 → zV x ad ce n i lv (pc + 3) st) : zV x ad ce n i lv pc (.int y1 :: .int x1 :: st) := by
  obtain ⟨⟨p, l0, e, R, s⟩, ⟨m, args, below, meth, c⟩, ⟨D0, cl0, tys0⟩, A, Q⟩ := x
  obtain ⟨hexec, hb, hown, hts0, hK, hA, hlocks, hZ, hE1, hE⟩ := hx
  cases hE1
  cases hE
  have hts := fun w (h : w ∈ Ts) => zT.at hts0 h args
  intro H locs ls hH hS hl
  exact lv_icmp_le hexec hb hd ht (fun h => kt h H locs ls hH hS hl) (fun h => kf h H locs ls hH hS hl)
theorem z_istore_n (hx : zOk x cc own Ts l D cl tys) {q : Fin 4} {j : Nat} {v : Int32} (lv' : List (Nat × Value)) (hd : decode cc pc = .ok (.istore_n q, 1)) (hj : (q : Nat) = j) (hn : j < x.2.1.2.2.2.2.maxLocals) (hl' : (j, Value.int v) :: lv.filter (fun q => !(q.1 == j) && !(q.1 + 1 == j && q.2.category == 2)) = lv') (k : zV x ad ce n i lv' (pc + 1) st) : zV x ad ce n i lv pc (Value.int v :: st) := by
  obtain ⟨⟨p, l0, e, R, s⟩, ⟨m, args, below, meth, c⟩, ⟨D0, cl0, tys0⟩, A, Q⟩ := x
  obtain ⟨hexec, hb, hown, hts0, hK, hA, hlocks, hZ, hE1, hE⟩ := hx
  cases hE1
  cases hE
  have hts := fun w (h : w ∈ Ts) => zT.at hts0 h args
  intro H locs ls hH hS hl
  exact lv_istore_n hexec hb hd hj hl hn hl' (fun ls' h' => k H locs ls' hH hS h')
theorem z_istore (hx : zOk x cc own Ts l D cl tys) {j : Nat} {v : Int32} (lv' : List (Nat × Value)) (hd : decode cc pc = .ok (.istore j, 2))  (hn : j < x.2.1.2.2.2.2.maxLocals) (hl' : (j, Value.int v) :: lv.filter (fun q => !(q.1 == j) && !(q.1 + 1 == j && q.2.category == 2)) = lv') (k : zV x ad ce n i lv' (pc + 2) st) : zV x ad ce n i lv pc (Value.int v :: st) := by
  obtain ⟨⟨p, l0, e, R, s⟩, ⟨m, args, below, meth, c⟩, ⟨D0, cl0, tys0⟩, A, Q⟩ := x
  obtain ⟨hexec, hb, hown, hts0, hK, hA, hlocks, hZ, hE1, hE⟩ := hx
  cases hE1
  cases hE
  have hts := fun w (h : w ∈ Ts) => zT.at hts0 h args
  intro H locs ls hH hS hl
  exact lv_istore hexec hb hd hl hn hl' (fun ls' h' => k H locs ls' hH hS h')
theorem z_lstore_n (hx : zOk x cc own Ts l D cl tys) {q : Fin 4} {j : Nat} {v : Int64} (lv' : List (Nat × Value)) (hd : decode cc pc = .ok (.lstore_n q, 1)) (hj : (q : Nat) = j) (hn : j + 1 < x.2.1.2.2.2.2.maxLocals) (hl' : (j, Value.long v) :: lv.filter (fun q => !(q.1 == j) && (!(q.1 == j + 1) && !(q.1 + 1 == j && q.2.category == 2))) = lv') (k : zV x ad ce n i lv' (pc + 1) st) : zV x ad ce n i lv pc (Value.long v :: st) := by
  obtain ⟨⟨p, l0, e, R, s⟩, ⟨m, args, below, meth, c⟩, ⟨D0, cl0, tys0⟩, A, Q⟩ := x
  obtain ⟨hexec, hb, hown, hts0, hK, hA, hlocks, hZ, hE1, hE⟩ := hx
  cases hE1
  cases hE
  have hts := fun w (h : w ∈ Ts) => zT.at hts0 h args
  intro H locs ls hH hS hl
  exact lv_lstore_n hexec hb hd hj hl hn hl' (fun ls' h' => k H locs ls' hH hS h')
theorem z_lstore (hx : zOk x cc own Ts l D cl tys) {j : Nat} {v : Int64} (lv' : List (Nat × Value)) (hd : decode cc pc = .ok (.lstore j, 2))  (hn : j + 1 < x.2.1.2.2.2.2.maxLocals) (hl' : (j, Value.long v) :: lv.filter (fun q => !(q.1 == j) && (!(q.1 == j + 1) && !(q.1 + 1 == j && q.2.category == 2))) = lv') (k : zV x ad ce n i lv' (pc + 2) st) : zV x ad ce n i lv pc (Value.long v :: st) := by
  obtain ⟨⟨p, l0, e, R, s⟩, ⟨m, args, below, meth, c⟩, ⟨D0, cl0, tys0⟩, A, Q⟩ := x
  obtain ⟨hexec, hb, hown, hts0, hK, hA, hlocks, hZ, hE1, hE⟩ := hx
  cases hE1
  cases hE
  have hts := fun w (h : w ∈ Ts) => zT.at hts0 h args
  intro H locs ls hH hS hl
  exact lv_lstore hexec hb hd hl hn hl' (fun ls' h' => k H locs ls' hH hS h')
theorem z_astore_n (hx : zOk x cc own Ts l D cl tys) {q : Fin 4} {j : Nat} {v : Nat} (lv' : List (Nat × Value)) (hd : decode cc pc = .ok (.astore_n q, 1)) (hj : (q : Nat) = j) (hn : j < x.2.1.2.2.2.2.maxLocals) (hl' : (j, Value.ref v) :: lv.filter (fun q => !(q.1 == j) && !(q.1 + 1 == j && q.2.category == 2)) = lv') (k : zV x ad ce n i lv' (pc + 1) st) : zV x ad ce n i lv pc (Value.ref v :: st) := by
  obtain ⟨⟨p, l0, e, R, s⟩, ⟨m, args, below, meth, c⟩, ⟨D0, cl0, tys0⟩, A, Q⟩ := x
  obtain ⟨hexec, hb, hown, hts0, hK, hA, hlocks, hZ, hE1, hE⟩ := hx
  cases hE1
  cases hE
  have hts := fun w (h : w ∈ Ts) => zT.at hts0 h args
  intro H locs ls hH hS hl
  exact lv_astore_n hexec hb hd hj hl hn hl' (fun ls' h' => k H locs ls' hH hS h')
theorem z_astore (hx : zOk x cc own Ts l D cl tys) {j : Nat} {v : Nat} (lv' : List (Nat × Value)) (hd : decode cc pc = .ok (.astore j, 2))  (hn : j < x.2.1.2.2.2.2.maxLocals) (hl' : (j, Value.ref v) :: lv.filter (fun q => !(q.1 == j) && !(q.1 + 1 == j && q.2.category == 2)) = lv') (k : zV x ad ce n i lv' (pc + 2) st) : zV x ad ce n i lv pc (Value.ref v :: st) := by
  obtain ⟨⟨p, l0, e, R, s⟩, ⟨m, args, below, meth, c⟩, ⟨D0, cl0, tys0⟩, A, Q⟩ := x
  obtain ⟨hexec, hb, hown, hts0, hK, hA, hlocks, hZ, hE1, hE⟩ := hx
  cases hE1
  cases hE
  have hts := fun w (h : w ∈ Ts) => zT.at hts0 h args
  intro H locs ls hH hS hl
  exact lv_astore hexec hb hd hl hn hl' (fun ls' h' => k H locs ls' hH hS h')
theorem z_iinc (hx : zOk x cc own Ts l D cl tys) {q : Int} {v : Int32} (j0 : Nat) {j : Nat} {x1 : Int32} (lv' : List (Nat × Value)) (hd : decode cc pc = .ok (.iinc j q, 3)) (hj : lv[j0]? = some (j, .int x1)) (hv : x1 + Int32.ofInt q = v) (hn : j < x.2.1.2.2.2.2.maxLocals) (hl' : (j, Value.int v) :: lv.filter (fun q => !(q.1 == j) && !(q.1 + 1 == j && q.2.category == 2)) = lv') (k : zV x ad ce n i lv' (pc + 3) st) : zV x ad ce n i lv pc st := by
  obtain ⟨⟨p, l0, e, R, s⟩, ⟨m, args, below, meth, c⟩, ⟨D0, cl0, tys0⟩, A, Q⟩ := x
  obtain ⟨hexec, hb, hown, hts0, hK, hA, hlocks, hZ, hE1, hE⟩ := hx
  cases hE1
  cases hE
  have hts := fun w (h : w ∈ Ts) => zT.at hts0 h args
  intro H locs ls hH hS hl
  exact lv_iinc hexec hb hd hl hj hv hn hl' (fun ls' h' => k H locs ls' hH hS h')
-- ===== fields =====
theorem z_get (hx : zOk x cc own Ts l D cl tys) {C : String} {T : u_T} {N ci index t : Nat} {ty : Nat → FieldType} {fs : List Value} {v : Value} (hc : zCl Ts cl ci C T N ty) (he : ce t = some (.inr (ci, fs))) (j : Nat) (hj : j < N) (hw : Cond.fieldLink own index (T j).1 (T j).2.1 (T j).2.2.1 ∈ Ts) (hv : fs[j]? = some v) (hd : decode cc pc = .ok (.getfield index, 3)) (k : zV x ad ce n i lv (pc + 3) (v :: st)) : zV x ad ce n i lv pc (.ref (ad t) :: st) := by
  obtain ⟨⟨p, l0, e, R, s⟩, ⟨m, args, below, meth, c⟩, ⟨D0, cl0, tys0⟩, A, Q⟩ := x
  obtain ⟨hexec, hb, hown, hts0, hK, hA, hlocks, hZ, hE1, hE⟩ := hx
  cases hE1
  cases hE
  have hts := fun w (h : w ∈ Ts) => zT.at hts0 h args
  intro H locs ls hH hS hl
  exact va_get hexec hb hts hc.2.1 hown hK (z_P1 (hH.1 _ _ he).1) 0 rfl hc.1 j hj (hts _ hw) (fun _ h => h) hv hd (k H locs ls hH hS hl)
theorem z_getN (hx : zOk x cc own Ts l D cl tys) {C host : String} {T : u_T} {N ci index t : Nat} {ty : Nat → FieldType} {fs : List Value} {v : Value} (hc : zCl Ts cl ci C T N ty) (he : ce t = some (.inr (ci, fs))) (j : Nat) (hj : j < N) (hw : Cond.fieldLinkNest own index (T j).1 (T j).2.1 (T j).2.2.1 host ∈ Ts) (hv : fs[j]? = some v) (hd : decode cc pc = .ok (.getfield index, 3)) (k : zV x ad ce n i lv (pc + 3) (v :: st)) : zV x ad ce n i lv pc (.ref (ad t) :: st) := by
  obtain ⟨⟨p, l0, e, R, s⟩, ⟨m, args, below, meth, c⟩, ⟨D0, cl0, tys0⟩, A, Q⟩ := x
  obtain ⟨hexec, hb, hown, hts0, hK, hA, hlocks, hZ, hE1, hE⟩ := hx
  cases hE1
  cases hE
  have hts := fun w (h : w ∈ Ts) => zT.at hts0 h args
  intro H locs ls hH hS hl
  exact va_getN hexec hb hts hc.2.1 hown hK (z_P1 (hH.1 _ _ he).1) 0 rfl hc.1 j hj (hts _ hw) (fun _ h => h) hv hd (k H locs ls hH hS hl)
/-- a write: the picture behind it is another 'ce1' that differs at the tag alone -/
theorem z_put (hx : zOk x cc own Ts l D cl tys) {C : String} {T : u_T} {N ci index t : Nat} {ty : Nat → FieldType} {fs : List Value} {v : Value} (hc : zCl Ts cl ci C T N ty) (he : ce t = some (.inr (ci, fs))) (j : Nat) (hj : j < N) (hw : Cond.fieldLink own index (T j).1 (T j).2.1 (T j).2.2.1 ∈ Ts) (hfin : (T j).2.2.2 = false) (hn : narrow (ty j) v = v) (hfit : fits (ty j) v = true) (hlen : j < fs.length) (hd : decode cc pc = .ok (.putfield index, 3)) {ce1 : zW} (hce : ∀ u, ce1 u = z_up ce t (.inr (ci, fs.set j v)) u) (k : zV x ad ce1 n i lv (pc + 3) st) : zV x ad ce n i lv pc (v :: .ref (ad t) :: st) := by
  obtain ⟨⟨p, l0, e, R, s⟩, ⟨m, args, below, meth, c⟩, ⟨D0, cl0, tys0⟩, A, Q⟩ := x
  obtain ⟨hexec, hb, hown, hts0, hK, hA, hlocks, hZ, hE1, hE⟩ := hx
  cases hE1
  cases hE
  have hts := fun w (h : w ∈ Ts) => zT.at hts0 h args
  intro H locs ls hH hS hl
  obtain ⟨hcl, hin, hty, hnm⟩ := hc
  have hap := va_apart (own := own) hts hin ty hty hnm hK hcl
  obtain ⟨⟨r, h1, cell, q1, q2, q3, q4⟩, hAt⟩ := hH.1 _ _ he
  have hr : r = (C, T, N) := Option.some.inj (h1.symm.trans hcl)
  subst hr
  obtain ⟨hSl, hfc, kC, hkC, hkind⟩ := hK.1 ci _ hcl
  obtain ⟨cf, kf, fi, f, hi, hsl⟩ := hSl j hj
  have hlay := hts _ (hin _ (u_in_lay hj))
  unfold u_lay at hlay
  rw [if_neg (by rw [hfin]; decide)] at hlay
  have hst := (u_facts hfc hkC (u_lays hts hin hj) hi).1
  have h6 := u_store hfc hkC hkind hlay hi (hty j hj) hn hfit
  refine W.putK hexec hb (f := f) ⟨hown, hts _ hw, ⟨_, _, _, hi⟩, hst⟩ (by rw [q2]; exact h6) q1 q3 (by rw [hsl]; exact k2_hasslot (q4 j hj)) rfl rfl hd fun H' e1 e2 e3 => ?_
  rw [hsl] at e1 ⊢
  exact k H' _ ls ((hH.set (e := .inr (ci, fs.set j v)) he ⟨_, hcl, t_OB.to (V := updV (vp_V fs) j v) ⟨_, e1, q2, q3, t_set q4 hap hj v⟩ (fun j' _ => vp_updV_set hlen v j')⟩ e3).cong hce) (hS.put e2 e3 hAt) hl
theorem z_putN (hx : zOk x cc own Ts l D cl tys) {C host : String} {T : u_T} {N ci index t : Nat} {ty : Nat → FieldType} {fs : List Value} {v : Value} (hc : zCl Ts cl ci C T N ty) (he : ce t = some (.inr (ci, fs))) (j : Nat) (hj : j < N) (hw : Cond.fieldLinkNest own index (T j).1 (T j).2.1 (T j).2.2.1 host ∈ Ts) (hfin : (T j).2.2.2 = false) (hn : narrow (ty j) v = v) (hfit : fits (ty j) v = true) (hlen : j < fs.length) (hd : decode cc pc = .ok (.putfield index, 3)) {ce1 : zW} (hce : ∀ u, ce1 u = z_up ce t (.inr (ci, fs.set j v)) u) (k : zV x ad ce1 n i lv (pc + 3) st) : zV x ad ce n i lv pc (v :: .ref (ad t) :: st) := by
  obtain ⟨⟨p, l0, e, R, s⟩, ⟨m, args, below, meth, c⟩, ⟨D0, cl0, tys0⟩, A, Q⟩ := x
  obtain ⟨hexec, hb, hown, hts0, hK, hA, hlocks, hZ, hE1, hE⟩ := hx
  cases hE1
  cases hE
  have hts := fun w (h : w ∈ Ts) => zT.at hts0 h args
  intro H locs ls hH hS hl
  obtain ⟨hcl, hin, hty, hnm⟩ := hc
  have hap := va_apart (own := own) hts hin ty hty hnm hK hcl
  obtain ⟨⟨r, h1, cell, q1, q2, q3, q4⟩, hAt⟩ := hH.1 _ _ he
  have hr : r = (C, T, N) := Option.some.inj (h1.symm.trans hcl)
  subst hr
  obtain ⟨hSl, hfc, kC, hkC, hkind⟩ := hK.1 ci _ hcl
  obtain ⟨cf, kf, fi, f, hi, hsl⟩ := hSl j hj
  have hlay := hts _ (hin _ (u_in_lay hj))
  unfold u_lay at hlay
  rw [if_neg (by rw [hfin]; decide)] at hlay
  have hst := (u_facts hfc hkC (u_lays hts hin hj) hi).1
  have h6 := u_store hfc hkC hkind hlay hi (hty j hj) hn hfit
  refine va_WputK hexec hb (f := f) hown (hts _ hw) hi hst (by rw [q2]; exact h6) q1 q3 (by rw [hsl]; exact k2_hasslot (q4 j hj)) rfl rfl hd fun H' e1 e2 e3 => ?_
  rw [hsl] at e1 ⊢
  exact k H' _ ls ((hH.set (e := .inr (ci, fs.set j v)) he ⟨_, hcl, t_OB.to (V := updV (vp_V fs) j v) ⟨_, e1, q2, q3, t_set q4 hap hj v⟩ (fun j' _ => vp_updV_set hlen v j')⟩ e3).cong hce) (hS.put e2 e3 hAt) hl
/-- a final field, in its own constructor -/
theorem z_putF (hx : zOk x cc own Ts l D cl tys) {C : String} {T : u_T} {N ci index t : Nat} {ty : Nat → FieldType} {fs : List Value} {v : Value} (hc : zCl Ts cl ci C T N ty) (he : ce t = some (.inr (ci, fs))) (j : Nat) (hj : j < N) (hw : Cond.fieldLink own index (T j).1 (T j).2.1 (T j).2.2.1 ∈ Ts) (hfin : (T j).2.2.2 = true) (hinit : (zmeth x).name = "<init>") (hdecl : (T j).1 = own) (hn : narrow (ty j) v = v) (hfit : fits (ty j) v = true) (hlen : j < fs.length) (hd : decode cc pc = .ok (.putfield index, 3)) {ce1 : zW} (hce : ∀ u, ce1 u = z_up ce t (.inr (ci, fs.set j v)) u) (k : zV x ad ce1 n i lv (pc + 3) st) : zV x ad ce n i lv pc (v :: .ref (ad t) :: st) := by
  obtain ⟨⟨p, l0, e, R, s⟩, ⟨m, args, below, meth, c⟩, ⟨D0, cl0, tys0⟩, A, Q⟩ := x
  obtain ⟨hexec, hb, hown, hts0, hK, hA, hlocks, hZ, hE1, hE⟩ := hx
  cases hE1
  cases hE
  have hts := fun w (h : w ∈ Ts) => zT.at hts0 h args
  intro H locs ls hH hS hl
  obtain ⟨hcl, hin, hty, hnm⟩ := hc
  have hap := va_apart (own := own) hts hin ty hty hnm hK hcl
  obtain ⟨⟨r, h1, cell, q1, q2, q3, q4⟩, hAt⟩ := hH.1 _ _ he
  have hr : r = (C, T, N) := Option.some.inj (h1.symm.trans hcl)
  subst hr
  obtain ⟨hSl, hfc, kC, hkC, hkind⟩ := hK.1 ci _ hcl
  obtain ⟨cf, kf, fi, f, hi, hsl⟩ := hSl j hj
  have hlay := hts _ (hin _ (u_in_lay hj))
  unfold u_lay at hlay
  rw [if_pos hfin] at hlay
  have hst := (u_facts hfc hkC (u_lays hts hin hj) hi).1
  have hcf : m.cls = cf := by
    obtain ⟨_, _, c', _, _, _, -, -, hf', -, -, -, hown2, -⟩ := Cond.laysFinal_spec hlay
    have e1 : c' = cf := by have := hi.symm.trans hf'; simp at this; exact this.1.symm
    rw [hdecl] at hown2
    rw [← e1]; exact Option.some.inj (hown.symm.trans hown2)
  have h6 := u_fits hfc hkC hkind (Or.inr hlay) hi (hty j hj) hn hfit
  refine W.putFinK hexec hb hown (hts _ hw) hi hst hcf hinit (by rw [q2]; exact h6) q1 q3 (by rw [hsl]; exact k2_hasslot (q4 j hj)) rfl rfl hd fun H' e1 e2 e3 => ?_
  rw [hsl] at e1 ⊢
  exact k H' _ ls ((hH.set (e := .inr (ci, fs.set j v)) he ⟨_, hcl, t_OB.to (V := updV (vp_V fs) j v) ⟨_, e1, q2, q3, t_set q4 hap hj v⟩ (fun j' _ => vp_updV_set hlen v j')⟩ e3).cong hce) (hS.put e2 e3 hAt) hl
-- ===== arrays =====
theorem z_iald (hx : zOk x cc own Ts l D cl tys) {cA : ClassId} {N t : Nat} {f : Nat → Int32} (t0 : Nat) (ht : tys[t0]? = some (cA, .int)) (he : ce t = some (.inl (cA, N, .inl f))) {j : Int32} (hin : vp_in j N) (hd : decode cc pc = .ok (.iaload, 1)) (k : zV x ad ce n i lv (pc + 1) (.int (f j.toNatClampNeg) :: st)) : zV x ad ce n i lv pc (.int j :: .ref (ad t) :: st) := by
  obtain ⟨⟨p, l0, e, R, s⟩, ⟨m, args, below, meth, c⟩, ⟨D0, cl0, tys0⟩, A, Q⟩ := x
  obtain ⟨hexec, hb, hown, hts0, hK, hA, hlocks, hZ, hE1, hE⟩ := hx
  cases hE1
  cases hE
  intro H locs ls hH hS hl
  exact va_iald hexec hb hK (z_P1 (hH.1 _ _ he).1) 0 t0 rfl ht hin hd (k H locs ls hH hS hl)
theorem z_lald (hx : zOk x cc own Ts l D cl tys) {cA : ClassId} {N t : Nat} {f : Nat → Int64} (t0 : Nat) (ht : tys[t0]? = some (cA, .long)) (he : ce t = some (.inl (cA, N, .inr (.inl f)))) {j : Int32} (hin : vp_in j N) (hd : decode cc pc = .ok (.laload, 1)) (k : zV x ad ce n i lv (pc + 1) (.long (f j.toNatClampNeg) :: st)) : zV x ad ce n i lv pc (.int j :: .ref (ad t) :: st) := by
  obtain ⟨⟨p, l0, e, R, s⟩, ⟨m, args, below, meth, c⟩, ⟨D0, cl0, tys0⟩, A, Q⟩ := x
  obtain ⟨hexec, hb, hown, hts0, hK, hA, hlocks, hZ, hE1, hE⟩ := hx
  cases hE1
  cases hE
  intro H locs ls hH hS hl
  exact va_lald hexec hb hK (z_P1 (hH.1 _ _ he).1) 0 t0 rfl ht hin hd (k H locs ls hH hS hl)
theorem z_zald (hx : zOk x cc own Ts l D cl tys) {cA : ClassId} {N t : Nat} {f : Nat → Int32} (t0 : Nat) (ht : tys[t0]? = some (cA, .boolean)) (he : ce t = some (.inl (cA, N, .inl f))) {j : Int32} (hin : vp_in j N) (hd : decode cc pc = .ok (.baload, 1)) (k : zV x ad ce n i lv (pc + 1) (.int (f j.toNatClampNeg) :: st)) : zV x ad ce n i lv pc (.int j :: .ref (ad t) :: st) := by
  obtain ⟨⟨p, l0, e, R, s⟩, ⟨m, args, below, meth, c⟩, ⟨D0, cl0, tys0⟩, A, Q⟩ := x
  obtain ⟨hexec, hb, hown, hts0, hK, hA, hlocks, hZ, hE1, hE⟩ := hx
  cases hE1
  cases hE
  intro H locs ls hH hS hl
  exact va_zald hexec hb hK (z_P1 (hH.1 _ _ he).1) 0 t0 rfl ht hin hd (k H locs ls hH hS hl)
theorem z_aald (hx : zOk x cc own Ts l D cl tys) {cA : ClassId} {C : String} {N t : Nat} {f : Nat → Option Nat} (t0 : Nat) (ht : tys[t0]? = some (cA, .object C)) (he : ce t = some (.inl (cA, N, .inr (.inr (.inr (.inr f)))))) {j : Int32} (hin : vp_in j N) (hd : decode cc pc = .ok (.aaload, 1)) (k : zV x ad ce n i lv (pc + 1) (va_rf (f j.toNatClampNeg) :: st)) : zV x ad ce n i lv pc (.int j :: .ref (ad t) :: st) := by
  obtain ⟨⟨p, l0, e, R, s⟩, ⟨m, args, below, meth, c⟩, ⟨D0, cl0, tys0⟩, A, Q⟩ := x
  obtain ⟨hexec, hb, hown, hts0, hK, hA, hlocks, hZ, hE1, hE⟩ := hx
  cases hE1
  cases hE
  intro H locs ls hH hS hl
  exact va_aldq hexec hb hK (z_P1 (hH.1 _ _ he).1) 0 t0 rfl ht hin hd (k H locs ls hH hS hl)
theorem z_alen (hx : zOk x cc own Ts l D cl tys) {cA : ClassId} {t : Nat} {a : vp_A} {ty : FieldType} (t0 : Nat) (ht : tys[t0]? = some (cA, ty)) (he : ce t = some (.inl (cA, a))) {v : Int32} (hv : Int32.ofNat a.1 = v) (hd : decode cc pc = .ok (.arraylength, 1)) (k : zV x ad ce n i lv (pc + 1) (.int v :: st)) : zV x ad ce n i lv pc (.ref (ad t) :: st) := by
  obtain ⟨⟨p, l0, e, R, s⟩, ⟨m, args, below, meth, c⟩, ⟨D0, cl0, tys0⟩, A, Q⟩ := x
  obtain ⟨hexec, hb, hown, hts0, hK, hA, hlocks, hZ, hE1, hE⟩ := hx
  cases hE1
  cases hE
  intro H locs ls hH hS hl
  exact va_alen hexec hb hK (z_P1 (hH.1 _ _ he).1) 0 t0 rfl ht hv hd (k H locs ls hH hS hl)
theorem z_iast (hx : zOk x cc own Ts l D cl tys) {cA : ClassId} {N t : Nat} {f : Nat → Int32} (t0 : Nat) (ht : tys[t0]? = some (cA, .int)) (he : ce t = some (.inl (cA, N, .inl f))) {j v : Int32} (hin : vp_in j N) (hd : decode cc pc = .ok (.iastore, 1)) {ce1 : zW} (hce : ∀ u, ce1 u = z_up ce t (.inl (cA, N, .inl (upd f j.toNatClampNeg v))) u) (k : zV x ad ce1 n i lv (pc + 1) st) : zV x ad ce n i lv pc (.int v :: .int j :: .ref (ad t) :: st) := by
  obtain ⟨⟨p, l0, e, R, s⟩, ⟨m, args, below, meth, c⟩, ⟨D0, cl0, tys0⟩, A, Q⟩ := x
  obtain ⟨hexec, hb, hown, hts0, hK, hA, hlocks, hZ, hE1, hE⟩ := hx
  cases hE1
  cases hE
  intro H locs ls hH hS hl
  obtain ⟨h1, hAt⟩ := hH.1 _ _ he
  refine W.iast hexec hb h1 ((hK.2 t0 _ ht).1 N (fun j => .int (f j))) (fun q => by cases q) (by show ¬ (j < 0 ∨ (arrV _ _ _).slots.size ≤ _); rw [arrV_size]; exact hin) rfl rfl hd fun H1 e z oq => ?_
  refine k H1 _ ls ((hH.set he ?_ oq).cong hce) (hS.put z oq hAt) hl
  show H1[ad t]? = some (vp_cell _ _)
  rw [e]
  rw [vp_cell_i, vp_cell_i, arrV_store]
  congr 2
  funext q
  by_cases hq : q = j.toNatClampNeg
  · subst hq
    simp [updV, upd]
  · simp [updV, upd, hq]
theorem z_last (hx : zOk x cc own Ts l D cl tys) {cA : ClassId} {N t : Nat} {f : Nat → Int64} (t0 : Nat) (ht : tys[t0]? = some (cA, .long)) (he : ce t = some (.inl (cA, N, .inr (.inl f)))) {j : Int32} {v : Int64} (hin : vp_in j N) (hd : decode cc pc = .ok (.lastore, 1)) {ce1 : zW} (hce : ∀ u, ce1 u = z_up ce t (.inl (cA, N, .inr (.inl (vp_updL f j.toNatClampNeg v)))) u) (k : zV x ad ce1 n i lv (pc + 1) st) : zV x ad ce n i lv pc (.long v :: .int j :: .ref (ad t) :: st) := by
  obtain ⟨⟨p, l0, e, R, s⟩, ⟨m, args, below, meth, c⟩, ⟨D0, cl0, tys0⟩, A, Q⟩ := x
  obtain ⟨hexec, hb, hown, hts0, hK, hA, hlocks, hZ, hE1, hE⟩ := hx
  cases hE1
  cases hE
  intro H locs ls hH hS hl
  obtain ⟨h1, hAt⟩ := hH.1 _ _ he
  refine W.last hexec hb h1 ((hK.2 t0 _ ht).1 N (fun j => .long (f j))) (fun q => by cases q) (by show ¬ (j < 0 ∨ (arrV _ _ _).slots.size ≤ _); rw [arrV_size]; exact hin) rfl rfl hd fun H1 e z oq => ?_
  refine k H1 _ ls ((hH.set he ?_ oq).cong hce) (hS.put z oq hAt) hl
  show H1[ad t]? = some (vp_cell _ _)
  rw [e]
  rw [vp_cell_l, vp_cell_l, arrV_store]
  congr 2
  funext q
  by_cases hq : q = j.toNatClampNeg
  · subst hq
    simp [updV, vp_updL]
  · simp [updV, vp_updL, hq]
theorem z_aast (hx : zOk x cc own Ts l D cl tys) {cA : ClassId} {C : String} {T : u_T} {N N' ci t u : Nat} {ty : Nat → FieldType} {f : Nat → Option Nat} {vs : List Value} (t0 : Nat) (hc : zCl Ts cl ci C T N' ty) (ht : tys[t0]? = some (cA, .object C)) (he : ce t = some (.inl (cA, N, .inr (.inr (.inr (.inr f)))))) (hu : ce u = some (.inr (ci, vs))) {j : Int32} (hin : vp_in j N) (hd : decode cc pc = .ok (.aastore, 1)) {ce1 : zW} (hce : ∀ w, ce1 w = z_up ce t (.inl (cA, N, .inr (.inr (.inr (.inr (va_up f j.toNatClampNeg (some (ad u)))))))) w) (k : zV x ad ce1 n i lv (pc + 1) st) : zV x ad ce n i lv pc (.ref (ad u) :: .int j :: .ref (ad t) :: st) := by
  obtain ⟨⟨p, l0, e, R, s⟩, ⟨m, args, below, meth, c⟩, ⟨D0, cl0, tys0⟩, A, Q⟩ := x
  obtain ⟨hexec, hb, hown, hts0, hK, hA, hlocks, hZ, hE1, hE⟩ := hx
  cases hE1
  cases hE
  intro H locs ls hH hS hl
  obtain ⟨h1, hAt⟩ := hH.1 _ _ he
  have hlt : j.toNatClampNeg < N := Nat.not_le.mp fun q => hin (Or.inr q)
  have h0 : ¬ j < 0 := fun q => hin (Or.inl q)
  obtain ⟨r', hr', cellV, g1, g2, g3, -⟩ := (hH.1 _ _ hu).1
  have hcls := (hK.1 ci _ hc.1).2
  obtain ⟨kA, comp, k1, k2, k3, -⟩ := (hK.2 t0 _ ht).2
  have hcomp : comp = D.1 ci := Option.some.inj (k3.symm.trans hcls.1)
  subst hcomp
  obtain ⟨kC, hkC, -⟩ := hcls.2
  refine W.aast hexec hb h1 (fun q h => by cases h) (fun h => by cases h) k1 k2 rfl hkC ⟨h0, by show _ < (arrV _ _ _).slots.size; rw [arrV_size]; exact hlt⟩ g1 (fun q h => by rw [g3] at h; cases h) (by rw [g2]; exact hkC) (by rw [g2]; exact va_assign hcls) rfl rfl hd fun H1 e z oq => ?_
  refine k H1 _ ls ((hH.set he ?_ oq).cong hce) (hS.put z oq hAt) hl
  show H1[ad t]? = some (vp_cell _ _)
  rw [e]
  rw [vp_cell_q, vp_cell_q, arrV_store]
  congr 2
  funext q
  by_cases hq : q = j.toNatClampNeg
  · subst hq
    simp [updV, va_up, va_rf]
  · simp [updV, va_up, hq]
-- ===== new cells =====
theorem z_newa (hx : zOk x cc own Ts l D cl tys) {atype : ArrayType} {ty : FieldType} (hty : newarray.typeOf atype = ty) (t0 : Nat) {cA : ClassId} (ht : tys[t0]? = some (cA, ty)) (hprim : "[" ++ ty.toString ≠ "" ∧ ∀ C, ty ≠ .object C) (hw : Cond.arrayClass ty ∈ Ts) {t : Nat} (hfree : ce t = none) {j : Int32} {N : Nat} {a0 : vp_A} (ha : ∀ cA : ClassId, vp_cell cA a0 = arrV cA N (fun _ => defaultValue ty)) (hj : ¬ j < 0) (hN : j.toNatClampNeg = N) (hbytes : N * componentBytes ty ≤ 536870912) (hcells : n + 1 ≤ (zRm x).cells) (hslots : i + N ≤ (zRm x).slots) (hd : decode cc pc = .ok (.newarray atype, 2))
    (k : ∀ q : Nat, zV x (va_up ad t q) (z_up ce t (.inl (cA, a0))) (n + 1) (i + N) lv (pc + 2) (.ref q :: st)) : zV x ad ce n i lv pc (.int j :: st) := by
  obtain ⟨⟨p, l0, e, R, s⟩, ⟨m, args, below, meth, c⟩, ⟨D0, cl0, tys0⟩, A, Q⟩ := x
  obtain ⟨hexec, hb, hown, hts0, hK, hA, hlocks, hZ, hE1, hE⟩ := hx
  cases hE1
  cases hE
  have hts := fun w (h : w ∈ Ts) => zT.at hts0 h args
  intro H locs ls hH hS hl
  subst hty
  refine va_newaK hexec hb (hts _ hw) rfl hd rfl hj hN hbytes hcells hslots rfl fun H1 cA1 e1 z1 o1 hAr hNm => ?_
  have hcA : cA1 = cA := by
    have h2 := (hK.2 t0 _ ht).2
    have h3 : s.vm.findClass ("[" ++ (newarray.typeOf atype).toString) = some cA := by
      cases atype <;> exact h2
    exact Option.some.inj (hNm.symm.trans h3)
  subst hcA
  refine k H.size H1 locs ls (hH.new hfree ?_ (hA _ hS.1) o1) ⟨Nat.le_trans hS.1 (by omega), fun x h1 h2 => (o1 x (Nat.lt_of_lt_of_le h1 hS.1)).trans (hS.2.1 x h1 h2), hS.2.2⟩ hl
  show H1[H.size]? = some (vp_cell _ _)
  rw [ha]
  exact e1
theorem z_newq (hx : zOk x cc own Ts l D cl tys) {C : String} {index : Nat} (t0 : Nat) {cA : ClassId} (ht : tys[t0]? = some (cA, .object C)) (hw : Cond.classLink own index C ∈ Ts) (hw2 : Cond.arrayOver (.object C) ∈ Ts) {t : Nat} (hfree : ce t = none) {j : Int32} {N : Nat} (hj : ¬ j < 0) (hN : j.toNatClampNeg = N) (hbytes : N * 4 ≤ 536870912) (hcells : n + 1 ≤ (zRm x).cells) (hslots : i + N ≤ (zRm x).slots) (hd : decode cc pc = .ok (.anewarray index, 3))
    (k : ∀ q : Nat, zV x (va_up ad t q) (z_up ce t (.inl (cA, N, .inr (.inr (.inr (.inr (fun _ => none))))))) (n + 1) (i + N) lv (pc + 3) (.ref q :: st)) : zV x ad ce n i lv pc (.int j :: st) := by
  obtain ⟨⟨p, l0, e, R, s⟩, ⟨m, args, below, meth, c⟩, ⟨D0, cl0, tys0⟩, A, Q⟩ := x
  obtain ⟨hexec, hb, hown, hts0, hK, hA, hlocks, hZ, hE1, hE⟩ := hx
  cases hE1
  cases hE
  have hts := fun w (h : w ∈ Ts) => zT.at hts0 h args
  intro H locs ls hH hS hl
  subst hN
  refine W.anew hexec hb hown (hts _ hw) (hts _ hw2) rfl hd rfl hj hbytes hcells hslots fun cA1 kA comp f1 f2 f3 f4 => ?_
  obtain ⟨kA', comp', -, -, -, g4⟩ := (hK.2 t0 _ ht).2
  have hcA : cA1 = cA := Option.some.inj (f1.symm.trans g4)
  subst hcA
  generalize hH1 : H.push ({ cls := cA1, slots := Array.replicate j.toNatClampNeg .null, vm := .none } : Cell) = H1
  have z1 : H1.size = H.size + 1 := by rw [← hH1, Array.size_push]
  have e1 : H1[H.size]? = some (arrV cA1 j.toNatClampNeg (fun _ => .null)) := by rw [← hH1, Array.getElem?_push_size, ← arrV_new]
  have o1 : ∀ q : Nat, q < H.size → H1[q]? = H[q]? := fun q hq => by rw [← hH1, Array.getElem?_push, if_neg (Nat.ne_of_lt hq)]
  refine k H.size H1 locs ls (hH.new hfree ?_ (hA _ hS.1) o1) ⟨Nat.le_trans hS.1 (by omega), fun x h1 h2 => (o1 x (Nat.lt_of_lt_of_le h1 hS.1)).trans (hS.2.1 x h1 h2), hS.2.2⟩ hl
  show H1[H.size]? = some (vp_cell _ _)
  rw [vp_cell_q]
  exact e1
theorem z_new (hx : zOk x cc own Ts l D cl tys) {C : String} {T : u_T} {N ci index t : Nat} {ty : Nat → FieldType} {fs : List Value} (hc : zCl Ts cl ci C T N ty) (hw : Cond.classLink own index C ∈ Ts) (hw2 : Cond.instantiable C N ∈ Ts) (hw3 : Cond.initialized C ∈ Ts) (hfree : ce t = none) (hfs : ∀ j, j < N → defaultValue (ty j) = vp_V fs j) (hcells : n + 1 ≤ (zRm x).cells) (hslots : i + N ≤ (zRm x).slots) (hd : decode cc pc = .ok (.new index, 3))
    (k : ∀ q : Nat, zV x (va_up ad t q) (z_up ce t (.inr (ci, fs))) (n + 1) (i + N) lv (pc + 3) (.ref q :: st)) : zV x ad ce n i lv pc st := by
  obtain ⟨⟨p, l0, e, R, s⟩, ⟨m, args, below, meth, c⟩, ⟨D0, cl0, tys0⟩, A, Q⟩ := x
  obtain ⟨hexec, hb, hown, hts0, hK, hA, hlocks, hZ, hE1, hE⟩ := hx
  cases hE1
  cases hE
  have hts := fun w (h : w ∈ Ts) => zT.at hts0 h args
  intro H locs ls hH hS hl
  have hKn := hK.1 ci _ hc.1
  refine W.newcK hexec hb hown (hts _ hw) (hts _ hw2) (hts _ hw3) rfl hd hcells hslots hKn.2.1 rfl fun H1 kC hkC e1 z1 o1 => ?_
  exact k H.size H1 locs ls (hH.new hfree ⟨_, hc.1, (u_born ty hts hc.2.1 hKn hkC e1 hc.2.2.1).to hfs⟩ (hA _ hS.1) o1) ⟨Nat.le_trans hS.1 (by omega), fun x h1 h2 => (o1 x (Nat.lt_of_lt_of_le h1 hS.1)).trans (hS.2.1 x h1 h2), hS.2.2⟩ hl
theorem z_objInit (hx : zOk x cc own Ts l D cl tys) {index q : Nat} (hw : Cond.methodLink own index objectInit ∈ Ts) (hw2 : Cond.instanceMethod objectInit ∈ Ts) (hw3 : Cond.code objectInit ⟨#[0xb1]⟩ 1 none ∈ Ts) (hR : 1 ≤ (zRm x).frames) (hR2 : (st.map fun v => v.category).sum + 12 ≤ (zRm x).locals) (hd : decode cc pc = .ok (.invokespecial index, 3)) (k : zV x ad ce n i lv (pc + 3) st) : zV x ad ce n i lv pc (.ref q :: st) := by
  obtain ⟨⟨p, l0, e, R, s⟩, ⟨m, args, below, meth, c⟩, ⟨D0, cl0, tys0⟩, A, Q⟩ := x
  obtain ⟨hexec, hb, hown, hts0, hK, hA, hlocks, hZ, hE1, hE⟩ := hx
  cases hE1
  cases hE
  have hts := fun w (h : w ∈ Ts) => zT.at hts0 h args
  intro H locs ls hH hS hl
  refine W.objInit hexec hb hown (hts _ hw) (hts _ hw2) (hts _ hw3) rfl hl.1 rfl hd hR ?_ (k H locs ls hH hS hl)
  show 2 * 0 + (st.map fun v => v.category).sum + (1 + 11) ≤ _
  show 2 * 0 + (st.map fun v => v.category).sum + (1 + 11) ≤ R.locals
  have : (st.map fun v => v.category).sum + 12 ≤ R.locals := hR2
  omega
end ZR
