-- ===== contracts =====
/-- how a method came back: it answered, or it threw an exception of that class -/
def zIs (o : Outcome) (r : Option Value ⊕ String) (t : State) : Prop := match o, r with
  | .returned v, .inl w => v = w
  | .threw a, .inr E => ∃ cell : Cell, t.heap[a]? = some cell ∧ cell.vm.isStatics = false ∧ t.vm.findClass E = some cell.cls
  | _, _ => False
abbrev zQ : Type := (Option Value ⊕ String) → (Nat → Nat) → zW → Prop
def zBack (D : va_G) (cl : List vw_C) (A : Nat → Prop) (s : State) (mc ms : Nat) (post : zQ) (o : Outcome) (t : State) : Prop :=
  (∃ (r : Option Value ⊕ String) (ad : Nat → Nat) (ce : zW), zIs o r t ∧ post r ad ce ∧ z_H D cl A ad ce t.heap) ∧ va_F A s t ∧ s.WarmedH t.vm ∧ ∃ L, s.sameButNew ({ t with vm := s.vm } : State) L mc ms ∧ ∀ q ∈ L, A q.base
def zEnd (D : va_G) (cl : List vw_C) (A : Nat → Prop) (s : State) (below : List Frame) (mc ms : Nat) (post : zQ) : State → Prop := fun t =>
  ∃ o, t.status = .running ∧ Ended t below o ∧ zBack D cl A s mc ms post o t
def zPre (Ts : List Cond) (D : va_G) (cl : List vw_C) (tys : List (ClassId × FieldType)) (ad : Nat → Nat) (ce : zW) (U : State) : Prop :=
  zT Ts U ∧ va_K D cl tys U ∧ z_H D cl (zA ad ce U.heap.size) ad ce U.heap ∧ zS (zA ad ce U.heap.size) U U.heap
/-- A CONTRACT over tagged worlds: the method y (whose code the word cw tells), called with av in the world (ad, ce), comes back as 'post' says -/
def zC (l : Launch) (Ts : List Cond) (D : va_G) (cl : List vw_C) (tys : List (ClassId × FieldType)) (y : MethodName) (cw : Cond) (rm : Room) (av : List Value) (ad : Nat → Nat) (ce : zW) (post : zQ) : Prop :=
  MetFree l y (headSpec [cw] rm) (fun a U => a = av.toArray ∧ zPre Ts D cl tys ad ce U) (fun _ _ _ _ _ => True) (fun _ s o t => zBack D cl (zA ad ce s.heap.size) s rm.cells rm.slots post o t)
/-- what a walk that ends may go out with -/
def zRet (x : zX) (mc ms : Nat) (post : zQ) : Prop := ∀ t, zEnd x.2.2.1.1 x.2.2.1.2.1 x.2.2.2.1 x.1.2.2.2.2 x.2.1.2.2.1 mc ms post t → x.2.2.2.2 t
/-- no handler covers anything -/
def zNH (x : zX) : Prop := ∀ pc : Nat, ∀ z ∈ x.2.1.2.2.2.2.exceptionTable.toList, covers z pc = false
theorem zC.of {l : Launch} {Ts : List Cond} {D : va_G} {cl : List vw_C} {tys : List (ClassId × FieldType)} {y : MethodName} {cc : ByteArray} {maxL : Nat} {ret : Option FieldType} {rm : Room} {av : List Value} {ad : Nat → Nat} {ce : zW} {post : zQ}
    (hy : plainName y.cls = true) (hlen : (lg_sl av).length ≤ maxL)
    (body : ∀ x : zX, zOk x cc y.cls Ts l D cl tys → (zmeth x).sig.returnType = ret → (zcode x).maxLocals = maxL → (zmeth x).name = y.name → zRm x = rm → zRet x rm.cells rm.slots post → zNH x → zV x ad ce 0 0 (lv_args 0 av) 0 []) :
    zC l Ts D cl tys y (.code y cc maxL ret) rm av ad ce post := by
  refine MetFree.of_bodyS (code := cc) (maxLocals := maxL) (ret := ret) hy ?_ ?_
  · intro args s m h hn
    obtain ⟨meth, c, h1, h2, h3, h4, h5, h6, -, -⟩ := Cond.code_spec hn (atoms_spec (ws := [Cond.code y cc maxL ret]) h _ List.mem_cons_self)
    exact ⟨meth, c, h1, h2, h3, h4, h5, h6⟩
  · intro p e s m args below meth c s₁ B hml hP _
    obtain ⟨rfl, hT, hK, hH, hZ⟩ := hP
    have hcw : (Cond.code y cc maxL ret).before av.toArray s = true := atoms_spec (ws := [Cond.code y cc maxL ret]) B.pre _ List.mem_cons_self
    have hh0 : s₁.heap = s.heap := by rw [B.state]; rfl
    have hv := body ((p, l, e, rm, s), (m, av.toArray, below, meth, c), (D, cl, tys), zA ad ce s.heap.size, zEnd D cl (zA ad ce s.heap.size) s below rm.cells rm.slots post)
      ⟨B.exec, B.bytes, findClass_of_methodNamed B.named, hT, hK, fun q h => Or.inr h, B.notSynchronized, hZ, rfl, rfl⟩ B.returns hml (name_of_methodNamed B.named B.method).1 rfl (fun t h => h) (fun pc => covers_of_empty (B.noHandlers hcw) pc)
    have hl := lv_entry av (n := maxL) hlen
    have hw := hv s.heap [] ((lg_sl av ++ List.replicate (maxL - (lg_sl av).length) Slot.unset).toArray) hH va_S.rf (by show lv_has _ c.maxLocals _; rw [hml]; exact hl)
    rw [← lg_entry_eq] at hw
    obtain ⟨t, a1, o, b1, b2, b3⟩ := hw s₁ hh0 (Stand.of_body B)
    exact ⟨t, o, a1, b1, b2, b3⟩
section ZE
variable {x : zX} {cc : ByteArray} {own : String} {Ts : List Cond} {l : Launch} {D : va_G} {cl : List vw_C} {tys : List (ClassId × FieldType)} {ad : Nat → Nat} {ce : zW} {n i pc mc ms : Nat} {lv : List (Nat × Value)} {st : List Value} {post : zQ}
theorem W_mono {p : Program} {e : Env} {R : Room} {s : State} {m : MethodId} {args : Array Value} {below : List Frame} {meth : Method} {c : Code} {H : Heap} {locs : List Loc} {n i : Nat} {Q1 Q2 : State → Prop} {g : JFrame} (h : ∀ t, Q1 t → Q2 t) (k : W p l e R s m args below meth c H locs n i Q1 g) : W p l e R s m args below meth c H locs n i Q2 g := fun T hT X => by
  obtain ⟨t, a, b⟩ := k T hT X
  exact ⟨t, a, h t b⟩
theorem z_iret (hx : zOk x cc own Ts l D cl tys) {ty : FieldType} (hr : (zmeth x).sig.returnType = some ty) {v : Int32} (hn : narrow ty (.int v) = .int v) (hq : zRet x mc ms post) (h1 : n ≤ mc) (h2 : i ≤ ms) (hd : decode cc pc = .ok (.ireturn, 1)) (hp : post (.inl (some (.int v))) ad ce) : zV x ad ce n i lv pc [.int v] := by
  obtain ⟨⟨p, l0, e, R, s⟩, ⟨m, args, below, meth, c⟩, ⟨D0, cl0, tys0⟩, A, Q⟩ := x
  obtain ⟨hexec, hb, hown, hts0, hK, hA, hlocks, hZ, hE1, hE⟩ := hx
  cases hE1
  cases hE
  intro H locs ls hH hS hl
  refine W.widen h1 h2 ?_
  refine W_mono ?_ (W.zret (Qc := fun _ _ o t => o = .returned (some (.int v)) ∧ t.heap = H) (free := A) hexec hb hr hn (fun t ht _ => ⟨rfl, ht⟩) hS.2.2 hd hlocks)
  rintro t ⟨o, g1, g2, ⟨rfl, ht⟩, L, ⟨-, hW, hs⟩, hL⟩
  exact hq t ⟨_, g1, g2, ⟨.inl (some (.int v)), ad, ce, rfl, hp, by rw [ht]; exact hH⟩, hS.F ht, hW, L, hs, hL⟩
theorem z_lret (hx : zOk x cc own Ts l D cl tys) (hr : (zmeth x).sig.returnType = some .long) {v : Int64} (hq : zRet x mc ms post) (h1 : n ≤ mc) (h2 : i ≤ ms) (hd : decode cc pc = .ok (.lreturn, 1)) (hp : post (.inl (some (.long v))) ad ce) : zV x ad ce n i lv pc [.long v] := by
  obtain ⟨⟨p, l0, e, R, s⟩, ⟨m, args, below, meth, c⟩, ⟨D0, cl0, tys0⟩, A, Q⟩ := x
  obtain ⟨hexec, hb, hown, hts0, hK, hA, hlocks, hZ, hE1, hE⟩ := hx
  cases hE1
  cases hE
  intro H locs ls hH hS hl
  refine W.widen h1 h2 ?_
  refine W_mono ?_ (W.lret (Qc := fun _ _ o t => o = .returned (some (.long v)) ∧ t.heap = H) (free := A) hexec hb hr (fun t ht _ => ⟨rfl, ht⟩) hS.2.2 hd hlocks)
  rintro t ⟨o, g1, g2, ⟨rfl, ht⟩, L, ⟨-, hW, hs⟩, hL⟩
  exact hq t ⟨_, g1, g2, ⟨.inl (some (.long v)), ad, ce, rfl, hp, by rw [ht]; exact hH⟩, hS.F ht, hW, L, hs, hL⟩
theorem z_vret (hx : zOk x cc own Ts l D cl tys) (hr : (zmeth x).sig.returnType = none) (hq : zRet x mc ms post) (h1 : n ≤ mc) (h2 : i ≤ ms) (hd : decode cc pc = .ok (.return_, 1)) (hp : post (.inl (none)) ad ce) : zV x ad ce n i lv pc [] := by
  obtain ⟨⟨p, l0, e, R, s⟩, ⟨m, args, below, meth, c⟩, ⟨D0, cl0, tys0⟩, A, Q⟩ := x
  obtain ⟨hexec, hb, hown, hts0, hK, hA, hlocks, hZ, hE1, hE⟩ := hx
  cases hE1
  cases hE
  intro H locs ls hH hS hl
  refine W.widen h1 h2 ?_
  refine W_mono ?_ (W.vret (Qc := fun _ _ o t => o = .returned none ∧ t.heap = H) (free := A) hexec hb hr (fun t ht _ => ⟨rfl, ht⟩) hS.2.2 hd hlocks)
  rintro t ⟨o, g1, g2, ⟨rfl, ht⟩, L, ⟨-, hW, hs⟩, hL⟩
  exact hq t ⟨_, g1, g2, ⟨.inl (none), ad, ce, rfl, hp, by rw [ht]; exact hH⟩, hS.F ht, hW, L, hs, hL⟩
theorem z_aret (hx : zOk x cc own Ts l D cl tys) {rt : FieldType} (hr : (zmeth x).sig.returnType = some rt) (hrt : (∃ n, rt = .object n) ∨ ∃ t, rt = .array t) {q : Nat} (hq : zRet x mc ms post) (h1 : n ≤ mc) (h2 : i ≤ ms) (hd : decode cc pc = .ok (.areturn, 1)) (hp : post (.inl (some (.ref q))) ad ce) : zV x ad ce n i lv pc [.ref q] := by
  obtain ⟨⟨p, l0, e, R, s⟩, ⟨m, args, below, meth, c⟩, ⟨D0, cl0, tys0⟩, A, Q⟩ := x
  obtain ⟨hexec, hb, hown, hts0, hK, hA, hlocks, hZ, hE1, hE⟩ := hx
  cases hE1
  cases hE
  intro H locs ls hH hS hl
  refine W.widen h1 h2 ?_
  refine W_mono ?_ (W.aret (Qc := fun _ _ o t => o = .returned (some (.ref q)) ∧ t.heap = H) (free := A) hexec hb hr hrt (Or.inr ⟨q, rfl⟩) (fun t ht _ => ⟨rfl, ht⟩) hS.2.2 hd hlocks)
  rintro t ⟨o, g1, g2, ⟨rfl, ht⟩, L, ⟨-, hW, hs⟩, hL⟩
  exact hq t ⟨_, g1, g2, ⟨.inl (some (.ref q)), ad, ce, rfl, hp, by rw [ht]; exact hH⟩, hS.F ht, hW, L, hs, hL⟩
/-- where a call lands -/
def zLand (T : State) (g : JFrame) (len : Nat) (o : Outcome) : State := match o with
  | .returned v => T.setTop { g with pc := g.pc + len, stack := v.toList ++ g.stack }
  | .threw a => (T.setTop g).pushFrame (.throwing a)
theorem z_call {p : Program} {e : Env} {R : Room} {s : State} {m : MethodId} {args : Array Value} {below : List Frame} {meth : Method} {c : Code} {T : State} {locs : List Loc} {A : Nat → Prop} {y : MethodName} {cb : ByteArray} {maxL : Nat} {ret : Option FieldType} {rm : Room} {av : List Value} {post' : zQ}
    (X : Stand p l e R s m args below meth c T locs n i) (hT : zT Ts s) (hK : va_K D cl tys s) (hA : ∀ q, s.heap.size ≤ q → A q) (hZ : zS A s s.heap) (hH : z_H D cl A ad ce T.heap) (hS : va_S A s.heap T.heap locs)
    (hM : zC l Ts D cl tys y (.code y cb maxL ret) rm av ad ce post') (hw : Cond.code y cb maxL ret ∈ Ts) (hw2 : Cond.initialized y.cls ∈ Ts)
    {g : JFrame} (hg : g.method = m) (hsize : g.locals.size = c.maxLocals) {ig : Instr} {len : Nat} (hdg : decode c.code g.pc = .ok (ig, len)) {mk : MethodId} (hn : T.methodNamed? y = some mk)
    (hframes : rm.frames + 1 ≤ R.frames) (hlocals : 2 * g.monitorRoom + (g.stack.map fun v => v.category).sum + (maxL + 11) + rm.locals ≤ R.locals) (hcells : n + rm.cells ≤ R.cells) (hslots : i + rm.slots ≤ R.slots) :
    ∃ (o : Outcome) (T' : State) (L : List Loc) (r : Option Value ⊕ String) (ad' : Nat → Nat) (ce' : zW), Stand p l e R s m args below meth c T' (locs ++ L) (n + rm.cells) (i + rm.slots) ∧ va_S A s.heap T'.heap (locs ++ L) ∧ z_H D cl A ad' ce' T'.heap ∧ zIs o r T' ∧ post' r ad' ce' ∧
      ∀ acts, Steps p.tables e below (doInvoke e (T.setTop g) acts mk av.toArray).1 (zLand T' g len o) := by
  have hTU : zT Ts T := hT.on X.warmed
  have h2 : (Cond.code y cb maxL ret).before av.toArray T = true := hTU.at hw _
  have h3 : (Cond.initialized y.cls).before av.toArray T = true := hTU.at hw2 _
  obtain ⟨methY, cY, hmY, hcY, -, hlY, -, -, -, -⟩ := Cond.code_spec hn h2
  obtain ⟨kY, hkY, -⟩ := className_of_methodNamed hn
  have hinitY : kY.init = .initialized := Cond.initialized_spec (findClass_of_methodNamed hn) hkY h3
  have h : At T g.method c below := by rw [hg]; exact X.here
  have happ : (headSpec [Cond.code y cb maxL ret] rm).appliesLoose y e.platform (T.calling g mk av.toArray) = true :=
    Spec.appliesLoose_calling (g := g) h hdg hn hkY hinitY
      (X.room_calling (g := g) (R' := rm) hsize hmY hcY hframes (by rw [hlY]; exact hlocals) hcells hslots) (atoms_intro (ws := [Cond.code y cb maxL ret]) (fun w hw' => by rw [List.mem_singleton.mp hw']; exact h2))
  obtain ⟨mid, hmid⟩ := h.above
  have hfr : (T.setTop g).frames = (.java g :: mid) ++ below := by rw [State.frames_setTop' g h.top, hmid]; rfl
  have hAA : ∀ q, zA ad ce T.heap.size q → A q := by
    intro q hq
    rcases hq with ⟨u, f, hu, rfl⟩ | hq
    · exact (hH.1 u f hu).2
    · exact hA q (Nat.le_trans hS.1 hq)
  have hH' : z_H D cl (zA ad ce T.heap.size) ad ce T.heap := ⟨fun t f ht => ⟨(hH.1 t f ht).1, Or.inl ⟨t, f, ht, rfl⟩⟩, hH.2⟩
  have hP : zPre Ts D cl tys ad ce (T.calling g mk av.toArray) :=
    ⟨hT.on (U := T.calling g mk av.toArray) X.warmed, va_K.moved (U := T.calling g mk av.toArray) X.warmed.alike hK, hH',
      zS.on (U := T.calling g mk av.toArray) X.warmed.alike hZ hS.2.1 hAA⟩
  obtain ⟨o, s₂, hsteps, -, hend, hq⟩ := Steps.callFree hM p X.admits X.cas X.clock (acts := []) hfr happ ⟨rfl, hP⟩ trivial
  have hst : ∀ acts, Steps p.tables e below (doInvoke e (T.setTop g) acts mk av.toArray).1 s₂ := fun acts => by rw [doInvoke_state]; exact hsteps
  rw [State.frames_setTop' g h.top, X.tail] at hend
  obtain ⟨⟨r, ad', ce', hr, hp, hz⟩, hF, hW₂, L, hsame, hL⟩ := hq
  have hSn : ∀ H1 : Heap, H1 = s₂.heap → va_S A s.heap H1 (locs ++ L) := by
    rintro H1 rfl
    refine ⟨Nat.le_trans hS.1 hF.1, fun q h1 h2 => ?_, fun q hq => ?_⟩
    · have hlt : q < T.heap.size := Nat.lt_of_lt_of_le h1 hS.1
      exact (hF.2 q hlt (fun z => h2 (hAA q z))).trans (hS.2.1 q h1 h2)
    · rcases List.mem_append.mp hq with h | h
      · exact hS.2.2 q h
      · exact hAA _ (hL q h)
  cases o with
  | returned v =>
    obtain ⟨T', X', hW', -, ht⟩ := X.outOf hg hdg hend hW₂ hsame
    have hh : T'.heap = s₂.heap := by rw [ht]; rfl
    refine ⟨.returned v, T', L, r, ad', ce', X', hSn _ hh, by rw [hh]; exact hz.weaken hAA, ?_, hp, fun acts => by rw [show zLand T' g len (.returned v) = s₂ from ht.symm]; exact hst acts⟩
    cases r with
    | inl w => exact hr
    | inr E => exact hr.elim
  | threw a =>
    obtain ⟨T', X', hW', -, ht⟩ := X.outOfThrown hg hend hW₂ hsame
    have hh : T'.heap = s₂.heap := by rw [ht]; rfl
    have hv : T'.vm = s₂.vm := by rw [ht]; rfl
    refine ⟨.threw a, T', L, r, ad', ce', X', hSn _ hh, by rw [hh]; exact hz.weaken hAA, ?_, hp, fun acts => by rw [show zLand T' g len (.threw a) = s₂ from ht.symm]; exact hst acts⟩
    cases r with
    | inl w => exact hr.elim
    | inr E =>
      obtain ⟨cell, g1, g2, g3⟩ := hr
      exact ⟨cell, by rw [hh]; exact g1, g2, by rw [hv]; exact g3⟩
/-- the words of a call: the callee's code and class; that its name is plain and so many numbers go in -/
def zWc (Ts : List Cond) (y : MethodName) (cb : ByteArray) (maxL : Nat) (ret : Option FieldType) (na : Nat) (own : Cond) : Prop :=
  (own ∈ Ts) ∧ Cond.code y cb maxL ret ∈ Ts ∧ Cond.initialized y.cls ∈ Ts ∧ (y.cls ≠ "java/lang/invoke/MethodHandle" ∧ y.cls ≠ "java/lang/invoke/VarHandle") ∧ (∀ sig, parseMethodDescriptor y.desc = some sig → na = sig.parameters.length)
theorem z_invV (hx : zOk x cc own Ts l D cl tys) {index na t ci N : Nat} {y : MethodName} {cb : ByteArray} {maxL : Nat} {ret : Option FieldType} {rm : Room} {As : List Value} {post' : zQ} {T : u_T} {ty : Nat → FieldType} {fs : List Value} (hc : zCl Ts cl ci y.cls T N ty) (he : ce t = some (.inr (ci, fs)))
    (hM : zC l Ts D cl tys y (.code y cb maxL ret) rm (.ref (ad t) :: As) ad ce post') (hg : zWc Ts y cb maxL ret na (Cond.methodLink own index y)) (hi : Cond.instanceMethod y ∈ Ts) (hse : Cond.selects y.cls y y ∈ Ts) (hlen : As.length = na) {st0 : List Value} (hst0 : As.reverse ++ .ref (ad t) :: st = st0) (hd : decode cc pc = .ok (.invokevirtual index, 3))
    (hR : rm.frames + 1 ≤ (zRm x).frames ∧ (st.map fun v => v.category).sum + (maxL + 11) + rm.locals ≤ (zRm x).locals ∧ n + rm.cells ≤ (zRm x).cells ∧ i + rm.slots ≤ (zRm x).slots) (hq : zRet x mc ms post) (h1 : n + rm.cells ≤ mc) (h2 : i + rm.slots ≤ ms) (hNH : zNH x)
    (k : ∀ v ad' ce', post' (.inl v) ad' ce' → zV x ad' ce' (n + rm.cells) (i + rm.slots) lv (pc + 3) (v.toList ++ st)) (kt : ∀ E ad' ce', post' (.inr E) ad' ce' → post (.inr E) ad' ce') : zV x ad ce n i lv pc st0 := by
  obtain ⟨⟨p, l0, e, R, s⟩, ⟨m, args, below, meth, c⟩, ⟨D0, cl0, tys0⟩, A, Q⟩ := x
  obtain ⟨hexec, hb, hown, hts0, hK, hA, hlocks, hZ, hE1, hE⟩ := hx
  cases hE1
  cases hE
  have hts := fun w (h : w ∈ Ts) => zT.at hts0 h args
  intro H locs ls hH hS hl T hT X
  subst hT
  subst hb
  subst hst0
  obtain ⟨⟨r', hr', cellB, g1, g2, g3, -⟩, -⟩ := hH.1 _ _ he
  have hclB : s.vm.findClass y.cls = some cellB.cls := by rw [g2]; exact (hK.1 ci _ hc.1).2.1
  obtain ⟨mk, methM, hnamed, hmethM, hstM, habM⟩ := Cond.instanceMethod_spec (hts _ hi)
  obtain ⟨methM', cM, hmethM', -, -, -, -, -, -, hsigM⟩ := Cond.code_spec hnamed (hts _ hg.2.1)
  cases hmethM.symm.trans hmethM'
  obtain ⟨c2, r2, m2, q1, q2, q3, q4, kP, hkP, hkPi⟩ := Cond.selects_spec (hts _ hse)
  cases hclB.symm.trans q1
  cases (State.methodFound?_of_named hnamed hg.2.2.2.1).symm.trans q2
  cases hnamed.symm.trans q3
  have hselP : selectMethod e.platform s.vm cellB.cls mk = .method mk := by rw [Launch.admits_selectMethod X.admits]; exact q4
  obtain ⟨vm₁, X₁, hstep₁⟩ := X.invokevirtual hexec hown (hts _ hg.1) hnamed hmethM hstM hkP hkPi hg.2.2.2.1 (a := ad t) (cell := cellB) g1
    (fun z h => by rw [g3] at h; cases h) hselP hmethM habM hkP hkPi (g := F0 m pc ls (As.reverse ++ .ref (ad t) :: st)) rfl (argsL := As) (rest := st) (hlen.trans (hg.2.2.2.2 _ hsigM)) rfl hd
  obtain ⟨o, T', L, r, ad', ce', X', hS', hH', hr, hp, hst⟩ := z_call X₁ hts0 hK hA hZ (T := T.setVm vm₁) hH hS hM hg.2.1 hg.2.2.1 (g := F0 m pc ls st) rfl hl.1 hd (X₁.named hnamed) hR.1 (by show 2 * 0 + _ + _ + _ ≤ _; have := hR.2.1; simp only [Nat.mul_zero, Nat.zero_add]; exact this) hR.2.2.1 hR.2.2.2
  cases o with
  | returned v =>
    cases r with
    | inr E => exact hr.elim
    | inl w =>
      obtain rfl : v = w := hr
      obtain ⟨t2, a1, b1⟩ := k v ad' ce' hp T'.heap (locs ++ L) ls hH' hS' hl T' rfl X'
      exact ⟨t2, hstep₁ _ fun acts => (hst acts).trans a1, b1⟩
  | threw a =>
    cases r with
    | inl w => exact hr.elim
    | inr E =>
      have hlocks : meth.locks = false := hlocks
      obtain ⟨w1, w2, w3, w4, w5⟩ := (stand_widen X' h1 h2).leaveThrown a (g := F0 m pc ls st) rfl rfl rfl (hNH pc)
      obtain ⟨cell, g1, g2, g3⟩ := hr
      exact ⟨_, hstep₁ _ fun acts => (hst acts).trans w1, hq _ ⟨.threw a, w2, w3, ⟨.inr E, ad', ce', ⟨cell, g1, g2, g3⟩, kt E ad' ce' hp, hH'⟩, hS'.F rfl, w4, _, w5, hS'.2.2⟩⟩
theorem z_invVN (hx : zOk x cc own Ts l D cl tys) {host : String} {index na t ci N : Nat} {y : MethodName} {cb : ByteArray} {maxL : Nat} {ret : Option FieldType} {rm : Room} {As : List Value} {post' : zQ} {T : u_T} {ty : Nat → FieldType} {fs : List Value} (hc : zCl Ts cl ci y.cls T N ty) (he : ce t = some (.inr (ci, fs)))
    (hM : zC l Ts D cl tys y (.code y cb maxL ret) rm (.ref (ad t) :: As) ad ce post') (hg : zWc Ts y cb maxL ret na (Cond.methodLinkNest own index y host)) (hi : Cond.instanceMethod y ∈ Ts) (hse : Cond.selects y.cls y y ∈ Ts) (hlen : As.length = na) {st0 : List Value} (hst0 : As.reverse ++ .ref (ad t) :: st = st0) (hd : decode cc pc = .ok (.invokevirtual index, 3))
    (hR : rm.frames + 1 ≤ (zRm x).frames ∧ (st.map fun v => v.category).sum + (maxL + 11) + rm.locals ≤ (zRm x).locals ∧ n + rm.cells ≤ (zRm x).cells ∧ i + rm.slots ≤ (zRm x).slots) (hq : zRet x mc ms post) (h1 : n + rm.cells ≤ mc) (h2 : i + rm.slots ≤ ms) (hNH : zNH x)
    (k : ∀ v ad' ce', post' (.inl v) ad' ce' → zV x ad' ce' (n + rm.cells) (i + rm.slots) lv (pc + 3) (v.toList ++ st)) (kt : ∀ E ad' ce', post' (.inr E) ad' ce' → post (.inr E) ad' ce') : zV x ad ce n i lv pc st0 := by
  obtain ⟨⟨p, l0, e, R, s⟩, ⟨m, args, below, meth, c⟩, ⟨D0, cl0, tys0⟩, A, Q⟩ := x
  obtain ⟨hexec, hb, hown, hts0, hK, hA, hlocks, hZ, hE1, hE⟩ := hx
  cases hE1
  cases hE
  have hts := fun w (h : w ∈ Ts) => zT.at hts0 h args
  intro H locs ls hH hS hl T hT X
  subst hT
  subst hb
  subst hst0
  obtain ⟨⟨r', hr', cellB, g1, g2, g3, -⟩, -⟩ := hH.1 _ _ he
  have hclB : s.vm.findClass y.cls = some cellB.cls := by rw [g2]; exact (hK.1 ci _ hc.1).2.1
  obtain ⟨mk, methM, hnamed, hmethM, hstM, habM⟩ := Cond.instanceMethod_spec (hts _ hi)
  obtain ⟨methM', cM, hmethM', -, -, -, -, -, -, hsigM⟩ := Cond.code_spec hnamed (hts _ hg.2.1)
  cases hmethM.symm.trans hmethM'
  obtain ⟨c2, r2, m2, q1, q2, q3, q4, kP, hkP, hkPi⟩ := Cond.selects_spec (hts _ hse)
  cases hclB.symm.trans q1
  cases (State.methodFound?_of_named hnamed hg.2.2.2.1).symm.trans q2
  cases hnamed.symm.trans q3
  have hselP : selectMethod e.platform s.vm cellB.cls mk = .method mk := by rw [Launch.admits_selectMethod X.admits]; exact q4
  obtain ⟨vm₁, X₁, hstep₁⟩ := X.invokevirtualNest hexec hown (hts _ hg.1) hnamed hmethM hstM hkP hkPi hg.2.2.2.1 (a := ad t) (cell := cellB) g1
    (fun z h => by rw [g3] at h; cases h) hselP hmethM habM hkP hkPi (g := F0 m pc ls (As.reverse ++ .ref (ad t) :: st)) rfl (argsL := As) (rest := st) (hlen.trans (hg.2.2.2.2 _ hsigM)) rfl hd
  obtain ⟨o, T', L, r, ad', ce', X', hS', hH', hr, hp, hst⟩ := z_call X₁ hts0 hK hA hZ (T := T.setVm vm₁) hH hS hM hg.2.1 hg.2.2.1 (g := F0 m pc ls st) rfl hl.1 hd (X₁.named hnamed) hR.1 (by show 2 * 0 + _ + _ + _ ≤ _; have := hR.2.1; simp only [Nat.mul_zero, Nat.zero_add]; exact this) hR.2.2.1 hR.2.2.2
  cases o with
  | returned v =>
    cases r with
    | inr E => exact hr.elim
    | inl w =>
      obtain rfl : v = w := hr
      obtain ⟨t2, a1, b1⟩ := k v ad' ce' hp T'.heap (locs ++ L) ls hH' hS' hl T' rfl X'
      exact ⟨t2, hstep₁ _ fun acts => (hst acts).trans a1, b1⟩
  | threw a =>
    cases r with
    | inl w => exact hr.elim
    | inr E =>
      have hlocks : meth.locks = false := hlocks
      obtain ⟨w1, w2, w3, w4, w5⟩ := (stand_widen X' h1 h2).leaveThrown a (g := F0 m pc ls st) rfl rfl rfl (hNH pc)
      obtain ⟨cell, g1, g2, g3⟩ := hr
      exact ⟨_, hstep₁ _ fun acts => (hst acts).trans w1, hq _ ⟨.threw a, w2, w3, ⟨.inr E, ad', ce', ⟨cell, g1, g2, g3⟩, kt E ad' ce' hp, hH'⟩, hS'.F rfl, w4, _, w5, hS'.2.2⟩⟩
theorem z_invS (hx : zOk x cc own Ts l D cl tys) {index na : Nat} {y : MethodName} {cb : ByteArray} {maxL : Nat} {ret : Option FieldType} {rm : Room} {As : List Value} {post' : zQ}
    (hM : zC l Ts D cl tys y (.code y cb maxL ret) rm As ad ce post') (hg : zWc Ts y cb maxL ret na (Cond.methodLink own index y)) (hi : Cond.static y ∈ Ts) (hlen : As.length = na) {st0 : List Value} (hst0 : As.reverse ++ st = st0) (hd : decode cc pc = .ok (.invokestatic index, 3))
    (hR : rm.frames + 1 ≤ (zRm x).frames ∧ (st.map fun v => v.category).sum + (maxL + 11) + rm.locals ≤ (zRm x).locals ∧ n + rm.cells ≤ (zRm x).cells ∧ i + rm.slots ≤ (zRm x).slots) (hq : zRet x mc ms post) (h1 : n + rm.cells ≤ mc) (h2 : i + rm.slots ≤ ms) (hNH : zNH x)
    (k : ∀ v ad' ce', post' (.inl v) ad' ce' → zV x ad' ce' (n + rm.cells) (i + rm.slots) lv (pc + 3) (v.toList ++ st)) (kt : ∀ E ad' ce', post' (.inr E) ad' ce' → post (.inr E) ad' ce') : zV x ad ce n i lv pc st0 := by
  obtain ⟨⟨p, l0, e, R, s⟩, ⟨m, args, below, meth, c⟩, ⟨D0, cl0, tys0⟩, A, Q⟩ := x
  obtain ⟨hexec, hb, hown, hts0, hK, hA, hlocks, hZ, hE1, hE⟩ := hx
  cases hE1
  cases hE
  have hts := fun w (h : w ∈ Ts) => zT.at hts0 h args
  intro H locs ls hH hS hl T hT X
  subst hT
  subst hb
  subst hst0
  obtain ⟨mk, hnamed⟩ := Cond.code_named (hts _ hg.2.1)
  obtain ⟨methM, cM, hmethM, -, -, -, -, -, -, hsigM⟩ := Cond.code_spec hnamed (hts _ hg.2.1)
  have hstatic : methM.isStatic = true := Cond.static_spec hnamed hmethM (hts _ hi)
  obtain ⟨kP, hkP, -⟩ := className_of_methodNamed hnamed
  have hinitP : kP.init = .initialized := Cond.initialized_spec (findClass_of_methodNamed hnamed) hkP (hts _ hg.2.2.1)
  obtain ⟨vm₁, X₁, hstep₁⟩ := X.invokestatic hexec hown (hts _ hg.1) hnamed hmethM hstatic hkP hinitP hg.2.2.2.1 (g := F0 m pc ls (As.reverse ++ st)) rfl (argsL := As) (rest := st) (hlen.trans (hg.2.2.2.2 _ hsigM)) rfl hd
  obtain ⟨o, T', L, r, ad', ce', X', hS', hH', hr, hp, hst⟩ := z_call X₁ hts0 hK hA hZ (T := T.setVm vm₁) hH hS hM hg.2.1 hg.2.2.1 (g := F0 m pc ls st) rfl hl.1 hd (X₁.named hnamed) hR.1 (by show 2 * 0 + _ + _ + _ ≤ _; have := hR.2.1; simp only [Nat.mul_zero, Nat.zero_add]; exact this) hR.2.2.1 hR.2.2.2
  cases o with
  | returned v =>
    cases r with
    | inr E => exact hr.elim
    | inl w =>
      obtain rfl : v = w := hr
      obtain ⟨t2, a1, b1⟩ := k v ad' ce' hp T'.heap (locs ++ L) ls hH' hS' hl T' rfl X'
      exact ⟨t2, hstep₁ _ fun acts => (hst acts).trans a1, b1⟩
  | threw a =>
    cases r with
    | inl w => exact hr.elim
    | inr E =>
      have hlocks : meth.locks = false := hlocks
      obtain ⟨w1, w2, w3, w4, w5⟩ := (stand_widen X' h1 h2).leaveThrown a (g := F0 m pc ls st) rfl rfl rfl (hNH pc)
      obtain ⟨cell, g1, g2, g3⟩ := hr
      exact ⟨_, hstep₁ _ fun acts => (hst acts).trans w1, hq _ ⟨.threw a, w2, w3, ⟨.inr E, ad', ce', ⟨cell, g1, g2, g3⟩, kt E ad' ce' hp, hH'⟩, hS'.F rfl, w4, _, w5, hS'.2.2⟩⟩
theorem z_invSN (hx : zOk x cc own Ts l D cl tys) {host : String} {index na : Nat} {y : MethodName} {cb : ByteArray} {maxL : Nat} {ret : Option FieldType} {rm : Room} {As : List Value} {post' : zQ}
    (hM : zC l Ts D cl tys y (.code y cb maxL ret) rm As ad ce post') (hg : zWc Ts y cb maxL ret na (Cond.methodLinkNest own index y host)) (hi : Cond.static y ∈ Ts) (hlen : As.length = na) {st0 : List Value} (hst0 : As.reverse ++ st = st0) (hd : decode cc pc = .ok (.invokestatic index, 3))
    (hR : rm.frames + 1 ≤ (zRm x).frames ∧ (st.map fun v => v.category).sum + (maxL + 11) + rm.locals ≤ (zRm x).locals ∧ n + rm.cells ≤ (zRm x).cells ∧ i + rm.slots ≤ (zRm x).slots) (hq : zRet x mc ms post) (h1 : n + rm.cells ≤ mc) (h2 : i + rm.slots ≤ ms) (hNH : zNH x)
    (k : ∀ v ad' ce', post' (.inl v) ad' ce' → zV x ad' ce' (n + rm.cells) (i + rm.slots) lv (pc + 3) (v.toList ++ st)) (kt : ∀ E ad' ce', post' (.inr E) ad' ce' → post (.inr E) ad' ce') : zV x ad ce n i lv pc st0 := by
  obtain ⟨⟨p, l0, e, R, s⟩, ⟨m, args, below, meth, c⟩, ⟨D0, cl0, tys0⟩, A, Q⟩ := x
  obtain ⟨hexec, hb, hown, hts0, hK, hA, hlocks, hZ, hE1, hE⟩ := hx
  cases hE1
  cases hE
  have hts := fun w (h : w ∈ Ts) => zT.at hts0 h args
  intro H locs ls hH hS hl T hT X
  subst hT
  subst hb
  subst hst0
  obtain ⟨mk, hnamed⟩ := Cond.code_named (hts _ hg.2.1)
  obtain ⟨methM, cM, hmethM, -, -, -, -, -, -, hsigM⟩ := Cond.code_spec hnamed (hts _ hg.2.1)
  have hstatic : methM.isStatic = true := Cond.static_spec hnamed hmethM (hts _ hi)
  obtain ⟨kP, hkP, -⟩ := className_of_methodNamed hnamed
  have hinitP : kP.init = .initialized := Cond.initialized_spec (findClass_of_methodNamed hnamed) hkP (hts _ hg.2.2.1)
  obtain ⟨vm₁, X₁, hstep₁⟩ := X.invokestaticNest hexec hown (hts _ hg.1) hnamed hmethM hstatic hkP hinitP hg.2.2.2.1 (g := F0 m pc ls (As.reverse ++ st)) rfl (argsL := As) (rest := st) (hlen.trans (hg.2.2.2.2 _ hsigM)) rfl hd
  obtain ⟨o, T', L, r, ad', ce', X', hS', hH', hr, hp, hst⟩ := z_call X₁ hts0 hK hA hZ (T := T.setVm vm₁) hH hS hM hg.2.1 hg.2.2.1 (g := F0 m pc ls st) rfl hl.1 hd (X₁.named hnamed) hR.1 (by show 2 * 0 + _ + _ + _ ≤ _; have := hR.2.1; simp only [Nat.mul_zero, Nat.zero_add]; exact this) hR.2.2.1 hR.2.2.2
  cases o with
  | returned v =>
    cases r with
    | inr E => exact hr.elim
    | inl w =>
      obtain rfl : v = w := hr
      obtain ⟨t2, a1, b1⟩ := k v ad' ce' hp T'.heap (locs ++ L) ls hH' hS' hl T' rfl X'
      exact ⟨t2, hstep₁ _ fun acts => (hst acts).trans a1, b1⟩
  | threw a =>
    cases r with
    | inl w => exact hr.elim
    | inr E =>
      have hlocks : meth.locks = false := hlocks
      obtain ⟨w1, w2, w3, w4, w5⟩ := (stand_widen X' h1 h2).leaveThrown a (g := F0 m pc ls st) rfl rfl rfl (hNH pc)
      obtain ⟨cell, g1, g2, g3⟩ := hr
      exact ⟨_, hstep₁ _ fun acts => (hst acts).trans w1, hq _ ⟨.threw a, w2, w3, ⟨.inr E, ad', ce', ⟨cell, g1, g2, g3⟩, kt E ad' ce' hp, hH'⟩, hS'.F rfl, w4, _, w5, hS'.2.2⟩⟩
theorem z_invI (hx : zOk x cc own Ts l D cl tys) {index na q : Nat} {y : MethodName} {cb : ByteArray} {maxL : Nat} {rm : Room} {As : List Value} {post' : zQ}
    (hM : zC l Ts D cl tys y (.code y cb maxL none) rm (.ref q :: As) ad ce post') (hg : zWc Ts y cb maxL none na (Cond.methodLink own index y)) (hi : Cond.instanceMethod y ∈ Ts) (hy1 : y.name = "<init>") (hlen : As.length = na) {st0 : List Value} (hst0 : As.reverse ++ .ref q :: st = st0) (hd : decode cc pc = .ok (.invokespecial index, 3))
    (hR : rm.frames + 1 ≤ (zRm x).frames ∧ (st.map fun v => v.category).sum + (maxL + 11) + rm.locals ≤ (zRm x).locals ∧ n + rm.cells ≤ (zRm x).cells ∧ i + rm.slots ≤ (zRm x).slots) (hq : zRet x mc ms post) (h1 : n + rm.cells ≤ mc) (h2 : i + rm.slots ≤ ms) (hNH : zNH x)
    (k : ∀ v ad' ce', post' (.inl v) ad' ce' → zV x ad' ce' (n + rm.cells) (i + rm.slots) lv (pc + 3) (v.toList ++ st)) (kt : ∀ E ad' ce', post' (.inr E) ad' ce' → post (.inr E) ad' ce') : zV x ad ce n i lv pc st0 := by
  obtain ⟨⟨p, l0, e, R, s⟩, ⟨m, args, below, meth, c⟩, ⟨D0, cl0, tys0⟩, A, Q⟩ := x
  obtain ⟨hexec, hb, hown, hts0, hK, hA, hlocks, hZ, hE1, hE⟩ := hx
  cases hE1
  cases hE
  have hts := fun w (h : w ∈ Ts) => zT.at hts0 h args
  intro H locs ls hH hS hl T hT X
  subst hT
  subst hb
  subst hst0
  have hpl : e.platform.magicAccessors = ({} : Platform).magicAccessors := by rw [X.admits.platform]
  obtain ⟨mk, methM, cM, kP, vm₁, hnamed, hmethM, hcodeM, -, hlocalsM, -, hkP, -, hW₁, hstep₁⟩ := Steps.initColdArgs (e := e) X.here hexec X.warmed hpl hown hy1 hg.2.2.2.1 (hts _ hg.1) (hts _ hi) (hts _ hg.2.1) (f := F0 m pc ls (As.reverse ++ .ref q :: st)) rfl (fun sig h => hlen.trans (hg.2.2.2.2 _ h)) rfl hd
  have X₁ := X.noted hW₁
  obtain ⟨o, T', L, r, ad', ce', X', hS', hH', hr, hp, hst⟩ := z_call X₁ hts0 hK hA hZ (T := T.setVm vm₁) hH hS hM hg.2.1 hg.2.2.1 (g := F0 m pc ls st) rfl hl.1 hd (X₁.named hnamed) hR.1 (by show 2 * 0 + _ + _ + _ ≤ _; have := hR.2.1; simp only [Nat.mul_zero, Nat.zero_add]; exact this) hR.2.2.1 hR.2.2.2
  cases o with
  | returned v =>
    cases r with
    | inr E => exact hr.elim
    | inl w =>
      obtain rfl : v = w := hr
      obtain ⟨t2, a1, b1⟩ := k v ad' ce' hp T'.heap (locs ++ L) ls hH' hS' hl T' rfl X'
      exact ⟨t2, hstep₁ _ fun acts => (hst acts).trans a1, b1⟩
  | threw a =>
    cases r with
    | inl w => exact hr.elim
    | inr E =>
      have hlocks : meth.locks = false := hlocks
      obtain ⟨w1, w2, w3, w4, w5⟩ := (stand_widen X' h1 h2).leaveThrown a (g := F0 m pc ls st) rfl rfl rfl (hNH pc)
      obtain ⟨cell, g1, g2, g3⟩ := hr
      exact ⟨_, hstep₁ _ fun acts => (hst acts).trans w1, hq _ ⟨.threw a, w2, w3, ⟨.inr E, ad', ce', ⟨cell, g1, g2, g3⟩, kt E ad' ce' hp, hH'⟩, hS'.F rfl, w4, _, w5, hS'.2.2⟩⟩
theorem z_invIN (hx : zOk x cc own Ts l D cl tys) {host : String} {index na q : Nat} {y : MethodName} {cb : ByteArray} {maxL : Nat} {rm : Room} {As : List Value} {post' : zQ}
    (hM : zC l Ts D cl tys y (.code y cb maxL none) rm (.ref q :: As) ad ce post') (hg : zWc Ts y cb maxL none na (Cond.methodLinkNest own index y host)) (hi : Cond.instanceMethod y ∈ Ts) (hy1 : y.name = "<init>") (hlen : As.length = na) {st0 : List Value} (hst0 : As.reverse ++ .ref q :: st = st0) (hd : decode cc pc = .ok (.invokespecial index, 3))
    (hR : rm.frames + 1 ≤ (zRm x).frames ∧ (st.map fun v => v.category).sum + (maxL + 11) + rm.locals ≤ (zRm x).locals ∧ n + rm.cells ≤ (zRm x).cells ∧ i + rm.slots ≤ (zRm x).slots) (hq : zRet x mc ms post) (h1 : n + rm.cells ≤ mc) (h2 : i + rm.slots ≤ ms) (hNH : zNH x)
    (k : ∀ v ad' ce', post' (.inl v) ad' ce' → zV x ad' ce' (n + rm.cells) (i + rm.slots) lv (pc + 3) (v.toList ++ st)) (kt : ∀ E ad' ce', post' (.inr E) ad' ce' → post (.inr E) ad' ce') : zV x ad ce n i lv pc st0 := by
  obtain ⟨⟨p, l0, e, R, s⟩, ⟨m, args, below, meth, c⟩, ⟨D0, cl0, tys0⟩, A, Q⟩ := x
  obtain ⟨hexec, hb, hown, hts0, hK, hA, hlocks, hZ, hE1, hE⟩ := hx
  cases hE1
  cases hE
  have hts := fun w (h : w ∈ Ts) => zT.at hts0 h args
  intro H locs ls hH hS hl T hT X
  subst hT
  subst hb
  subst hst0
  have hpl : e.platform.magicAccessors = ({} : Platform).magicAccessors := by rw [X.admits.platform]
  obtain ⟨mk, methM, cM, kP, vm₁, hnamed, hmethM, hcodeM, -, hlocalsM, -, hkP, -, hW₁, hstep₁⟩ := Steps.initColdArgsNest (e := e) X.here hexec X.warmed hpl hown hy1 hg.2.2.2.1 (hts _ hg.1) (hts _ hi) (hts _ hg.2.1) (f := F0 m pc ls (As.reverse ++ .ref q :: st)) rfl (fun sig h => hlen.trans (hg.2.2.2.2 _ h)) rfl hd
  have X₁ := X.noted hW₁
  obtain ⟨o, T', L, r, ad', ce', X', hS', hH', hr, hp, hst⟩ := z_call X₁ hts0 hK hA hZ (T := T.setVm vm₁) hH hS hM hg.2.1 hg.2.2.1 (g := F0 m pc ls st) rfl hl.1 hd (X₁.named hnamed) hR.1 (by show 2 * 0 + _ + _ + _ ≤ _; have := hR.2.1; simp only [Nat.mul_zero, Nat.zero_add]; exact this) hR.2.2.1 hR.2.2.2
  cases o with
  | returned v =>
    cases r with
    | inr E => exact hr.elim
    | inl w =>
      obtain rfl : v = w := hr
      obtain ⟨t2, a1, b1⟩ := k v ad' ce' hp T'.heap (locs ++ L) ls hH' hS' hl T' rfl X'
      exact ⟨t2, hstep₁ _ fun acts => (hst acts).trans a1, b1⟩
  | threw a =>
    cases r with
    | inl w => exact hr.elim
    | inr E =>
      have hlocks : meth.locks = false := hlocks
      obtain ⟨w1, w2, w3, w4, w5⟩ := (stand_widen X' h1 h2).leaveThrown a (g := F0 m pc ls st) rfl rfl rfl (hNH pc)
      obtain ⟨cell, g1, g2, g3⟩ := hr
      exact ⟨_, hstep₁ _ fun acts => (hst acts).trans w1, hq _ ⟨.threw a, w2, w3, ⟨.inr E, ad', ce', ⟨cell, g1, g2, g3⟩, kt E ad' ce' hp, hH'⟩, hS'.F rfl, w4, _, w5, hS'.2.2⟩⟩
end ZE
