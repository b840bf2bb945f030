/-- which exceptions pass which handlers -/
def zNc (U : State) : Prop := va_Nc "java/lang/IllegalStateException" "java/lang/IllegalArgumentException" U ∧ va_Nc "java/lang/IllegalArgumentException" "java/lang/IndexOutOfBoundsException" U ∧ va_Nc "java/lang/IllegalStateException" "java/lang/IndexOutOfBoundsException" U ∧ va_Nc "java/lang/IllegalArgumentException" "java/lang/IllegalStateException" U
theorem zNc.moved {u U : State} (h : u.vm.Alike U.vm) (q : zNc u) : zNc U := ⟨q.1.moved h, q.2.1.moved h, q.2.2.1.moved h, q.2.2.2.moved h⟩
/-- a contract of a method with handlers -/
def zCW (l : Launch) (D : va_G) (cl : List vw_C) (tys : List (ClassId × FieldType)) (y : MethodName) (cw : Cond) (rm : Room) (av : List Value) (ad : Nat → Nat) (ce : zW) (post : zQ) : Prop :=
  MetFree l y (headSpec [cw] rm) (fun a U => a = av.toArray ∧ zPre TB D cl tys ad ce U ∧ zNc U) (fun _ _ _ _ _ => True) (fun _ s o t => zBack D cl (zA ad ce s.heap.size) s rm.cells rm.slots post o t)
theorem zCW.of {l : Launch} {D : va_G} {cl : List vw_C} {tys : List (ClassId × FieldType)} {y : MethodName} {cc : ByteArray} {maxL : Nat} {ret : Option FieldType} {hh : List (Nat × Nat × Nat × Nat)} {rm : Room} {av : List Value} {ad : Nat → Nat} {ce : zW} {post : zQ}
    (hy : plainName y.cls = true) (hlen : (lg_sl av).length ≤ maxL)
    (body : ∀ x : zX, zOk x cc y.cls TB l D cl tys → (zmeth x).sig.returnType = ret → (zcode x).maxLocals = maxL → zRm x = rm → zRet x rm.cells rm.slots post → (zcode x).exceptionTable.toList.map (fun h => (h.startPc, h.endPc, h.handlerPc, h.catchType)) = hh → zNc x.1.2.2.2.2 → zV x ad ce 0 0 (lv_args 0 av) 0 []) :
    zCW l D cl tys y (.codeWith y cc maxL ret hh) rm av ad ce post := by
  refine MetFree.of_bodyS (code := cc) (maxLocals := maxL) (ret := ret) hy ?_ ?_
  · intro args s m h hn
    obtain ⟨m', meth, c, hn', h1, h2, h3, h4, h5, h6, h7, -⟩ := Cond.codeWith_spec (atoms_spec (ws := [Cond.codeWith y cc maxL ret hh]) h _ List.mem_cons_self)
    cases Option.some.inj (hn.symm.trans hn')
    exact ⟨meth, c, h1, h2, h3, h4, h6, h7⟩
  · intro p e s m args below meth c s₁ B hml hP _
    obtain ⟨rfl, ⟨hT, hK, hH, hZ⟩, hN⟩ := hP
    have hcw : (Cond.codeWith y cc maxL ret hh).before av.toArray s = true := atoms_spec (ws := [Cond.codeWith y cc maxL ret hh]) B.pre _ List.mem_cons_self
    obtain ⟨m', meth', c', hn', h1, h2, h3, h4, h5, h6, h7, -⟩ := Cond.codeWith_spec hcw
    cases Option.some.inj (B.named.symm.trans hn')
    cases Option.some.inj (B.method.symm.trans h1)
    cases Option.some.inj (h2.symm.trans (Stand.of_body B).code)
    have hh0 : s₁.heap = s.heap := by rw [B.state]; rfl
    have hv := body ((p, l, e, rm, s), (m, av.toArray, below, meth, c), (D, cl, tys), zA ad ce s.heap.size, zEnd D cl (zA ad ce s.heap.size) s below rm.cells rm.slots post)
      ⟨B.exec, B.bytes, findClass_of_methodNamed B.named, hT, hK, fun q h => Or.inr h, B.notSynchronized, hZ, rfl, rfl⟩ B.returns hml rfl (fun t h => h) h5 hN
    have hl := lv_entry av (n := maxL) hlen
    have hw := hv s.heap [] ((lg_sl av ++ List.replicate (maxL - (lg_sl av).length) Slot.unset).toArray) hH va_S.rf (by show lv_has _ c.maxLocals _; rw [hml]; exact hl)
    rw [← lg_entry_eq] at hw
    obtain ⟨t, a1, o, b1, b2, b3⟩ := hw s₁ hh0 (Stand.of_body B)
    exact ⟨t, o, a1, b1, b2, b3⟩
section ZG
variable {x : zX} {cc : ByteArray} {own : String} {l : Launch} {D : va_G} {cl : List vw_C} {tys : List (ClassId × FieldType)} {ad : Nat → Nat} {ce : zW} {n i pc mc ms : Nat} {lv : List (Nat × Value)} {st : List Value} {post : zQ}
theorem z_callW {p : Program} {e : Env} {R : Room} {s : State} {m : MethodId} {args : Array Value} {below : List Frame} {meth : Method} {c : Code} {T : State} {locs : List Loc} {A : Nat → Prop} {y : MethodName} {cb : ByteArray} {maxL : Nat} {ret : Option FieldType} {rm : Room} {av : List Value} {post' : zQ}
    (X : Stand p l e R s m args below meth c T locs n i) (hT : zT TB s) (hK : va_K D cl tys s) (hA : ∀ q, s.heap.size ≤ q → A q) (hZ : zS A s s.heap) (hH : z_H D cl A ad ce T.heap) (hS : va_S A s.heap T.heap locs)
    {hh : List (Nat × Nat × Nat × Nat)} (hM : zCW l D cl tys y (.codeWith y cb maxL ret hh) rm av ad ce post') (hNc : zNc s) (hw : Cond.codeWith y cb maxL ret hh ∈ TB) (hw2 : Cond.initialized y.cls ∈ TB)
    {g : JFrame} (hg : g.method = m) (hsize : g.locals.size = c.maxLocals) {ig : Instr} {len : Nat} (hdg : decode c.code g.pc = .ok (ig, len)) {mk : MethodId} (hn : T.methodNamed? y = some mk)
    (hframes : rm.frames + 1 ≤ R.frames) (hlocals : 2 * g.monitorRoom + (g.stack.map fun v => v.category).sum + (maxL + 11) + rm.locals ≤ R.locals) (hcells : n + rm.cells ≤ R.cells) (hslots : i + rm.slots ≤ R.slots) :
    ∃ (o : Outcome) (T' : State) (L : List Loc) (r : Option Value ⊕ String) (ad' : Nat → Nat) (ce' : zW), Stand p l e R s m args below meth c T' (locs ++ L) (n + rm.cells) (i + rm.slots) ∧ va_S A s.heap T'.heap (locs ++ L) ∧ z_H D cl A ad' ce' T'.heap ∧ zIs o r T' ∧ post' r ad' ce' ∧
      ∀ acts, Steps p.tables e below (doInvoke e (T.setTop g) acts mk av.toArray).1 (zLand T' g len o) := by
  have hTU : zT TB T := hT.on X.warmed
  have h2 : (Cond.codeWith y cb maxL ret hh).before av.toArray T = true := hTU.at hw _
  have h3 : (Cond.initialized y.cls).before av.toArray T = true := hTU.at hw2 _
  obtain ⟨mY, methY, cY, hnY, hmY, hcY, -, hlY, -, -, -, -⟩ := Cond.codeWith_spec h2
  cases Option.some.inj (hn.symm.trans hnY)
  obtain ⟨kY, hkY, -⟩ := className_of_methodNamed hn
  have hinitY : kY.init = .initialized := Cond.initialized_spec (findClass_of_methodNamed hn) hkY h3
  have h : At T g.method c below := by rw [hg]; exact X.here
  have happ : (headSpec [Cond.codeWith y cb maxL ret hh] rm).appliesLoose y e.platform (T.calling g mk av.toArray) = true :=
    Spec.appliesLoose_calling (g := g) h hdg hn hkY hinitY
      (X.room_calling (g := g) (R' := rm) hsize hmY hcY hframes (by rw [hlY]; exact hlocals) hcells hslots) (atoms_intro (ws := [Cond.codeWith y cb maxL ret hh]) (fun w hw' => by rw [List.mem_singleton.mp hw']; exact h2))
  obtain ⟨mid, hmid⟩ := h.above
  have hfr : (T.setTop g).frames = (.java g :: mid) ++ below := by rw [State.frames_setTop' g h.top, hmid]; rfl
  have hAA : ∀ q, zA ad ce T.heap.size q → A q := by
    intro q hq
    rcases hq with ⟨u, f, hu, rfl⟩ | hq
    · exact (hH.1 u f hu).2
    · exact hA q (Nat.le_trans hS.1 hq)
  have hH' : z_H D cl (zA ad ce T.heap.size) ad ce T.heap := ⟨fun t f ht => ⟨(hH.1 t f ht).1, Or.inl ⟨t, f, ht, rfl⟩⟩, hH.2⟩
  have hP : zPre TB D cl tys ad ce (T.calling g mk av.toArray) :=
    ⟨hT.on (U := T.calling g mk av.toArray) X.warmed, va_K.moved (U := T.calling g mk av.toArray) X.warmed.alike hK, hH',
      zS.on (U := T.calling g mk av.toArray) X.warmed.alike hZ hS.2.1 hAA⟩
  obtain ⟨o, s₂, hsteps, -, hend, hq⟩ := Steps.callFree hM p X.admits X.cas X.clock (acts := []) hfr happ ⟨rfl, hP, hNc.moved X.warmed.alike⟩ trivial
  have hst : ∀ acts, Steps p.tables e below (doInvoke e (T.setTop g) acts mk av.toArray).1 s₂ := fun acts => by rw [doInvoke_state]; exact hsteps
  rw [State.frames_setTop' g h.top, X.tail] at hend
  obtain ⟨⟨r, ad', ce', hr, hp, hz⟩, hF, hW₂, L, hsame, hL⟩ := hq
  have hSn : ∀ H1 : Heap, H1 = s₂.heap → va_S A s.heap H1 (locs ++ L) := by
    rintro H1 rfl
    refine ⟨Nat.le_trans hS.1 hF.1, fun q h1 h2 => ?_, fun q hq => ?_⟩
    · have hlt : q < T.heap.size := Nat.lt_of_lt_of_le h1 hS.1
      exact (hF.2 q hlt (fun z => h2 (hAA q z))).trans (hS.2.1 q h1 h2)
    · rcases List.mem_append.mp hq with h | h
      · exact hS.2.2 q h
      · exact hAA _ (hL q h)
  cases o with
  | returned v =>
    obtain ⟨T', X', hW', -, ht⟩ := X.outOf hg hdg hend hW₂ hsame
    have hh : T'.heap = s₂.heap := by rw [ht]; rfl
    refine ⟨.returned v, T', L, r, ad', ce', X', hSn _ hh, by rw [hh]; exact hz.weaken hAA, ?_, hp, fun acts => by rw [show zLand T' g len (.returned v) = s₂ from ht.symm]; exact hst acts⟩
    cases r with
    | inl w => exact hr
    | inr E => exact hr.elim
  | threw a =>
    obtain ⟨T', X', hW', -, ht⟩ := X.outOfThrown hg hend hW₂ hsame
    have hh : T'.heap = s₂.heap := by rw [ht]; rfl
    have hv : T'.vm = s₂.vm := by rw [ht]; rfl
    refine ⟨.threw a, T', L, r, ad', ce', X', hSn _ hh, by rw [hh]; exact hz.weaken hAA, ?_, hp, fun acts => by rw [show zLand T' g len (.threw a) = s₂ from ht.symm]; exact hst acts⟩
    cases r with
    | inl w => exact hr.elim
    | inr E =>
      obtain ⟨cell, g1, g2, g3⟩ := hr
      exact ⟨cell, by rw [hh]; exact g1, g2, by rw [hv]; exact g3⟩

/-- the law calls a wrapper: it comes back -/
theorem z_retSW (hx : zOk x cc own TB l D cl tys) {index na : Nat} {y : MethodName} {cb : ByteArray} {maxL : Nat} {ret : Option FieldType} {hh : List (Nat × Nat × Nat × Nat)} {rm : Room} {As : List Value} {post' : zQ}
    (hM : zCW l D cl tys y (.codeWith y cb maxL ret hh) rm As ad ce post') (hNc : zNc x.1.2.2.2.2) (g1 : Cond.methodLink own index y ∈ TB) (g2 : Cond.codeWith y cb maxL ret hh ∈ TB) (g3 : Cond.initialized y.cls ∈ TB) (g4 : y.cls ≠ "java/lang/invoke/MethodHandle" ∧ y.cls ≠ "java/lang/invoke/VarHandle") (g5 : ∀ sig, parseMethodDescriptor y.desc = some sig → na = sig.parameters.length) (hi : Cond.static y ∈ TB) (hlen : As.length = na) {st0 : List Value} (hst0 : As.reverse ++ st = st0) (hd : decode cc pc = .ok (.invokestatic index, 3))
    (hR : rm.frames + 1 ≤ (zRm x).frames ∧ (st.map fun v => v.category).sum + (maxL + 11) + rm.locals ≤ (zRm x).locals ∧ n + rm.cells ≤ (zRm x).cells ∧ i + rm.slots ≤ (zRm x).slots)
    (kt : ∀ E ad' ce', ¬ post' (.inr E) ad' ce') (k : ∀ v ad' ce', post' (.inl v) ad' ce' → zV x ad' ce' (n + rm.cells) (i + rm.slots) lv (pc + 3) (v.toList ++ st)) : zV x ad ce n i lv pc st0 := by
  obtain ⟨⟨p, l0, e, R, s⟩, ⟨m, args, below, meth, c⟩, ⟨D0, cl0, tys0⟩, A, Q⟩ := x
  obtain ⟨hexec, hb, hown, hts0, hK, hA, hlocks, hZ, hE1, hE⟩ := hx
  cases hE1
  cases hE
  have hts := fun w (h : w ∈ TB) => zT.at hts0 h args
  intro H locs ls hH hS hl T hT X
  subst hT
  subst hb
  subst hst0
  obtain ⟨mk, methM, cM, hnamed, hmethM, -, -, -, -, -, -, hsigM⟩ := Cond.codeWith_spec (hts _ g2)
  have hstatic : methM.isStatic = true := Cond.static_spec hnamed hmethM (hts _ hi)
  obtain ⟨kP, hkP, -⟩ := className_of_methodNamed hnamed
  have hinitP : kP.init = .initialized := Cond.initialized_spec (findClass_of_methodNamed hnamed) hkP (hts _ g3)
  obtain ⟨vm₁, X₁, hstep₁⟩ := X.invokestatic hexec hown (hts _ g1) hnamed hmethM hstatic hkP hinitP g4 (g := F0 m pc ls (As.reverse ++ st)) rfl (argsL := As) (rest := st) (hlen.trans (g5 _ hsigM)) rfl hd
  obtain ⟨o, T', L, r, ad', ce', X', hS', hH', hr, hp, hst⟩ := z_callW X₁ hts0 hK hA hZ (T := T.setVm vm₁) hH hS hM hNc g2 g3 (g := F0 m pc ls st) rfl hl.1 hd (X₁.named hnamed) hR.1 (by show 2 * 0 + _ + _ + _ ≤ _; have := hR.2.1; simp only [Nat.mul_zero, Nat.zero_add]; exact this) hR.2.2.1 hR.2.2.2
  cases o with
  | returned v =>
    cases r with
    | inr E => exact hr.elim
    | inl w =>
      obtain rfl : v = w := hr
      obtain ⟨t2, a1, b1⟩ := k v ad' ce' hp T'.heap (locs ++ L) ls hH' hS' hl T' rfl X'
      exact ⟨t2, hstep₁ _ fun acts => (hst acts).trans a1, b1⟩
  | threw a =>
    cases r with
    | inl w => exact hr.elim
    | inr E => exact (kt E ad' ce' hp).elim
end ZG
section ZH
variable {x : zX} {cc : ByteArray} {own : String} {l : Launch} {D : va_G} {K : Nat → ClassId} {ad : Nat → Nat} {S : zSt} {n i pc mc ms : Nat} {lv : List (Nat × Value)} {st : List Value} {post : zQ}
/-- a call that throws, caught here -/
theorem z_catV (hx : zOk x cc own TB l D zcls (ztyl K)) {index na t ci N f w : Nat} {y : MethodName} {cb : ByteArray} {maxL : Nat} {ret : Option FieldType} {As : List Value} {E : String} {Tf : u_T} {ty : Nat → FieldType} {fs : List Value} (hM : zC l TB D zcls (ztyl K) y (.code y cb maxL ret) (rmx f w) (.ref (ad t) :: As) ad (Lay K ad S) (zX0 K ad E S)) (hc : zCl TB zcls ci y.cls Tf N ty) (he : Lay K ad S t = some (.inr (ci, fs)))
    (hg : zWc TB y cb maxL ret na (Cond.methodLink own index y)) (hi : Cond.instanceMethod y ∈ TB) (hse : Cond.selects y.cls y y ∈ TB) (hlen : As.length = na) {st0 : List Value} (hst0 : As.reverse ++ .ref (ad t) :: st = st0) (hd : decode cc pc = .ok (.invokevirtual index, 3))
    (hR : f + 1 ≤ (zRm x).frames ∧ (st.map fun v => v.category).sum + (maxL + 11) + w ≤ (zRm x).locals ∧ n + 1 ≤ (zRm x).cells ∧ i + 6 ≤ (zRm x).slots)
    {tb : List (Nat × Nat × Nat × Nat)} (htb : (zcode x).exceptionTable.toList.map (fun h => (h.startPc, h.endPc, h.handlerPc, h.catchType)) = tb) (pre suf : List (Nat × Nat × Nat × Nat)) {a b hp ct : Nat} (hsp : tb = pre ++ (a, b, hp, ct) :: suf)
    (hpass : ∀ z ∈ pre, z.2.2.2 ≠ 0 ∧ ∃ nm : String, Cond.classLink own z.2.2.2 nm ∈ TB ∧ va_Nc E nm x.1.2.2.2.2) (ha : a ≤ pc) (hb' : pc < b) (h0 : ct ≠ 0) (hlink : Cond.classLink own ct E ∈ TB) (hcast : Cond.castable E E ∈ TB)
    (k : ∀ q, zV x ad (Lay K ad S) (n + 1) (i + 6) lv hp [.ref q]) : zV x ad (Lay K ad S) n i lv pc st0 := by
  obtain ⟨⟨p, l0, e, R, s⟩, ⟨m, args, below, meth, c⟩, ⟨D0, cl0, tys0⟩, A, Q⟩ := x
  obtain ⟨hexec, hb, hown, hts0, hK, hA, hlocks, hZ, hE1, hE⟩ := hx
  cases hE1
  cases hE
  have hts := fun w (h : w ∈ TB) => zT.at hts0 h args
  intro H locs ls hH hS hl T hT X
  subst hT
  subst hb
  subst hst0
  obtain ⟨⟨r', hr', cellB, g1, g2, g3, -⟩, -⟩ := hH.1 _ _ he
  have hclB : s.vm.findClass y.cls = some cellB.cls := by rw [g2]; exact (hK.1 ci _ hc.1).2.1
  obtain ⟨mk, methM, hnamed, hmethM, hstM, habM⟩ := Cond.instanceMethod_spec (hts _ hi)
  obtain ⟨methM', cM, hmethM', -, -, -, -, -, -, hsigM⟩ := Cond.code_spec hnamed (hts _ hg.2.1)
  cases hmethM.symm.trans hmethM'
  obtain ⟨c2, r2, m2, q1, q2, q3, q4, kP, hkP, hkPi⟩ := Cond.selects_spec (hts _ hse)
  cases hclB.symm.trans q1
  cases (State.methodFound?_of_named hnamed hg.2.2.2.1).symm.trans q2
  cases hnamed.symm.trans q3
  have hselP : selectMethod e.platform s.vm cellB.cls mk = .method mk := by rw [Launch.admits_selectMethod X.admits]; exact q4
  obtain ⟨vm₁, X₁, hstep₁⟩ := X.invokevirtual hexec hown (hts _ hg.1) hnamed hmethM hstM hkP hkPi hg.2.2.2.1 (a := ad t) (cell := cellB) g1
    (fun z h => by rw [g3] at h; cases h) hselP hmethM habM hkP hkPi (g := F0 m pc ls (As.reverse ++ .ref (ad t) :: st)) rfl (argsL := As) (rest := st) (hlen.trans (hg.2.2.2.2 _ hsigM)) rfl hd
  obtain ⟨o, T', L, r, ad', ce', X', hS', hH', hr, hp', hst⟩ := z_call X₁ hts0 hK hA hZ (T := T.setVm vm₁) hH hS hM hg.2.1 hg.2.2.1 (g := F0 m pc ls st) rfl hl.1 hd (X₁.named hnamed) hR.1 (by show 2 * 0 + _ + _ + _ ≤ _; have := hR.2.1; simp only [Nat.mul_zero, Nat.zero_add]; exact this) hR.2.2.1 hR.2.2.2
  obtain ⟨hp1, rfl, rfl⟩ := hp'
  subst hp1
  cases o with
  | returned v => exact hr.elim
  | threw a9 =>
    obtain ⟨cell, h1, h2, h3⟩ := hr
    obtain ⟨l1, l2, e1, e2, e3⟩ := List.map_eq_append_iff.mp (htb.trans hsp)
    obtain ⟨xe, l3, e4, e5, e6⟩ := List.map_eq_cons_iff.mp e3
    have f1 : xe.startPc = a ∧ xe.endPc = b ∧ xe.handlerPc = hp ∧ xe.catchType = ct := by
      have := congrArg (fun z => z) e5
      simp only [Prod.mk.injEq] at this
      exact this
    obtain ⟨f1, f2, f3, f4⟩ := f1
    have hpl : e.platform.magicAccessors = ({} : Platform).magicAccessors := by rw [X.admits.platform]
    have hcl : s.vm.findClass E = some cell.cls := by rw [← X'.warmed.alike.findClass]; exact h3
    obtain ⟨c3, c4, hc3, hc4, hasg⟩ := Cond.castable_spec (hts _ hcast)
    cases Option.some.inj (hc3.symm.trans hcl)
    obtain ⟨c5, hc5, hcl5⟩ := Cond.classLink_spec hown (hts _ hlink) e.platform hpl
    cases Option.some.inj (hc4.symm.trans hc5)
    obtain ⟨vm', X9, st9⟩ := X'.thenCaughtThrough a9 (g := F0 m pc ls st) rfl (Steps.refl _) h1 h2 (by obtain ⟨k9, h9, -⟩ := Vm.findClass_spec hcl; exact ⟨k9, h9⟩) l1 xe l3 (by rw [e1, e4])
      (fun z hz => by
        have hz' : (z.startPc, z.endPc, z.handlerPc, z.catchType) ∈ pre := by rw [← e2]; exact List.mem_map.mpr ⟨z, hz, rfl⟩
        obtain ⟨hz0, nm, hl1, hn1⟩ := hpass _ hz'
        obtain ⟨c6, hc6, hcl6⟩ := Cond.classLink_spec hown (hts _ hl1) e.platform hpl
        obtain ⟨a8, b8, k1, k2, k3⟩ := hn1
        cases Option.some.inj (k1.symm.trans hcl)
        cases Option.some.inj (k2.symm.trans hc6)
        exact Or.inr ⟨hz0, _, hcl6, k3⟩) (by show (decide (xe.startPc ≤ pc) && decide (pc < xe.endPc)) = true; rw [f1, f2]; simp [ha, hb']) (Or.inr ⟨by rw [f4]; exact h0, c4, by rw [f4]; exact hcl5, hasg⟩)
    rw [f3] at st9
    obtain ⟨t2, a1, b1⟩ := k a9 T'.heap (locs ++ L) ls hH' hS' hl (T'.setVm vm') rfl X9
    exact ⟨t2, hstep₁ _ fun acts => (hst acts).trans (st9.trans a1), b1⟩
end ZH
