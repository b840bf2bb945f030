section ZJ
variable {x : zX} {cc : ByteArray} {own : String} {Ts : List Cond} {l : Launch} {D : va_G} {cl : List vw_C} {tys : List (ClassId × FieldType)} {ad : Nat → Nat} {ce : zW} {n i pc mc ms : Nat} {lv : List (Nat × Value)} {st : List Value} {post : zQ}
theorem z_retV (hx : zOk x cc own Ts l D cl tys) {index na t ci N : Nat} {y : MethodName} {cb : ByteArray} {maxL : Nat} {ret : Option FieldType} {rm : Room} {As : List Value} {post' : zQ} {T : u_T} {ty : Nat → FieldType} {fs : List Value} (hc : zCl Ts cl ci y.cls T N ty) (he : ce t = some (.inr (ci, fs)))
    (hM : zC l Ts D cl tys y (.code y cb maxL ret) rm (.ref (ad t) :: As) ad ce post') (hg : zWc Ts y cb maxL ret na (Cond.methodLink own index y)) (hi : Cond.instanceMethod y ∈ Ts) (hse : Cond.selects y.cls y y ∈ Ts) (hlen : As.length = na) {st0 : List Value} (hst0 : As.reverse ++ .ref (ad t) :: st = st0) (hd : decode cc pc = .ok (.invokevirtual index, 3))
    (hR : rm.frames + 1 ≤ (zRm x).frames ∧ (st.map fun v => v.category).sum + (maxL + 11) + rm.locals ≤ (zRm x).locals ∧ n + rm.cells ≤ (zRm x).cells ∧ i + rm.slots ≤ (zRm x).slots)
    (kt : ∀ E ad' ce', ¬ post' (.inr E) ad' ce') (k : ∀ v ad' ce', post' (.inl v) ad' ce' → zV x ad' ce' (n + rm.cells) (i + rm.slots) lv (pc + 3) (v.toList ++ st)) : zV x ad ce n i lv pc st0 := by
  obtain ⟨⟨p, l0, e, R, s⟩, ⟨m, args, below, meth, c⟩, ⟨D0, cl0, tys0⟩, A, Q⟩ := x
  obtain ⟨hexec, hb, hown, hts0, hK, hA, hlocks, hZ, hE1, hE⟩ := hx
  cases hE1
  cases hE
  have hts := fun w (h : w ∈ Ts) => zT.at hts0 h args
  intro H locs ls hH hS hl T hT X
  subst hT
  subst hb
  subst hst0
  obtain ⟨⟨r', hr', cellB, g1, g2, g3, -⟩, -⟩ := hH.1 _ _ he
  have hclB : s.vm.findClass y.cls = some cellB.cls := by rw [g2]; exact (hK.1 ci _ hc.1).2.1
  obtain ⟨mk, methM, hnamed, hmethM, hstM, habM⟩ := Cond.instanceMethod_spec (hts _ hi)
  obtain ⟨methM', cM, hmethM', -, -, -, -, -, -, hsigM⟩ := Cond.code_spec hnamed (hts _ hg.2.1)
  cases hmethM.symm.trans hmethM'
  obtain ⟨c2, r2, m2, q1, q2, q3, q4, kP, hkP, hkPi⟩ := Cond.selects_spec (hts _ hse)
  cases hclB.symm.trans q1
  cases (State.methodFound?_of_named hnamed hg.2.2.2.1).symm.trans q2
  cases hnamed.symm.trans q3
  have hselP : selectMethod e.platform s.vm cellB.cls mk = .method mk := by rw [Launch.admits_selectMethod X.admits]; exact q4
  obtain ⟨vm₁, X₁, hstep₁⟩ := X.invokevirtual hexec hown (hts _ hg.1) hnamed hmethM hstM hkP hkPi hg.2.2.2.1 (a := ad t) (cell := cellB) g1
    (fun z h => by rw [g3] at h; cases h) hselP hmethM habM hkP hkPi (g := F0 m pc ls (As.reverse ++ .ref (ad t) :: st)) rfl (argsL := As) (rest := st) (hlen.trans (hg.2.2.2.2 _ hsigM)) rfl hd
  obtain ⟨o, T', L, r, ad', ce', X', hS', hH', hr, hp, hst⟩ := z_call X₁ hts0 hK hA hZ (T := T.setVm vm₁) hH hS hM hg.2.1 hg.2.2.1 (g := F0 m pc ls st) rfl hl.1 hd (X₁.named hnamed) hR.1 (by show 2 * 0 + _ + _ + _ ≤ _; have := hR.2.1; simp only [Nat.mul_zero, Nat.zero_add]; exact this) hR.2.2.1 hR.2.2.2
  cases o with
  | returned v =>
    cases r with
    | inr E => exact hr.elim
    | inl w =>
      obtain rfl : v = w := hr
      obtain ⟨t2, a1, b1⟩ := k v ad' ce' hp T'.heap (locs ++ L) ls hH' hS' hl T' rfl X'
      exact ⟨t2, hstep₁ _ fun acts => (hst acts).trans a1, b1⟩
  | threw a =>
    cases r with
    | inl w => exact hr.elim
    | inr E => exact (kt E ad' ce' hp).elim
theorem z_retVN (hx : zOk x cc own Ts l D cl tys) {host : String} {index na t ci N : Nat} {y : MethodName} {cb : ByteArray} {maxL : Nat} {ret : Option FieldType} {rm : Room} {As : List Value} {post' : zQ} {T : u_T} {ty : Nat → FieldType} {fs : List Value} (hc : zCl Ts cl ci y.cls T N ty) (he : ce t = some (.inr (ci, fs)))
    (hM : zC l Ts D cl tys y (.code y cb maxL ret) rm (.ref (ad t) :: As) ad ce post') (hg : zWc Ts y cb maxL ret na (Cond.methodLinkNest own index y host)) (hi : Cond.instanceMethod y ∈ Ts) (hse : Cond.selects y.cls y y ∈ Ts) (hlen : As.length = na) {st0 : List Value} (hst0 : As.reverse ++ .ref (ad t) :: st = st0) (hd : decode cc pc = .ok (.invokevirtual index, 3))
    (hR : rm.frames + 1 ≤ (zRm x).frames ∧ (st.map fun v => v.category).sum + (maxL + 11) + rm.locals ≤ (zRm x).locals ∧ n + rm.cells ≤ (zRm x).cells ∧ i + rm.slots ≤ (zRm x).slots)
    (kt : ∀ E ad' ce', ¬ post' (.inr E) ad' ce') (k : ∀ v ad' ce', post' (.inl v) ad' ce' → zV x ad' ce' (n + rm.cells) (i + rm.slots) lv (pc + 3) (v.toList ++ st)) : zV x ad ce n i lv pc st0 := by
  obtain ⟨⟨p, l0, e, R, s⟩, ⟨m, args, below, meth, c⟩, ⟨D0, cl0, tys0⟩, A, Q⟩ := x
  obtain ⟨hexec, hb, hown, hts0, hK, hA, hlocks, hZ, hE1, hE⟩ := hx
  cases hE1
  cases hE
  have hts := fun w (h : w ∈ Ts) => zT.at hts0 h args
  intro H locs ls hH hS hl T hT X
  subst hT
  subst hb
  subst hst0
  obtain ⟨⟨r', hr', cellB, g1, g2, g3, -⟩, -⟩ := hH.1 _ _ he
  have hclB : s.vm.findClass y.cls = some cellB.cls := by rw [g2]; exact (hK.1 ci _ hc.1).2.1
  obtain ⟨mk, methM, hnamed, hmethM, hstM, habM⟩ := Cond.instanceMethod_spec (hts _ hi)
  obtain ⟨methM', cM, hmethM', -, -, -, -, -, -, hsigM⟩ := Cond.code_spec hnamed (hts _ hg.2.1)
  cases hmethM.symm.trans hmethM'
  obtain ⟨c2, r2, m2, q1, q2, q3, q4, kP, hkP, hkPi⟩ := Cond.selects_spec (hts _ hse)
  cases hclB.symm.trans q1
  cases (State.methodFound?_of_named hnamed hg.2.2.2.1).symm.trans q2
  cases hnamed.symm.trans q3
  have hselP : selectMethod e.platform s.vm cellB.cls mk = .method mk := by rw [Launch.admits_selectMethod X.admits]; exact q4
  obtain ⟨vm₁, X₁, hstep₁⟩ := X.invokevirtualNest hexec hown (hts _ hg.1) hnamed hmethM hstM hkP hkPi hg.2.2.2.1 (a := ad t) (cell := cellB) g1
    (fun z h => by rw [g3] at h; cases h) hselP hmethM habM hkP hkPi (g := F0 m pc ls (As.reverse ++ .ref (ad t) :: st)) rfl (argsL := As) (rest := st) (hlen.trans (hg.2.2.2.2 _ hsigM)) rfl hd
  obtain ⟨o, T', L, r, ad', ce', X', hS', hH', hr, hp, hst⟩ := z_call X₁ hts0 hK hA hZ (T := T.setVm vm₁) hH hS hM hg.2.1 hg.2.2.1 (g := F0 m pc ls st) rfl hl.1 hd (X₁.named hnamed) hR.1 (by show 2 * 0 + _ + _ + _ ≤ _; have := hR.2.1; simp only [Nat.mul_zero, Nat.zero_add]; exact this) hR.2.2.1 hR.2.2.2
  cases o with
  | returned v =>
    cases r with
    | inr E => exact hr.elim
    | inl w =>
      obtain rfl : v = w := hr
      obtain ⟨t2, a1, b1⟩ := k v ad' ce' hp T'.heap (locs ++ L) ls hH' hS' hl T' rfl X'
      exact ⟨t2, hstep₁ _ fun acts => (hst acts).trans a1, b1⟩
  | threw a =>
    cases r with
    | inl w => exact hr.elim
    | inr E => exact (kt E ad' ce' hp).elim
theorem z_retS (hx : zOk x cc own Ts l D cl tys) {index na : Nat} {y : MethodName} {cb : ByteArray} {maxL : Nat} {ret : Option FieldType} {rm : Room} {As : List Value} {post' : zQ}
    (hM : zC l Ts D cl tys y (.code y cb maxL ret) rm As ad ce post') (hg : zWc Ts y cb maxL ret na (Cond.methodLink own index y)) (hi : Cond.static y ∈ Ts) (hlen : As.length = na) {st0 : List Value} (hst0 : As.reverse ++ st = st0) (hd : decode cc pc = .ok (.invokestatic index, 3))
    (hR : rm.frames + 1 ≤ (zRm x).frames ∧ (st.map fun v => v.category).sum + (maxL + 11) + rm.locals ≤ (zRm x).locals ∧ n + rm.cells ≤ (zRm x).cells ∧ i + rm.slots ≤ (zRm x).slots)
    (kt : ∀ E ad' ce', ¬ post' (.inr E) ad' ce') (k : ∀ v ad' ce', post' (.inl v) ad' ce' → zV x ad' ce' (n + rm.cells) (i + rm.slots) lv (pc + 3) (v.toList ++ st)) : zV x ad ce n i lv pc st0 := by
  obtain ⟨⟨p, l0, e, R, s⟩, ⟨m, args, below, meth, c⟩, ⟨D0, cl0, tys0⟩, A, Q⟩ := x
  obtain ⟨hexec, hb, hown, hts0, hK, hA, hlocks, hZ, hE1, hE⟩ := hx
  cases hE1
  cases hE
  have hts := fun w (h : w ∈ Ts) => zT.at hts0 h args
  intro H locs ls hH hS hl T hT X
  subst hT
  subst hb
  subst hst0
  obtain ⟨mk, hnamed⟩ := Cond.code_named (hts _ hg.2.1)
  obtain ⟨methM, cM, hmethM, -, -, -, -, -, -, hsigM⟩ := Cond.code_spec hnamed (hts _ hg.2.1)
  have hstatic : methM.isStatic = true := Cond.static_spec hnamed hmethM (hts _ hi)
  obtain ⟨kP, hkP, -⟩ := className_of_methodNamed hnamed
  have hinitP : kP.init = .initialized := Cond.initialized_spec (findClass_of_methodNamed hnamed) hkP (hts _ hg.2.2.1)
  obtain ⟨vm₁, X₁, hstep₁⟩ := X.invokestatic hexec hown (hts _ hg.1) hnamed hmethM hstatic hkP hinitP hg.2.2.2.1 (g := F0 m pc ls (As.reverse ++ st)) rfl (argsL := As) (rest := st) (hlen.trans (hg.2.2.2.2 _ hsigM)) rfl hd
  obtain ⟨o, T', L, r, ad', ce', X', hS', hH', hr, hp, hst⟩ := z_call X₁ hts0 hK hA hZ (T := T.setVm vm₁) hH hS hM hg.2.1 hg.2.2.1 (g := F0 m pc ls st) rfl hl.1 hd (X₁.named hnamed) hR.1 (by show 2 * 0 + _ + _ + _ ≤ _; have := hR.2.1; simp only [Nat.mul_zero, Nat.zero_add]; exact this) hR.2.2.1 hR.2.2.2
  cases o with
  | returned v =>
    cases r with
    | inr E => exact hr.elim
    | inl w =>
      obtain rfl : v = w := hr
      obtain ⟨t2, a1, b1⟩ := k v ad' ce' hp T'.heap (locs ++ L) ls hH' hS' hl T' rfl X'
      exact ⟨t2, hstep₁ _ fun acts => (hst acts).trans a1, b1⟩
  | threw a =>
    cases r with
    | inl w => exact hr.elim
    | inr E => exact (kt E ad' ce' hp).elim
end ZJ
/-- a room without new cells -/
abbrev rmk (f w : Nat) : Room := { frames := f, cells := 0, slots := 0, locals := w }
section ZK
variable {x : zX} {cc : ByteArray} {own : String} {l : Launch} {D : va_G} {K : Nat → ClassId} {ad : Nat → Nat} {S S' : zSt} {n i pc mc ms : Nat} {lv : List (Nat × Value)} {st : List Value} {post : zQ}
/-- a call of a method that makes nothing and comes back by zP -/
theorem z_cV (hx : zOk x cc own TB l D zcls (ztyl K)) {index na t ci N f w : Nat} {y : MethodName} {cb : ByteArray} {maxL : Nat} {ret : Option FieldType} {As : List Value} {v : Option Value} {T : u_T} {ty : Nat → FieldType} {fs : List Value} (hM : zC l TB D zcls (ztyl K) y (.code y cb maxL ret) (rmk f w) (.ref (ad t) :: As) ad (Lay K ad S) (zP K ad v S')) (hc : zCl TB zcls ci y.cls T N ty) (he : Lay K ad S t = some (.inr (ci, fs)))
    (hg : zWc TB y cb maxL ret na (Cond.methodLink own index y)) (hi : Cond.instanceMethod y ∈ TB) (hse : Cond.selects y.cls y y ∈ TB) (hlen : As.length = na) {st0 : List Value} (hst0 : As.reverse ++ .ref (ad t) :: st = st0) (hd : decode cc pc = .ok (.invokevirtual index, 3))
    (hR : f + 1 ≤ (zRm x).frames ∧ (st.map fun v => v.category).sum + (maxL + 11) + w ≤ (zRm x).locals ∧ n ≤ (zRm x).cells ∧ i ≤ (zRm x).slots) (k : zV x ad (Lay K ad S') n i lv (pc + 3) (v.toList ++ st)) : zV x ad (Lay K ad S) n i lv pc st0 :=
  z_retV hx hc he hM hg hi hse hlen hst0 hd hR (fun E ad' ce' h => by cases h.1) (fun v' ad' ce' h => by
    obtain ⟨h1, rfl, rfl⟩ := h
    cases h1
    exact k)
theorem z_cS (hx : zOk x cc own TB l D zcls (ztyl K)) {index na f w : Nat} {y : MethodName} {cb : ByteArray} {maxL : Nat} {ret : Option FieldType} {As : List Value} {v : Option Value} (hM : zC l TB D zcls (ztyl K) y (.code y cb maxL ret) (rmk f w) As ad (Lay K ad S) (zP K ad v S'))
    (hg : zWc TB y cb maxL ret na (Cond.methodLink own index y)) (hi : Cond.static y ∈ TB) (hlen : As.length = na) {st0 : List Value} (hst0 : As.reverse ++ st = st0) (hd : decode cc pc = .ok (.invokestatic index, 3))
    (hR : f + 1 ≤ (zRm x).frames ∧ (st.map fun v => v.category).sum + (maxL + 11) + w ≤ (zRm x).locals ∧ n ≤ (zRm x).cells ∧ i ≤ (zRm x).slots) (k : zV x ad (Lay K ad S') n i lv (pc + 3) (v.toList ++ st)) : zV x ad (Lay K ad S) n i lv pc st0 :=
  z_retS hx hM hg hi hlen hst0 hd hR (fun E ad' ce' h => by cases h.1) (fun v' ad' ce' h => by
    obtain ⟨h1, rfl, rfl⟩ := h
    cases h1
    exact k)
theorem zN {x : zX} {M : Nat} (h : (zcode x).maxLocals = M) {j : Nat} (hj : j < M) : j < (zcode x).maxLocals := by rw [h]; exact hj
theorem inN {N : Nat} {x : Int32} (h0 : 0 ≤ x.toInt) (h1 : x.toInt < N) : vp_in x N := vp_in_iff.mpr ⟨h0, h1⟩
theorem inK {k N : Nat} (h : k < N) (hN : N < 2 ^ 31) : vp_in (nI k) N := vp_in_nI h hN
theorem z_cl {k : Nat} (h : k < 2 ^ 31) : (nI k).toNatClampNeg = k := nI_clamp h
end ZK
section ZQ
variable {x : zX} {cc : ByteArray} {own : String} {Ts : List Cond} {l : Launch} {D : va_G} {cl : List vw_C} {tys : List (ClassId × FieldType)} {ad : Nat → Nat} {ce : zW} {n i pc mc ms : Nat} {lv : List (Nat × Value)} {st : List Value} {post : zQ}
theorem z_top {a b : Int32} (h : a = b) (k : zV x ad ce n i lv pc (.int b :: st)) : zV x ad ce n i lv pc (.int a :: st) := h ▸ k
theorem z_topL {a b : Int64} (h : a = b) (k : zV x ad ce n i lv pc (.long b :: st)) : zV x ad ce n i lv pc (.long a :: st) := h ▸ k
theorem z_ialdK (hx : zOk x cc own Ts l D cl tys) {cA : ClassId} {N t : Nat} {f : Nat → Int32} (t0 : Nat) (ht : tys[t0]? = some (cA, .int)) (he : ce t = some (.inl (cA, N, .inl f))) {k : Nat} (hk : k < N) (hN : N < 2 ^ 31) (hd : decode cc pc = .ok (.iaload, 1)) (kk : zV x ad ce n i lv (pc + 1) (.int (f k) :: st)) : zV x ad ce n i lv pc (.int (nI k) :: .ref (ad t) :: st) :=
  z_iald hx t0 ht he (vp_in_nI hk hN) hd (by rw [nI_clamp (Nat.lt_trans hk hN)]; exact kk)
theorem z_laldK (hx : zOk x cc own Ts l D cl tys) {cA : ClassId} {N t : Nat} {f : Nat → Int64} (t0 : Nat) (ht : tys[t0]? = some (cA, .long)) (he : ce t = some (.inl (cA, N, .inr (.inl f)))) {k : Nat} (hk : k < N) (hN : N < 2 ^ 31) (hd : decode cc pc = .ok (.laload, 1)) (kk : zV x ad ce n i lv (pc + 1) (.long (f k) :: st)) : zV x ad ce n i lv pc (.int (nI k) :: .ref (ad t) :: st) :=
  z_lald hx t0 ht he (vp_in_nI hk hN) hd (by rw [nI_clamp (Nat.lt_trans hk hN)]; exact kk)
theorem z_aaldK (hx : zOk x cc own Ts l D cl tys) {cA : ClassId} {C : String} {N t : Nat} {f : Nat → Option Nat} (t0 : Nat) (ht : tys[t0]? = some (cA, .object C)) (he : ce t = some (.inl (cA, N, .inr (.inr (.inr (.inr f)))))) {k : Nat} (hk : k < N) (hN : N < 2 ^ 31) {v : Value} (hv : va_rf (f k) = v) (hd : decode cc pc = .ok (.aaload, 1)) (kk : zV x ad ce n i lv (pc + 1) (v :: st)) : zV x ad ce n i lv pc (.int (nI k) :: .ref (ad t) :: st) :=
  z_aald hx t0 ht he (vp_in_nI hk hN) hd (by rw [nI_clamp (Nat.lt_trans hk hN), hv]; exact kk)
theorem z_iastK (hx : zOk x cc own Ts l D cl tys) {cA : ClassId} {N t : Nat} {f : Nat → Int32} (t0 : Nat) (ht : tys[t0]? = some (cA, .int)) (he : ce t = some (.inl (cA, N, .inl f))) {k : Nat} {v : Int32} (hk : k < N) (hN : N < 2 ^ 31) (hd : decode cc pc = .ok (.iastore, 1)) {ce1 : zW} (hce : ∀ u, ce1 u = z_up ce t (.inl (cA, N, .inl (upd f k v))) u) (kk : zV x ad ce1 n i lv (pc + 1) st) : zV x ad ce n i lv pc (.int v :: .int (nI k) :: .ref (ad t) :: st) :=
  z_iast hx t0 ht he (vp_in_nI hk hN) hd (by rw [nI_clamp (Nat.lt_trans hk hN)]; exact hce) kk
theorem z_lastK (hx : zOk x cc own Ts l D cl tys) {cA : ClassId} {N t : Nat} {f : Nat → Int64} (t0 : Nat) (ht : tys[t0]? = some (cA, .long)) (he : ce t = some (.inl (cA, N, .inr (.inl f)))) {k : Nat} {v : Int64} (hk : k < N) (hN : N < 2 ^ 31) (hd : decode cc pc = .ok (.lastore, 1)) {ce1 : zW} (hce : ∀ u, ce1 u = z_up ce t (.inl (cA, N, .inr (.inl (vp_updL f k v)))) u) (kk : zV x ad ce1 n i lv (pc + 1) st) : zV x ad ce n i lv pc (.long v :: .int (nI k) :: .ref (ad t) :: st) :=
  z_last hx t0 ht he (vp_in_nI hk hN) hd (by rw [nI_clamp (Nat.lt_trans hk hN)]; exact hce) kk
theorem z_mmax (hx : zOk x cc own Ts l D cl tys) {index : Nat} (h1 : Cond.methodLink own index Lib.Math.max.name ∈ Ts) (h2 : Cond.static Lib.Math.max.name ∈ Ts) (h3 : Cond.initialized "java/lang/Math" ∈ Ts) (h4 : Cond.code Lib.Math.max.name Lib.Math.max.code 2 (some .int) ∈ Ts) (hR : 1 ≤ (zRm x).frames ∧ (st.map fun v => v.category).sum + 13 ≤ (zRm x).locals ∧ n ≤ (zRm x).cells ∧ i ≤ (zRm x).slots) {a b : Int32} (hd : decode cc pc = .ok (.invokestatic index, 3)) (k : zV x ad ce n i lv (pc + 3) (.int (if a < b then b else a) :: st)) : zV x ad ce n i lv pc (.int b :: .int a :: st) := by
  obtain ⟨⟨p, l0, e, R, s⟩, ⟨m, args, below, meth, c⟩, ⟨D0, cl0, tys0⟩, A, Q⟩ := x
  obtain ⟨hexec, hb, hown, hts0, hK, hA, hlocks, hZ, hE1, hE⟩ := hx
  cases hE1
  cases hE
  have hts := fun w (h : w ∈ Ts) => zT.at hts0 h args
  intro H locs ls hH hS hl
  exact va_mmax hexec hb hl.1.symm hown (hts _ h1) (hts _ h2) (hts _ h3) (hts _ h4) hR.1 hR.2.1 hR.2.2.1 hR.2.2.2 hd (k H locs ls hH hS hl)
theorem z_mabs (hx : zOk x cc own Ts l D cl tys) {index : Nat} (h1 : Cond.methodLink own index Lib.Math.abs.name ∈ Ts) (h2 : Cond.static Lib.Math.abs.name ∈ Ts) (h3 : Cond.initialized "java/lang/Math" ∈ Ts) (h4 : Cond.code Lib.Math.abs.name Lib.Math.abs.code 1 (some .int) ∈ Ts) (hR : 1 ≤ (zRm x).frames ∧ (st.map fun v => v.category).sum + 13 ≤ (zRm x).locals ∧ n ≤ (zRm x).cells ∧ i ≤ (zRm x).slots) {a : Int32} (hd : decode cc pc = .ok (.invokestatic index, 3)) (k : zV x ad ce n i lv (pc + 3) (.int (if 0 ≤ a then a else 0 - a) :: st)) : zV x ad ce n i lv pc (.int a :: st) := by
  obtain ⟨⟨p, l0, e, R, s⟩, ⟨m, args, below, meth, c⟩, ⟨D0, cl0, tys0⟩, A, Q⟩ := x
  obtain ⟨hexec, hb, hown, hts0, hK, hA, hlocks, hZ, hE1, hE⟩ := hx
  cases hE1
  cases hE
  have hts := fun w (h : w ∈ Ts) => zT.at hts0 h args
  intro H locs ls hH hS hl
  exact va_mabs hexec hb hl.1.symm hown (hts _ h1) (hts _ h2) (hts _ h3) (hts _ h4) hR.1 hR.2.1 hR.2.2.1 hR.2.2.2 hd (k H locs ls hH hS hl)
end ZQ
/-- how many of the first k have it -/
def cntI (p : Nat → Bool) : Nat → Nat
  | 0 => 0
  | k + 1 => cntI p k + (if p k = true then 1 else 0)
/-- the least from k on, within m steps; -1 if there is none -/
def lstF (p : Nat → Bool) : Nat → Nat → Int32
  | 0, _ => -1
  | m + 1, k => if p k = true then nI k else lstF p m (k + 1)
def hasF (p : Nat → Bool) : Nat → Nat → Int32
  | 0, _ => 0
  | m + 1, k => if p k = true then 1 else hasF p m (k + 1)
def putF (S : zSt) (s r : Int32) (f : Nat) : Nat → zSt
  | 0 => S
  | k + 1 => stM (stM (stM (putF S s r f k) 5 (f + k) s) 6 (f + k) r) 7 (f + k) 1
def markF (S : zSt) (g : Nat → Nat) : Nat → zSt
  | 0 => S
  | k + 1 => stM (markF S g k) 7 (g k) 2
theorem markF_n {S : zSt} {g : Nat → Nat} {k t : Nat} (h : t ≠ 7) : (markF S g k).2.2 t = S.2.2 t := by
  induction k with
  | zero => rfl
  | succ k ih => rw [markF, stM_n h, ih]
theorem markF_11 {S : zSt} {g : Nat → Nat} {k : Nat} : (markF S g k).2.2 11 = S.2.2 11 := markF_n (by decide)
def frmF (S : zSt) (s : Int32) : Nat → zSt
  | 0 => S
  | k + 1 => if (frmF S s k).2.2 7 k = 2 ∧ (frmF S s k).2.2 5 k = s then stM (frmF S s k) 7 k 1 else frmF S s k
def fillF (S : zSt) (t : Nat) : Nat → zSt
  | 0 => S
  | k + 1 => stM (fillF S t k) t k (S.2.2 11 k)
theorem fillF_n {S : zSt} {t u k : Nat} (h : u ≠ t) : (fillF S t k).2.2 u = S.2.2 u := by
  induction k with
  | zero => rfl
  | succ k ih => rw [fillF, stM_n h, ih]
def elF (S : zSt) (i : Nat) : Nat → Int32
  | 0 => 0
  | k + 1 => elF S i k + (S.2.2 (200 + 8 * i + k) 1 - S.2.2 (200 + 8 * i + k) 2)
def dropF (S : zSt) (i : Nat) : Nat → zSt
  | 0 => S
  | k + 1 => stM (stM (dropF S i k) (200 + 8 * i + k) 1 0) (200 + 8 * i + k) 2 0
theorem dropF_n {S : zSt} {i t k : Nat} (h : t < 200 + 8 * i) : (dropF S i k).2.2 t = S.2.2 t := by
  induction k with
  | zero => rfl
  | succ k ih => rw [dropF, stM_n (by omega), stM_n (by omega), ih]
theorem zlt_nI {a b : Nat} (h : ¬ nI b ≤ nI a) (ha : a < 2 ^ 31) (hb : b < 2 ^ 31) : a < b := by
  rw [nI_leI hb ha] at h
  omega
theorem zle_nI {a b : Nat} (h : nI b ≤ nI a) (hb : b < 2 ^ 31) (ha : a < 2 ^ 31) : b ≤ a := (nI_leI hb ha).mp h
theorem z01 {P : Prop} [Decidable P] (h : ¬ (if P then (1 : Int32) else 0) = 0) : P := by
  by_cases q : P
  · exact q
  · exact absurd (if_neg q) h
theorem z00 {P : Prop} [Decidable P] (h : (if P then (1 : Int32) else 0) = 0) : ¬ P := fun q => by
  rw [if_pos q] at h
  exact absurd h (by decide)
theorem z11 {P : Prop} [Decidable P] (h : ¬ (if P then (0 : Int32) else 1) = 0) : ¬ P := fun q => h (if_pos q)
theorem z10 {P : Prop} [Decidable P] (h : (if P then (0 : Int32) else 1) = 0) : P := by
  by_cases q : P
  · exact q
  · rw [if_neg q] at h
    exact absurd h (by decide)
theorem ho_n {S : zSt} {i t j : Nat} {v : Int32} (h : 9 ≠ t) (ho : S.2.2 9 i ≠ 0) : (stM S t j v).2.2 9 i ≠ 0 := by rw [stM_n h]; exact ho
theorem zle {a : Int32} (h : a ≤ 0) : ¬ 0 < a := Int32.not_lt.mpr h
theorem zgt {a : Int32} (h : ¬ a ≤ 0) : 0 < a := Int32.not_le.mp h
theorem zngt {a : Int32} (h : a ≤ 0) : ¬ 0 < a := Int32.not_lt.mpr h
theorem nI_lit (k : Nat) (v : Int32) (h : Int32.ofNat k = v) : v = nI k := h.symm
theorem nI_ge0 {k : Nat} (h : k < 2 ^ 31) : 0 ≤ nI k := nI_pos' h
theorem nI_ltL {k : Nat} (N : Nat) {v : Int32} (hv : nI N = v) (h : k < N) (hN : N < 2 ^ 31) : nI k < v := hv ▸ nI_lt h hN
theorem nI_leL {k : Nat} (N : Nat) {v : Int32} (hv : nI N = v) (h : k = N) (hN : N < 2 ^ 31) : v ≤ nI k := by
  subst h
  rw [hv]
  exact Int32.le_refl _
theorem nI_nleL {k : Nat} (N : Nat) {v : Int32} (hv : nI N = v) (h : k < N) (hN : N < 2 ^ 31) : ¬ v ≤ nI k := hv ▸ nI_ge h hN
