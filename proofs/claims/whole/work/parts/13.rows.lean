theorem rd_s {S : zSt} {t j : Nat} {v : Int32} : (stM S t j v).2.2 t j = v := by rw [stM_s]; exact if_pos rfl
theorem rd_j {S : zSt} {t j j' : Nat} {v : Int32} (h : j' ≠ j) : (stM S t j v).2.2 t j' = S.2.2 t j' := by rw [stM_s]; exact if_neg h
theorem rd_n {S : zSt} {t u j j' : Nat} {v : Int32} (h : u ≠ t) : (stM S t j v).2.2 u j' = S.2.2 u j' := by rw [stM_n h]
theorem rdL_s {S : zSt} {t j : Nat} {v : Int64} : (stL S t j v).2.1 t j = v := by rw [stL_s]; exact if_pos rfl
theorem rdL_j {S : zSt} {t j j' : Nat} {v : Int64} (h : j' ≠ j) : (stL S t j v).2.1 t j' = S.2.1 t j' := by rw [stL_s]; exact if_neg h
theorem rdL_n {S : zSt} {t u j j' : Nat} {v : Int64} (h : u ≠ t) : (stL S t j v).2.1 u j' = S.2.1 u j' := by rw [stL_n h]
/-- the room of a call that throws and makes nothing else -/
abbrev rmx (f w : Nat) : Room := { frames := f, cells := 1, slots := 6, locals := w }
section ZX
variable {x : zX} {cc : ByteArray} {own : String} {l : Launch} {D : va_G} {K : Nat → ClassId} {ad : Nat → Nat} {S S' : zSt} {n i pc mc ms : Nat} {lv : List (Nat × Value)} {st : List Value} {post : zQ}
theorem z_xV (hx : zOk x cc own TB l D zcls (ztyl K)) {index na t ci N f w : Nat} {y : MethodName} {cb : ByteArray} {maxL : Nat} {ret : Option FieldType} {As : List Value} {E : String} {T : u_T} {ty : Nat → FieldType} {fs : List Value} (hM : zC l TB D zcls (ztyl K) y (.code y cb maxL ret) (rmx f w) (.ref (ad t) :: As) ad (Lay K ad S) (zX0 K ad E S)) (hc : zCl TB zcls ci y.cls T N ty) (he : Lay K ad S t = some (.inr (ci, fs)))
    (hg : zWc TB y cb maxL ret na (Cond.methodLink own index y)) (hi : Cond.instanceMethod y ∈ TB) (hse : Cond.selects y.cls y y ∈ TB) (hlen : As.length = na) {st0 : List Value} (hst0 : As.reverse ++ .ref (ad t) :: st = st0) (hd : decode cc pc = .ok (.invokevirtual index, 3))
    (hR : f + 1 ≤ (zRm x).frames ∧ (st.map fun v => v.category).sum + (maxL + 11) + w ≤ (zRm x).locals ∧ n + 1 ≤ (zRm x).cells ∧ i + 6 ≤ (zRm x).slots) (hq : zRet x mc ms post) (h1 : n + 1 ≤ mc) (h2 : i + 6 ≤ ms) (hNH : zNH x) (kp : post (.inr E) ad (Lay K ad S)) : zV x ad (Lay K ad S) n i lv pc st0 :=
  z_invV hx hc he hM hg hi hse hlen hst0 hd hR hq h1 h2 hNH (fun v ad' ce' h => by cases h.1) (fun E' ad' ce' h => by
    obtain ⟨h1, rfl, rfl⟩ := h
    cases h1
    exact kp)
theorem z_xS (hx : zOk x cc own TB l D zcls (ztyl K)) {index na f w : Nat} {y : MethodName} {cb : ByteArray} {maxL : Nat} {ret : Option FieldType} {As : List Value} {E : String} (hM : zC l TB D zcls (ztyl K) y (.code y cb maxL ret) (rmx f w) As ad (Lay K ad S) (zX0 K ad E S))
    (hg : zWc TB y cb maxL ret na (Cond.methodLink own index y)) (hi : Cond.static y ∈ TB) (hlen : As.length = na) {st0 : List Value} (hst0 : As.reverse ++ st = st0) (hd : decode cc pc = .ok (.invokestatic index, 3))
    (hR : f + 1 ≤ (zRm x).frames ∧ (st.map fun v => v.category).sum + (maxL + 11) + w ≤ (zRm x).locals ∧ n + 1 ≤ (zRm x).cells ∧ i + 6 ≤ (zRm x).slots) (hq : zRet x mc ms post) (h1 : n + 1 ≤ mc) (h2 : i + 6 ≤ ms) (hNH : zNH x) (kp : post (.inr E) ad (Lay K ad S)) : zV x ad (Lay K ad S) n i lv pc st0 :=
  z_invS hx hM hg hi hlen hst0 hd hR hq h1 h2 hNH (fun v ad' ce' h => by cases h.1) (fun E' ad' ce' h => by
    obtain ⟨h1, rfl, rfl⟩ := h
    cases h1
    exact kp)
theorem z_tabOut (hx : zOk x cc own TB l D zcls (ztyl K)) {ce : zW} {dflt lo hi : Int} {offs : Array Int} {len : Nat} {v : Int32} {tgt : Nat} (hd : decode cc pc = .ok (.tableswitch dflt lo hi offs, len)) (h : v.toInt < lo ∨ hi < v.toInt) (ht : (pc : Int) + dflt = (tgt : Int)) (k : zV x ad ce n i lv tgt st) : zV x ad ce n i lv pc (.int v :: st) := by
  obtain ⟨⟨p, l0, e, R, s⟩, ⟨m, args, below, meth, c⟩, ⟨D0, cl0, tys0⟩, A, Q⟩ := x
  obtain ⟨hexec, hb, hown, hts0, hK, hA, hlocks, hZ, hE1, hE⟩ := hx
  cases hE1
  cases hE
  have hts := fun w (h : w ∈ TB) => zT.at hts0 h args
  intro H locs ls hH hS hl
  exact lv_tableOut hexec hb hd h ht (k H locs ls hH hS hl)
theorem z_tabIn (hx : zOk x cc own TB l D zcls (ztyl K)) {ce : zW} {dflt lo hi : Int} {offs : Array Int} {len : Nat} {v : Int32} {off : Int} {tgt : Nat} (hd : decode cc pc = .ok (.tableswitch dflt lo hi offs, len)) (h1 : ¬ v.toInt < lo) (h2 : ¬ hi < v.toInt) (ho : offs[(v.toInt - lo).toNat]? = some off) (ht : (pc : Int) + off = (tgt : Int)) (k : zV x ad ce n i lv tgt st) : zV x ad ce n i lv pc (.int v :: st) := by
  obtain ⟨⟨p, l0, e, R, s⟩, ⟨m, args, below, meth, c⟩, ⟨D0, cl0, tys0⟩, A, Q⟩ := x
  obtain ⟨hexec, hb, hown, hts0, hK, hA, hlocks, hZ, hE1, hE⟩ := hx
  cases hE1
  cases hE
  have hts := fun w (h : w ∈ TB) => zT.at hts0 h args
  intro H locs ls hH hS hl
  exact lv_tableIn hexec hb hd h1 h2 ho ht (k H locs ls hH hS hl)
theorem z_ldcw (hx : zOk x cc own TB l D zcls (ztyl K)) {ce : zW} {idx : Nat} {v : Int32} (hd : decode cc pc = .ok (.ldc_w idx, 3)) (hw : Jvm.Cond.constant own idx v ∈ TB) (k : zV x ad ce n i lv (pc + 3) (.int v :: st)) : zV x ad ce n i lv pc st := by
  obtain ⟨⟨p, l0, e, R, s⟩, ⟨m, args, below, meth, c⟩, ⟨D0, cl0, tys0⟩, A, Q⟩ := x
  obtain ⟨hexec, hb, hown, hts0, hK, hA, hlocks, hZ, hE1, hE⟩ := hx
  cases hE1
  cases hE
  have hts := fun w (h : w ∈ TB) => zT.at hts0 h args
  intro H locs ls hH hS hl
  exact lv_ldcw hexec hb hown (hts _ hw) hd (k H locs ls hH hS hl)
end ZX
