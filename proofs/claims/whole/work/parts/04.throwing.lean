-- ===== throwing and catching =====
section ZT
variable {x : zX} {cc : ByteArray} {own : String} {Ts : List Cond} {l : Launch} {D : va_G} {cl : List vw_C} {tys : List (ClassId × FieldType)} {ad : Nat → Nat} {ce : zW} {n i pc mc ms : Nat} {lv : List (Nat × Value)} {st : List Value} {post : zQ}
/-- the words of 'throw new E()' at a place: link of the name, of the constructor, the chain above -/
def zWt (Ts : List Cond) (own : String) (ik ic : Nat) (E : String) : Prop := Bundle.fit E = true ∧ Cond.classLink own ik E ∈ Ts ∧ Cond.initialized E ∈ Ts ∧ (∀ w ∈ vx_at0 own ic E ["java/lang/RuntimeException", "java/lang/Exception"], w ∈ Ts) ∧ (∀ w ∈ Cond.classLink own ik E :: Cond.initialized E :: vx_at0 own ic E ["java/lang/RuntimeException", "java/lang/Exception"], vx_ot w = true)
theorem z_throw (hx : zOk x cc own Ts l D cl tys) (htr : l.stackTraces = false) {E : String} {ik ic : Nat} (hw : zWt Ts own ik ic E) (hq : zRet x mc ms post) (h1 : n + 1 ≤ mc) (h2 : i + 6 ≤ ms) (hNH : zNH x) (hR : 5 < (zRm x).frames ∧ (st.map fun v => v.category).sum + 81 ≤ (zRm x).locals ∧ n + 1 ≤ (zRm x).cells ∧ i + 6 ≤ (zRm x).slots)
    (d0 : decode cc pc = .ok (.new ik, 3)) (d3 : decode cc (pc + 3) = .ok (.dup, 1)) (d4 : decode cc (pc + 4) = .ok (.invokespecial ic, 3)) (d7 : decode cc (pc + 7) = .ok (.athrow, 1)) (hp : post (.inr E) ad ce) : zV x ad ce n i lv pc st := by
  obtain ⟨⟨p, l0, e, R, s⟩, ⟨m, args, below, meth, c⟩, ⟨D0, cl0, tys0⟩, A, Q⟩ := x
  obtain ⟨hexec, hb, hown, hts0, hK, hA, hlocks, hZ, hE1, hE⟩ := hx
  cases hE1
  cases hE
  have hts := fun w (h : w ∈ Ts) => zT.at hts0 h args
  intro H locs ls hH hS hl
  refine W_mono ?_ (vx_throw0 (Qc := fun _ _ _ _ => False) (XC := fun E' s' t => E' = E ∧ z_H D cl A ad ce t.heap ∧ va_F A s' t) (free := A) (A := A) hexec hb htr hown hw.1 (by decide +kernel) (hts _ hw.2.1) (hts _ hw.2.2.1) (fun w h => hts w (hw.2.2.2.1 w h)) hw.2.2.2.2 hZ.1 hZ.2 hS hl.1 d0 d3 d4 d7 (hNH (pc + 7)) hR.1 hR.2.1 hR.2.2.1 hR.2.2.2 hlocks
    (fun t hal hsz hq' => ⟨rfl, hH.kept hq', ⟨Nat.le_trans hS.1 hsz, fun q h1 h2 => (hq' q (Nat.lt_of_lt_of_le h1 hS.1)).trans (hS.2.1 q h1 h2)⟩⟩) hS.2.2 h1 h2)
  rintro t ⟨o, g1, g2, g3⟩
  rcases g3 with ⟨g4, -⟩ | ⟨q, rfl, E', cell, L, ⟨rfl, hz, hF⟩, hc1, hc2, hc3, hW, hs, hL⟩
  · exact g4.elim
  · exact hq t ⟨_, g1, g2, ⟨.inr E', ad, ce, ⟨cell, hc1, by rw [hc2]; rfl, by rw [hW.alike.findClass]; exact hc3⟩, hp, hz⟩, hF, hW, L, hs, hL⟩
end ZT
