section ZY
variable {x : zX} {cc : ByteArray} {own : String} {Ts : List Cond} {l : Launch} {D : va_G} {cl : List vw_C} {tys : List (ClassId × FieldType)} {ad : Nat → Nat} {ce : zW} {n i pc mc ms : Nat} {lv : List (Nat × Value)} {st : List Value} {post : zQ}
theorem z_mmin (hx : zOk x cc own Ts l D cl tys) {index : Nat} (h1 : Cond.methodLink own index Lib.Math.min.name ∈ Ts) (h2 : Cond.static Lib.Math.min.name ∈ Ts) (h3 : Cond.initialized "java/lang/Math" ∈ Ts) (h4 : Cond.code Lib.Math.min.name Lib.Math.min.code 2 (some .int) ∈ Ts) (hR : 1 ≤ (zRm x).frames ∧ (st.map fun v => v.category).sum + 13 ≤ (zRm x).locals ∧ n ≤ (zRm x).cells ∧ i ≤ (zRm x).slots) {a b : Int32} (hd : decode cc pc = .ok (.invokestatic index, 3)) (k : zV x ad ce n i lv (pc + 3) (.int (if b < a then b else a) :: st)) : zV x ad ce n i lv pc (.int b :: .int a :: st) := by
  obtain ⟨⟨p, l0, e, R, s⟩, ⟨m, args, below, meth, c⟩, ⟨D0, cl0, tys0⟩, A, Q⟩ := x
  obtain ⟨hexec, hb, hown, hts0, hK, hA, hlocks, hZ, hE1, hE⟩ := hx
  cases hE1
  cases hE
  have hts := fun w (h : w ∈ Ts) => zT.at hts0 h args
  intro H locs ls hH hS hl
  exact va_mmin hexec hb hl.1.symm hown (hts _ h1) (hts _ h2) (hts _ h3) (hts _ h4) hR.1 hR.2.1 hR.2.2.1 hR.2.2.2 hd (k H locs ls hH hS hl)
/-- the same cells under other tags -/
theorem z_retag {ad2 : Nat → Nat} {ce2 : zW} (π : Nat → Nat) (hπ : ∀ t f, ce2 t = some f → ce (π t) = some f ∧ ad2 t = ad (π t)) (hinj : ∀ t u f g, ce2 t = some f → ce2 u = some g → π t = π u → t = u) (k : zV x ad2 ce2 n i lv pc st) : zV x ad ce n i lv pc st := by
  intro H locs ls hH hS hl
  refine k H locs ls ⟨fun t f ht => ?_, fun t u f g ht hu e => ?_⟩ hS hl
  · obtain ⟨a, b⟩ := hπ t f ht
    rw [b]
    exact hH.1 _ _ a
  · obtain ⟨a, b⟩ := hπ t f ht
    obtain ⟨c, d⟩ := hπ u g hu
    exact hinj t u f g ht hu (hH.2 _ _ _ _ a c (by rw [← b, ← d]; exact e))
/-- System.arraycopy from the front of one row of ints to the front of another -/
theorem z_copyi (hx : zOk x cc own Ts l D cl tys) {index : Nat} (w1 : Cond.methodLink own index arraycopyName ∈ Ts) (w2 : Cond.native arraycopyName ∈ Ts) (w3 : Cond.static arraycopyName ∈ Ts) (w4 : Cond.initialized "java/lang/System" ∈ Ts) (t0 : Nat) {cA : ClassId} (ht : tys[t0]? = some (cA, .int)) {u t N0 N1 : Nat} {f g : Nat → Int32} (he0 : ce u = some (.inl (cA, N0, .inl f))) (he1 : ce t = some (.inl (cA, N1, .inl g))) {q : Nat} (h4 : q ≤ N0) (h5 : q ≤ N1) (hq : q < 2 ^ 31)
    (hR : 1 ≤ (zRm x).frames ∧ (st.map fun v => v.category).sum + 18 ≤ (zRm x).locals) (hd : decode cc pc = .ok (.invokestatic index, 3)) {ce1 : zW} (hce : ∀ w, ce1 w = z_up ce t (.inl (cA, N1, .inl (va_cpy f g 0 0 q))) w) (k : zV x ad ce1 n i lv (pc + 3) st) : zV x ad ce n i lv pc (.int (nI q) :: .int 0 :: .ref (ad t) :: .int 0 :: .ref (ad u) :: st) := by
  obtain ⟨⟨p, l0, e, R, s⟩, ⟨m, args, below, meth, c⟩, ⟨D0, cl0, tys0⟩, A, Q⟩ := x
  obtain ⟨hexec, hb, hown, hts0, hK, hA, hlocks, hZ, hE1, hE⟩ := hx
  cases hE1
  cases hE
  have hts := fun w (h : w ∈ Ts) => zT.at hts0 h args
  intro H locs ls hH hS hl T hT X
  have hc0 : H[ad u]? = some (vp_cell cA (N0, .inl f)) := (hH.1 _ _ he0).1
  have hc1 : H[ad t]? = some (vp_cell cA (N1, .inl g)) := (hH.1 _ _ he1).1
  have hAt := (hH.1 _ _ he1).2
  obtain ⟨-, k0, hk0, cm0, hkk0⟩ := (hK.2 t0 _ ht).1 N0 (fun j => .int (f j))
  obtain ⟨-, k1, hk1, cm1, hkk1⟩ := (hK.2 t0 _ ht).1 N1 (fun j => .int (g j))
  have hcl : (nI q).toNatClampNeg = q := nI_clamp hq
  have h18 : (st.map fun v => v.category).sum + 18 ≤ R.locals := hR.2
  have hti : (nI q).toInt = (q : Int) := nI_toInt hq
  obtain ⟨vm', X', step⟩ := X.arraycopy hexec hown (hts _ w1) (hts _ w2) (hts _ w3) (hts _ w4) (src := ad u) (dst := ad t) (cs := vp_cell cA (N0, .inl f)) (cd := vp_cell cA (N1, .inl g)) (srcPos := 0) (destPos := 0) (n := nI q) (by rw [hT]; exact hc0) (by rw [hT]; exact hc1)
    (fun _ h => by cases h) (fun _ h => by cases h) (fun h => by cases h) (fun h => by cases h) hk0 hk1 hkk0 hkk1 rfl (by decide) (by decide) (nI_pos hq)
    (by rw [hti]; show ¬ _ > ((arrV cA N0 (fun j => .int (f j))).slots.size : Int); rw [arrV_size]; show ¬ (0 : Int) + _ > _; omega)
    (by rw [hti]; show ¬ _ > ((arrV cA N1 (fun j => .int (g j))).slots.size : Int); rw [arrV_size]; show ¬ (0 : Int) + _ > _; omega)
    (fun vm₁ _ j hj => by
      rw [hcl] at hj
      have e : (vp_cell cA (N0, .inl f)).slots.getD ((0 : Int32).toNatClampNeg + j) .null = .int (f ((0 : Int32).toNatClampNeg + j)) := by
        show (arrV cA N0 (fun j => .int (f j))).slots.getD _ _ = _
        rw [Array.getD_eq_getD_getElem?, arrV_read _ _ (by show 0 + j < N0; omega)]
        rfl
      refine ⟨?_, ?_⟩
      · rw [e]
        rfl
      · rw [e]
        exact trivial)
    (g := F0 m pc ls (.int (nI q) :: .int 0 :: .ref (ad t) :: .int 0 :: .ref (ad u) :: st)) rfl hl.1 (rest := st) rfl (by rw [hb]; exact hd) hR.1 (by show 2 * 0 + (st.map fun v => v.category).sum + (7 + 11) ≤ R.locals; omega)
  have e1 : copied (vp_cell cA (N0, .inl f)) (vp_cell cA (N1, .inl g)) 0 0 (nI q) = vp_cell cA (N1, .inl (va_cpy f g 0 0 q)) := by
    have h : copied (vp_cell cA (N0, .inl f)) (vp_cell cA (N1, .inl g)) 0 0 (nI q) = vp_cell cA (N1, .inl (va_cpy f g (0 : Int32).toNatClampNeg (0 : Int32).toNatClampNeg (nI q).toNatClampNeg)) := va_copied (fun z => .int z) cA cA f g (by rw [hcl]; show 0 + q ≤ N0; omega)
    rw [hcl] at h
    exact h
  rw [e1] at X' step
  have hlt : ad t < H.size := (Array.getElem?_eq_some_iff.mp hc1).1
  have hheap : ((T.setVm vm').setCell (ad t) (vp_cell cA (N1, .inl (va_cpy f g 0 0 q)))).heap = H.setIfInBounds (ad t) (vp_cell cA (N1, .inl (va_cpy f g 0 0 q))) := by rw [← hT]; rfl
  have oq : ∀ z : Nat, z ≠ ad t → (H.setIfInBounds (ad t) (vp_cell cA (N1, .inl (va_cpy f g 0 0 q))))[z]? = H[z]? := fun z hz => by simp [Array.getElem?_setIfInBounds, Ne.symm hz]
  obtain ⟨t2, a1, b1⟩ := k _ _ ls ((hH.set (e := .inl (cA, N1, .inl (va_cpy f g 0 0 q))) he1 (show (H.setIfInBounds (ad t) _)[ad t]? = some _ by simp [Array.getElem?_setIfInBounds, hlt]) oq).cong hce) ⟨by simp; exact hS.1, fun z g1 g2 => by
      rw [oq z (fun e => g2 (by rw [e]; exact hAt))]
      exact hS.2.1 z g1 g2, fun z hz => by
      rcases List.mem_append.mp hz with h | h
      · exact hS.2.2 z h
      · obtain ⟨y, -, hy⟩ := List.mem_map.mp h
        rw [← hy]
        exact hAt⟩ hl _ hheap X'
  exact ⟨t2, step t2 a1, b1⟩
end ZY
abbrev b_Ar : ByteArray := prog_20_method_123_code
def y_Ar : MethodName := ⟨"java/util/Arrays", "copyOf", "([II)[I"⟩
theorem d_Ar_0 : decode b_Ar 0 = .ok (.iload_n 1, 1) := by decide +kernel
theorem d_Ar_1 : decode b_Ar 1 = .ok (.aload_n 0, 1) := by decide +kernel
theorem d_Ar_2 : decode b_Ar 2 = .ok (.arraylength, 1) := by decide +kernel
theorem d_Ar_3 : decode b_Ar 3 = .ok (.if_icmp .ne 11, 3) := by decide +kernel
theorem d_Ar_14 : decode b_Ar 14 = .ok (.iload_n 1, 1) := by decide +kernel
theorem d_Ar_15 : decode b_Ar 15 = .ok (.newarray .int, 2) := by decide +kernel
theorem d_Ar_17 : decode b_Ar 17 = .ok (.astore_n 2, 1) := by decide +kernel
theorem d_Ar_18 : decode b_Ar 18 = .ok (.aload_n 0, 1) := by decide +kernel
theorem d_Ar_19 : decode b_Ar 19 = .ok (.iconst 0, 1) := by decide +kernel
theorem d_Ar_20 : decode b_Ar 20 = .ok (.aload_n 2, 1) := by decide +kernel
theorem d_Ar_21 : decode b_Ar 21 = .ok (.iconst 0, 1) := by decide +kernel
theorem d_Ar_22 : decode b_Ar 22 = .ok (.aload_n 0, 1) := by decide +kernel
theorem d_Ar_23 : decode b_Ar 23 = .ok (.arraylength, 1) := by decide +kernel
theorem d_Ar_24 : decode b_Ar 24 = .ok (.iload_n 1, 1) := by decide +kernel
theorem d_Ar_25 : decode b_Ar 25 = .ok (.invokestatic 304, 3) := by decide +kernel
theorem d_Ar_28 : decode b_Ar 28 = .ok (.invokestatic 150, 3) := by decide +kernel
theorem d_Ar_31 : decode b_Ar 31 = .ok (.aload_n 2, 1) := by decide +kernel
theorem d_Ar_32 : decode b_Ar 32 = .ok (.areturn, 1) := by decide +kernel
/-- a room for one new row -/
abbrev rma (M f w : Nat) : Room := { frames := f, cells := 1, slots := M, locals := w }
theorem Lay_99 {K : Nat → ClassId} {ad : Nat → Nat} {S : zSt} : Lay K ad S 99 = none := rfl
abbrev cpS (S : zSt) (s : Nat) : Nat → Int32 := va_cpy (S.2.2 (60 + s)) (fun _ => 0) 0 0 (S.1 (60 + s))
def grS (S : zSt) (s M : Nat) : zSt := (fun t => if t = 60 + s then M else S.1 t, S.2.1, fun u => if u = 60 + s then cpS S s else S.2.2 u)
def mkS (S : zSt) (s w : Nat) : zSt := if S.1 (60 + s) < w then grS S s (max w (2 * S.1 (60 + s))) else S
def zAg (s : Nat) (ad ad' : Nat → Nat) : Prop := ∀ t, t ≠ 60 + s → ad' t = ad t
/-- as zP, but the stratum's list may have moved -/
def zPa (K : Nat → ClassId) (ad : Nat → Nat) (s : Nat) (v : Option Value) (S : zSt) : zQ := fun r ad' ce' => r = .inl v ∧ zAg s ad ad' ∧ ce' = Lay K ad' S
set_option maxRecDepth 20000 in
theorem c_Ar_copyOf {l : Launch} {D : va_G} {K : Nat → ClassId} {ad : Nat → Nat} {S : zSt} {s : Nat} (hs : s < 8) {M : Nat} (hlt : S.1 (60 + s) < M) (hM : M < 2 ^ 27) : zC l TB D zcls (ztyl K) y_Ar (.code y_Ar b_Ar 3 (some (.array .int))) (rma M 1 40) [.ref (ad (60 + s)), .int (nI M)] ad (Lay K ad S) (fun r ad' ce' => ∃ q, r = .inl (some (.ref q)) ∧ ad' = va_up ad 99 q ∧ ce' = z_up (Lay K ad S) 99 (.inl (K 0, M, .inl (cpS S s)))) := by
  refine zC.of (by decide +kernel) (Nat.le_of_ble_eq_true rfl) ?_
  intro x hx hr hml hnm hrm hq hNH
  show zV x ad (Lay K ad S) 0 0 [(0, .ref (ad (60 + s))), (1, .int (nI M))] 0 []
  refine z_iload_n hx 1 d_Ar_0 rfl ?_
  refine z_aload_n hx 0 d_Ar_1 rfl ?_
  refine z_alen hx 0 rfl (t := 60 + s) (Lay_li hs) (v := nI (S.1 (60 + s))) rfl d_Ar_2 ?_
  refine z_icmp_ne (tgt := 14) hx d_Ar_3 (by decide) (fun _ => ?_) (fun h => absurd ((nI_eq (by omega) (by omega)).mp h) (by omega))
  refine z_iload_n hx 1 d_Ar_14 rfl ?_
  refine z_newa hx (ty := .int) rfl 0 rfl ⟨by decide +kernel, by intro C h; cases h⟩ a1_50 (t := 99) Lay_99 (N := M) (a0 := (M, .inl (fun _ => 0))) (fun _ => rfl) (nI_pos (by omega)) (nI_clamp (by omega)) (by show M * 4 ≤ _; omega) (by rw [hrm]; exact Nat.le_refl _) (by rw [hrm]; show 0 + M ≤ M; omega) d_Ar_15 (fun q => ?_)
  have e60 : va_up ad 99 q (60 + s) = ad (60 + s) := va_up_ne _ _ (by omega)
  have e99 : va_up ad 99 q 99 = q := va_up_self _ _ _
  rw [← e60]
  refine z_astore_n hx [(2, .ref q), (0, .ref (va_up ad 99 q (60 + s))), (1, .int (nI M))] d_Ar_17 rfl (zN hml (by decide)) rfl ?_
  refine z_aload_n hx 1 d_Ar_18 rfl ?_
  refine z_iconst (v := 0) hx d_Ar_19 rfl ?_
  refine z_aload_n hx 0 d_Ar_20 rfl ?_
  refine z_iconst (v := 0) hx d_Ar_21 rfl ?_
  refine z_aload_n hx 1 d_Ar_22 rfl ?_
  refine z_alen hx 0 rfl (t := 60 + s) (by rw [z_up_n (by omega)]; exact Lay_li hs) (v := nI (S.1 (60 + s))) rfl d_Ar_23 ?_
  refine z_iload_n hx 2 d_Ar_24 rfl ?_
  refine z_mmin hx a2_198 a2_199 a1_15 a2_200 (by rw [hrm]; exact ⟨Nat.le_of_ble_eq_true rfl, Nat.le_of_ble_eq_true rfl, Nat.le_of_ble_eq_true rfl, (by show 0 + M ≤ M; omega)⟩) d_Ar_25 ?_
  refine z_top (b := nI (S.1 (60 + s))) (if_neg (nI_nlt (by omega) (by omega))) ?_
  have hz : zV x (va_up ad 99 q) (z_up (Lay K ad S) 99 (.inl (K 0, M, .inl (fun _ => 0)))) (0 + 1) (0 + M) [(2, .ref q), (0, .ref (va_up ad 99 q (60 + s))), (1, .int (nI M))] 28 [.int (nI (S.1 (60 + s))), .int 0, .ref (va_up ad 99 q 99), .int 0, .ref (va_up ad 99 q (60 + s))] := by
    refine z_copyi hx a2_201 a2_203 a2_202 a1_17 0 rfl (u := 60 + s) (t := 99) (by rw [z_up_n (by omega)]; exact Lay_li hs) z_up_s (Nat.le_refl _) (by omega) (by omega) (by rw [hrm]; exact ⟨Nat.le_of_ble_eq_true rfl, Nat.le_of_ble_eq_true rfl⟩) d_Ar_28 (ce1 := z_up (Lay K ad S) 99 (.inl (K 0, M, .inl (cpS S s)))) (fun w => ?_) ?_
    · by_cases h : w = 99
      · rw [h, z_up_s, z_up_s]
      · rw [z_up_n h, z_up_n h, z_up_n h]
    refine z_aload_n hx 0 d_Ar_31 rfl ?_
    exact z_aret hx hr (Or.inr ⟨_, rfl⟩) hq (by rw [Nat.zero_add]; exact Nat.le_refl _) (by rw [Nat.zero_add]; exact Nat.le_refl _) d_Ar_32 ⟨q, rfl, rfl, rfl⟩
  rw [e99] at hz
  exact hz
theorem plT_ne {n t q : Nat} (h1 : 1 ≠ q) (h2 : t ≠ q) : plT n t ≠ q := by
  unfold plT
  by_cases h : n = 1
  · rw [if_pos h]; exact h1
  · rw [if_neg h]; exact h2
theorem grS_1n {S : zSt} {s M u : Nat} (h : u ≠ 60 + s) : (grS S s M).1 u = S.1 u := if_neg h
theorem grS_n {S : zSt} {s M u : Nat} (h : u ≠ 60 + s) : (grS S s M).2.2 u = S.2.2 u := if_neg h
theorem bodyA_ad {K : Nat → ClassId} {ad ad2 : Nat → Nat} {s : Nat} (hs : s < 8) (h : zAg s ad ad2) (g : Nat → Int64) (f : Nat → Int32) (t : Nat) : bodyA K ad2 g f t = bodyA K ad g f t := by
  have h1 : ∀ j, j < 60 → ad2 j = ad j := fun j hj => h j (by omega)
  have h2 : ∀ j, ad2 (100 + j) = ad (100 + j) := fun j => h _ (by omega)
  have e9 : (fun i => if i < 10 then (if f i = 0 then none else some (ad2 (100 + i))) else none) = (fun i => if i < 10 then (if f i = 0 then none else some (ad (100 + i))) else none) := by
    funext i
    rw [h2]
  have e10 : (fun i => if i < 8 then some (ad2 (40 + i)) else none) = (fun i => if i < 8 then some (ad (40 + i)) else none) := by
    funext i
    by_cases q : i < 8
    · rw [if_pos q, if_pos q, h1 _ (by omega)]
    · rw [if_neg q, if_neg q]
  unfold bodyA
  split <;> first | rfl | (rw [e9]) | (rw [e10]) | (simp only [h1 1 (by decide), h1 2 (by decide), h1 3 (by decide), h1 4 (by decide), h1 5 (by decide), h1 6 (by decide), h1 7 (by decide), h1 8 (by decide), h1 9 (by decide), h1 10 (by decide), h1 11 (by decide), h1 14 (by decide), h1 15 (by decide), h1 16 (by decide), h1 17 (by decide), h1 18 (by decide), h1 19 (by decide), h1 20 (by decide), h1 21 (by decide), h1 22 (by decide), h1 23 (by decide), h1 24 (by decide), h1 25 (by decide), h1 26 (by decide), h1 27 (by decide), h1 28 (by decide), h1 29 (by decide), h1 30 (by decide), h1 31 (by decide), h1 32 (by decide)])
theorem Lay_gr {K : Nat → ClassId} {ad ad2 : Nat → Nat} {S : zSt} {s M t : Nat} (hs : s < 8) (h : zAg s ad ad2) (h4 : t ≠ 40 + s) (h6 : t ≠ 60 + s) : Lay K ad2 (grS S s M) t = Lay K ad S t := by
  show (if zdom ((grS S s M).2.2 9) t = true then some (bodyX K ad2 ((grS S s M).1 t) (S.2.1 t) ((grS S s M).2.2 t) t) else none) = if zdom (S.2.2 9) t = true then some (bodyX K ad (S.1 t) (S.2.1 t) (S.2.2 t) t) else none
  rw [grS_n (by omega), grS_n h6, show (grS S s M).1 t = S.1 t from if_neg h6]
  have e : zdom (S.2.2 9) t = true → bodyX K ad2 (S.1 t) (S.2.1 t) (S.2.2 t) t = bodyX K ad (S.1 t) (S.2.1 t) (S.2.2 t) t := by
    intro hd
    unfold bodyX
    by_cases c1 : t < 40
    · rw [if_pos c1, if_pos c1, bodyA_ad hs h]
    rw [if_neg c1, if_neg c1]
    by_cases c2 : t < 50
    · rw [if_pos c2, if_pos c2, h (plT (S.1 t) (t + 30)) (plT_ne (by omega) (by omega)), h (t + 10) (by omega), h (t + 20) (by omega)]
    rw [if_neg c2, if_neg c2]
    by_cases c3 : t < 60
    · rw [if_pos c3, if_pos c3]
    rw [if_neg c3, if_neg c3]
    by_cases c4 : t < 100
    · rw [if_pos c4, if_pos c4]
      unfold bodyP
      by_cases c5 : t < 70
      · rw [if_pos c5, if_pos c5]
      rw [if_neg c5, if_neg c5]
      by_cases c6 : t < 80
      · rw [if_pos c6, if_pos c6, h (t + 10) (by omega)]
      rw [if_neg c6, if_neg c6]
    rw [if_neg c4, if_neg c4]
    by_cases c5 : t < 110
    · rw [if_pos c5, if_pos c5, h (t + 10) (by omega), h (t + 20) (by omega), h (t + 30) (by omega), h (t + 40) (by omega), h (t + 50) (by omega)]
    rw [if_neg c5, if_neg c5]
    by_cases c6 : t < 150
    · rw [if_pos c6, if_pos c6]
    rw [if_neg c6, if_neg c6]
    by_cases c7 : t < 160
    · rw [if_pos c7, if_pos c7]
      have e9 : (fun i => if i < 8 then some (ad2 (200 + 8 * (t - 150) + i)) else none) = (fun i => if i < 8 then some (ad (200 + 8 * (t - 150) + i)) else none) := by
        funext i
        rw [h _ (by omega)]
      rw [e9]
    rw [if_neg c7, if_neg c7]
    by_cases c8 : t < 300
    · rw [if_pos c8, if_pos c8, h (t + 100) (by omega)]
    rw [if_neg c8, if_neg c8]
  by_cases hd : zdom (S.2.2 9) t = true
  · rw [if_pos hd, if_pos hd, e hd]
  · rw [if_neg hd, if_neg hd]
theorem mxN {a b : Nat} (ha : a < 2 ^ 31) (hb : b < 2 ^ 31) : (if nI a < nI b then nI b else nI a) = nI (max a b) := by
  by_cases h : a < b
  · rw [if_pos ((nI_ltI ha hb).mpr h), Nat.max_eq_right (Nat.le_of_lt h)]
  · rw [if_neg (fun q => h ((nI_ltI ha hb).mp q)), Nat.max_eq_left (Nat.not_lt.mp h)]
set_option maxRecDepth 20000 in
theorem c_St_makeRoom {l : Launch} {D : va_G} {K : Nat → ClassId} {ad : Nat → Nat} {S : zSt} {s : Nat} (hs : s < 8) {w M : Nat} (hw : w ≤ 12288) (hL : S.1 (60 + s) ≤ 24576) (hM : S.1 (60 + s) < w → max w (2 * S.1 (60 + s)) ≤ M) : zC l TB D zcls (ztyl K) y_St_makeRoom (.code y_St_makeRoom b_St_makeRoom 2 (none : Option FieldType)) (rma M 3 60) [.ref (ad (40 + s)), .int (nI w)] ad (Lay K ad S) (zPa K ad s none (mkS S s w)) := by
  refine zC.of (by decide +kernel) (Nat.le_of_ble_eq_true rfl) ?_
  intro x hx hr hml hnm hrm hq hNH
  show zV x ad (Lay K ad S) 0 0 [(0, .ref (ad (40 + s))), (1, .int (nI w))] 0 []
  refine z_iload_n hx 1 d_St_makeRoom_0 rfl ?_
  refine z_aload_n hx 0 d_St_makeRoom_1 rfl ?_
  refine z_get hx k_St (t := 40 + s) (Lay_St hs) 3 (by decide) a1_102 rfl d_St_makeRoom_2 ?_
  refine z_alen hx 0 rfl (t := 60 + s) (Lay_li hs) (v := nI (S.1 (60 + s))) rfl d_St_makeRoom_5 ?_
  refine z_icmp_le (tgt := 38) hx d_St_makeRoom_6 (by decide) (fun h1 => ?_) (fun h1 => ?_)
  · exact z_vret hx hr hq (Nat.zero_le _) (Nat.zero_le _) d_St_makeRoom_38 ⟨rfl, fun t h => rfl, by rw [mkS, if_neg (fun z => absurd ((nI_leI (by omega) (by omega)).mp h1) (by omega))]⟩
  · have hgr : S.1 (60 + s) < w := Nat.lt_of_not_le fun z => h1 ((nI_leI (by omega) (by omega)).mpr z)
    have hM1 := hM hgr
    refine z_iload_n hx 1 d_St_makeRoom_9 rfl ?_
    refine z_sipush (v := 12288) hx d_St_makeRoom_10 rfl ?_
    refine z_icmp_gt (tgt := 38) hx d_St_makeRoom_13 (by decide) (fun h => absurd h (nI_nlt (b := w) (a := 12288) hw (by omega))) (fun _ => ?_)
    refine z_aload_n hx 0 d_St_makeRoom_16 rfl ?_
    refine z_aload_n hx 0 d_St_makeRoom_17 rfl ?_
    refine z_get hx k_St (t := 40 + s) (Lay_St hs) 3 (by decide) a1_102 rfl d_St_makeRoom_18 ?_
    refine z_iload_n hx 1 d_St_makeRoom_21 rfl ?_
    refine z_iconst (v := 2) hx d_St_makeRoom_22 rfl ?_
    refine z_aload_n hx 0 d_St_makeRoom_23 rfl ?_
    refine z_get hx k_St (t := 40 + s) (Lay_St hs) 3 (by decide) a1_102 rfl d_St_makeRoom_24 ?_
    refine z_alen hx 0 rfl (t := 60 + s) (Lay_li hs) (v := nI (S.1 (60 + s))) rfl d_St_makeRoom_27 ?_
    refine z_imul hx d_St_makeRoom_28 ?_
    refine z_top (b := nI (2 * S.1 (60 + s))) (pk_mul 2 _) ?_
    refine z_mmax hx a2_185 a2_186 a1_15 a2_187 (by rw [hrm]; exact ⟨Nat.le_of_ble_eq_true rfl, Nat.le_of_ble_eq_true rfl, Nat.le_of_ble_eq_true rfl, Nat.le_of_ble_eq_true rfl⟩) d_St_makeRoom_29 ?_
    refine z_top (b := nI (max w (2 * S.1 (60 + s)))) (mxN (by omega) (by omega)) ?_
    refine z_retS hx (c_Ar_copyOf hs (M := max w (2 * S.1 (60 + s))) (by omega) (by omega)) ⟨a2_188, a2_190, a1_16, ⟨by decide +kernel, by decide +kernel⟩, fun sig h => by cases h; rfl⟩ a2_189 rfl rfl d_St_makeRoom_32 (by rw [hrm]; exact ⟨Nat.le_of_ble_eq_true rfl, Nat.le_of_ble_eq_true rfl, Nat.le_of_ble_eq_true rfl, (by show 0 + max w (2 * S.1 (60 + s)) ≤ M; omega)⟩) (fun E ad' ce' h => by obtain ⟨q, h1, -⟩ := h; cases h1) (fun v ad' ce' h => ?_)
    obtain ⟨q, h9, rfl, rfl⟩ := h
    cases h9
    have e40 : va_up ad 99 q (40 + s) = ad (40 + s) := va_up_ne _ _ (by omega)
    show zV x (va_up ad 99 q) _ (0 + 1) (0 + max w (2 * S.1 (60 + s))) [(0, .ref (ad (40 + s))), (1, .int (nI w))] 35 [.ref q, .ref (ad (40 + s))]
    rw [← e40]
    refine z_put hx k_St (t := 40 + s) (by rw [z_up_n (by omega)]; exact Lay_St hs) 3 (by decide) a1_102 rfl rfl rfl (Nat.le_of_ble_eq_true rfl) d_St_makeRoom_35 (fun u => rfl) ?_
    refine z_retag (ad2 := va_up ad (60 + s) q) (ce2 := Lay K (va_up ad (60 + s) q) (grS S s (max w (2 * S.1 (60 + s))))) (fun t => if t = 60 + s then 99 else t) (fun t f ht => ?_) (fun t u f g ht hu htu => ?_) ?_
    · have hag : zAg s ad (va_up ad (60 + s) q) := fun t h => va_up_ne _ _ h
      by_cases c6 : t = 60 + s
      · subst c6
        rw [Lay_li hs] at ht
        cases ht
        show z_up _ (40 + s) _ (if 60 + s = 60 + s then 99 else 60 + s) = _ ∧ va_up ad (60 + s) q (60 + s) = va_up ad 99 q (if 60 + s = 60 + s then 99 else 60 + s)
        rw [if_pos rfl, z_up_n (by omega), z_up_s, va_up_self, va_up_self]
        refine ⟨?_, rfl⟩
        show some (Sum.inl (K 0, max w (2 * S.1 (60 + s)), Sum.inl (cpS S s))) = some (Sum.inl (K 0, (if 60 + s = 60 + s then max w (2 * S.1 (60 + s)) else S.1 (60 + s)), Sum.inl (if 60 + s = 60 + s then cpS S s else S.2.2 (60 + s))))
        rw [if_pos rfl, if_pos rfl]
      · show z_up _ (40 + s) _ (if t = 60 + s then 99 else t) = _ ∧ va_up ad (60 + s) q t = va_up ad 99 q (if t = 60 + s then 99 else t)
        rw [if_neg c6, va_up_ne _ _ c6]
        by_cases c4 : t = 40 + s
        · subst c4
          rw [Lay_St hs] at ht
          cases ht
          rw [z_up_s, va_up_ne _ _ (show 40 + s ≠ 99 by omega)]
          refine ⟨?_, rfl⟩
          rw [hag (plT ((grS S s (max w (2 * S.1 (60 + s)))).1 (40 + s)) (70 + s)) (plT_ne (by omega) (by omega)), hag (50 + s) (by omega), va_up_self, grS_n (show 40 + s ≠ 60 + s by omega), grS_1n (show 40 + s ≠ 60 + s by omega)]
          rfl
        · have hne : t ≠ 99 := fun h9 => by subst h9; exact absurd ht (by rw [Lay_99]; exact fun h => nomatch h)
          rw [Lay_gr hs hag c4 c6] at ht
          rw [z_up_n c4, z_up_n hne, va_up_ne _ _ hne]
          exact ⟨ht, rfl⟩
    · have n99 : ∀ z h, Lay K (va_up ad (60 + s) q) (grS S s (max w (2 * S.1 (60 + s)))) z = some h → z ≠ 99 := fun z h hz h9 => by subst h9; exact absurd hz (by rw [Lay_99]; exact fun h => nomatch h)
      have htu : (if t = 60 + s then 99 else t) = (if u = 60 + s then 99 else u) := htu
      have a1 := n99 t f ht
      have a2 := n99 u g hu
      by_cases c1 : t = 60 + s <;> by_cases c2 : u = 60 + s
      · rw [c1, c2]
      · rw [if_pos c1, if_neg c2] at htu; exact absurd htu.symm a2
      · rw [if_neg c1, if_pos c2] at htu; exact absurd htu a1
      · rw [if_neg c1, if_neg c2] at htu; exact htu
    exact z_vret hx hr hq (by rw [Nat.zero_add]; exact Nat.le_refl _) (by show 0 + max w (2 * S.1 (60 + s)) ≤ M; omega) d_St_makeRoom_38 ⟨rfl, fun t h => va_up_ne _ _ h, by rw [mkS, if_pos hgr]⟩
