section ZF
variable {x : zX} {cc : ByteArray} {own : String} {l : Launch} {D : va_G} {K : Nat → ClassId} {ad : Nat → Nat} {W : zW} {n i pc mc ms : Nat} {lv : List (Nat × Value)} {st : List Value} {post : zQ}
theorem z_fill (hx : zOk x cc own TB l D zcls (ztyl K)) {C : String} {T : u_T} {N ci index t u o : Nat} {ty : Nat → FieldType} {fs : List Value} (hc : zCl TB zcls ci C T N ty) (hto : ad t = o) (hut : u ≠ t) (hfree : W u = none) (j : Nat) (hj : j < N) (hw : Cond.fieldLink own index (T j).1 (T j).2.1 (T j).2.2.1 ∈ TB) (hfin : (T j).2.2.2 = true) (hinit : (zmeth x).name = "<init>") (hdecl : (T j).1 = own) (hn : ∀ q, narrow (ty j) (.ref q) = .ref q) (hfit : ∀ q, fits (ty j) (.ref q) = true) (hlen : j < fs.length) {atype : ArrayType} {aty : FieldType} (hty : newarray.typeOf atype = aty) (t0 : Nat) {cA : ClassId} (ht : (ztyl K)[t0]? = some (cA, aty)) (hprim : "[" ++ aty.toString ≠ "" ∧ ∀ C, aty ≠ .object C) (hwA : Cond.arrayClass aty ∈ TB) {jv : Int32} {M : Nat} (a0 : vp_A) (ha : ∀ cA : ClassId, vp_cell cA a0 = arrV cA M (fun _ => defaultValue aty)) (hj0 : ¬ jv < 0) (hM : jv.toNatClampNeg = M) (hbytes : M * componentBytes aty ≤ 536870912) (hcells : n + 1 ≤ (zRm x).cells) (hslots : i + M ≤ (zRm x).slots)
    (d1 : decode cc pc = .ok (.newarray atype, 2)) (d2 : decode cc (pc + 2) = .ok (.putfield index, 3)) (k : ∀ q, zV x (va_up ad u q) (z_up (z_up W u (.inl (cA, a0))) t (.inr (ci, fs.set j (.ref q)))) (n + 1) (i + M) lv (pc + 5) st) : zV x ad (z_up W t (.inr (ci, fs))) n i lv pc (.int jv :: .ref o :: st) := by
  subst hto
  refine z_newa hx hty t0 ht hprim hwA (t := u) (by rw [z_up_n hut]; exact hfree) ha hj0 hM hbytes hcells hslots d1 (fun q => ?_)
  have e : va_up ad u q t = ad t := va_up_ne _ _ (Ne.symm hut)
  rw [← e]
  refine z_putF hx hc (t := t) (fs := fs) (by rw [z_up_n (Ne.symm hut), z_up_s]) j hj hw hfin hinit hdecl (hn q) (hfit q) hlen d2 (ce1 := z_up (z_up W u (.inl (cA, a0))) t (.inr (ci, fs.set j (.ref q)))) (fun v => ?_) (k q)
  by_cases h1 : v = t
  · rw [h1, z_up_s, z_up_s]
  · rw [z_up_n h1, z_up_n h1]
    by_cases h2 : v = u
    · rw [h2, z_up_s, z_up_s]
    · rw [z_up_n h2, z_up_n h2, z_up_n h1]
theorem z_fillN (hx : zOk x cc own TB l D zcls (ztyl K)) {C : String} {T : u_T} {N ci index t u o : Nat} {ty : Nat → FieldType} {fs : List Value} (hc : zCl TB zcls ci C T N ty) (hto : ad t = o) (hut : u ≠ t) (hfree : W u = none) (j : Nat) (hj : j < N) (hw : Cond.fieldLink own index (T j).1 (T j).2.1 (T j).2.2.1 ∈ TB) (hfin : (T j).2.2.2 = false) (hn : ∀ q, narrow (ty j) (.ref q) = .ref q) (hfit : ∀ q, fits (ty j) (.ref q) = true) (hlen : j < fs.length) {atype : ArrayType} {aty : FieldType} (hty : newarray.typeOf atype = aty) (t0 : Nat) {cA : ClassId} (ht : (ztyl K)[t0]? = some (cA, aty)) (hprim : "[" ++ aty.toString ≠ "" ∧ ∀ C, aty ≠ .object C) (hwA : Cond.arrayClass aty ∈ TB) {jv : Int32} {M : Nat} (a0 : vp_A) (ha : ∀ cA : ClassId, vp_cell cA a0 = arrV cA M (fun _ => defaultValue aty)) (hj0 : ¬ jv < 0) (hM : jv.toNatClampNeg = M) (hbytes : M * componentBytes aty ≤ 536870912) (hcells : n + 1 ≤ (zRm x).cells) (hslots : i + M ≤ (zRm x).slots)
    (d1 : decode cc pc = .ok (.newarray atype, 2)) (d2 : decode cc (pc + 2) = .ok (.putfield index, 3)) (k : ∀ q, zV x (va_up ad u q) (z_up (z_up W u (.inl (cA, a0))) t (.inr (ci, fs.set j (.ref q)))) (n + 1) (i + M) lv (pc + 5) st) : zV x ad (z_up W t (.inr (ci, fs))) n i lv pc (.int jv :: .ref o :: st) := by
  subst hto
  refine z_newa hx hty t0 ht hprim hwA (t := u) (by rw [z_up_n hut]; exact hfree) ha hj0 hM hbytes hcells hslots d1 (fun q => ?_)
  have e : va_up ad u q t = ad t := va_up_ne _ _ (Ne.symm hut)
  rw [← e]
  refine z_put hx hc (t := t) (fs := fs) (by rw [z_up_n (Ne.symm hut), z_up_s]) j hj hw hfin (hn q) (hfit q) hlen d2 (ce1 := z_up (z_up W u (.inl (cA, a0))) t (.inr (ci, fs.set j (.ref q)))) (fun v => ?_) (k q)
  by_cases h1 : v = t
  · rw [h1, z_up_s, z_up_s]
  · rw [z_up_n h1, z_up_n h1]
    by_cases h2 : v = u
    · rw [h2, z_up_s, z_up_s]
    · rw [z_up_n h2, z_up_n h2, z_up_n h1]
end ZF
set_option maxRecDepth 20000 in
theorem c_Jo_init {l : Launch} {D : va_G} {K : Nat → ClassId} {ad : Nat → Nat} {W : zW}   : zC l TB D zcls (ztyl K) y_Jo_init (.code y_Jo_init b_Jo_init 1 (none : Option FieldType)) { frames := 1, cells := 0, slots := 0, locals := 40 } [.ref (ad 3)] ad (z_up W 3 (.inr (1, [.int 0, .int 0, .int 0]))) (fun r ad' ce' => r = .inl none ∧ ad' = ad ∧ ce' = z_up W 3 (.inr (1, [.int 0, .int 0, .int 0]))) := by
  refine zC.of (by decide +kernel) (Nat.le_of_ble_eq_true rfl) ?_
  intro x hx hr hml hnm hrm hq hNH
  show zV x ad _ 0 0 [(0, .ref (ad 3))] 0 []
  refine z_aload_n hx 0 d_Jo_init_0 rfl ?_
  refine z_objInit hx a1_56 a1_25 a1_26 (by rw [hrm]; exact Nat.le_of_ble_eq_true rfl) (by rw [hrm]; exact Nat.le_of_ble_eq_true rfl) d_Jo_init_1 ?_
  exact z_vret hx hr hq (Nat.le_refl _) (Nat.le_refl _) d_Jo_init_4 ⟨rfl, rfl, rfl⟩
set_option maxRecDepth 20000 in
theorem c_Pl_init {l : Launch} {D : va_G} {K : Nat → ClassId} {ad : Nat → Nat} {W : zW} {t u : Nat} (hut : u ≠ t) (h0 : W u = none) : zC l TB D zcls (ztyl K) y_Pl_init (.code y_Pl_init b_Pl_init 1 (none : Option FieldType)) { frames := 1, cells := 1, slots := 4, locals := 40 } [.ref (ad t)] ad (z_up W t (.inr (2, [.null, .int 0, .int 0, .int 0]))) (fun r ad' ce' => ∃ q0, r = .inl none ∧ ad' = va_up ad u q0 ∧ ce' = z_up (z_up (W) u (.inl (K 0, 4, .inl (fun _ => 0)))) t (.inr (2, [.ref q0, .int 0, .int 0, .int 0]))) := by
  refine zC.of (by decide +kernel) (Nat.le_of_ble_eq_true rfl) ?_
  intro x hx hr hml hnm hrm hq hNH
  show zV x ad _ 0 0 [(0, .ref (ad t))] 0 []
  refine z_aload_n hx 0 d_Pl_init_0 rfl ?_
  refine z_objInit hx a1_32 a1_25 a1_26 (by rw [hrm]; exact Nat.le_of_ble_eq_true rfl) (by rw [hrm]; exact Nat.le_of_ble_eq_true rfl) d_Pl_init_1 ?_
  refine z_aload_n hx 0 d_Pl_init_4 rfl ?_
  refine z_iconst (v := 4) hx d_Pl_init_5 rfl ?_
  refine z_fill hx k_Pl (t := t) (u := u) rfl (by omega) h0 0 (by decide) a1_33 rfl (hnm.trans rfl) rfl (fun q => rfl) (fun q => rfl) (Nat.le_of_ble_eq_true rfl) (aty := .int) rfl 0 rfl ⟨by decide +kernel, by intro C h; cases h⟩ a1_50 (M := 4) (4, .inl (fun _ => 0)) (fun _ => rfl) (by decide) (by decide) (by decide) (by rw [hrm]; exact Nat.le_of_ble_eq_true rfl) (by rw [hrm]; exact Nat.le_of_ble_eq_true rfl) d_Pl_init_6 d_Pl_init_8 (fun q0 => ?_)
  show zV x (va_up ad u q0) (z_up (z_up (W) u (.inl (K 0, 4, .inl (fun _ => 0)))) t (.inr (2, [.ref q0, .int 0, .int 0, .int 0]))) 1 4 [(0, .ref (ad t))] 11 []
  exact z_vret hx hr hq (Nat.le_refl _) (Nat.le_refl _) d_Pl_init_11 ⟨q0, rfl, rfl, rfl⟩
set_option maxRecDepth 20000 in
theorem c_Sh_init {l : Launch} {D : va_G} {K : Nat → ClassId} {ad : Nat → Nat} {W : zW}  (h0 : W 5 = none) (h1 : W 6 = none) (h2 : W 7 = none) (h3 : W 8 = none) : zC l TB D zcls (ztyl K) y_Sh_init (.code y_Sh_init b_Sh_init 1 (none : Option FieldType)) { frames := 1, cells := 4, slots := 4000, locals := 40 } [.ref (ad 4)] ad (z_up W 4 (.inr (4, [.null, .null, .null, .null]))) (fun r ad' ce' => ∃ q0 q1 q2 q3, r = .inl none ∧ ad' = va_up (va_up (va_up (va_up ad 5 q0) 6 q1) 7 q2) 8 q3 ∧ ce' = z_up (z_up (z_up (z_up (z_up (W) 5 (.inl (K 0, 1000, .inl (fun _ => 0)))) 6 (.inl (K 0, 1000, .inl (fun _ => 0)))) 7 (.inl (K 0, 1000, .inl (fun _ => 0)))) 8 (.inl (K 0, 1000, .inl (fun _ => 0)))) 4 (.inr (4, [.ref q0, .ref q1, .ref q2, .ref q3]))) := by
  refine zC.of (by decide +kernel) (Nat.le_of_ble_eq_true rfl) ?_
  intro x hx hr hml hnm hrm hq hNH
  show zV x ad _ 0 0 [(0, .ref (ad 4))] 0 []
  refine z_aload_n hx 0 d_Sh_init_0 rfl ?_
  refine z_objInit hx a1_74 a1_25 a1_26 (by rw [hrm]; exact Nat.le_of_ble_eq_true rfl) (by rw [hrm]; exact Nat.le_of_ble_eq_true rfl) d_Sh_init_1 ?_
  refine z_aload_n hx 0 d_Sh_init_4 rfl ?_
  refine z_sipush (v := 1000) hx d_Sh_init_5 rfl ?_
  refine z_fill hx k_Sh (t := 4) (u := 5) rfl (by omega) h0 0 (by decide) a1_75 rfl (hnm.trans rfl) rfl (fun q => rfl) (fun q => rfl) (Nat.le_of_ble_eq_true rfl) (aty := .int) rfl 0 rfl ⟨by decide +kernel, by intro C h; cases h⟩ a1_50 (M := 1000) (1000, .inl (fun _ => 0)) (fun _ => rfl) (by decide) (by decide) (by decide) (by rw [hrm]; exact Nat.le_of_ble_eq_true rfl) (by rw [hrm]; exact Nat.le_of_ble_eq_true rfl) d_Sh_init_8 d_Sh_init_10 (fun q0 => ?_)
  show zV x (va_up ad 5 q0) (z_up (z_up (W) 5 (.inl (K 0, 1000, .inl (fun _ => 0)))) 4 (.inr (4, [.ref q0, .null, .null, .null]))) 1 1000 [(0, .ref (ad 4))] 13 []
  refine z_aload_n hx 0 d_Sh_init_13 rfl ?_
  refine z_sipush (v := 1000) hx d_Sh_init_14 rfl ?_
  refine z_fill hx k_Sh (t := 4) (u := 6) ((va_up_ne _ _ (show 4 ≠ 5 by omega)).trans rfl) (by omega) ((z_up_n (show 6 ≠ 5 by omega)).trans h1) 1 (by decide) a1_76 rfl (hnm.trans rfl) rfl (fun q => rfl) (fun q => rfl) (Nat.le_of_ble_eq_true rfl) (aty := .int) rfl 0 rfl ⟨by decide +kernel, by intro C h; cases h⟩ a1_50 (M := 1000) (1000, .inl (fun _ => 0)) (fun _ => rfl) (by decide) (by decide) (by decide) (by rw [hrm]; exact Nat.le_of_ble_eq_true rfl) (by rw [hrm]; exact Nat.le_of_ble_eq_true rfl) d_Sh_init_17 d_Sh_init_19 (fun q1 => ?_)
  show zV x (va_up (va_up ad 5 q0) 6 q1) (z_up (z_up (z_up (W) 5 (.inl (K 0, 1000, .inl (fun _ => 0)))) 6 (.inl (K 0, 1000, .inl (fun _ => 0)))) 4 (.inr (4, [.ref q0, .ref q1, .null, .null]))) 2 2000 [(0, .ref (ad 4))] 22 []
  refine z_aload_n hx 0 d_Sh_init_22 rfl ?_
  refine z_sipush (v := 1000) hx d_Sh_init_23 rfl ?_
  refine z_fill hx k_Sh (t := 4) (u := 7) ((va_up_ne _ _ (show 4 ≠ 6 by omega)).trans ((va_up_ne _ _ (show 4 ≠ 5 by omega)).trans rfl)) (by omega) ((z_up_n (show 7 ≠ 6 by omega)).trans ((z_up_n (show 7 ≠ 5 by omega)).trans h2)) 2 (by decide) a1_77 rfl (hnm.trans rfl) rfl (fun q => rfl) (fun q => rfl) (Nat.le_of_ble_eq_true rfl) (aty := .int) rfl 0 rfl ⟨by decide +kernel, by intro C h; cases h⟩ a1_50 (M := 1000) (1000, .inl (fun _ => 0)) (fun _ => rfl) (by decide) (by decide) (by decide) (by rw [hrm]; exact Nat.le_of_ble_eq_true rfl) (by rw [hrm]; exact Nat.le_of_ble_eq_true rfl) d_Sh_init_26 d_Sh_init_28 (fun q2 => ?_)
  show zV x (va_up (va_up (va_up ad 5 q0) 6 q1) 7 q2) (z_up (z_up (z_up (z_up (W) 5 (.inl (K 0, 1000, .inl (fun _ => 0)))) 6 (.inl (K 0, 1000, .inl (fun _ => 0)))) 7 (.inl (K 0, 1000, .inl (fun _ => 0)))) 4 (.inr (4, [.ref q0, .ref q1, .ref q2, .null]))) 3 3000 [(0, .ref (ad 4))] 31 []
  refine z_aload_n hx 0 d_Sh_init_31 rfl ?_
  refine z_sipush (v := 1000) hx d_Sh_init_32 rfl ?_
  refine z_fill hx k_Sh (t := 4) (u := 8) ((va_up_ne _ _ (show 4 ≠ 7 by omega)).trans ((va_up_ne _ _ (show 4 ≠ 6 by omega)).trans ((va_up_ne _ _ (show 4 ≠ 5 by omega)).trans rfl))) (by omega) ((z_up_n (show 8 ≠ 7 by omega)).trans ((z_up_n (show 8 ≠ 6 by omega)).trans ((z_up_n (show 8 ≠ 5 by omega)).trans h3))) 3 (by decide) a1_78 rfl (hnm.trans rfl) rfl (fun q => rfl) (fun q => rfl) (Nat.le_of_ble_eq_true rfl) (aty := .int) rfl 0 rfl ⟨by decide +kernel, by intro C h; cases h⟩ a1_50 (M := 1000) (1000, .inl (fun _ => 0)) (fun _ => rfl) (by decide) (by decide) (by decide) (by rw [hrm]; exact Nat.le_of_ble_eq_true rfl) (by rw [hrm]; exact Nat.le_of_ble_eq_true rfl) d_Sh_init_35 d_Sh_init_37 (fun q3 => ?_)
  show zV x (va_up (va_up (va_up (va_up ad 5 q0) 6 q1) 7 q2) 8 q3) (z_up (z_up (z_up (z_up (z_up (W) 5 (.inl (K 0, 1000, .inl (fun _ => 0)))) 6 (.inl (K 0, 1000, .inl (fun _ => 0)))) 7 (.inl (K 0, 1000, .inl (fun _ => 0)))) 8 (.inl (K 0, 1000, .inl (fun _ => 0)))) 4 (.inr (4, [.ref q0, .ref q1, .ref q2, .ref q3]))) 4 4000 [(0, .ref (ad 4))] 40 []
  exact z_vret hx hr hq (Nat.le_refl _) (Nat.le_refl _) d_Sh_init_40 ⟨q0, q1, q2, q3, rfl, rfl, rfl⟩
set_option maxRecDepth 20000 in
theorem c_Re_init {l : Launch} {D : va_G} {K : Nat → ClassId} {ad : Nat → Nat} {W : zW} {t u : Nat} (hut : u ≠ t) (h0 : W u = none) : zC l TB D zcls (ztyl K) y_Re_init (.code y_Re_init b_Re_init 1 (none : Option FieldType)) { frames := 1, cells := 1, slots := 24, locals := 40 } [.ref (ad t)] ad (z_up W t (.inr (3, [.null, .int 0, .int 0]))) (fun r ad' ce' => ∃ q0, r = .inl none ∧ ad' = va_up ad u q0 ∧ ce' = z_up (z_up (W) u (.inl (K 0, 24, .inl (fun _ => 0)))) t (.inr (3, [.ref q0, .int 0, .int 0]))) := by
  refine zC.of (by decide +kernel) (Nat.le_of_ble_eq_true rfl) ?_
  intro x hx hr hml hnm hrm hq hNH
  show zV x ad _ 0 0 [(0, .ref (ad t))] 0 []
  refine z_aload_n hx 0 d_Re_init_0 rfl ?_
  refine z_objInit hx a2_72 a1_25 a1_26 (by rw [hrm]; exact Nat.le_of_ble_eq_true rfl) (by rw [hrm]; exact Nat.le_of_ble_eq_true rfl) d_Re_init_1 ?_
  refine z_aload_n hx 0 d_Re_init_4 rfl ?_
  refine z_bipush (v := 24) hx d_Re_init_5 rfl ?_
  refine z_fill hx k_Re (t := t) (u := u) rfl (by omega) h0 0 (by decide) a2_73 rfl (hnm.trans rfl) rfl (fun q => rfl) (fun q => rfl) (Nat.le_of_ble_eq_true rfl) (aty := .int) rfl 0 rfl ⟨by decide +kernel, by intro C h; cases h⟩ a1_50 (M := 24) (24, .inl (fun _ => 0)) (fun _ => rfl) (by decide) (by decide) (by decide) (by rw [hrm]; exact Nat.le_of_ble_eq_true rfl) (by rw [hrm]; exact Nat.le_of_ble_eq_true rfl) d_Re_init_7 d_Re_init_9 (fun q0 => ?_)
  show zV x (va_up ad u q0) (z_up (z_up (W) u (.inl (K 0, 24, .inl (fun _ => 0)))) t (.inr (3, [.ref q0, .int 0, .int 0]))) 1 24 [(0, .ref (ad t))] 12 []
  exact z_vret hx hr hq (Nat.le_refl _) (Nat.le_refl _) d_Re_init_12 ⟨q0, rfl, rfl, rfl⟩
