section ZB
variable {x : zX} {cc : ByteArray} {own : String} {l : Launch} {D : va_G} {K : Nat → ClassId} {ad : Nat → Nat} {S S' : zSt} {n i pc mc ms : Nat} {lv : List (Nat × Value)} {st : List Value} {post : zQ}
theorem z_cVa (hx : zOk x cc own TB l D zcls (ztyl K)) {index na t ci N M f w s : Nat} {y : MethodName} {cb : ByteArray} {maxL : Nat} {ret : Option FieldType} {As : List Value} {v : Option Value} {T : u_T} {ty : Nat → FieldType} {fs : List Value} (hM : zC l TB D zcls (ztyl K) y (.code y cb maxL ret) (rma M f w) (.ref (ad t) :: As) ad (Lay K ad S) (zPa K ad s v S')) (hc : zCl TB zcls ci y.cls T N ty) (he : Lay K ad S t = some (.inr (ci, fs)))
    (hg : zWc TB y cb maxL ret na (Cond.methodLink own index y)) (hi : Cond.instanceMethod y ∈ TB) (hse : Cond.selects y.cls y y ∈ TB) (hlen : As.length = na) {st0 : List Value} (hst0 : As.reverse ++ .ref (ad t) :: st = st0) (hd : decode cc pc = .ok (.invokevirtual index, 3))
    (hR : f + 1 ≤ (zRm x).frames ∧ (st.map fun v => v.category).sum + (maxL + 11) + w ≤ (zRm x).locals ∧ n + 1 ≤ (zRm x).cells ∧ i + M ≤ (zRm x).slots) (k : ∀ ad', zAg s ad ad' → zV x ad' (Lay K ad' S') (n + 1) (i + M) lv (pc + 3) (v.toList ++ st)) : zV x ad (Lay K ad S) n i lv pc st0 :=
  z_retV hx hc he hM hg hi hse hlen hst0 hd hR (fun E ad' ce' h => by cases h.1) (fun v' ad' ce' h => by
    obtain ⟨h1, h2, rfl⟩ := h
    cases h1
    exact k ad' h2)
end ZB
theorem mkS_n {S : zSt} {s w u : Nat} (h : u ≠ 60 + s) : (mkS S s w).2.2 u = S.2.2 u := by
  unfold mkS
  by_cases q : S.1 (60 + s) < w
  · rw [if_pos q, grS_n h]
  · rw [if_neg q]
theorem mkS_L {S : zSt} {s w : Nat} : (mkS S s w).2.1 = S.2.1 := by
  unfold mkS
  by_cases q : S.1 (60 + s) < w
  · rw [if_pos q]; rfl
  · rw [if_neg q]
theorem mkS_len {S : zSt} {s w : Nat} : w ≤ (mkS S s w).1 (60 + s) ∧ (mkS S s w).1 (60 + s) ≤ max (S.1 (60 + s)) (max w (2 * S.1 (60 + s))) ∧ S.1 (60 + s) ≤ (mkS S s w).1 (60 + s) := by
  unfold mkS
  by_cases q : S.1 (60 + s) < w
  · rw [if_pos q]
    have e : (grS S s (max w (2 * S.1 (60 + s)))).1 (60 + s) = max w (2 * S.1 (60 + s)) := if_pos rfl
    rw [e]
    omega
  · rw [if_neg q]
    omega
theorem mkS_1n {S : zSt} {s w u : Nat} (h : u ≠ 60 + s) : (mkS S s w).1 u = S.1 u := by
  unfold mkS
  by_cases q : S.1 (60 + s) < w
  · rw [if_pos q]; exact if_neg h
  · rw [if_neg q]
/-- the old entries stay -/
theorem mkS_old {S : zSt} {s w q : Nat} (h : q < S.1 (60 + s)) : (mkS S s w).2.2 (60 + s) q = S.2.2 (60 + s) q := by
  unfold mkS
  by_cases c : S.1 (60 + s) < w
  · rw [if_pos c]
    have e : (grS S s (max w (2 * S.1 (60 + s)))).2.2 (60 + s) = cpS S s := if_pos rfl
    rw [e, cpS, pk_cpy_in (Nat.zero_le _) (by omega), Nat.zero_add, Nat.sub_zero]
  · rw [if_neg c]
/-- the next block, built and shuffled -/
def bdS (S : zSt) (s B Z A : Nat) (e : Nat → Nat) : zSt := stM (shD (40 + s) 4 (60 + s) (B * Z) Z (laS (60 + s) (B * Z) e (mkS S s (B * Z + Z)) A) (Z - 1)) (40 + s) 5 (nI (B + 1))
theorem bdS_n {S : zSt} {s B Z A : Nat} {e : Nat → Nat} {u : Nat} (h1 : u ≠ 60 + s) (h2 : u ≠ 40 + s) : (bdS S s B Z A e).2.2 u = S.2.2 u := by
  unfold bdS
  rw [stM_n h2, shD_n h1, laS_n h1, mkS_n h1]
theorem bdS_j {S : zSt} {s B Z A j : Nat} {e : Nat → Nat} (h : j ≠ 5) : (bdS S s B Z A e).2.2 (40 + s) j = S.2.2 (40 + s) j := by
  unfold bdS
  rw [rd_j h, shD_n (by omega), laS_n (by omega), mkS_n (by omega)]
theorem bdS_5 {S : zSt} {s B Z A : Nat} {e : Nat → Nat} : (bdS S s B Z A e).2.2 (40 + s) 5 = nI (B + 1) := rd_s
theorem bdS_1 {S : zSt} {s B Z A : Nat} {e : Nat → Nat} : (bdS S s B Z A e).1 = (mkS S s (B * Z + Z)).1 := by
  unfold bdS
  show (shD _ _ _ _ _ _ _).1 = _
  rw [shD_1, laS_1]
def ahS (S : zSt) (s T B Z A : Nat) (e : Nat → Nat) : zSt := if T = B then bdS S s B Z A e else S
set_option maxRecDepth 20000 in
theorem c_St_build {l : Launch} {D : va_G} {K : Nat → ClassId} {ad : Nat → Nat} {S : zSt} {s : Nat} (hs : s < 8) (hg : S.1 (40 + s) = 1) {A B Z M : Nat} (hB : S.2.2 (40 + s) 5 = nI B) (hZ : S.2.2 1 3 = nI Z) (hZ1 : 1 ≤ Z) (hZ2 : Z ≤ 24) (hA : S.2.2 1 1 = nI A) (hA4 : A ≤ 4) {e : Nat → Nat} (he : ∀ a, a < A → (if 0 < S.2.2 1 2 then S.2.2 2 a * (S.2.2 1 3 / S.2.2 1 2) else 0) = nI (e a)) (hsE : sE e A = Z) (hL : S.1 (60 + s) ≤ 24576) (hB5 : B < 512) (hM : S.1 (60 + s) < B * Z + Z → max (B * Z + Z) (2 * S.1 (60 + s)) ≤ M) : zC l TB D zcls (ztyl K) y_St_build (.code y_St_build b_St_build 2 (none : Option FieldType)) (rma M 4 81) [.ref (ad (40 + s))] ad (Lay K ad S) (zPa K ad s none (bdS S s B Z A e)) := by
  refine zC.of (by decide +kernel) (Nat.le_of_ble_eq_true rfl) ?_
  intro x hx hr hml hnm hrm hq hNH
  have hbz : B * Z ≤ 511 * 24 := Nat.mul_le_mul (by omega) hZ2
  show zV x ad (Lay K ad S) 0 0 [(0, .ref (ad (40 + s)))] 0 []
  refine z_aload_n hx 0 d_St_build_0 rfl ?_
  refine z_get hx k_St (t := 40 + s) (Lay_StT (S := S) hs hg) 5 (by decide) a1_104 rfl d_St_build_1 ?_
  refine z_top (b := nI B) hB ?_
  refine z_sipush (v := 512) hx d_St_build_4 rfl ?_
  refine z_icmp_lt (tgt := 11) hx d_St_build_7 (by decide) (fun _ => ?_) (fun h => absurd (nI_ltL 512 rfl hB5 (by decide)) h)
  refine z_aload_n hx 0 d_St_build_11 rfl ?_
  refine z_get hx k_St (t := 40 + s) (Lay_StT (S := S) hs hg) 5 (by decide) a1_104 rfl d_St_build_12 ?_
  refine z_top (b := nI B) hB ?_
  refine z_aload_n hx 0 d_St_build_15 rfl ?_
  refine z_get hx k_St (t := 40 + s) (Lay_StT (S := S) hs hg) 2 (by decide) a1_101 rfl d_St_build_16 ?_
  refine z_getN hx k_Pl (t := 1) rfl 3 (by decide) a1_39 rfl d_St_build_19 ?_
  refine z_top (b := nI Z) hZ ?_
  refine z_imul hx d_St_build_22 ?_
  refine z_top (b := nI (B * Z)) (pk_mul _ _) ?_
  refine z_istore_n hx [(1, .int (nI (B * Z))), (0, .ref (ad (40 + s)))] d_St_build_23 rfl (zN hml (by decide)) rfl ?_
  refine z_aload_n hx 1 d_St_build_24 rfl ?_
  refine z_iload_n hx 0 d_St_build_25 rfl ?_
  refine z_aload_n hx 1 d_St_build_26 rfl ?_
  refine z_get hx k_St (t := 40 + s) (Lay_StT (S := S) hs hg) 2 (by decide) a1_101 rfl d_St_build_27 ?_
  refine z_getN hx k_Pl (t := 1) rfl 3 (by decide) a1_39 rfl d_St_build_30 ?_
  refine z_top (b := nI Z) hZ ?_
  refine z_iadd hx d_St_build_33 ?_
  refine z_top (b := nI (B * Z + Z)) (nI_add _ _) ?_
  refine z_cVa hx (c_St_makeRoom hs (by omega) hL hM) k_St (Lay_StT (S := S) hs hg) ⟨a2_181, a2_184, a1_5, ⟨by decide +kernel, by decide +kernel⟩, fun sig h => by cases h; rfl⟩ a2_183 s_St_makeRoom rfl rfl d_St_build_34 (by rw [hrm]; exact ⟨Nat.le_of_ble_eq_true rfl, Nat.le_of_ble_eq_true rfl, Nat.le_of_ble_eq_true rfl, Nat.le_of_eq (Nat.zero_add _)⟩) (fun ad1 hag => ?_)
  show zV x ad1 (Lay K ad1 (mkS S s (B * Z + Z))) (0 + 1) (0 + M) [(1, .int (nI (B * Z))), (0, .ref (ad (40 + s)))] 37 []
  rw [← hag (40 + s) (by omega)]
  refine z_aload_n hx 1 d_St_build_37 rfl ?_
  refine z_iload_n hx 0 d_St_build_38 rfl ?_
  refine z_cV hx (c_St_layArms hs (by rw [mkS_1n (by omega)]; exact hg) (by rw [mkS_n (by omega)]; exact hA) hA4 (e := e) (fun a ha => by rw [mkS_n (by omega), mkS_n (by omega)]; exact he a ha) (by have := (mkS_len (S := S) (s := s) (w := B * Z + Z)).1; rw [hsE]; exact this) (by have := (mkS_len (S := S) (s := s) (w := B * Z + Z)).2.1; omega)) k_St (Lay_StT (S := mkS S s (B * Z + Z)) hs (by show (mkS _ _ _).1 _ = 1; rw [mkS_1n (by omega)]; exact hg)) ⟨a2_204, a2_207, a1_5, ⟨by decide +kernel, by decide +kernel⟩, fun sig h => by cases h; rfl⟩ a2_206 s_St_layArms rfl rfl d_St_build_39 (by rw [hrm]; exact ⟨Nat.le_of_ble_eq_true rfl, Nat.le_of_ble_eq_true rfl, Nat.le_of_ble_eq_true rfl, Nat.le_of_eq (Nat.zero_add _)⟩) ?_
  show zV x ad1 (Lay K ad1 (laS (60 + s) (B * Z) e (mkS S s (B * Z + Z)) A)) _ _ _ 42 []
  refine z_aload_n hx 1 d_St_build_42 rfl ?_
  refine z_iload_n hx 0 d_St_build_43 rfl ?_
  refine z_cV hx (c_St_shuffle hs (by rw [laS_1, mkS_1n (by omega)]; exact hg) (by rw [laS_n (by omega), mkS_n (by omega)]; exact hZ) hZ1 hZ2 (by rw [laS_1]; exact (mkS_len (S := S) (s := s) (w := B * Z + Z)).1) (by rw [laS_1]; have := (mkS_len (S := S) (s := s) (w := B * Z + Z)).2.1; omega)) k_St (Lay_StT (S := laS (60 + s) (B * Z) e (mkS S s (B * Z + Z)) A) hs (by show (laS _ _ _ _ _).1 _ = 1; rw [laS_1, mkS_1n (by omega)]; exact hg)) ⟨a2_216, a2_219, a1_5, ⟨by decide +kernel, by decide +kernel⟩, fun sig h => by cases h; rfl⟩ a2_218 s_St_shuffle rfl rfl d_St_build_44 (by rw [hrm]; exact ⟨Nat.le_of_ble_eq_true rfl, Nat.le_of_ble_eq_true rfl, Nat.le_of_ble_eq_true rfl, Nat.le_of_eq (Nat.zero_add _)⟩) ?_
  show zV x ad1 (Lay K ad1 (shD (40 + s) 4 (60 + s) (B * Z) Z (laS (60 + s) (B * Z) e (mkS S s (B * Z + Z)) A) (Z - 1))) _ _ _ 47 []
  refine z_aload_n hx 1 d_St_build_47 rfl ?_
  refine z_dup hx d_St_build_48 rfl ?_
  refine z_get hx k_St (t := 40 + s) (Lay_StT (S := shD (40 + s) 4 (60 + s) (B * Z) Z (laS (60 + s) (B * Z) e (mkS S s (B * Z + Z)) A) (Z - 1)) hs (by show (shD _ _ _ _ _ _ _).1 _ = 1; rw [shD_1, laS_1, mkS_1n (by omega)]; exact hg)) 5 (by decide) a1_104 rfl d_St_build_49 ?_
  refine z_top (b := nI B) (by rw [shD_n (by omega), laS_n (by omega), mkS_n (by omega)]; exact hB) ?_
  refine z_iconst (v := 1) hx d_St_build_52 rfl ?_
  refine z_iadd hx d_St_build_53 ?_
  refine z_top (b := nI (B + 1)) (nI_1 B) ?_
  refine z_put hx k_St (t := 40 + s) (Lay_St hs) 5 (by decide) a1_104 rfl rfl rfl (Nat.le_of_ble_eq_true rfl) d_St_build_54 (ce1 := Lay K ad1 (stM (shD (40 + s) 4 (60 + s) (B * Z) Z (laS (60 + s) (B * Z) e (mkS S s (B * Z + Z)) A) (Z - 1)) (40 + s) 5 (nI (B + 1)))) (put_St5 hs) ?_
  exact z_vret hx hr hq (Nat.le_of_eq (Nat.zero_add _)) (Nat.le_of_eq (Nat.zero_add _)) d_St_build_57 ⟨rfl, hag, rfl⟩
set_option maxRecDepth 20000 in
theorem c_St_armAhead {l : Launch} {D : va_G} {K : Nat → ClassId} {ad : Nat → Nat} {S : zSt} {s : Nat} (hs : s < 8) (hg : S.1 (40 + s) = 1) {q T A B Z M : Nat} (hq0 : q < Z) (hB : S.2.2 (40 + s) 5 = nI B) (hZ : S.2.2 1 3 = nI Z) (hZ1 : 1 ≤ Z) (hZ2 : Z ≤ 24) (hA : S.2.2 1 1 = nI A) (hA4 : A ≤ 4) {e : Nat → Nat} (he : ∀ a, a < A → (if 0 < S.2.2 1 2 then S.2.2 2 a * (S.2.2 1 3 / S.2.2 1 2) else 0) = nI (e a)) (hsE : sE e A = Z) (hL : S.1 (60 + s) ≤ 24576) (hT : S.2.2 (40 + s) 6 = nI T) (hTB : B = T ∨ B = T + 1) (hT5 : T < 512) (hlen : B = T + 1 → (T + 1) * Z ≤ S.1 (60 + s)) (hM : S.1 (60 + s) < B * Z + Z → max (B * Z + Z) (2 * S.1 (60 + s)) ≤ M) : zC l TB D zcls (ztyl K) y_St_armAhead (.code y_St_armAhead b_St_armAhead 2 (some FieldType.int)) (rma M 5 102) [.ref (ad (40 + s)), .int (nI q)] ad (Lay K ad S) (zPa K ad s (some (.int ((ahS S s T B Z A e).2.2 (60 + s) (T * Z + q)))) (ahS S s T B Z A e)) := by
  refine zC.of (by decide +kernel) (Nat.le_of_ble_eq_true rfl) ?_
  intro x hx hr hml hnm hrm hq hNH
  have htz : T * Z ≤ 511 * 24 := Nat.mul_le_mul (by omega) hZ2
  have hbz : B * Z ≤ 512 * 24 := Nat.mul_le_mul (by omega) hZ2
  show zV x ad (Lay K ad S) 0 0 [(0, .ref (ad (40 + s))), (1, .int (nI q))] 0 []
  refine z_aload_n hx 0 d_St_armAhead_0 rfl ?_
  refine z_get hx k_St (t := 40 + s) (Lay_StT (S := S) hs hg) 6 (by decide) a1_105 rfl d_St_armAhead_1 ?_
  refine z_top (b := nI T) hT ?_
  refine z_aload_n hx 0 d_St_armAhead_4 rfl ?_
  refine z_get hx k_St (t := 40 + s) (Lay_StT (S := S) hs hg) 5 (by decide) a1_104 rfl d_St_armAhead_5 ?_
  refine z_top (b := nI B) hB ?_
  refine z_icmp_ne (tgt := 15) hx d_St_armAhead_8 (by decide) (fun h1 => ?_) (fun h1 => ?_)
  · have hTBn : ¬ T = B := fun z => h1 ((nI_eq (by omega) (by omega)).mpr z)
    refine z_aload_n hx 0 d_St_armAhead_15 rfl ?_
    refine z_aload_n hx 0 d_St_armAhead_16 rfl ?_
    refine z_get hx k_St (t := 40 + s) (Lay_StT (S := S) hs hg) 6 (by decide) a1_105 rfl d_St_armAhead_17 ?_
    refine z_top (b := nI T) hT ?_
    refine z_aload_n hx 0 d_St_armAhead_20 rfl ?_
    refine z_get hx k_St (t := 40 + s) (Lay_StT (S := S) hs hg) 2 (by decide) a1_101 rfl d_St_armAhead_21 ?_
    refine z_getN hx k_Pl (t := 1) rfl 3 (by decide) a1_39 rfl d_St_armAhead_24 ?_
    refine z_top (b := nI Z) hZ ?_
    refine z_imul hx d_St_armAhead_27 ?_
    refine z_top (b := nI (T * Z)) (pk_mul _ _) ?_
    refine z_iload_n hx 1 d_St_armAhead_28 rfl ?_
    refine z_iadd hx d_St_armAhead_29 ?_
    refine z_top (b := nI (T * Z + q)) (nI_add _ _) ?_
    refine z_cV hx (c_St_armAt hs hg hB hZ (by have : B * Z ≤ 512 * 24 := Nat.mul_le_mul (by omega) hZ2; omega) (by omega) (by omega)) k_St (Lay_StT (S := S) hs hg) ⟨a2_169, a2_172, a1_5, ⟨by decide +kernel, by decide +kernel⟩, fun sig h => by cases h; rfl⟩ a2_171 s_St_armAt rfl rfl d_St_armAhead_30 (by rw [hrm]; exact ⟨Nat.le_of_ble_eq_true rfl, Nat.le_of_ble_eq_true rfl, Nat.le_of_ble_eq_true rfl, Nat.zero_le _⟩) ?_
    show zV x ad (Lay K ad S) _ _ _ 33 [.int (if T * Z + q < B * Z ∧ T * Z + q < S.1 (60 + s) then S.2.2 (60 + s) (T * Z + q) else -1)]
    refine z_top (b := (ahS S s T B Z A e).2.2 (60 + s) (T * Z + q)) (by have hBT : B = T + 1 := hTB.resolve_left (fun z => hTBn z.symm); have hl := hlen hBT; have e9 : (T + 1) * Z = T * Z + Z := Nat.succ_mul T Z; rw [ahS, if_neg hTBn, if_pos ⟨by rw [hBT, e9]; omega, by omega⟩]) ?_
    exact z_iret hx hr rfl hq (Nat.zero_le _) (Nat.zero_le _) d_St_armAhead_33 ⟨rfl, fun t h => rfl, by rw [ahS, if_neg hTBn]⟩
  · have hTBe : T = B := (nI_eq (by omega) (by omega)).mp h1
    refine z_aload_n hx 0 d_St_armAhead_11 rfl ?_
    refine z_cVa hx (c_St_build hs hg hB hZ hZ1 hZ2 hA hA4 he hsE hL (by omega) hM) k_St (Lay_StT (S := S) hs hg) ⟨a2_177, a2_180, a1_5, ⟨by decide +kernel, by decide +kernel⟩, fun sig h => by cases h; rfl⟩ a2_179 s_St_build rfl rfl d_St_armAhead_12 (by rw [hrm]; exact ⟨Nat.le_of_ble_eq_true rfl, Nat.le_of_ble_eq_true rfl, Nat.le_of_ble_eq_true rfl, Nat.le_of_eq (Nat.zero_add _)⟩) (fun ad1 hag => ?_)
    show zV x ad1 (Lay K ad1 (bdS S s B Z A e)) (0 + 1) (0 + M) [(0, .ref (ad (40 + s))), (1, .int (nI q))] 15 []
    rw [← hag (40 + s) (by omega)]
    refine z_aload_n hx 0 d_St_armAhead_15 rfl ?_
    refine z_aload_n hx 0 d_St_armAhead_16 rfl ?_
    refine z_get hx k_St (t := 40 + s) (Lay_StT (S := bdS S s B Z A e) hs (by show (bdS _ _ _ _ _ _).1 _ = 1; rw [bdS_1, mkS_1n (by omega)]; exact hg)) 6 (by decide) a1_105 rfl d_St_armAhead_17 ?_
    refine z_top (b := nI T) (by rw [bdS_j (by decide)]; exact hT) ?_
    refine z_aload_n hx 0 d_St_armAhead_20 rfl ?_
    refine z_get hx k_St (t := 40 + s) (Lay_StT (S := bdS S s B Z A e) hs (by show (bdS _ _ _ _ _ _).1 _ = 1; rw [bdS_1, mkS_1n (by omega)]; exact hg)) 2 (by decide) a1_101 rfl d_St_armAhead_21 ?_
    refine z_getN hx k_Pl (t := 1) rfl 3 (by decide) a1_39 rfl d_St_armAhead_24 ?_
    refine z_top (b := nI Z) (by rw [bdS_n (by omega) (by omega)]; exact hZ) ?_
    refine z_imul hx d_St_armAhead_27 ?_
    refine z_top (b := nI (T * Z)) (pk_mul _ _) ?_
    refine z_iload_n hx 1 d_St_armAhead_28 rfl ?_
    refine z_iadd hx d_St_armAhead_29 ?_
    refine z_top (b := nI (T * Z + q)) (nI_add _ _) ?_
    refine z_cV hx (c_St_armAt (S := bdS S s B Z A e) (B := B + 1) (Z := Z) hs (by rw [bdS_1, mkS_1n (by omega)]; exact hg) bdS_5 (by rw [bdS_n (by omega) (by omega)]; exact hZ) (by have : (B + 1) * Z ≤ 512 * 24 := Nat.mul_le_mul (by omega) hZ2; omega) (by omega) (by rw [bdS_1]; have := (mkS_len (S := S) (s := s) (w := B * Z + Z)).2.1; omega)) k_St (Lay_StT (S := bdS S s B Z A e) hs (by show (bdS _ _ _ _ _ _).1 _ = 1; rw [bdS_1, mkS_1n (by omega)]; exact hg)) ⟨a2_169, a2_172, a1_5, ⟨by decide +kernel, by decide +kernel⟩, fun sig h => by cases h; rfl⟩ a2_171 s_St_armAt rfl rfl d_St_armAhead_30 (by rw [hrm]; exact ⟨Nat.le_of_ble_eq_true rfl, Nat.le_of_ble_eq_true rfl, Nat.le_of_ble_eq_true rfl, Nat.le_of_eq (Nat.zero_add _)⟩) ?_
    show zV x ad1 (Lay K ad1 (bdS S s B Z A e)) _ _ _ 33 [.int (if T * Z + q < (B + 1) * Z ∧ T * Z + q < (bdS S s B Z A e).1 (60 + s) then (bdS S s B Z A e).2.2 (60 + s) (T * Z + q) else -1)]
    refine z_top (b := (ahS S s T B Z A e).2.2 (60 + s) (T * Z + q)) (by rw [ahS, if_pos hTBe, if_pos ⟨by rw [Nat.succ_mul]; rw [hTBe]; omega, by rw [bdS_1]; have := (mkS_len (S := S) (s := s) (w := B * Z + Z)).1; rw [hTBe]; omega⟩]) ?_
    exact z_iret hx hr rfl hq (Nat.le_of_eq (Nat.zero_add _)) (Nat.le_of_eq (Nat.zero_add _)) d_St_armAhead_33 ⟨rfl, hag, by rw [ahS, if_pos hTBe]⟩
