theorem w_86 : zWt TB R_TD 86 88 "java/lang/IndexOutOfBoundsException" := by
  refine ⟨by decide +kernel, by decide +kernel, by decide +kernel, by decide +kernel, by decide +kernel⟩
theorem w_57 : zWt TB R_TD 57 59 "java/lang/IllegalArgumentException" := by
  refine ⟨by decide +kernel, by decide +kernel, by decide +kernel, by decide +kernel, by decide +kernel⟩
theorem w_64 : zWt TB R_TD 64 66 "java/lang/IllegalStateException" := by
  refine ⟨by decide +kernel, by decide +kernel, by decide +kernel, by decide +kernel, by decide +kernel⟩
set_option maxRecDepth 20000 in
theorem c_TD_needKit {l : Launch} {D : va_G} {K : Nat → ClassId} {ad : Nat → Nat} {S : zSt} {k : Nat} (hk : k < 1000) : zC l TB D zcls (ztyl K) y_TD_needKit (.code y_TD_needKit b_TD_needKit 1 (none : Option FieldType)) (rmk 0 0) [.int (nI k)] ad (Lay K ad S) (zP K ad none S) := by
  refine zC.of (by decide +kernel) (Nat.le_of_ble_eq_true rfl) ?_
  intro x hx hr hml hnm hrm hq hNH
  show zV x ad (Lay K ad S) 0 0 [(0, .int (nI k))] 0 []
  refine z_iload_n hx 0 d_TD_needKit_0 rfl ?_
  refine z_if_lt (tgt := 11) hx d_TD_needKit_1 (by decide) (fun h => absurd h (nI_pos (by omega))) (fun _ => ?_)
  refine z_iload_n hx 0 d_TD_needKit_4 rfl ?_
  refine z_sipush (v := 1000) hx d_TD_needKit_5 rfl ?_
  refine z_icmp_lt (tgt := 19) hx d_TD_needKit_8 (by decide) (fun _ => ?_) (fun h => absurd (nI_ltL 1000 rfl hk (by decide)) h)
  exact z_vret hx hr hq (Nat.le_refl _) (Nat.le_refl _) d_TD_needKit_19 ⟨rfl, rfl, rfl⟩
set_option maxRecDepth 20000 in
theorem x_TD_needKit {l : Launch} (htr : l.stackTraces = false) {D : va_G} {K : Nat → ClassId} {ad : Nat → Nat} {S : zSt} {v : Int32} (hv : v < 0 ∨ ¬ v < 1000) : zC l TB D zcls (ztyl K) y_TD_needKit (.code y_TD_needKit b_TD_needKit 1 (none : Option FieldType)) (rmx 6 90) [.int v] ad (Lay K ad S) (zX0 K ad "java/lang/IndexOutOfBoundsException" S) := by
  refine zC.of (by decide +kernel) (Nat.le_of_ble_eq_true rfl) ?_
  intro x hx hr hml hnm hrm hq hNH
  show zV x ad (Lay K ad S) 0 0 [(0, .int v)] 0 []
  refine z_iload_n hx 0 d_TD_needKit_0 rfl ?_
  refine z_if_lt (tgt := 11) hx d_TD_needKit_1 (by decide) (fun h1 => ?_) (fun h1 => ?_)
  · exact z_throw hx htr (ik := 86) (ic := 88) w_86 hq (Nat.le_refl _) (Nat.le_refl _) hNH (by rw [hrm]; exact ⟨Nat.le_of_ble_eq_true rfl, Nat.le_of_ble_eq_true rfl, Nat.le_of_ble_eq_true rfl, Nat.le_of_ble_eq_true rfl⟩) d_TD_needKit_11 d_TD_needKit_14 d_TD_needKit_15 d_TD_needKit_18 ⟨rfl, rfl, rfl⟩
  · refine z_iload_n hx 0 d_TD_needKit_4 rfl ?_
    refine z_sipush (v := 1000) hx d_TD_needKit_5 rfl ?_
    refine z_icmp_lt (tgt := 19) hx d_TD_needKit_8 (by decide) (fun h => absurd h (hv.resolve_left h1)) (fun _ => ?_)
    exact z_throw hx htr (ik := 86) (ic := 88) w_86 hq (Nat.le_refl _) (Nat.le_refl _) hNH (by rw [hrm]; exact ⟨Nat.le_of_ble_eq_true rfl, Nat.le_of_ble_eq_true rfl, Nat.le_of_ble_eq_true rfl, Nat.le_of_ble_eq_true rfl⟩) d_TD_needKit_11 d_TD_needKit_14 d_TD_needKit_15 d_TD_needKit_18 ⟨rfl, rfl, rfl⟩
set_option maxRecDepth 20000 in
theorem c_TD_needPerson {l : Launch} {D : va_G} {K : Nat → ClassId} {ad : Nat → Nat} {S : zSt} {k : Nat} (hk : k < 100) : zC l TB D zcls (ztyl K) y_TD_needPerson (.code y_TD_needPerson b_TD_needPerson 1 (none : Option FieldType)) (rmk 0 0) [.int (nI k)] ad (Lay K ad S) (zP K ad none S) := by
  refine zC.of (by decide +kernel) (Nat.le_of_ble_eq_true rfl) ?_
  intro x hx hr hml hnm hrm hq hNH
  show zV x ad (Lay K ad S) 0 0 [(0, .int (nI k))] 0 []
  refine z_iload_n hx 0 d_TD_needPerson_0 rfl ?_
  refine z_if_lt (tgt := 10) hx d_TD_needPerson_1 (by decide) (fun h => absurd h (nI_pos (by omega))) (fun _ => ?_)
  refine z_iload_n hx 0 d_TD_needPerson_4 rfl ?_
  refine z_bipush (v := 100) hx d_TD_needPerson_5 rfl ?_
  refine z_icmp_lt (tgt := 18) hx d_TD_needPerson_7 (by decide) (fun _ => ?_) (fun h => absurd (nI_ltL 100 rfl hk (by decide)) h)
  exact z_vret hx hr hq (Nat.le_refl _) (Nat.le_refl _) d_TD_needPerson_18 ⟨rfl, rfl, rfl⟩
set_option maxRecDepth 20000 in
theorem x_TD_needPerson {l : Launch} (htr : l.stackTraces = false) {D : va_G} {K : Nat → ClassId} {ad : Nat → Nat} {S : zSt} {v : Int32} (hv : v < 0 ∨ ¬ v < 100) : zC l TB D zcls (ztyl K) y_TD_needPerson (.code y_TD_needPerson b_TD_needPerson 1 (none : Option FieldType)) (rmx 6 90) [.int v] ad (Lay K ad S) (zX0 K ad "java/lang/IndexOutOfBoundsException" S) := by
  refine zC.of (by decide +kernel) (Nat.le_of_ble_eq_true rfl) ?_
  intro x hx hr hml hnm hrm hq hNH
  show zV x ad (Lay K ad S) 0 0 [(0, .int v)] 0 []
  refine z_iload_n hx 0 d_TD_needPerson_0 rfl ?_
  refine z_if_lt (tgt := 10) hx d_TD_needPerson_1 (by decide) (fun h1 => ?_) (fun h1 => ?_)
  · exact z_throw hx htr (ik := 86) (ic := 88) w_86 hq (Nat.le_refl _) (Nat.le_refl _) hNH (by rw [hrm]; exact ⟨Nat.le_of_ble_eq_true rfl, Nat.le_of_ble_eq_true rfl, Nat.le_of_ble_eq_true rfl, Nat.le_of_ble_eq_true rfl⟩) d_TD_needPerson_10 d_TD_needPerson_13 d_TD_needPerson_14 d_TD_needPerson_17 ⟨rfl, rfl, rfl⟩
  · refine z_iload_n hx 0 d_TD_needPerson_4 rfl ?_
    refine z_bipush (v := 100) hx d_TD_needPerson_5 rfl ?_
    refine z_icmp_lt (tgt := 18) hx d_TD_needPerson_7 (by decide) (fun h => absurd h (hv.resolve_left h1)) (fun _ => ?_)
    exact z_throw hx htr (ik := 86) (ic := 88) w_86 hq (Nat.le_refl _) (Nat.le_refl _) hNH (by rw [hrm]; exact ⟨Nat.le_of_ble_eq_true rfl, Nat.le_of_ble_eq_true rfl, Nat.le_of_ble_eq_true rfl, Nat.le_of_ble_eq_true rfl⟩) d_TD_needPerson_10 d_TD_needPerson_13 d_TD_needPerson_14 d_TD_needPerson_17 ⟨rfl, rfl, rfl⟩
set_option maxRecDepth 20000 in
theorem c_TD_needHolder {l : Launch} {D : va_G} {K : Nat → ClassId} {ad : Nat → Nat} {S : zSt} {k : Nat} (hk : k < 5) : zC l TB D zcls (ztyl K) y_TD_needHolder (.code y_TD_needHolder b_TD_needHolder 1 (none : Option FieldType)) (rmk 0 0) [.int (nI k)] ad (Lay K ad S) (zP K ad none S) := by
  refine zC.of (by decide +kernel) (Nat.le_of_ble_eq_true rfl) ?_
  intro x hx hr hml hnm hrm hq hNH
  show zV x ad (Lay K ad S) 0 0 [(0, .int (nI k))] 0 []
  refine z_iload_n hx 0 d_TD_needHolder_0 rfl ?_
  refine z_if_lt (tgt := 9) hx d_TD_needHolder_1 (by decide) (fun h => absurd h (nI_pos (by omega))) (fun _ => ?_)
  refine z_iload_n hx 0 d_TD_needHolder_4 rfl ?_
  refine z_iconst (v := 5) hx d_TD_needHolder_5 rfl ?_
  refine z_icmp_lt (tgt := 17) hx d_TD_needHolder_6 (by decide) (fun _ => ?_) (fun h => absurd (nI_ltL 5 rfl hk (by decide)) h)
  exact z_vret hx hr hq (Nat.le_refl _) (Nat.le_refl _) d_TD_needHolder_17 ⟨rfl, rfl, rfl⟩
set_option maxRecDepth 20000 in
theorem x_TD_needHolder {l : Launch} (htr : l.stackTraces = false) {D : va_G} {K : Nat → ClassId} {ad : Nat → Nat} {S : zSt} {v : Int32} (hv : v < 0 ∨ ¬ v < 5) : zC l TB D zcls (ztyl K) y_TD_needHolder (.code y_TD_needHolder b_TD_needHolder 1 (none : Option FieldType)) (rmx 6 90) [.int v] ad (Lay K ad S) (zX0 K ad "java/lang/IndexOutOfBoundsException" S) := by
  refine zC.of (by decide +kernel) (Nat.le_of_ble_eq_true rfl) ?_
  intro x hx hr hml hnm hrm hq hNH
  show zV x ad (Lay K ad S) 0 0 [(0, .int v)] 0 []
  refine z_iload_n hx 0 d_TD_needHolder_0 rfl ?_
  refine z_if_lt (tgt := 9) hx d_TD_needHolder_1 (by decide) (fun h1 => ?_) (fun h1 => ?_)
  · exact z_throw hx htr (ik := 86) (ic := 88) w_86 hq (Nat.le_refl _) (Nat.le_refl _) hNH (by rw [hrm]; exact ⟨Nat.le_of_ble_eq_true rfl, Nat.le_of_ble_eq_true rfl, Nat.le_of_ble_eq_true rfl, Nat.le_of_ble_eq_true rfl⟩) d_TD_needHolder_9 d_TD_needHolder_12 d_TD_needHolder_13 d_TD_needHolder_16 ⟨rfl, rfl, rfl⟩
  · refine z_iload_n hx 0 d_TD_needHolder_4 rfl ?_
    refine z_iconst (v := 5) hx d_TD_needHolder_5 rfl ?_
    refine z_icmp_lt (tgt := 17) hx d_TD_needHolder_6 (by decide) (fun h => absurd h (hv.resolve_left h1)) (fun _ => ?_)
    exact z_throw hx htr (ik := 86) (ic := 88) w_86 hq (Nat.le_refl _) (Nat.le_refl _) hNH (by rw [hrm]; exact ⟨Nat.le_of_ble_eq_true rfl, Nat.le_of_ble_eq_true rfl, Nat.le_of_ble_eq_true rfl, Nat.le_of_ble_eq_true rfl⟩) d_TD_needHolder_9 d_TD_needHolder_12 d_TD_needHolder_13 d_TD_needHolder_16 ⟨rfl, rfl, rfl⟩
set_option maxRecDepth 20000 in
theorem c_TD_siteAt {l : Launch} {D : va_G} {K : Nat → ClassId} {ad : Nat → Nat} {S : zSt} {i : Nat} (hi : i < 10) (ho : S.2.2 9 i ≠ 0) : zC l TB D zcls (ztyl K) y_TD_siteAt (.code y_TD_siteAt b_TD_siteAt 2 (some (FieldType.object "TrialDesk$Site"))) (rmk 0 0) [.ref (ad 0), .int (nI i)] ad (Lay K ad S) (zP K ad (some (.ref (ad (100 + i)))) S) := by
  refine zC.of (by decide +kernel) (Nat.le_of_ble_eq_true rfl) ?_
  intro x hx hr hml hnm hrm hq hNH
  show zV x ad (Lay K ad S) 0 0 [(0, .ref (ad 0)), (1, .int (nI i))] 0 []
  refine z_iload_n hx 1 d_TD_siteAt_0 rfl ?_
  refine z_if_lt (tgt := 22) hx d_TD_siteAt_1 (by decide) (fun h => absurd h (nI_pos (by omega))) (fun _ => ?_)
  refine z_iload_n hx 1 d_TD_siteAt_4 rfl ?_
  refine z_aload_n hx 0 d_TD_siteAt_5 rfl ?_
  refine z_get hx k_TD (t := 0) rfl 3 (by decide) a1_131 rfl d_TD_siteAt_6 ?_
  refine z_alen hx 3 rfl (t := 9) rfl (v := 10) rfl d_TD_siteAt_9 ?_
  refine z_icmp_ge (tgt := 22) hx d_TD_siteAt_10 (by decide) (fun h => absurd h (nI_nleL 10 rfl (by omega) (by decide))) (fun _ => ?_)
  refine z_aload_n hx 0 d_TD_siteAt_13 rfl ?_
  refine z_get hx k_TD (t := 0) rfl 3 (by decide) a1_131 rfl d_TD_siteAt_14 ?_
  refine z_iload_n hx 1 d_TD_siteAt_17 rfl ?_
  refine z_aaldK hx 3 rfl (t := 9) rfl (k := i) (by omega) (by decide) (v := .ref (ad (100 + i))) (by show va_rf (if i < 10 then (if S.2.2 9 i = 0 then none else some (ad (100 + i))) else none) = _; rw [if_pos hi, if_neg ho]; rfl) d_TD_siteAt_18 ?_
  refine z_ifnonnullR (tgt := 30) hx d_TD_siteAt_19 (by decide) ?_
  refine z_aload_n hx 0 d_TD_siteAt_30 rfl ?_
  refine z_get hx k_TD (t := 0) rfl 3 (by decide) a1_131 rfl d_TD_siteAt_31 ?_
  refine z_iload_n hx 1 d_TD_siteAt_34 rfl ?_
  refine z_aaldK hx 3 rfl (t := 9) rfl (k := i) (by omega) (by decide) (v := .ref (ad (100 + i))) (by show va_rf (if i < 10 then (if S.2.2 9 i = 0 then none else some (ad (100 + i))) else none) = _; rw [if_pos hi, if_neg ho]; rfl) d_TD_siteAt_35 ?_
  exact z_aret hx hr (Or.inl ⟨_, rfl⟩) hq (Nat.le_refl _) (Nat.le_refl _) d_TD_siteAt_36 ⟨rfl, rfl, rfl⟩
set_option maxRecDepth 20000 in
theorem x_TD_siteAt {l : Launch} (htr : l.stackTraces = false) {D : va_G} {K : Nat → ClassId} {ad : Nat → Nat} {S : zSt} {v : Int32} (hv : v < 0 ∨ 10 ≤ v) : zC l TB D zcls (ztyl K) y_TD_siteAt (.code y_TD_siteAt b_TD_siteAt 2 (some (FieldType.object "TrialDesk$Site"))) (rmx 6 90) [.ref (ad 0), .int v] ad (Lay K ad S) (zX0 K ad "java/lang/IndexOutOfBoundsException" S) := by
  refine zC.of (by decide +kernel) (Nat.le_of_ble_eq_true rfl) ?_
  intro x hx hr hml hnm hrm hq hNH
  show zV x ad (Lay K ad S) 0 0 [(0, .ref (ad 0)), (1, .int v)] 0 []
  refine z_iload_n hx 1 d_TD_siteAt_0 rfl ?_
  refine z_if_lt (tgt := 22) hx d_TD_siteAt_1 (by decide) (fun h1 => ?_) (fun h1 => ?_)
  · exact z_throw hx htr (ik := 86) (ic := 88) w_86 hq (Nat.le_refl _) (Nat.le_refl _) hNH (by rw [hrm]; exact ⟨Nat.le_of_ble_eq_true rfl, Nat.le_of_ble_eq_true rfl, Nat.le_of_ble_eq_true rfl, Nat.le_of_ble_eq_true rfl⟩) d_TD_siteAt_22 d_TD_siteAt_25 d_TD_siteAt_26 d_TD_siteAt_29 ⟨rfl, rfl, rfl⟩
  · refine z_iload_n hx 1 d_TD_siteAt_4 rfl ?_
    refine z_aload_n hx 0 d_TD_siteAt_5 rfl ?_
    refine z_get hx k_TD (t := 0) rfl 3 (by decide) a1_131 rfl d_TD_siteAt_6 ?_
    refine z_alen hx 3 rfl (t := 9) rfl (v := 10) rfl d_TD_siteAt_9 ?_
    refine z_icmp_ge (tgt := 22) hx d_TD_siteAt_10 (by decide) (fun _ => ?_) (fun h => absurd (hv.resolve_left h1) h)
    exact z_throw hx htr (ik := 86) (ic := 88) w_86 hq (Nat.le_refl _) (Nat.le_refl _) hNH (by rw [hrm]; exact ⟨Nat.le_of_ble_eq_true rfl, Nat.le_of_ble_eq_true rfl, Nat.le_of_ble_eq_true rfl, Nat.le_of_ble_eq_true rfl⟩) d_TD_siteAt_22 d_TD_siteAt_25 d_TD_siteAt_26 d_TD_siteAt_29 ⟨rfl, rfl, rfl⟩
set_option maxRecDepth 20000 in
theorem x_TD_siteAt_none {l : Launch} (htr : l.stackTraces = false) {D : va_G} {K : Nat → ClassId} {ad : Nat → Nat} {S : zSt} {i : Nat} (hi : i < 10) (ho : S.2.2 9 i = 0) : zC l TB D zcls (ztyl K) y_TD_siteAt (.code y_TD_siteAt b_TD_siteAt 2 (some (FieldType.object "TrialDesk$Site"))) (rmx 6 90) [.ref (ad 0), .int (nI i)] ad (Lay K ad S) (zX0 K ad "java/lang/IndexOutOfBoundsException" S) := by
  refine zC.of (by decide +kernel) (Nat.le_of_ble_eq_true rfl) ?_
  intro x hx hr hml hnm hrm hq hNH
  show zV x ad (Lay K ad S) 0 0 [(0, .ref (ad 0)), (1, .int (nI i))] 0 []
  refine z_iload_n hx 1 d_TD_siteAt_0 rfl ?_
  refine z_if_lt (tgt := 22) hx d_TD_siteAt_1 (by decide) (fun h => absurd h (nI_pos (by omega))) (fun _ => ?_)
  refine z_iload_n hx 1 d_TD_siteAt_4 rfl ?_
  refine z_aload_n hx 0 d_TD_siteAt_5 rfl ?_
  refine z_get hx k_TD (t := 0) rfl 3 (by decide) a1_131 rfl d_TD_siteAt_6 ?_
  refine z_alen hx 3 rfl (t := 9) rfl (v := 10) rfl d_TD_siteAt_9 ?_
  refine z_icmp_ge (tgt := 22) hx d_TD_siteAt_10 (by decide) (fun h => absurd h (nI_nleL 10 rfl (by omega) (by decide))) (fun _ => ?_)
  refine z_aload_n hx 0 d_TD_siteAt_13 rfl ?_
  refine z_get hx k_TD (t := 0) rfl 3 (by decide) a1_131 rfl d_TD_siteAt_14 ?_
  refine z_iload_n hx 1 d_TD_siteAt_17 rfl ?_
  refine z_aaldK hx 3 rfl (t := 9) rfl (k := i) (by omega) (by decide) (v := .null) (by show va_rf (if i < 10 then (if S.2.2 9 i = 0 then none else some (ad (100 + i))) else none) = _; rw [if_pos hi, if_pos ho]; rfl) d_TD_siteAt_18 ?_
  refine z_ifnonnullN hx d_TD_siteAt_19 ?_
  exact z_throw hx htr (ik := 86) (ic := 88) w_86 hq (Nat.le_refl _) (Nat.le_refl _) hNH (by rw [hrm]; exact ⟨Nat.le_of_ble_eq_true rfl, Nat.le_of_ble_eq_true rfl, Nat.le_of_ble_eq_true rfl, Nat.le_of_ble_eq_true rfl⟩) d_TD_siteAt_22 d_TD_siteAt_25 d_TD_siteAt_26 d_TD_siteAt_29 ⟨rfl, rfl, rfl⟩
set_option maxRecDepth 20000 in
theorem c_TD_stratumAt {l : Launch} {D : va_G} {K : Nat → ClassId} {ad : Nat → Nat} {S : zSt} {s : Nat} (hs : s < 8) : zC l TB D zcls (ztyl K) y_TD_stratumAt (.code y_TD_stratumAt b_TD_stratumAt 2 (some (FieldType.object "TrialDesk$Stratum"))) (rmk 0 0) [.ref (ad 0), .int (nI s)] ad (Lay K ad S) (zP K ad (some (.ref (ad (40 + s)))) S) := by
  refine zC.of (by decide +kernel) (Nat.le_of_ble_eq_true rfl) ?_
  intro x hx hr hml hnm hrm hq hNH
  show zV x ad (Lay K ad S) 0 0 [(0, .ref (ad 0)), (1, .int (nI s))] 0 []
  refine z_iload_n hx 1 d_TD_stratumAt_0 rfl ?_
  refine z_if_lt (tgt := 22) hx d_TD_stratumAt_1 (by decide) (fun h => absurd h (nI_pos (by omega))) (fun _ => ?_)
  refine z_iload_n hx 1 d_TD_stratumAt_4 rfl ?_
  refine z_aload_n hx 0 d_TD_stratumAt_5 rfl ?_
  refine z_get hx k_TD (t := 0) rfl 4 (by decide) a1_132 rfl d_TD_stratumAt_6 ?_
  refine z_alen hx 4 rfl (t := 10) rfl (v := 8) rfl d_TD_stratumAt_9 ?_
  refine z_icmp_ge (tgt := 22) hx d_TD_stratumAt_10 (by decide) (fun h => absurd h (nI_nleL 8 rfl (by omega) (by decide))) (fun _ => ?_)
  refine z_aload_n hx 0 d_TD_stratumAt_13 rfl ?_
  refine z_get hx k_TD (t := 0) rfl 4 (by decide) a1_132 rfl d_TD_stratumAt_14 ?_
  refine z_iload_n hx 1 d_TD_stratumAt_17 rfl ?_
  refine z_aaldK hx 4 rfl (t := 10) rfl (k := s) (by omega) (by decide) (v := .ref (ad (40 + s))) (by show va_rf (if s < 8 then some (ad (40 + s)) else none) = _; rw [if_pos hs]; rfl) d_TD_stratumAt_18 ?_
  refine z_ifnonnullR (tgt := 30) hx d_TD_stratumAt_19 (by decide) ?_
  refine z_aload_n hx 0 d_TD_stratumAt_30 rfl ?_
  refine z_get hx k_TD (t := 0) rfl 4 (by decide) a1_132 rfl d_TD_stratumAt_31 ?_
  refine z_iload_n hx 1 d_TD_stratumAt_34 rfl ?_
  refine z_aaldK hx 4 rfl (t := 10) rfl (k := s) (by omega) (by decide) (v := .ref (ad (40 + s))) (by show va_rf (if s < 8 then some (ad (40 + s)) else none) = _; rw [if_pos hs]; rfl) d_TD_stratumAt_35 ?_
  exact z_aret hx hr (Or.inl ⟨_, rfl⟩) hq (Nat.le_refl _) (Nat.le_refl _) d_TD_stratumAt_36 ⟨rfl, rfl, rfl⟩
set_option maxRecDepth 20000 in
theorem x_TD_stratumAt {l : Launch} (htr : l.stackTraces = false) {D : va_G} {K : Nat → ClassId} {ad : Nat → Nat} {S : zSt} {v : Int32} (hv : v < 0 ∨ 8 ≤ v) : zC l TB D zcls (ztyl K) y_TD_stratumAt (.code y_TD_stratumAt b_TD_stratumAt 2 (some (FieldType.object "TrialDesk$Stratum"))) (rmx 6 90) [.ref (ad 0), .int v] ad (Lay K ad S) (zX0 K ad "java/lang/IndexOutOfBoundsException" S) := by
  refine zC.of (by decide +kernel) (Nat.le_of_ble_eq_true rfl) ?_
  intro x hx hr hml hnm hrm hq hNH
  show zV x ad (Lay K ad S) 0 0 [(0, .ref (ad 0)), (1, .int v)] 0 []
  refine z_iload_n hx 1 d_TD_stratumAt_0 rfl ?_
  refine z_if_lt (tgt := 22) hx d_TD_stratumAt_1 (by decide) (fun h1 => ?_) (fun h1 => ?_)
  · exact z_throw hx htr (ik := 86) (ic := 88) w_86 hq (Nat.le_refl _) (Nat.le_refl _) hNH (by rw [hrm]; exact ⟨Nat.le_of_ble_eq_true rfl, Nat.le_of_ble_eq_true rfl, Nat.le_of_ble_eq_true rfl, Nat.le_of_ble_eq_true rfl⟩) d_TD_stratumAt_22 d_TD_stratumAt_25 d_TD_stratumAt_26 d_TD_stratumAt_29 ⟨rfl, rfl, rfl⟩
  · refine z_iload_n hx 1 d_TD_stratumAt_4 rfl ?_
    refine z_aload_n hx 0 d_TD_stratumAt_5 rfl ?_
    refine z_get hx k_TD (t := 0) rfl 4 (by decide) a1_132 rfl d_TD_stratumAt_6 ?_
    refine z_alen hx 4 rfl (t := 10) rfl (v := 8) rfl d_TD_stratumAt_9 ?_
    refine z_icmp_ge (tgt := 22) hx d_TD_stratumAt_10 (by decide) (fun _ => ?_) (fun h => absurd (hv.resolve_left h1) h)
    exact z_throw hx htr (ik := 86) (ic := 88) w_86 hq (Nat.le_refl _) (Nat.le_refl _) hNH (by rw [hrm]; exact ⟨Nat.le_of_ble_eq_true rfl, Nat.le_of_ble_eq_true rfl, Nat.le_of_ble_eq_true rfl, Nat.le_of_ble_eq_true rfl⟩) d_TD_stratumAt_22 d_TD_stratumAt_25 d_TD_stratumAt_26 d_TD_stratumAt_29 ⟨rfl, rfl, rfl⟩
set_option maxRecDepth 20000 in
theorem c_TD_needArm {l : Launch} {D : va_G} {K : Nat → ClassId} {ad : Nat → Nat} {S : zSt} {v : Int32} (h0 : ¬ v < 0) (hv : v < (if S.2.2 1 1 = 0 then 4 else S.2.2 1 1)) : zC l TB D zcls (ztyl K) y_TD_needArm (.code y_TD_needArm b_TD_needArm 3 (none : Option FieldType)) (rmk 0 0) [.ref (ad 0), .int v] ad (Lay K ad S) (zP K ad none S) := by
  refine zC.of (by decide +kernel) (Nat.le_of_ble_eq_true rfl) ?_
  intro x hx hr hml hnm hrm hq hNH
  show zV x ad (Lay K ad S) 0 0 [(0, .ref (ad 0)), (1, .int v)] 0 []
  refine z_aload_n hx 0 d_TD_needArm_0 rfl ?_
  refine z_get hx k_TD (t := 0) rfl 0 (by decide) a1_128 rfl d_TD_needArm_1 ?_
  refine z_getN hx k_Pl (t := 1) rfl 1 (by decide) a1_36 rfl d_TD_needArm_4 ?_
  refine z_if_ne (tgt := 14) hx d_TD_needArm_7 (by decide) (fun h1 => ?_) (fun h1 => ?_)
  · refine z_aload_n hx 0 d_TD_needArm_14 rfl ?_
    refine z_get hx k_TD (t := 0) rfl 0 (by decide) a1_128 rfl d_TD_needArm_15 ?_
    refine z_getN hx k_Pl (t := 1) rfl 1 (by decide) a1_36 rfl d_TD_needArm_18 ?_
    refine z_istore_n hx [(2, .int (S.2.2 1 1)), (0, .ref (ad 0)), (1, .int v)] d_TD_needArm_21 rfl (zN hml (by decide)) rfl ?_
    refine z_iload_n hx 2 d_TD_needArm_22 rfl ?_
    refine z_if_lt (tgt := 31) hx d_TD_needArm_23 (by decide) (fun h => absurd h h0) (fun _ => ?_)
    refine z_iload_n hx 2 d_TD_needArm_26 rfl ?_
    refine z_iload_n hx 0 d_TD_needArm_27 rfl ?_
    refine z_icmp_lt (tgt := 39) hx d_TD_needArm_28 (by decide) (fun _ => ?_) (fun h => absurd (by rwa [if_neg h1] at hv) h)
    exact z_vret hx hr hq (Nat.le_refl _) (Nat.le_refl _) d_TD_needArm_39 ⟨rfl, rfl, rfl⟩
  · refine z_iconst (v := 4) hx d_TD_needArm_10 rfl ?_
    refine z_goto (tgt := 21) hx d_TD_needArm_11 (by decide) ?_
    refine z_istore_n hx [(2, .int 4), (0, .ref (ad 0)), (1, .int v)] d_TD_needArm_21 rfl (zN hml (by decide)) rfl ?_
    refine z_iload_n hx 2 d_TD_needArm_22 rfl ?_
    refine z_if_lt (tgt := 31) hx d_TD_needArm_23 (by decide) (fun h => absurd h h0) (fun _ => ?_)
    refine z_iload_n hx 2 d_TD_needArm_26 rfl ?_
    refine z_iload_n hx 0 d_TD_needArm_27 rfl ?_
    refine z_icmp_lt (tgt := 39) hx d_TD_needArm_28 (by decide) (fun _ => ?_) (fun h => absurd (by rwa [if_pos h1] at hv) h)
    exact z_vret hx hr hq (Nat.le_refl _) (Nat.le_refl _) d_TD_needArm_39 ⟨rfl, rfl, rfl⟩
set_option maxRecDepth 20000 in
theorem x_TD_needArm {l : Launch} (htr : l.stackTraces = false) {D : va_G} {K : Nat → ClassId} {ad : Nat → Nat} {S : zSt} {v : Int32} (hv : v < 0 ∨ ¬ v < (if S.2.2 1 1 = 0 then 4 else S.2.2 1 1)) : zC l TB D zcls (ztyl K) y_TD_needArm (.code y_TD_needArm b_TD_needArm 3 (none : Option FieldType)) (rmx 6 90) [.ref (ad 0), .int v] ad (Lay K ad S) (zX0 K ad "java/lang/IndexOutOfBoundsException" S) := by
  refine zC.of (by decide +kernel) (Nat.le_of_ble_eq_true rfl) ?_
  intro x hx hr hml hnm hrm hq hNH
  show zV x ad (Lay K ad S) 0 0 [(0, .ref (ad 0)), (1, .int v)] 0 []
  refine z_aload_n hx 0 d_TD_needArm_0 rfl ?_
  refine z_get hx k_TD (t := 0) rfl 0 (by decide) a1_128 rfl d_TD_needArm_1 ?_
  refine z_getN hx k_Pl (t := 1) rfl 1 (by decide) a1_36 rfl d_TD_needArm_4 ?_
  refine z_if_ne (tgt := 14) hx d_TD_needArm_7 (by decide) (fun h1 => ?_) (fun h1 => ?_)
  · refine z_aload_n hx 0 d_TD_needArm_14 rfl ?_
    refine z_get hx k_TD (t := 0) rfl 0 (by decide) a1_128 rfl d_TD_needArm_15 ?_
    refine z_getN hx k_Pl (t := 1) rfl 1 (by decide) a1_36 rfl d_TD_needArm_18 ?_
    refine z_istore_n hx [(2, .int (S.2.2 1 1)), (0, .ref (ad 0)), (1, .int v)] d_TD_needArm_21 rfl (zN hml (by decide)) rfl ?_
    refine z_iload_n hx 2 d_TD_needArm_22 rfl ?_
    refine z_if_lt (tgt := 31) hx d_TD_needArm_23 (by decide) (fun h2 => ?_) (fun h2 => ?_)
    · exact z_throw hx htr (ik := 86) (ic := 88) w_86 hq (Nat.le_refl _) (Nat.le_refl _) hNH (by rw [hrm]; exact ⟨Nat.le_of_ble_eq_true rfl, Nat.le_of_ble_eq_true rfl, Nat.le_of_ble_eq_true rfl, Nat.le_of_ble_eq_true rfl⟩) d_TD_needArm_31 d_TD_needArm_34 d_TD_needArm_35 d_TD_needArm_38 ⟨rfl, rfl, rfl⟩
    · refine z_iload_n hx 2 d_TD_needArm_26 rfl ?_
      refine z_iload_n hx 0 d_TD_needArm_27 rfl ?_
      refine z_icmp_lt (tgt := 39) hx d_TD_needArm_28 (by decide) (fun h => absurd h (by have := hv.resolve_left h2; rwa [if_neg h1] at this)) (fun _ => ?_)
      exact z_throw hx htr (ik := 86) (ic := 88) w_86 hq (Nat.le_refl _) (Nat.le_refl _) hNH (by rw [hrm]; exact ⟨Nat.le_of_ble_eq_true rfl, Nat.le_of_ble_eq_true rfl, Nat.le_of_ble_eq_true rfl, Nat.le_of_ble_eq_true rfl⟩) d_TD_needArm_31 d_TD_needArm_34 d_TD_needArm_35 d_TD_needArm_38 ⟨rfl, rfl, rfl⟩
  · refine z_iconst (v := 4) hx d_TD_needArm_10 rfl ?_
    refine z_goto (tgt := 21) hx d_TD_needArm_11 (by decide) ?_
    refine z_istore_n hx [(2, .int 4), (0, .ref (ad 0)), (1, .int v)] d_TD_needArm_21 rfl (zN hml (by decide)) rfl ?_
    refine z_iload_n hx 2 d_TD_needArm_22 rfl ?_
    refine z_if_lt (tgt := 31) hx d_TD_needArm_23 (by decide) (fun h3 => ?_) (fun h3 => ?_)
    · exact z_throw hx htr (ik := 86) (ic := 88) w_86 hq (Nat.le_refl _) (Nat.le_refl _) hNH (by rw [hrm]; exact ⟨Nat.le_of_ble_eq_true rfl, Nat.le_of_ble_eq_true rfl, Nat.le_of_ble_eq_true rfl, Nat.le_of_ble_eq_true rfl⟩) d_TD_needArm_31 d_TD_needArm_34 d_TD_needArm_35 d_TD_needArm_38 ⟨rfl, rfl, rfl⟩
    · refine z_iload_n hx 2 d_TD_needArm_26 rfl ?_
      refine z_iload_n hx 0 d_TD_needArm_27 rfl ?_
      refine z_icmp_lt (tgt := 39) hx d_TD_needArm_28 (by decide) (fun h => absurd h (by have := hv.resolve_left h3; rwa [if_pos h1] at this)) (fun _ => ?_)
      exact z_throw hx htr (ik := 86) (ic := 88) w_86 hq (Nat.le_refl _) (Nat.le_refl _) hNH (by rw [hrm]; exact ⟨Nat.le_of_ble_eq_true rfl, Nat.le_of_ble_eq_true rfl, Nat.le_of_ble_eq_true rfl, Nat.le_of_ble_eq_true rfl⟩) d_TD_needArm_31 d_TD_needArm_34 d_TD_needArm_35 d_TD_needArm_38 ⟨rfl, rfl, rfl⟩
set_option maxRecDepth 20000 in
theorem c_TD_needPlan {l : Launch} {D : va_G} {K : Nat → ClassId} {ad : Nat → Nat} {S : zSt} (hpl : S.2.2 1 1 ≠ 0) : zC l TB D zcls (ztyl K) y_TD_needPlan (.code y_TD_needPlan b_TD_needPlan 1 (none : Option FieldType)) (rmk 0 0) [.ref (ad 0)] ad (Lay K ad S) (zP K ad none S) := by
  refine zC.of (by decide +kernel) (Nat.le_of_ble_eq_true rfl) ?_
  intro x hx hr hml hnm hrm hq hNH
  show zV x ad (Lay K ad S) 0 0 [(0, .ref (ad 0))] 0 []
  refine z_aload_n hx 0 d_TD_needPlan_0 rfl ?_
  refine z_get hx k_TD (t := 0) rfl 0 (by decide) a1_128 rfl d_TD_needPlan_1 ?_
  refine z_getN hx k_Pl (t := 1) rfl 1 (by decide) a1_36 rfl d_TD_needPlan_4 ?_
  refine z_if_ne (tgt := 18) hx d_TD_needPlan_7 (by decide) (fun _ => ?_) (fun h => absurd h hpl)
  exact z_vret hx hr hq (Nat.le_refl _) (Nat.le_refl _) d_TD_needPlan_18 ⟨rfl, rfl, rfl⟩
set_option maxRecDepth 20000 in
theorem x_TD_needPlan {l : Launch} (htr : l.stackTraces = false) {D : va_G} {K : Nat → ClassId} {ad : Nat → Nat} {S : zSt} (hpl : S.2.2 1 1 = 0) : zC l TB D zcls (ztyl K) y_TD_needPlan (.code y_TD_needPlan b_TD_needPlan 1 (none : Option FieldType)) (rmx 6 90) [.ref (ad 0)] ad (Lay K ad S) (zX0 K ad "java/lang/IllegalStateException" S) := by
  refine zC.of (by decide +kernel) (Nat.le_of_ble_eq_true rfl) ?_
  intro x hx hr hml hnm hrm hq hNH
  show zV x ad (Lay K ad S) 0 0 [(0, .ref (ad 0))] 0 []
  refine z_aload_n hx 0 d_TD_needPlan_0 rfl ?_
  refine z_get hx k_TD (t := 0) rfl 0 (by decide) a1_128 rfl d_TD_needPlan_1 ?_
  refine z_getN hx k_Pl (t := 1) rfl 1 (by decide) a1_36 rfl d_TD_needPlan_4 ?_
  refine z_if_ne (tgt := 18) hx d_TD_needPlan_7 (by decide) (fun h => absurd hpl h) (fun _ => ?_)
  exact z_throw hx htr (ik := 64) (ic := 66) w_64 hq (Nat.le_refl _) (Nat.le_refl _) hNH (by rw [hrm]; exact ⟨Nat.le_of_ble_eq_true rfl, Nat.le_of_ble_eq_true rfl, Nat.le_of_ble_eq_true rfl, Nat.le_of_ble_eq_true rfl⟩) d_TD_needPlan_10 d_TD_needPlan_13 d_TD_needPlan_14 d_TD_needPlan_17 ⟨rfl, rfl, rfl⟩
/-- no open site has this number -/
def badSite (S : zSt) (v : Int32) : Prop := (v < 0 ∨ 10 ≤ v) ∨ ∃ i, i < 10 ∧ v = nI i ∧ S.2.2 9 i = 0
theorem x_TD_siteAt_any {l : Launch} (htr : l.stackTraces = false) {D : va_G} {K : Nat → ClassId} {ad : Nat → Nat} {S : zSt} {v : Int32} (hv : badSite S v) : zC l TB D zcls (ztyl K) y_TD_siteAt (.code y_TD_siteAt b_TD_siteAt 2 (some (FieldType.object "TrialDesk$Site"))) (rmx 6 90) [.ref (ad 0), .int v] ad (Lay K ad S) (zX0 K ad "java/lang/IndexOutOfBoundsException" S) := by
  rcases hv with h | ⟨i, hi, rfl, ho⟩
  · exact x_TD_siteAt htr h
  · exact x_TD_siteAt_none htr hi ho
def isW (a b : Int32) : Int32 := if a < b then 0 else if 3 < a then 0 else 1
def areW (a b c d : Int32) : Int32 := if isW a 1 = 0 then 0 else if isW b 1 = 0 then 0 else if isW c 0 = 0 then 0 else if isW d 0 = 0 then 0 else if c = 0 then (if d = 0 then 1 else 0) else 1
def isZ (n t : Int32) : Int32 := if n < 1 then 0 else if 24 < n then 0 else if t < 1 then 0 else if n - n / t * t = 0 then 1 else 0
set_option maxRecDepth 20000 in
theorem c_TD_isWeight {l : Launch} {D : va_G} {K : Nat → ClassId} {ad : Nat → Nat} {S : zSt} {a b : Int32} : zC l TB D zcls (ztyl K) y_TD_isWeight (.code y_TD_isWeight b_TD_isWeight 2 (some FieldType.boolean)) (rmk 0 0) [.int a, .int b] ad (Lay K ad S) (zP K ad (some (.int (isW a b))) S) := by
  refine zC.of (by decide +kernel) (Nat.le_of_ble_eq_true rfl) ?_
  intro x hx hr hml hnm hrm hq hNH
  show zV x ad (Lay K ad S) 0 0 [(0, .int a), (1, .int b)] 0 []
  refine z_iload_n hx 0 d_TD_isWeight_0 rfl ?_
  refine z_iload_n hx 1 d_TD_isWeight_1 rfl ?_
  refine z_icmp_lt (tgt := 14) hx d_TD_isWeight_2 (by decide) (fun h1 => ?_) (fun h1 => ?_)
  · refine z_iconst (v := 0) hx d_TD_isWeight_14 rfl ?_
    exact z_iret hx hr rfl hq (Nat.le_refl _) (Nat.le_refl _) d_TD_isWeight_15 ⟨by simp [isW, h1], rfl, by simp [isW, h1]⟩
  · refine z_iload_n hx 0 d_TD_isWeight_5 rfl ?_
    refine z_iconst (v := 3) hx d_TD_isWeight_6 rfl ?_
    refine z_icmp_gt (tgt := 14) hx d_TD_isWeight_7 (by decide) (fun h2 => ?_) (fun h2 => ?_)
    · refine z_iconst (v := 0) hx d_TD_isWeight_14 rfl ?_
      exact z_iret hx hr rfl hq (Nat.le_refl _) (Nat.le_refl _) d_TD_isWeight_15 ⟨by simp [isW, h1, h2], rfl, by simp [isW, h1, h2]⟩
    · refine z_iconst (v := 1) hx d_TD_isWeight_10 rfl ?_
      refine z_goto (tgt := 15) hx d_TD_isWeight_11 (by decide) ?_
      exact z_iret hx hr rfl hq (Nat.le_refl _) (Nat.le_refl _) d_TD_isWeight_15 ⟨by simp [isW, h1, h2], rfl, by simp [isW, h1, h2]⟩
set_option maxRecDepth 20000 in
theorem c_TD_areWeights {l : Launch} {D : va_G} {K : Nat → ClassId} {ad : Nat → Nat} {S : zSt} {a b c d : Int32} : zC l TB D zcls (ztyl K) y_TD_areWeights (.code y_TD_areWeights b_TD_areWeights 5 (some FieldType.boolean)) (rmk 1 21) [.int a, .int b, .int c, .int d] ad (Lay K ad S) (zP K ad (some (.int (areW a b c d))) S) := by
  refine zC.of (by decide +kernel) (Nat.le_of_ble_eq_true rfl) ?_
  intro x hx hr hml hnm hrm hq hNH
  show zV x ad (Lay K ad S) 0 0 [(0, .int a), (1, .int b), (2, .int c), (3, .int d)] 0 []
  refine z_iload_n hx 0 d_TD_areWeights_0 rfl ?_
  refine z_iconst (v := 1) hx d_TD_areWeights_1 rfl ?_
  refine z_cS hx (c_TD_isWeight) ⟨a1_173, a1_175, a1_1, ⟨by decide +kernel, by decide +kernel⟩, fun sig h => by cases h; rfl⟩ a1_174 rfl rfl d_TD_areWeights_2 (by rw [hrm]; exact ⟨Nat.le_of_ble_eq_true rfl, Nat.le_of_ble_eq_true rfl, Nat.le_of_ble_eq_true rfl, Nat.le_of_ble_eq_true rfl⟩) ?_
  show zV x ad (Lay K ad S) _ _ _ 5 [.int (isW a 1)]
  refine z_if_eq (tgt := 36) hx d_TD_areWeights_5 (by decide) (fun h1 => ?_) (fun h1 => ?_)
  · refine z_iconst (v := 0) hx d_TD_areWeights_36 rfl ?_
    refine z_istore hx [(4, .int 0), (0, .int a), (1, .int b), (2, .int c), (3, .int d)] d_TD_areWeights_37 (zN hml (by decide)) rfl ?_
    refine z_iload hx 0 d_TD_areWeights_39 rfl ?_
    refine z_if_eq (tgt := 56) hx d_TD_areWeights_41 (by decide) (fun _ => ?_) (fun h => absurd (by decide) h)
    refine z_iconst (v := 0) hx d_TD_areWeights_56 rfl ?_
    exact z_iret hx hr rfl hq (Nat.le_refl _) (Nat.le_refl _) d_TD_areWeights_57 ⟨congrArg (fun z => Sum.inl (some (Value.int z))) (by unfold areW; (first | rw [if_pos h1] | rw [if_neg h1] | skip)), rfl, rfl⟩
  · refine z_iload_n hx 1 d_TD_areWeights_8 rfl ?_
    refine z_iconst (v := 1) hx d_TD_areWeights_9 rfl ?_
    refine z_cS hx (c_TD_isWeight) ⟨a1_173, a1_175, a1_1, ⟨by decide +kernel, by decide +kernel⟩, fun sig h => by cases h; rfl⟩ a1_174 rfl rfl d_TD_areWeights_10 (by rw [hrm]; exact ⟨Nat.le_of_ble_eq_true rfl, Nat.le_of_ble_eq_true rfl, Nat.le_of_ble_eq_true rfl, Nat.le_of_ble_eq_true rfl⟩) ?_
    show zV x ad (Lay K ad S) _ _ _ 13 [.int (isW b 1)]
    refine z_if_eq (tgt := 36) hx d_TD_areWeights_13 (by decide) (fun h2 => ?_) (fun h2 => ?_)
    · refine z_iconst (v := 0) hx d_TD_areWeights_36 rfl ?_
      refine z_istore hx [(4, .int 0), (0, .int a), (1, .int b), (2, .int c), (3, .int d)] d_TD_areWeights_37 (zN hml (by decide)) rfl ?_
      refine z_iload hx 0 d_TD_areWeights_39 rfl ?_
      refine z_if_eq (tgt := 56) hx d_TD_areWeights_41 (by decide) (fun _ => ?_) (fun h => absurd (by decide) h)
      refine z_iconst (v := 0) hx d_TD_areWeights_56 rfl ?_
      exact z_iret hx hr rfl hq (Nat.le_refl _) (Nat.le_refl _) d_TD_areWeights_57 ⟨congrArg (fun z => Sum.inl (some (Value.int z))) (by unfold areW; (first | rw [if_pos h1] | rw [if_neg h1] | skip); (first | rw [if_pos h2] | rw [if_neg h2] | skip)), rfl, rfl⟩
    · refine z_iload_n hx 2 d_TD_areWeights_16 rfl ?_
      refine z_iconst (v := 0) hx d_TD_areWeights_17 rfl ?_
      refine z_cS hx (c_TD_isWeight) ⟨a1_173, a1_175, a1_1, ⟨by decide +kernel, by decide +kernel⟩, fun sig h => by cases h; rfl⟩ a1_174 rfl rfl d_TD_areWeights_18 (by rw [hrm]; exact ⟨Nat.le_of_ble_eq_true rfl, Nat.le_of_ble_eq_true rfl, Nat.le_of_ble_eq_true rfl, Nat.le_of_ble_eq_true rfl⟩) ?_
      show zV x ad (Lay K ad S) _ _ _ 21 [.int (isW c 0)]
      refine z_if_eq (tgt := 36) hx d_TD_areWeights_21 (by decide) (fun h3 => ?_) (fun h3 => ?_)
      · refine z_iconst (v := 0) hx d_TD_areWeights_36 rfl ?_
        refine z_istore hx [(4, .int 0), (0, .int a), (1, .int b), (2, .int c), (3, .int d)] d_TD_areWeights_37 (zN hml (by decide)) rfl ?_
        refine z_iload hx 0 d_TD_areWeights_39 rfl ?_
        refine z_if_eq (tgt := 56) hx d_TD_areWeights_41 (by decide) (fun _ => ?_) (fun h => absurd (by decide) h)
        refine z_iconst (v := 0) hx d_TD_areWeights_56 rfl ?_
        exact z_iret hx hr rfl hq (Nat.le_refl _) (Nat.le_refl _) d_TD_areWeights_57 ⟨congrArg (fun z => Sum.inl (some (Value.int z))) (by unfold areW; (first | rw [if_pos h1] | rw [if_neg h1] | skip); (first | rw [if_pos h2] | rw [if_neg h2] | skip); (first | rw [if_pos h3] | rw [if_neg h3] | skip)), rfl, rfl⟩
      · refine z_iload_n hx 3 d_TD_areWeights_24 rfl ?_
        refine z_iconst (v := 0) hx d_TD_areWeights_25 rfl ?_
        refine z_cS hx (c_TD_isWeight) ⟨a1_173, a1_175, a1_1, ⟨by decide +kernel, by decide +kernel⟩, fun sig h => by cases h; rfl⟩ a1_174 rfl rfl d_TD_areWeights_26 (by rw [hrm]; exact ⟨Nat.le_of_ble_eq_true rfl, Nat.le_of_ble_eq_true rfl, Nat.le_of_ble_eq_true rfl, Nat.le_of_ble_eq_true rfl⟩) ?_
        show zV x ad (Lay K ad S) _ _ _ 29 [.int (isW d 0)]
        refine z_if_eq (tgt := 36) hx d_TD_areWeights_29 (by decide) (fun h4 => ?_) (fun h4 => ?_)
        · refine z_iconst (v := 0) hx d_TD_areWeights_36 rfl ?_
          refine z_istore hx [(4, .int 0), (0, .int a), (1, .int b), (2, .int c), (3, .int d)] d_TD_areWeights_37 (zN hml (by decide)) rfl ?_
          refine z_iload hx 0 d_TD_areWeights_39 rfl ?_
          refine z_if_eq (tgt := 56) hx d_TD_areWeights_41 (by decide) (fun _ => ?_) (fun h => absurd (by decide) h)
          refine z_iconst (v := 0) hx d_TD_areWeights_56 rfl ?_
          exact z_iret hx hr rfl hq (Nat.le_refl _) (Nat.le_refl _) d_TD_areWeights_57 ⟨congrArg (fun z => Sum.inl (some (Value.int z))) (by unfold areW; (first | rw [if_pos h1] | rw [if_neg h1] | skip); (first | rw [if_pos h2] | rw [if_neg h2] | skip); (first | rw [if_pos h3] | rw [if_neg h3] | skip); (first | rw [if_pos h4] | rw [if_neg h4] | skip)), rfl, rfl⟩
        · refine z_iconst (v := 1) hx d_TD_areWeights_32 rfl ?_
          refine z_goto (tgt := 37) hx d_TD_areWeights_33 (by decide) ?_
          refine z_istore hx [(4, .int 1), (0, .int a), (1, .int b), (2, .int c), (3, .int d)] d_TD_areWeights_37 (zN hml (by decide)) rfl ?_
          refine z_iload hx 0 d_TD_areWeights_39 rfl ?_
          refine z_if_eq (tgt := 56) hx d_TD_areWeights_41 (by decide) (fun h => absurd h (by decide)) (fun _ => ?_)
          refine z_iload_n hx 3 d_TD_areWeights_44 rfl ?_
          refine z_if_ne (tgt := 52) hx d_TD_areWeights_45 (by decide) (fun h5 => ?_) (fun h5 => ?_)
          · refine z_iconst (v := 1) hx d_TD_areWeights_52 rfl ?_
            refine z_goto (tgt := 57) hx d_TD_areWeights_53 (by decide) ?_
            exact z_iret hx hr rfl hq (Nat.le_refl _) (Nat.le_refl _) d_TD_areWeights_57 ⟨congrArg (fun z => Sum.inl (some (Value.int z))) (by unfold areW; (first | rw [if_pos h1] | rw [if_neg h1] | skip); (first | rw [if_pos h2] | rw [if_neg h2] | skip); (first | rw [if_pos h3] | rw [if_neg h3] | skip); (first | rw [if_pos h4] | rw [if_neg h4] | skip); (first | rw [if_pos h5] | rw [if_neg h5] | skip)), rfl, rfl⟩
          · refine z_iload_n hx 4 d_TD_areWeights_48 rfl ?_
            refine z_if_ne (tgt := 56) hx d_TD_areWeights_49 (by decide) (fun h6 => ?_) (fun h6 => ?_)
            · refine z_iconst (v := 0) hx d_TD_areWeights_56 rfl ?_
              exact z_iret hx hr rfl hq (Nat.le_refl _) (Nat.le_refl _) d_TD_areWeights_57 ⟨congrArg (fun z => Sum.inl (some (Value.int z))) (by unfold areW; (first | rw [if_pos h1] | rw [if_neg h1] | skip); (first | rw [if_pos h2] | rw [if_neg h2] | skip); (first | rw [if_pos h3] | rw [if_neg h3] | skip); (first | rw [if_pos h4] | rw [if_neg h4] | skip); (first | rw [if_pos h5] | rw [if_neg h5] | skip); (first | rw [if_pos h6] | rw [if_neg h6] | skip)), rfl, rfl⟩
            · refine z_iconst (v := 1) hx d_TD_areWeights_52 rfl ?_
              refine z_goto (tgt := 57) hx d_TD_areWeights_53 (by decide) ?_
              exact z_iret hx hr rfl hq (Nat.le_refl _) (Nat.le_refl _) d_TD_areWeights_57 ⟨congrArg (fun z => Sum.inl (some (Value.int z))) (by unfold areW; (first | rw [if_pos h1] | rw [if_neg h1] | skip); (first | rw [if_pos h2] | rw [if_neg h2] | skip); (first | rw [if_pos h3] | rw [if_neg h3] | skip); (first | rw [if_pos h4] | rw [if_neg h4] | skip); (first | rw [if_pos h5] | rw [if_neg h5] | skip); (first | rw [if_pos h6] | rw [if_neg h6] | skip)), rfl, rfl⟩
set_option maxRecDepth 20000 in
theorem c_TD_isSize {l : Launch} {D : va_G} {K : Nat → ClassId} {ad : Nat → Nat} {S : zSt} {n t : Int32} : zC l TB D zcls (ztyl K) y_TD_isSize (.code y_TD_isSize b_TD_isSize 2 (some FieldType.boolean)) (rmk 0 0) [.int n, .int t] ad (Lay K ad S) (zP K ad (some (.int (isZ n t))) S) := by
  refine zC.of (by decide +kernel) (Nat.le_of_ble_eq_true rfl) ?_
  intro x hx hr hml hnm hrm hq hNH
  show zV x ad (Lay K ad S) 0 0 [(0, .int n), (1, .int t)] 0 []
  refine z_iload_n hx 0 d_TD_isSize_0 rfl ?_
  refine z_iconst (v := 1) hx d_TD_isSize_1 rfl ?_
  refine z_icmp_lt (tgt := 26) hx d_TD_isSize_2 (by decide) (fun h1 => ?_) (fun h1 => ?_)
  · refine z_iconst (v := 0) hx d_TD_isSize_26 rfl ?_
    exact z_iret hx hr rfl hq (Nat.le_refl _) (Nat.le_refl _) d_TD_isSize_27 ⟨by simp [isZ, h1], rfl, by simp [isZ, h1]⟩
  · refine z_iload_n hx 0 d_TD_isSize_5 rfl ?_
    refine z_bipush (v := 24) hx d_TD_isSize_6 rfl ?_
    refine z_icmp_gt (tgt := 26) hx d_TD_isSize_8 (by decide) (fun h2 => ?_) (fun h2 => ?_)
    · refine z_iconst (v := 0) hx d_TD_isSize_26 rfl ?_
      exact z_iret hx hr rfl hq (Nat.le_refl _) (Nat.le_refl _) d_TD_isSize_27 ⟨by simp [isZ, h1, h2], rfl, by simp [isZ, h1, h2]⟩
    · refine z_iload_n hx 1 d_TD_isSize_11 rfl ?_
      refine z_iconst (v := 1) hx d_TD_isSize_12 rfl ?_
      refine z_icmp_lt (tgt := 26) hx d_TD_isSize_13 (by decide) (fun h3 => ?_) (fun h3 => ?_)
      · refine z_iconst (v := 0) hx d_TD_isSize_26 rfl ?_
        exact z_iret hx hr rfl hq (Nat.le_refl _) (Nat.le_refl _) d_TD_isSize_27 ⟨by simp [isZ, h1, h2, h3], rfl, by simp [isZ, h1, h2, h3]⟩
      · refine z_iload_n hx 0 d_TD_isSize_16 rfl ?_
        refine z_iload_n hx 1 d_TD_isSize_17 rfl ?_
        refine z_irem hx d_TD_isSize_18 (fun h => by rw [h] at h3; exact h3 (by decide)) ?_
        refine z_if_ne (tgt := 26) hx d_TD_isSize_19 (by decide) (fun h4 => ?_) (fun h4 => ?_)
        · refine z_iconst (v := 0) hx d_TD_isSize_26 rfl ?_
          exact z_iret hx hr rfl hq (Nat.le_refl _) (Nat.le_refl _) d_TD_isSize_27 ⟨by simp [isZ, h1, h2, h3, h4], rfl, by simp [isZ, h1, h2, h3, h4]⟩
        · refine z_iconst (v := 1) hx d_TD_isSize_22 rfl ?_
          refine z_goto (tgt := 27) hx d_TD_isSize_23 (by decide) ?_
          exact z_iret hx hr rfl hq (Nat.le_refl _) (Nat.le_refl _) d_TD_isSize_27 ⟨by simp [isZ, h1, h2, h3, h4], rfl, by simp [isZ, h1, h2, h3, h4]⟩
set_option maxRecDepth 20000 in
theorem c_TD_isAnyBlockTaken {l : Launch} {D : va_G} {K : Nat → ClassId} {ad : Nat → Nat} {S : zSt}  : zC l TB D zcls (ztyl K) y_TD_isAnyBlockTaken (.code y_TD_isAnyBlockTaken b_TD_isAnyBlockTaken 2 (some FieldType.boolean)) (rmk 1 21) [.ref (ad 0)] ad (Lay K ad S) (zP K ad (some (.int (hasF (fun q => decide (¬ S.2.2 (40 + q) 6 ≤ 0)) 8 0))) S) := by
  refine zC.of (by decide +kernel) (Nat.le_of_ble_eq_true rfl) ?_
  intro x hx hr hml hnm hrm hq hNH
  have loop : ∀ (m k : Nat), k + m = 8 → hasF (fun q => decide (¬ S.2.2 (40 + q) 6 ≤ 0)) m k = hasF (fun q => decide (¬ S.2.2 (40 + q) 6 ≤ 0)) 8 0 → zV x ad (Lay K ad S) 0 0 [(1, .int (nI k)), (0, .ref (ad 0))] 2 [] := by
    intro m
    induction m with
    | zero =>
      intro k he hV
      have he0 : k = 8 := by omega
      refine z_iload_n hx 0 d_TD_isAnyBlockTaken_2 rfl ?_
      refine z_aload_n hx 1 d_TD_isAnyBlockTaken_3 rfl ?_
      refine z_get hx k_TD (t := 0) rfl 4 (by decide) a1_132 rfl d_TD_isAnyBlockTaken_4 ?_
      refine z_alen hx 4 rfl (t := 10) rfl (v := 8) rfl d_TD_isAnyBlockTaken_7 ?_
      refine z_icmp_ge (tgt := 30) hx d_TD_isAnyBlockTaken_8 (by decide) (fun _ => ?_) (fun h => absurd (nI_leL 8 rfl he0 (by decide)) h)
      refine z_iconst (v := 0) hx d_TD_isAnyBlockTaken_30 rfl ?_
      exact z_iret hx hr rfl hq (Nat.le_refl _) (Nat.le_refl _) d_TD_isAnyBlockTaken_31 ⟨by rw [← hV]; rfl, rfl, rfl⟩
    | succ m ih =>
      intro k he hV
      have hk : k < 8 := by omega
      refine z_iload_n hx 0 d_TD_isAnyBlockTaken_2 rfl ?_
      refine z_aload_n hx 1 d_TD_isAnyBlockTaken_3 rfl ?_
      refine z_get hx k_TD (t := 0) rfl 4 (by decide) a1_132 rfl d_TD_isAnyBlockTaken_4 ?_
      refine z_alen hx 4 rfl (t := 10) rfl (v := 8) rfl d_TD_isAnyBlockTaken_7 ?_
      refine z_icmp_ge (tgt := 30) hx d_TD_isAnyBlockTaken_8 (by decide) (fun h => absurd h (nI_nleL 8 rfl hk (by decide))) (fun _ => ?_)
      refine z_aload_n hx 1 d_TD_isAnyBlockTaken_11 rfl ?_
      refine z_iload_n hx 0 d_TD_isAnyBlockTaken_12 rfl ?_
      refine z_cV hx (c_TD_stratumAt hk) k_TD rfl ⟨a2_6, a2_9, a1_1, ⟨by decide +kernel, by decide +kernel⟩, fun sig h => by cases h; rfl⟩ a2_8 s_TD_stratumAt rfl rfl d_TD_isAnyBlockTaken_13 (by rw [hrm]; exact ⟨Nat.le_of_ble_eq_true rfl, Nat.le_of_ble_eq_true rfl, Nat.le_of_ble_eq_true rfl, Nat.le_of_ble_eq_true rfl⟩) ?_
      show zV x ad (Lay K ad S) _ _ _ 16 [.ref (ad (40 + k))]
      refine z_getN hx k_St (t := 40 + k) (Lay_St hk) 6 (by decide) a1_106 rfl d_TD_isAnyBlockTaken_16 ?_
      refine z_if_le (tgt := 24) hx d_TD_isAnyBlockTaken_19 (by decide) (fun h1 => ?_) (fun h1 => ?_)
      · refine z_iinc (v := nI (k + 1)) hx 0 [(1, .int (nI (k + 1))), (0, .ref (ad 0))] d_TD_isAnyBlockTaken_24 rfl (nI_1 k) (zN hml (by decide)) rfl ?_
        refine z_goto (tgt := 2) hx d_TD_isAnyBlockTaken_27 (by decide) ?_
        exact z_lv [0, 1] _ rfl (ih (k + 1) (by omega) (by rw [← hV, hasF, if_neg (by simpa using h1)]))
      · refine z_iconst (v := 1) hx d_TD_isAnyBlockTaken_22 rfl ?_
        exact z_iret hx hr rfl hq (Nat.le_refl _) (Nat.le_refl _) d_TD_isAnyBlockTaken_23 ⟨by rw [← hV]; rw [hasF, if_pos (by simpa using h1)], rfl, rfl⟩
  show zV x ad (Lay K ad S) 0 0 [(0, .ref (ad 0))] 0 []
  refine z_iconst (v := 0) hx d_TD_isAnyBlockTaken_0 rfl ?_
  refine z_top (b := nI 0) rfl ?_
  refine z_istore_n hx [(1, .int (nI 0)), (0, .ref (ad 0))] d_TD_isAnyBlockTaken_1 rfl (zN hml (by decide)) rfl ?_
  exact z_lv [0, 1] _ rfl (loop 8 0 (by omega) rfl)
