abbrev wOk (S : zSt) : zSt := stM S 3 2 (S.2.2 3 2 + 1)
abbrev wT (S : zSt) : zSt := stM (stM S 3 1 0) 3 0 1
def dOpen (S : zSt) (h g : Nat) : Int32 × zSt := if S.2.2 3 0 = 0 then (if nI h = nI g then (0, S) else if S.2.2 0 7 = 0 then (if S.2.2 3 1 = 0 then (1, stM (wOk S) 0 7 1) else (-2, wT S)) else (0, S)) else (-2, S)
set_option maxRecDepth 20000 in
theorem c_TD_open {l : Launch} {D : va_G} {K : Nat → ClassId} {ad : Nat → Nat} {S : zSt} {h : Nat} (hh : h < 5) {g : Nat} (hg5 : g < 5) : zC l TB D zcls (ztyl K) y_TD_open (.code y_TD_open b_TD_open 3 (some FieldType.int)) (rmk 1 20) [.ref (ad 0), .int (nI h), .int (nI g)] ad (Lay K ad S) (zP K ad (some (.int (dOpen S h g).1)) (dOpen S h g).2) := by
  refine zC.of (by decide +kernel) (Nat.le_of_ble_eq_true rfl) ?_
  intro x hx hr hml hnm hrm hq hNH
  show zV x ad (Lay K ad S) 0 0 [(0, .ref (ad 0)), (1, .int (nI h)), (2, .int (nI g))] 0 []
  refine z_iload_n hx 1 d_TD_open_0 rfl ?_
  refine z_cS hx (c_TD_needHolder hh) ⟨a3_107, a3_109, a1_1, ⟨by decide +kernel, by decide +kernel⟩, fun sig h => by cases h; rfl⟩ a3_108 rfl rfl d_TD_open_1 (by rw [hrm]; exact ⟨Nat.le_of_ble_eq_true rfl, Nat.le_of_ble_eq_true rfl, Nat.le_of_ble_eq_true rfl, Nat.le_of_ble_eq_true rfl⟩) ?_
  show zV x ad (Lay K ad S) _ _ _ 4 []
  refine z_iload_n hx 2 d_TD_open_4 rfl ?_
  refine z_cS hx (c_TD_needHolder hg5) ⟨a3_107, a3_109, a1_1, ⟨by decide +kernel, by decide +kernel⟩, fun sig h => by cases h; rfl⟩ a3_108 rfl rfl d_TD_open_5 (by rw [hrm]; exact ⟨Nat.le_of_ble_eq_true rfl, Nat.le_of_ble_eq_true rfl, Nat.le_of_ble_eq_true rfl, Nat.le_of_ble_eq_true rfl⟩) ?_
  show zV x ad (Lay K ad S) _ _ _ 8 []
  refine z_aload_n hx 0 d_TD_open_8 rfl ?_
  refine z_get hx k_TD (t := 0) rfl 1 (by decide) a1_129 rfl d_TD_open_9 ?_
  refine z_getN hx k_Jo (t := 3) rfl 0 (by decide) a1_58 rfl d_TD_open_12 ?_
  refine z_if_eq (tgt := 21) hx d_TD_open_15 (by decide) (fun h1 => ?_) (fun h1 => ?_)
  · refine z_iload_n hx 1 d_TD_open_21 rfl ?_
    refine z_iload_n hx 2 d_TD_open_22 rfl ?_
    refine z_icmp_eq (tgt := 33) hx d_TD_open_23 (by decide) (fun h2 => ?_) (fun h2 => ?_)
    · refine z_iconst (v := 0) hx d_TD_open_33 rfl ?_
      have e9 : dOpen S h g = (0, S) := by unfold dOpen; (first | rw [if_pos h1] | rw [if_neg h1] | skip); (first | rw [if_pos h2] | rw [if_neg h2] | skip); (try rfl)
      exact z_iret hx hr rfl hq (Nat.le_refl _) (Nat.le_refl _) d_TD_open_34 ⟨by rw [e9], rfl, by rw [e9]⟩
    · refine z_aload_n hx 0 d_TD_open_26 rfl ?_
      refine z_get hx k_TD (t := 0) rfl 7 (by decide) a1_135 rfl d_TD_open_27 ?_
      refine z_if_eq (tgt := 35) hx d_TD_open_30 (by decide) (fun h3 => ?_) (fun h3 => ?_)
      · refine z_aload_n hx 0 d_TD_open_35 rfl ?_
        refine z_get hx k_TD (t := 0) rfl 1 (by decide) a1_129 rfl d_TD_open_36 ?_
        by_cases h4 : S.2.2 3 1 = 0
        · refine z_cV hx (c_Jo_write_ok h4) k_Jo rfl ⟨a2_40, a2_43, a1_3, ⟨by decide +kernel, by decide +kernel⟩, fun sig h => by cases h; rfl⟩ a2_41 a2_42 rfl rfl d_TD_open_39 (by rw [hrm]; exact ⟨Nat.le_of_ble_eq_true rfl, Nat.le_of_ble_eq_true rfl, Nat.le_of_ble_eq_true rfl, Nat.le_of_ble_eq_true rfl⟩) ?_
          show zV x ad (Lay K ad (stM S 3 2 (S.2.2 3 2 + 1))) _ _ _ 42 [.int 1]
          refine z_if_ne (tgt := 48) hx d_TD_open_42 (by decide) (fun _ => ?_) (fun h => absurd h (by decide))
          refine z_aload_n hx 0 d_TD_open_48 rfl ?_
          refine z_iconst (v := 1) hx d_TD_open_49 rfl ?_
          refine z_put hx k_TD (t := 0) rfl 7 (by decide) a1_135 rfl rfl rfl (Nat.le_of_ble_eq_true rfl) d_TD_open_50 (ce1 := Lay K ad (stM (stM S 3 2 (S.2.2 3 2 + 1)) 0 7 1)) (Lay_put (by decide) rfl) ?_
          refine z_iconst (v := 1) hx d_TD_open_53 rfl ?_
          have e9 : dOpen S h g = (1, stM (stM S 3 2 (S.2.2 3 2 + 1)) 0 7 1) := by unfold dOpen; (first | rw [if_pos h1] | rw [if_neg h1] | skip); (first | rw [if_pos h2] | rw [if_neg h2] | skip); (first | rw [if_pos h3] | rw [if_neg h3] | skip); (first | rw [if_pos h4] | rw [if_neg h4] | skip); (try rfl)
          exact z_iret hx hr rfl hq (Nat.le_refl _) (Nat.le_refl _) d_TD_open_54 ⟨by rw [e9], rfl, by rw [e9]⟩
        · refine z_cV hx (c_Jo_write_torn h4) k_Jo rfl ⟨a2_40, a2_43, a1_3, ⟨by decide +kernel, by decide +kernel⟩, fun sig h => by cases h; rfl⟩ a2_41 a2_42 rfl rfl d_TD_open_39 (by rw [hrm]; exact ⟨Nat.le_of_ble_eq_true rfl, Nat.le_of_ble_eq_true rfl, Nat.le_of_ble_eq_true rfl, Nat.le_of_ble_eq_true rfl⟩) ?_
          show zV x ad (Lay K ad (stM (stM S 3 1 0) 3 0 1)) _ _ _ 42 [.int 0]
          refine z_if_ne (tgt := 48) hx d_TD_open_42 (by decide) (fun h => absurd (by decide) h) (fun _ => ?_)
          refine z_bipush (v := (-2)) hx d_TD_open_45 rfl ?_
          have e9 : dOpen S h g = ((-2), stM (stM S 3 1 0) 3 0 1) := by unfold dOpen; (first | rw [if_pos h1] | rw [if_neg h1] | skip); (first | rw [if_pos h2] | rw [if_neg h2] | skip); (first | rw [if_pos h3] | rw [if_neg h3] | skip); (first | rw [if_pos h4] | rw [if_neg h4] | skip); (try rfl)
          exact z_iret hx hr rfl hq (Nat.le_refl _) (Nat.le_refl _) d_TD_open_47 ⟨by rw [e9], rfl, by rw [e9]⟩
      · refine z_iconst (v := 0) hx d_TD_open_33 rfl ?_
        have e9 : dOpen S h g = (0, S) := by unfold dOpen; (first | rw [if_pos h1] | rw [if_neg h1] | skip); (first | rw [if_pos h2] | rw [if_neg h2] | skip); (first | rw [if_pos h3] | rw [if_neg h3] | skip); (try rfl)
        exact z_iret hx hr rfl hq (Nat.le_refl _) (Nat.le_refl _) d_TD_open_34 ⟨by rw [e9], rfl, by rw [e9]⟩
  · refine z_bipush (v := (-2)) hx d_TD_open_18 rfl ?_
    have e9 : dOpen S h g = ((-2), S) := by unfold dOpen; (first | rw [if_pos h1] | rw [if_neg h1] | skip); (try rfl)
    exact z_iret hx hr rfl hq (Nat.le_refl _) (Nat.le_refl _) d_TD_open_20 ⟨by rw [e9], rfl, by rw [e9]⟩
set_option maxRecDepth 20000 in
theorem c_TD_mount {l : Launch} {D : va_G} {K : Nat → ClassId} {ad : Nat → Nat} {S : zSt} (hd : S.2.2 3 0 ≠ 0) : zC l TB D zcls (ztyl K) y_TD_mount (.code y_TD_mount b_TD_mount 1 (some FieldType.int)) (rmk 0 0) [.ref (ad 0)] ad (Lay K ad S) (zP K ad (some (.int (S.2.2 3 2))) (stM S 3 0 0)) := by
  refine zC.of (by decide +kernel) (Nat.le_of_ble_eq_true rfl) ?_
  intro x hx hr hml hnm hrm hq hNH
  show zV x ad (Lay K ad S) 0 0 [(0, .ref (ad 0))] 0 []
  refine z_aload_n hx 0 d_TD_mount_0 rfl ?_
  refine z_get hx k_TD (t := 0) rfl 1 (by decide) a1_129 rfl d_TD_mount_1 ?_
  refine z_getN hx k_Jo (t := 3) rfl 0 (by decide) a1_58 rfl d_TD_mount_4 ?_
  refine z_if_ne (tgt := 18) hx d_TD_mount_7 (by decide) (fun _ => ?_) (fun h => absurd h hd)
  refine z_aload_n hx 0 d_TD_mount_18 rfl ?_
  refine z_get hx k_TD (t := 0) rfl 1 (by decide) a1_129 rfl d_TD_mount_19 ?_
  refine z_iconst (v := 0) hx d_TD_mount_22 rfl ?_
  refine z_putN hx k_Jo (t := 3) rfl 0 (by decide) a1_58 rfl rfl rfl (Nat.le_of_ble_eq_true rfl) d_TD_mount_23 (ce1 := Lay K ad (stM S 3 0 0)) (Lay_put (by decide) rfl) ?_
  refine z_aload_n hx 0 d_TD_mount_26 rfl ?_
  refine z_get hx k_TD (t := 0) rfl 1 (by decide) a1_129 rfl d_TD_mount_27 ?_
  refine z_getN hx k_Jo (t := 3) rfl 2 (by decide) a1_61 rfl d_TD_mount_30 ?_
  refine z_top (b := S.2.2 3 2) (rd_j (by decide)) ?_
  exact z_iret hx hr rfl hq (Nat.le_refl _) (Nat.le_refl _) d_TD_mount_33 ⟨rfl, rfl, rfl⟩
set_option maxRecDepth 20000 in
theorem c_TD_tear {l : Launch} {D : va_G} {K : Nat → ClassId} {ad : Nat → Nat} {S : zSt}  : zC l TB D zcls (ztyl K) y_TD_tear (.code y_TD_tear b_TD_tear 1 (none : Option FieldType)) (rmk 1 20) [.ref (ad 0)] ad (Lay K ad S) (zP K ad none (if S.2.2 3 0 = 0 then stM S 3 1 1 else S)) := by
  refine zC.of (by decide +kernel) (Nat.le_of_ble_eq_true rfl) ?_
  intro x hx hr hml hnm hrm hq hNH
  show zV x ad (Lay K ad S) 0 0 [(0, .ref (ad 0))] 0 []
  refine z_aload_n hx 0 d_TD_tear_0 rfl ?_
  refine z_get hx k_TD (t := 0) rfl 1 (by decide) a1_129 rfl d_TD_tear_1 ?_
  refine z_cV hx (c_Jo_tearNext) k_Jo rfl ⟨a1_157, a1_160, a1_3, ⟨by decide +kernel, by decide +kernel⟩, fun sig h => by cases h; rfl⟩ a1_158 a1_159 rfl rfl d_TD_tear_4 (by rw [hrm]; exact ⟨Nat.le_of_ble_eq_true rfl, Nat.le_of_ble_eq_true rfl, Nat.le_of_ble_eq_true rfl, Nat.le_of_ble_eq_true rfl⟩) ?_
  show zV x ad (Lay K ad (if S.2.2 3 0 = 0 then stM S 3 1 1 else S)) _ _ _ 7 []
  exact z_vret hx hr hq (Nat.le_refl _) (Nat.le_refl _) d_TD_tear_7 ⟨rfl, rfl, rfl⟩
set_option maxRecDepth 20000 in
theorem c_TD_blocks {l : Launch} {D : va_G} {K : Nat → ClassId} {ad : Nat → Nat} {S : zSt} {s : Nat} (hs : s < 8) : zC l TB D zcls (ztyl K) y_TD_blocks (.code y_TD_blocks b_TD_blocks 2 (some FieldType.int)) (rmk 1 21) [.ref (ad 0), .int (nI s)] ad (Lay K ad S) (zP K ad (some (.int (S.2.2 (40 + s) 6))) S) := by
  refine zC.of (by decide +kernel) (Nat.le_of_ble_eq_true rfl) ?_
  intro x hx hr hml hnm hrm hq hNH
  show zV x ad (Lay K ad S) 0 0 [(0, .ref (ad 0)), (1, .int (nI s))] 0 []
  refine z_aload_n hx 0 d_TD_blocks_0 rfl ?_
  refine z_iload_n hx 1 d_TD_blocks_1 rfl ?_
  refine z_cV hx (c_TD_stratumAt hs) k_TD rfl ⟨a2_6, a2_9, a1_1, ⟨by decide +kernel, by decide +kernel⟩, fun sig h => by cases h; rfl⟩ a2_8 s_TD_stratumAt rfl rfl d_TD_blocks_2 (by rw [hrm]; exact ⟨Nat.le_of_ble_eq_true rfl, Nat.le_of_ble_eq_true rfl, Nat.le_of_ble_eq_true rfl, Nat.le_of_ble_eq_true rfl⟩) ?_
  show zV x ad (Lay K ad S) _ _ _ 5 [.ref (ad (40 + s))]
  refine z_getN hx k_St (t := 40 + s) (Lay_St hs) 6 (by decide) a1_106 rfl d_TD_blocks_5 ?_
  exact z_iret hx hr rfl hq (Nat.le_refl _) (Nat.le_refl _) d_TD_blocks_8 ⟨rfl, rfl, rfl⟩
set_option maxRecDepth 20000 in
theorem c_TD_entry_shut {l : Launch} {D : va_G} {K : Nat → ClassId} {ad : Nat → Nat} {S : zSt} {s : Nat} (hs : s < 8) {v1 : Int32} (ho7 : S.2.2 0 7 = 0) : zC l TB D zcls (ztyl K) y_TD_entry (.code y_TD_entry b_TD_entry 4 (some FieldType.int)) (rmk 2 42) [.ref (ad 0), .int (nI s), .int v1] ad (Lay K ad S) (zP K ad (some (.int (-1))) S) := by
  refine zC.of (by decide +kernel) (Nat.le_of_ble_eq_true rfl) ?_
  intro x hx hr hml hnm hrm hq hNH
  show zV x ad (Lay K ad S) 0 0 [(0, .ref (ad 0)), (1, .int (nI s)), (2, .int v1)] 0 []
  refine z_aload_n hx 0 d_TD_entry_0 rfl ?_
  refine z_iload_n hx 1 d_TD_entry_1 rfl ?_
  refine z_cV hx (c_TD_stratumAt hs) k_TD rfl ⟨a2_6, a2_9, a1_1, ⟨by decide +kernel, by decide +kernel⟩, fun sig h => by cases h; rfl⟩ a2_8 s_TD_stratumAt rfl rfl d_TD_entry_2 (by rw [hrm]; exact ⟨Nat.le_of_ble_eq_true rfl, Nat.le_of_ble_eq_true rfl, Nat.le_of_ble_eq_true rfl, Nat.le_of_ble_eq_true rfl⟩) ?_
  show zV x ad (Lay K ad S) _ _ _ 5 [.ref (ad (40 + s))]
  refine z_astore_n hx [(3, .ref (ad (40 + s))), (0, .ref (ad 0)), (1, .int (nI s)), (2, .int v1)] d_TD_entry_5 rfl (zN hml (by decide)) rfl ?_
  refine z_aload_n hx 1 d_TD_entry_6 rfl ?_
  refine z_get hx k_TD (t := 0) rfl 7 (by decide) a1_135 rfl d_TD_entry_7 ?_
  refine z_if_eq (tgt := 21) hx d_TD_entry_10 (by decide) (fun _ => ?_) (fun h => absurd ho7 h)
  refine z_iconst (v := (-1)) hx d_TD_entry_21 rfl ?_
  exact z_iret hx hr rfl hq (Nat.le_refl _) (Nat.le_refl _) d_TD_entry_22 ⟨rfl, rfl, rfl⟩
set_option maxRecDepth 20000 in
theorem c_TD_entry_own {l : Launch} {D : va_G} {K : Nat → ClassId} {ad : Nat → Nat} {S : zSt} {s : Nat} (hs : s < 8) {v1 : Int32} (ho7 : ¬ S.2.2 0 7 = 0) (hw : S.1 (40 + s) ≠ 1) : zC l TB D zcls (ztyl K) y_TD_entry (.code y_TD_entry b_TD_entry 4 (some FieldType.int)) (rmk 2 42) [.ref (ad 0), .int (nI s), .int v1] ad (Lay K ad S) (zP K ad (some (.int (-1))) S) := by
  refine zC.of (by decide +kernel) (Nat.le_of_ble_eq_true rfl) ?_
  intro x hx hr hml hnm hrm hq hNH
  show zV x ad (Lay K ad S) 0 0 [(0, .ref (ad 0)), (1, .int (nI s)), (2, .int v1)] 0 []
  refine z_aload_n hx 0 d_TD_entry_0 rfl ?_
  refine z_iload_n hx 1 d_TD_entry_1 rfl ?_
  refine z_cV hx (c_TD_stratumAt hs) k_TD rfl ⟨a2_6, a2_9, a1_1, ⟨by decide +kernel, by decide +kernel⟩, fun sig h => by cases h; rfl⟩ a2_8 s_TD_stratumAt rfl rfl d_TD_entry_2 (by rw [hrm]; exact ⟨Nat.le_of_ble_eq_true rfl, Nat.le_of_ble_eq_true rfl, Nat.le_of_ble_eq_true rfl, Nat.le_of_ble_eq_true rfl⟩) ?_
  show zV x ad (Lay K ad S) _ _ _ 5 [.ref (ad (40 + s))]
  refine z_astore_n hx [(3, .ref (ad (40 + s))), (0, .ref (ad 0)), (1, .int (nI s)), (2, .int v1)] d_TD_entry_5 rfl (zN hml (by decide)) rfl ?_
  refine z_aload_n hx 1 d_TD_entry_6 rfl ?_
  refine z_get hx k_TD (t := 0) rfl 7 (by decide) a1_135 rfl d_TD_entry_7 ?_
  refine z_if_eq (tgt := 21) hx d_TD_entry_10 (by decide) (fun h => absurd h ho7) (fun _ => ?_)
  refine z_aload_n hx 0 d_TD_entry_13 rfl ?_
  refine z_iload_n hx 3 d_TD_entry_14 rfl ?_
  refine z_cV hx (c_St_takenArm_own hs hw) k_St (Lay_St hs) ⟨a3_176, a3_179, a1_5, ⟨by decide +kernel, by decide +kernel⟩, fun sig h => by cases h; rfl⟩ a3_177 a3_178 rfl rfl d_TD_entry_15 (by rw [hrm]; exact ⟨Nat.le_of_ble_eq_true rfl, Nat.le_of_ble_eq_true rfl, Nat.le_of_ble_eq_true rfl, Nat.le_of_ble_eq_true rfl⟩) ?_
  show zV x ad (Lay K ad S) _ _ _ 18 [.int ((-1))]
  refine z_goto (tgt := 22) hx d_TD_entry_18 (by decide) ?_
  exact z_iret hx hr rfl hq (Nat.le_refl _) (Nat.le_refl _) d_TD_entry_22 ⟨rfl, rfl, rfl⟩
set_option maxRecDepth 20000 in
theorem c_TD_entry_neg {l : Launch} {D : va_G} {K : Nat → ClassId} {ad : Nat → Nat} {S : zSt} {s : Nat} (hs : s < 8) {v1 : Int32} (hg : S.1 (40 + s) = 1) (ho7 : ¬ S.2.2 0 7 = 0) {A Z : Nat} (hA : S.2.2 (40 + s) 6 = nI A) (hZ : S.2.2 1 3 = nI Z) (hAZ : A * Z < 2 ^ 31) (hv : v1 < 0) : zC l TB D zcls (ztyl K) y_TD_entry (.code y_TD_entry b_TD_entry 4 (some FieldType.int)) (rmk 2 42) [.ref (ad 0), .int (nI s), .int v1] ad (Lay K ad S) (zP K ad (some (.int (-1))) S) := by
  refine zC.of (by decide +kernel) (Nat.le_of_ble_eq_true rfl) ?_
  intro x hx hr hml hnm hrm hq hNH
  show zV x ad (Lay K ad S) 0 0 [(0, .ref (ad 0)), (1, .int (nI s)), (2, .int v1)] 0 []
  refine z_aload_n hx 0 d_TD_entry_0 rfl ?_
  refine z_iload_n hx 1 d_TD_entry_1 rfl ?_
  refine z_cV hx (c_TD_stratumAt hs) k_TD rfl ⟨a2_6, a2_9, a1_1, ⟨by decide +kernel, by decide +kernel⟩, fun sig h => by cases h; rfl⟩ a2_8 s_TD_stratumAt rfl rfl d_TD_entry_2 (by rw [hrm]; exact ⟨Nat.le_of_ble_eq_true rfl, Nat.le_of_ble_eq_true rfl, Nat.le_of_ble_eq_true rfl, Nat.le_of_ble_eq_true rfl⟩) ?_
  show zV x ad (Lay K ad S) _ _ _ 5 [.ref (ad (40 + s))]
  refine z_astore_n hx [(3, .ref (ad (40 + s))), (0, .ref (ad 0)), (1, .int (nI s)), (2, .int v1)] d_TD_entry_5 rfl (zN hml (by decide)) rfl ?_
  refine z_aload_n hx 1 d_TD_entry_6 rfl ?_
  refine z_get hx k_TD (t := 0) rfl 7 (by decide) a1_135 rfl d_TD_entry_7 ?_
  refine z_if_eq (tgt := 21) hx d_TD_entry_10 (by decide) (fun h => absurd h ho7) (fun _ => ?_)
  refine z_aload_n hx 0 d_TD_entry_13 rfl ?_
  refine z_iload_n hx 3 d_TD_entry_14 rfl ?_
  refine z_cV hx (c_St_takenArm_neg hs hg hA hZ hAZ hv) k_St (Lay_St hs) ⟨a3_176, a3_179, a1_5, ⟨by decide +kernel, by decide +kernel⟩, fun sig h => by cases h; rfl⟩ a3_177 a3_178 rfl rfl d_TD_entry_15 (by rw [hrm]; exact ⟨Nat.le_of_ble_eq_true rfl, Nat.le_of_ble_eq_true rfl, Nat.le_of_ble_eq_true rfl, Nat.le_of_ble_eq_true rfl⟩) ?_
  show zV x ad (Lay K ad S) _ _ _ 18 [.int ((-1))]
  refine z_goto (tgt := 22) hx d_TD_entry_18 (by decide) ?_
  exact z_iret hx hr rfl hq (Nat.le_refl _) (Nat.le_refl _) d_TD_entry_22 ⟨rfl, rfl, rfl⟩
set_option maxRecDepth 20000 in
theorem c_TD_entry {l : Launch} {D : va_G} {K : Nat → ClassId} {ad : Nat → Nat} {S : zSt} {s : Nat} (hs : s < 8)  (hg : S.1 (40 + s) = 1) (ho7 : ¬ S.2.2 0 7 = 0) {q A B Z : Nat} (hB : S.2.2 (40 + s) 5 = nI B) (hA : S.2.2 (40 + s) 6 = nI A) (hZ : S.2.2 1 3 = nI Z) (hAZ : A * Z < 2 ^ 31) (hBZ : B * Z < 2 ^ 31) (hq0 : q < 2 ^ 31) (hL : S.1 (60 + s) < 2 ^ 31) : zC l TB D zcls (ztyl K) y_TD_entry (.code y_TD_entry b_TD_entry 4 (some FieldType.int)) (rmk 2 42) [.ref (ad 0), .int (nI s), .int (nI q)] ad (Lay K ad S) (zP K ad (some (.int (if q < A * Z then (if q < B * Z ∧ q < S.1 (60 + s) then S.2.2 (60 + s) q else -1) else -1))) S) := by
  refine zC.of (by decide +kernel) (Nat.le_of_ble_eq_true rfl) ?_
  intro x hx hr hml hnm hrm hq hNH
  show zV x ad (Lay K ad S) 0 0 [(0, .ref (ad 0)), (1, .int (nI s)), (2, .int (nI q))] 0 []
  refine z_aload_n hx 0 d_TD_entry_0 rfl ?_
  refine z_iload_n hx 1 d_TD_entry_1 rfl ?_
  refine z_cV hx (c_TD_stratumAt hs) k_TD rfl ⟨a2_6, a2_9, a1_1, ⟨by decide +kernel, by decide +kernel⟩, fun sig h => by cases h; rfl⟩ a2_8 s_TD_stratumAt rfl rfl d_TD_entry_2 (by rw [hrm]; exact ⟨Nat.le_of_ble_eq_true rfl, Nat.le_of_ble_eq_true rfl, Nat.le_of_ble_eq_true rfl, Nat.le_of_ble_eq_true rfl⟩) ?_
  show zV x ad (Lay K ad S) _ _ _ 5 [.ref (ad (40 + s))]
  refine z_astore_n hx [(3, .ref (ad (40 + s))), (0, .ref (ad 0)), (1, .int (nI s)), (2, .int (nI q))] d_TD_entry_5 rfl (zN hml (by decide)) rfl ?_
  refine z_aload_n hx 1 d_TD_entry_6 rfl ?_
  refine z_get hx k_TD (t := 0) rfl 7 (by decide) a1_135 rfl d_TD_entry_7 ?_
  refine z_if_eq (tgt := 21) hx d_TD_entry_10 (by decide) (fun h => absurd h ho7) (fun _ => ?_)
  refine z_aload_n hx 0 d_TD_entry_13 rfl ?_
  refine z_iload_n hx 3 d_TD_entry_14 rfl ?_
  refine z_cV hx (c_St_takenArm hs hg hB hA hZ hAZ hBZ hq0 hL) k_St (Lay_St hs) ⟨a3_176, a3_179, a1_5, ⟨by decide +kernel, by decide +kernel⟩, fun sig h => by cases h; rfl⟩ a3_177 a3_178 rfl rfl d_TD_entry_15 (by rw [hrm]; exact ⟨Nat.le_of_ble_eq_true rfl, Nat.le_of_ble_eq_true rfl, Nat.le_of_ble_eq_true rfl, Nat.le_of_ble_eq_true rfl⟩) ?_
  show zV x ad (Lay K ad S) _ _ _ 18 [.int (if q < A * Z then (if q < B * Z ∧ q < S.1 (60 + s) then S.2.2 (60 + s) q else -1) else -1)]
  refine z_goto (tgt := 22) hx d_TD_entry_18 (by decide) ?_
  exact z_iret hx hr rfl hq (Nat.le_refl _) (Nat.le_refl _) d_TD_entry_22 ⟨rfl, rfl, rfl⟩
def dCount (S : zSt) (s a : Nat) : Int32 × zSt := if S.2.2 0 7 = 0 then (-1, S) else (S.2.2 (50 + s) a, S)
set_option maxRecDepth 20000 in
theorem c_TD_count {l : Launch} {D : va_G} {K : Nat → ClassId} {ad : Nat → Nat} {S : zSt} {s : Nat} (hs : s < 8) {a : Nat} (ha : a < 4) (hav : nI a < (if S.2.2 1 1 = 0 then 4 else S.2.2 1 1)) (hpl : S.2.2 1 1 ≠ 0) : zC l TB D zcls (ztyl K) y_TD_count (.code y_TD_count b_TD_count 4 (some FieldType.int)) (rmk 1 22) [.ref (ad 0), .int (nI s), .int (nI a)] ad (Lay K ad S) (zP K ad (some (.int (dCount S s a).1)) (dCount S s a).2) := by
  refine zC.of (by decide +kernel) (Nat.le_of_ble_eq_true rfl) ?_
  intro x hx hr hml hnm hrm hq hNH
  show zV x ad (Lay K ad S) 0 0 [(0, .ref (ad 0)), (1, .int (nI s)), (2, .int (nI a))] 0 []
  refine z_aload_n hx 0 d_TD_count_0 rfl ?_
  refine z_iload_n hx 1 d_TD_count_1 rfl ?_
  refine z_cV hx (c_TD_stratumAt hs) k_TD rfl ⟨a2_6, a2_9, a1_1, ⟨by decide +kernel, by decide +kernel⟩, fun sig h => by cases h; rfl⟩ a2_8 s_TD_stratumAt rfl rfl d_TD_count_2 (by rw [hrm]; exact ⟨Nat.le_of_ble_eq_true rfl, Nat.le_of_ble_eq_true rfl, Nat.le_of_ble_eq_true rfl, Nat.le_of_ble_eq_true rfl⟩) ?_
  show zV x ad (Lay K ad S) _ _ _ 5 [.ref (ad (40 + s))]
  refine z_astore_n hx [(3, .ref (ad (40 + s))), (0, .ref (ad 0)), (1, .int (nI s)), (2, .int (nI a))] d_TD_count_5 rfl (zN hml (by decide)) rfl ?_
  refine z_aload_n hx 1 d_TD_count_6 rfl ?_
  refine z_iload_n hx 3 d_TD_count_7 rfl ?_
  refine z_cV hx (c_TD_needArm (nI_pos (by omega)) hav) k_TD rfl ⟨a2_117, a2_120, a1_1, ⟨by decide +kernel, by decide +kernel⟩, fun sig h => by cases h; rfl⟩ a2_119 s_TD_needArm rfl rfl d_TD_count_8 (by rw [hrm]; exact ⟨Nat.le_of_ble_eq_true rfl, Nat.le_of_ble_eq_true rfl, Nat.le_of_ble_eq_true rfl, Nat.le_of_ble_eq_true rfl⟩) ?_
  show zV x ad (Lay K ad S) _ _ _ 11 []
  refine z_aload_n hx 1 d_TD_count_11 rfl ?_
  refine z_cV hx (c_TD_needPlan hpl) k_TD rfl ⟨a2_125, a2_128, a1_1, ⟨by decide +kernel, by decide +kernel⟩, fun sig h => by cases h; rfl⟩ a2_127 s_TD_needPlan rfl rfl d_TD_count_12 (by rw [hrm]; exact ⟨Nat.le_of_ble_eq_true rfl, Nat.le_of_ble_eq_true rfl, Nat.le_of_ble_eq_true rfl, Nat.le_of_ble_eq_true rfl⟩) ?_
  show zV x ad (Lay K ad S) _ _ _ 15 []
  refine z_aload_n hx 1 d_TD_count_15 rfl ?_
  refine z_get hx k_TD (t := 0) rfl 7 (by decide) a1_135 rfl d_TD_count_16 ?_
  refine z_if_eq (tgt := 30) hx d_TD_count_19 (by decide) (fun h1 => ?_) (fun h1 => ?_)
  · refine z_iconst (v := (-1)) hx d_TD_count_30 rfl ?_
    have e9 : dCount S s a = ((-1), S) := by unfold dCount; (first | rw [if_pos h1] | rw [if_neg h1] | skip); (try rfl)
    exact z_iret hx hr rfl hq (Nat.le_refl _) (Nat.le_refl _) d_TD_count_31 ⟨by rw [e9], rfl, by rw [e9]⟩
  · refine z_aload_n hx 0 d_TD_count_22 rfl ?_
    refine z_iload_n hx 3 d_TD_count_23 rfl ?_
    refine z_cV hx (c_St_knownWith hs ha) k_St (Lay_St hs) ⟨a3_149, a3_152, a1_5, ⟨by decide +kernel, by decide +kernel⟩, fun sig h => by cases h; rfl⟩ a3_150 a3_151 rfl rfl d_TD_count_24 (by rw [hrm]; exact ⟨Nat.le_of_ble_eq_true rfl, Nat.le_of_ble_eq_true rfl, Nat.le_of_ble_eq_true rfl, Nat.le_of_ble_eq_true rfl⟩) ?_
    show zV x ad (Lay K ad S) _ _ _ 27 [.int (S.2.2 (50 + s) a)]
    refine z_goto (tgt := 31) hx d_TD_count_27 (by decide) ?_
    have e9 : dCount S s a = (S.2.2 (50 + s) a, S) := by unfold dCount; (first | rw [if_pos h1] | rw [if_neg h1] | skip); (try rfl)
    exact z_iret hx hr rfl hq (Nat.le_refl _) (Nat.le_refl _) d_TD_count_31 ⟨by rw [e9], rfl, by rw [e9]⟩
def dUsed (S : zSt) (k : Nat) : Int32 × zSt := if S.2.2 0 7 = 0 then (-1, S) else (if S.2.2 7 k = 3 then S.2.2 5 k * 100 + S.2.2 8 k else -1, S)
set_option maxRecDepth 20000 in
theorem c_TD_used {l : Launch} {D : va_G} {K : Nat → ClassId} {ad : Nat → Nat} {S : zSt} {k : Nat} (hk : k < 1000) : zC l TB D zcls (ztyl K) y_TD_used (.code y_TD_used b_TD_used 2 (some FieldType.int)) (rmk 2 41) [.ref (ad 0), .int (nI k)] ad (Lay K ad S) (zP K ad (some (.int (dUsed S k).1)) (dUsed S k).2) := by
  refine zC.of (by decide +kernel) (Nat.le_of_ble_eq_true rfl) ?_
  intro x hx hr hml hnm hrm hq hNH
  show zV x ad (Lay K ad S) 0 0 [(0, .ref (ad 0)), (1, .int (nI k))] 0 []
  refine z_iload_n hx 1 d_TD_used_0 rfl ?_
  refine z_cS hx (c_TD_needKit hk) ⟨a2_121, a2_123, a1_1, ⟨by decide +kernel, by decide +kernel⟩, fun sig h => by cases h; rfl⟩ a2_122 rfl rfl d_TD_used_1 (by rw [hrm]; exact ⟨Nat.le_of_ble_eq_true rfl, Nat.le_of_ble_eq_true rfl, Nat.le_of_ble_eq_true rfl, Nat.le_of_ble_eq_true rfl⟩) ?_
  show zV x ad (Lay K ad S) _ _ _ 4 []
  refine z_aload_n hx 0 d_TD_used_4 rfl ?_
  refine z_get hx k_TD (t := 0) rfl 7 (by decide) a1_135 rfl d_TD_used_5 ?_
  refine z_if_eq (tgt := 22) hx d_TD_used_8 (by decide) (fun h1 => ?_) (fun h1 => ?_)
  · refine z_iconst (v := (-1)) hx d_TD_used_22 rfl ?_
    have e9 : dUsed S k = ((-1), S) := by unfold dUsed; (first | rw [if_pos h1] | rw [if_neg h1] | skip); (try rfl)
    exact z_iret hx hr rfl hq (Nat.le_refl _) (Nat.le_refl _) d_TD_used_23 ⟨by rw [e9], rfl, by rw [e9]⟩
  · refine z_aload_n hx 0 d_TD_used_11 rfl ?_
    refine z_get hx k_TD (t := 0) rfl 2 (by decide) a1_130 rfl d_TD_used_12 ?_
    refine z_iload_n hx 1 d_TD_used_15 rfl ?_
    refine z_cV hx (c_Sh_userOf hk) k_Sh rfl ⟨a3_205, a3_208, a1_4, ⟨by decide +kernel, by decide +kernel⟩, fun sig h => by cases h; rfl⟩ a3_206 a3_207 rfl rfl d_TD_used_16 (by rw [hrm]; exact ⟨Nat.le_of_ble_eq_true rfl, Nat.le_of_ble_eq_true rfl, Nat.le_of_ble_eq_true rfl, Nat.le_of_ble_eq_true rfl⟩) ?_
    show zV x ad (Lay K ad S) _ _ _ 19 [.int (if S.2.2 7 k = 3 then S.2.2 5 k * 100 + S.2.2 8 k else -1)]
    refine z_goto (tgt := 23) hx d_TD_used_19 (by decide) ?_
    have e9 : dUsed S k = (if S.2.2 7 k = 3 then S.2.2 5 k * 100 + S.2.2 8 k else -1, S) := by unfold dUsed; (first | rw [if_pos h1] | rw [if_neg h1] | skip); (try rfl)
    exact z_iret hx hr rfl hq (Nat.le_refl _) (Nat.le_refl _) d_TD_used_23 ⟨by rw [e9], rfl, by rw [e9]⟩
def tlF (S : zSt) (i : Nat) (w : Int32) : Int32 := nI (cntI (fun q => decide (S.2.2 7 q = w ∧ S.2.2 5 q = nI i)) 1000)
set_option maxRecDepth 20000 in
theorem c_TD_stock_0 {l : Launch} {D : va_G} {K : Nat → ClassId} {ad : Nat → Nat} {S : zSt} {i : Nat} (hi : i < 10) (ho : S.2.2 9 i ≠ 0)  : zC l TB D zcls (ztyl K) y_TD_stock (.code y_TD_stock b_TD_stock 3 (some FieldType.int)) (rmk 1 24) [.ref (ad 0), .int (nI i), .int 0] ad (Lay K ad S) (zP K ad (some (.int (tlF S i 1))) S) := by
  refine zC.of (by decide +kernel) (Nat.le_of_ble_eq_true rfl) ?_
  intro x hx hr hml hnm hrm hq hNH
  show zV x ad (Lay K ad S) 0 0 [(0, .ref (ad 0)), (1, .int (nI i)), (2, .int 0)] 0 []
  refine z_aload_n hx 0 d_TD_stock_0 rfl ?_
  refine z_iload_n hx 1 d_TD_stock_1 rfl ?_
  refine z_cV hx (c_TD_siteAt hi ho) k_TD rfl ⟨a2_113, a2_116, a1_1, ⟨by decide +kernel, by decide +kernel⟩, fun sig h => by cases h; rfl⟩ a2_115 s_TD_siteAt rfl rfl d_TD_stock_2 (by rw [hrm]; exact ⟨Nat.le_of_ble_eq_true rfl, Nat.le_of_ble_eq_true rfl, Nat.le_of_ble_eq_true rfl, Nat.le_of_ble_eq_true rfl⟩) ?_
  show zV x ad (Lay K ad S) _ _ _ 5 [.ref (ad (100 + i))]
  refine z_pop hx d_TD_stock_5 rfl ?_
  refine z_iload_n hx 2 d_TD_stock_6 rfl ?_
  refine z_tabIn (tgt := 32) hx d_TD_stock_7 (off := 25) (by decide) (by decide) (by decide) (by decide) ?_
  refine z_aload_n hx 0 d_TD_stock_32 rfl ?_
  refine z_get hx k_TD (t := 0) rfl 2 (by decide) a1_130 rfl d_TD_stock_33 ?_
  refine z_iload_n hx 1 d_TD_stock_36 rfl ?_
  refine z_iconst (v := 1) hx d_TD_stock_37 rfl ?_
  refine z_cV hx (c_Sh_tally) k_Sh rfl ⟨a3_194, a3_197, a1_4, ⟨by decide +kernel, by decide +kernel⟩, fun sig h => by cases h; rfl⟩ a3_195 a3_196 rfl rfl d_TD_stock_38 (by rw [hrm]; exact ⟨Nat.le_of_ble_eq_true rfl, Nat.le_of_ble_eq_true rfl, Nat.le_of_ble_eq_true rfl, Nat.le_of_ble_eq_true rfl⟩) ?_
  show zV x ad (Lay K ad S) _ _ _ 41 [.int (tlF S i 1)]
  exact z_iret hx hr rfl hq (Nat.le_refl _) (Nat.le_refl _) d_TD_stock_41 ⟨rfl, rfl, rfl⟩
set_option maxRecDepth 20000 in
theorem c_TD_stock_1 {l : Launch} {D : va_G} {K : Nat → ClassId} {ad : Nat → Nat} {S : zSt} {i : Nat} (hi : i < 10) (ho : S.2.2 9 i ≠ 0)  : zC l TB D zcls (ztyl K) y_TD_stock (.code y_TD_stock b_TD_stock 3 (some FieldType.int)) (rmk 1 24) [.ref (ad 0), .int (nI i), .int 1] ad (Lay K ad S) (zP K ad (some (.int (tlF S i 2))) S) := by
  refine zC.of (by decide +kernel) (Nat.le_of_ble_eq_true rfl) ?_
  intro x hx hr hml hnm hrm hq hNH
  show zV x ad (Lay K ad S) 0 0 [(0, .ref (ad 0)), (1, .int (nI i)), (2, .int 1)] 0 []
  refine z_aload_n hx 0 d_TD_stock_0 rfl ?_
  refine z_iload_n hx 1 d_TD_stock_1 rfl ?_
  refine z_cV hx (c_TD_siteAt hi ho) k_TD rfl ⟨a2_113, a2_116, a1_1, ⟨by decide +kernel, by decide +kernel⟩, fun sig h => by cases h; rfl⟩ a2_115 s_TD_siteAt rfl rfl d_TD_stock_2 (by rw [hrm]; exact ⟨Nat.le_of_ble_eq_true rfl, Nat.le_of_ble_eq_true rfl, Nat.le_of_ble_eq_true rfl, Nat.le_of_ble_eq_true rfl⟩) ?_
  show zV x ad (Lay K ad S) _ _ _ 5 [.ref (ad (100 + i))]
  refine z_pop hx d_TD_stock_5 rfl ?_
  refine z_iload_n hx 2 d_TD_stock_6 rfl ?_
  refine z_tabIn (tgt := 42) hx d_TD_stock_7 (off := 35) (by decide) (by decide) (by decide) (by decide) ?_
  refine z_aload_n hx 0 d_TD_stock_42 rfl ?_
  refine z_get hx k_TD (t := 0) rfl 2 (by decide) a1_130 rfl d_TD_stock_43 ?_
  refine z_iload_n hx 1 d_TD_stock_46 rfl ?_
  refine z_iconst (v := 2) hx d_TD_stock_47 rfl ?_
  refine z_cV hx (c_Sh_tally) k_Sh rfl ⟨a3_194, a3_197, a1_4, ⟨by decide +kernel, by decide +kernel⟩, fun sig h => by cases h; rfl⟩ a3_195 a3_196 rfl rfl d_TD_stock_48 (by rw [hrm]; exact ⟨Nat.le_of_ble_eq_true rfl, Nat.le_of_ble_eq_true rfl, Nat.le_of_ble_eq_true rfl, Nat.le_of_ble_eq_true rfl⟩) ?_
  show zV x ad (Lay K ad S) _ _ _ 51 [.int (tlF S i 2)]
  exact z_iret hx hr rfl hq (Nat.le_refl _) (Nat.le_refl _) d_TD_stock_51 ⟨rfl, rfl, rfl⟩
set_option maxRecDepth 20000 in
theorem c_TD_stock_2 {l : Launch} {D : va_G} {K : Nat → ClassId} {ad : Nat → Nat} {S : zSt} {i : Nat} (hi : i < 10) (ho : S.2.2 9 i ≠ 0)  : zC l TB D zcls (ztyl K) y_TD_stock (.code y_TD_stock b_TD_stock 3 (some FieldType.int)) (rmk 1 24) [.ref (ad 0), .int (nI i), .int 2] ad (Lay K ad S) (zP K ad (some (.int (tlF S i 3))) S) := by
  refine zC.of (by decide +kernel) (Nat.le_of_ble_eq_true rfl) ?_
  intro x hx hr hml hnm hrm hq hNH
  show zV x ad (Lay K ad S) 0 0 [(0, .ref (ad 0)), (1, .int (nI i)), (2, .int 2)] 0 []
  refine z_aload_n hx 0 d_TD_stock_0 rfl ?_
  refine z_iload_n hx 1 d_TD_stock_1 rfl ?_
  refine z_cV hx (c_TD_siteAt hi ho) k_TD rfl ⟨a2_113, a2_116, a1_1, ⟨by decide +kernel, by decide +kernel⟩, fun sig h => by cases h; rfl⟩ a2_115 s_TD_siteAt rfl rfl d_TD_stock_2 (by rw [hrm]; exact ⟨Nat.le_of_ble_eq_true rfl, Nat.le_of_ble_eq_true rfl, Nat.le_of_ble_eq_true rfl, Nat.le_of_ble_eq_true rfl⟩) ?_
  show zV x ad (Lay K ad S) _ _ _ 5 [.ref (ad (100 + i))]
  refine z_pop hx d_TD_stock_5 rfl ?_
  refine z_iload_n hx 2 d_TD_stock_6 rfl ?_
  refine z_tabIn (tgt := 52) hx d_TD_stock_7 (off := 45) (by decide) (by decide) (by decide) (by decide) ?_
  refine z_aload_n hx 0 d_TD_stock_52 rfl ?_
  refine z_get hx k_TD (t := 0) rfl 2 (by decide) a1_130 rfl d_TD_stock_53 ?_
  refine z_iload_n hx 1 d_TD_stock_56 rfl ?_
  refine z_iconst (v := 3) hx d_TD_stock_57 rfl ?_
  refine z_cV hx (c_Sh_tally) k_Sh rfl ⟨a3_194, a3_197, a1_4, ⟨by decide +kernel, by decide +kernel⟩, fun sig h => by cases h; rfl⟩ a3_195 a3_196 rfl rfl d_TD_stock_58 (by rw [hrm]; exact ⟨Nat.le_of_ble_eq_true rfl, Nat.le_of_ble_eq_true rfl, Nat.le_of_ble_eq_true rfl, Nat.le_of_ble_eq_true rfl⟩) ?_
  show zV x ad (Lay K ad S) _ _ _ 61 [.int (tlF S i 3)]
  exact z_iret hx hr rfl hq (Nat.le_refl _) (Nat.le_refl _) d_TD_stock_61 ⟨rfl, rfl, rfl⟩
def dArm (S : zSt) (i p : Nat) : Int32 × zSt := if S.2.2 0 7 = 0 then (if bcF (S.2.2 (140 + i) p) < 2 then (-1, S) else if S.2.2 (110 + i) p = 2 then (S.2.2 (130 + i) p, S) else (-1, S)) else if S.2.2 (110 + i) p = 2 then (S.2.2 (130 + i) p, S) else (-1, S)
set_option maxRecDepth 20000 in
theorem c_TD_arm {l : Launch} {D : va_G} {K : Nat → ClassId} {ad : Nat → Nat} {S : zSt} {i : Nat} (hi : i < 10) (ho : S.2.2 9 i ≠ 0) {p : Nat} (hp : p < 100) : zC l TB D zcls (ztyl K) y_TD_arm (.code y_TD_arm b_TD_arm 5 (some FieldType.int)) (rmk 2 41) [.ref (ad 0), .int (nI i), .int (nI p)] ad (Lay K ad S) (zP K ad (some (.int (dArm S i p).1)) (dArm S i p).2) := by
  refine zC.of (by decide +kernel) (Nat.le_of_ble_eq_true rfl) ?_
  intro x hx hr hml hnm hrm hq hNH
  show zV x ad (Lay K ad S) 0 0 [(0, .ref (ad 0)), (1, .int (nI i)), (2, .int (nI p))] 0 []
  refine z_aload_n hx 0 d_TD_arm_0 rfl ?_
  refine z_iload_n hx 1 d_TD_arm_1 rfl ?_
  refine z_cV hx (c_TD_siteAt hi ho) k_TD rfl ⟨a2_113, a2_116, a1_1, ⟨by decide +kernel, by decide +kernel⟩, fun sig h => by cases h; rfl⟩ a2_115 s_TD_siteAt rfl rfl d_TD_arm_2 (by rw [hrm]; exact ⟨Nat.le_of_ble_eq_true rfl, Nat.le_of_ble_eq_true rfl, Nat.le_of_ble_eq_true rfl, Nat.le_of_ble_eq_true rfl⟩) ?_
  show zV x ad (Lay K ad S) _ _ _ 5 [.ref (ad (100 + i))]
  refine z_astore_n hx [(3, .ref (ad (100 + i))), (0, .ref (ad 0)), (1, .int (nI i)), (2, .int (nI p))] d_TD_arm_5 rfl (zN hml (by decide)) rfl ?_
  refine z_iload_n hx 3 d_TD_arm_6 rfl ?_
  refine z_cS hx (c_TD_needPerson hp) ⟨a2_155, a2_157, a1_1, ⟨by decide +kernel, by decide +kernel⟩, fun sig h => by cases h; rfl⟩ a2_156 rfl rfl d_TD_arm_7 (by rw [hrm]; exact ⟨Nat.le_of_ble_eq_true rfl, Nat.le_of_ble_eq_true rfl, Nat.le_of_ble_eq_true rfl, Nat.le_of_ble_eq_true rfl⟩) ?_
  show zV x ad (Lay K ad S) _ _ _ 10 []
  refine z_aload_n hx 1 d_TD_arm_10 rfl ?_
  refine z_get hx k_TD (t := 0) rfl 7 (by decide) a1_135 rfl d_TD_arm_11 ?_
  refine z_if_ne (tgt := 26) hx d_TD_arm_14 (by decide) (fun h1 => ?_) (fun h1 => ?_)
  · refine z_iconst (v := 1) hx d_TD_arm_26 rfl ?_
    refine z_goto (tgt := 31) hx d_TD_arm_27 (by decide) ?_
    refine z_istore hx [(4, .int 1), (3, .ref (ad (100 + i))), (0, .ref (ad 0)), (1, .int (nI i)), (2, .int (nI p))] d_TD_arm_31 (zN hml (by decide)) rfl ?_
    refine z_iload hx 0 d_TD_arm_33 rfl ?_
    refine z_if_eq (tgt := 54) hx d_TD_arm_35 (by decide) (fun h => absurd h (by decide)) (fun _ => ?_)
    refine z_aload_n hx 1 d_TD_arm_38 rfl ?_
    refine z_iload_n hx 4 d_TD_arm_39 rfl ?_
    by_cases h2 : S.2.2 (110 + i) p = 2
    · refine z_cV hx ((by have q := c_Si_isKnown (l := l) (D := D) (K := K) (ad := ad) (S := S) hi ho hp; rw [if_pos h2] at q; exact q)) k_Si (Lay_Si hi ho) ⟨a3_131, a3_134, a1_13, ⟨by decide +kernel, by decide +kernel⟩, fun sig h => by cases h; rfl⟩ a3_132 a3_133 rfl rfl d_TD_arm_40 (by rw [hrm]; exact ⟨Nat.le_of_ble_eq_true rfl, Nat.le_of_ble_eq_true rfl, Nat.le_of_ble_eq_true rfl, Nat.le_of_ble_eq_true rfl⟩) ?_
      show zV x ad (Lay K ad S) _ _ _ 43 [.int 1]
      refine z_if_eq (tgt := 54) hx d_TD_arm_43 (by decide) (fun h => absurd h (by decide)) (fun _ => ?_)
      refine z_aload_n hx 1 d_TD_arm_46 rfl ?_
      refine z_iload_n hx 4 d_TD_arm_47 rfl ?_
      refine z_cV hx (c_Si_armOf hi ho hp) k_Si (Lay_Si hi ho) ⟨a3_72, a3_75, a1_13, ⟨by decide +kernel, by decide +kernel⟩, fun sig h => by cases h; rfl⟩ a3_73 a3_74 rfl rfl d_TD_arm_48 (by rw [hrm]; exact ⟨Nat.le_of_ble_eq_true rfl, Nat.le_of_ble_eq_true rfl, Nat.le_of_ble_eq_true rfl, Nat.le_of_ble_eq_true rfl⟩) ?_
      show zV x ad (Lay K ad S) _ _ _ 51 [.int (S.2.2 (130 + i) p)]
      refine z_goto (tgt := 55) hx d_TD_arm_51 (by decide) ?_
      have e9 : dArm S i p = (S.2.2 (130 + i) p, S) := by unfold dArm; (first | rw [if_pos h1] | rw [if_neg h1] | skip); (first | rw [if_pos h2] | rw [if_neg h2] | skip); (try rfl)
      exact z_iret hx hr rfl hq (Nat.le_refl _) (Nat.le_refl _) d_TD_arm_55 ⟨by rw [e9], rfl, by rw [e9]⟩
    · refine z_cV hx ((by have q := c_Si_isKnown (l := l) (D := D) (K := K) (ad := ad) (S := S) hi ho hp; rw [if_neg h2] at q; exact q)) k_Si (Lay_Si hi ho) ⟨a3_131, a3_134, a1_13, ⟨by decide +kernel, by decide +kernel⟩, fun sig h => by cases h; rfl⟩ a3_132 a3_133 rfl rfl d_TD_arm_40 (by rw [hrm]; exact ⟨Nat.le_of_ble_eq_true rfl, Nat.le_of_ble_eq_true rfl, Nat.le_of_ble_eq_true rfl, Nat.le_of_ble_eq_true rfl⟩) ?_
      show zV x ad (Lay K ad S) _ _ _ 43 [.int 0]
      refine z_if_eq (tgt := 54) hx d_TD_arm_43 (by decide) (fun _ => ?_) (fun h => absurd (by decide) h)
      refine z_iconst (v := (-1)) hx d_TD_arm_54 rfl ?_
      have e9 : dArm S i p = ((-1), S) := by unfold dArm; (first | rw [if_pos h1] | rw [if_neg h1] | skip); (first | rw [if_pos h2] | rw [if_neg h2] | skip); (try rfl)
      exact z_iret hx hr rfl hq (Nat.le_refl _) (Nat.le_refl _) d_TD_arm_55 ⟨by rw [e9], rfl, by rw [e9]⟩
  · refine z_aload_n hx 0 d_TD_arm_17 rfl ?_
    refine z_iload_n hx 3 d_TD_arm_18 rfl ?_
    refine z_cV hx (c_Si_keyCount hi ho hp) k_Si (Lay_Si hi ho) ⟨a3_114, a3_117, a1_13, ⟨by decide +kernel, by decide +kernel⟩, fun sig h => by cases h; rfl⟩ a3_115 a3_116 rfl rfl d_TD_arm_19 (by rw [hrm]; exact ⟨Nat.le_of_ble_eq_true rfl, Nat.le_of_ble_eq_true rfl, Nat.le_of_ble_eq_true rfl, Nat.le_of_ble_eq_true rfl⟩) ?_
    show zV x ad (Lay K ad S) _ _ _ 22 [.int (bcF (S.2.2 (140 + i) p))]
    refine z_iconst (v := 2) hx d_TD_arm_22 rfl ?_
    refine z_icmp_lt (tgt := 30) hx d_TD_arm_23 (by decide) (fun h3 => ?_) (fun h3 => ?_)
    · refine z_iconst (v := 0) hx d_TD_arm_30 rfl ?_
      refine z_istore hx [(4, .int 0), (3, .ref (ad (100 + i))), (0, .ref (ad 0)), (1, .int (nI i)), (2, .int (nI p))] d_TD_arm_31 (zN hml (by decide)) rfl ?_
      refine z_iload hx 0 d_TD_arm_33 rfl ?_
      refine z_if_eq (tgt := 54) hx d_TD_arm_35 (by decide) (fun _ => ?_) (fun h => absurd (by decide) h)
      refine z_iconst (v := (-1)) hx d_TD_arm_54 rfl ?_
      have e9 : dArm S i p = ((-1), S) := by unfold dArm; (first | rw [if_pos h1] | rw [if_neg h1] | skip); (first | rw [if_pos h3] | rw [if_neg h3] | skip); (try rfl)
      exact z_iret hx hr rfl hq (Nat.le_refl _) (Nat.le_refl _) d_TD_arm_55 ⟨by rw [e9], rfl, by rw [e9]⟩
    · refine z_iconst (v := 1) hx d_TD_arm_26 rfl ?_
      refine z_goto (tgt := 31) hx d_TD_arm_27 (by decide) ?_
      refine z_istore hx [(4, .int 1), (3, .ref (ad (100 + i))), (0, .ref (ad 0)), (1, .int (nI i)), (2, .int (nI p))] d_TD_arm_31 (zN hml (by decide)) rfl ?_
      refine z_iload hx 0 d_TD_arm_33 rfl ?_
      refine z_if_eq (tgt := 54) hx d_TD_arm_35 (by decide) (fun h => absurd h (by decide)) (fun _ => ?_)
      refine z_aload_n hx 1 d_TD_arm_38 rfl ?_
      refine z_iload_n hx 4 d_TD_arm_39 rfl ?_
      by_cases h4 : S.2.2 (110 + i) p = 2
      · refine z_cV hx ((by have q := c_Si_isKnown (l := l) (D := D) (K := K) (ad := ad) (S := S) hi ho hp; rw [if_pos h4] at q; exact q)) k_Si (Lay_Si hi ho) ⟨a3_131, a3_134, a1_13, ⟨by decide +kernel, by decide +kernel⟩, fun sig h => by cases h; rfl⟩ a3_132 a3_133 rfl rfl d_TD_arm_40 (by rw [hrm]; exact ⟨Nat.le_of_ble_eq_true rfl, Nat.le_of_ble_eq_true rfl, Nat.le_of_ble_eq_true rfl, Nat.le_of_ble_eq_true rfl⟩) ?_
        show zV x ad (Lay K ad S) _ _ _ 43 [.int 1]
        refine z_if_eq (tgt := 54) hx d_TD_arm_43 (by decide) (fun h => absurd h (by decide)) (fun _ => ?_)
        refine z_aload_n hx 1 d_TD_arm_46 rfl ?_
        refine z_iload_n hx 4 d_TD_arm_47 rfl ?_
        refine z_cV hx (c_Si_armOf hi ho hp) k_Si (Lay_Si hi ho) ⟨a3_72, a3_75, a1_13, ⟨by decide +kernel, by decide +kernel⟩, fun sig h => by cases h; rfl⟩ a3_73 a3_74 rfl rfl d_TD_arm_48 (by rw [hrm]; exact ⟨Nat.le_of_ble_eq_true rfl, Nat.le_of_ble_eq_true rfl, Nat.le_of_ble_eq_true rfl, Nat.le_of_ble_eq_true rfl⟩) ?_
        show zV x ad (Lay K ad S) _ _ _ 51 [.int (S.2.2 (130 + i) p)]
        refine z_goto (tgt := 55) hx d_TD_arm_51 (by decide) ?_
        have e9 : dArm S i p = (S.2.2 (130 + i) p, S) := by unfold dArm; (first | rw [if_pos h1] | rw [if_neg h1] | skip); (first | rw [if_pos h3] | rw [if_neg h3] | skip); (first | rw [if_pos h4] | rw [if_neg h4] | skip); (try rfl)
        exact z_iret hx hr rfl hq (Nat.le_refl _) (Nat.le_refl _) d_TD_arm_55 ⟨by rw [e9], rfl, by rw [e9]⟩
      · refine z_cV hx ((by have q := c_Si_isKnown (l := l) (D := D) (K := K) (ad := ad) (S := S) hi ho hp; rw [if_neg h4] at q; exact q)) k_Si (Lay_Si hi ho) ⟨a3_131, a3_134, a1_13, ⟨by decide +kernel, by decide +kernel⟩, fun sig h => by cases h; rfl⟩ a3_132 a3_133 rfl rfl d_TD_arm_40 (by rw [hrm]; exact ⟨Nat.le_of_ble_eq_true rfl, Nat.le_of_ble_eq_true rfl, Nat.le_of_ble_eq_true rfl, Nat.le_of_ble_eq_true rfl⟩) ?_
        show zV x ad (Lay K ad S) _ _ _ 43 [.int 0]
        refine z_if_eq (tgt := 54) hx d_TD_arm_43 (by decide) (fun _ => ?_) (fun h => absurd (by decide) h)
        refine z_iconst (v := (-1)) hx d_TD_arm_54 rfl ?_
        have e9 : dArm S i p = ((-1), S) := by unfold dArm; (first | rw [if_pos h1] | rw [if_neg h1] | skip); (first | rw [if_pos h3] | rw [if_neg h3] | skip); (first | rw [if_pos h4] | rw [if_neg h4] | skip); (try rfl)
        exact z_iret hx hr rfl hq (Nat.le_refl _) (Nat.le_refl _) d_TD_arm_55 ⟨by rw [e9], rfl, by rw [e9]⟩
def dKey (S : zSt) (h i p : Nat) : Int32 × zSt := if S.2.2 3 0 = 0 then (if S.2.2 3 1 = 0 then (bcF ((stM (wOk S) (140 + i) p ((wOk S).2.2 (140 + i) p ||| 1 <<< (nI h &&& 31))).2.2 (140 + i) p), stM (wOk S) (140 + i) p ((wOk S).2.2 (140 + i) p ||| 1 <<< (nI h &&& 31))) else (-2, wT S)) else (-2, S)
set_option maxRecDepth 20000 in
theorem c_TD_key {l : Launch} {D : va_G} {K : Nat → ClassId} {ad : Nat → Nat} {S : zSt} {h : Nat} (hh : h < 5) {i : Nat} (hi : i < 10) (ho : S.2.2 9 i ≠ 0) {p : Nat} (hp : p < 100) : zC l TB D zcls (ztyl K) y_TD_key (.code y_TD_key b_TD_key 5 (some FieldType.int)) (rmk 2 42) [.ref (ad 0), .int (nI h), .int (nI i), .int (nI p)] ad (Lay K ad S) (zP K ad (some (.int (dKey S h i p).1)) (dKey S h i p).2) := by
  refine zC.of (by decide +kernel) (Nat.le_of_ble_eq_true rfl) ?_
  intro x hx hr hml hnm hrm hq hNH
  show zV x ad (Lay K ad S) 0 0 [(0, .ref (ad 0)), (1, .int (nI h)), (2, .int (nI i)), (3, .int (nI p))] 0 []
  refine z_iload_n hx 1 d_TD_key_0 rfl ?_
  refine z_cS hx (c_TD_needHolder hh) ⟨a3_107, a3_109, a1_1, ⟨by decide +kernel, by decide +kernel⟩, fun sig h => by cases h; rfl⟩ a3_108 rfl rfl d_TD_key_1 (by rw [hrm]; exact ⟨Nat.le_of_ble_eq_true rfl, Nat.le_of_ble_eq_true rfl, Nat.le_of_ble_eq_true rfl, Nat.le_of_ble_eq_true rfl⟩) ?_
  show zV x ad (Lay K ad S) _ _ _ 4 []
  refine z_aload_n hx 0 d_TD_key_4 rfl ?_
  refine z_iload_n hx 2 d_TD_key_5 rfl ?_
  refine z_cV hx (c_TD_siteAt hi ho) k_TD rfl ⟨a2_113, a2_116, a1_1, ⟨by decide +kernel, by decide +kernel⟩, fun sig h => by cases h; rfl⟩ a2_115 s_TD_siteAt rfl rfl d_TD_key_6 (by rw [hrm]; exact ⟨Nat.le_of_ble_eq_true rfl, Nat.le_of_ble_eq_true rfl, Nat.le_of_ble_eq_true rfl, Nat.le_of_ble_eq_true rfl⟩) ?_
  show zV x ad (Lay K ad S) _ _ _ 9 [.ref (ad (100 + i))]
  refine z_astore hx [(4, .ref (ad (100 + i))), (0, .ref (ad 0)), (1, .int (nI h)), (2, .int (nI i)), (3, .int (nI p))] d_TD_key_9 (zN hml (by decide)) rfl ?_
  refine z_iload_n hx 4 d_TD_key_11 rfl ?_
  refine z_cS hx (c_TD_needPerson hp) ⟨a2_155, a2_157, a1_1, ⟨by decide +kernel, by decide +kernel⟩, fun sig h => by cases h; rfl⟩ a2_156 rfl rfl d_TD_key_12 (by rw [hrm]; exact ⟨Nat.le_of_ble_eq_true rfl, Nat.le_of_ble_eq_true rfl, Nat.le_of_ble_eq_true rfl, Nat.le_of_ble_eq_true rfl⟩) ?_
  show zV x ad (Lay K ad S) _ _ _ 15 []
  refine z_aload_n hx 1 d_TD_key_15 rfl ?_
  refine z_get hx k_TD (t := 0) rfl 1 (by decide) a1_129 rfl d_TD_key_16 ?_
  refine z_getN hx k_Jo (t := 3) rfl 0 (by decide) a1_58 rfl d_TD_key_19 ?_
  refine z_if_ne (tgt := 35) hx d_TD_key_22 (by decide) (fun h1 => ?_) (fun h1 => ?_)
  · refine z_bipush (v := (-2)) hx d_TD_key_35 rfl ?_
    have e9 : dKey S h i p = ((-2), S) := by unfold dKey; (first | rw [if_pos h1] | rw [if_neg h1] | skip); (try rfl)
    exact z_iret hx hr rfl hq (Nat.le_refl _) (Nat.le_refl _) d_TD_key_37 ⟨by rw [e9], rfl, by rw [e9]⟩
  · refine z_aload_n hx 1 d_TD_key_25 rfl ?_
    refine z_get hx k_TD (t := 0) rfl 1 (by decide) a1_129 rfl d_TD_key_26 ?_
    by_cases h2 : S.2.2 3 1 = 0
    · refine z_cV hx (c_Jo_write_ok h2) k_Jo rfl ⟨a2_40, a2_43, a1_3, ⟨by decide +kernel, by decide +kernel⟩, fun sig h => by cases h; rfl⟩ a2_41 a2_42 rfl rfl d_TD_key_29 (by rw [hrm]; exact ⟨Nat.le_of_ble_eq_true rfl, Nat.le_of_ble_eq_true rfl, Nat.le_of_ble_eq_true rfl, Nat.le_of_ble_eq_true rfl⟩) ?_
      show zV x ad (Lay K ad (stM S 3 2 (S.2.2 3 2 + 1))) _ _ _ 32 [.int 1]
      refine z_if_ne (tgt := 38) hx d_TD_key_32 (by decide) (fun _ => ?_) (fun h => absurd h (by decide))
      refine z_aload hx 0 d_TD_key_38 rfl ?_
      refine z_iload_n hx 4 d_TD_key_40 rfl ?_
      refine z_iload_n hx 2 d_TD_key_41 rfl ?_
      refine z_cV hx (c_Si_addKey hi (ho_n (by decide) ho) hp) k_Si (Lay_Si hi (ho_n (by decide) ho)) ⟨a3_110, a3_113, a1_13, ⟨by decide +kernel, by decide +kernel⟩, fun sig h => by cases h; rfl⟩ a3_111 a3_112 rfl rfl d_TD_key_42 (by rw [hrm]; exact ⟨Nat.le_of_ble_eq_true rfl, Nat.le_of_ble_eq_true rfl, Nat.le_of_ble_eq_true rfl, Nat.le_of_ble_eq_true rfl⟩) ?_
      show zV x ad (Lay K ad (stM (stM S 3 2 (S.2.2 3 2 + 1)) (140 + i) p ((stM S 3 2 (S.2.2 3 2 + 1)).2.2 (140 + i) p ||| 1 <<< (nI h &&& 31)))) _ _ _ 45 []
      refine z_aload hx 0 d_TD_key_45 rfl ?_
      refine z_iload_n hx 4 d_TD_key_47 rfl ?_
      refine z_cV hx (c_Si_keyCount hi (ho_n (by omega) (ho_n (by decide) ho)) hp) k_Si (Lay_Si hi (ho_n (by omega) (ho_n (by decide) ho))) ⟨a3_114, a3_117, a1_13, ⟨by decide +kernel, by decide +kernel⟩, fun sig h => by cases h; rfl⟩ a3_115 a3_116 rfl rfl d_TD_key_48 (by rw [hrm]; exact ⟨Nat.le_of_ble_eq_true rfl, Nat.le_of_ble_eq_true rfl, Nat.le_of_ble_eq_true rfl, Nat.le_of_ble_eq_true rfl⟩) ?_
      show zV x ad (Lay K ad (stM (stM S 3 2 (S.2.2 3 2 + 1)) (140 + i) p ((stM S 3 2 (S.2.2 3 2 + 1)).2.2 (140 + i) p ||| 1 <<< (nI h &&& 31)))) _ _ _ 51 [.int (bcF ((stM (stM S 3 2 (S.2.2 3 2 + 1)) (140 + i) p ((stM S 3 2 (S.2.2 3 2 + 1)).2.2 (140 + i) p ||| 1 <<< (nI h &&& 31))).2.2 (140 + i) p))]
      have e9 : dKey S h i p = (bcF ((stM (stM S 3 2 (S.2.2 3 2 + 1)) (140 + i) p ((stM S 3 2 (S.2.2 3 2 + 1)).2.2 (140 + i) p ||| 1 <<< (nI h &&& 31))).2.2 (140 + i) p), stM (stM S 3 2 (S.2.2 3 2 + 1)) (140 + i) p ((stM S 3 2 (S.2.2 3 2 + 1)).2.2 (140 + i) p ||| 1 <<< (nI h &&& 31))) := by unfold dKey; (first | rw [if_pos h1] | rw [if_neg h1] | skip); (first | rw [if_pos h2] | rw [if_neg h2] | skip); (try rfl)
      exact z_iret hx hr rfl hq (Nat.le_refl _) (Nat.le_refl _) d_TD_key_51 ⟨by rw [e9], rfl, by rw [e9]⟩
    · refine z_cV hx (c_Jo_write_torn h2) k_Jo rfl ⟨a2_40, a2_43, a1_3, ⟨by decide +kernel, by decide +kernel⟩, fun sig h => by cases h; rfl⟩ a2_41 a2_42 rfl rfl d_TD_key_29 (by rw [hrm]; exact ⟨Nat.le_of_ble_eq_true rfl, Nat.le_of_ble_eq_true rfl, Nat.le_of_ble_eq_true rfl, Nat.le_of_ble_eq_true rfl⟩) ?_
      show zV x ad (Lay K ad (stM (stM S 3 1 0) 3 0 1)) _ _ _ 32 [.int 0]
      refine z_if_ne (tgt := 38) hx d_TD_key_32 (by decide) (fun h => absurd (by decide) h) (fun _ => ?_)
      refine z_bipush (v := (-2)) hx d_TD_key_35 rfl ?_
      have e9 : dKey S h i p = ((-2), stM (stM S 3 1 0) 3 0 1) := by unfold dKey; (first | rw [if_pos h1] | rw [if_neg h1] | skip); (first | rw [if_pos h2] | rw [if_neg h2] | skip); (try rfl)
      exact z_iret hx hr rfl hq (Nat.le_refl _) (Nat.le_refl _) d_TD_key_37 ⟨by rw [e9], rfl, by rw [e9]⟩
def dClose (S : zSt) (i : Nat) : Int32 × zSt := if S.2.2 3 0 = 0 then (if S.2.2 (100 + i) 5 = 0 then (if S.2.2 3 1 = 0 then (elF (wOk S) i 8, stM (dropF (wOk S) i 8) (100 + i) 5 1) else (-2, wT S)) else (-4, S)) else (-2, S)
set_option maxRecDepth 20000 in
theorem c_TD_close {l : Launch} {D : va_G} {K : Nat → ClassId} {ad : Nat → Nat} {S : zSt} {i : Nat} (hi : i < 10) (ho : S.2.2 9 i ≠ 0) : zC l TB D zcls (ztyl K) y_TD_close (.code y_TD_close b_TD_close 4 (some FieldType.int)) (rmk 2 44) [.ref (ad 0), .int (nI i)] ad (Lay K ad S) (zP K ad (some (.int (dClose S i).1)) (dClose S i).2) := by
  refine zC.of (by decide +kernel) (Nat.le_of_ble_eq_true rfl) ?_
  intro x hx hr hml hnm hrm hq hNH
  show zV x ad (Lay K ad S) 0 0 [(0, .ref (ad 0)), (1, .int (nI i))] 0 []
  refine z_aload_n hx 0 d_TD_close_0 rfl ?_
  refine z_iload_n hx 1 d_TD_close_1 rfl ?_
  refine z_cV hx (c_TD_siteAt hi ho) k_TD rfl ⟨a2_113, a2_116, a1_1, ⟨by decide +kernel, by decide +kernel⟩, fun sig h => by cases h; rfl⟩ a2_115 s_TD_siteAt rfl rfl d_TD_close_2 (by rw [hrm]; exact ⟨Nat.le_of_ble_eq_true rfl, Nat.le_of_ble_eq_true rfl, Nat.le_of_ble_eq_true rfl, Nat.le_of_ble_eq_true rfl⟩) ?_
  show zV x ad (Lay K ad S) _ _ _ 5 [.ref (ad (100 + i))]
  refine z_astore_n hx [(2, .ref (ad (100 + i))), (0, .ref (ad 0)), (1, .int (nI i))] d_TD_close_5 rfl (zN hml (by decide)) rfl ?_
  refine z_aload_n hx 1 d_TD_close_6 rfl ?_
  refine z_get hx k_TD (t := 0) rfl 1 (by decide) a1_129 rfl d_TD_close_7 ?_
  refine z_getN hx k_Jo (t := 3) rfl 0 (by decide) a1_58 rfl d_TD_close_10 ?_
  refine z_if_eq (tgt := 19) hx d_TD_close_13 (by decide) (fun h1 => ?_) (fun h1 => ?_)
  · refine z_aload_n hx 0 d_TD_close_19 rfl ?_
    refine z_getN hx k_Si (t := 100 + i) (Lay_Si hi ho) 5 (by decide) a2_92 rfl d_TD_close_20 ?_
    refine z_if_eq (tgt := 29) hx d_TD_close_23 (by decide) (fun h2 => ?_) (fun h2 => ?_)
    · refine z_aload_n hx 1 d_TD_close_29 rfl ?_
      refine z_get hx k_TD (t := 0) rfl 1 (by decide) a1_129 rfl d_TD_close_30 ?_
      by_cases h3 : S.2.2 3 1 = 0
      · refine z_cV hx (c_Jo_write_ok h3) k_Jo rfl ⟨a2_40, a2_43, a1_3, ⟨by decide +kernel, by decide +kernel⟩, fun sig h => by cases h; rfl⟩ a2_41 a2_42 rfl rfl d_TD_close_33 (by rw [hrm]; exact ⟨Nat.le_of_ble_eq_true rfl, Nat.le_of_ble_eq_true rfl, Nat.le_of_ble_eq_true rfl, Nat.le_of_ble_eq_true rfl⟩) ?_
        show zV x ad (Lay K ad (stM S 3 2 (S.2.2 3 2 + 1))) _ _ _ 36 [.int 1]
        refine z_if_ne (tgt := 42) hx d_TD_close_36 (by decide) (fun _ => ?_) (fun h => absurd h (by decide))
        refine z_aload_n hx 0 d_TD_close_42 rfl ?_
        refine z_cV hx (c_Si_entriesLeft hi (ho_n (by decide) ho)) k_Si (Lay_Si hi (ho_n (by decide) ho)) ⟨a3_96, a3_99, a1_13, ⟨by decide +kernel, by decide +kernel⟩, fun sig h => by cases h; rfl⟩ a3_97 a3_98 rfl rfl d_TD_close_43 (by rw [hrm]; exact ⟨Nat.le_of_ble_eq_true rfl, Nat.le_of_ble_eq_true rfl, Nat.le_of_ble_eq_true rfl, Nat.le_of_ble_eq_true rfl⟩) ?_
        show zV x ad (Lay K ad (stM S 3 2 (S.2.2 3 2 + 1))) _ _ _ 46 [.int (elF (stM S 3 2 (S.2.2 3 2 + 1)) i 8)]
        refine z_istore_n hx [(3, .int (elF (stM S 3 2 (S.2.2 3 2 + 1)) i 8)), (2, .ref (ad (100 + i))), (0, .ref (ad 0)), (1, .int (nI i))] d_TD_close_46 rfl (zN hml (by decide)) rfl ?_
        refine z_aload_n hx 1 d_TD_close_47 rfl ?_
        refine z_cV hx (c_Si_dropReserves hi (ho_n (by decide) ho)) k_Si (Lay_Si hi (ho_n (by decide) ho)) ⟨a3_76, a3_79, a1_13, ⟨by decide +kernel, by decide +kernel⟩, fun sig h => by cases h; rfl⟩ a3_77 a3_78 rfl rfl d_TD_close_48 (by rw [hrm]; exact ⟨Nat.le_of_ble_eq_true rfl, Nat.le_of_ble_eq_true rfl, Nat.le_of_ble_eq_true rfl, Nat.le_of_ble_eq_true rfl⟩) ?_
        show zV x ad (Lay K ad (dropF (stM S 3 2 (S.2.2 3 2 + 1)) i 8)) _ _ _ 51 []
        refine z_aload_n hx 1 d_TD_close_51 rfl ?_
        refine z_iconst (v := 1) hx d_TD_close_52 rfl ?_
        refine z_putN hx k_Si (t := 100 + i) (Lay_Si hi (by rw [dropF_n (by omega)]; exact (ho_n (by decide) ho))) 5 (by decide) a2_92 rfl rfl rfl (Nat.le_of_ble_eq_true rfl) d_TD_close_53 (ce1 := Lay K ad (stM (dropF (stM S 3 2 (S.2.2 3 2 + 1)) i 8) (100 + i) 5 1)) (put_Si hi (by rw [dropF_n (by omega)]; exact (ho_n (by decide) ho))) ?_
        refine z_iload_n hx 0 d_TD_close_56 rfl ?_
        have e9 : dClose S i = (elF (stM S 3 2 (S.2.2 3 2 + 1)) i 8, stM (dropF (stM S 3 2 (S.2.2 3 2 + 1)) i 8) (100 + i) 5 1) := by unfold dClose; (first | rw [if_pos h1] | rw [if_neg h1] | skip); (first | rw [if_pos h2] | rw [if_neg h2] | skip); (first | rw [if_pos h3] | rw [if_neg h3] | skip); (try rfl)
        exact z_iret hx hr rfl hq (Nat.le_refl _) (Nat.le_refl _) d_TD_close_57 ⟨by rw [e9], rfl, by rw [e9]⟩
      · refine z_cV hx (c_Jo_write_torn h3) k_Jo rfl ⟨a2_40, a2_43, a1_3, ⟨by decide +kernel, by decide +kernel⟩, fun sig h => by cases h; rfl⟩ a2_41 a2_42 rfl rfl d_TD_close_33 (by rw [hrm]; exact ⟨Nat.le_of_ble_eq_true rfl, Nat.le_of_ble_eq_true rfl, Nat.le_of_ble_eq_true rfl, Nat.le_of_ble_eq_true rfl⟩) ?_
        show zV x ad (Lay K ad (stM (stM S 3 1 0) 3 0 1)) _ _ _ 36 [.int 0]
        refine z_if_ne (tgt := 42) hx d_TD_close_36 (by decide) (fun h => absurd (by decide) h) (fun _ => ?_)
        refine z_bipush (v := (-2)) hx d_TD_close_39 rfl ?_
        have e9 : dClose S i = ((-2), stM (stM S 3 1 0) 3 0 1) := by unfold dClose; (first | rw [if_pos h1] | rw [if_neg h1] | skip); (first | rw [if_pos h2] | rw [if_neg h2] | skip); (first | rw [if_pos h3] | rw [if_neg h3] | skip); (try rfl)
        exact z_iret hx hr rfl hq (Nat.le_refl _) (Nat.le_refl _) d_TD_close_41 ⟨by rw [e9], rfl, by rw [e9]⟩
    · refine z_bipush (v := (-4)) hx d_TD_close_26 rfl ?_
      have e9 : dClose S i = ((-4), S) := by unfold dClose; (first | rw [if_pos h1] | rw [if_neg h1] | skip); (first | rw [if_pos h2] | rw [if_neg h2] | skip); (try rfl)
      exact z_iret hx hr rfl hq (Nat.le_refl _) (Nat.le_refl _) d_TD_close_28 ⟨by rw [e9], rfl, by rw [e9]⟩
  · refine z_bipush (v := (-2)) hx d_TD_close_16 rfl ?_
    have e9 : dClose S i = ((-2), S) := by unfold dClose; (first | rw [if_pos h1] | rw [if_neg h1] | skip); (try rfl)
    exact z_iret hx hr rfl hq (Nat.le_refl _) (Nat.le_refl _) d_TD_close_18 ⟨by rw [e9], rfl, by rw [e9]⟩
def frF (S : zSt) (i a : Nat) : Int32 := nI (cntI (fun q => decide (S.2.2 7 q = 1 ∧ S.2.2 5 q = nI i ∧ S.2.2 6 q = nI a)) 1000)
def dKits (S : zSt) (i a k n : Nat) : Int32 × zSt := if S.2.2 3 0 = 0 then (if S.2.2 (100 + i) 5 = 0 then (if hasF (fun q => decide (S.2.2 7 (k + q) ≠ 0)) n 0 = 0 then (if S.2.2 3 1 = 0 then (frF (putF (wOk S) (nI i) (nI a) k n) i a, putF (wOk S) (nI i) (nI a) k n) else (-2, wT S)) else (-5, S)) else (-4, S)) else (-2, S)
set_option maxRecDepth 20000 in
theorem c_TD_kits {l : Launch} {D : va_G} {K : Nat → ClassId} {ad : Nat → Nat} {S : zSt} {i : Nat} (hi : i < 10) (ho : S.2.2 9 i ≠ 0) {a : Nat} (ha : a < 4) (hav : nI a < (if S.2.2 1 1 = 0 then 4 else S.2.2 1 1)) {k : Nat} (hk : k < 1000) {n : Nat} (hn1 : 1 ≤ n) (hn5 : n ≤ 50) (hkn : k + n ≤ 1000) (hr3 : lg_cmp ((nI k).toInt64 + (nI n).toInt64) 1000 ≤ 0) (hpl : S.2.2 1 1 ≠ 0) : zC l TB D zcls (ztyl K) y_TD_kits (.code y_TD_kits b_TD_kits 6 (some FieldType.int)) (rmk 3 67) [.ref (ad 0), .int (nI i), .int (nI a), .int (nI k), .int (nI n)] ad (Lay K ad S) (zP K ad (some (.int (dKits S i a k n).1)) (dKits S i a k n).2) := by
  refine zC.of (by decide +kernel) (Nat.le_of_ble_eq_true rfl) ?_
  intro x hx hr hml hnm hrm hq hNH
  show zV x ad (Lay K ad S) 0 0 [(0, .ref (ad 0)), (1, .int (nI i)), (2, .int (nI a)), (3, .int (nI k)), (4, .int (nI n))] 0 []
  refine z_aload_n hx 0 d_TD_kits_0 rfl ?_
  refine z_iload_n hx 1 d_TD_kits_1 rfl ?_
  refine z_cV hx (c_TD_siteAt hi ho) k_TD rfl ⟨a2_113, a2_116, a1_1, ⟨by decide +kernel, by decide +kernel⟩, fun sig h => by cases h; rfl⟩ a2_115 s_TD_siteAt rfl rfl d_TD_kits_2 (by rw [hrm]; exact ⟨Nat.le_of_ble_eq_true rfl, Nat.le_of_ble_eq_true rfl, Nat.le_of_ble_eq_true rfl, Nat.le_of_ble_eq_true rfl⟩) ?_
  show zV x ad (Lay K ad S) _ _ _ 5 [.ref (ad (100 + i))]
  refine z_astore hx [(5, .ref (ad (100 + i))), (0, .ref (ad 0)), (1, .int (nI i)), (2, .int (nI a)), (3, .int (nI k)), (4, .int (nI n))] d_TD_kits_5 (zN hml (by decide)) rfl ?_
  refine z_aload_n hx 1 d_TD_kits_7 rfl ?_
  refine z_iload_n hx 3 d_TD_kits_8 rfl ?_
  refine z_cV hx (c_TD_needArm (nI_pos (by omega)) hav) k_TD rfl ⟨a2_117, a2_120, a1_1, ⟨by decide +kernel, by decide +kernel⟩, fun sig h => by cases h; rfl⟩ a2_119 s_TD_needArm rfl rfl d_TD_kits_9 (by rw [hrm]; exact ⟨Nat.le_of_ble_eq_true rfl, Nat.le_of_ble_eq_true rfl, Nat.le_of_ble_eq_true rfl, Nat.le_of_ble_eq_true rfl⟩) ?_
  show zV x ad (Lay K ad S) _ _ _ 12 []
  refine z_iload_n hx 4 d_TD_kits_12 rfl ?_
  refine z_cS hx (c_TD_needKit hk) ⟨a2_121, a2_123, a1_1, ⟨by decide +kernel, by decide +kernel⟩, fun sig h => by cases h; rfl⟩ a2_122 rfl rfl d_TD_kits_13 (by rw [hrm]; exact ⟨Nat.le_of_ble_eq_true rfl, Nat.le_of_ble_eq_true rfl, Nat.le_of_ble_eq_true rfl, Nat.le_of_ble_eq_true rfl⟩) ?_
  show zV x ad (Lay K ad S) _ _ _ 16 []
  refine z_iload_n hx 4 d_TD_kits_16 rfl ?_
  refine z_i2l hx d_TD_kits_17 ?_
  refine z_iload hx 5 d_TD_kits_18 rfl ?_
  refine z_i2l hx d_TD_kits_20 ?_
  refine z_ladd hx d_TD_kits_21 ?_
  refine z_ldc2 (v := 1000) hx d_TD_kits_22 a2_124 ?_
  refine z_lcmp hx d_TD_kits_25 ?_
  refine z_if_le (tgt := 37) hx d_TD_kits_26 (by decide) (fun _ => ?_) (fun h => absurd hr3 h)
  refine z_aload_n hx 1 d_TD_kits_37 rfl ?_
  refine z_cV hx (c_TD_needPlan hpl) k_TD rfl ⟨a2_125, a2_128, a1_1, ⟨by decide +kernel, by decide +kernel⟩, fun sig h => by cases h; rfl⟩ a2_127 s_TD_needPlan rfl rfl d_TD_kits_38 (by rw [hrm]; exact ⟨Nat.le_of_ble_eq_true rfl, Nat.le_of_ble_eq_true rfl, Nat.le_of_ble_eq_true rfl, Nat.le_of_ble_eq_true rfl⟩) ?_
  show zV x ad (Lay K ad S) _ _ _ 41 []
  refine z_iload hx 5 d_TD_kits_41 rfl ?_
  refine z_iconst (v := 1) hx d_TD_kits_43 rfl ?_
  refine z_icmp_lt (tgt := 54) hx d_TD_kits_44 (by decide) (fun h => absurd h (Int32.not_lt.mpr ((nI_leI (a := 1) (by omega) (by omega)).mpr hn1))) (fun _ => ?_)
  refine z_iload hx 5 d_TD_kits_47 rfl ?_
  refine z_bipush (v := 50) hx d_TD_kits_49 rfl ?_
  refine z_icmp_le (tgt := 62) hx d_TD_kits_51 (by decide) (fun _ => ?_) (fun h => absurd ((nI_leI (b := 50) (by omega) (by omega)).mpr hn5) h)
  refine z_aload_n hx 1 d_TD_kits_62 rfl ?_
  refine z_get hx k_TD (t := 0) rfl 1 (by decide) a1_129 rfl d_TD_kits_63 ?_
  refine z_getN hx k_Jo (t := 3) rfl 0 (by decide) a1_58 rfl d_TD_kits_66 ?_
  refine z_if_eq (tgt := 75) hx d_TD_kits_69 (by decide) (fun h1 => ?_) (fun h1 => ?_)
  · refine z_aload hx 0 d_TD_kits_75 rfl ?_
    refine z_getN hx k_Si (t := 100 + i) (Lay_Si hi ho) 5 (by decide) a2_92 rfl d_TD_kits_77 ?_
    refine z_if_eq (tgt := 86) hx d_TD_kits_80 (by decide) (fun h2 => ?_) (fun h2 => ?_)
    · refine z_aload_n hx 1 d_TD_kits_86 rfl ?_
      refine z_get hx k_TD (t := 0) rfl 2 (by decide) a1_130 rfl d_TD_kits_87 ?_
      refine z_iload_n hx 4 d_TD_kits_90 rfl ?_
      refine z_iload hx 5 d_TD_kits_91 rfl ?_
      refine z_cV hx (c_Sh_hasAny hkn) k_Sh rfl ⟨a2_129, a2_132, a1_4, ⟨by decide +kernel, by decide +kernel⟩, fun sig h => by cases h; rfl⟩ a2_130 a2_131 rfl rfl d_TD_kits_93 (by rw [hrm]; exact ⟨Nat.le_of_ble_eq_true rfl, Nat.le_of_ble_eq_true rfl, Nat.le_of_ble_eq_true rfl, Nat.le_of_ble_eq_true rfl⟩) ?_
      show zV x ad (Lay K ad S) _ _ _ 96 [.int (hasF (fun q => decide (S.2.2 7 (k + q) ≠ 0)) n 0)]
      refine z_if_eq (tgt := 102) hx d_TD_kits_96 (by decide) (fun h3 => ?_) (fun h3 => ?_)
      · refine z_aload_n hx 1 d_TD_kits_102 rfl ?_
        refine z_get hx k_TD (t := 0) rfl 1 (by decide) a1_129 rfl d_TD_kits_103 ?_
        by_cases h4 : S.2.2 3 1 = 0
        · refine z_cV hx (c_Jo_write_ok h4) k_Jo rfl ⟨a2_40, a2_43, a1_3, ⟨by decide +kernel, by decide +kernel⟩, fun sig h => by cases h; rfl⟩ a2_41 a2_42 rfl rfl d_TD_kits_106 (by rw [hrm]; exact ⟨Nat.le_of_ble_eq_true rfl, Nat.le_of_ble_eq_true rfl, Nat.le_of_ble_eq_true rfl, Nat.le_of_ble_eq_true rfl⟩) ?_
          show zV x ad (Lay K ad (stM S 3 2 (S.2.2 3 2 + 1))) _ _ _ 109 [.int 1]
          refine z_if_ne (tgt := 115) hx d_TD_kits_109 (by decide) (fun _ => ?_) (fun h => absurd h (by decide))
          refine z_aload_n hx 1 d_TD_kits_115 rfl ?_
          refine z_get hx k_TD (t := 0) rfl 2 (by decide) a1_130 rfl d_TD_kits_116 ?_
          refine z_iload_n hx 2 d_TD_kits_119 rfl ?_
          refine z_iload_n hx 3 d_TD_kits_120 rfl ?_
          refine z_iload_n hx 4 d_TD_kits_121 rfl ?_
          refine z_iload hx 5 d_TD_kits_122 rfl ?_
          refine z_cV hx (c_Sh_put hkn) k_Sh rfl ⟨a2_136, a2_139, a1_4, ⟨by decide +kernel, by decide +kernel⟩, fun sig h => by cases h; rfl⟩ a2_137 a2_138 rfl rfl d_TD_kits_124 (by rw [hrm]; exact ⟨Nat.le_of_ble_eq_true rfl, Nat.le_of_ble_eq_true rfl, Nat.le_of_ble_eq_true rfl, Nat.le_of_ble_eq_true rfl⟩) ?_
          show zV x ad (Lay K ad (putF (stM S 3 2 (S.2.2 3 2 + 1)) (nI i) (nI a) k n)) _ _ _ 127 []
          refine z_aload_n hx 1 d_TD_kits_127 rfl ?_
          refine z_get hx k_TD (t := 0) rfl 2 (by decide) a1_130 rfl d_TD_kits_128 ?_
          refine z_iload_n hx 2 d_TD_kits_131 rfl ?_
          refine z_iload_n hx 3 d_TD_kits_132 rfl ?_
          refine z_cV hx (c_Sh_tallyFree) k_Sh rfl ⟨a2_140, a2_143, a1_4, ⟨by decide +kernel, by decide +kernel⟩, fun sig h => by cases h; rfl⟩ a2_141 a2_142 rfl rfl d_TD_kits_133 (by rw [hrm]; exact ⟨Nat.le_of_ble_eq_true rfl, Nat.le_of_ble_eq_true rfl, Nat.le_of_ble_eq_true rfl, Nat.le_of_ble_eq_true rfl⟩) ?_
          show zV x ad (Lay K ad (putF (stM S 3 2 (S.2.2 3 2 + 1)) (nI i) (nI a) k n)) _ _ _ 136 [.int (frF (putF (stM S 3 2 (S.2.2 3 2 + 1)) (nI i) (nI a) k n) i a)]
          have e9 : dKits S i a k n = (frF (putF (stM S 3 2 (S.2.2 3 2 + 1)) (nI i) (nI a) k n) i a, putF (stM S 3 2 (S.2.2 3 2 + 1)) (nI i) (nI a) k n) := by unfold dKits; (first | rw [if_pos h1] | rw [if_neg h1] | skip); (first | rw [if_pos h2] | rw [if_neg h2] | skip); (first | rw [if_pos h3] | rw [if_neg h3] | skip); (first | rw [if_pos h4] | rw [if_neg h4] | skip); (try rfl)
          exact z_iret hx hr rfl hq (Nat.le_refl _) (Nat.le_refl _) d_TD_kits_136 ⟨by rw [e9], rfl, by rw [e9]⟩
        · refine z_cV hx (c_Jo_write_torn h4) k_Jo rfl ⟨a2_40, a2_43, a1_3, ⟨by decide +kernel, by decide +kernel⟩, fun sig h => by cases h; rfl⟩ a2_41 a2_42 rfl rfl d_TD_kits_106 (by rw [hrm]; exact ⟨Nat.le_of_ble_eq_true rfl, Nat.le_of_ble_eq_true rfl, Nat.le_of_ble_eq_true rfl, Nat.le_of_ble_eq_true rfl⟩) ?_
          show zV x ad (Lay K ad (stM (stM S 3 1 0) 3 0 1)) _ _ _ 109 [.int 0]
          refine z_if_ne (tgt := 115) hx d_TD_kits_109 (by decide) (fun h => absurd (by decide) h) (fun _ => ?_)
          refine z_bipush (v := (-2)) hx d_TD_kits_112 rfl ?_
          have e9 : dKits S i a k n = ((-2), stM (stM S 3 1 0) 3 0 1) := by unfold dKits; (first | rw [if_pos h1] | rw [if_neg h1] | skip); (first | rw [if_pos h2] | rw [if_neg h2] | skip); (first | rw [if_pos h3] | rw [if_neg h3] | skip); (first | rw [if_pos h4] | rw [if_neg h4] | skip); (try rfl)
          exact z_iret hx hr rfl hq (Nat.le_refl _) (Nat.le_refl _) d_TD_kits_114 ⟨by rw [e9], rfl, by rw [e9]⟩
      · refine z_bipush (v := (-5)) hx d_TD_kits_99 rfl ?_
        have e9 : dKits S i a k n = ((-5), S) := by unfold dKits; (first | rw [if_pos h1] | rw [if_neg h1] | skip); (first | rw [if_pos h2] | rw [if_neg h2] | skip); (first | rw [if_pos h3] | rw [if_neg h3] | skip); (try rfl)
        exact z_iret hx hr rfl hq (Nat.le_refl _) (Nat.le_refl _) d_TD_kits_101 ⟨by rw [e9], rfl, by rw [e9]⟩
    · refine z_bipush (v := (-4)) hx d_TD_kits_83 rfl ?_
      have e9 : dKits S i a k n = ((-4), S) := by unfold dKits; (first | rw [if_pos h1] | rw [if_neg h1] | skip); (first | rw [if_pos h2] | rw [if_neg h2] | skip); (try rfl)
      exact z_iret hx hr rfl hq (Nat.le_refl _) (Nat.le_refl _) d_TD_kits_85 ⟨by rw [e9], rfl, by rw [e9]⟩
  · refine z_bipush (v := (-2)) hx d_TD_kits_72 rfl ?_
    have e9 : dKits S i a k n = ((-2), S) := by unfold dKits; (first | rw [if_pos h1] | rw [if_neg h1] | skip); (try rfl)
    exact z_iret hx hr rfl hq (Nat.le_refl _) (Nat.le_refl _) d_TD_kits_74 ⟨by rw [e9], rfl, by rw [e9]⟩
set_option maxRecDepth 20000 in
theorem c_Si_tell_yes {l : Launch} {D : va_G} {K : Nat → ClassId} {ad : Nat → Nat} {S : zSt} {i p : Nat} (hi : i < 10) (ho : S.2.2 9 i ≠ 0) (hp : p < 100) (ht : S.2.2 (110 + i) p = 1) : zC l TB D zcls (ztyl K) y_Si_tell (.code y_Si_tell b_Si_tell 2 (some FieldType.boolean)) (rmk 1 20) [.ref (ad (100 + i)), .int (nI p)] ad (Lay K ad S) (zP K ad (some (.int 1)) (stM S (110 + i) p 2)) := by
  refine zC.of (by decide +kernel) (Nat.le_of_ble_eq_true rfl) ?_
  intro x hx hr hml hnm hrm hq hNH
  show zV x ad (Lay K ad S) 0 0 [(0, .ref (ad (100 + i))), (1, .int (nI p))] 0 []
  refine z_iload_n hx 1 d_Si_tell_0 rfl ?_
  refine z_cS hx (c_Si_isPerson hp) ⟨a2_162, a2_164, a1_13, ⟨by decide +kernel, by decide +kernel⟩, fun sig h => by cases h; rfl⟩ a2_163 rfl rfl d_Si_tell_1 (by rw [hrm]; exact ⟨Nat.le_of_ble_eq_true rfl, Nat.le_of_ble_eq_true rfl, Nat.le_of_ble_eq_true rfl, Nat.le_of_ble_eq_true rfl⟩) ?_
  show zV x ad (Lay K ad S) _ _ _ 4 [.int 1]
  refine z_if_eq (tgt := 26) hx d_Si_tell_4 (by decide) (fun h => absurd h (by decide)) (fun _ => ?_)
  refine z_aload_n hx 0 d_Si_tell_7 rfl ?_
  refine z_get hx k_Si (t := 100 + i) (Lay_Si hi ho) 0 (by decide) a2_87 rfl d_Si_tell_8 ?_
  refine z_iload_n hx 1 d_Si_tell_11 rfl ?_
  refine z_ialdK hx 0 rfl (t := 110 + i) (Lay_r0 hi ho) (k := p) (by omega) (by first | decide | omega) d_Si_tell_12 ?_
  refine z_iconst (v := 1) hx d_Si_tell_13 rfl ?_
  refine z_icmp_ne (tgt := 26) hx d_Si_tell_14 (by decide) (fun h1 => ?_) (fun h1 => ?_)
  · refine z_iconst (v := 0) hx d_Si_tell_26 rfl ?_
    exact absurd ht h1
  · refine z_aload_n hx 0 d_Si_tell_17 rfl ?_
    refine z_get hx k_Si (t := 100 + i) (Lay_Si hi ho) 0 (by decide) a2_87 rfl d_Si_tell_18 ?_
    refine z_iload_n hx 1 d_Si_tell_21 rfl ?_
    refine z_iconst (v := 2) hx d_Si_tell_22 rfl ?_
    refine z_iastK hx 0 rfl (t := 110 + i) (Lay_r0 hi ho) (k := p) (by omega) (by first | decide | omega)  d_Si_tell_23 (ce1 := Lay K ad (stM S (110 + i) p 2)) (put_r0 hi ho) ?_
    refine z_iconst (v := 1) hx d_Si_tell_24 rfl ?_
    exact z_iret hx hr rfl hq (Nat.le_refl _) (Nat.le_refl _) d_Si_tell_25 ⟨rfl, rfl, rfl⟩
set_option maxRecDepth 20000 in
theorem c_Si_tell_no {l : Launch} {D : va_G} {K : Nat → ClassId} {ad : Nat → Nat} {S : zSt} {i p : Nat} (hi : i < 10) (ho : S.2.2 9 i ≠ 0) (hp : p < 100) (ht : ¬ S.2.2 (110 + i) p = 1) : zC l TB D zcls (ztyl K) y_Si_tell (.code y_Si_tell b_Si_tell 2 (some FieldType.boolean)) (rmk 1 20) [.ref (ad (100 + i)), .int (nI p)] ad (Lay K ad S) (zP K ad (some (.int 0)) S) := by
  refine zC.of (by decide +kernel) (Nat.le_of_ble_eq_true rfl) ?_
  intro x hx hr hml hnm hrm hq hNH
  show zV x ad (Lay K ad S) 0 0 [(0, .ref (ad (100 + i))), (1, .int (nI p))] 0 []
  refine z_iload_n hx 1 d_Si_tell_0 rfl ?_
  refine z_cS hx (c_Si_isPerson hp) ⟨a2_162, a2_164, a1_13, ⟨by decide +kernel, by decide +kernel⟩, fun sig h => by cases h; rfl⟩ a2_163 rfl rfl d_Si_tell_1 (by rw [hrm]; exact ⟨Nat.le_of_ble_eq_true rfl, Nat.le_of_ble_eq_true rfl, Nat.le_of_ble_eq_true rfl, Nat.le_of_ble_eq_true rfl⟩) ?_
  show zV x ad (Lay K ad S) _ _ _ 4 [.int 1]
  refine z_if_eq (tgt := 26) hx d_Si_tell_4 (by decide) (fun h => absurd h (by decide)) (fun _ => ?_)
  refine z_aload_n hx 0 d_Si_tell_7 rfl ?_
  refine z_get hx k_Si (t := 100 + i) (Lay_Si hi ho) 0 (by decide) a2_87 rfl d_Si_tell_8 ?_
  refine z_iload_n hx 1 d_Si_tell_11 rfl ?_
  refine z_ialdK hx 0 rfl (t := 110 + i) (Lay_r0 hi ho) (k := p) (by omega) (by first | decide | omega) d_Si_tell_12 ?_
  refine z_iconst (v := 1) hx d_Si_tell_13 rfl ?_
  refine z_icmp_ne (tgt := 26) hx d_Si_tell_14 (by decide) (fun h1 => ?_) (fun h1 => ?_)
  · refine z_iconst (v := 0) hx d_Si_tell_26 rfl ?_
    exact z_iret hx hr rfl hq (Nat.le_refl _) (Nat.le_refl _) d_Si_tell_27 ⟨rfl, rfl, rfl⟩
  · refine z_aload_n hx 0 d_Si_tell_17 rfl ?_
    refine z_get hx k_Si (t := 100 + i) (Lay_Si hi ho) 0 (by decide) a2_87 rfl d_Si_tell_18 ?_
    refine z_iload_n hx 1 d_Si_tell_21 rfl ?_
    refine z_iconst (v := 2) hx d_Si_tell_22 rfl ?_
    refine z_iastK hx 0 rfl (t := 110 + i) (Lay_r0 hi ho) (k := p) (by omega) (by first | decide | omega)  d_Si_tell_23 (ce1 := Lay K ad (stM S (110 + i) p 2)) (put_r0 hi ho) ?_
    refine z_iconst (v := 1) hx d_Si_tell_24 rfl ?_
    exact absurd h1 ht
def rpF (i : Nat) (sg ar : Nat → Nat) (S : zSt) : Nat → zSt
  | 0 => S
  | k + 1 => if S.2.2 (110 + i) k = 1 then stM (stM (rpF i sg ar S k) (110 + i) k 2) (50 + sg k) (ar k) ((stM (rpF i sg ar S k) (110 + i) k 2).2.2 (50 + sg k) (ar k) + 1) else rpF i sg ar S k
/-- the strata and arms of those who aren't reported yet -/
def rpOk (S : zSt) (i : Nat) (sg ar : Nat → Nat) : Prop := ∀ k, k < 100 → S.2.2 (110 + i) k = 1 → S.2.2 (120 + i) k = nI (sg k) ∧ sg k < 8 ∧ S.2.2 (130 + i) k = nI (ar k) ∧ ar k < 4
theorem rpF_n {S : zSt} {i : Nat} {sg ar : Nat → Nat} (h : rpOk S i sg ar) {t : Nat} (h1 : t ≠ 110 + i) (h2 : t < 50 ∨ 58 ≤ t) {k : Nat} (hk : k ≤ 100) : (rpF i sg ar S k).2.2 t = S.2.2 t := by
  induction k with
  | zero => rfl
  | succ k ih =>
    rw [rpF]
    by_cases q : S.2.2 (110 + i) k = 1
    · have := (h k (by omega) q).2.1
      rw [if_pos q, stM_n (by omega), stM_n h1, ih (by omega)]
    · rw [if_neg q, ih (by omega)]
theorem rpF_p {S : zSt} {i : Nat} {sg ar : Nat → Nat} (h : rpOk S i sg ar) {k q : Nat} (hk : k ≤ 100) (hq : k ≤ q) : (rpF i sg ar S k).2.2 (110 + i) q = S.2.2 (110 + i) q := by
  induction k with
  | zero => rfl
  | succ k ih =>
    rw [rpF]
    by_cases z : S.2.2 (110 + i) k = 1
    · have := (h k (by omega) z).2.1
      rw [if_pos z, rd_n (by omega), rd_j (by omega), ih (by omega) (by omega)]
    · rw [if_neg z, ih (by omega) (by omega)]
theorem rpOk_w {S : zSt} {i : Nat} {sg ar : Nat → Nat} (h : rpOk S i sg ar) : rpOk (wOk S) i sg ar := by
  intro k hk q
  rw [rd_n (by omega)] at q
  rw [rd_n (by omega), rd_n (by omega)]
  exact h k hk q
def dReport (S : zSt) (i : Nat) (sg ar : Nat → Nat) : Int32 × zSt := if S.2.2 3 0 = 0 then (if S.2.2 (100 + i) 5 = 0 then (if S.2.2 3 1 = 0 then (nI (cntI (fun q => decide ((wOk S).2.2 (110 + i) q = 1)) 100), frmF (dropF (rpF i sg ar (wOk S) 100) i 8) (nI i) 1000) else (-2, wT S)) else (-4, S)) else (-2, S)
set_option maxRecDepth 20000 in
theorem c_TD_report {l : Launch} {D : va_G} {K : Nat → ClassId} {ad : Nat → Nat} {S : zSt} {i : Nat} (hi : i < 10) (ho : S.2.2 9 i ≠ 0) {sg ar : Nat → Nat} (hsg : rpOk S i sg ar) : zC l TB D zcls (ztyl K) y_TD_report (.code y_TD_report b_TD_report 5 (some FieldType.int)) (rmk 2 42) [.ref (ad 0), .int (nI i)] ad (Lay K ad S) (zP K ad (some (.int (dReport S i sg ar).1)) (dReport S i sg ar).2) := by
  refine zC.of (by decide +kernel) (Nat.le_of_ble_eq_true rfl) ?_
  intro x hx hr hml hnm hrm hq hNH
  have hsw := rpOk_w hsg
  have L : ∀ (m_L k : Nat), k + m_L = 100 → (S.2.2 3 0 = 0 ∧ S.2.2 (100 + i) 5 = 0 ∧ S.2.2 3 1 = 0) → zV x ad (Lay K ad (rpF i sg ar (wOk S) k)) 0 0 [(4, .int (nI k)), (3, .int (nI (cntI (fun q => decide ((wOk S).2.2 (110 + i) q = 1)) k))), (2, .ref (ad (100 + i))), (1, .int (nI i)), (0, .ref (ad 0))] 47 [] := by
    intro m_L
    induction m_L with
    | zero =>
      intro k he_L hV
      have e_L : k = 100 := by omega
      refine z_iload hx 0 d_TD_report_47 rfl ?_
      refine z_bipush (v := 100) hx d_TD_report_49 rfl ?_
      refine z_icmp_ge (tgt := 91) hx d_TD_report_51 (by decide) (fun _ => ?_) (fun h => absurd (nI_leL 100 rfl e_L (by decide)) h)
      refine z_aload_n hx 2 d_TD_report_91 rfl ?_
      refine z_cV hx (c_Si_dropReserves hi (by rw [rpF_n hsw (by omega) (by omega) (by omega)]; exact ho_n (by decide) ho)) k_Si (Lay_Si hi (by rw [rpF_n hsw (by omega) (by omega) (by omega)]; exact ho_n (by decide) ho)) ⟨a3_76, a3_79, a1_13, ⟨by decide +kernel, by decide +kernel⟩, fun sig h => by cases h; rfl⟩ a3_77 a3_78 rfl rfl d_TD_report_92 (by rw [hrm]; exact ⟨Nat.le_of_ble_eq_true rfl, Nat.le_of_ble_eq_true rfl, Nat.le_of_ble_eq_true rfl, Nat.le_of_ble_eq_true rfl⟩) ?_
      show zV x ad (Lay K ad (dropF (rpF i sg ar (wOk S) k) i 8)) _ _ _ 95 []
      refine z_aload_n hx 4 d_TD_report_95 rfl ?_
      refine z_get hx k_TD (t := 0) rfl 2 (by decide) a1_130 rfl d_TD_report_96 ?_
      refine z_iload_n hx 3 d_TD_report_99 rfl ?_
      refine z_cV hx (c_Sh_freeMarked) k_Sh rfl ⟨a3_85, a3_88, a1_4, ⟨by decide +kernel, by decide +kernel⟩, fun sig h => by cases h; rfl⟩ a3_86 a3_87 rfl rfl d_TD_report_100 (by rw [hrm]; exact ⟨Nat.le_of_ble_eq_true rfl, Nat.le_of_ble_eq_true rfl, Nat.le_of_ble_eq_true rfl, Nat.le_of_ble_eq_true rfl⟩) ?_
      show zV x ad (Lay K ad (frmF (dropF (rpF i sg ar (wOk S) k) i 8) (nI i) 1000)) _ _ _ 103 []
      refine z_iload_n hx 1 d_TD_report_103 rfl ?_
      subst e_L
      have e9 : dReport S i sg ar = (nI (cntI (fun q => decide ((wOk S).2.2 (110 + i) q = 1)) 100), frmF (dropF (rpF i sg ar (wOk S) 100) i 8) (nI i) 1000) := by unfold dReport; rw [if_pos hV.1, if_pos hV.2.1, if_pos hV.2.2]
      exact z_iret hx hr rfl hq (Nat.le_refl _) (Nat.le_refl _) d_TD_report_104 ⟨by rw [e9], rfl, by rw [e9]⟩
    | succ m_L ih_L =>
      intro k he_L hV
      have l_L : k < 100 := by omega
      refine z_iload hx 0 d_TD_report_47 rfl ?_
      refine z_bipush (v := 100) hx d_TD_report_49 rfl ?_
      refine z_icmp_ge (tgt := 91) hx d_TD_report_51 (by decide) (fun h => absurd h (nI_nleL 100 rfl l_L (by decide))) (fun _ => ?_)
      refine z_aload_n hx 2 d_TD_report_54 rfl ?_
      refine z_iload hx 0 d_TD_report_55 rfl ?_
      by_cases h1 : (wOk S).2.2 (110 + i) k = 1
      · refine z_cV hx (c_Si_tell_yes hi (by rw [rpF_n hsw (by omega) (by omega) (by omega)]; exact ho_n (by decide) ho) l_L (by rw [rpF_p hsw (by omega) (by omega)]; exact h1)) k_Si (Lay_Si hi (by rw [rpF_n hsw (by omega) (by omega) (by omega)]; exact ho_n (by decide) ho)) ⟨a3_64, a3_67, a1_13, ⟨by decide +kernel, by decide +kernel⟩, fun sig h => by cases h; rfl⟩ a3_65 a3_66 rfl rfl d_TD_report_57 (by rw [hrm]; exact ⟨Nat.le_of_ble_eq_true rfl, Nat.le_of_ble_eq_true rfl, Nat.le_of_ble_eq_true rfl, Nat.le_of_ble_eq_true rfl⟩) ?_
        show zV x ad (Lay K ad (stM (rpF i sg ar (wOk S) k) (110 + i) k 2)) _ _ _ 60 [.int 1]
        refine z_if_eq (tgt := 85) hx d_TD_report_60 (by decide) (fun h => absurd h (by decide)) (fun _ => ?_)
        refine z_aload_n hx 4 d_TD_report_63 rfl ?_
        refine z_aload_n hx 2 d_TD_report_64 rfl ?_
        refine z_iload hx 0 d_TD_report_65 rfl ?_
        refine z_cV hx (c_Si_stratumOf hi (ho_n (by omega) (by rw [rpF_n hsw (by omega) (by omega) (by omega)]; exact ho_n (by decide) ho)) l_L) k_Si (Lay_Si hi (ho_n (by omega) (by rw [rpF_n hsw (by omega) (by omega) (by omega)]; exact ho_n (by decide) ho))) ⟨a3_68, a3_71, a1_13, ⟨by decide +kernel, by decide +kernel⟩, fun sig h => by cases h; rfl⟩ a3_69 a3_70 rfl rfl d_TD_report_67 (by rw [hrm]; exact ⟨Nat.le_of_ble_eq_true rfl, Nat.le_of_ble_eq_true rfl, Nat.le_of_ble_eq_true rfl, Nat.le_of_ble_eq_true rfl⟩) ?_
        show zV x ad (Lay K ad (stM (rpF i sg ar (wOk S) k) (110 + i) k 2)) _ _ _ 70 [.int ((stM (rpF i sg ar (wOk S) k) (110 + i) k 2).2.2 (120 + i) k), .ref (ad 0)]
        refine z_top (b := nI (sg k)) (by rw [rd_n (by omega), rpF_n hsw (by omega) (by omega) (by omega)]; exact (hsw k l_L h1).1) ?_
        refine z_cV hx (c_TD_stratumAt (hsw k l_L h1).2.1) k_TD rfl ⟨a2_6, a2_9, a1_1, ⟨by decide +kernel, by decide +kernel⟩, fun sig h => by cases h; rfl⟩ a2_8 s_TD_stratumAt rfl rfl d_TD_report_70 (by rw [hrm]; exact ⟨Nat.le_of_ble_eq_true rfl, Nat.le_of_ble_eq_true rfl, Nat.le_of_ble_eq_true rfl, Nat.le_of_ble_eq_true rfl⟩) ?_
        show zV x ad (Lay K ad (stM (rpF i sg ar (wOk S) k) (110 + i) k 2)) _ _ _ 73 [.ref (ad (40 + sg k))]
        refine z_aload_n hx 2 d_TD_report_73 rfl ?_
        refine z_iload hx 0 d_TD_report_74 rfl ?_
        refine z_cV hx (c_Si_armOf hi (ho_n (by omega) (by rw [rpF_n hsw (by omega) (by omega) (by omega)]; exact ho_n (by decide) ho)) l_L) k_Si (Lay_Si hi (ho_n (by omega) (by rw [rpF_n hsw (by omega) (by omega) (by omega)]; exact ho_n (by decide) ho))) ⟨a3_72, a3_75, a1_13, ⟨by decide +kernel, by decide +kernel⟩, fun sig h => by cases h; rfl⟩ a3_73 a3_74 rfl rfl d_TD_report_76 (by rw [hrm]; exact ⟨Nat.le_of_ble_eq_true rfl, Nat.le_of_ble_eq_true rfl, Nat.le_of_ble_eq_true rfl, Nat.le_of_ble_eq_true rfl⟩) ?_
        show zV x ad (Lay K ad (stM (rpF i sg ar (wOk S) k) (110 + i) k 2)) _ _ _ 79 [.int ((stM (rpF i sg ar (wOk S) k) (110 + i) k 2).2.2 (130 + i) k), .ref (ad (40 + sg k))]
        refine z_top (b := nI (ar k)) (by rw [rd_n (by omega), rpF_n hsw (by omega) (by omega) (by omega)]; exact (hsw k l_L h1).2.2.1) ?_
        refine z_cV hx (c_St_addKnown (hsw k l_L h1).2.1 (hsw k l_L h1).2.2.2) k_St (Lay_St (hsw k l_L h1).2.1) ⟨a3_3, a3_6, a1_5, ⟨by decide +kernel, by decide +kernel⟩, fun sig h => by cases h; rfl⟩ a3_4 a3_5 rfl rfl d_TD_report_79 (by rw [hrm]; exact ⟨Nat.le_of_ble_eq_true rfl, Nat.le_of_ble_eq_true rfl, Nat.le_of_ble_eq_true rfl, Nat.le_of_ble_eq_true rfl⟩) ?_
        show zV x ad (Lay K ad (stM (stM (rpF i sg ar (wOk S) k) (110 + i) k 2) (50 + sg k) (ar k) ((stM (rpF i sg ar (wOk S) k) (110 + i) k 2).2.2 (50 + sg k) (ar k) + 1))) _ _ _ 82 []
        refine z_iinc (v := nI (cntI (fun q => decide ((wOk S).2.2 (110 + i) q = 1)) k + 1)) hx 1 [(3, .int (nI (cntI (fun q => decide ((wOk S).2.2 (110 + i) q = 1)) k + 1))), (4, .int (nI k)), (2, .ref (ad (100 + i))), (1, .int (nI i)), (0, .ref (ad 0))] d_TD_report_82 rfl (nI_1 _) (zN hml (by decide)) rfl ?_
        refine z_iinc (v := nI (k + 1)) hx 1 [(4, .int (nI (k + 1))), (3, .int (nI (cntI (fun q => decide ((wOk S).2.2 (110 + i) q = 1)) k + 1))), (2, .ref (ad (100 + i))), (1, .int (nI i)), (0, .ref (ad 0))] d_TD_report_85 rfl (nI_1 k) (zN hml (by decide)) rfl ?_
        refine z_goto (tgt := 47) hx d_TD_report_88 (by decide) ?_
        have q9 := ih_L (k + 1) (by omega) hV
        rw [show cntI (fun q => decide ((wOk S).2.2 (110 + i) q = 1)) (k + 1) = cntI (fun q => decide ((wOk S).2.2 (110 + i) q = 1)) k + 1 from by rw [cntI]; simp [h1], rpF, if_pos h1] at q9
        exact z_lv [0, 1, 2, 3, 4] _ rfl q9
      · refine z_cV hx (c_Si_tell_no hi (by rw [rpF_n hsw (by omega) (by omega) (by omega)]; exact ho_n (by decide) ho) l_L (by rw [rpF_p hsw (by omega) (by omega)]; exact h1)) k_Si (Lay_Si hi (by rw [rpF_n hsw (by omega) (by omega) (by omega)]; exact ho_n (by decide) ho)) ⟨a3_64, a3_67, a1_13, ⟨by decide +kernel, by decide +kernel⟩, fun sig h => by cases h; rfl⟩ a3_65 a3_66 rfl rfl d_TD_report_57 (by rw [hrm]; exact ⟨Nat.le_of_ble_eq_true rfl, Nat.le_of_ble_eq_true rfl, Nat.le_of_ble_eq_true rfl, Nat.le_of_ble_eq_true rfl⟩) ?_
        show zV x ad (Lay K ad (rpF i sg ar (wOk S) k)) _ _ _ 60 [.int 0]
        refine z_if_eq (tgt := 85) hx d_TD_report_60 (by decide) (fun _ => ?_) (fun h => absurd (by decide) h)
        refine z_iinc (v := nI (k + 1)) hx 0 [(4, .int (nI (k + 1))), (3, .int (nI (cntI (fun q => decide ((wOk S).2.2 (110 + i) q = 1)) k))), (2, .ref (ad (100 + i))), (1, .int (nI i)), (0, .ref (ad 0))] d_TD_report_85 rfl (nI_1 k) (zN hml (by decide)) rfl ?_
        refine z_goto (tgt := 47) hx d_TD_report_88 (by decide) ?_
        have q9 := ih_L (k + 1) (by omega) hV
        rw [show cntI (fun q => decide ((wOk S).2.2 (110 + i) q = 1)) (k + 1) = cntI (fun q => decide ((wOk S).2.2 (110 + i) q = 1)) k from by rw [cntI]; simp [h1], rpF, if_neg h1] at q9
        exact z_lv [0, 1, 2, 3, 4] _ rfl q9
  show zV x ad (Lay K ad S) 0 0 [(0, .ref (ad 0)), (1, .int (nI i))] 0 []
  refine z_aload_n hx 0 d_TD_report_0 rfl ?_
  refine z_iload_n hx 1 d_TD_report_1 rfl ?_
  refine z_cV hx (c_TD_siteAt hi ho) k_TD rfl ⟨a2_113, a2_116, a1_1, ⟨by decide +kernel, by decide +kernel⟩, fun sig h => by cases h; rfl⟩ a2_115 s_TD_siteAt rfl rfl d_TD_report_2 (by rw [hrm]; exact ⟨Nat.le_of_ble_eq_true rfl, Nat.le_of_ble_eq_true rfl, Nat.le_of_ble_eq_true rfl, Nat.le_of_ble_eq_true rfl⟩) ?_
  show zV x ad (Lay K ad S) _ _ _ 5 [.ref (ad (100 + i))]
  refine z_astore_n hx [(2, .ref (ad (100 + i))), (0, .ref (ad 0)), (1, .int (nI i))] d_TD_report_5 rfl (zN hml (by decide)) rfl ?_
  refine z_aload_n hx 1 d_TD_report_6 rfl ?_
  refine z_get hx k_TD (t := 0) rfl 1 (by decide) a1_129 rfl d_TD_report_7 ?_
  refine z_getN hx k_Jo (t := 3) rfl 0 (by decide) a1_58 rfl d_TD_report_10 ?_
  refine z_if_eq (tgt := 19) hx d_TD_report_13 (by decide) (fun h1 => ?_) (fun h1 => ?_)
  · refine z_aload_n hx 0 d_TD_report_19 rfl ?_
    refine z_getN hx k_Si (t := 100 + i) (Lay_Si hi ho) 5 (by decide) a2_92 rfl d_TD_report_20 ?_
    refine z_if_eq (tgt := 29) hx d_TD_report_23 (by decide) (fun h2 => ?_) (fun h2 => ?_)
    · refine z_aload_n hx 1 d_TD_report_29 rfl ?_
      refine z_get hx k_TD (t := 0) rfl 1 (by decide) a1_129 rfl d_TD_report_30 ?_
      by_cases h3 : S.2.2 3 1 = 0
      · refine z_cV hx (c_Jo_write_ok h3) k_Jo rfl ⟨a2_40, a2_43, a1_3, ⟨by decide +kernel, by decide +kernel⟩, fun sig h => by cases h; rfl⟩ a2_41 a2_42 rfl rfl d_TD_report_33 (by rw [hrm]; exact ⟨Nat.le_of_ble_eq_true rfl, Nat.le_of_ble_eq_true rfl, Nat.le_of_ble_eq_true rfl, Nat.le_of_ble_eq_true rfl⟩) ?_
        show zV x ad (Lay K ad (stM S 3 2 (S.2.2 3 2 + 1))) _ _ _ 36 [.int 1]
        refine z_if_ne (tgt := 42) hx d_TD_report_36 (by decide) (fun _ => ?_) (fun h => absurd h (by decide))
        refine z_iconst (v := 0) hx d_TD_report_42 rfl ?_
        refine z_top (b := nI (cntI (fun q => decide ((wOk S).2.2 (110 + i) q = 1)) 0)) rfl ?_
        refine z_istore_n hx [(3, .int (nI (cntI (fun q => decide ((wOk S).2.2 (110 + i) q = 1)) 0))), (2, .ref (ad (100 + i))), (0, .ref (ad 0)), (1, .int (nI i))] d_TD_report_43 rfl (zN hml (by decide)) rfl ?_
        refine z_iconst (v := 0) hx d_TD_report_44 rfl ?_
        refine z_top (b := nI 0) rfl ?_
        refine z_istore hx [(4, .int (nI 0)), (3, .int (nI (cntI (fun q => decide ((wOk S).2.2 (110 + i) q = 1)) 0))), (2, .ref (ad (100 + i))), (0, .ref (ad 0)), (1, .int (nI i))] d_TD_report_45 (zN hml (by decide)) rfl ?_
        exact z_lv [0, 1, 2, 4, 3] _ rfl (L 100 0 (by omega) ⟨h1, h2, h3⟩)
      · refine z_cV hx (c_Jo_write_torn h3) k_Jo rfl ⟨a2_40, a2_43, a1_3, ⟨by decide +kernel, by decide +kernel⟩, fun sig h => by cases h; rfl⟩ a2_41 a2_42 rfl rfl d_TD_report_33 (by rw [hrm]; exact ⟨Nat.le_of_ble_eq_true rfl, Nat.le_of_ble_eq_true rfl, Nat.le_of_ble_eq_true rfl, Nat.le_of_ble_eq_true rfl⟩) ?_
        show zV x ad (Lay K ad (stM (stM S 3 1 0) 3 0 1)) _ _ _ 36 [.int 0]
        refine z_if_ne (tgt := 42) hx d_TD_report_36 (by decide) (fun h => absurd (by decide) h) (fun _ => ?_)
        refine z_bipush (v := (-2)) hx d_TD_report_39 rfl ?_
        have e9 : dReport S i sg ar = ((-2), stM (stM S 3 1 0) 3 0 1) := by unfold dReport; (first | rw [if_pos h1] | rw [if_neg h1] | skip); (first | rw [if_pos h2] | rw [if_neg h2] | skip); (first | rw [if_pos h3] | rw [if_neg h3] | skip); (try rfl)
        exact z_iret hx hr rfl hq (Nat.le_refl _) (Nat.le_refl _) d_TD_report_41 ⟨by rw [e9], rfl, by rw [e9]⟩
    · refine z_bipush (v := (-4)) hx d_TD_report_26 rfl ?_
      have e9 : dReport S i sg ar = ((-4), S) := by unfold dReport; (first | rw [if_pos h1] | rw [if_neg h1] | skip); (first | rw [if_pos h2] | rw [if_neg h2] | skip); (try rfl)
      exact z_iret hx hr rfl hq (Nat.le_refl _) (Nat.le_refl _) d_TD_report_28 ⟨by rw [e9], rfl, by rw [e9]⟩
  · refine z_bipush (v := (-2)) hx d_TD_report_16 rfl ?_
    have e9 : dReport S i sg ar = ((-2), S) := by unfold dReport; (first | rw [if_pos h1] | rw [if_neg h1] | skip); (try rfl)
    exact z_iret hx hr rfl hq (Nat.le_refl _) (Nat.le_refl _) d_TD_report_18 ⟨by rw [e9], rfl, by rw [e9]⟩
def setF (S : zSt) (a b c d e : Int32) : zSt := stM (stM (stM (stM (stM (stM (stM S 2 0 a) 2 1 b) 2 2 c) 2 3 d) 1 1 (2 + (if c ≤ 0 then 0 else 1) + (if d ≤ 0 then 0 else 1))) 1 2 (a + b + c + d)) 1 3 e
def rstF (S : zSt) (s : Nat) (w : Int64) : zSt := if w ^^^ (S.2.2 (40 + s) 0 + 1).toInt64 * (-7046029254386353131) = 0 then stM (stL (stL (stP S (40 + s) 1) (40 + s) 4 (w ^^^ (S.2.2 (40 + s) 0 + 1).toInt64 * (-7046029254386353131))) (40 + s) 4 1) (40 + s) 5 0 else stM (stL (stP S (40 + s) 1) (40 + s) 4 (w ^^^ (S.2.2 (40 + s) 0 + 1).toInt64 * (-7046029254386353131))) (40 + s) 5 0
def rsL (S : zSt) (w : Int64) : Nat → zSt
  | 0 => S
  | k + 1 => rstF (rsL S w k) k w
def dArms (S : zSt) (a b c d z : Int32) (w : Int64) : zSt := if S.2.2 3 0 = 0 then (if S.2.2 3 1 = 0 then rsL (setF (wOk S) a b c d z) w 8 else wT S) else S
set_option maxRecDepth 20000 in
theorem c_TD_arms {l : Launch} {D : va_G} {K : Nat → ClassId} {ad : Nat → Nat} {S : zSt} {a b c d z : Int32} {w : Int64} (hv : ¬ areW a b c d = 0) (hz : ¬ isZ z (a + b + c + d) = 0) (ht : hasF (fun q => decide (¬ S.2.2 (40 + q) 6 ≤ 0)) 8 0 = 0) : zC l TB D zcls (ztyl K) y_TD_arms (.code y_TD_arms b_TD_arms 9 (none : Option FieldType)) (rmk 2 45) [.ref (ad 0), .int a, .int b, .int c, .int d, .int z, .long w] ad (Lay K ad S) (zP K ad none (dArms S a b c d z w)) := by
  refine zC.of (by decide +kernel) (Nat.le_of_ble_eq_true rfl) ?_
  intro x hx hr hml hnm hrm hq hNH
  have L : ∀ (m_L k : Nat), k + m_L = 8 → (S.2.2 3 0 = 0 ∧ S.2.2 3 1 = 0) → zV x ad (Lay K ad (rsL (setF (wOk S) a b c d z) w k)) 0 0 [(8, .int (nI k)), (0, .ref (ad 0)), (6, .long w)] 88 [] := by
    intro m_L
    induction m_L with
    | zero =>
      intro k he_L hV
      have e_L : k = 8 := by omega
      refine z_iload hx 0 d_TD_arms_88 rfl ?_
      refine z_aload_n hx 1 d_TD_arms_90 rfl ?_
      refine z_get hx k_TD (t := 0) rfl 4 (by decide) a1_132 rfl d_TD_arms_91 ?_
      refine z_alen hx 4 rfl (t := 10) rfl (v := 8) rfl d_TD_arms_94 ?_
      refine z_icmp_ge (tgt := 119) hx d_TD_arms_95 (by decide) (fun _ => ?_) (fun h => absurd (nI_leL 8 rfl e_L (by decide)) h)
      subst e_L
      have e9 : dArms S a b c d z w = rsL (setF (wOk S) a b c d z) w 8 := by unfold dArms; rw [if_pos hV.1, if_pos hV.2]
      exact z_vret hx hr hq (Nat.le_refl _) (Nat.le_refl _) d_TD_arms_119 ⟨rfl, rfl, by rw [e9]⟩
    | succ m_L ih_L =>
      intro k he_L hV
      have l_L : k < 8 := by omega
      refine z_iload hx 0 d_TD_arms_88 rfl ?_
      refine z_aload_n hx 1 d_TD_arms_90 rfl ?_
      refine z_get hx k_TD (t := 0) rfl 4 (by decide) a1_132 rfl d_TD_arms_91 ?_
      refine z_alen hx 4 rfl (t := 10) rfl (v := 8) rfl d_TD_arms_94 ?_
      refine z_icmp_ge (tgt := 119) hx d_TD_arms_95 (by decide) (fun h => absurd h (nI_nleL 8 rfl l_L (by decide))) (fun _ => ?_)
      refine z_aload_n hx 1 d_TD_arms_98 rfl ?_
      refine z_iload hx 0 d_TD_arms_99 rfl ?_
      refine z_cV hx (c_TD_stratumAt l_L) k_TD rfl ⟨a2_6, a2_9, a1_1, ⟨by decide +kernel, by decide +kernel⟩, fun sig h => by cases h; rfl⟩ a2_8 s_TD_stratumAt rfl rfl d_TD_arms_101 (by rw [hrm]; exact ⟨Nat.le_of_ble_eq_true rfl, Nat.le_of_ble_eq_true rfl, Nat.le_of_ble_eq_true rfl, Nat.le_of_ble_eq_true rfl⟩) ?_
      show zV x ad (Lay K ad (rsL (setF (wOk S) a b c d z) w k)) _ _ _ 104 [.ref (ad (40 + k))]
      refine z_aload_n hx 1 d_TD_arms_104 rfl ?_
      refine z_get hx k_TD (t := 0) rfl 0 (by decide) a1_128 rfl d_TD_arms_105 ?_
      refine z_lload hx 2 d_TD_arms_108 rfl ?_
      refine z_cV hx (c_St_restart l_L) k_St (Lay_St l_L) ⟨a2_48, a2_51, a1_5, ⟨by decide +kernel, by decide +kernel⟩, fun sig h => by cases h; rfl⟩ a2_49 a2_50 rfl rfl d_TD_arms_110 (by rw [hrm]; exact ⟨Nat.le_of_ble_eq_true rfl, Nat.le_of_ble_eq_true rfl, Nat.le_of_ble_eq_true rfl, Nat.le_of_ble_eq_true rfl⟩) ?_
      show zV x ad (Lay K ad (rstF (rsL (setF (wOk S) a b c d z) w k) k w)) _ _ _ 113 []
      refine z_iinc (v := nI (k + 1)) hx 0 [(8, .int (nI (k + 1))), (0, .ref (ad 0)), (6, .long w)] d_TD_arms_113 rfl (nI_1 k) (zN hml (by decide)) rfl ?_
      refine z_goto (tgt := 88) hx d_TD_arms_116 (by decide) ?_
      exact z_lv [0, 1, 2] _ rfl (ih_L (k + 1) (by omega) hV)
  show zV x ad (Lay K ad S) 0 0 [(0, .ref (ad 0)), (1, .int a), (2, .int b), (3, .int c), (4, .int d), (5, .int z), (6, .long w)] 0 []
  refine z_iload_n hx 1 d_TD_arms_0 rfl ?_
  refine z_iload_n hx 2 d_TD_arms_1 rfl ?_
  refine z_iload_n hx 3 d_TD_arms_2 rfl ?_
  refine z_iload hx 4 d_TD_arms_3 rfl ?_
  refine z_cS hx (c_TD_areWeights) ⟨a1_170, a1_172, a1_1, ⟨by decide +kernel, by decide +kernel⟩, fun sig h => by cases h; rfl⟩ a1_171 rfl rfl d_TD_arms_5 (by rw [hrm]; exact ⟨Nat.le_of_ble_eq_true rfl, Nat.le_of_ble_eq_true rfl, Nat.le_of_ble_eq_true rfl, Nat.le_of_ble_eq_true rfl⟩) ?_
  show zV x ad (Lay K ad S) _ _ _ 8 [.int (areW a b c d)]
  refine z_if_eq (tgt := 27) hx d_TD_arms_8 (by decide) (fun h => absurd h hv) (fun _ => ?_)
  refine z_iload hx 5 d_TD_arms_11 rfl ?_
  refine z_iload_n hx 1 d_TD_arms_13 rfl ?_
  refine z_iload_n hx 2 d_TD_arms_14 rfl ?_
  refine z_iadd hx d_TD_arms_15 ?_
  refine z_iload_n hx 3 d_TD_arms_16 rfl ?_
  refine z_iadd hx d_TD_arms_17 ?_
  refine z_iload hx 4 d_TD_arms_18 rfl ?_
  refine z_iadd hx d_TD_arms_20 ?_
  refine z_cS hx (c_TD_isSize) ⟨a1_176, a1_178, a1_1, ⟨by decide +kernel, by decide +kernel⟩, fun sig h => by cases h; rfl⟩ a1_177 rfl rfl d_TD_arms_21 (by rw [hrm]; exact ⟨Nat.le_of_ble_eq_true rfl, Nat.le_of_ble_eq_true rfl, Nat.le_of_ble_eq_true rfl, Nat.le_of_ble_eq_true rfl⟩) ?_
  show zV x ad (Lay K ad S) _ _ _ 24 [.int (isZ z (a + b + c + d))]
  refine z_if_ne (tgt := 35) hx d_TD_arms_24 (by decide) (fun _ => ?_) (fun h => absurd h hz)
  refine z_aload_n hx 0 d_TD_arms_35 rfl ?_
  refine z_cV hx (c_TD_isAnyBlockTaken) k_TD rfl ⟨a2_2, a2_5, a1_1, ⟨by decide +kernel, by decide +kernel⟩, fun sig h => by cases h; rfl⟩ a2_4 s_TD_isAnyBlockTaken rfl rfl d_TD_arms_36 (by rw [hrm]; exact ⟨Nat.le_of_ble_eq_true rfl, Nat.le_of_ble_eq_true rfl, Nat.le_of_ble_eq_true rfl, Nat.le_of_ble_eq_true rfl⟩) ?_
  show zV x ad (Lay K ad S) _ _ _ 39 [.int (hasF (fun q => decide (¬ S.2.2 (40 + q) 6 ≤ 0)) 8 0)]
  refine z_if_eq (tgt := 50) hx d_TD_arms_39 (by decide) (fun _ => ?_) (fun h => absurd ht h)
  refine z_aload_n hx 0 d_TD_arms_50 rfl ?_
  refine z_get hx k_TD (t := 0) rfl 1 (by decide) a1_129 rfl d_TD_arms_51 ?_
  refine z_getN hx k_Jo (t := 3) rfl 0 (by decide) a1_58 rfl d_TD_arms_54 ?_
  refine z_if_ne (tgt := 70) hx d_TD_arms_57 (by decide) (fun h1 => ?_) (fun h1 => ?_)
  · have e9 : dArms S a b c d z w = S := by unfold dArms; (first | rw [if_pos h1] | rw [if_neg h1] | skip)
    exact z_vret hx hr hq (Nat.le_refl _) (Nat.le_refl _) d_TD_arms_70 ⟨rfl, rfl, by rw [e9]⟩
  · refine z_aload_n hx 0 d_TD_arms_60 rfl ?_
    refine z_get hx k_TD (t := 0) rfl 1 (by decide) a1_129 rfl d_TD_arms_61 ?_
    by_cases h2 : S.2.2 3 1 = 0
    · refine z_cV hx (c_Jo_write_ok h2) k_Jo rfl ⟨a2_40, a2_43, a1_3, ⟨by decide +kernel, by decide +kernel⟩, fun sig h => by cases h; rfl⟩ a2_41 a2_42 rfl rfl d_TD_arms_64 (by rw [hrm]; exact ⟨Nat.le_of_ble_eq_true rfl, Nat.le_of_ble_eq_true rfl, Nat.le_of_ble_eq_true rfl, Nat.le_of_ble_eq_true rfl⟩) ?_
      show zV x ad (Lay K ad (stM S 3 2 (S.2.2 3 2 + 1))) _ _ _ 67 [.int 1]
      refine z_if_ne (tgt := 71) hx d_TD_arms_67 (by decide) (fun _ => ?_) (fun h => absurd h (by decide))
      refine z_aload_n hx 0 d_TD_arms_71 rfl ?_
      refine z_get hx k_TD (t := 0) rfl 0 (by decide) a1_128 rfl d_TD_arms_72 ?_
      refine z_iload_n hx 1 d_TD_arms_75 rfl ?_
      refine z_iload_n hx 2 d_TD_arms_76 rfl ?_
      refine z_iload_n hx 3 d_TD_arms_77 rfl ?_
      refine z_iload hx 4 d_TD_arms_78 rfl ?_
      refine z_iload hx 5 d_TD_arms_80 rfl ?_
      refine z_cV hx (c_Pl_set) k_Pl rfl ⟨a2_44, a2_47, a1_2, ⟨by decide +kernel, by decide +kernel⟩, fun sig h => by cases h; rfl⟩ a2_45 a2_46 rfl rfl d_TD_arms_82 (by rw [hrm]; exact ⟨Nat.le_of_ble_eq_true rfl, Nat.le_of_ble_eq_true rfl, Nat.le_of_ble_eq_true rfl, Nat.le_of_ble_eq_true rfl⟩) ?_
      show zV x ad (Lay K ad (setF (stM S 3 2 (S.2.2 3 2 + 1)) a b c d z)) _ _ _ 85 []
      refine z_iconst (v := 0) hx d_TD_arms_85 rfl ?_
      refine z_top (b := nI 0) rfl ?_
      refine z_istore hx [(8, .int (nI 0)), (0, .ref (ad 0)), (1, .int a), (2, .int b), (3, .int c), (4, .int d), (5, .int z), (6, .long w)] d_TD_arms_86 (zN hml (by decide)) rfl ?_
      exact z_lv [0, 1, 7] _ rfl (L 8 0 (by omega) ⟨h1, h2⟩)
    · refine z_cV hx (c_Jo_write_torn h2) k_Jo rfl ⟨a2_40, a2_43, a1_3, ⟨by decide +kernel, by decide +kernel⟩, fun sig h => by cases h; rfl⟩ a2_41 a2_42 rfl rfl d_TD_arms_64 (by rw [hrm]; exact ⟨Nat.le_of_ble_eq_true rfl, Nat.le_of_ble_eq_true rfl, Nat.le_of_ble_eq_true rfl, Nat.le_of_ble_eq_true rfl⟩) ?_
      show zV x ad (Lay K ad (stM (stM S 3 1 0) 3 0 1)) _ _ _ 67 [.int 0]
      refine z_if_ne (tgt := 71) hx d_TD_arms_67 (by decide) (fun h => absurd (by decide) h) (fun _ => ?_)
      have e9 : dArms S a b c d z w = stM (stM S 3 1 0) 3 0 1 := by unfold dArms; (first | rw [if_pos h1] | rw [if_neg h1] | skip); (first | rw [if_pos h2] | rw [if_neg h2] | skip)
      exact z_vret hx hr hq (Nat.le_refl _) (Nat.le_refl _) d_TD_arms_70 ⟨rfl, rfl, by rw [e9]⟩
