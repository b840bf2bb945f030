abbrev mS (S : zSt) : zSt := stM S 13 0 0
abbrev mwO (S : zSt) : zSt := stM (mS S) 13 3 (S.2.2 13 3 + 1)
abbrev mwT (S : zSt) : zSt := stM (stM (mS S) 13 2 0) 13 1 1
theorem badI {v : Int32} (N : Nat) {c : Int32} (hc : nI N = c) (hN : N < 2 ^ 31) (h : ¬ (v < 0 ∨ ¬ v < c)) : ∃ k, k < N ∧ v = nI k := by
  have h0 : ¬ v < 0 := fun z => h (Or.inl z)
  have h1 : v < c := Classical.byContradiction fun z => h (Or.inr z)
  obtain ⟨j, hj, rfl⟩ := nI_of h0
  subst hc
  exact ⟨j, (nI_ltI hj hN).mp h1, rfl⟩
theorem okM {S : zSt} {v : Int32} (h : ¬ badM S v) : ∃ i, i < 10 ∧ v = nI i ∧ ¬ S.2.2 21 i ≤ 0 := by
  obtain ⟨i, hi, rfl⟩ := badI 10 rfl (by decide) (fun z => h (Or.inl z))
  exact ⟨i, hi, rfl, fun z => h (Or.inr ⟨i, hi, rfl, z⟩)⟩
set_option maxRecDepth 20000 in
theorem c_Mo_report_r {l : Launch} {D : va_G} {K : Nat → ClassId} {ad : Nat → Nat} {S : zSt} {v : Int32} (hv : badM S v) : zC l TB D zcls (ztyl K) y_Mo_report (.code y_Mo_report b_Mo_report 5 (some FieldType.int)) (rmk 2 43) [.ref (ad 13), .int v] ad (Lay K ad S) (zP K ad (some (.int 0)) (stM S 13 0 1)) := by
  refine zC.of (by decide +kernel) (Nat.le_of_ble_eq_true rfl) ?_
  intro x hx hr hml hnm hrm hq hNH
  show zV x ad (Lay K ad S) 0 0 [(0, .ref (ad 13)), (1, .int v)] 0 []
  refine z_aload_n hx 0 d_Mo_report_0 rfl ?_
  refine z_aload_n hx 0 d_Mo_report_1 rfl ?_
  refine z_iload_n hx 1 d_Mo_report_2 rfl ?_
  refine z_cV hx (c_Mo_isSite_no hv) k_Mo rfl ⟨a4_98, a4_101, a1_6, ⟨by decide +kernel, by decide +kernel⟩, fun sig h => by cases h; rfl⟩ a4_100 s_Mo_isSite rfl rfl d_Mo_report_3 (by rw [hrm]; exact ⟨Nat.le_of_ble_eq_true rfl, Nat.le_of_ble_eq_true rfl, Nat.le_of_ble_eq_true rfl, Nat.le_of_ble_eq_true rfl⟩) ?_
  show zV x ad (Lay K ad S) _ _ _ 6 [.int 0, .ref (ad 13)]
  refine z_if_ne (tgt := 13) hx d_Mo_report_6 (by decide) (fun h => absurd (by decide) h) (fun _ => ?_)
  refine z_iconst (v := 1) hx d_Mo_report_9 rfl ?_
  refine z_goto (tgt := 14) hx d_Mo_report_10 (by decide) ?_
  refine z_iconst (v := 0) hx d_Mo_report_14 rfl ?_
  refine z_iconst (v := 0) hx d_Mo_report_15 rfl ?_
  refine z_cV hx (c_Mo_refused_1) k_Mo rfl ⟨a4_81, a4_84, a1_6, ⟨by decide +kernel, by decide +kernel⟩, fun sig h => by cases h; rfl⟩ a4_83 s_Mo_refused rfl rfl d_Mo_report_16 (by rw [hrm]; exact ⟨Nat.le_of_ble_eq_true rfl, Nat.le_of_ble_eq_true rfl, Nat.le_of_ble_eq_true rfl, Nat.le_of_ble_eq_true rfl⟩) ?_
  show zV x ad (Lay K ad (stM S 13 0 1)) _ _ _ 19 [.int 1]
  refine z_if_eq (tgt := 24) hx d_Mo_report_19 (by decide) (fun h => absurd h (by decide)) (fun _ => ?_)
  refine z_iconst (v := 0) hx d_Mo_report_22 rfl ?_
  exact z_iret hx hr rfl hq (Nat.le_refl _) (Nat.le_refl _) d_Mo_report_23 ⟨rfl, rfl, rfl⟩
set_option maxRecDepth 20000 in
theorem c_Mo_close_r {l : Launch} {D : va_G} {K : Nat → ClassId} {ad : Nat → Nat} {S : zSt} {v : Int32} (hv : badM S v) : zC l TB D zcls (ztyl K) y_Mo_close (.code y_Mo_close b_Mo_close 4 (some FieldType.int)) (rmk 2 43) [.ref (ad 13), .int v] ad (Lay K ad S) (zP K ad (some (.int 0)) (stM S 13 0 1)) := by
  refine zC.of (by decide +kernel) (Nat.le_of_ble_eq_true rfl) ?_
  intro x hx hr hml hnm hrm hq hNH
  show zV x ad (Lay K ad S) 0 0 [(0, .ref (ad 13)), (1, .int v)] 0 []
  refine z_aload_n hx 0 d_Mo_close_0 rfl ?_
  refine z_aload_n hx 0 d_Mo_close_1 rfl ?_
  refine z_iload_n hx 1 d_Mo_close_2 rfl ?_
  refine z_cV hx (c_Mo_isSite_no hv) k_Mo rfl ⟨a4_98, a4_101, a1_6, ⟨by decide +kernel, by decide +kernel⟩, fun sig h => by cases h; rfl⟩ a4_100 s_Mo_isSite rfl rfl d_Mo_close_3 (by rw [hrm]; exact ⟨Nat.le_of_ble_eq_true rfl, Nat.le_of_ble_eq_true rfl, Nat.le_of_ble_eq_true rfl, Nat.le_of_ble_eq_true rfl⟩) ?_
  show zV x ad (Lay K ad S) _ _ _ 6 [.int 0, .ref (ad 13)]
  refine z_if_ne (tgt := 13) hx d_Mo_close_6 (by decide) (fun h => absurd (by decide) h) (fun _ => ?_)
  refine z_iconst (v := 1) hx d_Mo_close_9 rfl ?_
  refine z_goto (tgt := 14) hx d_Mo_close_10 (by decide) ?_
  refine z_iconst (v := 0) hx d_Mo_close_14 rfl ?_
  refine z_iconst (v := 0) hx d_Mo_close_15 rfl ?_
  refine z_cV hx (c_Mo_refused_1) k_Mo rfl ⟨a4_81, a4_84, a1_6, ⟨by decide +kernel, by decide +kernel⟩, fun sig h => by cases h; rfl⟩ a4_83 s_Mo_refused rfl rfl d_Mo_close_16 (by rw [hrm]; exact ⟨Nat.le_of_ble_eq_true rfl, Nat.le_of_ble_eq_true rfl, Nat.le_of_ble_eq_true rfl, Nat.le_of_ble_eq_true rfl⟩) ?_
  show zV x ad (Lay K ad (stM S 13 0 1)) _ _ _ 19 [.int 1]
  refine z_if_eq (tgt := 24) hx d_Mo_close_19 (by decide) (fun h => absurd h (by decide)) (fun _ => ?_)
  refine z_iconst (v := 0) hx d_Mo_close_22 rfl ?_
  exact z_iret hx hr rfl hq (Nat.le_refl _) (Nat.le_refl _) d_Mo_close_23 ⟨rfl, rfl, rfl⟩
set_option maxRecDepth 20000 in
theorem c_Mo_stock_r {l : Launch} {D : va_G} {K : Nat → ClassId} {ad : Nat → Nat} {S : zSt} {v w : Int32} (hv : badM S v) : zC l TB D zcls (ztyl K) y_Mo_stock (.code y_Mo_stock b_Mo_stock 5 (some FieldType.int)) (rmk 2 43) [.ref (ad 13), .int v, .int w] ad (Lay K ad S) (zP K ad (some (.int 0)) (stM S 13 0 1)) := by
  refine zC.of (by decide +kernel) (Nat.le_of_ble_eq_true rfl) ?_
  intro x hx hr hml hnm hrm hq hNH
  show zV x ad (Lay K ad S) 0 0 [(0, .ref (ad 13)), (1, .int v), (2, .int w)] 0 []
  refine z_aload_n hx 0 d_Mo_stock_0 rfl ?_
  refine z_aload_n hx 0 d_Mo_stock_1 rfl ?_
  refine z_iload_n hx 1 d_Mo_stock_2 rfl ?_
  refine z_cV hx (c_Mo_isSite_no hv) k_Mo rfl ⟨a4_98, a4_101, a1_6, ⟨by decide +kernel, by decide +kernel⟩, fun sig h => by cases h; rfl⟩ a4_100 s_Mo_isSite rfl rfl d_Mo_stock_3 (by rw [hrm]; exact ⟨Nat.le_of_ble_eq_true rfl, Nat.le_of_ble_eq_true rfl, Nat.le_of_ble_eq_true rfl, Nat.le_of_ble_eq_true rfl⟩) ?_
  show zV x ad (Lay K ad S) _ _ _ 6 [.int 0, .ref (ad 13)]
  refine z_if_ne (tgt := 13) hx d_Mo_stock_6 (by decide) (fun h => absurd (by decide) h) (fun _ => ?_)
  refine z_iconst (v := 1) hx d_Mo_stock_9 rfl ?_
  refine z_goto (tgt := 14) hx d_Mo_stock_10 (by decide) ?_
  refine z_iload_n hx 2 d_Mo_stock_14 rfl ?_
  refine z_iconst (v := 0) hx d_Mo_stock_15 rfl ?_
  refine z_iconst (v := 2) hx d_Mo_stock_16 rfl ?_
  refine z_cS hx (c_Mo_within) ⟨a4_78, a4_80, a1_6, ⟨by decide +kernel, by decide +kernel⟩, fun sig h => by cases h; rfl⟩ a4_79 rfl rfl d_Mo_stock_17 (by rw [hrm]; exact ⟨Nat.le_of_ble_eq_true rfl, Nat.le_of_ble_eq_true rfl, Nat.le_of_ble_eq_true rfl, Nat.le_of_ble_eq_true rfl⟩) ?_
  show zV x ad (Lay K ad S) _ _ _ 20 [.int (wiF w 0 2), .int 1, .ref (ad 13)]
  refine z_if_ne (tgt := 27) hx d_Mo_stock_20 (by decide) (fun h1 => ?_) (fun h1 => ?_)
  · refine z_iconst (v := 0) hx d_Mo_stock_27 rfl ?_
    refine z_iconst (v := 0) hx d_Mo_stock_28 rfl ?_
    refine z_cV hx (c_Mo_refused_1) k_Mo rfl ⟨a4_81, a4_84, a1_6, ⟨by decide +kernel, by decide +kernel⟩, fun sig h => by cases h; rfl⟩ a4_83 s_Mo_refused rfl rfl d_Mo_stock_29 (by rw [hrm]; exact ⟨Nat.le_of_ble_eq_true rfl, Nat.le_of_ble_eq_true rfl, Nat.le_of_ble_eq_true rfl, Nat.le_of_ble_eq_true rfl⟩) ?_
    show zV x ad (Lay K ad (stM S 13 0 1)) _ _ _ 32 [.int 1]
    refine z_if_eq (tgt := 37) hx d_Mo_stock_32 (by decide) (fun h => absurd h (by decide)) (fun _ => ?_)
    refine z_iconst (v := 0) hx d_Mo_stock_35 rfl ?_
    exact z_iret hx hr rfl hq (Nat.le_refl _) (Nat.le_refl _) d_Mo_stock_36 ⟨rfl, rfl, rfl⟩
  · refine z_iconst (v := 1) hx d_Mo_stock_23 rfl ?_
    refine z_goto (tgt := 28) hx d_Mo_stock_24 (by decide) ?_
    refine z_iconst (v := 0) hx d_Mo_stock_28 rfl ?_
    refine z_cV hx (c_Mo_refused_1) k_Mo rfl ⟨a4_81, a4_84, a1_6, ⟨by decide +kernel, by decide +kernel⟩, fun sig h => by cases h; rfl⟩ a4_83 s_Mo_refused rfl rfl d_Mo_stock_29 (by rw [hrm]; exact ⟨Nat.le_of_ble_eq_true rfl, Nat.le_of_ble_eq_true rfl, Nat.le_of_ble_eq_true rfl, Nat.le_of_ble_eq_true rfl⟩) ?_
    show zV x ad (Lay K ad (stM S 13 0 1)) _ _ _ 32 [.int 1]
    refine z_if_eq (tgt := 37) hx d_Mo_stock_32 (by decide) (fun h => absurd h (by decide)) (fun _ => ?_)
    refine z_iconst (v := 0) hx d_Mo_stock_35 rfl ?_
    exact z_iret hx hr rfl hq (Nat.le_refl _) (Nat.le_refl _) d_Mo_stock_36 ⟨rfl, rfl, rfl⟩
set_option maxRecDepth 20000 in
theorem c_Mo_stock_w {l : Launch} {D : va_G} {K : Nat → ClassId} {ad : Nat → Nat} {S : zSt} {i : Nat} (hi : i < 10) (ho : ¬ S.2.2 21 i ≤ 0) {w : Int32} (hv : w < 0 ∨ ¬ w < 3) : zC l TB D zcls (ztyl K) y_Mo_stock (.code y_Mo_stock b_Mo_stock 5 (some FieldType.int)) (rmk 2 43) [.ref (ad 13), .int (nI i), .int w] ad (Lay K ad S) (zP K ad (some (.int 0)) (stM S 13 0 2)) := by
  refine zC.of (by decide +kernel) (Nat.le_of_ble_eq_true rfl) ?_
  intro x hx hr hml hnm hrm hq hNH
  show zV x ad (Lay K ad S) 0 0 [(0, .ref (ad 13)), (1, .int (nI i)), (2, .int w)] 0 []
  refine z_aload_n hx 0 d_Mo_stock_0 rfl ?_
  refine z_aload_n hx 0 d_Mo_stock_1 rfl ?_
  refine z_iload_n hx 1 d_Mo_stock_2 rfl ?_
  refine z_cV hx (c_Mo_isSite_yes hi ho) k_Mo rfl ⟨a4_98, a4_101, a1_6, ⟨by decide +kernel, by decide +kernel⟩, fun sig h => by cases h; rfl⟩ a4_100 s_Mo_isSite rfl rfl d_Mo_stock_3 (by rw [hrm]; exact ⟨Nat.le_of_ble_eq_true rfl, Nat.le_of_ble_eq_true rfl, Nat.le_of_ble_eq_true rfl, Nat.le_of_ble_eq_true rfl⟩) ?_
  show zV x ad (Lay K ad S) _ _ _ 6 [.int 1, .ref (ad 13)]
  refine z_if_ne (tgt := 13) hx d_Mo_stock_6 (by decide) (fun _ => ?_) (fun h => absurd h (by decide))
  refine z_iconst (v := 0) hx d_Mo_stock_13 rfl ?_
  refine z_iload_n hx 2 d_Mo_stock_14 rfl ?_
  refine z_iconst (v := 0) hx d_Mo_stock_15 rfl ?_
  refine z_iconst (v := 2) hx d_Mo_stock_16 rfl ?_
  refine z_cS hx (c_Mo_within) ⟨a4_78, a4_80, a1_6, ⟨by decide +kernel, by decide +kernel⟩, fun sig h => by cases h; rfl⟩ a4_79 rfl rfl d_Mo_stock_17 (by rw [hrm]; exact ⟨Nat.le_of_ble_eq_true rfl, Nat.le_of_ble_eq_true rfl, Nat.le_of_ble_eq_true rfl, Nat.le_of_ble_eq_true rfl⟩) ?_
  show zV x ad (Lay K ad S) _ _ _ 20 [.int (wiF w 0 2), .int 0, .ref (ad 13)]
  refine z_top (b := 0) (wi_no (nx := 3) (by decide) hv) ?_
  refine z_if_ne (tgt := 27) hx d_Mo_stock_20 (by decide) (fun h => absurd (by decide) h) (fun _ => ?_)
  refine z_iconst (v := 1) hx d_Mo_stock_23 rfl ?_
  refine z_goto (tgt := 28) hx d_Mo_stock_24 (by decide) ?_
  refine z_iconst (v := 0) hx d_Mo_stock_28 rfl ?_
  refine z_cV hx (c_Mo_refused_2) k_Mo rfl ⟨a4_81, a4_84, a1_6, ⟨by decide +kernel, by decide +kernel⟩, fun sig h => by cases h; rfl⟩ a4_83 s_Mo_refused rfl rfl d_Mo_stock_29 (by rw [hrm]; exact ⟨Nat.le_of_ble_eq_true rfl, Nat.le_of_ble_eq_true rfl, Nat.le_of_ble_eq_true rfl, Nat.le_of_ble_eq_true rfl⟩) ?_
  show zV x ad (Lay K ad (stM S 13 0 2)) _ _ _ 32 [.int 1]
  refine z_if_eq (tgt := 37) hx d_Mo_stock_32 (by decide) (fun h => absurd h (by decide)) (fun _ => ?_)
  refine z_iconst (v := 0) hx d_Mo_stock_35 rfl ?_
  exact z_iret hx hr rfl hq (Nat.le_refl _) (Nat.le_refl _) d_Mo_stock_36 ⟨rfl, rfl, rfl⟩
set_option maxRecDepth 20000 in
theorem c_Mo_blocks_r {l : Launch} {D : va_G} {K : Nat → ClassId} {ad : Nat → Nat} {S : zSt} {v : Int32} (hv : v < 0 ∨ ¬ v < 8) : zC l TB D zcls (ztyl K) y_Mo_blocks (.code y_Mo_blocks b_Mo_blocks 2 (some FieldType.int)) (rmk 2 42) [.ref (ad 13), .int v] ad (Lay K ad S) (zP K ad (some (.int 0)) (stM S 13 0 1)) := by
  refine zC.of (by decide +kernel) (Nat.le_of_ble_eq_true rfl) ?_
  intro x hx hr hml hnm hrm hq hNH
  show zV x ad (Lay K ad S) 0 0 [(0, .ref (ad 13)), (1, .int v)] 0 []
  refine z_aload_n hx 0 d_Mo_blocks_0 rfl ?_
  refine z_iload_n hx 1 d_Mo_blocks_1 rfl ?_
  refine z_cS hx (c_Mo_isStratum_no hv) ⟨a4_119, a4_121, a1_6, ⟨by decide +kernel, by decide +kernel⟩, fun sig h => by cases h; rfl⟩ a4_120 rfl rfl d_Mo_blocks_2 (by rw [hrm]; exact ⟨Nat.le_of_ble_eq_true rfl, Nat.le_of_ble_eq_true rfl, Nat.le_of_ble_eq_true rfl, Nat.le_of_ble_eq_true rfl⟩) ?_
  show zV x ad (Lay K ad S) _ _ _ 5 [.int 0, .ref (ad 13)]
  refine z_if_ne (tgt := 12) hx d_Mo_blocks_5 (by decide) (fun h => absurd (by decide) h) (fun _ => ?_)
  refine z_iconst (v := 1) hx d_Mo_blocks_8 rfl ?_
  refine z_goto (tgt := 13) hx d_Mo_blocks_9 (by decide) ?_
  refine z_iconst (v := 0) hx d_Mo_blocks_13 rfl ?_
  refine z_iconst (v := 0) hx d_Mo_blocks_14 rfl ?_
  refine z_cV hx (c_Mo_refused_1) k_Mo rfl ⟨a4_81, a4_84, a1_6, ⟨by decide +kernel, by decide +kernel⟩, fun sig h => by cases h; rfl⟩ a4_83 s_Mo_refused rfl rfl d_Mo_blocks_15 (by rw [hrm]; exact ⟨Nat.le_of_ble_eq_true rfl, Nat.le_of_ble_eq_true rfl, Nat.le_of_ble_eq_true rfl, Nat.le_of_ble_eq_true rfl⟩) ?_
  show zV x ad (Lay K ad (stM S 13 0 1)) _ _ _ 18 [.int 1]
  refine z_if_eq (tgt := 25) hx d_Mo_blocks_18 (by decide) (fun h => absurd h (by decide)) (fun _ => ?_)
  refine z_iconst (v := 0) hx d_Mo_blocks_21 rfl ?_
  refine z_goto (tgt := 31) hx d_Mo_blocks_22 (by decide) ?_
  exact z_iret hx hr rfl hq (Nat.le_refl _) (Nat.le_refl _) d_Mo_blocks_31 ⟨rfl, rfl, rfl⟩
set_option maxRecDepth 20000 in
theorem c_Mo_entry_r {l : Launch} {D : va_G} {K : Nat → ClassId} {ad : Nat → Nat} {S : zSt} {v w : Int32} (hv : v < 0 ∨ ¬ v < 8) : zC l TB D zcls (ztyl K) y_Mo_entry (.code y_Mo_entry b_Mo_entry 5 (some FieldType.int)) (rmk 2 42) [.ref (ad 13), .int v, .int w] ad (Lay K ad S) (zP K ad (some (.int 0)) (stM S 13 0 1)) := by
  refine zC.of (by decide +kernel) (Nat.le_of_ble_eq_true rfl) ?_
  intro x hx hr hml hnm hrm hq hNH
  show zV x ad (Lay K ad S) 0 0 [(0, .ref (ad 13)), (1, .int v), (2, .int w)] 0 []
  refine z_aload_n hx 0 d_Mo_entry_0 rfl ?_
  refine z_iload_n hx 1 d_Mo_entry_1 rfl ?_
  refine z_cS hx (c_Mo_isStratum_no hv) ⟨a4_119, a4_121, a1_6, ⟨by decide +kernel, by decide +kernel⟩, fun sig h => by cases h; rfl⟩ a4_120 rfl rfl d_Mo_entry_2 (by rw [hrm]; exact ⟨Nat.le_of_ble_eq_true rfl, Nat.le_of_ble_eq_true rfl, Nat.le_of_ble_eq_true rfl, Nat.le_of_ble_eq_true rfl⟩) ?_
  show zV x ad (Lay K ad S) _ _ _ 5 [.int 0, .ref (ad 13)]
  refine z_if_ne (tgt := 12) hx d_Mo_entry_5 (by decide) (fun h => absurd (by decide) h) (fun _ => ?_)
  refine z_iconst (v := 1) hx d_Mo_entry_8 rfl ?_
  refine z_goto (tgt := 13) hx d_Mo_entry_9 (by decide) ?_
  refine z_iconst (v := 0) hx d_Mo_entry_13 rfl ?_
  refine z_iconst (v := 0) hx d_Mo_entry_14 rfl ?_
  refine z_cV hx (c_Mo_refused_1) k_Mo rfl ⟨a4_81, a4_84, a1_6, ⟨by decide +kernel, by decide +kernel⟩, fun sig h => by cases h; rfl⟩ a4_83 s_Mo_refused rfl rfl d_Mo_entry_15 (by rw [hrm]; exact ⟨Nat.le_of_ble_eq_true rfl, Nat.le_of_ble_eq_true rfl, Nat.le_of_ble_eq_true rfl, Nat.le_of_ble_eq_true rfl⟩) ?_
  show zV x ad (Lay K ad (stM S 13 0 1)) _ _ _ 18 [.int 1]
  refine z_if_ne (tgt := 32) hx d_Mo_entry_18 (by decide) (fun _ => ?_) (fun h => absurd h (by decide))
  refine z_aload_n hx 0 d_Mo_entry_32 rfl ?_
  refine z_get hx k_Mo (t := 13) rfl 0 (by decide) a3_223 rfl d_Mo_entry_33 ?_
  refine z_top (b := 1) (rd_s) ?_
  refine z_if_le (tgt := 43) hx d_Mo_entry_36 (by decide) (fun h => absurd h (by decide)) (fun _ => ?_)
  refine z_iconst (v := 0) hx d_Mo_entry_39 rfl ?_
  refine z_goto (tgt := 44) hx d_Mo_entry_40 (by decide) ?_
  exact z_iret hx hr rfl hq (Nat.le_refl _) (Nat.le_refl _) d_Mo_entry_44 ⟨rfl, rfl, rfl⟩
set_option maxRecDepth 20000 in
theorem c_Mo_used_r {l : Launch} {D : va_G} {K : Nat → ClassId} {ad : Nat → Nat} {S : zSt} {v : Int32} (hv : v < 0 ∨ ¬ v < 1000) : zC l TB D zcls (ztyl K) y_Mo_used (.code y_Mo_used b_Mo_used 3 (some FieldType.int)) (rmk 1 23) [.ref (ad 13), .int v] ad (Lay K ad S) (zP K ad (some (.int 0)) (stM S 13 0 1)) := by
  refine zC.of (by decide +kernel) (Nat.le_of_ble_eq_true rfl) ?_
  intro x hx hr hml hnm hrm hq hNH
  show zV x ad (Lay K ad S) 0 0 [(0, .ref (ad 13)), (1, .int v)] 0 []
  refine z_aload_n hx 0 d_Mo_used_0 rfl ?_
  refine z_iload_n hx 1 d_Mo_used_1 rfl ?_
  refine z_iconst (v := 0) hx d_Mo_used_2 rfl ?_
  refine z_sipush (v := 999) hx d_Mo_used_3 rfl ?_
  refine z_cS hx (c_Mo_within) ⟨a4_78, a4_80, a1_6, ⟨by decide +kernel, by decide +kernel⟩, fun sig h => by cases h; rfl⟩ a4_79 rfl rfl d_Mo_used_6 (by rw [hrm]; exact ⟨Nat.le_of_ble_eq_true rfl, Nat.le_of_ble_eq_true rfl, Nat.le_of_ble_eq_true rfl, Nat.le_of_ble_eq_true rfl⟩) ?_
  show zV x ad (Lay K ad S) _ _ _ 9 [.int (wiF v 0 999), .ref (ad 13)]
  refine z_top (b := 0) (wi_no (nx := 1000) (by decide) hv) ?_
  refine z_if_ne (tgt := 16) hx d_Mo_used_9 (by decide) (fun h => absurd (by decide) h) (fun _ => ?_)
  refine z_iconst (v := 1) hx d_Mo_used_12 rfl ?_
  refine z_goto (tgt := 17) hx d_Mo_used_13 (by decide) ?_
  refine z_iconst (v := 0) hx d_Mo_used_17 rfl ?_
  refine z_iconst (v := 0) hx d_Mo_used_18 rfl ?_
  refine z_cV hx (c_Mo_refused_1) k_Mo rfl ⟨a4_81, a4_84, a1_6, ⟨by decide +kernel, by decide +kernel⟩, fun sig h => by cases h; rfl⟩ a4_83 s_Mo_refused rfl rfl d_Mo_used_19 (by rw [hrm]; exact ⟨Nat.le_of_ble_eq_true rfl, Nat.le_of_ble_eq_true rfl, Nat.le_of_ble_eq_true rfl, Nat.le_of_ble_eq_true rfl⟩) ?_
  show zV x ad (Lay K ad (stM S 13 0 1)) _ _ _ 22 [.int 1]
  refine z_if_ne (tgt := 32) hx d_Mo_used_22 (by decide) (fun _ => ?_) (fun h => absurd h (by decide))
  refine z_aload_n hx 0 d_Mo_used_32 rfl ?_
  refine z_get hx k_Mo (t := 13) rfl 0 (by decide) a3_223 rfl d_Mo_used_33 ?_
  refine z_top (b := 1) (rd_s) ?_
  refine z_if_le (tgt := 43) hx d_Mo_used_36 (by decide) (fun h => absurd h (by decide)) (fun _ => ?_)
  refine z_iconst (v := 0) hx d_Mo_used_39 rfl ?_
  refine z_goto (tgt := 44) hx d_Mo_used_40 (by decide) ?_
  exact z_iret hx hr rfl hq (Nat.le_refl _) (Nat.le_refl _) d_Mo_used_44 ⟨rfl, rfl, rfl⟩
set_option maxRecDepth 20000 in
theorem c_Mo_mount_r {l : Launch} {D : va_G} {K : Nat → ClassId} {ad : Nat → Nat} {S : zSt} (hd : S.2.2 13 1 = 0) : zC l TB D zcls (ztyl K) y_Mo_mount (.code y_Mo_mount b_Mo_mount 1 (some FieldType.int)) (rmk 1 23) [.ref (ad 13)] ad (Lay K ad S) (zP K ad (some (.int 0)) (stM S 13 0 1)) := by
  refine zC.of (by decide +kernel) (Nat.le_of_ble_eq_true rfl) ?_
  intro x hx hr hml hnm hrm hq hNH
  show zV x ad (Lay K ad S) 0 0 [(0, .ref (ad 13))] 0 []
  refine z_aload_n hx 0 d_Mo_mount_0 rfl ?_
  refine z_aload_n hx 0 d_Mo_mount_1 rfl ?_
  refine z_get hx k_Mo (t := 13) rfl 1 (by decide) a3_224 rfl d_Mo_mount_2 ?_
  refine z_if_ne (tgt := 12) hx d_Mo_mount_5 (by decide) (fun h => absurd hd h) (fun _ => ?_)
  refine z_iconst (v := 1) hx d_Mo_mount_8 rfl ?_
  refine z_goto (tgt := 13) hx d_Mo_mount_9 (by decide) ?_
  refine z_iconst (v := 0) hx d_Mo_mount_13 rfl ?_
  refine z_iconst (v := 0) hx d_Mo_mount_14 rfl ?_
  refine z_cV hx (c_Mo_refused_1) k_Mo rfl ⟨a4_81, a4_84, a1_6, ⟨by decide +kernel, by decide +kernel⟩, fun sig h => by cases h; rfl⟩ a4_83 s_Mo_refused rfl rfl d_Mo_mount_15 (by rw [hrm]; exact ⟨Nat.le_of_ble_eq_true rfl, Nat.le_of_ble_eq_true rfl, Nat.le_of_ble_eq_true rfl, Nat.le_of_ble_eq_true rfl⟩) ?_
  show zV x ad (Lay K ad (stM S 13 0 1)) _ _ _ 18 [.int 1]
  refine z_if_eq (tgt := 23) hx d_Mo_mount_18 (by decide) (fun h => absurd h (by decide)) (fun _ => ?_)
  refine z_iconst (v := 0) hx d_Mo_mount_21 rfl ?_
  exact z_iret hx hr rfl hq (Nat.le_refl _) (Nat.le_refl _) d_Mo_mount_22 ⟨rfl, rfl, rfl⟩
set_option maxRecDepth 20000 in
theorem c_Mo_spread_r {l : Launch} {D : va_G} {K : Nat → ClassId} {ad : Nat → Nat} {S : zSt} {v : Int32} (hv : v < 0 ∨ ¬ v < 8) : zC l TB D zcls (ztyl K) y_Mo_spread (.code y_Mo_spread b_Mo_spread 6 (some FieldType.int)) (rmk 2 42) [.ref (ad 13), .int v] ad (Lay K ad S) (zP K ad (some (.int 0)) (stM S 13 0 1)) := by
  refine zC.of (by decide +kernel) (Nat.le_of_ble_eq_true rfl) ?_
  intro x hx hr hml hnm hrm hq hNH
  show zV x ad (Lay K ad S) 0 0 [(0, .ref (ad 13)), (1, .int v)] 0 []
  refine z_aload_n hx 0 d_Mo_spread_0 rfl ?_
  refine z_iload_n hx 1 d_Mo_spread_1 rfl ?_
  refine z_cS hx (c_Mo_isStratum_no hv) ⟨a4_119, a4_121, a1_6, ⟨by decide +kernel, by decide +kernel⟩, fun sig h => by cases h; rfl⟩ a4_120 rfl rfl d_Mo_spread_2 (by rw [hrm]; exact ⟨Nat.le_of_ble_eq_true rfl, Nat.le_of_ble_eq_true rfl, Nat.le_of_ble_eq_true rfl, Nat.le_of_ble_eq_true rfl⟩) ?_
  show zV x ad (Lay K ad S) _ _ _ 5 [.int 0, .ref (ad 13)]
  refine z_if_ne (tgt := 12) hx d_Mo_spread_5 (by decide) (fun h => absurd (by decide) h) (fun _ => ?_)
  refine z_iconst (v := 1) hx d_Mo_spread_8 rfl ?_
  refine z_goto (tgt := 13) hx d_Mo_spread_9 (by decide) ?_
  refine z_aload_n hx 0 d_Mo_spread_13 rfl ?_
  refine z_get hx k_Mo (t := 13) rfl 5 (by decide) a3_228 rfl d_Mo_spread_14 ?_
  refine z_if_ne (tgt := 24) hx d_Mo_spread_17 (by decide) (fun h1 => ?_) (fun h1 => ?_)
  · refine z_iconst (v := 0) hx d_Mo_spread_24 rfl ?_
    refine z_iconst (v := 0) hx d_Mo_spread_25 rfl ?_
    refine z_cV hx (c_Mo_refused_1) k_Mo rfl ⟨a4_81, a4_84, a1_6, ⟨by decide +kernel, by decide +kernel⟩, fun sig h => by cases h; rfl⟩ a4_83 s_Mo_refused rfl rfl d_Mo_spread_26 (by rw [hrm]; exact ⟨Nat.le_of_ble_eq_true rfl, Nat.le_of_ble_eq_true rfl, Nat.le_of_ble_eq_true rfl, Nat.le_of_ble_eq_true rfl⟩) ?_
    show zV x ad (Lay K ad (stM S 13 0 1)) _ _ _ 29 [.int 1]
    refine z_if_eq (tgt := 34) hx d_Mo_spread_29 (by decide) (fun h => absurd h (by decide)) (fun _ => ?_)
    refine z_iconst (v := 0) hx d_Mo_spread_32 rfl ?_
    exact z_iret hx hr rfl hq (Nat.le_refl _) (Nat.le_refl _) d_Mo_spread_33 ⟨rfl, rfl, rfl⟩
  · refine z_iconst (v := 1) hx d_Mo_spread_20 rfl ?_
    refine z_goto (tgt := 25) hx d_Mo_spread_21 (by decide) ?_
    refine z_iconst (v := 0) hx d_Mo_spread_25 rfl ?_
    refine z_cV hx (c_Mo_refused_1) k_Mo rfl ⟨a4_81, a4_84, a1_6, ⟨by decide +kernel, by decide +kernel⟩, fun sig h => by cases h; rfl⟩ a4_83 s_Mo_refused rfl rfl d_Mo_spread_26 (by rw [hrm]; exact ⟨Nat.le_of_ble_eq_true rfl, Nat.le_of_ble_eq_true rfl, Nat.le_of_ble_eq_true rfl, Nat.le_of_ble_eq_true rfl⟩) ?_
    show zV x ad (Lay K ad (stM S 13 0 1)) _ _ _ 29 [.int 1]
    refine z_if_eq (tgt := 34) hx d_Mo_spread_29 (by decide) (fun h => absurd h (by decide)) (fun _ => ?_)
    refine z_iconst (v := 0) hx d_Mo_spread_32 rfl ?_
    exact z_iret hx hr rfl hq (Nat.le_refl _) (Nat.le_refl _) d_Mo_spread_33 ⟨rfl, rfl, rfl⟩
set_option maxRecDepth 20000 in
theorem c_Mo_spread_plan {l : Launch} {D : va_G} {K : Nat → ClassId} {ad : Nat → Nat} {S : zSt} {s : Nat} (hs : s < 8) (hpl : S.2.2 13 5 = 0) : zC l TB D zcls (ztyl K) y_Mo_spread (.code y_Mo_spread b_Mo_spread 6 (some FieldType.int)) (rmk 2 42) [.ref (ad 13), .int (nI s)] ad (Lay K ad S) (zP K ad (some (.int 0)) (stM S 13 0 2)) := by
  refine zC.of (by decide +kernel) (Nat.le_of_ble_eq_true rfl) ?_
  intro x hx hr hml hnm hrm hq hNH
  show zV x ad (Lay K ad S) 0 0 [(0, .ref (ad 13)), (1, .int (nI s))] 0 []
  refine z_aload_n hx 0 d_Mo_spread_0 rfl ?_
  refine z_iload_n hx 1 d_Mo_spread_1 rfl ?_
  refine z_cS hx (c_Mo_isStratum_yes hs) ⟨a4_119, a4_121, a1_6, ⟨by decide +kernel, by decide +kernel⟩, fun sig h => by cases h; rfl⟩ a4_120 rfl rfl d_Mo_spread_2 (by rw [hrm]; exact ⟨Nat.le_of_ble_eq_true rfl, Nat.le_of_ble_eq_true rfl, Nat.le_of_ble_eq_true rfl, Nat.le_of_ble_eq_true rfl⟩) ?_
  show zV x ad (Lay K ad S) _ _ _ 5 [.int 1, .ref (ad 13)]
  refine z_if_ne (tgt := 12) hx d_Mo_spread_5 (by decide) (fun _ => ?_) (fun h => absurd h (by decide))
  refine z_iconst (v := 0) hx d_Mo_spread_12 rfl ?_
  refine z_aload_n hx 0 d_Mo_spread_13 rfl ?_
  refine z_get hx k_Mo (t := 13) rfl 5 (by decide) a3_228 rfl d_Mo_spread_14 ?_
  refine z_if_ne (tgt := 24) hx d_Mo_spread_17 (by decide) (fun h => absurd hpl h) (fun _ => ?_)
  refine z_iconst (v := 1) hx d_Mo_spread_20 rfl ?_
  refine z_goto (tgt := 25) hx d_Mo_spread_21 (by decide) ?_
  refine z_iconst (v := 0) hx d_Mo_spread_25 rfl ?_
  refine z_cV hx (c_Mo_refused_2) k_Mo rfl ⟨a4_81, a4_84, a1_6, ⟨by decide +kernel, by decide +kernel⟩, fun sig h => by cases h; rfl⟩ a4_83 s_Mo_refused rfl rfl d_Mo_spread_26 (by rw [hrm]; exact ⟨Nat.le_of_ble_eq_true rfl, Nat.le_of_ble_eq_true rfl, Nat.le_of_ble_eq_true rfl, Nat.le_of_ble_eq_true rfl⟩) ?_
  show zV x ad (Lay K ad (stM S 13 0 2)) _ _ _ 29 [.int 1]
  refine z_if_eq (tgt := 34) hx d_Mo_spread_29 (by decide) (fun h => absurd h (by decide)) (fun _ => ?_)
  refine z_iconst (v := 0) hx d_Mo_spread_32 rfl ?_
  exact z_iret hx hr rfl hq (Nat.le_refl _) (Nat.le_refl _) d_Mo_spread_33 ⟨rfl, rfl, rfl⟩
set_option maxRecDepth 20000 in
theorem c_Mo_count_r0 {l : Launch} {D : va_G} {K : Nat → ClassId} {ad : Nat → Nat} {S : zSt} {v w : Int32} (hv : v < 0 ∨ ¬ v < 8) : zC l TB D zcls (ztyl K) y_Mo_count (.code y_Mo_count b_Mo_count 3 (some FieldType.int)) (rmk 2 43) [.ref (ad 13), .int v, .int w] ad (Lay K ad S) (zP K ad (some (.int 0)) (stM S 13 0 1)) := by
  refine zC.of (by decide +kernel) (Nat.le_of_ble_eq_true rfl) ?_
  intro x hx hr hml hnm hrm hq hNH
  show zV x ad (Lay K ad S) 0 0 [(0, .ref (ad 13)), (1, .int v), (2, .int w)] 0 []
  refine z_aload_n hx 0 d_Mo_count_0 rfl ?_
  refine z_iload_n hx 1 d_Mo_count_1 rfl ?_
  refine z_cS hx (c_Mo_isStratum_no hv) ⟨a4_119, a4_121, a1_6, ⟨by decide +kernel, by decide +kernel⟩, fun sig h => by cases h; rfl⟩ a4_120 rfl rfl d_Mo_count_2 (by rw [hrm]; exact ⟨Nat.le_of_ble_eq_true rfl, Nat.le_of_ble_eq_true rfl, Nat.le_of_ble_eq_true rfl, Nat.le_of_ble_eq_true rfl⟩) ?_
  show zV x ad (Lay K ad S) _ _ _ 5 [.int 0, .ref (ad 13)]
  refine z_if_eq (tgt := 16) hx d_Mo_count_5 (by decide) (fun _ => ?_) (fun h => absurd (by decide) h)
  refine z_iconst (v := 1) hx d_Mo_count_16 rfl ?_
  refine z_goto (tgt := 21) hx d_Mo_count_17 (by decide) ?_
  refine z_aload_n hx 0 d_Mo_count_21 rfl ?_
  refine z_get hx k_Mo (t := 13) rfl 5 (by decide) a3_228 rfl d_Mo_count_22 ?_
  refine z_if_ne (tgt := 32) hx d_Mo_count_25 (by decide) (fun h1 => ?_) (fun h1 => ?_)
  · refine z_iconst (v := 0) hx d_Mo_count_32 rfl ?_
    refine z_iconst (v := 0) hx d_Mo_count_33 rfl ?_
    refine z_cV hx (c_Mo_refused_1) k_Mo rfl ⟨a4_81, a4_84, a1_6, ⟨by decide +kernel, by decide +kernel⟩, fun sig h => by cases h; rfl⟩ a4_83 s_Mo_refused rfl rfl d_Mo_count_34 (by rw [hrm]; exact ⟨Nat.le_of_ble_eq_true rfl, Nat.le_of_ble_eq_true rfl, Nat.le_of_ble_eq_true rfl, Nat.le_of_ble_eq_true rfl⟩) ?_
    show zV x ad (Lay K ad (stM S 13 0 1)) _ _ _ 37 [.int 1]
    refine z_if_eq (tgt := 42) hx d_Mo_count_37 (by decide) (fun h => absurd h (by decide)) (fun _ => ?_)
    refine z_iconst (v := 0) hx d_Mo_count_40 rfl ?_
    exact z_iret hx hr rfl hq (Nat.le_refl _) (Nat.le_refl _) d_Mo_count_41 ⟨rfl, rfl, rfl⟩
  · refine z_iconst (v := 1) hx d_Mo_count_28 rfl ?_
    refine z_goto (tgt := 33) hx d_Mo_count_29 (by decide) ?_
    refine z_iconst (v := 0) hx d_Mo_count_33 rfl ?_
    refine z_cV hx (c_Mo_refused_1) k_Mo rfl ⟨a4_81, a4_84, a1_6, ⟨by decide +kernel, by decide +kernel⟩, fun sig h => by cases h; rfl⟩ a4_83 s_Mo_refused rfl rfl d_Mo_count_34 (by rw [hrm]; exact ⟨Nat.le_of_ble_eq_true rfl, Nat.le_of_ble_eq_true rfl, Nat.le_of_ble_eq_true rfl, Nat.le_of_ble_eq_true rfl⟩) ?_
    show zV x ad (Lay K ad (stM S 13 0 1)) _ _ _ 37 [.int 1]
    refine z_if_eq (tgt := 42) hx d_Mo_count_37 (by decide) (fun h => absurd h (by decide)) (fun _ => ?_)
    refine z_iconst (v := 0) hx d_Mo_count_40 rfl ?_
    exact z_iret hx hr rfl hq (Nat.le_refl _) (Nat.le_refl _) d_Mo_count_41 ⟨rfl, rfl, rfl⟩
set_option maxRecDepth 20000 in
theorem c_Mo_count_r1 {l : Launch} {D : va_G} {K : Nat → ClassId} {ad : Nat → Nat} {S : zSt} {s : Nat} (hs : s < 8) {w : Int32} (hv : wiF w 0 (if S.2.2 13 5 = 0 then 3 else S.2.2 13 5 - 1) = 0) : zC l TB D zcls (ztyl K) y_Mo_count (.code y_Mo_count b_Mo_count 3 (some FieldType.int)) (rmk 2 43) [.ref (ad 13), .int (nI s), .int w] ad (Lay K ad S) (zP K ad (some (.int 0)) (stM S 13 0 1)) := by
  refine zC.of (by decide +kernel) (Nat.le_of_ble_eq_true rfl) ?_
  intro x hx hr hml hnm hrm hq hNH
  show zV x ad (Lay K ad S) 0 0 [(0, .ref (ad 13)), (1, .int (nI s)), (2, .int w)] 0 []
  refine z_aload_n hx 0 d_Mo_count_0 rfl ?_
  refine z_iload_n hx 1 d_Mo_count_1 rfl ?_
  refine z_cS hx (c_Mo_isStratum_yes hs) ⟨a4_119, a4_121, a1_6, ⟨by decide +kernel, by decide +kernel⟩, fun sig h => by cases h; rfl⟩ a4_120 rfl rfl d_Mo_count_2 (by rw [hrm]; exact ⟨Nat.le_of_ble_eq_true rfl, Nat.le_of_ble_eq_true rfl, Nat.le_of_ble_eq_true rfl, Nat.le_of_ble_eq_true rfl⟩) ?_
  show zV x ad (Lay K ad S) _ _ _ 5 [.int 1, .ref (ad 13)]
  refine z_if_eq (tgt := 16) hx d_Mo_count_5 (by decide) (fun h => absurd h (by decide)) (fun _ => ?_)
  refine z_aload_n hx 0 d_Mo_count_8 rfl ?_
  refine z_iload_n hx 2 d_Mo_count_9 rfl ?_
  refine z_cV hx (c_Mo_isArm) k_Mo rfl ⟨a4_102, a4_105, a1_6, ⟨by decide +kernel, by decide +kernel⟩, fun sig h => by cases h; rfl⟩ a4_104 s_Mo_isArm rfl rfl d_Mo_count_10 (by rw [hrm]; exact ⟨Nat.le_of_ble_eq_true rfl, Nat.le_of_ble_eq_true rfl, Nat.le_of_ble_eq_true rfl, Nat.le_of_ble_eq_true rfl⟩) ?_
  show zV x ad (Lay K ad S) _ _ _ 13 [.int (wiF w 0 (if S.2.2 13 5 = 0 then 3 else S.2.2 13 5 - 1)), .ref (ad 13)]
  refine z_top (b := 0) hv ?_
  refine z_if_ne (tgt := 20) hx d_Mo_count_13 (by decide) (fun h => absurd (by decide) h) (fun _ => ?_)
  refine z_iconst (v := 1) hx d_Mo_count_16 rfl ?_
  refine z_goto (tgt := 21) hx d_Mo_count_17 (by decide) ?_
  refine z_aload_n hx 0 d_Mo_count_21 rfl ?_
  refine z_get hx k_Mo (t := 13) rfl 5 (by decide) a3_228 rfl d_Mo_count_22 ?_
  refine z_if_ne (tgt := 32) hx d_Mo_count_25 (by decide) (fun h1 => ?_) (fun h1 => ?_)
  · refine z_iconst (v := 0) hx d_Mo_count_32 rfl ?_
    refine z_iconst (v := 0) hx d_Mo_count_33 rfl ?_
    refine z_cV hx (c_Mo_refused_1) k_Mo rfl ⟨a4_81, a4_84, a1_6, ⟨by decide +kernel, by decide +kernel⟩, fun sig h => by cases h; rfl⟩ a4_83 s_Mo_refused rfl rfl d_Mo_count_34 (by rw [hrm]; exact ⟨Nat.le_of_ble_eq_true rfl, Nat.le_of_ble_eq_true rfl, Nat.le_of_ble_eq_true rfl, Nat.le_of_ble_eq_true rfl⟩) ?_
    show zV x ad (Lay K ad (stM S 13 0 1)) _ _ _ 37 [.int 1]
    refine z_if_eq (tgt := 42) hx d_Mo_count_37 (by decide) (fun h => absurd h (by decide)) (fun _ => ?_)
    refine z_iconst (v := 0) hx d_Mo_count_40 rfl ?_
    exact z_iret hx hr rfl hq (Nat.le_refl _) (Nat.le_refl _) d_Mo_count_41 ⟨rfl, rfl, rfl⟩
  · refine z_iconst (v := 1) hx d_Mo_count_28 rfl ?_
    refine z_goto (tgt := 33) hx d_Mo_count_29 (by decide) ?_
    refine z_iconst (v := 0) hx d_Mo_count_33 rfl ?_
    refine z_cV hx (c_Mo_refused_1) k_Mo rfl ⟨a4_81, a4_84, a1_6, ⟨by decide +kernel, by decide +kernel⟩, fun sig h => by cases h; rfl⟩ a4_83 s_Mo_refused rfl rfl d_Mo_count_34 (by rw [hrm]; exact ⟨Nat.le_of_ble_eq_true rfl, Nat.le_of_ble_eq_true rfl, Nat.le_of_ble_eq_true rfl, Nat.le_of_ble_eq_true rfl⟩) ?_
    show zV x ad (Lay K ad (stM S 13 0 1)) _ _ _ 37 [.int 1]
    refine z_if_eq (tgt := 42) hx d_Mo_count_37 (by decide) (fun h => absurd h (by decide)) (fun _ => ?_)
    refine z_iconst (v := 0) hx d_Mo_count_40 rfl ?_
    exact z_iret hx hr rfl hq (Nat.le_refl _) (Nat.le_refl _) d_Mo_count_41 ⟨rfl, rfl, rfl⟩
set_option maxRecDepth 20000 in
theorem c_Mo_count_plan {l : Launch} {D : va_G} {K : Nat → ClassId} {ad : Nat → Nat} {S : zSt} {s : Nat} (hs : s < 8) {w : Int32} (hav : wiF w 0 (if S.2.2 13 5 = 0 then 3 else S.2.2 13 5 - 1) = 1) (hpl : S.2.2 13 5 = 0) : zC l TB D zcls (ztyl K) y_Mo_count (.code y_Mo_count b_Mo_count 3 (some FieldType.int)) (rmk 2 43) [.ref (ad 13), .int (nI s), .int w] ad (Lay K ad S) (zP K ad (some (.int 0)) (stM S 13 0 2)) := by
  refine zC.of (by decide +kernel) (Nat.le_of_ble_eq_true rfl) ?_
  intro x hx hr hml hnm hrm hq hNH
  show zV x ad (Lay K ad S) 0 0 [(0, .ref (ad 13)), (1, .int (nI s)), (2, .int w)] 0 []
  refine z_aload_n hx 0 d_Mo_count_0 rfl ?_
  refine z_iload_n hx 1 d_Mo_count_1 rfl ?_
  refine z_cS hx (c_Mo_isStratum_yes hs) ⟨a4_119, a4_121, a1_6, ⟨by decide +kernel, by decide +kernel⟩, fun sig h => by cases h; rfl⟩ a4_120 rfl rfl d_Mo_count_2 (by rw [hrm]; exact ⟨Nat.le_of_ble_eq_true rfl, Nat.le_of_ble_eq_true rfl, Nat.le_of_ble_eq_true rfl, Nat.le_of_ble_eq_true rfl⟩) ?_
  show zV x ad (Lay K ad S) _ _ _ 5 [.int 1, .ref (ad 13)]
  refine z_if_eq (tgt := 16) hx d_Mo_count_5 (by decide) (fun h => absurd h (by decide)) (fun _ => ?_)
  refine z_aload_n hx 0 d_Mo_count_8 rfl ?_
  refine z_iload_n hx 2 d_Mo_count_9 rfl ?_
  refine z_cV hx (c_Mo_isArm) k_Mo rfl ⟨a4_102, a4_105, a1_6, ⟨by decide +kernel, by decide +kernel⟩, fun sig h => by cases h; rfl⟩ a4_104 s_Mo_isArm rfl rfl d_Mo_count_10 (by rw [hrm]; exact ⟨Nat.le_of_ble_eq_true rfl, Nat.le_of_ble_eq_true rfl, Nat.le_of_ble_eq_true rfl, Nat.le_of_ble_eq_true rfl⟩) ?_
  show zV x ad (Lay K ad S) _ _ _ 13 [.int (wiF w 0 (if S.2.2 13 5 = 0 then 3 else S.2.2 13 5 - 1)), .ref (ad 13)]
  refine z_top (b := 1) hav ?_
  refine z_if_ne (tgt := 20) hx d_Mo_count_13 (by decide) (fun _ => ?_) (fun h => absurd h (by decide))
  refine z_iconst (v := 0) hx d_Mo_count_20 rfl ?_
  refine z_aload_n hx 0 d_Mo_count_21 rfl ?_
  refine z_get hx k_Mo (t := 13) rfl 5 (by decide) a3_228 rfl d_Mo_count_22 ?_
  refine z_if_ne (tgt := 32) hx d_Mo_count_25 (by decide) (fun h => absurd hpl h) (fun _ => ?_)
  refine z_iconst (v := 1) hx d_Mo_count_28 rfl ?_
  refine z_goto (tgt := 33) hx d_Mo_count_29 (by decide) ?_
  refine z_iconst (v := 0) hx d_Mo_count_33 rfl ?_
  refine z_cV hx (c_Mo_refused_2) k_Mo rfl ⟨a4_81, a4_84, a1_6, ⟨by decide +kernel, by decide +kernel⟩, fun sig h => by cases h; rfl⟩ a4_83 s_Mo_refused rfl rfl d_Mo_count_34 (by rw [hrm]; exact ⟨Nat.le_of_ble_eq_true rfl, Nat.le_of_ble_eq_true rfl, Nat.le_of_ble_eq_true rfl, Nat.le_of_ble_eq_true rfl⟩) ?_
  show zV x ad (Lay K ad (stM S 13 0 2)) _ _ _ 37 [.int 1]
  refine z_if_eq (tgt := 42) hx d_Mo_count_37 (by decide) (fun h => absurd h (by decide)) (fun _ => ?_)
  refine z_iconst (v := 0) hx d_Mo_count_40 rfl ?_
  exact z_iret hx hr rfl hq (Nat.le_refl _) (Nat.le_refl _) d_Mo_count_41 ⟨rfl, rfl, rfl⟩
set_option maxRecDepth 20000 in
theorem c_Mo_open_r0 {l : Launch} {D : va_G} {K : Nat → ClassId} {ad : Nat → Nat} {S : zSt} {v w : Int32} (hv : v < 0 ∨ ¬ v < 5) : zC l TB D zcls (ztyl K) y_Mo_open (.code y_Mo_open b_Mo_open 3 (some FieldType.int)) (rmk 2 42) [.ref (ad 13), .int v, .int w] ad (Lay K ad S) (zP K ad (some (.int 0)) (stM S 13 0 1)) := by
  refine zC.of (by decide +kernel) (Nat.le_of_ble_eq_true rfl) ?_
  intro x hx hr hml hnm hrm hq hNH
  show zV x ad (Lay K ad S) 0 0 [(0, .ref (ad 13)), (1, .int v), (2, .int w)] 0 []
  refine z_aload_n hx 0 d_Mo_open_0 rfl ?_
  refine z_iload_n hx 1 d_Mo_open_1 rfl ?_
  refine z_cS hx (c_Mo_isHolder_no hv) ⟨a4_163, a4_165, a1_6, ⟨by decide +kernel, by decide +kernel⟩, fun sig h => by cases h; rfl⟩ a4_164 rfl rfl d_Mo_open_2 (by rw [hrm]; exact ⟨Nat.le_of_ble_eq_true rfl, Nat.le_of_ble_eq_true rfl, Nat.le_of_ble_eq_true rfl, Nat.le_of_ble_eq_true rfl⟩) ?_
  show zV x ad (Lay K ad S) _ _ _ 5 [.int 0, .ref (ad 13)]
  refine z_if_eq (tgt := 15) hx d_Mo_open_5 (by decide) (fun _ => ?_) (fun h => absurd (by decide) h)
  refine z_iconst (v := 1) hx d_Mo_open_15 rfl ?_
  refine z_goto (tgt := 20) hx d_Mo_open_16 (by decide) ?_
  refine z_iconst (v := 0) hx d_Mo_open_20 rfl ?_
  refine z_iconst (v := 0) hx d_Mo_open_21 rfl ?_
  refine z_cV hx (c_Mo_refused_1) k_Mo rfl ⟨a4_81, a4_84, a1_6, ⟨by decide +kernel, by decide +kernel⟩, fun sig h => by cases h; rfl⟩ a4_83 s_Mo_refused rfl rfl d_Mo_open_22 (by rw [hrm]; exact ⟨Nat.le_of_ble_eq_true rfl, Nat.le_of_ble_eq_true rfl, Nat.le_of_ble_eq_true rfl, Nat.le_of_ble_eq_true rfl⟩) ?_
  show zV x ad (Lay K ad (stM S 13 0 1)) _ _ _ 25 [.int 1]
  refine z_if_eq (tgt := 30) hx d_Mo_open_25 (by decide) (fun h => absurd h (by decide)) (fun _ => ?_)
  refine z_iconst (v := 0) hx d_Mo_open_28 rfl ?_
  exact z_iret hx hr rfl hq (Nat.le_refl _) (Nat.le_refl _) d_Mo_open_29 ⟨rfl, rfl, rfl⟩
set_option maxRecDepth 20000 in
theorem c_Mo_open_r1 {l : Launch} {D : va_G} {K : Nat → ClassId} {ad : Nat → Nat} {S : zSt} {h : Nat} (hh : h < 5) {w : Int32} (hv : w < 0 ∨ ¬ w < 5) : zC l TB D zcls (ztyl K) y_Mo_open (.code y_Mo_open b_Mo_open 3 (some FieldType.int)) (rmk 2 42) [.ref (ad 13), .int (nI h), .int w] ad (Lay K ad S) (zP K ad (some (.int 0)) (stM S 13 0 1)) := by
  refine zC.of (by decide +kernel) (Nat.le_of_ble_eq_true rfl) ?_
  intro x hx hr hml hnm hrm hq hNH
  show zV x ad (Lay K ad S) 0 0 [(0, .ref (ad 13)), (1, .int (nI h)), (2, .int w)] 0 []
  refine z_aload_n hx 0 d_Mo_open_0 rfl ?_
  refine z_iload_n hx 1 d_Mo_open_1 rfl ?_
  refine z_cS hx (c_Mo_isHolder_yes (by omega)) ⟨a4_163, a4_165, a1_6, ⟨by decide +kernel, by decide +kernel⟩, fun sig h => by cases h; rfl⟩ a4_164 rfl rfl d_Mo_open_2 (by rw [hrm]; exact ⟨Nat.le_of_ble_eq_true rfl, Nat.le_of_ble_eq_true rfl, Nat.le_of_ble_eq_true rfl, Nat.le_of_ble_eq_true rfl⟩) ?_
  show zV x ad (Lay K ad S) _ _ _ 5 [.int 1, .ref (ad 13)]
  refine z_if_eq (tgt := 15) hx d_Mo_open_5 (by decide) (fun h => absurd h (by decide)) (fun _ => ?_)
  refine z_iload_n hx 2 d_Mo_open_8 rfl ?_
  refine z_cS hx (c_Mo_isHolder_no hv) ⟨a4_163, a4_165, a1_6, ⟨by decide +kernel, by decide +kernel⟩, fun sig h => by cases h; rfl⟩ a4_164 rfl rfl d_Mo_open_9 (by rw [hrm]; exact ⟨Nat.le_of_ble_eq_true rfl, Nat.le_of_ble_eq_true rfl, Nat.le_of_ble_eq_true rfl, Nat.le_of_ble_eq_true rfl⟩) ?_
  show zV x ad (Lay K ad S) _ _ _ 12 [.int 0, .ref (ad 13)]
  refine z_if_ne (tgt := 19) hx d_Mo_open_12 (by decide) (fun h => absurd (by decide) h) (fun _ => ?_)
  refine z_iconst (v := 1) hx d_Mo_open_15 rfl ?_
  refine z_goto (tgt := 20) hx d_Mo_open_16 (by decide) ?_
  refine z_iconst (v := 0) hx d_Mo_open_20 rfl ?_
  refine z_iconst (v := 0) hx d_Mo_open_21 rfl ?_
  refine z_cV hx (c_Mo_refused_1) k_Mo rfl ⟨a4_81, a4_84, a1_6, ⟨by decide +kernel, by decide +kernel⟩, fun sig h => by cases h; rfl⟩ a4_83 s_Mo_refused rfl rfl d_Mo_open_22 (by rw [hrm]; exact ⟨Nat.le_of_ble_eq_true rfl, Nat.le_of_ble_eq_true rfl, Nat.le_of_ble_eq_true rfl, Nat.le_of_ble_eq_true rfl⟩) ?_
  show zV x ad (Lay K ad (stM S 13 0 1)) _ _ _ 25 [.int 1]
  refine z_if_eq (tgt := 30) hx d_Mo_open_25 (by decide) (fun h => absurd h (by decide)) (fun _ => ?_)
  refine z_iconst (v := 0) hx d_Mo_open_28 rfl ?_
  exact z_iret hx hr rfl hq (Nat.le_refl _) (Nat.le_refl _) d_Mo_open_29 ⟨rfl, rfl, rfl⟩
set_option maxRecDepth 20000 in
theorem c_Mo_key_r0 {l : Launch} {D : va_G} {K : Nat → ClassId} {ad : Nat → Nat} {S : zSt} {u v w : Int32} (hv : u < 0 ∨ ¬ u < 5) : zC l TB D zcls (ztyl K) y_Mo_key (.code y_Mo_key b_Mo_key 5 (some FieldType.int)) (rmk 3 65) [.ref (ad 13), .int u, .int v, .int w] ad (Lay K ad S) (zP K ad (some (.int 0)) (stM S 13 0 1)) := by
  refine zC.of (by decide +kernel) (Nat.le_of_ble_eq_true rfl) ?_
  intro x hx hr hml hnm hrm hq hNH
  show zV x ad (Lay K ad S) 0 0 [(0, .ref (ad 13)), (1, .int u), (2, .int v), (3, .int w)] 0 []
  refine z_aload_n hx 0 d_Mo_key_0 rfl ?_
  refine z_iload_n hx 1 d_Mo_key_1 rfl ?_
  refine z_cS hx (c_Mo_isHolder_no hv) ⟨a4_163, a4_165, a1_6, ⟨by decide +kernel, by decide +kernel⟩, fun sig h => by cases h; rfl⟩ a4_164 rfl rfl d_Mo_key_2 (by rw [hrm]; exact ⟨Nat.le_of_ble_eq_true rfl, Nat.le_of_ble_eq_true rfl, Nat.le_of_ble_eq_true rfl, Nat.le_of_ble_eq_true rfl⟩) ?_
  show zV x ad (Lay K ad S) _ _ _ 5 [.int 0, .ref (ad 13)]
  refine z_if_eq (tgt := 17) hx d_Mo_key_5 (by decide) (fun _ => ?_) (fun h => absurd (by decide) h)
  refine z_iconst (v := 1) hx d_Mo_key_17 rfl ?_
  refine z_goto (tgt := 22) hx d_Mo_key_18 (by decide) ?_
  refine z_iconst (v := 0) hx d_Mo_key_22 rfl ?_
  refine z_iconst (v := 0) hx d_Mo_key_23 rfl ?_
  refine z_cV hx (c_Mo_refused_1) k_Mo rfl ⟨a4_81, a4_84, a1_6, ⟨by decide +kernel, by decide +kernel⟩, fun sig h => by cases h; rfl⟩ a4_83 s_Mo_refused rfl rfl d_Mo_key_24 (by rw [hrm]; exact ⟨Nat.le_of_ble_eq_true rfl, Nat.le_of_ble_eq_true rfl, Nat.le_of_ble_eq_true rfl, Nat.le_of_ble_eq_true rfl⟩) ?_
  show zV x ad (Lay K ad (stM S 13 0 1)) _ _ _ 27 [.int 1]
  refine z_if_eq (tgt := 32) hx d_Mo_key_27 (by decide) (fun h => absurd h (by decide)) (fun _ => ?_)
  refine z_iconst (v := 0) hx d_Mo_key_30 rfl ?_
  exact z_iret hx hr rfl hq (Nat.le_refl _) (Nat.le_refl _) d_Mo_key_31 ⟨rfl, rfl, rfl⟩
set_option maxRecDepth 20000 in
theorem c_Mo_key_r1 {l : Launch} {D : va_G} {K : Nat → ClassId} {ad : Nat → Nat} {S : zSt} {h : Nat} (hh : h < 5) {v w : Int32} (hv : badM S v) : zC l TB D zcls (ztyl K) y_Mo_key (.code y_Mo_key b_Mo_key 5 (some FieldType.int)) (rmk 3 65) [.ref (ad 13), .int (nI h), .int v, .int w] ad (Lay K ad S) (zP K ad (some (.int 0)) (stM S 13 0 1)) := by
  refine zC.of (by decide +kernel) (Nat.le_of_ble_eq_true rfl) ?_
  intro x hx hr hml hnm hrm hq hNH
  show zV x ad (Lay K ad S) 0 0 [(0, .ref (ad 13)), (1, .int (nI h)), (2, .int v), (3, .int w)] 0 []
  refine z_aload_n hx 0 d_Mo_key_0 rfl ?_
  refine z_iload_n hx 1 d_Mo_key_1 rfl ?_
  refine z_cS hx (c_Mo_isHolder_yes (by omega)) ⟨a4_163, a4_165, a1_6, ⟨by decide +kernel, by decide +kernel⟩, fun sig h => by cases h; rfl⟩ a4_164 rfl rfl d_Mo_key_2 (by rw [hrm]; exact ⟨Nat.le_of_ble_eq_true rfl, Nat.le_of_ble_eq_true rfl, Nat.le_of_ble_eq_true rfl, Nat.le_of_ble_eq_true rfl⟩) ?_
  show zV x ad (Lay K ad S) _ _ _ 5 [.int 1, .ref (ad 13)]
  refine z_if_eq (tgt := 17) hx d_Mo_key_5 (by decide) (fun h => absurd h (by decide)) (fun _ => ?_)
  refine z_aload_n hx 0 d_Mo_key_8 rfl ?_
  refine z_iload_n hx 2 d_Mo_key_9 rfl ?_
  refine z_iload_n hx 3 d_Mo_key_10 rfl ?_
  refine z_cV hx (c_Mo_isPerson_no hv) k_Mo rfl ⟨a4_115, a4_118, a1_6, ⟨by decide +kernel, by decide +kernel⟩, fun sig h => by cases h; rfl⟩ a4_117 s_Mo_isPerson rfl rfl d_Mo_key_11 (by rw [hrm]; exact ⟨Nat.le_of_ble_eq_true rfl, Nat.le_of_ble_eq_true rfl, Nat.le_of_ble_eq_true rfl, Nat.le_of_ble_eq_true rfl⟩) ?_
  show zV x ad (Lay K ad S) _ _ _ 14 [.int 0, .ref (ad 13)]
  refine z_if_ne (tgt := 21) hx d_Mo_key_14 (by decide) (fun h => absurd (by decide) h) (fun _ => ?_)
  refine z_iconst (v := 1) hx d_Mo_key_17 rfl ?_
  refine z_goto (tgt := 22) hx d_Mo_key_18 (by decide) ?_
  refine z_iconst (v := 0) hx d_Mo_key_22 rfl ?_
  refine z_iconst (v := 0) hx d_Mo_key_23 rfl ?_
  refine z_cV hx (c_Mo_refused_1) k_Mo rfl ⟨a4_81, a4_84, a1_6, ⟨by decide +kernel, by decide +kernel⟩, fun sig h => by cases h; rfl⟩ a4_83 s_Mo_refused rfl rfl d_Mo_key_24 (by rw [hrm]; exact ⟨Nat.le_of_ble_eq_true rfl, Nat.le_of_ble_eq_true rfl, Nat.le_of_ble_eq_true rfl, Nat.le_of_ble_eq_true rfl⟩) ?_
  show zV x ad (Lay K ad (stM S 13 0 1)) _ _ _ 27 [.int 1]
  refine z_if_eq (tgt := 32) hx d_Mo_key_27 (by decide) (fun h => absurd h (by decide)) (fun _ => ?_)
  refine z_iconst (v := 0) hx d_Mo_key_30 rfl ?_
  exact z_iret hx hr rfl hq (Nat.le_refl _) (Nat.le_refl _) d_Mo_key_31 ⟨rfl, rfl, rfl⟩
set_option maxRecDepth 20000 in
theorem c_Mo_key_r2 {l : Launch} {D : va_G} {K : Nat → ClassId} {ad : Nat → Nat} {S : zSt} {h : Nat} (hh : h < 5) {i : Nat} (hi : i < 10) (ho : ¬ S.2.2 21 i ≤ 0) {w : Int32} (hv : w < 0 ∨ ¬ w < 100) : zC l TB D zcls (ztyl K) y_Mo_key (.code y_Mo_key b_Mo_key 5 (some FieldType.int)) (rmk 3 65) [.ref (ad 13), .int (nI h), .int (nI i), .int w] ad (Lay K ad S) (zP K ad (some (.int 0)) (stM S 13 0 1)) := by
  refine zC.of (by decide +kernel) (Nat.le_of_ble_eq_true rfl) ?_
  intro x hx hr hml hnm hrm hq hNH
  show zV x ad (Lay K ad S) 0 0 [(0, .ref (ad 13)), (1, .int (nI h)), (2, .int (nI i)), (3, .int w)] 0 []
  refine z_aload_n hx 0 d_Mo_key_0 rfl ?_
  refine z_iload_n hx 1 d_Mo_key_1 rfl ?_
  refine z_cS hx (c_Mo_isHolder_yes (by omega)) ⟨a4_163, a4_165, a1_6, ⟨by decide +kernel, by decide +kernel⟩, fun sig h => by cases h; rfl⟩ a4_164 rfl rfl d_Mo_key_2 (by rw [hrm]; exact ⟨Nat.le_of_ble_eq_true rfl, Nat.le_of_ble_eq_true rfl, Nat.le_of_ble_eq_true rfl, Nat.le_of_ble_eq_true rfl⟩) ?_
  show zV x ad (Lay K ad S) _ _ _ 5 [.int 1, .ref (ad 13)]
  refine z_if_eq (tgt := 17) hx d_Mo_key_5 (by decide) (fun h => absurd h (by decide)) (fun _ => ?_)
  refine z_aload_n hx 0 d_Mo_key_8 rfl ?_
  refine z_iload_n hx 2 d_Mo_key_9 rfl ?_
  refine z_iload_n hx 3 d_Mo_key_10 rfl ?_
  refine z_cV hx (c_Mo_isPerson_out hi ho hv) k_Mo rfl ⟨a4_115, a4_118, a1_6, ⟨by decide +kernel, by decide +kernel⟩, fun sig h => by cases h; rfl⟩ a4_117 s_Mo_isPerson rfl rfl d_Mo_key_11 (by rw [hrm]; exact ⟨Nat.le_of_ble_eq_true rfl, Nat.le_of_ble_eq_true rfl, Nat.le_of_ble_eq_true rfl, Nat.le_of_ble_eq_true rfl⟩) ?_
  show zV x ad (Lay K ad S) _ _ _ 14 [.int 0, .ref (ad 13)]
  refine z_if_ne (tgt := 21) hx d_Mo_key_14 (by decide) (fun h => absurd (by decide) h) (fun _ => ?_)
  refine z_iconst (v := 1) hx d_Mo_key_17 rfl ?_
  refine z_goto (tgt := 22) hx d_Mo_key_18 (by decide) ?_
  refine z_iconst (v := 0) hx d_Mo_key_22 rfl ?_
  refine z_iconst (v := 0) hx d_Mo_key_23 rfl ?_
  refine z_cV hx (c_Mo_refused_1) k_Mo rfl ⟨a4_81, a4_84, a1_6, ⟨by decide +kernel, by decide +kernel⟩, fun sig h => by cases h; rfl⟩ a4_83 s_Mo_refused rfl rfl d_Mo_key_24 (by rw [hrm]; exact ⟨Nat.le_of_ble_eq_true rfl, Nat.le_of_ble_eq_true rfl, Nat.le_of_ble_eq_true rfl, Nat.le_of_ble_eq_true rfl⟩) ?_
  show zV x ad (Lay K ad (stM S 13 0 1)) _ _ _ 27 [.int 1]
  refine z_if_eq (tgt := 32) hx d_Mo_key_27 (by decide) (fun h => absurd h (by decide)) (fun _ => ?_)
  refine z_iconst (v := 0) hx d_Mo_key_30 rfl ?_
  exact z_iret hx hr rfl hq (Nat.le_refl _) (Nat.le_refl _) d_Mo_key_31 ⟨rfl, rfl, rfl⟩
set_option maxRecDepth 20000 in
theorem c_Mo_arm_r0 {l : Launch} {D : va_G} {K : Nat → ClassId} {ad : Nat → Nat} {S : zSt} {v w : Int32} (hv : badM S v) : zC l TB D zcls (ztyl K) y_Mo_arm (.code y_Mo_arm b_Mo_arm 4 (some FieldType.int)) (rmk 3 65) [.ref (ad 13), .int v, .int w] ad (Lay K ad S) (zP K ad (some (.int 0)) (stM S 13 0 1)) := by
  refine zC.of (by decide +kernel) (Nat.le_of_ble_eq_true rfl) ?_
  intro x hx hr hml hnm hrm hq hNH
  show zV x ad (Lay K ad S) 0 0 [(0, .ref (ad 13)), (1, .int v), (2, .int w)] 0 []
  refine z_aload_n hx 0 d_Mo_arm_0 rfl ?_
  refine z_aload_n hx 0 d_Mo_arm_1 rfl ?_
  refine z_iload_n hx 1 d_Mo_arm_2 rfl ?_
  refine z_iload_n hx 2 d_Mo_arm_3 rfl ?_
  refine z_cV hx (c_Mo_isPerson_no hv) k_Mo rfl ⟨a4_115, a4_118, a1_6, ⟨by decide +kernel, by decide +kernel⟩, fun sig h => by cases h; rfl⟩ a4_117 s_Mo_isPerson rfl rfl d_Mo_arm_4 (by rw [hrm]; exact ⟨Nat.le_of_ble_eq_true rfl, Nat.le_of_ble_eq_true rfl, Nat.le_of_ble_eq_true rfl, Nat.le_of_ble_eq_true rfl⟩) ?_
  show zV x ad (Lay K ad S) _ _ _ 7 [.int 0, .ref (ad 13)]
  refine z_if_ne (tgt := 14) hx d_Mo_arm_7 (by decide) (fun h => absurd (by decide) h) (fun _ => ?_)
  refine z_iconst (v := 1) hx d_Mo_arm_10 rfl ?_
  refine z_goto (tgt := 15) hx d_Mo_arm_11 (by decide) ?_
  refine z_iconst (v := 0) hx d_Mo_arm_15 rfl ?_
  refine z_iconst (v := 0) hx d_Mo_arm_16 rfl ?_
  refine z_cV hx (c_Mo_refused_1) k_Mo rfl ⟨a4_81, a4_84, a1_6, ⟨by decide +kernel, by decide +kernel⟩, fun sig h => by cases h; rfl⟩ a4_83 s_Mo_refused rfl rfl d_Mo_arm_17 (by rw [hrm]; exact ⟨Nat.le_of_ble_eq_true rfl, Nat.le_of_ble_eq_true rfl, Nat.le_of_ble_eq_true rfl, Nat.le_of_ble_eq_true rfl⟩) ?_
  show zV x ad (Lay K ad (stM S 13 0 1)) _ _ _ 20 [.int 1]
  refine z_if_eq (tgt := 25) hx d_Mo_arm_20 (by decide) (fun h => absurd h (by decide)) (fun _ => ?_)
  refine z_iconst (v := 0) hx d_Mo_arm_23 rfl ?_
  exact z_iret hx hr rfl hq (Nat.le_refl _) (Nat.le_refl _) d_Mo_arm_24 ⟨rfl, rfl, rfl⟩
set_option maxRecDepth 20000 in
theorem c_Mo_arm_r1 {l : Launch} {D : va_G} {K : Nat → ClassId} {ad : Nat → Nat} {S : zSt} {i : Nat} (hi : i < 10) (ho : ¬ S.2.2 21 i ≤ 0) {w : Int32} (hv : w < 0 ∨ ¬ w < 100) : zC l TB D zcls (ztyl K) y_Mo_arm (.code y_Mo_arm b_Mo_arm 4 (some FieldType.int)) (rmk 3 65) [.ref (ad 13), .int (nI i), .int w] ad (Lay K ad S) (zP K ad (some (.int 0)) (stM S 13 0 1)) := by
  refine zC.of (by decide +kernel) (Nat.le_of_ble_eq_true rfl) ?_
  intro x hx hr hml hnm hrm hq hNH
  show zV x ad (Lay K ad S) 0 0 [(0, .ref (ad 13)), (1, .int (nI i)), (2, .int w)] 0 []
  refine z_aload_n hx 0 d_Mo_arm_0 rfl ?_
  refine z_aload_n hx 0 d_Mo_arm_1 rfl ?_
  refine z_iload_n hx 1 d_Mo_arm_2 rfl ?_
  refine z_iload_n hx 2 d_Mo_arm_3 rfl ?_
  refine z_cV hx (c_Mo_isPerson_out hi ho hv) k_Mo rfl ⟨a4_115, a4_118, a1_6, ⟨by decide +kernel, by decide +kernel⟩, fun sig h => by cases h; rfl⟩ a4_117 s_Mo_isPerson rfl rfl d_Mo_arm_4 (by rw [hrm]; exact ⟨Nat.le_of_ble_eq_true rfl, Nat.le_of_ble_eq_true rfl, Nat.le_of_ble_eq_true rfl, Nat.le_of_ble_eq_true rfl⟩) ?_
  show zV x ad (Lay K ad S) _ _ _ 7 [.int 0, .ref (ad 13)]
  refine z_if_ne (tgt := 14) hx d_Mo_arm_7 (by decide) (fun h => absurd (by decide) h) (fun _ => ?_)
  refine z_iconst (v := 1) hx d_Mo_arm_10 rfl ?_
  refine z_goto (tgt := 15) hx d_Mo_arm_11 (by decide) ?_
  refine z_iconst (v := 0) hx d_Mo_arm_15 rfl ?_
  refine z_iconst (v := 0) hx d_Mo_arm_16 rfl ?_
  refine z_cV hx (c_Mo_refused_1) k_Mo rfl ⟨a4_81, a4_84, a1_6, ⟨by decide +kernel, by decide +kernel⟩, fun sig h => by cases h; rfl⟩ a4_83 s_Mo_refused rfl rfl d_Mo_arm_17 (by rw [hrm]; exact ⟨Nat.le_of_ble_eq_true rfl, Nat.le_of_ble_eq_true rfl, Nat.le_of_ble_eq_true rfl, Nat.le_of_ble_eq_true rfl⟩) ?_
  show zV x ad (Lay K ad (stM S 13 0 1)) _ _ _ 20 [.int 1]
  refine z_if_eq (tgt := 25) hx d_Mo_arm_20 (by decide) (fun h => absurd h (by decide)) (fun _ => ?_)
  refine z_iconst (v := 0) hx d_Mo_arm_23 rfl ?_
  exact z_iret hx hr rfl hq (Nat.le_refl _) (Nat.le_refl _) d_Mo_arm_24 ⟨rfl, rfl, rfl⟩
set_option maxRecDepth 20000 in
theorem c_Mo_allot_r0 {l : Launch} {D : va_G} {K : Nat → ClassId} {ad : Nat → Nat} {S : zSt} {u v w : Int32} (hv : badM S u) : zC l TB D zcls (ztyl K) y_Mo_allot (.code y_Mo_allot b_Mo_allot 6 (some FieldType.int)) (rmk 3 80) [.ref (ad 13), .int u, .int v, .int w] ad (Lay K ad S) (zP K ad (some (.int 0)) (stM S 13 0 1)) := by
  refine zC.of (by decide +kernel) (Nat.le_of_ble_eq_true rfl) ?_
  intro x hx hr hml hnm hrm hq hNH
  show zV x ad (Lay K ad S) 0 0 [(0, .ref (ad 13)), (1, .int u), (2, .int v), (3, .int w)] 0 []
  refine z_aload_n hx 0 d_Mo_allot_0 rfl ?_
  refine z_aload_n hx 0 d_Mo_allot_1 rfl ?_
  refine z_iload_n hx 1 d_Mo_allot_2 rfl ?_
  refine z_iload_n hx 3 d_Mo_allot_3 rfl ?_
  refine z_cV hx (c_Mo_isPerson_no hv) k_Mo rfl ⟨a4_115, a4_118, a1_6, ⟨by decide +kernel, by decide +kernel⟩, fun sig h => by cases h; rfl⟩ a4_117 s_Mo_isPerson rfl rfl d_Mo_allot_4 (by rw [hrm]; exact ⟨Nat.le_of_ble_eq_true rfl, Nat.le_of_ble_eq_true rfl, Nat.le_of_ble_eq_true rfl, Nat.le_of_ble_eq_true rfl⟩) ?_
  show zV x ad (Lay K ad S) _ _ _ 7 [.int 0, .ref (ad 13)]
  refine z_if_eq (tgt := 17) hx d_Mo_allot_7 (by decide) (fun _ => ?_) (fun h => absurd (by decide) h)
  refine z_iconst (v := 1) hx d_Mo_allot_17 rfl ?_
  refine z_goto (tgt := 22) hx d_Mo_allot_18 (by decide) ?_
  refine z_aload_n hx 0 d_Mo_allot_22 rfl ?_
  refine z_get hx k_Mo (t := 13) rfl 5 (by decide) a3_228 rfl d_Mo_allot_23 ?_
  refine z_if_ne (tgt := 33) hx d_Mo_allot_26 (by decide) (fun h1 => ?_) (fun h1 => ?_)
  · refine z_iconst (v := 0) hx d_Mo_allot_33 rfl ?_
    refine z_iconst (v := 0) hx d_Mo_allot_34 rfl ?_
    refine z_cV hx (c_Mo_refused_1) k_Mo rfl ⟨a4_81, a4_84, a1_6, ⟨by decide +kernel, by decide +kernel⟩, fun sig h => by cases h; rfl⟩ a4_83 s_Mo_refused rfl rfl d_Mo_allot_35 (by rw [hrm]; exact ⟨Nat.le_of_ble_eq_true rfl, Nat.le_of_ble_eq_true rfl, Nat.le_of_ble_eq_true rfl, Nat.le_of_ble_eq_true rfl⟩) ?_
    show zV x ad (Lay K ad (stM S 13 0 1)) _ _ _ 38 [.int 1]
    refine z_if_eq (tgt := 43) hx d_Mo_allot_38 (by decide) (fun h => absurd h (by decide)) (fun _ => ?_)
    refine z_iconst (v := 0) hx d_Mo_allot_41 rfl ?_
    exact z_iret hx hr rfl hq (Nat.le_refl _) (Nat.le_refl _) d_Mo_allot_42 ⟨rfl, rfl, rfl⟩
  · refine z_iconst (v := 1) hx d_Mo_allot_29 rfl ?_
    refine z_goto (tgt := 34) hx d_Mo_allot_30 (by decide) ?_
    refine z_iconst (v := 0) hx d_Mo_allot_34 rfl ?_
    refine z_cV hx (c_Mo_refused_1) k_Mo rfl ⟨a4_81, a4_84, a1_6, ⟨by decide +kernel, by decide +kernel⟩, fun sig h => by cases h; rfl⟩ a4_83 s_Mo_refused rfl rfl d_Mo_allot_35 (by rw [hrm]; exact ⟨Nat.le_of_ble_eq_true rfl, Nat.le_of_ble_eq_true rfl, Nat.le_of_ble_eq_true rfl, Nat.le_of_ble_eq_true rfl⟩) ?_
    show zV x ad (Lay K ad (stM S 13 0 1)) _ _ _ 38 [.int 1]
    refine z_if_eq (tgt := 43) hx d_Mo_allot_38 (by decide) (fun h => absurd h (by decide)) (fun _ => ?_)
    refine z_iconst (v := 0) hx d_Mo_allot_41 rfl ?_
    exact z_iret hx hr rfl hq (Nat.le_refl _) (Nat.le_refl _) d_Mo_allot_42 ⟨rfl, rfl, rfl⟩
set_option maxRecDepth 20000 in
theorem c_Mo_allot_r1 {l : Launch} {D : va_G} {K : Nat → ClassId} {ad : Nat → Nat} {S : zSt} {i : Nat} (hi : i < 10) (ho : ¬ S.2.2 21 i ≤ 0) {v w : Int32} (hv : w < 0 ∨ ¬ w < 100) : zC l TB D zcls (ztyl K) y_Mo_allot (.code y_Mo_allot b_Mo_allot 6 (some FieldType.int)) (rmk 3 80) [.ref (ad 13), .int (nI i), .int v, .int w] ad (Lay K ad S) (zP K ad (some (.int 0)) (stM S 13 0 1)) := by
  refine zC.of (by decide +kernel) (Nat.le_of_ble_eq_true rfl) ?_
  intro x hx hr hml hnm hrm hq hNH
  show zV x ad (Lay K ad S) 0 0 [(0, .ref (ad 13)), (1, .int (nI i)), (2, .int v), (3, .int w)] 0 []
  refine z_aload_n hx 0 d_Mo_allot_0 rfl ?_
  refine z_aload_n hx 0 d_Mo_allot_1 rfl ?_
  refine z_iload_n hx 1 d_Mo_allot_2 rfl ?_
  refine z_iload_n hx 3 d_Mo_allot_3 rfl ?_
  refine z_cV hx (c_Mo_isPerson_out hi ho hv) k_Mo rfl ⟨a4_115, a4_118, a1_6, ⟨by decide +kernel, by decide +kernel⟩, fun sig h => by cases h; rfl⟩ a4_117 s_Mo_isPerson rfl rfl d_Mo_allot_4 (by rw [hrm]; exact ⟨Nat.le_of_ble_eq_true rfl, Nat.le_of_ble_eq_true rfl, Nat.le_of_ble_eq_true rfl, Nat.le_of_ble_eq_true rfl⟩) ?_
  show zV x ad (Lay K ad S) _ _ _ 7 [.int 0, .ref (ad 13)]
  refine z_if_eq (tgt := 17) hx d_Mo_allot_7 (by decide) (fun _ => ?_) (fun h => absurd (by decide) h)
  refine z_iconst (v := 1) hx d_Mo_allot_17 rfl ?_
  refine z_goto (tgt := 22) hx d_Mo_allot_18 (by decide) ?_
  refine z_aload_n hx 0 d_Mo_allot_22 rfl ?_
  refine z_get hx k_Mo (t := 13) rfl 5 (by decide) a3_228 rfl d_Mo_allot_23 ?_
  refine z_if_ne (tgt := 33) hx d_Mo_allot_26 (by decide) (fun h1 => ?_) (fun h1 => ?_)
  · refine z_iconst (v := 0) hx d_Mo_allot_33 rfl ?_
    refine z_iconst (v := 0) hx d_Mo_allot_34 rfl ?_
    refine z_cV hx (c_Mo_refused_1) k_Mo rfl ⟨a4_81, a4_84, a1_6, ⟨by decide +kernel, by decide +kernel⟩, fun sig h => by cases h; rfl⟩ a4_83 s_Mo_refused rfl rfl d_Mo_allot_35 (by rw [hrm]; exact ⟨Nat.le_of_ble_eq_true rfl, Nat.le_of_ble_eq_true rfl, Nat.le_of_ble_eq_true rfl, Nat.le_of_ble_eq_true rfl⟩) ?_
    show zV x ad (Lay K ad (stM S 13 0 1)) _ _ _ 38 [.int 1]
    refine z_if_eq (tgt := 43) hx d_Mo_allot_38 (by decide) (fun h => absurd h (by decide)) (fun _ => ?_)
    refine z_iconst (v := 0) hx d_Mo_allot_41 rfl ?_
    exact z_iret hx hr rfl hq (Nat.le_refl _) (Nat.le_refl _) d_Mo_allot_42 ⟨rfl, rfl, rfl⟩
  · refine z_iconst (v := 1) hx d_Mo_allot_29 rfl ?_
    refine z_goto (tgt := 34) hx d_Mo_allot_30 (by decide) ?_
    refine z_iconst (v := 0) hx d_Mo_allot_34 rfl ?_
    refine z_cV hx (c_Mo_refused_1) k_Mo rfl ⟨a4_81, a4_84, a1_6, ⟨by decide +kernel, by decide +kernel⟩, fun sig h => by cases h; rfl⟩ a4_83 s_Mo_refused rfl rfl d_Mo_allot_35 (by rw [hrm]; exact ⟨Nat.le_of_ble_eq_true rfl, Nat.le_of_ble_eq_true rfl, Nat.le_of_ble_eq_true rfl, Nat.le_of_ble_eq_true rfl⟩) ?_
    show zV x ad (Lay K ad (stM S 13 0 1)) _ _ _ 38 [.int 1]
    refine z_if_eq (tgt := 43) hx d_Mo_allot_38 (by decide) (fun h => absurd h (by decide)) (fun _ => ?_)
    refine z_iconst (v := 0) hx d_Mo_allot_41 rfl ?_
    exact z_iret hx hr rfl hq (Nat.le_refl _) (Nat.le_refl _) d_Mo_allot_42 ⟨rfl, rfl, rfl⟩
set_option maxRecDepth 20000 in
theorem c_Mo_allot_r2 {l : Launch} {D : va_G} {K : Nat → ClassId} {ad : Nat → Nat} {S : zSt} {i : Nat} (hi : i < 10) (ho : ¬ S.2.2 21 i ≤ 0) {p : Nat} (hp : p < 100) {v : Int32} (hv : v < 0 ∨ ¬ v < 8) : zC l TB D zcls (ztyl K) y_Mo_allot (.code y_Mo_allot b_Mo_allot 6 (some FieldType.int)) (rmk 3 80) [.ref (ad 13), .int (nI i), .int v, .int (nI p)] ad (Lay K ad S) (zP K ad (some (.int 0)) (stM S 13 0 1)) := by
  refine zC.of (by decide +kernel) (Nat.le_of_ble_eq_true rfl) ?_
  intro x hx hr hml hnm hrm hq hNH
  show zV x ad (Lay K ad S) 0 0 [(0, .ref (ad 13)), (1, .int (nI i)), (2, .int v), (3, .int (nI p))] 0 []
  refine z_aload_n hx 0 d_Mo_allot_0 rfl ?_
  refine z_aload_n hx 0 d_Mo_allot_1 rfl ?_
  refine z_iload_n hx 1 d_Mo_allot_2 rfl ?_
  refine z_iload_n hx 3 d_Mo_allot_3 rfl ?_
  refine z_cV hx (c_Mo_isPerson_yes hi ho hp) k_Mo rfl ⟨a4_115, a4_118, a1_6, ⟨by decide +kernel, by decide +kernel⟩, fun sig h => by cases h; rfl⟩ a4_117 s_Mo_isPerson rfl rfl d_Mo_allot_4 (by rw [hrm]; exact ⟨Nat.le_of_ble_eq_true rfl, Nat.le_of_ble_eq_true rfl, Nat.le_of_ble_eq_true rfl, Nat.le_of_ble_eq_true rfl⟩) ?_
  show zV x ad (Lay K ad S) _ _ _ 7 [.int 1, .ref (ad 13)]
  refine z_if_eq (tgt := 17) hx d_Mo_allot_7 (by decide) (fun h => absurd h (by decide)) (fun _ => ?_)
  refine z_iload_n hx 2 d_Mo_allot_10 rfl ?_
  refine z_cS hx (c_Mo_isStratum_no hv) ⟨a4_119, a4_121, a1_6, ⟨by decide +kernel, by decide +kernel⟩, fun sig h => by cases h; rfl⟩ a4_120 rfl rfl d_Mo_allot_11 (by rw [hrm]; exact ⟨Nat.le_of_ble_eq_true rfl, Nat.le_of_ble_eq_true rfl, Nat.le_of_ble_eq_true rfl, Nat.le_of_ble_eq_true rfl⟩) ?_
  show zV x ad (Lay K ad S) _ _ _ 14 [.int 0, .ref (ad 13)]
  refine z_if_ne (tgt := 21) hx d_Mo_allot_14 (by decide) (fun h => absurd (by decide) h) (fun _ => ?_)
  refine z_iconst (v := 1) hx d_Mo_allot_17 rfl ?_
  refine z_goto (tgt := 22) hx d_Mo_allot_18 (by decide) ?_
  refine z_aload_n hx 0 d_Mo_allot_22 rfl ?_
  refine z_get hx k_Mo (t := 13) rfl 5 (by decide) a3_228 rfl d_Mo_allot_23 ?_
  refine z_if_ne (tgt := 33) hx d_Mo_allot_26 (by decide) (fun h1 => ?_) (fun h1 => ?_)
  · refine z_iconst (v := 0) hx d_Mo_allot_33 rfl ?_
    refine z_iconst (v := 0) hx d_Mo_allot_34 rfl ?_
    refine z_cV hx (c_Mo_refused_1) k_Mo rfl ⟨a4_81, a4_84, a1_6, ⟨by decide +kernel, by decide +kernel⟩, fun sig h => by cases h; rfl⟩ a4_83 s_Mo_refused rfl rfl d_Mo_allot_35 (by rw [hrm]; exact ⟨Nat.le_of_ble_eq_true rfl, Nat.le_of_ble_eq_true rfl, Nat.le_of_ble_eq_true rfl, Nat.le_of_ble_eq_true rfl⟩) ?_
    show zV x ad (Lay K ad (stM S 13 0 1)) _ _ _ 38 [.int 1]
    refine z_if_eq (tgt := 43) hx d_Mo_allot_38 (by decide) (fun h => absurd h (by decide)) (fun _ => ?_)
    refine z_iconst (v := 0) hx d_Mo_allot_41 rfl ?_
    exact z_iret hx hr rfl hq (Nat.le_refl _) (Nat.le_refl _) d_Mo_allot_42 ⟨rfl, rfl, rfl⟩
  · refine z_iconst (v := 1) hx d_Mo_allot_29 rfl ?_
    refine z_goto (tgt := 34) hx d_Mo_allot_30 (by decide) ?_
    refine z_iconst (v := 0) hx d_Mo_allot_34 rfl ?_
    refine z_cV hx (c_Mo_refused_1) k_Mo rfl ⟨a4_81, a4_84, a1_6, ⟨by decide +kernel, by decide +kernel⟩, fun sig h => by cases h; rfl⟩ a4_83 s_Mo_refused rfl rfl d_Mo_allot_35 (by rw [hrm]; exact ⟨Nat.le_of_ble_eq_true rfl, Nat.le_of_ble_eq_true rfl, Nat.le_of_ble_eq_true rfl, Nat.le_of_ble_eq_true rfl⟩) ?_
    show zV x ad (Lay K ad (stM S 13 0 1)) _ _ _ 38 [.int 1]
    refine z_if_eq (tgt := 43) hx d_Mo_allot_38 (by decide) (fun h => absurd h (by decide)) (fun _ => ?_)
    refine z_iconst (v := 0) hx d_Mo_allot_41 rfl ?_
    exact z_iret hx hr rfl hq (Nat.le_refl _) (Nat.le_refl _) d_Mo_allot_42 ⟨rfl, rfl, rfl⟩
set_option maxRecDepth 20000 in
theorem c_Mo_allot_plan {l : Launch} {D : va_G} {K : Nat → ClassId} {ad : Nat → Nat} {S : zSt} {i : Nat} (hi : i < 10) (ho : ¬ S.2.2 21 i ≤ 0) {p s : Nat} (hp : p < 100) (hs : s < 8) (hpl : S.2.2 13 5 = 0) : zC l TB D zcls (ztyl K) y_Mo_allot (.code y_Mo_allot b_Mo_allot 6 (some FieldType.int)) (rmk 3 80) [.ref (ad 13), .int (nI i), .int (nI s), .int (nI p)] ad (Lay K ad S) (zP K ad (some (.int 0)) (stM S 13 0 2)) := by
  refine zC.of (by decide +kernel) (Nat.le_of_ble_eq_true rfl) ?_
  intro x hx hr hml hnm hrm hq hNH
  show zV x ad (Lay K ad S) 0 0 [(0, .ref (ad 13)), (1, .int (nI i)), (2, .int (nI s)), (3, .int (nI p))] 0 []
  refine z_aload_n hx 0 d_Mo_allot_0 rfl ?_
  refine z_aload_n hx 0 d_Mo_allot_1 rfl ?_
  refine z_iload_n hx 1 d_Mo_allot_2 rfl ?_
  refine z_iload_n hx 3 d_Mo_allot_3 rfl ?_
  refine z_cV hx (c_Mo_isPerson_yes hi ho hp) k_Mo rfl ⟨a4_115, a4_118, a1_6, ⟨by decide +kernel, by decide +kernel⟩, fun sig h => by cases h; rfl⟩ a4_117 s_Mo_isPerson rfl rfl d_Mo_allot_4 (by rw [hrm]; exact ⟨Nat.le_of_ble_eq_true rfl, Nat.le_of_ble_eq_true rfl, Nat.le_of_ble_eq_true rfl, Nat.le_of_ble_eq_true rfl⟩) ?_
  show zV x ad (Lay K ad S) _ _ _ 7 [.int 1, .ref (ad 13)]
  refine z_if_eq (tgt := 17) hx d_Mo_allot_7 (by decide) (fun h => absurd h (by decide)) (fun _ => ?_)
  refine z_iload_n hx 2 d_Mo_allot_10 rfl ?_
  refine z_cS hx (c_Mo_isStratum_yes hs) ⟨a4_119, a4_121, a1_6, ⟨by decide +kernel, by decide +kernel⟩, fun sig h => by cases h; rfl⟩ a4_120 rfl rfl d_Mo_allot_11 (by rw [hrm]; exact ⟨Nat.le_of_ble_eq_true rfl, Nat.le_of_ble_eq_true rfl, Nat.le_of_ble_eq_true rfl, Nat.le_of_ble_eq_true rfl⟩) ?_
  show zV x ad (Lay K ad S) _ _ _ 14 [.int 1, .ref (ad 13)]
  refine z_if_ne (tgt := 21) hx d_Mo_allot_14 (by decide) (fun _ => ?_) (fun h => absurd h (by decide))
  refine z_iconst (v := 0) hx d_Mo_allot_21 rfl ?_
  refine z_aload_n hx 0 d_Mo_allot_22 rfl ?_
  refine z_get hx k_Mo (t := 13) rfl 5 (by decide) a3_228 rfl d_Mo_allot_23 ?_
  refine z_if_ne (tgt := 33) hx d_Mo_allot_26 (by decide) (fun h => absurd hpl h) (fun _ => ?_)
  refine z_iconst (v := 1) hx d_Mo_allot_29 rfl ?_
  refine z_goto (tgt := 34) hx d_Mo_allot_30 (by decide) ?_
  refine z_iconst (v := 0) hx d_Mo_allot_34 rfl ?_
  refine z_cV hx (c_Mo_refused_2) k_Mo rfl ⟨a4_81, a4_84, a1_6, ⟨by decide +kernel, by decide +kernel⟩, fun sig h => by cases h; rfl⟩ a4_83 s_Mo_refused rfl rfl d_Mo_allot_35 (by rw [hrm]; exact ⟨Nat.le_of_ble_eq_true rfl, Nat.le_of_ble_eq_true rfl, Nat.le_of_ble_eq_true rfl, Nat.le_of_ble_eq_true rfl⟩) ?_
  show zV x ad (Lay K ad (stM S 13 0 2)) _ _ _ 38 [.int 1]
  refine z_if_eq (tgt := 43) hx d_Mo_allot_38 (by decide) (fun h => absurd h (by decide)) (fun _ => ?_)
  refine z_iconst (v := 0) hx d_Mo_allot_41 rfl ?_
  exact z_iret hx hr rfl hq (Nat.le_refl _) (Nat.le_refl _) d_Mo_allot_42 ⟨rfl, rfl, rfl⟩
theorem r_Mo_allot {l : Launch} {D : va_G} {K : Nat → ClassId} {ad : Nat → Nat} {S : zSt} {u v w : Int32} (hb : badM S u ∨ (w < 0 ∨ ¬ w < 100) ∨ (v < 0 ∨ ¬ v < 8)) : zC l TB D zcls (ztyl K) y_Mo_allot (.code y_Mo_allot b_Mo_allot 6 (some FieldType.int)) (rmk 3 80) [.ref (ad 13), .int u, .int v, .int w] ad (Lay K ad S) (zP K ad (some (.int 0)) (stM S 13 0 1)) := by
  by_cases h1 : badM S u
  · exact c_Mo_allot_r0 h1
  obtain ⟨i, hi, rfl, ho⟩ := okM h1
  by_cases h2 : w < 0 ∨ ¬ w < 100
  · exact c_Mo_allot_r1 hi ho h2
  obtain ⟨p, hp, rfl⟩ := badI 100 rfl (by decide) h2
  exact c_Mo_allot_r2 hi ho hp ((hb.resolve_left h1).resolve_left h2)
set_option maxRecDepth 20000 in
theorem c_Mo_offline_r0 {l : Launch} {D : va_G} {K : Nat → ClassId} {ad : Nat → Nat} {S : zSt} {u v w : Int32} (hv : badM S u) : zC l TB D zcls (ztyl K) y_Mo_offline (.code y_Mo_offline b_Mo_offline 6 (some FieldType.int)) (rmk 3 65) [.ref (ad 13), .int u, .int v, .int w] ad (Lay K ad S) (zP K ad (some (.int 0)) (stM S 13 0 1)) := by
  refine zC.of (by decide +kernel) (Nat.le_of_ble_eq_true rfl) ?_
  intro x hx hr hml hnm hrm hq hNH
  show zV x ad (Lay K ad S) 0 0 [(0, .ref (ad 13)), (1, .int u), (2, .int v), (3, .int w)] 0 []
  refine z_aload_n hx 0 d_Mo_offline_0 rfl ?_
  refine z_aload_n hx 0 d_Mo_offline_1 rfl ?_
  refine z_iload_n hx 1 d_Mo_offline_2 rfl ?_
  refine z_iload_n hx 3 d_Mo_offline_3 rfl ?_
  refine z_cV hx (c_Mo_isPerson_no hv) k_Mo rfl ⟨a4_115, a4_118, a1_6, ⟨by decide +kernel, by decide +kernel⟩, fun sig h => by cases h; rfl⟩ a4_117 s_Mo_isPerson rfl rfl d_Mo_offline_4 (by rw [hrm]; exact ⟨Nat.le_of_ble_eq_true rfl, Nat.le_of_ble_eq_true rfl, Nat.le_of_ble_eq_true rfl, Nat.le_of_ble_eq_true rfl⟩) ?_
  show zV x ad (Lay K ad S) _ _ _ 7 [.int 0, .ref (ad 13)]
  refine z_if_eq (tgt := 17) hx d_Mo_offline_7 (by decide) (fun _ => ?_) (fun h => absurd (by decide) h)
  refine z_iconst (v := 1) hx d_Mo_offline_17 rfl ?_
  refine z_goto (tgt := 22) hx d_Mo_offline_18 (by decide) ?_
  refine z_aload_n hx 0 d_Mo_offline_22 rfl ?_
  refine z_get hx k_Mo (t := 13) rfl 5 (by decide) a3_228 rfl d_Mo_offline_23 ?_
  refine z_if_ne (tgt := 33) hx d_Mo_offline_26 (by decide) (fun h1 => ?_) (fun h1 => ?_)
  · refine z_iconst (v := 0) hx d_Mo_offline_33 rfl ?_
    refine z_iconst (v := 0) hx d_Mo_offline_34 rfl ?_
    refine z_cV hx (c_Mo_refused_1) k_Mo rfl ⟨a4_81, a4_84, a1_6, ⟨by decide +kernel, by decide +kernel⟩, fun sig h => by cases h; rfl⟩ a4_83 s_Mo_refused rfl rfl d_Mo_offline_35 (by rw [hrm]; exact ⟨Nat.le_of_ble_eq_true rfl, Nat.le_of_ble_eq_true rfl, Nat.le_of_ble_eq_true rfl, Nat.le_of_ble_eq_true rfl⟩) ?_
    show zV x ad (Lay K ad (stM S 13 0 1)) _ _ _ 38 [.int 1]
    refine z_if_eq (tgt := 43) hx d_Mo_offline_38 (by decide) (fun h => absurd h (by decide)) (fun _ => ?_)
    refine z_iconst (v := 0) hx d_Mo_offline_41 rfl ?_
    exact z_iret hx hr rfl hq (Nat.le_refl _) (Nat.le_refl _) d_Mo_offline_42 ⟨rfl, rfl, rfl⟩
  · refine z_iconst (v := 1) hx d_Mo_offline_29 rfl ?_
    refine z_goto (tgt := 34) hx d_Mo_offline_30 (by decide) ?_
    refine z_iconst (v := 0) hx d_Mo_offline_34 rfl ?_
    refine z_cV hx (c_Mo_refused_1) k_Mo rfl ⟨a4_81, a4_84, a1_6, ⟨by decide +kernel, by decide +kernel⟩, fun sig h => by cases h; rfl⟩ a4_83 s_Mo_refused rfl rfl d_Mo_offline_35 (by rw [hrm]; exact ⟨Nat.le_of_ble_eq_true rfl, Nat.le_of_ble_eq_true rfl, Nat.le_of_ble_eq_true rfl, Nat.le_of_ble_eq_true rfl⟩) ?_
    show zV x ad (Lay K ad (stM S 13 0 1)) _ _ _ 38 [.int 1]
    refine z_if_eq (tgt := 43) hx d_Mo_offline_38 (by decide) (fun h => absurd h (by decide)) (fun _ => ?_)
    refine z_iconst (v := 0) hx d_Mo_offline_41 rfl ?_
    exact z_iret hx hr rfl hq (Nat.le_refl _) (Nat.le_refl _) d_Mo_offline_42 ⟨rfl, rfl, rfl⟩
set_option maxRecDepth 20000 in
theorem c_Mo_offline_r1 {l : Launch} {D : va_G} {K : Nat → ClassId} {ad : Nat → Nat} {S : zSt} {i : Nat} (hi : i < 10) (ho : ¬ S.2.2 21 i ≤ 0) {v w : Int32} (hv : w < 0 ∨ ¬ w < 100) : zC l TB D zcls (ztyl K) y_Mo_offline (.code y_Mo_offline b_Mo_offline 6 (some FieldType.int)) (rmk 3 65) [.ref (ad 13), .int (nI i), .int v, .int w] ad (Lay K ad S) (zP K ad (some (.int 0)) (stM S 13 0 1)) := by
  refine zC.of (by decide +kernel) (Nat.le_of_ble_eq_true rfl) ?_
  intro x hx hr hml hnm hrm hq hNH
  show zV x ad (Lay K ad S) 0 0 [(0, .ref (ad 13)), (1, .int (nI i)), (2, .int v), (3, .int w)] 0 []
  refine z_aload_n hx 0 d_Mo_offline_0 rfl ?_
  refine z_aload_n hx 0 d_Mo_offline_1 rfl ?_
  refine z_iload_n hx 1 d_Mo_offline_2 rfl ?_
  refine z_iload_n hx 3 d_Mo_offline_3 rfl ?_
  refine z_cV hx (c_Mo_isPerson_out hi ho hv) k_Mo rfl ⟨a4_115, a4_118, a1_6, ⟨by decide +kernel, by decide +kernel⟩, fun sig h => by cases h; rfl⟩ a4_117 s_Mo_isPerson rfl rfl d_Mo_offline_4 (by rw [hrm]; exact ⟨Nat.le_of_ble_eq_true rfl, Nat.le_of_ble_eq_true rfl, Nat.le_of_ble_eq_true rfl, Nat.le_of_ble_eq_true rfl⟩) ?_
  show zV x ad (Lay K ad S) _ _ _ 7 [.int 0, .ref (ad 13)]
  refine z_if_eq (tgt := 17) hx d_Mo_offline_7 (by decide) (fun _ => ?_) (fun h => absurd (by decide) h)
  refine z_iconst (v := 1) hx d_Mo_offline_17 rfl ?_
  refine z_goto (tgt := 22) hx d_Mo_offline_18 (by decide) ?_
  refine z_aload_n hx 0 d_Mo_offline_22 rfl ?_
  refine z_get hx k_Mo (t := 13) rfl 5 (by decide) a3_228 rfl d_Mo_offline_23 ?_
  refine z_if_ne (tgt := 33) hx d_Mo_offline_26 (by decide) (fun h1 => ?_) (fun h1 => ?_)
  · refine z_iconst (v := 0) hx d_Mo_offline_33 rfl ?_
    refine z_iconst (v := 0) hx d_Mo_offline_34 rfl ?_
    refine z_cV hx (c_Mo_refused_1) k_Mo rfl ⟨a4_81, a4_84, a1_6, ⟨by decide +kernel, by decide +kernel⟩, fun sig h => by cases h; rfl⟩ a4_83 s_Mo_refused rfl rfl d_Mo_offline_35 (by rw [hrm]; exact ⟨Nat.le_of_ble_eq_true rfl, Nat.le_of_ble_eq_true rfl, Nat.le_of_ble_eq_true rfl, Nat.le_of_ble_eq_true rfl⟩) ?_
    show zV x ad (Lay K ad (stM S 13 0 1)) _ _ _ 38 [.int 1]
    refine z_if_eq (tgt := 43) hx d_Mo_offline_38 (by decide) (fun h => absurd h (by decide)) (fun _ => ?_)
    refine z_iconst (v := 0) hx d_Mo_offline_41 rfl ?_
    exact z_iret hx hr rfl hq (Nat.le_refl _) (Nat.le_refl _) d_Mo_offline_42 ⟨rfl, rfl, rfl⟩
  · refine z_iconst (v := 1) hx d_Mo_offline_29 rfl ?_
    refine z_goto (tgt := 34) hx d_Mo_offline_30 (by decide) ?_
    refine z_iconst (v := 0) hx d_Mo_offline_34 rfl ?_
    refine z_cV hx (c_Mo_refused_1) k_Mo rfl ⟨a4_81, a4_84, a1_6, ⟨by decide +kernel, by decide +kernel⟩, fun sig h => by cases h; rfl⟩ a4_83 s_Mo_refused rfl rfl d_Mo_offline_35 (by rw [hrm]; exact ⟨Nat.le_of_ble_eq_true rfl, Nat.le_of_ble_eq_true rfl, Nat.le_of_ble_eq_true rfl, Nat.le_of_ble_eq_true rfl⟩) ?_
    show zV x ad (Lay K ad (stM S 13 0 1)) _ _ _ 38 [.int 1]
    refine z_if_eq (tgt := 43) hx d_Mo_offline_38 (by decide) (fun h => absurd h (by decide)) (fun _ => ?_)
    refine z_iconst (v := 0) hx d_Mo_offline_41 rfl ?_
    exact z_iret hx hr rfl hq (Nat.le_refl _) (Nat.le_refl _) d_Mo_offline_42 ⟨rfl, rfl, rfl⟩
set_option maxRecDepth 20000 in
theorem c_Mo_offline_r2 {l : Launch} {D : va_G} {K : Nat → ClassId} {ad : Nat → Nat} {S : zSt} {i : Nat} (hi : i < 10) (ho : ¬ S.2.2 21 i ≤ 0) {p : Nat} (hp : p < 100) {v : Int32} (hv : v < 0 ∨ ¬ v < 8) : zC l TB D zcls (ztyl K) y_Mo_offline (.code y_Mo_offline b_Mo_offline 6 (some FieldType.int)) (rmk 3 65) [.ref (ad 13), .int (nI i), .int v, .int (nI p)] ad (Lay K ad S) (zP K ad (some (.int 0)) (stM S 13 0 1)) := by
  refine zC.of (by decide +kernel) (Nat.le_of_ble_eq_true rfl) ?_
  intro x hx hr hml hnm hrm hq hNH
  show zV x ad (Lay K ad S) 0 0 [(0, .ref (ad 13)), (1, .int (nI i)), (2, .int v), (3, .int (nI p))] 0 []
  refine z_aload_n hx 0 d_Mo_offline_0 rfl ?_
  refine z_aload_n hx 0 d_Mo_offline_1 rfl ?_
  refine z_iload_n hx 1 d_Mo_offline_2 rfl ?_
  refine z_iload_n hx 3 d_Mo_offline_3 rfl ?_
  refine z_cV hx (c_Mo_isPerson_yes hi ho hp) k_Mo rfl ⟨a4_115, a4_118, a1_6, ⟨by decide +kernel, by decide +kernel⟩, fun sig h => by cases h; rfl⟩ a4_117 s_Mo_isPerson rfl rfl d_Mo_offline_4 (by rw [hrm]; exact ⟨Nat.le_of_ble_eq_true rfl, Nat.le_of_ble_eq_true rfl, Nat.le_of_ble_eq_true rfl, Nat.le_of_ble_eq_true rfl⟩) ?_
  show zV x ad (Lay K ad S) _ _ _ 7 [.int 1, .ref (ad 13)]
  refine z_if_eq (tgt := 17) hx d_Mo_offline_7 (by decide) (fun h => absurd h (by decide)) (fun _ => ?_)
  refine z_iload_n hx 2 d_Mo_offline_10 rfl ?_
  refine z_cS hx (c_Mo_isStratum_no hv) ⟨a4_119, a4_121, a1_6, ⟨by decide +kernel, by decide +kernel⟩, fun sig h => by cases h; rfl⟩ a4_120 rfl rfl d_Mo_offline_11 (by rw [hrm]; exact ⟨Nat.le_of_ble_eq_true rfl, Nat.le_of_ble_eq_true rfl, Nat.le_of_ble_eq_true rfl, Nat.le_of_ble_eq_true rfl⟩) ?_
  show zV x ad (Lay K ad S) _ _ _ 14 [.int 0, .ref (ad 13)]
  refine z_if_ne (tgt := 21) hx d_Mo_offline_14 (by decide) (fun h => absurd (by decide) h) (fun _ => ?_)
  refine z_iconst (v := 1) hx d_Mo_offline_17 rfl ?_
  refine z_goto (tgt := 22) hx d_Mo_offline_18 (by decide) ?_
  refine z_aload_n hx 0 d_Mo_offline_22 rfl ?_
  refine z_get hx k_Mo (t := 13) rfl 5 (by decide) a3_228 rfl d_Mo_offline_23 ?_
  refine z_if_ne (tgt := 33) hx d_Mo_offline_26 (by decide) (fun h1 => ?_) (fun h1 => ?_)
  · refine z_iconst (v := 0) hx d_Mo_offline_33 rfl ?_
    refine z_iconst (v := 0) hx d_Mo_offline_34 rfl ?_
    refine z_cV hx (c_Mo_refused_1) k_Mo rfl ⟨a4_81, a4_84, a1_6, ⟨by decide +kernel, by decide +kernel⟩, fun sig h => by cases h; rfl⟩ a4_83 s_Mo_refused rfl rfl d_Mo_offline_35 (by rw [hrm]; exact ⟨Nat.le_of_ble_eq_true rfl, Nat.le_of_ble_eq_true rfl, Nat.le_of_ble_eq_true rfl, Nat.le_of_ble_eq_true rfl⟩) ?_
    show zV x ad (Lay K ad (stM S 13 0 1)) _ _ _ 38 [.int 1]
    refine z_if_eq (tgt := 43) hx d_Mo_offline_38 (by decide) (fun h => absurd h (by decide)) (fun _ => ?_)
    refine z_iconst (v := 0) hx d_Mo_offline_41 rfl ?_
    exact z_iret hx hr rfl hq (Nat.le_refl _) (Nat.le_refl _) d_Mo_offline_42 ⟨rfl, rfl, rfl⟩
  · refine z_iconst (v := 1) hx d_Mo_offline_29 rfl ?_
    refine z_goto (tgt := 34) hx d_Mo_offline_30 (by decide) ?_
    refine z_iconst (v := 0) hx d_Mo_offline_34 rfl ?_
    refine z_cV hx (c_Mo_refused_1) k_Mo rfl ⟨a4_81, a4_84, a1_6, ⟨by decide +kernel, by decide +kernel⟩, fun sig h => by cases h; rfl⟩ a4_83 s_Mo_refused rfl rfl d_Mo_offline_35 (by rw [hrm]; exact ⟨Nat.le_of_ble_eq_true rfl, Nat.le_of_ble_eq_true rfl, Nat.le_of_ble_eq_true rfl, Nat.le_of_ble_eq_true rfl⟩) ?_
    show zV x ad (Lay K ad (stM S 13 0 1)) _ _ _ 38 [.int 1]
    refine z_if_eq (tgt := 43) hx d_Mo_offline_38 (by decide) (fun h => absurd h (by decide)) (fun _ => ?_)
    refine z_iconst (v := 0) hx d_Mo_offline_41 rfl ?_
    exact z_iret hx hr rfl hq (Nat.le_refl _) (Nat.le_refl _) d_Mo_offline_42 ⟨rfl, rfl, rfl⟩
set_option maxRecDepth 20000 in
theorem c_Mo_offline_plan {l : Launch} {D : va_G} {K : Nat → ClassId} {ad : Nat → Nat} {S : zSt} {i : Nat} (hi : i < 10) (ho : ¬ S.2.2 21 i ≤ 0) {p s : Nat} (hp : p < 100) (hs : s < 8) (hpl : S.2.2 13 5 = 0) : zC l TB D zcls (ztyl K) y_Mo_offline (.code y_Mo_offline b_Mo_offline 6 (some FieldType.int)) (rmk 3 65) [.ref (ad 13), .int (nI i), .int (nI s), .int (nI p)] ad (Lay K ad S) (zP K ad (some (.int 0)) (stM S 13 0 2)) := by
  refine zC.of (by decide +kernel) (Nat.le_of_ble_eq_true rfl) ?_
  intro x hx hr hml hnm hrm hq hNH
  show zV x ad (Lay K ad S) 0 0 [(0, .ref (ad 13)), (1, .int (nI i)), (2, .int (nI s)), (3, .int (nI p))] 0 []
  refine z_aload_n hx 0 d_Mo_offline_0 rfl ?_
  refine z_aload_n hx 0 d_Mo_offline_1 rfl ?_
  refine z_iload_n hx 1 d_Mo_offline_2 rfl ?_
  refine z_iload_n hx 3 d_Mo_offline_3 rfl ?_
  refine z_cV hx (c_Mo_isPerson_yes hi ho hp) k_Mo rfl ⟨a4_115, a4_118, a1_6, ⟨by decide +kernel, by decide +kernel⟩, fun sig h => by cases h; rfl⟩ a4_117 s_Mo_isPerson rfl rfl d_Mo_offline_4 (by rw [hrm]; exact ⟨Nat.le_of_ble_eq_true rfl, Nat.le_of_ble_eq_true rfl, Nat.le_of_ble_eq_true rfl, Nat.le_of_ble_eq_true rfl⟩) ?_
  show zV x ad (Lay K ad S) _ _ _ 7 [.int 1, .ref (ad 13)]
  refine z_if_eq (tgt := 17) hx d_Mo_offline_7 (by decide) (fun h => absurd h (by decide)) (fun _ => ?_)
  refine z_iload_n hx 2 d_Mo_offline_10 rfl ?_
  refine z_cS hx (c_Mo_isStratum_yes hs) ⟨a4_119, a4_121, a1_6, ⟨by decide +kernel, by decide +kernel⟩, fun sig h => by cases h; rfl⟩ a4_120 rfl rfl d_Mo_offline_11 (by rw [hrm]; exact ⟨Nat.le_of_ble_eq_true rfl, Nat.le_of_ble_eq_true rfl, Nat.le_of_ble_eq_true rfl, Nat.le_of_ble_eq_true rfl⟩) ?_
  show zV x ad (Lay K ad S) _ _ _ 14 [.int 1, .ref (ad 13)]
  refine z_if_ne (tgt := 21) hx d_Mo_offline_14 (by decide) (fun _ => ?_) (fun h => absurd h (by decide))
  refine z_iconst (v := 0) hx d_Mo_offline_21 rfl ?_
  refine z_aload_n hx 0 d_Mo_offline_22 rfl ?_
  refine z_get hx k_Mo (t := 13) rfl 5 (by decide) a3_228 rfl d_Mo_offline_23 ?_
  refine z_if_ne (tgt := 33) hx d_Mo_offline_26 (by decide) (fun h => absurd hpl h) (fun _ => ?_)
  refine z_iconst (v := 1) hx d_Mo_offline_29 rfl ?_
  refine z_goto (tgt := 34) hx d_Mo_offline_30 (by decide) ?_
  refine z_iconst (v := 0) hx d_Mo_offline_34 rfl ?_
  refine z_cV hx (c_Mo_refused_2) k_Mo rfl ⟨a4_81, a4_84, a1_6, ⟨by decide +kernel, by decide +kernel⟩, fun sig h => by cases h; rfl⟩ a4_83 s_Mo_refused rfl rfl d_Mo_offline_35 (by rw [hrm]; exact ⟨Nat.le_of_ble_eq_true rfl, Nat.le_of_ble_eq_true rfl, Nat.le_of_ble_eq_true rfl, Nat.le_of_ble_eq_true rfl⟩) ?_
  show zV x ad (Lay K ad (stM S 13 0 2)) _ _ _ 38 [.int 1]
  refine z_if_eq (tgt := 43) hx d_Mo_offline_38 (by decide) (fun h => absurd h (by decide)) (fun _ => ?_)
  refine z_iconst (v := 0) hx d_Mo_offline_41 rfl ?_
  exact z_iret hx hr rfl hq (Nat.le_refl _) (Nat.le_refl _) d_Mo_offline_42 ⟨rfl, rfl, rfl⟩
theorem r_Mo_offline {l : Launch} {D : va_G} {K : Nat → ClassId} {ad : Nat → Nat} {S : zSt} {u v w : Int32} (hb : badM S u ∨ (w < 0 ∨ ¬ w < 100) ∨ (v < 0 ∨ ¬ v < 8)) : zC l TB D zcls (ztyl K) y_Mo_offline (.code y_Mo_offline b_Mo_offline 6 (some FieldType.int)) (rmk 3 65) [.ref (ad 13), .int u, .int v, .int w] ad (Lay K ad S) (zP K ad (some (.int 0)) (stM S 13 0 1)) := by
  by_cases h1 : badM S u
  · exact c_Mo_offline_r0 h1
  obtain ⟨i, hi, rfl, ho⟩ := okM h1
  by_cases h2 : w < 0 ∨ ¬ w < 100
  · exact c_Mo_offline_r1 hi ho h2
  obtain ⟨p, hp, rfl⟩ := badI 100 rfl (by decide) h2
  exact c_Mo_offline_r2 hi ho hp ((hb.resolve_left h1).resolve_left h2)
set_option maxRecDepth 20000 in
theorem c_Mo_reserve_r0 {l : Launch} {D : va_G} {K : Nat → ClassId} {ad : Nat → Nat} {S : zSt} {u v : Int32} (hv : badM S u) : zC l TB D zcls (ztyl K) y_Mo_reserve (.code y_Mo_reserve b_Mo_reserve 7 (some FieldType.int)) (rmk 2 55) [.ref (ad 13), .int u, .int v] ad (Lay K ad S) (zP K ad (some (.int 0)) (stM S 13 0 1)) := by
  refine zC.of (by decide +kernel) (Nat.le_of_ble_eq_true rfl) ?_
  intro x hx hr hml hnm hrm hq hNH
  show zV x ad (Lay K ad S) 0 0 [(0, .ref (ad 13)), (1, .int u), (2, .int v)] 0 []
  refine z_aload_n hx 0 d_Mo_reserve_0 rfl ?_
  refine z_aload_n hx 0 d_Mo_reserve_1 rfl ?_
  refine z_iload_n hx 1 d_Mo_reserve_2 rfl ?_
  refine z_cV hx (c_Mo_isSite_no hv) k_Mo rfl ⟨a4_98, a4_101, a1_6, ⟨by decide +kernel, by decide +kernel⟩, fun sig h => by cases h; rfl⟩ a4_100 s_Mo_isSite rfl rfl d_Mo_reserve_3 (by rw [hrm]; exact ⟨Nat.le_of_ble_eq_true rfl, Nat.le_of_ble_eq_true rfl, Nat.le_of_ble_eq_true rfl, Nat.le_of_ble_eq_true rfl⟩) ?_
  show zV x ad (Lay K ad S) _ _ _ 6 [.int 0, .ref (ad 13)]
  refine z_if_eq (tgt := 16) hx d_Mo_reserve_6 (by decide) (fun _ => ?_) (fun h => absurd (by decide) h)
  refine z_iconst (v := 1) hx d_Mo_reserve_16 rfl ?_
  refine z_goto (tgt := 21) hx d_Mo_reserve_17 (by decide) ?_
  refine z_aload_n hx 0 d_Mo_reserve_21 rfl ?_
  refine z_get hx k_Mo (t := 13) rfl 5 (by decide) a3_228 rfl d_Mo_reserve_22 ?_
  refine z_if_ne (tgt := 32) hx d_Mo_reserve_25 (by decide) (fun h1 => ?_) (fun h1 => ?_)
  · refine z_iconst (v := 0) hx d_Mo_reserve_32 rfl ?_
    refine z_iconst (v := 0) hx d_Mo_reserve_33 rfl ?_
    refine z_cV hx (c_Mo_refused_1) k_Mo rfl ⟨a4_81, a4_84, a1_6, ⟨by decide +kernel, by decide +kernel⟩, fun sig h => by cases h; rfl⟩ a4_83 s_Mo_refused rfl rfl d_Mo_reserve_34 (by rw [hrm]; exact ⟨Nat.le_of_ble_eq_true rfl, Nat.le_of_ble_eq_true rfl, Nat.le_of_ble_eq_true rfl, Nat.le_of_ble_eq_true rfl⟩) ?_
    show zV x ad (Lay K ad (stM S 13 0 1)) _ _ _ 37 [.int 1]
    refine z_if_eq (tgt := 42) hx d_Mo_reserve_37 (by decide) (fun h => absurd h (by decide)) (fun _ => ?_)
    refine z_iconst (v := 0) hx d_Mo_reserve_40 rfl ?_
    exact z_iret hx hr rfl hq (Nat.le_refl _) (Nat.le_refl _) d_Mo_reserve_41 ⟨rfl, rfl, rfl⟩
  · refine z_iconst (v := 1) hx d_Mo_reserve_28 rfl ?_
    refine z_goto (tgt := 33) hx d_Mo_reserve_29 (by decide) ?_
    refine z_iconst (v := 0) hx d_Mo_reserve_33 rfl ?_
    refine z_cV hx (c_Mo_refused_1) k_Mo rfl ⟨a4_81, a4_84, a1_6, ⟨by decide +kernel, by decide +kernel⟩, fun sig h => by cases h; rfl⟩ a4_83 s_Mo_refused rfl rfl d_Mo_reserve_34 (by rw [hrm]; exact ⟨Nat.le_of_ble_eq_true rfl, Nat.le_of_ble_eq_true rfl, Nat.le_of_ble_eq_true rfl, Nat.le_of_ble_eq_true rfl⟩) ?_
    show zV x ad (Lay K ad (stM S 13 0 1)) _ _ _ 37 [.int 1]
    refine z_if_eq (tgt := 42) hx d_Mo_reserve_37 (by decide) (fun h => absurd h (by decide)) (fun _ => ?_)
    refine z_iconst (v := 0) hx d_Mo_reserve_40 rfl ?_
    exact z_iret hx hr rfl hq (Nat.le_refl _) (Nat.le_refl _) d_Mo_reserve_41 ⟨rfl, rfl, rfl⟩
set_option maxRecDepth 20000 in
theorem c_Mo_reserve_r1 {l : Launch} {D : va_G} {K : Nat → ClassId} {ad : Nat → Nat} {S : zSt} {i : Nat} (hi : i < 10) (ho : ¬ S.2.2 21 i ≤ 0) {v : Int32} (hv : v < 0 ∨ ¬ v < 8) : zC l TB D zcls (ztyl K) y_Mo_reserve (.code y_Mo_reserve b_Mo_reserve 7 (some FieldType.int)) (rmk 2 55) [.ref (ad 13), .int (nI i), .int v] ad (Lay K ad S) (zP K ad (some (.int 0)) (stM S 13 0 1)) := by
  refine zC.of (by decide +kernel) (Nat.le_of_ble_eq_true rfl) ?_
  intro x hx hr hml hnm hrm hq hNH
  show zV x ad (Lay K ad S) 0 0 [(0, .ref (ad 13)), (1, .int (nI i)), (2, .int v)] 0 []
  refine z_aload_n hx 0 d_Mo_reserve_0 rfl ?_
  refine z_aload_n hx 0 d_Mo_reserve_1 rfl ?_
  refine z_iload_n hx 1 d_Mo_reserve_2 rfl ?_
  refine z_cV hx (c_Mo_isSite_yes hi ho) k_Mo rfl ⟨a4_98, a4_101, a1_6, ⟨by decide +kernel, by decide +kernel⟩, fun sig h => by cases h; rfl⟩ a4_100 s_Mo_isSite rfl rfl d_Mo_reserve_3 (by rw [hrm]; exact ⟨Nat.le_of_ble_eq_true rfl, Nat.le_of_ble_eq_true rfl, Nat.le_of_ble_eq_true rfl, Nat.le_of_ble_eq_true rfl⟩) ?_
  show zV x ad (Lay K ad S) _ _ _ 6 [.int 1, .ref (ad 13)]
  refine z_if_eq (tgt := 16) hx d_Mo_reserve_6 (by decide) (fun h => absurd h (by decide)) (fun _ => ?_)
  refine z_iload_n hx 2 d_Mo_reserve_9 rfl ?_
  refine z_cS hx (c_Mo_isStratum_no hv) ⟨a4_119, a4_121, a1_6, ⟨by decide +kernel, by decide +kernel⟩, fun sig h => by cases h; rfl⟩ a4_120 rfl rfl d_Mo_reserve_10 (by rw [hrm]; exact ⟨Nat.le_of_ble_eq_true rfl, Nat.le_of_ble_eq_true rfl, Nat.le_of_ble_eq_true rfl, Nat.le_of_ble_eq_true rfl⟩) ?_
  show zV x ad (Lay K ad S) _ _ _ 13 [.int 0, .ref (ad 13)]
  refine z_if_ne (tgt := 20) hx d_Mo_reserve_13 (by decide) (fun h => absurd (by decide) h) (fun _ => ?_)
  refine z_iconst (v := 1) hx d_Mo_reserve_16 rfl ?_
  refine z_goto (tgt := 21) hx d_Mo_reserve_17 (by decide) ?_
  refine z_aload_n hx 0 d_Mo_reserve_21 rfl ?_
  refine z_get hx k_Mo (t := 13) rfl 5 (by decide) a3_228 rfl d_Mo_reserve_22 ?_
  refine z_if_ne (tgt := 32) hx d_Mo_reserve_25 (by decide) (fun h1 => ?_) (fun h1 => ?_)
  · refine z_iconst (v := 0) hx d_Mo_reserve_32 rfl ?_
    refine z_iconst (v := 0) hx d_Mo_reserve_33 rfl ?_
    refine z_cV hx (c_Mo_refused_1) k_Mo rfl ⟨a4_81, a4_84, a1_6, ⟨by decide +kernel, by decide +kernel⟩, fun sig h => by cases h; rfl⟩ a4_83 s_Mo_refused rfl rfl d_Mo_reserve_34 (by rw [hrm]; exact ⟨Nat.le_of_ble_eq_true rfl, Nat.le_of_ble_eq_true rfl, Nat.le_of_ble_eq_true rfl, Nat.le_of_ble_eq_true rfl⟩) ?_
    show zV x ad (Lay K ad (stM S 13 0 1)) _ _ _ 37 [.int 1]
    refine z_if_eq (tgt := 42) hx d_Mo_reserve_37 (by decide) (fun h => absurd h (by decide)) (fun _ => ?_)
    refine z_iconst (v := 0) hx d_Mo_reserve_40 rfl ?_
    exact z_iret hx hr rfl hq (Nat.le_refl _) (Nat.le_refl _) d_Mo_reserve_41 ⟨rfl, rfl, rfl⟩
  · refine z_iconst (v := 1) hx d_Mo_reserve_28 rfl ?_
    refine z_goto (tgt := 33) hx d_Mo_reserve_29 (by decide) ?_
    refine z_iconst (v := 0) hx d_Mo_reserve_33 rfl ?_
    refine z_cV hx (c_Mo_refused_1) k_Mo rfl ⟨a4_81, a4_84, a1_6, ⟨by decide +kernel, by decide +kernel⟩, fun sig h => by cases h; rfl⟩ a4_83 s_Mo_refused rfl rfl d_Mo_reserve_34 (by rw [hrm]; exact ⟨Nat.le_of_ble_eq_true rfl, Nat.le_of_ble_eq_true rfl, Nat.le_of_ble_eq_true rfl, Nat.le_of_ble_eq_true rfl⟩) ?_
    show zV x ad (Lay K ad (stM S 13 0 1)) _ _ _ 37 [.int 1]
    refine z_if_eq (tgt := 42) hx d_Mo_reserve_37 (by decide) (fun h => absurd h (by decide)) (fun _ => ?_)
    refine z_iconst (v := 0) hx d_Mo_reserve_40 rfl ?_
    exact z_iret hx hr rfl hq (Nat.le_refl _) (Nat.le_refl _) d_Mo_reserve_41 ⟨rfl, rfl, rfl⟩
set_option maxRecDepth 20000 in
theorem c_Mo_reserve_plan {l : Launch} {D : va_G} {K : Nat → ClassId} {ad : Nat → Nat} {S : zSt} {i : Nat} (hi : i < 10) (ho : ¬ S.2.2 21 i ≤ 0) {s : Nat} (hs : s < 8) (hpl : S.2.2 13 5 = 0) : zC l TB D zcls (ztyl K) y_Mo_reserve (.code y_Mo_reserve b_Mo_reserve 7 (some FieldType.int)) (rmk 2 55) [.ref (ad 13), .int (nI i), .int (nI s)] ad (Lay K ad S) (zP K ad (some (.int 0)) (stM S 13 0 2)) := by
  refine zC.of (by decide +kernel) (Nat.le_of_ble_eq_true rfl) ?_
  intro x hx hr hml hnm hrm hq hNH
  show zV x ad (Lay K ad S) 0 0 [(0, .ref (ad 13)), (1, .int (nI i)), (2, .int (nI s))] 0 []
  refine z_aload_n hx 0 d_Mo_reserve_0 rfl ?_
  refine z_aload_n hx 0 d_Mo_reserve_1 rfl ?_
  refine z_iload_n hx 1 d_Mo_reserve_2 rfl ?_
  refine z_cV hx (c_Mo_isSite_yes hi ho) k_Mo rfl ⟨a4_98, a4_101, a1_6, ⟨by decide +kernel, by decide +kernel⟩, fun sig h => by cases h; rfl⟩ a4_100 s_Mo_isSite rfl rfl d_Mo_reserve_3 (by rw [hrm]; exact ⟨Nat.le_of_ble_eq_true rfl, Nat.le_of_ble_eq_true rfl, Nat.le_of_ble_eq_true rfl, Nat.le_of_ble_eq_true rfl⟩) ?_
  show zV x ad (Lay K ad S) _ _ _ 6 [.int 1, .ref (ad 13)]
  refine z_if_eq (tgt := 16) hx d_Mo_reserve_6 (by decide) (fun h => absurd h (by decide)) (fun _ => ?_)
  refine z_iload_n hx 2 d_Mo_reserve_9 rfl ?_
  refine z_cS hx (c_Mo_isStratum_yes hs) ⟨a4_119, a4_121, a1_6, ⟨by decide +kernel, by decide +kernel⟩, fun sig h => by cases h; rfl⟩ a4_120 rfl rfl d_Mo_reserve_10 (by rw [hrm]; exact ⟨Nat.le_of_ble_eq_true rfl, Nat.le_of_ble_eq_true rfl, Nat.le_of_ble_eq_true rfl, Nat.le_of_ble_eq_true rfl⟩) ?_
  show zV x ad (Lay K ad S) _ _ _ 13 [.int 1, .ref (ad 13)]
  refine z_if_ne (tgt := 20) hx d_Mo_reserve_13 (by decide) (fun _ => ?_) (fun h => absurd h (by decide))
  refine z_iconst (v := 0) hx d_Mo_reserve_20 rfl ?_
  refine z_aload_n hx 0 d_Mo_reserve_21 rfl ?_
  refine z_get hx k_Mo (t := 13) rfl 5 (by decide) a3_228 rfl d_Mo_reserve_22 ?_
  refine z_if_ne (tgt := 32) hx d_Mo_reserve_25 (by decide) (fun h => absurd hpl h) (fun _ => ?_)
  refine z_iconst (v := 1) hx d_Mo_reserve_28 rfl ?_
  refine z_goto (tgt := 33) hx d_Mo_reserve_29 (by decide) ?_
  refine z_iconst (v := 0) hx d_Mo_reserve_33 rfl ?_
  refine z_cV hx (c_Mo_refused_2) k_Mo rfl ⟨a4_81, a4_84, a1_6, ⟨by decide +kernel, by decide +kernel⟩, fun sig h => by cases h; rfl⟩ a4_83 s_Mo_refused rfl rfl d_Mo_reserve_34 (by rw [hrm]; exact ⟨Nat.le_of_ble_eq_true rfl, Nat.le_of_ble_eq_true rfl, Nat.le_of_ble_eq_true rfl, Nat.le_of_ble_eq_true rfl⟩) ?_
  show zV x ad (Lay K ad (stM S 13 0 2)) _ _ _ 37 [.int 1]
  refine z_if_eq (tgt := 42) hx d_Mo_reserve_37 (by decide) (fun h => absurd h (by decide)) (fun _ => ?_)
  refine z_iconst (v := 0) hx d_Mo_reserve_40 rfl ?_
  exact z_iret hx hr rfl hq (Nat.le_refl _) (Nat.le_refl _) d_Mo_reserve_41 ⟨rfl, rfl, rfl⟩
set_option maxRecDepth 20000 in
theorem c_Mo_kits_r0 {l : Launch} {D : va_G} {K : Nat → ClassId} {ad : Nat → Nat} {S : zSt} {v0 v1 v2 v3 : Int32} (hv : badM S v0) : zC l TB D zcls (ztyl K) y_Mo_kits (.code y_Mo_kits b_Mo_kits 7 (some FieldType.int)) (rmk 2 43) [.ref (ad 13), .int v0, .int v1, .int v2, .int v3] ad (Lay K ad S) (zP K ad (some (.int 0)) (stM S 13 0 1)) := by
  refine zC.of (by decide +kernel) (Nat.le_of_ble_eq_true rfl) ?_
  intro x hx hr hml hnm hrm hq hNH
  show zV x ad (Lay K ad S) 0 0 [(0, .ref (ad 13)), (1, .int v0), (2, .int v1), (3, .int v2), (4, .int v3)] 0 []
  refine z_aload_n hx 0 d_Mo_kits_0 rfl ?_
  refine z_iload_n hx 1 d_Mo_kits_1 rfl ?_
  refine z_cV hx (c_Mo_isSite_no hv) k_Mo rfl ⟨a4_98, a4_101, a1_6, ⟨by decide +kernel, by decide +kernel⟩, fun sig h => by cases h; rfl⟩ a4_100 s_Mo_isSite rfl rfl d_Mo_kits_2 (by rw [hrm]; exact ⟨Nat.le_of_ble_eq_true rfl, Nat.le_of_ble_eq_true rfl, Nat.le_of_ble_eq_true rfl, Nat.le_of_ble_eq_true rfl⟩) ?_
  show zV x ad (Lay K ad S) _ _ _ 5 [.int 0]
  refine z_if_eq (tgt := 42) hx d_Mo_kits_5 (by decide) (fun _ => ?_) (fun h => absurd (by decide) h)
  refine z_iconst (v := 1) hx d_Mo_kits_42 rfl ?_
  refine z_goto (tgt := 47) hx d_Mo_kits_43 (by decide) ?_
  refine z_istore hx [(5, .int 1), (0, .ref (ad 13)), (1, .int v0), (2, .int v1), (3, .int v2), (4, .int v3)] d_Mo_kits_47 (zN hml (by decide)) rfl ?_
  refine z_aload_n hx 1 d_Mo_kits_49 rfl ?_
  refine z_iload hx 0 d_Mo_kits_50 rfl ?_
  refine z_aload_n hx 1 d_Mo_kits_52 rfl ?_
  refine z_get hx k_Mo (t := 13) rfl 5 (by decide) a3_228 rfl d_Mo_kits_53 ?_
  refine z_if_ne (tgt := 63) hx d_Mo_kits_56 (by decide) (fun h1 => ?_) (fun h1 => ?_)
  · refine z_iconst (v := 0) hx d_Mo_kits_63 rfl ?_
    refine z_iload hx 5 d_Mo_kits_64 rfl ?_
    refine z_iconst (v := 1) hx d_Mo_kits_66 rfl ?_
    refine z_bipush (v := 50) hx d_Mo_kits_67 rfl ?_
    refine z_cS hx (c_Mo_within) ⟨a4_78, a4_80, a1_6, ⟨by decide +kernel, by decide +kernel⟩, fun sig h => by cases h; rfl⟩ a4_79 rfl rfl d_Mo_kits_69 (by rw [hrm]; exact ⟨Nat.le_of_ble_eq_true rfl, Nat.le_of_ble_eq_true rfl, Nat.le_of_ble_eq_true rfl, Nat.le_of_ble_eq_true rfl⟩) ?_
    show zV x ad (Lay K ad S) _ _ _ 72 [.int (wiF v3 1 50), .int 0, .int 1, .ref (ad 13)]
    refine z_if_ne (tgt := 79) hx d_Mo_kits_72 (by decide) (fun h2 => ?_) (fun h2 => ?_)
    · refine z_iconst (v := 0) hx d_Mo_kits_79 rfl ?_
      refine z_cV hx (c_Mo_refused_1) k_Mo rfl ⟨a4_81, a4_84, a1_6, ⟨by decide +kernel, by decide +kernel⟩, fun sig h => by cases h; rfl⟩ a4_83 s_Mo_refused rfl rfl d_Mo_kits_80 (by rw [hrm]; exact ⟨Nat.le_of_ble_eq_true rfl, Nat.le_of_ble_eq_true rfl, Nat.le_of_ble_eq_true rfl, Nat.le_of_ble_eq_true rfl⟩) ?_
      show zV x ad (Lay K ad (stM S 13 0 1)) _ _ _ 83 [.int 1]
      refine z_if_eq (tgt := 88) hx d_Mo_kits_83 (by decide) (fun h => absurd h (by decide)) (fun _ => ?_)
      refine z_iconst (v := 0) hx d_Mo_kits_86 rfl ?_
      exact z_iret hx hr rfl hq (Nat.le_refl _) (Nat.le_refl _) d_Mo_kits_87 ⟨rfl, rfl, rfl⟩
    · refine z_iconst (v := 1) hx d_Mo_kits_75 rfl ?_
      refine z_goto (tgt := 80) hx d_Mo_kits_76 (by decide) ?_
      refine z_cV hx (c_Mo_refused_1) k_Mo rfl ⟨a4_81, a4_84, a1_6, ⟨by decide +kernel, by decide +kernel⟩, fun sig h => by cases h; rfl⟩ a4_83 s_Mo_refused rfl rfl d_Mo_kits_80 (by rw [hrm]; exact ⟨Nat.le_of_ble_eq_true rfl, Nat.le_of_ble_eq_true rfl, Nat.le_of_ble_eq_true rfl, Nat.le_of_ble_eq_true rfl⟩) ?_
      show zV x ad (Lay K ad (stM S 13 0 1)) _ _ _ 83 [.int 1]
      refine z_if_eq (tgt := 88) hx d_Mo_kits_83 (by decide) (fun h => absurd h (by decide)) (fun _ => ?_)
      refine z_iconst (v := 0) hx d_Mo_kits_86 rfl ?_
      exact z_iret hx hr rfl hq (Nat.le_refl _) (Nat.le_refl _) d_Mo_kits_87 ⟨rfl, rfl, rfl⟩
  · refine z_iconst (v := 1) hx d_Mo_kits_59 rfl ?_
    refine z_goto (tgt := 64) hx d_Mo_kits_60 (by decide) ?_
    refine z_iload hx 5 d_Mo_kits_64 rfl ?_
    refine z_iconst (v := 1) hx d_Mo_kits_66 rfl ?_
    refine z_bipush (v := 50) hx d_Mo_kits_67 rfl ?_
    refine z_cS hx (c_Mo_within) ⟨a4_78, a4_80, a1_6, ⟨by decide +kernel, by decide +kernel⟩, fun sig h => by cases h; rfl⟩ a4_79 rfl rfl d_Mo_kits_69 (by rw [hrm]; exact ⟨Nat.le_of_ble_eq_true rfl, Nat.le_of_ble_eq_true rfl, Nat.le_of_ble_eq_true rfl, Nat.le_of_ble_eq_true rfl⟩) ?_
    show zV x ad (Lay K ad S) _ _ _ 72 [.int (wiF v3 1 50), .int 1, .int 1, .ref (ad 13)]
    refine z_if_ne (tgt := 79) hx d_Mo_kits_72 (by decide) (fun h3 => ?_) (fun h3 => ?_)
    · refine z_iconst (v := 0) hx d_Mo_kits_79 rfl ?_
      refine z_cV hx (c_Mo_refused_1) k_Mo rfl ⟨a4_81, a4_84, a1_6, ⟨by decide +kernel, by decide +kernel⟩, fun sig h => by cases h; rfl⟩ a4_83 s_Mo_refused rfl rfl d_Mo_kits_80 (by rw [hrm]; exact ⟨Nat.le_of_ble_eq_true rfl, Nat.le_of_ble_eq_true rfl, Nat.le_of_ble_eq_true rfl, Nat.le_of_ble_eq_true rfl⟩) ?_
      show zV x ad (Lay K ad (stM S 13 0 1)) _ _ _ 83 [.int 1]
      refine z_if_eq (tgt := 88) hx d_Mo_kits_83 (by decide) (fun h => absurd h (by decide)) (fun _ => ?_)
      refine z_iconst (v := 0) hx d_Mo_kits_86 rfl ?_
      exact z_iret hx hr rfl hq (Nat.le_refl _) (Nat.le_refl _) d_Mo_kits_87 ⟨rfl, rfl, rfl⟩
    · refine z_iconst (v := 1) hx d_Mo_kits_75 rfl ?_
      refine z_goto (tgt := 80) hx d_Mo_kits_76 (by decide) ?_
      refine z_cV hx (c_Mo_refused_1) k_Mo rfl ⟨a4_81, a4_84, a1_6, ⟨by decide +kernel, by decide +kernel⟩, fun sig h => by cases h; rfl⟩ a4_83 s_Mo_refused rfl rfl d_Mo_kits_80 (by rw [hrm]; exact ⟨Nat.le_of_ble_eq_true rfl, Nat.le_of_ble_eq_true rfl, Nat.le_of_ble_eq_true rfl, Nat.le_of_ble_eq_true rfl⟩) ?_
      show zV x ad (Lay K ad (stM S 13 0 1)) _ _ _ 83 [.int 1]
      refine z_if_eq (tgt := 88) hx d_Mo_kits_83 (by decide) (fun h => absurd h (by decide)) (fun _ => ?_)
      refine z_iconst (v := 0) hx d_Mo_kits_86 rfl ?_
      exact z_iret hx hr rfl hq (Nat.le_refl _) (Nat.le_refl _) d_Mo_kits_87 ⟨rfl, rfl, rfl⟩
set_option maxRecDepth 20000 in
theorem c_Mo_kits_r1 {l : Launch} {D : va_G} {K : Nat → ClassId} {ad : Nat → Nat} {S : zSt} {i : Nat} (hi : i < 10) (ho : ¬ S.2.2 21 i ≤ 0) {v1 v2 v3 : Int32} (hv : wiF v1 0 (if S.2.2 13 5 = 0 then 3 else S.2.2 13 5 - 1) = 0) : zC l TB D zcls (ztyl K) y_Mo_kits (.code y_Mo_kits b_Mo_kits 7 (some FieldType.int)) (rmk 2 43) [.ref (ad 13), .int (nI i), .int v1, .int v2, .int v3] ad (Lay K ad S) (zP K ad (some (.int 0)) (stM S 13 0 1)) := by
  refine zC.of (by decide +kernel) (Nat.le_of_ble_eq_true rfl) ?_
  intro x hx hr hml hnm hrm hq hNH
  show zV x ad (Lay K ad S) 0 0 [(0, .ref (ad 13)), (1, .int (nI i)), (2, .int v1), (3, .int v2), (4, .int v3)] 0 []
  refine z_aload_n hx 0 d_Mo_kits_0 rfl ?_
  refine z_iload_n hx 1 d_Mo_kits_1 rfl ?_
  refine z_cV hx (c_Mo_isSite_yes hi ho) k_Mo rfl ⟨a4_98, a4_101, a1_6, ⟨by decide +kernel, by decide +kernel⟩, fun sig h => by cases h; rfl⟩ a4_100 s_Mo_isSite rfl rfl d_Mo_kits_2 (by rw [hrm]; exact ⟨Nat.le_of_ble_eq_true rfl, Nat.le_of_ble_eq_true rfl, Nat.le_of_ble_eq_true rfl, Nat.le_of_ble_eq_true rfl⟩) ?_
  show zV x ad (Lay K ad S) _ _ _ 5 [.int 1]
  refine z_if_eq (tgt := 42) hx d_Mo_kits_5 (by decide) (fun h => absurd h (by decide)) (fun _ => ?_)
  refine z_aload_n hx 0 d_Mo_kits_8 rfl ?_
  refine z_iload_n hx 2 d_Mo_kits_9 rfl ?_
  refine z_cV hx (c_Mo_isArm) k_Mo rfl ⟨a4_102, a4_105, a1_6, ⟨by decide +kernel, by decide +kernel⟩, fun sig h => by cases h; rfl⟩ a4_104 s_Mo_isArm rfl rfl d_Mo_kits_10 (by rw [hrm]; exact ⟨Nat.le_of_ble_eq_true rfl, Nat.le_of_ble_eq_true rfl, Nat.le_of_ble_eq_true rfl, Nat.le_of_ble_eq_true rfl⟩) ?_
  show zV x ad (Lay K ad S) _ _ _ 13 [.int (wiF v1 0 (if S.2.2 13 5 = 0 then 3 else S.2.2 13 5 - 1))]
  refine z_top (b := 0) hv ?_
  refine z_if_eq (tgt := 42) hx d_Mo_kits_13 (by decide) (fun _ => ?_) (fun h => absurd (by decide) h)
  refine z_iconst (v := 1) hx d_Mo_kits_42 rfl ?_
  refine z_goto (tgt := 47) hx d_Mo_kits_43 (by decide) ?_
  refine z_istore hx [(5, .int 1), (0, .ref (ad 13)), (1, .int (nI i)), (2, .int v1), (3, .int v2), (4, .int v3)] d_Mo_kits_47 (zN hml (by decide)) rfl ?_
  refine z_aload_n hx 1 d_Mo_kits_49 rfl ?_
  refine z_iload hx 0 d_Mo_kits_50 rfl ?_
  refine z_aload_n hx 1 d_Mo_kits_52 rfl ?_
  refine z_get hx k_Mo (t := 13) rfl 5 (by decide) a3_228 rfl d_Mo_kits_53 ?_
  refine z_if_ne (tgt := 63) hx d_Mo_kits_56 (by decide) (fun h1 => ?_) (fun h1 => ?_)
  · refine z_iconst (v := 0) hx d_Mo_kits_63 rfl ?_
    refine z_iload hx 5 d_Mo_kits_64 rfl ?_
    refine z_iconst (v := 1) hx d_Mo_kits_66 rfl ?_
    refine z_bipush (v := 50) hx d_Mo_kits_67 rfl ?_
    refine z_cS hx (c_Mo_within) ⟨a4_78, a4_80, a1_6, ⟨by decide +kernel, by decide +kernel⟩, fun sig h => by cases h; rfl⟩ a4_79 rfl rfl d_Mo_kits_69 (by rw [hrm]; exact ⟨Nat.le_of_ble_eq_true rfl, Nat.le_of_ble_eq_true rfl, Nat.le_of_ble_eq_true rfl, Nat.le_of_ble_eq_true rfl⟩) ?_
    show zV x ad (Lay K ad S) _ _ _ 72 [.int (wiF v3 1 50), .int 0, .int 1, .ref (ad 13)]
    refine z_if_ne (tgt := 79) hx d_Mo_kits_72 (by decide) (fun h2 => ?_) (fun h2 => ?_)
    · refine z_iconst (v := 0) hx d_Mo_kits_79 rfl ?_
      refine z_cV hx (c_Mo_refused_1) k_Mo rfl ⟨a4_81, a4_84, a1_6, ⟨by decide +kernel, by decide +kernel⟩, fun sig h => by cases h; rfl⟩ a4_83 s_Mo_refused rfl rfl d_Mo_kits_80 (by rw [hrm]; exact ⟨Nat.le_of_ble_eq_true rfl, Nat.le_of_ble_eq_true rfl, Nat.le_of_ble_eq_true rfl, Nat.le_of_ble_eq_true rfl⟩) ?_
      show zV x ad (Lay K ad (stM S 13 0 1)) _ _ _ 83 [.int 1]
      refine z_if_eq (tgt := 88) hx d_Mo_kits_83 (by decide) (fun h => absurd h (by decide)) (fun _ => ?_)
      refine z_iconst (v := 0) hx d_Mo_kits_86 rfl ?_
      exact z_iret hx hr rfl hq (Nat.le_refl _) (Nat.le_refl _) d_Mo_kits_87 ⟨rfl, rfl, rfl⟩
    · refine z_iconst (v := 1) hx d_Mo_kits_75 rfl ?_
      refine z_goto (tgt := 80) hx d_Mo_kits_76 (by decide) ?_
      refine z_cV hx (c_Mo_refused_1) k_Mo rfl ⟨a4_81, a4_84, a1_6, ⟨by decide +kernel, by decide +kernel⟩, fun sig h => by cases h; rfl⟩ a4_83 s_Mo_refused rfl rfl d_Mo_kits_80 (by rw [hrm]; exact ⟨Nat.le_of_ble_eq_true rfl, Nat.le_of_ble_eq_true rfl, Nat.le_of_ble_eq_true rfl, Nat.le_of_ble_eq_true rfl⟩) ?_
      show zV x ad (Lay K ad (stM S 13 0 1)) _ _ _ 83 [.int 1]
      refine z_if_eq (tgt := 88) hx d_Mo_kits_83 (by decide) (fun h => absurd h (by decide)) (fun _ => ?_)
      refine z_iconst (v := 0) hx d_Mo_kits_86 rfl ?_
      exact z_iret hx hr rfl hq (Nat.le_refl _) (Nat.le_refl _) d_Mo_kits_87 ⟨rfl, rfl, rfl⟩
  · refine z_iconst (v := 1) hx d_Mo_kits_59 rfl ?_
    refine z_goto (tgt := 64) hx d_Mo_kits_60 (by decide) ?_
    refine z_iload hx 5 d_Mo_kits_64 rfl ?_
    refine z_iconst (v := 1) hx d_Mo_kits_66 rfl ?_
    refine z_bipush (v := 50) hx d_Mo_kits_67 rfl ?_
    refine z_cS hx (c_Mo_within) ⟨a4_78, a4_80, a1_6, ⟨by decide +kernel, by decide +kernel⟩, fun sig h => by cases h; rfl⟩ a4_79 rfl rfl d_Mo_kits_69 (by rw [hrm]; exact ⟨Nat.le_of_ble_eq_true rfl, Nat.le_of_ble_eq_true rfl, Nat.le_of_ble_eq_true rfl, Nat.le_of_ble_eq_true rfl⟩) ?_
    show zV x ad (Lay K ad S) _ _ _ 72 [.int (wiF v3 1 50), .int 1, .int 1, .ref (ad 13)]
    refine z_if_ne (tgt := 79) hx d_Mo_kits_72 (by decide) (fun h3 => ?_) (fun h3 => ?_)
    · refine z_iconst (v := 0) hx d_Mo_kits_79 rfl ?_
      refine z_cV hx (c_Mo_refused_1) k_Mo rfl ⟨a4_81, a4_84, a1_6, ⟨by decide +kernel, by decide +kernel⟩, fun sig h => by cases h; rfl⟩ a4_83 s_Mo_refused rfl rfl d_Mo_kits_80 (by rw [hrm]; exact ⟨Nat.le_of_ble_eq_true rfl, Nat.le_of_ble_eq_true rfl, Nat.le_of_ble_eq_true rfl, Nat.le_of_ble_eq_true rfl⟩) ?_
      show zV x ad (Lay K ad (stM S 13 0 1)) _ _ _ 83 [.int 1]
      refine z_if_eq (tgt := 88) hx d_Mo_kits_83 (by decide) (fun h => absurd h (by decide)) (fun _ => ?_)
      refine z_iconst (v := 0) hx d_Mo_kits_86 rfl ?_
      exact z_iret hx hr rfl hq (Nat.le_refl _) (Nat.le_refl _) d_Mo_kits_87 ⟨rfl, rfl, rfl⟩
    · refine z_iconst (v := 1) hx d_Mo_kits_75 rfl ?_
      refine z_goto (tgt := 80) hx d_Mo_kits_76 (by decide) ?_
      refine z_cV hx (c_Mo_refused_1) k_Mo rfl ⟨a4_81, a4_84, a1_6, ⟨by decide +kernel, by decide +kernel⟩, fun sig h => by cases h; rfl⟩ a4_83 s_Mo_refused rfl rfl d_Mo_kits_80 (by rw [hrm]; exact ⟨Nat.le_of_ble_eq_true rfl, Nat.le_of_ble_eq_true rfl, Nat.le_of_ble_eq_true rfl, Nat.le_of_ble_eq_true rfl⟩) ?_
      show zV x ad (Lay K ad (stM S 13 0 1)) _ _ _ 83 [.int 1]
      refine z_if_eq (tgt := 88) hx d_Mo_kits_83 (by decide) (fun h => absurd h (by decide)) (fun _ => ?_)
      refine z_iconst (v := 0) hx d_Mo_kits_86 rfl ?_
      exact z_iret hx hr rfl hq (Nat.le_refl _) (Nat.le_refl _) d_Mo_kits_87 ⟨rfl, rfl, rfl⟩
set_option maxRecDepth 20000 in
theorem c_Mo_kits_r2 {l : Launch} {D : va_G} {K : Nat → ClassId} {ad : Nat → Nat} {S : zSt} {i : Nat} (hi : i < 10) (ho : ¬ S.2.2 21 i ≤ 0) {v1 v2 v3 : Int32} (hav : wiF v1 0 (if S.2.2 13 5 = 0 then 3 else S.2.2 13 5 - 1) = 1) (hv : v2 < 0 ∨ ¬ v2 < 1000) : zC l TB D zcls (ztyl K) y_Mo_kits (.code y_Mo_kits b_Mo_kits 7 (some FieldType.int)) (rmk 2 43) [.ref (ad 13), .int (nI i), .int v1, .int v2, .int v3] ad (Lay K ad S) (zP K ad (some (.int 0)) (stM S 13 0 1)) := by
  refine zC.of (by decide +kernel) (Nat.le_of_ble_eq_true rfl) ?_
  intro x hx hr hml hnm hrm hq hNH
  show zV x ad (Lay K ad S) 0 0 [(0, .ref (ad 13)), (1, .int (nI i)), (2, .int v1), (3, .int v2), (4, .int v3)] 0 []
  refine z_aload_n hx 0 d_Mo_kits_0 rfl ?_
  refine z_iload_n hx 1 d_Mo_kits_1 rfl ?_
  refine z_cV hx (c_Mo_isSite_yes hi ho) k_Mo rfl ⟨a4_98, a4_101, a1_6, ⟨by decide +kernel, by decide +kernel⟩, fun sig h => by cases h; rfl⟩ a4_100 s_Mo_isSite rfl rfl d_Mo_kits_2 (by rw [hrm]; exact ⟨Nat.le_of_ble_eq_true rfl, Nat.le_of_ble_eq_true rfl, Nat.le_of_ble_eq_true rfl, Nat.le_of_ble_eq_true rfl⟩) ?_
  show zV x ad (Lay K ad S) _ _ _ 5 [.int 1]
  refine z_if_eq (tgt := 42) hx d_Mo_kits_5 (by decide) (fun h => absurd h (by decide)) (fun _ => ?_)
  refine z_aload_n hx 0 d_Mo_kits_8 rfl ?_
  refine z_iload_n hx 2 d_Mo_kits_9 rfl ?_
  refine z_cV hx (c_Mo_isArm) k_Mo rfl ⟨a4_102, a4_105, a1_6, ⟨by decide +kernel, by decide +kernel⟩, fun sig h => by cases h; rfl⟩ a4_104 s_Mo_isArm rfl rfl d_Mo_kits_10 (by rw [hrm]; exact ⟨Nat.le_of_ble_eq_true rfl, Nat.le_of_ble_eq_true rfl, Nat.le_of_ble_eq_true rfl, Nat.le_of_ble_eq_true rfl⟩) ?_
  show zV x ad (Lay K ad S) _ _ _ 13 [.int (wiF v1 0 (if S.2.2 13 5 = 0 then 3 else S.2.2 13 5 - 1))]
  refine z_top (b := 1) hav ?_
  refine z_if_eq (tgt := 42) hx d_Mo_kits_13 (by decide) (fun h => absurd h (by decide)) (fun _ => ?_)
  refine z_iload_n hx 3 d_Mo_kits_16 rfl ?_
  refine z_iconst (v := 0) hx d_Mo_kits_17 rfl ?_
  refine z_sipush (v := 999) hx d_Mo_kits_18 rfl ?_
  refine z_cS hx (c_Mo_within) ⟨a4_78, a4_80, a1_6, ⟨by decide +kernel, by decide +kernel⟩, fun sig h => by cases h; rfl⟩ a4_79 rfl rfl d_Mo_kits_21 (by rw [hrm]; exact ⟨Nat.le_of_ble_eq_true rfl, Nat.le_of_ble_eq_true rfl, Nat.le_of_ble_eq_true rfl, Nat.le_of_ble_eq_true rfl⟩) ?_
  show zV x ad (Lay K ad S) _ _ _ 24 [.int (wiF v2 0 999)]
  refine z_top (b := 0) (wi_no (nx := 1000) (by decide) hv) ?_
  refine z_if_eq (tgt := 42) hx d_Mo_kits_24 (by decide) (fun _ => ?_) (fun h => absurd (by decide) h)
  refine z_iconst (v := 1) hx d_Mo_kits_42 rfl ?_
  refine z_goto (tgt := 47) hx d_Mo_kits_43 (by decide) ?_
  refine z_istore hx [(5, .int 1), (0, .ref (ad 13)), (1, .int (nI i)), (2, .int v1), (3, .int v2), (4, .int v3)] d_Mo_kits_47 (zN hml (by decide)) rfl ?_
  refine z_aload_n hx 1 d_Mo_kits_49 rfl ?_
  refine z_iload hx 0 d_Mo_kits_50 rfl ?_
  refine z_aload_n hx 1 d_Mo_kits_52 rfl ?_
  refine z_get hx k_Mo (t := 13) rfl 5 (by decide) a3_228 rfl d_Mo_kits_53 ?_
  refine z_if_ne (tgt := 63) hx d_Mo_kits_56 (by decide) (fun h1 => ?_) (fun h1 => ?_)
  · refine z_iconst (v := 0) hx d_Mo_kits_63 rfl ?_
    refine z_iload hx 5 d_Mo_kits_64 rfl ?_
    refine z_iconst (v := 1) hx d_Mo_kits_66 rfl ?_
    refine z_bipush (v := 50) hx d_Mo_kits_67 rfl ?_
    refine z_cS hx (c_Mo_within) ⟨a4_78, a4_80, a1_6, ⟨by decide +kernel, by decide +kernel⟩, fun sig h => by cases h; rfl⟩ a4_79 rfl rfl d_Mo_kits_69 (by rw [hrm]; exact ⟨Nat.le_of_ble_eq_true rfl, Nat.le_of_ble_eq_true rfl, Nat.le_of_ble_eq_true rfl, Nat.le_of_ble_eq_true rfl⟩) ?_
    show zV x ad (Lay K ad S) _ _ _ 72 [.int (wiF v3 1 50), .int 0, .int 1, .ref (ad 13)]
    refine z_if_ne (tgt := 79) hx d_Mo_kits_72 (by decide) (fun h2 => ?_) (fun h2 => ?_)
    · refine z_iconst (v := 0) hx d_Mo_kits_79 rfl ?_
      refine z_cV hx (c_Mo_refused_1) k_Mo rfl ⟨a4_81, a4_84, a1_6, ⟨by decide +kernel, by decide +kernel⟩, fun sig h => by cases h; rfl⟩ a4_83 s_Mo_refused rfl rfl d_Mo_kits_80 (by rw [hrm]; exact ⟨Nat.le_of_ble_eq_true rfl, Nat.le_of_ble_eq_true rfl, Nat.le_of_ble_eq_true rfl, Nat.le_of_ble_eq_true rfl⟩) ?_
      show zV x ad (Lay K ad (stM S 13 0 1)) _ _ _ 83 [.int 1]
      refine z_if_eq (tgt := 88) hx d_Mo_kits_83 (by decide) (fun h => absurd h (by decide)) (fun _ => ?_)
      refine z_iconst (v := 0) hx d_Mo_kits_86 rfl ?_
      exact z_iret hx hr rfl hq (Nat.le_refl _) (Nat.le_refl _) d_Mo_kits_87 ⟨rfl, rfl, rfl⟩
    · refine z_iconst (v := 1) hx d_Mo_kits_75 rfl ?_
      refine z_goto (tgt := 80) hx d_Mo_kits_76 (by decide) ?_
      refine z_cV hx (c_Mo_refused_1) k_Mo rfl ⟨a4_81, a4_84, a1_6, ⟨by decide +kernel, by decide +kernel⟩, fun sig h => by cases h; rfl⟩ a4_83 s_Mo_refused rfl rfl d_Mo_kits_80 (by rw [hrm]; exact ⟨Nat.le_of_ble_eq_true rfl, Nat.le_of_ble_eq_true rfl, Nat.le_of_ble_eq_true rfl, Nat.le_of_ble_eq_true rfl⟩) ?_
      show zV x ad (Lay K ad (stM S 13 0 1)) _ _ _ 83 [.int 1]
      refine z_if_eq (tgt := 88) hx d_Mo_kits_83 (by decide) (fun h => absurd h (by decide)) (fun _ => ?_)
      refine z_iconst (v := 0) hx d_Mo_kits_86 rfl ?_
      exact z_iret hx hr rfl hq (Nat.le_refl _) (Nat.le_refl _) d_Mo_kits_87 ⟨rfl, rfl, rfl⟩
  · refine z_iconst (v := 1) hx d_Mo_kits_59 rfl ?_
    refine z_goto (tgt := 64) hx d_Mo_kits_60 (by decide) ?_
    refine z_iload hx 5 d_Mo_kits_64 rfl ?_
    refine z_iconst (v := 1) hx d_Mo_kits_66 rfl ?_
    refine z_bipush (v := 50) hx d_Mo_kits_67 rfl ?_
    refine z_cS hx (c_Mo_within) ⟨a4_78, a4_80, a1_6, ⟨by decide +kernel, by decide +kernel⟩, fun sig h => by cases h; rfl⟩ a4_79 rfl rfl d_Mo_kits_69 (by rw [hrm]; exact ⟨Nat.le_of_ble_eq_true rfl, Nat.le_of_ble_eq_true rfl, Nat.le_of_ble_eq_true rfl, Nat.le_of_ble_eq_true rfl⟩) ?_
    show zV x ad (Lay K ad S) _ _ _ 72 [.int (wiF v3 1 50), .int 1, .int 1, .ref (ad 13)]
    refine z_if_ne (tgt := 79) hx d_Mo_kits_72 (by decide) (fun h3 => ?_) (fun h3 => ?_)
    · refine z_iconst (v := 0) hx d_Mo_kits_79 rfl ?_
      refine z_cV hx (c_Mo_refused_1) k_Mo rfl ⟨a4_81, a4_84, a1_6, ⟨by decide +kernel, by decide +kernel⟩, fun sig h => by cases h; rfl⟩ a4_83 s_Mo_refused rfl rfl d_Mo_kits_80 (by rw [hrm]; exact ⟨Nat.le_of_ble_eq_true rfl, Nat.le_of_ble_eq_true rfl, Nat.le_of_ble_eq_true rfl, Nat.le_of_ble_eq_true rfl⟩) ?_
      show zV x ad (Lay K ad (stM S 13 0 1)) _ _ _ 83 [.int 1]
      refine z_if_eq (tgt := 88) hx d_Mo_kits_83 (by decide) (fun h => absurd h (by decide)) (fun _ => ?_)
      refine z_iconst (v := 0) hx d_Mo_kits_86 rfl ?_
      exact z_iret hx hr rfl hq (Nat.le_refl _) (Nat.le_refl _) d_Mo_kits_87 ⟨rfl, rfl, rfl⟩
    · refine z_iconst (v := 1) hx d_Mo_kits_75 rfl ?_
      refine z_goto (tgt := 80) hx d_Mo_kits_76 (by decide) ?_
      refine z_cV hx (c_Mo_refused_1) k_Mo rfl ⟨a4_81, a4_84, a1_6, ⟨by decide +kernel, by decide +kernel⟩, fun sig h => by cases h; rfl⟩ a4_83 s_Mo_refused rfl rfl d_Mo_kits_80 (by rw [hrm]; exact ⟨Nat.le_of_ble_eq_true rfl, Nat.le_of_ble_eq_true rfl, Nat.le_of_ble_eq_true rfl, Nat.le_of_ble_eq_true rfl⟩) ?_
      show zV x ad (Lay K ad (stM S 13 0 1)) _ _ _ 83 [.int 1]
      refine z_if_eq (tgt := 88) hx d_Mo_kits_83 (by decide) (fun h => absurd h (by decide)) (fun _ => ?_)
      refine z_iconst (v := 0) hx d_Mo_kits_86 rfl ?_
      exact z_iret hx hr rfl hq (Nat.le_refl _) (Nat.le_refl _) d_Mo_kits_87 ⟨rfl, rfl, rfl⟩
set_option maxRecDepth 20000 in
theorem c_Mo_kits_r3 {l : Launch} {D : va_G} {K : Nat → ClassId} {ad : Nat → Nat} {S : zSt} {i : Nat} (hi : i < 10) (ho : ¬ S.2.2 21 i ≤ 0) {v1 v3 : Int32} {k : Nat} (hk : k < 1000) (hav : wiF v1 0 (if S.2.2 13 5 = 0 then 3 else S.2.2 13 5 - 1) = 1) (hr3 : ¬ lg_cmp (((nI k).toInt64 + v3.toInt64) - 1) 999 ≤ 0) : zC l TB D zcls (ztyl K) y_Mo_kits (.code y_Mo_kits b_Mo_kits 7 (some FieldType.int)) (rmk 2 43) [.ref (ad 13), .int (nI i), .int v1, .int (nI k), .int v3] ad (Lay K ad S) (zP K ad (some (.int 0)) (stM S 13 0 1)) := by
  refine zC.of (by decide +kernel) (Nat.le_of_ble_eq_true rfl) ?_
  intro x hx hr hml hnm hrm hq hNH
  show zV x ad (Lay K ad S) 0 0 [(0, .ref (ad 13)), (1, .int (nI i)), (2, .int v1), (3, .int (nI k)), (4, .int v3)] 0 []
  refine z_aload_n hx 0 d_Mo_kits_0 rfl ?_
  refine z_iload_n hx 1 d_Mo_kits_1 rfl ?_
  refine z_cV hx (c_Mo_isSite_yes hi ho) k_Mo rfl ⟨a4_98, a4_101, a1_6, ⟨by decide +kernel, by decide +kernel⟩, fun sig h => by cases h; rfl⟩ a4_100 s_Mo_isSite rfl rfl d_Mo_kits_2 (by rw [hrm]; exact ⟨Nat.le_of_ble_eq_true rfl, Nat.le_of_ble_eq_true rfl, Nat.le_of_ble_eq_true rfl, Nat.le_of_ble_eq_true rfl⟩) ?_
  show zV x ad (Lay K ad S) _ _ _ 5 [.int 1]
  refine z_if_eq (tgt := 42) hx d_Mo_kits_5 (by decide) (fun h => absurd h (by decide)) (fun _ => ?_)
  refine z_aload_n hx 0 d_Mo_kits_8 rfl ?_
  refine z_iload_n hx 2 d_Mo_kits_9 rfl ?_
  refine z_cV hx (c_Mo_isArm) k_Mo rfl ⟨a4_102, a4_105, a1_6, ⟨by decide +kernel, by decide +kernel⟩, fun sig h => by cases h; rfl⟩ a4_104 s_Mo_isArm rfl rfl d_Mo_kits_10 (by rw [hrm]; exact ⟨Nat.le_of_ble_eq_true rfl, Nat.le_of_ble_eq_true rfl, Nat.le_of_ble_eq_true rfl, Nat.le_of_ble_eq_true rfl⟩) ?_
  show zV x ad (Lay K ad S) _ _ _ 13 [.int (wiF v1 0 (if S.2.2 13 5 = 0 then 3 else S.2.2 13 5 - 1))]
  refine z_top (b := 1) hav ?_
  refine z_if_eq (tgt := 42) hx d_Mo_kits_13 (by decide) (fun h => absurd h (by decide)) (fun _ => ?_)
  refine z_iload_n hx 3 d_Mo_kits_16 rfl ?_
  refine z_iconst (v := 0) hx d_Mo_kits_17 rfl ?_
  refine z_sipush (v := 999) hx d_Mo_kits_18 rfl ?_
  refine z_cS hx (c_Mo_within) ⟨a4_78, a4_80, a1_6, ⟨by decide +kernel, by decide +kernel⟩, fun sig h => by cases h; rfl⟩ a4_79 rfl rfl d_Mo_kits_21 (by rw [hrm]; exact ⟨Nat.le_of_ble_eq_true rfl, Nat.le_of_ble_eq_true rfl, Nat.le_of_ble_eq_true rfl, Nat.le_of_ble_eq_true rfl⟩) ?_
  show zV x ad (Lay K ad S) _ _ _ 24 [.int (wiF (nI k) 0 999)]
  refine z_top (b := 1) (wi_nI 1000 (by decide) (by decide) hk) ?_
  refine z_if_eq (tgt := 42) hx d_Mo_kits_24 (by decide) (fun h => absurd h (by decide)) (fun _ => ?_)
  refine z_iload_n hx 3 d_Mo_kits_27 rfl ?_
  refine z_i2l hx d_Mo_kits_28 ?_
  refine z_iload hx 4 d_Mo_kits_29 rfl ?_
  refine z_i2l hx d_Mo_kits_31 ?_
  refine z_ladd hx d_Mo_kits_32 ?_
  refine z_lconst (v := 1) hx d_Mo_kits_33 rfl ?_
  refine z_lsub hx d_Mo_kits_34 ?_
  refine z_ldc2 (v := 999) hx d_Mo_kits_35 a4_106 ?_
  refine z_lcmp hx d_Mo_kits_38 ?_
  refine z_if_le (tgt := 46) hx d_Mo_kits_39 (by decide) (fun h => absurd h hr3) (fun _ => ?_)
  refine z_iconst (v := 1) hx d_Mo_kits_42 rfl ?_
  refine z_goto (tgt := 47) hx d_Mo_kits_43 (by decide) ?_
  refine z_istore hx [(5, .int 1), (0, .ref (ad 13)), (1, .int (nI i)), (2, .int v1), (3, .int (nI k)), (4, .int v3)] d_Mo_kits_47 (zN hml (by decide)) rfl ?_
  refine z_aload_n hx 1 d_Mo_kits_49 rfl ?_
  refine z_iload hx 0 d_Mo_kits_50 rfl ?_
  refine z_aload_n hx 1 d_Mo_kits_52 rfl ?_
  refine z_get hx k_Mo (t := 13) rfl 5 (by decide) a3_228 rfl d_Mo_kits_53 ?_
  refine z_if_ne (tgt := 63) hx d_Mo_kits_56 (by decide) (fun h1 => ?_) (fun h1 => ?_)
  · refine z_iconst (v := 0) hx d_Mo_kits_63 rfl ?_
    refine z_iload hx 5 d_Mo_kits_64 rfl ?_
    refine z_iconst (v := 1) hx d_Mo_kits_66 rfl ?_
    refine z_bipush (v := 50) hx d_Mo_kits_67 rfl ?_
    refine z_cS hx (c_Mo_within) ⟨a4_78, a4_80, a1_6, ⟨by decide +kernel, by decide +kernel⟩, fun sig h => by cases h; rfl⟩ a4_79 rfl rfl d_Mo_kits_69 (by rw [hrm]; exact ⟨Nat.le_of_ble_eq_true rfl, Nat.le_of_ble_eq_true rfl, Nat.le_of_ble_eq_true rfl, Nat.le_of_ble_eq_true rfl⟩) ?_
    show zV x ad (Lay K ad S) _ _ _ 72 [.int (wiF v3 1 50), .int 0, .int 1, .ref (ad 13)]
    refine z_if_ne (tgt := 79) hx d_Mo_kits_72 (by decide) (fun h2 => ?_) (fun h2 => ?_)
    · refine z_iconst (v := 0) hx d_Mo_kits_79 rfl ?_
      refine z_cV hx (c_Mo_refused_1) k_Mo rfl ⟨a4_81, a4_84, a1_6, ⟨by decide +kernel, by decide +kernel⟩, fun sig h => by cases h; rfl⟩ a4_83 s_Mo_refused rfl rfl d_Mo_kits_80 (by rw [hrm]; exact ⟨Nat.le_of_ble_eq_true rfl, Nat.le_of_ble_eq_true rfl, Nat.le_of_ble_eq_true rfl, Nat.le_of_ble_eq_true rfl⟩) ?_
      show zV x ad (Lay K ad (stM S 13 0 1)) _ _ _ 83 [.int 1]
      refine z_if_eq (tgt := 88) hx d_Mo_kits_83 (by decide) (fun h => absurd h (by decide)) (fun _ => ?_)
      refine z_iconst (v := 0) hx d_Mo_kits_86 rfl ?_
      exact z_iret hx hr rfl hq (Nat.le_refl _) (Nat.le_refl _) d_Mo_kits_87 ⟨rfl, rfl, rfl⟩
    · refine z_iconst (v := 1) hx d_Mo_kits_75 rfl ?_
      refine z_goto (tgt := 80) hx d_Mo_kits_76 (by decide) ?_
      refine z_cV hx (c_Mo_refused_1) k_Mo rfl ⟨a4_81, a4_84, a1_6, ⟨by decide +kernel, by decide +kernel⟩, fun sig h => by cases h; rfl⟩ a4_83 s_Mo_refused rfl rfl d_Mo_kits_80 (by rw [hrm]; exact ⟨Nat.le_of_ble_eq_true rfl, Nat.le_of_ble_eq_true rfl, Nat.le_of_ble_eq_true rfl, Nat.le_of_ble_eq_true rfl⟩) ?_
      show zV x ad (Lay K ad (stM S 13 0 1)) _ _ _ 83 [.int 1]
      refine z_if_eq (tgt := 88) hx d_Mo_kits_83 (by decide) (fun h => absurd h (by decide)) (fun _ => ?_)
      refine z_iconst (v := 0) hx d_Mo_kits_86 rfl ?_
      exact z_iret hx hr rfl hq (Nat.le_refl _) (Nat.le_refl _) d_Mo_kits_87 ⟨rfl, rfl, rfl⟩
  · refine z_iconst (v := 1) hx d_Mo_kits_59 rfl ?_
    refine z_goto (tgt := 64) hx d_Mo_kits_60 (by decide) ?_
    refine z_iload hx 5 d_Mo_kits_64 rfl ?_
    refine z_iconst (v := 1) hx d_Mo_kits_66 rfl ?_
    refine z_bipush (v := 50) hx d_Mo_kits_67 rfl ?_
    refine z_cS hx (c_Mo_within) ⟨a4_78, a4_80, a1_6, ⟨by decide +kernel, by decide +kernel⟩, fun sig h => by cases h; rfl⟩ a4_79 rfl rfl d_Mo_kits_69 (by rw [hrm]; exact ⟨Nat.le_of_ble_eq_true rfl, Nat.le_of_ble_eq_true rfl, Nat.le_of_ble_eq_true rfl, Nat.le_of_ble_eq_true rfl⟩) ?_
    show zV x ad (Lay K ad S) _ _ _ 72 [.int (wiF v3 1 50), .int 1, .int 1, .ref (ad 13)]
    refine z_if_ne (tgt := 79) hx d_Mo_kits_72 (by decide) (fun h3 => ?_) (fun h3 => ?_)
    · refine z_iconst (v := 0) hx d_Mo_kits_79 rfl ?_
      refine z_cV hx (c_Mo_refused_1) k_Mo rfl ⟨a4_81, a4_84, a1_6, ⟨by decide +kernel, by decide +kernel⟩, fun sig h => by cases h; rfl⟩ a4_83 s_Mo_refused rfl rfl d_Mo_kits_80 (by rw [hrm]; exact ⟨Nat.le_of_ble_eq_true rfl, Nat.le_of_ble_eq_true rfl, Nat.le_of_ble_eq_true rfl, Nat.le_of_ble_eq_true rfl⟩) ?_
      show zV x ad (Lay K ad (stM S 13 0 1)) _ _ _ 83 [.int 1]
      refine z_if_eq (tgt := 88) hx d_Mo_kits_83 (by decide) (fun h => absurd h (by decide)) (fun _ => ?_)
      refine z_iconst (v := 0) hx d_Mo_kits_86 rfl ?_
      exact z_iret hx hr rfl hq (Nat.le_refl _) (Nat.le_refl _) d_Mo_kits_87 ⟨rfl, rfl, rfl⟩
    · refine z_iconst (v := 1) hx d_Mo_kits_75 rfl ?_
      refine z_goto (tgt := 80) hx d_Mo_kits_76 (by decide) ?_
      refine z_cV hx (c_Mo_refused_1) k_Mo rfl ⟨a4_81, a4_84, a1_6, ⟨by decide +kernel, by decide +kernel⟩, fun sig h => by cases h; rfl⟩ a4_83 s_Mo_refused rfl rfl d_Mo_kits_80 (by rw [hrm]; exact ⟨Nat.le_of_ble_eq_true rfl, Nat.le_of_ble_eq_true rfl, Nat.le_of_ble_eq_true rfl, Nat.le_of_ble_eq_true rfl⟩) ?_
      show zV x ad (Lay K ad (stM S 13 0 1)) _ _ _ 83 [.int 1]
      refine z_if_eq (tgt := 88) hx d_Mo_kits_83 (by decide) (fun h => absurd h (by decide)) (fun _ => ?_)
      refine z_iconst (v := 0) hx d_Mo_kits_86 rfl ?_
      exact z_iret hx hr rfl hq (Nat.le_refl _) (Nat.le_refl _) d_Mo_kits_87 ⟨rfl, rfl, rfl⟩
set_option maxRecDepth 20000 in
theorem c_Mo_kits_plan {l : Launch} {D : va_G} {K : Nat → ClassId} {ad : Nat → Nat} {S : zSt} {i : Nat} (hi : i < 10) (ho : ¬ S.2.2 21 i ≤ 0) {v1 v3 : Int32} {k : Nat} (hk : k < 1000) (hav : wiF v1 0 (if S.2.2 13 5 = 0 then 3 else S.2.2 13 5 - 1) = 1) (hr3 : lg_cmp (((nI k).toInt64 + v3.toInt64) - 1) 999 ≤ 0) (hpl : S.2.2 13 5 = 0) : zC l TB D zcls (ztyl K) y_Mo_kits (.code y_Mo_kits b_Mo_kits 7 (some FieldType.int)) (rmk 2 43) [.ref (ad 13), .int (nI i), .int v1, .int (nI k), .int v3] ad (Lay K ad S) (zP K ad (some (.int 0)) (stM S 13 0 2)) := by
  refine zC.of (by decide +kernel) (Nat.le_of_ble_eq_true rfl) ?_
  intro x hx hr hml hnm hrm hq hNH
  show zV x ad (Lay K ad S) 0 0 [(0, .ref (ad 13)), (1, .int (nI i)), (2, .int v1), (3, .int (nI k)), (4, .int v3)] 0 []
  refine z_aload_n hx 0 d_Mo_kits_0 rfl ?_
  refine z_iload_n hx 1 d_Mo_kits_1 rfl ?_
  refine z_cV hx (c_Mo_isSite_yes hi ho) k_Mo rfl ⟨a4_98, a4_101, a1_6, ⟨by decide +kernel, by decide +kernel⟩, fun sig h => by cases h; rfl⟩ a4_100 s_Mo_isSite rfl rfl d_Mo_kits_2 (by rw [hrm]; exact ⟨Nat.le_of_ble_eq_true rfl, Nat.le_of_ble_eq_true rfl, Nat.le_of_ble_eq_true rfl, Nat.le_of_ble_eq_true rfl⟩) ?_
  show zV x ad (Lay K ad S) _ _ _ 5 [.int 1]
  refine z_if_eq (tgt := 42) hx d_Mo_kits_5 (by decide) (fun h => absurd h (by decide)) (fun _ => ?_)
  refine z_aload_n hx 0 d_Mo_kits_8 rfl ?_
  refine z_iload_n hx 2 d_Mo_kits_9 rfl ?_
  refine z_cV hx (c_Mo_isArm) k_Mo rfl ⟨a4_102, a4_105, a1_6, ⟨by decide +kernel, by decide +kernel⟩, fun sig h => by cases h; rfl⟩ a4_104 s_Mo_isArm rfl rfl d_Mo_kits_10 (by rw [hrm]; exact ⟨Nat.le_of_ble_eq_true rfl, Nat.le_of_ble_eq_true rfl, Nat.le_of_ble_eq_true rfl, Nat.le_of_ble_eq_true rfl⟩) ?_
  show zV x ad (Lay K ad S) _ _ _ 13 [.int (wiF v1 0 (if S.2.2 13 5 = 0 then 3 else S.2.2 13 5 - 1))]
  refine z_top (b := 1) hav ?_
  refine z_if_eq (tgt := 42) hx d_Mo_kits_13 (by decide) (fun h => absurd h (by decide)) (fun _ => ?_)
  refine z_iload_n hx 3 d_Mo_kits_16 rfl ?_
  refine z_iconst (v := 0) hx d_Mo_kits_17 rfl ?_
  refine z_sipush (v := 999) hx d_Mo_kits_18 rfl ?_
  refine z_cS hx (c_Mo_within) ⟨a4_78, a4_80, a1_6, ⟨by decide +kernel, by decide +kernel⟩, fun sig h => by cases h; rfl⟩ a4_79 rfl rfl d_Mo_kits_21 (by rw [hrm]; exact ⟨Nat.le_of_ble_eq_true rfl, Nat.le_of_ble_eq_true rfl, Nat.le_of_ble_eq_true rfl, Nat.le_of_ble_eq_true rfl⟩) ?_
  show zV x ad (Lay K ad S) _ _ _ 24 [.int (wiF (nI k) 0 999)]
  refine z_top (b := 1) (wi_nI 1000 (by decide) (by decide) hk) ?_
  refine z_if_eq (tgt := 42) hx d_Mo_kits_24 (by decide) (fun h => absurd h (by decide)) (fun _ => ?_)
  refine z_iload_n hx 3 d_Mo_kits_27 rfl ?_
  refine z_i2l hx d_Mo_kits_28 ?_
  refine z_iload hx 4 d_Mo_kits_29 rfl ?_
  refine z_i2l hx d_Mo_kits_31 ?_
  refine z_ladd hx d_Mo_kits_32 ?_
  refine z_lconst (v := 1) hx d_Mo_kits_33 rfl ?_
  refine z_lsub hx d_Mo_kits_34 ?_
  refine z_ldc2 (v := 999) hx d_Mo_kits_35 a4_106 ?_
  refine z_lcmp hx d_Mo_kits_38 ?_
  refine z_if_le (tgt := 46) hx d_Mo_kits_39 (by decide) (fun _ => ?_) (fun h => absurd hr3 h)
  refine z_iconst (v := 0) hx d_Mo_kits_46 rfl ?_
  refine z_istore hx [(5, .int 0), (0, .ref (ad 13)), (1, .int (nI i)), (2, .int v1), (3, .int (nI k)), (4, .int v3)] d_Mo_kits_47 (zN hml (by decide)) rfl ?_
  refine z_aload_n hx 1 d_Mo_kits_49 rfl ?_
  refine z_iload hx 0 d_Mo_kits_50 rfl ?_
  refine z_aload_n hx 1 d_Mo_kits_52 rfl ?_
  refine z_get hx k_Mo (t := 13) rfl 5 (by decide) a3_228 rfl d_Mo_kits_53 ?_
  refine z_if_ne (tgt := 63) hx d_Mo_kits_56 (by decide) (fun h => absurd hpl h) (fun _ => ?_)
  refine z_iconst (v := 1) hx d_Mo_kits_59 rfl ?_
  refine z_goto (tgt := 64) hx d_Mo_kits_60 (by decide) ?_
  refine z_iload hx 5 d_Mo_kits_64 rfl ?_
  refine z_iconst (v := 1) hx d_Mo_kits_66 rfl ?_
  refine z_bipush (v := 50) hx d_Mo_kits_67 rfl ?_
  refine z_cS hx (c_Mo_within) ⟨a4_78, a4_80, a1_6, ⟨by decide +kernel, by decide +kernel⟩, fun sig h => by cases h; rfl⟩ a4_79 rfl rfl d_Mo_kits_69 (by rw [hrm]; exact ⟨Nat.le_of_ble_eq_true rfl, Nat.le_of_ble_eq_true rfl, Nat.le_of_ble_eq_true rfl, Nat.le_of_ble_eq_true rfl⟩) ?_
  show zV x ad (Lay K ad S) _ _ _ 72 [.int (wiF v3 1 50), .int 1, .int 0, .ref (ad 13)]
  refine z_if_ne (tgt := 79) hx d_Mo_kits_72 (by decide) (fun h1 => ?_) (fun h1 => ?_)
  · refine z_iconst (v := 0) hx d_Mo_kits_79 rfl ?_
    refine z_cV hx (c_Mo_refused_2) k_Mo rfl ⟨a4_81, a4_84, a1_6, ⟨by decide +kernel, by decide +kernel⟩, fun sig h => by cases h; rfl⟩ a4_83 s_Mo_refused rfl rfl d_Mo_kits_80 (by rw [hrm]; exact ⟨Nat.le_of_ble_eq_true rfl, Nat.le_of_ble_eq_true rfl, Nat.le_of_ble_eq_true rfl, Nat.le_of_ble_eq_true rfl⟩) ?_
    show zV x ad (Lay K ad (stM S 13 0 2)) _ _ _ 83 [.int 1]
    refine z_if_eq (tgt := 88) hx d_Mo_kits_83 (by decide) (fun h => absurd h (by decide)) (fun _ => ?_)
    refine z_iconst (v := 0) hx d_Mo_kits_86 rfl ?_
    exact z_iret hx hr rfl hq (Nat.le_refl _) (Nat.le_refl _) d_Mo_kits_87 ⟨rfl, rfl, rfl⟩
  · refine z_iconst (v := 1) hx d_Mo_kits_75 rfl ?_
    refine z_goto (tgt := 80) hx d_Mo_kits_76 (by decide) ?_
    refine z_cV hx (c_Mo_refused_2) k_Mo rfl ⟨a4_81, a4_84, a1_6, ⟨by decide +kernel, by decide +kernel⟩, fun sig h => by cases h; rfl⟩ a4_83 s_Mo_refused rfl rfl d_Mo_kits_80 (by rw [hrm]; exact ⟨Nat.le_of_ble_eq_true rfl, Nat.le_of_ble_eq_true rfl, Nat.le_of_ble_eq_true rfl, Nat.le_of_ble_eq_true rfl⟩) ?_
    show zV x ad (Lay K ad (stM S 13 0 2)) _ _ _ 83 [.int 1]
    refine z_if_eq (tgt := 88) hx d_Mo_kits_83 (by decide) (fun h => absurd h (by decide)) (fun _ => ?_)
    refine z_iconst (v := 0) hx d_Mo_kits_86 rfl ?_
    exact z_iret hx hr rfl hq (Nat.le_refl _) (Nat.le_refl _) d_Mo_kits_87 ⟨rfl, rfl, rfl⟩
set_option maxRecDepth 20000 in
theorem c_Mo_kits_count {l : Launch} {D : va_G} {K : Nat → ClassId} {ad : Nat → Nat} {S : zSt} {i : Nat} (hi : i < 10) (ho : ¬ S.2.2 21 i ≤ 0) {v1 v3 : Int32} {k : Nat} (hk : k < 1000) (hav : wiF v1 0 (if S.2.2 13 5 = 0 then 3 else S.2.2 13 5 - 1) = 1) (hr3 : lg_cmp (((nI k).toInt64 + v3.toInt64) - 1) 999 ≤ 0) (hpl : ¬ S.2.2 13 5 = 0) (hc : wiF v3 1 50 = 0) : zC l TB D zcls (ztyl K) y_Mo_kits (.code y_Mo_kits b_Mo_kits 7 (some FieldType.int)) (rmk 2 43) [.ref (ad 13), .int (nI i), .int v1, .int (nI k), .int v3] ad (Lay K ad S) (zP K ad (some (.int 0)) (stM S 13 0 3)) := by
  refine zC.of (by decide +kernel) (Nat.le_of_ble_eq_true rfl) ?_
  intro x hx hr hml hnm hrm hq hNH
  show zV x ad (Lay K ad S) 0 0 [(0, .ref (ad 13)), (1, .int (nI i)), (2, .int v1), (3, .int (nI k)), (4, .int v3)] 0 []
  refine z_aload_n hx 0 d_Mo_kits_0 rfl ?_
  refine z_iload_n hx 1 d_Mo_kits_1 rfl ?_
  refine z_cV hx (c_Mo_isSite_yes hi ho) k_Mo rfl ⟨a4_98, a4_101, a1_6, ⟨by decide +kernel, by decide +kernel⟩, fun sig h => by cases h; rfl⟩ a4_100 s_Mo_isSite rfl rfl d_Mo_kits_2 (by rw [hrm]; exact ⟨Nat.le_of_ble_eq_true rfl, Nat.le_of_ble_eq_true rfl, Nat.le_of_ble_eq_true rfl, Nat.le_of_ble_eq_true rfl⟩) ?_
  show zV x ad (Lay K ad S) _ _ _ 5 [.int 1]
  refine z_if_eq (tgt := 42) hx d_Mo_kits_5 (by decide) (fun h => absurd h (by decide)) (fun _ => ?_)
  refine z_aload_n hx 0 d_Mo_kits_8 rfl ?_
  refine z_iload_n hx 2 d_Mo_kits_9 rfl ?_
  refine z_cV hx (c_Mo_isArm) k_Mo rfl ⟨a4_102, a4_105, a1_6, ⟨by decide +kernel, by decide +kernel⟩, fun sig h => by cases h; rfl⟩ a4_104 s_Mo_isArm rfl rfl d_Mo_kits_10 (by rw [hrm]; exact ⟨Nat.le_of_ble_eq_true rfl, Nat.le_of_ble_eq_true rfl, Nat.le_of_ble_eq_true rfl, Nat.le_of_ble_eq_true rfl⟩) ?_
  show zV x ad (Lay K ad S) _ _ _ 13 [.int (wiF v1 0 (if S.2.2 13 5 = 0 then 3 else S.2.2 13 5 - 1))]
  refine z_top (b := 1) hav ?_
  refine z_if_eq (tgt := 42) hx d_Mo_kits_13 (by decide) (fun h => absurd h (by decide)) (fun _ => ?_)
  refine z_iload_n hx 3 d_Mo_kits_16 rfl ?_
  refine z_iconst (v := 0) hx d_Mo_kits_17 rfl ?_
  refine z_sipush (v := 999) hx d_Mo_kits_18 rfl ?_
  refine z_cS hx (c_Mo_within) ⟨a4_78, a4_80, a1_6, ⟨by decide +kernel, by decide +kernel⟩, fun sig h => by cases h; rfl⟩ a4_79 rfl rfl d_Mo_kits_21 (by rw [hrm]; exact ⟨Nat.le_of_ble_eq_true rfl, Nat.le_of_ble_eq_true rfl, Nat.le_of_ble_eq_true rfl, Nat.le_of_ble_eq_true rfl⟩) ?_
  show zV x ad (Lay K ad S) _ _ _ 24 [.int (wiF (nI k) 0 999)]
  refine z_top (b := 1) (wi_nI 1000 (by decide) (by decide) hk) ?_
  refine z_if_eq (tgt := 42) hx d_Mo_kits_24 (by decide) (fun h => absurd h (by decide)) (fun _ => ?_)
  refine z_iload_n hx 3 d_Mo_kits_27 rfl ?_
  refine z_i2l hx d_Mo_kits_28 ?_
  refine z_iload hx 4 d_Mo_kits_29 rfl ?_
  refine z_i2l hx d_Mo_kits_31 ?_
  refine z_ladd hx d_Mo_kits_32 ?_
  refine z_lconst (v := 1) hx d_Mo_kits_33 rfl ?_
  refine z_lsub hx d_Mo_kits_34 ?_
  refine z_ldc2 (v := 999) hx d_Mo_kits_35 a4_106 ?_
  refine z_lcmp hx d_Mo_kits_38 ?_
  refine z_if_le (tgt := 46) hx d_Mo_kits_39 (by decide) (fun _ => ?_) (fun h => absurd hr3 h)
  refine z_iconst (v := 0) hx d_Mo_kits_46 rfl ?_
  refine z_istore hx [(5, .int 0), (0, .ref (ad 13)), (1, .int (nI i)), (2, .int v1), (3, .int (nI k)), (4, .int v3)] d_Mo_kits_47 (zN hml (by decide)) rfl ?_
  refine z_aload_n hx 1 d_Mo_kits_49 rfl ?_
  refine z_iload hx 0 d_Mo_kits_50 rfl ?_
  refine z_aload_n hx 1 d_Mo_kits_52 rfl ?_
  refine z_get hx k_Mo (t := 13) rfl 5 (by decide) a3_228 rfl d_Mo_kits_53 ?_
  refine z_if_ne (tgt := 63) hx d_Mo_kits_56 (by decide) (fun _ => ?_) (fun h => absurd h hpl)
  refine z_iconst (v := 0) hx d_Mo_kits_63 rfl ?_
  refine z_iload hx 5 d_Mo_kits_64 rfl ?_
  refine z_iconst (v := 1) hx d_Mo_kits_66 rfl ?_
  refine z_bipush (v := 50) hx d_Mo_kits_67 rfl ?_
  refine z_cS hx (c_Mo_within) ⟨a4_78, a4_80, a1_6, ⟨by decide +kernel, by decide +kernel⟩, fun sig h => by cases h; rfl⟩ a4_79 rfl rfl d_Mo_kits_69 (by rw [hrm]; exact ⟨Nat.le_of_ble_eq_true rfl, Nat.le_of_ble_eq_true rfl, Nat.le_of_ble_eq_true rfl, Nat.le_of_ble_eq_true rfl⟩) ?_
  show zV x ad (Lay K ad S) _ _ _ 72 [.int (wiF v3 1 50), .int 0, .int 0, .ref (ad 13)]
  refine z_top (b := 0) hc ?_
  refine z_if_ne (tgt := 79) hx d_Mo_kits_72 (by decide) (fun h => absurd (by decide) h) (fun _ => ?_)
  refine z_iconst (v := 1) hx d_Mo_kits_75 rfl ?_
  refine z_goto (tgt := 80) hx d_Mo_kits_76 (by decide) ?_
  refine z_cV hx (c_Mo_refused_3) k_Mo rfl ⟨a4_81, a4_84, a1_6, ⟨by decide +kernel, by decide +kernel⟩, fun sig h => by cases h; rfl⟩ a4_83 s_Mo_refused rfl rfl d_Mo_kits_80 (by rw [hrm]; exact ⟨Nat.le_of_ble_eq_true rfl, Nat.le_of_ble_eq_true rfl, Nat.le_of_ble_eq_true rfl, Nat.le_of_ble_eq_true rfl⟩) ?_
  show zV x ad (Lay K ad (stM S 13 0 3)) _ _ _ 83 [.int 1]
  refine z_if_eq (tgt := 88) hx d_Mo_kits_83 (by decide) (fun h => absurd h (by decide)) (fun _ => ?_)
  refine z_iconst (v := 0) hx d_Mo_kits_86 rfl ?_
  exact z_iret hx hr rfl hq (Nat.le_refl _) (Nat.le_refl _) d_Mo_kits_87 ⟨rfl, rfl, rfl⟩
set_option maxRecDepth 20000 in
theorem c_Mo_site_r {l : Launch} {D : va_G} {K : Nat → ClassId} {ad : Nat → Nat} {S : zSt} {v : Int32} (hv : v < 0 ∨ ¬ v < 10) : zC l TB D zcls (ztyl K) y_Mo_site (.code y_Mo_site b_Mo_site 5 (some FieldType.int)) (rmk 1 23) [.ref (ad 13), .int v] ad (Lay K ad S) (zP K ad (some (.int 0)) (stM S 13 0 1)) := by
  refine zC.of (by decide +kernel) (Nat.le_of_ble_eq_true rfl) ?_
  intro x hx hr hml hnm hrm hq hNH
  show zV x ad (Lay K ad S) 0 0 [(0, .ref (ad 13)), (1, .int v)] 0 []
  refine z_iload_n hx 1 d_Mo_site_0 rfl ?_
  refine z_iconst (v := 0) hx d_Mo_site_1 rfl ?_
  refine z_bipush (v := 9) hx d_Mo_site_2 rfl ?_
  refine z_cS hx (c_Mo_within) ⟨a4_78, a4_80, a1_6, ⟨by decide +kernel, by decide +kernel⟩, fun sig h => by cases h; rfl⟩ a4_79 rfl rfl d_Mo_site_4 (by rw [hrm]; exact ⟨Nat.le_of_ble_eq_true rfl, Nat.le_of_ble_eq_true rfl, Nat.le_of_ble_eq_true rfl, Nat.le_of_ble_eq_true rfl⟩) ?_
  show zV x ad (Lay K ad S) _ _ _ 7 [.int (wiF v 0 9)]
  refine z_top (b := 0) (wi_no (nx := 10) (by decide) hv) ?_
  refine z_if_ne (tgt := 14) hx d_Mo_site_7 (by decide) (fun h => absurd (by decide) h) (fun _ => ?_)
  refine z_iconst (v := 1) hx d_Mo_site_10 rfl ?_
  refine z_goto (tgt := 15) hx d_Mo_site_11 (by decide) ?_
  refine z_istore_n hx [(2, .int 1), (0, .ref (ad 13)), (1, .int v)] d_Mo_site_15 rfl (zN hml (by decide)) rfl ?_
  refine z_aload_n hx 1 d_Mo_site_16 rfl ?_
  refine z_iload_n hx 0 d_Mo_site_17 rfl ?_
  refine z_iload_n hx 0 d_Mo_site_18 rfl ?_
  refine z_if_ne (tgt := 35) hx d_Mo_site_19 (by decide) (fun _ => ?_) (fun h => absurd h (by decide))
  refine z_iconst (v := 0) hx d_Mo_site_35 rfl ?_
  refine z_iconst (v := 0) hx d_Mo_site_36 rfl ?_
  refine z_cV hx (c_Mo_refused_1) k_Mo rfl ⟨a4_81, a4_84, a1_6, ⟨by decide +kernel, by decide +kernel⟩, fun sig h => by cases h; rfl⟩ a4_83 s_Mo_refused rfl rfl d_Mo_site_37 (by rw [hrm]; exact ⟨Nat.le_of_ble_eq_true rfl, Nat.le_of_ble_eq_true rfl, Nat.le_of_ble_eq_true rfl, Nat.le_of_ble_eq_true rfl⟩) ?_
  show zV x ad (Lay K ad (stM S 13 0 1)) _ _ _ 40 [.int 1]
  refine z_if_eq (tgt := 45) hx d_Mo_site_40 (by decide) (fun h => absurd h (by decide)) (fun _ => ?_)
  refine z_iconst (v := 0) hx d_Mo_site_43 rfl ?_
  exact z_iret hx hr rfl hq (Nat.le_refl _) (Nat.le_refl _) d_Mo_site_44 ⟨rfl, rfl, rfl⟩
set_option maxRecDepth 20000 in
theorem c_Mo_site_there {l : Launch} {D : va_G} {K : Nat → ClassId} {ad : Nat → Nat} {S : zSt} {i : Nat} (hi : i < 10) (ho : ¬ S.2.2 21 i ≤ 0) : zC l TB D zcls (ztyl K) y_Mo_site (.code y_Mo_site b_Mo_site 5 (some FieldType.int)) (rmk 1 23) [.ref (ad 13), .int (nI i)] ad (Lay K ad S) (zP K ad (some (.int 0)) (stM S 13 0 2)) := by
  refine zC.of (by decide +kernel) (Nat.le_of_ble_eq_true rfl) ?_
  intro x hx hr hml hnm hrm hq hNH
  show zV x ad (Lay K ad S) 0 0 [(0, .ref (ad 13)), (1, .int (nI i))] 0 []
  refine z_iload_n hx 1 d_Mo_site_0 rfl ?_
  refine z_iconst (v := 0) hx d_Mo_site_1 rfl ?_
  refine z_bipush (v := 9) hx d_Mo_site_2 rfl ?_
  refine z_cS hx (c_Mo_within) ⟨a4_78, a4_80, a1_6, ⟨by decide +kernel, by decide +kernel⟩, fun sig h => by cases h; rfl⟩ a4_79 rfl rfl d_Mo_site_4 (by rw [hrm]; exact ⟨Nat.le_of_ble_eq_true rfl, Nat.le_of_ble_eq_true rfl, Nat.le_of_ble_eq_true rfl, Nat.le_of_ble_eq_true rfl⟩) ?_
  show zV x ad (Lay K ad S) _ _ _ 7 [.int (wiF (nI i) 0 9)]
  refine z_top (b := 1) (wi_nI 10 (by decide) (by decide) (by omega)) ?_
  refine z_if_ne (tgt := 14) hx d_Mo_site_7 (by decide) (fun _ => ?_) (fun h => absurd h (by decide))
  refine z_iconst (v := 0) hx d_Mo_site_14 rfl ?_
  refine z_istore_n hx [(2, .int 0), (0, .ref (ad 13)), (1, .int (nI i))] d_Mo_site_15 rfl (zN hml (by decide)) rfl ?_
  refine z_aload_n hx 1 d_Mo_site_16 rfl ?_
  refine z_iload_n hx 0 d_Mo_site_17 rfl ?_
  refine z_iload_n hx 0 d_Mo_site_18 rfl ?_
  refine z_if_ne (tgt := 35) hx d_Mo_site_19 (by decide) (fun h => absurd (by decide) h) (fun _ => ?_)
  refine z_aload_n hx 1 d_Mo_site_22 rfl ?_
  refine z_get hx k_Mo (t := 13) rfl 16 (by decide) a3_239 rfl d_Mo_site_23 ?_
  refine z_iload_n hx 2 d_Mo_site_26 rfl ?_
  refine z_ialdK hx 0 rfl (t := 21) rfl (k := i) (by omega) (by first | decide | omega) d_Mo_site_27 ?_
  refine z_if_le (tgt := 35) hx d_Mo_site_28 (by decide) (fun h => absurd h ho) (fun _ => ?_)
  refine z_iconst (v := 1) hx d_Mo_site_31 rfl ?_
  refine z_goto (tgt := 36) hx d_Mo_site_32 (by decide) ?_
  refine z_iconst (v := 0) hx d_Mo_site_36 rfl ?_
  refine z_cV hx (c_Mo_refused_2) k_Mo rfl ⟨a4_81, a4_84, a1_6, ⟨by decide +kernel, by decide +kernel⟩, fun sig h => by cases h; rfl⟩ a4_83 s_Mo_refused rfl rfl d_Mo_site_37 (by rw [hrm]; exact ⟨Nat.le_of_ble_eq_true rfl, Nat.le_of_ble_eq_true rfl, Nat.le_of_ble_eq_true rfl, Nat.le_of_ble_eq_true rfl⟩) ?_
  show zV x ad (Lay K ad (stM S 13 0 2)) _ _ _ 40 [.int 1]
  refine z_if_eq (tgt := 45) hx d_Mo_site_40 (by decide) (fun h => absurd h (by decide)) (fun _ => ?_)
  refine z_iconst (v := 0) hx d_Mo_site_43 rfl ?_
  exact z_iret hx hr rfl hq (Nat.le_refl _) (Nat.le_refl _) d_Mo_site_44 ⟨rfl, rfl, rfl⟩
