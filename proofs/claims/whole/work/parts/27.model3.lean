def mOpen (S : zSt) (h g : Nat) : Int32 × zSt := if S.2.2 13 1 = 0 then (if S.2.2 13 4 = 0 then (if nI h = nI g then (0, mS S) else if S.2.2 13 2 = 0 then (1, stM (mwO S) 13 4 1) else (-2, mwT S)) else (0, mS S)) else (-2, mS S)
set_option maxRecDepth 20000 in
theorem c_Mo_open {l : Launch} {D : va_G} {K : Nat → ClassId} {ad : Nat → Nat} {S : zSt} {h g : Nat} (hh : h < 5) (hg : g < 5) : zC l TB D zcls (ztyl K) y_Mo_open (.code y_Mo_open b_Mo_open 3 (some FieldType.int)) (rmk 2 42) [.ref (ad 13), .int (nI h), .int (nI g)] ad (Lay K ad S) (zP K ad (some (.int (mOpen S h g).1)) (mOpen S h g).2) := by
  refine zC.of (by decide +kernel) (Nat.le_of_ble_eq_true rfl) ?_
  intro x hx hr hml hnm hrm hq hNH
  show zV x ad (Lay K ad S) 0 0 [(0, .ref (ad 13)), (1, .int (nI h)), (2, .int (nI g))] 0 []
  refine z_aload_n hx 0 d_Mo_open_0 rfl ?_
  refine z_iload_n hx 1 d_Mo_open_1 rfl ?_
  refine z_cS hx (c_Mo_isHolder_yes (by omega)) ⟨a4_163, a4_165, a1_6, ⟨by decide +kernel, by decide +kernel⟩, fun sig h => by cases h; rfl⟩ a4_164 rfl rfl d_Mo_open_2 (by rw [hrm]; exact ⟨Nat.le_of_ble_eq_true rfl, Nat.le_of_ble_eq_true rfl, Nat.le_of_ble_eq_true rfl, Nat.le_of_ble_eq_true rfl⟩) ?_
  show zV x ad (Lay K ad S) _ _ _ 5 [.int 1, .ref (ad 13)]
  refine z_if_eq (tgt := 15) hx d_Mo_open_5 (by decide) (fun h => absurd h (by decide)) (fun _ => ?_)
  refine z_iload_n hx 2 d_Mo_open_8 rfl ?_
  refine z_cS hx (c_Mo_isHolder_yes (by omega)) ⟨a4_163, a4_165, a1_6, ⟨by decide +kernel, by decide +kernel⟩, fun sig h => by cases h; rfl⟩ a4_164 rfl rfl d_Mo_open_9 (by rw [hrm]; exact ⟨Nat.le_of_ble_eq_true rfl, Nat.le_of_ble_eq_true rfl, Nat.le_of_ble_eq_true rfl, Nat.le_of_ble_eq_true rfl⟩) ?_
  show zV x ad (Lay K ad S) _ _ _ 12 [.int 1, .ref (ad 13)]
  refine z_if_ne (tgt := 19) hx d_Mo_open_12 (by decide) (fun _ => ?_) (fun h => absurd h (by decide))
  refine z_iconst (v := 0) hx d_Mo_open_19 rfl ?_
  refine z_iconst (v := 0) hx d_Mo_open_20 rfl ?_
  refine z_iconst (v := 0) hx d_Mo_open_21 rfl ?_
  refine z_cV hx (c_Mo_refused_0) k_Mo rfl ⟨a4_81, a4_84, a1_6, ⟨by decide +kernel, by decide +kernel⟩, fun sig h => by cases h; rfl⟩ a4_83 s_Mo_refused rfl rfl d_Mo_open_22 (by rw [hrm]; exact ⟨Nat.le_of_ble_eq_true rfl, Nat.le_of_ble_eq_true rfl, Nat.le_of_ble_eq_true rfl, Nat.le_of_ble_eq_true rfl⟩) ?_
  show zV x ad (Lay K ad (stM S 13 0 0)) _ _ _ 25 [.int 0]
  refine z_if_eq (tgt := 30) hx d_Mo_open_25 (by decide) (fun _ => ?_) (fun h => absurd (by decide) h)
  refine z_aload_n hx 0 d_Mo_open_30 rfl ?_
  refine z_get hx k_Mo (t := 13) rfl 1 (by decide) a3_224 rfl d_Mo_open_31 ?_
  refine z_top (b := S.2.2 13 1) (rd_j (by decide)) ?_
  refine z_if_eq (tgt := 40) hx d_Mo_open_34 (by decide) (fun h1 => ?_) (fun h1 => ?_)
  · refine z_aload_n hx 0 d_Mo_open_40 rfl ?_
    refine z_get hx k_Mo (t := 13) rfl 4 (by decide) a3_227 rfl d_Mo_open_41 ?_
    refine z_top (b := S.2.2 13 4) (rd_j (by decide)) ?_
    refine z_if_ne (tgt := 52) hx d_Mo_open_44 (by decide) (fun h2 => ?_) (fun h2 => ?_)
    · refine z_iconst (v := 0) hx d_Mo_open_52 rfl ?_
      have e9 : mOpen S h g = (0, stM S 13 0 0) := by unfold mOpen; (first | rw [if_pos h1] | rw [if_neg h1] | skip); (first | rw [if_pos h2] | rw [if_neg h2] | skip); (try rfl)
      exact z_iret hx hr rfl hq (Nat.le_refl _) (Nat.le_refl _) d_Mo_open_53 ⟨by rw [e9], rfl, by rw [e9]⟩
    · refine z_iload_n hx 1 d_Mo_open_47 rfl ?_
      refine z_iload_n hx 2 d_Mo_open_48 rfl ?_
      refine z_icmp_ne (tgt := 54) hx d_Mo_open_49 (by decide) (fun h3 => ?_) (fun h3 => ?_)
      · refine z_aload_n hx 0 d_Mo_open_54 rfl ?_
        by_cases h4 : S.2.2 13 2 = 0
        · refine z_cV hx (c_Mo_writes_ok (S := stM S 13 0 0) h4) k_Mo rfl ⟨a4_85, a4_88, a1_6, ⟨by decide +kernel, by decide +kernel⟩, fun sig h => by cases h; rfl⟩ a4_87 s_Mo_writes rfl rfl d_Mo_open_55 (by rw [hrm]; exact ⟨Nat.le_of_ble_eq_true rfl, Nat.le_of_ble_eq_true rfl, Nat.le_of_ble_eq_true rfl, Nat.le_of_ble_eq_true rfl⟩) ?_
          show zV x ad (Lay K ad (stM (stM S 13 0 0) 13 3 (S.2.2 13 3 + 1))) _ _ _ 58 [.int 1]
          refine z_if_ne (tgt := 64) hx d_Mo_open_58 (by decide) (fun _ => ?_) (fun h => absurd h (by decide))
          refine z_aload_n hx 0 d_Mo_open_64 rfl ?_
          refine z_iconst (v := 1) hx d_Mo_open_65 rfl ?_
          refine z_put hx k_Mo (t := 13) rfl 4 (by decide) a3_227 rfl rfl rfl (Nat.le_of_ble_eq_true rfl) d_Mo_open_66 (ce1 := Lay K ad (stM (stM (stM S 13 0 0) 13 3 (S.2.2 13 3 + 1)) 13 4 1)) (Lay_put (by decide) rfl) ?_
          refine z_iconst (v := 1) hx d_Mo_open_69 rfl ?_
          have e9 : mOpen S h g = (1, stM (stM (stM S 13 0 0) 13 3 (S.2.2 13 3 + 1)) 13 4 1) := by unfold mOpen; (first | rw [if_pos h1] | rw [if_neg h1] | skip); (first | rw [if_pos h2] | rw [if_neg h2] | skip); (first | rw [if_pos h3] | rw [if_neg h3] | skip); (first | rw [if_pos h4] | rw [if_neg h4] | skip); (try rfl)
          exact z_iret hx hr rfl hq (Nat.le_refl _) (Nat.le_refl _) d_Mo_open_70 ⟨by rw [e9], rfl, by rw [e9]⟩
        · refine z_cV hx (c_Mo_writes_torn (S := stM S 13 0 0) h4) k_Mo rfl ⟨a4_85, a4_88, a1_6, ⟨by decide +kernel, by decide +kernel⟩, fun sig h => by cases h; rfl⟩ a4_87 s_Mo_writes rfl rfl d_Mo_open_55 (by rw [hrm]; exact ⟨Nat.le_of_ble_eq_true rfl, Nat.le_of_ble_eq_true rfl, Nat.le_of_ble_eq_true rfl, Nat.le_of_ble_eq_true rfl⟩) ?_
          show zV x ad (Lay K ad (stM (stM (stM S 13 0 0) 13 2 0) 13 1 1)) _ _ _ 58 [.int 0]
          refine z_if_ne (tgt := 64) hx d_Mo_open_58 (by decide) (fun h => absurd (by decide) h) (fun _ => ?_)
          refine z_bipush (v := (-2)) hx d_Mo_open_61 rfl ?_
          have e9 : mOpen S h g = ((-2), stM (stM (stM S 13 0 0) 13 2 0) 13 1 1) := by unfold mOpen; (first | rw [if_pos h1] | rw [if_neg h1] | skip); (first | rw [if_pos h2] | rw [if_neg h2] | skip); (first | rw [if_pos h3] | rw [if_neg h3] | skip); (first | rw [if_pos h4] | rw [if_neg h4] | skip); (try rfl)
          exact z_iret hx hr rfl hq (Nat.le_refl _) (Nat.le_refl _) d_Mo_open_63 ⟨by rw [e9], rfl, by rw [e9]⟩
      · refine z_iconst (v := 0) hx d_Mo_open_52 rfl ?_
        have e9 : mOpen S h g = (0, stM S 13 0 0) := by unfold mOpen; (first | rw [if_pos h1] | rw [if_neg h1] | skip); (first | rw [if_pos h2] | rw [if_neg h2] | skip); (first | rw [if_pos h3] | rw [if_neg h3] | skip); (try rfl)
        exact z_iret hx hr rfl hq (Nat.le_refl _) (Nat.le_refl _) d_Mo_open_53 ⟨by rw [e9], rfl, by rw [e9]⟩
  · refine z_bipush (v := (-2)) hx d_Mo_open_37 rfl ?_
    have e9 : mOpen S h g = ((-2), stM S 13 0 0) := by unfold mOpen; (first | rw [if_pos h1] | rw [if_neg h1] | skip); (try rfl)
    exact z_iret hx hr rfl hq (Nat.le_refl _) (Nat.le_refl _) d_Mo_open_39 ⟨by rw [e9], rfl, by rw [e9]⟩
set_option maxRecDepth 20000 in
theorem c_Mo_mount {l : Launch} {D : va_G} {K : Nat → ClassId} {ad : Nat → Nat} {S : zSt} (hd : ¬ S.2.2 13 1 = 0) : zC l TB D zcls (ztyl K) y_Mo_mount (.code y_Mo_mount b_Mo_mount 1 (some FieldType.int)) (rmk 1 23) [.ref (ad 13)] ad (Lay K ad S) (zP K ad (some (.int (S.2.2 13 3))) (stM (mS S) 13 1 0)) := by
  refine zC.of (by decide +kernel) (Nat.le_of_ble_eq_true rfl) ?_
  intro x hx hr hml hnm hrm hq hNH
  show zV x ad (Lay K ad S) 0 0 [(0, .ref (ad 13))] 0 []
  refine z_aload_n hx 0 d_Mo_mount_0 rfl ?_
  refine z_aload_n hx 0 d_Mo_mount_1 rfl ?_
  refine z_get hx k_Mo (t := 13) rfl 1 (by decide) a3_224 rfl d_Mo_mount_2 ?_
  refine z_if_ne (tgt := 12) hx d_Mo_mount_5 (by decide) (fun _ => ?_) (fun h => absurd h hd)
  refine z_iconst (v := 0) hx d_Mo_mount_12 rfl ?_
  refine z_iconst (v := 0) hx d_Mo_mount_13 rfl ?_
  refine z_iconst (v := 0) hx d_Mo_mount_14 rfl ?_
  refine z_cV hx (c_Mo_refused_0) k_Mo rfl ⟨a4_81, a4_84, a1_6, ⟨by decide +kernel, by decide +kernel⟩, fun sig h => by cases h; rfl⟩ a4_83 s_Mo_refused rfl rfl d_Mo_mount_15 (by rw [hrm]; exact ⟨Nat.le_of_ble_eq_true rfl, Nat.le_of_ble_eq_true rfl, Nat.le_of_ble_eq_true rfl, Nat.le_of_ble_eq_true rfl⟩) ?_
  show zV x ad (Lay K ad (stM S 13 0 0)) _ _ _ 18 [.int 0]
  refine z_if_eq (tgt := 23) hx d_Mo_mount_18 (by decide) (fun _ => ?_) (fun h => absurd (by decide) h)
  refine z_aload_n hx 0 d_Mo_mount_23 rfl ?_
  refine z_iconst (v := 0) hx d_Mo_mount_24 rfl ?_
  refine z_put hx k_Mo (t := 13) rfl 1 (by decide) a3_224 rfl rfl rfl (Nat.le_of_ble_eq_true rfl) d_Mo_mount_25 (ce1 := Lay K ad (stM (stM S 13 0 0) 13 1 0)) (Lay_put (by decide) rfl) ?_
  refine z_aload_n hx 0 d_Mo_mount_28 rfl ?_
  refine z_get hx k_Mo (t := 13) rfl 3 (by decide) a3_226 rfl d_Mo_mount_29 ?_
  refine z_top (b := S.2.2 13 3) ((rd_j (by decide)).trans (rd_j (by decide))) ?_
  exact z_iret hx hr rfl hq (Nat.le_refl _) (Nat.le_refl _) d_Mo_mount_32 ⟨rfl, rfl, rfl⟩
def mTear (S : zSt) : zSt := if S.2.2 13 2 = 0 then (if S.2.2 13 1 = 0 then stM (mS S) 13 2 1 else stM (mS S) 13 2 0) else stM (mS S) 13 2 1
set_option maxRecDepth 20000 in
theorem c_Mo_tear {l : Launch} {D : va_G} {K : Nat → ClassId} {ad : Nat → Nat} {S : zSt}  : zC l TB D zcls (ztyl K) y_Mo_tear (.code y_Mo_tear b_Mo_tear 1 (none : Option FieldType)) (rmk 0 0) [.ref (ad 13)] ad (Lay K ad S) (zP K ad none (mTear S)) := by
  refine zC.of (by decide +kernel) (Nat.le_of_ble_eq_true rfl) ?_
  intro x hx hr hml hnm hrm hq hNH
  show zV x ad (Lay K ad S) 0 0 [(0, .ref (ad 13))] 0 []
  refine z_aload_n hx 0 d_Mo_tear_0 rfl ?_
  refine z_iconst (v := 0) hx d_Mo_tear_1 rfl ?_
  refine z_put hx k_Mo (t := 13) rfl 0 (by decide) a3_223 rfl rfl rfl (Nat.le_of_ble_eq_true rfl) d_Mo_tear_2 (ce1 := Lay K ad (stM S 13 0 0)) (Lay_put (by decide) rfl) ?_
  refine z_aload_n hx 0 d_Mo_tear_5 rfl ?_
  refine z_aload_n hx 0 d_Mo_tear_6 rfl ?_
  refine z_get hx k_Mo (t := 13) rfl 2 (by decide) a3_225 rfl d_Mo_tear_7 ?_
  refine z_top (b := S.2.2 13 2) (rd_j (by decide)) ?_
  refine z_if_ne (tgt := 20) hx d_Mo_tear_10 (by decide) (fun h1 => ?_) (fun h1 => ?_)
  · refine z_iconst (v := 1) hx d_Mo_tear_20 rfl ?_
    refine z_goto (tgt := 25) hx d_Mo_tear_21 (by decide) ?_
    refine z_put hx k_Mo (t := 13) rfl 2 (by decide) a3_225 rfl rfl rfl (Nat.le_of_ble_eq_true rfl) d_Mo_tear_25 (ce1 := Lay K ad (stM (stM S 13 0 0) 13 2 1)) (Lay_put (by decide) rfl) ?_
    have e9 : mTear S = stM (stM S 13 0 0) 13 2 1 := by unfold mTear; (first | rw [if_pos h1] | rw [if_neg h1] | skip); (try rfl)
    exact z_vret hx hr hq (Nat.le_refl _) (Nat.le_refl _) d_Mo_tear_28 ⟨rfl, rfl, by rw [e9]⟩
  · refine z_aload_n hx 0 d_Mo_tear_13 rfl ?_
    refine z_get hx k_Mo (t := 13) rfl 1 (by decide) a3_224 rfl d_Mo_tear_14 ?_
    refine z_top (b := S.2.2 13 1) (rd_j (by decide)) ?_
    refine z_if_ne (tgt := 24) hx d_Mo_tear_17 (by decide) (fun h2 => ?_) (fun h2 => ?_)
    · refine z_iconst (v := 0) hx d_Mo_tear_24 rfl ?_
      refine z_put hx k_Mo (t := 13) rfl 2 (by decide) a3_225 rfl rfl rfl (Nat.le_of_ble_eq_true rfl) d_Mo_tear_25 (ce1 := Lay K ad (stM (stM S 13 0 0) 13 2 0)) (Lay_put (by decide) rfl) ?_
      have e9 : mTear S = stM (stM S 13 0 0) 13 2 0 := by unfold mTear; (first | rw [if_pos h1] | rw [if_neg h1] | skip); (first | rw [if_pos h2] | rw [if_neg h2] | skip); (try rfl)
      exact z_vret hx hr hq (Nat.le_refl _) (Nat.le_refl _) d_Mo_tear_28 ⟨rfl, rfl, by rw [e9]⟩
    · refine z_iconst (v := 1) hx d_Mo_tear_20 rfl ?_
      refine z_goto (tgt := 25) hx d_Mo_tear_21 (by decide) ?_
      refine z_put hx k_Mo (t := 13) rfl 2 (by decide) a3_225 rfl rfl rfl (Nat.le_of_ble_eq_true rfl) d_Mo_tear_25 (ce1 := Lay K ad (stM (stM S 13 0 0) 13 2 1)) (Lay_put (by decide) rfl) ?_
      have e9 : mTear S = stM (stM S 13 0 0) 13 2 1 := by unfold mTear; (first | rw [if_pos h1] | rw [if_neg h1] | skip); (first | rw [if_pos h2] | rw [if_neg h2] | skip); (try rfl)
      exact z_vret hx hr hq (Nat.le_refl _) (Nat.le_refl _) d_Mo_tear_28 ⟨rfl, rfl, by rw [e9]⟩
set_option maxRecDepth 20000 in
theorem c_Mo_blocks {l : Launch} {D : va_G} {K : Nat → ClassId} {ad : Nat → Nat} {S : zSt} {s : Nat} (hs : s < 8) : zC l TB D zcls (ztyl K) y_Mo_blocks (.code y_Mo_blocks b_Mo_blocks 2 (some FieldType.int)) (rmk 2 42) [.ref (ad 13), .int (nI s)] ad (Lay K ad S) (zP K ad (some (.int (S.2.2 17 s))) (mS S)) := by
  refine zC.of (by decide +kernel) (Nat.le_of_ble_eq_true rfl) ?_
  intro x hx hr hml hnm hrm hq hNH
  show zV x ad (Lay K ad S) 0 0 [(0, .ref (ad 13)), (1, .int (nI s))] 0 []
  refine z_aload_n hx 0 d_Mo_blocks_0 rfl ?_
  refine z_iload_n hx 1 d_Mo_blocks_1 rfl ?_
  refine z_cS hx (c_Mo_isStratum_yes hs) ⟨a4_119, a4_121, a1_6, ⟨by decide +kernel, by decide +kernel⟩, fun sig h => by cases h; rfl⟩ a4_120 rfl rfl d_Mo_blocks_2 (by rw [hrm]; exact ⟨Nat.le_of_ble_eq_true rfl, Nat.le_of_ble_eq_true rfl, Nat.le_of_ble_eq_true rfl, Nat.le_of_ble_eq_true rfl⟩) ?_
  show zV x ad (Lay K ad S) _ _ _ 5 [.int 1, .ref (ad 13)]
  refine z_if_ne (tgt := 12) hx d_Mo_blocks_5 (by decide) (fun _ => ?_) (fun h => absurd h (by decide))
  refine z_iconst (v := 0) hx d_Mo_blocks_12 rfl ?_
  refine z_iconst (v := 0) hx d_Mo_blocks_13 rfl ?_
  refine z_iconst (v := 0) hx d_Mo_blocks_14 rfl ?_
  refine z_cV hx (c_Mo_refused_0) k_Mo rfl ⟨a4_81, a4_84, a1_6, ⟨by decide +kernel, by decide +kernel⟩, fun sig h => by cases h; rfl⟩ a4_83 s_Mo_refused rfl rfl d_Mo_blocks_15 (by rw [hrm]; exact ⟨Nat.le_of_ble_eq_true rfl, Nat.le_of_ble_eq_true rfl, Nat.le_of_ble_eq_true rfl, Nat.le_of_ble_eq_true rfl⟩) ?_
  show zV x ad (Lay K ad (stM S 13 0 0)) _ _ _ 18 [.int 0]
  refine z_if_eq (tgt := 25) hx d_Mo_blocks_18 (by decide) (fun _ => ?_) (fun h => absurd (by decide) h)
  refine z_aload_n hx 0 d_Mo_blocks_25 rfl ?_
  refine z_get hx k_Mo (t := 13) rfl 12 (by decide) a3_235 rfl d_Mo_blocks_26 ?_
  refine z_iload_n hx 1 d_Mo_blocks_29 rfl ?_
  refine z_ialdK hx 0 rfl (t := 17) rfl (k := s) (by omega) (by first | decide | omega) d_Mo_blocks_30 ?_
  refine z_top (b := S.2.2 17 s) (rd_n (by decide)) ?_
  exact z_iret hx hr rfl hq (Nat.le_refl _) (Nat.le_refl _) d_Mo_blocks_31 ⟨rfl, rfl, rfl⟩
def knM (S : zSt) (s a : Nat) : Int32 := nI (cntI (fun q => decide (S.2.2 25 q = 1 ∧ S.2.2 26 q = nI s ∧ S.2.2 27 q = nI a)) 1000)
def mCount (S : zSt) (s a : Nat) : Int32 × zSt := if S.2.2 13 4 = 0 then (-1, mS S) else (knM S s a, mS S)
set_option maxRecDepth 20000 in
theorem c_Mo_count {l : Launch} {D : va_G} {K : Nat → ClassId} {ad : Nat → Nat} {S : zSt} {s a : Nat} (hs : s < 8) (hav : wiF (nI a) 0 (if S.2.2 13 5 = 0 then 3 else S.2.2 13 5 - 1) = 1) (hpl : ¬ S.2.2 13 5 = 0) : zC l TB D zcls (ztyl K) y_Mo_count (.code y_Mo_count b_Mo_count 3 (some FieldType.int)) (rmk 2 43) [.ref (ad 13), .int (nI s), .int (nI a)] ad (Lay K ad S) (zP K ad (some (.int (mCount S s a).1)) (mCount S s a).2) := by
  refine zC.of (by decide +kernel) (Nat.le_of_ble_eq_true rfl) ?_
  intro x hx hr hml hnm hrm hq hNH
  show zV x ad (Lay K ad S) 0 0 [(0, .ref (ad 13)), (1, .int (nI s)), (2, .int (nI a))] 0 []
  refine z_aload_n hx 0 d_Mo_count_0 rfl ?_
  refine z_iload_n hx 1 d_Mo_count_1 rfl ?_
  refine z_cS hx (c_Mo_isStratum_yes hs) ⟨a4_119, a4_121, a1_6, ⟨by decide +kernel, by decide +kernel⟩, fun sig h => by cases h; rfl⟩ a4_120 rfl rfl d_Mo_count_2 (by rw [hrm]; exact ⟨Nat.le_of_ble_eq_true rfl, Nat.le_of_ble_eq_true rfl, Nat.le_of_ble_eq_true rfl, Nat.le_of_ble_eq_true rfl⟩) ?_
  show zV x ad (Lay K ad S) _ _ _ 5 [.int 1, .ref (ad 13)]
  refine z_if_eq (tgt := 16) hx d_Mo_count_5 (by decide) (fun h => absurd h (by decide)) (fun _ => ?_)
  refine z_aload_n hx 0 d_Mo_count_8 rfl ?_
  refine z_iload_n hx 2 d_Mo_count_9 rfl ?_
  refine z_cV hx (c_Mo_isArm) k_Mo rfl ⟨a4_102, a4_105, a1_6, ⟨by decide +kernel, by decide +kernel⟩, fun sig h => by cases h; rfl⟩ a4_104 s_Mo_isArm rfl rfl d_Mo_count_10 (by rw [hrm]; exact ⟨Nat.le_of_ble_eq_true rfl, Nat.le_of_ble_eq_true rfl, Nat.le_of_ble_eq_true rfl, Nat.le_of_ble_eq_true rfl⟩) ?_
  show zV x ad (Lay K ad S) _ _ _ 13 [.int (wiF (nI a) 0 (if S.2.2 13 5 = 0 then 3 else S.2.2 13 5 - 1)), .ref (ad 13)]
  refine z_top (b := 1) hav ?_
  refine z_if_ne (tgt := 20) hx d_Mo_count_13 (by decide) (fun _ => ?_) (fun h => absurd h (by decide))
  refine z_iconst (v := 0) hx d_Mo_count_20 rfl ?_
  refine z_aload_n hx 0 d_Mo_count_21 rfl ?_
  refine z_get hx k_Mo (t := 13) rfl 5 (by decide) a3_228 rfl d_Mo_count_22 ?_
  refine z_if_ne (tgt := 32) hx d_Mo_count_25 (by decide) (fun _ => ?_) (fun h => absurd h hpl)
  refine z_iconst (v := 0) hx d_Mo_count_32 rfl ?_
  refine z_iconst (v := 0) hx d_Mo_count_33 rfl ?_
  refine z_cV hx (c_Mo_refused_0) k_Mo rfl ⟨a4_81, a4_84, a1_6, ⟨by decide +kernel, by decide +kernel⟩, fun sig h => by cases h; rfl⟩ a4_83 s_Mo_refused rfl rfl d_Mo_count_34 (by rw [hrm]; exact ⟨Nat.le_of_ble_eq_true rfl, Nat.le_of_ble_eq_true rfl, Nat.le_of_ble_eq_true rfl, Nat.le_of_ble_eq_true rfl⟩) ?_
  show zV x ad (Lay K ad (stM S 13 0 0)) _ _ _ 37 [.int 0]
  refine z_if_eq (tgt := 42) hx d_Mo_count_37 (by decide) (fun _ => ?_) (fun h => absurd (by decide) h)
  refine z_aload_n hx 0 d_Mo_count_42 rfl ?_
  refine z_get hx k_Mo (t := 13) rfl 4 (by decide) a3_227 rfl d_Mo_count_43 ?_
  refine z_top (b := S.2.2 13 4) (rd_j (by decide)) ?_
  refine z_if_eq (tgt := 58) hx d_Mo_count_46 (by decide) (fun h1 => ?_) (fun h1 => ?_)
  · refine z_iconst (v := (-1)) hx d_Mo_count_58 rfl ?_
    have e9 : mCount S s a = ((-1), stM S 13 0 0) := by unfold mCount; (first | rw [if_pos h1] | rw [if_neg h1] | skip); (try rfl)
    exact z_iret hx hr rfl hq (Nat.le_refl _) (Nat.le_refl _) d_Mo_count_59 ⟨by rw [e9], rfl, by rw [e9]⟩
  · refine z_aload_n hx 0 d_Mo_count_49 rfl ?_
    refine z_iload_n hx 1 d_Mo_count_50 rfl ?_
    refine z_iload_n hx 2 d_Mo_count_51 rfl ?_
    refine z_cV hx (c_Mo_known) k_Mo rfl ⟨a4_182, a4_185, a1_6, ⟨by decide +kernel, by decide +kernel⟩, fun sig h => by cases h; rfl⟩ a4_184 s_Mo_known rfl rfl d_Mo_count_52 (by rw [hrm]; exact ⟨Nat.le_of_ble_eq_true rfl, Nat.le_of_ble_eq_true rfl, Nat.le_of_ble_eq_true rfl, Nat.le_of_ble_eq_true rfl⟩) ?_
    show zV x ad (Lay K ad (stM S 13 0 0)) _ _ _ 55 [.int (knM S s a)]
    refine z_goto (tgt := 59) hx d_Mo_count_55 (by decide) ?_
    have e9 : mCount S s a = (knM S s a, stM S 13 0 0) := by unfold mCount; (first | rw [if_pos h1] | rw [if_neg h1] | skip); (try rfl)
    exact z_iret hx hr rfl hq (Nat.le_refl _) (Nat.le_refl _) d_Mo_count_59 ⟨by rw [e9], rfl, by rw [e9]⟩
def dM (S : zSt) (s a b : Nat) : Int32 := knM S s a * S.2.2 14 b - knM S s b * S.2.2 14 a
def mspI (S : zSt) (s a : Nat) (w : Int32) : Nat → Int32
  | 0 => w
  | b + 1 => if dM S s a b ≤ mspI S s a w b then mspI S s a w b else dM S s a b
def mspO (S : zSt) (s A : Nat) : Nat → Int32
  | 0 => 0
  | a + 1 => mspI S s a (mspO S s A a) A
def mSpread (S : zSt) (s A : Nat) : Int32 × zSt := if S.2.2 13 4 = 0 then (-1, mS S) else (mspO S s A A, mS S)
set_option maxRecDepth 20000 in
theorem c_Mo_spread {l : Launch} {D : va_G} {K : Nat → ClassId} {ad : Nat → Nat} {S : zSt} {s A : Nat} (hs : s < 8) (hA : S.2.2 13 5 = nI A) (hA4 : A ≤ 4) (hA1 : 1 ≤ A) : zC l TB D zcls (ztyl K) y_Mo_spread (.code y_Mo_spread b_Mo_spread 6 (some FieldType.int)) (rmk 2 42) [.ref (ad 13), .int (nI s)] ad (Lay K ad S) (zP K ad (some (.int (mSpread S s A).1)) (mSpread S s A).2) := by
  refine zC.of (by decide +kernel) (Nat.le_of_ble_eq_true rfl) ?_
  intro x hx hr hml hnm hrm hq hNH
  have O : ∀ (m_O a : Nat), a + m_O = A → zV x ad (Lay K ad (stM S 13 0 0)) 0 0 [(3, .int (nI a)), (2, .int (mspO S s A a)), (0, .ref (ad 13)), (1, .int (nI s))] 38 [] := by
    intro m_O
    induction m_O with
    | zero =>
      intro a he_O
      have e_O : a = A := by omega
      refine z_iload_n hx 0 d_Mo_spread_38 rfl ?_
      refine z_aload_n hx 2 d_Mo_spread_39 rfl ?_
      refine z_get hx k_Mo (t := 13) rfl 5 (by decide) a3_228 rfl d_Mo_spread_40 ?_
      refine z_top (b := S.2.2 13 5) (rd_j (by decide)) ?_
      refine z_top (b := nI A) hA ?_
      refine z_icmp_ge (tgt := 114) hx d_Mo_spread_43 (by decide) (fun _ => ?_) (fun h => absurd (nI_le (by omega) (by omega)) h)
      refine z_aload_n hx 2 d_Mo_spread_114 rfl ?_
      refine z_get hx k_Mo (t := 13) rfl 4 (by decide) a3_227 rfl d_Mo_spread_115 ?_
      refine z_top (b := S.2.2 13 4) (rd_j (by decide)) ?_
      refine z_if_eq (tgt := 125) hx d_Mo_spread_118 (by decide) (fun h1 => ?_) (fun h1 => ?_)
      · refine z_iconst (v := (-1)) hx d_Mo_spread_125 rfl ?_
        have e9 : mSpread S s A = ((-1), stM S 13 0 0) := by unfold mSpread; rw [if_pos h1]
        exact z_iret hx hr rfl hq (Nat.le_refl _) (Nat.le_refl _) d_Mo_spread_126 ⟨by rw [e9], rfl, by rw [e9]⟩
      · refine z_iload_n hx 1 d_Mo_spread_121 rfl ?_
        refine z_goto (tgt := 126) hx d_Mo_spread_122 (by decide) ?_
        have e9 : mSpread S s A = (mspO S s A a, stM S 13 0 0) := by rw [e_O]; unfold mSpread; (first | rw [if_pos h1] | rw [if_neg h1])
        exact z_iret hx hr rfl hq (Nat.le_refl _) (Nat.le_refl _) d_Mo_spread_126 ⟨by rw [e9], rfl, by rw [e9]⟩
    | succ m_O ih_O =>
      intro a he_O
      have l_O : a < A := by omega
      have J : ∀ (m_J b : Nat), b + m_J = A → zV x ad (Lay K ad (stM S 13 0 0)) 0 0 [(4, .int (nI b)), (3, .int (nI a)), (2, .int (mspI S s a (mspO S s A a) b)), (0, .ref (ad 13)), (1, .int (nI s))] 49 [] := by
        intro m_J
        induction m_J with
        | zero =>
          intro b he_J
          have e_J : b = A := by omega
          refine z_iload hx 0 d_Mo_spread_49 rfl ?_
          refine z_aload_n hx 3 d_Mo_spread_51 rfl ?_
          refine z_get hx k_Mo (t := 13) rfl 5 (by decide) a3_228 rfl d_Mo_spread_52 ?_
          refine z_top (b := S.2.2 13 5) (rd_j (by decide)) ?_
          refine z_top (b := nI A) hA ?_
          refine z_icmp_ge (tgt := 108) hx d_Mo_spread_55 (by decide) (fun _ => ?_) (fun h => absurd (nI_le (by omega) (by omega)) h)
          refine z_iinc (v := nI (a + 1)) hx 1 [(3, .int (nI (a + 1))), (4, .int (nI b)), (2, .int (mspI S s a (mspO S s A a) b)), (0, .ref (ad 13)), (1, .int (nI s))] d_Mo_spread_108 rfl (nI_1 a) (zN hml (by decide)) rfl ?_
          refine z_goto (tgt := 38) hx d_Mo_spread_111 (by decide) ?_
          obtain rfl : b = A := by omega
          exact z_lv [0, 2, 3, 4] _ rfl (ih_O (a + 1) (by omega))
        | succ m_J ih_J =>
          intro b he_J
          have l_J : b < A := by omega
          refine z_iload hx 0 d_Mo_spread_49 rfl ?_
          refine z_aload_n hx 3 d_Mo_spread_51 rfl ?_
          refine z_get hx k_Mo (t := 13) rfl 5 (by decide) a3_228 rfl d_Mo_spread_52 ?_
          refine z_top (b := S.2.2 13 5) (rd_j (by decide)) ?_
          refine z_top (b := nI A) hA ?_
          refine z_icmp_ge (tgt := 108) hx d_Mo_spread_55 (by decide) (fun h => absurd h (nI_ge (by omega) (by omega))) (fun _ => ?_)
          refine z_aload_n hx 3 d_Mo_spread_58 rfl ?_
          refine z_iload_n hx 4 d_Mo_spread_59 rfl ?_
          refine z_iload_n hx 1 d_Mo_spread_60 rfl ?_
          refine z_cV hx (c_Mo_known) k_Mo rfl ⟨a4_182, a4_185, a1_6, ⟨by decide +kernel, by decide +kernel⟩, fun sig h => by cases h; rfl⟩ a4_184 s_Mo_known rfl rfl d_Mo_spread_61 (by rw [hrm]; exact ⟨Nat.le_of_ble_eq_true rfl, Nat.le_of_ble_eq_true rfl, Nat.le_of_ble_eq_true rfl, Nat.le_of_ble_eq_true rfl⟩) ?_
          show zV x ad (Lay K ad (stM S 13 0 0)) _ _ _ 64 [.int (knM S s a)]
          refine z_aload_n hx 3 d_Mo_spread_64 rfl ?_
          refine z_get hx k_Mo (t := 13) rfl 8 (by decide) a3_231 rfl d_Mo_spread_65 ?_
          refine z_iload hx 0 d_Mo_spread_68 rfl ?_
          refine z_ialdK hx 0 rfl (t := 14) rfl (k := b) (by omega) (by first | decide | omega) d_Mo_spread_70 ?_
          refine z_top (b := S.2.2 14 b) (rd_n (by decide)) ?_
          refine z_imul hx d_Mo_spread_71 ?_
          refine z_aload_n hx 3 d_Mo_spread_72 rfl ?_
          refine z_iload_n hx 4 d_Mo_spread_73 rfl ?_
          refine z_iload hx 0 d_Mo_spread_74 rfl ?_
          refine z_cV hx (c_Mo_known) k_Mo rfl ⟨a4_182, a4_185, a1_6, ⟨by decide +kernel, by decide +kernel⟩, fun sig h => by cases h; rfl⟩ a4_184 s_Mo_known rfl rfl d_Mo_spread_76 (by rw [hrm]; exact ⟨Nat.le_of_ble_eq_true rfl, Nat.le_of_ble_eq_true rfl, Nat.le_of_ble_eq_true rfl, Nat.le_of_ble_eq_true rfl⟩) ?_
          show zV x ad (Lay K ad (stM S 13 0 0)) _ _ _ 79 [.int (knM S s b), .int ((knM S s a) * (S.2.2 14 b))]
          refine z_aload_n hx 3 d_Mo_spread_79 rfl ?_
          refine z_get hx k_Mo (t := 13) rfl 8 (by decide) a3_231 rfl d_Mo_spread_80 ?_
          refine z_iload_n hx 1 d_Mo_spread_83 rfl ?_
          refine z_ialdK hx 0 rfl (t := 14) rfl (k := a) (by omega) (by first | decide | omega) d_Mo_spread_84 ?_
          refine z_top (b := S.2.2 14 a) (rd_n (by decide)) ?_
          refine z_imul hx d_Mo_spread_85 ?_
          refine z_isub hx d_Mo_spread_86 ?_
          refine z_top (b := dM S s a b) rfl ?_
          refine z_istore hx [(5, .int (dM S s a b)), (4, .int (nI b)), (3, .int (nI a)), (2, .int (mspI S s a (mspO S s A a) b)), (0, .ref (ad 13)), (1, .int (nI s))] d_Mo_spread_87 (zN hml (by decide)) rfl ?_
          refine z_iload hx 0 d_Mo_spread_89 rfl ?_
          refine z_iload_n hx 3 d_Mo_spread_91 rfl ?_
          refine z_icmp_le (tgt := 100) hx d_Mo_spread_92 (by decide) (fun h1 => ?_) (fun h1 => ?_)
          · refine z_iload_n hx 3 d_Mo_spread_100 rfl ?_
            refine z_istore_n hx [(2, .int (mspI S s a (mspO S s A a) b)), (5, .int (dM S s a b)), (4, .int (nI b)), (3, .int (nI a)), (0, .ref (ad 13)), (1, .int (nI s))] d_Mo_spread_101 rfl (zN hml (by decide)) rfl ?_
            refine z_iinc (v := nI (b + 1)) hx 2 [(4, .int (nI (b + 1))), (2, .int (mspI S s a (mspO S s A a) b)), (5, .int (dM S s a b)), (3, .int (nI a)), (0, .ref (ad 13)), (1, .int (nI s))] d_Mo_spread_102 rfl (nI_1 _) (zN hml (by decide)) rfl ?_
            refine z_goto (tgt := 49) hx d_Mo_spread_105 (by decide) ?_
            have q9 := ih_J (b + 1) (by omega)
            rw [show mspI S s a (mspO S s A a) (b + 1) = mspI S s a (mspO S s A a) b from by rw [mspI]; first | rw [if_pos h1] | rw [if_neg h1]] at q9
            exact z_lv [0, 3, 1, 4, 5] _ rfl q9
          · refine z_iload hx 0 d_Mo_spread_95 rfl ?_
            refine z_goto (tgt := 101) hx d_Mo_spread_97 (by decide) ?_
            refine z_istore_n hx [(2, .int (dM S s a b)), (5, .int (dM S s a b)), (4, .int (nI b)), (3, .int (nI a)), (0, .ref (ad 13)), (1, .int (nI s))] d_Mo_spread_101 rfl (zN hml (by decide)) rfl ?_
            refine z_iinc (v := nI (b + 1)) hx 2 [(4, .int (nI (b + 1))), (2, .int (dM S s a b)), (5, .int (dM S s a b)), (3, .int (nI a)), (0, .ref (ad 13)), (1, .int (nI s))] d_Mo_spread_102 rfl (nI_1 _) (zN hml (by decide)) rfl ?_
            refine z_goto (tgt := 49) hx d_Mo_spread_105 (by decide) ?_
            have q9 := ih_J (b + 1) (by omega)
            rw [show mspI S s a (mspO S s A a) (b + 1) = dM S s a b from by rw [mspI]; first | rw [if_pos h1] | rw [if_neg h1]] at q9
            exact z_lv [0, 3, 1, 4, 5] _ rfl q9
      refine z_iload_n hx 0 d_Mo_spread_38 rfl ?_
      refine z_aload_n hx 2 d_Mo_spread_39 rfl ?_
      refine z_get hx k_Mo (t := 13) rfl 5 (by decide) a3_228 rfl d_Mo_spread_40 ?_
      refine z_top (b := S.2.2 13 5) (rd_j (by decide)) ?_
      refine z_top (b := nI A) hA ?_
      refine z_icmp_ge (tgt := 114) hx d_Mo_spread_43 (by decide) (fun h => absurd h (nI_ge (by omega) (by omega))) (fun _ => ?_)
      refine z_iconst (v := 0) hx d_Mo_spread_46 rfl ?_
      refine z_top (b := nI 0) rfl ?_
      refine z_istore hx [(4, .int (nI 0)), (3, .int (nI a)), (2, .int (mspO S s A a)), (0, .ref (ad 13)), (1, .int (nI s))] d_Mo_spread_47 (zN hml (by decide)) rfl ?_
      exact z_lv [0, 1, 2, 3, 4] _ rfl (J A 0 (by omega))
  show zV x ad (Lay K ad S) 0 0 [(0, .ref (ad 13)), (1, .int (nI s))] 0 []
  refine z_aload_n hx 0 d_Mo_spread_0 rfl ?_
  refine z_iload_n hx 1 d_Mo_spread_1 rfl ?_
  refine z_cS hx (c_Mo_isStratum_yes hs) ⟨a4_119, a4_121, a1_6, ⟨by decide +kernel, by decide +kernel⟩, fun sig h => by cases h; rfl⟩ a4_120 rfl rfl d_Mo_spread_2 (by rw [hrm]; exact ⟨Nat.le_of_ble_eq_true rfl, Nat.le_of_ble_eq_true rfl, Nat.le_of_ble_eq_true rfl, Nat.le_of_ble_eq_true rfl⟩) ?_
  show zV x ad (Lay K ad S) _ _ _ 5 [.int 1, .ref (ad 13)]
  refine z_if_ne (tgt := 12) hx d_Mo_spread_5 (by decide) (fun _ => ?_) (fun h => absurd h (by decide))
  refine z_iconst (v := 0) hx d_Mo_spread_12 rfl ?_
  refine z_aload_n hx 0 d_Mo_spread_13 rfl ?_
  refine z_get hx k_Mo (t := 13) rfl 5 (by decide) a3_228 rfl d_Mo_spread_14 ?_
  refine z_top (b := nI A) hA ?_
  refine z_if_ne (tgt := 24) hx d_Mo_spread_17 (by decide) (fun _ => ?_) (fun h => absurd h (nI_ne0 hA1 (by omega)))
  refine z_iconst (v := 0) hx d_Mo_spread_24 rfl ?_
  refine z_iconst (v := 0) hx d_Mo_spread_25 rfl ?_
  refine z_cV hx (c_Mo_refused_0) k_Mo rfl ⟨a4_81, a4_84, a1_6, ⟨by decide +kernel, by decide +kernel⟩, fun sig h => by cases h; rfl⟩ a4_83 s_Mo_refused rfl rfl d_Mo_spread_26 (by rw [hrm]; exact ⟨Nat.le_of_ble_eq_true rfl, Nat.le_of_ble_eq_true rfl, Nat.le_of_ble_eq_true rfl, Nat.le_of_ble_eq_true rfl⟩) ?_
  show zV x ad (Lay K ad (stM S 13 0 0)) _ _ _ 29 [.int 0]
  refine z_if_eq (tgt := 34) hx d_Mo_spread_29 (by decide) (fun _ => ?_) (fun h => absurd (by decide) h)
  refine z_iconst (v := 0) hx d_Mo_spread_34 rfl ?_
  refine z_top (b := mspO S s A 0) rfl ?_
  refine z_istore_n hx [(2, .int (mspO S s A 0)), (0, .ref (ad 13)), (1, .int (nI s))] d_Mo_spread_35 rfl (zN hml (by decide)) rfl ?_
  refine z_iconst (v := 0) hx d_Mo_spread_36 rfl ?_
  refine z_top (b := nI 0) rfl ?_
  refine z_istore_n hx [(3, .int (nI 0)), (2, .int (mspO S s A 0)), (0, .ref (ad 13)), (1, .int (nI s))] d_Mo_spread_37 rfl (zN hml (by decide)) rfl ?_
  exact z_lv [0, 1, 2, 3] _ rfl (O A 0 (by omega))
def eM (S : zSt) (s Z : Nat) : Nat → Nat → Nat → Int32
  | 0, _, _ => -1
  | m + 1, b, q => if S.2.2 15 b = nI s then (if q < Z then S.2.2 16 (24 * b + q) else eM S s Z m (b + 1) (q - Z)) else eM S s Z m (b + 1) q
set_option maxRecDepth 20000 in
theorem c_Mo_entry_shut {l : Launch} {D : va_G} {K : Nat → ClassId} {ad : Nat → Nat} {S : zSt} {s : Nat} (hs : s < 8) {v : Int32} (ho7 : S.2.2 13 4 = 0) : zC l TB D zcls (ztyl K) y_Mo_entry (.code y_Mo_entry b_Mo_entry 5 (some FieldType.int)) (rmk 2 42) [.ref (ad 13), .int (nI s), .int v] ad (Lay K ad S) (zP K ad (some (.int (-1))) (mS S)) := by
  refine zC.of (by decide +kernel) (Nat.le_of_ble_eq_true rfl) ?_
  intro x hx hr hml hnm hrm hq hNH
  show zV x ad (Lay K ad S) 0 0 [(0, .ref (ad 13)), (1, .int (nI s)), (2, .int v)] 0 []
  refine z_aload_n hx 0 d_Mo_entry_0 rfl ?_
  refine z_iload_n hx 1 d_Mo_entry_1 rfl ?_
  refine z_cS hx (c_Mo_isStratum_yes hs) ⟨a4_119, a4_121, a1_6, ⟨by decide +kernel, by decide +kernel⟩, fun sig h => by cases h; rfl⟩ a4_120 rfl rfl d_Mo_entry_2 (by rw [hrm]; exact ⟨Nat.le_of_ble_eq_true rfl, Nat.le_of_ble_eq_true rfl, Nat.le_of_ble_eq_true rfl, Nat.le_of_ble_eq_true rfl⟩) ?_
  show zV x ad (Lay K ad S) _ _ _ 5 [.int 1, .ref (ad 13)]
  refine z_if_ne (tgt := 12) hx d_Mo_entry_5 (by decide) (fun _ => ?_) (fun h => absurd h (by decide))
  refine z_iconst (v := 0) hx d_Mo_entry_12 rfl ?_
  refine z_iconst (v := 0) hx d_Mo_entry_13 rfl ?_
  refine z_iconst (v := 0) hx d_Mo_entry_14 rfl ?_
  refine z_cV hx (c_Mo_refused_0) k_Mo rfl ⟨a4_81, a4_84, a1_6, ⟨by decide +kernel, by decide +kernel⟩, fun sig h => by cases h; rfl⟩ a4_83 s_Mo_refused rfl rfl d_Mo_entry_15 (by rw [hrm]; exact ⟨Nat.le_of_ble_eq_true rfl, Nat.le_of_ble_eq_true rfl, Nat.le_of_ble_eq_true rfl, Nat.le_of_ble_eq_true rfl⟩) ?_
  show zV x ad (Lay K ad (stM S 13 0 0)) _ _ _ 18 [.int 0]
  refine z_if_ne (tgt := 32) hx d_Mo_entry_18 (by decide) (fun h => absurd (by decide) h) (fun _ => ?_)
  refine z_aload_n hx 0 d_Mo_entry_21 rfl ?_
  refine z_get hx k_Mo (t := 13) rfl 4 (by decide) a3_227 rfl d_Mo_entry_22 ?_
  refine z_top (b := S.2.2 13 4) (rd_j (by decide)) ?_
  refine z_if_eq (tgt := 32) hx d_Mo_entry_25 (by decide) (fun _ => ?_) (fun h => absurd ho7 h)
  refine z_aload_n hx 0 d_Mo_entry_32 rfl ?_
  refine z_get hx k_Mo (t := 13) rfl 0 (by decide) a3_223 rfl d_Mo_entry_33 ?_
  refine z_top (b := 0) (rd_s) ?_
  refine z_if_le (tgt := 43) hx d_Mo_entry_36 (by decide) (fun _ => ?_) (fun h => absurd (by decide) h)
  refine z_iconst (v := (-1)) hx d_Mo_entry_43 rfl ?_
  exact z_iret hx hr rfl hq (Nat.le_refl _) (Nat.le_refl _) d_Mo_entry_44 ⟨rfl, rfl, rfl⟩
set_option maxRecDepth 20000 in
theorem c_Mo_entry_neg {l : Launch} {D : va_G} {K : Nat → ClassId} {ad : Nat → Nat} {S : zSt} {s : Nat} (hs : s < 8) {v : Int32} (ho7 : ¬ S.2.2 13 4 = 0) (hv : v < 0) : zC l TB D zcls (ztyl K) y_Mo_entry (.code y_Mo_entry b_Mo_entry 5 (some FieldType.int)) (rmk 2 42) [.ref (ad 13), .int (nI s), .int v] ad (Lay K ad S) (zP K ad (some (.int (-1))) (mS S)) := by
  refine zC.of (by decide +kernel) (Nat.le_of_ble_eq_true rfl) ?_
  intro x hx hr hml hnm hrm hq hNH
  show zV x ad (Lay K ad S) 0 0 [(0, .ref (ad 13)), (1, .int (nI s)), (2, .int v)] 0 []
  refine z_aload_n hx 0 d_Mo_entry_0 rfl ?_
  refine z_iload_n hx 1 d_Mo_entry_1 rfl ?_
  refine z_cS hx (c_Mo_isStratum_yes hs) ⟨a4_119, a4_121, a1_6, ⟨by decide +kernel, by decide +kernel⟩, fun sig h => by cases h; rfl⟩ a4_120 rfl rfl d_Mo_entry_2 (by rw [hrm]; exact ⟨Nat.le_of_ble_eq_true rfl, Nat.le_of_ble_eq_true rfl, Nat.le_of_ble_eq_true rfl, Nat.le_of_ble_eq_true rfl⟩) ?_
  show zV x ad (Lay K ad S) _ _ _ 5 [.int 1, .ref (ad 13)]
  refine z_if_ne (tgt := 12) hx d_Mo_entry_5 (by decide) (fun _ => ?_) (fun h => absurd h (by decide))
  refine z_iconst (v := 0) hx d_Mo_entry_12 rfl ?_
  refine z_iconst (v := 0) hx d_Mo_entry_13 rfl ?_
  refine z_iconst (v := 0) hx d_Mo_entry_14 rfl ?_
  refine z_cV hx (c_Mo_refused_0) k_Mo rfl ⟨a4_81, a4_84, a1_6, ⟨by decide +kernel, by decide +kernel⟩, fun sig h => by cases h; rfl⟩ a4_83 s_Mo_refused rfl rfl d_Mo_entry_15 (by rw [hrm]; exact ⟨Nat.le_of_ble_eq_true rfl, Nat.le_of_ble_eq_true rfl, Nat.le_of_ble_eq_true rfl, Nat.le_of_ble_eq_true rfl⟩) ?_
  show zV x ad (Lay K ad (stM S 13 0 0)) _ _ _ 18 [.int 0]
  refine z_if_ne (tgt := 32) hx d_Mo_entry_18 (by decide) (fun h => absurd (by decide) h) (fun _ => ?_)
  refine z_aload_n hx 0 d_Mo_entry_21 rfl ?_
  refine z_get hx k_Mo (t := 13) rfl 4 (by decide) a3_227 rfl d_Mo_entry_22 ?_
  refine z_top (b := S.2.2 13 4) (rd_j (by decide)) ?_
  refine z_if_eq (tgt := 32) hx d_Mo_entry_25 (by decide) (fun h => absurd h ho7) (fun _ => ?_)
  refine z_iload_n hx 2 d_Mo_entry_28 rfl ?_
  refine z_if_ge (tgt := 45) hx d_Mo_entry_29 (by decide) (fun h => absurd h (fun z => absurd hv (Int32.not_lt.mpr z))) (fun _ => ?_)
  refine z_aload_n hx 0 d_Mo_entry_32 rfl ?_
  refine z_get hx k_Mo (t := 13) rfl 0 (by decide) a3_223 rfl d_Mo_entry_33 ?_
  refine z_top (b := 0) (rd_s) ?_
  refine z_if_le (tgt := 43) hx d_Mo_entry_36 (by decide) (fun _ => ?_) (fun h => absurd (by decide) h)
  refine z_iconst (v := (-1)) hx d_Mo_entry_43 rfl ?_
  exact z_iret hx hr rfl hq (Nat.le_refl _) (Nat.le_refl _) d_Mo_entry_44 ⟨rfl, rfl, rfl⟩
set_option maxRecDepth 20000 in
theorem c_Mo_entry {l : Launch} {D : va_G} {K : Nat → ClassId} {ad : Nat → Nat} {S : zSt} {s T Z q : Nat} (hs : s < 8) (ho7 : ¬ S.2.2 13 4 = 0) (hT : S.2.2 13 9 = nI T) (hT2 : T ≤ 4200) (hZ : S.2.2 13 6 = nI Z) (hZ2 : Z ≤ 24) (hq0 : q < 2 ^ 31) : zC l TB D zcls (ztyl K) y_Mo_entry (.code y_Mo_entry b_Mo_entry 5 (some FieldType.int)) (rmk 2 42) [.ref (ad 13), .int (nI s), .int (nI q)] ad (Lay K ad S) (zP K ad (some (.int (eM S s Z T 0 q))) (mS S)) := by
  refine zC.of (by decide +kernel) (Nat.le_of_ble_eq_true rfl) ?_
  intro x hx hr hml hnm hrm hq hNH
  have L : ∀ (m_L b : Nat) (r : Nat), b + m_L = T → r < 2 ^ 31 ∧ eM S s Z m_L b r = eM S s Z T 0 q → zV x ad (Lay K ad (stM S 13 0 0)) 0 0 [(4, .int (nI b)), (3, .int (nI r)), (0, .ref (ad 13)), (1, .int (nI s))] 50 [] := by
    intro m_L
    induction m_L with
    | zero =>
      intro b r he_L hV
      have e_L : b = T := by omega
      refine z_iload hx 0 d_Mo_entry_50 rfl ?_
      refine z_aload_n hx 2 d_Mo_entry_52 rfl ?_
      refine z_get hx k_Mo (t := 13) rfl 9 (by decide) a3_232 rfl d_Mo_entry_53 ?_
      refine z_top (b := S.2.2 13 9) (rd_j (by decide)) ?_
      refine z_top (b := nI T) hT ?_
      refine z_icmp_ge (tgt := 104) hx d_Mo_entry_56 (by decide) (fun _ => ?_) (fun h => absurd (nI_le (by omega) (by omega)) h)
      refine z_iconst (v := (-1)) hx d_Mo_entry_104 rfl ?_
      have e9 : eM S s Z T 0 q = (-1) := by rw [← hV.2]; rfl
      exact z_iret hx hr rfl hq (Nat.le_refl _) (Nat.le_refl _) d_Mo_entry_105 ⟨by rw [e9], rfl, rfl⟩
    | succ m_L ih_L =>
      intro b r he_L hV
      have l_L : b < T := by omega
      have hr31 := hV.1
      refine z_iload hx 0 d_Mo_entry_50 rfl ?_
      refine z_aload_n hx 2 d_Mo_entry_52 rfl ?_
      refine z_get hx k_Mo (t := 13) rfl 9 (by decide) a3_232 rfl d_Mo_entry_53 ?_
      refine z_top (b := S.2.2 13 9) (rd_j (by decide)) ?_
      refine z_top (b := nI T) hT ?_
      refine z_icmp_ge (tgt := 104) hx d_Mo_entry_56 (by decide) (fun h => absurd h (nI_ge (by omega) (by omega))) (fun _ => ?_)
      refine z_aload_n hx 2 d_Mo_entry_59 rfl ?_
      refine z_get hx k_Mo (t := 13) rfl 10 (by decide) a3_233 rfl d_Mo_entry_60 ?_
      refine z_iload hx 0 d_Mo_entry_63 rfl ?_
      refine z_ialdK hx 0 rfl (t := 15) rfl (k := b) (by omega) (by first | decide | omega) d_Mo_entry_65 ?_
      refine z_top (b := S.2.2 15 b) (rd_n (by decide)) ?_
      refine z_iload_n hx 3 d_Mo_entry_66 rfl ?_
      refine z_icmp_ne (tgt := 98) hx d_Mo_entry_67 (by decide) (fun h1 => ?_) (fun h1 => ?_)
      · refine z_iinc (v := nI (b + 1)) hx 0 [(4, .int (nI (b + 1))), (3, .int (nI r)), (0, .ref (ad 13)), (1, .int (nI s))] d_Mo_entry_98 rfl (nI_1 _) (zN hml (by decide)) rfl ?_
        refine z_goto (tgt := 50) hx d_Mo_entry_101 (by decide) ?_
        exact z_lv [0, 1, 2, 3] _ rfl (ih_L (b + 1) r (by omega) ⟨hV.1, by rw [← hV.2, eM, if_neg h1]⟩)
      · refine z_iload_n hx 1 d_Mo_entry_70 rfl ?_
        refine z_aload_n hx 2 d_Mo_entry_71 rfl ?_
        refine z_get hx k_Mo (t := 13) rfl 6 (by decide) a3_229 rfl d_Mo_entry_72 ?_
        refine z_top (b := S.2.2 13 6) (rd_j (by decide)) ?_
        refine z_top (b := nI Z) hZ ?_
        refine z_icmp_ge (tgt := 91) hx d_Mo_entry_75 (by decide) (fun h2 => ?_) (fun h2 => ?_)
        · refine z_iload_n hx 1 d_Mo_entry_91 rfl ?_
          refine z_aload_n hx 2 d_Mo_entry_92 rfl ?_
          refine z_get hx k_Mo (t := 13) rfl 6 (by decide) a3_229 rfl d_Mo_entry_93 ?_
          refine z_top (b := S.2.2 13 6) (rd_j (by decide)) ?_
          refine z_top (b := nI Z) hZ ?_
          refine z_isub hx d_Mo_entry_96 ?_
          refine z_top (b := nI (r - Z)) (pk_sub (zle_nI h2 (by omega) hV.1)) ?_
          refine z_istore_n hx [(3, .int (nI (r - Z))), (4, .int (nI b)), (0, .ref (ad 13)), (1, .int (nI s))] d_Mo_entry_97 rfl (zN hml (by decide)) rfl ?_
          refine z_iinc (v := nI (b + 1)) hx 1 [(4, .int (nI (b + 1))), (3, .int (nI (r - Z))), (0, .ref (ad 13)), (1, .int (nI s))] d_Mo_entry_98 rfl (nI_1 _) (zN hml (by decide)) rfl ?_
          refine z_goto (tgt := 50) hx d_Mo_entry_101 (by decide) ?_
          have g1 := zle_nI h2 (by omega) hV.1
          exact z_lv [0, 1, 2, 3] _ rfl (ih_L (b + 1) (r - Z) (by omega) ⟨by omega, by rw [← hV.2, eM, if_pos h1, if_neg (by omega)]⟩)
        · refine z_aload_n hx 2 d_Mo_entry_78 rfl ?_
          refine z_get hx k_Mo (t := 13) rfl 11 (by decide) a3_234 rfl d_Mo_entry_79 ?_
          refine z_bipush (v := 24) hx d_Mo_entry_82 rfl ?_
          refine z_iload hx 0 d_Mo_entry_84 rfl ?_
          refine z_imul hx d_Mo_entry_86 ?_
          refine z_top (b := nI (24 * b)) (pk_mul 24 b) ?_
          refine z_iload_n hx 1 d_Mo_entry_87 rfl ?_
          refine z_iadd hx d_Mo_entry_88 ?_
          refine z_top (b := nI (24 * b + r)) (nI_add _ _) ?_
          refine z_baldK hx 2 rfl (t := 16) rfl (k := (24 * b + r)) (by have := zlt_nI h2 hV.1 (by omega); omega) (by first | decide | omega) d_Mo_entry_89 ?_
          refine z_top (b := S.2.2 16 (24 * b + r)) (rd_n (by decide)) ?_
          have e9 : eM S s Z T 0 q = S.2.2 16 (24 * b + r) := by rw [← hV.2]; rw [eM, if_pos h1, if_pos (zlt_nI h2 hV.1 (by omega))]
          exact z_iret hx hr rfl hq (Nat.le_refl _) (Nat.le_refl _) d_Mo_entry_90 ⟨by rw [e9], rfl, rfl⟩
  show zV x ad (Lay K ad S) 0 0 [(0, .ref (ad 13)), (1, .int (nI s)), (2, .int (nI q))] 0 []
  refine z_aload_n hx 0 d_Mo_entry_0 rfl ?_
  refine z_iload_n hx 1 d_Mo_entry_1 rfl ?_
  refine z_cS hx (c_Mo_isStratum_yes hs) ⟨a4_119, a4_121, a1_6, ⟨by decide +kernel, by decide +kernel⟩, fun sig h => by cases h; rfl⟩ a4_120 rfl rfl d_Mo_entry_2 (by rw [hrm]; exact ⟨Nat.le_of_ble_eq_true rfl, Nat.le_of_ble_eq_true rfl, Nat.le_of_ble_eq_true rfl, Nat.le_of_ble_eq_true rfl⟩) ?_
  show zV x ad (Lay K ad S) _ _ _ 5 [.int 1, .ref (ad 13)]
  refine z_if_ne (tgt := 12) hx d_Mo_entry_5 (by decide) (fun _ => ?_) (fun h => absurd h (by decide))
  refine z_iconst (v := 0) hx d_Mo_entry_12 rfl ?_
  refine z_iconst (v := 0) hx d_Mo_entry_13 rfl ?_
  refine z_iconst (v := 0) hx d_Mo_entry_14 rfl ?_
  refine z_cV hx (c_Mo_refused_0) k_Mo rfl ⟨a4_81, a4_84, a1_6, ⟨by decide +kernel, by decide +kernel⟩, fun sig h => by cases h; rfl⟩ a4_83 s_Mo_refused rfl rfl d_Mo_entry_15 (by rw [hrm]; exact ⟨Nat.le_of_ble_eq_true rfl, Nat.le_of_ble_eq_true rfl, Nat.le_of_ble_eq_true rfl, Nat.le_of_ble_eq_true rfl⟩) ?_
  show zV x ad (Lay K ad (stM S 13 0 0)) _ _ _ 18 [.int 0]
  refine z_if_ne (tgt := 32) hx d_Mo_entry_18 (by decide) (fun h => absurd (by decide) h) (fun _ => ?_)
  refine z_aload_n hx 0 d_Mo_entry_21 rfl ?_
  refine z_get hx k_Mo (t := 13) rfl 4 (by decide) a3_227 rfl d_Mo_entry_22 ?_
  refine z_top (b := S.2.2 13 4) (rd_j (by decide)) ?_
  refine z_if_eq (tgt := 32) hx d_Mo_entry_25 (by decide) (fun h => absurd h ho7) (fun _ => ?_)
  refine z_iload_n hx 2 d_Mo_entry_28 rfl ?_
  refine z_if_ge (tgt := 45) hx d_Mo_entry_29 (by decide) (fun _ => ?_) (fun h => absurd (Int32.not_lt.mp (nI_pos hq0)) h)
  refine z_iload_n hx 2 d_Mo_entry_45 rfl ?_
  refine z_istore_n hx [(3, .int (nI q)), (0, .ref (ad 13)), (1, .int (nI s)), (2, .int (nI q))] d_Mo_entry_46 rfl (zN hml (by decide)) rfl ?_
  refine z_iconst (v := 0) hx d_Mo_entry_47 rfl ?_
  refine z_top (b := nI 0) rfl ?_
  refine z_istore hx [(4, .int (nI 0)), (3, .int (nI q)), (0, .ref (ad 13)), (1, .int (nI s)), (2, .int (nI q))] d_Mo_entry_48 (zN hml (by decide)) rfl ?_
  exact z_lv [0, 1, 2, 3] _ rfl (L T 0 q (by omega) ⟨hq0, rfl⟩)
set_option maxRecDepth 20000 in
theorem c_Mo_used_shut {l : Launch} {D : va_G} {K : Nat → ClassId} {ad : Nat → Nat} {S : zSt} {k : Nat} (hk : k < 1000) (ho7 : S.2.2 13 4 = 0) : zC l TB D zcls (ztyl K) y_Mo_used (.code y_Mo_used b_Mo_used 3 (some FieldType.int)) (rmk 1 23) [.ref (ad 13), .int (nI k)] ad (Lay K ad S) (zP K ad (some (.int (-1))) (mS S)) := by
  refine zC.of (by decide +kernel) (Nat.le_of_ble_eq_true rfl) ?_
  intro x hx hr hml hnm hrm hq hNH
  show zV x ad (Lay K ad S) 0 0 [(0, .ref (ad 13)), (1, .int (nI k))] 0 []
  refine z_aload_n hx 0 d_Mo_used_0 rfl ?_
  refine z_iload_n hx 1 d_Mo_used_1 rfl ?_
  refine z_iconst (v := 0) hx d_Mo_used_2 rfl ?_
  refine z_sipush (v := 999) hx d_Mo_used_3 rfl ?_
  refine z_cS hx (c_Mo_within) ⟨a4_78, a4_80, a1_6, ⟨by decide +kernel, by decide +kernel⟩, fun sig h => by cases h; rfl⟩ a4_79 rfl rfl d_Mo_used_6 (by rw [hrm]; exact ⟨Nat.le_of_ble_eq_true rfl, Nat.le_of_ble_eq_true rfl, Nat.le_of_ble_eq_true rfl, Nat.le_of_ble_eq_true rfl⟩) ?_
  show zV x ad (Lay K ad S) _ _ _ 9 [.int (wiF (nI k) 0 999), .ref (ad 13)]
  refine z_top (b := 1) (wi_nI 1000 (by decide) (by decide) (by omega)) ?_
  refine z_if_ne (tgt := 16) hx d_Mo_used_9 (by decide) (fun _ => ?_) (fun h => absurd h (by decide))
  refine z_iconst (v := 0) hx d_Mo_used_16 rfl ?_
  refine z_iconst (v := 0) hx d_Mo_used_17 rfl ?_
  refine z_iconst (v := 0) hx d_Mo_used_18 rfl ?_
  refine z_cV hx (c_Mo_refused_0) k_Mo rfl ⟨a4_81, a4_84, a1_6, ⟨by decide +kernel, by decide +kernel⟩, fun sig h => by cases h; rfl⟩ a4_83 s_Mo_refused rfl rfl d_Mo_used_19 (by rw [hrm]; exact ⟨Nat.le_of_ble_eq_true rfl, Nat.le_of_ble_eq_true rfl, Nat.le_of_ble_eq_true rfl, Nat.le_of_ble_eq_true rfl⟩) ?_
  show zV x ad (Lay K ad (stM S 13 0 0)) _ _ _ 22 [.int 0]
  refine z_if_ne (tgt := 32) hx d_Mo_used_22 (by decide) (fun h => absurd (by decide) h) (fun _ => ?_)
  refine z_aload_n hx 0 d_Mo_used_25 rfl ?_
  refine z_get hx k_Mo (t := 13) rfl 4 (by decide) a3_227 rfl d_Mo_used_26 ?_
  refine z_top (b := S.2.2 13 4) (rd_j (by decide)) ?_
  refine z_if_ne (tgt := 45) hx d_Mo_used_29 (by decide) (fun h => absurd ho7 h) (fun _ => ?_)
  refine z_aload_n hx 0 d_Mo_used_32 rfl ?_
  refine z_get hx k_Mo (t := 13) rfl 0 (by decide) a3_223 rfl d_Mo_used_33 ?_
  refine z_top (b := 0) (rd_s) ?_
  refine z_if_le (tgt := 43) hx d_Mo_used_36 (by decide) (fun _ => ?_) (fun h => absurd (by decide) h)
  refine z_iconst (v := (-1)) hx d_Mo_used_43 rfl ?_
  exact z_iret hx hr rfl hq (Nat.le_refl _) (Nat.le_refl _) d_Mo_used_44 ⟨rfl, rfl, rfl⟩
set_option maxRecDepth 20000 in
theorem c_Mo_used {l : Launch} {D : va_G} {K : Nat → ClassId} {ad : Nat → Nat} {S : zSt} {k : Nat} (hk : k < 1000) (ho7 : ¬ S.2.2 13 4 = 0) : zC l TB D zcls (ztyl K) y_Mo_used (.code y_Mo_used b_Mo_used 3 (some FieldType.int)) (rmk 1 23) [.ref (ad 13), .int (nI k)] ad (Lay K ad S) (zP K ad (some (.int (if nxt (fun q => decide (¬ S.2.2 25 q ≤ 0 ∧ S.2.2 28 q = nI k)) 1000 0 = 1000 then -1 else nI (nxt (fun q => decide (¬ S.2.2 25 q ≤ 0 ∧ S.2.2 28 q = nI k)) 1000 0)))) (mS S)) := by
  refine zC.of (by decide +kernel) (Nat.le_of_ble_eq_true rfl) ?_
  intro x hx hr hml hnm hrm hq hNH
  have L : ∀ (m_L p : Nat), p + m_L = 1000 → nxt (fun q => decide (¬ S.2.2 25 q ≤ 0 ∧ S.2.2 28 q = nI k)) m_L p = nxt (fun q => decide (¬ S.2.2 25 q ≤ 0 ∧ S.2.2 28 q = nI k)) 1000 0 → zV x ad (Lay K ad (stM S 13 0 0)) 0 0 [(2, .int (nI p)), (0, .ref (ad 13)), (1, .int (nI k))] 47 [] := by
    intro m_L
    induction m_L with
    | zero =>
      intro p he_L hV
      have e_L : p = 1000 := by omega
      refine z_iload_n hx 0 d_Mo_used_47 rfl ?_
      refine z_sipush (v := 1000) hx d_Mo_used_48 rfl ?_
      refine z_icmp_ge (tgt := 81) hx d_Mo_used_51 (by decide) (fun _ => ?_) (fun h => absurd (nI_leL 1000 rfl e_L (by decide)) h)
      refine z_iconst (v := (-1)) hx d_Mo_used_81 rfl ?_
      exact z_iret hx hr rfl hq (Nat.le_refl _) (Nat.le_refl _) d_Mo_used_82 ⟨by rw [if_pos (by rw [← hV]; rfl)], rfl, rfl⟩
    | succ m_L ih_L =>
      intro p he_L hV
      have l_L : p < 1000 := by omega
      refine z_iload_n hx 0 d_Mo_used_47 rfl ?_
      refine z_sipush (v := 1000) hx d_Mo_used_48 rfl ?_
      refine z_icmp_ge (tgt := 81) hx d_Mo_used_51 (by decide) (fun h => absurd h (nI_nleL 1000 rfl l_L (by decide))) (fun _ => ?_)
      refine z_aload_n hx 1 d_Mo_used_54 rfl ?_
      refine z_get hx k_Mo (t := 13) rfl 20 (by decide) a4_3 rfl d_Mo_used_55 ?_
      refine z_iload_n hx 0 d_Mo_used_58 rfl ?_
      refine z_ialdK hx 0 rfl (t := 25) rfl (k := p) (by omega) (by first | decide | omega) d_Mo_used_59 ?_
      refine z_top (b := S.2.2 25 p) (rd_n (by decide)) ?_
      refine z_if_le (tgt := 75) hx d_Mo_used_60 (by decide) (fun h1 => ?_) (fun h1 => ?_)
      · refine z_iinc (v := nI (p + 1)) hx 0 [(2, .int (nI (p + 1))), (0, .ref (ad 13)), (1, .int (nI k))] d_Mo_used_75 rfl (nI_1 _) (zN hml (by decide)) rfl ?_
        refine z_goto (tgt := 47) hx d_Mo_used_78 (by decide) ?_
        exact z_lv [0, 1, 2] _ rfl (ih_L (p + 1) (by omega) (by rw [← hV, nxt, if_neg (by simp [h1])]))
      · refine z_aload_n hx 1 d_Mo_used_63 rfl ?_
        refine z_get hx k_Mo (t := 13) rfl 23 (by decide) a4_6 rfl d_Mo_used_64 ?_
        refine z_iload_n hx 0 d_Mo_used_67 rfl ?_
        refine z_ialdK hx 0 rfl (t := 28) rfl (k := p) (by omega) (by first | decide | omega) d_Mo_used_68 ?_
        refine z_top (b := S.2.2 28 p) (rd_n (by decide)) ?_
        refine z_iload_n hx 2 d_Mo_used_69 rfl ?_
        refine z_icmp_ne (tgt := 75) hx d_Mo_used_70 (by decide) (fun h2 => ?_) (fun h2 => ?_)
        · refine z_iinc (v := nI (p + 1)) hx 0 [(2, .int (nI (p + 1))), (0, .ref (ad 13)), (1, .int (nI k))] d_Mo_used_75 rfl (nI_1 _) (zN hml (by decide)) rfl ?_
          refine z_goto (tgt := 47) hx d_Mo_used_78 (by decide) ?_
          exact z_lv [0, 1, 2] _ rfl (ih_L (p + 1) (by omega) (by rw [← hV, nxt, if_neg (by simp [h1, h2])]))
        · refine z_iload_n hx 0 d_Mo_used_73 rfl ?_
          have e9 : nxt (fun q => decide (¬ S.2.2 25 q ≤ 0 ∧ S.2.2 28 q = nI k)) 1000 0 = p := by rw [← hV, nxt, if_pos (by simp [h1, h2])]
          exact z_iret hx hr rfl hq (Nat.le_refl _) (Nat.le_refl _) d_Mo_used_74 ⟨by rw [if_neg (by rw [e9]; omega), e9], rfl, rfl⟩
  show zV x ad (Lay K ad S) 0 0 [(0, .ref (ad 13)), (1, .int (nI k))] 0 []
  refine z_aload_n hx 0 d_Mo_used_0 rfl ?_
  refine z_iload_n hx 1 d_Mo_used_1 rfl ?_
  refine z_iconst (v := 0) hx d_Mo_used_2 rfl ?_
  refine z_sipush (v := 999) hx d_Mo_used_3 rfl ?_
  refine z_cS hx (c_Mo_within) ⟨a4_78, a4_80, a1_6, ⟨by decide +kernel, by decide +kernel⟩, fun sig h => by cases h; rfl⟩ a4_79 rfl rfl d_Mo_used_6 (by rw [hrm]; exact ⟨Nat.le_of_ble_eq_true rfl, Nat.le_of_ble_eq_true rfl, Nat.le_of_ble_eq_true rfl, Nat.le_of_ble_eq_true rfl⟩) ?_
  show zV x ad (Lay K ad S) _ _ _ 9 [.int (wiF (nI k) 0 999), .ref (ad 13)]
  refine z_top (b := 1) (wi_nI 1000 (by decide) (by decide) (by omega)) ?_
  refine z_if_ne (tgt := 16) hx d_Mo_used_9 (by decide) (fun _ => ?_) (fun h => absurd h (by decide))
  refine z_iconst (v := 0) hx d_Mo_used_16 rfl ?_
  refine z_iconst (v := 0) hx d_Mo_used_17 rfl ?_
  refine z_iconst (v := 0) hx d_Mo_used_18 rfl ?_
  refine z_cV hx (c_Mo_refused_0) k_Mo rfl ⟨a4_81, a4_84, a1_6, ⟨by decide +kernel, by decide +kernel⟩, fun sig h => by cases h; rfl⟩ a4_83 s_Mo_refused rfl rfl d_Mo_used_19 (by rw [hrm]; exact ⟨Nat.le_of_ble_eq_true rfl, Nat.le_of_ble_eq_true rfl, Nat.le_of_ble_eq_true rfl, Nat.le_of_ble_eq_true rfl⟩) ?_
  show zV x ad (Lay K ad (stM S 13 0 0)) _ _ _ 22 [.int 0]
  refine z_if_ne (tgt := 32) hx d_Mo_used_22 (by decide) (fun h => absurd (by decide) h) (fun _ => ?_)
  refine z_aload_n hx 0 d_Mo_used_25 rfl ?_
  refine z_get hx k_Mo (t := 13) rfl 4 (by decide) a3_227 rfl d_Mo_used_26 ?_
  refine z_top (b := S.2.2 13 4) (rd_j (by decide)) ?_
  refine z_if_ne (tgt := 45) hx d_Mo_used_29 (by decide) (fun _ => ?_) (fun h => absurd h ho7)
  refine z_iconst (v := 0) hx d_Mo_used_45 rfl ?_
  refine z_top (b := nI 0) rfl ?_
  refine z_istore_n hx [(2, .int (nI 0)), (0, .ref (ad 13)), (1, .int (nI k))] d_Mo_used_46 rfl (zN hml (by decide)) rfl ?_
  exact z_lv [0, 1, 2] _ rfl (L 1000 0 (by omega) rfl)
set_option maxRecDepth 20000 in
theorem c_Mo_stock {l : Launch} {D : va_G} {K : Nat → ClassId} {ad : Nat → Nat} {S : zSt} {i : Nat} (hi : i < 10) (ho : ¬ S.2.2 21 i ≤ 0) {w : Nat} (hw : w < 3) : zC l TB D zcls (ztyl K) y_Mo_stock (.code y_Mo_stock b_Mo_stock 5 (some FieldType.int)) (rmk 2 43) [.ref (ad 13), .int (nI i), .int (nI w)] ad (Lay K ad S) (zP K ad (some (.int (nI (cntI (fun q => decide (S.2.2 22 q = nI i ∧ S.2.2 24 q = nI w)) 1000)))) (mS S)) := by
  refine zC.of (by decide +kernel) (Nat.le_of_ble_eq_true rfl) ?_
  intro x hx hr hml hnm hrm hq hNH
  have L : ∀ (m_L k : Nat), k + m_L = 1000 → zV x ad (Lay K ad (stM S 13 0 0)) 0 0 [(4, .int (nI k)), (3, .int (nI (cntI (fun q => decide (S.2.2 22 q = nI i ∧ S.2.2 24 q = nI w)) k))), (0, .ref (ad 13)), (1, .int (nI i)), (2, .int (nI w))] 42 [] := by
    intro m_L
    induction m_L with
    | zero =>
      intro k he_L
      have e_L : k = 1000 := by omega
      refine z_iload hx 0 d_Mo_stock_42 rfl ?_
      refine z_sipush (v := 1000) hx d_Mo_stock_44 rfl ?_
      refine z_icmp_ge (tgt := 86) hx d_Mo_stock_47 (by decide) (fun _ => ?_) (fun h => absurd (nI_leL 1000 rfl e_L (by decide)) h)
      refine z_iload_n hx 1 d_Mo_stock_86 rfl ?_
      subst e_L
      exact z_iret hx hr rfl hq (Nat.le_refl _) (Nat.le_refl _) d_Mo_stock_87 ⟨rfl, rfl, rfl⟩
    | succ m_L ih_L =>
      intro k he_L
      have l_L : k < 1000 := by omega
      refine z_iload hx 0 d_Mo_stock_42 rfl ?_
      refine z_sipush (v := 1000) hx d_Mo_stock_44 rfl ?_
      refine z_icmp_ge (tgt := 86) hx d_Mo_stock_47 (by decide) (fun h => absurd h (nI_nleL 1000 rfl l_L (by decide))) (fun _ => ?_)
      refine z_aload_n hx 2 d_Mo_stock_50 rfl ?_
      refine z_get hx k_Mo (t := 13) rfl 17 (by decide) a4_0 rfl d_Mo_stock_51 ?_
      refine z_iload hx 0 d_Mo_stock_54 rfl ?_
      refine z_ialdK hx 0 rfl (t := 22) rfl (k := k) (by omega) (by first | decide | omega) d_Mo_stock_56 ?_
      refine z_top (b := S.2.2 22 k) (rd_n (by decide)) ?_
      refine z_iload_n hx 3 d_Mo_stock_57 rfl ?_
      refine z_icmp_ne (tgt := 78) hx d_Mo_stock_58 (by decide) (fun h1 => ?_) (fun h1 => ?_)
      · refine z_iload_n hx 1 d_Mo_stock_78 rfl ?_
        refine z_istore_n hx [(3, .int (nI (cntI (fun q => decide (S.2.2 22 q = nI i ∧ S.2.2 24 q = nI w)) k))), (4, .int (nI k)), (0, .ref (ad 13)), (1, .int (nI i)), (2, .int (nI w))] d_Mo_stock_79 rfl (zN hml (by decide)) rfl ?_
        refine z_iinc (v := nI (k + 1)) hx 1 [(4, .int (nI (k + 1))), (3, .int (nI (cntI (fun q => decide (S.2.2 22 q = nI i ∧ S.2.2 24 q = nI w)) k))), (0, .ref (ad 13)), (1, .int (nI i)), (2, .int (nI w))] d_Mo_stock_80 rfl (nI_1 k) (zN hml (by decide)) rfl ?_
        refine z_goto (tgt := 42) hx d_Mo_stock_83 (by decide) ?_
        have q9 := ih_L (k + 1) (by omega)
        rw [show cntI (fun q => decide (S.2.2 22 q = nI i ∧ S.2.2 24 q = nI w)) (k + 1) = cntI (fun q => decide (S.2.2 22 q = nI i ∧ S.2.2 24 q = nI w)) k from by rw [cntI]; simp [h1]] at q9
        exact z_lv [0, 1, 2, 3, 4] _ rfl q9
      · refine z_aload_n hx 2 d_Mo_stock_61 rfl ?_
        refine z_get hx k_Mo (t := 13) rfl 19 (by decide) a4_2 rfl d_Mo_stock_62 ?_
        refine z_iload hx 0 d_Mo_stock_65 rfl ?_
        refine z_ialdK hx 0 rfl (t := 24) rfl (k := k) (by omega) (by first | decide | omega) d_Mo_stock_67 ?_
        refine z_top (b := S.2.2 24 k) (rd_n (by decide)) ?_
        refine z_iload_n hx 4 d_Mo_stock_68 rfl ?_
        refine z_icmp_ne (tgt := 78) hx d_Mo_stock_69 (by decide) (fun h2 => ?_) (fun h2 => ?_)
        · refine z_iload_n hx 1 d_Mo_stock_78 rfl ?_
          refine z_istore_n hx [(3, .int (nI (cntI (fun q => decide (S.2.2 22 q = nI i ∧ S.2.2 24 q = nI w)) k))), (4, .int (nI k)), (0, .ref (ad 13)), (1, .int (nI i)), (2, .int (nI w))] d_Mo_stock_79 rfl (zN hml (by decide)) rfl ?_
          refine z_iinc (v := nI (k + 1)) hx 1 [(4, .int (nI (k + 1))), (3, .int (nI (cntI (fun q => decide (S.2.2 22 q = nI i ∧ S.2.2 24 q = nI w)) k))), (0, .ref (ad 13)), (1, .int (nI i)), (2, .int (nI w))] d_Mo_stock_80 rfl (nI_1 k) (zN hml (by decide)) rfl ?_
          refine z_goto (tgt := 42) hx d_Mo_stock_83 (by decide) ?_
          have q9 := ih_L (k + 1) (by omega)
          rw [show cntI (fun q => decide (S.2.2 22 q = nI i ∧ S.2.2 24 q = nI w)) (k + 1) = cntI (fun q => decide (S.2.2 22 q = nI i ∧ S.2.2 24 q = nI w)) k from by rw [cntI]; simp [h1, h2]] at q9
          exact z_lv [0, 1, 2, 3, 4] _ rfl q9
        · refine z_iload_n hx 1 d_Mo_stock_72 rfl ?_
          refine z_iconst (v := 1) hx d_Mo_stock_73 rfl ?_
          refine z_iadd hx d_Mo_stock_74 ?_
          refine z_top (b := nI (cntI (fun q => decide (S.2.2 22 q = nI i ∧ S.2.2 24 q = nI w)) k + 1)) (nI_1 _) ?_
          refine z_goto (tgt := 79) hx d_Mo_stock_75 (by decide) ?_
          refine z_istore_n hx [(3, .int (nI (cntI (fun q => decide (S.2.2 22 q = nI i ∧ S.2.2 24 q = nI w)) k + 1))), (4, .int (nI k)), (0, .ref (ad 13)), (1, .int (nI i)), (2, .int (nI w))] d_Mo_stock_79 rfl (zN hml (by decide)) rfl ?_
          refine z_iinc (v := nI (k + 1)) hx 1 [(4, .int (nI (k + 1))), (3, .int (nI (cntI (fun q => decide (S.2.2 22 q = nI i ∧ S.2.2 24 q = nI w)) k + 1))), (0, .ref (ad 13)), (1, .int (nI i)), (2, .int (nI w))] d_Mo_stock_80 rfl (nI_1 k) (zN hml (by decide)) rfl ?_
          refine z_goto (tgt := 42) hx d_Mo_stock_83 (by decide) ?_
          have q9 := ih_L (k + 1) (by omega)
          rw [show cntI (fun q => decide (S.2.2 22 q = nI i ∧ S.2.2 24 q = nI w)) (k + 1) = cntI (fun q => decide (S.2.2 22 q = nI i ∧ S.2.2 24 q = nI w)) k + 1 from by rw [cntI]; simp [h1, h2]] at q9
          exact z_lv [0, 1, 2, 3, 4] _ rfl q9
  show zV x ad (Lay K ad S) 0 0 [(0, .ref (ad 13)), (1, .int (nI i)), (2, .int (nI w))] 0 []
  refine z_aload_n hx 0 d_Mo_stock_0 rfl ?_
  refine z_aload_n hx 0 d_Mo_stock_1 rfl ?_
  refine z_iload_n hx 1 d_Mo_stock_2 rfl ?_
  refine z_cV hx (c_Mo_isSite_yes hi ho) k_Mo rfl ⟨a4_98, a4_101, a1_6, ⟨by decide +kernel, by decide +kernel⟩, fun sig h => by cases h; rfl⟩ a4_100 s_Mo_isSite rfl rfl d_Mo_stock_3 (by rw [hrm]; exact ⟨Nat.le_of_ble_eq_true rfl, Nat.le_of_ble_eq_true rfl, Nat.le_of_ble_eq_true rfl, Nat.le_of_ble_eq_true rfl⟩) ?_
  show zV x ad (Lay K ad S) _ _ _ 6 [.int 1, .ref (ad 13)]
  refine z_if_ne (tgt := 13) hx d_Mo_stock_6 (by decide) (fun _ => ?_) (fun h => absurd h (by decide))
  refine z_iconst (v := 0) hx d_Mo_stock_13 rfl ?_
  refine z_iload_n hx 2 d_Mo_stock_14 rfl ?_
  refine z_iconst (v := 0) hx d_Mo_stock_15 rfl ?_
  refine z_iconst (v := 2) hx d_Mo_stock_16 rfl ?_
  refine z_cS hx (c_Mo_within) ⟨a4_78, a4_80, a1_6, ⟨by decide +kernel, by decide +kernel⟩, fun sig h => by cases h; rfl⟩ a4_79 rfl rfl d_Mo_stock_17 (by rw [hrm]; exact ⟨Nat.le_of_ble_eq_true rfl, Nat.le_of_ble_eq_true rfl, Nat.le_of_ble_eq_true rfl, Nat.le_of_ble_eq_true rfl⟩) ?_
  show zV x ad (Lay K ad S) _ _ _ 20 [.int (wiF (nI w) 0 2), .int 0, .ref (ad 13)]
  refine z_top (b := 1) (wi_nI 3 (by decide) (by decide) (by omega)) ?_
  refine z_if_ne (tgt := 27) hx d_Mo_stock_20 (by decide) (fun _ => ?_) (fun h => absurd h (by decide))
  refine z_iconst (v := 0) hx d_Mo_stock_27 rfl ?_
  refine z_iconst (v := 0) hx d_Mo_stock_28 rfl ?_
  refine z_cV hx (c_Mo_refused_0) k_Mo rfl ⟨a4_81, a4_84, a1_6, ⟨by decide +kernel, by decide +kernel⟩, fun sig h => by cases h; rfl⟩ a4_83 s_Mo_refused rfl rfl d_Mo_stock_29 (by rw [hrm]; exact ⟨Nat.le_of_ble_eq_true rfl, Nat.le_of_ble_eq_true rfl, Nat.le_of_ble_eq_true rfl, Nat.le_of_ble_eq_true rfl⟩) ?_
  show zV x ad (Lay K ad (stM S 13 0 0)) _ _ _ 32 [.int 0]
  refine z_if_eq (tgt := 37) hx d_Mo_stock_32 (by decide) (fun _ => ?_) (fun h => absurd (by decide) h)
  refine z_iconst (v := 0) hx d_Mo_stock_37 rfl ?_
  refine z_top (b := nI (cntI (fun q => decide (S.2.2 22 q = nI i ∧ S.2.2 24 q = nI w)) 0)) rfl ?_
  refine z_istore_n hx [(3, .int (nI (cntI (fun q => decide (S.2.2 22 q = nI i ∧ S.2.2 24 q = nI w)) 0))), (0, .ref (ad 13)), (1, .int (nI i)), (2, .int (nI w))] d_Mo_stock_38 rfl (zN hml (by decide)) rfl ?_
  refine z_iconst (v := 0) hx d_Mo_stock_39 rfl ?_
  refine z_top (b := nI 0) rfl ?_
  refine z_istore hx [(4, .int (nI 0)), (3, .int (nI (cntI (fun q => decide (S.2.2 22 q = nI i ∧ S.2.2 24 q = nI w)) 0))), (0, .ref (ad 13)), (1, .int (nI i)), (2, .int (nI w))] d_Mo_stock_40 (zN hml (by decide)) rfl ?_
  exact z_lv [0, 1, 2, 3, 4] _ rfl (L 1000 0 (by omega))
def mArm (S : zSt) (q : Nat) : Int32 × zSt := if S.2.2 25 q = 1 then (if S.2.2 13 4 = 0 then (if ksF (S.2.2 29 q) 5 ≤ 1 then (-1, mS S) else (S.2.2 27 q, mS S)) else (S.2.2 27 q, mS S)) else (-1, mS S)
def mKey (S : zSt) (q h : Nat) : Int32 × zSt := if S.2.2 13 1 = 0 then (if S.2.2 13 2 = 0 then (ksF ((stM (mwO S) 29 q (S.2.2 29 q ||| 1 <<< (nI h &&& 31))).2.2 29 q) 5, stM (mwO S) 29 q (S.2.2 29 q ||| 1 <<< (nI h &&& 31))) else (-2, mwT S)) else (-2, mS S)
set_option maxRecDepth 20000 in
theorem c_Mo_arm {l : Launch} {D : va_G} {K : Nat → ClassId} {ad : Nat → Nat} {S : zSt} {i : Nat} (hi : i < 10) (ho : ¬ S.2.2 21 i ≤ 0) {p : Nat} (hp : p < 100) : zC l TB D zcls (ztyl K) y_Mo_arm (.code y_Mo_arm b_Mo_arm 4 (some FieldType.int)) (rmk 3 65) [.ref (ad 13), .int (nI i), .int (nI p)] ad (Lay K ad S) (zP K ad (some (.int (mArm S (100 * i + p)).1)) (mArm S (100 * i + p)).2) := by
  refine zC.of (by decide +kernel) (Nat.le_of_ble_eq_true rfl) ?_
  intro x hx hr hml hnm hrm hq hNH
  show zV x ad (Lay K ad S) 0 0 [(0, .ref (ad 13)), (1, .int (nI i)), (2, .int (nI p))] 0 []
  refine z_aload_n hx 0 d_Mo_arm_0 rfl ?_
  refine z_aload_n hx 0 d_Mo_arm_1 rfl ?_
  refine z_iload_n hx 1 d_Mo_arm_2 rfl ?_
  refine z_iload_n hx 2 d_Mo_arm_3 rfl ?_
  refine z_cV hx (c_Mo_isPerson_yes hi ho hp) k_Mo rfl ⟨a4_115, a4_118, a1_6, ⟨by decide +kernel, by decide +kernel⟩, fun sig h => by cases h; rfl⟩ a4_117 s_Mo_isPerson rfl rfl d_Mo_arm_4 (by rw [hrm]; exact ⟨Nat.le_of_ble_eq_true rfl, Nat.le_of_ble_eq_true rfl, Nat.le_of_ble_eq_true rfl, Nat.le_of_ble_eq_true rfl⟩) ?_
  show zV x ad (Lay K ad S) _ _ _ 7 [.int 1, .ref (ad 13)]
  refine z_if_ne (tgt := 14) hx d_Mo_arm_7 (by decide) (fun _ => ?_) (fun h => absurd h (by decide))
  refine z_iconst (v := 0) hx d_Mo_arm_14 rfl ?_
  refine z_iconst (v := 0) hx d_Mo_arm_15 rfl ?_
  refine z_iconst (v := 0) hx d_Mo_arm_16 rfl ?_
  refine z_cV hx (c_Mo_refused_0) k_Mo rfl ⟨a4_81, a4_84, a1_6, ⟨by decide +kernel, by decide +kernel⟩, fun sig h => by cases h; rfl⟩ a4_83 s_Mo_refused rfl rfl d_Mo_arm_17 (by rw [hrm]; exact ⟨Nat.le_of_ble_eq_true rfl, Nat.le_of_ble_eq_true rfl, Nat.le_of_ble_eq_true rfl, Nat.le_of_ble_eq_true rfl⟩) ?_
  show zV x ad (Lay K ad (stM S 13 0 0)) _ _ _ 20 [.int 0]
  refine z_if_eq (tgt := 25) hx d_Mo_arm_20 (by decide) (fun _ => ?_) (fun h => absurd (by decide) h)
  refine z_bipush (v := 100) hx d_Mo_arm_25 rfl ?_
  refine z_iload_n hx 1 d_Mo_arm_27 rfl ?_
  refine z_imul hx d_Mo_arm_28 ?_
  refine z_top (b := nI (100 * i)) (pk_mul 100 i) ?_
  refine z_iload_n hx 2 d_Mo_arm_29 rfl ?_
  refine z_iadd hx d_Mo_arm_30 ?_
  refine z_top (b := nI (100 * i + p)) (nI_add _ _) ?_
  refine z_istore_n hx [(3, .int (nI (100 * i + p))), (0, .ref (ad 13)), (1, .int (nI i)), (2, .int (nI p))] d_Mo_arm_31 rfl (zN hml (by decide)) rfl ?_
  refine z_aload_n hx 1 d_Mo_arm_32 rfl ?_
  refine z_get hx k_Mo (t := 13) rfl 20 (by decide) a4_3 rfl d_Mo_arm_33 ?_
  refine z_iload_n hx 0 d_Mo_arm_36 rfl ?_
  refine z_ialdK hx 0 rfl (t := 25) rfl (k := (100 * i + p)) (by omega) (by first | decide | omega) d_Mo_arm_37 ?_
  refine z_top (b := S.2.2 25 (100 * i + p)) (rd_n (by decide)) ?_
  refine z_iconst (v := 1) hx d_Mo_arm_38 rfl ?_
  refine z_icmp_ne (tgt := 67) hx d_Mo_arm_39 (by decide) (fun h1 => ?_) (fun h1 => ?_)
  · refine z_iconst (v := (-1)) hx d_Mo_arm_67 rfl ?_
    have e9 : mArm S (100 * i + p) = ((-1), stM S 13 0 0) := by unfold mArm; (first | rw [if_pos h1] | rw [if_neg h1] | skip); (try rfl)
    exact z_iret hx hr rfl hq (Nat.le_refl _) (Nat.le_refl _) d_Mo_arm_68 ⟨by rw [e9], rfl, by rw [e9]⟩
  · refine z_aload_n hx 1 d_Mo_arm_42 rfl ?_
    refine z_get hx k_Mo (t := 13) rfl 4 (by decide) a3_227 rfl d_Mo_arm_43 ?_
    refine z_top (b := S.2.2 13 4) (rd_j (by decide)) ?_
    refine z_if_ne (tgt := 58) hx d_Mo_arm_46 (by decide) (fun h2 => ?_) (fun h2 => ?_)
    · refine z_aload_n hx 1 d_Mo_arm_58 rfl ?_
      refine z_get hx k_Mo (t := 13) rfl 22 (by decide) a4_5 rfl d_Mo_arm_59 ?_
      refine z_iload_n hx 0 d_Mo_arm_62 rfl ?_
      refine z_ialdK hx 0 rfl (t := 27) rfl (k := (100 * i + p)) (by omega) (by first | decide | omega) d_Mo_arm_63 ?_
      refine z_top (b := S.2.2 27 (100 * i + p)) (rd_n (by decide)) ?_
      refine z_goto (tgt := 68) hx d_Mo_arm_64 (by decide) ?_
      have e9 : mArm S (100 * i + p) = (S.2.2 27 (100 * i + p), stM S 13 0 0) := by unfold mArm; (first | rw [if_pos h1] | rw [if_neg h1] | skip); (first | rw [if_pos h2] | rw [if_neg h2] | skip); (try rfl)
      exact z_iret hx hr rfl hq (Nat.le_refl _) (Nat.le_refl _) d_Mo_arm_68 ⟨by rw [e9], rfl, by rw [e9]⟩
    · refine z_aload_n hx 1 d_Mo_arm_49 rfl ?_
      refine z_iload_n hx 0 d_Mo_arm_50 rfl ?_
      refine z_cV hx (c_Mo_keysOf (by omega)) k_Mo rfl ⟨a4_166, a4_169, a1_6, ⟨by decide +kernel, by decide +kernel⟩, fun sig h => by cases h; rfl⟩ a4_168 s_Mo_keysOf rfl rfl d_Mo_arm_51 (by rw [hrm]; exact ⟨Nat.le_of_ble_eq_true rfl, Nat.le_of_ble_eq_true rfl, Nat.le_of_ble_eq_true rfl, Nat.le_of_ble_eq_true rfl⟩) ?_
      show zV x ad (Lay K ad (stM S 13 0 0)) _ _ _ 54 [.int (ksF (S.2.2 29 (100 * i + p)) 5)]
      refine z_iconst (v := 1) hx d_Mo_arm_54 rfl ?_
      refine z_icmp_le (tgt := 67) hx d_Mo_arm_55 (by decide) (fun h3 => ?_) (fun h3 => ?_)
      · refine z_iconst (v := (-1)) hx d_Mo_arm_67 rfl ?_
        have e9 : mArm S (100 * i + p) = ((-1), stM S 13 0 0) := by unfold mArm; (first | rw [if_pos h1] | rw [if_neg h1] | skip); (first | rw [if_pos h2] | rw [if_neg h2] | skip); (first | rw [if_pos h3] | rw [if_neg h3] | skip); (try rfl)
        exact z_iret hx hr rfl hq (Nat.le_refl _) (Nat.le_refl _) d_Mo_arm_68 ⟨by rw [e9], rfl, by rw [e9]⟩
      · refine z_aload_n hx 1 d_Mo_arm_58 rfl ?_
        refine z_get hx k_Mo (t := 13) rfl 22 (by decide) a4_5 rfl d_Mo_arm_59 ?_
        refine z_iload_n hx 0 d_Mo_arm_62 rfl ?_
        refine z_ialdK hx 0 rfl (t := 27) rfl (k := (100 * i + p)) (by omega) (by first | decide | omega) d_Mo_arm_63 ?_
        refine z_top (b := S.2.2 27 (100 * i + p)) (rd_n (by decide)) ?_
        refine z_goto (tgt := 68) hx d_Mo_arm_64 (by decide) ?_
        have e9 : mArm S (100 * i + p) = (S.2.2 27 (100 * i + p), stM S 13 0 0) := by unfold mArm; (first | rw [if_pos h1] | rw [if_neg h1] | skip); (first | rw [if_pos h2] | rw [if_neg h2] | skip); (first | rw [if_pos h3] | rw [if_neg h3] | skip); (try rfl)
        exact z_iret hx hr rfl hq (Nat.le_refl _) (Nat.le_refl _) d_Mo_arm_68 ⟨by rw [e9], rfl, by rw [e9]⟩
set_option maxRecDepth 20000 in
theorem c_Mo_key {l : Launch} {D : va_G} {K : Nat → ClassId} {ad : Nat → Nat} {S : zSt} {h : Nat} (hh : h < 5) {i : Nat} (hi : i < 10) (ho : ¬ S.2.2 21 i ≤ 0) {p : Nat} (hp : p < 100) : zC l TB D zcls (ztyl K) y_Mo_key (.code y_Mo_key b_Mo_key 5 (some FieldType.int)) (rmk 3 65) [.ref (ad 13), .int (nI h), .int (nI i), .int (nI p)] ad (Lay K ad S) (zP K ad (some (.int (mKey S (100 * i + p) h).1)) (mKey S (100 * i + p) h).2) := by
  refine zC.of (by decide +kernel) (Nat.le_of_ble_eq_true rfl) ?_
  intro x hx hr hml hnm hrm hq hNH
  show zV x ad (Lay K ad S) 0 0 [(0, .ref (ad 13)), (1, .int (nI h)), (2, .int (nI i)), (3, .int (nI p))] 0 []
  refine z_aload_n hx 0 d_Mo_key_0 rfl ?_
  refine z_iload_n hx 1 d_Mo_key_1 rfl ?_
  refine z_cS hx (c_Mo_isHolder_yes (by omega)) ⟨a4_163, a4_165, a1_6, ⟨by decide +kernel, by decide +kernel⟩, fun sig h => by cases h; rfl⟩ a4_164 rfl rfl d_Mo_key_2 (by rw [hrm]; exact ⟨Nat.le_of_ble_eq_true rfl, Nat.le_of_ble_eq_true rfl, Nat.le_of_ble_eq_true rfl, Nat.le_of_ble_eq_true rfl⟩) ?_
  show zV x ad (Lay K ad S) _ _ _ 5 [.int 1, .ref (ad 13)]
  refine z_if_eq (tgt := 17) hx d_Mo_key_5 (by decide) (fun h => absurd h (by decide)) (fun _ => ?_)
  refine z_aload_n hx 0 d_Mo_key_8 rfl ?_
  refine z_iload_n hx 2 d_Mo_key_9 rfl ?_
  refine z_iload_n hx 3 d_Mo_key_10 rfl ?_
  refine z_cV hx (c_Mo_isPerson_yes hi ho hp) k_Mo rfl ⟨a4_115, a4_118, a1_6, ⟨by decide +kernel, by decide +kernel⟩, fun sig h => by cases h; rfl⟩ a4_117 s_Mo_isPerson rfl rfl d_Mo_key_11 (by rw [hrm]; exact ⟨Nat.le_of_ble_eq_true rfl, Nat.le_of_ble_eq_true rfl, Nat.le_of_ble_eq_true rfl, Nat.le_of_ble_eq_true rfl⟩) ?_
  show zV x ad (Lay K ad S) _ _ _ 14 [.int 1, .ref (ad 13)]
  refine z_if_ne (tgt := 21) hx d_Mo_key_14 (by decide) (fun _ => ?_) (fun h => absurd h (by decide))
  refine z_iconst (v := 0) hx d_Mo_key_21 rfl ?_
  refine z_iconst (v := 0) hx d_Mo_key_22 rfl ?_
  refine z_iconst (v := 0) hx d_Mo_key_23 rfl ?_
  refine z_cV hx (c_Mo_refused_0) k_Mo rfl ⟨a4_81, a4_84, a1_6, ⟨by decide +kernel, by decide +kernel⟩, fun sig h => by cases h; rfl⟩ a4_83 s_Mo_refused rfl rfl d_Mo_key_24 (by rw [hrm]; exact ⟨Nat.le_of_ble_eq_true rfl, Nat.le_of_ble_eq_true rfl, Nat.le_of_ble_eq_true rfl, Nat.le_of_ble_eq_true rfl⟩) ?_
  show zV x ad (Lay K ad (stM S 13 0 0)) _ _ _ 27 [.int 0]
  refine z_if_eq (tgt := 32) hx d_Mo_key_27 (by decide) (fun _ => ?_) (fun h => absurd (by decide) h)
  refine z_bipush (v := 100) hx d_Mo_key_32 rfl ?_
  refine z_iload_n hx 2 d_Mo_key_34 rfl ?_
  refine z_imul hx d_Mo_key_35 ?_
  refine z_top (b := nI (100 * i)) (pk_mul 100 i) ?_
  refine z_iload_n hx 3 d_Mo_key_36 rfl ?_
  refine z_iadd hx d_Mo_key_37 ?_
  refine z_top (b := nI (100 * i + p)) (nI_add _ _) ?_
  refine z_istore hx [(4, .int (nI (100 * i + p))), (0, .ref (ad 13)), (1, .int (nI h)), (2, .int (nI i)), (3, .int (nI p))] d_Mo_key_38 (zN hml (by decide)) rfl ?_
  refine z_aload_n hx 1 d_Mo_key_40 rfl ?_
  refine z_get hx k_Mo (t := 13) rfl 1 (by decide) a3_224 rfl d_Mo_key_41 ?_
  refine z_top (b := S.2.2 13 1) (rd_j (by decide)) ?_
  refine z_if_ne (tgt := 54) hx d_Mo_key_44 (by decide) (fun h1 => ?_) (fun h1 => ?_)
  · refine z_bipush (v := (-2)) hx d_Mo_key_54 rfl ?_
    have e9 : mKey S (100 * i + p) h = ((-2), stM S 13 0 0) := by unfold mKey; (first | rw [if_pos h1] | rw [if_neg h1] | skip); (try rfl)
    exact z_iret hx hr rfl hq (Nat.le_refl _) (Nat.le_refl _) d_Mo_key_56 ⟨by rw [e9], rfl, by rw [e9]⟩
  · refine z_aload_n hx 1 d_Mo_key_47 rfl ?_
    by_cases h2 : S.2.2 13 2 = 0
    · refine z_cV hx (c_Mo_writes_ok (S := stM S 13 0 0) h2) k_Mo rfl ⟨a4_85, a4_88, a1_6, ⟨by decide +kernel, by decide +kernel⟩, fun sig h => by cases h; rfl⟩ a4_87 s_Mo_writes rfl rfl d_Mo_key_48 (by rw [hrm]; exact ⟨Nat.le_of_ble_eq_true rfl, Nat.le_of_ble_eq_true rfl, Nat.le_of_ble_eq_true rfl, Nat.le_of_ble_eq_true rfl⟩) ?_
      show zV x ad (Lay K ad (stM (stM S 13 0 0) 13 3 (S.2.2 13 3 + 1))) _ _ _ 51 [.int 1]
      refine z_if_ne (tgt := 57) hx d_Mo_key_51 (by decide) (fun _ => ?_) (fun h => absurd h (by decide))
      refine z_aload_n hx 1 d_Mo_key_57 rfl ?_
      refine z_get hx k_Mo (t := 13) rfl 24 (by decide) a4_7 rfl d_Mo_key_58 ?_
      refine z_iload hx 0 d_Mo_key_61 rfl ?_
      refine z_aload_n hx 1 d_Mo_key_63 rfl ?_
      refine z_get hx k_Mo (t := 13) rfl 24 (by decide) a4_7 rfl d_Mo_key_64 ?_
      refine z_iload hx 0 d_Mo_key_67 rfl ?_
      refine z_ialdK hx 0 rfl (t := 29) rfl (k := (100 * i + p)) (by omega) (by first | decide | omega) d_Mo_key_69 ?_
      refine z_top (b := S.2.2 29 (100 * i + p)) ((rd_n (by decide)).trans (rd_n (by decide))) ?_
      refine z_iconst (v := 1) hx d_Mo_key_70 rfl ?_
      refine z_iload_n hx 2 d_Mo_key_71 rfl ?_
      refine z_ishl hx d_Mo_key_72 ?_
      refine z_ior hx d_Mo_key_73 ?_
      refine z_iastK hx 0 rfl (t := 29) rfl (k := (100 * i + p)) (by omega) (by first | decide | omega)  d_Mo_key_74 (ce1 := Lay K ad (stM (stM (stM S 13 0 0) 13 3 (S.2.2 13 3 + 1)) 29 ((100 * i + p)) ((S.2.2 29 (100 * i + p)) ||| (1 <<< ((nI h) &&& 31))))) (Lay_put (by decide) rfl) ?_
      refine z_aload_n hx 1 d_Mo_key_75 rfl ?_
      refine z_iload hx 0 d_Mo_key_76 rfl ?_
      refine z_cV hx (c_Mo_keysOf (by omega)) k_Mo rfl ⟨a4_166, a4_169, a1_6, ⟨by decide +kernel, by decide +kernel⟩, fun sig h => by cases h; rfl⟩ a4_168 s_Mo_keysOf rfl rfl d_Mo_key_78 (by rw [hrm]; exact ⟨Nat.le_of_ble_eq_true rfl, Nat.le_of_ble_eq_true rfl, Nat.le_of_ble_eq_true rfl, Nat.le_of_ble_eq_true rfl⟩) ?_
      show zV x ad (Lay K ad (stM (stM (stM S 13 0 0) 13 3 (S.2.2 13 3 + 1)) 29 ((100 * i + p)) ((S.2.2 29 (100 * i + p)) ||| (1 <<< ((nI h) &&& 31))))) _ _ _ 81 [.int (ksF ((stM (stM (stM S 13 0 0) 13 3 (S.2.2 13 3 + 1)) 29 ((100 * i + p)) ((S.2.2 29 (100 * i + p)) ||| (1 <<< ((nI h) &&& 31)))).2.2 29 (100 * i + p)) 5)]
      have e9 : mKey S (100 * i + p) h = (ksF ((stM (stM (stM S 13 0 0) 13 3 (S.2.2 13 3 + 1)) 29 ((100 * i + p)) ((S.2.2 29 (100 * i + p)) ||| (1 <<< ((nI h) &&& 31)))).2.2 29 (100 * i + p)) 5, stM (stM (stM S 13 0 0) 13 3 (S.2.2 13 3 + 1)) 29 ((100 * i + p)) ((S.2.2 29 (100 * i + p)) ||| (1 <<< ((nI h) &&& 31)))) := by unfold mKey; (first | rw [if_pos h1] | rw [if_neg h1] | skip); (first | rw [if_pos h2] | rw [if_neg h2] | skip); (try rfl)
      exact z_iret hx hr rfl hq (Nat.le_refl _) (Nat.le_refl _) d_Mo_key_81 ⟨by rw [e9], rfl, by rw [e9]⟩
    · refine z_cV hx (c_Mo_writes_torn (S := stM S 13 0 0) h2) k_Mo rfl ⟨a4_85, a4_88, a1_6, ⟨by decide +kernel, by decide +kernel⟩, fun sig h => by cases h; rfl⟩ a4_87 s_Mo_writes rfl rfl d_Mo_key_48 (by rw [hrm]; exact ⟨Nat.le_of_ble_eq_true rfl, Nat.le_of_ble_eq_true rfl, Nat.le_of_ble_eq_true rfl, Nat.le_of_ble_eq_true rfl⟩) ?_
      show zV x ad (Lay K ad (stM (stM (stM S 13 0 0) 13 2 0) 13 1 1)) _ _ _ 51 [.int 0]
      refine z_if_ne (tgt := 57) hx d_Mo_key_51 (by decide) (fun h => absurd (by decide) h) (fun _ => ?_)
      refine z_bipush (v := (-2)) hx d_Mo_key_54 rfl ?_
      have e9 : mKey S (100 * i + p) h = ((-2), stM (stM (stM S 13 0 0) 13 2 0) 13 1 1) := by unfold mKey; (first | rw [if_pos h1] | rw [if_neg h1] | skip); (first | rw [if_pos h2] | rw [if_neg h2] | skip); (try rfl)
      exact z_iret hx hr rfl hq (Nat.le_refl _) (Nat.le_refl _) d_Mo_key_56 ⟨by rw [e9], rfl, by rw [e9]⟩
def mSite (S : zSt) (i : Nat) : Int32 × zSt := if S.2.2 13 1 = 0 then (if S.2.2 13 2 = 0 then (nI (cntI (fun q => decide (¬ (stM (mwO S) 21 i 1).2.2 21 q ≤ 0)) 10), stM (mwO S) 21 i 1) else (-2, mwT S)) else (-2, mS S)
set_option maxRecDepth 20000 in
theorem c_Mo_site {l : Launch} {D : va_G} {K : Nat → ClassId} {ad : Nat → Nat} {S : zSt} {i : Nat} (hi : i < 10) (ho : S.2.2 21 i ≤ 0) : zC l TB D zcls (ztyl K) y_Mo_site (.code y_Mo_site b_Mo_site 5 (some FieldType.int)) (rmk 1 23) [.ref (ad 13), .int (nI i)] ad (Lay K ad S) (zP K ad (some (.int (mSite S i).1)) (mSite S i).2) := by
  refine zC.of (by decide +kernel) (Nat.le_of_ble_eq_true rfl) ?_
  intro x hx hr hml hnm hrm hq hNH
  have L : ∀ (m_L k : Nat), k + m_L = 10 → (S.2.2 13 1 = 0 ∧ S.2.2 13 2 = 0) → zV x ad (Lay K ad (stM (stM (stM S 13 0 0) 13 3 (S.2.2 13 3 + 1)) 21 i 1)) 0 0 [(4, .int (nI k)), (3, .int (nI (cntI (fun q => decide (¬ (stM (mwO S) 21 i 1).2.2 21 q ≤ 0)) k))), (0, .ref (ad 13)), (1, .int (nI i))] 74 [] := by
    intro m_L
    induction m_L with
    | zero =>
      intro k he_L hV
      have e_L : k = 10 := by omega
      refine z_iload hx 0 d_Mo_site_74 rfl ?_
      refine z_bipush (v := 10) hx d_Mo_site_76 rfl ?_
      refine z_icmp_ge (tgt := 105) hx d_Mo_site_78 (by decide) (fun _ => ?_) (fun h => absurd (nI_leL 10 rfl e_L (by decide)) h)
      refine z_iload_n hx 1 d_Mo_site_105 rfl ?_
      subst e_L
      have e9 : mSite S i = (nI (cntI (fun q => decide (¬ (stM (mwO S) 21 i 1).2.2 21 q ≤ 0)) 10), stM (mwO S) 21 i 1) := by unfold mSite; rw [if_pos hV.1, if_pos hV.2]
      exact z_iret hx hr rfl hq (Nat.le_refl _) (Nat.le_refl _) d_Mo_site_106 ⟨by rw [e9], rfl, by rw [e9]⟩
    | succ m_L ih_L =>
      intro k he_L hV
      have l_L : k < 10 := by omega
      refine z_iload hx 0 d_Mo_site_74 rfl ?_
      refine z_bipush (v := 10) hx d_Mo_site_76 rfl ?_
      refine z_icmp_ge (tgt := 105) hx d_Mo_site_78 (by decide) (fun h => absurd h (nI_nleL 10 rfl l_L (by decide))) (fun _ => ?_)
      refine z_aload_n hx 2 d_Mo_site_81 rfl ?_
      refine z_get hx k_Mo (t := 13) rfl 16 (by decide) a3_239 rfl d_Mo_site_82 ?_
      refine z_iload hx 0 d_Mo_site_85 rfl ?_
      refine z_ialdK hx 0 rfl (t := 21) rfl (k := k) (by omega) (by first | decide | omega) d_Mo_site_87 ?_
      refine z_if_le (tgt := 97) hx d_Mo_site_88 (by decide) (fun h1 => ?_) (fun h1 => ?_)
      · refine z_iload_n hx 1 d_Mo_site_97 rfl ?_
        refine z_istore_n hx [(3, .int (nI (cntI (fun q => decide (¬ (stM (mwO S) 21 i 1).2.2 21 q ≤ 0)) k))), (4, .int (nI k)), (0, .ref (ad 13)), (1, .int (nI i))] d_Mo_site_98 rfl (zN hml (by decide)) rfl ?_
        refine z_iinc (v := nI (k + 1)) hx 1 [(4, .int (nI (k + 1))), (3, .int (nI (cntI (fun q => decide (¬ (stM (mwO S) 21 i 1).2.2 21 q ≤ 0)) k))), (0, .ref (ad 13)), (1, .int (nI i))] d_Mo_site_99 rfl (nI_1 k) (zN hml (by decide)) rfl ?_
        refine z_goto (tgt := 74) hx d_Mo_site_102 (by decide) ?_
        have q9 := ih_L (k + 1) (by omega) hV
        rw [show cntI (fun q => decide (¬ (stM (mwO S) 21 i 1).2.2 21 q ≤ 0)) (k + 1) = cntI (fun q => decide (¬ (stM (mwO S) 21 i 1).2.2 21 q ≤ 0)) k from by rw [cntI]; simp only [h1]; rfl] at q9
        exact z_lv [0, 1, 2, 3] _ rfl q9
      · refine z_iload_n hx 1 d_Mo_site_91 rfl ?_
        refine z_iconst (v := 1) hx d_Mo_site_92 rfl ?_
        refine z_iadd hx d_Mo_site_93 ?_
        refine z_top (b := nI (cntI (fun q => decide (¬ (stM (mwO S) 21 i 1).2.2 21 q ≤ 0)) k + 1)) (nI_1 _) ?_
        refine z_goto (tgt := 98) hx d_Mo_site_94 (by decide) ?_
        refine z_istore_n hx [(3, .int (nI (cntI (fun q => decide (¬ (stM (mwO S) 21 i 1).2.2 21 q ≤ 0)) k + 1))), (4, .int (nI k)), (0, .ref (ad 13)), (1, .int (nI i))] d_Mo_site_98 rfl (zN hml (by decide)) rfl ?_
        refine z_iinc (v := nI (k + 1)) hx 1 [(4, .int (nI (k + 1))), (3, .int (nI (cntI (fun q => decide (¬ (stM (mwO S) 21 i 1).2.2 21 q ≤ 0)) k + 1))), (0, .ref (ad 13)), (1, .int (nI i))] d_Mo_site_99 rfl (nI_1 k) (zN hml (by decide)) rfl ?_
        refine z_goto (tgt := 74) hx d_Mo_site_102 (by decide) ?_
        have q9 := ih_L (k + 1) (by omega) hV
        rw [show cntI (fun q => decide (¬ (stM (mwO S) 21 i 1).2.2 21 q ≤ 0)) (k + 1) = cntI (fun q => decide (¬ (stM (mwO S) 21 i 1).2.2 21 q ≤ 0)) k + 1 from by rw [cntI]; simp only [h1]; rfl] at q9
        exact z_lv [0, 1, 2, 3] _ rfl q9
  show zV x ad (Lay K ad S) 0 0 [(0, .ref (ad 13)), (1, .int (nI i))] 0 []
  refine z_iload_n hx 1 d_Mo_site_0 rfl ?_
  refine z_iconst (v := 0) hx d_Mo_site_1 rfl ?_
  refine z_bipush (v := 9) hx d_Mo_site_2 rfl ?_
  refine z_cS hx (c_Mo_within) ⟨a4_78, a4_80, a1_6, ⟨by decide +kernel, by decide +kernel⟩, fun sig h => by cases h; rfl⟩ a4_79 rfl rfl d_Mo_site_4 (by rw [hrm]; exact ⟨Nat.le_of_ble_eq_true rfl, Nat.le_of_ble_eq_true rfl, Nat.le_of_ble_eq_true rfl, Nat.le_of_ble_eq_true rfl⟩) ?_
  show zV x ad (Lay K ad S) _ _ _ 7 [.int (wiF (nI i) 0 9)]
  refine z_top (b := 1) (wi_nI 10 (by decide) (by decide) (by omega)) ?_
  refine z_if_ne (tgt := 14) hx d_Mo_site_7 (by decide) (fun _ => ?_) (fun h => absurd h (by decide))
  refine z_iconst (v := 0) hx d_Mo_site_14 rfl ?_
  refine z_istore_n hx [(2, .int 0), (0, .ref (ad 13)), (1, .int (nI i))] d_Mo_site_15 rfl (zN hml (by decide)) rfl ?_
  refine z_aload_n hx 1 d_Mo_site_16 rfl ?_
  refine z_iload_n hx 0 d_Mo_site_17 rfl ?_
  refine z_iload_n hx 0 d_Mo_site_18 rfl ?_
  refine z_if_ne (tgt := 35) hx d_Mo_site_19 (by decide) (fun h => absurd (by decide) h) (fun _ => ?_)
  refine z_aload_n hx 1 d_Mo_site_22 rfl ?_
  refine z_get hx k_Mo (t := 13) rfl 16 (by decide) a3_239 rfl d_Mo_site_23 ?_
  refine z_iload_n hx 2 d_Mo_site_26 rfl ?_
  refine z_ialdK hx 0 rfl (t := 21) rfl (k := i) (by omega) (by first | decide | omega) d_Mo_site_27 ?_
  refine z_if_le (tgt := 35) hx d_Mo_site_28 (by decide) (fun _ => ?_) (fun h => absurd ho h)
  refine z_iconst (v := 0) hx d_Mo_site_35 rfl ?_
  refine z_iconst (v := 0) hx d_Mo_site_36 rfl ?_
  refine z_cV hx (c_Mo_refused_0) k_Mo rfl ⟨a4_81, a4_84, a1_6, ⟨by decide +kernel, by decide +kernel⟩, fun sig h => by cases h; rfl⟩ a4_83 s_Mo_refused rfl rfl d_Mo_site_37 (by rw [hrm]; exact ⟨Nat.le_of_ble_eq_true rfl, Nat.le_of_ble_eq_true rfl, Nat.le_of_ble_eq_true rfl, Nat.le_of_ble_eq_true rfl⟩) ?_
  show zV x ad (Lay K ad (stM S 13 0 0)) _ _ _ 40 [.int 0]
  refine z_if_eq (tgt := 45) hx d_Mo_site_40 (by decide) (fun _ => ?_) (fun h => absurd (by decide) h)
  refine z_aload_n hx 1 d_Mo_site_45 rfl ?_
  refine z_get hx k_Mo (t := 13) rfl 1 (by decide) a3_224 rfl d_Mo_site_46 ?_
  refine z_top (b := S.2.2 13 1) (rd_j (by decide)) ?_
  refine z_if_ne (tgt := 59) hx d_Mo_site_49 (by decide) (fun h1 => ?_) (fun h1 => ?_)
  · refine z_bipush (v := (-2)) hx d_Mo_site_59 rfl ?_
    have e9 : mSite S i = ((-2), stM S 13 0 0) := by unfold mSite; (first | rw [if_pos h1] | rw [if_neg h1] | skip); (try rfl)
    exact z_iret hx hr rfl hq (Nat.le_refl _) (Nat.le_refl _) d_Mo_site_61 ⟨by rw [e9], rfl, by rw [e9]⟩
  · refine z_aload_n hx 1 d_Mo_site_52 rfl ?_
    by_cases h2 : S.2.2 13 2 = 0
    · refine z_cV hx (c_Mo_writes_ok (S := stM S 13 0 0) h2) k_Mo rfl ⟨a4_85, a4_88, a1_6, ⟨by decide +kernel, by decide +kernel⟩, fun sig h => by cases h; rfl⟩ a4_87 s_Mo_writes rfl rfl d_Mo_site_53 (by rw [hrm]; exact ⟨Nat.le_of_ble_eq_true rfl, Nat.le_of_ble_eq_true rfl, Nat.le_of_ble_eq_true rfl, Nat.le_of_ble_eq_true rfl⟩) ?_
      show zV x ad (Lay K ad (stM (stM S 13 0 0) 13 3 (S.2.2 13 3 + 1))) _ _ _ 56 [.int 1]
      refine z_if_ne (tgt := 62) hx d_Mo_site_56 (by decide) (fun _ => ?_) (fun h => absurd h (by decide))
      refine z_aload_n hx 1 d_Mo_site_62 rfl ?_
      refine z_get hx k_Mo (t := 13) rfl 16 (by decide) a3_239 rfl d_Mo_site_63 ?_
      refine z_iload_n hx 2 d_Mo_site_66 rfl ?_
      refine z_iconst (v := 1) hx d_Mo_site_67 rfl ?_
      refine z_iastK hx 0 rfl (t := 21) rfl (k := i) (by omega) (by first | decide | omega)  d_Mo_site_68 (ce1 := Lay K ad (stM (stM (stM S 13 0 0) 13 3 (S.2.2 13 3 + 1)) 21 i 1)) (Lay_put (by decide) rfl) ?_
      refine z_iconst (v := 0) hx d_Mo_site_69 rfl ?_
      refine z_top (b := nI (cntI (fun q => decide (¬ (stM (mwO S) 21 i 1).2.2 21 q ≤ 0)) 0)) rfl ?_
      refine z_istore_n hx [(3, .int (nI (cntI (fun q => decide (¬ (stM (mwO S) 21 i 1).2.2 21 q ≤ 0)) 0))), (2, .int 0), (0, .ref (ad 13)), (1, .int (nI i))] d_Mo_site_70 rfl (zN hml (by decide)) rfl ?_
      refine z_iconst (v := 0) hx d_Mo_site_71 rfl ?_
      refine z_top (b := nI 0) rfl ?_
      refine z_istore hx [(4, .int (nI 0)), (3, .int (nI (cntI (fun q => decide (¬ (stM (mwO S) 21 i 1).2.2 21 q ≤ 0)) 0))), (2, .int 0), (0, .ref (ad 13)), (1, .int (nI i))] d_Mo_site_72 (zN hml (by decide)) rfl ?_
      exact z_lv [0, 1, 3, 4] _ rfl (L 10 0 (by omega) ⟨h1, h2⟩)
    · refine z_cV hx (c_Mo_writes_torn (S := stM S 13 0 0) h2) k_Mo rfl ⟨a4_85, a4_88, a1_6, ⟨by decide +kernel, by decide +kernel⟩, fun sig h => by cases h; rfl⟩ a4_87 s_Mo_writes rfl rfl d_Mo_site_53 (by rw [hrm]; exact ⟨Nat.le_of_ble_eq_true rfl, Nat.le_of_ble_eq_true rfl, Nat.le_of_ble_eq_true rfl, Nat.le_of_ble_eq_true rfl⟩) ?_
      show zV x ad (Lay K ad (stM (stM (stM S 13 0 0) 13 2 0) 13 1 1)) _ _ _ 56 [.int 0]
      refine z_if_ne (tgt := 62) hx d_Mo_site_56 (by decide) (fun h => absurd (by decide) h) (fun _ => ?_)
      refine z_bipush (v := (-2)) hx d_Mo_site_59 rfl ?_
      have e9 : mSite S i = ((-2), stM (stM (stM S 13 0 0) 13 2 0) 13 1 1) := by unfold mSite; (first | rw [if_pos h1] | rw [if_neg h1] | skip); (first | rw [if_pos h2] | rw [if_neg h2] | skip); (try rfl)
      exact z_iret hx hr rfl hq (Nat.le_refl _) (Nat.le_refl _) d_Mo_site_61 ⟨by rw [e9], rfl, by rw [e9]⟩
