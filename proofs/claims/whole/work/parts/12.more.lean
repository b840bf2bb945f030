set_option maxRecDepth 20000 in
theorem c_Re_nextKit {l : Launch} {D : va_G} {K : Nat → ClassId} {ad : Nat → Nat} {S : zSt} {i k : Nat} (hi : i < 10) (hk : k < 8) (ho : S.2.2 9 i ≠ 0) {a b : Nat} (hna : S.2.2 (200 + 8 * i + k) 2 = nI a) (hnb : S.2.2 (200 + 8 * i + k) 1 = nI b) (hab : a ≤ b) (hb : b ≤ 24) : zC l TB D zcls (ztyl K) y_Re_nextKit (.code y_Re_nextKit b_Re_nextKit 1 (some FieldType.int)) (rmk 0 0) [.ref (ad (200 + 8 * i + k))] ad (Lay K ad S) (zP K ad (some (.int (if a < b then S.2.2 (300 + 8 * i + k) a else -1))) S) := by
  refine zC.of (by decide +kernel) (Nat.le_of_ble_eq_true rfl) ?_
  intro x hx hr hml hnm hrm hq hNH
  show zV x ad (Lay K ad S) 0 0 [(0, .ref (ad (200 + 8 * i + k)))] 0 []
  refine z_aload_n hx 0 d_Re_nextKit_0 rfl ?_
  refine z_get hx k_Re (t := 200 + 8 * i + k) (Lay_Re hi hk ho) 2 (by decide) a2_77 rfl d_Re_nextKit_1 ?_
  refine z_top (b := nI a) hna ?_
  refine z_if_lt (tgt := 42) hx d_Re_nextKit_4 (by decide) (fun h => absurd h (nI_pos (by omega))) (fun _ => ?_)
  refine z_aload_n hx 0 d_Re_nextKit_7 rfl ?_
  refine z_get hx k_Re (t := 200 + 8 * i + k) (Lay_Re hi hk ho) 2 (by decide) a2_77 rfl d_Re_nextKit_8 ?_
  refine z_top (b := nI a) hna ?_
  refine z_aload_n hx 0 d_Re_nextKit_11 rfl ?_
  refine z_get hx k_Re (t := 200 + 8 * i + k) (Lay_Re hi hk ho) 1 (by decide) a2_74 rfl d_Re_nextKit_12 ?_
  refine z_top (b := nI b) hnb ?_
  refine z_icmp_ge (tgt := 42) hx d_Re_nextKit_15 (by decide) (fun h1 => ?_) (fun h1 => ?_)
  · refine z_iconst (v := (-1)) hx d_Re_nextKit_42 rfl ?_
    exact z_iret hx hr rfl hq (Nat.le_refl _) (Nat.le_refl _) d_Re_nextKit_43 ⟨by rw [if_neg (by have := zle_nI h1 (by omega) (by omega); omega)], rfl, rfl⟩
  · refine z_aload_n hx 0 d_Re_nextKit_18 rfl ?_
    refine z_get hx k_Re (t := 200 + 8 * i + k) (Lay_Re hi hk ho) 2 (by decide) a2_77 rfl d_Re_nextKit_19 ?_
    refine z_top (b := nI a) hna ?_
    refine z_aload_n hx 0 d_Re_nextKit_22 rfl ?_
    refine z_get hx k_Re (t := 200 + 8 * i + k) (Lay_Re hi hk ho) 0 (by decide) a2_73 rfl d_Re_nextKit_23 ?_
    refine z_alen hx 0 rfl (t := 300 + 8 * i + k) (Lay_ek hi hk ho) (v := 24) rfl d_Re_nextKit_26 ?_
    refine z_icmp_ge (tgt := 42) hx d_Re_nextKit_27 (by decide) (fun h => absurd h (nI_nleL 24 rfl (by have := zlt_nI h1 (by omega) (by omega); omega) (by decide))) (fun _ => ?_)
    refine z_aload_n hx 0 d_Re_nextKit_30 rfl ?_
    refine z_get hx k_Re (t := 200 + 8 * i + k) (Lay_Re hi hk ho) 0 (by decide) a2_73 rfl d_Re_nextKit_31 ?_
    refine z_aload_n hx 0 d_Re_nextKit_34 rfl ?_
    refine z_get hx k_Re (t := 200 + 8 * i + k) (Lay_Re hi hk ho) 2 (by decide) a2_77 rfl d_Re_nextKit_35 ?_
    refine z_top (b := nI a) hna ?_
    refine z_ialdK hx 0 rfl (t := 300 + 8 * i + k) (Lay_ek hi hk ho) (k := a) (by have := zlt_nI h1 (by omega) (by omega); omega) (by first | decide | omega) d_Re_nextKit_38 ?_
    refine z_goto (tgt := 43) hx d_Re_nextKit_39 (by decide) ?_
    exact z_iret hx hr rfl hq (Nat.le_refl _) (Nat.le_refl _) d_Re_nextKit_43 ⟨by rw [if_pos (zlt_nI h1 (by omega) (by omega))], rfl, rfl⟩
set_option maxRecDepth 20000 in
theorem c_Si_reserveFor {l : Launch} {D : va_G} {K : Nat → ClassId} {ad : Nat → Nat} {S : zSt} {i s : Nat} (hi : i < 10) (hs : s < 8) (ho : S.2.2 9 i ≠ 0) : zC l TB D zcls (ztyl K) y_Si_reserveFor (.code y_Si_reserveFor b_Si_reserveFor 2 (some (FieldType.object "TrialDesk$Reserve"))) (rmk 0 0) [.ref (ad (100 + i)), .int (nI s)] ad (Lay K ad S) (zP K ad (some (.ref (ad (200 + 8 * i + s)))) S) := by
  refine zC.of (by decide +kernel) (Nat.le_of_ble_eq_true rfl) ?_
  intro x hx hr hml hnm hrm hq hNH
  show zV x ad (Lay K ad S) 0 0 [(0, .ref (ad (100 + i))), (1, .int (nI s))] 0 []
  refine z_iload_n hx 1 d_Si_reserveFor_0 rfl ?_
  refine z_if_lt (tgt := 22) hx d_Si_reserveFor_1 (by decide) (fun h => absurd h (nI_pos (by omega))) (fun _ => ?_)
  refine z_iload_n hx 1 d_Si_reserveFor_4 rfl ?_
  refine z_aload_n hx 0 d_Si_reserveFor_5 rfl ?_
  refine z_get hx k_Si (t := 100 + i) (Lay_Si hi ho) 4 (by decide) a2_91 rfl d_Si_reserveFor_6 ?_
  refine z_alen hx 5 rfl (t := 150 + i) (Lay_ress hi ho) (v := 8) rfl d_Si_reserveFor_9 ?_
  refine z_icmp_ge (tgt := 22) hx d_Si_reserveFor_10 (by decide) (fun h => absurd h (nI_nleL 8 rfl hs (by decide))) (fun _ => ?_)
  refine z_aload_n hx 0 d_Si_reserveFor_13 rfl ?_
  refine z_get hx k_Si (t := 100 + i) (Lay_Si hi ho) 4 (by decide) a2_91 rfl d_Si_reserveFor_14 ?_
  refine z_iload_n hx 1 d_Si_reserveFor_17 rfl ?_
  refine z_aaldK hx 5 rfl (t := 150 + i) (Lay_ress hi ho) (k := s) (by omega) (by decide) (v := .ref (ad (200 + 8 * i + s))) (by show va_rf (if s < 8 then some (ad (200 + 8 * i + s)) else none) = _; rw [if_pos hs]; rfl) d_Si_reserveFor_18 ?_
  refine z_ifnonnullR (tgt := 30) hx d_Si_reserveFor_19 (by decide) ?_
  refine z_aload_n hx 0 d_Si_reserveFor_30 rfl ?_
  refine z_get hx k_Si (t := 100 + i) (Lay_Si hi ho) 4 (by decide) a2_91 rfl d_Si_reserveFor_31 ?_
  refine z_iload_n hx 1 d_Si_reserveFor_34 rfl ?_
  refine z_aaldK hx 5 rfl (t := 150 + i) (Lay_ress hi ho) (k := s) (by omega) (by decide) (v := .ref (ad (200 + 8 * i + s))) (by show va_rf (if s < 8 then some (ad (200 + 8 * i + s)) else none) = _; rw [if_pos hs]; rfl) d_Si_reserveFor_35 ?_
  exact z_aret hx hr (Or.inl ⟨_, rfl⟩) hq (Nat.le_refl _) (Nat.le_refl _) d_Si_reserveFor_36 ⟨rfl, rfl, rfl⟩
set_option maxRecDepth 20000 in
theorem c_Si_entriesLeft {l : Launch} {D : va_G} {K : Nat → ClassId} {ad : Nat → Nat} {S : zSt} {i : Nat} (hi : i < 10) (ho : S.2.2 9 i ≠ 0) : zC l TB D zcls (ztyl K) y_Si_entriesLeft (.code y_Si_entriesLeft b_Si_entriesLeft 4 (some FieldType.int)) (rmk 1 21) [.ref (ad (100 + i))] ad (Lay K ad S) (zP K ad (some (.int (elF S i 8))) S) := by
  refine zC.of (by decide +kernel) (Nat.le_of_ble_eq_true rfl) ?_
  intro x hx hr hml hnm hrm hq hNH
  have loop : ∀ (m k : Nat), k + m = 8 → zV x ad (Lay K ad S) 0 0 [(2, .int (nI k)), (1, .int (elF S i k)), (0, .ref (ad (100 + i)))] 4 [] := by
    intro m
    induction m with
    | zero =>
      intro k he
      obtain rfl : k = 8 := by omega
      refine z_iload_n hx 0 d_Si_entriesLeft_4 rfl ?_
      refine z_aload_n hx 2 d_Si_entriesLeft_5 rfl ?_
      refine z_get hx k_Si (t := 100 + i) (Lay_Si hi ho) 4 (by decide) a2_91 rfl d_Si_entriesLeft_6 ?_
      refine z_alen hx 5 rfl (t := 150 + i) (Lay_ress hi ho) (v := 8) rfl d_Si_entriesLeft_9 ?_
      refine z_icmp_ge (tgt := 37) hx d_Si_entriesLeft_10 (by decide) (fun _ => ?_) (fun h => absurd (by decide) h)
      refine z_iload_n hx 1 d_Si_entriesLeft_37 rfl ?_
      exact z_iret hx hr rfl hq (Nat.le_refl _) (Nat.le_refl _) d_Si_entriesLeft_38 ⟨rfl, rfl, rfl⟩
    | succ m ih =>
      intro k he
      have hk : k < 8 := by omega
      refine z_iload_n hx 0 d_Si_entriesLeft_4 rfl ?_
      refine z_aload_n hx 2 d_Si_entriesLeft_5 rfl ?_
      refine z_get hx k_Si (t := 100 + i) (Lay_Si hi ho) 4 (by decide) a2_91 rfl d_Si_entriesLeft_6 ?_
      refine z_alen hx 5 rfl (t := 150 + i) (Lay_ress hi ho) (v := 8) rfl d_Si_entriesLeft_9 ?_
      refine z_icmp_ge (tgt := 37) hx d_Si_entriesLeft_10 (by decide) (fun h => absurd h (nI_nleL 8 rfl hk (by decide))) (fun _ => ?_)
      refine z_aload_n hx 2 d_Si_entriesLeft_13 rfl ?_
      refine z_iload_n hx 0 d_Si_entriesLeft_14 rfl ?_
      refine z_cV hx (c_Si_reserveFor hi hk ho) k_Si (Lay_Si hi ho) ⟨a3_80, a3_25, a1_13, ⟨by decide +kernel, by decide +kernel⟩, fun sig h => by cases h; rfl⟩ a3_23 a3_24 rfl rfl d_Si_entriesLeft_15 (by rw [hrm]; exact ⟨Nat.le_of_ble_eq_true rfl, Nat.le_of_ble_eq_true rfl, Nat.le_of_ble_eq_true rfl, Nat.le_of_ble_eq_true rfl⟩) ?_
      show zV x ad (Lay K ad S) _ _ _ 18 [.ref (ad (200 + 8 * i + k))]
      refine z_astore_n hx [(3, .ref (ad (200 + 8 * i + k))), (2, .int (nI k)), (1, .int (elF S i k)), (0, .ref (ad (100 + i)))] d_Si_entriesLeft_18 rfl (zN hml (by decide)) rfl ?_
      refine z_iload_n hx 2 d_Si_entriesLeft_19 rfl ?_
      refine z_aload_n hx 0 d_Si_entriesLeft_20 rfl ?_
      refine z_getN hx k_Re (t := 200 + 8 * i + k) (Lay_Re hi hk ho) 1 (by decide) a2_76 rfl d_Si_entriesLeft_21 ?_
      refine z_aload_n hx 0 d_Si_entriesLeft_24 rfl ?_
      refine z_getN hx k_Re (t := 200 + 8 * i + k) (Lay_Re hi hk ho) 2 (by decide) a2_79 rfl d_Si_entriesLeft_25 ?_
      refine z_isub hx d_Si_entriesLeft_28 ?_
      refine z_iadd hx d_Si_entriesLeft_29 ?_
      refine z_top (b := elF S i (k + 1)) rfl ?_
      refine z_istore_n hx [(1, .int (elF S i (k + 1))), (3, .ref (ad (200 + 8 * i + k))), (2, .int (nI k)), (0, .ref (ad (100 + i)))] d_Si_entriesLeft_30 rfl (zN hml (by decide)) rfl ?_
      refine z_iinc (v := nI (k + 1)) hx 2 [(2, .int (nI (k + 1))), (1, .int (elF S i (k + 1))), (3, .ref (ad (200 + 8 * i + k))), (0, .ref (ad (100 + i)))] d_Si_entriesLeft_31 rfl (nI_1 k) (zN hml (by decide)) rfl ?_
      refine z_goto (tgt := 4) hx d_Si_entriesLeft_34 (by decide) ?_
      exact z_lv [0, 1, 3] _ rfl (ih (k + 1) (by omega))
  show zV x ad (Lay K ad S) 0 0 [(0, .ref (ad (100 + i)))] 0 []
  refine z_iconst (v := 0) hx d_Si_entriesLeft_0 rfl ?_
  refine z_top (b := elF S i 0) rfl ?_
  refine z_istore_n hx [(1, .int (elF S i 0)), (0, .ref (ad (100 + i)))] d_Si_entriesLeft_1 rfl (zN hml (by decide)) rfl ?_
  refine z_iconst (v := 0) hx d_Si_entriesLeft_2 rfl ?_
  refine z_top (b := nI 0) rfl ?_
  refine z_istore_n hx [(2, .int (nI 0)), (1, .int (elF S i 0)), (0, .ref (ad (100 + i)))] d_Si_entriesLeft_3 rfl (zN hml (by decide)) rfl ?_
  exact z_lv [0, 1, 2] _ rfl (loop 8 0 (by omega))
set_option maxRecDepth 20000 in
theorem c_Si_dropReserves {l : Launch} {D : va_G} {K : Nat → ClassId} {ad : Nat → Nat} {S : zSt} {i : Nat} (hi : i < 10) (ho : S.2.2 9 i ≠ 0) : zC l TB D zcls (ztyl K) y_Si_dropReserves (.code y_Si_dropReserves b_Si_dropReserves 2 (none : Option FieldType)) (rmk 1 21) [.ref (ad (100 + i))] ad (Lay K ad S) (zP K ad none (dropF S i 8)) := by
  refine zC.of (by decide +kernel) (Nat.le_of_ble_eq_true rfl) ?_
  intro x hx hr hml hnm hrm hq hNH
  have loop : ∀ (m k : Nat), k + m = 8 → zV x ad (Lay K ad (dropF S i k)) 0 0 [(1, .int (nI k)), (0, .ref (ad (100 + i)))] 2 [] := by
    intro m
    induction m with
    | zero =>
      intro k he
      obtain rfl : k = 8 := by omega
      refine z_iload_n hx 0 d_Si_dropReserves_2 rfl ?_
      refine z_aload_n hx 1 d_Si_dropReserves_3 rfl ?_
      refine z_get hx k_Si (t := 100 + i) (Lay_Si hi (by rw [dropF_n (by omega)]; exact ho)) 4 (by decide) a2_91 rfl d_Si_dropReserves_4 ?_
      refine z_alen hx 5 rfl (t := 150 + i) (Lay_ress hi (by rw [dropF_n (by omega)]; exact ho)) (v := 8) rfl d_Si_dropReserves_7 ?_
      refine z_icmp_ge (tgt := 25) hx d_Si_dropReserves_8 (by decide) (fun _ => ?_) (fun h => absurd (by decide) h)
      exact z_vret hx hr hq (Nat.le_refl _) (Nat.le_refl _) d_Si_dropReserves_25 ⟨rfl, rfl, rfl⟩
    | succ m ih =>
      intro k he
      have hk : k < 8 := by omega
      refine z_iload_n hx 0 d_Si_dropReserves_2 rfl ?_
      refine z_aload_n hx 1 d_Si_dropReserves_3 rfl ?_
      refine z_get hx k_Si (t := 100 + i) (Lay_Si hi (by rw [dropF_n (by omega)]; exact ho)) 4 (by decide) a2_91 rfl d_Si_dropReserves_4 ?_
      refine z_alen hx 5 rfl (t := 150 + i) (Lay_ress hi (by rw [dropF_n (by omega)]; exact ho)) (v := 8) rfl d_Si_dropReserves_7 ?_
      refine z_icmp_ge (tgt := 25) hx d_Si_dropReserves_8 (by decide) (fun h => absurd h (nI_nleL 8 rfl hk (by decide))) (fun _ => ?_)
      refine z_aload_n hx 1 d_Si_dropReserves_11 rfl ?_
      refine z_iload_n hx 0 d_Si_dropReserves_12 rfl ?_
      refine z_cV hx (c_Si_reserveFor hi hk (by rw [dropF_n (by omega)]; exact ho)) k_Si (Lay_Si hi (by rw [dropF_n (by omega)]; exact ho)) ⟨a3_80, a3_25, a1_13, ⟨by decide +kernel, by decide +kernel⟩, fun sig h => by cases h; rfl⟩ a3_23 a3_24 rfl rfl d_Si_dropReserves_13 (by rw [hrm]; exact ⟨Nat.le_of_ble_eq_true rfl, Nat.le_of_ble_eq_true rfl, Nat.le_of_ble_eq_true rfl, Nat.le_of_ble_eq_true rfl⟩) ?_
      show zV x ad (Lay K ad (dropF S i k)) _ _ _ 16 [.ref (ad (200 + 8 * i + k))]
      refine z_cV hx (c_Re_drop hi hk (by rw [dropF_n (by omega)]; exact ho)) k_Re (Lay_Re hi hk (by rw [dropF_n (by omega)]; exact ho)) ⟨a3_81, a3_84, a1_14, ⟨by decide +kernel, by decide +kernel⟩, fun sig h => by cases h; rfl⟩ a3_82 a3_83 rfl rfl d_Si_dropReserves_16 (by rw [hrm]; exact ⟨Nat.le_of_ble_eq_true rfl, Nat.le_of_ble_eq_true rfl, Nat.le_of_ble_eq_true rfl, Nat.le_of_ble_eq_true rfl⟩) ?_
      show zV x ad (Lay K ad (stM (stM (dropF S i k) (200 + 8 * i + k) 1 0) (200 + 8 * i + k) 2 0)) _ _ _ 19 []
      refine z_iinc (v := nI (k + 1)) hx 0 [(1, .int (nI (k + 1))), (0, .ref (ad (100 + i)))] d_Si_dropReserves_19 rfl (nI_1 k) (zN hml (by decide)) rfl ?_
      refine z_goto (tgt := 2) hx d_Si_dropReserves_22 (by decide) ?_
      exact z_lv [0, 1] _ rfl (ih (k + 1) (by omega))
  show zV x ad (Lay K ad S) 0 0 [(0, .ref (ad (100 + i)))] 0 []
  refine z_iconst (v := 0) hx d_Si_dropReserves_0 rfl ?_
  refine z_top (b := nI 0) rfl ?_
  refine z_istore_n hx [(1, .int (nI 0)), (0, .ref (ad (100 + i)))] d_Si_dropReserves_1 rfl (zN hml (by decide)) rfl ?_
  exact z_lv [0, 1] _ rfl (loop 8 0 (by omega))
set_option maxRecDepth 20000 in
theorem c_St_restart {l : Launch} {D : va_G} {K : Nat → ClassId} {ad : Nat → Nat} {S : zSt} {s : Nat} (hs : s < 8) {w : Int64} : zC l TB D zcls (ztyl K) y_St_restart (.code y_St_restart b_St_restart 4 (none : Option FieldType)) (rmk 0 0) [.ref (ad (40 + s)), .ref (ad 1), .long w] ad (Lay K ad S) (zP K ad none (if w ^^^ (S.2.2 (40 + s) 0 + 1).toInt64 * (-7046029254386353131) = 0 then stM (stL (stL (stP S (40 + s) 1) (40 + s) 4 (w ^^^ (S.2.2 (40 + s) 0 + 1).toInt64 * (-7046029254386353131))) (40 + s) 4 1) (40 + s) 5 0 else stM (stL (stP S (40 + s) 1) (40 + s) 4 (w ^^^ (S.2.2 (40 + s) 0 + 1).toInt64 * (-7046029254386353131))) (40 + s) 5 0)) := by
  refine zC.of (by decide +kernel) (Nat.le_of_ble_eq_true rfl) ?_
  intro x hx hr hml hnm hrm hq hNH
  show zV x ad (Lay K ad S) 0 0 [(0, .ref (ad (40 + s))), (1, .ref (ad 1)), (2, .long w)] 0 []
  refine z_aload_n hx 0 d_St_restart_0 rfl ?_
  refine z_aload_n hx 1 d_St_restart_1 rfl ?_
  refine z_put hx k_St (t := 40 + s) (Lay_St hs) 2 (by decide) a1_101 rfl rfl rfl (Nat.le_of_ble_eq_true rfl) d_St_restart_2 (ce1 := Lay K ad (stP S (40 + s) 1)) (put_StP hs) ?_
  refine z_aload_n hx 0 d_St_restart_5 rfl ?_
  refine z_lload_n hx 2 d_St_restart_6 rfl ?_
  refine z_aload_n hx 0 d_St_restart_7 rfl ?_
  refine z_get hx k_St (t := 40 + s) (Lay_St hs) 0 (by decide) a1_99 rfl d_St_restart_8 ?_
  refine z_top (b := S.2.2 (40 + s) 0) rfl ?_
  refine z_iconst (v := 1) hx d_St_restart_11 rfl ?_
  refine z_iadd hx d_St_restart_12 ?_
  refine z_i2l hx d_St_restart_13 ?_
  refine z_ldc2 (v := (-7046029254386353131)) hx d_St_restart_14 a2_52 ?_
  refine z_lmul hx d_St_restart_17 ?_
  refine z_lxor hx d_St_restart_18 ?_
  refine z_put hx k_St (t := 40 + s) (Lay_St hs) 4 (by decide) a1_103 rfl rfl rfl (Nat.le_of_ble_eq_true rfl) d_St_restart_19 (ce1 := Lay K ad (stL (stP S (40 + s) 1) (40 + s) 4 (w ^^^ ((((S.2.2 (40 + s) 0) + 1).toInt64) * ((-7046029254386353131)))))) (put_St4 hs) ?_
  refine z_aload_n hx 0 d_St_restart_22 rfl ?_
  refine z_get hx k_St (t := 40 + s) (Lay_St hs) 4 (by decide) a1_103 rfl d_St_restart_23 ?_
  refine z_lconst (v := 0) hx d_St_restart_26 rfl ?_
  refine z_lcmp hx d_St_restart_27 ?_
  refine z_if_ne (tgt := 36) hx d_St_restart_28 (by decide) (fun h1 => ?_) (fun h1 => ?_)
  · refine z_aload_n hx 0 d_St_restart_36 rfl ?_
    refine z_iconst (v := 0) hx d_St_restart_37 rfl ?_
    refine z_put hx k_St (t := 40 + s) (Lay_St hs) 5 (by decide) a1_104 rfl rfl rfl (Nat.le_of_ble_eq_true rfl) d_St_restart_38 (ce1 := Lay K ad (stM (stL (stP S (40 + s) 1) (40 + s) 4 (w ^^^ ((((S.2.2 (40 + s) 0) + 1).toInt64) * ((-7046029254386353131))))) (40 + s) 5 0)) (put_St5 hs) ?_
    exact z_vret hx hr hq (Nat.le_refl _) (Nat.le_refl _) d_St_restart_41 ⟨rfl, rfl, by rw [if_neg (fun z => h1 ((lg_cmp_eq _ _).mpr (by rw [← z]; first | rfl | simp [stL, vp_updL])))]⟩
  · refine z_aload_n hx 0 d_St_restart_31 rfl ?_
    refine z_lconst (v := 1) hx d_St_restart_32 rfl ?_
    refine z_put hx k_St (t := 40 + s) (Lay_St hs) 4 (by decide) a1_103 rfl rfl rfl (Nat.le_of_ble_eq_true rfl) d_St_restart_33 (ce1 := Lay K ad (stL (stL (stP S (40 + s) 1) (40 + s) 4 (w ^^^ ((((S.2.2 (40 + s) 0) + 1).toInt64) * ((-7046029254386353131))))) (40 + s) 4 1)) (put_St4 hs) ?_
    refine z_aload_n hx 0 d_St_restart_36 rfl ?_
    refine z_iconst (v := 0) hx d_St_restart_37 rfl ?_
    refine z_put hx k_St (t := 40 + s) (Lay_St hs) 5 (by decide) a1_104 rfl rfl rfl (Nat.le_of_ble_eq_true rfl) d_St_restart_38 (ce1 := Lay K ad (stM (stL (stL (stP S (40 + s) 1) (40 + s) 4 (w ^^^ ((((S.2.2 (40 + s) 0) + 1).toInt64) * ((-7046029254386353131))))) (40 + s) 4 1) (40 + s) 5 0)) (put_St5 hs) ?_
    exact z_vret hx hr hq (Nat.le_refl _) (Nat.le_refl _) d_St_restart_41 ⟨rfl, rfl, by rw [if_pos (by have z := (lg_cmp_eq _ _).mp h1; first | exact z | simpa [stL, vp_updL] using z)]⟩
set_option maxRecDepth 20000 in
theorem c_St_takeBlock {l : Launch} {D : va_G} {K : Nat → ClassId} {ad : Nat → Nat} {S : zSt} {s : Nat} (hs : s < 8) : zC l TB D zcls (ztyl K) y_St_takeBlock (.code y_St_takeBlock b_St_takeBlock 1 (some FieldType.int)) (rmk 0 0) [.ref (ad (40 + s))] ad (Lay K ad S) (zP K ad (some (.int (S.2.2 (40 + s) 6 + 1 - 1))) (stM S (40 + s) 6 (S.2.2 (40 + s) 6 + 1))) := by
  refine zC.of (by decide +kernel) (Nat.le_of_ble_eq_true rfl) ?_
  intro x hx hr hml hnm hrm hq hNH
  show zV x ad (Lay K ad S) 0 0 [(0, .ref (ad (40 + s)))] 0 []
  refine z_aload_n hx 0 d_St_takeBlock_0 rfl ?_
  refine z_dup hx d_St_takeBlock_1 rfl ?_
  refine z_get hx k_St (t := 40 + s) (Lay_St hs) 6 (by decide) a1_105 rfl d_St_takeBlock_2 ?_
  refine z_iconst (v := 1) hx d_St_takeBlock_5 rfl ?_
  refine z_iadd hx d_St_takeBlock_6 ?_
  refine z_put hx k_St (t := 40 + s) (Lay_St hs) 6 (by decide) a1_105 rfl rfl rfl (Nat.le_of_ble_eq_true rfl) d_St_takeBlock_7 (ce1 := Lay K ad (stM S (40 + s) 6 ((S.2.2 (40 + s) 6) + 1))) (put_St6 hs) ?_
  refine z_aload_n hx 0 d_St_takeBlock_10 rfl ?_
  refine z_get hx k_St (t := 40 + s) (Lay_St hs) 6 (by decide) a1_105 rfl d_St_takeBlock_11 ?_
  refine z_top (b := S.2.2 (40 + s) 6 + 1) (by rw [stM_s]; rfl) ?_
  refine z_iconst (v := 1) hx d_St_takeBlock_14 rfl ?_
  refine z_isub hx d_St_takeBlock_15 ?_
  exact z_iret hx hr rfl hq (Nat.le_refl _) (Nat.le_refl _) d_St_takeBlock_16 ⟨rfl, rfl, rfl⟩
set_option maxRecDepth 20000 in
theorem c_St_addKnown {l : Launch} {D : va_G} {K : Nat → ClassId} {ad : Nat → Nat} {S : zSt} {s : Nat} (hs : s < 8) {a : Nat} (ha : a < 4) : zC l TB D zcls (ztyl K) y_St_addKnown (.code y_St_addKnown b_St_addKnown 2 (none : Option FieldType)) (rmk 0 0) [.ref (ad (40 + s)), .int (nI a)] ad (Lay K ad S) (zP K ad none (stM S (50 + s) a (S.2.2 (50 + s) a + 1))) := by
  refine zC.of (by decide +kernel) (Nat.le_of_ble_eq_true rfl) ?_
  intro x hx hr hml hnm hrm hq hNH
  show zV x ad (Lay K ad S) 0 0 [(0, .ref (ad (40 + s))), (1, .int (nI a))] 0 []
  refine z_iload_n hx 1 d_St_addKnown_0 rfl ?_
  refine z_if_lt (tgt := 23) hx d_St_addKnown_1 (by decide) (fun h => absurd h (nI_pos (by omega))) (fun _ => ?_)
  refine z_iload_n hx 1 d_St_addKnown_4 rfl ?_
  refine z_aload_n hx 0 d_St_addKnown_5 rfl ?_
  refine z_get hx k_St (t := 40 + s) (Lay_St hs) 1 (by decide) a1_100 rfl d_St_addKnown_6 ?_
  refine z_alen hx 0 rfl (t := 50 + s) (Lay_kn hs) (v := 4) rfl d_St_addKnown_9 ?_
  refine z_icmp_ge (tgt := 23) hx d_St_addKnown_10 (by decide) (fun h => absurd h (nI_nleL 4 rfl ha (by decide))) (fun _ => ?_)
  refine z_aload_n hx 0 d_St_addKnown_13 rfl ?_
  refine z_get hx k_St (t := 40 + s) (Lay_St hs) 1 (by decide) a1_100 rfl d_St_addKnown_14 ?_
  refine z_iload_n hx 1 d_St_addKnown_17 rfl ?_
  refine z_dup2_11 hx d_St_addKnown_18 rfl rfl ?_
  refine z_ialdK hx 0 rfl (t := 50 + s) (Lay_kn hs) (k := a) (by omega) (by first | decide | omega) d_St_addKnown_19 ?_
  refine z_iconst (v := 1) hx d_St_addKnown_20 rfl ?_
  refine z_iadd hx d_St_addKnown_21 ?_
  refine z_iastK hx 0 rfl (t := 50 + s) (Lay_kn hs) (k := a) (by omega) (by first | decide | omega)  d_St_addKnown_22 (ce1 := Lay K ad (stM S (50 + s) a ((S.2.2 (50 + s) a) + 1))) (put_kn hs) ?_
  exact z_vret hx hr hq (Nat.le_refl _) (Nat.le_refl _) d_St_addKnown_23 ⟨rfl, rfl, rfl⟩
set_option maxRecDepth 20000 in
theorem c_St_knownWith {l : Launch} {D : va_G} {K : Nat → ClassId} {ad : Nat → Nat} {S : zSt} {s : Nat} (hs : s < 8) {a : Nat} (ha : a < 4) : zC l TB D zcls (ztyl K) y_St_knownWith (.code y_St_knownWith b_St_knownWith 2 (some FieldType.int)) (rmk 0 0) [.ref (ad (40 + s)), .int (nI a)] ad (Lay K ad S) (zP K ad (some (.int (S.2.2 (50 + s) a))) S) := by
  refine zC.of (by decide +kernel) (Nat.le_of_ble_eq_true rfl) ?_
  intro x hx hr hml hnm hrm hq hNH
  show zV x ad (Lay K ad S) 0 0 [(0, .ref (ad (40 + s))), (1, .int (nI a))] 0 []
  refine z_iload_n hx 1 d_St_knownWith_0 rfl ?_
  refine z_if_lt (tgt := 22) hx d_St_knownWith_1 (by decide) (fun h => absurd h (nI_pos (by omega))) (fun _ => ?_)
  refine z_iload_n hx 1 d_St_knownWith_4 rfl ?_
  refine z_aload_n hx 0 d_St_knownWith_5 rfl ?_
  refine z_get hx k_St (t := 40 + s) (Lay_St hs) 1 (by decide) a1_100 rfl d_St_knownWith_6 ?_
  refine z_alen hx 0 rfl (t := 50 + s) (Lay_kn hs) (v := 4) rfl d_St_knownWith_9 ?_
  refine z_icmp_ge (tgt := 22) hx d_St_knownWith_10 (by decide) (fun h => absurd h (nI_nleL 4 rfl ha (by decide))) (fun _ => ?_)
  refine z_aload_n hx 0 d_St_knownWith_13 rfl ?_
  refine z_get hx k_St (t := 40 + s) (Lay_St hs) 1 (by decide) a1_100 rfl d_St_knownWith_14 ?_
  refine z_iload_n hx 1 d_St_knownWith_17 rfl ?_
  refine z_ialdK hx 0 rfl (t := 50 + s) (Lay_kn hs) (k := a) (by omega) (by first | decide | omega) d_St_knownWith_18 ?_
  refine z_goto (tgt := 23) hx d_St_knownWith_19 (by decide) ?_
  exact z_iret hx hr rfl hq (Nat.le_refl _) (Nat.le_refl _) d_St_knownWith_23 ⟨rfl, rfl, rfl⟩
set_option maxRecDepth 20000 in
theorem c_St_armAt {l : Launch} {D : va_G} {K : Nat → ClassId} {ad : Nat → Nat} {S : zSt} {s : Nat} (hs : s < 8) (hg : S.1 (40 + s) = 1) {q B Z : Nat} (hB : S.2.2 (40 + s) 5 = nI B) (hZ : S.2.2 1 3 = nI Z) (hBZ : B * Z < 2 ^ 31) (hq0 : q < 2 ^ 31) (hL : S.1 (60 + s) < 2 ^ 31) : zC l TB D zcls (ztyl K) y_St_armAt (.code y_St_armAt b_St_armAt 2 (some FieldType.int)) (rmk 0 0) [.ref (ad (40 + s)), .int (nI q)] ad (Lay K ad S) (zP K ad (some (.int (if q < B * Z ∧ q < S.1 (60 + s) then S.2.2 (60 + s) q else -1))) S) := by
  refine zC.of (by decide +kernel) (Nat.le_of_ble_eq_true rfl) ?_
  intro x hx hr hml hnm hrm hq hNH
  show zV x ad (Lay K ad S) 0 0 [(0, .ref (ad (40 + s))), (1, .int (nI q))] 0 []
  refine z_iload_n hx 1 d_St_armAt_0 rfl ?_
  refine z_if_lt (tgt := 38) hx d_St_armAt_1 (by decide) (fun h => absurd h (nI_pos hq0)) (fun _ => ?_)
  refine z_iload_n hx 1 d_St_armAt_4 rfl ?_
  refine z_aload_n hx 0 d_St_armAt_5 rfl ?_
  refine z_get hx k_St (t := 40 + s) (Lay_StT (S := S) hs hg) 5 (by decide) a1_104 rfl d_St_armAt_6 ?_
  refine z_top (b := nI B) hB ?_
  refine z_aload_n hx 0 d_St_armAt_9 rfl ?_
  refine z_get hx k_St (t := 40 + s) (Lay_StT (S := S) hs hg) 2 (by decide) a1_101 rfl d_St_armAt_10 ?_
  refine z_getN hx k_Pl (t := 1) rfl 3 (by decide) a1_39 rfl d_St_armAt_13 ?_
  refine z_top (b := nI Z) hZ ?_
  refine z_imul hx d_St_armAt_16 ?_
  refine z_top (b := nI (B * Z)) (pk_mul B Z) ?_
  refine z_icmp_ge (tgt := 38) hx d_St_armAt_17 (by decide) (fun h1 => ?_) (fun h1 => ?_)
  · refine z_iconst (v := (-1)) hx d_St_armAt_38 rfl ?_
    exact z_iret hx hr rfl hq (Nat.le_refl _) (Nat.le_refl _) d_St_armAt_39 ⟨by rw [if_neg (fun z => absurd z.1 (by have := zle_nI h1 hBZ hq0; omega))], rfl, rfl⟩
  · refine z_iload_n hx 1 d_St_armAt_20 rfl ?_
    refine z_aload_n hx 0 d_St_armAt_21 rfl ?_
    refine z_get hx k_St (t := 40 + s) (Lay_StT (S := S) hs hg) 3 (by decide) a1_102 rfl d_St_armAt_22 ?_
    refine z_alen hx 0 rfl (t := 60 + s) (Lay_li hs) (v := nI (S.1 (60 + s))) rfl d_St_armAt_25 ?_
    refine z_icmp_ge (tgt := 38) hx d_St_armAt_26 (by decide) (fun h2 => ?_) (fun h2 => ?_)
    · refine z_iconst (v := (-1)) hx d_St_armAt_38 rfl ?_
      exact z_iret hx hr rfl hq (Nat.le_refl _) (Nat.le_refl _) d_St_armAt_39 ⟨by rw [if_neg (fun z => absurd z.2 (by have := zle_nI h2 hL hq0; omega))], rfl, rfl⟩
    · refine z_aload_n hx 0 d_St_armAt_29 rfl ?_
      refine z_get hx k_St (t := 40 + s) (Lay_StT (S := S) hs hg) 3 (by decide) a1_102 rfl d_St_armAt_30 ?_
      refine z_iload_n hx 1 d_St_armAt_33 rfl ?_
      refine z_ialdK hx 0 rfl (t := 60 + s) (Lay_li hs) (k := q) (zlt_nI h2 hq0 hL) (by first | decide | omega) d_St_armAt_34 ?_
      refine z_goto (tgt := 39) hx d_St_armAt_35 (by decide) ?_
      exact z_iret hx hr rfl hq (Nat.le_refl _) (Nat.le_refl _) d_St_armAt_39 ⟨by rw [if_pos ⟨zlt_nI h1 hq0 hBZ, zlt_nI h2 hq0 hL⟩], rfl, rfl⟩
set_option maxRecDepth 20000 in
theorem c_St_armAt_neg {l : Launch} {D : va_G} {K : Nat → ClassId} {ad : Nat → Nat} {S : zSt} {s : Nat} (hs : s < 8) {v : Int32} (hv : v < 0) : zC l TB D zcls (ztyl K) y_St_armAt (.code y_St_armAt b_St_armAt 2 (some FieldType.int)) (rmk 0 0) [.ref (ad (40 + s)), .int v] ad (Lay K ad S) (zP K ad (some (.int (-1))) S) := by
  refine zC.of (by decide +kernel) (Nat.le_of_ble_eq_true rfl) ?_
  intro x hx hr hml hnm hrm hq hNH
  show zV x ad (Lay K ad S) 0 0 [(0, .ref (ad (40 + s))), (1, .int v)] 0 []
  refine z_iload_n hx 1 d_St_armAt_0 rfl ?_
  refine z_if_lt (tgt := 38) hx d_St_armAt_1 (by decide) (fun _ => ?_) (fun h => absurd hv h)
  refine z_iconst (v := (-1)) hx d_St_armAt_38 rfl ?_
  exact z_iret hx hr rfl hq (Nat.le_refl _) (Nat.le_refl _) d_St_armAt_39 ⟨rfl, rfl, rfl⟩
set_option maxRecDepth 20000 in
theorem c_St_takenArm {l : Launch} {D : va_G} {K : Nat → ClassId} {ad : Nat → Nat} {S : zSt} {s : Nat} (hs : s < 8) (hg : S.1 (40 + s) = 1) {q A B Z : Nat} (hB : S.2.2 (40 + s) 5 = nI B) (hA : S.2.2 (40 + s) 6 = nI A) (hZ : S.2.2 1 3 = nI Z) (hAZ : A * Z < 2 ^ 31) (hBZ : B * Z < 2 ^ 31) (hq0 : q < 2 ^ 31) (hL : S.1 (60 + s) < 2 ^ 31) : zC l TB D zcls (ztyl K) y_St_takenArm (.code y_St_takenArm b_St_takenArm 2 (some FieldType.int)) (rmk 1 21) [.ref (ad (40 + s)), .int (nI q)] ad (Lay K ad S) (zP K ad (some (.int (if q < A * Z then (if q < B * Z ∧ q < S.1 (60 + s) then S.2.2 (60 + s) q else -1) else -1))) S) := by
  refine zC.of (by decide +kernel) (Nat.le_of_ble_eq_true rfl) ?_
  intro x hx hr hml hnm hrm hq hNH
  show zV x ad (Lay K ad S) 0 0 [(0, .ref (ad (40 + s))), (1, .int (nI q))] 0 []
  refine z_iload_n hx 1 d_St_takenArm_0 rfl ?_
  refine z_aload_n hx 0 d_St_takenArm_1 rfl ?_
  refine z_get hx k_St (t := 40 + s) (Lay_StT (S := S) hs hg) 6 (by decide) a1_105 rfl d_St_takenArm_2 ?_
  refine z_top (b := nI A) hA ?_
  refine z_aload_n hx 0 d_St_takenArm_5 rfl ?_
  refine z_get hx k_St (t := 40 + s) (Lay_StT (S := S) hs hg) 2 (by decide) a1_101 rfl d_St_takenArm_6 ?_
  refine z_getN hx k_Pl (t := 1) rfl 3 (by decide) a1_39 rfl d_St_takenArm_9 ?_
  refine z_top (b := nI Z) hZ ?_
  refine z_imul hx d_St_takenArm_12 ?_
  refine z_top (b := nI (A * Z)) (pk_mul A Z) ?_
  refine z_icmp_ge (tgt := 24) hx d_St_takenArm_13 (by decide) (fun h1 => ?_) (fun h1 => ?_)
  · refine z_iconst (v := (-1)) hx d_St_takenArm_24 rfl ?_
    exact z_iret hx hr rfl hq (Nat.le_refl _) (Nat.le_refl _) d_St_takenArm_25 ⟨by rw [if_neg (by have := zle_nI h1 hAZ hq0; omega)], rfl, rfl⟩
  · refine z_aload_n hx 0 d_St_takenArm_16 rfl ?_
    refine z_iload_n hx 1 d_St_takenArm_17 rfl ?_
    refine z_cV hx (c_St_armAt hs hg hB hZ hBZ hq0 hL) k_St (Lay_StT (S := S) hs hg) ⟨a2_169, a2_172, a1_5, ⟨by decide +kernel, by decide +kernel⟩, fun sig h => by cases h; rfl⟩ a2_171 s_St_armAt rfl rfl d_St_takenArm_18 (by rw [hrm]; exact ⟨Nat.le_of_ble_eq_true rfl, Nat.le_of_ble_eq_true rfl, Nat.le_of_ble_eq_true rfl, Nat.le_of_ble_eq_true rfl⟩) ?_
    show zV x ad (Lay K ad S) _ _ _ 21 [.int (if q < B * Z ∧ q < S.1 (60 + s) then S.2.2 (60 + s) q else -1)]
    refine z_goto (tgt := 25) hx d_St_takenArm_21 (by decide) ?_
    exact z_iret hx hr rfl hq (Nat.le_refl _) (Nat.le_refl _) d_St_takenArm_25 ⟨by rw [if_pos (zlt_nI h1 hq0 hAZ)], rfl, rfl⟩
set_option maxRecDepth 20000 in
theorem c_St_takenArm_neg {l : Launch} {D : va_G} {K : Nat → ClassId} {ad : Nat → Nat} {S : zSt} {s : Nat} (hs : s < 8) (hg : S.1 (40 + s) = 1) {A Z : Nat} (hA : S.2.2 (40 + s) 6 = nI A) (hZ : S.2.2 1 3 = nI Z) (hAZ : A * Z < 2 ^ 31) {v : Int32} (hv : v < 0) : zC l TB D zcls (ztyl K) y_St_takenArm (.code y_St_takenArm b_St_takenArm 2 (some FieldType.int)) (rmk 1 21) [.ref (ad (40 + s)), .int v] ad (Lay K ad S) (zP K ad (some (.int (-1))) S) := by
  refine zC.of (by decide +kernel) (Nat.le_of_ble_eq_true rfl) ?_
  intro x hx hr hml hnm hrm hq hNH
  show zV x ad (Lay K ad S) 0 0 [(0, .ref (ad (40 + s))), (1, .int v)] 0 []
  refine z_iload_n hx 1 d_St_takenArm_0 rfl ?_
  refine z_aload_n hx 0 d_St_takenArm_1 rfl ?_
  refine z_get hx k_St (t := 40 + s) (Lay_StT (S := S) hs hg) 6 (by decide) a1_105 rfl d_St_takenArm_2 ?_
  refine z_top (b := nI A) hA ?_
  refine z_aload_n hx 0 d_St_takenArm_5 rfl ?_
  refine z_get hx k_St (t := 40 + s) (Lay_StT (S := S) hs hg) 2 (by decide) a1_101 rfl d_St_takenArm_6 ?_
  refine z_getN hx k_Pl (t := 1) rfl 3 (by decide) a1_39 rfl d_St_takenArm_9 ?_
  refine z_top (b := nI Z) hZ ?_
  refine z_imul hx d_St_takenArm_12 ?_
  refine z_top (b := nI (A * Z)) (pk_mul A Z) ?_
  refine z_icmp_ge (tgt := 24) hx d_St_takenArm_13 (by decide) (fun h => absurd h (fun z => absurd (Int32.lt_of_le_of_lt z hv) (nI_pos hAZ))) (fun _ => ?_)
  refine z_aload_n hx 0 d_St_takenArm_16 rfl ?_
  refine z_iload_n hx 1 d_St_takenArm_17 rfl ?_
  refine z_cV hx (c_St_armAt_neg hs hv) k_St (Lay_StT (S := S) hs hg) ⟨a2_169, a2_172, a1_5, ⟨by decide +kernel, by decide +kernel⟩, fun sig h => by cases h; rfl⟩ a2_171 s_St_armAt rfl rfl d_St_takenArm_18 (by rw [hrm]; exact ⟨Nat.le_of_ble_eq_true rfl, Nat.le_of_ble_eq_true rfl, Nat.le_of_ble_eq_true rfl, Nat.le_of_ble_eq_true rfl⟩) ?_
  show zV x ad (Lay K ad S) _ _ _ 21 [.int ((-1))]
  refine z_goto (tgt := 25) hx d_St_takenArm_21 (by decide) ?_
  exact z_iret hx hr rfl hq (Nat.le_refl _) (Nat.le_refl _) d_St_takenArm_25 ⟨rfl, rfl, rfl⟩
set_option maxRecDepth 20000 in
theorem c_St_takenArm_own {l : Launch} {D : va_G} {K : Nat → ClassId} {ad : Nat → Nat} {S : zSt} {s : Nat} (hs : s < 8) (hw : S.1 (40 + s) ≠ 1) {v : Int32} : zC l TB D zcls (ztyl K) y_St_takenArm (.code y_St_takenArm b_St_takenArm 2 (some FieldType.int)) (rmk 1 21) [.ref (ad (40 + s)), .int v] ad (Lay K ad S) (zP K ad (some (.int (-1))) S) := by
  refine zC.of (by decide +kernel) (Nat.le_of_ble_eq_true rfl) ?_
  intro x hx hr hml hnm hrm hq hNH
  show zV x ad (Lay K ad S) 0 0 [(0, .ref (ad (40 + s))), (1, .int v)] 0 []
  refine z_iload_n hx 1 d_St_takenArm_0 rfl ?_
  refine z_aload_n hx 0 d_St_takenArm_1 rfl ?_
  refine z_get hx k_St (t := 40 + s) (Lay_StW hs hw) 6 (by decide) a1_105 rfl d_St_takenArm_2 ?_
  refine z_aload_n hx 0 d_St_takenArm_5 rfl ?_
  refine z_get hx k_St (t := 40 + s) (Lay_StW hs hw) 2 (by decide) a1_101 rfl d_St_takenArm_6 ?_
  refine z_getN hx k_Pl (t := 70 + s) (Lay_pw hs) 3 (by decide) a1_39 rfl d_St_takenArm_9 ?_
  refine z_top (b := 0) rfl ?_
  refine z_imul hx d_St_takenArm_12 ?_
  refine z_top (b := 0) (by first | exact Int32.mul_zero | exact Int32.mul_zero _ | simp) ?_
  refine z_icmp_ge (tgt := 24) hx d_St_takenArm_13 (by decide) (fun h1 => ?_) (fun h1 => ?_)
  · refine z_iconst (v := (-1)) hx d_St_takenArm_24 rfl ?_
    exact z_iret hx hr rfl hq (Nat.le_refl _) (Nat.le_refl _) d_St_takenArm_25 ⟨rfl, rfl, rfl⟩
  · refine z_aload_n hx 0 d_St_takenArm_16 rfl ?_
    refine z_iload_n hx 1 d_St_takenArm_17 rfl ?_
    refine z_cV hx (c_St_armAt_neg hs (Int32.not_le.mp h1)) k_St (Lay_StW hs hw) ⟨a2_169, a2_172, a1_5, ⟨by decide +kernel, by decide +kernel⟩, fun sig h => by cases h; rfl⟩ a2_171 s_St_armAt rfl rfl d_St_takenArm_18 (by rw [hrm]; exact ⟨Nat.le_of_ble_eq_true rfl, Nat.le_of_ble_eq_true rfl, Nat.le_of_ble_eq_true rfl, Nat.le_of_ble_eq_true rfl⟩) ?_
    show zV x ad (Lay K ad S) _ _ _ 21 [.int ((-1))]
    refine z_goto (tgt := 25) hx d_St_takenArm_21 (by decide) ?_
    exact z_iret hx hr rfl hq (Nat.le_refl _) (Nat.le_refl _) d_St_takenArm_25 ⟨rfl, rfl, rfl⟩
