set_option maxRecDepth 20000 in
theorem c_Sh_tally {l : Launch} {D : va_G} {K : Nat → ClassId} {ad : Nat → Nat} {S : zSt} {s w : Int32} : zC l TB D zcls (ztyl K) y_Sh_tally (.code y_Sh_tally b_Sh_tally 5 (some FieldType.int)) (rmk 0 0) [.ref (ad 4), .int s, .int w] ad (Lay K ad S) (zP K ad (some (.int (nI (cntI (fun q => decide (S.2.2 7 q = w ∧ S.2.2 5 q = s)) 1000)))) S) := by
  refine zC.of (by decide +kernel) (Nat.le_of_ble_eq_true rfl) ?_
  intro x hx hr hml hnm hrm hq hNH
  have loop : ∀ (m k : Nat), k + m = 1000 → zV x ad (Lay K ad S) 0 0 [(4, .int (nI k)), (3, .int (nI (cntI (fun q => decide (S.2.2 7 q = w ∧ S.2.2 5 q = s)) k))), (0, .ref (ad 4)), (1, .int s), (2, .int w)] 5 [] := by
    intro m
    induction m with
    | zero =>
      intro k he
      obtain rfl : k = 1000 := by omega
      refine z_iload hx 0 d_Sh_tally_5 rfl ?_
      refine z_sipush (v := 1000) hx d_Sh_tally_7 rfl ?_
      refine z_icmp_ge (tgt := 44) hx d_Sh_tally_10 (by decide) (fun _ => ?_) (fun h => absurd (by decide) h)
      refine z_iload_n hx 1 d_Sh_tally_44 rfl ?_
      exact z_iret hx hr rfl hq (Nat.le_refl _) (Nat.le_refl _) d_Sh_tally_45 ⟨rfl, rfl, rfl⟩
    | succ m ih =>
      intro k he
      have hk : k < 1000 := by omega
      refine z_iload hx 0 d_Sh_tally_5 rfl ?_
      refine z_sipush (v := 1000) hx d_Sh_tally_7 rfl ?_
      refine z_icmp_ge (tgt := 44) hx d_Sh_tally_10 (by decide) (fun h => absurd h (nI_nleL 1000 rfl hk (by decide))) (fun _ => ?_)
      refine z_aload_n hx 2 d_Sh_tally_13 rfl ?_
      refine z_get hx k_Sh (t := 4) rfl 2 (by decide) a1_77 rfl d_Sh_tally_14 ?_
      refine z_iload hx 0 d_Sh_tally_17 rfl ?_
      refine z_ialdK hx 0 rfl (t := 7) rfl (k := k) (by omega) (by first | decide | omega) d_Sh_tally_19 ?_
      refine z_iload_n hx 4 d_Sh_tally_20 rfl ?_
      refine z_icmp_ne (tgt := 38) hx d_Sh_tally_21 (by decide) (fun h1 => ?_) (fun h1 => ?_)
      · refine z_iinc (v := nI (k + 1)) hx 0 [(4, .int (nI (k + 1))), (3, .int (nI (cntI (fun q => decide (S.2.2 7 q = w ∧ S.2.2 5 q = s)) k))), (0, .ref (ad 4)), (1, .int s), (2, .int w)] d_Sh_tally_38 rfl (nI_1 k) (zN hml (by decide)) rfl ?_
        refine z_goto (tgt := 5) hx d_Sh_tally_41 (by decide) ?_
        have q9 := ih (k + 1) (by omega)
        rw [show cntI (fun q => decide (S.2.2 7 q = w ∧ S.2.2 5 q = s)) (k + 1) = cntI (fun q => decide (S.2.2 7 q = w ∧ S.2.2 5 q = s)) k from by simp [cntI, h1]] at q9
        exact z_lv [0, 1, 2, 3, 4] _ rfl q9
      · refine z_aload_n hx 2 d_Sh_tally_24 rfl ?_
        refine z_get hx k_Sh (t := 4) rfl 0 (by decide) a1_75 rfl d_Sh_tally_25 ?_
        refine z_iload hx 0 d_Sh_tally_28 rfl ?_
        refine z_ialdK hx 0 rfl (t := 5) rfl (k := k) (by omega) (by first | decide | omega) d_Sh_tally_30 ?_
        refine z_iload_n hx 3 d_Sh_tally_31 rfl ?_
        refine z_icmp_ne (tgt := 38) hx d_Sh_tally_32 (by decide) (fun h2 => ?_) (fun h2 => ?_)
        · refine z_iinc (v := nI (k + 1)) hx 0 [(4, .int (nI (k + 1))), (3, .int (nI (cntI (fun q => decide (S.2.2 7 q = w ∧ S.2.2 5 q = s)) k))), (0, .ref (ad 4)), (1, .int s), (2, .int w)] d_Sh_tally_38 rfl (nI_1 k) (zN hml (by decide)) rfl ?_
          refine z_goto (tgt := 5) hx d_Sh_tally_41 (by decide) ?_
          have q9 := ih (k + 1) (by omega)
          rw [show cntI (fun q => decide (S.2.2 7 q = w ∧ S.2.2 5 q = s)) (k + 1) = cntI (fun q => decide (S.2.2 7 q = w ∧ S.2.2 5 q = s)) k from by simp [cntI, h1, h2]] at q9
          exact z_lv [0, 1, 2, 3, 4] _ rfl q9
        · refine z_iinc (v := nI (cntI (fun q => decide (S.2.2 7 q = w ∧ S.2.2 5 q = s)) k + 1)) hx 1 [(3, .int (nI (cntI (fun q => decide (S.2.2 7 q = w ∧ S.2.2 5 q = s)) k + 1))), (4, .int (nI k)), (0, .ref (ad 4)), (1, .int s), (2, .int w)] d_Sh_tally_35 rfl (nI_1 _) (zN hml (by decide)) rfl ?_
          refine z_iinc (v := nI (k + 1)) hx 1 [(4, .int (nI (k + 1))), (3, .int (nI (cntI (fun q => decide (S.2.2 7 q = w ∧ S.2.2 5 q = s)) k + 1))), (0, .ref (ad 4)), (1, .int s), (2, .int w)] d_Sh_tally_38 rfl (nI_1 k) (zN hml (by decide)) rfl ?_
          refine z_goto (tgt := 5) hx d_Sh_tally_41 (by decide) ?_
          have q9 := ih (k + 1) (by omega)
          rw [show cntI (fun q => decide (S.2.2 7 q = w ∧ S.2.2 5 q = s)) (k + 1) = cntI (fun q => decide (S.2.2 7 q = w ∧ S.2.2 5 q = s)) k + 1 from by simp [cntI, h1, h2]] at q9
          exact z_lv [0, 1, 2, 3, 4] _ rfl q9
  show zV x ad (Lay K ad S) 0 0 [(0, .ref (ad 4)), (1, .int s), (2, .int w)] 0 []
  refine z_iconst (v := 0) hx d_Sh_tally_0 rfl ?_
  refine z_top (b := nI (cntI (fun q => decide (S.2.2 7 q = w ∧ S.2.2 5 q = s)) 0)) rfl ?_
  refine z_istore_n hx [(3, .int (nI (cntI (fun q => decide (S.2.2 7 q = w ∧ S.2.2 5 q = s)) 0))), (0, .ref (ad 4)), (1, .int s), (2, .int w)] d_Sh_tally_1 rfl (zN hml (by decide)) rfl ?_
  refine z_iconst (v := 0) hx d_Sh_tally_2 rfl ?_
  refine z_top (b := nI 0) rfl ?_
  refine z_istore hx [(4, .int (nI 0)), (3, .int (nI (cntI (fun q => decide (S.2.2 7 q = w ∧ S.2.2 5 q = s)) 0))), (0, .ref (ad 4)), (1, .int s), (2, .int w)] d_Sh_tally_3 (zN hml (by decide)) rfl ?_
  exact z_lv [0, 1, 2, 3, 4] _ rfl (loop 1000 0 (by omega))
set_option maxRecDepth 20000 in
theorem c_Sh_tallyFree {l : Launch} {D : va_G} {K : Nat → ClassId} {ad : Nat → Nat} {S : zSt} {s r : Int32} : zC l TB D zcls (ztyl K) y_Sh_tallyFree (.code y_Sh_tallyFree b_Sh_tallyFree 5 (some FieldType.int)) (rmk 2 43) [.ref (ad 4), .int s, .int r] ad (Lay K ad S) (zP K ad (some (.int (nI (cntI (fun q => decide (S.2.2 7 q = 1 ∧ S.2.2 5 q = s ∧ S.2.2 6 q = r)) 1000)))) S) := by
  refine zC.of (by decide +kernel) (Nat.le_of_ble_eq_true rfl) ?_
  intro x hx hr hml hnm hrm hq hNH
  have loop : ∀ (m k : Nat), k + m = 1000 → zV x ad (Lay K ad S) 0 0 [(4, .int (nI k)), (3, .int (nI (cntI (fun q => decide (S.2.2 7 q = 1 ∧ S.2.2 5 q = s ∧ S.2.2 6 q = r)) k))), (0, .ref (ad 4)), (1, .int s), (2, .int r)] 5 [] := by
    intro m
    induction m with
    | zero =>
      intro k he
      obtain rfl : k = 1000 := by omega
      refine z_iload hx 0 d_Sh_tallyFree_5 rfl ?_
      refine z_sipush (v := 1000) hx d_Sh_tallyFree_7 rfl ?_
      refine z_icmp_ge (tgt := 33) hx d_Sh_tallyFree_10 (by decide) (fun _ => ?_) (fun h => absurd (by decide) h)
      refine z_iload_n hx 1 d_Sh_tallyFree_33 rfl ?_
      exact z_iret hx hr rfl hq (Nat.le_refl _) (Nat.le_refl _) d_Sh_tallyFree_34 ⟨rfl, rfl, rfl⟩
    | succ m ih =>
      intro k he
      have hk : k < 1000 := by omega
      refine z_iload hx 0 d_Sh_tallyFree_5 rfl ?_
      refine z_sipush (v := 1000) hx d_Sh_tallyFree_7 rfl ?_
      refine z_icmp_ge (tgt := 33) hx d_Sh_tallyFree_10 (by decide) (fun h => absurd h (nI_nleL 1000 rfl hk (by decide))) (fun _ => ?_)
      refine z_aload_n hx 2 d_Sh_tallyFree_13 rfl ?_
      refine z_iload hx 0 d_Sh_tallyFree_14 rfl ?_
      refine z_iload_n hx 3 d_Sh_tallyFree_16 rfl ?_
      refine z_iload_n hx 4 d_Sh_tallyFree_17 rfl ?_
      refine z_cV hx (c_Sh_isFree (s := s) (r := r) hk) k_Sh rfl ⟨a2_144, a2_147, a1_4, ⟨by decide +kernel, by decide +kernel⟩, fun sig h => by cases h; rfl⟩ a2_146 s_Sh_isFree rfl rfl d_Sh_tallyFree_18 (by rw [hrm]; exact ⟨Nat.le_of_ble_eq_true rfl, Nat.le_of_ble_eq_true rfl, Nat.le_of_ble_eq_true rfl, Nat.le_of_ble_eq_true rfl⟩) ?_
      show zV x ad (Lay K ad S) _ _ _ 21 [.int (if S.2.2 7 k = 1 ∧ S.2.2 5 k = s ∧ S.2.2 6 k = r then 1 else 0)]
      refine z_if_eq (tgt := 27) hx d_Sh_tallyFree_21 (by decide) (fun h1 => ?_) (fun h1 => ?_)
      · refine z_iinc (v := nI (k + 1)) hx 0 [(4, .int (nI (k + 1))), (3, .int (nI (cntI (fun q => decide (S.2.2 7 q = 1 ∧ S.2.2 5 q = s ∧ S.2.2 6 q = r)) k))), (0, .ref (ad 4)), (1, .int s), (2, .int r)] d_Sh_tallyFree_27 rfl (nI_1 k) (zN hml (by decide)) rfl ?_
        refine z_goto (tgt := 5) hx d_Sh_tallyFree_30 (by decide) ?_
        have q9 := ih (k + 1) (by omega)
        rw [show cntI (fun q => decide (S.2.2 7 q = 1 ∧ S.2.2 5 q = s ∧ S.2.2 6 q = r)) (k + 1) = cntI (fun q => decide (S.2.2 7 q = 1 ∧ S.2.2 5 q = s ∧ S.2.2 6 q = r)) k from by simp [cntI, z00 h1]] at q9
        exact z_lv [0, 1, 2, 3, 4] _ rfl q9
      · refine z_iinc (v := nI (cntI (fun q => decide (S.2.2 7 q = 1 ∧ S.2.2 5 q = s ∧ S.2.2 6 q = r)) k + 1)) hx 1 [(3, .int (nI (cntI (fun q => decide (S.2.2 7 q = 1 ∧ S.2.2 5 q = s ∧ S.2.2 6 q = r)) k + 1))), (4, .int (nI k)), (0, .ref (ad 4)), (1, .int s), (2, .int r)] d_Sh_tallyFree_24 rfl (nI_1 _) (zN hml (by decide)) rfl ?_
        refine z_iinc (v := nI (k + 1)) hx 1 [(4, .int (nI (k + 1))), (3, .int (nI (cntI (fun q => decide (S.2.2 7 q = 1 ∧ S.2.2 5 q = s ∧ S.2.2 6 q = r)) k + 1))), (0, .ref (ad 4)), (1, .int s), (2, .int r)] d_Sh_tallyFree_27 rfl (nI_1 k) (zN hml (by decide)) rfl ?_
        refine z_goto (tgt := 5) hx d_Sh_tallyFree_30 (by decide) ?_
        have q9 := ih (k + 1) (by omega)
        rw [show cntI (fun q => decide (S.2.2 7 q = 1 ∧ S.2.2 5 q = s ∧ S.2.2 6 q = r)) (k + 1) = cntI (fun q => decide (S.2.2 7 q = 1 ∧ S.2.2 5 q = s ∧ S.2.2 6 q = r)) k + 1 from by simp [cntI, z01 h1]] at q9
        exact z_lv [0, 1, 2, 3, 4] _ rfl q9
  show zV x ad (Lay K ad S) 0 0 [(0, .ref (ad 4)), (1, .int s), (2, .int r)] 0 []
  refine z_iconst (v := 0) hx d_Sh_tallyFree_0 rfl ?_
  refine z_top (b := nI (cntI (fun q => decide (S.2.2 7 q = 1 ∧ S.2.2 5 q = s ∧ S.2.2 6 q = r)) 0)) rfl ?_
  refine z_istore_n hx [(3, .int (nI (cntI (fun q => decide (S.2.2 7 q = 1 ∧ S.2.2 5 q = s ∧ S.2.2 6 q = r)) 0))), (0, .ref (ad 4)), (1, .int s), (2, .int r)] d_Sh_tallyFree_1 rfl (zN hml (by decide)) rfl ?_
  refine z_iconst (v := 0) hx d_Sh_tallyFree_2 rfl ?_
  refine z_top (b := nI 0) rfl ?_
  refine z_istore hx [(4, .int (nI 0)), (3, .int (nI (cntI (fun q => decide (S.2.2 7 q = 1 ∧ S.2.2 5 q = s ∧ S.2.2 6 q = r)) 0))), (0, .ref (ad 4)), (1, .int s), (2, .int r)] d_Sh_tallyFree_3 (zN hml (by decide)) rfl ?_
  exact z_lv [0, 1, 2, 3, 4] _ rfl (loop 1000 0 (by omega))
set_option maxRecDepth 20000 in
theorem c_Sh_leastFree {l : Launch} {D : va_G} {K : Nat → ClassId} {ad : Nat → Nat} {S : zSt} {s r : Int32} {f : Nat} (hf : f ≤ 1000) : zC l TB D zcls (ztyl K) y_Sh_leastFree (.code y_Sh_leastFree b_Sh_leastFree 5 (some FieldType.int)) (rmk 2 43) [.ref (ad 4), .int s, .int r, .int (nI f)] ad (Lay K ad S) (zP K ad (some (.int (lstF (fun q => decide (S.2.2 7 q = 1 ∧ S.2.2 5 q = s ∧ S.2.2 6 q = r)) (1000 - f) f))) S) := by
  refine zC.of (by decide +kernel) (Nat.le_of_ble_eq_true rfl) ?_
  intro x hx hr hml hnm hrm hq hNH
  have loop : ∀ (m k : Nat), k + m = 1000 → lstF (fun q => decide (S.2.2 7 q = 1 ∧ S.2.2 5 q = s ∧ S.2.2 6 q = r)) m k = lstF (fun q => decide (S.2.2 7 q = 1 ∧ S.2.2 5 q = s ∧ S.2.2 6 q = r)) (1000 - f) f → zV x ad (Lay K ad S) 0 0 [(4, .int (nI k)), (0, .ref (ad 4)), (1, .int s), (2, .int r)] 7 [] := by
    intro m
    induction m with
    | zero =>
      intro k he hV
      have he0 : k = 1000 := by omega
      refine z_iload hx 0 d_Sh_leastFree_7 rfl ?_
      refine z_sipush (v := 1000) hx d_Sh_leastFree_9 rfl ?_
      refine z_icmp_ge (tgt := 35) hx d_Sh_leastFree_12 (by decide) (fun _ => ?_) (fun h => absurd (nI_leL 1000 rfl he0 (by decide)) h)
      refine z_iconst (v := (-1)) hx d_Sh_leastFree_35 rfl ?_
      exact z_iret hx hr rfl hq (Nat.le_refl _) (Nat.le_refl _) d_Sh_leastFree_36 ⟨by rw [← hV]; rfl, rfl, rfl⟩
    | succ m ih =>
      intro k he hV
      have hk : k < 1000 := by omega
      refine z_iload hx 0 d_Sh_leastFree_7 rfl ?_
      refine z_sipush (v := 1000) hx d_Sh_leastFree_9 rfl ?_
      refine z_icmp_ge (tgt := 35) hx d_Sh_leastFree_12 (by decide) (fun h => absurd h (nI_nleL 1000 rfl hk (by decide))) (fun _ => ?_)
      refine z_aload_n hx 1 d_Sh_leastFree_15 rfl ?_
      refine z_iload hx 0 d_Sh_leastFree_16 rfl ?_
      refine z_iload_n hx 2 d_Sh_leastFree_18 rfl ?_
      refine z_iload_n hx 3 d_Sh_leastFree_19 rfl ?_
      refine z_cV hx (c_Sh_isFree (s := s) (r := r) hk) k_Sh rfl ⟨a2_144, a2_147, a1_4, ⟨by decide +kernel, by decide +kernel⟩, fun sig h => by cases h; rfl⟩ a2_146 s_Sh_isFree rfl rfl d_Sh_leastFree_20 (by rw [hrm]; exact ⟨Nat.le_of_ble_eq_true rfl, Nat.le_of_ble_eq_true rfl, Nat.le_of_ble_eq_true rfl, Nat.le_of_ble_eq_true rfl⟩) ?_
      show zV x ad (Lay K ad S) _ _ _ 23 [.int (if S.2.2 7 k = 1 ∧ S.2.2 5 k = s ∧ S.2.2 6 k = r then 1 else 0)]
      refine z_if_eq (tgt := 29) hx d_Sh_leastFree_23 (by decide) (fun h1 => ?_) (fun h1 => ?_)
      · refine z_iinc (v := nI (k + 1)) hx 0 [(4, .int (nI (k + 1))), (0, .ref (ad 4)), (1, .int s), (2, .int r)] d_Sh_leastFree_29 rfl (nI_1 k) (zN hml (by decide)) rfl ?_
        refine z_goto (tgt := 7) hx d_Sh_leastFree_32 (by decide) ?_
        exact z_lv [0, 1, 2, 3] _ rfl (ih (k + 1) (by omega) (by rw [← hV, lstF, if_neg (by simpa using z00 h1)]))
      · refine z_iload hx 0 d_Sh_leastFree_26 rfl ?_
        exact z_iret hx hr rfl hq (Nat.le_refl _) (Nat.le_refl _) d_Sh_leastFree_28 ⟨by rw [← hV]; rw [lstF, if_pos (by simpa using z01 h1)], rfl, rfl⟩
  show zV x ad (Lay K ad S) 0 0 [(0, .ref (ad 4)), (1, .int s), (2, .int r), (3, .int (nI f))] 0 []
  refine z_iload_n hx 3 d_Sh_leastFree_0 rfl ?_
  refine z_iconst (v := 0) hx d_Sh_leastFree_1 rfl ?_
  refine z_mmax hx a2_234 a2_186 a1_15 a2_187 (by rw [hrm]; exact ⟨Nat.le_of_ble_eq_true rfl, Nat.le_of_ble_eq_true rfl, Nat.le_of_ble_eq_true rfl, Nat.le_of_ble_eq_true rfl⟩) d_Sh_leastFree_2 ?_
  refine z_top (b := nI f) (if_neg (nI_pos (by omega))) ?_
  refine z_istore hx [(4, .int (nI f)), (0, .ref (ad 4)), (1, .int s), (2, .int r), (3, .int (nI f))] d_Sh_leastFree_5 (zN hml (by decide)) rfl ?_
  exact z_lv [0, 1, 2, 3] _ rfl (loop (1000 - f) f (by omega) rfl)
set_option maxRecDepth 20000 in
theorem c_Sh_hasAny {l : Launch} {D : va_G} {K : Nat → ClassId} {ad : Nat → Nat} {S : zSt} {f n : Nat} (hf : f + n ≤ 1000) : zC l TB D zcls (ztyl K) y_Sh_hasAny (.code y_Sh_hasAny b_Sh_hasAny 4 (some FieldType.boolean)) (rmk 1 20) [.ref (ad 4), .int (nI f), .int (nI n)] ad (Lay K ad S) (zP K ad (some (.int (hasF (fun q => decide (S.2.2 7 (f + q) ≠ 0)) n 0))) S) := by
  refine zC.of (by decide +kernel) (Nat.le_of_ble_eq_true rfl) ?_
  intro x hx hr hml hnm hrm hq hNH
  have loop : ∀ (m k : Nat), k + m = n → hasF (fun q => decide (S.2.2 7 (f + q) ≠ 0)) m k = hasF (fun q => decide (S.2.2 7 (f + q) ≠ 0)) n 0 → zV x ad (Lay K ad S) 0 0 [(3, .int (nI k)), (0, .ref (ad 4)), (1, .int (nI f)), (2, .int (nI n))] 2 [] := by
    intro m
    induction m with
    | zero =>
      intro k he hV
      have he0 : k = n := by omega
      refine z_iload_n hx 0 d_Sh_hasAny_2 rfl ?_
      refine z_iload_n hx 3 d_Sh_hasAny_3 rfl ?_
      refine z_icmp_ge (tgt := 35) hx d_Sh_hasAny_4 (by decide) (fun _ => ?_) (fun h => absurd (nI_le (Nat.le_of_eq he0.symm) (by omega)) h)
      refine z_iconst (v := 0) hx d_Sh_hasAny_35 rfl ?_
      exact z_iret hx hr rfl hq (Nat.le_refl _) (Nat.le_refl _) d_Sh_hasAny_36 ⟨by rw [← hV]; rfl, rfl, rfl⟩
    | succ m ih =>
      intro k he hV
      have hk : k < n := by omega
      refine z_iload_n hx 0 d_Sh_hasAny_2 rfl ?_
      refine z_iload_n hx 3 d_Sh_hasAny_3 rfl ?_
      refine z_icmp_ge (tgt := 35) hx d_Sh_hasAny_4 (by decide) (fun h => absurd h (nI_ge hk (by omega))) (fun _ => ?_)
      refine z_iload_n hx 2 d_Sh_hasAny_7 rfl ?_
      refine z_iload_n hx 0 d_Sh_hasAny_8 rfl ?_
      refine z_iadd hx d_Sh_hasAny_9 ?_
      refine z_top (b := nI (f + k)) (nI_add f k) ?_
      refine z_cS hx (c_Sh_isKit (k := f + k) (by omega)) ⟨a2_133, a2_135, a1_4, ⟨by decide +kernel, by decide +kernel⟩, fun sig h => by cases h; rfl⟩ a2_134 rfl rfl d_Sh_hasAny_10 (by rw [hrm]; exact ⟨Nat.le_of_ble_eq_true rfl, Nat.le_of_ble_eq_true rfl, Nat.le_of_ble_eq_true rfl, Nat.le_of_ble_eq_true rfl⟩) ?_
      show zV x ad (Lay K ad S) _ _ _ 13 [.int 1]
      refine z_if_eq (tgt := 29) hx d_Sh_hasAny_13 (by decide) (fun h => absurd h (by decide)) (fun _ => ?_)
      refine z_aload_n hx 1 d_Sh_hasAny_16 rfl ?_
      refine z_get hx k_Sh (t := 4) rfl 2 (by decide) a1_77 rfl d_Sh_hasAny_17 ?_
      refine z_iload_n hx 2 d_Sh_hasAny_20 rfl ?_
      refine z_iload_n hx 0 d_Sh_hasAny_21 rfl ?_
      refine z_iadd hx d_Sh_hasAny_22 ?_
      refine z_top (b := nI (f + k)) (nI_add f k) ?_
      refine z_ialdK hx 0 rfl (t := 7) rfl (k := (f + k)) (by omega) (by first | decide | omega) d_Sh_hasAny_23 ?_
      refine z_if_eq (tgt := 29) hx d_Sh_hasAny_24 (by decide) (fun h1 => ?_) (fun h1 => ?_)
      · refine z_iinc (v := nI (k + 1)) hx 0 [(3, .int (nI (k + 1))), (0, .ref (ad 4)), (1, .int (nI f)), (2, .int (nI n))] d_Sh_hasAny_29 rfl (nI_1 k) (zN hml (by decide)) rfl ?_
        refine z_goto (tgt := 2) hx d_Sh_hasAny_32 (by decide) ?_
        exact z_lv [0, 1, 2, 3] _ rfl (ih (k + 1) (by omega) (by rw [← hV, hasF, if_neg (by simpa using h1)]))
      · refine z_iconst (v := 1) hx d_Sh_hasAny_27 rfl ?_
        exact z_iret hx hr rfl hq (Nat.le_refl _) (Nat.le_refl _) d_Sh_hasAny_28 ⟨by rw [← hV]; rw [hasF, if_pos (by simpa using h1)], rfl, rfl⟩
  show zV x ad (Lay K ad S) 0 0 [(0, .ref (ad 4)), (1, .int (nI f)), (2, .int (nI n))] 0 []
  refine z_iconst (v := 0) hx d_Sh_hasAny_0 rfl ?_
  refine z_top (b := nI 0) rfl ?_
  refine z_istore_n hx [(3, .int (nI 0)), (0, .ref (ad 4)), (1, .int (nI f)), (2, .int (nI n))] d_Sh_hasAny_1 rfl (zN hml (by decide)) rfl ?_
  exact z_lv [0, 1, 2, 3] _ rfl (loop n 0 (by omega) rfl)
set_option maxRecDepth 20000 in
theorem c_Sh_put {l : Launch} {D : va_G} {K : Nat → ClassId} {ad : Nat → Nat} {S : zSt} {s r : Int32} {f n : Nat} (hf : f + n ≤ 1000) : zC l TB D zcls (ztyl K) y_Sh_put (.code y_Sh_put b_Sh_put 6 (none : Option FieldType)) (rmk 1 20) [.ref (ad 4), .int s, .int r, .int (nI f), .int (nI n)] ad (Lay K ad S) (zP K ad none (putF S s r f n)) := by
  refine zC.of (by decide +kernel) (Nat.le_of_ble_eq_true rfl) ?_
  intro x hx hr hml hnm hrm hq hNH
  have loop : ∀ (m k : Nat), k + m = n → zV x ad (Lay K ad (putF S s r f k)) 0 0 [(5, .int (nI k)), (0, .ref (ad 4)), (1, .int s), (2, .int r), (3, .int (nI f)), (4, .int (nI n))] 3 [] := by
    intro m
    induction m with
    | zero =>
      intro k he
      have he0 : k = n := by omega
      refine z_iload hx 0 d_Sh_put_3 rfl ?_
      refine z_iload hx 5 d_Sh_put_5 rfl ?_
      refine z_icmp_ge (tgt := 56) hx d_Sh_put_7 (by decide) (fun _ => ?_) (fun h => absurd (nI_le (Nat.le_of_eq he0.symm) (by omega)) h)
      subst he0
      exact z_vret hx hr hq (Nat.le_refl _) (Nat.le_refl _) d_Sh_put_56 ⟨rfl, rfl, rfl⟩
    | succ m ih =>
      intro k he
      have hk : k < n := by omega
      refine z_iload hx 0 d_Sh_put_3 rfl ?_
      refine z_iload hx 5 d_Sh_put_5 rfl ?_
      refine z_icmp_ge (tgt := 56) hx d_Sh_put_7 (by decide) (fun h => absurd h (nI_ge hk (by omega))) (fun _ => ?_)
      refine z_iload_n hx 4 d_Sh_put_10 rfl ?_
      refine z_iload hx 0 d_Sh_put_11 rfl ?_
      refine z_iadd hx d_Sh_put_13 ?_
      refine z_top (b := nI (f + k)) (nI_add f k) ?_
      refine z_cS hx (c_Sh_isKit (k := f + k) (by omega)) ⟨a2_133, a2_135, a1_4, ⟨by decide +kernel, by decide +kernel⟩, fun sig h => by cases h; rfl⟩ a2_134 rfl rfl d_Sh_put_14 (by rw [hrm]; exact ⟨Nat.le_of_ble_eq_true rfl, Nat.le_of_ble_eq_true rfl, Nat.le_of_ble_eq_true rfl, Nat.le_of_ble_eq_true rfl⟩) ?_
      show zV x ad (Lay K ad (putF S s r f k)) _ _ _ 17 [.int 1]
      refine z_if_eq (tgt := 50) hx d_Sh_put_17 (by decide) (fun h => absurd h (by decide)) (fun _ => ?_)
      refine z_aload_n hx 1 d_Sh_put_20 rfl ?_
      refine z_get hx k_Sh (t := 4) rfl 0 (by decide) a1_75 rfl d_Sh_put_21 ?_
      refine z_iload_n hx 4 d_Sh_put_24 rfl ?_
      refine z_iload hx 0 d_Sh_put_25 rfl ?_
      refine z_iadd hx d_Sh_put_27 ?_
      refine z_top (b := nI (f + k)) (nI_add f k) ?_
      refine z_iload_n hx 2 d_Sh_put_28 rfl ?_
      refine z_iastK hx 0 rfl (t := 5) rfl (k := (f + k)) (by omega) (by first | decide | omega)  d_Sh_put_29 (ce1 := Lay K ad (stM (putF S s r f k) 5 ((f + k)) s)) (Lay_put (by decide) rfl) ?_
      refine z_aload_n hx 1 d_Sh_put_30 rfl ?_
      refine z_get hx k_Sh (t := 4) rfl 1 (by decide) a1_76 rfl d_Sh_put_31 ?_
      refine z_iload_n hx 4 d_Sh_put_34 rfl ?_
      refine z_iload hx 0 d_Sh_put_35 rfl ?_
      refine z_iadd hx d_Sh_put_37 ?_
      refine z_top (b := nI (f + k)) (nI_add f k) ?_
      refine z_iload_n hx 3 d_Sh_put_38 rfl ?_
      refine z_iastK hx 0 rfl (t := 6) rfl (k := (f + k)) (by omega) (by first | decide | omega)  d_Sh_put_39 (ce1 := Lay K ad (stM (stM (putF S s r f k) 5 ((f + k)) s) 6 ((f + k)) r)) (Lay_put (by decide) rfl) ?_
      refine z_aload_n hx 1 d_Sh_put_40 rfl ?_
      refine z_get hx k_Sh (t := 4) rfl 2 (by decide) a1_77 rfl d_Sh_put_41 ?_
      refine z_iload_n hx 4 d_Sh_put_44 rfl ?_
      refine z_iload hx 0 d_Sh_put_45 rfl ?_
      refine z_iadd hx d_Sh_put_47 ?_
      refine z_top (b := nI (f + k)) (nI_add f k) ?_
      refine z_iconst (v := 1) hx d_Sh_put_48 rfl ?_
      refine z_iastK hx 0 rfl (t := 7) rfl (k := (f + k)) (by omega) (by first | decide | omega)  d_Sh_put_49 (ce1 := Lay K ad (stM (stM (stM (putF S s r f k) 5 ((f + k)) s) 6 ((f + k)) r) 7 ((f + k)) 1)) (Lay_put (by decide) rfl) ?_
      refine z_iinc (v := nI (k + 1)) hx 0 [(5, .int (nI (k + 1))), (0, .ref (ad 4)), (1, .int s), (2, .int r), (3, .int (nI f)), (4, .int (nI n))] d_Sh_put_50 rfl (nI_1 k) (zN hml (by decide)) rfl ?_
      refine z_goto (tgt := 3) hx d_Sh_put_53 (by decide) ?_
      exact z_lv [0, 1, 2, 3, 4, 5] _ rfl (ih (k + 1) (by omega))
  show zV x ad (Lay K ad S) 0 0 [(0, .ref (ad 4)), (1, .int s), (2, .int r), (3, .int (nI f)), (4, .int (nI n))] 0 []
  refine z_iconst (v := 0) hx d_Sh_put_0 rfl ?_
  refine z_top (b := nI 0) rfl ?_
  refine z_istore hx [(5, .int (nI 0)), (0, .ref (ad 4)), (1, .int s), (2, .int r), (3, .int (nI f)), (4, .int (nI n))] d_Sh_put_1 (zN hml (by decide)) rfl ?_
  exact z_lv [0, 1, 2, 3, 4, 5] _ rfl (loop n 0 (by omega))
set_option maxRecDepth 20000 in
theorem c_Sh_markAll {l : Launch} {D : va_G} {K : Nat → ClassId} {ad : Nat → Nat} {S : zSt} {g : Nat → Nat} {n : Nat} (hn : n ≤ 24) (hg : ∀ q, q < n → S.2.2 11 q = nI (g q) ∧ g q < 1000) : zC l TB D zcls (ztyl K) y_Sh_markAll (.code y_Sh_markAll b_Sh_markAll 4 (none : Option FieldType)) (rmk 1 20) [.ref (ad 4), .ref (ad 11), .int (nI n)] ad (Lay K ad S) (zP K ad none (markF S g n)) := by
  refine zC.of (by decide +kernel) (Nat.le_of_ble_eq_true rfl) ?_
  intro x hx hr hml hnm hrm hq hNH
  have loop : ∀ (m k : Nat), k + m = n → zV x ad (Lay K ad (markF S g k)) 0 0 [(3, .int (nI k)), (0, .ref (ad 4)), (1, .ref (ad 11)), (2, .int (nI n))] 2 [] := by
    intro m
    induction m with
    | zero =>
      intro k he
      have he0 : k = n := by omega
      refine z_iload_n hx 0 d_Sh_markAll_2 rfl ?_
      refine z_iload_n hx 3 d_Sh_markAll_3 rfl ?_
      refine z_icmp_ge (tgt := 37) hx d_Sh_markAll_4 (by decide) (fun _ => ?_) (fun h => absurd (nI_le (Nat.le_of_eq he0.symm) (by omega)) h)
      subst he0
      exact z_vret hx hr hq (Nat.le_refl _) (Nat.le_refl _) d_Sh_markAll_37 ⟨rfl, rfl, rfl⟩
    | succ m ih =>
      intro k he
      have hk : k < n := by omega
      refine z_iload_n hx 0 d_Sh_markAll_2 rfl ?_
      refine z_iload_n hx 3 d_Sh_markAll_3 rfl ?_
      refine z_icmp_ge (tgt := 37) hx d_Sh_markAll_4 (by decide) (fun h => absurd h (nI_ge hk (by omega))) (fun _ => ?_)
      refine z_iload_n hx 0 d_Sh_markAll_7 rfl ?_
      refine z_aload_n hx 2 d_Sh_markAll_8 rfl ?_
      refine z_alen hx 0 rfl (t := 11) rfl (v := 24) rfl d_Sh_markAll_9 ?_
      refine z_icmp_ge (tgt := 37) hx d_Sh_markAll_10 (by decide) (fun h => absurd h (nI_nleL 24 rfl (by omega) (by decide))) (fun _ => ?_)
      refine z_aload_n hx 2 d_Sh_markAll_13 rfl ?_
      refine z_iload_n hx 0 d_Sh_markAll_14 rfl ?_
      refine z_ialdK hx 0 rfl (t := 11) rfl (k := k) (by omega) (by first | decide | omega) d_Sh_markAll_15 ?_
      refine z_top (b := nI (g k)) (by rw [markF_11]; exact (hg k hk).1) ?_
      refine z_cS hx (c_Sh_isKit (k := g k) (hg k hk).2) ⟨a2_133, a2_135, a1_4, ⟨by decide +kernel, by decide +kernel⟩, fun sig h => by cases h; rfl⟩ a2_134 rfl rfl d_Sh_markAll_16 (by rw [hrm]; exact ⟨Nat.le_of_ble_eq_true rfl, Nat.le_of_ble_eq_true rfl, Nat.le_of_ble_eq_true rfl, Nat.le_of_ble_eq_true rfl⟩) ?_
      show zV x ad (Lay K ad (markF S g k)) _ _ _ 19 [.int 1]
      refine z_if_eq (tgt := 31) hx d_Sh_markAll_19 (by decide) (fun h => absurd h (by decide)) (fun _ => ?_)
      refine z_aload_n hx 1 d_Sh_markAll_22 rfl ?_
      refine z_get hx k_Sh (t := 4) rfl 2 (by decide) a1_77 rfl d_Sh_markAll_23 ?_
      refine z_aload_n hx 2 d_Sh_markAll_26 rfl ?_
      refine z_iload_n hx 0 d_Sh_markAll_27 rfl ?_
      refine z_ialdK hx 0 rfl (t := 11) rfl (k := k) (by omega) (by first | decide | omega) d_Sh_markAll_28 ?_
      refine z_top (b := nI (g k)) (by rw [markF_11]; exact (hg k hk).1) ?_
      refine z_iconst (v := 2) hx d_Sh_markAll_29 rfl ?_
      refine z_iastK hx 0 rfl (t := 7) rfl (k := (g k)) (hg k hk).2 (by first | decide | omega)  d_Sh_markAll_30 (ce1 := Lay K ad (stM (markF S g k) 7 ((g k)) 2)) (Lay_put (by decide) rfl) ?_
      refine z_iinc (v := nI (k + 1)) hx 0 [(3, .int (nI (k + 1))), (0, .ref (ad 4)), (1, .ref (ad 11)), (2, .int (nI n))] d_Sh_markAll_31 rfl (nI_1 k) (zN hml (by decide)) rfl ?_
      refine z_goto (tgt := 2) hx d_Sh_markAll_34 (by decide) ?_
      exact z_lv [0, 1, 2, 3] _ rfl (ih (k + 1) (by omega))
  show zV x ad (Lay K ad S) 0 0 [(0, .ref (ad 4)), (1, .ref (ad 11)), (2, .int (nI n))] 0 []
  refine z_iconst (v := 0) hx d_Sh_markAll_0 rfl ?_
  refine z_top (b := nI 0) rfl ?_
  refine z_istore_n hx [(3, .int (nI 0)), (0, .ref (ad 4)), (1, .ref (ad 11)), (2, .int (nI n))] d_Sh_markAll_1 rfl (zN hml (by decide)) rfl ?_
  exact z_lv [0, 1, 2, 3] _ rfl (loop n 0 (by omega))
set_option maxRecDepth 20000 in
theorem c_Sh_freeMarked {l : Launch} {D : va_G} {K : Nat → ClassId} {ad : Nat → Nat} {S : zSt} {s : Int32} : zC l TB D zcls (ztyl K) y_Sh_freeMarked (.code y_Sh_freeMarked b_Sh_freeMarked 3 (none : Option FieldType)) (rmk 0 0) [.ref (ad 4), .int s] ad (Lay K ad S) (zP K ad none (frmF S s 1000)) := by
  refine zC.of (by decide +kernel) (Nat.le_of_ble_eq_true rfl) ?_
  intro x hx hr hml hnm hrm hq hNH
  have loop : ∀ (m k : Nat), k + m = 1000 → zV x ad (Lay K ad (frmF S s k)) 0 0 [(2, .int (nI k)), (0, .ref (ad 4)), (1, .int s)] 2 [] := by
    intro m
    induction m with
    | zero =>
      intro k he
      obtain rfl : k = 1000 := by omega
      refine z_iload_n hx 0 d_Sh_freeMarked_2 rfl ?_
      refine z_sipush (v := 1000) hx d_Sh_freeMarked_3 rfl ?_
      refine z_icmp_ge (tgt := 42) hx d_Sh_freeMarked_6 (by decide) (fun _ => ?_) (fun h => absurd (by decide) h)
      exact z_vret hx hr hq (Nat.le_refl _) (Nat.le_refl _) d_Sh_freeMarked_42 ⟨rfl, rfl, rfl⟩
    | succ m ih =>
      intro k he
      have hk : k < 1000 := by omega
      refine z_iload_n hx 0 d_Sh_freeMarked_2 rfl ?_
      refine z_sipush (v := 1000) hx d_Sh_freeMarked_3 rfl ?_
      refine z_icmp_ge (tgt := 42) hx d_Sh_freeMarked_6 (by decide) (fun h => absurd h (nI_nleL 1000 rfl hk (by decide))) (fun _ => ?_)
      refine z_aload_n hx 1 d_Sh_freeMarked_9 rfl ?_
      refine z_get hx k_Sh (t := 4) rfl 2 (by decide) a1_77 rfl d_Sh_freeMarked_10 ?_
      refine z_iload_n hx 0 d_Sh_freeMarked_13 rfl ?_
      refine z_ialdK hx 0 rfl (t := 7) rfl (k := k) (by omega) (by first | decide | omega) d_Sh_freeMarked_14 ?_
      refine z_iconst (v := 2) hx d_Sh_freeMarked_15 rfl ?_
      refine z_icmp_ne (tgt := 36) hx d_Sh_freeMarked_16 (by decide) (fun h1 => ?_) (fun h1 => ?_)
      · refine z_iinc (v := nI (k + 1)) hx 0 [(2, .int (nI (k + 1))), (0, .ref (ad 4)), (1, .int s)] d_Sh_freeMarked_36 rfl (nI_1 k) (zN hml (by decide)) rfl ?_
        refine z_goto (tgt := 2) hx d_Sh_freeMarked_39 (by decide) ?_
        have q9 := ih (k + 1) (by omega)
        rw [show frmF S s (k + 1) = frmF S s k from by rw [frmF, if_neg (fun z => h1 z.1)]] at q9
        exact z_lv [0, 1, 2] _ rfl q9
      · refine z_aload_n hx 1 d_Sh_freeMarked_19 rfl ?_
        refine z_get hx k_Sh (t := 4) rfl 0 (by decide) a1_75 rfl d_Sh_freeMarked_20 ?_
        refine z_iload_n hx 0 d_Sh_freeMarked_23 rfl ?_
        refine z_ialdK hx 0 rfl (t := 5) rfl (k := k) (by omega) (by first | decide | omega) d_Sh_freeMarked_24 ?_
        refine z_iload_n hx 2 d_Sh_freeMarked_25 rfl ?_
        refine z_icmp_ne (tgt := 36) hx d_Sh_freeMarked_26 (by decide) (fun h2 => ?_) (fun h2 => ?_)
        · refine z_iinc (v := nI (k + 1)) hx 0 [(2, .int (nI (k + 1))), (0, .ref (ad 4)), (1, .int s)] d_Sh_freeMarked_36 rfl (nI_1 k) (zN hml (by decide)) rfl ?_
          refine z_goto (tgt := 2) hx d_Sh_freeMarked_39 (by decide) ?_
          have q9 := ih (k + 1) (by omega)
          rw [show frmF S s (k + 1) = frmF S s k from by rw [frmF, if_neg (fun z => h2 z.2)]] at q9
          exact z_lv [0, 1, 2] _ rfl q9
        · refine z_aload_n hx 1 d_Sh_freeMarked_29 rfl ?_
          refine z_get hx k_Sh (t := 4) rfl 2 (by decide) a1_77 rfl d_Sh_freeMarked_30 ?_
          refine z_iload_n hx 0 d_Sh_freeMarked_33 rfl ?_
          refine z_iconst (v := 1) hx d_Sh_freeMarked_34 rfl ?_
          refine z_iastK hx 0 rfl (t := 7) rfl (k := k) (by omega) (by first | decide | omega)  d_Sh_freeMarked_35 (ce1 := Lay K ad (stM (frmF S s k) 7 k 1)) (Lay_put (by decide) rfl) ?_
          refine z_iinc (v := nI (k + 1)) hx 0 [(2, .int (nI (k + 1))), (0, .ref (ad 4)), (1, .int s)] d_Sh_freeMarked_36 rfl (nI_1 k) (zN hml (by decide)) rfl ?_
          refine z_goto (tgt := 2) hx d_Sh_freeMarked_39 (by decide) ?_
          have q9 := ih (k + 1) (by omega)
          rw [show frmF S s (k + 1) = stM (frmF S s k) 7 k 1 from by rw [frmF, if_pos ⟨h1, h2⟩]] at q9
          exact z_lv [0, 1, 2] _ rfl q9
  show zV x ad (Lay K ad S) 0 0 [(0, .ref (ad 4)), (1, .int s)] 0 []
  refine z_iconst (v := 0) hx d_Sh_freeMarked_0 rfl ?_
  refine z_top (b := nI 0) rfl ?_
  refine z_istore_n hx [(2, .int (nI 0)), (0, .ref (ad 4)), (1, .int s)] d_Sh_freeMarked_1 rfl (zN hml (by decide)) rfl ?_
  exact z_lv [0, 1, 2] _ rfl (loop 1000 0 (by omega))
set_option maxRecDepth 20000 in
theorem c_Re_fill {l : Launch} {D : va_G} {K : Nat → ClassId} {ad : Nat → Nat} {S : zSt} {i k : Nat} (hi : i < 10) (hk : k < 8) (ho : S.2.2 9 i ≠ 0) {n : Nat} (hn : n ≤ 24) : zC l TB D zcls (ztyl K) y_Re_fill (.code y_Re_fill b_Re_fill 4 (none : Option FieldType)) (rmk 0 0) [.ref (ad (200 + 8 * i + k)), .ref (ad 11), .int (nI n)] ad (Lay K ad S) (zP K ad none (stM (stM (fillF S (300 + 8 * i + k) n) (200 + 8 * i + k) 1 (nI n)) (200 + 8 * i + k) 2 0)) := by
  refine zC.of (by decide +kernel) (Nat.le_of_ble_eq_true rfl) ?_
  intro x hx hr hml hnm hrm hq hNH
  have loop : ∀ (m j : Nat), j + m = n → zV x ad (Lay K ad (fillF S (300 + 8 * i + k) j)) 0 0 [(3, .int (nI j)), (0, .ref (ad (200 + 8 * i + k))), (1, .ref (ad 11)), (2, .int (nI n))] 2 [] := by
    intro m
    induction m with
    | zero =>
      intro j he
      have he0 : j = n := by omega
      refine z_iload_n hx 0 d_Re_fill_2 rfl ?_
      refine z_iload_n hx 3 d_Re_fill_3 rfl ?_
      refine z_icmp_ge (tgt := 37) hx d_Re_fill_4 (by decide) (fun _ => ?_) (fun h => absurd (nI_le (Nat.le_of_eq he0.symm) (by omega)) h)
      refine z_aload_n hx 1 d_Re_fill_37 rfl ?_
      refine z_iload_n hx 3 d_Re_fill_38 rfl ?_
      refine z_put hx k_Re (t := 200 + 8 * i + k) (Lay_Re hi hk (by rw [fillF_n (by omega)]; exact ho)) 1 (by decide) a2_74 rfl rfl rfl (Nat.le_of_ble_eq_true rfl) d_Re_fill_39 (ce1 := Lay K ad (stM (fillF S (300 + 8 * i + k) j) (200 + 8 * i + k) 1 (nI n))) (put_Re1 hi hk (by rw [fillF_n (by omega)]; exact ho)) ?_
      refine z_aload_n hx 1 d_Re_fill_42 rfl ?_
      refine z_iconst (v := 0) hx d_Re_fill_43 rfl ?_
      refine z_put hx k_Re (t := 200 + 8 * i + k) (Lay_Re hi hk (ho_n (by omega) (by rw [fillF_n (by omega)]; exact ho))) 2 (by decide) a2_77 rfl rfl rfl (Nat.le_of_ble_eq_true rfl) d_Re_fill_44 (ce1 := Lay K ad (stM (stM (fillF S (300 + 8 * i + k) j) (200 + 8 * i + k) 1 (nI n)) (200 + 8 * i + k) 2 0)) (put_Re2 hi hk (ho_n (by omega) (by rw [fillF_n (by omega)]; exact ho))) ?_
      subst he0
      exact z_vret hx hr hq (Nat.le_refl _) (Nat.le_refl _) d_Re_fill_47 ⟨rfl, rfl, rfl⟩
    | succ m ih =>
      intro j he
      have hk9 : j < n := by omega
      refine z_iload_n hx 0 d_Re_fill_2 rfl ?_
      refine z_iload_n hx 3 d_Re_fill_3 rfl ?_
      refine z_icmp_ge (tgt := 37) hx d_Re_fill_4 (by decide) (fun h => absurd h (nI_ge hk9 (by omega))) (fun _ => ?_)
      refine z_iload_n hx 0 d_Re_fill_7 rfl ?_
      refine z_aload_n hx 2 d_Re_fill_8 rfl ?_
      refine z_alen hx 0 rfl (t := 11) rfl (v := 24) rfl d_Re_fill_9 ?_
      refine z_icmp_ge (tgt := 37) hx d_Re_fill_10 (by decide) (fun h => absurd h (nI_nleL 24 rfl (by omega) (by decide))) (fun _ => ?_)
      refine z_iload_n hx 0 d_Re_fill_13 rfl ?_
      refine z_aload_n hx 1 d_Re_fill_14 rfl ?_
      refine z_get hx k_Re (t := 200 + 8 * i + k) (Lay_Re hi hk (by rw [fillF_n (by omega)]; exact ho)) 0 (by decide) a2_73 rfl d_Re_fill_15 ?_
      refine z_alen hx 0 rfl (t := 300 + 8 * i + k) (Lay_ek hi hk (by rw [fillF_n (by omega)]; exact ho)) (v := 24) rfl d_Re_fill_18 ?_
      refine z_icmp_ge (tgt := 37) hx d_Re_fill_19 (by decide) (fun h => absurd h (nI_nleL 24 rfl (by omega) (by decide))) (fun _ => ?_)
      refine z_aload_n hx 1 d_Re_fill_22 rfl ?_
      refine z_get hx k_Re (t := 200 + 8 * i + k) (Lay_Re hi hk (by rw [fillF_n (by omega)]; exact ho)) 0 (by decide) a2_73 rfl d_Re_fill_23 ?_
      refine z_iload_n hx 0 d_Re_fill_26 rfl ?_
      refine z_aload_n hx 2 d_Re_fill_27 rfl ?_
      refine z_iload_n hx 0 d_Re_fill_28 rfl ?_
      refine z_ialdK hx 0 rfl (t := 11) rfl (k := j) (by omega) (by first | decide | omega) d_Re_fill_29 ?_
      refine z_top (b := S.2.2 11 j) (by rw [fillF_n (by omega)]) ?_
      refine z_iastK hx 0 rfl (t := 300 + 8 * i + k) (Lay_ek hi hk (by rw [fillF_n (by omega)]; exact ho)) (k := j) (by omega) (by first | decide | omega)  d_Re_fill_30 (ce1 := Lay K ad (stM (fillF S (300 + 8 * i + k) j) (300 + 8 * i + k) j (S.2.2 11 j))) (put_ek hi hk (by rw [fillF_n (by omega)]; exact ho)) ?_
      refine z_iinc (v := nI (j + 1)) hx 0 [(3, .int (nI (j + 1))), (0, .ref (ad (200 + 8 * i + k))), (1, .ref (ad 11)), (2, .int (nI n))] d_Re_fill_31 rfl (nI_1 j) (zN hml (by decide)) rfl ?_
      refine z_goto (tgt := 2) hx d_Re_fill_34 (by decide) ?_
      exact z_lv [0, 1, 2, 3] _ rfl (ih (j + 1) (by omega))
  show zV x ad (Lay K ad S) 0 0 [(0, .ref (ad (200 + 8 * i + k))), (1, .ref (ad 11)), (2, .int (nI n))] 0 []
  refine z_iconst (v := 0) hx d_Re_fill_0 rfl ?_
  refine z_top (b := nI 0) rfl ?_
  refine z_istore_n hx [(3, .int (nI 0)), (0, .ref (ad (200 + 8 * i + k))), (1, .ref (ad 11)), (2, .int (nI n))] d_Re_fill_1 rfl (zN hml (by decide)) rfl ?_
  exact z_lv [0, 1, 2, 3] _ rfl (loop n 0 (by omega))
