set_option maxRecDepth 20000 in
theorem c_Sh_tally {l : Launch} {D : va_G} {K : Nat → ClassId} {ad : Nat → Nat} {S : zSt} {s w : Int32} : zC l TB D zcls (ztyl K) y_Sh_tally (.code y_Sh_tally b_Sh_tally 5 (some FieldType.int)) (rmk 0 0) [.ref (ad 4), .int s, .int w] ad (Lay K ad S) (zP K ad (some (.int (nI (cntI (fun q => decide (S.2.2 7 q = w ∧ S.2.2 5 q = s)) 1000)))) S) := by
  refine zC.of (by decide +kernel) (Nat.le_of_ble_eq_true rfl) ?_
  intro x hx hr hml hnm hrm hq hNH
  have loop : ∀ (m k : Nat), k + m = 1000 → zV x ad (Lay K ad S) 0 0 [(4, .int (nI k)), (3, .int (nI (cntI (fun q => decide (S.2.2 7 q = w ∧ S.2.2 5 q = s)) k))), (0, .ref (ad 4)), (1, .int s), (2, .int w)] 5 [] := by
    intro m
    induction m with
    | zero =>
      intro k he
      obtain rfl : k = 1000 := by omega
      refine z_iload hx 0 d_Sh_tally_5 rfl ?_
      refine z_sipush (v := 1000) hx d_Sh_tally_7 rfl ?_
      refine z_icmp_ge (tgt := 44) hx d_Sh_tally_10 (by decide) (fun _ => ?_) (fun h => absurd (by decide) h)
      refine z_iload_n hx 1 d_Sh_tally_44 rfl ?_
      exact z_iret hx hr rfl hq (Nat.le_refl _) (Nat.le_refl _) d_Sh_tally_45 ⟨rfl, rfl, rfl⟩
    | succ m ih =>
      intro k he
      have hk : k < 1000 := by omega
      refine z_iload hx 0 d_Sh_tally_5 rfl ?_
      refine z_sipush (v := 1000) hx d_Sh_tally_7 rfl ?_
      refine z_icmp_ge (tgt := 44) hx d_Sh_tally_10 (by decide) (fun h => absurd h (nI_nleL 1000 rfl hk (by decide))) (fun _ => ?_)
      refine z_aload_n hx 2 d_Sh_tally_13 rfl ?_
      refine z_get hx k_Sh (t := 4) rfl 2 (by decide) a1_77 rfl d_Sh_tally_14 ?_
      refine z_iload hx 0 d_Sh_tally_17 rfl ?_
      refine z_ialdK hx 0 rfl (t := 7) rfl (k := k) (by omega) (by first | decide | omega) d_Sh_tally_19 ?_
      refine z_iload_n hx 4 d_Sh_tally_20 rfl ?_
      refine z_icmp_ne (tgt := 38) hx d_Sh_tally_21 (by decide) (fun h1 => ?_) (fun h1 => ?_)
      · refine z_iinc (v := nI (k + 1)) hx 0 [(4, .int (nI (k + 1))), (3, .int (nI (cntI (fun q => decide (S.2.2 7 q = w ∧ S.2.2 5 q = s)) k))), (0, .ref (ad 4)), (1, .int s), (2, .int w)] d_Sh_tally_38 rfl (nI_1 k) (zN hml (by decide)) rfl ?_
        refine z_goto (tgt := 5) hx d_Sh_tally_41 (by decide) ?_
        have q9 := ih (k + 1) (by omega)
        rw [show cntI (fun q => decide (S.2.2 7 q = w ∧ S.2.2 5 q = s)) (k + 1) = cntI (fun q => decide (S.2.2 7 q = w ∧ S.2.2 5 q = s)) k from by simp [cntI, h1]] at q9
        exact z_lv [0, 1, 2, 3, 4] _ rfl q9
      · refine z_aload_n hx 2 d_Sh_tally_24 rfl ?_
        refine z_get hx k_Sh (t := 4) rfl 0 (by decide) a1_75 rfl d_Sh_tally_25 ?_
        refine z_iload hx 0 d_Sh_tally_28 rfl ?_
        refine z_ialdK hx 0 rfl (t := 5) rfl (k := k) (by omega) (by first | decide | omega) d_Sh_tally_30 ?_
        refine z_iload_n hx 3 d_Sh_tally_31 rfl ?_
        refine z_icmp_ne (tgt := 38) hx d_Sh_tally_32 (by decide) (fun h2 => ?_) (fun h2 => ?_)
        · refine z_iinc (v := nI (k + 1)) hx 0 [(4, .int (nI (k + 1))), (3, .int (nI (cntI (fun q => decide (S.2.2 7 q = w ∧ S.2.2 5 q = s)) k))), (0, .ref (ad 4)), (1, .int s), (2, .int w)] d_Sh_tally_38 rfl (nI_1 k) (zN hml (by decide)) rfl ?_
          refine z_goto (tgt := 5) hx d_Sh_tally_41 (by decide) ?_
          have q9 := ih (k + 1) (by omega)
          rw [show cntI (fun q => decide (S.2.2 7 q = w ∧ S.2.2 5 q = s)) (k + 1) = cntI (fun q => decide (S.2.2 7 q = w ∧ S.2.2 5 q = s)) k from by simp [cntI, h1, h2]] at q9
          exact z_lv [0, 1, 2, 3, 4] _ rfl q9
        · refine z_iinc (v := nI (cntI (fun q => decide (S.2.2 7 q = w ∧ S.2.2 5 q = s)) k + 1)) hx 1 [(3, .int (nI (cntI (fun q => decide (S.2.2 7 q = w ∧ S.2.2 5 q = s)) k + 1))), (4, .int (nI k)), (0, .ref (ad 4)), (1, .int s), (2, .int w)] d_Sh_tally_35 rfl (nI_1 _) (zN hml (by decide)) rfl ?_
          refine z_iinc (v := nI (k + 1)) hx 1 [(4, .int (nI (k + 1))), (3, .int (nI (cntI (fun q => decide (S.2.2 7 q = w ∧ S.2.2 5 q = s)) k + 1))), (0, .ref (ad 4)), (1, .int s), (2, .int w)] d_Sh_tally_38 rfl (nI_1 k) (zN hml (by decide)) rfl ?_
          refine z_goto (tgt := 5) hx d_Sh_tally_41 (by decide) ?_
          have q9 := ih (k + 1) (by omega)
          rw [show cntI (fun q => decide (S.2.2 7 q = w ∧ S.2.2 5 q = s)) (k + 1) = cntI (fun q => decide (S.2.2 7 q = w ∧ S.2.2 5 q = s)) k + 1 from by simp [cntI, h1, h2]] at q9
          exact z_lv [0, 1, 2, 3, 4] _ rfl q9
  show zV x ad (Lay K ad S) 0 0 [(0, .ref (ad 4)), (1, .int s), (2, .int w)] 0 []
  refine z_iconst (v := 0) hx d_Sh_tally_0 rfl ?_
  refine z_top (b := nI (cntI (fun q => decide (S.2.2 7 q = w ∧ S.2.2 5 q = s)) 0)) rfl ?_
  refine z_istore_n hx [(3, .int (nI (cntI (fun q => decide (S.2.2 7 q = w ∧ S.2.2 5 q = s)) 0))), (0, .ref (ad 4)), (1, .int s), (2, .int w)] d_Sh_tally_1 rfl (zN hml (by decide)) rfl ?_
  refine z_iconst (v := 0) hx d_Sh_tally_2 rfl ?_
  refine z_top (b := nI 0) rfl ?_
  refine z_istore hx [(4, .int (nI 0)), (3, .int (nI (cntI (fun q => decide (S.2.2 7 q = w ∧ S.2.2 5 q = s)) 0))), (0, .ref (ad 4)), (1, .int s), (2, .int w)] d_Sh_tally_3 (zN hml (by decide)) rfl ?_
  exact z_lv [0, 1, 2, 3, 4] _ rfl (loop 1000 0 (by omega))
set_option maxRecDepth 20000 in
theorem c_Sh_tallyFree {l : Launch} {D : va_G} {K : Nat → ClassId} {ad : Nat → Nat} {S : zSt} {s r : Int32} : zC l TB D zcls (ztyl K) y_Sh_tallyFree (.code y_Sh_tallyFree b_Sh_tallyFree 5 (some FieldType.int)) (rmk 2 43) [.ref (ad 4), .int s, .int r] ad (Lay K ad S) (zP K ad (some (.int (nI (cntI (fun q => decide (S.2.2 7 q = 1 ∧ S.2.2 5 q = s ∧ S.2.2 6 q = r)) 1000)))) S) := by
  refine zC.of (by decide +kernel) (Nat.le_of_ble_eq_true rfl) ?_
  intro x hx hr hml hnm hrm hq hNH
  have loop : ∀ (m k : Nat), k + m = 1000 → zV x ad (Lay K ad S) 0 0 [(4, .int (nI k)), (3, .int (nI (cntI (fun q => decide (S.2.2 7 q = 1 ∧ S.2.2 5 q = s ∧ S.2.2 6 q = r)) k))), (0, .ref (ad 4)), (1, .int s), (2, .int r)] 5 [] := by
    intro m
    induction m with
    | zero =>
      intro k he
      obtain rfl : k = 1000 := by omega
      refine z_iload hx 0 d_Sh_tallyFree_5 rfl ?_
      refine z_sipush (v := 1000) hx d_Sh_tallyFree_7 rfl ?_
      refine z_icmp_ge (tgt := 33) hx d_Sh_tallyFree_10 (by decide) (fun _ => ?_) (fun h => absurd (by decide) h)
      refine z_iload_n hx 1 d_Sh_tallyFree_33 rfl ?_
      exact z_iret hx hr rfl hq (Nat.le_refl _) (Nat.le_refl _) d_Sh_tallyFree_34 ⟨rfl, rfl, rfl⟩
    | succ m ih =>
      intro k he
      have hk : k < 1000 := by omega
      refine z_iload hx 0 d_Sh_tallyFree_5 rfl ?_
      refine z_sipush (v := 1000) hx d_Sh_tallyFree_7 rfl ?_
      refine z_icmp_ge (tgt := 33) hx d_Sh_tallyFree_10 (by decide) (fun h => absurd h (nI_nleL 1000 rfl hk (by decide))) (fun _ => ?_)
      refine z_aload_n hx 2 d_Sh_tallyFree_13 rfl ?_
      refine z_iload hx 0 d_Sh_tallyFree_14 rfl ?_
      refine z_iload_n hx 3 d_Sh_tallyFree_16 rfl ?_
      refine z_iload_n hx 4 d_Sh_tallyFree_17 rfl ?_
      refine z_cV hx (c_Sh_isFree (s := s) (r := r) hk) k_Sh rfl ⟨a2_142, a2_145, a1_4, ⟨by decide +kernel, by decide +kernel⟩, fun sig h => by cases h; rfl⟩ a2_144 s_Sh_isFree rfl rfl d_Sh_tallyFree_18 (by rw [hrm]; exact ⟨Nat.le_of_ble_eq_true rfl, Nat.le_of_ble_eq_true rfl, Nat.le_of_ble_eq_true rfl, Nat.le_of_ble_eq_true rfl⟩) ?_
      show zV x ad (Lay K ad S) _ _ _ 21 [.int (if S.2.2 7 k = 1 ∧ S.2.2 5 k = s ∧ S.2.2 6 k = r then 1 else 0)]
      refine z_if_eq (tgt := 27) hx d_Sh_tallyFree_21 (by decide) (fun h1 => ?_) (fun h1 => ?_)
      · refine z_iinc (v := nI (k + 1)) hx 0 [(4, .int (nI (k + 1))), (3, .int (nI (cntI (fun q => decide (S.2.2 7 q = 1 ∧ S.2.2 5 q = s ∧ S.2.2 6 q = r)) k))), (0, .ref (ad 4)), (1, .int s), (2, .int r)] d_Sh_tallyFree_27 rfl (nI_1 k) (zN hml (by decide)) rfl ?_
        refine z_goto (tgt := 5) hx d_Sh_tallyFree_30 (by decide) ?_
        have q9 := ih (k + 1) (by omega)
        rw [show cntI (fun q => decide (S.2.2 7 q = 1 ∧ S.2.2 5 q = s ∧ S.2.2 6 q = r)) (k + 1) = cntI (fun q => decide (S.2.2 7 q = 1 ∧ S.2.2 5 q = s ∧ S.2.2 6 q = r)) k from by simp [cntI, z00 h1]] at q9
        exact z_lv [0, 1, 2, 3, 4] _ rfl q9
      · refine z_iinc (v := nI (cntI (fun q => decide (S.2.2 7 q = 1 ∧ S.2.2 5 q = s ∧ S.2.2 6 q = r)) k + 1)) hx 1 [(3, .int (nI (cntI (fun q => decide (S.2.2 7 q = 1 ∧ S.2.2 5 q = s ∧ S.2.2 6 q = r)) k + 1))), (4, .int (nI k)), (0, .ref (ad 4)), (1, .int s), (2, .int r)] d_Sh_tallyFree_24 rfl (nI_1 _) (zN hml (by decide)) rfl ?_
        refine z_iinc (v := nI (k + 1)) hx 1 [(4, .int (nI (k + 1))), (3, .int (nI (cntI (fun q => decide (S.2.2 7 q = 1 ∧ S.2.2 5 q = s ∧ S.2.2 6 q = r)) k + 1))), (0, .ref (ad 4)), (1, .int s), (2, .int r)] d_Sh_tallyFree_27 rfl (nI_1 k) (zN hml (by decide)) rfl ?_
        refine z_goto (tgt := 5) hx d_Sh_tallyFree_30 (by decide) ?_
        have q9 := ih (k + 1) (by omega)
        rw [show cntI (fun q => decide (S.2.2 7 q = 1 ∧ S.2.2 5 q = s ∧ S.2.2 6 q = r)) (k + 1) = cntI (fun q => decide (S.2.2 7 q = 1 ∧ S.2.2 5 q = s ∧ S.2.2 6 q = r)) k + 1 from by simp [cntI, z01 h1]] at q9
        exact z_lv [0, 1, 2, 3, 4] _ rfl q9
  show zV x ad (Lay K ad S) 0 0 [(0, .ref (ad 4)), (1, .int s), (2, .int r)] 0 []
  refine z_iconst (v := 0) hx d_Sh_tallyFree_0 rfl ?_
  refine z_top (b := nI (cntI (fun q => decide (S.2.2 7 q = 1 ∧ S.2.2 5 q = s ∧ S.2.2 6 q = r)) 0)) rfl ?_
  refine z_istore_n hx [(3, .int (nI (cntI (fun q => decide (S.2.2 7 q = 1 ∧ S.2.2 5 q = s ∧ S.2.2 6 q = r)) 0))), (0, .ref (ad 4)), (1, .int s), (2, .int r)] d_Sh_tallyFree_1 rfl (zN hml (by decide)) rfl ?_
  refine z_iconst (v := 0) hx d_Sh_tallyFree_2 rfl ?_
  refine z_top (b := nI 0) rfl ?_
  refine z_istore hx [(4, .int (nI 0)), (3, .int (nI (cntI (fun q => decide (S.2.2 7 q = 1 ∧ S.2.2 5 q = s ∧ S.2.2 6 q = r)) 0))), (0, .ref (ad 4)), (1, .int s), (2, .int r)] d_Sh_tallyFree_3 (zN hml (by decide)) rfl ?_
  exact z_lv [0, 1, 2, 3, 4] _ rfl (loop 1000 0 (by omega))
