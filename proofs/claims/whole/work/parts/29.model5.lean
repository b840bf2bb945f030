def dSpread (S : zSt) (s A : Nat) : Int32 × zSt := if S.2.2 0 7 = 0 then (-1, S) else (gapO S s A A, S)
set_option maxRecDepth 20000 in
theorem c_TD_spread {l : Launch} {D : va_G} {K : Nat → ClassId} {ad : Nat → Nat} {S : zSt} {s : Nat} (hs : s < 8) (hpl : S.2.2 1 1 ≠ 0) (hg : S.1 (40 + s) = 1) {A : Nat} (hA : S.2.2 1 1 = nI A) (hA4 : A ≤ 4) : zC l TB D zcls (ztyl K) y_TD_spread (.code y_TD_spread b_TD_spread 3 (some FieldType.int)) (rmk 2 45) [.ref (ad 0), .int (nI s)] ad (Lay K ad S) (zP K ad (some (.int (dSpread S s A).1)) (dSpread S s A).2) := by
  refine zC.of (by decide +kernel) (Nat.le_of_ble_eq_true rfl) ?_
  intro x hx hr hml hnm hrm hq hNH
  show zV x ad (Lay K ad S) 0 0 [(0, .ref (ad 0)), (1, .int (nI s))] 0 []
  refine z_aload_n hx 0 d_TD_spread_0 rfl ?_
  refine z_iload_n hx 1 d_TD_spread_1 rfl ?_
  refine z_cV hx (c_TD_stratumAt hs) k_TD rfl ⟨a2_6, a2_9, a1_1, ⟨by decide +kernel, by decide +kernel⟩, fun sig h => by cases h; rfl⟩ a2_8 s_TD_stratumAt rfl rfl d_TD_spread_2 (by rw [hrm]; exact ⟨Nat.le_of_ble_eq_true rfl, Nat.le_of_ble_eq_true rfl, Nat.le_of_ble_eq_true rfl, Nat.le_of_ble_eq_true rfl⟩) ?_
  show zV x ad (Lay K ad S) _ _ _ 5 [.ref (ad (40 + s))]
  refine z_astore_n hx [(2, .ref (ad (40 + s))), (0, .ref (ad 0)), (1, .int (nI s))] d_TD_spread_5 rfl (zN hml (by decide)) rfl ?_
  refine z_aload_n hx 1 d_TD_spread_6 rfl ?_
  refine z_cV hx (c_TD_needPlan hpl) k_TD rfl ⟨a2_125, a2_128, a1_1, ⟨by decide +kernel, by decide +kernel⟩, fun sig h => by cases h; rfl⟩ a2_127 s_TD_needPlan rfl rfl d_TD_spread_7 (by rw [hrm]; exact ⟨Nat.le_of_ble_eq_true rfl, Nat.le_of_ble_eq_true rfl, Nat.le_of_ble_eq_true rfl, Nat.le_of_ble_eq_true rfl⟩) ?_
  show zV x ad (Lay K ad S) _ _ _ 10 []
  refine z_aload_n hx 1 d_TD_spread_10 rfl ?_
  refine z_get hx k_TD (t := 0) rfl 7 (by decide) a1_135 rfl d_TD_spread_11 ?_
  refine z_if_eq (tgt := 24) hx d_TD_spread_14 (by decide) (fun h1 => ?_) (fun h1 => ?_)
  · refine z_iconst (v := (-1)) hx d_TD_spread_24 rfl ?_
    have e9 : dSpread S s A = ((-1), S) := by unfold dSpread; (first | rw [if_pos h1] | rw [if_neg h1] | skip); (try rfl)
    exact z_iret hx hr rfl hq (Nat.le_refl _) (Nat.le_refl _) d_TD_spread_25 ⟨by rw [e9], rfl, by rw [e9]⟩
  · refine z_aload_n hx 0 d_TD_spread_17 rfl ?_
    refine z_cV hx (c_St_widestGap hs hg hA hA4) k_St (Lay_St hs) ⟨a3_160, a3_163, a1_5, ⟨by decide +kernel, by decide +kernel⟩, fun sig h => by cases h; rfl⟩ a3_161 a3_162 rfl rfl d_TD_spread_18 (by rw [hrm]; exact ⟨Nat.le_of_ble_eq_true rfl, Nat.le_of_ble_eq_true rfl, Nat.le_of_ble_eq_true rfl, Nat.le_of_ble_eq_true rfl⟩) ?_
    show zV x ad (Lay K ad S) _ _ _ 21 [.int (gapO S s A A)]
    refine z_goto (tgt := 25) hx d_TD_spread_21 (by decide) ?_
    have e9 : dSpread S s A = (gapO S s A A, S) := by unfold dSpread; (first | rw [if_pos h1] | rw [if_neg h1] | skip); (try rfl)
    exact z_iret hx hr rfl hq (Nat.le_refl _) (Nat.le_refl _) d_TD_spread_25 ⟨by rw [e9], rfl, by rw [e9]⟩
theorem gvM_n {S : zSt} {p k u : Nat} {s a w : Int32} (h : u < 24 ∨ 28 < u) : (gvM S p s a k w).2.2 u = S.2.2 u := by
  unfold gvM
  rw [stM_n (by omega), stM_n (by omega), stM_n (by omega), stM_n (by omega), stM_n (by omega)]
def mOff (S : zSt) (i s p n b k : Nat) : Int32 × zSt := if S.2.2 13 1 = 0 then (if S.2.2 21 i = 2 then (-4, mS S) else if S.2.2 25 (100 * i + p) ≤ 0 then (if S.2.2 30 (8 * i + s) < 0 then (-7, mS S) else if S.2.2 31 (8 * i + s) = S.2.2 13 6 then (-7, mS S) else if S.2.2 13 2 = 0 then (nI k, gvM (stM (mwO S) 31 (8 * i + s) (nI n + 1)) (100 * i + p) (nI s) (S.2.2 16 (24 * b + n)) k 2) else (-2, mwT S)) else (-5, mS S)) else (-2, mS S)
set_option maxRecDepth 20000 in
theorem c_Mo_offline {l : Launch} {D : va_G} {K : Nat → ClassId} {ad : Nat → Nat} {S : zSt} {i : Nat} (hi : i < 10) (ho : ¬ S.2.2 21 i ≤ 0) {p s : Nat} (hp : p < 100) (hs : s < 8) (hpl : ¬ S.2.2 13 5 = 0) {n b k Z : Nat} (hZ : S.2.2 13 6 = nI Z) (hZ2 : Z ≤ 24) (hgo : ¬ S.2.2 30 (8 * i + s) < 0 → S.2.2 30 (8 * i + s) = nI b ∧ b < 4200 ∧ S.2.2 31 (8 * i + s) = nI n ∧ n ≤ Z ∧ (n < Z → S.2.2 32 (24 * (8 * i + s) + n) = nI k ∧ k < 1000)) : zC l TB D zcls (ztyl K) y_Mo_offline (.code y_Mo_offline b_Mo_offline 6 (some FieldType.int)) (rmk 3 65) [.ref (ad 13), .int (nI i), .int (nI s), .int (nI p)] ad (Lay K ad S) (zP K ad (some (.int (mOff S i s p n b k).1)) (mOff S i s p n b k).2) := by
  refine zC.of (by decide +kernel) (Nat.le_of_ble_eq_true rfl) ?_
  intro x hx hr hml hnm hrm hq hNH
  show zV x ad (Lay K ad S) 0 0 [(0, .ref (ad 13)), (1, .int (nI i)), (2, .int (nI s)), (3, .int (nI p))] 0 []
  refine z_aload_n hx 0 d_Mo_offline_0 rfl ?_
  refine z_aload_n hx 0 d_Mo_offline_1 rfl ?_
  refine z_iload_n hx 1 d_Mo_offline_2 rfl ?_
  refine z_iload_n hx 3 d_Mo_offline_3 rfl ?_
  refine z_cV hx (c_Mo_isPerson_yes hi ho hp) k_Mo rfl ⟨a4_115, a4_118, a1_6, ⟨by decide +kernel, by decide +kernel⟩, fun sig h => by cases h; rfl⟩ a4_117 s_Mo_isPerson rfl rfl d_Mo_offline_4 (by rw [hrm]; exact ⟨Nat.le_of_ble_eq_true rfl, Nat.le_of_ble_eq_true rfl, Nat.le_of_ble_eq_true rfl, Nat.le_of_ble_eq_true rfl⟩) ?_
  show zV x ad (Lay K ad S) _ _ _ 7 [.int 1, .ref (ad 13)]
  refine z_if_eq (tgt := 17) hx d_Mo_offline_7 (by decide) (fun h => absurd h (by decide)) (fun _ => ?_)
  refine z_iload_n hx 2 d_Mo_offline_10 rfl ?_
  refine z_cS hx (c_Mo_isStratum_yes hs) ⟨a4_119, a4_121, a1_6, ⟨by decide +kernel, by decide +kernel⟩, fun sig h => by cases h; rfl⟩ a4_120 rfl rfl d_Mo_offline_11 (by rw [hrm]; exact ⟨Nat.le_of_ble_eq_true rfl, Nat.le_of_ble_eq_true rfl, Nat.le_of_ble_eq_true rfl, Nat.le_of_ble_eq_true rfl⟩) ?_
  show zV x ad (Lay K ad S) _ _ _ 14 [.int 1, .ref (ad 13)]
  refine z_if_ne (tgt := 21) hx d_Mo_offline_14 (by decide) (fun _ => ?_) (fun h => absurd h (by decide))
  refine z_iconst (v := 0) hx d_Mo_offline_21 rfl ?_
  refine z_aload_n hx 0 d_Mo_offline_22 rfl ?_
  refine z_get hx k_Mo (t := 13) rfl 5 (by decide) a3_228 rfl d_Mo_offline_23 ?_
  refine z_if_ne (tgt := 33) hx d_Mo_offline_26 (by decide) (fun _ => ?_) (fun h => absurd h hpl)
  refine z_iconst (v := 0) hx d_Mo_offline_33 rfl ?_
  refine z_iconst (v := 0) hx d_Mo_offline_34 rfl ?_
  refine z_cV hx (c_Mo_refused_0) k_Mo rfl ⟨a4_81, a4_84, a1_6, ⟨by decide +kernel, by decide +kernel⟩, fun sig h => by cases h; rfl⟩ a4_83 s_Mo_refused rfl rfl d_Mo_offline_35 (by rw [hrm]; exact ⟨Nat.le_of_ble_eq_true rfl, Nat.le_of_ble_eq_true rfl, Nat.le_of_ble_eq_true rfl, Nat.le_of_ble_eq_true rfl⟩) ?_
  show zV x ad (Lay K ad (stM S 13 0 0)) _ _ _ 38 [.int 0]
  refine z_if_eq (tgt := 43) hx d_Mo_offline_38 (by decide) (fun _ => ?_) (fun h => absurd (by decide) h)
  refine z_aload_n hx 0 d_Mo_offline_43 rfl ?_
  refine z_get hx k_Mo (t := 13) rfl 1 (by decide) a3_224 rfl d_Mo_offline_44 ?_
  refine z_top (b := S.2.2 13 1) (rd_j (by decide)) ?_
  refine z_if_ne (tgt := 60) hx d_Mo_offline_47 (by decide) (fun h1 => ?_) (fun h1 => ?_)
  · refine z_aload_n hx 0 d_Mo_offline_60 rfl ?_
    refine z_get hx k_Mo (t := 13) rfl 1 (by decide) a3_224 rfl d_Mo_offline_61 ?_
    refine z_top (b := S.2.2 13 1) (rd_j (by decide)) ?_
    refine z_if_eq (tgt := 72) hx d_Mo_offline_64 (by decide) (fun h => absurd h h1) (fun _ => ?_)
    refine z_bipush (v := (-2)) hx d_Mo_offline_67 rfl ?_
    refine z_goto (tgt := 74) hx d_Mo_offline_69 (by decide) ?_
    have e9 : mOff S i s p n b k = ((-2), stM S 13 0 0) := by unfold mOff; (first | rw [if_pos h1] | rw [if_neg h1] | skip); (try rfl)
    exact z_iret hx hr rfl hq (Nat.le_refl _) (Nat.le_refl _) d_Mo_offline_74 ⟨by rw [e9], rfl, by rw [e9]⟩
  · refine z_aload_n hx 0 d_Mo_offline_50 rfl ?_
    refine z_get hx k_Mo (t := 13) rfl 16 (by decide) a3_239 rfl d_Mo_offline_51 ?_
    refine z_iload_n hx 1 d_Mo_offline_54 rfl ?_
    refine z_ialdK hx 0 rfl (t := 21) rfl (k := i) (by omega) (by first | decide | omega) d_Mo_offline_55 ?_
    refine z_top (b := S.2.2 21 i) (rd_n (by decide)) ?_
    refine z_iconst (v := 2) hx d_Mo_offline_56 rfl ?_
    refine z_icmp_ne (tgt := 75) hx d_Mo_offline_57 (by decide) (fun h2 => ?_) (fun h2 => ?_)
    · refine z_aload_n hx 0 d_Mo_offline_75 rfl ?_
      refine z_get hx k_Mo (t := 13) rfl 20 (by decide) a4_3 rfl d_Mo_offline_76 ?_
      refine z_bipush (v := 100) hx d_Mo_offline_79 rfl ?_
      refine z_iload_n hx 1 d_Mo_offline_81 rfl ?_
      refine z_imul hx d_Mo_offline_82 ?_
      refine z_top (b := nI (100 * i)) (pk_mul 100 i) ?_
      refine z_iload_n hx 3 d_Mo_offline_83 rfl ?_
      refine z_iadd hx d_Mo_offline_84 ?_
      refine z_top (b := nI (100 * i + p)) (nI_add _ _) ?_
      refine z_ialdK hx 0 rfl (t := 25) rfl (k := (100 * i + p)) (by omega) (by first | decide | omega) d_Mo_offline_85 ?_
      refine z_top (b := S.2.2 25 (100 * i + p)) (rd_n (by decide)) ?_
      refine z_if_le (tgt := 92) hx d_Mo_offline_86 (by decide) (fun h3 => ?_) (fun h3 => ?_)
      · refine z_bipush (v := 8) hx d_Mo_offline_92 rfl ?_
        refine z_iload_n hx 1 d_Mo_offline_94 rfl ?_
        refine z_imul hx d_Mo_offline_95 ?_
        refine z_top (b := nI (8 * i)) (pk_mul 8 i) ?_
        refine z_iload_n hx 2 d_Mo_offline_96 rfl ?_
        refine z_iadd hx d_Mo_offline_97 ?_
        refine z_top (b := nI (8 * i + s)) (nI_add _ _) ?_
        refine z_istore hx [(4, .int (nI (8 * i + s))), (0, .ref (ad 13)), (1, .int (nI i)), (2, .int (nI s)), (3, .int (nI p))] d_Mo_offline_98 (zN hml (by decide)) rfl ?_
        refine z_aload_n hx 1 d_Mo_offline_100 rfl ?_
        refine z_get hx k_Mo (t := 13) rfl 25 (by decide) a4_8 rfl d_Mo_offline_101 ?_
        refine z_iload hx 0 d_Mo_offline_104 rfl ?_
        refine z_ialdK hx 0 rfl (t := 30) rfl (k := (8 * i + s)) (by omega) (by first | decide | omega) d_Mo_offline_106 ?_
        refine z_top (b := S.2.2 30 (8 * i + s)) (rd_n (by decide)) ?_
        refine z_if_lt (tgt := 124) hx d_Mo_offline_107 (by decide) (fun h4 => ?_) (fun h4 => ?_)
        · refine z_bipush (v := (-7)) hx d_Mo_offline_124 rfl ?_
          have e9 : mOff S i s p n b k = ((-7), stM S 13 0 0) := by unfold mOff; (first | rw [if_pos h1] | rw [if_neg h1] | skip); (first | rw [if_pos h2] | rw [if_neg h2] | skip); (first | rw [if_pos h3] | rw [if_neg h3] | skip); (first | rw [if_pos h4] | rw [if_neg h4] | skip); (try rfl)
          exact z_iret hx hr rfl hq (Nat.le_refl _) (Nat.le_refl _) d_Mo_offline_126 ⟨by rw [e9], rfl, by rw [e9]⟩
        · refine z_aload_n hx 1 d_Mo_offline_110 rfl ?_
          refine z_get hx k_Mo (t := 13) rfl 26 (by decide) a4_9 rfl d_Mo_offline_111 ?_
          refine z_iload hx 0 d_Mo_offline_114 rfl ?_
          refine z_ialdK hx 0 rfl (t := 31) rfl (k := (8 * i + s)) (by omega) (by first | decide | omega) d_Mo_offline_116 ?_
          refine z_top (b := S.2.2 31 (8 * i + s)) (rd_n (by decide)) ?_
          refine z_aload_n hx 1 d_Mo_offline_117 rfl ?_
          refine z_get hx k_Mo (t := 13) rfl 6 (by decide) a3_229 rfl d_Mo_offline_118 ?_
          refine z_top (b := S.2.2 13 6) (rd_j (by decide)) ?_
          refine z_icmp_ne (tgt := 127) hx d_Mo_offline_121 (by decide) (fun h5 => ?_) (fun h5 => ?_)
          · obtain ⟨g1, g2, g3, g4, g5⟩ := hgo h4
            have g6 : n < Z := Nat.lt_of_le_of_ne g4 (fun z => h5 (by rw [g3, hZ, z]))
            obtain ⟨g7, g8⟩ := g5 g6
            refine z_aload_n hx 1 d_Mo_offline_127 rfl ?_
            by_cases h6 : S.2.2 13 2 = 0
            · refine z_cV hx (c_Mo_writes_ok (S := stM S 13 0 0) h6) k_Mo rfl ⟨a4_85, a4_88, a1_6, ⟨by decide +kernel, by decide +kernel⟩, fun sig h => by cases h; rfl⟩ a4_87 s_Mo_writes rfl rfl d_Mo_offline_128 (by rw [hrm]; exact ⟨Nat.le_of_ble_eq_true rfl, Nat.le_of_ble_eq_true rfl, Nat.le_of_ble_eq_true rfl, Nat.le_of_ble_eq_true rfl⟩) ?_
              show zV x ad (Lay K ad (stM (stM S 13 0 0) 13 3 (S.2.2 13 3 + 1))) _ _ _ 131 [.int 1]
              refine z_if_ne (tgt := 137) hx d_Mo_offline_131 (by decide) (fun _ => ?_) (fun h => absurd h (by decide))
              refine z_aload_n hx 1 d_Mo_offline_137 rfl ?_
              refine z_get hx k_Mo (t := 13) rfl 26 (by decide) a4_9 rfl d_Mo_offline_138 ?_
              refine z_iload hx 0 d_Mo_offline_141 rfl ?_
              refine z_ialdK hx 0 rfl (t := 31) rfl (k := (8 * i + s)) (by omega) (by first | decide | omega) d_Mo_offline_143 ?_
              refine z_top (b := S.2.2 31 (8 * i + s)) ((rd_n (by decide)).trans (rd_n (by decide))) ?_
              refine z_top (b := nI n) g3 ?_
              refine z_istore hx [(5, .int (nI n)), (4, .int (nI (8 * i + s))), (0, .ref (ad 13)), (1, .int (nI i)), (2, .int (nI s)), (3, .int (nI p))] d_Mo_offline_144 (zN hml (by decide)) rfl ?_
              refine z_aload_n hx 2 d_Mo_offline_146 rfl ?_
              refine z_get hx k_Mo (t := 13) rfl 26 (by decide) a4_9 rfl d_Mo_offline_147 ?_
              refine z_iload hx 1 d_Mo_offline_150 rfl ?_
              refine z_dup2_11 hx d_Mo_offline_152 rfl rfl ?_
              refine z_ialdK hx 0 rfl (t := 31) rfl (k := (8 * i + s)) (by omega) (by first | decide | omega) d_Mo_offline_153 ?_
              refine z_top (b := S.2.2 31 (8 * i + s)) ((rd_n (by decide)).trans (rd_n (by decide))) ?_
              refine z_top (b := nI n) g3 ?_
              refine z_iconst (v := 1) hx d_Mo_offline_154 rfl ?_
              refine z_iadd hx d_Mo_offline_155 ?_
              refine z_iastK hx 0 rfl (t := 31) rfl (k := (8 * i + s)) (by omega) (by first | decide | omega)  d_Mo_offline_156 (ce1 := Lay K ad (stM (stM (stM S 13 0 0) 13 3 (S.2.2 13 3 + 1)) 31 ((8 * i + s)) ((nI n) + 1))) (Lay_put (by decide) rfl) ?_
              refine z_aload_n hx 2 d_Mo_offline_157 rfl ?_
              refine z_iload_n hx 3 d_Mo_offline_158 rfl ?_
              refine z_iload_n hx 4 d_Mo_offline_159 rfl ?_
              refine z_iload_n hx 5 d_Mo_offline_160 rfl ?_
              refine z_aload_n hx 2 d_Mo_offline_161 rfl ?_
              refine z_get hx k_Mo (t := 13) rfl 11 (by decide) a3_234 rfl d_Mo_offline_162 ?_
              refine z_bipush (v := 24) hx d_Mo_offline_165 rfl ?_
              refine z_aload_n hx 2 d_Mo_offline_167 rfl ?_
              refine z_get hx k_Mo (t := 13) rfl 25 (by decide) a4_8 rfl d_Mo_offline_168 ?_
              refine z_iload hx 1 d_Mo_offline_171 rfl ?_
              refine z_ialdK hx 0 rfl (t := 30) rfl (k := (8 * i + s)) (by omega) (by first | decide | omega) d_Mo_offline_173 ?_
              refine z_top (b := S.2.2 30 (8 * i + s)) ((rd_n (by decide)).trans ((rd_n (by decide)).trans (rd_n (by decide)))) ?_
              refine z_top (b := nI b) g1 ?_
              refine z_imul hx d_Mo_offline_174 ?_
              refine z_top (b := nI (24 * b)) (pk_mul 24 b) ?_
              refine z_iload hx 0 d_Mo_offline_175 rfl ?_
              refine z_iadd hx d_Mo_offline_177 ?_
              refine z_top (b := nI (24 * b + n)) (nI_add _ _) ?_
              refine z_baldK hx 2 rfl (t := 16) rfl (k := (24 * b + n)) (by omega) (by first | decide | omega) d_Mo_offline_178 ?_
              refine z_top (b := S.2.2 16 (24 * b + n)) ((rd_n (by decide)).trans ((rd_n (by decide)).trans (rd_n (by decide)))) ?_
              refine z_aload_n hx 2 d_Mo_offline_179 rfl ?_
              refine z_get hx k_Mo (t := 13) rfl 27 (by decide) a4_10 rfl d_Mo_offline_180 ?_
              refine z_bipush (v := 24) hx d_Mo_offline_183 rfl ?_
              refine z_iload hx 1 d_Mo_offline_185 rfl ?_
              refine z_imul hx d_Mo_offline_187 ?_
              refine z_top (b := nI (24 * (8 * i + s))) (pk_mul 24 _) ?_
              refine z_iload hx 0 d_Mo_offline_188 rfl ?_
              refine z_iadd hx d_Mo_offline_190 ?_
              refine z_top (b := nI (24 * (8 * i + s) + n)) (nI_add _ _) ?_
              refine z_ialdK hx 0 rfl (t := 32) rfl (k := (24 * (8 * i + s) + n)) (by omega) (by first | decide | omega) d_Mo_offline_191 ?_
              refine z_top (b := S.2.2 32 (24 * (8 * i + s) + n)) ((rd_n (by decide)).trans ((rd_n (by decide)).trans (rd_n (by decide)))) ?_
              refine z_top (b := nI k) g7 ?_
              refine z_iconst (v := 0) hx d_Mo_offline_192 rfl ?_
              refine z_cV hx (c_Mo_give_u (s := nI s) hi hp g8) k_Mo rfl ⟨a4_139, a4_142, a1_6, ⟨by decide +kernel, by decide +kernel⟩, fun sig h => by cases h; rfl⟩ a4_141 s_Mo_give rfl rfl d_Mo_offline_193 (by rw [hrm]; exact ⟨Nat.le_of_ble_eq_true rfl, Nat.le_of_ble_eq_true rfl, Nat.le_of_ble_eq_true rfl, Nat.le_of_ble_eq_true rfl⟩) ?_
              show zV x ad (Lay K ad (gvM (stM (mwO S) 31 (8 * i + s) (nI n + 1)) (100 * i + p) (nI s) (S.2.2 16 (24 * b + n)) k 2)) _ _ _ 196 []
              refine z_aload_n hx 2 d_Mo_offline_196 rfl ?_
              refine z_get hx k_Mo (t := 13) rfl 27 (by decide) a4_10 rfl d_Mo_offline_197 ?_
              refine z_bipush (v := 24) hx d_Mo_offline_200 rfl ?_
              refine z_iload hx 1 d_Mo_offline_202 rfl ?_
              refine z_imul hx d_Mo_offline_204 ?_
              refine z_top (b := nI (24 * (8 * i + s))) (pk_mul 24 _) ?_
              refine z_iload hx 0 d_Mo_offline_205 rfl ?_
              refine z_iadd hx d_Mo_offline_207 ?_
              refine z_top (b := nI (24 * (8 * i + s) + n)) (nI_add _ _) ?_
              refine z_ialdK hx 0 rfl (t := 32) rfl (k := (24 * (8 * i + s) + n)) (by omega) (by first | decide | omega) d_Mo_offline_208 ?_
              refine z_top (b := nI k) (by rw [gvM_n (by omega), stM_n (by decide)]; exact g7) ?_
              have e9 : mOff S i s p n b k = (nI k, gvM (stM (mwO S) 31 (8 * i + s) (nI n + 1)) (100 * i + p) (nI s) (S.2.2 16 (24 * b + n)) k 2) := by unfold mOff; (first | rw [if_pos h1] | rw [if_neg h1] | skip); (first | rw [if_pos h2] | rw [if_neg h2] | skip); (first | rw [if_pos h3] | rw [if_neg h3] | skip); (first | rw [if_pos h4] | rw [if_neg h4] | skip); (first | rw [if_pos h5] | rw [if_neg h5] | skip); (first | rw [if_pos h6] | rw [if_neg h6] | skip); (try rfl)
              exact z_iret hx hr rfl hq (Nat.le_refl _) (Nat.le_refl _) d_Mo_offline_209 ⟨by rw [e9], rfl, by rw [e9]⟩
            · refine z_cV hx (c_Mo_writes_torn (S := stM S 13 0 0) h6) k_Mo rfl ⟨a4_85, a4_88, a1_6, ⟨by decide +kernel, by decide +kernel⟩, fun sig h => by cases h; rfl⟩ a4_87 s_Mo_writes rfl rfl d_Mo_offline_128 (by rw [hrm]; exact ⟨Nat.le_of_ble_eq_true rfl, Nat.le_of_ble_eq_true rfl, Nat.le_of_ble_eq_true rfl, Nat.le_of_ble_eq_true rfl⟩) ?_
              show zV x ad (Lay K ad (stM (stM (stM S 13 0 0) 13 2 0) 13 1 1)) _ _ _ 131 [.int 0]
              refine z_if_ne (tgt := 137) hx d_Mo_offline_131 (by decide) (fun h => absurd (by decide) h) (fun _ => ?_)
              refine z_bipush (v := (-2)) hx d_Mo_offline_134 rfl ?_
              have e9 : mOff S i s p n b k = ((-2), stM (stM (stM S 13 0 0) 13 2 0) 13 1 1) := by unfold mOff; (first | rw [if_pos h1] | rw [if_neg h1] | skip); (first | rw [if_pos h2] | rw [if_neg h2] | skip); (first | rw [if_pos h3] | rw [if_neg h3] | skip); (first | rw [if_pos h4] | rw [if_neg h4] | skip); (first | rw [if_pos h5] | rw [if_neg h5] | skip); (first | rw [if_pos h6] | rw [if_neg h6] | skip); (try rfl)
              exact z_iret hx hr rfl hq (Nat.le_refl _) (Nat.le_refl _) d_Mo_offline_136 ⟨by rw [e9], rfl, by rw [e9]⟩
          · refine z_bipush (v := (-7)) hx d_Mo_offline_124 rfl ?_
            have e9 : mOff S i s p n b k = ((-7), stM S 13 0 0) := by unfold mOff; (first | rw [if_pos h1] | rw [if_neg h1] | skip); (first | rw [if_pos h2] | rw [if_neg h2] | skip); (first | rw [if_pos h3] | rw [if_neg h3] | skip); (first | rw [if_pos h4] | rw [if_neg h4] | skip); (first | rw [if_pos h5] | rw [if_neg h5] | skip); (try rfl)
            exact z_iret hx hr rfl hq (Nat.le_refl _) (Nat.le_refl _) d_Mo_offline_126 ⟨by rw [e9], rfl, by rw [e9]⟩
      · refine z_bipush (v := (-5)) hx d_Mo_offline_89 rfl ?_
        have e9 : mOff S i s p n b k = ((-5), stM S 13 0 0) := by unfold mOff; (first | rw [if_pos h1] | rw [if_neg h1] | skip); (first | rw [if_pos h2] | rw [if_neg h2] | skip); (first | rw [if_pos h3] | rw [if_neg h3] | skip); (try rfl)
        exact z_iret hx hr rfl hq (Nat.le_refl _) (Nat.le_refl _) d_Mo_offline_91 ⟨by rw [e9], rfl, by rw [e9]⟩
    · refine z_aload_n hx 0 d_Mo_offline_60 rfl ?_
      refine z_get hx k_Mo (t := 13) rfl 1 (by decide) a3_224 rfl d_Mo_offline_61 ?_
      refine z_top (b := S.2.2 13 1) (rd_j (by decide)) ?_
      refine z_if_eq (tgt := 72) hx d_Mo_offline_64 (by decide) (fun _ => ?_) (fun h => absurd h1 h)
      refine z_bipush (v := (-4)) hx d_Mo_offline_72 rfl ?_
      have e9 : mOff S i s p n b k = ((-4), stM S 13 0 0) := by unfold mOff; (first | rw [if_pos h1] | rw [if_neg h1] | skip); (first | rw [if_pos h2] | rw [if_neg h2] | skip); (try rfl)
      exact z_iret hx hr rfl hq (Nat.le_refl _) (Nat.le_refl _) d_Mo_offline_74 ⟨by rw [e9], rfl, by rw [e9]⟩
def mAllE (S : zSt) (i : Nat) : Int32 × zSt := if S.2.2 13 1 = 0 then (if S.2.2 13 4 = 0 then (if S.2.2 21 i = 2 then (-4, mS S) else (-5, mS S)) else (-3, mS S)) else (-2, mS S)
set_option maxRecDepth 20000 in
theorem c_Mo_allot_early {l : Launch} {D : va_G} {K : Nat → ClassId} {ad : Nat → Nat} {S : zSt} {i : Nat} (hi : i < 10) (ho : ¬ S.2.2 21 i ≤ 0) {p s : Nat} (hp : p < 100) (hs : s < 8) (hpl : ¬ S.2.2 13 5 = 0) (hE : ¬ S.2.2 13 1 = 0 ∨ ¬ S.2.2 13 4 = 0 ∨ S.2.2 21 i = 2 ∨ ¬ S.2.2 25 (100 * i + p) ≤ 0) : zC l TB D zcls (ztyl K) y_Mo_allot (.code y_Mo_allot b_Mo_allot 6 (some FieldType.int)) (rmk 3 80) [.ref (ad 13), .int (nI i), .int (nI s), .int (nI p)] ad (Lay K ad S) (zP K ad (some (.int (mAllE S i).1)) (mAllE S i).2) := by
  refine zC.of (by decide +kernel) (Nat.le_of_ble_eq_true rfl) ?_
  intro x hx hr hml hnm hrm hq hNH
  show zV x ad (Lay K ad S) 0 0 [(0, .ref (ad 13)), (1, .int (nI i)), (2, .int (nI s)), (3, .int (nI p))] 0 []
  refine z_aload_n hx 0 d_Mo_allot_0 rfl ?_
  refine z_aload_n hx 0 d_Mo_allot_1 rfl ?_
  refine z_iload_n hx 1 d_Mo_allot_2 rfl ?_
  refine z_iload_n hx 3 d_Mo_allot_3 rfl ?_
  refine z_cV hx (c_Mo_isPerson_yes hi ho hp) k_Mo rfl ⟨a4_115, a4_118, a1_6, ⟨by decide +kernel, by decide +kernel⟩, fun sig h => by cases h; rfl⟩ a4_117 s_Mo_isPerson rfl rfl d_Mo_allot_4 (by rw [hrm]; exact ⟨Nat.le_of_ble_eq_true rfl, Nat.le_of_ble_eq_true rfl, Nat.le_of_ble_eq_true rfl, Nat.le_of_ble_eq_true rfl⟩) ?_
  show zV x ad (Lay K ad S) _ _ _ 7 [.int 1, .ref (ad 13)]
  refine z_if_eq (tgt := 17) hx d_Mo_allot_7 (by decide) (fun h => absurd h (by decide)) (fun _ => ?_)
  refine z_iload_n hx 2 d_Mo_allot_10 rfl ?_
  refine z_cS hx (c_Mo_isStratum_yes hs) ⟨a4_119, a4_121, a1_6, ⟨by decide +kernel, by decide +kernel⟩, fun sig h => by cases h; rfl⟩ a4_120 rfl rfl d_Mo_allot_11 (by rw [hrm]; exact ⟨Nat.le_of_ble_eq_true rfl, Nat.le_of_ble_eq_true rfl, Nat.le_of_ble_eq_true rfl, Nat.le_of_ble_eq_true rfl⟩) ?_
  show zV x ad (Lay K ad S) _ _ _ 14 [.int 1, .ref (ad 13)]
  refine z_if_ne (tgt := 21) hx d_Mo_allot_14 (by decide) (fun _ => ?_) (fun h => absurd h (by decide))
  refine z_iconst (v := 0) hx d_Mo_allot_21 rfl ?_
  refine z_aload_n hx 0 d_Mo_allot_22 rfl ?_
  refine z_get hx k_Mo (t := 13) rfl 5 (by decide) a3_228 rfl d_Mo_allot_23 ?_
  refine z_if_ne (tgt := 33) hx d_Mo_allot_26 (by decide) (fun _ => ?_) (fun h => absurd h hpl)
  refine z_iconst (v := 0) hx d_Mo_allot_33 rfl ?_
  refine z_iconst (v := 0) hx d_Mo_allot_34 rfl ?_
  refine z_cV hx (c_Mo_refused_0) k_Mo rfl ⟨a4_81, a4_84, a1_6, ⟨by decide +kernel, by decide +kernel⟩, fun sig h => by cases h; rfl⟩ a4_83 s_Mo_refused rfl rfl d_Mo_allot_35 (by rw [hrm]; exact ⟨Nat.le_of_ble_eq_true rfl, Nat.le_of_ble_eq_true rfl, Nat.le_of_ble_eq_true rfl, Nat.le_of_ble_eq_true rfl⟩) ?_
  show zV x ad (Lay K ad (stM S 13 0 0)) _ _ _ 38 [.int 0]
  refine z_if_eq (tgt := 43) hx d_Mo_allot_38 (by decide) (fun _ => ?_) (fun h => absurd (by decide) h)
  refine z_aload_n hx 0 d_Mo_allot_43 rfl ?_
  refine z_get hx k_Mo (t := 13) rfl 1 (by decide) a3_224 rfl d_Mo_allot_44 ?_
  refine z_top (b := S.2.2 13 1) (rd_j (by decide)) ?_
  refine z_if_ne (tgt := 67) hx d_Mo_allot_47 (by decide) (fun h1 => ?_) (fun h1 => ?_)
  · refine z_aload_n hx 0 d_Mo_allot_67 rfl ?_
    refine z_get hx k_Mo (t := 13) rfl 1 (by decide) a3_224 rfl d_Mo_allot_68 ?_
    refine z_top (b := S.2.2 13 1) (rd_j (by decide)) ?_
    refine z_if_eq (tgt := 79) hx d_Mo_allot_71 (by decide) (fun h => absurd h h1) (fun _ => ?_)
    refine z_bipush (v := (-2)) hx d_Mo_allot_74 rfl ?_
    refine z_goto (tgt := 93) hx d_Mo_allot_76 (by decide) ?_
    have e9 : mAllE S i = ((-2), stM S 13 0 0) := by unfold mAllE; (first | rw [if_pos h1] | rw [if_neg h1] | skip); (try rfl)
    exact z_iret hx hr rfl hq (Nat.le_refl _) (Nat.le_refl _) d_Mo_allot_93 ⟨by rw [e9], rfl, by rw [e9]⟩
  · refine z_aload_n hx 0 d_Mo_allot_50 rfl ?_
    refine z_get hx k_Mo (t := 13) rfl 4 (by decide) a3_227 rfl d_Mo_allot_51 ?_
    refine z_top (b := S.2.2 13 4) (rd_j (by decide)) ?_
    refine z_if_ne (tgt := 67) hx d_Mo_allot_54 (by decide) (fun h2 => ?_) (fun h2 => ?_)
    · refine z_aload_n hx 0 d_Mo_allot_67 rfl ?_
      refine z_get hx k_Mo (t := 13) rfl 1 (by decide) a3_224 rfl d_Mo_allot_68 ?_
      refine z_top (b := S.2.2 13 1) (rd_j (by decide)) ?_
      refine z_if_eq (tgt := 79) hx d_Mo_allot_71 (by decide) (fun _ => ?_) (fun h => absurd h1 h)
      refine z_aload_n hx 0 d_Mo_allot_79 rfl ?_
      refine z_get hx k_Mo (t := 13) rfl 4 (by decide) a3_227 rfl d_Mo_allot_80 ?_
      refine z_top (b := S.2.2 13 4) (rd_j (by decide)) ?_
      refine z_if_eq (tgt := 91) hx d_Mo_allot_83 (by decide) (fun h => absurd h h2) (fun _ => ?_)
      refine z_bipush (v := (-3)) hx d_Mo_allot_86 rfl ?_
      refine z_goto (tgt := 93) hx d_Mo_allot_88 (by decide) ?_
      have e9 : mAllE S i = ((-3), stM S 13 0 0) := by unfold mAllE; (first | rw [if_pos h1] | rw [if_neg h1] | skip); (first | rw [if_pos h2] | rw [if_neg h2] | skip); (try rfl)
      exact z_iret hx hr rfl hq (Nat.le_refl _) (Nat.le_refl _) d_Mo_allot_93 ⟨by rw [e9], rfl, by rw [e9]⟩
    · refine z_aload_n hx 0 d_Mo_allot_57 rfl ?_
      refine z_get hx k_Mo (t := 13) rfl 16 (by decide) a3_239 rfl d_Mo_allot_58 ?_
      refine z_iload_n hx 1 d_Mo_allot_61 rfl ?_
      refine z_ialdK hx 0 rfl (t := 21) rfl (k := i) (by omega) (by first | decide | omega) d_Mo_allot_62 ?_
      refine z_top (b := S.2.2 21 i) (rd_n (by decide)) ?_
      refine z_iconst (v := 2) hx d_Mo_allot_63 rfl ?_
      refine z_icmp_ne (tgt := 94) hx d_Mo_allot_64 (by decide) (fun h3 => ?_) (fun h3 => ?_)
      · refine z_aload_n hx 0 d_Mo_allot_94 rfl ?_
        refine z_get hx k_Mo (t := 13) rfl 20 (by decide) a4_3 rfl d_Mo_allot_95 ?_
        refine z_bipush (v := 100) hx d_Mo_allot_98 rfl ?_
        refine z_iload_n hx 1 d_Mo_allot_100 rfl ?_
        refine z_imul hx d_Mo_allot_101 ?_
        refine z_top (b := nI (100 * i)) (pk_mul 100 i) ?_
        refine z_iload_n hx 3 d_Mo_allot_102 rfl ?_
        refine z_iadd hx d_Mo_allot_103 ?_
        refine z_top (b := nI (100 * i + p)) (nI_add _ _) ?_
        refine z_ialdK hx 0 rfl (t := 25) rfl (k := (100 * i + p)) (by omega) (by first | decide | omega) d_Mo_allot_104 ?_
        refine z_top (b := S.2.2 25 (100 * i + p)) (rd_n (by decide)) ?_
        refine z_if_le (tgt := 111) hx d_Mo_allot_105 (by decide) (fun h4 => ?_) (fun h4 => ?_)
        · exact absurd hE (by simp [h1, h2, h3, h4])
        · refine z_bipush (v := (-5)) hx d_Mo_allot_108 rfl ?_
          have e9 : mAllE S i = ((-5), stM S 13 0 0) := by unfold mAllE; (first | rw [if_pos h1] | rw [if_neg h1] | skip); (first | rw [if_pos h2] | rw [if_neg h2] | skip); (first | rw [if_pos h3] | rw [if_neg h3] | skip); (first | rw [if_pos h4] | rw [if_neg h4] | skip); (try rfl)
          exact z_iret hx hr rfl hq (Nat.le_refl _) (Nat.le_refl _) d_Mo_allot_110 ⟨by rw [e9], rfl, by rw [e9]⟩
      · refine z_aload_n hx 0 d_Mo_allot_67 rfl ?_
        refine z_get hx k_Mo (t := 13) rfl 1 (by decide) a3_224 rfl d_Mo_allot_68 ?_
        refine z_top (b := S.2.2 13 1) (rd_j (by decide)) ?_
        refine z_if_eq (tgt := 79) hx d_Mo_allot_71 (by decide) (fun _ => ?_) (fun h => absurd h1 h)
        refine z_aload_n hx 0 d_Mo_allot_79 rfl ?_
        refine z_get hx k_Mo (t := 13) rfl 4 (by decide) a3_227 rfl d_Mo_allot_80 ?_
        refine z_top (b := S.2.2 13 4) (rd_j (by decide)) ?_
        refine z_if_eq (tgt := 91) hx d_Mo_allot_83 (by decide) (fun _ => ?_) (fun h => absurd h2 h)
        refine z_bipush (v := (-4)) hx d_Mo_allot_91 rfl ?_
        have e9 : mAllE S i = ((-4), stM S 13 0 0) := by unfold mAllE; (first | rw [if_pos h1] | rw [if_neg h1] | skip); (first | rw [if_pos h2] | rw [if_neg h2] | skip); (first | rw [if_pos h3] | rw [if_neg h3] | skip); (try rfl)
        exact z_iret hx hr rfl hq (Nat.le_refl _) (Nat.le_refl _) d_Mo_allot_93 ⟨by rw [e9], rfl, by rw [e9]⟩
theorem nxt_le0 {p : Nat → Bool} : nxt p 1000 0 ≤ 1000 := nxt_le (by omega)
def mAlO (S : zSt) (i s p a o : Nat) : Int32 × zSt := if nxt (pM (mS S) i a) 1000 0 = 1000 then (-6, mS S) else if S.2.2 13 2 = 0 then (nI (nxt (pM (mS S) i a) 1000 0), gvM (stM (mwO S) 20 s (nI o + 1)) (100 * i + p) (nI s) (nI a) (nxt (pM (mS S) i a) 1000 0) 1) else (-2, mwT S)
set_option maxRecDepth 20000 in
theorem c_Mo_allot_open {l : Launch} {D : va_G} {K : Nat → ClassId} {ad : Nat → Nat} {S : zSt} {i : Nat} (hi : i < 10) (ho : ¬ S.2.2 21 i ≤ 0) {p s : Nat} (hp : p < 100) (hs : s < 8) (hpl : ¬ S.2.2 13 5 = 0) (hd0 : S.2.2 13 1 = 0) (ho7 : S.2.2 13 4 = 0) (hcl : ¬ S.2.2 21 i = 2) (hp0 : S.2.2 25 (100 * i + p) ≤ 0) {a o b Z : Nat} (hb : S.2.2 19 s = nI b) (hb2 : b < 4200) (hn : S.2.2 20 s = nI o) (hZ : S.2.2 13 6 = nI Z) (hoZ : o < Z) (hZ2 : Z ≤ 24) (hav : S.2.2 16 (24 * b + o) = nI a) : zC l TB D zcls (ztyl K) y_Mo_allot (.code y_Mo_allot b_Mo_allot 6 (some FieldType.int)) (rmk 3 80) [.ref (ad 13), .int (nI i), .int (nI s), .int (nI p)] ad (Lay K ad S) (zP K ad (some (.int (mAlO S i s p a o).1)) (mAlO S i s p a o).2) := by
  refine zC.of (by decide +kernel) (Nat.le_of_ble_eq_true rfl) ?_
  intro x hx hr hml hnm hrm hq hNH
  show zV x ad (Lay K ad S) 0 0 [(0, .ref (ad 13)), (1, .int (nI i)), (2, .int (nI s)), (3, .int (nI p))] 0 []
  refine z_aload_n hx 0 d_Mo_allot_0 rfl ?_
  refine z_aload_n hx 0 d_Mo_allot_1 rfl ?_
  refine z_iload_n hx 1 d_Mo_allot_2 rfl ?_
  refine z_iload_n hx 3 d_Mo_allot_3 rfl ?_
  refine z_cV hx (c_Mo_isPerson_yes hi ho hp) k_Mo rfl ⟨a4_115, a4_118, a1_6, ⟨by decide +kernel, by decide +kernel⟩, fun sig h => by cases h; rfl⟩ a4_117 s_Mo_isPerson rfl rfl d_Mo_allot_4 (by rw [hrm]; exact ⟨Nat.le_of_ble_eq_true rfl, Nat.le_of_ble_eq_true rfl, Nat.le_of_ble_eq_true rfl, Nat.le_of_ble_eq_true rfl⟩) ?_
  show zV x ad (Lay K ad S) _ _ _ 7 [.int 1, .ref (ad 13)]
  refine z_if_eq (tgt := 17) hx d_Mo_allot_7 (by decide) (fun h => absurd h (by decide)) (fun _ => ?_)
  refine z_iload_n hx 2 d_Mo_allot_10 rfl ?_
  refine z_cS hx (c_Mo_isStratum_yes hs) ⟨a4_119, a4_121, a1_6, ⟨by decide +kernel, by decide +kernel⟩, fun sig h => by cases h; rfl⟩ a4_120 rfl rfl d_Mo_allot_11 (by rw [hrm]; exact ⟨Nat.le_of_ble_eq_true rfl, Nat.le_of_ble_eq_true rfl, Nat.le_of_ble_eq_true rfl, Nat.le_of_ble_eq_true rfl⟩) ?_
  show zV x ad (Lay K ad S) _ _ _ 14 [.int 1, .ref (ad 13)]
  refine z_if_ne (tgt := 21) hx d_Mo_allot_14 (by decide) (fun _ => ?_) (fun h => absurd h (by decide))
  refine z_iconst (v := 0) hx d_Mo_allot_21 rfl ?_
  refine z_aload_n hx 0 d_Mo_allot_22 rfl ?_
  refine z_get hx k_Mo (t := 13) rfl 5 (by decide) a3_228 rfl d_Mo_allot_23 ?_
  refine z_if_ne (tgt := 33) hx d_Mo_allot_26 (by decide) (fun _ => ?_) (fun h => absurd h hpl)
  refine z_iconst (v := 0) hx d_Mo_allot_33 rfl ?_
  refine z_iconst (v := 0) hx d_Mo_allot_34 rfl ?_
  refine z_cV hx (c_Mo_refused_0) k_Mo rfl ⟨a4_81, a4_84, a1_6, ⟨by decide +kernel, by decide +kernel⟩, fun sig h => by cases h; rfl⟩ a4_83 s_Mo_refused rfl rfl d_Mo_allot_35 (by rw [hrm]; exact ⟨Nat.le_of_ble_eq_true rfl, Nat.le_of_ble_eq_true rfl, Nat.le_of_ble_eq_true rfl, Nat.le_of_ble_eq_true rfl⟩) ?_
  show zV x ad (Lay K ad (stM S 13 0 0)) _ _ _ 38 [.int 0]
  refine z_if_eq (tgt := 43) hx d_Mo_allot_38 (by decide) (fun _ => ?_) (fun h => absurd (by decide) h)
  refine z_aload_n hx 0 d_Mo_allot_43 rfl ?_
  refine z_get hx k_Mo (t := 13) rfl 1 (by decide) a3_224 rfl d_Mo_allot_44 ?_
  refine z_top (b := S.2.2 13 1) (rd_j (by decide)) ?_
  refine z_if_ne (tgt := 67) hx d_Mo_allot_47 (by decide) (fun h => absurd hd0 h) (fun _ => ?_)
  refine z_aload_n hx 0 d_Mo_allot_50 rfl ?_
  refine z_get hx k_Mo (t := 13) rfl 4 (by decide) a3_227 rfl d_Mo_allot_51 ?_
  refine z_top (b := S.2.2 13 4) (rd_j (by decide)) ?_
  refine z_if_ne (tgt := 67) hx d_Mo_allot_54 (by decide) (fun h => absurd ho7 h) (fun _ => ?_)
  refine z_aload_n hx 0 d_Mo_allot_57 rfl ?_
  refine z_get hx k_Mo (t := 13) rfl 16 (by decide) a3_239 rfl d_Mo_allot_58 ?_
  refine z_iload_n hx 1 d_Mo_allot_61 rfl ?_
  refine z_ialdK hx 0 rfl (t := 21) rfl (k := i) (by omega) (by first | decide | omega) d_Mo_allot_62 ?_
  refine z_top (b := S.2.2 21 i) (rd_n (by decide)) ?_
  refine z_iconst (v := 2) hx d_Mo_allot_63 rfl ?_
  refine z_icmp_ne (tgt := 94) hx d_Mo_allot_64 (by decide) (fun _ => ?_) (fun h => absurd h hcl)
  refine z_aload_n hx 0 d_Mo_allot_94 rfl ?_
  refine z_get hx k_Mo (t := 13) rfl 20 (by decide) a4_3 rfl d_Mo_allot_95 ?_
  refine z_bipush (v := 100) hx d_Mo_allot_98 rfl ?_
  refine z_iload_n hx 1 d_Mo_allot_100 rfl ?_
  refine z_imul hx d_Mo_allot_101 ?_
  refine z_top (b := nI (100 * i)) (pk_mul 100 i) ?_
  refine z_iload_n hx 3 d_Mo_allot_102 rfl ?_
  refine z_iadd hx d_Mo_allot_103 ?_
  refine z_top (b := nI (100 * i + p)) (nI_add _ _) ?_
  refine z_ialdK hx 0 rfl (t := 25) rfl (k := (100 * i + p)) (by omega) (by first | decide | omega) d_Mo_allot_104 ?_
  refine z_top (b := S.2.2 25 (100 * i + p)) (rd_n (by decide)) ?_
  refine z_if_le (tgt := 111) hx d_Mo_allot_105 (by decide) (fun _ => ?_) (fun h => absurd hp0 h)
  refine z_aload_n hx 0 d_Mo_allot_111 rfl ?_
  refine z_iload_n hx 2 d_Mo_allot_112 rfl ?_
  refine z_cV hx (c_Mo_nextArm_open (S := mS S) hs hb hb2 hn hZ hoZ hZ2) k_Mo rfl ⟨a4_122, a4_125, a1_6, ⟨by decide +kernel, by decide +kernel⟩, fun sig h => by cases h; rfl⟩ a4_124 s_Mo_nextArm rfl rfl d_Mo_allot_113 (by rw [hrm]; exact ⟨Nat.le_of_ble_eq_true rfl, Nat.le_of_ble_eq_true rfl, Nat.le_of_ble_eq_true rfl, Nat.le_of_ble_eq_true rfl⟩) ?_
  show zV x ad (Lay K ad (stM S 13 0 0)) _ _ _ 116 [.int (S.2.2 16 (24 * b + o))]
  refine z_top (b := nI a) hav ?_
  refine z_istore hx [(4, .int (nI a)), (0, .ref (ad 13)), (1, .int (nI i)), (2, .int (nI s)), (3, .int (nI p))] d_Mo_allot_116 (zN hml (by decide)) rfl ?_
  refine z_aload_n hx 1 d_Mo_allot_118 rfl ?_
  refine z_iload_n hx 2 d_Mo_allot_119 rfl ?_
  refine z_iload hx 0 d_Mo_allot_120 rfl ?_
  by_cases h1 : nxt (pM (mS S) i a) 1000 0 = 1000
  · refine z_cV hx ((by have q := c_Mo_leastFree (l := l) (D := D) (K := K) (ad := ad) (S := mS S) (s := nI i) (r := nI a); rw [if_pos (show nxt (fun q => decide (((mS S).2.2 22 q = nI i ∧ (mS S).2.2 23 q = nI a ∧ (mS S).2.2 24 q = 0))) 1000 0 = 1000 from h1)] at q; exact q)) k_Mo rfl ⟨a4_135, a4_138, a1_6, ⟨by decide +kernel, by decide +kernel⟩, fun sig h => by cases h; rfl⟩ a4_137 s_Mo_leastFree rfl rfl d_Mo_allot_122 (by rw [hrm]; exact ⟨Nat.le_of_ble_eq_true rfl, Nat.le_of_ble_eq_true rfl, Nat.le_of_ble_eq_true rfl, Nat.le_of_ble_eq_true rfl⟩) ?_
    show zV x ad (Lay K ad (stM S 13 0 0)) _ _ _ 125 [.int ((-1))]
    refine z_istore hx [(5, .int ((-1))), (4, .int (nI a)), (0, .ref (ad 13)), (1, .int (nI i)), (2, .int (nI s)), (3, .int (nI p))] d_Mo_allot_125 (zN hml (by decide)) rfl ?_
    refine z_iload hx 0 d_Mo_allot_127 rfl ?_
    have hk9 := nxt_le0 (p := pM (mS S) i a)
    refine z_if_ge (tgt := 135) hx d_Mo_allot_129 (by decide) (fun h => absurd h (by decide)) (fun _ => ?_)
    refine z_bipush (v := (-6)) hx d_Mo_allot_132 rfl ?_
    have e9 : mAlO S i s p a o = ((-6), stM S 13 0 0) := by unfold mAlO; (first | rw [if_pos h1] | rw [if_neg h1] | skip); (try rfl)
    exact z_iret hx hr rfl hq (Nat.le_refl _) (Nat.le_refl _) d_Mo_allot_134 ⟨by rw [e9], rfl, by rw [e9]⟩
  · refine z_cV hx ((by have q := c_Mo_leastFree (l := l) (D := D) (K := K) (ad := ad) (S := mS S) (s := nI i) (r := nI a); rw [if_neg (show nxt (fun q => decide (((mS S).2.2 22 q = nI i ∧ (mS S).2.2 23 q = nI a ∧ (mS S).2.2 24 q = 0))) 1000 0 ≠ 1000 from h1)] at q; exact q)) k_Mo rfl ⟨a4_135, a4_138, a1_6, ⟨by decide +kernel, by decide +kernel⟩, fun sig h => by cases h; rfl⟩ a4_137 s_Mo_leastFree rfl rfl d_Mo_allot_122 (by rw [hrm]; exact ⟨Nat.le_of_ble_eq_true rfl, Nat.le_of_ble_eq_true rfl, Nat.le_of_ble_eq_true rfl, Nat.le_of_ble_eq_true rfl⟩) ?_
    show zV x ad (Lay K ad (stM S 13 0 0)) _ _ _ 125 [.int (nI (nxt (pM (mS S) i a) 1000 0))]
    refine z_istore hx [(5, .int (nI (nxt (pM (mS S) i a) 1000 0))), (4, .int (nI a)), (0, .ref (ad 13)), (1, .int (nI i)), (2, .int (nI s)), (3, .int (nI p))] d_Mo_allot_125 (zN hml (by decide)) rfl ?_
    refine z_iload hx 0 d_Mo_allot_127 rfl ?_
    have hk9 := nxt_le0 (p := pM (mS S) i a)
    refine z_if_ge (tgt := 135) hx d_Mo_allot_129 (by decide) (fun _ => ?_) (fun h => absurd (nI_ge0 (by omega)) h)
    have hk8 : nxt (pM (mS S) i a) 1000 0 < 1000 := Nat.lt_of_le_of_ne hk9 h1
    refine z_aload_n hx 2 d_Mo_allot_135 rfl ?_
    by_cases h2 : S.2.2 13 2 = 0
    · refine z_cV hx (c_Mo_writes_ok (S := stM S 13 0 0) h2) k_Mo rfl ⟨a4_85, a4_88, a1_6, ⟨by decide +kernel, by decide +kernel⟩, fun sig h => by cases h; rfl⟩ a4_87 s_Mo_writes rfl rfl d_Mo_allot_136 (by rw [hrm]; exact ⟨Nat.le_of_ble_eq_true rfl, Nat.le_of_ble_eq_true rfl, Nat.le_of_ble_eq_true rfl, Nat.le_of_ble_eq_true rfl⟩) ?_
      show zV x ad (Lay K ad (stM (stM S 13 0 0) 13 3 (S.2.2 13 3 + 1))) _ _ _ 139 [.int 1]
      refine z_if_ne (tgt := 145) hx d_Mo_allot_139 (by decide) (fun _ => ?_) (fun h => absurd h (by decide))
      refine z_aload_n hx 2 d_Mo_allot_145 rfl ?_
      refine z_get hx k_Mo (t := 13) rfl 14 (by decide) a3_237 rfl d_Mo_allot_146 ?_
      refine z_iload_n hx 4 d_Mo_allot_149 rfl ?_
      refine z_ialdK hx 0 rfl (t := 19) rfl (k := s) (by omega) (by first | decide | omega) d_Mo_allot_150 ?_
      refine z_top (b := S.2.2 19 s) ((rd_n (by decide)).trans (rd_n (by decide))) ?_
      refine z_top (b := nI b) hb ?_
      refine z_if_lt (tgt := 167) hx d_Mo_allot_151 (by decide) (fun h => absurd h (nI_pos (by omega))) (fun _ => ?_)
      refine z_aload_n hx 2 d_Mo_allot_154 rfl ?_
      refine z_get hx k_Mo (t := 13) rfl 15 (by decide) a3_238 rfl d_Mo_allot_155 ?_
      refine z_iload_n hx 4 d_Mo_allot_158 rfl ?_
      refine z_ialdK hx 0 rfl (t := 20) rfl (k := s) (by omega) (by first | decide | omega) d_Mo_allot_159 ?_
      refine z_top (b := S.2.2 20 s) ((rd_n (by decide)).trans (rd_n (by decide))) ?_
      refine z_top (b := nI o) hn ?_
      refine z_aload_n hx 2 d_Mo_allot_160 rfl ?_
      refine z_get hx k_Mo (t := 13) rfl 6 (by decide) a3_229 rfl d_Mo_allot_161 ?_
      refine z_top (b := S.2.2 13 6) ((rd_j (by decide)).trans (rd_j (by decide))) ?_
      refine z_top (b := nI Z) hZ ?_
      refine z_icmp_ne (tgt := 185) hx d_Mo_allot_164 (by decide) (fun _ => ?_) (fun h => absurd h (fun z => absurd ((nI_eq (by omega) (by omega)).mp z) (by omega)))
      refine z_aload_n hx 2 d_Mo_allot_185 rfl ?_
      refine z_get hx k_Mo (t := 13) rfl 15 (by decide) a3_238 rfl d_Mo_allot_186 ?_
      refine z_iload_n hx 4 d_Mo_allot_189 rfl ?_
      refine z_dup2_11 hx d_Mo_allot_190 rfl rfl ?_
      refine z_ialdK hx 0 rfl (t := 20) rfl (k := s) (by omega) (by first | decide | omega) d_Mo_allot_191 ?_
      refine z_top (b := S.2.2 20 s) ((rd_n (by decide)).trans (rd_n (by decide))) ?_
      refine z_top (b := nI o) hn ?_
      refine z_iconst (v := 1) hx d_Mo_allot_192 rfl ?_
      refine z_iadd hx d_Mo_allot_193 ?_
      refine z_iastK hx 0 rfl (t := 20) rfl (k := s) (by omega) (by first | decide | omega)  d_Mo_allot_194 (ce1 := Lay K ad (stM (stM (stM S 13 0 0) 13 3 (S.2.2 13 3 + 1)) 20 s ((nI o) + 1))) (Lay_put (by decide) rfl) ?_
      refine z_aload_n hx 2 d_Mo_allot_195 rfl ?_
      refine z_iload_n hx 3 d_Mo_allot_196 rfl ?_
      refine z_iload_n hx 4 d_Mo_allot_197 rfl ?_
      refine z_iload_n hx 5 d_Mo_allot_198 rfl ?_
      refine z_iload hx 1 d_Mo_allot_199 rfl ?_
      refine z_iload hx 0 d_Mo_allot_201 rfl ?_
      refine z_iconst (v := 1) hx d_Mo_allot_203 rfl ?_
      refine z_cV hx (c_Mo_give_k hi hp hk8) k_Mo rfl ⟨a4_139, a4_142, a1_6, ⟨by decide +kernel, by decide +kernel⟩, fun sig h => by cases h; rfl⟩ a4_141 s_Mo_give rfl rfl d_Mo_allot_204 (by rw [hrm]; exact ⟨Nat.le_of_ble_eq_true rfl, Nat.le_of_ble_eq_true rfl, Nat.le_of_ble_eq_true rfl, Nat.le_of_ble_eq_true rfl⟩) ?_
      show zV x ad (Lay K ad (gvM (stM (mwO S) 20 s (nI o + 1)) (100 * i + p) (nI s) (nI a) (nxt (pM (mS S) i a) 1000 0) 1)) _ _ _ 207 []
      refine z_iload hx 0 d_Mo_allot_207 rfl ?_
      have e9 : mAlO S i s p a o = (nI (nxt (pM (mS S) i a) 1000 0), gvM (stM (mwO S) 20 s (nI o + 1)) (100 * i + p) (nI s) (nI a) (nxt (pM (mS S) i a) 1000 0) 1) := by unfold mAlO; (first | rw [if_pos h1] | rw [if_neg h1] | skip); (first | rw [if_pos h2] | rw [if_neg h2] | skip); (try rfl)
      exact z_iret hx hr rfl hq (Nat.le_refl _) (Nat.le_refl _) d_Mo_allot_209 ⟨by rw [e9], rfl, by rw [e9]⟩
    · refine z_cV hx (c_Mo_writes_torn (S := stM S 13 0 0) h2) k_Mo rfl ⟨a4_85, a4_88, a1_6, ⟨by decide +kernel, by decide +kernel⟩, fun sig h => by cases h; rfl⟩ a4_87 s_Mo_writes rfl rfl d_Mo_allot_136 (by rw [hrm]; exact ⟨Nat.le_of_ble_eq_true rfl, Nat.le_of_ble_eq_true rfl, Nat.le_of_ble_eq_true rfl, Nat.le_of_ble_eq_true rfl⟩) ?_
      show zV x ad (Lay K ad (stM (stM (stM S 13 0 0) 13 2 0) 13 1 1)) _ _ _ 139 [.int 0]
      refine z_if_ne (tgt := 145) hx d_Mo_allot_139 (by decide) (fun h => absurd (by decide) h) (fun _ => ?_)
      refine z_bipush (v := (-2)) hx d_Mo_allot_142 rfl ?_
      have e9 : mAlO S i s p a o = ((-2), stM (stM (stM S 13 0 0) 13 2 0) 13 1 1) := by unfold mAlO; (first | rw [if_pos h1] | rw [if_neg h1] | skip); (first | rw [if_pos h2] | rw [if_neg h2] | skip); (try rfl)
      exact z_iret hx hr rfl hq (Nat.le_refl _) (Nat.le_refl _) d_Mo_allot_144 ⟨by rw [e9], rfl, by rw [e9]⟩
theorem naM_n {S : zSt} {s T Z A : Nat} {e : Nat → Nat} {u : Nat} (h1 : u ≠ 13) (h2 : u ≠ 15) (h3 : u ≠ 16) (h4 : u ≠ 17) : (naM S s T Z A e).2.2 u = S.2.2 u := by
  show (stM (stM (tbM S s T Z A e) 13 9 (nI T)) 17 s ((tbM S s T Z A e).2.2 17 s - 1)).2.2 u = _
  rw [stM_n h4, stM_n h1, tbM_n h1 h2 h3 h4]
theorem naM_13 {S : zSt} {s T Z A j : Nat} {e : Nat → Nat} (h : j ≠ 9) : (naM S s T Z A e).2.2 13 j = S.2.2 13 j := by
  show (stM (stM (tbM S s T Z A e) 13 9 (nI T)) 17 s ((tbM S s T Z A e).2.2 17 s - 1)).2.2 13 j = _
  rw [rd_n (by decide), rd_j h, tbM_13 h]
theorem naM_9 {S : zSt} {s T Z A : Nat} {e : Nat → Nat} : (naM S s T Z A e).2.2 13 9 = nI T := by
  show (stM (stM (tbM S s T Z A e) 13 9 (nI T)) 17 s ((tbM S s T Z A e).2.2 17 s - 1)).2.2 13 9 = _
  rw [rd_n (by decide), rd_s]
theorem bOk_tb {S : zSt} (h : bOk S) {s T Z A : Nat} {e : Nat → Nat} (hA : A ≤ 4) : bOk (tbM S s T Z A e) := bOk_n (bOk_n (bOk_n (bOk_sh (bOk_la h hA)) (by decide)) (by decide)) (by decide)
theorem bOk_na {S : zSt} (h : bOk S) {s T Z A : Nat} {e : Nat → Nat} (hA : A ≤ 4) : bOk (naM S s T Z A e) := bOk_n (bOk_n (bOk_tb h hA) (by decide)) (by decide)
def mAlN (S : zSt) (i s p a T Z A : Nat) (e : Nat → Nat) : Int32 × zSt := if nxt (pM (naM (mS S) s T Z A e) i a) 1000 0 = 1000 then (-6, naM (mS S) s T Z A e) else if (naM (mS S) s T Z A e).2.2 13 2 = 0 then (nI (nxt (pM (naM (mS S) s T Z A e) i a) 1000 0), gvM (stM (stM (stM (tbM (stM (naM (mS S) s T Z A e) 13 3 ((naM (mS S) s T Z A e).2.2 13 3 + 1)) s T Z A e) 19 s (nI T)) 20 s 0) 20 s (0 + 1)) (100 * i + p) (nI s) (nI a) (nxt (pM (naM (mS S) s T Z A e) i a) 1000 0) 1) else (-2, stM (stM (naM (mS S) s T Z A e) 13 2 0) 13 1 1)
set_option maxRecDepth 20000 in
theorem c_Mo_allot_neg {l : Launch} {D : va_G} {K : Nat → ClassId} {ad : Nat → Nat} {S : zSt} {i : Nat} (hi : i < 10) (ho : ¬ S.2.2 21 i ≤ 0) {p s : Nat} (hp : p < 100) (hs : s < 8) (hpl : ¬ S.2.2 13 5 = 0) (hd0 : S.2.2 13 1 = 0) (ho7 : S.2.2 13 4 = 0) (hcl : ¬ S.2.2 21 i = 2) (hp0 : S.2.2 25 (100 * i + p) ≤ 0) {a : Nat} (hb : S.2.2 19 s < 0) {T Z A W : Nat} (hT : S.2.2 13 9 = nI T) (hT2 : T < 4200) (hZ : S.2.2 13 6 = nI Z) (hZ1 : 1 ≤ Z) (hZ2 : Z ≤ 24) (hA : S.2.2 13 5 = nI A) (hA4 : A ≤ 4) (hW : S.2.2 14 0 + S.2.2 14 1 + S.2.2 14 2 + S.2.2 14 3 = nI W) (hW1 : 1 ≤ W) (hW2 : W ≤ 24) {e : Nat → Nat} (he : ∀ a, a < A → S.2.2 14 a * (nI Z / nI W) = nI (e a)) (hsE : sE e A = Z) (hbo : bOk S) (hav : (tbM (mS S) s T Z A e).2.2 16 (24 * T) = nI a) : zC l TB D zcls (ztyl K) y_Mo_allot (.code y_Mo_allot b_Mo_allot 6 (some FieldType.int)) (rmk 3 80) [.ref (ad 13), .int (nI i), .int (nI s), .int (nI p)] ad (Lay K ad S) (zP K ad (some (.int (mAlN S i s p a T Z A e).1)) (mAlN S i s p a T Z A e).2) := by
  refine zC.of (by decide +kernel) (Nat.le_of_ble_eq_true rfl) ?_
  intro x hx hr hml hnm hrm hq hNH
  show zV x ad (Lay K ad S) 0 0 [(0, .ref (ad 13)), (1, .int (nI i)), (2, .int (nI s)), (3, .int (nI p))] 0 []
  refine z_aload_n hx 0 d_Mo_allot_0 rfl ?_
  refine z_aload_n hx 0 d_Mo_allot_1 rfl ?_
  refine z_iload_n hx 1 d_Mo_allot_2 rfl ?_
  refine z_iload_n hx 3 d_Mo_allot_3 rfl ?_
  refine z_cV hx (c_Mo_isPerson_yes hi ho hp) k_Mo rfl ⟨a4_115, a4_118, a1_6, ⟨by decide +kernel, by decide +kernel⟩, fun sig h => by cases h; rfl⟩ a4_117 s_Mo_isPerson rfl rfl d_Mo_allot_4 (by rw [hrm]; exact ⟨Nat.le_of_ble_eq_true rfl, Nat.le_of_ble_eq_true rfl, Nat.le_of_ble_eq_true rfl, Nat.le_of_ble_eq_true rfl⟩) ?_
  show zV x ad (Lay K ad S) _ _ _ 7 [.int 1, .ref (ad 13)]
  refine z_if_eq (tgt := 17) hx d_Mo_allot_7 (by decide) (fun h => absurd h (by decide)) (fun _ => ?_)
  refine z_iload_n hx 2 d_Mo_allot_10 rfl ?_
  refine z_cS hx (c_Mo_isStratum_yes hs) ⟨a4_119, a4_121, a1_6, ⟨by decide +kernel, by decide +kernel⟩, fun sig h => by cases h; rfl⟩ a4_120 rfl rfl d_Mo_allot_11 (by rw [hrm]; exact ⟨Nat.le_of_ble_eq_true rfl, Nat.le_of_ble_eq_true rfl, Nat.le_of_ble_eq_true rfl, Nat.le_of_ble_eq_true rfl⟩) ?_
  show zV x ad (Lay K ad S) _ _ _ 14 [.int 1, .ref (ad 13)]
  refine z_if_ne (tgt := 21) hx d_Mo_allot_14 (by decide) (fun _ => ?_) (fun h => absurd h (by decide))
  refine z_iconst (v := 0) hx d_Mo_allot_21 rfl ?_
  refine z_aload_n hx 0 d_Mo_allot_22 rfl ?_
  refine z_get hx k_Mo (t := 13) rfl 5 (by decide) a3_228 rfl d_Mo_allot_23 ?_
  refine z_if_ne (tgt := 33) hx d_Mo_allot_26 (by decide) (fun _ => ?_) (fun h => absurd h hpl)
  refine z_iconst (v := 0) hx d_Mo_allot_33 rfl ?_
  refine z_iconst (v := 0) hx d_Mo_allot_34 rfl ?_
  refine z_cV hx (c_Mo_refused_0) k_Mo rfl ⟨a4_81, a4_84, a1_6, ⟨by decide +kernel, by decide +kernel⟩, fun sig h => by cases h; rfl⟩ a4_83 s_Mo_refused rfl rfl d_Mo_allot_35 (by rw [hrm]; exact ⟨Nat.le_of_ble_eq_true rfl, Nat.le_of_ble_eq_true rfl, Nat.le_of_ble_eq_true rfl, Nat.le_of_ble_eq_true rfl⟩) ?_
  show zV x ad (Lay K ad (stM S 13 0 0)) _ _ _ 38 [.int 0]
  refine z_if_eq (tgt := 43) hx d_Mo_allot_38 (by decide) (fun _ => ?_) (fun h => absurd (by decide) h)
  refine z_aload_n hx 0 d_Mo_allot_43 rfl ?_
  refine z_get hx k_Mo (t := 13) rfl 1 (by decide) a3_224 rfl d_Mo_allot_44 ?_
  refine z_top (b := S.2.2 13 1) (rd_j (by decide)) ?_
  refine z_if_ne (tgt := 67) hx d_Mo_allot_47 (by decide) (fun h => absurd hd0 h) (fun _ => ?_)
  refine z_aload_n hx 0 d_Mo_allot_50 rfl ?_
  refine z_get hx k_Mo (t := 13) rfl 4 (by decide) a3_227 rfl d_Mo_allot_51 ?_
  refine z_top (b := S.2.2 13 4) (rd_j (by decide)) ?_
  refine z_if_ne (tgt := 67) hx d_Mo_allot_54 (by decide) (fun h => absurd ho7 h) (fun _ => ?_)
  refine z_aload_n hx 0 d_Mo_allot_57 rfl ?_
  refine z_get hx k_Mo (t := 13) rfl 16 (by decide) a3_239 rfl d_Mo_allot_58 ?_
  refine z_iload_n hx 1 d_Mo_allot_61 rfl ?_
  refine z_ialdK hx 0 rfl (t := 21) rfl (k := i) (by omega) (by first | decide | omega) d_Mo_allot_62 ?_
  refine z_top (b := S.2.2 21 i) (rd_n (by decide)) ?_
  refine z_iconst (v := 2) hx d_Mo_allot_63 rfl ?_
  refine z_icmp_ne (tgt := 94) hx d_Mo_allot_64 (by decide) (fun _ => ?_) (fun h => absurd h hcl)
  refine z_aload_n hx 0 d_Mo_allot_94 rfl ?_
  refine z_get hx k_Mo (t := 13) rfl 20 (by decide) a4_3 rfl d_Mo_allot_95 ?_
  refine z_bipush (v := 100) hx d_Mo_allot_98 rfl ?_
  refine z_iload_n hx 1 d_Mo_allot_100 rfl ?_
  refine z_imul hx d_Mo_allot_101 ?_
  refine z_top (b := nI (100 * i)) (pk_mul 100 i) ?_
  refine z_iload_n hx 3 d_Mo_allot_102 rfl ?_
  refine z_iadd hx d_Mo_allot_103 ?_
  refine z_top (b := nI (100 * i + p)) (nI_add _ _) ?_
  refine z_ialdK hx 0 rfl (t := 25) rfl (k := (100 * i + p)) (by omega) (by first | decide | omega) d_Mo_allot_104 ?_
  refine z_top (b := S.2.2 25 (100 * i + p)) (rd_n (by decide)) ?_
  refine z_if_le (tgt := 111) hx d_Mo_allot_105 (by decide) (fun _ => ?_) (fun h => absurd hp0 h)
  refine z_aload_n hx 0 d_Mo_allot_111 rfl ?_
  refine z_iload_n hx 2 d_Mo_allot_112 rfl ?_
  refine z_cV hx (c_Mo_nextArm_neg (S := mS S) hs hb hT hT2 hZ hZ1 hZ2 hA hA4 hW hW1 hW2 he hsE (bOk_n hbo (by decide))) k_Mo rfl ⟨a4_122, a4_125, a1_6, ⟨by decide +kernel, by decide +kernel⟩, fun sig h => by cases h; rfl⟩ a4_124 s_Mo_nextArm rfl rfl d_Mo_allot_113 (by rw [hrm]; exact ⟨Nat.le_of_ble_eq_true rfl, Nat.le_of_ble_eq_true rfl, Nat.le_of_ble_eq_true rfl, Nat.le_of_ble_eq_true rfl⟩) ?_
  show zV x ad (Lay K ad (naM (mS S) s T Z A e)) _ _ _ 116 [.int ((tbM (mS S) s T Z A e).2.2 16 (24 * T))]
  refine z_top (b := nI a) hav ?_
  refine z_istore hx [(4, .int (nI a)), (0, .ref (ad 13)), (1, .int (nI i)), (2, .int (nI s)), (3, .int (nI p))] d_Mo_allot_116 (zN hml (by decide)) rfl ?_
  refine z_aload_n hx 1 d_Mo_allot_118 rfl ?_
  refine z_iload_n hx 2 d_Mo_allot_119 rfl ?_
  refine z_iload hx 0 d_Mo_allot_120 rfl ?_
  by_cases h1 : nxt (pM (naM (mS S) s T Z A e) i a) 1000 0 = 1000
  · refine z_cV hx ((by have q := c_Mo_leastFree (l := l) (D := D) (K := K) (ad := ad) (S := naM (mS S) s T Z A e) (s := nI i) (r := nI a); rw [if_pos (show nxt (fun q => decide (((naM (mS S) s T Z A e).2.2 22 q = nI i ∧ (naM (mS S) s T Z A e).2.2 23 q = nI a ∧ (naM (mS S) s T Z A e).2.2 24 q = 0))) 1000 0 = 1000 from h1)] at q; exact q)) k_Mo rfl ⟨a4_135, a4_138, a1_6, ⟨by decide +kernel, by decide +kernel⟩, fun sig h => by cases h; rfl⟩ a4_137 s_Mo_leastFree rfl rfl d_Mo_allot_122 (by rw [hrm]; exact ⟨Nat.le_of_ble_eq_true rfl, Nat.le_of_ble_eq_true rfl, Nat.le_of_ble_eq_true rfl, Nat.le_of_ble_eq_true rfl⟩) ?_
    show zV x ad (Lay K ad (naM (mS S) s T Z A e)) _ _ _ 125 [.int ((-1))]
    refine z_istore hx [(5, .int ((-1))), (4, .int (nI a)), (0, .ref (ad 13)), (1, .int (nI i)), (2, .int (nI s)), (3, .int (nI p))] d_Mo_allot_125 (zN hml (by decide)) rfl ?_
    refine z_iload hx 0 d_Mo_allot_127 rfl ?_
    have hk9 := nxt_le0 (p := pM (naM (mS S) s T Z A e) i a)
    refine z_if_ge (tgt := 135) hx d_Mo_allot_129 (by decide) (fun h => absurd h (by decide)) (fun _ => ?_)
    refine z_bipush (v := (-6)) hx d_Mo_allot_132 rfl ?_
    have e9 : mAlN S i s p a T Z A e = ((-6), naM (mS S) s T Z A e) := by unfold mAlN; (first | rw [if_pos h1] | rw [if_neg h1] | skip); (try rfl)
    exact z_iret hx hr rfl hq (Nat.le_refl _) (Nat.le_refl _) d_Mo_allot_134 ⟨by rw [e9], rfl, by rw [e9]⟩
  · refine z_cV hx ((by have q := c_Mo_leastFree (l := l) (D := D) (K := K) (ad := ad) (S := naM (mS S) s T Z A e) (s := nI i) (r := nI a); rw [if_neg (show nxt (fun q => decide (((naM (mS S) s T Z A e).2.2 22 q = nI i ∧ (naM (mS S) s T Z A e).2.2 23 q = nI a ∧ (naM (mS S) s T Z A e).2.2 24 q = 0))) 1000 0 ≠ 1000 from h1)] at q; exact q)) k_Mo rfl ⟨a4_135, a4_138, a1_6, ⟨by decide +kernel, by decide +kernel⟩, fun sig h => by cases h; rfl⟩ a4_137 s_Mo_leastFree rfl rfl d_Mo_allot_122 (by rw [hrm]; exact ⟨Nat.le_of_ble_eq_true rfl, Nat.le_of_ble_eq_true rfl, Nat.le_of_ble_eq_true rfl, Nat.le_of_ble_eq_true rfl⟩) ?_
    show zV x ad (Lay K ad (naM (mS S) s T Z A e)) _ _ _ 125 [.int (nI (nxt (pM (naM (mS S) s T Z A e) i a) 1000 0))]
    refine z_istore hx [(5, .int (nI (nxt (pM (naM (mS S) s T Z A e) i a) 1000 0))), (4, .int (nI a)), (0, .ref (ad 13)), (1, .int (nI i)), (2, .int (nI s)), (3, .int (nI p))] d_Mo_allot_125 (zN hml (by decide)) rfl ?_
    refine z_iload hx 0 d_Mo_allot_127 rfl ?_
    have hk9 := nxt_le0 (p := pM (naM (mS S) s T Z A e) i a)
    refine z_if_ge (tgt := 135) hx d_Mo_allot_129 (by decide) (fun _ => ?_) (fun h => absurd (nI_ge0 (by omega)) h)
    have hk8 : nxt (pM (naM (mS S) s T Z A e) i a) 1000 0 < 1000 := Nat.lt_of_le_of_ne hk9 h1
    refine z_aload_n hx 2 d_Mo_allot_135 rfl ?_
    by_cases h2 : (naM (mS S) s T Z A e).2.2 13 2 = 0
    · refine z_cV hx (c_Mo_writes_ok h2) k_Mo rfl ⟨a4_85, a4_88, a1_6, ⟨by decide +kernel, by decide +kernel⟩, fun sig h => by cases h; rfl⟩ a4_87 s_Mo_writes rfl rfl d_Mo_allot_136 (by rw [hrm]; exact ⟨Nat.le_of_ble_eq_true rfl, Nat.le_of_ble_eq_true rfl, Nat.le_of_ble_eq_true rfl, Nat.le_of_ble_eq_true rfl⟩) ?_
      show zV x ad (Lay K ad (stM (naM (mS S) s T Z A e) 13 3 ((naM (mS S) s T Z A e).2.2 13 3 + 1))) _ _ _ 139 [.int 1]
      refine z_if_ne (tgt := 145) hx d_Mo_allot_139 (by decide) (fun _ => ?_) (fun h => absurd h (by decide))
      refine z_aload_n hx 2 d_Mo_allot_145 rfl ?_
      refine z_get hx k_Mo (t := 13) rfl 14 (by decide) a3_237 rfl d_Mo_allot_146 ?_
      refine z_iload_n hx 4 d_Mo_allot_149 rfl ?_
      refine z_ialdK hx 0 rfl (t := 19) rfl (k := s) (by omega) (by first | decide | omega) d_Mo_allot_150 ?_
      refine z_top (b := (naM (mS S) s T Z A e).2.2 19 s) (rd_n (by decide)) ?_
      refine z_if_lt (tgt := 167) hx d_Mo_allot_151 (by decide) (fun _ => ?_) (fun h => absurd (by rw [naM_n (by decide) (by decide) (by decide) (by decide)]; exact hb) h)
      refine z_aload_n hx 2 d_Mo_allot_167 rfl ?_
      refine z_get hx k_Mo (t := 13) rfl 14 (by decide) a3_237 rfl d_Mo_allot_168 ?_
      refine z_iload_n hx 4 d_Mo_allot_171 rfl ?_
      refine z_aload_n hx 2 d_Mo_allot_172 rfl ?_
      refine z_iload_n hx 4 d_Mo_allot_173 rfl ?_
      refine z_cV hx (c_Mo_takeBlock (S := stM (naM (mS S) s T Z A e) 13 3 ((naM (mS S) s T Z A e).2.2 13 3 + 1)) hs (by rw [rd_j (by decide)]; exact naM_9) hT2 (by rw [rd_j (by decide), naM_13 (by decide)]; exact hZ) hZ1 hZ2 (by rw [rd_j (by decide), naM_13 (by decide)]; exact hA) hA4 (by rw [stM_n (by decide), naM_n (by decide) (by decide) (by decide) (by decide)]; exact hW) hW1 hW2 (e := e) (fun q hq => by rw [stM_n (by decide), naM_n (by decide) (by decide) (by decide) (by decide)]; exact he q hq) hsE (bOk_n (bOk_na (bOk_n hbo (by decide)) hA4) (by decide))) k_Mo rfl ⟨a4_126, a4_129, a1_6, ⟨by decide +kernel, by decide +kernel⟩, fun sig h => by cases h; rfl⟩ a4_128 s_Mo_takeBlock rfl rfl d_Mo_allot_174 (by rw [hrm]; exact ⟨Nat.le_of_ble_eq_true rfl, Nat.le_of_ble_eq_true rfl, Nat.le_of_ble_eq_true rfl, Nat.le_of_ble_eq_true rfl⟩) ?_
      show zV x ad (Lay K ad (tbM (stM (naM (mS S) s T Z A e) 13 3 ((naM (mS S) s T Z A e).2.2 13 3 + 1)) s T Z A e)) _ _ _ 177 [.int (nI T), .int (nI s), .ref (ad 19)]
      refine z_iastK hx 0 rfl (t := 19) rfl (k := s) (by omega) (by first | decide | omega)  d_Mo_allot_177 (ce1 := Lay K ad (stM (tbM (stM (naM (mS S) s T Z A e) 13 3 ((naM (mS S) s T Z A e).2.2 13 3 + 1)) s T Z A e) 19 s (nI T))) (Lay_put (by decide) rfl) ?_
      refine z_aload_n hx 2 d_Mo_allot_178 rfl ?_
      refine z_get hx k_Mo (t := 13) rfl 15 (by decide) a3_238 rfl d_Mo_allot_179 ?_
      refine z_iload_n hx 4 d_Mo_allot_182 rfl ?_
      refine z_iconst (v := 0) hx d_Mo_allot_183 rfl ?_
      refine z_iastK hx 0 rfl (t := 20) rfl (k := s) (by omega) (by first | decide | omega)  d_Mo_allot_184 (ce1 := Lay K ad (stM (stM (tbM (stM (naM (mS S) s T Z A e) 13 3 ((naM (mS S) s T Z A e).2.2 13 3 + 1)) s T Z A e) 19 s (nI T)) 20 s 0)) (Lay_put (by decide) rfl) ?_
      refine z_aload_n hx 2 d_Mo_allot_185 rfl ?_
      refine z_get hx k_Mo (t := 13) rfl 15 (by decide) a3_238 rfl d_Mo_allot_186 ?_
      refine z_iload_n hx 4 d_Mo_allot_189 rfl ?_
      refine z_dup2_11 hx d_Mo_allot_190 rfl rfl ?_
      refine z_ialdK hx 0 rfl (t := 20) rfl (k := s) (by omega) (by first | decide | omega) d_Mo_allot_191 ?_
      refine z_top (b := 0) (rd_s) ?_
      refine z_iconst (v := 1) hx d_Mo_allot_192 rfl ?_
      refine z_iadd hx d_Mo_allot_193 ?_
      refine z_iastK hx 0 rfl (t := 20) rfl (k := s) (by omega) (by first | decide | omega)  d_Mo_allot_194 (ce1 := Lay K ad (stM (stM (stM (tbM (stM (naM (mS S) s T Z A e) 13 3 ((naM (mS S) s T Z A e).2.2 13 3 + 1)) s T Z A e) 19 s (nI T)) 20 s 0) 20 s (0 + 1))) (Lay_put (by decide) rfl) ?_
      refine z_aload_n hx 2 d_Mo_allot_195 rfl ?_
      refine z_iload_n hx 3 d_Mo_allot_196 rfl ?_
      refine z_iload_n hx 4 d_Mo_allot_197 rfl ?_
      refine z_iload_n hx 5 d_Mo_allot_198 rfl ?_
      refine z_iload hx 1 d_Mo_allot_199 rfl ?_
      refine z_iload hx 0 d_Mo_allot_201 rfl ?_
      refine z_iconst (v := 1) hx d_Mo_allot_203 rfl ?_
      refine z_cV hx (c_Mo_give_k hi hp hk8) k_Mo rfl ⟨a4_139, a4_142, a1_6, ⟨by decide +kernel, by decide +kernel⟩, fun sig h => by cases h; rfl⟩ a4_141 s_Mo_give rfl rfl d_Mo_allot_204 (by rw [hrm]; exact ⟨Nat.le_of_ble_eq_true rfl, Nat.le_of_ble_eq_true rfl, Nat.le_of_ble_eq_true rfl, Nat.le_of_ble_eq_true rfl⟩) ?_
      show zV x ad (Lay K ad (gvM (stM (stM (stM (tbM (stM (naM (mS S) s T Z A e) 13 3 ((naM (mS S) s T Z A e).2.2 13 3 + 1)) s T Z A e) 19 s (nI T)) 20 s 0) 20 s (0 + 1)) (100 * i + p) (nI s) (nI a) (nxt (pM (naM (mS S) s T Z A e) i a) 1000 0) 1)) _ _ _ 207 []
      refine z_iload hx 0 d_Mo_allot_207 rfl ?_
      have e9 : mAlN S i s p a T Z A e = (nI (nxt (pM (naM (mS S) s T Z A e) i a) 1000 0), gvM (stM (stM (stM (tbM (stM (naM (mS S) s T Z A e) 13 3 ((naM (mS S) s T Z A e).2.2 13 3 + 1)) s T Z A e) 19 s (nI T)) 20 s 0) 20 s (0 + 1)) (100 * i + p) (nI s) (nI a) (nxt (pM (naM (mS S) s T Z A e) i a) 1000 0) 1) := by unfold mAlN; (first | rw [if_pos h1] | rw [if_neg h1] | skip); (first | rw [if_pos h2] | rw [if_neg h2] | skip); (try rfl)
      exact z_iret hx hr rfl hq (Nat.le_refl _) (Nat.le_refl _) d_Mo_allot_209 ⟨by rw [e9], rfl, by rw [e9]⟩
    · refine z_cV hx (c_Mo_writes_torn h2) k_Mo rfl ⟨a4_85, a4_88, a1_6, ⟨by decide +kernel, by decide +kernel⟩, fun sig h => by cases h; rfl⟩ a4_87 s_Mo_writes rfl rfl d_Mo_allot_136 (by rw [hrm]; exact ⟨Nat.le_of_ble_eq_true rfl, Nat.le_of_ble_eq_true rfl, Nat.le_of_ble_eq_true rfl, Nat.le_of_ble_eq_true rfl⟩) ?_
      show zV x ad (Lay K ad (stM (stM (naM (mS S) s T Z A e) 13 2 0) 13 1 1)) _ _ _ 139 [.int 0]
      refine z_if_ne (tgt := 145) hx d_Mo_allot_139 (by decide) (fun h => absurd (by decide) h) (fun _ => ?_)
      refine z_bipush (v := (-2)) hx d_Mo_allot_142 rfl ?_
      have e9 : mAlN S i s p a T Z A e = ((-2), stM (stM (naM (mS S) s T Z A e) 13 2 0) 13 1 1) := by unfold mAlN; (first | rw [if_pos h1] | rw [if_neg h1] | skip); (first | rw [if_pos h2] | rw [if_neg h2] | skip); (try rfl)
      exact z_iret hx hr rfl hq (Nat.le_refl _) (Nat.le_refl _) d_Mo_allot_144 ⟨by rw [e9], rfl, by rw [e9]⟩
set_option maxRecDepth 20000 in
theorem c_Mo_allot_full {l : Launch} {D : va_G} {K : Nat → ClassId} {ad : Nat → Nat} {S : zSt} {i : Nat} (hi : i < 10) (ho : ¬ S.2.2 21 i ≤ 0) {p s : Nat} (hp : p < 100) (hs : s < 8) (hpl : ¬ S.2.2 13 5 = 0) (hd0 : S.2.2 13 1 = 0) (ho7 : S.2.2 13 4 = 0) (hcl : ¬ S.2.2 21 i = 2) (hp0 : S.2.2 25 (100 * i + p) ≤ 0) {a : Nat} {b : Nat} (hb : S.2.2 19 s = nI b) (hb2 : b < 4200) (hn : S.2.2 20 s = S.2.2 13 6) {T Z A W : Nat} (hT : S.2.2 13 9 = nI T) (hT2 : T < 4200) (hZ : S.2.2 13 6 = nI Z) (hZ1 : 1 ≤ Z) (hZ2 : Z ≤ 24) (hA : S.2.2 13 5 = nI A) (hA4 : A ≤ 4) (hW : S.2.2 14 0 + S.2.2 14 1 + S.2.2 14 2 + S.2.2 14 3 = nI W) (hW1 : 1 ≤ W) (hW2 : W ≤ 24) {e : Nat → Nat} (he : ∀ a, a < A → S.2.2 14 a * (nI Z / nI W) = nI (e a)) (hsE : sE e A = Z) (hbo : bOk S) (hav : (tbM (mS S) s T Z A e).2.2 16 (24 * T) = nI a) : zC l TB D zcls (ztyl K) y_Mo_allot (.code y_Mo_allot b_Mo_allot 6 (some FieldType.int)) (rmk 3 80) [.ref (ad 13), .int (nI i), .int (nI s), .int (nI p)] ad (Lay K ad S) (zP K ad (some (.int (mAlN S i s p a T Z A e).1)) (mAlN S i s p a T Z A e).2) := by
  refine zC.of (by decide +kernel) (Nat.le_of_ble_eq_true rfl) ?_
  intro x hx hr hml hnm hrm hq hNH
  show zV x ad (Lay K ad S) 0 0 [(0, .ref (ad 13)), (1, .int (nI i)), (2, .int (nI s)), (3, .int (nI p))] 0 []
  refine z_aload_n hx 0 d_Mo_allot_0 rfl ?_
  refine z_aload_n hx 0 d_Mo_allot_1 rfl ?_
  refine z_iload_n hx 1 d_Mo_allot_2 rfl ?_
  refine z_iload_n hx 3 d_Mo_allot_3 rfl ?_
  refine z_cV hx (c_Mo_isPerson_yes hi ho hp) k_Mo rfl ⟨a4_115, a4_118, a1_6, ⟨by decide +kernel, by decide +kernel⟩, fun sig h => by cases h; rfl⟩ a4_117 s_Mo_isPerson rfl rfl d_Mo_allot_4 (by rw [hrm]; exact ⟨Nat.le_of_ble_eq_true rfl, Nat.le_of_ble_eq_true rfl, Nat.le_of_ble_eq_true rfl, Nat.le_of_ble_eq_true rfl⟩) ?_
  show zV x ad (Lay K ad S) _ _ _ 7 [.int 1, .ref (ad 13)]
  refine z_if_eq (tgt := 17) hx d_Mo_allot_7 (by decide) (fun h => absurd h (by decide)) (fun _ => ?_)
  refine z_iload_n hx 2 d_Mo_allot_10 rfl ?_
  refine z_cS hx (c_Mo_isStratum_yes hs) ⟨a4_119, a4_121, a1_6, ⟨by decide +kernel, by decide +kernel⟩, fun sig h => by cases h; rfl⟩ a4_120 rfl rfl d_Mo_allot_11 (by rw [hrm]; exact ⟨Nat.le_of_ble_eq_true rfl, Nat.le_of_ble_eq_true rfl, Nat.le_of_ble_eq_true rfl, Nat.le_of_ble_eq_true rfl⟩) ?_
  show zV x ad (Lay K ad S) _ _ _ 14 [.int 1, .ref (ad 13)]
  refine z_if_ne (tgt := 21) hx d_Mo_allot_14 (by decide) (fun _ => ?_) (fun h => absurd h (by decide))
  refine z_iconst (v := 0) hx d_Mo_allot_21 rfl ?_
  refine z_aload_n hx 0 d_Mo_allot_22 rfl ?_
  refine z_get hx k_Mo (t := 13) rfl 5 (by decide) a3_228 rfl d_Mo_allot_23 ?_
  refine z_if_ne (tgt := 33) hx d_Mo_allot_26 (by decide) (fun _ => ?_) (fun h => absurd h hpl)
  refine z_iconst (v := 0) hx d_Mo_allot_33 rfl ?_
  refine z_iconst (v := 0) hx d_Mo_allot_34 rfl ?_
  refine z_cV hx (c_Mo_refused_0) k_Mo rfl ⟨a4_81, a4_84, a1_6, ⟨by decide +kernel, by decide +kernel⟩, fun sig h => by cases h; rfl⟩ a4_83 s_Mo_refused rfl rfl d_Mo_allot_35 (by rw [hrm]; exact ⟨Nat.le_of_ble_eq_true rfl, Nat.le_of_ble_eq_true rfl, Nat.le_of_ble_eq_true rfl, Nat.le_of_ble_eq_true rfl⟩) ?_
  show zV x ad (Lay K ad (stM S 13 0 0)) _ _ _ 38 [.int 0]
  refine z_if_eq (tgt := 43) hx d_Mo_allot_38 (by decide) (fun _ => ?_) (fun h => absurd (by decide) h)
  refine z_aload_n hx 0 d_Mo_allot_43 rfl ?_
  refine z_get hx k_Mo (t := 13) rfl 1 (by decide) a3_224 rfl d_Mo_allot_44 ?_
  refine z_top (b := S.2.2 13 1) (rd_j (by decide)) ?_
  refine z_if_ne (tgt := 67) hx d_Mo_allot_47 (by decide) (fun h => absurd hd0 h) (fun _ => ?_)
  refine z_aload_n hx 0 d_Mo_allot_50 rfl ?_
  refine z_get hx k_Mo (t := 13) rfl 4 (by decide) a3_227 rfl d_Mo_allot_51 ?_
  refine z_top (b := S.2.2 13 4) (rd_j (by decide)) ?_
  refine z_if_ne (tgt := 67) hx d_Mo_allot_54 (by decide) (fun h => absurd ho7 h) (fun _ => ?_)
  refine z_aload_n hx 0 d_Mo_allot_57 rfl ?_
  refine z_get hx k_Mo (t := 13) rfl 16 (by decide) a3_239 rfl d_Mo_allot_58 ?_
  refine z_iload_n hx 1 d_Mo_allot_61 rfl ?_
  refine z_ialdK hx 0 rfl (t := 21) rfl (k := i) (by omega) (by first | decide | omega) d_Mo_allot_62 ?_
  refine z_top (b := S.2.2 21 i) (rd_n (by decide)) ?_
  refine z_iconst (v := 2) hx d_Mo_allot_63 rfl ?_
  refine z_icmp_ne (tgt := 94) hx d_Mo_allot_64 (by decide) (fun _ => ?_) (fun h => absurd h hcl)
  refine z_aload_n hx 0 d_Mo_allot_94 rfl ?_
  refine z_get hx k_Mo (t := 13) rfl 20 (by decide) a4_3 rfl d_Mo_allot_95 ?_
  refine z_bipush (v := 100) hx d_Mo_allot_98 rfl ?_
  refine z_iload_n hx 1 d_Mo_allot_100 rfl ?_
  refine z_imul hx d_Mo_allot_101 ?_
  refine z_top (b := nI (100 * i)) (pk_mul 100 i) ?_
  refine z_iload_n hx 3 d_Mo_allot_102 rfl ?_
  refine z_iadd hx d_Mo_allot_103 ?_
  refine z_top (b := nI (100 * i + p)) (nI_add _ _) ?_
  refine z_ialdK hx 0 rfl (t := 25) rfl (k := (100 * i + p)) (by omega) (by first | decide | omega) d_Mo_allot_104 ?_
  refine z_top (b := S.2.2 25 (100 * i + p)) (rd_n (by decide)) ?_
  refine z_if_le (tgt := 111) hx d_Mo_allot_105 (by decide) (fun _ => ?_) (fun h => absurd hp0 h)
  refine z_aload_n hx 0 d_Mo_allot_111 rfl ?_
  refine z_iload_n hx 2 d_Mo_allot_112 rfl ?_
  refine z_cV hx (c_Mo_nextArm_full (S := mS S) hs hb hb2 hn hT hT2 hZ hZ1 hZ2 hA hA4 hW hW1 hW2 he hsE (bOk_n hbo (by decide))) k_Mo rfl ⟨a4_122, a4_125, a1_6, ⟨by decide +kernel, by decide +kernel⟩, fun sig h => by cases h; rfl⟩ a4_124 s_Mo_nextArm rfl rfl d_Mo_allot_113 (by rw [hrm]; exact ⟨Nat.le_of_ble_eq_true rfl, Nat.le_of_ble_eq_true rfl, Nat.le_of_ble_eq_true rfl, Nat.le_of_ble_eq_true rfl⟩) ?_
  show zV x ad (Lay K ad (naM (mS S) s T Z A e)) _ _ _ 116 [.int ((tbM (mS S) s T Z A e).2.2 16 (24 * T))]
  refine z_top (b := nI a) hav ?_
  refine z_istore hx [(4, .int (nI a)), (0, .ref (ad 13)), (1, .int (nI i)), (2, .int (nI s)), (3, .int (nI p))] d_Mo_allot_116 (zN hml (by decide)) rfl ?_
  refine z_aload_n hx 1 d_Mo_allot_118 rfl ?_
  refine z_iload_n hx 2 d_Mo_allot_119 rfl ?_
  refine z_iload hx 0 d_Mo_allot_120 rfl ?_
  by_cases h1 : nxt (pM (naM (mS S) s T Z A e) i a) 1000 0 = 1000
  · refine z_cV hx ((by have q := c_Mo_leastFree (l := l) (D := D) (K := K) (ad := ad) (S := naM (mS S) s T Z A e) (s := nI i) (r := nI a); rw [if_pos (show nxt (fun q => decide (((naM (mS S) s T Z A e).2.2 22 q = nI i ∧ (naM (mS S) s T Z A e).2.2 23 q = nI a ∧ (naM (mS S) s T Z A e).2.2 24 q = 0))) 1000 0 = 1000 from h1)] at q; exact q)) k_Mo rfl ⟨a4_135, a4_138, a1_6, ⟨by decide +kernel, by decide +kernel⟩, fun sig h => by cases h; rfl⟩ a4_137 s_Mo_leastFree rfl rfl d_Mo_allot_122 (by rw [hrm]; exact ⟨Nat.le_of_ble_eq_true rfl, Nat.le_of_ble_eq_true rfl, Nat.le_of_ble_eq_true rfl, Nat.le_of_ble_eq_true rfl⟩) ?_
    show zV x ad (Lay K ad (naM (mS S) s T Z A e)) _ _ _ 125 [.int ((-1))]
    refine z_istore hx [(5, .int ((-1))), (4, .int (nI a)), (0, .ref (ad 13)), (1, .int (nI i)), (2, .int (nI s)), (3, .int (nI p))] d_Mo_allot_125 (zN hml (by decide)) rfl ?_
    refine z_iload hx 0 d_Mo_allot_127 rfl ?_
    have hk9 := nxt_le0 (p := pM (naM (mS S) s T Z A e) i a)
    refine z_if_ge (tgt := 135) hx d_Mo_allot_129 (by decide) (fun h => absurd h (by decide)) (fun _ => ?_)
    refine z_bipush (v := (-6)) hx d_Mo_allot_132 rfl ?_
    have e9 : mAlN S i s p a T Z A e = ((-6), naM (mS S) s T Z A e) := by unfold mAlN; (first | rw [if_pos h1] | rw [if_neg h1] | skip); (try rfl)
    exact z_iret hx hr rfl hq (Nat.le_refl _) (Nat.le_refl _) d_Mo_allot_134 ⟨by rw [e9], rfl, by rw [e9]⟩
  · refine z_cV hx ((by have q := c_Mo_leastFree (l := l) (D := D) (K := K) (ad := ad) (S := naM (mS S) s T Z A e) (s := nI i) (r := nI a); rw [if_neg (show nxt (fun q => decide (((naM (mS S) s T Z A e).2.2 22 q = nI i ∧ (naM (mS S) s T Z A e).2.2 23 q = nI a ∧ (naM (mS S) s T Z A e).2.2 24 q = 0))) 1000 0 ≠ 1000 from h1)] at q; exact q)) k_Mo rfl ⟨a4_135, a4_138, a1_6, ⟨by decide +kernel, by decide +kernel⟩, fun sig h => by cases h; rfl⟩ a4_137 s_Mo_leastFree rfl rfl d_Mo_allot_122 (by rw [hrm]; exact ⟨Nat.le_of_ble_eq_true rfl, Nat.le_of_ble_eq_true rfl, Nat.le_of_ble_eq_true rfl, Nat.le_of_ble_eq_true rfl⟩) ?_
    show zV x ad (Lay K ad (naM (mS S) s T Z A e)) _ _ _ 125 [.int (nI (nxt (pM (naM (mS S) s T Z A e) i a) 1000 0))]
    refine z_istore hx [(5, .int (nI (nxt (pM (naM (mS S) s T Z A e) i a) 1000 0))), (4, .int (nI a)), (0, .ref (ad 13)), (1, .int (nI i)), (2, .int (nI s)), (3, .int (nI p))] d_Mo_allot_125 (zN hml (by decide)) rfl ?_
    refine z_iload hx 0 d_Mo_allot_127 rfl ?_
    have hk9 := nxt_le0 (p := pM (naM (mS S) s T Z A e) i a)
    refine z_if_ge (tgt := 135) hx d_Mo_allot_129 (by decide) (fun _ => ?_) (fun h => absurd (nI_ge0 (by omega)) h)
    have hk8 : nxt (pM (naM (mS S) s T Z A e) i a) 1000 0 < 1000 := Nat.lt_of_le_of_ne hk9 h1
    refine z_aload_n hx 2 d_Mo_allot_135 rfl ?_
    by_cases h2 : (naM (mS S) s T Z A e).2.2 13 2 = 0
    · refine z_cV hx (c_Mo_writes_ok h2) k_Mo rfl ⟨a4_85, a4_88, a1_6, ⟨by decide +kernel, by decide +kernel⟩, fun sig h => by cases h; rfl⟩ a4_87 s_Mo_writes rfl rfl d_Mo_allot_136 (by rw [hrm]; exact ⟨Nat.le_of_ble_eq_true rfl, Nat.le_of_ble_eq_true rfl, Nat.le_of_ble_eq_true rfl, Nat.le_of_ble_eq_true rfl⟩) ?_
      show zV x ad (Lay K ad (stM (naM (mS S) s T Z A e) 13 3 ((naM (mS S) s T Z A e).2.2 13 3 + 1))) _ _ _ 139 [.int 1]
      refine z_if_ne (tgt := 145) hx d_Mo_allot_139 (by decide) (fun _ => ?_) (fun h => absurd h (by decide))
      refine z_aload_n hx 2 d_Mo_allot_145 rfl ?_
      refine z_get hx k_Mo (t := 13) rfl 14 (by decide) a3_237 rfl d_Mo_allot_146 ?_
      refine z_iload_n hx 4 d_Mo_allot_149 rfl ?_
      refine z_ialdK hx 0 rfl (t := 19) rfl (k := s) (by omega) (by first | decide | omega) d_Mo_allot_150 ?_
      refine z_top (b := (naM (mS S) s T Z A e).2.2 19 s) (rd_n (by decide)) ?_
      refine z_top (b := nI b) (by rw [naM_n (by decide) (by decide) (by decide) (by decide)]; exact hb) ?_
      refine z_if_lt (tgt := 167) hx d_Mo_allot_151 (by decide) (fun h => absurd h (nI_pos (by omega))) (fun _ => ?_)
      refine z_aload_n hx 2 d_Mo_allot_154 rfl ?_
      refine z_get hx k_Mo (t := 13) rfl 15 (by decide) a3_238 rfl d_Mo_allot_155 ?_
      refine z_iload_n hx 4 d_Mo_allot_158 rfl ?_
      refine z_ialdK hx 0 rfl (t := 20) rfl (k := s) (by omega) (by first | decide | omega) d_Mo_allot_159 ?_
      refine z_top (b := (naM (mS S) s T Z A e).2.2 20 s) (rd_n (by decide)) ?_
      refine z_aload_n hx 2 d_Mo_allot_160 rfl ?_
      refine z_get hx k_Mo (t := 13) rfl 6 (by decide) a3_229 rfl d_Mo_allot_161 ?_
      refine z_top (b := (naM (mS S) s T Z A e).2.2 13 6) (rd_j (by decide)) ?_
      refine z_icmp_ne (tgt := 185) hx d_Mo_allot_164 (by decide) (fun h => absurd (by rw [naM_n (by decide) (by decide) (by decide) (by decide), naM_13 (by decide)]; exact hn) h) (fun _ => ?_)
      refine z_aload_n hx 2 d_Mo_allot_167 rfl ?_
      refine z_get hx k_Mo (t := 13) rfl 14 (by decide) a3_237 rfl d_Mo_allot_168 ?_
      refine z_iload_n hx 4 d_Mo_allot_171 rfl ?_
      refine z_aload_n hx 2 d_Mo_allot_172 rfl ?_
      refine z_iload_n hx 4 d_Mo_allot_173 rfl ?_
      refine z_cV hx (c_Mo_takeBlock (S := stM (naM (mS S) s T Z A e) 13 3 ((naM (mS S) s T Z A e).2.2 13 3 + 1)) hs (by rw [rd_j (by decide)]; exact naM_9) hT2 (by rw [rd_j (by decide), naM_13 (by decide)]; exact hZ) hZ1 hZ2 (by rw [rd_j (by decide), naM_13 (by decide)]; exact hA) hA4 (by rw [stM_n (by decide), naM_n (by decide) (by decide) (by decide) (by decide)]; exact hW) hW1 hW2 (e := e) (fun q hq => by rw [stM_n (by decide), naM_n (by decide) (by decide) (by decide) (by decide)]; exact he q hq) hsE (bOk_n (bOk_na (bOk_n hbo (by decide)) hA4) (by decide))) k_Mo rfl ⟨a4_126, a4_129, a1_6, ⟨by decide +kernel, by decide +kernel⟩, fun sig h => by cases h; rfl⟩ a4_128 s_Mo_takeBlock rfl rfl d_Mo_allot_174 (by rw [hrm]; exact ⟨Nat.le_of_ble_eq_true rfl, Nat.le_of_ble_eq_true rfl, Nat.le_of_ble_eq_true rfl, Nat.le_of_ble_eq_true rfl⟩) ?_
      show zV x ad (Lay K ad (tbM (stM (naM (mS S) s T Z A e) 13 3 ((naM (mS S) s T Z A e).2.2 13 3 + 1)) s T Z A e)) _ _ _ 177 [.int (nI T), .int (nI s), .ref (ad 19)]
      refine z_iastK hx 0 rfl (t := 19) rfl (k := s) (by omega) (by first | decide | omega)  d_Mo_allot_177 (ce1 := Lay K ad (stM (tbM (stM (naM (mS S) s T Z A e) 13 3 ((naM (mS S) s T Z A e).2.2 13 3 + 1)) s T Z A e) 19 s (nI T))) (Lay_put (by decide) rfl) ?_
      refine z_aload_n hx 2 d_Mo_allot_178 rfl ?_
      refine z_get hx k_Mo (t := 13) rfl 15 (by decide) a3_238 rfl d_Mo_allot_179 ?_
      refine z_iload_n hx 4 d_Mo_allot_182 rfl ?_
      refine z_iconst (v := 0) hx d_Mo_allot_183 rfl ?_
      refine z_iastK hx 0 rfl (t := 20) rfl (k := s) (by omega) (by first | decide | omega)  d_Mo_allot_184 (ce1 := Lay K ad (stM (stM (tbM (stM (naM (mS S) s T Z A e) 13 3 ((naM (mS S) s T Z A e).2.2 13 3 + 1)) s T Z A e) 19 s (nI T)) 20 s 0)) (Lay_put (by decide) rfl) ?_
      refine z_aload_n hx 2 d_Mo_allot_185 rfl ?_
      refine z_get hx k_Mo (t := 13) rfl 15 (by decide) a3_238 rfl d_Mo_allot_186 ?_
      refine z_iload_n hx 4 d_Mo_allot_189 rfl ?_
      refine z_dup2_11 hx d_Mo_allot_190 rfl rfl ?_
      refine z_ialdK hx 0 rfl (t := 20) rfl (k := s) (by omega) (by first | decide | omega) d_Mo_allot_191 ?_
      refine z_top (b := 0) (rd_s) ?_
      refine z_iconst (v := 1) hx d_Mo_allot_192 rfl ?_
      refine z_iadd hx d_Mo_allot_193 ?_
      refine z_iastK hx 0 rfl (t := 20) rfl (k := s) (by omega) (by first | decide | omega)  d_Mo_allot_194 (ce1 := Lay K ad (stM (stM (stM (tbM (stM (naM (mS S) s T Z A e) 13 3 ((naM (mS S) s T Z A e).2.2 13 3 + 1)) s T Z A e) 19 s (nI T)) 20 s 0) 20 s (0 + 1))) (Lay_put (by decide) rfl) ?_
      refine z_aload_n hx 2 d_Mo_allot_195 rfl ?_
      refine z_iload_n hx 3 d_Mo_allot_196 rfl ?_
      refine z_iload_n hx 4 d_Mo_allot_197 rfl ?_
      refine z_iload_n hx 5 d_Mo_allot_198 rfl ?_
      refine z_iload hx 1 d_Mo_allot_199 rfl ?_
      refine z_iload hx 0 d_Mo_allot_201 rfl ?_
      refine z_iconst (v := 1) hx d_Mo_allot_203 rfl ?_
      refine z_cV hx (c_Mo_give_k hi hp hk8) k_Mo rfl ⟨a4_139, a4_142, a1_6, ⟨by decide +kernel, by decide +kernel⟩, fun sig h => by cases h; rfl⟩ a4_141 s_Mo_give rfl rfl d_Mo_allot_204 (by rw [hrm]; exact ⟨Nat.le_of_ble_eq_true rfl, Nat.le_of_ble_eq_true rfl, Nat.le_of_ble_eq_true rfl, Nat.le_of_ble_eq_true rfl⟩) ?_
      show zV x ad (Lay K ad (gvM (stM (stM (stM (tbM (stM (naM (mS S) s T Z A e) 13 3 ((naM (mS S) s T Z A e).2.2 13 3 + 1)) s T Z A e) 19 s (nI T)) 20 s 0) 20 s (0 + 1)) (100 * i + p) (nI s) (nI a) (nxt (pM (naM (mS S) s T Z A e) i a) 1000 0) 1)) _ _ _ 207 []
      refine z_iload hx 0 d_Mo_allot_207 rfl ?_
      have e9 : mAlN S i s p a T Z A e = (nI (nxt (pM (naM (mS S) s T Z A e) i a) 1000 0), gvM (stM (stM (stM (tbM (stM (naM (mS S) s T Z A e) 13 3 ((naM (mS S) s T Z A e).2.2 13 3 + 1)) s T Z A e) 19 s (nI T)) 20 s 0) 20 s (0 + 1)) (100 * i + p) (nI s) (nI a) (nxt (pM (naM (mS S) s T Z A e) i a) 1000 0) 1) := by unfold mAlN; (first | rw [if_pos h1] | rw [if_neg h1] | skip); (first | rw [if_pos h2] | rw [if_neg h2] | skip); (try rfl)
      exact z_iret hx hr rfl hq (Nat.le_refl _) (Nat.le_refl _) d_Mo_allot_209 ⟨by rw [e9], rfl, by rw [e9]⟩
    · refine z_cV hx (c_Mo_writes_torn h2) k_Mo rfl ⟨a4_85, a4_88, a1_6, ⟨by decide +kernel, by decide +kernel⟩, fun sig h => by cases h; rfl⟩ a4_87 s_Mo_writes rfl rfl d_Mo_allot_136 (by rw [hrm]; exact ⟨Nat.le_of_ble_eq_true rfl, Nat.le_of_ble_eq_true rfl, Nat.le_of_ble_eq_true rfl, Nat.le_of_ble_eq_true rfl⟩) ?_
      show zV x ad (Lay K ad (stM (stM (naM (mS S) s T Z A e) 13 2 0) 13 1 1)) _ _ _ 139 [.int 0]
      refine z_if_ne (tgt := 145) hx d_Mo_allot_139 (by decide) (fun h => absurd (by decide) h) (fun _ => ?_)
      refine z_bipush (v := (-2)) hx d_Mo_allot_142 rfl ?_
      have e9 : mAlN S i s p a T Z A e = ((-2), stM (stM (naM (mS S) s T Z A e) 13 2 0) 13 1 1) := by unfold mAlN; (first | rw [if_pos h1] | rw [if_neg h1] | skip); (first | rw [if_pos h2] | rw [if_neg h2] | skip); (try rfl)
      exact z_iret hx hr rfl hq (Nat.le_refl _) (Nat.le_refl _) d_Mo_allot_144 ⟨by rw [e9], rfl, by rw [e9]⟩
