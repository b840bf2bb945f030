def mResE (S : zSt) (i : Nat) : Int32 × zSt := if S.2.2 13 1 = 0 then (if S.2.2 13 4 = 0 then (if S.2.2 21 i = 2 then (-4, mS S) else (-8, mS S)) else (-3, mS S)) else (-2, mS S)
set_option maxRecDepth 20000 in
theorem c_Mo_reserve_early {l : Launch} {D : va_G} {K : Nat → ClassId} {ad : Nat → Nat} {S : zSt} {i : Nat} (hi : i < 10) (ho : ¬ S.2.2 21 i ≤ 0) {s : Nat} (hs : s < 8) (hpl : ¬ S.2.2 13 5 = 0) (hE : ¬ S.2.2 13 1 = 0 ∨ ¬ S.2.2 13 4 = 0 ∨ S.2.2 21 i = 2 ∨ ¬ S.2.2 30 (8 * i + s) < 0) : zC l TB D zcls (ztyl K) y_Mo_reserve (.code y_Mo_reserve b_Mo_reserve 7 (some FieldType.int)) (rmk 2 55) [.ref (ad 13), .int (nI i), .int (nI s)] ad (Lay K ad S) (zP K ad (some (.int (mResE S i).1)) (mResE S i).2) := by
  refine zC.of (by decide +kernel) (Nat.le_of_ble_eq_true rfl) ?_
  intro x hx hr hml hnm hrm hq hNH
  show zV x ad (Lay K ad S) 0 0 [(0, .ref (ad 13)), (1, .int (nI i)), (2, .int (nI s))] 0 []
  refine z_aload_n hx 0 d_Mo_reserve_0 rfl ?_
  refine z_aload_n hx 0 d_Mo_reserve_1 rfl ?_
  refine z_iload_n hx 1 d_Mo_reserve_2 rfl ?_
  refine z_cV hx (c_Mo_isSite_yes hi ho) k_Mo rfl ⟨a4_98, a4_101, a1_6, ⟨by decide +kernel, by decide +kernel⟩, fun sig h => by cases h; rfl⟩ a4_100 s_Mo_isSite rfl rfl d_Mo_reserve_3 (by rw [hrm]; exact ⟨Nat.le_of_ble_eq_true rfl, Nat.le_of_ble_eq_true rfl, Nat.le_of_ble_eq_true rfl, Nat.le_of_ble_eq_true rfl⟩) ?_
  show zV x ad (Lay K ad S) _ _ _ 6 [.int 1, .ref (ad 13)]
  refine z_if_eq (tgt := 16) hx d_Mo_reserve_6 (by decide) (fun h => absurd h (by decide)) (fun _ => ?_)
  refine z_iload_n hx 2 d_Mo_reserve_9 rfl ?_
  refine z_cS hx (c_Mo_isStratum_yes hs) ⟨a4_119, a4_121, a1_6, ⟨by decide +kernel, by decide +kernel⟩, fun sig h => by cases h; rfl⟩ a4_120 rfl rfl d_Mo_reserve_10 (by rw [hrm]; exact ⟨Nat.le_of_ble_eq_true rfl, Nat.le_of_ble_eq_true rfl, Nat.le_of_ble_eq_true rfl, Nat.le_of_ble_eq_true rfl⟩) ?_
  show zV x ad (Lay K ad S) _ _ _ 13 [.int 1, .ref (ad 13)]
  refine z_if_ne (tgt := 20) hx d_Mo_reserve_13 (by decide) (fun _ => ?_) (fun h => absurd h (by decide))
  refine z_iconst (v := 0) hx d_Mo_reserve_20 rfl ?_
  refine z_aload_n hx 0 d_Mo_reserve_21 rfl ?_
  refine z_get hx k_Mo (t := 13) rfl 5 (by decide) a3_228 rfl d_Mo_reserve_22 ?_
  refine z_if_ne (tgt := 32) hx d_Mo_reserve_25 (by decide) (fun _ => ?_) (fun h => absurd h hpl)
  refine z_iconst (v := 0) hx d_Mo_reserve_32 rfl ?_
  refine z_iconst (v := 0) hx d_Mo_reserve_33 rfl ?_
  refine z_cV hx (c_Mo_refused_0) k_Mo rfl ⟨a4_81, a4_84, a1_6, ⟨by decide +kernel, by decide +kernel⟩, fun sig h => by cases h; rfl⟩ a4_83 s_Mo_refused rfl rfl d_Mo_reserve_34 (by rw [hrm]; exact ⟨Nat.le_of_ble_eq_true rfl, Nat.le_of_ble_eq_true rfl, Nat.le_of_ble_eq_true rfl, Nat.le_of_ble_eq_true rfl⟩) ?_
  show zV x ad (Lay K ad (stM S 13 0 0)) _ _ _ 37 [.int 0]
  refine z_if_eq (tgt := 42) hx d_Mo_reserve_37 (by decide) (fun _ => ?_) (fun h => absurd (by decide) h)
  refine z_aload_n hx 0 d_Mo_reserve_42 rfl ?_
  refine z_get hx k_Mo (t := 13) rfl 1 (by decide) a3_224 rfl d_Mo_reserve_43 ?_
  refine z_top (b := S.2.2 13 1) (rd_j (by decide)) ?_
  refine z_if_ne (tgt := 66) hx d_Mo_reserve_46 (by decide) (fun h1 => ?_) (fun h1 => ?_)
  · refine z_aload_n hx 0 d_Mo_reserve_66 rfl ?_
    refine z_get hx k_Mo (t := 13) rfl 1 (by decide) a3_224 rfl d_Mo_reserve_67 ?_
    refine z_top (b := S.2.2 13 1) (rd_j (by decide)) ?_
    refine z_if_eq (tgt := 78) hx d_Mo_reserve_70 (by decide) (fun h => absurd h h1) (fun _ => ?_)
    refine z_bipush (v := (-2)) hx d_Mo_reserve_73 rfl ?_
    refine z_goto (tgt := 92) hx d_Mo_reserve_75 (by decide) ?_
    have e9 : mResE S i = ((-2), stM S 13 0 0) := by unfold mResE; (first | rw [if_pos h1] | rw [if_neg h1] | skip); (try rfl)
    exact z_iret hx hr rfl hq (Nat.le_refl _) (Nat.le_refl _) d_Mo_reserve_92 ⟨by rw [e9], rfl, by rw [e9]⟩
  · refine z_aload_n hx 0 d_Mo_reserve_49 rfl ?_
    refine z_get hx k_Mo (t := 13) rfl 4 (by decide) a3_227 rfl d_Mo_reserve_50 ?_
    refine z_top (b := S.2.2 13 4) (rd_j (by decide)) ?_
    refine z_if_ne (tgt := 66) hx d_Mo_reserve_53 (by decide) (fun h2 => ?_) (fun h2 => ?_)
    · refine z_aload_n hx 0 d_Mo_reserve_66 rfl ?_
      refine z_get hx k_Mo (t := 13) rfl 1 (by decide) a3_224 rfl d_Mo_reserve_67 ?_
      refine z_top (b := S.2.2 13 1) (rd_j (by decide)) ?_
      refine z_if_eq (tgt := 78) hx d_Mo_reserve_70 (by decide) (fun _ => ?_) (fun h => absurd h1 h)
      refine z_aload_n hx 0 d_Mo_reserve_78 rfl ?_
      refine z_get hx k_Mo (t := 13) rfl 4 (by decide) a3_227 rfl d_Mo_reserve_79 ?_
      refine z_top (b := S.2.2 13 4) (rd_j (by decide)) ?_
      refine z_if_eq (tgt := 90) hx d_Mo_reserve_82 (by decide) (fun h => absurd h h2) (fun _ => ?_)
      refine z_bipush (v := (-3)) hx d_Mo_reserve_85 rfl ?_
      refine z_goto (tgt := 92) hx d_Mo_reserve_87 (by decide) ?_
      have e9 : mResE S i = ((-3), stM S 13 0 0) := by unfold mResE; (first | rw [if_pos h1] | rw [if_neg h1] | skip); (first | rw [if_pos h2] | rw [if_neg h2] | skip); (try rfl)
      exact z_iret hx hr rfl hq (Nat.le_refl _) (Nat.le_refl _) d_Mo_reserve_92 ⟨by rw [e9], rfl, by rw [e9]⟩
    · refine z_aload_n hx 0 d_Mo_reserve_56 rfl ?_
      refine z_get hx k_Mo (t := 13) rfl 16 (by decide) a3_239 rfl d_Mo_reserve_57 ?_
      refine z_iload_n hx 1 d_Mo_reserve_60 rfl ?_
      refine z_ialdK hx 0 rfl (t := 21) rfl (k := i) (by omega) (by first | decide | omega) d_Mo_reserve_61 ?_
      refine z_top (b := S.2.2 21 i) (rd_n (by decide)) ?_
      refine z_iconst (v := 2) hx d_Mo_reserve_62 rfl ?_
      refine z_icmp_ne (tgt := 93) hx d_Mo_reserve_63 (by decide) (fun h3 => ?_) (fun h3 => ?_)
      · refine z_bipush (v := 8) hx d_Mo_reserve_93 rfl ?_
        refine z_iload_n hx 1 d_Mo_reserve_95 rfl ?_
        refine z_imul hx d_Mo_reserve_96 ?_
        refine z_top (b := nI (8 * i)) (pk_mul 8 i) ?_
        refine z_iload_n hx 2 d_Mo_reserve_97 rfl ?_
        refine z_iadd hx d_Mo_reserve_98 ?_
        refine z_top (b := nI (8 * i + s)) (nI_add _ _) ?_
        refine z_istore_n hx [(3, .int (nI (8 * i + s))), (0, .ref (ad 13)), (1, .int (nI i)), (2, .int (nI s))] d_Mo_reserve_99 rfl (zN hml (by decide)) rfl ?_
        refine z_aload_n hx 1 d_Mo_reserve_100 rfl ?_
        refine z_get hx k_Mo (t := 13) rfl 25 (by decide) a4_8 rfl d_Mo_reserve_101 ?_
        refine z_iload_n hx 0 d_Mo_reserve_104 rfl ?_
        refine z_ialdK hx 0 rfl (t := 30) rfl (k := (8 * i + s)) (by omega) (by first | decide | omega) d_Mo_reserve_105 ?_
        refine z_top (b := S.2.2 30 (8 * i + s)) (rd_n (by decide)) ?_
        refine z_if_lt (tgt := 112) hx d_Mo_reserve_106 (by decide) (fun h4 => ?_) (fun h4 => ?_)
        · exact absurd hE (by simp [h1, h2, h3, h4])
        · refine z_bipush (v := (-8)) hx d_Mo_reserve_109 rfl ?_
          have e9 : mResE S i = ((-8), stM S 13 0 0) := by unfold mResE; (first | rw [if_pos h1] | rw [if_neg h1] | skip); (first | rw [if_pos h2] | rw [if_neg h2] | skip); (first | rw [if_pos h3] | rw [if_neg h3] | skip); (first | rw [if_pos h4] | rw [if_neg h4] | skip); (try rfl)
          exact z_iret hx hr rfl hq (Nat.le_refl _) (Nat.le_refl _) d_Mo_reserve_111 ⟨by rw [e9], rfl, by rw [e9]⟩
      · refine z_aload_n hx 0 d_Mo_reserve_66 rfl ?_
        refine z_get hx k_Mo (t := 13) rfl 1 (by decide) a3_224 rfl d_Mo_reserve_67 ?_
        refine z_top (b := S.2.2 13 1) (rd_j (by decide)) ?_
        refine z_if_eq (tgt := 78) hx d_Mo_reserve_70 (by decide) (fun _ => ?_) (fun h => absurd h1 h)
        refine z_aload_n hx 0 d_Mo_reserve_78 rfl ?_
        refine z_get hx k_Mo (t := 13) rfl 4 (by decide) a3_227 rfl d_Mo_reserve_79 ?_
        refine z_top (b := S.2.2 13 4) (rd_j (by decide)) ?_
        refine z_if_eq (tgt := 90) hx d_Mo_reserve_82 (by decide) (fun _ => ?_) (fun h => absurd h2 h)
        refine z_bipush (v := (-4)) hx d_Mo_reserve_90 rfl ?_
        have e9 : mResE S i = ((-4), stM S 13 0 0) := by unfold mResE; (first | rw [if_pos h1] | rw [if_neg h1] | skip); (first | rw [if_pos h2] | rw [if_neg h2] | skip); (first | rw [if_pos h3] | rw [if_neg h3] | skip); (try rfl)
        exact z_iret hx hr rfl hq (Nat.le_refl _) (Nat.le_refl _) d_Mo_reserve_92 ⟨by rw [e9], rfl, by rw [e9]⟩
theorem cntI_le {p : Nat → Bool} {k : Nat} : cntI p k ≤ k := by
  induction k with
  | zero => exact Nat.le_refl _
  | succ k ih =>
    rw [cntI]
    by_cases h : p k = true
    · rw [if_pos h]; omega
    · rw [if_neg h]; omega
set_option maxRecDepth 20000 in
theorem c_Mo_reserve_lack {l : Launch} {D : va_G} {K : Nat → ClassId} {ad : Nat → Nat} {S : zSt} {i : Nat} (hi : i < 10) (ho : ¬ S.2.2 21 i ≤ 0) {s : Nat} (hs : s < 8) (hpl : ¬ S.2.2 13 5 = 0)  (hd0 : S.2.2 13 1 = 0) (ho7 : S.2.2 13 4 = 0) (hcl : ¬ S.2.2 21 i = 2) (hr0 : S.2.2 30 (8 * i + s) < 0) {T Z A W : Nat} (hT : S.2.2 13 9 = nI T) (hT2 : T < 4200) (hZ : S.2.2 13 6 = nI Z) (hZ1 : 1 ≤ Z) (hZ2 : Z ≤ 24) (hA : S.2.2 13 5 = nI A) (hA4 : A ≤ 4) (hW : S.2.2 14 0 + S.2.2 14 1 + S.2.2 14 2 + S.2.2 14 3 = nI W) (hW1 : 1 ≤ W) (hW2 : W ≤ 24) {e : Nat → Nat} (he : ∀ a, a < A → S.2.2 14 a * (nI Z / nI W) = nI (e a)) (hsE : sE e A = Z) (hbo : bOk S) (hlk : ∃ q, 0 ≤ q ∧ q < A ∧ cntI (pM (mS S) i q) 1000 < e q) : zC l TB D zcls (ztyl K) y_Mo_reserve (.code y_Mo_reserve b_Mo_reserve 7 (some FieldType.int)) (rmk 2 55) [.ref (ad 13), .int (nI i), .int (nI s)] ad (Lay K ad S) (zP K ad (some (.int (-6))) (mS S)) := by
  refine zC.of (by decide +kernel) (Nat.le_of_ble_eq_true rfl) ?_
  intro x hx hr hml hnm hrm hq hNH
  have L : ∀ (m_L a : Nat), a + m_L = A → (∃ q, a ≤ q ∧ q < A ∧ cntI (pM (mS S) i q) 1000 < e q) → zV x ad (Lay K ad (stM S 13 0 0)) 0 0 [(5, .int (nI a)), (4, .int (nI W)), (3, .int (nI (8 * i + s))), (0, .ref (ad 13)), (1, .int (nI i)), (2, .int (nI s))] 144 [] := by
    intro m_L
    induction m_L with
    | zero =>
      intro a he_L hV
      have e_L : a = A := by omega
      obtain ⟨q, h1, h2, h3⟩ := hV; omega
    | succ m_L ih_L =>
      intro a he_L hV
      have l_L : a < A := by omega
      have hea : e a ≤ Z := by have m9 := sE_mono (e := e) (a := a + 1) (b := A) l_L; have m8 : sE e (a + 1) = sE e a + e a := rfl; omega
      have hca := cntI_le (p := pM (mS S) i a) (k := 1000)
      refine z_iload hx 0 d_Mo_reserve_144 rfl ?_
      refine z_aload_n hx 3 d_Mo_reserve_146 rfl ?_
      refine z_get hx k_Mo (t := 13) rfl 5 (by decide) a3_228 rfl d_Mo_reserve_147 ?_
      refine z_top (b := S.2.2 13 5) (rd_j (by decide)) ?_
      refine z_top (b := nI A) hA ?_
      refine z_icmp_ge (tgt := 187) hx d_Mo_reserve_150 (by decide) (fun h => absurd h (nI_ge (by omega) (by omega))) (fun _ => ?_)
      refine z_aload_n hx 3 d_Mo_reserve_153 rfl ?_
      refine z_iload_n hx 4 d_Mo_reserve_154 rfl ?_
      refine z_iload hx 0 d_Mo_reserve_155 rfl ?_
      refine z_cV hx (c_Mo_free) k_Mo rfl ⟨a4_107, a4_110, a1_6, ⟨by decide +kernel, by decide +kernel⟩, fun sig h => by cases h; rfl⟩ a4_109 s_Mo_free rfl rfl d_Mo_reserve_157 (by rw [hrm]; exact ⟨Nat.le_of_ble_eq_true rfl, Nat.le_of_ble_eq_true rfl, Nat.le_of_ble_eq_true rfl, Nat.le_of_ble_eq_true rfl⟩) ?_
      show zV x ad (Lay K ad (stM S 13 0 0)) _ _ _ 160 [.int (nI (cntI (pM (mS S) i a) 1000))]
      refine z_aload_n hx 3 d_Mo_reserve_160 rfl ?_
      refine z_get hx k_Mo (t := 13) rfl 8 (by decide) a3_231 rfl d_Mo_reserve_161 ?_
      refine z_iload hx 0 d_Mo_reserve_164 rfl ?_
      refine z_ialdK hx 0 rfl (t := 14) rfl (k := a) (by omega) (by first | decide | omega) d_Mo_reserve_166 ?_
      refine z_top (b := S.2.2 14 a) (rd_n (by decide)) ?_
      refine z_aload_n hx 3 d_Mo_reserve_167 rfl ?_
      refine z_get hx k_Mo (t := 13) rfl 6 (by decide) a3_229 rfl d_Mo_reserve_168 ?_
      refine z_top (b := S.2.2 13 6) (rd_j (by decide)) ?_
      refine z_top (b := nI Z) hZ ?_
      refine z_iload hx 1 d_Mo_reserve_171 rfl ?_
      refine z_idiv hx d_Mo_reserve_173 (nI_ne0 (by omega) (by omega)) ?_
      refine z_imul hx d_Mo_reserve_174 ?_
      refine z_top (b := nI (e a)) (he a l_L) ?_
      refine z_icmp_ge (tgt := 181) hx d_Mo_reserve_175 (by decide) (fun h11 => ?_) (fun h11 => ?_)
      · refine z_iinc (v := nI (a + 1)) hx 0 [(5, .int (nI (a + 1))), (4, .int (nI W)), (3, .int (nI (8 * i + s))), (0, .ref (ad 13)), (1, .int (nI i)), (2, .int (nI s))] d_Mo_reserve_181 rfl (nI_1 a) (zN hml (by decide)) rfl ?_
        refine z_goto (tgt := 144) hx d_Mo_reserve_184 (by decide) ?_
        obtain ⟨q, h1, h2, h3⟩ := hV
        have g1 : e a ≤ cntI (pM (mS S) i a) 1000 := zle_nI h11 (by omega) (by omega)
        have g2 : q ≠ a := fun z => by rw [z] at h3; omega
        exact z_lv [0, 1, 2, 3, 4, 5] _ rfl (ih_L (a + 1) (by omega) ⟨q, by omega, h2, h3⟩)
      · refine z_bipush (v := (-6)) hx d_Mo_reserve_178 rfl ?_
        exact z_iret hx hr rfl hq (Nat.le_refl _) (Nat.le_refl _) d_Mo_reserve_180 ⟨rfl, rfl, rfl⟩
  show zV x ad (Lay K ad S) 0 0 [(0, .ref (ad 13)), (1, .int (nI i)), (2, .int (nI s))] 0 []
  refine z_aload_n hx 0 d_Mo_reserve_0 rfl ?_
  refine z_aload_n hx 0 d_Mo_reserve_1 rfl ?_
  refine z_iload_n hx 1 d_Mo_reserve_2 rfl ?_
  refine z_cV hx (c_Mo_isSite_yes hi ho) k_Mo rfl ⟨a4_98, a4_101, a1_6, ⟨by decide +kernel, by decide +kernel⟩, fun sig h => by cases h; rfl⟩ a4_100 s_Mo_isSite rfl rfl d_Mo_reserve_3 (by rw [hrm]; exact ⟨Nat.le_of_ble_eq_true rfl, Nat.le_of_ble_eq_true rfl, Nat.le_of_ble_eq_true rfl, Nat.le_of_ble_eq_true rfl⟩) ?_
  show zV x ad (Lay K ad S) _ _ _ 6 [.int 1, .ref (ad 13)]
  refine z_if_eq (tgt := 16) hx d_Mo_reserve_6 (by decide) (fun h => absurd h (by decide)) (fun _ => ?_)
  refine z_iload_n hx 2 d_Mo_reserve_9 rfl ?_
  refine z_cS hx (c_Mo_isStratum_yes hs) ⟨a4_119, a4_121, a1_6, ⟨by decide +kernel, by decide +kernel⟩, fun sig h => by cases h; rfl⟩ a4_120 rfl rfl d_Mo_reserve_10 (by rw [hrm]; exact ⟨Nat.le_of_ble_eq_true rfl, Nat.le_of_ble_eq_true rfl, Nat.le_of_ble_eq_true rfl, Nat.le_of_ble_eq_true rfl⟩) ?_
  show zV x ad (Lay K ad S) _ _ _ 13 [.int 1, .ref (ad 13)]
  refine z_if_ne (tgt := 20) hx d_Mo_reserve_13 (by decide) (fun _ => ?_) (fun h => absurd h (by decide))
  refine z_iconst (v := 0) hx d_Mo_reserve_20 rfl ?_
  refine z_aload_n hx 0 d_Mo_reserve_21 rfl ?_
  refine z_get hx k_Mo (t := 13) rfl 5 (by decide) a3_228 rfl d_Mo_reserve_22 ?_
  refine z_if_ne (tgt := 32) hx d_Mo_reserve_25 (by decide) (fun _ => ?_) (fun h => absurd h hpl)
  refine z_iconst (v := 0) hx d_Mo_reserve_32 rfl ?_
  refine z_iconst (v := 0) hx d_Mo_reserve_33 rfl ?_
  refine z_cV hx (c_Mo_refused_0) k_Mo rfl ⟨a4_81, a4_84, a1_6, ⟨by decide +kernel, by decide +kernel⟩, fun sig h => by cases h; rfl⟩ a4_83 s_Mo_refused rfl rfl d_Mo_reserve_34 (by rw [hrm]; exact ⟨Nat.le_of_ble_eq_true rfl, Nat.le_of_ble_eq_true rfl, Nat.le_of_ble_eq_true rfl, Nat.le_of_ble_eq_true rfl⟩) ?_
  show zV x ad (Lay K ad (stM S 13 0 0)) _ _ _ 37 [.int 0]
  refine z_if_eq (tgt := 42) hx d_Mo_reserve_37 (by decide) (fun _ => ?_) (fun h => absurd (by decide) h)
  refine z_aload_n hx 0 d_Mo_reserve_42 rfl ?_
  refine z_get hx k_Mo (t := 13) rfl 1 (by decide) a3_224 rfl d_Mo_reserve_43 ?_
  refine z_top (b := S.2.2 13 1) (rd_j (by decide)) ?_
  refine z_if_ne (tgt := 66) hx d_Mo_reserve_46 (by decide) (fun h => absurd hd0 h) (fun _ => ?_)
  refine z_aload_n hx 0 d_Mo_reserve_49 rfl ?_
  refine z_get hx k_Mo (t := 13) rfl 4 (by decide) a3_227 rfl d_Mo_reserve_50 ?_
  refine z_top (b := S.2.2 13 4) (rd_j (by decide)) ?_
  refine z_if_ne (tgt := 66) hx d_Mo_reserve_53 (by decide) (fun h => absurd ho7 h) (fun _ => ?_)
  refine z_aload_n hx 0 d_Mo_reserve_56 rfl ?_
  refine z_get hx k_Mo (t := 13) rfl 16 (by decide) a3_239 rfl d_Mo_reserve_57 ?_
  refine z_iload_n hx 1 d_Mo_reserve_60 rfl ?_
  refine z_ialdK hx 0 rfl (t := 21) rfl (k := i) (by omega) (by first | decide | omega) d_Mo_reserve_61 ?_
  refine z_top (b := S.2.2 21 i) (rd_n (by decide)) ?_
  refine z_iconst (v := 2) hx d_Mo_reserve_62 rfl ?_
  refine z_icmp_ne (tgt := 93) hx d_Mo_reserve_63 (by decide) (fun _ => ?_) (fun h => absurd h hcl)
  refine z_bipush (v := 8) hx d_Mo_reserve_93 rfl ?_
  refine z_iload_n hx 1 d_Mo_reserve_95 rfl ?_
  refine z_imul hx d_Mo_reserve_96 ?_
  refine z_top (b := nI (8 * i)) (pk_mul 8 i) ?_
  refine z_iload_n hx 2 d_Mo_reserve_97 rfl ?_
  refine z_iadd hx d_Mo_reserve_98 ?_
  refine z_top (b := nI (8 * i + s)) (nI_add _ _) ?_
  refine z_istore_n hx [(3, .int (nI (8 * i + s))), (0, .ref (ad 13)), (1, .int (nI i)), (2, .int (nI s))] d_Mo_reserve_99 rfl (zN hml (by decide)) rfl ?_
  refine z_aload_n hx 1 d_Mo_reserve_100 rfl ?_
  refine z_get hx k_Mo (t := 13) rfl 25 (by decide) a4_8 rfl d_Mo_reserve_101 ?_
  refine z_iload_n hx 0 d_Mo_reserve_104 rfl ?_
  refine z_ialdK hx 0 rfl (t := 30) rfl (k := (8 * i + s)) (by omega) (by first | decide | omega) d_Mo_reserve_105 ?_
  refine z_top (b := S.2.2 30 (8 * i + s)) (rd_n (by decide)) ?_
  refine z_if_lt (tgt := 112) hx d_Mo_reserve_106 (by decide) (fun _ => ?_) (fun h => absurd hr0 h)
  refine z_aload_n hx 1 d_Mo_reserve_112 rfl ?_
  refine z_get hx k_Mo (t := 13) rfl 8 (by decide) a3_231 rfl d_Mo_reserve_113 ?_
  refine z_iconst (v := 0) hx d_Mo_reserve_116 rfl ?_
  refine z_ialdK hx 0 rfl (t := 14) rfl (k := 0) (by decide) (by first | decide | omega) d_Mo_reserve_117 ?_
  refine z_top (b := S.2.2 14 0) (rd_n (by decide)) ?_
  refine z_aload_n hx 1 d_Mo_reserve_118 rfl ?_
  refine z_get hx k_Mo (t := 13) rfl 8 (by decide) a3_231 rfl d_Mo_reserve_119 ?_
  refine z_iconst (v := 1) hx d_Mo_reserve_122 rfl ?_
  refine z_ialdK hx 0 rfl (t := 14) rfl (k := 1) (by decide) (by first | decide | omega) d_Mo_reserve_123 ?_
  refine z_top (b := S.2.2 14 1) (rd_n (by decide)) ?_
  refine z_iadd hx d_Mo_reserve_124 ?_
  refine z_aload_n hx 1 d_Mo_reserve_125 rfl ?_
  refine z_get hx k_Mo (t := 13) rfl 8 (by decide) a3_231 rfl d_Mo_reserve_126 ?_
  refine z_iconst (v := 2) hx d_Mo_reserve_129 rfl ?_
  refine z_ialdK hx 0 rfl (t := 14) rfl (k := 2) (by decide) (by first | decide | omega) d_Mo_reserve_130 ?_
  refine z_top (b := S.2.2 14 2) (rd_n (by decide)) ?_
  refine z_iadd hx d_Mo_reserve_131 ?_
  refine z_aload_n hx 1 d_Mo_reserve_132 rfl ?_
  refine z_get hx k_Mo (t := 13) rfl 8 (by decide) a3_231 rfl d_Mo_reserve_133 ?_
  refine z_iconst (v := 3) hx d_Mo_reserve_136 rfl ?_
  refine z_ialdK hx 0 rfl (t := 14) rfl (k := 3) (by decide) (by first | decide | omega) d_Mo_reserve_137 ?_
  refine z_top (b := S.2.2 14 3) (rd_n (by decide)) ?_
  refine z_iadd hx d_Mo_reserve_138 ?_
  refine z_top (b := nI W) hW ?_
  refine z_istore hx [(4, .int (nI W)), (3, .int (nI (8 * i + s))), (0, .ref (ad 13)), (1, .int (nI i)), (2, .int (nI s))] d_Mo_reserve_139 (zN hml (by decide)) rfl ?_
  refine z_iconst (v := 0) hx d_Mo_reserve_141 rfl ?_
  refine z_top (b := nI 0) rfl ?_
  refine z_istore hx [(5, .int (nI 0)), (4, .int (nI W)), (3, .int (nI (8 * i + s))), (0, .ref (ad 13)), (1, .int (nI i)), (2, .int (nI s))] d_Mo_reserve_142 (zN hml (by decide)) rfl ?_
  exact z_lv [0, 1, 2, 3, 4, 5] _ rfl (L A 0 (by omega) hlk)
def rmS (S : zSt) (r : Nat) (g : Nat → Nat) : Nat → zSt
  | 0 => S
  | k + 1 => stM (stM (rmS S r g k) 32 (24 * r + k) (nI (g k))) 24 (g k) 1
theorem rmS_n {S : zSt} {r k u : Nat} {g : Nat → Nat} (h1 : u ≠ 32) (h2 : u ≠ 24) : (rmS S r g k).2.2 u = S.2.2 u := by
  induction k with
  | zero => rfl
  | succ k ih => rw [rmS, stM_n h2, stM_n h1, ih]
def rvM (S : zSt) (i s T Z A : Nat) (e g : Nat → Nat) : zSt := rmS (stM (stM (tbM (mwO S) s T Z A e) 30 (8 * i + s) (nI T)) 31 (8 * i + s) 0) (8 * i + s) g Z
def mRes (S : zSt) (i s T Z A : Nat) (e g : Nat → Nat) : Int32 × zSt := if S.2.2 13 2 = 0 then ((rvM S i s T Z A e g).2.2 17 s - 1, rvM S i s T Z A e g) else (-2, mwT S)
set_option maxRecDepth 20000 in
theorem c_Mo_reserve {l : Launch} {D : va_G} {K : Nat → ClassId} {ad : Nat → Nat} {S : zSt} {i : Nat} (hi : i < 10) (ho : ¬ S.2.2 21 i ≤ 0) {s : Nat} (hs : s < 8) (hpl : ¬ S.2.2 13 5 = 0)  (hd0 : S.2.2 13 1 = 0) (ho7 : S.2.2 13 4 = 0) (hcl : ¬ S.2.2 21 i = 2) (hr0 : S.2.2 30 (8 * i + s) < 0) {T Z A W : Nat} (hT : S.2.2 13 9 = nI T) (hT2 : T < 4200) (hZ : S.2.2 13 6 = nI Z) (hZ1 : 1 ≤ Z) (hZ2 : Z ≤ 24) (hA : S.2.2 13 5 = nI A) (hA4 : A ≤ 4) (hW : S.2.2 14 0 + S.2.2 14 1 + S.2.2 14 2 + S.2.2 14 3 = nI W) (hW1 : 1 ≤ W) (hW2 : W ≤ 24) {e : Nat → Nat} (he : ∀ a, a < A → S.2.2 14 a * (nI Z / nI W) = nI (e a)) (hsE : sE e A = Z) (hbo : bOk S) (hall : ∀ q, q < A → e q ≤ cntI (pM (mS S) i q) 1000) {ar g : Nat → Nat} (har : ∀ q, q < Z → (tbM (mwO S) s T Z A e).2.2 16 (24 * T + q) = nI (ar q)) (hg : ∀ q, q < Z → nxt (pM (rmS (stM (stM (tbM (mwO S) s T Z A e) 30 (8 * i + s) (nI T)) 31 (8 * i + s) 0) (8 * i + s) g q) i (ar q)) 1000 0 = g q ∧ g q < 1000) : zC l TB D zcls (ztyl K) y_Mo_reserve (.code y_Mo_reserve b_Mo_reserve 7 (some FieldType.int)) (rmk 2 55) [.ref (ad 13), .int (nI i), .int (nI s)] ad (Lay K ad S) (zP K ad (some (.int (mRes S i s T Z A e g).1)) (mRes S i s T Z A e g).2) := by
  refine zC.of (by decide +kernel) (Nat.le_of_ble_eq_true rfl) ?_
  intro x hx hr hml hnm hrm hq hNH
  have Q : ∀ (m_Q k : Nat), k + m_Q = Z → S.2.2 13 2 = 0 → zV x ad (Lay K ad (rmS (stM (stM (tbM (mwO S) s T Z A e) 30 (8 * i + s) (nI T)) 31 (8 * i + s) 0) (8 * i + s) g k)) 0 0 [(5, .int (nI k)), (3, .int (nI (8 * i + s))), (0, .ref (ad 13)), (1, .int (nI i)), (2, .int (nI s))] 218 [] := by
    intro m_Q
    induction m_Q with
    | zero =>
      intro k he_Q hV
      have e_Q : k = Z := by omega
      refine z_iload hx 0 d_Mo_reserve_218 rfl ?_
      refine z_aload_n hx 2 d_Mo_reserve_220 rfl ?_
      refine z_get hx k_Mo (t := 13) rfl 6 (by decide) a3_229 rfl d_Mo_reserve_221 ?_
      refine z_top (b := nI Z) (by rw [rmS_n (by decide) (by decide), rd_n (by decide), rd_n (by decide), tbM_13 (by decide)]; exact hZ) ?_
      refine z_icmp_ge (tgt := 279) hx d_Mo_reserve_224 (by decide) (fun _ => ?_) (fun h => absurd (nI_le (by omega) (by omega)) h)
      refine z_aload_n hx 2 d_Mo_reserve_279 rfl ?_
      refine z_get hx k_Mo (t := 13) rfl 12 (by decide) a3_235 rfl d_Mo_reserve_280 ?_
      refine z_iload_n hx 4 d_Mo_reserve_283 rfl ?_
      refine z_ialdK hx 0 rfl (t := 17) rfl (k := s) (by omega) (by first | decide | omega) d_Mo_reserve_284 ?_
      refine z_iconst (v := 1) hx d_Mo_reserve_285 rfl ?_
      refine z_isub hx d_Mo_reserve_286 ?_
      subst e_Q
      have e9 : mRes S i s T k A e g = ((rvM S i s T k A e g).2.2 17 s - 1, rvM S i s T k A e g) := by unfold mRes; rw [if_pos hV]
      exact z_iret hx hr rfl hq (Nat.le_refl _) (Nat.le_refl _) d_Mo_reserve_287 ⟨by rw [e9]; rfl, rfl, by rw [e9]; rfl⟩
    | succ m_Q ih_Q =>
      intro k he_Q hV
      have l_Q : k < Z := by omega
      have hgk := hg k l_Q
      refine z_iload hx 0 d_Mo_reserve_218 rfl ?_
      refine z_aload_n hx 2 d_Mo_reserve_220 rfl ?_
      refine z_get hx k_Mo (t := 13) rfl 6 (by decide) a3_229 rfl d_Mo_reserve_221 ?_
      refine z_top (b := nI Z) (by rw [rmS_n (by decide) (by decide), rd_n (by decide), rd_n (by decide), tbM_13 (by decide)]; exact hZ) ?_
      refine z_icmp_ge (tgt := 279) hx d_Mo_reserve_224 (by decide) (fun h => absurd h (nI_ge (by omega) (by omega))) (fun _ => ?_)
      refine z_aload_n hx 2 d_Mo_reserve_227 rfl ?_
      refine z_iload_n hx 3 d_Mo_reserve_228 rfl ?_
      refine z_aload_n hx 2 d_Mo_reserve_229 rfl ?_
      refine z_get hx k_Mo (t := 13) rfl 11 (by decide) a3_234 rfl d_Mo_reserve_230 ?_
      refine z_bipush (v := 24) hx d_Mo_reserve_233 rfl ?_
      refine z_aload_n hx 2 d_Mo_reserve_235 rfl ?_
      refine z_get hx k_Mo (t := 13) rfl 25 (by decide) a4_8 rfl d_Mo_reserve_236 ?_
      refine z_iload_n hx 1 d_Mo_reserve_239 rfl ?_
      refine z_ialdK hx 0 rfl (t := 30) rfl (k := (8 * i + s)) (by omega) (by first | decide | omega) d_Mo_reserve_240 ?_
      refine z_top (b := nI T) (by rw [rmS_n (by decide) (by decide), rd_n (by decide), rd_s]) ?_
      refine z_imul hx d_Mo_reserve_241 ?_
      refine z_top (b := nI (24 * T)) (pk_mul 24 T) ?_
      refine z_iload hx 0 d_Mo_reserve_242 rfl ?_
      refine z_iadd hx d_Mo_reserve_244 ?_
      refine z_top (b := nI (24 * T + k)) (nI_add _ _) ?_
      refine z_baldK hx 2 rfl (t := 16) rfl (k := (24 * T + k)) (by omega) (by first | decide | omega) d_Mo_reserve_245 ?_
      refine z_top (b := nI (ar k)) (by rw [rmS_n (by decide) (by decide), rd_n (by decide), rd_n (by decide)]; exact har k l_Q) ?_
      refine z_cV hx ((by have q := c_Mo_leastFree (l := l) (D := D) (K := K) (ad := ad) (S := rmS (stM (stM (tbM (mwO S) s T Z A e) 30 (8 * i + s) (nI T)) 31 (8 * i + s) 0) (8 * i + s) g k) (s := nI i) (r := nI (ar k)); rw [show nxt (fun q => decide (((rmS (stM (stM (tbM (mwO S) s T Z A e) 30 (8 * i + s) (nI T)) 31 (8 * i + s) 0) (8 * i + s) g k).2.2 22 q = nI i ∧ (rmS (stM (stM (tbM (mwO S) s T Z A e) 30 (8 * i + s) (nI T)) 31 (8 * i + s) 0) (8 * i + s) g k).2.2 23 q = nI (ar k) ∧ (rmS (stM (stM (tbM (mwO S) s T Z A e) 30 (8 * i + s) (nI T)) 31 (8 * i + s) 0) (8 * i + s) g k).2.2 24 q = 0))) 1000 0 = g k from hgk.1, if_neg (by omega)] at q; exact q)) k_Mo rfl ⟨a4_135, a4_138, a1_6, ⟨by decide +kernel, by decide +kernel⟩, fun sig h => by cases h; rfl⟩ a4_137 s_Mo_leastFree rfl rfl d_Mo_reserve_246 (by rw [hrm]; exact ⟨Nat.le_of_ble_eq_true rfl, Nat.le_of_ble_eq_true rfl, Nat.le_of_ble_eq_true rfl, Nat.le_of_ble_eq_true rfl⟩) ?_
      show zV x ad (Lay K ad (rmS (stM (stM (tbM (mwO S) s T Z A e) 30 (8 * i + s) (nI T)) 31 (8 * i + s) 0) (8 * i + s) g k)) _ _ _ 249 [.int (nI (g k))]
      refine z_istore hx [(6, .int (nI (g k))), (5, .int (nI k)), (3, .int (nI (8 * i + s))), (0, .ref (ad 13)), (1, .int (nI i)), (2, .int (nI s))] d_Mo_reserve_249 (zN hml (by decide)) rfl ?_
      refine z_aload_n hx 3 d_Mo_reserve_251 rfl ?_
      refine z_get hx k_Mo (t := 13) rfl 27 (by decide) a4_10 rfl d_Mo_reserve_252 ?_
      refine z_bipush (v := 24) hx d_Mo_reserve_255 rfl ?_
      refine z_iload_n hx 2 d_Mo_reserve_257 rfl ?_
      refine z_imul hx d_Mo_reserve_258 ?_
      refine z_top (b := nI (24 * (8 * i + s))) (pk_mul 24 _) ?_
      refine z_iload hx 1 d_Mo_reserve_259 rfl ?_
      refine z_iadd hx d_Mo_reserve_261 ?_
      refine z_top (b := nI (24 * (8 * i + s) + k)) (nI_add _ _) ?_
      refine z_iload hx 0 d_Mo_reserve_262 rfl ?_
      refine z_iastK hx 0 rfl (t := 32) rfl (k := (24 * (8 * i + s) + k)) (by omega) (by first | decide | omega)  d_Mo_reserve_264 (ce1 := Lay K ad (stM (rmS (stM (stM (tbM (mwO S) s T Z A e) 30 (8 * i + s) (nI T)) 31 (8 * i + s) 0) (8 * i + s) g k) 32 ((24 * (8 * i + s) + k)) (nI (g k)))) (Lay_put (by decide) rfl) ?_
      refine z_aload_n hx 3 d_Mo_reserve_265 rfl ?_
      refine z_get hx k_Mo (t := 13) rfl 19 (by decide) a4_2 rfl d_Mo_reserve_266 ?_
      refine z_iload hx 0 d_Mo_reserve_269 rfl ?_
      refine z_iconst (v := 1) hx d_Mo_reserve_271 rfl ?_
      refine z_iastK hx 0 rfl (t := 24) rfl (k := (g k)) hgk.2 (by first | decide | omega)  d_Mo_reserve_272 (ce1 := Lay K ad (stM (stM (rmS (stM (stM (tbM (mwO S) s T Z A e) 30 (8 * i + s) (nI T)) 31 (8 * i + s) 0) (8 * i + s) g k) 32 ((24 * (8 * i + s) + k)) (nI (g k))) 24 ((g k)) 1)) (Lay_put (by decide) rfl) ?_
      refine z_iinc (v := nI (k + 1)) hx 1 [(5, .int (nI (k + 1))), (6, .int (nI (g k))), (3, .int (nI (8 * i + s))), (0, .ref (ad 13)), (1, .int (nI i)), (2, .int (nI s))] d_Mo_reserve_273 rfl (nI_1 k) (zN hml (by decide)) rfl ?_
      refine z_goto (tgt := 218) hx d_Mo_reserve_276 (by decide) ?_
      exact z_lv [0, 2, 3, 4, 5] _ rfl (ih_Q (k + 1) (by omega) hV)
  have L : ∀ (m_L a : Nat), a + m_L = A → zV x ad (Lay K ad (stM S 13 0 0)) 0 0 [(5, .int (nI a)), (4, .int (nI W)), (3, .int (nI (8 * i + s))), (0, .ref (ad 13)), (1, .int (nI i)), (2, .int (nI s))] 144 [] := by
    intro m_L
    induction m_L with
    | zero =>
      intro a he_L
      have e_L : a = A := by omega
      refine z_iload hx 0 d_Mo_reserve_144 rfl ?_
      refine z_aload_n hx 3 d_Mo_reserve_146 rfl ?_
      refine z_get hx k_Mo (t := 13) rfl 5 (by decide) a3_228 rfl d_Mo_reserve_147 ?_
      refine z_top (b := S.2.2 13 5) (rd_j (by decide)) ?_
      refine z_top (b := nI A) hA ?_
      refine z_icmp_ge (tgt := 187) hx d_Mo_reserve_150 (by decide) (fun _ => ?_) (fun h => absurd (nI_le (by omega) (by omega)) h)
      refine z_aload_n hx 3 d_Mo_reserve_187 rfl ?_
      by_cases h1 : S.2.2 13 2 = 0
      · refine z_cV hx (c_Mo_writes_ok (S := stM S 13 0 0) h1) k_Mo rfl ⟨a4_85, a4_88, a1_6, ⟨by decide +kernel, by decide +kernel⟩, fun sig h => by cases h; rfl⟩ a4_87 s_Mo_writes rfl rfl d_Mo_reserve_188 (by rw [hrm]; exact ⟨Nat.le_of_ble_eq_true rfl, Nat.le_of_ble_eq_true rfl, Nat.le_of_ble_eq_true rfl, Nat.le_of_ble_eq_true rfl⟩) ?_
        show zV x ad (Lay K ad (stM (stM S 13 0 0) 13 3 (S.2.2 13 3 + 1))) _ _ _ 191 [.int 1]
        refine z_if_ne (tgt := 197) hx d_Mo_reserve_191 (by decide) (fun _ => ?_) (fun h => absurd h (by decide))
        refine z_aload_n hx 3 d_Mo_reserve_197 rfl ?_
        refine z_get hx k_Mo (t := 13) rfl 25 (by decide) a4_8 rfl d_Mo_reserve_198 ?_
        refine z_iload_n hx 2 d_Mo_reserve_201 rfl ?_
        refine z_aload_n hx 3 d_Mo_reserve_202 rfl ?_
        refine z_iload_n hx 5 d_Mo_reserve_203 rfl ?_
        refine z_cV hx (c_Mo_takeBlock (S := mwO S) hs hT hT2 hZ hZ1 hZ2 hA hA4 hW hW1 hW2 he hsE (bOk_n (bOk_n hbo (by decide)) (by decide))) k_Mo rfl ⟨a4_126, a4_129, a1_6, ⟨by decide +kernel, by decide +kernel⟩, fun sig h => by cases h; rfl⟩ a4_128 s_Mo_takeBlock rfl rfl d_Mo_reserve_204 (by rw [hrm]; exact ⟨Nat.le_of_ble_eq_true rfl, Nat.le_of_ble_eq_true rfl, Nat.le_of_ble_eq_true rfl, Nat.le_of_ble_eq_true rfl⟩) ?_
        show zV x ad (Lay K ad (tbM (mwO S) s T Z A e)) _ _ _ 207 [.int (nI T), .int (nI (8 * i + s)), .ref (ad 30)]
        refine z_iastK hx 0 rfl (t := 30) rfl (k := (8 * i + s)) (by omega) (by first | decide | omega)  d_Mo_reserve_207 (ce1 := Lay K ad (stM (tbM (mwO S) s T Z A e) 30 ((8 * i + s)) (nI T))) (Lay_put (by decide) rfl) ?_
        refine z_aload_n hx 3 d_Mo_reserve_208 rfl ?_
        refine z_get hx k_Mo (t := 13) rfl 26 (by decide) a4_9 rfl d_Mo_reserve_209 ?_
        refine z_iload_n hx 2 d_Mo_reserve_212 rfl ?_
        refine z_iconst (v := 0) hx d_Mo_reserve_213 rfl ?_
        refine z_iastK hx 0 rfl (t := 31) rfl (k := (8 * i + s)) (by omega) (by first | decide | omega)  d_Mo_reserve_214 (ce1 := Lay K ad (stM (stM (tbM (mwO S) s T Z A e) 30 ((8 * i + s)) (nI T)) 31 ((8 * i + s)) 0)) (Lay_put (by decide) rfl) ?_
        refine z_iconst (v := 0) hx d_Mo_reserve_215 rfl ?_
        refine z_top (b := nI 0) rfl ?_
        refine z_istore hx [(5, .int (nI 0)), (4, .int (nI W)), (3, .int (nI (8 * i + s))), (0, .ref (ad 13)), (1, .int (nI i)), (2, .int (nI s))] d_Mo_reserve_216 (zN hml (by decide)) rfl ?_
        exact z_lv [0, 2, 3, 4, 5] _ rfl (Q Z 0 (by omega) h1)
      · refine z_cV hx (c_Mo_writes_torn (S := stM S 13 0 0) h1) k_Mo rfl ⟨a4_85, a4_88, a1_6, ⟨by decide +kernel, by decide +kernel⟩, fun sig h => by cases h; rfl⟩ a4_87 s_Mo_writes rfl rfl d_Mo_reserve_188 (by rw [hrm]; exact ⟨Nat.le_of_ble_eq_true rfl, Nat.le_of_ble_eq_true rfl, Nat.le_of_ble_eq_true rfl, Nat.le_of_ble_eq_true rfl⟩) ?_
        show zV x ad (Lay K ad (stM (stM (stM S 13 0 0) 13 2 0) 13 1 1)) _ _ _ 191 [.int 0]
        refine z_if_ne (tgt := 197) hx d_Mo_reserve_191 (by decide) (fun h => absurd (by decide) h) (fun _ => ?_)
        refine z_bipush (v := (-2)) hx d_Mo_reserve_194 rfl ?_
        have e9 : mRes S i s T Z A e g = ((-2), stM (stM (stM S 13 0 0) 13 2 0) 13 1 1) := by unfold mRes; (first | rw [if_pos h1] | rw [if_neg h1] | skip); (try rfl)
        exact z_iret hx hr rfl hq (Nat.le_refl _) (Nat.le_refl _) d_Mo_reserve_196 ⟨by rw [e9], rfl, by rw [e9]⟩
    | succ m_L ih_L =>
      intro a he_L
      have l_L : a < A := by omega
      have hea : e a ≤ Z := by have m9 := sE_mono (e := e) (a := a + 1) (b := A) l_L; have m8 : sE e (a + 1) = sE e a + e a := rfl; omega
      have hca := cntI_le (p := pM (mS S) i a) (k := 1000)
      refine z_iload hx 0 d_Mo_reserve_144 rfl ?_
      refine z_aload_n hx 3 d_Mo_reserve_146 rfl ?_
      refine z_get hx k_Mo (t := 13) rfl 5 (by decide) a3_228 rfl d_Mo_reserve_147 ?_
      refine z_top (b := S.2.2 13 5) (rd_j (by decide)) ?_
      refine z_top (b := nI A) hA ?_
      refine z_icmp_ge (tgt := 187) hx d_Mo_reserve_150 (by decide) (fun h => absurd h (nI_ge (by omega) (by omega))) (fun _ => ?_)
      refine z_aload_n hx 3 d_Mo_reserve_153 rfl ?_
      refine z_iload_n hx 4 d_Mo_reserve_154 rfl ?_
      refine z_iload hx 0 d_Mo_reserve_155 rfl ?_
      refine z_cV hx (c_Mo_free) k_Mo rfl ⟨a4_107, a4_110, a1_6, ⟨by decide +kernel, by decide +kernel⟩, fun sig h => by cases h; rfl⟩ a4_109 s_Mo_free rfl rfl d_Mo_reserve_157 (by rw [hrm]; exact ⟨Nat.le_of_ble_eq_true rfl, Nat.le_of_ble_eq_true rfl, Nat.le_of_ble_eq_true rfl, Nat.le_of_ble_eq_true rfl⟩) ?_
      show zV x ad (Lay K ad (stM S 13 0 0)) _ _ _ 160 [.int (nI (cntI (pM (mS S) i a) 1000))]
      refine z_aload_n hx 3 d_Mo_reserve_160 rfl ?_
      refine z_get hx k_Mo (t := 13) rfl 8 (by decide) a3_231 rfl d_Mo_reserve_161 ?_
      refine z_iload hx 0 d_Mo_reserve_164 rfl ?_
      refine z_ialdK hx 0 rfl (t := 14) rfl (k := a) (by omega) (by first | decide | omega) d_Mo_reserve_166 ?_
      refine z_top (b := S.2.2 14 a) (rd_n (by decide)) ?_
      refine z_aload_n hx 3 d_Mo_reserve_167 rfl ?_
      refine z_get hx k_Mo (t := 13) rfl 6 (by decide) a3_229 rfl d_Mo_reserve_168 ?_
      refine z_top (b := S.2.2 13 6) (rd_j (by decide)) ?_
      refine z_top (b := nI Z) hZ ?_
      refine z_iload hx 1 d_Mo_reserve_171 rfl ?_
      refine z_idiv hx d_Mo_reserve_173 (nI_ne0 (by omega) (by omega)) ?_
      refine z_imul hx d_Mo_reserve_174 ?_
      refine z_top (b := nI (e a)) (he a l_L) ?_
      refine z_icmp_ge (tgt := 181) hx d_Mo_reserve_175 (by decide) (fun _ => ?_) (fun h => absurd (nI_le (hall a l_L) (by have := cntI_le (p := pM (mS S) i a) (k := 1000); omega)) h)
      refine z_iinc (v := nI (a + 1)) hx 0 [(5, .int (nI (a + 1))), (4, .int (nI W)), (3, .int (nI (8 * i + s))), (0, .ref (ad 13)), (1, .int (nI i)), (2, .int (nI s))] d_Mo_reserve_181 rfl (nI_1 a) (zN hml (by decide)) rfl ?_
      refine z_goto (tgt := 144) hx d_Mo_reserve_184 (by decide) ?_
      exact z_lv [0, 1, 2, 3, 4, 5] _ rfl (ih_L (a + 1) (by omega))
  show zV x ad (Lay K ad S) 0 0 [(0, .ref (ad 13)), (1, .int (nI i)), (2, .int (nI s))] 0 []
  refine z_aload_n hx 0 d_Mo_reserve_0 rfl ?_
  refine z_aload_n hx 0 d_Mo_reserve_1 rfl ?_
  refine z_iload_n hx 1 d_Mo_reserve_2 rfl ?_
  refine z_cV hx (c_Mo_isSite_yes hi ho) k_Mo rfl ⟨a4_98, a4_101, a1_6, ⟨by decide +kernel, by decide +kernel⟩, fun sig h => by cases h; rfl⟩ a4_100 s_Mo_isSite rfl rfl d_Mo_reserve_3 (by rw [hrm]; exact ⟨Nat.le_of_ble_eq_true rfl, Nat.le_of_ble_eq_true rfl, Nat.le_of_ble_eq_true rfl, Nat.le_of_ble_eq_true rfl⟩) ?_
  show zV x ad (Lay K ad S) _ _ _ 6 [.int 1, .ref (ad 13)]
  refine z_if_eq (tgt := 16) hx d_Mo_reserve_6 (by decide) (fun h => absurd h (by decide)) (fun _ => ?_)
  refine z_iload_n hx 2 d_Mo_reserve_9 rfl ?_
  refine z_cS hx (c_Mo_isStratum_yes hs) ⟨a4_119, a4_121, a1_6, ⟨by decide +kernel, by decide +kernel⟩, fun sig h => by cases h; rfl⟩ a4_120 rfl rfl d_Mo_reserve_10 (by rw [hrm]; exact ⟨Nat.le_of_ble_eq_true rfl, Nat.le_of_ble_eq_true rfl, Nat.le_of_ble_eq_true rfl, Nat.le_of_ble_eq_true rfl⟩) ?_
  show zV x ad (Lay K ad S) _ _ _ 13 [.int 1, .ref (ad 13)]
  refine z_if_ne (tgt := 20) hx d_Mo_reserve_13 (by decide) (fun _ => ?_) (fun h => absurd h (by decide))
  refine z_iconst (v := 0) hx d_Mo_reserve_20 rfl ?_
  refine z_aload_n hx 0 d_Mo_reserve_21 rfl ?_
  refine z_get hx k_Mo (t := 13) rfl 5 (by decide) a3_228 rfl d_Mo_reserve_22 ?_
  refine z_if_ne (tgt := 32) hx d_Mo_reserve_25 (by decide) (fun _ => ?_) (fun h => absurd h hpl)
  refine z_iconst (v := 0) hx d_Mo_reserve_32 rfl ?_
  refine z_iconst (v := 0) hx d_Mo_reserve_33 rfl ?_
  refine z_cV hx (c_Mo_refused_0) k_Mo rfl ⟨a4_81, a4_84, a1_6, ⟨by decide +kernel, by decide +kernel⟩, fun sig h => by cases h; rfl⟩ a4_83 s_Mo_refused rfl rfl d_Mo_reserve_34 (by rw [hrm]; exact ⟨Nat.le_of_ble_eq_true rfl, Nat.le_of_ble_eq_true rfl, Nat.le_of_ble_eq_true rfl, Nat.le_of_ble_eq_true rfl⟩) ?_
  show zV x ad (Lay K ad (stM S 13 0 0)) _ _ _ 37 [.int 0]
  refine z_if_eq (tgt := 42) hx d_Mo_reserve_37 (by decide) (fun _ => ?_) (fun h => absurd (by decide) h)
  refine z_aload_n hx 0 d_Mo_reserve_42 rfl ?_
  refine z_get hx k_Mo (t := 13) rfl 1 (by decide) a3_224 rfl d_Mo_reserve_43 ?_
  refine z_top (b := S.2.2 13 1) (rd_j (by decide)) ?_
  refine z_if_ne (tgt := 66) hx d_Mo_reserve_46 (by decide) (fun h => absurd hd0 h) (fun _ => ?_)
  refine z_aload_n hx 0 d_Mo_reserve_49 rfl ?_
  refine z_get hx k_Mo (t := 13) rfl 4 (by decide) a3_227 rfl d_Mo_reserve_50 ?_
  refine z_top (b := S.2.2 13 4) (rd_j (by decide)) ?_
  refine z_if_ne (tgt := 66) hx d_Mo_reserve_53 (by decide) (fun h => absurd ho7 h) (fun _ => ?_)
  refine z_aload_n hx 0 d_Mo_reserve_56 rfl ?_
  refine z_get hx k_Mo (t := 13) rfl 16 (by decide) a3_239 rfl d_Mo_reserve_57 ?_
  refine z_iload_n hx 1 d_Mo_reserve_60 rfl ?_
  refine z_ialdK hx 0 rfl (t := 21) rfl (k := i) (by omega) (by first | decide | omega) d_Mo_reserve_61 ?_
  refine z_top (b := S.2.2 21 i) (rd_n (by decide)) ?_
  refine z_iconst (v := 2) hx d_Mo_reserve_62 rfl ?_
  refine z_icmp_ne (tgt := 93) hx d_Mo_reserve_63 (by decide) (fun _ => ?_) (fun h => absurd h hcl)
  refine z_bipush (v := 8) hx d_Mo_reserve_93 rfl ?_
  refine z_iload_n hx 1 d_Mo_reserve_95 rfl ?_
  refine z_imul hx d_Mo_reserve_96 ?_
  refine z_top (b := nI (8 * i)) (pk_mul 8 i) ?_
  refine z_iload_n hx 2 d_Mo_reserve_97 rfl ?_
  refine z_iadd hx d_Mo_reserve_98 ?_
  refine z_top (b := nI (8 * i + s)) (nI_add _ _) ?_
  refine z_istore_n hx [(3, .int (nI (8 * i + s))), (0, .ref (ad 13)), (1, .int (nI i)), (2, .int (nI s))] d_Mo_reserve_99 rfl (zN hml (by decide)) rfl ?_
  refine z_aload_n hx 1 d_Mo_reserve_100 rfl ?_
  refine z_get hx k_Mo (t := 13) rfl 25 (by decide) a4_8 rfl d_Mo_reserve_101 ?_
  refine z_iload_n hx 0 d_Mo_reserve_104 rfl ?_
  refine z_ialdK hx 0 rfl (t := 30) rfl (k := (8 * i + s)) (by omega) (by first | decide | omega) d_Mo_reserve_105 ?_
  refine z_top (b := S.2.2 30 (8 * i + s)) (rd_n (by decide)) ?_
  refine z_if_lt (tgt := 112) hx d_Mo_reserve_106 (by decide) (fun _ => ?_) (fun h => absurd hr0 h)
  refine z_aload_n hx 1 d_Mo_reserve_112 rfl ?_
  refine z_get hx k_Mo (t := 13) rfl 8 (by decide) a3_231 rfl d_Mo_reserve_113 ?_
  refine z_iconst (v := 0) hx d_Mo_reserve_116 rfl ?_
  refine z_ialdK hx 0 rfl (t := 14) rfl (k := 0) (by decide) (by first | decide | omega) d_Mo_reserve_117 ?_
  refine z_top (b := S.2.2 14 0) (rd_n (by decide)) ?_
  refine z_aload_n hx 1 d_Mo_reserve_118 rfl ?_
  refine z_get hx k_Mo (t := 13) rfl 8 (by decide) a3_231 rfl d_Mo_reserve_119 ?_
  refine z_iconst (v := 1) hx d_Mo_reserve_122 rfl ?_
  refine z_ialdK hx 0 rfl (t := 14) rfl (k := 1) (by decide) (by first | decide | omega) d_Mo_reserve_123 ?_
  refine z_top (b := S.2.2 14 1) (rd_n (by decide)) ?_
  refine z_iadd hx d_Mo_reserve_124 ?_
  refine z_aload_n hx 1 d_Mo_reserve_125 rfl ?_
  refine z_get hx k_Mo (t := 13) rfl 8 (by decide) a3_231 rfl d_Mo_reserve_126 ?_
  refine z_iconst (v := 2) hx d_Mo_reserve_129 rfl ?_
  refine z_ialdK hx 0 rfl (t := 14) rfl (k := 2) (by decide) (by first | decide | omega) d_Mo_reserve_130 ?_
  refine z_top (b := S.2.2 14 2) (rd_n (by decide)) ?_
  refine z_iadd hx d_Mo_reserve_131 ?_
  refine z_aload_n hx 1 d_Mo_reserve_132 rfl ?_
  refine z_get hx k_Mo (t := 13) rfl 8 (by decide) a3_231 rfl d_Mo_reserve_133 ?_
  refine z_iconst (v := 3) hx d_Mo_reserve_136 rfl ?_
  refine z_ialdK hx 0 rfl (t := 14) rfl (k := 3) (by decide) (by first | decide | omega) d_Mo_reserve_137 ?_
  refine z_top (b := S.2.2 14 3) (rd_n (by decide)) ?_
  refine z_iadd hx d_Mo_reserve_138 ?_
  refine z_top (b := nI W) hW ?_
  refine z_istore hx [(4, .int (nI W)), (3, .int (nI (8 * i + s))), (0, .ref (ad 13)), (1, .int (nI i)), (2, .int (nI s))] d_Mo_reserve_139 (zN hml (by decide)) rfl ?_
  refine z_iconst (v := 0) hx d_Mo_reserve_141 rfl ?_
  refine z_top (b := nI 0) rfl ?_
  refine z_istore hx [(5, .int (nI 0)), (4, .int (nI W)), (3, .int (nI (8 * i + s))), (0, .ref (ad 13)), (1, .int (nI i)), (2, .int (nI s))] d_Mo_reserve_142 (zN hml (by decide)) rfl ?_
  exact z_lv [0, 1, 2, 3, 4, 5] _ rfl (L A 0 (by omega))
theorem wiN {k l h : Nat} (h1 : l ≤ k) (h2 : k ≤ h) (h3 : h < 2 ^ 31) : wiF (nI k) (nI l) (nI h) = 1 := by
  unfold wiF
  rw [if_neg (nI_nlt h1 (by omega)), if_neg (nI_nlt h2 h3)]
theorem wi1 {v : Int32} {l h : Nat} (hl : l < 2 ^ 31) (hh : h < 2 ^ 31) (q : ¬ wiF v (nI l) (nI h) = 0) : ∃ k, l ≤ k ∧ k ≤ h ∧ v = nI k := by
  unfold wiF at q
  by_cases h1 : v < nI l
  · rw [if_pos h1] at q; exact absurd rfl q
  · rw [if_neg h1] at q
    by_cases h2 : nI h < v
    · rw [if_pos h2] at q; exact absurd rfl q
    · have h0 : ¬ v < 0 := fun z => h1 (Int32.lt_of_lt_of_le z (nI_pos' hl))
      obtain ⟨k, hk, rfl⟩ := nI_of h0
      exact ⟨k, (nI_leI hl hk).mp (Int32.not_lt.mp h1), (nI_leI hk hh).mp (Int32.not_lt.mp h2), rfl⟩
/-- what good weights are -/
def gW (a b c d : Int32) (wa wb wc wd : Nat) : Prop := a = nI wa ∧ b = nI wb ∧ c = nI wc ∧ d = nI wd ∧ 1 ≤ wa ∧ wa ≤ 3 ∧ 1 ≤ wb ∧ wb ≤ 3 ∧ wc ≤ 3 ∧ wd ≤ 3
theorem gW_of {a b c d : Int32} (h1 : ¬ wiF a 1 3 = 0) (h2 : ¬ wiF b 1 3 = 0) (h3 : ¬ wiF c 0 3 = 0) (h4 : ¬ wiF d 0 3 = 0) : ∃ wa wb wc wd, gW a b c d wa wb wc wd := by
  obtain ⟨wa, a1, a2, rfl⟩ := wi1 (l := 1) (h := 3) (by decide) (by decide) h1
  obtain ⟨wb, b1, b2, rfl⟩ := wi1 (l := 1) (h := 3) (by decide) (by decide) h2
  obtain ⟨wc, c1, c2, rfl⟩ := wi1 (l := 0) (h := 3) (by decide) (by decide) h3
  obtain ⟨wd, d1, d2, rfl⟩ := wi1 (l := 0) (h := 3) (by decide) (by decide) h4
  exact ⟨wa, wb, wc, wd, rfl, rfl, rfl, rfl, a1, a2, b1, b2, c2, d2⟩
theorem gW_sum {a b c d : Int32} {wa wb wc wd : Nat} (h : gW a b c d wa wb wc wd) : a + b + c + d = nI (wa + wb + wc + wd) := by
  obtain ⟨rfl, rfl, rfl, rfl, -⟩ := h
  rw [nI_add, nI_add, nI_add]
theorem gW_nz {a b c d : Int32} (h1 : ¬ wiF a 1 3 = 0) (h2 : ¬ wiF b 1 3 = 0) (h3 : ¬ wiF c 0 3 = 0) (h4 : ¬ wiF d 0 3 = 0) : ¬ a + b + c + d = 0 := by
  obtain ⟨wa, wb, wc, wd, h⟩ := gW_of h1 h2 h3 h4
  rw [gW_sum h]
  obtain ⟨-, -, -, -, g1, g2, g3, g4, g5, g6⟩ := h
  exact nI_ne0 (by omega) (by omega)
/-- the reference's good arms are the desk's -/
theorem arms_good {a b c d z : Int32} (h1 : ¬ wiF a 1 3 = 0) (h2 : ¬ wiF b 1 3 = 0) (h3 : ¬ wiF c 0 3 = 0) (h4 : ¬ wiF d 0 3 = 0) (hcd : ¬ c = 0 ∨ ¬ 0 < d) (h6 : ¬ wiF z 1 24 = 0) (hr : z - z / (a + b + c + d) * (a + b + c + d) = 0) : ¬ (areW a b c d = 0 ∨ isZ z (a + b + c + d) = 0) := by
  obtain ⟨wa, wb, wc, wd, h⟩ := gW_of h1 h2 h3 h4
  obtain ⟨Z, z1, z2, rfl⟩ := wi1 (l := 1) (h := 24) (by decide) (by decide) h6
  have hs := gW_sum h
  obtain ⟨rfl, rfl, rfl, rfl, g1, g2, g3, g4, g5, g6⟩ := h
  intro q
  rcases q with q | q
  · unfold areW at q
    rw [if_neg (show ¬ isW (nI wa) 1 = 0 from h1), if_neg (show ¬ isW (nI wb) 1 = 0 from h2), if_neg (show ¬ isW (nI wc) 0 = 0 from h3), if_neg (show ¬ isW (nI wd) 0 = 0 from h4)] at q
    by_cases c0 : nI wc = 0
    · rw [if_pos c0] at q
      have d0 : nI wd = 0 := by
        have := hcd.resolve_left (fun z => z c0)
        by_cases e : wd = 0
        · rw [e]; rfl
        · exact absurd ((nI_ltI (a := 0) (by omega) (by omega)).mpr (by omega)) this
      rw [if_pos d0] at q
      exact absurd q (by decide)
    · rw [if_neg c0] at q
      exact absurd q (by decide)
  · unfold isZ at q
    rw [if_neg (show ¬ nI Z < 1 from nI_nlt (b := 1) z1 (by omega)), if_neg (show ¬ 24 < nI Z from nI_nlt (a := 24) z2 (by omega)), if_neg (show ¬ nI wa + nI wb + nI wc + nI wd < 1 from by rw [hs]; exact nI_nlt (b := 1) (by omega) (by omega)), if_pos hr] at q
    exact absurd q (by decide)
def acM (c d : Int32) : Int32 := if d ≤ 0 then (if c ≤ 0 then 2 else 3) else 4
set_option maxRecDepth 20000 in
theorem c_Mo_arms_bad {l : Launch} {D : va_G} {K : Nat → ClassId} {ad : Nat → Nat} {S : zSt} {a b c d z : Int32} {w : Int64} (hb : areW a b c d = 0 ∨ isZ z (a + b + c + d) = 0) : zC l TB D zcls (ztyl K) y_Mo_arms (.code y_Mo_arms b_Mo_arms 12 (none : Option FieldType)) (rmk 1 23) [.ref (ad 13), .int a, .int b, .int c, .int d, .int z, .long w] ad (Lay K ad S) (zP K ad none (stM S 13 0 1)) := by
  refine zC.of (by decide +kernel) (Nat.le_of_ble_eq_true rfl) ?_
  intro x hx hr hml hnm hrm hq hNH
  show zV x ad (Lay K ad S) 0 0 [(0, .ref (ad 13)), (1, .int a), (2, .int b), (3, .int c), (4, .int d), (5, .int z), (6, .long w)] 0 []
  refine z_iload_n hx 1 d_Mo_arms_0 rfl ?_
  refine z_iconst (v := 1) hx d_Mo_arms_1 rfl ?_
  refine z_iconst (v := 3) hx d_Mo_arms_2 rfl ?_
  refine z_cS hx (c_Mo_within) ⟨a4_78, a4_80, a1_6, ⟨by decide +kernel, by decide +kernel⟩, fun sig h => by cases h; rfl⟩ a4_79 rfl rfl d_Mo_arms_3 (by rw [hrm]; exact ⟨Nat.le_of_ble_eq_true rfl, Nat.le_of_ble_eq_true rfl, Nat.le_of_ble_eq_true rfl, Nat.le_of_ble_eq_true rfl⟩) ?_
  show zV x ad (Lay K ad S) _ _ _ 6 [.int (wiF a 1 3)]
  refine z_if_eq (tgt := 57) hx d_Mo_arms_6 (by decide) (fun h1 => ?_) (fun h1 => ?_)
  · refine z_iconst (v := 1) hx d_Mo_arms_57 rfl ?_
    refine z_goto (tgt := 62) hx d_Mo_arms_58 (by decide) ?_
    refine z_istore hx [(8, .int 1), (0, .ref (ad 13)), (1, .int a), (2, .int b), (3, .int c), (4, .int d), (5, .int z), (6, .long w)] d_Mo_arms_62 (zN hml (by decide)) rfl ?_
    refine z_iload hx 0 d_Mo_arms_64 rfl ?_
    refine z_if_ne (tgt := 83) hx d_Mo_arms_66 (by decide) (fun _ => ?_) (fun h => absurd h (by decide))
    refine z_iconst (v := 1) hx d_Mo_arms_83 rfl ?_
    refine z_goto (tgt := 88) hx d_Mo_arms_84 (by decide) ?_
    refine z_istore hx [(8, .int 1), (0, .ref (ad 13)), (1, .int a), (2, .int b), (3, .int c), (4, .int d), (5, .int z), (6, .long w)] d_Mo_arms_88 (zN hml (by decide)) rfl ?_
    refine z_aload_n hx 1 d_Mo_arms_90 rfl ?_
    refine z_iload hx 0 d_Mo_arms_91 rfl ?_
    refine z_aload_n hx 1 d_Mo_arms_93 rfl ?_
    refine z_get hx k_Mo (t := 13) rfl 9 (by decide) a3_232 rfl d_Mo_arms_94 ?_
    refine z_if_le (tgt := 104) hx d_Mo_arms_97 (by decide) (fun h2 => ?_) (fun h2 => ?_)
    · refine z_iconst (v := 0) hx d_Mo_arms_104 rfl ?_
      refine z_iconst (v := 0) hx d_Mo_arms_105 rfl ?_
      refine z_cV hx (c_Mo_refused_1) k_Mo rfl ⟨a4_81, a4_84, a1_6, ⟨by decide +kernel, by decide +kernel⟩, fun sig h => by cases h; rfl⟩ a4_83 s_Mo_refused rfl rfl d_Mo_arms_106 (by rw [hrm]; exact ⟨Nat.le_of_ble_eq_true rfl, Nat.le_of_ble_eq_true rfl, Nat.le_of_ble_eq_true rfl, Nat.le_of_ble_eq_true rfl⟩) ?_
      show zV x ad (Lay K ad (stM S 13 0 1)) _ _ _ 109 [.int 1]
      refine z_if_ne (tgt := 126) hx d_Mo_arms_109 (by decide) (fun _ => ?_) (fun h => absurd h (by decide))
      exact z_vret hx hr hq (Nat.le_refl _) (Nat.le_refl _) d_Mo_arms_126 ⟨rfl, rfl, rfl⟩
    · refine z_iconst (v := 1) hx d_Mo_arms_100 rfl ?_
      refine z_goto (tgt := 105) hx d_Mo_arms_101 (by decide) ?_
      refine z_iconst (v := 0) hx d_Mo_arms_105 rfl ?_
      refine z_cV hx (c_Mo_refused_1) k_Mo rfl ⟨a4_81, a4_84, a1_6, ⟨by decide +kernel, by decide +kernel⟩, fun sig h => by cases h; rfl⟩ a4_83 s_Mo_refused rfl rfl d_Mo_arms_106 (by rw [hrm]; exact ⟨Nat.le_of_ble_eq_true rfl, Nat.le_of_ble_eq_true rfl, Nat.le_of_ble_eq_true rfl, Nat.le_of_ble_eq_true rfl⟩) ?_
      show zV x ad (Lay K ad (stM S 13 0 1)) _ _ _ 109 [.int 1]
      refine z_if_ne (tgt := 126) hx d_Mo_arms_109 (by decide) (fun _ => ?_) (fun h => absurd h (by decide))
      exact z_vret hx hr hq (Nat.le_refl _) (Nat.le_refl _) d_Mo_arms_126 ⟨rfl, rfl, rfl⟩
  · refine z_iload_n hx 2 d_Mo_arms_9 rfl ?_
    refine z_iconst (v := 1) hx d_Mo_arms_10 rfl ?_
    refine z_iconst (v := 3) hx d_Mo_arms_11 rfl ?_
    refine z_cS hx (c_Mo_within) ⟨a4_78, a4_80, a1_6, ⟨by decide +kernel, by decide +kernel⟩, fun sig h => by cases h; rfl⟩ a4_79 rfl rfl d_Mo_arms_12 (by rw [hrm]; exact ⟨Nat.le_of_ble_eq_true rfl, Nat.le_of_ble_eq_true rfl, Nat.le_of_ble_eq_true rfl, Nat.le_of_ble_eq_true rfl⟩) ?_
    show zV x ad (Lay K ad S) _ _ _ 15 [.int (wiF b 1 3)]
    refine z_if_eq (tgt := 57) hx d_Mo_arms_15 (by decide) (fun h3 => ?_) (fun h3 => ?_)
    · refine z_iconst (v := 1) hx d_Mo_arms_57 rfl ?_
      refine z_goto (tgt := 62) hx d_Mo_arms_58 (by decide) ?_
      refine z_istore hx [(8, .int 1), (0, .ref (ad 13)), (1, .int a), (2, .int b), (3, .int c), (4, .int d), (5, .int z), (6, .long w)] d_Mo_arms_62 (zN hml (by decide)) rfl ?_
      refine z_iload hx 0 d_Mo_arms_64 rfl ?_
      refine z_if_ne (tgt := 83) hx d_Mo_arms_66 (by decide) (fun _ => ?_) (fun h => absurd h (by decide))
      refine z_iconst (v := 1) hx d_Mo_arms_83 rfl ?_
      refine z_goto (tgt := 88) hx d_Mo_arms_84 (by decide) ?_
      refine z_istore hx [(8, .int 1), (0, .ref (ad 13)), (1, .int a), (2, .int b), (3, .int c), (4, .int d), (5, .int z), (6, .long w)] d_Mo_arms_88 (zN hml (by decide)) rfl ?_
      refine z_aload_n hx 1 d_Mo_arms_90 rfl ?_
      refine z_iload hx 0 d_Mo_arms_91 rfl ?_
      refine z_aload_n hx 1 d_Mo_arms_93 rfl ?_
      refine z_get hx k_Mo (t := 13) rfl 9 (by decide) a3_232 rfl d_Mo_arms_94 ?_
      refine z_if_le (tgt := 104) hx d_Mo_arms_97 (by decide) (fun h4 => ?_) (fun h4 => ?_)
      · refine z_iconst (v := 0) hx d_Mo_arms_104 rfl ?_
        refine z_iconst (v := 0) hx d_Mo_arms_105 rfl ?_
        refine z_cV hx (c_Mo_refused_1) k_Mo rfl ⟨a4_81, a4_84, a1_6, ⟨by decide +kernel, by decide +kernel⟩, fun sig h => by cases h; rfl⟩ a4_83 s_Mo_refused rfl rfl d_Mo_arms_106 (by rw [hrm]; exact ⟨Nat.le_of_ble_eq_true rfl, Nat.le_of_ble_eq_true rfl, Nat.le_of_ble_eq_true rfl, Nat.le_of_ble_eq_true rfl⟩) ?_
        show zV x ad (Lay K ad (stM S 13 0 1)) _ _ _ 109 [.int 1]
        refine z_if_ne (tgt := 126) hx d_Mo_arms_109 (by decide) (fun _ => ?_) (fun h => absurd h (by decide))
        exact z_vret hx hr hq (Nat.le_refl _) (Nat.le_refl _) d_Mo_arms_126 ⟨rfl, rfl, rfl⟩
      · refine z_iconst (v := 1) hx d_Mo_arms_100 rfl ?_
        refine z_goto (tgt := 105) hx d_Mo_arms_101 (by decide) ?_
        refine z_iconst (v := 0) hx d_Mo_arms_105 rfl ?_
        refine z_cV hx (c_Mo_refused_1) k_Mo rfl ⟨a4_81, a4_84, a1_6, ⟨by decide +kernel, by decide +kernel⟩, fun sig h => by cases h; rfl⟩ a4_83 s_Mo_refused rfl rfl d_Mo_arms_106 (by rw [hrm]; exact ⟨Nat.le_of_ble_eq_true rfl, Nat.le_of_ble_eq_true rfl, Nat.le_of_ble_eq_true rfl, Nat.le_of_ble_eq_true rfl⟩) ?_
        show zV x ad (Lay K ad (stM S 13 0 1)) _ _ _ 109 [.int 1]
        refine z_if_ne (tgt := 126) hx d_Mo_arms_109 (by decide) (fun _ => ?_) (fun h => absurd h (by decide))
        exact z_vret hx hr hq (Nat.le_refl _) (Nat.le_refl _) d_Mo_arms_126 ⟨rfl, rfl, rfl⟩
    · refine z_iload_n hx 3 d_Mo_arms_18 rfl ?_
      refine z_iconst (v := 0) hx d_Mo_arms_19 rfl ?_
      refine z_iconst (v := 3) hx d_Mo_arms_20 rfl ?_
      refine z_cS hx (c_Mo_within) ⟨a4_78, a4_80, a1_6, ⟨by decide +kernel, by decide +kernel⟩, fun sig h => by cases h; rfl⟩ a4_79 rfl rfl d_Mo_arms_21 (by rw [hrm]; exact ⟨Nat.le_of_ble_eq_true rfl, Nat.le_of_ble_eq_true rfl, Nat.le_of_ble_eq_true rfl, Nat.le_of_ble_eq_true rfl⟩) ?_
      show zV x ad (Lay K ad S) _ _ _ 24 [.int (wiF c 0 3)]
      refine z_if_eq (tgt := 57) hx d_Mo_arms_24 (by decide) (fun h5 => ?_) (fun h5 => ?_)
      · refine z_iconst (v := 1) hx d_Mo_arms_57 rfl ?_
        refine z_goto (tgt := 62) hx d_Mo_arms_58 (by decide) ?_
        refine z_istore hx [(8, .int 1), (0, .ref (ad 13)), (1, .int a), (2, .int b), (3, .int c), (4, .int d), (5, .int z), (6, .long w)] d_Mo_arms_62 (zN hml (by decide)) rfl ?_
        refine z_iload hx 0 d_Mo_arms_64 rfl ?_
        refine z_if_ne (tgt := 83) hx d_Mo_arms_66 (by decide) (fun _ => ?_) (fun h => absurd h (by decide))
        refine z_iconst (v := 1) hx d_Mo_arms_83 rfl ?_
        refine z_goto (tgt := 88) hx d_Mo_arms_84 (by decide) ?_
        refine z_istore hx [(8, .int 1), (0, .ref (ad 13)), (1, .int a), (2, .int b), (3, .int c), (4, .int d), (5, .int z), (6, .long w)] d_Mo_arms_88 (zN hml (by decide)) rfl ?_
        refine z_aload_n hx 1 d_Mo_arms_90 rfl ?_
        refine z_iload hx 0 d_Mo_arms_91 rfl ?_
        refine z_aload_n hx 1 d_Mo_arms_93 rfl ?_
        refine z_get hx k_Mo (t := 13) rfl 9 (by decide) a3_232 rfl d_Mo_arms_94 ?_
        refine z_if_le (tgt := 104) hx d_Mo_arms_97 (by decide) (fun h6 => ?_) (fun h6 => ?_)
        · refine z_iconst (v := 0) hx d_Mo_arms_104 rfl ?_
          refine z_iconst (v := 0) hx d_Mo_arms_105 rfl ?_
          refine z_cV hx (c_Mo_refused_1) k_Mo rfl ⟨a4_81, a4_84, a1_6, ⟨by decide +kernel, by decide +kernel⟩, fun sig h => by cases h; rfl⟩ a4_83 s_Mo_refused rfl rfl d_Mo_arms_106 (by rw [hrm]; exact ⟨Nat.le_of_ble_eq_true rfl, Nat.le_of_ble_eq_true rfl, Nat.le_of_ble_eq_true rfl, Nat.le_of_ble_eq_true rfl⟩) ?_
          show zV x ad (Lay K ad (stM S 13 0 1)) _ _ _ 109 [.int 1]
          refine z_if_ne (tgt := 126) hx d_Mo_arms_109 (by decide) (fun _ => ?_) (fun h => absurd h (by decide))
          exact z_vret hx hr hq (Nat.le_refl _) (Nat.le_refl _) d_Mo_arms_126 ⟨rfl, rfl, rfl⟩
        · refine z_iconst (v := 1) hx d_Mo_arms_100 rfl ?_
          refine z_goto (tgt := 105) hx d_Mo_arms_101 (by decide) ?_
          refine z_iconst (v := 0) hx d_Mo_arms_105 rfl ?_
          refine z_cV hx (c_Mo_refused_1) k_Mo rfl ⟨a4_81, a4_84, a1_6, ⟨by decide +kernel, by decide +kernel⟩, fun sig h => by cases h; rfl⟩ a4_83 s_Mo_refused rfl rfl d_Mo_arms_106 (by rw [hrm]; exact ⟨Nat.le_of_ble_eq_true rfl, Nat.le_of_ble_eq_true rfl, Nat.le_of_ble_eq_true rfl, Nat.le_of_ble_eq_true rfl⟩) ?_
          show zV x ad (Lay K ad (stM S 13 0 1)) _ _ _ 109 [.int 1]
          refine z_if_ne (tgt := 126) hx d_Mo_arms_109 (by decide) (fun _ => ?_) (fun h => absurd h (by decide))
          exact z_vret hx hr hq (Nat.le_refl _) (Nat.le_refl _) d_Mo_arms_126 ⟨rfl, rfl, rfl⟩
      · refine z_iload hx 4 d_Mo_arms_27 rfl ?_
        refine z_iconst (v := 0) hx d_Mo_arms_29 rfl ?_
        refine z_iconst (v := 3) hx d_Mo_arms_30 rfl ?_
        refine z_cS hx (c_Mo_within) ⟨a4_78, a4_80, a1_6, ⟨by decide +kernel, by decide +kernel⟩, fun sig h => by cases h; rfl⟩ a4_79 rfl rfl d_Mo_arms_31 (by rw [hrm]; exact ⟨Nat.le_of_ble_eq_true rfl, Nat.le_of_ble_eq_true rfl, Nat.le_of_ble_eq_true rfl, Nat.le_of_ble_eq_true rfl⟩) ?_
        show zV x ad (Lay K ad S) _ _ _ 34 [.int (wiF d 0 3)]
        refine z_if_eq (tgt := 57) hx d_Mo_arms_34 (by decide) (fun h7 => ?_) (fun h7 => ?_)
        · refine z_iconst (v := 1) hx d_Mo_arms_57 rfl ?_
          refine z_goto (tgt := 62) hx d_Mo_arms_58 (by decide) ?_
          refine z_istore hx [(8, .int 1), (0, .ref (ad 13)), (1, .int a), (2, .int b), (3, .int c), (4, .int d), (5, .int z), (6, .long w)] d_Mo_arms_62 (zN hml (by decide)) rfl ?_
          refine z_iload hx 0 d_Mo_arms_64 rfl ?_
          refine z_if_ne (tgt := 83) hx d_Mo_arms_66 (by decide) (fun _ => ?_) (fun h => absurd h (by decide))
          refine z_iconst (v := 1) hx d_Mo_arms_83 rfl ?_
          refine z_goto (tgt := 88) hx d_Mo_arms_84 (by decide) ?_
          refine z_istore hx [(8, .int 1), (0, .ref (ad 13)), (1, .int a), (2, .int b), (3, .int c), (4, .int d), (5, .int z), (6, .long w)] d_Mo_arms_88 (zN hml (by decide)) rfl ?_
          refine z_aload_n hx 1 d_Mo_arms_90 rfl ?_
          refine z_iload hx 0 d_Mo_arms_91 rfl ?_
          refine z_aload_n hx 1 d_Mo_arms_93 rfl ?_
          refine z_get hx k_Mo (t := 13) rfl 9 (by decide) a3_232 rfl d_Mo_arms_94 ?_
          refine z_if_le (tgt := 104) hx d_Mo_arms_97 (by decide) (fun h8 => ?_) (fun h8 => ?_)
          · refine z_iconst (v := 0) hx d_Mo_arms_104 rfl ?_
            refine z_iconst (v := 0) hx d_Mo_arms_105 rfl ?_
            refine z_cV hx (c_Mo_refused_1) k_Mo rfl ⟨a4_81, a4_84, a1_6, ⟨by decide +kernel, by decide +kernel⟩, fun sig h => by cases h; rfl⟩ a4_83 s_Mo_refused rfl rfl d_Mo_arms_106 (by rw [hrm]; exact ⟨Nat.le_of_ble_eq_true rfl, Nat.le_of_ble_eq_true rfl, Nat.le_of_ble_eq_true rfl, Nat.le_of_ble_eq_true rfl⟩) ?_
            show zV x ad (Lay K ad (stM S 13 0 1)) _ _ _ 109 [.int 1]
            refine z_if_ne (tgt := 126) hx d_Mo_arms_109 (by decide) (fun _ => ?_) (fun h => absurd h (by decide))
            exact z_vret hx hr hq (Nat.le_refl _) (Nat.le_refl _) d_Mo_arms_126 ⟨rfl, rfl, rfl⟩
          · refine z_iconst (v := 1) hx d_Mo_arms_100 rfl ?_
            refine z_goto (tgt := 105) hx d_Mo_arms_101 (by decide) ?_
            refine z_iconst (v := 0) hx d_Mo_arms_105 rfl ?_
            refine z_cV hx (c_Mo_refused_1) k_Mo rfl ⟨a4_81, a4_84, a1_6, ⟨by decide +kernel, by decide +kernel⟩, fun sig h => by cases h; rfl⟩ a4_83 s_Mo_refused rfl rfl d_Mo_arms_106 (by rw [hrm]; exact ⟨Nat.le_of_ble_eq_true rfl, Nat.le_of_ble_eq_true rfl, Nat.le_of_ble_eq_true rfl, Nat.le_of_ble_eq_true rfl⟩) ?_
            show zV x ad (Lay K ad (stM S 13 0 1)) _ _ _ 109 [.int 1]
            refine z_if_ne (tgt := 126) hx d_Mo_arms_109 (by decide) (fun _ => ?_) (fun h => absurd h (by decide))
            exact z_vret hx hr hq (Nat.le_refl _) (Nat.le_refl _) d_Mo_arms_126 ⟨rfl, rfl, rfl⟩
        · refine z_iload_n hx 3 d_Mo_arms_37 rfl ?_
          refine z_if_ne (tgt := 46) hx d_Mo_arms_38 (by decide) (fun h9 => ?_) (fun h9 => ?_)
          · refine z_iload hx 5 d_Mo_arms_46 rfl ?_
            refine z_iconst (v := 1) hx d_Mo_arms_48 rfl ?_
            refine z_bipush (v := 24) hx d_Mo_arms_49 rfl ?_
            refine z_cS hx (c_Mo_within) ⟨a4_78, a4_80, a1_6, ⟨by decide +kernel, by decide +kernel⟩, fun sig h => by cases h; rfl⟩ a4_79 rfl rfl d_Mo_arms_51 (by rw [hrm]; exact ⟨Nat.le_of_ble_eq_true rfl, Nat.le_of_ble_eq_true rfl, Nat.le_of_ble_eq_true rfl, Nat.le_of_ble_eq_true rfl⟩) ?_
            show zV x ad (Lay K ad S) _ _ _ 54 [.int (wiF z 1 24)]
            refine z_if_ne (tgt := 61) hx d_Mo_arms_54 (by decide) (fun h10 => ?_) (fun h10 => ?_)
            · refine z_iconst (v := 0) hx d_Mo_arms_61 rfl ?_
              refine z_istore hx [(8, .int 0), (0, .ref (ad 13)), (1, .int a), (2, .int b), (3, .int c), (4, .int d), (5, .int z), (6, .long w)] d_Mo_arms_62 (zN hml (by decide)) rfl ?_
              refine z_iload hx 0 d_Mo_arms_64 rfl ?_
              refine z_if_ne (tgt := 83) hx d_Mo_arms_66 (by decide) (fun h => absurd (by decide) h) (fun _ => ?_)
              refine z_iload hx 6 d_Mo_arms_69 rfl ?_
              refine z_iload_n hx 2 d_Mo_arms_71 rfl ?_
              refine z_iload_n hx 3 d_Mo_arms_72 rfl ?_
              refine z_iadd hx d_Mo_arms_73 ?_
              refine z_iload_n hx 4 d_Mo_arms_74 rfl ?_
              refine z_iadd hx d_Mo_arms_75 ?_
              refine z_iload hx 5 d_Mo_arms_76 rfl ?_
              refine z_iadd hx d_Mo_arms_78 ?_
              refine z_irem hx d_Mo_arms_79 (gW_nz h1 h3 h5 h7) ?_
              refine z_if_eq (tgt := 87) hx d_Mo_arms_80 (by decide) (fun h11 => ?_) (fun h11 => ?_)
              · refine z_iconst (v := 0) hx d_Mo_arms_87 rfl ?_
                refine z_istore hx [(8, .int 0), (0, .ref (ad 13)), (1, .int a), (2, .int b), (3, .int c), (4, .int d), (5, .int z), (6, .long w)] d_Mo_arms_88 (zN hml (by decide)) rfl ?_
                refine z_aload_n hx 1 d_Mo_arms_90 rfl ?_
                refine z_iload hx 0 d_Mo_arms_91 rfl ?_
                refine z_aload_n hx 1 d_Mo_arms_93 rfl ?_
                refine z_get hx k_Mo (t := 13) rfl 9 (by decide) a3_232 rfl d_Mo_arms_94 ?_
                refine z_if_le (tgt := 104) hx d_Mo_arms_97 (by decide) (fun h12 => ?_) (fun h12 => ?_)
                · refine z_iconst (v := 0) hx d_Mo_arms_104 rfl ?_
                  refine z_iconst (v := 0) hx d_Mo_arms_105 rfl ?_
                  exact absurd hb (arms_good h1 h3 h5 h7 (Or.inl h9) h10 h11)
                · refine z_iconst (v := 1) hx d_Mo_arms_100 rfl ?_
                  refine z_goto (tgt := 105) hx d_Mo_arms_101 (by decide) ?_
                  refine z_iconst (v := 0) hx d_Mo_arms_105 rfl ?_
                  exact absurd hb (arms_good h1 h3 h5 h7 (Or.inl h9) h10 h11)
              · refine z_iconst (v := 1) hx d_Mo_arms_83 rfl ?_
                refine z_goto (tgt := 88) hx d_Mo_arms_84 (by decide) ?_
                refine z_istore hx [(8, .int 1), (0, .ref (ad 13)), (1, .int a), (2, .int b), (3, .int c), (4, .int d), (5, .int z), (6, .long w)] d_Mo_arms_88 (zN hml (by decide)) rfl ?_
                refine z_aload_n hx 1 d_Mo_arms_90 rfl ?_
                refine z_iload hx 0 d_Mo_arms_91 rfl ?_
                refine z_aload_n hx 1 d_Mo_arms_93 rfl ?_
                refine z_get hx k_Mo (t := 13) rfl 9 (by decide) a3_232 rfl d_Mo_arms_94 ?_
                refine z_if_le (tgt := 104) hx d_Mo_arms_97 (by decide) (fun h13 => ?_) (fun h13 => ?_)
                · refine z_iconst (v := 0) hx d_Mo_arms_104 rfl ?_
                  refine z_iconst (v := 0) hx d_Mo_arms_105 rfl ?_
                  refine z_cV hx (c_Mo_refused_1) k_Mo rfl ⟨a4_81, a4_84, a1_6, ⟨by decide +kernel, by decide +kernel⟩, fun sig h => by cases h; rfl⟩ a4_83 s_Mo_refused rfl rfl d_Mo_arms_106 (by rw [hrm]; exact ⟨Nat.le_of_ble_eq_true rfl, Nat.le_of_ble_eq_true rfl, Nat.le_of_ble_eq_true rfl, Nat.le_of_ble_eq_true rfl⟩) ?_
                  show zV x ad (Lay K ad (stM S 13 0 1)) _ _ _ 109 [.int 1]
                  refine z_if_ne (tgt := 126) hx d_Mo_arms_109 (by decide) (fun _ => ?_) (fun h => absurd h (by decide))
                  exact z_vret hx hr hq (Nat.le_refl _) (Nat.le_refl _) d_Mo_arms_126 ⟨rfl, rfl, rfl⟩
                · refine z_iconst (v := 1) hx d_Mo_arms_100 rfl ?_
                  refine z_goto (tgt := 105) hx d_Mo_arms_101 (by decide) ?_
                  refine z_iconst (v := 0) hx d_Mo_arms_105 rfl ?_
                  refine z_cV hx (c_Mo_refused_1) k_Mo rfl ⟨a4_81, a4_84, a1_6, ⟨by decide +kernel, by decide +kernel⟩, fun sig h => by cases h; rfl⟩ a4_83 s_Mo_refused rfl rfl d_Mo_arms_106 (by rw [hrm]; exact ⟨Nat.le_of_ble_eq_true rfl, Nat.le_of_ble_eq_true rfl, Nat.le_of_ble_eq_true rfl, Nat.le_of_ble_eq_true rfl⟩) ?_
                  show zV x ad (Lay K ad (stM S 13 0 1)) _ _ _ 109 [.int 1]
                  refine z_if_ne (tgt := 126) hx d_Mo_arms_109 (by decide) (fun _ => ?_) (fun h => absurd h (by decide))
                  exact z_vret hx hr hq (Nat.le_refl _) (Nat.le_refl _) d_Mo_arms_126 ⟨rfl, rfl, rfl⟩
            · refine z_iconst (v := 1) hx d_Mo_arms_57 rfl ?_
              refine z_goto (tgt := 62) hx d_Mo_arms_58 (by decide) ?_
              refine z_istore hx [(8, .int 1), (0, .ref (ad 13)), (1, .int a), (2, .int b), (3, .int c), (4, .int d), (5, .int z), (6, .long w)] d_Mo_arms_62 (zN hml (by decide)) rfl ?_
              refine z_iload hx 0 d_Mo_arms_64 rfl ?_
              refine z_if_ne (tgt := 83) hx d_Mo_arms_66 (by decide) (fun _ => ?_) (fun h => absurd h (by decide))
              refine z_iconst (v := 1) hx d_Mo_arms_83 rfl ?_
              refine z_goto (tgt := 88) hx d_Mo_arms_84 (by decide) ?_
              refine z_istore hx [(8, .int 1), (0, .ref (ad 13)), (1, .int a), (2, .int b), (3, .int c), (4, .int d), (5, .int z), (6, .long w)] d_Mo_arms_88 (zN hml (by decide)) rfl ?_
              refine z_aload_n hx 1 d_Mo_arms_90 rfl ?_
              refine z_iload hx 0 d_Mo_arms_91 rfl ?_
              refine z_aload_n hx 1 d_Mo_arms_93 rfl ?_
              refine z_get hx k_Mo (t := 13) rfl 9 (by decide) a3_232 rfl d_Mo_arms_94 ?_
              refine z_if_le (tgt := 104) hx d_Mo_arms_97 (by decide) (fun h14 => ?_) (fun h14 => ?_)
              · refine z_iconst (v := 0) hx d_Mo_arms_104 rfl ?_
                refine z_iconst (v := 0) hx d_Mo_arms_105 rfl ?_
                refine z_cV hx (c_Mo_refused_1) k_Mo rfl ⟨a4_81, a4_84, a1_6, ⟨by decide +kernel, by decide +kernel⟩, fun sig h => by cases h; rfl⟩ a4_83 s_Mo_refused rfl rfl d_Mo_arms_106 (by rw [hrm]; exact ⟨Nat.le_of_ble_eq_true rfl, Nat.le_of_ble_eq_true rfl, Nat.le_of_ble_eq_true rfl, Nat.le_of_ble_eq_true rfl⟩) ?_
                show zV x ad (Lay K ad (stM S 13 0 1)) _ _ _ 109 [.int 1]
                refine z_if_ne (tgt := 126) hx d_Mo_arms_109 (by decide) (fun _ => ?_) (fun h => absurd h (by decide))
                exact z_vret hx hr hq (Nat.le_refl _) (Nat.le_refl _) d_Mo_arms_126 ⟨rfl, rfl, rfl⟩
              · refine z_iconst (v := 1) hx d_Mo_arms_100 rfl ?_
                refine z_goto (tgt := 105) hx d_Mo_arms_101 (by decide) ?_
                refine z_iconst (v := 0) hx d_Mo_arms_105 rfl ?_
                refine z_cV hx (c_Mo_refused_1) k_Mo rfl ⟨a4_81, a4_84, a1_6, ⟨by decide +kernel, by decide +kernel⟩, fun sig h => by cases h; rfl⟩ a4_83 s_Mo_refused rfl rfl d_Mo_arms_106 (by rw [hrm]; exact ⟨Nat.le_of_ble_eq_true rfl, Nat.le_of_ble_eq_true rfl, Nat.le_of_ble_eq_true rfl, Nat.le_of_ble_eq_true rfl⟩) ?_
                show zV x ad (Lay K ad (stM S 13 0 1)) _ _ _ 109 [.int 1]
                refine z_if_ne (tgt := 126) hx d_Mo_arms_109 (by decide) (fun _ => ?_) (fun h => absurd h (by decide))
                exact z_vret hx hr hq (Nat.le_refl _) (Nat.le_refl _) d_Mo_arms_126 ⟨rfl, rfl, rfl⟩
          · refine z_iload hx 4 d_Mo_arms_41 rfl ?_
            refine z_if_gt (tgt := 57) hx d_Mo_arms_43 (by decide) (fun h15 => ?_) (fun h15 => ?_)
            · refine z_iconst (v := 1) hx d_Mo_arms_57 rfl ?_
              refine z_goto (tgt := 62) hx d_Mo_arms_58 (by decide) ?_
              refine z_istore hx [(8, .int 1), (0, .ref (ad 13)), (1, .int a), (2, .int b), (3, .int c), (4, .int d), (5, .int z), (6, .long w)] d_Mo_arms_62 (zN hml (by decide)) rfl ?_
              refine z_iload hx 0 d_Mo_arms_64 rfl ?_
              refine z_if_ne (tgt := 83) hx d_Mo_arms_66 (by decide) (fun _ => ?_) (fun h => absurd h (by decide))
              refine z_iconst (v := 1) hx d_Mo_arms_83 rfl ?_
              refine z_goto (tgt := 88) hx d_Mo_arms_84 (by decide) ?_
              refine z_istore hx [(8, .int 1), (0, .ref (ad 13)), (1, .int a), (2, .int b), (3, .int c), (4, .int d), (5, .int z), (6, .long w)] d_Mo_arms_88 (zN hml (by decide)) rfl ?_
              refine z_aload_n hx 1 d_Mo_arms_90 rfl ?_
              refine z_iload hx 0 d_Mo_arms_91 rfl ?_
              refine z_aload_n hx 1 d_Mo_arms_93 rfl ?_
              refine z_get hx k_Mo (t := 13) rfl 9 (by decide) a3_232 rfl d_Mo_arms_94 ?_
              refine z_if_le (tgt := 104) hx d_Mo_arms_97 (by decide) (fun h16 => ?_) (fun h16 => ?_)
              · refine z_iconst (v := 0) hx d_Mo_arms_104 rfl ?_
                refine z_iconst (v := 0) hx d_Mo_arms_105 rfl ?_
                refine z_cV hx (c_Mo_refused_1) k_Mo rfl ⟨a4_81, a4_84, a1_6, ⟨by decide +kernel, by decide +kernel⟩, fun sig h => by cases h; rfl⟩ a4_83 s_Mo_refused rfl rfl d_Mo_arms_106 (by rw [hrm]; exact ⟨Nat.le_of_ble_eq_true rfl, Nat.le_of_ble_eq_true rfl, Nat.le_of_ble_eq_true rfl, Nat.le_of_ble_eq_true rfl⟩) ?_
                show zV x ad (Lay K ad (stM S 13 0 1)) _ _ _ 109 [.int 1]
                refine z_if_ne (tgt := 126) hx d_Mo_arms_109 (by decide) (fun _ => ?_) (fun h => absurd h (by decide))
                exact z_vret hx hr hq (Nat.le_refl _) (Nat.le_refl _) d_Mo_arms_126 ⟨rfl, rfl, rfl⟩
              · refine z_iconst (v := 1) hx d_Mo_arms_100 rfl ?_
                refine z_goto (tgt := 105) hx d_Mo_arms_101 (by decide) ?_
                refine z_iconst (v := 0) hx d_Mo_arms_105 rfl ?_
                refine z_cV hx (c_Mo_refused_1) k_Mo rfl ⟨a4_81, a4_84, a1_6, ⟨by decide +kernel, by decide +kernel⟩, fun sig h => by cases h; rfl⟩ a4_83 s_Mo_refused rfl rfl d_Mo_arms_106 (by rw [hrm]; exact ⟨Nat.le_of_ble_eq_true rfl, Nat.le_of_ble_eq_true rfl, Nat.le_of_ble_eq_true rfl, Nat.le_of_ble_eq_true rfl⟩) ?_
                show zV x ad (Lay K ad (stM S 13 0 1)) _ _ _ 109 [.int 1]
                refine z_if_ne (tgt := 126) hx d_Mo_arms_109 (by decide) (fun _ => ?_) (fun h => absurd h (by decide))
                exact z_vret hx hr hq (Nat.le_refl _) (Nat.le_refl _) d_Mo_arms_126 ⟨rfl, rfl, rfl⟩
            · refine z_iload hx 5 d_Mo_arms_46 rfl ?_
              refine z_iconst (v := 1) hx d_Mo_arms_48 rfl ?_
              refine z_bipush (v := 24) hx d_Mo_arms_49 rfl ?_
              refine z_cS hx (c_Mo_within) ⟨a4_78, a4_80, a1_6, ⟨by decide +kernel, by decide +kernel⟩, fun sig h => by cases h; rfl⟩ a4_79 rfl rfl d_Mo_arms_51 (by rw [hrm]; exact ⟨Nat.le_of_ble_eq_true rfl, Nat.le_of_ble_eq_true rfl, Nat.le_of_ble_eq_true rfl, Nat.le_of_ble_eq_true rfl⟩) ?_
              show zV x ad (Lay K ad S) _ _ _ 54 [.int (wiF z 1 24)]
              refine z_if_ne (tgt := 61) hx d_Mo_arms_54 (by decide) (fun h17 => ?_) (fun h17 => ?_)
              · refine z_iconst (v := 0) hx d_Mo_arms_61 rfl ?_
                refine z_istore hx [(8, .int 0), (0, .ref (ad 13)), (1, .int a), (2, .int b), (3, .int c), (4, .int d), (5, .int z), (6, .long w)] d_Mo_arms_62 (zN hml (by decide)) rfl ?_
                refine z_iload hx 0 d_Mo_arms_64 rfl ?_
                refine z_if_ne (tgt := 83) hx d_Mo_arms_66 (by decide) (fun h => absurd (by decide) h) (fun _ => ?_)
                refine z_iload hx 6 d_Mo_arms_69 rfl ?_
                refine z_iload_n hx 2 d_Mo_arms_71 rfl ?_
                refine z_iload_n hx 3 d_Mo_arms_72 rfl ?_
                refine z_iadd hx d_Mo_arms_73 ?_
                refine z_iload_n hx 4 d_Mo_arms_74 rfl ?_
                refine z_iadd hx d_Mo_arms_75 ?_
                refine z_iload hx 5 d_Mo_arms_76 rfl ?_
                refine z_iadd hx d_Mo_arms_78 ?_
                refine z_irem hx d_Mo_arms_79 (gW_nz h1 h3 h5 h7) ?_
                refine z_if_eq (tgt := 87) hx d_Mo_arms_80 (by decide) (fun h18 => ?_) (fun h18 => ?_)
                · refine z_iconst (v := 0) hx d_Mo_arms_87 rfl ?_
                  refine z_istore hx [(8, .int 0), (0, .ref (ad 13)), (1, .int a), (2, .int b), (3, .int c), (4, .int d), (5, .int z), (6, .long w)] d_Mo_arms_88 (zN hml (by decide)) rfl ?_
                  refine z_aload_n hx 1 d_Mo_arms_90 rfl ?_
                  refine z_iload hx 0 d_Mo_arms_91 rfl ?_
                  refine z_aload_n hx 1 d_Mo_arms_93 rfl ?_
                  refine z_get hx k_Mo (t := 13) rfl 9 (by decide) a3_232 rfl d_Mo_arms_94 ?_
                  refine z_if_le (tgt := 104) hx d_Mo_arms_97 (by decide) (fun h19 => ?_) (fun h19 => ?_)
                  · refine z_iconst (v := 0) hx d_Mo_arms_104 rfl ?_
                    refine z_iconst (v := 0) hx d_Mo_arms_105 rfl ?_
                    exact absurd hb (arms_good h1 h3 h5 h7 (Or.inr h15) h17 h18)
                  · refine z_iconst (v := 1) hx d_Mo_arms_100 rfl ?_
                    refine z_goto (tgt := 105) hx d_Mo_arms_101 (by decide) ?_
                    refine z_iconst (v := 0) hx d_Mo_arms_105 rfl ?_
                    exact absurd hb (arms_good h1 h3 h5 h7 (Or.inr h15) h17 h18)
                · refine z_iconst (v := 1) hx d_Mo_arms_83 rfl ?_
                  refine z_goto (tgt := 88) hx d_Mo_arms_84 (by decide) ?_
                  refine z_istore hx [(8, .int 1), (0, .ref (ad 13)), (1, .int a), (2, .int b), (3, .int c), (4, .int d), (5, .int z), (6, .long w)] d_Mo_arms_88 (zN hml (by decide)) rfl ?_
                  refine z_aload_n hx 1 d_Mo_arms_90 rfl ?_
                  refine z_iload hx 0 d_Mo_arms_91 rfl ?_
                  refine z_aload_n hx 1 d_Mo_arms_93 rfl ?_
                  refine z_get hx k_Mo (t := 13) rfl 9 (by decide) a3_232 rfl d_Mo_arms_94 ?_
                  refine z_if_le (tgt := 104) hx d_Mo_arms_97 (by decide) (fun h20 => ?_) (fun h20 => ?_)
                  · refine z_iconst (v := 0) hx d_Mo_arms_104 rfl ?_
                    refine z_iconst (v := 0) hx d_Mo_arms_105 rfl ?_
                    refine z_cV hx (c_Mo_refused_1) k_Mo rfl ⟨a4_81, a4_84, a1_6, ⟨by decide +kernel, by decide +kernel⟩, fun sig h => by cases h; rfl⟩ a4_83 s_Mo_refused rfl rfl d_Mo_arms_106 (by rw [hrm]; exact ⟨Nat.le_of_ble_eq_true rfl, Nat.le_of_ble_eq_true rfl, Nat.le_of_ble_eq_true rfl, Nat.le_of_ble_eq_true rfl⟩) ?_
                    show zV x ad (Lay K ad (stM S 13 0 1)) _ _ _ 109 [.int 1]
                    refine z_if_ne (tgt := 126) hx d_Mo_arms_109 (by decide) (fun _ => ?_) (fun h => absurd h (by decide))
                    exact z_vret hx hr hq (Nat.le_refl _) (Nat.le_refl _) d_Mo_arms_126 ⟨rfl, rfl, rfl⟩
                  · refine z_iconst (v := 1) hx d_Mo_arms_100 rfl ?_
                    refine z_goto (tgt := 105) hx d_Mo_arms_101 (by decide) ?_
                    refine z_iconst (v := 0) hx d_Mo_arms_105 rfl ?_
                    refine z_cV hx (c_Mo_refused_1) k_Mo rfl ⟨a4_81, a4_84, a1_6, ⟨by decide +kernel, by decide +kernel⟩, fun sig h => by cases h; rfl⟩ a4_83 s_Mo_refused rfl rfl d_Mo_arms_106 (by rw [hrm]; exact ⟨Nat.le_of_ble_eq_true rfl, Nat.le_of_ble_eq_true rfl, Nat.le_of_ble_eq_true rfl, Nat.le_of_ble_eq_true rfl⟩) ?_
                    show zV x ad (Lay K ad (stM S 13 0 1)) _ _ _ 109 [.int 1]
                    refine z_if_ne (tgt := 126) hx d_Mo_arms_109 (by decide) (fun _ => ?_) (fun h => absurd h (by decide))
                    exact z_vret hx hr hq (Nat.le_refl _) (Nat.le_refl _) d_Mo_arms_126 ⟨rfl, rfl, rfl⟩
              · refine z_iconst (v := 1) hx d_Mo_arms_57 rfl ?_
                refine z_goto (tgt := 62) hx d_Mo_arms_58 (by decide) ?_
                refine z_istore hx [(8, .int 1), (0, .ref (ad 13)), (1, .int a), (2, .int b), (3, .int c), (4, .int d), (5, .int z), (6, .long w)] d_Mo_arms_62 (zN hml (by decide)) rfl ?_
                refine z_iload hx 0 d_Mo_arms_64 rfl ?_
                refine z_if_ne (tgt := 83) hx d_Mo_arms_66 (by decide) (fun _ => ?_) (fun h => absurd h (by decide))
                refine z_iconst (v := 1) hx d_Mo_arms_83 rfl ?_
                refine z_goto (tgt := 88) hx d_Mo_arms_84 (by decide) ?_
                refine z_istore hx [(8, .int 1), (0, .ref (ad 13)), (1, .int a), (2, .int b), (3, .int c), (4, .int d), (5, .int z), (6, .long w)] d_Mo_arms_88 (zN hml (by decide)) rfl ?_
                refine z_aload_n hx 1 d_Mo_arms_90 rfl ?_
                refine z_iload hx 0 d_Mo_arms_91 rfl ?_
                refine z_aload_n hx 1 d_Mo_arms_93 rfl ?_
                refine z_get hx k_Mo (t := 13) rfl 9 (by decide) a3_232 rfl d_Mo_arms_94 ?_
                refine z_if_le (tgt := 104) hx d_Mo_arms_97 (by decide) (fun h21 => ?_) (fun h21 => ?_)
                · refine z_iconst (v := 0) hx d_Mo_arms_104 rfl ?_
                  refine z_iconst (v := 0) hx d_Mo_arms_105 rfl ?_
                  refine z_cV hx (c_Mo_refused_1) k_Mo rfl ⟨a4_81, a4_84, a1_6, ⟨by decide +kernel, by decide +kernel⟩, fun sig h => by cases h; rfl⟩ a4_83 s_Mo_refused rfl rfl d_Mo_arms_106 (by rw [hrm]; exact ⟨Nat.le_of_ble_eq_true rfl, Nat.le_of_ble_eq_true rfl, Nat.le_of_ble_eq_true rfl, Nat.le_of_ble_eq_true rfl⟩) ?_
                  show zV x ad (Lay K ad (stM S 13 0 1)) _ _ _ 109 [.int 1]
                  refine z_if_ne (tgt := 126) hx d_Mo_arms_109 (by decide) (fun _ => ?_) (fun h => absurd h (by decide))
                  exact z_vret hx hr hq (Nat.le_refl _) (Nat.le_refl _) d_Mo_arms_126 ⟨rfl, rfl, rfl⟩
                · refine z_iconst (v := 1) hx d_Mo_arms_100 rfl ?_
                  refine z_goto (tgt := 105) hx d_Mo_arms_101 (by decide) ?_
                  refine z_iconst (v := 0) hx d_Mo_arms_105 rfl ?_
                  refine z_cV hx (c_Mo_refused_1) k_Mo rfl ⟨a4_81, a4_84, a1_6, ⟨by decide +kernel, by decide +kernel⟩, fun sig h => by cases h; rfl⟩ a4_83 s_Mo_refused rfl rfl d_Mo_arms_106 (by rw [hrm]; exact ⟨Nat.le_of_ble_eq_true rfl, Nat.le_of_ble_eq_true rfl, Nat.le_of_ble_eq_true rfl, Nat.le_of_ble_eq_true rfl⟩) ?_
                  show zV x ad (Lay K ad (stM S 13 0 1)) _ _ _ 109 [.int 1]
                  refine z_if_ne (tgt := 126) hx d_Mo_arms_109 (by decide) (fun _ => ?_) (fun h => absurd h (by decide))
                  exact z_vret hx hr hq (Nat.le_refl _) (Nat.le_refl _) d_Mo_arms_126 ⟨rfl, rfl, rfl⟩
set_option maxRecDepth 20000 in
theorem c_Mo_arms_taken {l : Launch} {D : va_G} {K : Nat → ClassId} {ad : Nat → Nat} {S : zSt} {a b c d z : Int32} {w : Int64} (q1 : ¬ wiF a 1 3 = 0) (q2 : ¬ wiF b 1 3 = 0) (q3 : ¬ wiF c 0 3 = 0) (q4 : ¬ wiF d 0 3 = 0) (hcd : c = 0 → ¬ 0 < d) (q6 : ¬ wiF z 1 24 = 0) (hrem : z - z / (a + b + c + d) * (a + b + c + d) = 0) (ht : ¬ S.2.2 13 9 ≤ 0) : zC l TB D zcls (ztyl K) y_Mo_arms (.code y_Mo_arms b_Mo_arms 12 (none : Option FieldType)) (rmk 1 23) [.ref (ad 13), .int a, .int b, .int c, .int d, .int z, .long w] ad (Lay K ad S) (zP K ad none (stM S 13 0 2)) := by
  refine zC.of (by decide +kernel) (Nat.le_of_ble_eq_true rfl) ?_
  intro x hx hr hml hnm hrm hq hNH
  show zV x ad (Lay K ad S) 0 0 [(0, .ref (ad 13)), (1, .int a), (2, .int b), (3, .int c), (4, .int d), (5, .int z), (6, .long w)] 0 []
  refine z_iload_n hx 1 d_Mo_arms_0 rfl ?_
  refine z_iconst (v := 1) hx d_Mo_arms_1 rfl ?_
  refine z_iconst (v := 3) hx d_Mo_arms_2 rfl ?_
  refine z_cS hx (c_Mo_within) ⟨a4_78, a4_80, a1_6, ⟨by decide +kernel, by decide +kernel⟩, fun sig h => by cases h; rfl⟩ a4_79 rfl rfl d_Mo_arms_3 (by rw [hrm]; exact ⟨Nat.le_of_ble_eq_true rfl, Nat.le_of_ble_eq_true rfl, Nat.le_of_ble_eq_true rfl, Nat.le_of_ble_eq_true rfl⟩) ?_
  show zV x ad (Lay K ad S) _ _ _ 6 [.int (wiF a 1 3)]
  refine z_if_eq (tgt := 57) hx d_Mo_arms_6 (by decide) (fun h => absurd h q1) (fun _ => ?_)
  refine z_iload_n hx 2 d_Mo_arms_9 rfl ?_
  refine z_iconst (v := 1) hx d_Mo_arms_10 rfl ?_
  refine z_iconst (v := 3) hx d_Mo_arms_11 rfl ?_
  refine z_cS hx (c_Mo_within) ⟨a4_78, a4_80, a1_6, ⟨by decide +kernel, by decide +kernel⟩, fun sig h => by cases h; rfl⟩ a4_79 rfl rfl d_Mo_arms_12 (by rw [hrm]; exact ⟨Nat.le_of_ble_eq_true rfl, Nat.le_of_ble_eq_true rfl, Nat.le_of_ble_eq_true rfl, Nat.le_of_ble_eq_true rfl⟩) ?_
  show zV x ad (Lay K ad S) _ _ _ 15 [.int (wiF b 1 3)]
  refine z_if_eq (tgt := 57) hx d_Mo_arms_15 (by decide) (fun h => absurd h q2) (fun _ => ?_)
  refine z_iload_n hx 3 d_Mo_arms_18 rfl ?_
  refine z_iconst (v := 0) hx d_Mo_arms_19 rfl ?_
  refine z_iconst (v := 3) hx d_Mo_arms_20 rfl ?_
  refine z_cS hx (c_Mo_within) ⟨a4_78, a4_80, a1_6, ⟨by decide +kernel, by decide +kernel⟩, fun sig h => by cases h; rfl⟩ a4_79 rfl rfl d_Mo_arms_21 (by rw [hrm]; exact ⟨Nat.le_of_ble_eq_true rfl, Nat.le_of_ble_eq_true rfl, Nat.le_of_ble_eq_true rfl, Nat.le_of_ble_eq_true rfl⟩) ?_
  show zV x ad (Lay K ad S) _ _ _ 24 [.int (wiF c 0 3)]
  refine z_if_eq (tgt := 57) hx d_Mo_arms_24 (by decide) (fun h => absurd h q3) (fun _ => ?_)
  refine z_iload hx 4 d_Mo_arms_27 rfl ?_
  refine z_iconst (v := 0) hx d_Mo_arms_29 rfl ?_
  refine z_iconst (v := 3) hx d_Mo_arms_30 rfl ?_
  refine z_cS hx (c_Mo_within) ⟨a4_78, a4_80, a1_6, ⟨by decide +kernel, by decide +kernel⟩, fun sig h => by cases h; rfl⟩ a4_79 rfl rfl d_Mo_arms_31 (by rw [hrm]; exact ⟨Nat.le_of_ble_eq_true rfl, Nat.le_of_ble_eq_true rfl, Nat.le_of_ble_eq_true rfl, Nat.le_of_ble_eq_true rfl⟩) ?_
  show zV x ad (Lay K ad S) _ _ _ 34 [.int (wiF d 0 3)]
  refine z_if_eq (tgt := 57) hx d_Mo_arms_34 (by decide) (fun h => absurd h q4) (fun _ => ?_)
  refine z_iload_n hx 3 d_Mo_arms_37 rfl ?_
  refine z_if_ne (tgt := 46) hx d_Mo_arms_38 (by decide) (fun h1 => ?_) (fun h1 => ?_)
  · refine z_iload hx 5 d_Mo_arms_46 rfl ?_
    refine z_iconst (v := 1) hx d_Mo_arms_48 rfl ?_
    refine z_bipush (v := 24) hx d_Mo_arms_49 rfl ?_
    refine z_cS hx (c_Mo_within) ⟨a4_78, a4_80, a1_6, ⟨by decide +kernel, by decide +kernel⟩, fun sig h => by cases h; rfl⟩ a4_79 rfl rfl d_Mo_arms_51 (by rw [hrm]; exact ⟨Nat.le_of_ble_eq_true rfl, Nat.le_of_ble_eq_true rfl, Nat.le_of_ble_eq_true rfl, Nat.le_of_ble_eq_true rfl⟩) ?_
    show zV x ad (Lay K ad S) _ _ _ 54 [.int (wiF z 1 24)]
    refine z_if_ne (tgt := 61) hx d_Mo_arms_54 (by decide) (fun _ => ?_) (fun h => absurd h q6)
    refine z_iconst (v := 0) hx d_Mo_arms_61 rfl ?_
    refine z_istore hx [(8, .int 0), (0, .ref (ad 13)), (1, .int a), (2, .int b), (3, .int c), (4, .int d), (5, .int z), (6, .long w)] d_Mo_arms_62 (zN hml (by decide)) rfl ?_
    refine z_iload hx 0 d_Mo_arms_64 rfl ?_
    refine z_if_ne (tgt := 83) hx d_Mo_arms_66 (by decide) (fun h => absurd (by decide) h) (fun _ => ?_)
    refine z_iload hx 6 d_Mo_arms_69 rfl ?_
    refine z_iload_n hx 2 d_Mo_arms_71 rfl ?_
    refine z_iload_n hx 3 d_Mo_arms_72 rfl ?_
    refine z_iadd hx d_Mo_arms_73 ?_
    refine z_iload_n hx 4 d_Mo_arms_74 rfl ?_
    refine z_iadd hx d_Mo_arms_75 ?_
    refine z_iload hx 5 d_Mo_arms_76 rfl ?_
    refine z_iadd hx d_Mo_arms_78 ?_
    refine z_irem hx d_Mo_arms_79 (gW_nz q1 q2 q3 q4) ?_
    refine z_if_eq (tgt := 87) hx d_Mo_arms_80 (by decide) (fun _ => ?_) (fun h => absurd hrem h)
    refine z_iconst (v := 0) hx d_Mo_arms_87 rfl ?_
    refine z_istore hx [(8, .int 0), (0, .ref (ad 13)), (1, .int a), (2, .int b), (3, .int c), (4, .int d), (5, .int z), (6, .long w)] d_Mo_arms_88 (zN hml (by decide)) rfl ?_
    refine z_aload_n hx 1 d_Mo_arms_90 rfl ?_
    refine z_iload hx 0 d_Mo_arms_91 rfl ?_
    refine z_aload_n hx 1 d_Mo_arms_93 rfl ?_
    refine z_get hx k_Mo (t := 13) rfl 9 (by decide) a3_232 rfl d_Mo_arms_94 ?_
    refine z_if_le (tgt := 104) hx d_Mo_arms_97 (by decide) (fun h => absurd h ht) (fun _ => ?_)
    refine z_iconst (v := 1) hx d_Mo_arms_100 rfl ?_
    refine z_goto (tgt := 105) hx d_Mo_arms_101 (by decide) ?_
    refine z_iconst (v := 0) hx d_Mo_arms_105 rfl ?_
    refine z_cV hx (c_Mo_refused_2) k_Mo rfl ⟨a4_81, a4_84, a1_6, ⟨by decide +kernel, by decide +kernel⟩, fun sig h => by cases h; rfl⟩ a4_83 s_Mo_refused rfl rfl d_Mo_arms_106 (by rw [hrm]; exact ⟨Nat.le_of_ble_eq_true rfl, Nat.le_of_ble_eq_true rfl, Nat.le_of_ble_eq_true rfl, Nat.le_of_ble_eq_true rfl⟩) ?_
    show zV x ad (Lay K ad (stM S 13 0 2)) _ _ _ 109 [.int 1]
    refine z_if_ne (tgt := 126) hx d_Mo_arms_109 (by decide) (fun _ => ?_) (fun h => absurd h (by decide))
    exact z_vret hx hr hq (Nat.le_refl _) (Nat.le_refl _) d_Mo_arms_126 ⟨rfl, rfl, rfl⟩
  · refine z_iload hx 4 d_Mo_arms_41 rfl ?_
    refine z_if_gt (tgt := 57) hx d_Mo_arms_43 (by decide) (fun h => absurd h (hcd h1)) (fun _ => ?_)
    refine z_iload hx 5 d_Mo_arms_46 rfl ?_
    refine z_iconst (v := 1) hx d_Mo_arms_48 rfl ?_
    refine z_bipush (v := 24) hx d_Mo_arms_49 rfl ?_
    refine z_cS hx (c_Mo_within) ⟨a4_78, a4_80, a1_6, ⟨by decide +kernel, by decide +kernel⟩, fun sig h => by cases h; rfl⟩ a4_79 rfl rfl d_Mo_arms_51 (by rw [hrm]; exact ⟨Nat.le_of_ble_eq_true rfl, Nat.le_of_ble_eq_true rfl, Nat.le_of_ble_eq_true rfl, Nat.le_of_ble_eq_true rfl⟩) ?_
    show zV x ad (Lay K ad S) _ _ _ 54 [.int (wiF z 1 24)]
    refine z_if_ne (tgt := 61) hx d_Mo_arms_54 (by decide) (fun _ => ?_) (fun h => absurd h q6)
    refine z_iconst (v := 0) hx d_Mo_arms_61 rfl ?_
    refine z_istore hx [(8, .int 0), (0, .ref (ad 13)), (1, .int a), (2, .int b), (3, .int c), (4, .int d), (5, .int z), (6, .long w)] d_Mo_arms_62 (zN hml (by decide)) rfl ?_
    refine z_iload hx 0 d_Mo_arms_64 rfl ?_
    refine z_if_ne (tgt := 83) hx d_Mo_arms_66 (by decide) (fun h => absurd (by decide) h) (fun _ => ?_)
    refine z_iload hx 6 d_Mo_arms_69 rfl ?_
    refine z_iload_n hx 2 d_Mo_arms_71 rfl ?_
    refine z_iload_n hx 3 d_Mo_arms_72 rfl ?_
    refine z_iadd hx d_Mo_arms_73 ?_
    refine z_iload_n hx 4 d_Mo_arms_74 rfl ?_
    refine z_iadd hx d_Mo_arms_75 ?_
    refine z_iload hx 5 d_Mo_arms_76 rfl ?_
    refine z_iadd hx d_Mo_arms_78 ?_
    refine z_irem hx d_Mo_arms_79 (gW_nz q1 q2 q3 q4) ?_
    refine z_if_eq (tgt := 87) hx d_Mo_arms_80 (by decide) (fun _ => ?_) (fun h => absurd hrem h)
    refine z_iconst (v := 0) hx d_Mo_arms_87 rfl ?_
    refine z_istore hx [(8, .int 0), (0, .ref (ad 13)), (1, .int a), (2, .int b), (3, .int c), (4, .int d), (5, .int z), (6, .long w)] d_Mo_arms_88 (zN hml (by decide)) rfl ?_
    refine z_aload_n hx 1 d_Mo_arms_90 rfl ?_
    refine z_iload hx 0 d_Mo_arms_91 rfl ?_
    refine z_aload_n hx 1 d_Mo_arms_93 rfl ?_
    refine z_get hx k_Mo (t := 13) rfl 9 (by decide) a3_232 rfl d_Mo_arms_94 ?_
    refine z_if_le (tgt := 104) hx d_Mo_arms_97 (by decide) (fun h => absurd h ht) (fun _ => ?_)
    refine z_iconst (v := 1) hx d_Mo_arms_100 rfl ?_
    refine z_goto (tgt := 105) hx d_Mo_arms_101 (by decide) ?_
    refine z_iconst (v := 0) hx d_Mo_arms_105 rfl ?_
    refine z_cV hx (c_Mo_refused_2) k_Mo rfl ⟨a4_81, a4_84, a1_6, ⟨by decide +kernel, by decide +kernel⟩, fun sig h => by cases h; rfl⟩ a4_83 s_Mo_refused rfl rfl d_Mo_arms_106 (by rw [hrm]; exact ⟨Nat.le_of_ble_eq_true rfl, Nat.le_of_ble_eq_true rfl, Nat.le_of_ble_eq_true rfl, Nat.le_of_ble_eq_true rfl⟩) ?_
    show zV x ad (Lay K ad (stM S 13 0 2)) _ _ _ 109 [.int 1]
    refine z_if_ne (tgt := 126) hx d_Mo_arms_109 (by decide) (fun _ => ?_) (fun h => absurd h (by decide))
    exact z_vret hx hr hq (Nat.le_refl _) (Nat.le_refl _) d_Mo_arms_126 ⟨rfl, rfl, rfl⟩
def setM (S : zSt) (a b c d z : Int32) (w : Int64) : zSt := stL (stM (stM (stM (stM (stM (stM (mwO S) 14 0 a) 14 1 b) 14 2 c) 14 3 d) 13 5 (acM c d)) 13 6 z) 13 7 w
def amL (S : zSt) (w : Int64) : Nat → zSt
  | 0 => S
  | k + 1 => stL (amL S w k) 18 k (if w ^^^ (nI k + 1).toInt64 * (-7046029254386353131) = 0 then 1 else w ^^^ (nI k + 1).toInt64 * (-7046029254386353131))
theorem amL_n {S : zSt} {w : Int64} {k u : Nat} (h : u ≠ 18) : (amL S w k).2.1 u = S.2.1 u := by
  induction k with
  | zero => rfl
  | succ k ih => rw [amL, stL_n h, ih]
def mArms (S : zSt) (a b c d z : Int32) (w : Int64) : zSt := if S.2.2 13 1 = 0 then (if S.2.2 13 2 = 0 then amL (setM S a b c d z w) w 8 else mwT S) else mS S
set_option maxRecDepth 20000 in
theorem c_Mo_arms {l : Launch} {D : va_G} {K : Nat → ClassId} {ad : Nat → Nat} {S : zSt} {a b c d z : Int32} {w : Int64} (q1 : ¬ wiF a 1 3 = 0) (q2 : ¬ wiF b 1 3 = 0) (q3 : ¬ wiF c 0 3 = 0) (q4 : ¬ wiF d 0 3 = 0) (hcd : c = 0 → ¬ 0 < d) (q6 : ¬ wiF z 1 24 = 0) (hrem : z - z / (a + b + c + d) * (a + b + c + d) = 0) (ht : S.2.2 13 9 ≤ 0) : zC l TB D zcls (ztyl K) y_Mo_arms (.code y_Mo_arms b_Mo_arms 12 (none : Option FieldType)) (rmk 1 23) [.ref (ad 13), .int a, .int b, .int c, .int d, .int z, .long w] ad (Lay K ad S) (zP K ad none (mArms S a b c d z w)) := by
  refine zC.of (by decide +kernel) (Nat.le_of_ble_eq_true rfl) ?_
  intro x hx hr hml hnm hrm hq hNH
  have L : ∀ (m_L k : Nat), k + m_L = 8 → (S.2.2 13 1 = 0 ∧ S.2.2 13 2 = 0) → zV x ad (Lay K ad (amL (setM S a b c d z w) w k)) 0 0 [(9, .int (nI k)), (0, .ref (ad 13)), (6, .long w)] 193 [] := by
    intro m_L
    induction m_L with
    | zero =>
      intro k he_L hV
      have e_L : k = 8 := by omega
      refine z_iload hx 0 d_Mo_arms_193 rfl ?_
      refine z_bipush (v := 8) hx d_Mo_arms_195 rfl ?_
      refine z_icmp_ge (tgt := 242) hx d_Mo_arms_197 (by decide) (fun _ => ?_) (fun h => absurd (nI_leL 8 rfl e_L (by decide)) h)
      subst e_L
      have e9 : mArms S a b c d z w = amL (setM S a b c d z w) w 8 := by unfold mArms; rw [if_pos hV.1, if_pos hV.2]
      exact z_vret hx hr hq (Nat.le_refl _) (Nat.le_refl _) d_Mo_arms_242 ⟨rfl, rfl, by rw [e9]⟩
    | succ m_L ih_L =>
      intro k he_L hV
      have l_L : k < 8 := by omega
      refine z_iload hx 0 d_Mo_arms_193 rfl ?_
      refine z_bipush (v := 8) hx d_Mo_arms_195 rfl ?_
      refine z_icmp_ge (tgt := 242) hx d_Mo_arms_197 (by decide) (fun h => absurd h (nI_nleL 8 rfl l_L (by decide))) (fun _ => ?_)
      refine z_aload_n hx 1 d_Mo_arms_200 rfl ?_
      refine z_get hx k_Mo (t := 13) rfl 7 (by decide) a3_230 rfl d_Mo_arms_201 ?_
      refine z_topL (b := w) (by rw [amL_n (by decide)]; exact rdL_s) ?_
      refine z_iload hx 0 d_Mo_arms_204 rfl ?_
      refine z_iconst (v := 1) hx d_Mo_arms_206 rfl ?_
      refine z_iadd hx d_Mo_arms_207 ?_
      refine z_i2l hx d_Mo_arms_208 ?_
      refine z_ldc2 (v := (-7046029254386353131)) hx d_Mo_arms_209 a4_89 ?_
      refine z_lmul hx d_Mo_arms_212 ?_
      refine z_lxor hx d_Mo_arms_213 ?_
      refine z_lstore hx [(10, .long (w ^^^ ((((nI k) + 1).toInt64) * ((-7046029254386353131))))), (9, .int (nI k)), (0, .ref (ad 13)), (6, .long w)] d_Mo_arms_214 (zN hml (by decide)) rfl ?_
      refine z_aload_n hx 2 d_Mo_arms_216 rfl ?_
      refine z_get hx k_Mo (t := 13) rfl 13 (by decide) a3_236 rfl d_Mo_arms_217 ?_
      refine z_iload hx 1 d_Mo_arms_220 rfl ?_
      refine z_lload hx 0 d_Mo_arms_222 rfl ?_
      refine z_lconst (v := 0) hx d_Mo_arms_224 rfl ?_
      refine z_lcmp hx d_Mo_arms_225 ?_
      refine z_if_ne (tgt := 233) hx d_Mo_arms_226 (by decide) (fun h1 => ?_) (fun h1 => ?_)
      · refine z_lload hx 0 d_Mo_arms_233 rfl ?_
        refine z_lastK hx 1 rfl (t := 18) rfl (k := k) (by omega) (by first | decide | omega)  d_Mo_arms_235 (ce1 := Lay K ad (stL (amL (setM S a b c d z w) w k) 18 k (w ^^^ ((((nI k) + 1).toInt64) * ((-7046029254386353131)))))) (Lay_putL rfl) ?_
        refine z_iinc (v := nI (k + 1)) hx 1 [(9, .int (nI (k + 1))), (10, .long (w ^^^ ((((nI k) + 1).toInt64) * ((-7046029254386353131))))), (0, .ref (ad 13)), (6, .long w)] d_Mo_arms_236 rfl (nI_1 k) (zN hml (by decide)) rfl ?_
        refine z_goto (tgt := 193) hx d_Mo_arms_239 (by decide) ?_
        have q9 := ih_L (k + 1) (by omega) hV
        rw [amL, show (if w ^^^ (nI k + 1).toInt64 * (-7046029254386353131) = 0 then (1 : Int64) else w ^^^ (nI k + 1).toInt64 * (-7046029254386353131)) = w ^^^ ((((nI k) + 1).toInt64) * ((-7046029254386353131))) from by rw [if_neg (fun z => h1 ((lg_cmp_eq _ _).mpr z))]] at q9
        exact z_lv [0, 2, 3] _ rfl q9
      · refine z_lconst (v := 1) hx d_Mo_arms_229 rfl ?_
        refine z_goto (tgt := 235) hx d_Mo_arms_230 (by decide) ?_
        refine z_lastK hx 1 rfl (t := 18) rfl (k := k) (by omega) (by first | decide | omega)  d_Mo_arms_235 (ce1 := Lay K ad (stL (amL (setM S a b c d z w) w k) 18 k 1)) (Lay_putL rfl) ?_
        refine z_iinc (v := nI (k + 1)) hx 1 [(9, .int (nI (k + 1))), (10, .long (w ^^^ ((((nI k) + 1).toInt64) * ((-7046029254386353131))))), (0, .ref (ad 13)), (6, .long w)] d_Mo_arms_236 rfl (nI_1 k) (zN hml (by decide)) rfl ?_
        refine z_goto (tgt := 193) hx d_Mo_arms_239 (by decide) ?_
        have q9 := ih_L (k + 1) (by omega) hV
        rw [amL, show (if w ^^^ (nI k + 1).toInt64 * (-7046029254386353131) = 0 then (1 : Int64) else w ^^^ (nI k + 1).toInt64 * (-7046029254386353131)) = 1 from by rw [if_pos ((lg_cmp_eq _ _).mp h1)]] at q9
        exact z_lv [0, 2, 3] _ rfl q9
  show zV x ad (Lay K ad S) 0 0 [(0, .ref (ad 13)), (1, .int a), (2, .int b), (3, .int c), (4, .int d), (5, .int z), (6, .long w)] 0 []
  refine z_iload_n hx 1 d_Mo_arms_0 rfl ?_
  refine z_iconst (v := 1) hx d_Mo_arms_1 rfl ?_
  refine z_iconst (v := 3) hx d_Mo_arms_2 rfl ?_
  refine z_cS hx (c_Mo_within) ⟨a4_78, a4_80, a1_6, ⟨by decide +kernel, by decide +kernel⟩, fun sig h => by cases h; rfl⟩ a4_79 rfl rfl d_Mo_arms_3 (by rw [hrm]; exact ⟨Nat.le_of_ble_eq_true rfl, Nat.le_of_ble_eq_true rfl, Nat.le_of_ble_eq_true rfl, Nat.le_of_ble_eq_true rfl⟩) ?_
  show zV x ad (Lay K ad S) _ _ _ 6 [.int (wiF a 1 3)]
  refine z_if_eq (tgt := 57) hx d_Mo_arms_6 (by decide) (fun h => absurd h q1) (fun _ => ?_)
  refine z_iload_n hx 2 d_Mo_arms_9 rfl ?_
  refine z_iconst (v := 1) hx d_Mo_arms_10 rfl ?_
  refine z_iconst (v := 3) hx d_Mo_arms_11 rfl ?_
  refine z_cS hx (c_Mo_within) ⟨a4_78, a4_80, a1_6, ⟨by decide +kernel, by decide +kernel⟩, fun sig h => by cases h; rfl⟩ a4_79 rfl rfl d_Mo_arms_12 (by rw [hrm]; exact ⟨Nat.le_of_ble_eq_true rfl, Nat.le_of_ble_eq_true rfl, Nat.le_of_ble_eq_true rfl, Nat.le_of_ble_eq_true rfl⟩) ?_
  show zV x ad (Lay K ad S) _ _ _ 15 [.int (wiF b 1 3)]
  refine z_if_eq (tgt := 57) hx d_Mo_arms_15 (by decide) (fun h => absurd h q2) (fun _ => ?_)
  refine z_iload_n hx 3 d_Mo_arms_18 rfl ?_
  refine z_iconst (v := 0) hx d_Mo_arms_19 rfl ?_
  refine z_iconst (v := 3) hx d_Mo_arms_20 rfl ?_
  refine z_cS hx (c_Mo_within) ⟨a4_78, a4_80, a1_6, ⟨by decide +kernel, by decide +kernel⟩, fun sig h => by cases h; rfl⟩ a4_79 rfl rfl d_Mo_arms_21 (by rw [hrm]; exact ⟨Nat.le_of_ble_eq_true rfl, Nat.le_of_ble_eq_true rfl, Nat.le_of_ble_eq_true rfl, Nat.le_of_ble_eq_true rfl⟩) ?_
  show zV x ad (Lay K ad S) _ _ _ 24 [.int (wiF c 0 3)]
  refine z_if_eq (tgt := 57) hx d_Mo_arms_24 (by decide) (fun h => absurd h q3) (fun _ => ?_)
  refine z_iload hx 4 d_Mo_arms_27 rfl ?_
  refine z_iconst (v := 0) hx d_Mo_arms_29 rfl ?_
  refine z_iconst (v := 3) hx d_Mo_arms_30 rfl ?_
  refine z_cS hx (c_Mo_within) ⟨a4_78, a4_80, a1_6, ⟨by decide +kernel, by decide +kernel⟩, fun sig h => by cases h; rfl⟩ a4_79 rfl rfl d_Mo_arms_31 (by rw [hrm]; exact ⟨Nat.le_of_ble_eq_true rfl, Nat.le_of_ble_eq_true rfl, Nat.le_of_ble_eq_true rfl, Nat.le_of_ble_eq_true rfl⟩) ?_
  show zV x ad (Lay K ad S) _ _ _ 34 [.int (wiF d 0 3)]
  refine z_if_eq (tgt := 57) hx d_Mo_arms_34 (by decide) (fun h => absurd h q4) (fun _ => ?_)
  refine z_iload_n hx 3 d_Mo_arms_37 rfl ?_
  refine z_if_ne (tgt := 46) hx d_Mo_arms_38 (by decide) (fun h1 => ?_) (fun h1 => ?_)
  · refine z_iload hx 5 d_Mo_arms_46 rfl ?_
    refine z_iconst (v := 1) hx d_Mo_arms_48 rfl ?_
    refine z_bipush (v := 24) hx d_Mo_arms_49 rfl ?_
    refine z_cS hx (c_Mo_within) ⟨a4_78, a4_80, a1_6, ⟨by decide +kernel, by decide +kernel⟩, fun sig h => by cases h; rfl⟩ a4_79 rfl rfl d_Mo_arms_51 (by rw [hrm]; exact ⟨Nat.le_of_ble_eq_true rfl, Nat.le_of_ble_eq_true rfl, Nat.le_of_ble_eq_true rfl, Nat.le_of_ble_eq_true rfl⟩) ?_
    show zV x ad (Lay K ad S) _ _ _ 54 [.int (wiF z 1 24)]
    refine z_if_ne (tgt := 61) hx d_Mo_arms_54 (by decide) (fun _ => ?_) (fun h => absurd h q6)
    refine z_iconst (v := 0) hx d_Mo_arms_61 rfl ?_
    refine z_istore hx [(8, .int 0), (0, .ref (ad 13)), (1, .int a), (2, .int b), (3, .int c), (4, .int d), (5, .int z), (6, .long w)] d_Mo_arms_62 (zN hml (by decide)) rfl ?_
    refine z_iload hx 0 d_Mo_arms_64 rfl ?_
    refine z_if_ne (tgt := 83) hx d_Mo_arms_66 (by decide) (fun h => absurd (by decide) h) (fun _ => ?_)
    refine z_iload hx 6 d_Mo_arms_69 rfl ?_
    refine z_iload_n hx 2 d_Mo_arms_71 rfl ?_
    refine z_iload_n hx 3 d_Mo_arms_72 rfl ?_
    refine z_iadd hx d_Mo_arms_73 ?_
    refine z_iload_n hx 4 d_Mo_arms_74 rfl ?_
    refine z_iadd hx d_Mo_arms_75 ?_
    refine z_iload hx 5 d_Mo_arms_76 rfl ?_
    refine z_iadd hx d_Mo_arms_78 ?_
    refine z_irem hx d_Mo_arms_79 (gW_nz q1 q2 q3 q4) ?_
    refine z_if_eq (tgt := 87) hx d_Mo_arms_80 (by decide) (fun _ => ?_) (fun h => absurd hrem h)
    refine z_iconst (v := 0) hx d_Mo_arms_87 rfl ?_
    refine z_istore hx [(8, .int 0), (0, .ref (ad 13)), (1, .int a), (2, .int b), (3, .int c), (4, .int d), (5, .int z), (6, .long w)] d_Mo_arms_88 (zN hml (by decide)) rfl ?_
    refine z_aload_n hx 1 d_Mo_arms_90 rfl ?_
    refine z_iload hx 0 d_Mo_arms_91 rfl ?_
    refine z_aload_n hx 1 d_Mo_arms_93 rfl ?_
    refine z_get hx k_Mo (t := 13) rfl 9 (by decide) a3_232 rfl d_Mo_arms_94 ?_
    refine z_if_le (tgt := 104) hx d_Mo_arms_97 (by decide) (fun _ => ?_) (fun h => absurd ht h)
    refine z_iconst (v := 0) hx d_Mo_arms_104 rfl ?_
    refine z_iconst (v := 0) hx d_Mo_arms_105 rfl ?_
    refine z_cV hx (c_Mo_refused_0) k_Mo rfl ⟨a4_81, a4_84, a1_6, ⟨by decide +kernel, by decide +kernel⟩, fun sig h => by cases h; rfl⟩ a4_83 s_Mo_refused rfl rfl d_Mo_arms_106 (by rw [hrm]; exact ⟨Nat.le_of_ble_eq_true rfl, Nat.le_of_ble_eq_true rfl, Nat.le_of_ble_eq_true rfl, Nat.le_of_ble_eq_true rfl⟩) ?_
    show zV x ad (Lay K ad (stM S 13 0 0)) _ _ _ 109 [.int 0]
    refine z_if_ne (tgt := 126) hx d_Mo_arms_109 (by decide) (fun h => absurd (by decide) h) (fun _ => ?_)
    refine z_aload_n hx 1 d_Mo_arms_112 rfl ?_
    refine z_get hx k_Mo (t := 13) rfl 1 (by decide) a3_224 rfl d_Mo_arms_113 ?_
    refine z_top (b := S.2.2 13 1) (rd_j (by decide)) ?_
    refine z_if_ne (tgt := 126) hx d_Mo_arms_116 (by decide) (fun h2 => ?_) (fun h2 => ?_)
    · have e9 : mArms S a b c d z w = stM S 13 0 0 := by unfold mArms; (first | rw [if_pos h1] | rw [if_neg h1] | skip); (first | rw [if_pos h2] | rw [if_neg h2] | skip); (try rfl)
      exact z_vret hx hr hq (Nat.le_refl _) (Nat.le_refl _) d_Mo_arms_126 ⟨rfl, rfl, by rw [e9]⟩
    · refine z_aload_n hx 1 d_Mo_arms_119 rfl ?_
      by_cases h3 : S.2.2 13 2 = 0
      · refine z_cV hx (c_Mo_writes_ok (S := stM S 13 0 0) h3) k_Mo rfl ⟨a4_85, a4_88, a1_6, ⟨by decide +kernel, by decide +kernel⟩, fun sig h => by cases h; rfl⟩ a4_87 s_Mo_writes rfl rfl d_Mo_arms_120 (by rw [hrm]; exact ⟨Nat.le_of_ble_eq_true rfl, Nat.le_of_ble_eq_true rfl, Nat.le_of_ble_eq_true rfl, Nat.le_of_ble_eq_true rfl⟩) ?_
        show zV x ad (Lay K ad (stM (stM S 13 0 0) 13 3 (S.2.2 13 3 + 1))) _ _ _ 123 [.int 1]
        refine z_if_ne (tgt := 127) hx d_Mo_arms_123 (by decide) (fun _ => ?_) (fun h => absurd h (by decide))
        refine z_aload_n hx 1 d_Mo_arms_127 rfl ?_
        refine z_get hx k_Mo (t := 13) rfl 8 (by decide) a3_231 rfl d_Mo_arms_128 ?_
        refine z_iconst (v := 0) hx d_Mo_arms_131 rfl ?_
        refine z_iload_n hx 2 d_Mo_arms_132 rfl ?_
        refine z_iastK hx 0 rfl (t := 14) rfl (k := 0) (by omega) (by first | decide | omega)  d_Mo_arms_133 (ce1 := Lay K ad (stM (stM (stM S 13 0 0) 13 3 (S.2.2 13 3 + 1)) 14 0 a)) (Lay_put (by decide) rfl) ?_
        refine z_aload_n hx 1 d_Mo_arms_134 rfl ?_
        refine z_get hx k_Mo (t := 13) rfl 8 (by decide) a3_231 rfl d_Mo_arms_135 ?_
        refine z_iconst (v := 1) hx d_Mo_arms_138 rfl ?_
        refine z_iload_n hx 3 d_Mo_arms_139 rfl ?_
        refine z_iastK hx 0 rfl (t := 14) rfl (k := 1) (by omega) (by first | decide | omega)  d_Mo_arms_140 (ce1 := Lay K ad (stM (stM (stM (stM S 13 0 0) 13 3 (S.2.2 13 3 + 1)) 14 0 a) 14 1 b)) (Lay_put (by decide) rfl) ?_
        refine z_aload_n hx 1 d_Mo_arms_141 rfl ?_
        refine z_get hx k_Mo (t := 13) rfl 8 (by decide) a3_231 rfl d_Mo_arms_142 ?_
        refine z_iconst (v := 2) hx d_Mo_arms_145 rfl ?_
        refine z_iload_n hx 4 d_Mo_arms_146 rfl ?_
        refine z_iastK hx 0 rfl (t := 14) rfl (k := 2) (by omega) (by first | decide | omega)  d_Mo_arms_147 (ce1 := Lay K ad (stM (stM (stM (stM (stM S 13 0 0) 13 3 (S.2.2 13 3 + 1)) 14 0 a) 14 1 b) 14 2 c)) (Lay_put (by decide) rfl) ?_
        refine z_aload_n hx 1 d_Mo_arms_148 rfl ?_
        refine z_get hx k_Mo (t := 13) rfl 8 (by decide) a3_231 rfl d_Mo_arms_149 ?_
        refine z_iconst (v := 3) hx d_Mo_arms_152 rfl ?_
        refine z_iload hx 5 d_Mo_arms_153 rfl ?_
        refine z_iastK hx 0 rfl (t := 14) rfl (k := 3) (by omega) (by first | decide | omega)  d_Mo_arms_155 (ce1 := Lay K ad (stM (stM (stM (stM (stM (stM S 13 0 0) 13 3 (S.2.2 13 3 + 1)) 14 0 a) 14 1 b) 14 2 c) 14 3 d)) (Lay_put (by decide) rfl) ?_
        refine z_aload_n hx 1 d_Mo_arms_156 rfl ?_
        refine z_iload hx 5 d_Mo_arms_157 rfl ?_
        refine z_if_le (tgt := 166) hx d_Mo_arms_159 (by decide) (fun h4 => ?_) (fun h4 => ?_)
        · refine z_iload_n hx 4 d_Mo_arms_166 rfl ?_
          refine z_if_le (tgt := 174) hx d_Mo_arms_167 (by decide) (fun h5 => ?_) (fun h5 => ?_)
          · refine z_iconst (v := 2) hx d_Mo_arms_174 rfl ?_
            refine z_put hx k_Mo (t := 13) rfl 5 (by decide) a3_228 rfl rfl rfl (Nat.le_of_ble_eq_true rfl) d_Mo_arms_175 (ce1 := Lay K ad (stM (stM (stM (stM (stM (stM (stM S 13 0 0) 13 3 (S.2.2 13 3 + 1)) 14 0 a) 14 1 b) 14 2 c) 14 3 d) 13 5 2)) (Lay_put (by decide) rfl) ?_
            refine z_aload_n hx 1 d_Mo_arms_178 rfl ?_
            refine z_iload hx 6 d_Mo_arms_179 rfl ?_
            refine z_put hx k_Mo (t := 13) rfl 6 (by decide) a3_229 rfl rfl rfl (Nat.le_of_ble_eq_true rfl) d_Mo_arms_181 (ce1 := Lay K ad (stM (stM (stM (stM (stM (stM (stM (stM S 13 0 0) 13 3 (S.2.2 13 3 + 1)) 14 0 a) 14 1 b) 14 2 c) 14 3 d) 13 5 2) 13 6 z)) (Lay_put (by decide) rfl) ?_
            refine z_aload_n hx 1 d_Mo_arms_184 rfl ?_
            refine z_lload hx 7 d_Mo_arms_185 rfl ?_
            refine z_put hx k_Mo (t := 13) rfl 7 (by decide) a3_230 rfl rfl rfl (Nat.le_of_ble_eq_true rfl) d_Mo_arms_187 (ce1 := Lay K ad (stL (stM (stM (stM (stM (stM (stM (stM (stM S 13 0 0) 13 3 (S.2.2 13 3 + 1)) 14 0 a) 14 1 b) 14 2 c) 14 3 d) 13 5 2) 13 6 z) 13 7 w)) (Lay_putL rfl) ?_
            refine z_iconst (v := 0) hx d_Mo_arms_190 rfl ?_
            refine z_top (b := nI 0) rfl ?_
            refine z_istore hx [(9, .int (nI 0)), (8, .int 0), (0, .ref (ad 13)), (1, .int a), (2, .int b), (3, .int c), (4, .int d), (5, .int z), (6, .long w)] d_Mo_arms_191 (zN hml (by decide)) rfl ?_
            have q9 := L 8 0 (by omega) ⟨h2, h3⟩
            rw [amL, setM, show acM c d = 2 from by unfold acM; (first | rw [if_pos h4] | rw [if_neg h4]); (first | rw [if_pos h5] | rw [if_neg h5])] at q9
            exact z_lv [0, 2, 8] _ rfl q9
          · refine z_iconst (v := 3) hx d_Mo_arms_170 rfl ?_
            refine z_goto (tgt := 175) hx d_Mo_arms_171 (by decide) ?_
            refine z_put hx k_Mo (t := 13) rfl 5 (by decide) a3_228 rfl rfl rfl (Nat.le_of_ble_eq_true rfl) d_Mo_arms_175 (ce1 := Lay K ad (stM (stM (stM (stM (stM (stM (stM S 13 0 0) 13 3 (S.2.2 13 3 + 1)) 14 0 a) 14 1 b) 14 2 c) 14 3 d) 13 5 3)) (Lay_put (by decide) rfl) ?_
            refine z_aload_n hx 1 d_Mo_arms_178 rfl ?_
            refine z_iload hx 6 d_Mo_arms_179 rfl ?_
            refine z_put hx k_Mo (t := 13) rfl 6 (by decide) a3_229 rfl rfl rfl (Nat.le_of_ble_eq_true rfl) d_Mo_arms_181 (ce1 := Lay K ad (stM (stM (stM (stM (stM (stM (stM (stM S 13 0 0) 13 3 (S.2.2 13 3 + 1)) 14 0 a) 14 1 b) 14 2 c) 14 3 d) 13 5 3) 13 6 z)) (Lay_put (by decide) rfl) ?_
            refine z_aload_n hx 1 d_Mo_arms_184 rfl ?_
            refine z_lload hx 7 d_Mo_arms_185 rfl ?_
            refine z_put hx k_Mo (t := 13) rfl 7 (by decide) a3_230 rfl rfl rfl (Nat.le_of_ble_eq_true rfl) d_Mo_arms_187 (ce1 := Lay K ad (stL (stM (stM (stM (stM (stM (stM (stM (stM S 13 0 0) 13 3 (S.2.2 13 3 + 1)) 14 0 a) 14 1 b) 14 2 c) 14 3 d) 13 5 3) 13 6 z) 13 7 w)) (Lay_putL rfl) ?_
            refine z_iconst (v := 0) hx d_Mo_arms_190 rfl ?_
            refine z_top (b := nI 0) rfl ?_
            refine z_istore hx [(9, .int (nI 0)), (8, .int 0), (0, .ref (ad 13)), (1, .int a), (2, .int b), (3, .int c), (4, .int d), (5, .int z), (6, .long w)] d_Mo_arms_191 (zN hml (by decide)) rfl ?_
            have q9 := L 8 0 (by omega) ⟨h2, h3⟩
            rw [amL, setM, show acM c d = 3 from by unfold acM; (first | rw [if_pos h4] | rw [if_neg h4]); (first | rw [if_pos h5] | rw [if_neg h5])] at q9
            exact z_lv [0, 2, 8] _ rfl q9
        · refine z_iconst (v := 4) hx d_Mo_arms_162 rfl ?_
          refine z_goto (tgt := 175) hx d_Mo_arms_163 (by decide) ?_
          refine z_put hx k_Mo (t := 13) rfl 5 (by decide) a3_228 rfl rfl rfl (Nat.le_of_ble_eq_true rfl) d_Mo_arms_175 (ce1 := Lay K ad (stM (stM (stM (stM (stM (stM (stM S 13 0 0) 13 3 (S.2.2 13 3 + 1)) 14 0 a) 14 1 b) 14 2 c) 14 3 d) 13 5 4)) (Lay_put (by decide) rfl) ?_
          refine z_aload_n hx 1 d_Mo_arms_178 rfl ?_
          refine z_iload hx 6 d_Mo_arms_179 rfl ?_
          refine z_put hx k_Mo (t := 13) rfl 6 (by decide) a3_229 rfl rfl rfl (Nat.le_of_ble_eq_true rfl) d_Mo_arms_181 (ce1 := Lay K ad (stM (stM (stM (stM (stM (stM (stM (stM S 13 0 0) 13 3 (S.2.2 13 3 + 1)) 14 0 a) 14 1 b) 14 2 c) 14 3 d) 13 5 4) 13 6 z)) (Lay_put (by decide) rfl) ?_
          refine z_aload_n hx 1 d_Mo_arms_184 rfl ?_
          refine z_lload hx 7 d_Mo_arms_185 rfl ?_
          refine z_put hx k_Mo (t := 13) rfl 7 (by decide) a3_230 rfl rfl rfl (Nat.le_of_ble_eq_true rfl) d_Mo_arms_187 (ce1 := Lay K ad (stL (stM (stM (stM (stM (stM (stM (stM (stM S 13 0 0) 13 3 (S.2.2 13 3 + 1)) 14 0 a) 14 1 b) 14 2 c) 14 3 d) 13 5 4) 13 6 z) 13 7 w)) (Lay_putL rfl) ?_
          refine z_iconst (v := 0) hx d_Mo_arms_190 rfl ?_
          refine z_top (b := nI 0) rfl ?_
          refine z_istore hx [(9, .int (nI 0)), (8, .int 0), (0, .ref (ad 13)), (1, .int a), (2, .int b), (3, .int c), (4, .int d), (5, .int z), (6, .long w)] d_Mo_arms_191 (zN hml (by decide)) rfl ?_
          have q9 := L 8 0 (by omega) ⟨h2, h3⟩
          rw [amL, setM, show acM c d = 4 from by unfold acM; (first | rw [if_pos h4] | rw [if_neg h4])] at q9
          exact z_lv [0, 2, 8] _ rfl q9
      · refine z_cV hx (c_Mo_writes_torn (S := stM S 13 0 0) h3) k_Mo rfl ⟨a4_85, a4_88, a1_6, ⟨by decide +kernel, by decide +kernel⟩, fun sig h => by cases h; rfl⟩ a4_87 s_Mo_writes rfl rfl d_Mo_arms_120 (by rw [hrm]; exact ⟨Nat.le_of_ble_eq_true rfl, Nat.le_of_ble_eq_true rfl, Nat.le_of_ble_eq_true rfl, Nat.le_of_ble_eq_true rfl⟩) ?_
        show zV x ad (Lay K ad (stM (stM (stM S 13 0 0) 13 2 0) 13 1 1)) _ _ _ 123 [.int 0]
        refine z_if_ne (tgt := 127) hx d_Mo_arms_123 (by decide) (fun h => absurd (by decide) h) (fun _ => ?_)
        have e9 : mArms S a b c d z w = stM (stM (stM S 13 0 0) 13 2 0) 13 1 1 := by unfold mArms; (first | rw [if_pos h1] | rw [if_neg h1] | skip); (first | rw [if_pos h2] | rw [if_neg h2] | skip); (first | rw [if_pos h3] | rw [if_neg h3] | skip); (try rfl)
        exact z_vret hx hr hq (Nat.le_refl _) (Nat.le_refl _) d_Mo_arms_126 ⟨rfl, rfl, by rw [e9]⟩
  · refine z_iload hx 4 d_Mo_arms_41 rfl ?_
    refine z_if_gt (tgt := 57) hx d_Mo_arms_43 (by decide) (fun h => absurd h (hcd h1)) (fun _ => ?_)
    refine z_iload hx 5 d_Mo_arms_46 rfl ?_
    refine z_iconst (v := 1) hx d_Mo_arms_48 rfl ?_
    refine z_bipush (v := 24) hx d_Mo_arms_49 rfl ?_
    refine z_cS hx (c_Mo_within) ⟨a4_78, a4_80, a1_6, ⟨by decide +kernel, by decide +kernel⟩, fun sig h => by cases h; rfl⟩ a4_79 rfl rfl d_Mo_arms_51 (by rw [hrm]; exact ⟨Nat.le_of_ble_eq_true rfl, Nat.le_of_ble_eq_true rfl, Nat.le_of_ble_eq_true rfl, Nat.le_of_ble_eq_true rfl⟩) ?_
    show zV x ad (Lay K ad S) _ _ _ 54 [.int (wiF z 1 24)]
    refine z_if_ne (tgt := 61) hx d_Mo_arms_54 (by decide) (fun _ => ?_) (fun h => absurd h q6)
    refine z_iconst (v := 0) hx d_Mo_arms_61 rfl ?_
    refine z_istore hx [(8, .int 0), (0, .ref (ad 13)), (1, .int a), (2, .int b), (3, .int c), (4, .int d), (5, .int z), (6, .long w)] d_Mo_arms_62 (zN hml (by decide)) rfl ?_
    refine z_iload hx 0 d_Mo_arms_64 rfl ?_
    refine z_if_ne (tgt := 83) hx d_Mo_arms_66 (by decide) (fun h => absurd (by decide) h) (fun _ => ?_)
    refine z_iload hx 6 d_Mo_arms_69 rfl ?_
    refine z_iload_n hx 2 d_Mo_arms_71 rfl ?_
    refine z_iload_n hx 3 d_Mo_arms_72 rfl ?_
    refine z_iadd hx d_Mo_arms_73 ?_
    refine z_iload_n hx 4 d_Mo_arms_74 rfl ?_
    refine z_iadd hx d_Mo_arms_75 ?_
    refine z_iload hx 5 d_Mo_arms_76 rfl ?_
    refine z_iadd hx d_Mo_arms_78 ?_
    refine z_irem hx d_Mo_arms_79 (gW_nz q1 q2 q3 q4) ?_
    refine z_if_eq (tgt := 87) hx d_Mo_arms_80 (by decide) (fun _ => ?_) (fun h => absurd hrem h)
    refine z_iconst (v := 0) hx d_Mo_arms_87 rfl ?_
    refine z_istore hx [(8, .int 0), (0, .ref (ad 13)), (1, .int a), (2, .int b), (3, .int c), (4, .int d), (5, .int z), (6, .long w)] d_Mo_arms_88 (zN hml (by decide)) rfl ?_
    refine z_aload_n hx 1 d_Mo_arms_90 rfl ?_
    refine z_iload hx 0 d_Mo_arms_91 rfl ?_
    refine z_aload_n hx 1 d_Mo_arms_93 rfl ?_
    refine z_get hx k_Mo (t := 13) rfl 9 (by decide) a3_232 rfl d_Mo_arms_94 ?_
    refine z_if_le (tgt := 104) hx d_Mo_arms_97 (by decide) (fun _ => ?_) (fun h => absurd ht h)
    refine z_iconst (v := 0) hx d_Mo_arms_104 rfl ?_
    refine z_iconst (v := 0) hx d_Mo_arms_105 rfl ?_
    refine z_cV hx (c_Mo_refused_0) k_Mo rfl ⟨a4_81, a4_84, a1_6, ⟨by decide +kernel, by decide +kernel⟩, fun sig h => by cases h; rfl⟩ a4_83 s_Mo_refused rfl rfl d_Mo_arms_106 (by rw [hrm]; exact ⟨Nat.le_of_ble_eq_true rfl, Nat.le_of_ble_eq_true rfl, Nat.le_of_ble_eq_true rfl, Nat.le_of_ble_eq_true rfl⟩) ?_
    show zV x ad (Lay K ad (stM S 13 0 0)) _ _ _ 109 [.int 0]
    refine z_if_ne (tgt := 126) hx d_Mo_arms_109 (by decide) (fun h => absurd (by decide) h) (fun _ => ?_)
    refine z_aload_n hx 1 d_Mo_arms_112 rfl ?_
    refine z_get hx k_Mo (t := 13) rfl 1 (by decide) a3_224 rfl d_Mo_arms_113 ?_
    refine z_top (b := S.2.2 13 1) (rd_j (by decide)) ?_
    refine z_if_ne (tgt := 126) hx d_Mo_arms_116 (by decide) (fun h6 => ?_) (fun h6 => ?_)
    · have e9 : mArms S a b c d z w = stM S 13 0 0 := by unfold mArms; (first | rw [if_pos h1] | rw [if_neg h1] | skip); (first | rw [if_pos h6] | rw [if_neg h6] | skip); (try rfl)
      exact z_vret hx hr hq (Nat.le_refl _) (Nat.le_refl _) d_Mo_arms_126 ⟨rfl, rfl, by rw [e9]⟩
    · refine z_aload_n hx 1 d_Mo_arms_119 rfl ?_
      by_cases h7 : S.2.2 13 2 = 0
      · refine z_cV hx (c_Mo_writes_ok (S := stM S 13 0 0) h7) k_Mo rfl ⟨a4_85, a4_88, a1_6, ⟨by decide +kernel, by decide +kernel⟩, fun sig h => by cases h; rfl⟩ a4_87 s_Mo_writes rfl rfl d_Mo_arms_120 (by rw [hrm]; exact ⟨Nat.le_of_ble_eq_true rfl, Nat.le_of_ble_eq_true rfl, Nat.le_of_ble_eq_true rfl, Nat.le_of_ble_eq_true rfl⟩) ?_
        show zV x ad (Lay K ad (stM (stM S 13 0 0) 13 3 (S.2.2 13 3 + 1))) _ _ _ 123 [.int 1]
        refine z_if_ne (tgt := 127) hx d_Mo_arms_123 (by decide) (fun _ => ?_) (fun h => absurd h (by decide))
        refine z_aload_n hx 1 d_Mo_arms_127 rfl ?_
        refine z_get hx k_Mo (t := 13) rfl 8 (by decide) a3_231 rfl d_Mo_arms_128 ?_
        refine z_iconst (v := 0) hx d_Mo_arms_131 rfl ?_
        refine z_iload_n hx 2 d_Mo_arms_132 rfl ?_
        refine z_iastK hx 0 rfl (t := 14) rfl (k := 0) (by omega) (by first | decide | omega)  d_Mo_arms_133 (ce1 := Lay K ad (stM (stM (stM S 13 0 0) 13 3 (S.2.2 13 3 + 1)) 14 0 a)) (Lay_put (by decide) rfl) ?_
        refine z_aload_n hx 1 d_Mo_arms_134 rfl ?_
        refine z_get hx k_Mo (t := 13) rfl 8 (by decide) a3_231 rfl d_Mo_arms_135 ?_
        refine z_iconst (v := 1) hx d_Mo_arms_138 rfl ?_
        refine z_iload_n hx 3 d_Mo_arms_139 rfl ?_
        refine z_iastK hx 0 rfl (t := 14) rfl (k := 1) (by omega) (by first | decide | omega)  d_Mo_arms_140 (ce1 := Lay K ad (stM (stM (stM (stM S 13 0 0) 13 3 (S.2.2 13 3 + 1)) 14 0 a) 14 1 b)) (Lay_put (by decide) rfl) ?_
        refine z_aload_n hx 1 d_Mo_arms_141 rfl ?_
        refine z_get hx k_Mo (t := 13) rfl 8 (by decide) a3_231 rfl d_Mo_arms_142 ?_
        refine z_iconst (v := 2) hx d_Mo_arms_145 rfl ?_
        refine z_iload_n hx 4 d_Mo_arms_146 rfl ?_
        refine z_iastK hx 0 rfl (t := 14) rfl (k := 2) (by omega) (by first | decide | omega)  d_Mo_arms_147 (ce1 := Lay K ad (stM (stM (stM (stM (stM S 13 0 0) 13 3 (S.2.2 13 3 + 1)) 14 0 a) 14 1 b) 14 2 c)) (Lay_put (by decide) rfl) ?_
        refine z_aload_n hx 1 d_Mo_arms_148 rfl ?_
        refine z_get hx k_Mo (t := 13) rfl 8 (by decide) a3_231 rfl d_Mo_arms_149 ?_
        refine z_iconst (v := 3) hx d_Mo_arms_152 rfl ?_
        refine z_iload hx 5 d_Mo_arms_153 rfl ?_
        refine z_iastK hx 0 rfl (t := 14) rfl (k := 3) (by omega) (by first | decide | omega)  d_Mo_arms_155 (ce1 := Lay K ad (stM (stM (stM (stM (stM (stM S 13 0 0) 13 3 (S.2.2 13 3 + 1)) 14 0 a) 14 1 b) 14 2 c) 14 3 d)) (Lay_put (by decide) rfl) ?_
        refine z_aload_n hx 1 d_Mo_arms_156 rfl ?_
        refine z_iload hx 5 d_Mo_arms_157 rfl ?_
        refine z_if_le (tgt := 166) hx d_Mo_arms_159 (by decide) (fun h8 => ?_) (fun h8 => ?_)
        · refine z_iload_n hx 4 d_Mo_arms_166 rfl ?_
          refine z_if_le (tgt := 174) hx d_Mo_arms_167 (by decide) (fun h9 => ?_) (fun h9 => ?_)
          · refine z_iconst (v := 2) hx d_Mo_arms_174 rfl ?_
            refine z_put hx k_Mo (t := 13) rfl 5 (by decide) a3_228 rfl rfl rfl (Nat.le_of_ble_eq_true rfl) d_Mo_arms_175 (ce1 := Lay K ad (stM (stM (stM (stM (stM (stM (stM S 13 0 0) 13 3 (S.2.2 13 3 + 1)) 14 0 a) 14 1 b) 14 2 c) 14 3 d) 13 5 2)) (Lay_put (by decide) rfl) ?_
            refine z_aload_n hx 1 d_Mo_arms_178 rfl ?_
            refine z_iload hx 6 d_Mo_arms_179 rfl ?_
            refine z_put hx k_Mo (t := 13) rfl 6 (by decide) a3_229 rfl rfl rfl (Nat.le_of_ble_eq_true rfl) d_Mo_arms_181 (ce1 := Lay K ad (stM (stM (stM (stM (stM (stM (stM (stM S 13 0 0) 13 3 (S.2.2 13 3 + 1)) 14 0 a) 14 1 b) 14 2 c) 14 3 d) 13 5 2) 13 6 z)) (Lay_put (by decide) rfl) ?_
            refine z_aload_n hx 1 d_Mo_arms_184 rfl ?_
            refine z_lload hx 7 d_Mo_arms_185 rfl ?_
            refine z_put hx k_Mo (t := 13) rfl 7 (by decide) a3_230 rfl rfl rfl (Nat.le_of_ble_eq_true rfl) d_Mo_arms_187 (ce1 := Lay K ad (stL (stM (stM (stM (stM (stM (stM (stM (stM S 13 0 0) 13 3 (S.2.2 13 3 + 1)) 14 0 a) 14 1 b) 14 2 c) 14 3 d) 13 5 2) 13 6 z) 13 7 w)) (Lay_putL rfl) ?_
            refine z_iconst (v := 0) hx d_Mo_arms_190 rfl ?_
            refine z_top (b := nI 0) rfl ?_
            refine z_istore hx [(9, .int (nI 0)), (8, .int 0), (0, .ref (ad 13)), (1, .int a), (2, .int b), (3, .int c), (4, .int d), (5, .int z), (6, .long w)] d_Mo_arms_191 (zN hml (by decide)) rfl ?_
            have q9 := L 8 0 (by omega) ⟨h6, h7⟩
            rw [amL, setM, show acM c d = 2 from by unfold acM; (first | rw [if_pos h8] | rw [if_neg h8]); (first | rw [if_pos h9] | rw [if_neg h9])] at q9
            exact z_lv [0, 2, 8] _ rfl q9
          · refine z_iconst (v := 3) hx d_Mo_arms_170 rfl ?_
            refine z_goto (tgt := 175) hx d_Mo_arms_171 (by decide) ?_
            refine z_put hx k_Mo (t := 13) rfl 5 (by decide) a3_228 rfl rfl rfl (Nat.le_of_ble_eq_true rfl) d_Mo_arms_175 (ce1 := Lay K ad (stM (stM (stM (stM (stM (stM (stM S 13 0 0) 13 3 (S.2.2 13 3 + 1)) 14 0 a) 14 1 b) 14 2 c) 14 3 d) 13 5 3)) (Lay_put (by decide) rfl) ?_
            refine z_aload_n hx 1 d_Mo_arms_178 rfl ?_
            refine z_iload hx 6 d_Mo_arms_179 rfl ?_
            refine z_put hx k_Mo (t := 13) rfl 6 (by decide) a3_229 rfl rfl rfl (Nat.le_of_ble_eq_true rfl) d_Mo_arms_181 (ce1 := Lay K ad (stM (stM (stM (stM (stM (stM (stM (stM S 13 0 0) 13 3 (S.2.2 13 3 + 1)) 14 0 a) 14 1 b) 14 2 c) 14 3 d) 13 5 3) 13 6 z)) (Lay_put (by decide) rfl) ?_
            refine z_aload_n hx 1 d_Mo_arms_184 rfl ?_
            refine z_lload hx 7 d_Mo_arms_185 rfl ?_
            refine z_put hx k_Mo (t := 13) rfl 7 (by decide) a3_230 rfl rfl rfl (Nat.le_of_ble_eq_true rfl) d_Mo_arms_187 (ce1 := Lay K ad (stL (stM (stM (stM (stM (stM (stM (stM (stM S 13 0 0) 13 3 (S.2.2 13 3 + 1)) 14 0 a) 14 1 b) 14 2 c) 14 3 d) 13 5 3) 13 6 z) 13 7 w)) (Lay_putL rfl) ?_
            refine z_iconst (v := 0) hx d_Mo_arms_190 rfl ?_
            refine z_top (b := nI 0) rfl ?_
            refine z_istore hx [(9, .int (nI 0)), (8, .int 0), (0, .ref (ad 13)), (1, .int a), (2, .int b), (3, .int c), (4, .int d), (5, .int z), (6, .long w)] d_Mo_arms_191 (zN hml (by decide)) rfl ?_
            have q9 := L 8 0 (by omega) ⟨h6, h7⟩
            rw [amL, setM, show acM c d = 3 from by unfold acM; (first | rw [if_pos h8] | rw [if_neg h8]); (first | rw [if_pos h9] | rw [if_neg h9])] at q9
            exact z_lv [0, 2, 8] _ rfl q9
        · refine z_iconst (v := 4) hx d_Mo_arms_162 rfl ?_
          refine z_goto (tgt := 175) hx d_Mo_arms_163 (by decide) ?_
          refine z_put hx k_Mo (t := 13) rfl 5 (by decide) a3_228 rfl rfl rfl (Nat.le_of_ble_eq_true rfl) d_Mo_arms_175 (ce1 := Lay K ad (stM (stM (stM (stM (stM (stM (stM S 13 0 0) 13 3 (S.2.2 13 3 + 1)) 14 0 a) 14 1 b) 14 2 c) 14 3 d) 13 5 4)) (Lay_put (by decide) rfl) ?_
          refine z_aload_n hx 1 d_Mo_arms_178 rfl ?_
          refine z_iload hx 6 d_Mo_arms_179 rfl ?_
          refine z_put hx k_Mo (t := 13) rfl 6 (by decide) a3_229 rfl rfl rfl (Nat.le_of_ble_eq_true rfl) d_Mo_arms_181 (ce1 := Lay K ad (stM (stM (stM (stM (stM (stM (stM (stM S 13 0 0) 13 3 (S.2.2 13 3 + 1)) 14 0 a) 14 1 b) 14 2 c) 14 3 d) 13 5 4) 13 6 z)) (Lay_put (by decide) rfl) ?_
          refine z_aload_n hx 1 d_Mo_arms_184 rfl ?_
          refine z_lload hx 7 d_Mo_arms_185 rfl ?_
          refine z_put hx k_Mo (t := 13) rfl 7 (by decide) a3_230 rfl rfl rfl (Nat.le_of_ble_eq_true rfl) d_Mo_arms_187 (ce1 := Lay K ad (stL (stM (stM (stM (stM (stM (stM (stM (stM S 13 0 0) 13 3 (S.2.2 13 3 + 1)) 14 0 a) 14 1 b) 14 2 c) 14 3 d) 13 5 4) 13 6 z) 13 7 w)) (Lay_putL rfl) ?_
          refine z_iconst (v := 0) hx d_Mo_arms_190 rfl ?_
          refine z_top (b := nI 0) rfl ?_
          refine z_istore hx [(9, .int (nI 0)), (8, .int 0), (0, .ref (ad 13)), (1, .int a), (2, .int b), (3, .int c), (4, .int d), (5, .int z), (6, .long w)] d_Mo_arms_191 (zN hml (by decide)) rfl ?_
          have q9 := L 8 0 (by omega) ⟨h6, h7⟩
          rw [amL, setM, show acM c d = 4 from by unfold acM; (first | rw [if_pos h8] | rw [if_neg h8])] at q9
          exact z_lv [0, 2, 8] _ rfl q9
      · refine z_cV hx (c_Mo_writes_torn (S := stM S 13 0 0) h7) k_Mo rfl ⟨a4_85, a4_88, a1_6, ⟨by decide +kernel, by decide +kernel⟩, fun sig h => by cases h; rfl⟩ a4_87 s_Mo_writes rfl rfl d_Mo_arms_120 (by rw [hrm]; exact ⟨Nat.le_of_ble_eq_true rfl, Nat.le_of_ble_eq_true rfl, Nat.le_of_ble_eq_true rfl, Nat.le_of_ble_eq_true rfl⟩) ?_
        show zV x ad (Lay K ad (stM (stM (stM S 13 0 0) 13 2 0) 13 1 1)) _ _ _ 123 [.int 0]
        refine z_if_ne (tgt := 127) hx d_Mo_arms_123 (by decide) (fun h => absurd (by decide) h) (fun _ => ?_)
        have e9 : mArms S a b c d z w = stM (stM (stM S 13 0 0) 13 2 0) 13 1 1 := by unfold mArms; (first | rw [if_pos h1] | rw [if_neg h1] | skip); (first | rw [if_pos h6] | rw [if_neg h6] | skip); (first | rw [if_pos h7] | rw [if_neg h7] | skip); (try rfl)
        exact z_vret hx hr hq (Nat.le_refl _) (Nat.le_refl _) d_Mo_arms_126 ⟨rfl, rfl, by rw [e9]⟩
