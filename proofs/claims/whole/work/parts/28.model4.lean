def pM (S : zSt) (i a : Nat) : Nat → Bool := fun q => decide (S.2.2 22 q = nI i ∧ S.2.2 23 q = nI a ∧ S.2.2 24 q = 0)
def frM (S : zSt) (i a : Nat) : Int32 := nI (cntI (pM S i a) 1000)
def kpM (S : zSt) (s r : Int32) (f : Nat) : Nat → zSt
  | 0 => S
  | k + 1 => stM (stM (kpM S s r f k) 22 (f + k) s) 23 (f + k) r
theorem kpM_n {S : zSt} {s r : Int32} {f k u : Nat} (h1 : u ≠ 22) (h2 : u ≠ 23) : (kpM S s r f k).2.2 u = S.2.2 u := by
  induction k with
  | zero => rfl
  | succ k ih => rw [kpM, stM_n h2, stM_n h1, ih]
def mKits (S : zSt) (i a k n : Nat) : Int32 × zSt := if S.2.2 13 1 = 0 then (if S.2.2 21 i = 2 then (-4, mS S) else if hasF (fun q => decide (¬ S.2.2 22 (k + q) < 0)) n 0 = 0 then (if S.2.2 13 2 = 0 then (frM (kpM (mwO S) (nI i) (nI a) k n) i a, kpM (mwO S) (nI i) (nI a) k n) else (-2, mwT S)) else (-5, mS S)) else (-2, mS S)
set_option maxRecDepth 20000 in
theorem c_Mo_kits {l : Launch} {D : va_G} {K : Nat → ClassId} {ad : Nat → Nat} {S : zSt} {i : Nat} (hi : i < 10) (ho : ¬ S.2.2 21 i ≤ 0) {a k n : Nat} (hk : k < 1000) (hn1 : 1 ≤ n) (hn5 : n ≤ 50) (hkn : k + n ≤ 1000) (hav : wiF (nI a) 0 (if S.2.2 13 5 = 0 then 3 else S.2.2 13 5 - 1) = 1) (hpl : ¬ S.2.2 13 5 = 0) (hr3 : lg_cmp (((nI k).toInt64 + (nI n).toInt64) - 1) 999 ≤ 0) (hc : wiF (nI n) 1 50 = 1) : zC l TB D zcls (ztyl K) y_Mo_kits (.code y_Mo_kits b_Mo_kits 7 (some FieldType.int)) (rmk 2 43) [.ref (ad 13), .int (nI i), .int (nI a), .int (nI k), .int (nI n)] ad (Lay K ad S) (zP K ad (some (.int (mKits S i a k n).1)) (mKits S i a k n).2) := by
  refine zC.of (by decide +kernel) (Nat.le_of_ble_eq_true rfl) ?_
  intro x hx hr hml hnm hrm hq hNH
  have Q : ∀ (m_Q j : Nat), j + m_Q = n → (S.2.2 13 1 = 0 ∧ ¬ S.2.2 21 i = 2) ∧ hasF (fun q => decide (¬ S.2.2 22 (k + q) < 0)) n 0 = 0 ∧ S.2.2 13 2 = 0 → zV x ad (Lay K ad (kpM (mwO S) (nI i) (nI a) k j)) 0 0 [(6, .int (nI (k + j))), (0, .ref (ad 13)), (1, .int (nI i)), (2, .int (nI a)), (3, .int (nI k)), (4, .int (nI n))] 155 [] := by
    intro m_Q
    induction m_Q with
    | zero =>
      intro j he_Q hV
      have e_Q : j = n := by omega
      refine z_iload hx 0 d_Mo_kits_155 rfl ?_
      refine z_iload_n hx 4 d_Mo_kits_157 rfl ?_
      refine z_iload hx 5 d_Mo_kits_158 rfl ?_
      refine z_iadd hx d_Mo_kits_160 ?_
      refine z_top (b := nI (k + n)) (nI_add _ _) ?_
      refine z_icmp_ge (tgt := 186) hx d_Mo_kits_161 (by decide) (fun _ => ?_) (fun h => absurd (nI_le (by omega) (by omega)) h)
      refine z_aload_n hx 1 d_Mo_kits_186 rfl ?_
      refine z_iload_n hx 2 d_Mo_kits_187 rfl ?_
      refine z_iload_n hx 3 d_Mo_kits_188 rfl ?_
      refine z_cV hx (c_Mo_free) k_Mo rfl ⟨a4_107, a4_110, a1_6, ⟨by decide +kernel, by decide +kernel⟩, fun sig h => by cases h; rfl⟩ a4_109 s_Mo_free rfl rfl d_Mo_kits_189 (by rw [hrm]; exact ⟨Nat.le_of_ble_eq_true rfl, Nat.le_of_ble_eq_true rfl, Nat.le_of_ble_eq_true rfl, Nat.le_of_ble_eq_true rfl⟩) ?_
      show zV x ad (Lay K ad (kpM (mwO S) (nI i) (nI a) k j)) _ _ _ 192 [.int (frM (kpM (mwO S) (nI i) (nI a) k j) i a)]
      subst e_Q
      have e9 : mKits S i a k j = (frM (kpM (mwO S) (nI i) (nI a) k j) i a, kpM (mwO S) (nI i) (nI a) k j) := by unfold mKits; rw [if_pos hV.1.1, if_neg hV.1.2, if_pos hV.2.1, if_pos hV.2.2]
      exact z_iret hx hr rfl hq (Nat.le_refl _) (Nat.le_refl _) d_Mo_kits_192 ⟨by rw [e9], rfl, by rw [e9]⟩
    | succ m_Q ih_Q =>
      intro j he_Q hV
      have l_Q : j < n := by omega
      refine z_iload hx 0 d_Mo_kits_155 rfl ?_
      refine z_iload_n hx 4 d_Mo_kits_157 rfl ?_
      refine z_iload hx 5 d_Mo_kits_158 rfl ?_
      refine z_iadd hx d_Mo_kits_160 ?_
      refine z_top (b := nI (k + n)) (nI_add _ _) ?_
      refine z_icmp_ge (tgt := 186) hx d_Mo_kits_161 (by decide) (fun h => absurd h (nI_ge (by omega) (by omega))) (fun _ => ?_)
      refine z_aload_n hx 1 d_Mo_kits_164 rfl ?_
      refine z_get hx k_Mo (t := 13) rfl 17 (by decide) a4_0 rfl d_Mo_kits_165 ?_
      refine z_iload hx 0 d_Mo_kits_168 rfl ?_
      refine z_iload_n hx 2 d_Mo_kits_170 rfl ?_
      refine z_iastK hx 0 rfl (t := 22) rfl (k := (k + j)) (by omega) (by first | decide | omega)  d_Mo_kits_171 (ce1 := Lay K ad (stM (kpM (mwO S) (nI i) (nI a) k j) 22 ((k + j)) (nI i))) (Lay_put (by decide) rfl) ?_
      refine z_aload_n hx 1 d_Mo_kits_172 rfl ?_
      refine z_get hx k_Mo (t := 13) rfl 18 (by decide) a4_1 rfl d_Mo_kits_173 ?_
      refine z_iload hx 0 d_Mo_kits_176 rfl ?_
      refine z_iload_n hx 3 d_Mo_kits_178 rfl ?_
      refine z_iastK hx 0 rfl (t := 23) rfl (k := (k + j)) (by omega) (by first | decide | omega)  d_Mo_kits_179 (ce1 := Lay K ad (stM (stM (kpM (mwO S) (nI i) (nI a) k j) 22 ((k + j)) (nI i)) 23 ((k + j)) (nI a))) (Lay_put (by decide) rfl) ?_
      refine z_iinc (v := nI (k + (j + 1))) hx 0 [(6, .int (nI (k + (j + 1)))), (0, .ref (ad 13)), (1, .int (nI i)), (2, .int (nI a)), (3, .int (nI k)), (4, .int (nI n))] d_Mo_kits_180 rfl (nI_1 _) (zN hml (by decide)) rfl ?_
      refine z_goto (tgt := 155) hx d_Mo_kits_183 (by decide) ?_
      exact z_lv [0, 1, 2, 3, 4, 5] _ rfl (ih_Q (j + 1) (by omega) hV)
  have L : ∀ (m_L j : Nat), j + m_L = n → (S.2.2 13 1 = 0 ∧ ¬ S.2.2 21 i = 2) ∧ hasF (fun q => decide (¬ S.2.2 22 (k + q) < 0)) m_L j = hasF (fun q => decide (¬ S.2.2 22 (k + q) < 0)) n 0 → zV x ad (Lay K ad (stM S 13 0 0)) 0 0 [(6, .int (nI (k + j))), (0, .ref (ad 13)), (1, .int (nI i)), (2, .int (nI a)), (3, .int (nI k)), (4, .int (nI n))] 114 [] := by
    intro m_L
    induction m_L with
    | zero =>
      intro j he_L hV
      have e_L : j = n := by omega
      refine z_iload hx 0 d_Mo_kits_114 rfl ?_
      refine z_iload_n hx 4 d_Mo_kits_116 rfl ?_
      refine z_iload hx 5 d_Mo_kits_117 rfl ?_
      refine z_iadd hx d_Mo_kits_119 ?_
      refine z_top (b := nI (k + n)) (nI_add _ _) ?_
      refine z_icmp_ge (tgt := 142) hx d_Mo_kits_120 (by decide) (fun _ => ?_) (fun h => absurd (nI_le (by omega) (by omega)) h)
      refine z_aload_n hx 1 d_Mo_kits_142 rfl ?_
      by_cases h1 : S.2.2 13 2 = 0
      · refine z_cV hx (c_Mo_writes_ok (S := stM S 13 0 0) h1) k_Mo rfl ⟨a4_85, a4_88, a1_6, ⟨by decide +kernel, by decide +kernel⟩, fun sig h => by cases h; rfl⟩ a4_87 s_Mo_writes rfl rfl d_Mo_kits_143 (by rw [hrm]; exact ⟨Nat.le_of_ble_eq_true rfl, Nat.le_of_ble_eq_true rfl, Nat.le_of_ble_eq_true rfl, Nat.le_of_ble_eq_true rfl⟩) ?_
        show zV x ad (Lay K ad (stM (stM S 13 0 0) 13 3 (S.2.2 13 3 + 1))) _ _ _ 146 [.int 1]
        refine z_if_ne (tgt := 152) hx d_Mo_kits_146 (by decide) (fun _ => ?_) (fun h => absurd h (by decide))
        refine z_iload_n hx 4 d_Mo_kits_152 rfl ?_
        refine z_top (b := nI (k + 0)) rfl ?_
        refine z_istore hx [(6, .int (nI (k + 0))), (0, .ref (ad 13)), (1, .int (nI i)), (2, .int (nI a)), (3, .int (nI k)), (4, .int (nI n))] d_Mo_kits_153 (zN hml (by decide)) rfl ?_
        exact z_lv [0, 1, 2, 3, 4, 5] _ rfl (Q n 0 (by omega) ⟨hV.1, by rw [← hV.2]; rfl, h1⟩)
      · refine z_cV hx (c_Mo_writes_torn (S := stM S 13 0 0) h1) k_Mo rfl ⟨a4_85, a4_88, a1_6, ⟨by decide +kernel, by decide +kernel⟩, fun sig h => by cases h; rfl⟩ a4_87 s_Mo_writes rfl rfl d_Mo_kits_143 (by rw [hrm]; exact ⟨Nat.le_of_ble_eq_true rfl, Nat.le_of_ble_eq_true rfl, Nat.le_of_ble_eq_true rfl, Nat.le_of_ble_eq_true rfl⟩) ?_
        show zV x ad (Lay K ad (stM (stM (stM S 13 0 0) 13 2 0) 13 1 1)) _ _ _ 146 [.int 0]
        refine z_if_ne (tgt := 152) hx d_Mo_kits_146 (by decide) (fun h => absurd (by decide) h) (fun _ => ?_)
        refine z_bipush (v := (-2)) hx d_Mo_kits_149 rfl ?_
        have h9 : hasF (fun q => decide (¬ S.2.2 22 (k + q) < 0)) n 0 = 0 := by rw [← hV.2]; rfl
        have e9 : mKits S i a k n = ((-2), stM (stM (stM S 13 0 0) 13 2 0) 13 1 1) := by unfold mKits; rw [if_pos hV.1.1, if_neg hV.1.2, if_pos h9, if_neg h1]
        exact z_iret hx hr rfl hq (Nat.le_refl _) (Nat.le_refl _) d_Mo_kits_151 ⟨by rw [e9], rfl, by rw [e9]⟩
    | succ m_L ih_L =>
      intro j he_L hV
      have l_L : j < n := by omega
      refine z_iload hx 0 d_Mo_kits_114 rfl ?_
      refine z_iload_n hx 4 d_Mo_kits_116 rfl ?_
      refine z_iload hx 5 d_Mo_kits_117 rfl ?_
      refine z_iadd hx d_Mo_kits_119 ?_
      refine z_top (b := nI (k + n)) (nI_add _ _) ?_
      refine z_icmp_ge (tgt := 142) hx d_Mo_kits_120 (by decide) (fun h => absurd h (nI_ge (by omega) (by omega))) (fun _ => ?_)
      refine z_aload_n hx 1 d_Mo_kits_123 rfl ?_
      refine z_get hx k_Mo (t := 13) rfl 17 (by decide) a4_0 rfl d_Mo_kits_124 ?_
      refine z_iload hx 0 d_Mo_kits_127 rfl ?_
      refine z_ialdK hx 0 rfl (t := 22) rfl (k := (k + j)) (by omega) (by first | decide | omega) d_Mo_kits_129 ?_
      refine z_top (b := S.2.2 22 (k + j)) (rd_n (by decide)) ?_
      refine z_if_lt (tgt := 136) hx d_Mo_kits_130 (by decide) (fun h1 => ?_) (fun h1 => ?_)
      · refine z_iinc (v := nI (k + (j + 1))) hx 0 [(6, .int (nI (k + (j + 1)))), (0, .ref (ad 13)), (1, .int (nI i)), (2, .int (nI a)), (3, .int (nI k)), (4, .int (nI n))] d_Mo_kits_136 rfl (nI_1 _) (zN hml (by decide)) rfl ?_
        refine z_goto (tgt := 114) hx d_Mo_kits_139 (by decide) ?_
        exact z_lv [0, 1, 2, 3, 4, 5] _ rfl (ih_L (j + 1) (by omega) ⟨hV.1, by rw [← hV.2, hasF, if_neg (by simpa using h1)]⟩)
      · refine z_bipush (v := (-5)) hx d_Mo_kits_133 rfl ?_
        have h9 : ¬ hasF (fun q => decide (¬ S.2.2 22 (k + q) < 0)) n 0 = 0 := by rw [← hV.2, hasF, if_pos (by simpa using h1)]; decide
        have e9 : mKits S i a k n = ((-5), stM S 13 0 0) := by unfold mKits; rw [if_pos hV.1.1, if_neg hV.1.2, if_neg h9]
        exact z_iret hx hr rfl hq (Nat.le_refl _) (Nat.le_refl _) d_Mo_kits_135 ⟨by rw [e9], rfl, by rw [e9]⟩
  show zV x ad (Lay K ad S) 0 0 [(0, .ref (ad 13)), (1, .int (nI i)), (2, .int (nI a)), (3, .int (nI k)), (4, .int (nI n))] 0 []
  refine z_aload_n hx 0 d_Mo_kits_0 rfl ?_
  refine z_iload_n hx 1 d_Mo_kits_1 rfl ?_
  refine z_cV hx (c_Mo_isSite_yes hi ho) k_Mo rfl ⟨a4_98, a4_101, a1_6, ⟨by decide +kernel, by decide +kernel⟩, fun sig h => by cases h; rfl⟩ a4_100 s_Mo_isSite rfl rfl d_Mo_kits_2 (by rw [hrm]; exact ⟨Nat.le_of_ble_eq_true rfl, Nat.le_of_ble_eq_true rfl, Nat.le_of_ble_eq_true rfl, Nat.le_of_ble_eq_true rfl⟩) ?_
  show zV x ad (Lay K ad S) _ _ _ 5 [.int 1]
  refine z_if_eq (tgt := 42) hx d_Mo_kits_5 (by decide) (fun h => absurd h (by decide)) (fun _ => ?_)
  refine z_aload_n hx 0 d_Mo_kits_8 rfl ?_
  refine z_iload_n hx 2 d_Mo_kits_9 rfl ?_
  refine z_cV hx (c_Mo_isArm) k_Mo rfl ⟨a4_102, a4_105, a1_6, ⟨by decide +kernel, by decide +kernel⟩, fun sig h => by cases h; rfl⟩ a4_104 s_Mo_isArm rfl rfl d_Mo_kits_10 (by rw [hrm]; exact ⟨Nat.le_of_ble_eq_true rfl, Nat.le_of_ble_eq_true rfl, Nat.le_of_ble_eq_true rfl, Nat.le_of_ble_eq_true rfl⟩) ?_
  show zV x ad (Lay K ad S) _ _ _ 13 [.int (wiF (nI a) 0 (if S.2.2 13 5 = 0 then 3 else S.2.2 13 5 - 1))]
  refine z_top (b := 1) hav ?_
  refine z_if_eq (tgt := 42) hx d_Mo_kits_13 (by decide) (fun h => absurd h (by decide)) (fun _ => ?_)
  refine z_iload_n hx 3 d_Mo_kits_16 rfl ?_
  refine z_iconst (v := 0) hx d_Mo_kits_17 rfl ?_
  refine z_sipush (v := 999) hx d_Mo_kits_18 rfl ?_
  refine z_cS hx (c_Mo_within) ⟨a4_78, a4_80, a1_6, ⟨by decide +kernel, by decide +kernel⟩, fun sig h => by cases h; rfl⟩ a4_79 rfl rfl d_Mo_kits_21 (by rw [hrm]; exact ⟨Nat.le_of_ble_eq_true rfl, Nat.le_of_ble_eq_true rfl, Nat.le_of_ble_eq_true rfl, Nat.le_of_ble_eq_true rfl⟩) ?_
  show zV x ad (Lay K ad S) _ _ _ 24 [.int (wiF (nI k) 0 999)]
  refine z_top (b := 1) (wi_nI 1000 (by decide) (by decide) hk) ?_
  refine z_if_eq (tgt := 42) hx d_Mo_kits_24 (by decide) (fun h => absurd h (by decide)) (fun _ => ?_)
  refine z_iload_n hx 3 d_Mo_kits_27 rfl ?_
  refine z_i2l hx d_Mo_kits_28 ?_
  refine z_iload hx 4 d_Mo_kits_29 rfl ?_
  refine z_i2l hx d_Mo_kits_31 ?_
  refine z_ladd hx d_Mo_kits_32 ?_
  refine z_lconst (v := 1) hx d_Mo_kits_33 rfl ?_
  refine z_lsub hx d_Mo_kits_34 ?_
  refine z_ldc2 (v := 999) hx d_Mo_kits_35 a4_106 ?_
  refine z_lcmp hx d_Mo_kits_38 ?_
  refine z_if_le (tgt := 46) hx d_Mo_kits_39 (by decide) (fun _ => ?_) (fun h => absurd hr3 h)
  refine z_iconst (v := 0) hx d_Mo_kits_46 rfl ?_
  refine z_istore hx [(5, .int 0), (0, .ref (ad 13)), (1, .int (nI i)), (2, .int (nI a)), (3, .int (nI k)), (4, .int (nI n))] d_Mo_kits_47 (zN hml (by decide)) rfl ?_
  refine z_aload_n hx 1 d_Mo_kits_49 rfl ?_
  refine z_iload hx 0 d_Mo_kits_50 rfl ?_
  refine z_aload_n hx 1 d_Mo_kits_52 rfl ?_
  refine z_get hx k_Mo (t := 13) rfl 5 (by decide) a3_228 rfl d_Mo_kits_53 ?_
  refine z_if_ne (tgt := 63) hx d_Mo_kits_56 (by decide) (fun _ => ?_) (fun h => absurd h hpl)
  refine z_iconst (v := 0) hx d_Mo_kits_63 rfl ?_
  refine z_iload hx 5 d_Mo_kits_64 rfl ?_
  refine z_iconst (v := 1) hx d_Mo_kits_66 rfl ?_
  refine z_bipush (v := 50) hx d_Mo_kits_67 rfl ?_
  refine z_cS hx (c_Mo_within) ⟨a4_78, a4_80, a1_6, ⟨by decide +kernel, by decide +kernel⟩, fun sig h => by cases h; rfl⟩ a4_79 rfl rfl d_Mo_kits_69 (by rw [hrm]; exact ⟨Nat.le_of_ble_eq_true rfl, Nat.le_of_ble_eq_true rfl, Nat.le_of_ble_eq_true rfl, Nat.le_of_ble_eq_true rfl⟩) ?_
  show zV x ad (Lay K ad S) _ _ _ 72 [.int (wiF (nI n) 1 50), .int 0, .int 0, .ref (ad 13)]
  refine z_top (b := 1) hc ?_
  refine z_if_ne (tgt := 79) hx d_Mo_kits_72 (by decide) (fun _ => ?_) (fun h => absurd h (by decide))
  refine z_iconst (v := 0) hx d_Mo_kits_79 rfl ?_
  refine z_cV hx (c_Mo_refused_0) k_Mo rfl ⟨a4_81, a4_84, a1_6, ⟨by decide +kernel, by decide +kernel⟩, fun sig h => by cases h; rfl⟩ a4_83 s_Mo_refused rfl rfl d_Mo_kits_80 (by rw [hrm]; exact ⟨Nat.le_of_ble_eq_true rfl, Nat.le_of_ble_eq_true rfl, Nat.le_of_ble_eq_true rfl, Nat.le_of_ble_eq_true rfl⟩) ?_
  show zV x ad (Lay K ad (stM S 13 0 0)) _ _ _ 83 [.int 0]
  refine z_if_eq (tgt := 88) hx d_Mo_kits_83 (by decide) (fun _ => ?_) (fun h => absurd (by decide) h)
  refine z_aload_n hx 1 d_Mo_kits_88 rfl ?_
  refine z_get hx k_Mo (t := 13) rfl 1 (by decide) a3_224 rfl d_Mo_kits_89 ?_
  refine z_top (b := S.2.2 13 1) (rd_j (by decide)) ?_
  refine z_if_eq (tgt := 98) hx d_Mo_kits_92 (by decide) (fun h1 => ?_) (fun h1 => ?_)
  · refine z_aload_n hx 1 d_Mo_kits_98 rfl ?_
    refine z_get hx k_Mo (t := 13) rfl 16 (by decide) a3_239 rfl d_Mo_kits_99 ?_
    refine z_iload_n hx 2 d_Mo_kits_102 rfl ?_
    refine z_ialdK hx 0 rfl (t := 21) rfl (k := i) (by omega) (by first | decide | omega) d_Mo_kits_103 ?_
    refine z_top (b := S.2.2 21 i) (rd_n (by decide)) ?_
    refine z_iconst (v := 2) hx d_Mo_kits_104 rfl ?_
    refine z_icmp_ne (tgt := 111) hx d_Mo_kits_105 (by decide) (fun h2 => ?_) (fun h2 => ?_)
    · refine z_iload_n hx 4 d_Mo_kits_111 rfl ?_
      refine z_top (b := nI (k + 0)) rfl ?_
      refine z_istore hx [(6, .int (nI (k + 0))), (5, .int 0), (0, .ref (ad 13)), (1, .int (nI i)), (2, .int (nI a)), (3, .int (nI k)), (4, .int (nI n))] d_Mo_kits_112 (zN hml (by decide)) rfl ?_
      exact z_lv [0, 2, 3, 4, 5, 6] _ rfl (L n 0 (by omega) ⟨⟨h1, h2⟩, rfl⟩)
    · refine z_bipush (v := (-4)) hx d_Mo_kits_108 rfl ?_
      have e9 : mKits S i a k n = ((-4), stM S 13 0 0) := by unfold mKits; (first | rw [if_pos h1] | rw [if_neg h1] | skip); (first | rw [if_pos h2] | rw [if_neg h2] | skip); (try rfl)
      exact z_iret hx hr rfl hq (Nat.le_refl _) (Nat.le_refl _) d_Mo_kits_110 ⟨by rw [e9], rfl, by rw [e9]⟩
  · refine z_bipush (v := (-2)) hx d_Mo_kits_95 rfl ?_
    have e9 : mKits S i a k n = ((-2), stM S 13 0 0) := by unfold mKits; (first | rw [if_pos h1] | rw [if_neg h1] | skip); (try rfl)
    exact z_iret hx hr rfl hq (Nat.le_refl _) (Nat.le_refl _) d_Mo_kits_97 ⟨by rw [e9], rfl, by rw [e9]⟩
def clR (S : zSt) (i : Nat) : Nat → zSt
  | 0 => S
  | k + 1 => stM (clR S i k) 30 (8 * i + k) (-1)
def clN (S : zSt) (i : Nat) : Nat → Int32
  | 0 => 0
  | k + 1 => if S.2.2 30 (8 * i + k) < 0 then clN S i k else clN S i k + S.2.2 13 6 - S.2.2 31 (8 * i + k)
def clP (S : zSt) (i : Nat) : Nat → zSt
  | 0 => S
  | k + 1 => stM (clP S i k) 25 (100 * i + k) (if S.2.2 25 (100 * i + k) = 2 then 3 else S.2.2 25 (100 * i + k))
theorem clR_n {S : zSt} {i k u : Nat} (h : u ≠ 30) : (clR S i k).2.2 u = S.2.2 u := by
  induction k with
  | zero => rfl
  | succ k ih => rw [clR, stM_n h, ih]
theorem clR_k {S : zSt} {i k q : Nat} (h : k ≤ q) : (clR S i k).2.2 30 (8 * i + q) = S.2.2 30 (8 * i + q) := by
  induction k with
  | zero => rfl
  | succ k ih => rw [clR, rd_j (by omega), ih (by omega)]
theorem clP_n {S : zSt} {i k u : Nat} (h : u ≠ 25) : (clP S i k).2.2 u = S.2.2 u := by
  induction k with
  | zero => rfl
  | succ k ih => rw [clP, stM_n h, ih]
theorem clP_k {S : zSt} {i k q : Nat} (h : k ≤ q) : (clP S i k).2.2 25 (100 * i + q) = S.2.2 25 (100 * i + q) := by
  induction k with
  | zero => rfl
  | succ k ih => rw [clP, rd_j (by omega), ih (by omega)]
def clT (S : zSt) (i : Nat) : zSt := stM (clP (clR (mwO S) i 8) i 100) 21 i 2
def mClose (S : zSt) (i : Nat) : Int32 × zSt := if S.2.2 13 1 = 0 then (if S.2.2 21 i = 2 then (-4, mS S) else if S.2.2 13 2 = 0 then (clN S i 8, clT S i) else (-2, mwT S)) else (-2, mS S)
set_option maxRecDepth 20000 in
theorem c_Mo_close {l : Launch} {D : va_G} {K : Nat → ClassId} {ad : Nat → Nat} {S : zSt} {i : Nat} (hi : i < 10) (ho : ¬ S.2.2 21 i ≤ 0) : zC l TB D zcls (ztyl K) y_Mo_close (.code y_Mo_close b_Mo_close 4 (some FieldType.int)) (rmk 2 43) [.ref (ad 13), .int (nI i)] ad (Lay K ad S) (zP K ad (some (.int (mClose S i).1)) (mClose S i).2) := by
  refine zC.of (by decide +kernel) (Nat.le_of_ble_eq_true rfl) ?_
  intro x hx hr hml hnm hrm hq hNH
  have Q : ∀ (m_Q k : Nat), k + m_Q = 100 → (S.2.2 13 1 = 0 ∧ ¬ S.2.2 21 i = 2 ∧ S.2.2 13 2 = 0) → zV x ad (Lay K ad (clP (clR (mwO S) i 8) i k)) 0 0 [(3, .int (nI (100 * i + k))), (2, .int (clN S i 8)), (0, .ref (ad 13)), (1, .int (nI i))] 129 [] := by
    intro m_Q
    induction m_Q with
    | zero =>
      intro k he_Q hV
      have e_Q : k = 100 := by omega
      refine z_iload_n hx 0 d_Mo_close_129 rfl ?_
      refine z_bipush (v := 100) hx d_Mo_close_130 rfl ?_
      refine z_iload_n hx 3 d_Mo_close_132 rfl ?_
      refine z_imul hx d_Mo_close_133 ?_
      refine z_top (b := nI (100 * i)) (pk_mul 100 i) ?_
      refine z_bipush (v := 100) hx d_Mo_close_134 rfl ?_
      refine z_iadd hx d_Mo_close_136 ?_
      refine z_top (b := nI (100 * i + 100)) (nI_add _ 100) ?_
      refine z_icmp_ge (tgt := 172) hx d_Mo_close_137 (by decide) (fun _ => ?_) (fun h => absurd (nI_le (by omega) (by omega)) h)
      refine z_aload_n hx 2 d_Mo_close_172 rfl ?_
      refine z_get hx k_Mo (t := 13) rfl 16 (by decide) a3_239 rfl d_Mo_close_173 ?_
      refine z_iload_n hx 3 d_Mo_close_176 rfl ?_
      refine z_iconst (v := 2) hx d_Mo_close_177 rfl ?_
      refine z_iastK hx 0 rfl (t := 21) rfl (k := i) (by omega) (by first | decide | omega)  d_Mo_close_178 (ce1 := Lay K ad (stM (clP (clR (mwO S) i 8) i k) 21 i 2)) (Lay_put (by decide) rfl) ?_
      refine z_iload_n hx 1 d_Mo_close_179 rfl ?_
      subst e_Q
      have e9 : mClose S i = (clN S i 8, clT S i) := by unfold mClose; rw [if_pos hV.1, if_neg hV.2.1, if_pos hV.2.2]
      exact z_iret hx hr rfl hq (Nat.le_refl _) (Nat.le_refl _) d_Mo_close_180 ⟨by rw [e9], rfl, by rw [e9]; rfl⟩
    | succ m_Q ih_Q =>
      intro k he_Q hV
      have l_Q : k < 100 := by omega
      refine z_iload_n hx 0 d_Mo_close_129 rfl ?_
      refine z_bipush (v := 100) hx d_Mo_close_130 rfl ?_
      refine z_iload_n hx 3 d_Mo_close_132 rfl ?_
      refine z_imul hx d_Mo_close_133 ?_
      refine z_top (b := nI (100 * i)) (pk_mul 100 i) ?_
      refine z_bipush (v := 100) hx d_Mo_close_134 rfl ?_
      refine z_iadd hx d_Mo_close_136 ?_
      refine z_top (b := nI (100 * i + 100)) (nI_add _ 100) ?_
      refine z_icmp_ge (tgt := 172) hx d_Mo_close_137 (by decide) (fun h => absurd h (nI_ge (by omega) (by omega))) (fun _ => ?_)
      refine z_aload_n hx 2 d_Mo_close_140 rfl ?_
      refine z_get hx k_Mo (t := 13) rfl 20 (by decide) a4_3 rfl d_Mo_close_141 ?_
      refine z_iload_n hx 0 d_Mo_close_144 rfl ?_
      refine z_aload_n hx 2 d_Mo_close_145 rfl ?_
      refine z_get hx k_Mo (t := 13) rfl 20 (by decide) a4_3 rfl d_Mo_close_146 ?_
      refine z_iload_n hx 0 d_Mo_close_149 rfl ?_
      refine z_ialdK hx 0 rfl (t := 25) rfl (k := (100 * i + k)) (by omega) (by first | decide | omega) d_Mo_close_150 ?_
      refine z_top (b := (clR (mwO S) i 8).2.2 25 (100 * i + k)) (clP_k (Nat.le_refl _)) ?_
      refine z_iconst (v := 2) hx d_Mo_close_151 rfl ?_
      refine z_icmp_ne (tgt := 159) hx d_Mo_close_152 (by decide) (fun h1 => ?_) (fun h1 => ?_)
      · refine z_aload_n hx 2 d_Mo_close_159 rfl ?_
        refine z_get hx k_Mo (t := 13) rfl 20 (by decide) a4_3 rfl d_Mo_close_160 ?_
        refine z_iload_n hx 0 d_Mo_close_163 rfl ?_
        refine z_ialdK hx 0 rfl (t := 25) rfl (k := (100 * i + k)) (by omega) (by first | decide | omega) d_Mo_close_164 ?_
        refine z_top (b := (clR (mwO S) i 8).2.2 25 (100 * i + k)) (clP_k (Nat.le_refl _)) ?_
        refine z_iastK hx 0 rfl (t := 25) rfl (k := (100 * i + k)) (by omega) (by first | decide | omega)  d_Mo_close_165 (ce1 := Lay K ad (stM (clP (clR (mwO S) i 8) i k) 25 ((100 * i + k)) ((clR (mwO S) i 8).2.2 25 (100 * i + k)))) (Lay_put (by decide) rfl) ?_
        refine z_iinc (v := nI (100 * i + (k + 1))) hx 0 [(3, .int (nI (100 * i + (k + 1)))), (2, .int (clN S i 8)), (0, .ref (ad 13)), (1, .int (nI i))] d_Mo_close_166 rfl (nI_1 _) (zN hml (by decide)) rfl ?_
        refine z_goto (tgt := 129) hx d_Mo_close_169 (by decide) ?_
        have q9 := ih_Q (k + 1) (by omega) hV
        rw [clP] at q9
        (first | rw [if_pos h1] at q9 | rw [if_neg h1] at q9)
        exact z_lv [0, 1, 2, 3] _ rfl q9
      · refine z_iconst (v := 3) hx d_Mo_close_155 rfl ?_
        refine z_goto (tgt := 165) hx d_Mo_close_156 (by decide) ?_
        refine z_iastK hx 0 rfl (t := 25) rfl (k := (100 * i + k)) (by omega) (by first | decide | omega)  d_Mo_close_165 (ce1 := Lay K ad (stM (clP (clR (mwO S) i 8) i k) 25 ((100 * i + k)) 3)) (Lay_put (by decide) rfl) ?_
        refine z_iinc (v := nI (100 * i + (k + 1))) hx 0 [(3, .int (nI (100 * i + (k + 1)))), (2, .int (clN S i 8)), (0, .ref (ad 13)), (1, .int (nI i))] d_Mo_close_166 rfl (nI_1 _) (zN hml (by decide)) rfl ?_
        refine z_goto (tgt := 129) hx d_Mo_close_169 (by decide) ?_
        have q9 := ih_Q (k + 1) (by omega) hV
        rw [clP] at q9
        (first | rw [if_pos h1] at q9 | rw [if_neg h1] at q9)
        exact z_lv [0, 1, 2, 3] _ rfl q9
  have L : ∀ (m_L k : Nat), k + m_L = 8 → (S.2.2 13 1 = 0 ∧ ¬ S.2.2 21 i = 2 ∧ S.2.2 13 2 = 0) → zV x ad (Lay K ad (clR (mwO S) i k)) 0 0 [(3, .int (nI (8 * i + k))), (2, .int (clN S i k)), (0, .ref (ad 13)), (1, .int (nI i))] 73 [] := by
    intro m_L
    induction m_L with
    | zero =>
      intro k he_L hV
      have e_L : k = 8 := by omega
      refine z_iload_n hx 0 d_Mo_close_73 rfl ?_
      refine z_bipush (v := 8) hx d_Mo_close_74 rfl ?_
      refine z_iload_n hx 3 d_Mo_close_76 rfl ?_
      refine z_imul hx d_Mo_close_77 ?_
      refine z_top (b := nI (8 * i)) (pk_mul 8 i) ?_
      refine z_bipush (v := 8) hx d_Mo_close_78 rfl ?_
      refine z_iadd hx d_Mo_close_80 ?_
      refine z_top (b := nI (8 * i + 8)) (nI_add _ 8) ?_
      refine z_icmp_ge (tgt := 124) hx d_Mo_close_81 (by decide) (fun _ => ?_) (fun h => absurd (nI_le (by omega) (by omega)) h)
      refine z_bipush (v := 100) hx d_Mo_close_124 rfl ?_
      refine z_iload_n hx 3 d_Mo_close_126 rfl ?_
      refine z_imul hx d_Mo_close_127 ?_
      refine z_top (b := nI (100 * i + 0)) (pk_mul 100 i) ?_
      refine z_istore_n hx [(3, .int (nI (100 * i + 0))), (2, .int (clN S i k)), (0, .ref (ad 13)), (1, .int (nI i))] d_Mo_close_128 rfl (zN hml (by decide)) rfl ?_
      subst e_L
      exact z_lv [0, 1, 2, 3] _ rfl (Q 100 0 (by omega) hV)
    | succ m_L ih_L =>
      intro k he_L hV
      have l_L : k < 8 := by omega
      refine z_iload_n hx 0 d_Mo_close_73 rfl ?_
      refine z_bipush (v := 8) hx d_Mo_close_74 rfl ?_
      refine z_iload_n hx 3 d_Mo_close_76 rfl ?_
      refine z_imul hx d_Mo_close_77 ?_
      refine z_top (b := nI (8 * i)) (pk_mul 8 i) ?_
      refine z_bipush (v := 8) hx d_Mo_close_78 rfl ?_
      refine z_iadd hx d_Mo_close_80 ?_
      refine z_top (b := nI (8 * i + 8)) (nI_add _ 8) ?_
      refine z_icmp_ge (tgt := 124) hx d_Mo_close_81 (by decide) (fun h => absurd h (nI_ge (by omega) (by omega))) (fun _ => ?_)
      refine z_aload_n hx 2 d_Mo_close_84 rfl ?_
      refine z_get hx k_Mo (t := 13) rfl 25 (by decide) a4_8 rfl d_Mo_close_85 ?_
      refine z_iload_n hx 0 d_Mo_close_88 rfl ?_
      refine z_ialdK hx 0 rfl (t := 30) rfl (k := (8 * i + k)) (by omega) (by first | decide | omega) d_Mo_close_89 ?_
      refine z_top (b := S.2.2 30 (8 * i + k)) (clR_k (Nat.le_refl _)) ?_
      refine z_if_lt (tgt := 109) hx d_Mo_close_90 (by decide) (fun h1 => ?_) (fun h1 => ?_)
      · refine z_iload_n hx 1 d_Mo_close_109 rfl ?_
        refine z_istore_n hx [(2, .int (clN S i k)), (3, .int (nI (8 * i + k))), (0, .ref (ad 13)), (1, .int (nI i))] d_Mo_close_110 rfl (zN hml (by decide)) rfl ?_
        refine z_aload_n hx 2 d_Mo_close_111 rfl ?_
        refine z_get hx k_Mo (t := 13) rfl 25 (by decide) a4_8 rfl d_Mo_close_112 ?_
        refine z_iload_n hx 1 d_Mo_close_115 rfl ?_
        refine z_iconst (v := (-1)) hx d_Mo_close_116 rfl ?_
        refine z_iastK hx 0 rfl (t := 30) rfl (k := (8 * i + k)) (by omega) (by first | decide | omega)  d_Mo_close_117 (ce1 := Lay K ad (stM (clR (mwO S) i k) 30 ((8 * i + k)) ((-1)))) (Lay_put (by decide) rfl) ?_
        refine z_iinc (v := nI (8 * i + (k + 1))) hx 1 [(3, .int (nI (8 * i + (k + 1)))), (2, .int (clN S i k)), (0, .ref (ad 13)), (1, .int (nI i))] d_Mo_close_118 rfl (nI_1 _) (zN hml (by decide)) rfl ?_
        refine z_goto (tgt := 73) hx d_Mo_close_121 (by decide) ?_
        have q9 := ih_L (k + 1) (by omega) hV
        rw [show clN S i (k + 1) = clN S i k from by rw [clN]; first | rw [if_pos h1] | rw [if_neg h1]] at q9
        exact z_lv [0, 1, 2, 3] _ rfl q9
      · refine z_iload_n hx 1 d_Mo_close_93 rfl ?_
        refine z_aload_n hx 2 d_Mo_close_94 rfl ?_
        refine z_get hx k_Mo (t := 13) rfl 6 (by decide) a3_229 rfl d_Mo_close_95 ?_
        refine z_top (b := S.2.2 13 6) (by rw [clR_n (by decide)]; rfl) ?_
        refine z_iadd hx d_Mo_close_98 ?_
        refine z_aload_n hx 2 d_Mo_close_99 rfl ?_
        refine z_get hx k_Mo (t := 13) rfl 26 (by decide) a4_9 rfl d_Mo_close_100 ?_
        refine z_iload_n hx 0 d_Mo_close_103 rfl ?_
        refine z_ialdK hx 0 rfl (t := 31) rfl (k := (8 * i + k)) (by omega) (by first | decide | omega) d_Mo_close_104 ?_
        refine z_top (b := S.2.2 31 (8 * i + k)) (by rw [clR_n (by decide)]; rfl) ?_
        refine z_isub hx d_Mo_close_105 ?_
        refine z_goto (tgt := 110) hx d_Mo_close_106 (by decide) ?_
        refine z_istore_n hx [(2, .int (((clN S i k) + (S.2.2 13 6)) - (S.2.2 31 (8 * i + k)))), (3, .int (nI (8 * i + k))), (0, .ref (ad 13)), (1, .int (nI i))] d_Mo_close_110 rfl (zN hml (by decide)) rfl ?_
        refine z_aload_n hx 2 d_Mo_close_111 rfl ?_
        refine z_get hx k_Mo (t := 13) rfl 25 (by decide) a4_8 rfl d_Mo_close_112 ?_
        refine z_iload_n hx 1 d_Mo_close_115 rfl ?_
        refine z_iconst (v := (-1)) hx d_Mo_close_116 rfl ?_
        refine z_iastK hx 0 rfl (t := 30) rfl (k := (8 * i + k)) (by omega) (by first | decide | omega)  d_Mo_close_117 (ce1 := Lay K ad (stM (clR (mwO S) i k) 30 ((8 * i + k)) ((-1)))) (Lay_put (by decide) rfl) ?_
        refine z_iinc (v := nI (8 * i + (k + 1))) hx 1 [(3, .int (nI (8 * i + (k + 1)))), (2, .int (((clN S i k) + (S.2.2 13 6)) - (S.2.2 31 (8 * i + k)))), (0, .ref (ad 13)), (1, .int (nI i))] d_Mo_close_118 rfl (nI_1 _) (zN hml (by decide)) rfl ?_
        refine z_goto (tgt := 73) hx d_Mo_close_121 (by decide) ?_
        have q9 := ih_L (k + 1) (by omega) hV
        rw [show clN S i (k + 1) = ((clN S i k) + (S.2.2 13 6)) - (S.2.2 31 (8 * i + k)) from by rw [clN]; first | rw [if_pos h1] | rw [if_neg h1]] at q9
        exact z_lv [0, 1, 2, 3] _ rfl q9
  show zV x ad (Lay K ad S) 0 0 [(0, .ref (ad 13)), (1, .int (nI i))] 0 []
  refine z_aload_n hx 0 d_Mo_close_0 rfl ?_
  refine z_aload_n hx 0 d_Mo_close_1 rfl ?_
  refine z_iload_n hx 1 d_Mo_close_2 rfl ?_
  refine z_cV hx (c_Mo_isSite_yes hi ho) k_Mo rfl ⟨a4_98, a4_101, a1_6, ⟨by decide +kernel, by decide +kernel⟩, fun sig h => by cases h; rfl⟩ a4_100 s_Mo_isSite rfl rfl d_Mo_close_3 (by rw [hrm]; exact ⟨Nat.le_of_ble_eq_true rfl, Nat.le_of_ble_eq_true rfl, Nat.le_of_ble_eq_true rfl, Nat.le_of_ble_eq_true rfl⟩) ?_
  show zV x ad (Lay K ad S) _ _ _ 6 [.int 1, .ref (ad 13)]
  refine z_if_ne (tgt := 13) hx d_Mo_close_6 (by decide) (fun _ => ?_) (fun h => absurd h (by decide))
  refine z_iconst (v := 0) hx d_Mo_close_13 rfl ?_
  refine z_iconst (v := 0) hx d_Mo_close_14 rfl ?_
  refine z_iconst (v := 0) hx d_Mo_close_15 rfl ?_
  refine z_cV hx (c_Mo_refused_0) k_Mo rfl ⟨a4_81, a4_84, a1_6, ⟨by decide +kernel, by decide +kernel⟩, fun sig h => by cases h; rfl⟩ a4_83 s_Mo_refused rfl rfl d_Mo_close_16 (by rw [hrm]; exact ⟨Nat.le_of_ble_eq_true rfl, Nat.le_of_ble_eq_true rfl, Nat.le_of_ble_eq_true rfl, Nat.le_of_ble_eq_true rfl⟩) ?_
  show zV x ad (Lay K ad (stM S 13 0 0)) _ _ _ 19 [.int 0]
  refine z_if_eq (tgt := 24) hx d_Mo_close_19 (by decide) (fun _ => ?_) (fun h => absurd (by decide) h)
  refine z_aload_n hx 0 d_Mo_close_24 rfl ?_
  refine z_get hx k_Mo (t := 13) rfl 1 (by decide) a3_224 rfl d_Mo_close_25 ?_
  refine z_top (b := S.2.2 13 1) (rd_j (by decide)) ?_
  refine z_if_ne (tgt := 41) hx d_Mo_close_28 (by decide) (fun h1 => ?_) (fun h1 => ?_)
  · refine z_aload_n hx 0 d_Mo_close_41 rfl ?_
    refine z_get hx k_Mo (t := 13) rfl 1 (by decide) a3_224 rfl d_Mo_close_42 ?_
    refine z_top (b := S.2.2 13 1) (rd_j (by decide)) ?_
    refine z_if_eq (tgt := 53) hx d_Mo_close_45 (by decide) (fun h => absurd h h1) (fun _ => ?_)
    refine z_bipush (v := (-2)) hx d_Mo_close_48 rfl ?_
    refine z_goto (tgt := 55) hx d_Mo_close_50 (by decide) ?_
    have e9 : mClose S i = ((-2), stM S 13 0 0) := by unfold mClose; (first | rw [if_pos h1] | rw [if_neg h1] | skip); (try rfl)
    exact z_iret hx hr rfl hq (Nat.le_refl _) (Nat.le_refl _) d_Mo_close_55 ⟨by rw [e9], rfl, by rw [e9]⟩
  · refine z_aload_n hx 0 d_Mo_close_31 rfl ?_
    refine z_get hx k_Mo (t := 13) rfl 16 (by decide) a3_239 rfl d_Mo_close_32 ?_
    refine z_iload_n hx 1 d_Mo_close_35 rfl ?_
    refine z_ialdK hx 0 rfl (t := 21) rfl (k := i) (by omega) (by first | decide | omega) d_Mo_close_36 ?_
    refine z_top (b := S.2.2 21 i) (rd_n (by decide)) ?_
    refine z_iconst (v := 2) hx d_Mo_close_37 rfl ?_
    refine z_icmp_ne (tgt := 56) hx d_Mo_close_38 (by decide) (fun h2 => ?_) (fun h2 => ?_)
    · refine z_aload_n hx 0 d_Mo_close_56 rfl ?_
      by_cases h3 : S.2.2 13 2 = 0
      · refine z_cV hx (c_Mo_writes_ok (S := stM S 13 0 0) h3) k_Mo rfl ⟨a4_85, a4_88, a1_6, ⟨by decide +kernel, by decide +kernel⟩, fun sig h => by cases h; rfl⟩ a4_87 s_Mo_writes rfl rfl d_Mo_close_57 (by rw [hrm]; exact ⟨Nat.le_of_ble_eq_true rfl, Nat.le_of_ble_eq_true rfl, Nat.le_of_ble_eq_true rfl, Nat.le_of_ble_eq_true rfl⟩) ?_
        show zV x ad (Lay K ad (stM (stM S 13 0 0) 13 3 (S.2.2 13 3 + 1))) _ _ _ 60 [.int 1]
        refine z_if_ne (tgt := 66) hx d_Mo_close_60 (by decide) (fun _ => ?_) (fun h => absurd h (by decide))
        refine z_iconst (v := 0) hx d_Mo_close_66 rfl ?_
        refine z_top (b := clN S i 0) rfl ?_
        refine z_istore_n hx [(2, .int (clN S i 0)), (0, .ref (ad 13)), (1, .int (nI i))] d_Mo_close_67 rfl (zN hml (by decide)) rfl ?_
        refine z_bipush (v := 8) hx d_Mo_close_68 rfl ?_
        refine z_iload_n hx 2 d_Mo_close_70 rfl ?_
        refine z_imul hx d_Mo_close_71 ?_
        refine z_top (b := nI (8 * i + 0)) (pk_mul 8 i) ?_
        refine z_istore_n hx [(3, .int (nI (8 * i + 0))), (2, .int (clN S i 0)), (0, .ref (ad 13)), (1, .int (nI i))] d_Mo_close_72 rfl (zN hml (by decide)) rfl ?_
        exact z_lv [0, 1, 2, 3] _ rfl (L 8 0 (by omega) ⟨h1, h2, h3⟩)
      · refine z_cV hx (c_Mo_writes_torn (S := stM S 13 0 0) h3) k_Mo rfl ⟨a4_85, a4_88, a1_6, ⟨by decide +kernel, by decide +kernel⟩, fun sig h => by cases h; rfl⟩ a4_87 s_Mo_writes rfl rfl d_Mo_close_57 (by rw [hrm]; exact ⟨Nat.le_of_ble_eq_true rfl, Nat.le_of_ble_eq_true rfl, Nat.le_of_ble_eq_true rfl, Nat.le_of_ble_eq_true rfl⟩) ?_
        show zV x ad (Lay K ad (stM (stM (stM S 13 0 0) 13 2 0) 13 1 1)) _ _ _ 60 [.int 0]
        refine z_if_ne (tgt := 66) hx d_Mo_close_60 (by decide) (fun h => absurd (by decide) h) (fun _ => ?_)
        refine z_bipush (v := (-2)) hx d_Mo_close_63 rfl ?_
        have e9 : mClose S i = ((-2), stM (stM (stM S 13 0 0) 13 2 0) 13 1 1) := by unfold mClose; (first | rw [if_pos h1] | rw [if_neg h1] | skip); (first | rw [if_pos h2] | rw [if_neg h2] | skip); (first | rw [if_pos h3] | rw [if_neg h3] | skip); (try rfl)
        exact z_iret hx hr rfl hq (Nat.le_refl _) (Nat.le_refl _) d_Mo_close_65 ⟨by rw [e9], rfl, by rw [e9]⟩
    · refine z_aload_n hx 0 d_Mo_close_41 rfl ?_
      refine z_get hx k_Mo (t := 13) rfl 1 (by decide) a3_224 rfl d_Mo_close_42 ?_
      refine z_top (b := S.2.2 13 1) (rd_j (by decide)) ?_
      refine z_if_eq (tgt := 53) hx d_Mo_close_45 (by decide) (fun _ => ?_) (fun h => absurd h1 h)
      refine z_bipush (v := (-4)) hx d_Mo_close_53 rfl ?_
      have e9 : mClose S i = ((-4), stM S 13 0 0) := by unfold mClose; (first | rw [if_pos h1] | rw [if_neg h1] | skip); (first | rw [if_pos h2] | rw [if_neg h2] | skip); (try rfl)
      exact z_iret hx hr rfl hq (Nat.le_refl _) (Nat.le_refl _) d_Mo_close_55 ⟨by rw [e9], rfl, by rw [e9]⟩
def rpP (S : zSt) (i : Nat) : Nat → zSt
  | 0 => S
  | k + 1 => if S.2.2 25 (100 * i + k) = 2 then stM (rpP S i k) 25 (100 * i + k) 1 else rpP S i k
theorem rpP_n {S : zSt} {i k u : Nat} (h : u ≠ 25) : (rpP S i k).2.2 u = S.2.2 u := by
  induction k with
  | zero => rfl
  | succ k ih =>
    rw [rpP]
    by_cases q : S.2.2 25 (100 * i + k) = 2
    · rw [if_pos q, stM_n h, ih]
    · rw [if_neg q, ih]
theorem rpP_k {S : zSt} {i k q : Nat} (h : k ≤ q) : (rpP S i k).2.2 25 (100 * i + q) = S.2.2 25 (100 * i + q) := by
  induction k with
  | zero => rfl
  | succ k ih =>
    rw [rpP]
    by_cases z : S.2.2 25 (100 * i + k) = 2
    · rw [if_pos z, rd_j (by omega), ih (by omega)]
    · rw [if_neg z, ih (by omega)]
def rkI (S : zSt) (r n : Nat) (gk : Nat → Nat) : Nat → zSt
  | 0 => S
  | j + 1 => stM (rkI S r n gk j) 24 (gk (24 * r + (n + j))) 0
theorem rkI_n {S : zSt} {r n j u : Nat} {gk : Nat → Nat} (h : u ≠ 24) : (rkI S r n gk j).2.2 u = S.2.2 u := by
  induction j with
  | zero => rfl
  | succ j ih => rw [rkI, stM_n h, ih]
def rpR (S : zSt) (i Z : Nat) (nx gk : Nat → Nat) : Nat → zSt
  | 0 => S
  | k + 1 => stM (if S.2.2 30 (8 * i + k) < 0 then rpR S i Z nx gk k else rkI (rpR S i Z nx gk k) (8 * i + k) (nx (8 * i + k)) gk (Z - nx (8 * i + k))) 30 (8 * i + k) (-1)
theorem rpR_n {S : zSt} {i Z k u : Nat} {nx gk : Nat → Nat} (h1 : u ≠ 30) (h2 : u ≠ 24) : (rpR S i Z nx gk k).2.2 u = S.2.2 u := by
  induction k with
  | zero => rfl
  | succ k ih =>
    rw [rpR, stM_n h1]
    by_cases q : S.2.2 30 (8 * i + k) < 0
    · rw [if_pos q, ih]
    · rw [if_neg q, rkI_n h2, ih]
theorem rpR_k {S : zSt} {i Z k q : Nat} {nx gk : Nat → Nat} (h : k ≤ q) : (rpR S i Z nx gk k).2.2 30 (8 * i + q) = S.2.2 30 (8 * i + q) := by
  induction k with
  | zero => rfl
  | succ k ih =>
    rw [rpR, rd_j (by omega)]
    by_cases z : S.2.2 30 (8 * i + k) < 0
    · rw [if_pos z, ih (by omega)]
    · rw [if_neg z, rkI_n (by decide), ih (by omega)]
def mReport (S : zSt) (i Z : Nat) (nx gk : Nat → Nat) : Int32 × zSt := if S.2.2 13 1 = 0 then (if S.2.2 21 i = 2 then (-4, mS S) else if S.2.2 13 2 = 0 then (nI (cntI (fun q => decide (S.2.2 25 (100 * i + q) = 2)) 100), rpR (rpP (mwO S) i 100) i Z nx gk 8) else (-2, mwT S)) else (-2, mS S)
set_option maxRecDepth 20000 in
theorem c_Mo_report {l : Launch} {D : va_G} {K : Nat → ClassId} {ad : Nat → Nat} {S : zSt} {i : Nat} (hi : i < 10) (ho : ¬ S.2.2 21 i ≤ 0) {Z : Nat} {nx gk : Nat → Nat} (hZ : S.2.2 13 6 = nI Z) (hZ2 : Z ≤ 24) (hnx : ∀ r, r < 80 → S.2.2 31 r = nI (nx r) ∧ nx r ≤ Z) (hgk : ∀ r, r < 80 → ¬ S.2.2 30 r < 0 → ∀ q, q < Z → S.2.2 32 (24 * r + q) = nI (gk (24 * r + q)) ∧ gk (24 * r + q) < 1000) : zC l TB D zcls (ztyl K) y_Mo_report (.code y_Mo_report b_Mo_report 5 (some FieldType.int)) (rmk 2 43) [.ref (ad 13), .int (nI i)] ad (Lay K ad S) (zP K ad (some (.int (mReport S i Z nx gk).1)) (mReport S i Z nx gk).2) := by
  refine zC.of (by decide +kernel) (Nat.le_of_ble_eq_true rfl) ?_
  intro x hx hr hml hnm hrm hq hNH
  have Q : ∀ (m_Q k : Nat), k + m_Q = 8 → (S.2.2 13 1 = 0 ∧ ¬ S.2.2 21 i = 2 ∧ S.2.2 13 2 = 0) → zV x ad (Lay K ad (rpR (rpP (mwO S) i 100) i Z nx gk k)) 0 0 [(3, .int (nI (8 * i + k))), (2, .int (nI (cntI (fun q => decide (S.2.2 25 (100 * i + q) = 2)) 100))), (0, .ref (ad 13)), (1, .int (nI i))] 115 [] := by
    intro m_Q
    induction m_Q with
    | zero =>
      intro k he_Q hV
      have e_Q : k = 8 := by omega
      refine z_iload_n hx 0 d_Mo_report_115 rfl ?_
      refine z_bipush (v := 8) hx d_Mo_report_116 rfl ?_
      refine z_iload_n hx 3 d_Mo_report_118 rfl ?_
      refine z_imul hx d_Mo_report_119 ?_
      refine z_top (b := nI (8 * i)) (pk_mul 8 i) ?_
      refine z_bipush (v := 8) hx d_Mo_report_120 rfl ?_
      refine z_iadd hx d_Mo_report_122 ?_
      refine z_top (b := nI (8 * i + 8)) (nI_add _ 8) ?_
      refine z_icmp_ge (tgt := 189) hx d_Mo_report_123 (by decide) (fun _ => ?_) (fun h => absurd (nI_le (by omega) (by omega)) h)
      refine z_iload_n hx 1 d_Mo_report_189 rfl ?_
      subst e_Q
      have e9 : mReport S i Z nx gk = (nI (cntI (fun q => decide (S.2.2 25 (100 * i + q) = 2)) 100), rpR (rpP (mwO S) i 100) i Z nx gk 8) := by unfold mReport; rw [if_pos hV.1, if_neg hV.2.1, if_pos hV.2.2]
      exact z_iret hx hr rfl hq (Nat.le_refl _) (Nat.le_refl _) d_Mo_report_190 ⟨by rw [e9], rfl, by rw [e9]⟩
    | succ m_Q ih_Q =>
      intro k he_Q hV
      have l_Q : k < 8 := by omega
      have hnk := hnx (8 * i + k) (by omega)
      by_cases hsp : S.2.2 30 (8 * i + k) < 0
      · refine z_iload_n hx 0 d_Mo_report_115 rfl ?_
        refine z_bipush (v := 8) hx d_Mo_report_116 rfl ?_
        refine z_iload_n hx 3 d_Mo_report_118 rfl ?_
        refine z_imul hx d_Mo_report_119 ?_
        refine z_top (b := nI (8 * i)) (pk_mul 8 i) ?_
        refine z_bipush (v := 8) hx d_Mo_report_120 rfl ?_
        refine z_iadd hx d_Mo_report_122 ?_
        refine z_top (b := nI (8 * i + 8)) (nI_add _ 8) ?_
        refine z_icmp_ge (tgt := 189) hx d_Mo_report_123 (by decide) (fun h => absurd h (nI_ge (by omega) (by omega))) (fun _ => ?_)
        refine z_aload_n hx 2 d_Mo_report_126 rfl ?_
        refine z_get hx k_Mo (t := 13) rfl 26 (by decide) a4_9 rfl d_Mo_report_127 ?_
        refine z_iload_n hx 0 d_Mo_report_130 rfl ?_
        refine z_ialdK hx 0 rfl (t := 31) rfl (k := (8 * i + k)) (by omega) (by first | decide | omega) d_Mo_report_131 ?_
        refine z_top (b := nI (nx (8 * i + k) + 0)) (by rw [rpR_n (by decide) (by decide), rpP_n (by decide)]; exact hnk.1) ?_
        refine z_istore hx [(4, .int (nI (nx (8 * i + k) + 0))), (3, .int (nI (8 * i + k))), (2, .int (nI (cntI (fun q => decide (S.2.2 25 (100 * i + q) = 2)) 100))), (0, .ref (ad 13)), (1, .int (nI i))] d_Mo_report_132 (zN hml (by decide)) rfl ?_
        refine z_iload hx 0 d_Mo_report_134 rfl ?_
        refine z_aload_n hx 3 d_Mo_report_136 rfl ?_
        refine z_get hx k_Mo (t := 13) rfl 6 (by decide) a3_229 rfl d_Mo_report_137 ?_
        refine z_icmp_ge (tgt := 176) hx d_Mo_report_140 (by decide) (fun h1 => ?_) (fun h1 => ?_)
        · refine z_aload_n hx 3 d_Mo_report_176 rfl ?_
          refine z_get hx k_Mo (t := 13) rfl 25 (by decide) a4_8 rfl d_Mo_report_177 ?_
          refine z_iload_n hx 1 d_Mo_report_180 rfl ?_
          refine z_iconst (v := (-1)) hx d_Mo_report_181 rfl ?_
          refine z_iastK hx 0 rfl (t := 30) rfl (k := (8 * i + k)) (by omega) (by first | decide | omega)  d_Mo_report_182 (ce1 := Lay K ad (stM (rpR (rpP (mwO S) i 100) i Z nx gk k) 30 ((8 * i + k)) ((-1)))) (Lay_put (by decide) rfl) ?_
          refine z_iinc (v := nI (8 * i + (k + 1))) hx 1 [(3, .int (nI (8 * i + (k + 1)))), (4, .int (nI (nx (8 * i + k) + 0))), (2, .int (nI (cntI (fun q => decide (S.2.2 25 (100 * i + q) = 2)) 100))), (0, .ref (ad 13)), (1, .int (nI i))] d_Mo_report_183 rfl (nI_1 _) (zN hml (by decide)) rfl ?_
          refine z_goto (tgt := 115) hx d_Mo_report_186 (by decide) ?_
          have q9 := ih_Q (k + 1) (by omega) hV
          rw [rpR] at q9
          rw [show (if (rpP (mwO S) i 100).2.2 30 (8 * i + k) < 0 then rpR (rpP (mwO S) i 100) i Z nx gk k else rkI (rpR (rpP (mwO S) i 100) i Z nx gk k) (8 * i + k) (nx (8 * i + k)) gk (Z - nx (8 * i + k))) = rpR (rpP (mwO S) i 100) i Z nx gk k from by rw [rpP_n (by decide)]; exact if_pos hsp] at q9
          exact z_lv [0, 2, 3, 4] _ rfl q9
        · refine z_aload_n hx 3 d_Mo_report_143 rfl ?_
          refine z_get hx k_Mo (t := 13) rfl 25 (by decide) a4_8 rfl d_Mo_report_144 ?_
          refine z_iload_n hx 1 d_Mo_report_147 rfl ?_
          refine z_ialdK hx 0 rfl (t := 30) rfl (k := (8 * i + k)) (by omega) (by first | decide | omega) d_Mo_report_148 ?_
          refine z_top (b := S.2.2 30 (8 * i + k)) (by rw [rpR_k (Nat.le_refl _), rpP_n (by decide)]; rfl) ?_
          refine z_if_lt (tgt := 176) hx d_Mo_report_149 (by decide) (fun _ => ?_) (fun h => absurd hsp h)
          refine z_aload_n hx 3 d_Mo_report_176 rfl ?_
          refine z_get hx k_Mo (t := 13) rfl 25 (by decide) a4_8 rfl d_Mo_report_177 ?_
          refine z_iload_n hx 1 d_Mo_report_180 rfl ?_
          refine z_iconst (v := (-1)) hx d_Mo_report_181 rfl ?_
          refine z_iastK hx 0 rfl (t := 30) rfl (k := (8 * i + k)) (by omega) (by first | decide | omega)  d_Mo_report_182 (ce1 := Lay K ad (stM (rpR (rpP (mwO S) i 100) i Z nx gk k) 30 ((8 * i + k)) ((-1)))) (Lay_put (by decide) rfl) ?_
          refine z_iinc (v := nI (8 * i + (k + 1))) hx 1 [(3, .int (nI (8 * i + (k + 1)))), (4, .int (nI (nx (8 * i + k) + 0))), (2, .int (nI (cntI (fun q => decide (S.2.2 25 (100 * i + q) = 2)) 100))), (0, .ref (ad 13)), (1, .int (nI i))] d_Mo_report_183 rfl (nI_1 _) (zN hml (by decide)) rfl ?_
          refine z_goto (tgt := 115) hx d_Mo_report_186 (by decide) ?_
          have q9 := ih_Q (k + 1) (by omega) hV
          rw [rpR] at q9
          rw [show (if (rpP (mwO S) i 100).2.2 30 (8 * i + k) < 0 then rpR (rpP (mwO S) i 100) i Z nx gk k else rkI (rpR (rpP (mwO S) i 100) i Z nx gk k) (8 * i + k) (nx (8 * i + k)) gk (Z - nx (8 * i + k))) = rpR (rpP (mwO S) i 100) i Z nx gk k from by rw [rpP_n (by decide)]; exact if_pos hsp] at q9
          exact z_lv [0, 2, 3, 4] _ rfl q9
      · have J : ∀ (m_J j : Nat), j + m_J = Z - nx (8 * i + k) → zV x ad (Lay K ad (rkI (rpR (rpP (mwO S) i 100) i Z nx gk k) (8 * i + k) (nx (8 * i + k)) gk j)) 0 0 [(4, .int (nI (nx (8 * i + k) + j))), (3, .int (nI (8 * i + k))), (2, .int (nI (cntI (fun q => decide (S.2.2 25 (100 * i + q) = 2)) 100))), (0, .ref (ad 13)), (1, .int (nI i))] 134 [] := by
          intro m_J
          induction m_J with
          | zero =>
            intro j he_J
            have e_J : j = Z - nx (8 * i + k) := by omega
            refine z_iload hx 0 d_Mo_report_134 rfl ?_
            refine z_aload_n hx 3 d_Mo_report_136 rfl ?_
            refine z_get hx k_Mo (t := 13) rfl 6 (by decide) a3_229 rfl d_Mo_report_137 ?_
            refine z_top (b := nI Z) (by rw [rkI_n (by decide), rpR_n (by decide) (by decide), rpP_n (by decide)]; exact hZ) ?_
            refine z_icmp_ge (tgt := 176) hx d_Mo_report_140 (by decide) (fun _ => ?_) (fun h => absurd (nI_le (by omega) (by omega)) h)
            refine z_aload_n hx 3 d_Mo_report_176 rfl ?_
            refine z_get hx k_Mo (t := 13) rfl 25 (by decide) a4_8 rfl d_Mo_report_177 ?_
            refine z_iload_n hx 1 d_Mo_report_180 rfl ?_
            refine z_iconst (v := (-1)) hx d_Mo_report_181 rfl ?_
            refine z_iastK hx 0 rfl (t := 30) rfl (k := (8 * i + k)) (by omega) (by first | decide | omega)  d_Mo_report_182 (ce1 := Lay K ad (stM (rkI (rpR (rpP (mwO S) i 100) i Z nx gk k) (8 * i + k) (nx (8 * i + k)) gk j) 30 ((8 * i + k)) ((-1)))) (Lay_put (by decide) rfl) ?_
            refine z_iinc (v := nI (8 * i + (k + 1))) hx 1 [(3, .int (nI (8 * i + (k + 1)))), (4, .int (nI (nx (8 * i + k) + j))), (2, .int (nI (cntI (fun q => decide (S.2.2 25 (100 * i + q) = 2)) 100))), (0, .ref (ad 13)), (1, .int (nI i))] d_Mo_report_183 rfl (nI_1 _) (zN hml (by decide)) rfl ?_
            refine z_goto (tgt := 115) hx d_Mo_report_186 (by decide) ?_
            obtain rfl : j = Z - nx (8 * i + k) := by omega
            have q9 := ih_Q (k + 1) (by omega) hV
            rw [rpR] at q9
            rw [show (if (rpP (mwO S) i 100).2.2 30 (8 * i + k) < 0 then rpR (rpP (mwO S) i 100) i Z nx gk k else rkI (rpR (rpP (mwO S) i 100) i Z nx gk k) (8 * i + k) (nx (8 * i + k)) gk (Z - nx (8 * i + k))) = rkI (rpR (rpP (mwO S) i 100) i Z nx gk k) (8 * i + k) (nx (8 * i + k)) gk (Z - nx (8 * i + k)) from by rw [rpP_n (by decide)]; exact if_neg hsp] at q9
            exact z_lv [0, 2, 3, 4] _ rfl q9
          | succ m_J ih_J =>
            intro j he_J
            have l_J : j < Z - nx (8 * i + k) := by omega
            refine z_iload hx 0 d_Mo_report_134 rfl ?_
            refine z_aload_n hx 3 d_Mo_report_136 rfl ?_
            refine z_get hx k_Mo (t := 13) rfl 6 (by decide) a3_229 rfl d_Mo_report_137 ?_
            refine z_top (b := nI Z) (by rw [rkI_n (by decide), rpR_n (by decide) (by decide), rpP_n (by decide)]; exact hZ) ?_
            refine z_icmp_ge (tgt := 176) hx d_Mo_report_140 (by decide) (fun h => absurd h (nI_ge (by omega) (by omega))) (fun _ => ?_)
            refine z_aload_n hx 3 d_Mo_report_143 rfl ?_
            refine z_get hx k_Mo (t := 13) rfl 25 (by decide) a4_8 rfl d_Mo_report_144 ?_
            refine z_iload_n hx 1 d_Mo_report_147 rfl ?_
            refine z_ialdK hx 0 rfl (t := 30) rfl (k := (8 * i + k)) (by omega) (by first | decide | omega) d_Mo_report_148 ?_
            refine z_top (b := S.2.2 30 (8 * i + k)) (by rw [rkI_n (by decide), rpR_k (Nat.le_refl _), rpP_n (by decide)]; rfl) ?_
            refine z_if_lt (tgt := 176) hx d_Mo_report_149 (by decide) (fun h => absurd h hsp) (fun _ => ?_)
            refine z_aload_n hx 3 d_Mo_report_152 rfl ?_
            refine z_get hx k_Mo (t := 13) rfl 19 (by decide) a4_2 rfl d_Mo_report_153 ?_
            refine z_aload_n hx 3 d_Mo_report_156 rfl ?_
            refine z_get hx k_Mo (t := 13) rfl 27 (by decide) a4_10 rfl d_Mo_report_157 ?_
            refine z_bipush (v := 24) hx d_Mo_report_160 rfl ?_
            refine z_iload_n hx 1 d_Mo_report_162 rfl ?_
            refine z_imul hx d_Mo_report_163 ?_
            refine z_top (b := nI (24 * (8 * i + k))) (pk_mul 24 _) ?_
            refine z_iload hx 0 d_Mo_report_164 rfl ?_
            refine z_iadd hx d_Mo_report_166 ?_
            refine z_top (b := nI (24 * (8 * i + k) + (nx (8 * i + k) + j))) (nI_add _ _) ?_
            refine z_ialdK hx 0 rfl (t := 32) rfl (k := (24 * (8 * i + k) + (nx (8 * i + k) + j))) (by omega) (by first | decide | omega) d_Mo_report_167 ?_
            refine z_top (b := nI (gk (24 * (8 * i + k) + (nx (8 * i + k) + j)))) (by rw [rkI_n (by decide), rpR_n (by decide) (by decide), rpP_n (by decide)]; exact (hgk _ (by omega) hsp _ (by omega)).1) ?_
            refine z_iconst (v := 0) hx d_Mo_report_168 rfl ?_
            refine z_iastK hx 0 rfl (t := 24) rfl (k := (gk (24 * (8 * i + k) + (nx (8 * i + k) + j)))) (hgk _ (by omega) hsp _ (by omega)).2 (by first | decide | omega)  d_Mo_report_169 (ce1 := Lay K ad (stM (rkI (rpR (rpP (mwO S) i 100) i Z nx gk k) (8 * i + k) (nx (8 * i + k)) gk j) 24 ((gk (24 * (8 * i + k) + (nx (8 * i + k) + j)))) 0)) (Lay_put (by decide) rfl) ?_
            refine z_iinc (v := nI (nx (8 * i + k) + (j + 1))) hx 0 [(4, .int (nI (nx (8 * i + k) + (j + 1)))), (3, .int (nI (8 * i + k))), (2, .int (nI (cntI (fun q => decide (S.2.2 25 (100 * i + q) = 2)) 100))), (0, .ref (ad 13)), (1, .int (nI i))] d_Mo_report_170 rfl (nI_1 _) (zN hml (by decide)) rfl ?_
            refine z_goto (tgt := 134) hx d_Mo_report_173 (by decide) ?_
            exact z_lv [0, 1, 2, 3, 4] _ rfl (ih_J (j + 1) (by omega))
        refine z_iload_n hx 0 d_Mo_report_115 rfl ?_
        refine z_bipush (v := 8) hx d_Mo_report_116 rfl ?_
        refine z_iload_n hx 3 d_Mo_report_118 rfl ?_
        refine z_imul hx d_Mo_report_119 ?_
        refine z_top (b := nI (8 * i)) (pk_mul 8 i) ?_
        refine z_bipush (v := 8) hx d_Mo_report_120 rfl ?_
        refine z_iadd hx d_Mo_report_122 ?_
        refine z_top (b := nI (8 * i + 8)) (nI_add _ 8) ?_
        refine z_icmp_ge (tgt := 189) hx d_Mo_report_123 (by decide) (fun h => absurd h (nI_ge (by omega) (by omega))) (fun _ => ?_)
        refine z_aload_n hx 2 d_Mo_report_126 rfl ?_
        refine z_get hx k_Mo (t := 13) rfl 26 (by decide) a4_9 rfl d_Mo_report_127 ?_
        refine z_iload_n hx 0 d_Mo_report_130 rfl ?_
        refine z_ialdK hx 0 rfl (t := 31) rfl (k := (8 * i + k)) (by omega) (by first | decide | omega) d_Mo_report_131 ?_
        refine z_top (b := nI (nx (8 * i + k) + 0)) (by rw [rpR_n (by decide) (by decide), rpP_n (by decide)]; exact hnk.1) ?_
        refine z_istore hx [(4, .int (nI (nx (8 * i + k) + 0))), (3, .int (nI (8 * i + k))), (2, .int (nI (cntI (fun q => decide (S.2.2 25 (100 * i + q) = 2)) 100))), (0, .ref (ad 13)), (1, .int (nI i))] d_Mo_report_132 (zN hml (by decide)) rfl ?_
        exact z_lv [0, 1, 2, 3, 4] _ rfl (J (Z - nx (8 * i + k)) 0 (by omega))
  have L : ∀ (m_L k : Nat), k + m_L = 100 → (S.2.2 13 1 = 0 ∧ ¬ S.2.2 21 i = 2 ∧ S.2.2 13 2 = 0) → zV x ad (Lay K ad (rpP (mwO S) i k)) 0 0 [(3, .int (nI (100 * i + k))), (2, .int (nI (cntI (fun q => decide (S.2.2 25 (100 * i + q) = 2)) k))), (0, .ref (ad 13)), (1, .int (nI i))] 73 [] := by
    intro m_L
    induction m_L with
    | zero =>
      intro k he_L hV
      have e_L : k = 100 := by omega
      refine z_iload_n hx 0 d_Mo_report_73 rfl ?_
      refine z_bipush (v := 100) hx d_Mo_report_74 rfl ?_
      refine z_iload_n hx 3 d_Mo_report_76 rfl ?_
      refine z_imul hx d_Mo_report_77 ?_
      refine z_top (b := nI (100 * i)) (pk_mul 100 i) ?_
      refine z_bipush (v := 100) hx d_Mo_report_78 rfl ?_
      refine z_iadd hx d_Mo_report_80 ?_
      refine z_top (b := nI (100 * i + 100)) (nI_add _ 100) ?_
      refine z_icmp_ge (tgt := 110) hx d_Mo_report_81 (by decide) (fun _ => ?_) (fun h => absurd (nI_le (by omega) (by omega)) h)
      refine z_bipush (v := 8) hx d_Mo_report_110 rfl ?_
      refine z_iload_n hx 3 d_Mo_report_112 rfl ?_
      refine z_imul hx d_Mo_report_113 ?_
      refine z_top (b := nI (8 * i + 0)) (pk_mul 8 i) ?_
      refine z_istore_n hx [(3, .int (nI (8 * i + 0))), (2, .int (nI (cntI (fun q => decide (S.2.2 25 (100 * i + q) = 2)) k))), (0, .ref (ad 13)), (1, .int (nI i))] d_Mo_report_114 rfl (zN hml (by decide)) rfl ?_
      subst e_L
      exact z_lv [0, 1, 2, 3] _ rfl (Q 8 0 (by omega) hV)
    | succ m_L ih_L =>
      intro k he_L hV
      have l_L : k < 100 := by omega
      refine z_iload_n hx 0 d_Mo_report_73 rfl ?_
      refine z_bipush (v := 100) hx d_Mo_report_74 rfl ?_
      refine z_iload_n hx 3 d_Mo_report_76 rfl ?_
      refine z_imul hx d_Mo_report_77 ?_
      refine z_top (b := nI (100 * i)) (pk_mul 100 i) ?_
      refine z_bipush (v := 100) hx d_Mo_report_78 rfl ?_
      refine z_iadd hx d_Mo_report_80 ?_
      refine z_top (b := nI (100 * i + 100)) (nI_add _ 100) ?_
      refine z_icmp_ge (tgt := 110) hx d_Mo_report_81 (by decide) (fun h => absurd h (nI_ge (by omega) (by omega))) (fun _ => ?_)
      refine z_aload_n hx 2 d_Mo_report_84 rfl ?_
      refine z_get hx k_Mo (t := 13) rfl 20 (by decide) a4_3 rfl d_Mo_report_85 ?_
      refine z_iload_n hx 0 d_Mo_report_88 rfl ?_
      refine z_ialdK hx 0 rfl (t := 25) rfl (k := (100 * i + k)) (by omega) (by first | decide | omega) d_Mo_report_89 ?_
      refine z_top (b := S.2.2 25 (100 * i + k)) (by rw [rpP_k (Nat.le_refl _)]; rfl) ?_
      refine z_iconst (v := 2) hx d_Mo_report_90 rfl ?_
      refine z_icmp_ne (tgt := 104) hx d_Mo_report_91 (by decide) (fun h1 => ?_) (fun h1 => ?_)
      · refine z_iinc (v := nI (100 * i + (k + 1))) hx 0 [(3, .int (nI (100 * i + (k + 1)))), (2, .int (nI (cntI (fun q => decide (S.2.2 25 (100 * i + q) = 2)) k))), (0, .ref (ad 13)), (1, .int (nI i))] d_Mo_report_104 rfl (nI_1 _) (zN hml (by decide)) rfl ?_
        refine z_goto (tgt := 73) hx d_Mo_report_107 (by decide) ?_
        have q9 := ih_L (k + 1) (by omega) hV
        rw [show cntI (fun q => decide (S.2.2 25 (100 * i + q) = 2)) (k + 1) = cntI (fun q => decide (S.2.2 25 (100 * i + q) = 2)) k from by rw [cntI]; simp [h1], show rpP (mwO S) i (k + 1) = rpP (mwO S) i k from by rw [rpP]; first | exact if_pos h1 | exact if_neg h1] at q9
        exact z_lv [0, 1, 2, 3] _ rfl q9
      · refine z_aload_n hx 2 d_Mo_report_94 rfl ?_
        refine z_get hx k_Mo (t := 13) rfl 20 (by decide) a4_3 rfl d_Mo_report_95 ?_
        refine z_iload_n hx 0 d_Mo_report_98 rfl ?_
        refine z_iconst (v := 1) hx d_Mo_report_99 rfl ?_
        refine z_iastK hx 0 rfl (t := 25) rfl (k := (100 * i + k)) (by omega) (by first | decide | omega)  d_Mo_report_100 (ce1 := Lay K ad (stM (rpP (mwO S) i k) 25 ((100 * i + k)) 1)) (Lay_put (by decide) rfl) ?_
        refine z_iinc (v := nI (cntI (fun q => decide (S.2.2 25 (100 * i + q) = 2)) k + 1)) hx 1 [(2, .int (nI (cntI (fun q => decide (S.2.2 25 (100 * i + q) = 2)) k + 1))), (3, .int (nI (100 * i + k))), (0, .ref (ad 13)), (1, .int (nI i))] d_Mo_report_101 rfl (nI_1 _) (zN hml (by decide)) rfl ?_
        refine z_iinc (v := nI (100 * i + (k + 1))) hx 1 [(3, .int (nI (100 * i + (k + 1)))), (2, .int (nI (cntI (fun q => decide (S.2.2 25 (100 * i + q) = 2)) k + 1))), (0, .ref (ad 13)), (1, .int (nI i))] d_Mo_report_104 rfl (nI_1 _) (zN hml (by decide)) rfl ?_
        refine z_goto (tgt := 73) hx d_Mo_report_107 (by decide) ?_
        have q9 := ih_L (k + 1) (by omega) hV
        rw [show cntI (fun q => decide (S.2.2 25 (100 * i + q) = 2)) (k + 1) = cntI (fun q => decide (S.2.2 25 (100 * i + q) = 2)) k + 1 from by rw [cntI]; simp [h1], show rpP (mwO S) i (k + 1) = stM (rpP (mwO S) i k) 25 ((100 * i + k)) 1 from by rw [rpP]; first | exact if_pos h1 | exact if_neg h1] at q9
        exact z_lv [0, 1, 2, 3] _ rfl q9
  show zV x ad (Lay K ad S) 0 0 [(0, .ref (ad 13)), (1, .int (nI i))] 0 []
  refine z_aload_n hx 0 d_Mo_report_0 rfl ?_
  refine z_aload_n hx 0 d_Mo_report_1 rfl ?_
  refine z_iload_n hx 1 d_Mo_report_2 rfl ?_
  refine z_cV hx (c_Mo_isSite_yes hi ho) k_Mo rfl ⟨a4_98, a4_101, a1_6, ⟨by decide +kernel, by decide +kernel⟩, fun sig h => by cases h; rfl⟩ a4_100 s_Mo_isSite rfl rfl d_Mo_report_3 (by rw [hrm]; exact ⟨Nat.le_of_ble_eq_true rfl, Nat.le_of_ble_eq_true rfl, Nat.le_of_ble_eq_true rfl, Nat.le_of_ble_eq_true rfl⟩) ?_
  show zV x ad (Lay K ad S) _ _ _ 6 [.int 1, .ref (ad 13)]
  refine z_if_ne (tgt := 13) hx d_Mo_report_6 (by decide) (fun _ => ?_) (fun h => absurd h (by decide))
  refine z_iconst (v := 0) hx d_Mo_report_13 rfl ?_
  refine z_iconst (v := 0) hx d_Mo_report_14 rfl ?_
  refine z_iconst (v := 0) hx d_Mo_report_15 rfl ?_
  refine z_cV hx (c_Mo_refused_0) k_Mo rfl ⟨a4_81, a4_84, a1_6, ⟨by decide +kernel, by decide +kernel⟩, fun sig h => by cases h; rfl⟩ a4_83 s_Mo_refused rfl rfl d_Mo_report_16 (by rw [hrm]; exact ⟨Nat.le_of_ble_eq_true rfl, Nat.le_of_ble_eq_true rfl, Nat.le_of_ble_eq_true rfl, Nat.le_of_ble_eq_true rfl⟩) ?_
  show zV x ad (Lay K ad (stM S 13 0 0)) _ _ _ 19 [.int 0]
  refine z_if_eq (tgt := 24) hx d_Mo_report_19 (by decide) (fun _ => ?_) (fun h => absurd (by decide) h)
  refine z_aload_n hx 0 d_Mo_report_24 rfl ?_
  refine z_get hx k_Mo (t := 13) rfl 1 (by decide) a3_224 rfl d_Mo_report_25 ?_
  refine z_top (b := S.2.2 13 1) (rd_j (by decide)) ?_
  refine z_if_ne (tgt := 41) hx d_Mo_report_28 (by decide) (fun h1 => ?_) (fun h1 => ?_)
  · refine z_aload_n hx 0 d_Mo_report_41 rfl ?_
    refine z_get hx k_Mo (t := 13) rfl 1 (by decide) a3_224 rfl d_Mo_report_42 ?_
    refine z_top (b := S.2.2 13 1) (rd_j (by decide)) ?_
    refine z_if_eq (tgt := 53) hx d_Mo_report_45 (by decide) (fun h => absurd h h1) (fun _ => ?_)
    refine z_bipush (v := (-2)) hx d_Mo_report_48 rfl ?_
    refine z_goto (tgt := 55) hx d_Mo_report_50 (by decide) ?_
    have e9 : mReport S i Z nx gk = ((-2), stM S 13 0 0) := by unfold mReport; (first | rw [if_pos h1] | rw [if_neg h1] | skip); (try rfl)
    exact z_iret hx hr rfl hq (Nat.le_refl _) (Nat.le_refl _) d_Mo_report_55 ⟨by rw [e9], rfl, by rw [e9]⟩
  · refine z_aload_n hx 0 d_Mo_report_31 rfl ?_
    refine z_get hx k_Mo (t := 13) rfl 16 (by decide) a3_239 rfl d_Mo_report_32 ?_
    refine z_iload_n hx 1 d_Mo_report_35 rfl ?_
    refine z_ialdK hx 0 rfl (t := 21) rfl (k := i) (by omega) (by first | decide | omega) d_Mo_report_36 ?_
    refine z_top (b := S.2.2 21 i) (rd_n (by decide)) ?_
    refine z_iconst (v := 2) hx d_Mo_report_37 rfl ?_
    refine z_icmp_ne (tgt := 56) hx d_Mo_report_38 (by decide) (fun h2 => ?_) (fun h2 => ?_)
    · refine z_aload_n hx 0 d_Mo_report_56 rfl ?_
      by_cases h3 : S.2.2 13 2 = 0
      · refine z_cV hx (c_Mo_writes_ok (S := stM S 13 0 0) h3) k_Mo rfl ⟨a4_85, a4_88, a1_6, ⟨by decide +kernel, by decide +kernel⟩, fun sig h => by cases h; rfl⟩ a4_87 s_Mo_writes rfl rfl d_Mo_report_57 (by rw [hrm]; exact ⟨Nat.le_of_ble_eq_true rfl, Nat.le_of_ble_eq_true rfl, Nat.le_of_ble_eq_true rfl, Nat.le_of_ble_eq_true rfl⟩) ?_
        show zV x ad (Lay K ad (stM (stM S 13 0 0) 13 3 (S.2.2 13 3 + 1))) _ _ _ 60 [.int 1]
        refine z_if_ne (tgt := 66) hx d_Mo_report_60 (by decide) (fun _ => ?_) (fun h => absurd h (by decide))
        refine z_iconst (v := 0) hx d_Mo_report_66 rfl ?_
        refine z_top (b := nI (cntI (fun q => decide (S.2.2 25 (100 * i + q) = 2)) 0)) rfl ?_
        refine z_istore_n hx [(2, .int (nI (cntI (fun q => decide (S.2.2 25 (100 * i + q) = 2)) 0))), (0, .ref (ad 13)), (1, .int (nI i))] d_Mo_report_67 rfl (zN hml (by decide)) rfl ?_
        refine z_bipush (v := 100) hx d_Mo_report_68 rfl ?_
        refine z_iload_n hx 2 d_Mo_report_70 rfl ?_
        refine z_imul hx d_Mo_report_71 ?_
        refine z_top (b := nI (100 * i + 0)) (pk_mul 100 i) ?_
        refine z_istore_n hx [(3, .int (nI (100 * i + 0))), (2, .int (nI (cntI (fun q => decide (S.2.2 25 (100 * i + q) = 2)) 0))), (0, .ref (ad 13)), (1, .int (nI i))] d_Mo_report_72 rfl (zN hml (by decide)) rfl ?_
        exact z_lv [0, 1, 2, 3] _ rfl (L 100 0 (by omega) ⟨h1, h2, h3⟩)
      · refine z_cV hx (c_Mo_writes_torn (S := stM S 13 0 0) h3) k_Mo rfl ⟨a4_85, a4_88, a1_6, ⟨by decide +kernel, by decide +kernel⟩, fun sig h => by cases h; rfl⟩ a4_87 s_Mo_writes rfl rfl d_Mo_report_57 (by rw [hrm]; exact ⟨Nat.le_of_ble_eq_true rfl, Nat.le_of_ble_eq_true rfl, Nat.le_of_ble_eq_true rfl, Nat.le_of_ble_eq_true rfl⟩) ?_
        show zV x ad (Lay K ad (stM (stM (stM S 13 0 0) 13 2 0) 13 1 1)) _ _ _ 60 [.int 0]
        refine z_if_ne (tgt := 66) hx d_Mo_report_60 (by decide) (fun h => absurd (by decide) h) (fun _ => ?_)
        refine z_bipush (v := (-2)) hx d_Mo_report_63 rfl ?_
        have e9 : mReport S i Z nx gk = ((-2), stM (stM (stM S 13 0 0) 13 2 0) 13 1 1) := by unfold mReport; (first | rw [if_pos h1] | rw [if_neg h1] | skip); (first | rw [if_pos h2] | rw [if_neg h2] | skip); (first | rw [if_pos h3] | rw [if_neg h3] | skip); (try rfl)
        exact z_iret hx hr rfl hq (Nat.le_refl _) (Nat.le_refl _) d_Mo_report_65 ⟨by rw [e9], rfl, by rw [e9]⟩
    · refine z_aload_n hx 0 d_Mo_report_41 rfl ?_
      refine z_get hx k_Mo (t := 13) rfl 1 (by decide) a3_224 rfl d_Mo_report_42 ?_
      refine z_top (b := S.2.2 13 1) (rd_j (by decide)) ?_
      refine z_if_eq (tgt := 53) hx d_Mo_report_45 (by decide) (fun _ => ?_) (fun h => absurd h1 h)
      refine z_bipush (v := (-4)) hx d_Mo_report_53 rfl ?_
      have e9 : mReport S i Z nx gk = ((-4), stM S 13 0 0) := by unfold mReport; (first | rw [if_pos h1] | rw [if_neg h1] | skip); (first | rw [if_pos h2] | rw [if_neg h2] | skip); (try rfl)
      exact z_iret hx hr rfl hq (Nat.le_refl _) (Nat.le_refl _) d_Mo_report_55 ⟨by rw [e9], rfl, by rw [e9]⟩
