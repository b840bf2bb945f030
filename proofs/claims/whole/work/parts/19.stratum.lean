def gap1 (S : zSt) (s a b : Nat) : Int32 := S.2.2 (50 + s) a * S.2.2 2 b - S.2.2 (50 + s) b * S.2.2 2 a
def absI (g : Int32) : Int32 := if 0 ≤ g then g else 0 - g
def mxI (x y : Int32) : Int32 := if x < y then y else x
def gapI (S : zSt) (s a : Nat) (w : Int32) : Nat → Int32
  | 0 => w
  | j + 1 => mxI (gapI S s a w j) (absI (gap1 S s a (a + 1 + j)))
def gapO (S : zSt) (s A : Nat) : Nat → Int32
  | 0 => 0
  | a + 1 => gapI S s a (gapO S s A a) (A - (a + 1))
def swS (t : Nat) (S : zSt) (a b : Nat) : zSt := stM (stM S t a (S.2.2 t b)) t b (S.2.2 t a)
def shD (tw jw t F Z : Nat) (S : zSt) : Nat → zSt
  | 0 => S
  | k + 1 => swS t (stL (shD tw jw t F Z S k) tw jw (dwF ((shD tw jw t F Z S k).2.1 tw jw) (nI (Z - k)))) (F + (Z - 1 - k)) (F + dN (dwF ((shD tw jw t F Z S k).2.1 tw jw) (nI (Z - k))) (Z - k))
theorem shD_1 {tw jw t F Z : Nat} {S : zSt} {k : Nat} : (shD tw jw t F Z S k).1 = S.1 := by
  induction k with
  | zero => rfl
  | succ k ih => exact ih
theorem shD_n {tw jw t F Z : Nat} {S : zSt} {k u : Nat} (h : u ≠ t) : (shD tw jw t F Z S k).2.2 u = S.2.2 u := by
  induction k with
  | zero => rfl
  | succ k ih => rw [shD, swS, stM_n h, stM_n h]; exact ih
def wrS (t : Nat) (v : Int32) (a : Nat) (S : zSt) : Nat → zSt
  | 0 => S
  | m + 1 => stM (wrS t v a S m) t (a + m) v
def sE (e : Nat → Nat) : Nat → Nat
  | 0 => 0
  | k + 1 => sE e k + e k
def laS (t F : Nat) (e : Nat → Nat) (S : zSt) : Nat → zSt
  | 0 => S
  | k + 1 => wrS t (nI k) (F + sE e k) (laS t F e S k) (e k)
theorem wrS_n {t a m u : Nat} {v : Int32} {S : zSt} (h : u ≠ t) : (wrS t v a S m).2.2 u = S.2.2 u := by
  induction m with
  | zero => rfl
  | succ m ih => rw [wrS, stM_n h, ih]
theorem wrS_1 {t a m : Nat} {v : Int32} {S : zSt} : (wrS t v a S m).1 = S.1 := by
  induction m with
  | zero => rfl
  | succ m ih => exact ih
theorem laS_n {t F k u : Nat} {e : Nat → Nat} {S : zSt} (h : u ≠ t) : (laS t F e S k).2.2 u = S.2.2 u := by
  induction k with
  | zero => rfl
  | succ k ih => rw [laS, wrS_n h, ih]
theorem laS_1 {t F k : Nat} {e : Nat → Nat} {S : zSt} : (laS t F e S k).1 = S.1 := by
  induction k with
  | zero => rfl
  | succ k ih => rw [laS, wrS_1, ih]
theorem sE_mono {e : Nat → Nat} {a b : Nat} (h : a ≤ b) : sE e a ≤ sE e b := by
  induction b with
  | zero => rw [Nat.le_zero.mp h]; exact Nat.le_refl _
  | succ b ih =>
    by_cases q : a = b + 1
    · rw [q]; exact Nat.le_refl _
    · exact Nat.le_trans (ih (by omega)) (Nat.le_add_right _ _)
set_option maxRecDepth 20000 in
theorem c_St_widestGap {l : Launch} {D : va_G} {K : Nat → ClassId} {ad : Nat → Nat} {S : zSt} {s : Nat} (hs : s < 8) (hg : S.1 (40 + s) = 1) {A : Nat} (hA : S.2.2 1 1 = nI A) (hA4 : A ≤ 4) : zC l TB D zcls (ztyl K) y_St_widestGap (.code y_St_widestGap b_St_widestGap 5 (some FieldType.int)) (rmk 1 21) [.ref (ad (40 + s))] ad (Lay K ad S) (zP K ad (some (.int (gapO S s A A))) S) := by
  refine zC.of (by decide +kernel) (Nat.le_of_ble_eq_true rfl) ?_
  intro x hx hr hml hnm hrm hq hNH
  have O : ∀ (m_O a : Nat), a + m_O = A → zV x ad (Lay K ad S) 0 0 [(2, .int (nI a)), (1, .int (gapO S s A a)), (0, .ref (ad (40 + s)))] 4 [] := by
    intro m_O
    induction m_O with
    | zero =>
      intro a he_O
      have e_O : a = A := by omega
      refine z_iload_n hx 0 d_St_widestGap_4 rfl ?_
      refine z_aload_n hx 2 d_St_widestGap_5 rfl ?_
      refine z_get hx k_St (t := 40 + s) (Lay_StT (S := S) hs hg) 2 (by decide) a1_101 rfl d_St_widestGap_6 ?_
      refine z_getN hx k_Pl (t := 1) rfl 1 (by decide) a1_35 rfl d_St_widestGap_9 ?_
      refine z_top (b := nI A) hA ?_
      refine z_icmp_ge (tgt := 83) hx d_St_widestGap_12 (by decide) (fun _ => ?_) (fun h => absurd (nI_le (by omega) (by omega)) h)
      refine z_iload_n hx 1 d_St_widestGap_83 rfl ?_
      subst e_O
      exact z_iret hx hr rfl hq (Nat.le_refl _) (Nat.le_refl _) d_St_widestGap_84 ⟨rfl, rfl, rfl⟩
    | succ m_O ih_O =>
      intro a he_O
      have l_O : a < A := by omega
      have J : ∀ (m_J j : Nat), j + m_J = A - (a + 1) → zV x ad (Lay K ad S) 0 0 [(3, .int (nI (a + 1 + j))), (2, .int (nI a)), (1, .int (gapI S s a (gapO S s A a) j)), (0, .ref (ad (40 + s)))] 19 [] := by
        intro m_J
        induction m_J with
        | zero =>
          intro j he_J
          have e_J : j = A - (a + 1) := by omega
          refine z_iload_n hx 0 d_St_widestGap_19 rfl ?_
          refine z_aload_n hx 3 d_St_widestGap_20 rfl ?_
          refine z_get hx k_St (t := 40 + s) (Lay_StT (S := S) hs hg) 2 (by decide) a1_101 rfl d_St_widestGap_21 ?_
          refine z_getN hx k_Pl (t := 1) rfl 1 (by decide) a1_35 rfl d_St_widestGap_24 ?_
          refine z_top (b := nI A) hA ?_
          refine z_icmp_ge (tgt := 77) hx d_St_widestGap_27 (by decide) (fun _ => ?_) (fun h => absurd (nI_le (by omega) (by omega)) h)
          refine z_iinc (v := nI (a + 1)) hx 1 [(2, .int (nI (a + 1))), (3, .int (nI (a + 1 + j))), (1, .int (gapI S s a (gapO S s A a) j)), (0, .ref (ad (40 + s)))] d_St_widestGap_77 rfl (nI_1 a) (zN hml (by decide)) rfl ?_
          refine z_goto (tgt := 4) hx d_St_widestGap_80 (by decide) ?_
          have q9 := ih_O (a + 1) (by omega)
          rw [show gapO S s A (a + 1) = gapI S s a (gapO S s A a) j from by rw [gapO]; first | rfl | (subst e_J; rfl)] at q9
          exact z_lv [0, 2, 3] _ rfl q9
        | succ m_J ih_J =>
          intro j he_J
          have l_J : j < A - (a + 1) := by omega
          refine z_iload_n hx 0 d_St_widestGap_19 rfl ?_
          refine z_aload_n hx 3 d_St_widestGap_20 rfl ?_
          refine z_get hx k_St (t := 40 + s) (Lay_StT (S := S) hs hg) 2 (by decide) a1_101 rfl d_St_widestGap_21 ?_
          refine z_getN hx k_Pl (t := 1) rfl 1 (by decide) a1_35 rfl d_St_widestGap_24 ?_
          refine z_top (b := nI A) hA ?_
          refine z_icmp_ge (tgt := 77) hx d_St_widestGap_27 (by decide) (fun h => absurd h (nI_ge (by omega) (by omega))) (fun _ => ?_)
          refine z_aload_n hx 3 d_St_widestGap_30 rfl ?_
          refine z_iload_n hx 1 d_St_widestGap_31 rfl ?_
          refine z_cV hx (c_St_knownWith hs (by omega)) k_St (Lay_StT (S := S) hs hg) ⟨a3_164, a3_152, a1_5, ⟨by decide +kernel, by decide +kernel⟩, fun sig h => by cases h; rfl⟩ a3_150 a3_151 rfl rfl d_St_widestGap_32 (by rw [hrm]; exact ⟨Nat.le_of_ble_eq_true rfl, Nat.le_of_ble_eq_true rfl, Nat.le_of_ble_eq_true rfl, Nat.le_of_ble_eq_true rfl⟩) ?_
          show zV x ad (Lay K ad S) _ _ _ 35 [.int (S.2.2 (50 + s) a)]
          refine z_aload_n hx 3 d_St_widestGap_35 rfl ?_
          refine z_get hx k_St (t := 40 + s) (Lay_StT (S := S) hs hg) 2 (by decide) a1_101 rfl d_St_widestGap_36 ?_
          refine z_iload_n hx 0 d_St_widestGap_39 rfl ?_
          refine z_cV hx (c_Pl_weightOf (by omega)) k_Pl rfl ⟨a3_165, a2_215, a1_2, ⟨by decide +kernel, by decide +kernel⟩, fun sig h => by cases h; rfl⟩ a2_213 a2_214 rfl rfl d_St_widestGap_40 (by rw [hrm]; exact ⟨Nat.le_of_ble_eq_true rfl, Nat.le_of_ble_eq_true rfl, Nat.le_of_ble_eq_true rfl, Nat.le_of_ble_eq_true rfl⟩) ?_
          show zV x ad (Lay K ad S) _ _ _ 43 [.int (S.2.2 2 (a + 1 + j)), .int (S.2.2 (50 + s) a)]
          refine z_imul hx d_St_widestGap_43 ?_
          refine z_aload_n hx 3 d_St_widestGap_44 rfl ?_
          refine z_iload_n hx 0 d_St_widestGap_45 rfl ?_
          refine z_cV hx (c_St_knownWith hs (by omega)) k_St (Lay_StT (S := S) hs hg) ⟨a3_164, a3_152, a1_5, ⟨by decide +kernel, by decide +kernel⟩, fun sig h => by cases h; rfl⟩ a3_150 a3_151 rfl rfl d_St_widestGap_46 (by rw [hrm]; exact ⟨Nat.le_of_ble_eq_true rfl, Nat.le_of_ble_eq_true rfl, Nat.le_of_ble_eq_true rfl, Nat.le_of_ble_eq_true rfl⟩) ?_
          show zV x ad (Lay K ad S) _ _ _ 49 [.int (S.2.2 (50 + s) (a + 1 + j)), .int ((S.2.2 (50 + s) a) * (S.2.2 2 (a + 1 + j)))]
          refine z_aload_n hx 3 d_St_widestGap_49 rfl ?_
          refine z_get hx k_St (t := 40 + s) (Lay_StT (S := S) hs hg) 2 (by decide) a1_101 rfl d_St_widestGap_50 ?_
          refine z_iload_n hx 1 d_St_widestGap_53 rfl ?_
          refine z_cV hx (c_Pl_weightOf (by omega)) k_Pl rfl ⟨a3_165, a2_215, a1_2, ⟨by decide +kernel, by decide +kernel⟩, fun sig h => by cases h; rfl⟩ a2_213 a2_214 rfl rfl d_St_widestGap_54 (by rw [hrm]; exact ⟨Nat.le_of_ble_eq_true rfl, Nat.le_of_ble_eq_true rfl, Nat.le_of_ble_eq_true rfl, Nat.le_of_ble_eq_true rfl⟩) ?_
          show zV x ad (Lay K ad S) _ _ _ 57 [.int (S.2.2 2 a), .int (S.2.2 (50 + s) (a + 1 + j)), .int ((S.2.2 (50 + s) a) * (S.2.2 2 (a + 1 + j)))]
          refine z_imul hx d_St_widestGap_57 ?_
          refine z_isub hx d_St_widestGap_58 ?_
          refine z_istore hx [(4, .int (((S.2.2 (50 + s) a) * (S.2.2 2 (a + 1 + j))) - ((S.2.2 (50 + s) (a + 1 + j)) * (S.2.2 2 a)))), (3, .int (nI (a + 1 + j))), (2, .int (nI a)), (1, .int (gapI S s a (gapO S s A a) j)), (0, .ref (ad (40 + s)))] d_St_widestGap_59 (zN hml (by decide)) rfl ?_
          refine z_iload_n hx 3 d_St_widestGap_61 rfl ?_
          refine z_iload hx 0 d_St_widestGap_62 rfl ?_
          refine z_mabs hx a3_166 a3_167 a1_15 a3_168 (by rw [hrm]; exact ⟨Nat.le_of_ble_eq_true rfl, Nat.le_of_ble_eq_true rfl, Nat.le_of_ble_eq_true rfl, Nat.le_of_ble_eq_true rfl⟩) d_St_widestGap_64 ?_
          refine z_mmax hx a2_185 a2_186 a1_15 a2_187 (by rw [hrm]; exact ⟨Nat.le_of_ble_eq_true rfl, Nat.le_of_ble_eq_true rfl, Nat.le_of_ble_eq_true rfl, Nat.le_of_ble_eq_true rfl⟩) d_St_widestGap_67 ?_
          refine z_top (b := gapI S s a (gapO S s A a) (j + 1)) rfl ?_
          refine z_istore_n hx [(1, .int (gapI S s a (gapO S s A a) (j + 1))), (4, .int (((S.2.2 (50 + s) a) * (S.2.2 2 (a + 1 + j))) - ((S.2.2 (50 + s) (a + 1 + j)) * (S.2.2 2 a)))), (3, .int (nI (a + 1 + j))), (2, .int (nI a)), (0, .ref (ad (40 + s)))] d_St_widestGap_70 rfl (zN hml (by decide)) rfl ?_
          refine z_iinc (v := nI (a + 1 + (j + 1))) hx 2 [(3, .int (nI (a + 1 + (j + 1)))), (1, .int (gapI S s a (gapO S s A a) (j + 1))), (4, .int (((S.2.2 (50 + s) a) * (S.2.2 2 (a + 1 + j))) - ((S.2.2 (50 + s) (a + 1 + j)) * (S.2.2 2 a)))), (2, .int (nI a)), (0, .ref (ad (40 + s)))] d_St_widestGap_71 rfl (nI_1 _) (zN hml (by decide)) rfl ?_
          refine z_goto (tgt := 19) hx d_St_widestGap_74 (by decide) ?_
          exact z_lv [0, 3, 1, 4] _ rfl (ih_J (j + 1) (by omega))
      refine z_iload_n hx 0 d_St_widestGap_4 rfl ?_
      refine z_aload_n hx 2 d_St_widestGap_5 rfl ?_
      refine z_get hx k_St (t := 40 + s) (Lay_StT (S := S) hs hg) 2 (by decide) a1_101 rfl d_St_widestGap_6 ?_
      refine z_getN hx k_Pl (t := 1) rfl 1 (by decide) a1_35 rfl d_St_widestGap_9 ?_
      refine z_top (b := nI A) hA ?_
      refine z_icmp_ge (tgt := 83) hx d_St_widestGap_12 (by decide) (fun h => absurd h (nI_ge (by omega) (by omega))) (fun _ => ?_)
      refine z_iload_n hx 0 d_St_widestGap_15 rfl ?_
      refine z_iconst (v := 1) hx d_St_widestGap_16 rfl ?_
      refine z_iadd hx d_St_widestGap_17 ?_
      refine z_top (b := nI (a + 1 + 0)) (nI_1 a) ?_
      refine z_istore_n hx [(3, .int (nI (a + 1 + 0))), (2, .int (nI a)), (1, .int (gapO S s A a)), (0, .ref (ad (40 + s)))] d_St_widestGap_18 rfl (zN hml (by decide)) rfl ?_
      exact z_lv [0, 1, 2, 3] _ rfl (J (A - (a + 1)) 0 (by omega))
  show zV x ad (Lay K ad S) 0 0 [(0, .ref (ad (40 + s)))] 0 []
  refine z_iconst (v := 0) hx d_St_widestGap_0 rfl ?_
  refine z_top (b := gapO S s A 0) rfl ?_
  refine z_istore_n hx [(1, .int (gapO S s A 0)), (0, .ref (ad (40 + s)))] d_St_widestGap_1 rfl (zN hml (by decide)) rfl ?_
  refine z_iconst (v := 0) hx d_St_widestGap_2 rfl ?_
  refine z_top (b := nI 0) rfl ?_
  refine z_istore_n hx [(2, .int (nI 0)), (1, .int (gapO S s A 0)), (0, .ref (ad (40 + s)))] d_St_widestGap_3 rfl (zN hml (by decide)) rfl ?_
  exact z_lv [0, 1, 2] _ rfl (O A 0 (by omega))
def teF (S : zSt) (s : Nat) : zSt := if S.2.2 (40 + s) 8 = 0 then stM (stM (stM (stM (stM S (40 + s) 6 (S.2.2 (40 + s) 6 + 1)) (40 + s) 7 ((S.2.2 (40 + s) 6 + 1 - 1) * S.2.2 1 3)) (40 + s) 8 (S.2.2 1 3)) (40 + s) 7 ((S.2.2 (40 + s) 6 + 1 - 1) * S.2.2 1 3 + 1)) (40 + s) 8 (S.2.2 1 3 - 1) else stM (stM S (40 + s) 7 (S.2.2 (40 + s) 7 + 1)) (40 + s) 8 (S.2.2 (40 + s) 8 - 1)
set_option maxRecDepth 20000 in
theorem c_St_takeEntry {l : Launch} {D : va_G} {K : Nat → ClassId} {ad : Nat → Nat} {S : zSt} {s : Nat} (hs : s < 8) (hg : S.1 (40 + s) = 1) : zC l TB D zcls (ztyl K) y_St_takeEntry (.code y_St_takeEntry b_St_takeEntry 1 (none : Option FieldType)) (rmk 1 20) [.ref (ad (40 + s))] ad (Lay K ad S) (zP K ad none (teF S s)) := by
  refine zC.of (by decide +kernel) (Nat.le_of_ble_eq_true rfl) ?_
  intro x hx hr hml hnm hrm hq hNH
  show zV x ad (Lay K ad S) 0 0 [(0, .ref (ad (40 + s)))] 0 []
  refine z_aload_n hx 0 d_St_takeEntry_0 rfl ?_
  refine z_get hx k_St (t := 40 + s) (Lay_StT (S := S) hs hg) 8 (by decide) a1_108 rfl d_St_takeEntry_1 ?_
  refine z_if_ne (tgt := 34) hx d_St_takeEntry_4 (by decide) (fun h1 => ?_) (fun h1 => ?_)
  · refine z_aload_n hx 0 d_St_takeEntry_34 rfl ?_
    refine z_dup hx d_St_takeEntry_35 rfl ?_
    refine z_get hx k_St (t := 40 + s) (Lay_StT (S := S) hs hg) 7 (by decide) a1_107 rfl d_St_takeEntry_36 ?_
    refine z_iconst (v := 1) hx d_St_takeEntry_39 rfl ?_
    refine z_iadd hx d_St_takeEntry_40 ?_
    refine z_put hx k_St (t := 40 + s) (Lay_St hs) 7 (by decide) a1_107 rfl rfl rfl (Nat.le_of_ble_eq_true rfl) d_St_takeEntry_41 (ce1 := Lay K ad (stM S (40 + s) 7 ((S.2.2 (40 + s) 7) + 1))) (put_St7 hs) ?_
    refine z_aload_n hx 0 d_St_takeEntry_44 rfl ?_
    refine z_dup hx d_St_takeEntry_45 rfl ?_
    refine z_get hx k_St (t := 40 + s) (Lay_StT (S := stM S (40 + s) 7 ((S.2.2 (40 + s) 7) + 1)) hs hg) 8 (by decide) a1_108 rfl d_St_takeEntry_46 ?_
    refine z_top (b := S.2.2 (40 + s) 8) (rd_j (by decide)) ?_
    refine z_iconst (v := 1) hx d_St_takeEntry_49 rfl ?_
    refine z_isub hx d_St_takeEntry_50 ?_
    refine z_put hx k_St (t := 40 + s) (Lay_St hs) 8 (by decide) a1_108 rfl rfl rfl (Nat.le_of_ble_eq_true rfl) d_St_takeEntry_51 (ce1 := Lay K ad (stM (stM S (40 + s) 7 ((S.2.2 (40 + s) 7) + 1)) (40 + s) 8 ((S.2.2 (40 + s) 8) - 1))) (put_St8 hs) ?_
    have e9 : teF S s = stM (stM S (40 + s) 7 ((S.2.2 (40 + s) 7) + 1)) (40 + s) 8 ((S.2.2 (40 + s) 8) - 1) := by unfold teF; (first | rw [if_pos h1] | rw [if_neg h1] | skip)
    exact z_vret hx hr hq (Nat.le_refl _) (Nat.le_refl _) d_St_takeEntry_54 ⟨rfl, rfl, by rw [e9]⟩
  · refine z_aload_n hx 0 d_St_takeEntry_7 rfl ?_
    refine z_aload_n hx 0 d_St_takeEntry_8 rfl ?_
    refine z_cV hx (c_St_takeBlock hs) k_St (Lay_StT (S := S) hs hg) ⟨a2_239, a3_2, a1_5, ⟨by decide +kernel, by decide +kernel⟩, fun sig h => by cases h; rfl⟩ a3_0 a3_1 rfl rfl d_St_takeEntry_9 (by rw [hrm]; exact ⟨Nat.le_of_ble_eq_true rfl, Nat.le_of_ble_eq_true rfl, Nat.le_of_ble_eq_true rfl, Nat.le_of_ble_eq_true rfl⟩) ?_
    show zV x ad (Lay K ad (stM S (40 + s) 6 (S.2.2 (40 + s) 6 + 1))) _ _ _ 12 [.int (S.2.2 (40 + s) 6 + 1 - 1), .ref (ad (40 + s))]
    refine z_aload_n hx 0 d_St_takeEntry_12 rfl ?_
    refine z_get hx k_St (t := 40 + s) (Lay_StT (S := stM S (40 + s) 6 (S.2.2 (40 + s) 6 + 1)) hs hg) 2 (by decide) a1_101 rfl d_St_takeEntry_13 ?_
    refine z_getN hx k_Pl (t := 1) rfl 3 (by decide) a1_39 rfl d_St_takeEntry_16 ?_
    refine z_top (b := S.2.2 1 3) (rd_n (by omega)) ?_
    refine z_imul hx d_St_takeEntry_19 ?_
    refine z_put hx k_St (t := 40 + s) (Lay_St hs) 7 (by decide) a1_107 rfl rfl rfl (Nat.le_of_ble_eq_true rfl) d_St_takeEntry_20 (ce1 := Lay K ad (stM (stM S (40 + s) 6 (S.2.2 (40 + s) 6 + 1)) (40 + s) 7 ((S.2.2 (40 + s) 6 + 1 - 1) * (S.2.2 1 3)))) (put_St7 hs) ?_
    refine z_aload_n hx 0 d_St_takeEntry_23 rfl ?_
    refine z_aload_n hx 0 d_St_takeEntry_24 rfl ?_
    refine z_get hx k_St (t := 40 + s) (Lay_StT (S := stM (stM S (40 + s) 6 (S.2.2 (40 + s) 6 + 1)) (40 + s) 7 ((S.2.2 (40 + s) 6 + 1 - 1) * (S.2.2 1 3))) hs hg) 2 (by decide) a1_101 rfl d_St_takeEntry_25 ?_
    refine z_getN hx k_Pl (t := 1) rfl 3 (by decide) a1_39 rfl d_St_takeEntry_28 ?_
    refine z_top (b := S.2.2 1 3) ((rd_n (by omega)).trans (rd_n (by omega))) ?_
    refine z_put hx k_St (t := 40 + s) (Lay_St hs) 8 (by decide) a1_108 rfl rfl rfl (Nat.le_of_ble_eq_true rfl) d_St_takeEntry_31 (ce1 := Lay K ad (stM (stM (stM S (40 + s) 6 (S.2.2 (40 + s) 6 + 1)) (40 + s) 7 ((S.2.2 (40 + s) 6 + 1 - 1) * (S.2.2 1 3))) (40 + s) 8 (S.2.2 1 3))) (put_St8 hs) ?_
    refine z_aload_n hx 0 d_St_takeEntry_34 rfl ?_
    refine z_dup hx d_St_takeEntry_35 rfl ?_
    refine z_get hx k_St (t := 40 + s) (Lay_StT (S := stM (stM (stM S (40 + s) 6 (S.2.2 (40 + s) 6 + 1)) (40 + s) 7 ((S.2.2 (40 + s) 6 + 1 - 1) * (S.2.2 1 3))) (40 + s) 8 (S.2.2 1 3)) hs hg) 7 (by decide) a1_107 rfl d_St_takeEntry_36 ?_
    refine z_top (b := (S.2.2 (40 + s) 6 + 1 - 1) * (S.2.2 1 3)) ((rd_j (by decide)).trans (rd_s)) ?_
    refine z_iconst (v := 1) hx d_St_takeEntry_39 rfl ?_
    refine z_iadd hx d_St_takeEntry_40 ?_
    refine z_put hx k_St (t := 40 + s) (Lay_St hs) 7 (by decide) a1_107 rfl rfl rfl (Nat.le_of_ble_eq_true rfl) d_St_takeEntry_41 (ce1 := Lay K ad (stM (stM (stM (stM S (40 + s) 6 (S.2.2 (40 + s) 6 + 1)) (40 + s) 7 ((S.2.2 (40 + s) 6 + 1 - 1) * (S.2.2 1 3))) (40 + s) 8 (S.2.2 1 3)) (40 + s) 7 (((S.2.2 (40 + s) 6 + 1 - 1) * (S.2.2 1 3)) + 1))) (put_St7 hs) ?_
    refine z_aload_n hx 0 d_St_takeEntry_44 rfl ?_
    refine z_dup hx d_St_takeEntry_45 rfl ?_
    refine z_get hx k_St (t := 40 + s) (Lay_StT (S := stM (stM (stM (stM S (40 + s) 6 (S.2.2 (40 + s) 6 + 1)) (40 + s) 7 ((S.2.2 (40 + s) 6 + 1 - 1) * (S.2.2 1 3))) (40 + s) 8 (S.2.2 1 3)) (40 + s) 7 (((S.2.2 (40 + s) 6 + 1 - 1) * (S.2.2 1 3)) + 1)) hs hg) 8 (by decide) a1_108 rfl d_St_takeEntry_46 ?_
    refine z_top (b := S.2.2 1 3) ((rd_j (by decide)).trans (rd_s)) ?_
    refine z_iconst (v := 1) hx d_St_takeEntry_49 rfl ?_
    refine z_isub hx d_St_takeEntry_50 ?_
    refine z_put hx k_St (t := 40 + s) (Lay_St hs) 8 (by decide) a1_108 rfl rfl rfl (Nat.le_of_ble_eq_true rfl) d_St_takeEntry_51 (ce1 := Lay K ad (stM (stM (stM (stM (stM S (40 + s) 6 (S.2.2 (40 + s) 6 + 1)) (40 + s) 7 ((S.2.2 (40 + s) 6 + 1 - 1) * (S.2.2 1 3))) (40 + s) 8 (S.2.2 1 3)) (40 + s) 7 (((S.2.2 (40 + s) 6 + 1 - 1) * (S.2.2 1 3)) + 1)) (40 + s) 8 ((S.2.2 1 3) - 1))) (put_St8 hs) ?_
    have e9 : teF S s = stM (stM (stM (stM (stM S (40 + s) 6 (S.2.2 (40 + s) 6 + 1)) (40 + s) 7 ((S.2.2 (40 + s) 6 + 1 - 1) * (S.2.2 1 3))) (40 + s) 8 (S.2.2 1 3)) (40 + s) 7 (((S.2.2 (40 + s) 6 + 1 - 1) * (S.2.2 1 3)) + 1)) (40 + s) 8 ((S.2.2 1 3) - 1) := by unfold teF; (first | rw [if_pos h1] | rw [if_neg h1] | skip)
    exact z_vret hx hr hq (Nat.le_refl _) (Nat.le_refl _) d_St_takeEntry_54 ⟨rfl, rfl, by rw [e9]⟩
set_option maxRecDepth 20000 in
theorem c_St_swap {l : Launch} {D : va_G} {K : Nat → ClassId} {ad : Nat → Nat} {S : zSt} {s : Nat} (hs : s < 8) {a b : Nat} (ha : a < S.1 (60 + s)) (hb : b < S.1 (60 + s)) (hL : S.1 (60 + s) < 2 ^ 31) : zC l TB D zcls (ztyl K) y_St_swap (.code y_St_swap b_St_swap 4 (none : Option FieldType)) (rmk 0 0) [.ref (ad (40 + s)), .int (nI a), .int (nI b)] ad (Lay K ad S) (zP K ad none (swS (60 + s) S a b)) := by
  refine zC.of (by decide +kernel) (Nat.le_of_ble_eq_true rfl) ?_
  intro x hx hr hml hnm hrm hq hNH
  show zV x ad (Lay K ad S) 0 0 [(0, .ref (ad (40 + s))), (1, .int (nI a)), (2, .int (nI b))] 0 []
  refine z_iload_n hx 1 d_St_swap_0 rfl ?_
  refine z_if_lt (tgt := 52) hx d_St_swap_1 (by decide) (fun h => absurd h (nI_pos (by omega))) (fun _ => ?_)
  refine z_iload_n hx 1 d_St_swap_4 rfl ?_
  refine z_aload_n hx 0 d_St_swap_5 rfl ?_
  refine z_get hx k_St (t := 40 + s) (Lay_St hs) 3 (by decide) a1_102 rfl d_St_swap_6 ?_
  refine z_alen hx 0 rfl (t := 60 + s) (Lay_li hs) (v := nI (S.1 (60 + s))) rfl d_St_swap_9 ?_
  refine z_icmp_ge (tgt := 52) hx d_St_swap_10 (by decide) (fun h => absurd h (nI_ge ha hL)) (fun _ => ?_)
  refine z_iload_n hx 2 d_St_swap_13 rfl ?_
  refine z_if_lt (tgt := 52) hx d_St_swap_14 (by decide) (fun h => absurd h (nI_pos (by omega))) (fun _ => ?_)
  refine z_iload_n hx 2 d_St_swap_17 rfl ?_
  refine z_aload_n hx 0 d_St_swap_18 rfl ?_
  refine z_get hx k_St (t := 40 + s) (Lay_St hs) 3 (by decide) a1_102 rfl d_St_swap_19 ?_
  refine z_alen hx 0 rfl (t := 60 + s) (Lay_li hs) (v := nI (S.1 (60 + s))) rfl d_St_swap_22 ?_
  refine z_icmp_ge (tgt := 52) hx d_St_swap_23 (by decide) (fun h => absurd h (nI_ge hb hL)) (fun _ => ?_)
  refine z_aload_n hx 0 d_St_swap_26 rfl ?_
  refine z_get hx k_St (t := 40 + s) (Lay_St hs) 3 (by decide) a1_102 rfl d_St_swap_27 ?_
  refine z_iload_n hx 1 d_St_swap_30 rfl ?_
  refine z_ialdK hx 0 rfl (t := 60 + s) (Lay_li hs) (k := a) (by omega) (by first | decide | omega) d_St_swap_31 ?_
  refine z_istore_n hx [(3, .int (S.2.2 (60 + s) a)), (0, .ref (ad (40 + s))), (1, .int (nI a)), (2, .int (nI b))] d_St_swap_32 rfl (zN hml (by decide)) rfl ?_
  refine z_aload_n hx 1 d_St_swap_33 rfl ?_
  refine z_get hx k_St (t := 40 + s) (Lay_St hs) 3 (by decide) a1_102 rfl d_St_swap_34 ?_
  refine z_iload_n hx 2 d_St_swap_37 rfl ?_
  refine z_aload_n hx 1 d_St_swap_38 rfl ?_
  refine z_get hx k_St (t := 40 + s) (Lay_St hs) 3 (by decide) a1_102 rfl d_St_swap_39 ?_
  refine z_iload_n hx 3 d_St_swap_42 rfl ?_
  refine z_ialdK hx 0 rfl (t := 60 + s) (Lay_li hs) (k := b) (by omega) (by first | decide | omega) d_St_swap_43 ?_
  refine z_iastK hx 0 rfl (t := 60 + s) (Lay_li hs) (k := a) (by omega) (by first | decide | omega)  d_St_swap_44 (ce1 := Lay K ad (stM S (60 + s) a (S.2.2 (60 + s) b))) (put_li hs) ?_
  refine z_aload_n hx 1 d_St_swap_45 rfl ?_
  refine z_get hx k_St (t := 40 + s) (Lay_St hs) 3 (by decide) a1_102 rfl d_St_swap_46 ?_
  refine z_iload_n hx 3 d_St_swap_49 rfl ?_
  refine z_iload_n hx 0 d_St_swap_50 rfl ?_
  refine z_iastK hx 0 rfl (t := 60 + s) (Lay_li hs) (k := b) (show b < S.1 (60 + s) from hb) (show S.1 (60 + s) < 2 ^ 31 from hL)  d_St_swap_51 (ce1 := Lay K ad (stM (stM S (60 + s) a (S.2.2 (60 + s) b)) (60 + s) b (S.2.2 (60 + s) a))) (put_li hs) ?_
  exact z_vret hx hr hq (Nat.le_refl _) (Nat.le_refl _) d_St_swap_52 ⟨rfl, rfl, rfl⟩
set_option maxRecDepth 20000 in
theorem c_St_draw {l : Launch} {D : va_G} {K : Nat → ClassId} {ad : Nat → Nat} {S : zSt} {s : Nat} (hs : s < 8) {n : Nat} (hn1 : 1 ≤ n) (hn2 : n ≤ 24) : zC l TB D zcls (ztyl K) y_St_draw (.code y_St_draw b_St_draw 7 (some FieldType.int)) (rmk 0 0) [.ref (ad (40 + s)), .int (nI n)] ad (Lay K ad S) (zP K ad (some (.int (nI (dN (dwF (S.2.1 (40 + s) 4) (nI n)) n)))) (stL S (40 + s) 4 (dwF (S.2.1 (40 + s) 4) (nI n)))) := by
  refine zC.of (by decide +kernel) (Nat.le_of_ble_eq_true rfl) ?_
  intro x hx hr hml hnm hrm hq hNH
  show zV x ad (Lay K ad S) 0 0 [(0, .ref (ad (40 + s))), (1, .int (nI n))] 0 []
  refine z_iload_n hx 1 d_St_draw_0 rfl ?_
  refine z_iconst (v := 1) hx d_St_draw_1 rfl ?_
  refine z_icmp_ge (tgt := 7) hx d_St_draw_2 (by decide) (fun _ => ?_) (fun h => absurd ((nI_leI (a := 1) (by omega) (by omega)).mpr hn1) h)
  refine z_ldc2 (v := 2147483648) hx d_St_draw_7 a2_224 ?_
  refine z_iload_n hx 1 d_St_draw_10 rfl ?_
  refine z_i2l hx d_St_draw_11 ?_
  refine z_ldiv hx d_St_draw_12 (by rw [nI_l (by omega)]; exact fun z => absurd ((pk_lEQ (by omega) (by omega)).mp (z.trans (show (0 : Int64) = lN 0 from rfl))) (by omega)) ?_
  refine z_iload_n hx 1 d_St_draw_13 rfl ?_
  refine z_i2l hx d_St_draw_14 ?_
  refine z_lmul hx d_St_draw_15 ?_
  refine z_topL (b := eN (nI n)) rfl ?_
  refine z_lstore_n hx [(2, .long (eN (nI n))), (0, .ref (ad (40 + s))), (1, .int (nI n))] d_St_draw_16 rfl (zN hml (by decide)) rfl ?_
  refine z_iconst (v := 0) hx d_St_draw_17 rfl ?_
  refine z_istore hx [(4, .int 0), (2, .long (eN (nI n))), (0, .ref (ad (40 + s))), (1, .int (nI n))] d_St_draw_18 (zN hml (by decide)) rfl ?_
  refine z_iload hx 0 d_St_draw_20 rfl ?_
  refine z_ldc (v := 1000000) hx d_St_draw_22 a2_225 ?_
  refine z_icmp_ge (tgt := 104) hx d_St_draw_24 (by decide) (fun h => absurd h (by decide)) (fun _ => ?_)
  refine z_aload_n hx 2 d_St_draw_27 rfl ?_
  refine z_dup hx d_St_draw_28 rfl ?_
  refine z_get hx k_St (t := 40 + s) (Lay_St hs) 4 (by decide) a1_103 rfl d_St_draw_29 ?_
  refine z_aload_n hx 2 d_St_draw_32 rfl ?_
  refine z_get hx k_St (t := 40 + s) (Lay_St hs) 4 (by decide) a1_103 rfl d_St_draw_33 ?_
  refine z_bipush (v := 13) hx d_St_draw_36 rfl ?_
  refine z_lshl hx d_St_draw_38 ?_
  refine z_lxor hx d_St_draw_39 ?_
  refine z_topL (b := xs1 (S.2.1 (40 + s) 4)) rfl ?_
  refine z_put hx k_St (t := 40 + s) (Lay_St hs) 4 (by decide) a1_103 rfl rfl rfl (Nat.le_of_ble_eq_true rfl) d_St_draw_40 (ce1 := Lay K ad (stL S (40 + s) 4 (xs1 (S.2.1 (40 + s) 4)))) (put_St4 hs) ?_
  refine z_aload_n hx 2 d_St_draw_43 rfl ?_
  refine z_dup hx d_St_draw_44 rfl ?_
  refine z_get hx k_St (t := 40 + s) (Lay_St hs) 4 (by decide) a1_103 rfl d_St_draw_45 ?_
  refine z_topL (b := xs1 (S.2.1 (40 + s) 4)) (rdL_s) ?_
  refine z_aload_n hx 2 d_St_draw_48 rfl ?_
  refine z_get hx k_St (t := 40 + s) (Lay_St hs) 4 (by decide) a1_103 rfl d_St_draw_49 ?_
  refine z_topL (b := xs1 (S.2.1 (40 + s) 4)) (rdL_s) ?_
  refine z_bipush (v := 7) hx d_St_draw_52 rfl ?_
  refine z_lushr hx d_St_draw_54 ?_
  refine z_lxor hx d_St_draw_55 ?_
  refine z_topL (b := xs2 (xs1 (S.2.1 (40 + s) 4))) rfl ?_
  refine z_put hx k_St (t := 40 + s) (Lay_St hs) 4 (by decide) a1_103 rfl rfl rfl (Nat.le_of_ble_eq_true rfl) d_St_draw_56 (ce1 := Lay K ad (stL (stL S (40 + s) 4 (xs1 (S.2.1 (40 + s) 4))) (40 + s) 4 (xs2 (xs1 (S.2.1 (40 + s) 4))))) (put_St4 hs) ?_
  refine z_aload_n hx 2 d_St_draw_59 rfl ?_
  refine z_dup hx d_St_draw_60 rfl ?_
  refine z_get hx k_St (t := 40 + s) (Lay_St hs) 4 (by decide) a1_103 rfl d_St_draw_61 ?_
  refine z_topL (b := xs2 (xs1 (S.2.1 (40 + s) 4))) (rdL_s) ?_
  refine z_aload_n hx 2 d_St_draw_64 rfl ?_
  refine z_get hx k_St (t := 40 + s) (Lay_St hs) 4 (by decide) a1_103 rfl d_St_draw_65 ?_
  refine z_topL (b := xs2 (xs1 (S.2.1 (40 + s) 4))) (rdL_s) ?_
  refine z_bipush (v := 17) hx d_St_draw_68 rfl ?_
  refine z_lshl hx d_St_draw_70 ?_
  refine z_lxor hx d_St_draw_71 ?_
  refine z_topL (b := xs (S.2.1 (40 + s) 4)) rfl ?_
  refine z_put hx k_St (t := 40 + s) (Lay_St hs) 4 (by decide) a1_103 rfl rfl rfl (Nat.le_of_ble_eq_true rfl) d_St_draw_72 (ce1 := Lay K ad (stL (stL (stL S (40 + s) 4 (xs1 (S.2.1 (40 + s) 4))) (40 + s) 4 (xs2 (xs1 (S.2.1 (40 + s) 4)))) (40 + s) 4 (xs (S.2.1 (40 + s) 4)))) (put_St4 hs) ?_
  refine z_aload_n hx 2 d_St_draw_75 rfl ?_
  refine z_get hx k_St (t := 40 + s) (Lay_St hs) 4 (by decide) a1_103 rfl d_St_draw_76 ?_
  refine z_topL (b := xs (S.2.1 (40 + s) 4)) (rdL_s) ?_
  refine z_bipush (v := 33) hx d_St_draw_79 rfl ?_
  refine z_lushr hx d_St_draw_81 ?_
  refine z_topL (b := up33 (xs (S.2.1 (40 + s) 4))) rfl ?_
  refine z_lstore hx [(5, .long (up33 (xs (S.2.1 (40 + s) 4)))), (4, .int 0), (2, .long (eN (nI n))), (0, .ref (ad (40 + s))), (1, .int (nI n))] d_St_draw_82 (zN hml (by decide)) rfl ?_
  refine z_lload hx 0 d_St_draw_84 rfl ?_
  refine z_lload_n hx 2 d_St_draw_86 rfl ?_
  refine z_lcmp hx d_St_draw_87 ?_
  refine z_if_ge (tgt := 98) hx d_St_draw_88 (by decide) (fun h1 => ?_) (fun h1 => ?_)
  · refine z_iinc (v := 1) hx 1 [(4, .int 1), (5, .long (up33 (xs (S.2.1 (40 + s) 4)))), (2, .long (eN (nI n))), (0, .ref (ad (40 + s))), (1, .int (nI n))] d_St_draw_98 rfl rfl (zN hml (by decide)) rfl ?_
    refine z_goto (tgt := 20) hx d_St_draw_101 (by decide) ?_
    refine z_iload hx 0 d_St_draw_20 rfl ?_
    refine z_ldc (v := 1000000) hx d_St_draw_22 a2_225 ?_
    refine z_icmp_ge (tgt := 104) hx d_St_draw_24 (by decide) (fun h => absurd h (by decide)) (fun _ => ?_)
    refine z_aload_n hx 3 d_St_draw_27 rfl ?_
    refine z_dup hx d_St_draw_28 rfl ?_
    refine z_get hx k_St (t := 40 + s) (Lay_St hs) 4 (by decide) a1_103 rfl d_St_draw_29 ?_
    refine z_topL (b := xs (S.2.1 (40 + s) 4)) (rdL_s) ?_
    refine z_aload_n hx 3 d_St_draw_32 rfl ?_
    refine z_get hx k_St (t := 40 + s) (Lay_St hs) 4 (by decide) a1_103 rfl d_St_draw_33 ?_
    refine z_topL (b := xs (S.2.1 (40 + s) 4)) (rdL_s) ?_
    refine z_bipush (v := 13) hx d_St_draw_36 rfl ?_
    refine z_lshl hx d_St_draw_38 ?_
    refine z_lxor hx d_St_draw_39 ?_
    refine z_topL (b := xs1 (xs (S.2.1 (40 + s) 4))) rfl ?_
    refine z_put hx k_St (t := 40 + s) (Lay_St hs) 4 (by decide) a1_103 rfl rfl rfl (Nat.le_of_ble_eq_true rfl) d_St_draw_40 (ce1 := Lay K ad (stL (stL (stL (stL S (40 + s) 4 (xs1 (S.2.1 (40 + s) 4))) (40 + s) 4 (xs2 (xs1 (S.2.1 (40 + s) 4)))) (40 + s) 4 (xs (S.2.1 (40 + s) 4))) (40 + s) 4 (xs1 (xs (S.2.1 (40 + s) 4))))) (put_St4 hs) ?_
    refine z_aload_n hx 3 d_St_draw_43 rfl ?_
    refine z_dup hx d_St_draw_44 rfl ?_
    refine z_get hx k_St (t := 40 + s) (Lay_St hs) 4 (by decide) a1_103 rfl d_St_draw_45 ?_
    refine z_topL (b := xs1 (xs (S.2.1 (40 + s) 4))) (rdL_s) ?_
    refine z_aload_n hx 3 d_St_draw_48 rfl ?_
    refine z_get hx k_St (t := 40 + s) (Lay_St hs) 4 (by decide) a1_103 rfl d_St_draw_49 ?_
    refine z_topL (b := xs1 (xs (S.2.1 (40 + s) 4))) (rdL_s) ?_
    refine z_bipush (v := 7) hx d_St_draw_52 rfl ?_
    refine z_lushr hx d_St_draw_54 ?_
    refine z_lxor hx d_St_draw_55 ?_
    refine z_topL (b := xs2 (xs1 (xs (S.2.1 (40 + s) 4)))) rfl ?_
    refine z_put hx k_St (t := 40 + s) (Lay_St hs) 4 (by decide) a1_103 rfl rfl rfl (Nat.le_of_ble_eq_true rfl) d_St_draw_56 (ce1 := Lay K ad (stL (stL (stL (stL (stL S (40 + s) 4 (xs1 (S.2.1 (40 + s) 4))) (40 + s) 4 (xs2 (xs1 (S.2.1 (40 + s) 4)))) (40 + s) 4 (xs (S.2.1 (40 + s) 4))) (40 + s) 4 (xs1 (xs (S.2.1 (40 + s) 4)))) (40 + s) 4 (xs2 (xs1 (xs (S.2.1 (40 + s) 4)))))) (put_St4 hs) ?_
    refine z_aload_n hx 3 d_St_draw_59 rfl ?_
    refine z_dup hx d_St_draw_60 rfl ?_
    refine z_get hx k_St (t := 40 + s) (Lay_St hs) 4 (by decide) a1_103 rfl d_St_draw_61 ?_
    refine z_topL (b := xs2 (xs1 (xs (S.2.1 (40 + s) 4)))) (rdL_s) ?_
    refine z_aload_n hx 3 d_St_draw_64 rfl ?_
    refine z_get hx k_St (t := 40 + s) (Lay_St hs) 4 (by decide) a1_103 rfl d_St_draw_65 ?_
    refine z_topL (b := xs2 (xs1 (xs (S.2.1 (40 + s) 4)))) (rdL_s) ?_
    refine z_bipush (v := 17) hx d_St_draw_68 rfl ?_
    refine z_lshl hx d_St_draw_70 ?_
    refine z_lxor hx d_St_draw_71 ?_
    refine z_topL (b := xs (xs (S.2.1 (40 + s) 4))) rfl ?_
    refine z_put hx k_St (t := 40 + s) (Lay_St hs) 4 (by decide) a1_103 rfl rfl rfl (Nat.le_of_ble_eq_true rfl) d_St_draw_72 (ce1 := Lay K ad (stL (stL (stL (stL (stL (stL S (40 + s) 4 (xs1 (S.2.1 (40 + s) 4))) (40 + s) 4 (xs2 (xs1 (S.2.1 (40 + s) 4)))) (40 + s) 4 (xs (S.2.1 (40 + s) 4))) (40 + s) 4 (xs1 (xs (S.2.1 (40 + s) 4)))) (40 + s) 4 (xs2 (xs1 (xs (S.2.1 (40 + s) 4))))) (40 + s) 4 (xs (xs (S.2.1 (40 + s) 4))))) (put_St4 hs) ?_
    refine z_aload_n hx 3 d_St_draw_75 rfl ?_
    refine z_get hx k_St (t := 40 + s) (Lay_St hs) 4 (by decide) a1_103 rfl d_St_draw_76 ?_
    refine z_topL (b := xs (xs (S.2.1 (40 + s) 4))) (rdL_s) ?_
    refine z_bipush (v := 33) hx d_St_draw_79 rfl ?_
    refine z_lushr hx d_St_draw_81 ?_
    refine z_topL (b := up33 (xs (xs (S.2.1 (40 + s) 4)))) rfl ?_
    refine z_lstore hx [(5, .long (up33 (xs (xs (S.2.1 (40 + s) 4))))), (4, .int 1), (2, .long (eN (nI n))), (0, .ref (ad (40 + s))), (1, .int (nI n))] d_St_draw_82 (zN hml (by decide)) rfl ?_
    refine z_lload hx 0 d_St_draw_84 rfl ?_
    refine z_lload_n hx 2 d_St_draw_86 rfl ?_
    refine z_lcmp hx d_St_draw_87 ?_
    refine z_if_ge (tgt := 98) hx d_St_draw_88 (by decide) (fun h2 => ?_) (fun h2 => ?_)
    · refine z_iinc (v := 2) hx 1 [(4, .int 2), (5, .long (up33 (xs (xs (S.2.1 (40 + s) 4))))), (2, .long (eN (nI n))), (0, .ref (ad (40 + s))), (1, .int (nI n))] d_St_draw_98 rfl rfl (zN hml (by decide)) rfl ?_
      refine z_goto (tgt := 20) hx d_St_draw_101 (by decide) ?_
      refine z_iload hx 0 d_St_draw_20 rfl ?_
      refine z_ldc (v := 1000000) hx d_St_draw_22 a2_225 ?_
      refine z_icmp_ge (tgt := 104) hx d_St_draw_24 (by decide) (fun h => absurd h (by decide)) (fun _ => ?_)
      refine z_aload_n hx 3 d_St_draw_27 rfl ?_
      refine z_dup hx d_St_draw_28 rfl ?_
      refine z_get hx k_St (t := 40 + s) (Lay_St hs) 4 (by decide) a1_103 rfl d_St_draw_29 ?_
      refine z_topL (b := xs (xs (S.2.1 (40 + s) 4))) (rdL_s) ?_
      refine z_aload_n hx 3 d_St_draw_32 rfl ?_
      refine z_get hx k_St (t := 40 + s) (Lay_St hs) 4 (by decide) a1_103 rfl d_St_draw_33 ?_
      refine z_topL (b := xs (xs (S.2.1 (40 + s) 4))) (rdL_s) ?_
      refine z_bipush (v := 13) hx d_St_draw_36 rfl ?_
      refine z_lshl hx d_St_draw_38 ?_
      refine z_lxor hx d_St_draw_39 ?_
      refine z_topL (b := xs1 (xs (xs (S.2.1 (40 + s) 4)))) rfl ?_
      refine z_put hx k_St (t := 40 + s) (Lay_St hs) 4 (by decide) a1_103 rfl rfl rfl (Nat.le_of_ble_eq_true rfl) d_St_draw_40 (ce1 := Lay K ad (stL (stL (stL (stL (stL (stL (stL S (40 + s) 4 (xs1 (S.2.1 (40 + s) 4))) (40 + s) 4 (xs2 (xs1 (S.2.1 (40 + s) 4)))) (40 + s) 4 (xs (S.2.1 (40 + s) 4))) (40 + s) 4 (xs1 (xs (S.2.1 (40 + s) 4)))) (40 + s) 4 (xs2 (xs1 (xs (S.2.1 (40 + s) 4))))) (40 + s) 4 (xs (xs (S.2.1 (40 + s) 4)))) (40 + s) 4 (xs1 (xs (xs (S.2.1 (40 + s) 4)))))) (put_St4 hs) ?_
      refine z_aload_n hx 3 d_St_draw_43 rfl ?_
      refine z_dup hx d_St_draw_44 rfl ?_
      refine z_get hx k_St (t := 40 + s) (Lay_St hs) 4 (by decide) a1_103 rfl d_St_draw_45 ?_
      refine z_topL (b := xs1 (xs (xs (S.2.1 (40 + s) 4)))) (rdL_s) ?_
      refine z_aload_n hx 3 d_St_draw_48 rfl ?_
      refine z_get hx k_St (t := 40 + s) (Lay_St hs) 4 (by decide) a1_103 rfl d_St_draw_49 ?_
      refine z_topL (b := xs1 (xs (xs (S.2.1 (40 + s) 4)))) (rdL_s) ?_
      refine z_bipush (v := 7) hx d_St_draw_52 rfl ?_
      refine z_lushr hx d_St_draw_54 ?_
      refine z_lxor hx d_St_draw_55 ?_
      refine z_topL (b := xs2 (xs1 (xs (xs (S.2.1 (40 + s) 4))))) rfl ?_
      refine z_put hx k_St (t := 40 + s) (Lay_St hs) 4 (by decide) a1_103 rfl rfl rfl (Nat.le_of_ble_eq_true rfl) d_St_draw_56 (ce1 := Lay K ad (stL (stL (stL (stL (stL (stL (stL (stL S (40 + s) 4 (xs1 (S.2.1 (40 + s) 4))) (40 + s) 4 (xs2 (xs1 (S.2.1 (40 + s) 4)))) (40 + s) 4 (xs (S.2.1 (40 + s) 4))) (40 + s) 4 (xs1 (xs (S.2.1 (40 + s) 4)))) (40 + s) 4 (xs2 (xs1 (xs (S.2.1 (40 + s) 4))))) (40 + s) 4 (xs (xs (S.2.1 (40 + s) 4)))) (40 + s) 4 (xs1 (xs (xs (S.2.1 (40 + s) 4))))) (40 + s) 4 (xs2 (xs1 (xs (xs (S.2.1 (40 + s) 4))))))) (put_St4 hs) ?_
      refine z_aload_n hx 3 d_St_draw_59 rfl ?_
      refine z_dup hx d_St_draw_60 rfl ?_
      refine z_get hx k_St (t := 40 + s) (Lay_St hs) 4 (by decide) a1_103 rfl d_St_draw_61 ?_
      refine z_topL (b := xs2 (xs1 (xs (xs (S.2.1 (40 + s) 4))))) (rdL_s) ?_
      refine z_aload_n hx 3 d_St_draw_64 rfl ?_
      refine z_get hx k_St (t := 40 + s) (Lay_St hs) 4 (by decide) a1_103 rfl d_St_draw_65 ?_
      refine z_topL (b := xs2 (xs1 (xs (xs (S.2.1 (40 + s) 4))))) (rdL_s) ?_
      refine z_bipush (v := 17) hx d_St_draw_68 rfl ?_
      refine z_lshl hx d_St_draw_70 ?_
      refine z_lxor hx d_St_draw_71 ?_
      refine z_topL (b := xs (xs (xs (S.2.1 (40 + s) 4)))) rfl ?_
      refine z_put hx k_St (t := 40 + s) (Lay_St hs) 4 (by decide) a1_103 rfl rfl rfl (Nat.le_of_ble_eq_true rfl) d_St_draw_72 (ce1 := Lay K ad (stL (stL (stL (stL (stL (stL (stL (stL (stL S (40 + s) 4 (xs1 (S.2.1 (40 + s) 4))) (40 + s) 4 (xs2 (xs1 (S.2.1 (40 + s) 4)))) (40 + s) 4 (xs (S.2.1 (40 + s) 4))) (40 + s) 4 (xs1 (xs (S.2.1 (40 + s) 4)))) (40 + s) 4 (xs2 (xs1 (xs (S.2.1 (40 + s) 4))))) (40 + s) 4 (xs (xs (S.2.1 (40 + s) 4)))) (40 + s) 4 (xs1 (xs (xs (S.2.1 (40 + s) 4))))) (40 + s) 4 (xs2 (xs1 (xs (xs (S.2.1 (40 + s) 4)))))) (40 + s) 4 (xs (xs (xs (S.2.1 (40 + s) 4)))))) (put_St4 hs) ?_
      refine z_aload_n hx 3 d_St_draw_75 rfl ?_
      refine z_get hx k_St (t := 40 + s) (Lay_St hs) 4 (by decide) a1_103 rfl d_St_draw_76 ?_
      refine z_topL (b := xs (xs (xs (S.2.1 (40 + s) 4)))) (rdL_s) ?_
      refine z_bipush (v := 33) hx d_St_draw_79 rfl ?_
      refine z_lushr hx d_St_draw_81 ?_
      refine z_topL (b := up33 (xs (xs (xs (S.2.1 (40 + s) 4))))) rfl ?_
      refine z_lstore hx [(5, .long (up33 (xs (xs (xs (S.2.1 (40 + s) 4)))))), (4, .int 2), (2, .long (eN (nI n))), (0, .ref (ad (40 + s))), (1, .int (nI n))] d_St_draw_82 (zN hml (by decide)) rfl ?_
      refine z_lload hx 0 d_St_draw_84 rfl ?_
      refine z_lload_n hx 2 d_St_draw_86 rfl ?_
      refine z_lcmp hx d_St_draw_87 ?_
      refine z_if_ge (tgt := 98) hx d_St_draw_88 (by decide) (fun h => absurd h (no3 hn1 hn2 h1 h2)) (fun _ => ?_)
      refine z_lload hx 0 d_St_draw_91 rfl ?_
      refine z_iload_n hx 4 d_St_draw_93 rfl ?_
      refine z_i2l hx d_St_draw_94 ?_
      refine z_lrem hx d_St_draw_95 (by rw [nI_l (by omega)]; exact fun z => absurd ((pk_lEQ (by omega) (by omega)).mp (z.trans (show (0 : Int64) = lN 0 from rfl))) (by omega)) ?_
      refine z_l2i hx d_St_draw_96 ?_
      have e9 : dwF (S.2.1 (40 + s) 4) (nI n) = xs (xs (xs (S.2.1 (40 + s) 4))) := by unfold dwF; (first | rw [if_pos h1] | rw [if_neg h1] | skip); (first | rw [if_pos h2] | rw [if_neg h2] | skip)
      exact z_iret hx hr rfl hq (Nat.le_refl _) (Nat.le_refl _) d_St_draw_97 ⟨by rw [e9, ← dvF_N hn1 hn2]; rfl, rfl, by rw [e9]; simp only [stL_stL]⟩
    · refine z_lload hx 0 d_St_draw_91 rfl ?_
      refine z_iload_n hx 4 d_St_draw_93 rfl ?_
      refine z_i2l hx d_St_draw_94 ?_
      refine z_lrem hx d_St_draw_95 (by rw [nI_l (by omega)]; exact fun z => absurd ((pk_lEQ (by omega) (by omega)).mp (z.trans (show (0 : Int64) = lN 0 from rfl))) (by omega)) ?_
      refine z_l2i hx d_St_draw_96 ?_
      have e9 : dwF (S.2.1 (40 + s) 4) (nI n) = xs (xs (S.2.1 (40 + s) 4)) := by unfold dwF; (first | rw [if_pos h1] | rw [if_neg h1] | skip); (first | rw [if_pos h2] | rw [if_neg h2] | skip)
      exact z_iret hx hr rfl hq (Nat.le_refl _) (Nat.le_refl _) d_St_draw_97 ⟨by rw [e9, ← dvF_N hn1 hn2]; rfl, rfl, by rw [e9]; simp only [stL_stL]⟩
  · refine z_lload hx 0 d_St_draw_91 rfl ?_
    refine z_iload_n hx 4 d_St_draw_93 rfl ?_
    refine z_i2l hx d_St_draw_94 ?_
    refine z_lrem hx d_St_draw_95 (by rw [nI_l (by omega)]; exact fun z => absurd ((pk_lEQ (by omega) (by omega)).mp (z.trans (show (0 : Int64) = lN 0 from rfl))) (by omega)) ?_
    refine z_l2i hx d_St_draw_96 ?_
    have e9 : dwF (S.2.1 (40 + s) 4) (nI n) = xs (S.2.1 (40 + s) 4) := by unfold dwF; (first | rw [if_pos h1] | rw [if_neg h1] | skip)
    exact z_iret hx hr rfl hq (Nat.le_refl _) (Nat.le_refl _) d_St_draw_97 ⟨by rw [e9, ← dvF_N hn1 hn2]; rfl, rfl, by rw [e9]; simp only [stL_stL]⟩
set_option maxRecDepth 20000 in
theorem c_St_layArms {l : Launch} {D : va_G} {K : Nat → ClassId} {ad : Nat → Nat} {S : zSt} {s : Nat} (hs : s < 8) (hg : S.1 (40 + s) = 1) {A F : Nat} (hA : S.2.2 1 1 = nI A) (hA4 : A ≤ 4) {e : Nat → Nat} (he : ∀ a, a < A → (if 0 < S.2.2 1 2 then S.2.2 2 a * (S.2.2 1 3 / S.2.2 1 2) else 0) = nI (e a)) (hF : F + sE e A ≤ S.1 (60 + s)) (hL : S.1 (60 + s) < 2 ^ 30) : zC l TB D zcls (ztyl K) y_St_layArms (.code y_St_layArms b_St_layArms 5 (none : Option FieldType)) (rmk 2 42) [.ref (ad (40 + s)), .int (nI F)] ad (Lay K ad S) (zP K ad none (laS (60 + s) F e S A)) := by
  refine zC.of (by decide +kernel) (Nat.le_of_ble_eq_true rfl) ?_
  intro x hx hr hml hnm hrm hq hNH
  have O : ∀ (m_O a : Nat), a + m_O = A → zV x ad (Lay K ad (laS (60 + s) F e S a)) 0 0 [(3, .int (nI a)), (2, .int (nI (F + sE e a))), (0, .ref (ad (40 + s)))] 4 [] := by
    intro m_O
    induction m_O with
    | zero =>
      intro a he_O
      have e_O : a = A := by omega
      refine z_iload_n hx 0 d_St_layArms_4 rfl ?_
      refine z_aload_n hx 2 d_St_layArms_5 rfl ?_
      refine z_get hx k_St (t := 40 + s) (Lay_StT (S := laS (60 + s) F e S a) hs (by show (laS _ _ _ _ _).1 _ = 1; rw [laS_1]; exact hg)) 2 (by decide) a1_101 rfl d_St_layArms_6 ?_
      refine z_getN hx k_Pl (t := 1) rfl 1 (by decide) a1_35 rfl d_St_layArms_9 ?_
      refine z_top (b := nI A) (by rw [laS_n (by omega)]; exact hA) ?_
      refine z_icmp_ge (tgt := 65) hx d_St_layArms_12 (by decide) (fun _ => ?_) (fun h => absurd (nI_le (by omega) (by omega)) h)
      subst e_O
      exact z_vret hx hr hq (Nat.le_refl _) (Nat.le_refl _) d_St_layArms_65 ⟨rfl, rfl, rfl⟩
    | succ m_O ih_O =>
      intro a he_O
      have l_O : a < A := by omega
      have J : ∀ (m_J j : Nat), j + m_J = e a → zV x ad (Lay K ad (wrS (60 + s) (nI a) (F + sE e a) (laS (60 + s) F e S a) j)) 0 0 [(4, .int (nI (F + sE e a + e a))), (2, .int (nI (F + sE e a + j))), (3, .int (nI a)), (0, .ref (ad (40 + s)))] 27 [] := by
        intro m_J
        induction m_J with
        | zero =>
          intro j he_J
          have e_J : j = e a := by omega
          have m9 := sE_mono (e := e) (a := a + 1) (b := A) l_O
          have m8 : sE e (a + 1) = sE e a + e a := rfl
          refine z_iload_n hx 1 d_St_layArms_27 rfl ?_
          refine z_iload hx 0 d_St_layArms_28 rfl ?_
          refine z_icmp_ge (tgt := 59) hx d_St_layArms_30 (by decide) (fun _ => ?_) (fun h => absurd (nI_le (by omega) (by omega)) h)
          refine z_iinc (v := nI (a + 1)) hx 2 [(3, .int (nI (a + 1))), (4, .int (nI (F + sE e a + e a))), (2, .int (nI (F + sE e a + j))), (0, .ref (ad (40 + s)))] d_St_layArms_59 rfl (nI_1 a) (zN hml (by decide)) rfl ?_
          refine z_goto (tgt := 4) hx d_St_layArms_62 (by decide) ?_
          obtain rfl : j = e a := by omega
          have q9 := ih_O (a + 1) (by omega)
          rw [show F + sE e (a + 1) = F + sE e a + e a by rw [m8]; omega] at q9
          exact z_lv [0, 2, 3] _ rfl q9
        | succ m_J ih_J =>
          intro j he_J
          have l_J : j < e a := by omega
          have m9 := sE_mono (e := e) (a := a + 1) (b := A) l_O
          have m8 : sE e (a + 1) = sE e a + e a := rfl
          refine z_iload_n hx 1 d_St_layArms_27 rfl ?_
          refine z_iload hx 0 d_St_layArms_28 rfl ?_
          refine z_icmp_ge (tgt := 59) hx d_St_layArms_30 (by decide) (fun h => absurd h (nI_ge (by omega) (by omega))) (fun _ => ?_)
          refine z_iload_n hx 1 d_St_layArms_33 rfl ?_
          refine z_if_lt (tgt := 59) hx d_St_layArms_34 (by decide) (fun h => absurd h (nI_pos (by omega))) (fun _ => ?_)
          refine z_iload_n hx 1 d_St_layArms_37 rfl ?_
          refine z_aload_n hx 3 d_St_layArms_38 rfl ?_
          refine z_get hx k_St (t := 40 + s) (Lay_StT (S := wrS (60 + s) (nI a) (F + sE e a) (laS (60 + s) F e S a) j) hs (by show (wrS _ _ _ _ _).1 _ = 1; rw [wrS_1, laS_1]; exact hg)) 3 (by decide) a1_102 rfl d_St_layArms_39 ?_
          refine z_alen hx 0 rfl (t := 60 + s) (Lay_li hs) (v := nI ((wrS (60 + s) (nI a) (F + sE e a) (laS (60 + s) F e S a) j).1 (60 + s))) rfl d_St_layArms_42 ?_
          refine z_icmp_ge (tgt := 59) hx d_St_layArms_43 (by decide) (fun h => absurd h (nI_ge (by rw [wrS_1, laS_1]; omega) (by rw [wrS_1, laS_1]; omega))) (fun _ => ?_)
          refine z_aload_n hx 3 d_St_layArms_46 rfl ?_
          refine z_get hx k_St (t := 40 + s) (Lay_StT (S := wrS (60 + s) (nI a) (F + sE e a) (laS (60 + s) F e S a) j) hs (by show (wrS _ _ _ _ _).1 _ = 1; rw [wrS_1, laS_1]; exact hg)) 3 (by decide) a1_102 rfl d_St_layArms_47 ?_
          refine z_iload_n hx 1 d_St_layArms_50 rfl ?_
          refine z_iload_n hx 2 d_St_layArms_51 rfl ?_
          refine z_iastK hx 0 rfl (t := 60 + s) (Lay_li hs) (k := (F + sE e a + j)) (by rw [wrS_1, laS_1]; omega) (by rw [wrS_1, laS_1]; omega)  d_St_layArms_52 (ce1 := Lay K ad (stM (wrS (60 + s) (nI a) (F + sE e a) (laS (60 + s) F e S a) j) (60 + s) ((F + sE e a + j)) (nI a))) (put_li hs) ?_
          refine z_iinc (v := nI (F + sE e a + (j + 1))) hx 1 [(2, .int (nI (F + sE e a + (j + 1)))), (4, .int (nI (F + sE e a + e a))), (3, .int (nI a)), (0, .ref (ad (40 + s)))] d_St_layArms_53 rfl (nI_1 _) (zN hml (by decide)) rfl ?_
          refine z_goto (tgt := 27) hx d_St_layArms_56 (by decide) ?_
          exact z_lv [1, 0, 2, 3] _ rfl (ih_J (j + 1) (by omega))
      refine z_iload_n hx 0 d_St_layArms_4 rfl ?_
      refine z_aload_n hx 2 d_St_layArms_5 rfl ?_
      refine z_get hx k_St (t := 40 + s) (Lay_StT (S := laS (60 + s) F e S a) hs (by show (laS _ _ _ _ _).1 _ = 1; rw [laS_1]; exact hg)) 2 (by decide) a1_101 rfl d_St_layArms_6 ?_
      refine z_getN hx k_Pl (t := 1) rfl 1 (by decide) a1_35 rfl d_St_layArms_9 ?_
      refine z_top (b := nI A) (by rw [laS_n (by omega)]; exact hA) ?_
      refine z_icmp_ge (tgt := 65) hx d_St_layArms_12 (by decide) (fun h => absurd h (nI_ge (by omega) (by omega))) (fun _ => ?_)
      refine z_iload_n hx 1 d_St_layArms_15 rfl ?_
      refine z_aload_n hx 2 d_St_layArms_16 rfl ?_
      refine z_get hx k_St (t := 40 + s) (Lay_StT (S := laS (60 + s) F e S a) hs (by show (laS _ _ _ _ _).1 _ = 1; rw [laS_1]; exact hg)) 2 (by decide) a1_101 rfl d_St_layArms_17 ?_
      refine z_iload_n hx 0 d_St_layArms_20 rfl ?_
      refine z_cV hx (c_Pl_entriesOf (by omega)) k_Pl rfl ⟨a2_208, a2_211, a1_2, ⟨by decide +kernel, by decide +kernel⟩, fun sig h => by cases h; rfl⟩ a2_209 a2_210 rfl rfl d_St_layArms_21 (by rw [hrm]; exact ⟨Nat.le_of_ble_eq_true rfl, Nat.le_of_ble_eq_true rfl, Nat.le_of_ble_eq_true rfl, Nat.le_of_ble_eq_true rfl⟩) ?_
      show zV x ad (Lay K ad (laS (60 + s) F e S a)) _ _ _ 24 [.int (if 0 < (laS (60 + s) F e S a).2.2 1 2 then (laS (60 + s) F e S a).2.2 2 a * ((laS (60 + s) F e S a).2.2 1 3 / (laS (60 + s) F e S a).2.2 1 2) else 0), .int (nI (F + sE e a))]
      refine z_top (b := nI (e a)) (by rw [laS_n (by omega), laS_n (by omega)]; exact he a l_O) ?_
      refine z_iadd hx d_St_layArms_24 ?_
      refine z_top (b := nI (F + sE e a + e a)) (nI_add _ _) ?_
      refine z_istore hx [(4, .int (nI (F + sE e a + e a))), (3, .int (nI a)), (2, .int (nI (F + sE e a))), (0, .ref (ad (40 + s)))] d_St_layArms_25 (zN hml (by decide)) rfl ?_
      exact z_lv [0, 2, 1, 3] _ rfl (J (e a) 0 (by omega))
  show zV x ad (Lay K ad S) 0 0 [(0, .ref (ad (40 + s))), (1, .int (nI F))] 0 []
  refine z_iload_n hx 1 d_St_layArms_0 rfl ?_
  refine z_top (b := nI (F + sE e 0)) rfl ?_
  refine z_istore_n hx [(2, .int (nI (F + sE e 0))), (0, .ref (ad (40 + s))), (1, .int (nI F))] d_St_layArms_1 rfl (zN hml (by decide)) rfl ?_
  refine z_iconst (v := 0) hx d_St_layArms_2 rfl ?_
  refine z_top (b := nI 0) rfl ?_
  refine z_istore_n hx [(3, .int (nI 0)), (2, .int (nI (F + sE e 0))), (0, .ref (ad (40 + s))), (1, .int (nI F))] d_St_layArms_3 rfl (zN hml (by decide)) rfl ?_
  exact z_lv [0, 1, 2] _ rfl (O A 0 (by omega))
set_option maxRecDepth 20000 in
theorem c_St_shuffle {l : Launch} {D : va_G} {K : Nat → ClassId} {ad : Nat → Nat} {S : zSt} {s : Nat} (hs : s < 8) (hg : S.1 (40 + s) = 1) {F Z : Nat} (hZ : S.2.2 1 3 = nI Z) (hZ1 : 1 ≤ Z) (hZ2 : Z ≤ 24) (hF : F + Z ≤ S.1 (60 + s)) (hL : S.1 (60 + s) < 2 ^ 30) : zC l TB D zcls (ztyl K) y_St_shuffle (.code y_St_shuffle b_St_shuffle 3 (none : Option FieldType)) (rmk 1 26) [.ref (ad (40 + s)), .int (nI F)] ad (Lay K ad S) (zP K ad none (shD (40 + s) 4 (60 + s) F Z S ((Z - 1)))) := by
  refine zC.of (by decide +kernel) (Nat.le_of_ble_eq_true rfl) ?_
  intro x hx hr hml hnm hrm hq hNH
  have L : ∀ (m_L k : Nat), k + m_L = Z - 1 → zV x ad (Lay K ad (shD (40 + s) 4 (60 + s) F Z S k)) 0 0 [(2, .int (nI (Z - 1 - k))), (0, .ref (ad (40 + s))), (1, .int (nI F))] 10 [] := by
    intro m_L
    induction m_L with
    | zero =>
      intro k he_L
      have e_L : k = Z - 1 := by omega
      refine z_iload_n hx 0 d_St_shuffle_10 rfl ?_
      refine z_iconst (v := 1) hx d_St_shuffle_11 rfl ?_
      refine z_icmp_lt (tgt := 37) hx d_St_shuffle_12 (by decide) (fun _ => ?_) (fun h => absurd (by rw [show Z - 1 - k = 0 by omega]; decide) h)
      subst e_L
      exact z_vret hx hr hq (Nat.le_refl _) (Nat.le_refl _) d_St_shuffle_37 ⟨rfl, rfl, rfl⟩
    | succ m_L ih_L =>
      intro k he_L
      have l_L : k < Z - 1 := by omega
      refine z_iload_n hx 0 d_St_shuffle_10 rfl ?_
      refine z_iconst (v := 1) hx d_St_shuffle_11 rfl ?_
      refine z_icmp_lt (tgt := 37) hx d_St_shuffle_12 (by decide) (fun h => absurd h (nI_nlt (b := 1) (by omega) (by omega))) (fun _ => ?_)
      refine z_aload_n hx 1 d_St_shuffle_15 rfl ?_
      refine z_iload_n hx 2 d_St_shuffle_16 rfl ?_
      refine z_iload_n hx 0 d_St_shuffle_17 rfl ?_
      refine z_iadd hx d_St_shuffle_18 ?_
      refine z_top (b := nI (F + (Z - 1 - k))) (nI_add _ _) ?_
      refine z_iload_n hx 2 d_St_shuffle_19 rfl ?_
      refine z_aload_n hx 1 d_St_shuffle_20 rfl ?_
      refine z_iload_n hx 0 d_St_shuffle_21 rfl ?_
      refine z_iconst (v := 1) hx d_St_shuffle_22 rfl ?_
      refine z_iadd hx d_St_shuffle_23 ?_
      refine z_top (b := nI (Z - k)) (by rw [nI_1, show Z - 1 - k + 1 = Z - k by omega]) ?_
      refine z_cV hx (c_St_draw hs (by omega) (by omega)) k_St (Lay_StT (S := shD (40 + s) 4 (60 + s) F Z S k) hs (by show (shD _ _ _ _ _ _ _).1 _ = 1; rw [shD_1]; exact hg)) ⟨a2_220, a2_223, a1_5, ⟨by decide +kernel, by decide +kernel⟩, fun sig h => by cases h; rfl⟩ a2_222 s_St_draw rfl rfl d_St_shuffle_24 (by rw [hrm]; exact ⟨Nat.le_of_ble_eq_true rfl, Nat.le_of_ble_eq_true rfl, Nat.le_of_ble_eq_true rfl, Nat.le_of_ble_eq_true rfl⟩) ?_
      show zV x ad (Lay K ad (stL (shD (40 + s) 4 (60 + s) F Z S k) (40 + s) 4 (dwF ((shD (40 + s) 4 (60 + s) F Z S k).2.1 (40 + s) 4) (nI (Z - k))))) _ _ _ 27 [.int (nI (dN (dwF ((shD (40 + s) 4 (60 + s) F Z S k).2.1 (40 + s) 4) (nI (Z - k))) (Z - k))), .int (nI F), .int (nI (F + (Z - 1 - k))), .ref (ad (40 + s))]
      refine z_iadd hx d_St_shuffle_27 ?_
      refine z_top (b := nI (F + dN (dwF ((shD (40 + s) 4 (60 + s) F Z S k).2.1 (40 + s) 4) (nI (Z - k))) (Z - k))) (nI_add _ _) ?_
      refine z_cV hx (c_St_swap hs (by show _ < (shD _ _ _ _ _ _ _).1 _; rw [shD_1]; omega) (by show _ < (shD _ _ _ _ _ _ _).1 _; rw [shD_1]; have := dN_lt (w := dwF ((shD (40 + s) 4 (60 + s) F Z S k).2.1 (40 + s) 4) (nI (Z - k))) (n := Z - k) (by omega); omega) (by show (shD _ _ _ _ _ _ _).1 _ < _; rw [shD_1]; omega)) k_St (Lay_StT (S := stL (shD (40 + s) 4 (60 + s) F Z S k) (40 + s) 4 (dwF ((shD (40 + s) 4 (60 + s) F Z S k).2.1 (40 + s) 4) (nI (Z - k)))) hs (by show (shD _ _ _ _ _ _ _).1 _ = 1; rw [shD_1]; exact hg)) ⟨a2_226, a2_229, a1_5, ⟨by decide +kernel, by decide +kernel⟩, fun sig h => by cases h; rfl⟩ a2_228 s_St_swap rfl rfl d_St_shuffle_28 (by rw [hrm]; exact ⟨Nat.le_of_ble_eq_true rfl, Nat.le_of_ble_eq_true rfl, Nat.le_of_ble_eq_true rfl, Nat.le_of_ble_eq_true rfl⟩) ?_
      show zV x ad (Lay K ad (swS (60 + s) (stL (shD (40 + s) 4 (60 + s) F Z S k) (40 + s) 4 (dwF ((shD (40 + s) 4 (60 + s) F Z S k).2.1 (40 + s) 4) (nI (Z - k)))) (F + (Z - 1 - k)) (F + dN (dwF ((shD (40 + s) 4 (60 + s) F Z S k).2.1 (40 + s) 4) (nI (Z - k))) (Z - k)))) _ _ _ 31 []
      refine z_iinc (v := nI (Z - 1 - (k + 1))) hx 0 [(2, .int (nI (Z - 1 - (k + 1)))), (0, .ref (ad (40 + s))), (1, .int (nI F))] d_St_shuffle_31 rfl (by rw [show Z - 1 - k = (Z - 1 - (k + 1)) + 1 by omega]; exact pk_m1 _) (zN hml (by decide)) rfl ?_
      refine z_goto (tgt := 10) hx d_St_shuffle_34 (by decide) ?_
      exact z_lv [0, 1, 2] _ rfl (ih_L (k + 1) (by omega))
  show zV x ad (Lay K ad S) 0 0 [(0, .ref (ad (40 + s))), (1, .int (nI F))] 0 []
  refine z_aload_n hx 0 d_St_shuffle_0 rfl ?_
  refine z_get hx k_St (t := 40 + s) (Lay_StT (S := S) hs hg) 2 (by decide) a1_101 rfl d_St_shuffle_1 ?_
  refine z_getN hx k_Pl (t := 1) rfl 3 (by decide) a1_39 rfl d_St_shuffle_4 ?_
  refine z_top (b := nI Z) hZ ?_
  refine z_iconst (v := 1) hx d_St_shuffle_7 rfl ?_
  refine z_isub hx d_St_shuffle_8 ?_
  refine z_top (b := nI (Z - 1 - 0)) (pk_sub (b := 1) (by omega)) ?_
  refine z_istore_n hx [(2, .int (nI (Z - 1 - 0))), (0, .ref (ad (40 + s))), (1, .int (nI F))] d_St_shuffle_9 rfl (zN hml (by decide)) rfl ?_
  exact z_lv [0, 1, 2] _ rfl (L (Z - 1) 0 (by omega))
set_option maxRecDepth 20000 in
theorem c_St_armAhead_built {l : Launch} {D : va_G} {K : Nat → ClassId} {ad : Nat → Nat} {S : zSt} {s : Nat} (hs : s < 8) (hg : S.1 (40 + s) = 1) {q A B Z : Nat} (hB : S.2.2 (40 + s) 5 = nI B) (hA : S.2.2 (40 + s) 6 = nI A) (hAB : ¬ A = B) (hA0 : A < 2 ^ 31) (hB0 : B < 2 ^ 31) (hZ : S.2.2 1 3 = nI Z) (hBZ : B * Z < 2 ^ 31) (hq0 : A * Z + q < 2 ^ 31) (hL : S.1 (60 + s) < 2 ^ 31) : zC l TB D zcls (ztyl K) y_St_armAhead (.code y_St_armAhead b_St_armAhead 2 (some FieldType.int)) (rmk 5 102) [.ref (ad (40 + s)), .int (nI q)] ad (Lay K ad S) (zP K ad (some (.int (if A * Z + q < B * Z ∧ A * Z + q < S.1 (60 + s) then S.2.2 (60 + s) (A * Z + q) else -1))) S) := by
  refine zC.of (by decide +kernel) (Nat.le_of_ble_eq_true rfl) ?_
  intro x hx hr hml hnm hrm hq hNH
  show zV x ad (Lay K ad S) 0 0 [(0, .ref (ad (40 + s))), (1, .int (nI q))] 0 []
  refine z_aload_n hx 0 d_St_armAhead_0 rfl ?_
  refine z_get hx k_St (t := 40 + s) (Lay_StT (S := S) hs hg) 6 (by decide) a1_105 rfl d_St_armAhead_1 ?_
  refine z_top (b := nI A) hA ?_
  refine z_aload_n hx 0 d_St_armAhead_4 rfl ?_
  refine z_get hx k_St (t := 40 + s) (Lay_StT (S := S) hs hg) 5 (by decide) a1_104 rfl d_St_armAhead_5 ?_
  refine z_top (b := nI B) hB ?_
  refine z_icmp_ne (tgt := 15) hx d_St_armAhead_8 (by decide) (fun _ => ?_) (fun h => absurd h (fun z => hAB ((nI_eq hA0 hB0).mp z)))
  refine z_aload_n hx 0 d_St_armAhead_15 rfl ?_
  refine z_aload_n hx 0 d_St_armAhead_16 rfl ?_
  refine z_get hx k_St (t := 40 + s) (Lay_StT (S := S) hs hg) 6 (by decide) a1_105 rfl d_St_armAhead_17 ?_
  refine z_top (b := nI A) hA ?_
  refine z_aload_n hx 0 d_St_armAhead_20 rfl ?_
  refine z_get hx k_St (t := 40 + s) (Lay_StT (S := S) hs hg) 2 (by decide) a1_101 rfl d_St_armAhead_21 ?_
  refine z_getN hx k_Pl (t := 1) rfl 3 (by decide) a1_39 rfl d_St_armAhead_24 ?_
  refine z_top (b := nI Z) hZ ?_
  refine z_imul hx d_St_armAhead_27 ?_
  refine z_top (b := nI (A * Z)) (pk_mul _ _) ?_
  refine z_iload_n hx 1 d_St_armAhead_28 rfl ?_
  refine z_iadd hx d_St_armAhead_29 ?_
  refine z_top (b := nI (A * Z + q)) (nI_add _ _) ?_
  refine z_cV hx (c_St_armAt hs hg hB hZ hBZ hq0 hL) k_St (Lay_StT (S := S) hs hg) ⟨a2_169, a2_172, a1_5, ⟨by decide +kernel, by decide +kernel⟩, fun sig h => by cases h; rfl⟩ a2_171 s_St_armAt rfl rfl d_St_armAhead_30 (by rw [hrm]; exact ⟨Nat.le_of_ble_eq_true rfl, Nat.le_of_ble_eq_true rfl, Nat.le_of_ble_eq_true rfl, Nat.le_of_ble_eq_true rfl⟩) ?_
  show zV x ad (Lay K ad S) _ _ _ 33 [.int (if A * Z + q < B * Z ∧ A * Z + q < S.1 (60 + s) then S.2.2 (60 + s) (A * Z + q) else -1)]
  exact z_iret hx hr rfl hq (Nat.le_refl _) (Nat.le_refl _) d_St_armAhead_33 ⟨rfl, rfl, rfl⟩
set_option maxRecDepth 20000 in
theorem c_St_nextArm_open {l : Launch} {D : va_G} {K : Nat → ClassId} {ad : Nat → Nat} {S : zSt} {s : Nat} (hs : s < 8) (hg : S.1 (40 + s) = 1) {q O B Z : Nat} (hO : S.2.2 (40 + s) 8 = nI O) (hO1 : 0 < O) (hO2 : O < 2 ^ 31) (hP : S.2.2 (40 + s) 7 = nI q) (hB : S.2.2 (40 + s) 5 = nI B) (hZ : S.2.2 1 3 = nI Z) (hBZ : B * Z < 2 ^ 31) (hq0 : q < 2 ^ 31) (hL : S.1 (60 + s) < 2 ^ 31) : zC l TB D zcls (ztyl K) y_St_nextArm (.code y_St_nextArm b_St_nextArm 1 (some FieldType.int)) (rmk 6 123) [.ref (ad (40 + s))] ad (Lay K ad S) (zP K ad (some (.int (if q < B * Z ∧ q < S.1 (60 + s) then S.2.2 (60 + s) q else -1))) S) := by
  refine zC.of (by decide +kernel) (Nat.le_of_ble_eq_true rfl) ?_
  intro x hx hr hml hnm hrm hq hNH
  show zV x ad (Lay K ad S) 0 0 [(0, .ref (ad (40 + s)))] 0 []
  refine z_aload_n hx 0 d_St_nextArm_0 rfl ?_
  refine z_get hx k_St (t := 40 + s) (Lay_St hs) 8 (by decide) a1_108 rfl d_St_nextArm_1 ?_
  refine z_top (b := nI O) hO ?_
  refine z_if_le (tgt := 18) hx d_St_nextArm_4 (by decide) (fun h => absurd h (nI_nle hO1 hO2)) (fun _ => ?_)
  refine z_aload_n hx 0 d_St_nextArm_7 rfl ?_
  refine z_aload_n hx 0 d_St_nextArm_8 rfl ?_
  refine z_get hx k_St (t := 40 + s) (Lay_St hs) 7 (by decide) a1_107 rfl d_St_nextArm_9 ?_
  refine z_top (b := nI q) hP ?_
  refine z_cV hx (c_St_armAt hs hg hB hZ hBZ hq0 hL) k_St (Lay_St hs) ⟨a2_169, a2_172, a1_5, ⟨by decide +kernel, by decide +kernel⟩, fun sig h => by cases h; rfl⟩ a2_171 s_St_armAt rfl rfl d_St_nextArm_12 (by rw [hrm]; exact ⟨Nat.le_of_ble_eq_true rfl, Nat.le_of_ble_eq_true rfl, Nat.le_of_ble_eq_true rfl, Nat.le_of_ble_eq_true rfl⟩) ?_
  show zV x ad (Lay K ad S) _ _ _ 15 [.int (if q < B * Z ∧ q < S.1 (60 + s) then S.2.2 (60 + s) q else -1)]
  refine z_goto (tgt := 23) hx d_St_nextArm_15 (by decide) ?_
  exact z_iret hx hr rfl hq (Nat.le_refl _) (Nat.le_refl _) d_St_nextArm_23 ⟨rfl, rfl, rfl⟩
