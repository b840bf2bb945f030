def nxS (S : zSt) (s O T B Z A : Nat) (e : Nat → Nat) : zSt := if O = 0 then ahS S s T B Z A e else S
def nxV (S : zSt) (s O P T B Z A : Nat) (e : Nat → Nat) : Int32 := if O = 0 then (ahS S s T B Z A e).2.2 (60 + s) (T * Z + 0) else S.2.2 (60 + s) P
theorem ahS_n {S : zSt} {s T B Z A : Nat} {e : Nat → Nat} {u : Nat} (h1 : u ≠ 60 + s) (h2 : u ≠ 40 + s) : (ahS S s T B Z A e).2.2 u = S.2.2 u := by
  unfold ahS
  by_cases h : T = B
  · rw [if_pos h, bdS_n h1 h2]
  · rw [if_neg h]
theorem nxS_n {S : zSt} {s O T B Z A : Nat} {e : Nat → Nat} {u : Nat} (h1 : u ≠ 60 + s) (h2 : u ≠ 40 + s) : (nxS S s O T B Z A e).2.2 u = S.2.2 u := by
  unfold nxS
  by_cases h : O = 0
  · rw [if_pos h, ahS_n h1 h2]
  · rw [if_neg h]
theorem ahS_1n {S : zSt} {s T B Z A : Nat} {e : Nat → Nat} {u : Nat} (h1 : u ≠ 60 + s) : (ahS S s T B Z A e).1 u = S.1 u := by
  unfold ahS
  by_cases h : T = B
  · rw [if_pos h, bdS_1, mkS_1n h1]
  · rw [if_neg h]
theorem nxS_1n {S : zSt} {s O T B Z A : Nat} {e : Nat → Nat} {u : Nat} (h1 : u ≠ 60 + s) : (nxS S s O T B Z A e).1 u = S.1 u := by
  unfold nxS
  by_cases h : O = 0
  · rw [if_pos h, ahS_1n h1]
  · rw [if_neg h]
/-- the least from k on within m steps, 1000 if there is none -/
def nxt (p : Nat → Bool) : Nat → Nat → Nat
  | 0, _ => 1000
  | m + 1, k => if p k = true then k else nxt p m (k + 1)
def kst (p : Nat → Bool) : Nat → Nat
  | 0 => 0
  | c + 1 => nxt p (1000 - kst p c) (kst p c) + 1
/-- the c-th that has it -/
def kth (p : Nat → Bool) (c : Nat) : Nat := nxt p (1000 - kst p c) (kst p c)
theorem nxt_le {p : Nat → Bool} {m k : Nat} (h : k + m ≤ 1000) : nxt p m k ≤ 1000 := by
  induction m generalizing k with
  | zero => exact Nat.le_refl _
  | succ m ih =>
    rw [nxt]
    by_cases q : p k = true
    · rw [if_pos q]; omega
    · rw [if_neg q]; exact ih (by omega)
theorem kth_le {p : Nat → Bool} {c : Nat} : kth p c ≤ 1000 := by
  unfold kth
  by_cases h : kst p c ≤ 1000
  · exact nxt_le (by omega)
  · rw [show 1000 - kst p c = 0 by omega]; exact Nat.le_refl _
theorem lstF_nxt {p : Nat → Bool} {m k : Nat} (h : k + m = 1000) : lstF p m k = if nxt p m k = 1000 then -1 else nI (nxt p m k) := by
  induction m generalizing k with
  | zero => rw [lstF, nxt, if_pos rfl]
  | succ m ih =>
    rw [lstF, nxt]
    by_cases q : p k = true
    · rw [if_pos q, if_pos q, if_neg (by omega)]
    · rw [if_neg q, if_neg q]; exact ih (by omega)
theorem lstF_kth {p : Nat → Bool} {c : Nat} (h : kst p c ≤ 1000) : lstF p (1000 - kst p c) (kst p c) = if kth p c = 1000 then -1 else nI (kth p c) := lstF_nxt (by omega)
theorem nI_m1 {k : Nat} (h : k < 2 ^ 31) : ¬ nI k = -1 := fun q => by
  have := nI_pos h
  rw [q] at this
  exact this (by decide)
def pA (S : zSt) (i a : Nat) : Nat → Bool := fun q => decide (S.2.2 7 q = 1 ∧ S.2.2 5 q = nI i ∧ S.2.2 6 q = nI a)
def akF (S : zSt) (s a : Nat) : zSt := stM S (50 + s) a (S.2.2 (50 + s) a + 1)
def usF (S : zSt) (k : Nat) (p : Int32) : zSt := stM (stM S 7 k 3) 8 k p
def enF (S : zSt) (i p : Nat) (s a w : Int32) : zSt := stM (stM (stM S (110 + i) p w) (120 + i) p s) (130 + i) p a
theorem teF_n {S : zSt} {s u : Nat} (h : u ≠ 40 + s) : (teF S s).2.2 u = S.2.2 u := by
  unfold teF
  by_cases q : S.2.2 (40 + s) 8 = 0
  · rw [if_pos q, stM_n h, stM_n h, stM_n h, stM_n h, stM_n h]
  · rw [if_neg q, stM_n h, stM_n h]
def dAllot (S : zSt) (i s p a : Nat) : Int32 × zSt := if kth (pA S i a) 0 = 1000 then (-6, S) else if S.2.2 3 1 = 0 then (nI (kth (pA S i a) 0), enF (usF (akF (teF (wOk S) s) s a) (kth (pA S i a) 0) (nI p)) i p (nI s) (nI a) 2) else (-2, wT S)
set_option maxRecDepth 20000 in
theorem c_St_nextArm {l : Launch} {D : va_G} {K : Nat → ClassId} {ad : Nat → Nat} {S : zSt} {s : Nat} (hs : s < 8) (hg : S.1 (40 + s) = 1) {O P T A B Z M : Nat} (hB : S.2.2 (40 + s) 5 = nI B) (hZ : S.2.2 1 3 = nI Z) (hZ1 : 1 ≤ Z) (hZ2 : Z ≤ 24) (hA : S.2.2 1 1 = nI A) (hA4 : A ≤ 4) {e : Nat → Nat} (he : ∀ a, a < A → (if 0 < S.2.2 1 2 then S.2.2 2 a * (S.2.2 1 3 / S.2.2 1 2) else 0) = nI (e a)) (hsE : sE e A = Z) (hL : S.1 (60 + s) ≤ 24576) (hT : S.2.2 (40 + s) 6 = nI T) (hTB : B = T ∨ B = T + 1) (hT5 : T < 512) (hlen : B = T + 1 → (T + 1) * Z ≤ S.1 (60 + s)) (hM : S.1 (60 + s) < B * Z + Z → max (B * Z + Z) (2 * S.1 (60 + s)) ≤ M) (hO : S.2.2 (40 + s) 8 = nI O) (hO2 : O < 2 ^ 31) (hP : ¬ O = 0 → S.2.2 (40 + s) 7 = nI P ∧ P < B * Z ∧ P < S.1 (60 + s)) : zC l TB D zcls (ztyl K) y_St_nextArm (.code y_St_nextArm b_St_nextArm 1 (some FieldType.int)) (rma M 6 123) [.ref (ad (40 + s))] ad (Lay K ad S) (zPa K ad s (some (.int (nxV S s O P T B Z A e))) (nxS S s O T B Z A e)) := by
  refine zC.of (by decide +kernel) (Nat.le_of_ble_eq_true rfl) ?_
  intro x hx hr hml hnm hrm hq hNH
  have hbz : B * Z ≤ 512 * 24 := Nat.mul_le_mul (by omega) hZ2
  show zV x ad (Lay K ad S) 0 0 [(0, .ref (ad (40 + s)))] 0 []
  refine z_aload_n hx 0 d_St_nextArm_0 rfl ?_
  refine z_get hx k_St (t := 40 + s) (Lay_StT (S := S) hs hg) 8 (by decide) a1_108 rfl d_St_nextArm_1 ?_
  refine z_top (b := nI O) hO ?_
  refine z_if_le (tgt := 18) hx d_St_nextArm_4 (by decide) (fun h1 => ?_) (fun h1 => ?_)
  · have hO0 : O = 0 := Nat.eq_zero_of_not_pos fun z => nI_nle z hO2 h1
    refine z_aload_n hx 0 d_St_nextArm_18 rfl ?_
    refine z_iconst (v := 0) hx d_St_nextArm_19 rfl ?_
    refine z_cVa hx (c_St_armAhead (q := 0) hs hg (by omega) hB hZ hZ1 hZ2 hA hA4 he hsE hL hT hTB hT5 hlen hM) k_St (Lay_StT (S := S) hs hg) ⟨a2_173, a2_176, a1_5, ⟨by decide +kernel, by decide +kernel⟩, fun sig h => by cases h; rfl⟩ a2_174 a2_175 rfl rfl d_St_nextArm_20 (by rw [hrm]; exact ⟨Nat.le_of_ble_eq_true rfl, Nat.le_of_ble_eq_true rfl, Nat.le_of_ble_eq_true rfl, Nat.le_of_eq (Nat.zero_add _)⟩) (fun ad1 hag => ?_)
    show zV x ad1 (Lay K ad1 (ahS S s T B Z A e)) (0 + 1) (0 + M) [(0, .ref (ad (40 + s)))] 23 [.int ((ahS S s T B Z A e).2.2 (60 + s) (T * Z + 0))]
    rw [← hag (40 + s) (by omega)]
    refine z_top (b := nxV S s O P T B Z A e) (by rw [nxV, if_pos hO0]) ?_
    exact z_iret hx hr rfl hq (Nat.le_of_eq (Nat.zero_add _)) (Nat.le_of_eq (Nat.zero_add _)) d_St_nextArm_23 ⟨rfl, hag, by rw [nxS, if_pos hO0]⟩
  · have hO1 : ¬ O = 0 := fun z => h1 (by rw [z]; decide)
    refine z_aload_n hx 0 d_St_nextArm_7 rfl ?_
    refine z_aload_n hx 0 d_St_nextArm_8 rfl ?_
    refine z_get hx k_St (t := 40 + s) (Lay_StT (S := S) hs hg) 7 (by decide) a1_107 rfl d_St_nextArm_9 ?_
    refine z_top (b := nI P) (hP hO1).1 ?_
    refine z_cV hx (c_St_armAt (q := P) hs hg hB hZ (by omega) (by have := (hP hO1).2.1; omega) (by omega)) k_St (Lay_StT (S := S) hs hg) ⟨a2_169, a2_172, a1_5, ⟨by decide +kernel, by decide +kernel⟩, fun sig h => by cases h; rfl⟩ a2_171 s_St_armAt rfl rfl d_St_nextArm_12 (by rw [hrm]; exact ⟨Nat.le_of_ble_eq_true rfl, Nat.le_of_ble_eq_true rfl, Nat.le_of_ble_eq_true rfl, Nat.zero_le _⟩) ?_
    show zV x ad (Lay K ad S) _ _ _ 15 [.int (if P < B * Z ∧ P < S.1 (60 + s) then S.2.2 (60 + s) P else -1)]
    refine z_top (b := nxV S s O P T B Z A e) (by rw [nxV, if_neg hO1, if_pos (hP hO1).2]) ?_
    refine z_goto (tgt := 23) hx d_St_nextArm_15 (by decide) ?_
    exact z_iret hx hr rfl hq (Nat.zero_le _) (Nat.zero_le _) d_St_nextArm_23 ⟨rfl, fun t h => rfl, by rw [nxS, if_neg hO1]⟩
def dAllE (S : zSt) (i : Nat) : Int32 × zSt := if S.2.2 3 0 = 0 then (if S.2.2 0 7 = 0 then (if S.2.2 (100 + i) 5 = 0 then (-5, S) else (-4, S)) else (-3, S)) else (-2, S)
set_option maxRecDepth 20000 in
theorem c_TD_allot_early {l : Launch} {D : va_G} {K : Nat → ClassId} {ad : Nat → Nat} {S : zSt} {i : Nat} (hi : i < 10) (ho : S.2.2 9 i ≠ 0) {s : Nat} (hs : s < 8) {p : Nat} (hp : p < 100) (hpl : S.2.2 1 1 ≠ 0) (hE : ¬ S.2.2 3 0 = 0 ∨ ¬ S.2.2 0 7 = 0 ∨ ¬ S.2.2 (100 + i) 5 = 0 ∨ ¬ S.2.2 (110 + i) p = 0) : zC l TB D zcls (ztyl K) y_TD_allot (.code y_TD_allot b_TD_allot 8 (some FieldType.int)) (rmk 7 143) [.ref (ad 0), .int (nI i), .int (nI s), .int (nI p)] ad (Lay K ad S) (zP K ad (some (.int (dAllE S i).1)) (dAllE S i).2) := by
  refine zC.of (by decide +kernel) (Nat.le_of_ble_eq_true rfl) ?_
  intro x hx hr hml hnm hrm hq hNH
  show zV x ad (Lay K ad S) 0 0 [(0, .ref (ad 0)), (1, .int (nI i)), (2, .int (nI s)), (3, .int (nI p))] 0 []
  refine z_aload_n hx 0 d_TD_allot_0 rfl ?_
  refine z_iload_n hx 1 d_TD_allot_1 rfl ?_
  refine z_cV hx (c_TD_siteAt hi ho) k_TD rfl ⟨a2_113, a2_116, a1_1, ⟨by decide +kernel, by decide +kernel⟩, fun sig h => by cases h; rfl⟩ a2_115 s_TD_siteAt rfl rfl d_TD_allot_2 (by rw [hrm]; exact ⟨Nat.le_of_ble_eq_true rfl, Nat.le_of_ble_eq_true rfl, Nat.le_of_ble_eq_true rfl, Nat.le_of_ble_eq_true rfl⟩) ?_
  show zV x ad (Lay K ad S) _ _ _ 5 [.ref (ad (100 + i))]
  refine z_astore hx [(4, .ref (ad (100 + i))), (0, .ref (ad 0)), (1, .int (nI i)), (2, .int (nI s)), (3, .int (nI p))] d_TD_allot_5 (zN hml (by decide)) rfl ?_
  refine z_aload_n hx 1 d_TD_allot_7 rfl ?_
  refine z_iload_n hx 3 d_TD_allot_8 rfl ?_
  refine z_cV hx (c_TD_stratumAt hs) k_TD rfl ⟨a2_6, a2_9, a1_1, ⟨by decide +kernel, by decide +kernel⟩, fun sig h => by cases h; rfl⟩ a2_8 s_TD_stratumAt rfl rfl d_TD_allot_9 (by rw [hrm]; exact ⟨Nat.le_of_ble_eq_true rfl, Nat.le_of_ble_eq_true rfl, Nat.le_of_ble_eq_true rfl, Nat.le_of_ble_eq_true rfl⟩) ?_
  show zV x ad (Lay K ad S) _ _ _ 12 [.ref (ad (40 + s))]
  refine z_astore hx [(5, .ref (ad (40 + s))), (4, .ref (ad (100 + i))), (0, .ref (ad 0)), (1, .int (nI i)), (2, .int (nI s)), (3, .int (nI p))] d_TD_allot_12 (zN hml (by decide)) rfl ?_
  refine z_iload_n hx 5 d_TD_allot_14 rfl ?_
  refine z_cS hx (c_TD_needPerson hp) ⟨a2_155, a2_157, a1_1, ⟨by decide +kernel, by decide +kernel⟩, fun sig h => by cases h; rfl⟩ a2_156 rfl rfl d_TD_allot_15 (by rw [hrm]; exact ⟨Nat.le_of_ble_eq_true rfl, Nat.le_of_ble_eq_true rfl, Nat.le_of_ble_eq_true rfl, Nat.le_of_ble_eq_true rfl⟩) ?_
  show zV x ad (Lay K ad S) _ _ _ 18 []
  refine z_aload_n hx 2 d_TD_allot_18 rfl ?_
  refine z_cV hx (c_TD_needPlan hpl) k_TD rfl ⟨a2_125, a2_128, a1_1, ⟨by decide +kernel, by decide +kernel⟩, fun sig h => by cases h; rfl⟩ a2_127 s_TD_needPlan rfl rfl d_TD_allot_19 (by rw [hrm]; exact ⟨Nat.le_of_ble_eq_true rfl, Nat.le_of_ble_eq_true rfl, Nat.le_of_ble_eq_true rfl, Nat.le_of_ble_eq_true rfl⟩) ?_
  show zV x ad (Lay K ad S) _ _ _ 22 []
  refine z_aload_n hx 2 d_TD_allot_22 rfl ?_
  refine z_get hx k_TD (t := 0) rfl 1 (by decide) a1_129 rfl d_TD_allot_23 ?_
  refine z_getN hx k_Jo (t := 3) rfl 0 (by decide) a1_58 rfl d_TD_allot_26 ?_
  refine z_if_eq (tgt := 35) hx d_TD_allot_29 (by decide) (fun h1 => ?_) (fun h1 => ?_)
  · refine z_aload_n hx 2 d_TD_allot_35 rfl ?_
    refine z_get hx k_TD (t := 0) rfl 7 (by decide) a1_135 rfl d_TD_allot_36 ?_
    refine z_if_eq (tgt := 45) hx d_TD_allot_39 (by decide) (fun h2 => ?_) (fun h2 => ?_)
    · refine z_aload hx 1 d_TD_allot_45 rfl ?_
      refine z_getN hx k_Si (t := 100 + i) (Lay_Si hi ho) 5 (by decide) a2_92 rfl d_TD_allot_47 ?_
      refine z_if_eq (tgt := 56) hx d_TD_allot_50 (by decide) (fun h3 => ?_) (fun h3 => ?_)
      · refine z_aload hx 1 d_TD_allot_56 rfl ?_
        refine z_iload_n hx 5 d_TD_allot_58 rfl ?_
        by_cases h4 : S.2.2 (110 + i) p = 0
        · refine z_cV hx ((by have q := c_Si_isAllotted (l := l) (D := D) (K := K) (ad := ad) (S := S) hi ho hp; rw [if_pos h4] at q; exact q)) k_Si (Lay_Si hi ho) ⟨a2_158, a2_161, a1_13, ⟨by decide +kernel, by decide +kernel⟩, fun sig h => by cases h; rfl⟩ a2_159 a2_160 rfl rfl d_TD_allot_59 (by rw [hrm]; exact ⟨Nat.le_of_ble_eq_true rfl, Nat.le_of_ble_eq_true rfl, Nat.le_of_ble_eq_true rfl, Nat.le_of_ble_eq_true rfl⟩) ?_
          show zV x ad (Lay K ad S) _ _ _ 62 [.int 0]
          refine z_if_eq (tgt := 68) hx d_TD_allot_62 (by decide) (fun _ => ?_) (fun h => absurd (by decide) h)
          exact absurd hE (by simp [h1, h2, h3, h4])
        · refine z_cV hx ((by have q := c_Si_isAllotted (l := l) (D := D) (K := K) (ad := ad) (S := S) hi ho hp; rw [if_neg h4] at q; exact q)) k_Si (Lay_Si hi ho) ⟨a2_158, a2_161, a1_13, ⟨by decide +kernel, by decide +kernel⟩, fun sig h => by cases h; rfl⟩ a2_159 a2_160 rfl rfl d_TD_allot_59 (by rw [hrm]; exact ⟨Nat.le_of_ble_eq_true rfl, Nat.le_of_ble_eq_true rfl, Nat.le_of_ble_eq_true rfl, Nat.le_of_ble_eq_true rfl⟩) ?_
          show zV x ad (Lay K ad S) _ _ _ 62 [.int 1]
          refine z_if_eq (tgt := 68) hx d_TD_allot_62 (by decide) (fun h => absurd h (by decide)) (fun _ => ?_)
          refine z_bipush (v := (-5)) hx d_TD_allot_65 rfl ?_
          have e9 : dAllE S i = ((-5), S) := by unfold dAllE; (first | rw [if_pos h1] | rw [if_neg h1] | skip); (first | rw [if_pos h2] | rw [if_neg h2] | skip); (first | rw [if_pos h3] | rw [if_neg h3] | skip); (first | rw [if_pos h4] | rw [if_neg h4] | skip); (try rfl)
          exact z_iret hx hr rfl hq (Nat.le_refl _) (Nat.le_refl _) d_TD_allot_67 ⟨by rw [e9], rfl, by rw [e9]⟩
      · refine z_bipush (v := (-4)) hx d_TD_allot_53 rfl ?_
        have e9 : dAllE S i = ((-4), S) := by unfold dAllE; (first | rw [if_pos h1] | rw [if_neg h1] | skip); (first | rw [if_pos h2] | rw [if_neg h2] | skip); (first | rw [if_pos h3] | rw [if_neg h3] | skip); (try rfl)
        exact z_iret hx hr rfl hq (Nat.le_refl _) (Nat.le_refl _) d_TD_allot_55 ⟨by rw [e9], rfl, by rw [e9]⟩
    · refine z_bipush (v := (-3)) hx d_TD_allot_42 rfl ?_
      have e9 : dAllE S i = ((-3), S) := by unfold dAllE; (first | rw [if_pos h1] | rw [if_neg h1] | skip); (first | rw [if_pos h2] | rw [if_neg h2] | skip); (try rfl)
      exact z_iret hx hr rfl hq (Nat.le_refl _) (Nat.le_refl _) d_TD_allot_44 ⟨by rw [e9], rfl, by rw [e9]⟩
  · refine z_bipush (v := (-2)) hx d_TD_allot_32 rfl ?_
    have e9 : dAllE S i = ((-2), S) := by unfold dAllE; (first | rw [if_pos h1] | rw [if_neg h1] | skip); (try rfl)
    exact z_iret hx hr rfl hq (Nat.le_refl _) (Nat.le_refl _) d_TD_allot_34 ⟨by rw [e9], rfl, by rw [e9]⟩
set_option maxRecDepth 20000 in
theorem c_TD_allot {l : Launch} {D : va_G} {K : Nat → ClassId} {ad : Nat → Nat} {S : zSt} {i : Nat} (hi : i < 10) (ho : S.2.2 9 i ≠ 0) {s : Nat} (hs : s < 8) {p : Nat} (hp : p < 100) (hpl : S.2.2 1 1 ≠ 0) (hd0 : S.2.2 3 0 = 0) (ho7 : S.2.2 0 7 = 0) (hcl : S.2.2 (100 + i) 5 = 0) (hp0 : S.2.2 (110 + i) p = 0) (hg : S.1 (40 + s) = 1) {O P T A B Z M : Nat} (hB : S.2.2 (40 + s) 5 = nI B) (hZ : S.2.2 1 3 = nI Z) (hZ1 : 1 ≤ Z) (hZ2 : Z ≤ 24) (hA : S.2.2 1 1 = nI A) (hA4 : A ≤ 4) {e : Nat → Nat} (he : ∀ a, a < A → (if 0 < S.2.2 1 2 then S.2.2 2 a * (S.2.2 1 3 / S.2.2 1 2) else 0) = nI (e a)) (hsE : sE e A = Z) (hL : S.1 (60 + s) ≤ 24576) (hT : S.2.2 (40 + s) 6 = nI T) (hTB : B = T ∨ B = T + 1) (hT5 : T < 512) (hlen : B = T + 1 → (T + 1) * Z ≤ S.1 (60 + s)) (hM : S.1 (60 + s) < B * Z + Z → max (B * Z + Z) (2 * S.1 (60 + s)) ≤ M) (hO : S.2.2 (40 + s) 8 = nI O) (hO2 : O < 2 ^ 31) (hP : ¬ O = 0 → S.2.2 (40 + s) 7 = nI P ∧ P < B * Z ∧ P < S.1 (60 + s)) {a : Nat} (ha : a < 4) (hav : nxV S s O P T B Z A e = nI a) : zC l TB D zcls (ztyl K) y_TD_allot (.code y_TD_allot b_TD_allot 8 (some FieldType.int)) (rma M 7 143) [.ref (ad 0), .int (nI i), .int (nI s), .int (nI p)] ad (Lay K ad S) (zPa K ad s (some (.int (dAllot (nxS S s O T B Z A e) i s p a).1)) (dAllot (nxS S s O T B Z A e) i s p a).2) := by
  refine zC.of (by decide +kernel) (Nat.le_of_ble_eq_true rfl) ?_
  intro x hx hr hml hnm hrm hq hNH
  show zV x ad (Lay K ad S) 0 0 [(0, .ref (ad 0)), (1, .int (nI i)), (2, .int (nI s)), (3, .int (nI p))] 0 []
  refine z_aload_n hx 0 d_TD_allot_0 rfl ?_
  refine z_iload_n hx 1 d_TD_allot_1 rfl ?_
  refine z_cV hx (c_TD_siteAt hi ho) k_TD rfl ⟨a2_113, a2_116, a1_1, ⟨by decide +kernel, by decide +kernel⟩, fun sig h => by cases h; rfl⟩ a2_115 s_TD_siteAt rfl rfl d_TD_allot_2 (by rw [hrm]; exact ⟨Nat.le_of_ble_eq_true rfl, Nat.le_of_ble_eq_true rfl, Nat.le_of_ble_eq_true rfl, Nat.zero_le _⟩) ?_
  show zV x ad (Lay K ad S) _ _ _ 5 [.ref (ad (100 + i))]
  refine z_astore hx [(4, .ref (ad (100 + i))), (0, .ref (ad 0)), (1, .int (nI i)), (2, .int (nI s)), (3, .int (nI p))] d_TD_allot_5 (zN hml (by decide)) rfl ?_
  refine z_aload_n hx 1 d_TD_allot_7 rfl ?_
  refine z_iload_n hx 3 d_TD_allot_8 rfl ?_
  refine z_cV hx (c_TD_stratumAt hs) k_TD rfl ⟨a2_6, a2_9, a1_1, ⟨by decide +kernel, by decide +kernel⟩, fun sig h => by cases h; rfl⟩ a2_8 s_TD_stratumAt rfl rfl d_TD_allot_9 (by rw [hrm]; exact ⟨Nat.le_of_ble_eq_true rfl, Nat.le_of_ble_eq_true rfl, Nat.le_of_ble_eq_true rfl, Nat.zero_le _⟩) ?_
  show zV x ad (Lay K ad S) _ _ _ 12 [.ref (ad (40 + s))]
  refine z_astore hx [(5, .ref (ad (40 + s))), (4, .ref (ad (100 + i))), (0, .ref (ad 0)), (1, .int (nI i)), (2, .int (nI s)), (3, .int (nI p))] d_TD_allot_12 (zN hml (by decide)) rfl ?_
  refine z_iload_n hx 5 d_TD_allot_14 rfl ?_
  refine z_cS hx (c_TD_needPerson hp) ⟨a2_155, a2_157, a1_1, ⟨by decide +kernel, by decide +kernel⟩, fun sig h => by cases h; rfl⟩ a2_156 rfl rfl d_TD_allot_15 (by rw [hrm]; exact ⟨Nat.le_of_ble_eq_true rfl, Nat.le_of_ble_eq_true rfl, Nat.le_of_ble_eq_true rfl, Nat.zero_le _⟩) ?_
  show zV x ad (Lay K ad S) _ _ _ 18 []
  refine z_aload_n hx 2 d_TD_allot_18 rfl ?_
  refine z_cV hx (c_TD_needPlan hpl) k_TD rfl ⟨a2_125, a2_128, a1_1, ⟨by decide +kernel, by decide +kernel⟩, fun sig h => by cases h; rfl⟩ a2_127 s_TD_needPlan rfl rfl d_TD_allot_19 (by rw [hrm]; exact ⟨Nat.le_of_ble_eq_true rfl, Nat.le_of_ble_eq_true rfl, Nat.le_of_ble_eq_true rfl, Nat.zero_le _⟩) ?_
  show zV x ad (Lay K ad S) _ _ _ 22 []
  refine z_aload_n hx 2 d_TD_allot_22 rfl ?_
  refine z_get hx k_TD (t := 0) rfl 1 (by decide) a1_129 rfl d_TD_allot_23 ?_
  refine z_getN hx k_Jo (t := 3) rfl 0 (by decide) a1_58 rfl d_TD_allot_26 ?_
  refine z_if_eq (tgt := 35) hx d_TD_allot_29 (by decide) (fun _ => ?_) (fun h => absurd hd0 h)
  refine z_aload_n hx 2 d_TD_allot_35 rfl ?_
  refine z_get hx k_TD (t := 0) rfl 7 (by decide) a1_135 rfl d_TD_allot_36 ?_
  refine z_if_eq (tgt := 45) hx d_TD_allot_39 (by decide) (fun _ => ?_) (fun h => absurd ho7 h)
  refine z_aload hx 1 d_TD_allot_45 rfl ?_
  refine z_getN hx k_Si (t := 100 + i) (Lay_Si hi ho) 5 (by decide) a2_92 rfl d_TD_allot_47 ?_
  refine z_if_eq (tgt := 56) hx d_TD_allot_50 (by decide) (fun _ => ?_) (fun h => absurd hcl h)
  refine z_aload hx 1 d_TD_allot_56 rfl ?_
  refine z_iload_n hx 5 d_TD_allot_58 rfl ?_
  refine z_cV hx ((by have q := c_Si_isAllotted (l := l) (D := D) (K := K) (ad := ad) (S := S) hi ho hp; rw [if_pos hp0] at q; exact q)) k_Si (Lay_Si hi ho) ⟨a2_158, a2_161, a1_13, ⟨by decide +kernel, by decide +kernel⟩, fun sig h => by cases h; rfl⟩ a2_159 a2_160 rfl rfl d_TD_allot_59 (by rw [hrm]; exact ⟨Nat.le_of_ble_eq_true rfl, Nat.le_of_ble_eq_true rfl, Nat.le_of_ble_eq_true rfl, Nat.zero_le _⟩) ?_
  show zV x ad (Lay K ad S) _ _ _ 62 [.int 0]
  refine z_if_eq (tgt := 68) hx d_TD_allot_62 (by decide) (fun _ => ?_) (fun h => absurd (by decide) h)
  refine z_aload hx 0 d_TD_allot_68 rfl ?_
  refine z_cVa hx (c_St_nextArm (P := P) hs hg hB hZ hZ1 hZ2 hA hA4 he hsE hL hT hTB hT5 hlen hM hO hO2 hP) k_St (Lay_St hs) ⟨a2_165, a2_168, a1_5, ⟨by decide +kernel, by decide +kernel⟩, fun sig h => by cases h; rfl⟩ a2_166 a2_167 rfl rfl d_TD_allot_70 (by rw [hrm]; exact ⟨Nat.le_of_ble_eq_true rfl, Nat.le_of_ble_eq_true rfl, Nat.le_of_ble_eq_true rfl, Nat.le_of_eq (Nat.zero_add _)⟩) (fun ad1 hag => ?_)
  show zV x ad1 (Lay K ad1 (nxS S s O T B Z A e)) (0 + 1) (0 + M) [(5, .ref (ad (40 + s))), (4, .ref (ad (100 + i))), (0, .ref (ad 0)), (1, .int (nI i)), (2, .int (nI s)), (3, .int (nI p))] 73 [.int (nxV S s O P T B Z A e)]
  rw [← hag (40 + s) (by omega), ← hag (100 + i) (by omega), ← hag (0) (by omega)]
  refine z_top (b := nI a) hav ?_
  refine z_istore hx [(6, .int (nI a)), (5, .ref (ad1 (40 + s))), (4, .ref (ad1 (100 + i))), (0, .ref (ad1 0)), (1, .int (nI i)), (2, .int (nI s)), (3, .int (nI p))] d_TD_allot_73 (zN hml (by decide)) rfl ?_
  refine z_aload_n hx 3 d_TD_allot_75 rfl ?_
  refine z_get hx k_TD (t := 0) rfl 2 (by decide) a1_130 rfl d_TD_allot_76 ?_
  refine z_iload_n hx 4 d_TD_allot_79 rfl ?_
  refine z_iload hx 0 d_TD_allot_80 rfl ?_
  refine z_iconst (v := 0) hx d_TD_allot_82 rfl ?_
  by_cases h1 : kth (pA (nxS S s O T B Z A e) i a) 0 = 1000
  · refine z_cV hx ((by have q := c_Sh_leastFree (l := l) (D := D) (K := K) (ad := ad1) (S := nxS S s O T B Z A e) (s := nI i) (r := nI a) (f := 0) (by omega); have e9 := lstF_kth (p := pA (nxS S s O T B Z A e) i a) (c := 0) (Nat.zero_le _); rw [if_pos h1] at e9; rw [show lstF (fun q => decide (((nxS S s O T B Z A e).2.2 7 q = 1 ∧ (nxS S s O T B Z A e).2.2 5 q = nI i ∧ (nxS S s O T B Z A e).2.2 6 q = nI a))) (1000 - 0) 0 = _ from e9] at q; exact q)) k_Sh rfl ⟨a2_230, a2_233, a1_4, ⟨by decide +kernel, by decide +kernel⟩, fun sig h => by cases h; rfl⟩ a2_231 a2_232 rfl rfl d_TD_allot_83 (by rw [hrm]; exact ⟨Nat.le_of_ble_eq_true rfl, Nat.le_of_ble_eq_true rfl, Nat.le_of_ble_eq_true rfl, Nat.le_of_eq (Nat.zero_add _)⟩) ?_
    show zV x ad1 (Lay K ad1 (nxS S s O T B Z A e)) _ _ _ 86 [.int ((-1))]
    refine z_istore hx [(7, .int ((-1))), (6, .int (nI a)), (5, .ref (ad1 (40 + s))), (4, .ref (ad1 (100 + i))), (0, .ref (ad1 0)), (1, .int (nI i)), (2, .int (nI s)), (3, .int (nI p))] d_TD_allot_86 (zN hml (by decide)) rfl ?_
    refine z_iload hx 0 d_TD_allot_88 rfl ?_
    refine z_iconst (v := (-1)) hx d_TD_allot_90 rfl ?_
    have hk8 := kth_le (p := pA (nxS S s O T B Z A e) i a) (c := 0)
    refine z_icmp_ne (tgt := 97) hx d_TD_allot_91 (by decide) (fun h => absurd (by decide) h) (fun _ => ?_)
    refine z_bipush (v := (-6)) hx d_TD_allot_94 rfl ?_
    have e9 : dAllot (nxS S s O T B Z A e) i s p a = ((-6), nxS S s O T B Z A e) := by unfold dAllot; (first | rw [if_pos h1] | rw [if_neg h1] | skip)
    exact z_iret hx hr rfl hq (Nat.le_of_eq (Nat.zero_add _)) (Nat.le_of_eq (Nat.zero_add _)) d_TD_allot_96 ⟨by rw [e9], hag, by rw [e9]⟩
  · refine z_cV hx ((by have q := c_Sh_leastFree (l := l) (D := D) (K := K) (ad := ad1) (S := nxS S s O T B Z A e) (s := nI i) (r := nI a) (f := 0) (by omega); have e9 := lstF_kth (p := pA (nxS S s O T B Z A e) i a) (c := 0) (Nat.zero_le _); rw [if_neg h1] at e9; rw [show lstF (fun q => decide (((nxS S s O T B Z A e).2.2 7 q = 1 ∧ (nxS S s O T B Z A e).2.2 5 q = nI i ∧ (nxS S s O T B Z A e).2.2 6 q = nI a))) (1000 - 0) 0 = _ from e9] at q; exact q)) k_Sh rfl ⟨a2_230, a2_233, a1_4, ⟨by decide +kernel, by decide +kernel⟩, fun sig h => by cases h; rfl⟩ a2_231 a2_232 rfl rfl d_TD_allot_83 (by rw [hrm]; exact ⟨Nat.le_of_ble_eq_true rfl, Nat.le_of_ble_eq_true rfl, Nat.le_of_ble_eq_true rfl, Nat.le_of_eq (Nat.zero_add _)⟩) ?_
    show zV x ad1 (Lay K ad1 (nxS S s O T B Z A e)) _ _ _ 86 [.int (nI (kth (pA (nxS S s O T B Z A e) i a) 0))]
    refine z_istore hx [(7, .int (nI (kth (pA (nxS S s O T B Z A e) i a) 0))), (6, .int (nI a)), (5, .ref (ad1 (40 + s))), (4, .ref (ad1 (100 + i))), (0, .ref (ad1 0)), (1, .int (nI i)), (2, .int (nI s)), (3, .int (nI p))] d_TD_allot_86 (zN hml (by decide)) rfl ?_
    refine z_iload hx 0 d_TD_allot_88 rfl ?_
    refine z_iconst (v := (-1)) hx d_TD_allot_90 rfl ?_
    have hk8 := kth_le (p := pA (nxS S s O T B Z A e) i a) (c := 0)
    refine z_icmp_ne (tgt := 97) hx d_TD_allot_91 (by decide) (fun _ => ?_) (fun h => absurd h (nI_m1 (by omega)))
    have hk9 : kth (pA (nxS S s O T B Z A e) i a) 0 < 1000 := by have := kth_le (p := pA (nxS S s O T B Z A e) i a) (c := 0); omega
    refine z_aload_n hx 4 d_TD_allot_97 rfl ?_
    refine z_get hx k_TD (t := 0) rfl 1 (by decide) a1_129 rfl d_TD_allot_98 ?_
    by_cases h2 : (nxS S s O T B Z A e).2.2 3 1 = 0
    · refine z_cV hx (c_Jo_write_ok h2) k_Jo rfl ⟨a2_40, a2_43, a1_3, ⟨by decide +kernel, by decide +kernel⟩, fun sig h => by cases h; rfl⟩ a2_41 a2_42 rfl rfl d_TD_allot_101 (by rw [hrm]; exact ⟨Nat.le_of_ble_eq_true rfl, Nat.le_of_ble_eq_true rfl, Nat.le_of_ble_eq_true rfl, Nat.le_of_eq (Nat.zero_add _)⟩) ?_
      show zV x ad1 (Lay K ad1 (stM (nxS S s O T B Z A e) 3 2 ((nxS S s O T B Z A e).2.2 3 2 + 1))) _ _ _ 104 [.int 1]
      refine z_if_ne (tgt := 110) hx d_TD_allot_104 (by decide) (fun _ => ?_) (fun h => absurd h (by decide))
      refine z_aload hx 2 d_TD_allot_110 rfl ?_
      refine z_cV hx (c_St_takeEntry hs (by show (nxS _ _ _ _ _ _ _ _).1 _ = 1; rw [nxS_1n (by omega)]; exact hg)) k_St (Lay_St hs) ⟨a2_235, a2_238, a1_5, ⟨by decide +kernel, by decide +kernel⟩, fun sig h => by cases h; rfl⟩ a2_236 a2_237 rfl rfl d_TD_allot_112 (by rw [hrm]; exact ⟨Nat.le_of_ble_eq_true rfl, Nat.le_of_ble_eq_true rfl, Nat.le_of_ble_eq_true rfl, Nat.le_of_eq (Nat.zero_add _)⟩) ?_
      show zV x ad1 (Lay K ad1 (teF (wOk (nxS S s O T B Z A e)) s)) _ _ _ 115 []
      refine z_aload hx 2 d_TD_allot_115 rfl ?_
      refine z_iload hx 1 d_TD_allot_117 rfl ?_
      refine z_cV hx (c_St_addKnown hs ha) k_St (Lay_St hs) ⟨a3_3, a3_6, a1_5, ⟨by decide +kernel, by decide +kernel⟩, fun sig h => by cases h; rfl⟩ a3_4 a3_5 rfl rfl d_TD_allot_119 (by rw [hrm]; exact ⟨Nat.le_of_ble_eq_true rfl, Nat.le_of_ble_eq_true rfl, Nat.le_of_ble_eq_true rfl, Nat.le_of_eq (Nat.zero_add _)⟩) ?_
      show zV x ad1 (Lay K ad1 (akF (teF (wOk (nxS S s O T B Z A e)) s) s a)) _ _ _ 122 []
      refine z_aload_n hx 4 d_TD_allot_122 rfl ?_
      refine z_get hx k_TD (t := 0) rfl 2 (by decide) a1_130 rfl d_TD_allot_123 ?_
      refine z_iload hx 0 d_TD_allot_126 rfl ?_
      refine z_iload_n hx 7 d_TD_allot_128 rfl ?_
      refine z_cV hx (c_Sh_use hk9) k_Sh rfl ⟨a3_7, a3_10, a1_4, ⟨by decide +kernel, by decide +kernel⟩, fun sig h => by cases h; rfl⟩ a3_8 a3_9 rfl rfl d_TD_allot_129 (by rw [hrm]; exact ⟨Nat.le_of_ble_eq_true rfl, Nat.le_of_ble_eq_true rfl, Nat.le_of_ble_eq_true rfl, Nat.le_of_eq (Nat.zero_add _)⟩) ?_
      show zV x ad1 (Lay K ad1 (usF (akF (teF (wOk (nxS S s O T B Z A e)) s) s a) (kth (pA (nxS S s O T B Z A e) i a) 0) (nI p))) _ _ _ 132 []
      refine z_aload hx 3 d_TD_allot_132 rfl ?_
      refine z_iload_n hx 7 d_TD_allot_134 rfl ?_
      refine z_iload_n hx 6 d_TD_allot_135 rfl ?_
      refine z_iload hx 1 d_TD_allot_136 rfl ?_
      refine z_iconst (v := 2) hx d_TD_allot_138 rfl ?_
      refine z_cV hx (c_Si_enrol hi (by rw [usF, stM_n (by decide), stM_n (by decide), akF, stM_n (by omega)]; exact (by rw [teF_n (by omega), stM_n (by decide), nxS_n (by omega) (by omega)]; exact ho)) hp) k_Si (Lay_Si hi (by rw [usF, stM_n (by decide), stM_n (by decide), akF, stM_n (by omega)]; exact (by rw [teF_n (by omega), stM_n (by decide), nxS_n (by omega) (by omega)]; exact ho))) ⟨a3_11, a3_14, a1_13, ⟨by decide +kernel, by decide +kernel⟩, fun sig h => by cases h; rfl⟩ a3_12 a3_13 rfl rfl d_TD_allot_139 (by rw [hrm]; exact ⟨Nat.le_of_ble_eq_true rfl, Nat.le_of_ble_eq_true rfl, Nat.le_of_ble_eq_true rfl, Nat.le_of_eq (Nat.zero_add _)⟩) ?_
      show zV x ad1 (Lay K ad1 (enF (usF (akF (teF (wOk (nxS S s O T B Z A e)) s) s a) (kth (pA (nxS S s O T B Z A e) i a) 0) (nI p)) i p (nI s) (nI a) 2)) _ _ _ 142 []
      refine z_iload hx 0 d_TD_allot_142 rfl ?_
      have e9 : dAllot (nxS S s O T B Z A e) i s p a = (nI (kth (pA (nxS S s O T B Z A e) i a) 0), enF (usF (akF (teF (wOk (nxS S s O T B Z A e)) s) s a) (kth (pA (nxS S s O T B Z A e) i a) 0) (nI p)) i p (nI s) (nI a) 2) := by unfold dAllot; (first | rw [if_pos h1] | rw [if_neg h1] | skip); (first | rw [if_pos h2] | rw [if_neg h2] | skip)
      exact z_iret hx hr rfl hq (Nat.le_of_eq (Nat.zero_add _)) (Nat.le_of_eq (Nat.zero_add _)) d_TD_allot_144 ⟨by rw [e9], hag, by rw [e9]⟩
    · refine z_cV hx (c_Jo_write_torn h2) k_Jo rfl ⟨a2_40, a2_43, a1_3, ⟨by decide +kernel, by decide +kernel⟩, fun sig h => by cases h; rfl⟩ a2_41 a2_42 rfl rfl d_TD_allot_101 (by rw [hrm]; exact ⟨Nat.le_of_ble_eq_true rfl, Nat.le_of_ble_eq_true rfl, Nat.le_of_ble_eq_true rfl, Nat.le_of_eq (Nat.zero_add _)⟩) ?_
      show zV x ad1 (Lay K ad1 (stM (stM (nxS S s O T B Z A e) 3 1 0) 3 0 1)) _ _ _ 104 [.int 0]
      refine z_if_ne (tgt := 110) hx d_TD_allot_104 (by decide) (fun h => absurd (by decide) h) (fun _ => ?_)
      refine z_bipush (v := (-2)) hx d_TD_allot_107 rfl ?_
      have e9 : dAllot (nxS S s O T B Z A e) i s p a = ((-2), stM (stM (nxS S s O T B Z A e) 3 1 0) 3 0 1) := by unfold dAllot; (first | rw [if_pos h1] | rw [if_neg h1] | skip); (first | rw [if_pos h2] | rw [if_neg h2] | skip)
      exact z_iret hx hr rfl hq (Nat.le_of_eq (Nat.zero_add _)) (Nat.le_of_eq (Nat.zero_add _)) d_TD_allot_109 ⟨by rw [e9], hag, by rw [e9]⟩
def dOff (S : zSt) (i s p a b k : Nat) : Int32 × zSt := if S.2.2 3 0 = 0 then (if S.2.2 (100 + i) 5 = 0 then (if S.2.2 (110 + i) p = 0 then (if a < b then (if S.2.2 3 1 = 0 then (nI k, enF (usF (stM (wOk S) (200 + 8 * i + s) 2 (nI a + 1)) k (nI p)) i p (nI s) ((usF (stM (wOk S) (200 + 8 * i + s) 2 (nI a + 1)) k (nI p)).2.2 6 k) 1) else (-2, wT S)) else (-7, S)) else (-5, S)) else (-4, S)) else (-2, S)
set_option maxRecDepth 20000 in
theorem c_TD_offline {l : Launch} {D : va_G} {K : Nat → ClassId} {ad : Nat → Nat} {S : zSt} {i : Nat} (hi : i < 10) (ho : S.2.2 9 i ≠ 0) {s : Nat} (hs : s < 8) {p : Nat} (hp : p < 100) (hpl : S.2.2 1 1 ≠ 0) {a b k : Nat} (hna : S.2.2 (200 + 8 * i + s) 2 = nI a) (hnb : S.2.2 (200 + 8 * i + s) 1 = nI b) (hab : a ≤ b) (hb24 : b ≤ 24) (hkk : a < b → S.2.2 (300 + 8 * i + s) a = nI k ∧ k < 1000) : zC l TB D zcls (ztyl K) y_TD_offline (.code y_TD_offline b_TD_offline 7 (some FieldType.int)) (rmk 2 44) [.ref (ad 0), .int (nI i), .int (nI s), .int (nI p)] ad (Lay K ad S) (zP K ad (some (.int (dOff S i s p a b k).1)) (dOff S i s p a b k).2) := by
  refine zC.of (by decide +kernel) (Nat.le_of_ble_eq_true rfl) ?_
  intro x hx hr hml hnm hrm hq hNH
  show zV x ad (Lay K ad S) 0 0 [(0, .ref (ad 0)), (1, .int (nI i)), (2, .int (nI s)), (3, .int (nI p))] 0 []
  refine z_aload_n hx 0 d_TD_offline_0 rfl ?_
  refine z_iload_n hx 1 d_TD_offline_1 rfl ?_
  refine z_cV hx (c_TD_siteAt hi ho) k_TD rfl ⟨a2_113, a2_116, a1_1, ⟨by decide +kernel, by decide +kernel⟩, fun sig h => by cases h; rfl⟩ a2_115 s_TD_siteAt rfl rfl d_TD_offline_2 (by rw [hrm]; exact ⟨Nat.le_of_ble_eq_true rfl, Nat.le_of_ble_eq_true rfl, Nat.le_of_ble_eq_true rfl, Nat.le_of_ble_eq_true rfl⟩) ?_
  show zV x ad (Lay K ad S) _ _ _ 5 [.ref (ad (100 + i))]
  refine z_astore hx [(4, .ref (ad (100 + i))), (0, .ref (ad 0)), (1, .int (nI i)), (2, .int (nI s)), (3, .int (nI p))] d_TD_offline_5 (zN hml (by decide)) rfl ?_
  refine z_aload_n hx 1 d_TD_offline_7 rfl ?_
  refine z_iload_n hx 3 d_TD_offline_8 rfl ?_
  refine z_cV hx (c_TD_stratumAt hs) k_TD rfl ⟨a2_6, a2_9, a1_1, ⟨by decide +kernel, by decide +kernel⟩, fun sig h => by cases h; rfl⟩ a2_8 s_TD_stratumAt rfl rfl d_TD_offline_9 (by rw [hrm]; exact ⟨Nat.le_of_ble_eq_true rfl, Nat.le_of_ble_eq_true rfl, Nat.le_of_ble_eq_true rfl, Nat.le_of_ble_eq_true rfl⟩) ?_
  show zV x ad (Lay K ad S) _ _ _ 12 [.ref (ad (40 + s))]
  refine z_pop hx d_TD_offline_12 rfl ?_
  refine z_iload_n hx 4 d_TD_offline_13 rfl ?_
  refine z_cS hx (c_TD_needPerson hp) ⟨a2_155, a2_157, a1_1, ⟨by decide +kernel, by decide +kernel⟩, fun sig h => by cases h; rfl⟩ a2_156 rfl rfl d_TD_offline_14 (by rw [hrm]; exact ⟨Nat.le_of_ble_eq_true rfl, Nat.le_of_ble_eq_true rfl, Nat.le_of_ble_eq_true rfl, Nat.le_of_ble_eq_true rfl⟩) ?_
  show zV x ad (Lay K ad S) _ _ _ 17 []
  refine z_aload_n hx 1 d_TD_offline_17 rfl ?_
  refine z_cV hx (c_TD_needPlan hpl) k_TD rfl ⟨a2_125, a2_128, a1_1, ⟨by decide +kernel, by decide +kernel⟩, fun sig h => by cases h; rfl⟩ a2_127 s_TD_needPlan rfl rfl d_TD_offline_18 (by rw [hrm]; exact ⟨Nat.le_of_ble_eq_true rfl, Nat.le_of_ble_eq_true rfl, Nat.le_of_ble_eq_true rfl, Nat.le_of_ble_eq_true rfl⟩) ?_
  show zV x ad (Lay K ad S) _ _ _ 21 []
  refine z_aload_n hx 1 d_TD_offline_21 rfl ?_
  refine z_get hx k_TD (t := 0) rfl 1 (by decide) a1_129 rfl d_TD_offline_22 ?_
  refine z_getN hx k_Jo (t := 3) rfl 0 (by decide) a1_58 rfl d_TD_offline_25 ?_
  refine z_if_eq (tgt := 34) hx d_TD_offline_28 (by decide) (fun h1 => ?_) (fun h1 => ?_)
  · refine z_aload hx 0 d_TD_offline_34 rfl ?_
    refine z_getN hx k_Si (t := 100 + i) (Lay_Si hi ho) 5 (by decide) a2_92 rfl d_TD_offline_36 ?_
    refine z_if_eq (tgt := 45) hx d_TD_offline_39 (by decide) (fun h2 => ?_) (fun h2 => ?_)
    · refine z_aload hx 0 d_TD_offline_45 rfl ?_
      refine z_iload_n hx 4 d_TD_offline_47 rfl ?_
      by_cases h3 : S.2.2 (110 + i) p = 0
      · refine z_cV hx ((by have q := c_Si_isAllotted (l := l) (D := D) (K := K) (ad := ad) (S := S) hi ho hp; rw [if_pos h3] at q; exact q)) k_Si (Lay_Si hi ho) ⟨a2_158, a2_161, a1_13, ⟨by decide +kernel, by decide +kernel⟩, fun sig h => by cases h; rfl⟩ a2_159 a2_160 rfl rfl d_TD_offline_48 (by rw [hrm]; exact ⟨Nat.le_of_ble_eq_true rfl, Nat.le_of_ble_eq_true rfl, Nat.le_of_ble_eq_true rfl, Nat.le_of_ble_eq_true rfl⟩) ?_
        show zV x ad (Lay K ad S) _ _ _ 51 [.int 0]
        refine z_if_eq (tgt := 57) hx d_TD_offline_51 (by decide) (fun _ => ?_) (fun h => absurd (by decide) h)
        refine z_aload hx 0 d_TD_offline_57 rfl ?_
        refine z_iload_n hx 3 d_TD_offline_59 rfl ?_
        refine z_cV hx (c_Si_reserveFor hi hs ho) k_Si (Lay_Si hi ho) ⟨a3_22, a3_25, a1_13, ⟨by decide +kernel, by decide +kernel⟩, fun sig h => by cases h; rfl⟩ a3_23 a3_24 rfl rfl d_TD_offline_60 (by rw [hrm]; exact ⟨Nat.le_of_ble_eq_true rfl, Nat.le_of_ble_eq_true rfl, Nat.le_of_ble_eq_true rfl, Nat.le_of_ble_eq_true rfl⟩) ?_
        show zV x ad (Lay K ad S) _ _ _ 63 [.ref (ad (200 + 8 * i + s))]
        refine z_astore hx [(5, .ref (ad (200 + 8 * i + s))), (4, .ref (ad (100 + i))), (0, .ref (ad 0)), (1, .int (nI i)), (2, .int (nI s)), (3, .int (nI p))] d_TD_offline_63 (zN hml (by decide)) rfl ?_
        refine z_aload hx 0 d_TD_offline_65 rfl ?_
        by_cases h4 : a < b
        · refine z_cV hx ((by have q := c_Re_nextKit (l := l) (D := D) (K := K) (ad := ad) (S := S) hi hs ho hna hnb hab hb24; rw [if_pos h4] at q; exact q)) k_Re (Lay_Re hi hs ho) ⟨a3_49, a3_52, a1_14, ⟨by decide +kernel, by decide +kernel⟩, fun sig h => by cases h; rfl⟩ a3_50 a3_51 rfl rfl d_TD_offline_67 (by rw [hrm]; exact ⟨Nat.le_of_ble_eq_true rfl, Nat.le_of_ble_eq_true rfl, Nat.le_of_ble_eq_true rfl, Nat.le_of_ble_eq_true rfl⟩) ?_
          show zV x ad (Lay K ad S) _ _ _ 70 [.int (S.2.2 (300 + 8 * i + s) a)]
          refine z_top (b := nI k) (hkk h4).1 ?_
          refine z_istore hx [(6, .int (nI k)), (5, .ref (ad (200 + 8 * i + s))), (4, .ref (ad (100 + i))), (0, .ref (ad 0)), (1, .int (nI i)), (2, .int (nI s)), (3, .int (nI p))] d_TD_offline_70 (zN hml (by decide)) rfl ?_
          refine z_iload hx 0 d_TD_offline_72 rfl ?_
          refine z_iconst (v := (-1)) hx d_TD_offline_74 rfl ?_
          refine z_icmp_ne (tgt := 81) hx d_TD_offline_75 (by decide) (fun _ => ?_) (fun h => absurd h (nI_m1 (by have := (hkk h4).2; omega)))
          refine z_aload_n hx 3 d_TD_offline_81 rfl ?_
          refine z_get hx k_TD (t := 0) rfl 1 (by decide) a1_129 rfl d_TD_offline_82 ?_
          by_cases h5 : S.2.2 3 1 = 0
          · refine z_cV hx (c_Jo_write_ok h5) k_Jo rfl ⟨a2_40, a2_43, a1_3, ⟨by decide +kernel, by decide +kernel⟩, fun sig h => by cases h; rfl⟩ a2_41 a2_42 rfl rfl d_TD_offline_85 (by rw [hrm]; exact ⟨Nat.le_of_ble_eq_true rfl, Nat.le_of_ble_eq_true rfl, Nat.le_of_ble_eq_true rfl, Nat.le_of_ble_eq_true rfl⟩) ?_
            show zV x ad (Lay K ad (stM S 3 2 (S.2.2 3 2 + 1))) _ _ _ 88 [.int 1]
            refine z_if_ne (tgt := 94) hx d_TD_offline_88 (by decide) (fun _ => ?_) (fun h => absurd h (by decide))
            refine z_aload hx 1 d_TD_offline_94 rfl ?_
            refine z_dup hx d_TD_offline_96 rfl ?_
            refine z_getN hx k_Re (t := 200 + 8 * i + s) (Lay_Re hi hs (ho_n (by decide) ho)) 2 (by decide) a2_78 rfl d_TD_offline_97 ?_
            refine z_top (b := S.2.2 (200 + 8 * i + s) 2) (rd_n (by omega)) ?_
            refine z_top (b := nI a) hna ?_
            refine z_iconst (v := 1) hx d_TD_offline_100 rfl ?_
            refine z_iadd hx d_TD_offline_101 ?_
            refine z_putN hx k_Re (t := 200 + 8 * i + s) (Lay_Re hi hs (ho_n (by decide) ho)) 2 (by decide) a2_78 rfl rfl rfl (Nat.le_of_ble_eq_true rfl) d_TD_offline_102 (ce1 := Lay K ad (stM (stM S 3 2 (S.2.2 3 2 + 1)) (200 + 8 * i + s) 2 ((nI a) + 1))) (put_Re2 hi hs (ho_n (by decide) ho)) ?_
            refine z_aload_n hx 3 d_TD_offline_105 rfl ?_
            refine z_get hx k_TD (t := 0) rfl 2 (by decide) a1_130 rfl d_TD_offline_106 ?_
            refine z_iload hx 0 d_TD_offline_109 rfl ?_
            refine z_iload_n hx 6 d_TD_offline_111 rfl ?_
            refine z_cV hx (c_Sh_use (hkk h4).2) k_Sh rfl ⟨a3_7, a3_10, a1_4, ⟨by decide +kernel, by decide +kernel⟩, fun sig h => by cases h; rfl⟩ a3_8 a3_9 rfl rfl d_TD_offline_112 (by rw [hrm]; exact ⟨Nat.le_of_ble_eq_true rfl, Nat.le_of_ble_eq_true rfl, Nat.le_of_ble_eq_true rfl, Nat.le_of_ble_eq_true rfl⟩) ?_
            show zV x ad (Lay K ad (stM (stM (stM (stM S 3 2 (S.2.2 3 2 + 1)) (200 + 8 * i + s) 2 ((nI a) + 1)) 7 k 3) 8 k (nI p))) _ _ _ 115 []
            refine z_aload hx 2 d_TD_offline_115 rfl ?_
            refine z_iload_n hx 6 d_TD_offline_117 rfl ?_
            refine z_iload_n hx 5 d_TD_offline_118 rfl ?_
            refine z_aload_n hx 3 d_TD_offline_119 rfl ?_
            refine z_get hx k_TD (t := 0) rfl 2 (by decide) a1_130 rfl d_TD_offline_120 ?_
            refine z_iload hx 0 d_TD_offline_123 rfl ?_
            refine z_cV hx (c_Sh_armOf (hkk h4).2) k_Sh rfl ⟨a3_53, a3_56, a1_4, ⟨by decide +kernel, by decide +kernel⟩, fun sig h => by cases h; rfl⟩ a3_54 a3_55 rfl rfl d_TD_offline_125 (by rw [hrm]; exact ⟨Nat.le_of_ble_eq_true rfl, Nat.le_of_ble_eq_true rfl, Nat.le_of_ble_eq_true rfl, Nat.le_of_ble_eq_true rfl⟩) ?_
            show zV x ad (Lay K ad (stM (stM (stM (stM S 3 2 (S.2.2 3 2 + 1)) (200 + 8 * i + s) 2 ((nI a) + 1)) 7 k 3) 8 k (nI p))) _ _ _ 128 [.int ((stM (stM (stM (stM S 3 2 (S.2.2 3 2 + 1)) (200 + 8 * i + s) 2 ((nI a) + 1)) 7 k 3) 8 k (nI p)).2.2 6 k), .int (nI s), .int (nI p), .ref (ad (100 + i))]
            refine z_iconst (v := 1) hx d_TD_offline_128 rfl ?_
            refine z_cV hx (c_Si_enrol hi (ho_n (by decide) (ho_n (by decide) (ho_n (by omega) (ho_n (by decide) ho)))) hp) k_Si (Lay_Si hi (ho_n (by decide) (ho_n (by decide) (ho_n (by omega) (ho_n (by decide) ho))))) ⟨a3_11, a3_14, a1_13, ⟨by decide +kernel, by decide +kernel⟩, fun sig h => by cases h; rfl⟩ a3_12 a3_13 rfl rfl d_TD_offline_129 (by rw [hrm]; exact ⟨Nat.le_of_ble_eq_true rfl, Nat.le_of_ble_eq_true rfl, Nat.le_of_ble_eq_true rfl, Nat.le_of_ble_eq_true rfl⟩) ?_
            show zV x ad (Lay K ad (stM (stM (stM (stM (stM (stM (stM S 3 2 (S.2.2 3 2 + 1)) (200 + 8 * i + s) 2 ((nI a) + 1)) 7 k 3) 8 k (nI p)) (110 + i) p 1) (120 + i) p (nI s)) (130 + i) p ((stM (stM (stM (stM S 3 2 (S.2.2 3 2 + 1)) (200 + 8 * i + s) 2 ((nI a) + 1)) 7 k 3) 8 k (nI p)).2.2 6 k))) _ _ _ 132 []
            refine z_iload hx 0 d_TD_offline_132 rfl ?_
            have e9 : dOff S i s p a b k = (nI k, stM (stM (stM (stM (stM (stM (stM S 3 2 (S.2.2 3 2 + 1)) (200 + 8 * i + s) 2 ((nI a) + 1)) 7 k 3) 8 k (nI p)) (110 + i) p 1) (120 + i) p (nI s)) (130 + i) p ((stM (stM (stM (stM S 3 2 (S.2.2 3 2 + 1)) (200 + 8 * i + s) 2 ((nI a) + 1)) 7 k 3) 8 k (nI p)).2.2 6 k)) := by unfold dOff; (first | rw [if_pos h1] | rw [if_neg h1] | skip); (first | rw [if_pos h2] | rw [if_neg h2] | skip); (first | rw [if_pos h3] | rw [if_neg h3] | skip); (first | rw [if_pos h4] | rw [if_neg h4] | skip); (first | rw [if_pos h5] | rw [if_neg h5] | skip); (try rfl)
            exact z_iret hx hr rfl hq (Nat.le_refl _) (Nat.le_refl _) d_TD_offline_134 ⟨by rw [e9], rfl, by rw [e9]⟩
          · refine z_cV hx (c_Jo_write_torn h5) k_Jo rfl ⟨a2_40, a2_43, a1_3, ⟨by decide +kernel, by decide +kernel⟩, fun sig h => by cases h; rfl⟩ a2_41 a2_42 rfl rfl d_TD_offline_85 (by rw [hrm]; exact ⟨Nat.le_of_ble_eq_true rfl, Nat.le_of_ble_eq_true rfl, Nat.le_of_ble_eq_true rfl, Nat.le_of_ble_eq_true rfl⟩) ?_
            show zV x ad (Lay K ad (stM (stM S 3 1 0) 3 0 1)) _ _ _ 88 [.int 0]
            refine z_if_ne (tgt := 94) hx d_TD_offline_88 (by decide) (fun h => absurd (by decide) h) (fun _ => ?_)
            refine z_bipush (v := (-2)) hx d_TD_offline_91 rfl ?_
            have e9 : dOff S i s p a b k = ((-2), stM (stM S 3 1 0) 3 0 1) := by unfold dOff; (first | rw [if_pos h1] | rw [if_neg h1] | skip); (first | rw [if_pos h2] | rw [if_neg h2] | skip); (first | rw [if_pos h3] | rw [if_neg h3] | skip); (first | rw [if_pos h4] | rw [if_neg h4] | skip); (first | rw [if_pos h5] | rw [if_neg h5] | skip); (try rfl)
            exact z_iret hx hr rfl hq (Nat.le_refl _) (Nat.le_refl _) d_TD_offline_93 ⟨by rw [e9], rfl, by rw [e9]⟩
        · refine z_cV hx ((by have q := c_Re_nextKit (l := l) (D := D) (K := K) (ad := ad) (S := S) hi hs ho hna hnb hab hb24; rw [if_neg h4] at q; exact q)) k_Re (Lay_Re hi hs ho) ⟨a3_49, a3_52, a1_14, ⟨by decide +kernel, by decide +kernel⟩, fun sig h => by cases h; rfl⟩ a3_50 a3_51 rfl rfl d_TD_offline_67 (by rw [hrm]; exact ⟨Nat.le_of_ble_eq_true rfl, Nat.le_of_ble_eq_true rfl, Nat.le_of_ble_eq_true rfl, Nat.le_of_ble_eq_true rfl⟩) ?_
          show zV x ad (Lay K ad S) _ _ _ 70 [.int ((-1))]
          refine z_istore hx [(6, .int ((-1))), (5, .ref (ad (200 + 8 * i + s))), (4, .ref (ad (100 + i))), (0, .ref (ad 0)), (1, .int (nI i)), (2, .int (nI s)), (3, .int (nI p))] d_TD_offline_70 (zN hml (by decide)) rfl ?_
          refine z_iload hx 0 d_TD_offline_72 rfl ?_
          refine z_iconst (v := (-1)) hx d_TD_offline_74 rfl ?_
          refine z_icmp_ne (tgt := 81) hx d_TD_offline_75 (by decide) (fun h => absurd (by decide) h) (fun _ => ?_)
          refine z_bipush (v := (-7)) hx d_TD_offline_78 rfl ?_
          have e9 : dOff S i s p a b k = ((-7), S) := by unfold dOff; (first | rw [if_pos h1] | rw [if_neg h1] | skip); (first | rw [if_pos h2] | rw [if_neg h2] | skip); (first | rw [if_pos h3] | rw [if_neg h3] | skip); (first | rw [if_pos h4] | rw [if_neg h4] | skip); (try rfl)
          exact z_iret hx hr rfl hq (Nat.le_refl _) (Nat.le_refl _) d_TD_offline_80 ⟨by rw [e9], rfl, by rw [e9]⟩
      · refine z_cV hx ((by have q := c_Si_isAllotted (l := l) (D := D) (K := K) (ad := ad) (S := S) hi ho hp; rw [if_neg h3] at q; exact q)) k_Si (Lay_Si hi ho) ⟨a2_158, a2_161, a1_13, ⟨by decide +kernel, by decide +kernel⟩, fun sig h => by cases h; rfl⟩ a2_159 a2_160 rfl rfl d_TD_offline_48 (by rw [hrm]; exact ⟨Nat.le_of_ble_eq_true rfl, Nat.le_of_ble_eq_true rfl, Nat.le_of_ble_eq_true rfl, Nat.le_of_ble_eq_true rfl⟩) ?_
        show zV x ad (Lay K ad S) _ _ _ 51 [.int 1]
        refine z_if_eq (tgt := 57) hx d_TD_offline_51 (by decide) (fun h => absurd h (by decide)) (fun _ => ?_)
        refine z_bipush (v := (-5)) hx d_TD_offline_54 rfl ?_
        have e9 : dOff S i s p a b k = ((-5), S) := by unfold dOff; (first | rw [if_pos h1] | rw [if_neg h1] | skip); (first | rw [if_pos h2] | rw [if_neg h2] | skip); (first | rw [if_pos h3] | rw [if_neg h3] | skip); (try rfl)
        exact z_iret hx hr rfl hq (Nat.le_refl _) (Nat.le_refl _) d_TD_offline_56 ⟨by rw [e9], rfl, by rw [e9]⟩
    · refine z_bipush (v := (-4)) hx d_TD_offline_42 rfl ?_
      have e9 : dOff S i s p a b k = ((-4), S) := by unfold dOff; (first | rw [if_pos h1] | rw [if_neg h1] | skip); (first | rw [if_pos h2] | rw [if_neg h2] | skip); (try rfl)
      exact z_iret hx hr rfl hq (Nat.le_refl _) (Nat.le_refl _) d_TD_offline_44 ⟨by rw [e9], rfl, by rw [e9]⟩
  · refine z_bipush (v := (-2)) hx d_TD_offline_31 rfl ?_
    have e9 : dOff S i s p a b k = ((-2), S) := by unfold dOff; (first | rw [if_pos h1] | rw [if_neg h1] | skip); (try rfl)
    exact z_iret hx hr rfl hq (Nat.le_refl _) (Nat.le_refl _) d_TD_offline_33 ⟨by rw [e9], rfl, by rw [e9]⟩
