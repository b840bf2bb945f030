def st11 (S : zSt) (F : Nat → Int32) : zSt := (S.1, S.2.1, fun u => if u = 11 then F else S.2.2 u)
theorem st11_self (S : zSt) : st11 S (S.2.2 11) = S := by
  unfold st11
  refine Prod.ext rfl (Prod.ext rfl ?_)
  funext u
  show (if u = 11 then S.2.2 11 else S.2.2 u) = S.2.2 u
  by_cases h : u = 11
  · rw [if_pos h, h]
  · rw [if_neg h]
theorem st11_put (S : zSt) (F : Nat → Int32) (j : Nat) (v : Int32) : stM (st11 S F) 11 j v = st11 S (upd F j v) := by
  unfold st11 stM
  refine Prod.ext rfl (Prod.ext rfl ?_)
  funext u
  show (if u = 11 then upd (if 11 = 11 then F else S.2.2 11) j v else (if u = 11 then F else S.2.2 u)) = if u = 11 then upd F j v else S.2.2 u
  by_cases h : u = 11
  · rw [if_pos h, if_pos h, if_pos rfl]
  · rw [if_neg h, if_neg h, if_neg h]
theorem st11_n {S : zSt} {F : Nat → Int32} {u : Nat} (h : u ≠ 11) : (st11 S F).2.2 u = S.2.2 u := if_neg h
theorem ahS_5 {S : zSt} {s T B Z A : Nat} {e : Nat → Nat} (hB : S.2.2 (40 + s) 5 = nI B) (hTB : B = T ∨ B = T + 1) : (ahS S s T B Z A e).2.2 (40 + s) 5 = nI (T + 1) := by
  unfold ahS
  by_cases h : T = B
  · rw [if_pos h, bdS_5, h]
  · rw [if_neg h, hB, hTB.resolve_left (fun z => h z.symm)]
theorem ahS_j {S : zSt} {s T B Z A j : Nat} {e : Nat → Nat} (hj : j ≠ 5) : (ahS S s T B Z A e).2.2 (40 + s) j = S.2.2 (40 + s) j := by
  unfold ahS
  by_cases h : T = B
  · rw [if_pos h, bdS_j hj]
  · rw [if_neg h]
theorem ahS_len {S : zSt} {s T B Z A : Nat} {e : Nat → Nat} (hTB : B = T ∨ B = T + 1) (hlen : B = T + 1 → (T + 1) * Z ≤ S.1 (60 + s)) : (T + 1) * Z ≤ (ahS S s T B Z A e).1 (60 + s) ∧ (ahS S s T B Z A e).1 (60 + s) ≤ max (S.1 (60 + s)) (max (B * Z + Z) (2 * S.1 (60 + s))) := by
  unfold ahS
  by_cases h : T = B
  · rw [if_pos h, bdS_1, Nat.succ_mul, h]
    have := mkS_len (S := S) (s := s) (w := B * Z + Z)
    omega
  · rw [if_neg h]
    have := hlen (hTB.resolve_left (fun z => h z.symm))
    omega
/-- how many of the first j entries have the arm -/
def rkA (ar : Nat → Nat) (a j : Nat) : Nat := cntI (fun q => decide (ar q = a)) j
def kvF (p : Nat → Bool) (c : Nat) : Int32 := if c = 0 then -1 else nI (kth p (c - 1))
theorem kvF_1 {p : Nat → Bool} {c : Nat} : kvF p c + 1 = nI (kst p c) := by
  cases c with
  | zero => rw [kvF, if_pos rfl, kst]; decide
  | succ c => rw [kvF, if_neg (by omega)]; exact nI_1 _
/-- the kit of an entry -/
def gK (S : zSt) (i : Nat) (ar : Nat → Nat) (q : Nat) : Nat := kth (pA S i (ar q)) (rkA ar (ar q) q)
def pkH (S : zSt) (i : Nat) (ar : Nat → Nat) (Z a j : Nat) (F : Nat → Int32) : Prop := kst (pA S i a) (rkA ar a j) ≤ 1000 ∧ ∀ q, q < Z → (ar q < a ∨ (ar q = a ∧ q < j)) → F q = nI (gK S i ar q) ∧ gK S i ar q < 1000
theorem pkH_0 {S : zSt} {i : Nat} {ar : Nat → Nat} {Z : Nat} {F : Nat → Int32} : pkH S i ar Z 0 0 F := ⟨Nat.zero_le _, fun q _ h => by omega⟩
theorem pkH_next {S : zSt} {i : Nat} {ar : Nat → Nat} {Z a : Nat} {F : Nat → Int32} (h : pkH S i ar Z a Z F) : pkH S i ar Z (a + 1) 0 F := ⟨Nat.zero_le _, fun q hq hc => h.2 q hq (by omega)⟩
theorem pkH_skip {S : zSt} {i : Nat} {ar : Nat → Nat} {Z a j : Nat} {F : Nat → Int32} (h : pkH S i ar Z a j F) (hj : ¬ ar j = a) : pkH S i ar Z a (j + 1) F ∧ rkA ar a (j + 1) = rkA ar a j := by
  have e : rkA ar a (j + 1) = rkA ar a j := by
    unfold rkA
    rw [cntI, if_neg (by simpa using hj), Nat.add_zero]
  refine ⟨⟨by rw [e]; exact h.1, fun q hq hc => h.2 q hq ?_⟩, e⟩
  by_cases z : q = j
  · subst z
    omega
  · omega
theorem pkH_take {S : zSt} {i : Nat} {ar : Nat → Nat} {Z a j : Nat} {F : Nat → Int32} (h : pkH S i ar Z a j F) (hj : ar j = a) (hk : kth (pA S i a) (rkA ar a j) < 1000) : pkH S i ar Z a (j + 1) (upd F j (nI (kth (pA S i a) (rkA ar a j)))) ∧ rkA ar a (j + 1) = rkA ar a j + 1 := by
  have e : rkA ar a (j + 1) = rkA ar a j + 1 := by
    unfold rkA
    rw [cntI, if_pos (by simpa using hj)]
  refine ⟨⟨by rw [e, kst]; exact hk, fun q hq hc => ?_⟩, e⟩
  by_cases z : q = j
  · subst z
    have e2 : gK S i ar q = kth (pA S i a) (rkA ar a q) := by unfold gK; rw [hj]
    rw [pk_us, e2]
    exact ⟨rfl, hk⟩
  · rw [pk_un z]
    exact h.2 q hq (by omega)
def pkQ (K : Nat → ClassId) (ad : Nat → Nat) (s : Nat) (S : zSt) (i : Nat) (ar : Nat → Nat) (Z A : Nat) : zQ := fun r ad' ce' => zAg s ad ad' ∧ ∃ F, ce' = Lay K ad' (st11 S F) ∧ ((r = .inl (some (.int 1)) ∧ pkH S i ar Z A 0 F) ∨ (r = .inl (some (.int 0)) ∧ ∃ q, q < Z ∧ gK S i ar q = 1000))
set_option maxRecDepth 20000 in
theorem c_TD_pickKits {l : Launch} {D : va_G} {K : Nat → ClassId} {ad : Nat → Nat} {S : zSt} {s : Nat} (hs : s < 8) (hg : S.1 (40 + s) = 1) {T A B Z M : Nat} (hB : S.2.2 (40 + s) 5 = nI B) (hZ : S.2.2 1 3 = nI Z) (hZ1 : 1 ≤ Z) (hZ2 : Z ≤ 24) (hA : S.2.2 1 1 = nI A) (hA4 : A ≤ 4) {e : Nat → Nat} (he : ∀ a, a < A → (if 0 < S.2.2 1 2 then S.2.2 2 a * (S.2.2 1 3 / S.2.2 1 2) else 0) = nI (e a)) (hsE : sE e A = Z) (hL : S.1 (60 + s) ≤ 24576) (hT : S.2.2 (40 + s) 6 = nI T) (hTB : B = T ∨ B = T + 1) (hT5 : T < 512) (hlen : B = T + 1 → (T + 1) * Z ≤ S.1 (60 + s)) (hM : S.1 (60 + s) < B * Z + Z → max (B * Z + Z) (2 * S.1 (60 + s)) ≤ M) {i : Nat} {ar : Nat → Nat} (har : ∀ q, q < Z → (ahS S s T B Z A e).2.2 (60 + s) (T * Z + q) = nI (ar q) ∧ ar q < A) : zC l TB D zcls (ztyl K) y_TD_pickKits (.code y_TD_pickKits b_TD_pickKits 6 (some FieldType.boolean)) (rma M 6 123) [.ref (ad 0), .int (nI i), .ref (ad (40 + s))] ad (Lay K ad S) (pkQ K ad s (ahS S s T B Z A e) i ar Z A) := by
  refine zC.of (by decide +kernel) (Nat.le_of_ble_eq_true rfl) ?_
  intro x hx hr hml hnm hrm hq hNH
  have htz : T * Z ≤ 511 * 24 := Nat.mul_le_mul (by omega) hZ2
  have hbz : B * Z ≤ 512 * 24 := Nat.mul_le_mul (by omega) hZ2
  have htz1 : (T + 1) * Z = T * Z + Z := Nat.succ_mul T Z
  have h5 := ahS_5 (Z := Z) (A := A) (e := e) hB hTB
  have h6 : (ahS S s T B Z A e).2.2 (40 + s) 6 = nI T := by rw [ahS_j (by decide)]; exact hT
  have h3 : (ahS S s T B Z A e).2.2 1 3 = nI Z := by rw [ahS_n (by omega) (by omega)]; exact hZ
  have h1A : (ahS S s T B Z A e).2.2 1 1 = nI A := by rw [ahS_n (by omega) (by omega)]; exact hA
  have hln := ahS_len (A := A) (e := e) hTB hlen
  have O : ∀ (m_O a : Nat) (ad1 : Nat → Nat) (hag : zAg s ad ad1) (F : Nat → Int32), a + m_O = A → pkH (ahS S s T B Z A e) i ar Z a 0 F → zV x ad1 (Lay K ad1 (st11 (ahS S s T B Z A e) F)) (0 + 1) (0 + M) [(3, .int (nI a)), (0, .ref (ad1 0)), (1, .int (nI i)), (2, .ref (ad1 (40 + s)))] 13 [] := by
    intro m_O
    induction m_O with
    | zero =>
      intro a ad1 hag F he_O hV
      have e_O : a = A := by omega
      refine z_iload_n hx 0 d_TD_pickKits_13 rfl ?_
      refine z_aload_n hx 1 d_TD_pickKits_14 rfl ?_
      refine z_get hx k_TD (t := 0) rfl 0 (by decide) a1_128 rfl d_TD_pickKits_15 ?_
      refine z_getN hx k_Pl (t := 1) rfl 1 (by decide) a1_36 rfl d_TD_pickKits_18 ?_
      refine z_top (b := nI A) (by rw [st11_n (by omega)]; exact h1A) ?_
      refine z_icmp_ge (tgt := 106) hx d_TD_pickKits_21 (by decide) (fun _ => ?_) (fun h => absurd (nI_le (by omega) (by omega)) h)
      refine z_iconst (v := 1) hx d_TD_pickKits_106 rfl ?_
      subst e_O
      exact z_iret hx hr rfl hq (Nat.le_of_eq (Nat.zero_add _)) (Nat.le_of_eq (Nat.zero_add _)) d_TD_pickKits_107 ⟨hag, F, rfl, Or.inl ⟨rfl, hV⟩⟩
    | succ m_O ih_O =>
      intro a ad1 hag F he_O hV
      have l_O : a < A := by omega
      have J : ∀ (m_J j : Nat) (F : Nat → Int32), j + m_J = Z → pkH (ahS S s T B Z A e) i ar Z a j F → zV x ad1 (Lay K ad1 (st11 (ahS S s T B Z A e) F)) (0 + 1) (0 + M) [(5, .int (nI j)), (4, .int (kvF (pA (ahS S s T B Z A e) i a) (rkA ar a j))), (3, .int (nI a)), (0, .ref (ad1 0)), (1, .int (nI i)), (2, .ref (ad1 (40 + s)))] 30 [] := by
        intro m_J
        induction m_J with
        | zero =>
          intro j F he_J hV
          have e_J : j = Z := by omega
          refine z_iload hx 0 d_TD_pickKits_30 rfl ?_
          refine z_aload_n hx 3 d_TD_pickKits_32 rfl ?_
          refine z_get hx k_TD (t := 0) rfl 0 (by decide) a1_128 rfl d_TD_pickKits_33 ?_
          refine z_getN hx k_Pl (t := 1) rfl 3 (by decide) a1_40 rfl d_TD_pickKits_36 ?_
          refine z_top (b := nI Z) (by rw [st11_n (by omega)]; exact h3) ?_
          refine z_icmp_ge (tgt := 100) hx d_TD_pickKits_39 (by decide) (fun _ => ?_) (fun h => absurd (nI_le (by omega) (by omega)) h)
          refine z_iinc (v := nI (a + 1)) hx 2 [(3, .int (nI (a + 1))), (5, .int (nI j)), (4, .int (kvF (pA (ahS S s T B Z A e) i a) (rkA ar a j))), (0, .ref (ad1 0)), (1, .int (nI i)), (2, .ref (ad1 (40 + s)))] d_TD_pickKits_100 rfl (nI_1 a) (zN hml (by decide)) rfl ?_
          refine z_goto (tgt := 13) hx d_TD_pickKits_103 (by decide) ?_
          rw [e_J] at hV
          exact z_lv [0, 3, 4, 5] _ rfl (ih_O (a + 1) ad1 hag F (by omega) (pkH_next hV))
        | succ m_J ih_J =>
          intro j F he_J hV
          have l_J : j < Z := by omega
          have har9 := (har j l_J).2
          refine z_iload hx 0 d_TD_pickKits_30 rfl ?_
          refine z_aload_n hx 3 d_TD_pickKits_32 rfl ?_
          refine z_get hx k_TD (t := 0) rfl 0 (by decide) a1_128 rfl d_TD_pickKits_33 ?_
          refine z_getN hx k_Pl (t := 1) rfl 3 (by decide) a1_40 rfl d_TD_pickKits_36 ?_
          refine z_top (b := nI Z) (by rw [st11_n (by omega)]; exact h3) ?_
          refine z_icmp_ge (tgt := 100) hx d_TD_pickKits_39 (by decide) (fun h => absurd h (nI_ge (by omega) (by omega))) (fun _ => ?_)
          refine z_iload hx 0 d_TD_pickKits_42 rfl ?_
          refine z_aload_n hx 3 d_TD_pickKits_44 rfl ?_
          refine z_get hx k_TD (t := 0) rfl 5 (by decide) a1_133 rfl d_TD_pickKits_45 ?_
          refine z_alen hx 0 rfl (t := 11) rfl (v := 24) rfl d_TD_pickKits_48 ?_
          refine z_icmp_ge (tgt := 100) hx d_TD_pickKits_49 (by decide) (fun h => absurd h (nI_nleL 24 rfl (by omega) (by decide))) (fun _ => ?_)
          refine z_aload_n hx 5 d_TD_pickKits_52 rfl ?_
          refine z_iload hx 0 d_TD_pickKits_53 rfl ?_
          refine z_cV hx (c_St_armAhead_built (S := st11 (ahS S s T B Z A e) F) (q := j) (A := T) (B := T + 1) (Z := Z) hs (show (ahS S s T B Z A e).1 (40 + s) = 1 by rw [ahS_1n (by omega)]; exact hg) (by rw [st11_n (by omega)]; exact h5) (by rw [st11_n (by omega)]; exact h6) (by omega) (by omega) (by omega) (by rw [st11_n (by omega)]; exact h3) (by omega) (by omega) (show (ahS S s T B Z A e).1 (60 + s) < _ by omega)) k_St (Lay_St hs) ⟨a3_32, a2_176, a1_5, ⟨by decide +kernel, by decide +kernel⟩, fun sig h => by cases h; rfl⟩ a2_174 a2_175 rfl rfl d_TD_pickKits_55 (by rw [hrm]; exact ⟨Nat.le_of_ble_eq_true rfl, Nat.le_of_ble_eq_true rfl, Nat.le_of_ble_eq_true rfl, Nat.le_of_eq (Nat.zero_add _)⟩) ?_
          show zV x ad1 (Lay K ad1 (st11 (ahS S s T B Z A e) F)) _ _ _ 58 [.int (if T * Z + j < (T + 1) * Z ∧ T * Z + j < ((st11 (ahS S s T B Z A e) F)).1 (60 + s) then (st11 (ahS S s T B Z A e) F).2.2 (60 + s) (T * Z + j) else -1)]
          refine z_top (b := nI (ar j)) (by rw [if_pos ⟨by omega, show T * Z + j < (ahS S s T B Z A e).1 (60 + s) by omega⟩, st11_n (by omega)]; exact (har j (by omega)).1) ?_
          refine z_iload_n hx 2 d_TD_pickKits_58 rfl ?_
          refine z_icmp_ne (tgt := 94) hx d_TD_pickKits_59 (by decide) (fun h1 => ?_) (fun h1 => ?_)
          · refine z_iinc (v := nI (j + 1)) hx 0 [(5, .int (nI (j + 1))), (4, .int (kvF (pA (ahS S s T B Z A e) i a) (rkA ar a j))), (3, .int (nI a)), (0, .ref (ad1 0)), (1, .int (nI i)), (2, .ref (ad1 (40 + s)))] d_TD_pickKits_94 rfl (nI_1 j) (zN hml (by decide)) rfl ?_
            refine z_goto (tgt := 30) hx d_TD_pickKits_97 (by decide) ?_
            obtain ⟨g1, g2⟩ := pkH_skip hV (fun z => h1 (congrArg nI z))
            have q9 := ih_J (j + 1) F (by omega) g1
            rw [g2] at q9
            exact z_lv [0, 1, 2, 3, 4, 5] _ rfl q9
          · refine z_aload_n hx 3 d_TD_pickKits_62 rfl ?_
            refine z_get hx k_TD (t := 0) rfl 2 (by decide) a1_130 rfl d_TD_pickKits_63 ?_
            refine z_iload_n hx 4 d_TD_pickKits_66 rfl ?_
            refine z_iload_n hx 2 d_TD_pickKits_67 rfl ?_
            refine z_iload hx 1 d_TD_pickKits_68 rfl ?_
            refine z_iconst (v := 1) hx d_TD_pickKits_70 rfl ?_
            refine z_iadd hx d_TD_pickKits_71 ?_
            refine z_top (b := nI (kst (pA (ahS S s T B Z A e) i a) (rkA ar a j))) kvF_1 ?_
            by_cases h2 : kth (pA (ahS S s T B Z A e) i a) (rkA ar a j) = 1000
            · refine z_cV hx ((by have q := c_Sh_leastFree (l := l) (D := D) (K := K) (ad := ad1) (S := st11 (ahS S s T B Z A e) F) (s := nI i) (r := nI a) (f := kst (pA (ahS S s T B Z A e) i a) (rkA ar a j)) hV.1; have e9 := lstF_kth (p := pA (ahS S s T B Z A e) i a) (c := rkA ar a j) hV.1; rw [if_pos h2] at e9; rw [show lstF (fun q => decide (((st11 (ahS S s T B Z A e) F).2.2 7 q = 1 ∧ (st11 (ahS S s T B Z A e) F).2.2 5 q = nI i ∧ (st11 (ahS S s T B Z A e) F).2.2 6 q = nI a))) (1000 - kst (pA (ahS S s T B Z A e) i a) (rkA ar a j)) (kst (pA (ahS S s T B Z A e) i a) (rkA ar a j)) = _ from e9] at q; exact q)) k_Sh rfl ⟨a2_230, a2_233, a1_4, ⟨by decide +kernel, by decide +kernel⟩, fun sig h => by cases h; rfl⟩ a2_231 a2_232 rfl rfl d_TD_pickKits_72 (by rw [hrm]; exact ⟨Nat.le_of_ble_eq_true rfl, Nat.le_of_ble_eq_true rfl, Nat.le_of_ble_eq_true rfl, Nat.le_of_eq (Nat.zero_add _)⟩) ?_
              show zV x ad1 (Lay K ad1 (st11 (ahS S s T B Z A e) F)) _ _ _ 75 [.int ((-1))]
              have hk8 := kth_le (p := pA (ahS S s T B Z A e) i a) (c := rkA ar a j)
              refine z_istore hx [(4, .int ((-1))), (5, .int (nI j)), (3, .int (nI a)), (0, .ref (ad1 0)), (1, .int (nI i)), (2, .ref (ad1 (40 + s)))] d_TD_pickKits_75 (zN hml (by decide)) rfl ?_
              refine z_iload hx 0 d_TD_pickKits_77 rfl ?_
              refine z_iconst (v := (-1)) hx d_TD_pickKits_79 rfl ?_
              refine z_icmp_ne (tgt := 85) hx d_TD_pickKits_80 (by decide) (fun h => absurd (by decide) h) (fun _ => ?_)
              refine z_iconst (v := 0) hx d_TD_pickKits_83 rfl ?_
              exact z_iret hx hr rfl hq (Nat.le_of_eq (Nat.zero_add _)) (Nat.le_of_eq (Nat.zero_add _)) d_TD_pickKits_84 ⟨hag, F, rfl, Or.inr ⟨rfl, j, l_J, by unfold gK; rw [show ar j = a from (nI_eq (by omega) (by omega)).mp h1]; exact h2⟩⟩
            · refine z_cV hx ((by have q := c_Sh_leastFree (l := l) (D := D) (K := K) (ad := ad1) (S := st11 (ahS S s T B Z A e) F) (s := nI i) (r := nI a) (f := kst (pA (ahS S s T B Z A e) i a) (rkA ar a j)) hV.1; have e9 := lstF_kth (p := pA (ahS S s T B Z A e) i a) (c := rkA ar a j) hV.1; rw [if_neg h2] at e9; rw [show lstF (fun q => decide (((st11 (ahS S s T B Z A e) F).2.2 7 q = 1 ∧ (st11 (ahS S s T B Z A e) F).2.2 5 q = nI i ∧ (st11 (ahS S s T B Z A e) F).2.2 6 q = nI a))) (1000 - kst (pA (ahS S s T B Z A e) i a) (rkA ar a j)) (kst (pA (ahS S s T B Z A e) i a) (rkA ar a j)) = _ from e9] at q; exact q)) k_Sh rfl ⟨a2_230, a2_233, a1_4, ⟨by decide +kernel, by decide +kernel⟩, fun sig h => by cases h; rfl⟩ a2_231 a2_232 rfl rfl d_TD_pickKits_72 (by rw [hrm]; exact ⟨Nat.le_of_ble_eq_true rfl, Nat.le_of_ble_eq_true rfl, Nat.le_of_ble_eq_true rfl, Nat.le_of_eq (Nat.zero_add _)⟩) ?_
              show zV x ad1 (Lay K ad1 (st11 (ahS S s T B Z A e) F)) _ _ _ 75 [.int (nI (kth (pA (ahS S s T B Z A e) i a) (rkA ar a j)))]
              have hk8 := kth_le (p := pA (ahS S s T B Z A e) i a) (c := rkA ar a j)
              refine z_istore hx [(4, .int (nI (kth (pA (ahS S s T B Z A e) i a) (rkA ar a j)))), (5, .int (nI j)), (3, .int (nI a)), (0, .ref (ad1 0)), (1, .int (nI i)), (2, .ref (ad1 (40 + s)))] d_TD_pickKits_75 (zN hml (by decide)) rfl ?_
              refine z_iload hx 0 d_TD_pickKits_77 rfl ?_
              refine z_iconst (v := (-1)) hx d_TD_pickKits_79 rfl ?_
              refine z_icmp_ne (tgt := 85) hx d_TD_pickKits_80 (by decide) (fun _ => ?_) (fun h => absurd h (nI_m1 (by omega)))
              refine z_aload_n hx 3 d_TD_pickKits_85 rfl ?_
              refine z_get hx k_TD (t := 0) rfl 5 (by decide) a1_133 rfl d_TD_pickKits_86 ?_
              refine z_iload hx 1 d_TD_pickKits_89 rfl ?_
              refine z_iload hx 0 d_TD_pickKits_91 rfl ?_
              refine z_iastK hx 0 rfl (t := 11) rfl (k := j) (by omega) (by first | decide | omega)  d_TD_pickKits_93 (ce1 := Lay K ad1 (stM (st11 (ahS S s T B Z A e) F) 11 j (nI (kth (pA (ahS S s T B Z A e) i a) (rkA ar a j))))) (Lay_put (by decide) rfl) ?_
              refine z_iinc (v := nI (j + 1)) hx 1 [(5, .int (nI (j + 1))), (4, .int (nI (kth (pA (ahS S s T B Z A e) i a) (rkA ar a j)))), (3, .int (nI a)), (0, .ref (ad1 0)), (1, .int (nI i)), (2, .ref (ad1 (40 + s)))] d_TD_pickKits_94 rfl (nI_1 j) (zN hml (by decide)) rfl ?_
              refine z_goto (tgt := 30) hx d_TD_pickKits_97 (by decide) ?_
              have hk9 : kth (pA (ahS S s T B Z A e) i a) (rkA ar a j) < 1000 := by have := kth_le (p := pA (ahS S s T B Z A e) i a) (c := rkA ar a j); omega
              obtain ⟨g1, g2⟩ := pkH_take hV ((nI_eq (by omega) (by omega)).mp h1) hk9
              have q9 := ih_J (j + 1) _ (by omega) g1
              rw [show kvF (pA (ahS S s T B Z A e) i a) (rkA ar a (j + 1)) = nI (kth (pA (ahS S s T B Z A e) i a) (rkA ar a j)) from by rw [g2]; rfl, ← st11_put] at q9
              exact z_lv [0, 1, 2, 3, 4, 5] _ rfl q9
      refine z_iload_n hx 0 d_TD_pickKits_13 rfl ?_
      refine z_aload_n hx 1 d_TD_pickKits_14 rfl ?_
      refine z_get hx k_TD (t := 0) rfl 0 (by decide) a1_128 rfl d_TD_pickKits_15 ?_
      refine z_getN hx k_Pl (t := 1) rfl 1 (by decide) a1_36 rfl d_TD_pickKits_18 ?_
      refine z_top (b := nI A) (by rw [st11_n (by omega)]; exact h1A) ?_
      refine z_icmp_ge (tgt := 106) hx d_TD_pickKits_21 (by decide) (fun h => absurd h (nI_ge (by omega) (by omega))) (fun _ => ?_)
      refine z_iconst (v := (-1)) hx d_TD_pickKits_24 rfl ?_
      refine z_top (b := kvF (pA (ahS S s T B Z A e) i a) (rkA ar a 0)) rfl ?_
      refine z_istore hx [(4, .int (kvF (pA (ahS S s T B Z A e) i a) (rkA ar a 0))), (3, .int (nI a)), (0, .ref (ad1 0)), (1, .int (nI i)), (2, .ref (ad1 (40 + s)))] d_TD_pickKits_25 (zN hml (by decide)) rfl ?_
      refine z_iconst (v := 0) hx d_TD_pickKits_27 rfl ?_
      refine z_top (b := nI 0) rfl ?_
      refine z_istore hx [(5, .int (nI 0)), (4, .int (kvF (pA (ahS S s T B Z A e) i a) (rkA ar a 0))), (3, .int (nI a)), (0, .ref (ad1 0)), (1, .int (nI i)), (2, .ref (ad1 (40 + s)))] d_TD_pickKits_28 (zN hml (by decide)) rfl ?_
      exact z_lv [0, 1, 2, 3, 4, 5] _ rfl (J Z 0 F (by omega) hV)
  show zV x ad (Lay K ad S) 0 0 [(0, .ref (ad 0)), (1, .int (nI i)), (2, .ref (ad (40 + s)))] 0 []
  refine z_aload_n hx 2 d_TD_pickKits_0 rfl ?_
  refine z_iconst (v := 0) hx d_TD_pickKits_1 rfl ?_
  refine z_cVa hx (c_St_armAhead (q := 0) hs hg (by omega) hB hZ hZ1 hZ2 hA hA4 he hsE hL hT hTB hT5 hlen hM) k_St (Lay_St hs) ⟨a3_32, a2_176, a1_5, ⟨by decide +kernel, by decide +kernel⟩, fun sig h => by cases h; rfl⟩ a2_174 a2_175 rfl rfl d_TD_pickKits_2 (by rw [hrm]; exact ⟨Nat.le_of_ble_eq_true rfl, Nat.le_of_ble_eq_true rfl, Nat.le_of_ble_eq_true rfl, Nat.le_of_eq (Nat.zero_add _)⟩) (fun ad1 hag => ?_)
  show zV x ad1 (Lay K ad1 (ahS S s T B Z A e)) (0 + 1) (0 + M) [(0, .ref (ad 0)), (1, .int (nI i)), (2, .ref (ad (40 + s)))] 5 [.int ((ahS S s T B Z A e).2.2 (60 + s) (T * Z + 0))]
  rw [← hag (0) (by omega), ← hag (40 + s) (by omega)]
  refine z_top (b := nI (ar 0)) (har 0 (by omega)).1 ?_
  refine z_iconst (v := (-1)) hx d_TD_pickKits_5 rfl ?_
  refine z_icmp_ne (tgt := 11) hx d_TD_pickKits_6 (by decide) (fun _ => ?_) (fun h => absurd h (nI_m1 (by have := (har 0 (by omega)).2; omega)))
  refine z_iconst (v := 0) hx d_TD_pickKits_11 rfl ?_
  refine z_top (b := nI 0) rfl ?_
  refine z_istore_n hx [(3, .int (nI 0)), (0, .ref (ad1 0)), (1, .int (nI i)), (2, .ref (ad1 (40 + s)))] d_TD_pickKits_12 rfl (zN hml (by decide)) rfl ?_
  have q9 := O A 0 ad1 hag ((ahS S s T B Z A e).2.2 11) (by omega) pkH_0
  rw [st11_self] at q9
  exact z_lv [0, 1, 2, 3] _ rfl q9
def dResE (S : zSt) (i : Nat) : Int32 × zSt := if S.2.2 3 0 = 0 then (if S.2.2 0 7 = 0 then (if S.2.2 (100 + i) 5 = 0 then (-8, S) else (-4, S)) else (-3, S)) else (-2, S)
set_option maxRecDepth 20000 in
theorem c_TD_reserve_early {l : Launch} {D : va_G} {K : Nat → ClassId} {ad : Nat → Nat} {S : zSt} {i : Nat} (hi : i < 10) (ho : S.2.2 9 i ≠ 0) {s : Nat} (hs : s < 8) (hpl : S.2.2 1 1 ≠ 0) (hE : ¬ S.2.2 3 0 = 0 ∨ ¬ S.2.2 0 7 = 0 ∨ ¬ S.2.2 (100 + i) 5 = 0 ∨ ¬ S.2.2 (200 + 8 * i + s) 1 ≤ 0) : zC l TB D zcls (ztyl K) y_TD_reserve (.code y_TD_reserve b_TD_reserve 6 (some FieldType.int)) (rmk 7 148) [.ref (ad 0), .int (nI i), .int (nI s)] ad (Lay K ad S) (zP K ad (some (.int (dResE S i).1)) (dResE S i).2) := by
  refine zC.of (by decide +kernel) (Nat.le_of_ble_eq_true rfl) ?_
  intro x hx hr hml hnm hrm hq hNH
  show zV x ad (Lay K ad S) 0 0 [(0, .ref (ad 0)), (1, .int (nI i)), (2, .int (nI s))] 0 []
  refine z_aload_n hx 0 d_TD_reserve_0 rfl ?_
  refine z_iload_n hx 1 d_TD_reserve_1 rfl ?_
  refine z_cV hx (c_TD_siteAt hi ho) k_TD rfl ⟨a2_113, a2_116, a1_1, ⟨by decide +kernel, by decide +kernel⟩, fun sig h => by cases h; rfl⟩ a2_115 s_TD_siteAt rfl rfl d_TD_reserve_2 (by rw [hrm]; exact ⟨Nat.le_of_ble_eq_true rfl, Nat.le_of_ble_eq_true rfl, Nat.le_of_ble_eq_true rfl, Nat.le_of_ble_eq_true rfl⟩) ?_
  show zV x ad (Lay K ad S) _ _ _ 5 [.ref (ad (100 + i))]
  refine z_astore_n hx [(3, .ref (ad (100 + i))), (0, .ref (ad 0)), (1, .int (nI i)), (2, .int (nI s))] d_TD_reserve_5 rfl (zN hml (by decide)) rfl ?_
  refine z_aload_n hx 1 d_TD_reserve_6 rfl ?_
  refine z_iload_n hx 3 d_TD_reserve_7 rfl ?_
  refine z_cV hx (c_TD_stratumAt hs) k_TD rfl ⟨a2_6, a2_9, a1_1, ⟨by decide +kernel, by decide +kernel⟩, fun sig h => by cases h; rfl⟩ a2_8 s_TD_stratumAt rfl rfl d_TD_reserve_8 (by rw [hrm]; exact ⟨Nat.le_of_ble_eq_true rfl, Nat.le_of_ble_eq_true rfl, Nat.le_of_ble_eq_true rfl, Nat.le_of_ble_eq_true rfl⟩) ?_
  show zV x ad (Lay K ad S) _ _ _ 11 [.ref (ad (40 + s))]
  refine z_astore hx [(4, .ref (ad (40 + s))), (3, .ref (ad (100 + i))), (0, .ref (ad 0)), (1, .int (nI i)), (2, .int (nI s))] d_TD_reserve_11 (zN hml (by decide)) rfl ?_
  refine z_aload_n hx 2 d_TD_reserve_13 rfl ?_
  refine z_cV hx (c_TD_needPlan hpl) k_TD rfl ⟨a2_125, a2_128, a1_1, ⟨by decide +kernel, by decide +kernel⟩, fun sig h => by cases h; rfl⟩ a2_127 s_TD_needPlan rfl rfl d_TD_reserve_14 (by rw [hrm]; exact ⟨Nat.le_of_ble_eq_true rfl, Nat.le_of_ble_eq_true rfl, Nat.le_of_ble_eq_true rfl, Nat.le_of_ble_eq_true rfl⟩) ?_
  show zV x ad (Lay K ad S) _ _ _ 17 []
  refine z_aload_n hx 2 d_TD_reserve_17 rfl ?_
  refine z_get hx k_TD (t := 0) rfl 1 (by decide) a1_129 rfl d_TD_reserve_18 ?_
  refine z_getN hx k_Jo (t := 3) rfl 0 (by decide) a1_58 rfl d_TD_reserve_21 ?_
  refine z_if_eq (tgt := 30) hx d_TD_reserve_24 (by decide) (fun h1 => ?_) (fun h1 => ?_)
  · refine z_aload_n hx 2 d_TD_reserve_30 rfl ?_
    refine z_get hx k_TD (t := 0) rfl 7 (by decide) a1_135 rfl d_TD_reserve_31 ?_
    refine z_if_eq (tgt := 40) hx d_TD_reserve_34 (by decide) (fun h2 => ?_) (fun h2 => ?_)
    · refine z_aload_n hx 1 d_TD_reserve_40 rfl ?_
      refine z_getN hx k_Si (t := 100 + i) (Lay_Si hi ho) 5 (by decide) a2_92 rfl d_TD_reserve_41 ?_
      refine z_if_eq (tgt := 50) hx d_TD_reserve_44 (by decide) (fun h3 => ?_) (fun h3 => ?_)
      · refine z_aload_n hx 1 d_TD_reserve_50 rfl ?_
        refine z_iload_n hx 4 d_TD_reserve_51 rfl ?_
        refine z_cV hx (c_Si_reserveFor hi hs ho) k_Si (Lay_Si hi ho) ⟨a3_22, a3_25, a1_13, ⟨by decide +kernel, by decide +kernel⟩, fun sig h => by cases h; rfl⟩ a3_23 a3_24 rfl rfl d_TD_reserve_52 (by rw [hrm]; exact ⟨Nat.le_of_ble_eq_true rfl, Nat.le_of_ble_eq_true rfl, Nat.le_of_ble_eq_true rfl, Nat.le_of_ble_eq_true rfl⟩) ?_
        show zV x ad (Lay K ad S) _ _ _ 55 [.ref (ad (200 + 8 * i + s))]
        refine z_astore hx [(5, .ref (ad (200 + 8 * i + s))), (4, .ref (ad (40 + s))), (3, .ref (ad (100 + i))), (0, .ref (ad 0)), (1, .int (nI i)), (2, .int (nI s))] d_TD_reserve_55 (zN hml (by decide)) rfl ?_
        refine z_aload hx 0 d_TD_reserve_57 rfl ?_
        refine z_getN hx k_Re (t := 200 + 8 * i + s) (Lay_Re hi hs ho) 1 (by decide) a2_75 rfl d_TD_reserve_59 ?_
        refine z_if_le (tgt := 68) hx d_TD_reserve_62 (by decide) (fun h4 => ?_) (fun h4 => ?_)
        · exact absurd hE (by simp [h1, h2, h3, h4])
        · refine z_bipush (v := (-8)) hx d_TD_reserve_65 rfl ?_
          have e9 : dResE S i = ((-8), S) := by unfold dResE; (first | rw [if_pos h1] | rw [if_neg h1] | skip); (first | rw [if_pos h2] | rw [if_neg h2] | skip); (first | rw [if_pos h3] | rw [if_neg h3] | skip); (first | rw [if_pos h4] | rw [if_neg h4] | skip); (try rfl)
          exact z_iret hx hr rfl hq (Nat.le_refl _) (Nat.le_refl _) d_TD_reserve_67 ⟨by rw [e9], rfl, by rw [e9]⟩
      · refine z_bipush (v := (-4)) hx d_TD_reserve_47 rfl ?_
        have e9 : dResE S i = ((-4), S) := by unfold dResE; (first | rw [if_pos h1] | rw [if_neg h1] | skip); (first | rw [if_pos h2] | rw [if_neg h2] | skip); (first | rw [if_pos h3] | rw [if_neg h3] | skip); (try rfl)
        exact z_iret hx hr rfl hq (Nat.le_refl _) (Nat.le_refl _) d_TD_reserve_49 ⟨by rw [e9], rfl, by rw [e9]⟩
    · refine z_bipush (v := (-3)) hx d_TD_reserve_37 rfl ?_
      have e9 : dResE S i = ((-3), S) := by unfold dResE; (first | rw [if_pos h1] | rw [if_neg h1] | skip); (first | rw [if_pos h2] | rw [if_neg h2] | skip); (try rfl)
      exact z_iret hx hr rfl hq (Nat.le_refl _) (Nat.le_refl _) d_TD_reserve_39 ⟨by rw [e9], rfl, by rw [e9]⟩
  · refine z_bipush (v := (-2)) hx d_TD_reserve_27 rfl ?_
    have e9 : dResE S i = ((-2), S) := by unfold dResE; (first | rw [if_pos h1] | rw [if_neg h1] | skip); (try rfl)
    exact z_iret hx hr rfl hq (Nat.le_refl _) (Nat.le_refl _) d_TD_reserve_29 ⟨by rw [e9], rfl, by rw [e9]⟩
def rvS (S : zSt) (i s Z : Nat) (g : Nat → Nat) : zSt := stM (markF (stM (stM (fillF S (300 + 8 * i + s) Z) (200 + 8 * i + s) 1 (nI Z)) (200 + 8 * i + s) 2 0) g Z) (40 + s) 6 ((markF (stM (stM (fillF S (300 + 8 * i + s) Z) (200 + 8 * i + s) 1 (nI Z)) (200 + 8 * i + s) 2 0) g Z).2.2 (40 + s) 6 + 1)
def rsQ (K : Nat → ClassId) (ad : Nat → Nat) (s : Nat) (S : zSt) (i : Nat) (ar : Nat → Nat) (T Z A : Nat) : zQ := fun r ad' ce' => zAg s ad ad' ∧ ∃ F, (r = .inl (some (.int (-6))) ∧ ce' = Lay K ad' (st11 S F) ∧ ∃ q, q < Z ∧ gK S i ar q = 1000) ∨ (pkH S i ar Z A 0 F ∧ ((S.2.2 3 1 = 0 ∧ r = .inl (some (.int (nI T))) ∧ ce' = Lay K ad' (rvS (wOk (st11 S F)) i s Z (gK S i ar))) ∨ (¬ S.2.2 3 1 = 0 ∧ r = .inl (some (.int (-2))) ∧ ce' = Lay K ad' (wT (st11 S F)))))
set_option maxRecDepth 20000 in
theorem c_TD_reserve {l : Launch} {D : va_G} {K : Nat → ClassId} {ad : Nat → Nat} {S : zSt} {i : Nat} (hi : i < 10) (ho : S.2.2 9 i ≠ 0) {s : Nat} (hs : s < 8) (hpl : S.2.2 1 1 ≠ 0) (hd0 : S.2.2 3 0 = 0) (ho7 : S.2.2 0 7 = 0) (hcl : S.2.2 (100 + i) 5 = 0) (hr0 : S.2.2 (200 + 8 * i + s) 1 ≤ 0) (hg : S.1 (40 + s) = 1) {T A B Z M : Nat} (hB : S.2.2 (40 + s) 5 = nI B) (hZ : S.2.2 1 3 = nI Z) (hZ1 : 1 ≤ Z) (hZ2 : Z ≤ 24) (hA : S.2.2 1 1 = nI A) (hA4 : A ≤ 4) {e : Nat → Nat} (he : ∀ a, a < A → (if 0 < S.2.2 1 2 then S.2.2 2 a * (S.2.2 1 3 / S.2.2 1 2) else 0) = nI (e a)) (hsE : sE e A = Z) (hL : S.1 (60 + s) ≤ 24576) (hT : S.2.2 (40 + s) 6 = nI T) (hTB : B = T ∨ B = T + 1) (hT5 : T < 512) (hlen : B = T + 1 → (T + 1) * Z ≤ S.1 (60 + s)) (hM : S.1 (60 + s) < B * Z + Z → max (B * Z + Z) (2 * S.1 (60 + s)) ≤ M) {ar : Nat → Nat} (har : ∀ q, q < Z → (ahS S s T B Z A e).2.2 (60 + s) (T * Z + q) = nI (ar q) ∧ ar q < A) : zC l TB D zcls (ztyl K) y_TD_reserve (.code y_TD_reserve b_TD_reserve 6 (some FieldType.int)) (rma M 7 148) [.ref (ad 0), .int (nI i), .int (nI s)] ad (Lay K ad S) (rsQ K ad s (ahS S s T B Z A e) i ar T Z A) := by
  refine zC.of (by decide +kernel) (Nat.le_of_ble_eq_true rfl) ?_
  intro x hx hr hml hnm hrm hq hNH
  have htz : T * Z ≤ 511 * 24 := Nat.mul_le_mul (by omega) hZ2
  have hbz : B * Z ≤ 512 * 24 := Nat.mul_le_mul (by omega) hZ2
  have htz1 : (T + 1) * Z = T * Z + Z := Nat.succ_mul T Z
  have h5 := ahS_5 (Z := Z) (A := A) (e := e) hB hTB
  have h6 : (ahS S s T B Z A e).2.2 (40 + s) 6 = nI T := by rw [ahS_j (by decide)]; exact hT
  have h3 : (ahS S s T B Z A e).2.2 1 3 = nI Z := by rw [ahS_n (by omega) (by omega)]; exact hZ
  have h1A : (ahS S s T B Z A e).2.2 1 1 = nI A := by rw [ahS_n (by omega) (by omega)]; exact hA
  have hln := ahS_len (A := A) (e := e) hTB hlen
  show zV x ad (Lay K ad S) 0 0 [(0, .ref (ad 0)), (1, .int (nI i)), (2, .int (nI s))] 0 []
  refine z_aload_n hx 0 d_TD_reserve_0 rfl ?_
  refine z_iload_n hx 1 d_TD_reserve_1 rfl ?_
  refine z_cV hx (c_TD_siteAt hi ho) k_TD rfl ⟨a2_113, a2_116, a1_1, ⟨by decide +kernel, by decide +kernel⟩, fun sig h => by cases h; rfl⟩ a2_115 s_TD_siteAt rfl rfl d_TD_reserve_2 (by rw [hrm]; exact ⟨Nat.le_of_ble_eq_true rfl, Nat.le_of_ble_eq_true rfl, Nat.le_of_ble_eq_true rfl, Nat.zero_le _⟩) ?_
  show zV x ad (Lay K ad S) _ _ _ 5 [.ref (ad (100 + i))]
  refine z_astore_n hx [(3, .ref (ad (100 + i))), (0, .ref (ad 0)), (1, .int (nI i)), (2, .int (nI s))] d_TD_reserve_5 rfl (zN hml (by decide)) rfl ?_
  refine z_aload_n hx 1 d_TD_reserve_6 rfl ?_
  refine z_iload_n hx 3 d_TD_reserve_7 rfl ?_
  refine z_cV hx (c_TD_stratumAt hs) k_TD rfl ⟨a2_6, a2_9, a1_1, ⟨by decide +kernel, by decide +kernel⟩, fun sig h => by cases h; rfl⟩ a2_8 s_TD_stratumAt rfl rfl d_TD_reserve_8 (by rw [hrm]; exact ⟨Nat.le_of_ble_eq_true rfl, Nat.le_of_ble_eq_true rfl, Nat.le_of_ble_eq_true rfl, Nat.zero_le _⟩) ?_
  show zV x ad (Lay K ad S) _ _ _ 11 [.ref (ad (40 + s))]
  refine z_astore hx [(4, .ref (ad (40 + s))), (3, .ref (ad (100 + i))), (0, .ref (ad 0)), (1, .int (nI i)), (2, .int (nI s))] d_TD_reserve_11 (zN hml (by decide)) rfl ?_
  refine z_aload_n hx 2 d_TD_reserve_13 rfl ?_
  refine z_cV hx (c_TD_needPlan hpl) k_TD rfl ⟨a2_125, a2_128, a1_1, ⟨by decide +kernel, by decide +kernel⟩, fun sig h => by cases h; rfl⟩ a2_127 s_TD_needPlan rfl rfl d_TD_reserve_14 (by rw [hrm]; exact ⟨Nat.le_of_ble_eq_true rfl, Nat.le_of_ble_eq_true rfl, Nat.le_of_ble_eq_true rfl, Nat.zero_le _⟩) ?_
  show zV x ad (Lay K ad S) _ _ _ 17 []
  refine z_aload_n hx 2 d_TD_reserve_17 rfl ?_
  refine z_get hx k_TD (t := 0) rfl 1 (by decide) a1_129 rfl d_TD_reserve_18 ?_
  refine z_getN hx k_Jo (t := 3) rfl 0 (by decide) a1_58 rfl d_TD_reserve_21 ?_
  refine z_if_eq (tgt := 30) hx d_TD_reserve_24 (by decide) (fun _ => ?_) (fun h => absurd hd0 h)
  refine z_aload_n hx 2 d_TD_reserve_30 rfl ?_
  refine z_get hx k_TD (t := 0) rfl 7 (by decide) a1_135 rfl d_TD_reserve_31 ?_
  refine z_if_eq (tgt := 40) hx d_TD_reserve_34 (by decide) (fun _ => ?_) (fun h => absurd ho7 h)
  refine z_aload_n hx 1 d_TD_reserve_40 rfl ?_
  refine z_getN hx k_Si (t := 100 + i) (Lay_Si hi ho) 5 (by decide) a2_92 rfl d_TD_reserve_41 ?_
  refine z_if_eq (tgt := 50) hx d_TD_reserve_44 (by decide) (fun _ => ?_) (fun h => absurd hcl h)
  refine z_aload_n hx 1 d_TD_reserve_50 rfl ?_
  refine z_iload_n hx 4 d_TD_reserve_51 rfl ?_
  refine z_cV hx (c_Si_reserveFor hi hs ho) k_Si (Lay_Si hi ho) ⟨a3_22, a3_25, a1_13, ⟨by decide +kernel, by decide +kernel⟩, fun sig h => by cases h; rfl⟩ a3_23 a3_24 rfl rfl d_TD_reserve_52 (by rw [hrm]; exact ⟨Nat.le_of_ble_eq_true rfl, Nat.le_of_ble_eq_true rfl, Nat.le_of_ble_eq_true rfl, Nat.zero_le _⟩) ?_
  show zV x ad (Lay K ad S) _ _ _ 55 [.ref (ad (200 + 8 * i + s))]
  refine z_astore hx [(5, .ref (ad (200 + 8 * i + s))), (4, .ref (ad (40 + s))), (3, .ref (ad (100 + i))), (0, .ref (ad 0)), (1, .int (nI i)), (2, .int (nI s))] d_TD_reserve_55 (zN hml (by decide)) rfl ?_
  refine z_aload hx 0 d_TD_reserve_57 rfl ?_
  refine z_getN hx k_Re (t := 200 + 8 * i + s) (Lay_Re hi hs ho) 1 (by decide) a2_75 rfl d_TD_reserve_59 ?_
  refine z_if_le (tgt := 68) hx d_TD_reserve_62 (by decide) (fun _ => ?_) (fun h => absurd hr0 h)
  refine z_aload_n hx 3 d_TD_reserve_68 rfl ?_
  refine z_iload_n hx 4 d_TD_reserve_69 rfl ?_
  refine z_aload hx 1 d_TD_reserve_70 rfl ?_
  refine z_retV hx k_TD (t := 0) rfl (c_TD_pickKits hs hg hB hZ hZ1 hZ2 hA hA4 he hsE hL hT hTB hT5 hlen hM har) ⟨a3_28, a3_31, a1_1, ⟨by decide +kernel, by decide +kernel⟩, fun sig h => by cases h; rfl⟩ a3_30 s_TD_pickKits rfl rfl d_TD_reserve_72 (by rw [hrm]; exact ⟨Nat.le_of_ble_eq_true rfl, Nat.le_of_ble_eq_true rfl, Nat.le_of_ble_eq_true rfl, Nat.le_of_eq (Nat.zero_add _)⟩) (fun E ad' ce' h => by obtain ⟨-, F, -, h | h⟩ := h <;> cases h.1) (fun v ad1 ce' h => ?_)
  obtain ⟨hag, F, rfl, ⟨h9, hF⟩ | ⟨h9, hF⟩⟩ := h
  · cases h9
    show zV x ad1 (Lay K ad1 (st11 (ahS S s T B Z A e) F)) (0 + 1) (0 + M) [(5, .ref (ad (200 + 8 * i + s))), (4, .ref (ad (40 + s))), (3, .ref (ad (100 + i))), (0, .ref (ad 0)), (1, .int (nI i)), (2, .int (nI s))] 75 [.int 1]
    rw [← hag (200 + 8 * i + s) (by omega), ← hag (40 + s) (by omega), ← hag (100 + i) (by omega), ← hag (0) (by omega)]
    have hg9 : ∀ q, q < Z → F q = nI (gK (ahS S s T B Z A e) i ar q) ∧ gK (ahS S s T B Z A e) i ar q < 1000 := fun q hq => hF.2 q hq (Or.inl (har q hq).2)
    refine z_if_ne (tgt := 81) hx d_TD_reserve_75 (by decide) (fun _ => ?_) (fun h => absurd h (by decide))
    refine z_aload_n hx 3 d_TD_reserve_81 rfl ?_
    refine z_get hx k_TD (t := 0) rfl 1 (by decide) a1_129 rfl d_TD_reserve_82 ?_
    by_cases h1 : (st11 (ahS S s T B Z A e) F).2.2 3 1 = 0
    · refine z_cV hx (c_Jo_write_ok h1) k_Jo rfl ⟨a2_40, a2_43, a1_3, ⟨by decide +kernel, by decide +kernel⟩, fun sig h => by cases h; rfl⟩ a2_41 a2_42 rfl rfl d_TD_reserve_85 (by rw [hrm]; exact ⟨Nat.le_of_ble_eq_true rfl, Nat.le_of_ble_eq_true rfl, Nat.le_of_ble_eq_true rfl, Nat.le_of_eq (Nat.zero_add _)⟩) ?_
      show zV x ad1 (Lay K ad1 (stM (st11 (ahS S s T B Z A e) F) 3 2 ((st11 (ahS S s T B Z A e) F).2.2 3 2 + 1))) _ _ _ 88 [.int 1]
      refine z_if_ne (tgt := 94) hx d_TD_reserve_88 (by decide) (fun _ => ?_) (fun h => absurd h (by decide))
      refine z_aload hx 0 d_TD_reserve_94 rfl ?_
      refine z_aload_n hx 3 d_TD_reserve_96 rfl ?_
      refine z_get hx k_TD (t := 0) rfl 5 (by decide) a1_133 rfl d_TD_reserve_97 ?_
      refine z_aload_n hx 3 d_TD_reserve_100 rfl ?_
      refine z_get hx k_TD (t := 0) rfl 0 (by decide) a1_128 rfl d_TD_reserve_101 ?_
      refine z_getN hx k_Pl (t := 1) rfl 3 (by decide) a1_40 rfl d_TD_reserve_104 ?_
      refine z_top (b := (st11 (ahS S s T B Z A e) F).2.2 1 3) (rd_n (by decide)) ?_
      refine z_top (b := nI Z) (by rw [st11_n (by omega)]; exact h3) ?_
      refine z_cV hx (c_Re_fill hi hs (ho_n (by decide) (by rw [st11_n (by decide), ahS_n (by omega) (by omega)]; exact ho)) hZ2) k_Re (Lay_Re hi hs (ho_n (by decide) (by rw [st11_n (by decide), ahS_n (by omega) (by omega)]; exact ho))) ⟨a3_33, a3_36, a1_14, ⟨by decide +kernel, by decide +kernel⟩, fun sig h => by cases h; rfl⟩ a3_34 a3_35 rfl rfl d_TD_reserve_107 (by rw [hrm]; exact ⟨Nat.le_of_ble_eq_true rfl, Nat.le_of_ble_eq_true rfl, Nat.le_of_ble_eq_true rfl, Nat.le_of_eq (Nat.zero_add _)⟩) ?_
      show zV x ad1 (Lay K ad1 (stM (stM (fillF (wOk (st11 (ahS S s T B Z A e) F)) (300 + 8 * i + s) Z) (200 + 8 * i + s) 1 (nI Z)) (200 + 8 * i + s) 2 0)) _ _ _ 110 []
      refine z_aload_n hx 3 d_TD_reserve_110 rfl ?_
      refine z_get hx k_TD (t := 0) rfl 2 (by decide) a1_130 rfl d_TD_reserve_111 ?_
      refine z_aload_n hx 3 d_TD_reserve_114 rfl ?_
      refine z_get hx k_TD (t := 0) rfl 5 (by decide) a1_133 rfl d_TD_reserve_115 ?_
      refine z_aload_n hx 3 d_TD_reserve_118 rfl ?_
      refine z_get hx k_TD (t := 0) rfl 0 (by decide) a1_128 rfl d_TD_reserve_119 ?_
      refine z_getN hx k_Pl (t := 1) rfl 3 (by decide) a1_40 rfl d_TD_reserve_122 ?_
      refine z_top (b := nI Z) (by rw [stM_n (by omega), stM_n (by omega), fillF_n (by omega), stM_n (by omega), st11_n (by omega)]; exact h3) ?_
      refine z_cV hx (c_Sh_markAll (g := gK (ahS S s T B Z A e) i ar) hZ2 (fun q hq => by rw [stM_n (by omega), stM_n (by omega), fillF_n (by omega)]; exact hg9 q hq)) k_Sh rfl ⟨a3_37, a3_40, a1_4, ⟨by decide +kernel, by decide +kernel⟩, fun sig h => by cases h; rfl⟩ a3_38 a3_39 rfl rfl d_TD_reserve_125 (by rw [hrm]; exact ⟨Nat.le_of_ble_eq_true rfl, Nat.le_of_ble_eq_true rfl, Nat.le_of_ble_eq_true rfl, Nat.le_of_eq (Nat.zero_add _)⟩) ?_
      show zV x ad1 (Lay K ad1 (markF (stM (stM (fillF (wOk (st11 (ahS S s T B Z A e) F)) (300 + 8 * i + s) Z) (200 + 8 * i + s) 1 (nI Z)) (200 + 8 * i + s) 2 0) (gK (ahS S s T B Z A e) i ar) Z)) _ _ _ 128 []
      refine z_aload hx 1 d_TD_reserve_128 rfl ?_
      refine z_cV hx (c_St_takeBlock hs) k_St (Lay_St hs) ⟨a3_41, a3_2, a1_5, ⟨by decide +kernel, by decide +kernel⟩, fun sig h => by cases h; rfl⟩ a3_0 a3_1 rfl rfl d_TD_reserve_130 (by rw [hrm]; exact ⟨Nat.le_of_ble_eq_true rfl, Nat.le_of_ble_eq_true rfl, Nat.le_of_ble_eq_true rfl, Nat.le_of_eq (Nat.zero_add _)⟩) ?_
      show zV x ad1 (Lay K ad1 (rvS (wOk (st11 (ahS S s T B Z A e) F)) i s Z (gK (ahS S s T B Z A e) i ar))) _ _ _ 133 [.int ((markF (stM (stM (fillF (wOk (st11 (ahS S s T B Z A e) F)) (300 + 8 * i + s) Z) (200 + 8 * i + s) 1 (nI Z)) (200 + 8 * i + s) 2 0) (gK (ahS S s T B Z A e) i ar) Z).2.2 (40 + s) 6 + 1 - 1)]
      refine z_top (b := nI T) (by rw [markF_n (by omega), stM_n (by omega), stM_n (by omega), fillF_n (by omega), stM_n (by omega), st11_n (by omega), h6, nI_1]; exact nI_pred T) ?_
      exact z_iret hx hr rfl hq (Nat.le_of_eq (Nat.zero_add _)) (Nat.le_of_eq (Nat.zero_add _)) d_TD_reserve_133 ⟨hag, F, Or.inr ⟨hF, Or.inl ⟨h1, rfl, rfl⟩⟩⟩
    · refine z_cV hx (c_Jo_write_torn h1) k_Jo rfl ⟨a2_40, a2_43, a1_3, ⟨by decide +kernel, by decide +kernel⟩, fun sig h => by cases h; rfl⟩ a2_41 a2_42 rfl rfl d_TD_reserve_85 (by rw [hrm]; exact ⟨Nat.le_of_ble_eq_true rfl, Nat.le_of_ble_eq_true rfl, Nat.le_of_ble_eq_true rfl, Nat.le_of_eq (Nat.zero_add _)⟩) ?_
      show zV x ad1 (Lay K ad1 (stM (stM (st11 (ahS S s T B Z A e) F) 3 1 0) 3 0 1)) _ _ _ 88 [.int 0]
      refine z_if_ne (tgt := 94) hx d_TD_reserve_88 (by decide) (fun h => absurd (by decide) h) (fun _ => ?_)
      refine z_bipush (v := (-2)) hx d_TD_reserve_91 rfl ?_
      exact z_iret hx hr rfl hq (Nat.le_of_eq (Nat.zero_add _)) (Nat.le_of_eq (Nat.zero_add _)) d_TD_reserve_93 ⟨hag, F, Or.inr ⟨hF, Or.inr ⟨h1, rfl, rfl⟩⟩⟩
  · cases h9
    show zV x ad1 (Lay K ad1 (st11 (ahS S s T B Z A e) F)) (0 + 1) (0 + M) [(5, .ref (ad (200 + 8 * i + s))), (4, .ref (ad (40 + s))), (3, .ref (ad (100 + i))), (0, .ref (ad 0)), (1, .int (nI i)), (2, .int (nI s))] 75 [.int 0]
    rw [← hag (200 + 8 * i + s) (by omega), ← hag (40 + s) (by omega), ← hag (100 + i) (by omega), ← hag (0) (by omega)]
    refine z_if_ne (tgt := 81) hx d_TD_reserve_75 (by decide) (fun h => absurd (by decide) h) (fun _ => ?_)
    refine z_bipush (v := (-6)) hx d_TD_reserve_78 rfl ?_
    exact z_iret hx hr rfl hq (Nat.le_of_eq (Nat.zero_add _)) (Nat.le_of_eq (Nat.zero_add _)) d_TD_reserve_80 ⟨hag, F, Or.inl ⟨rfl, rfl, hF⟩⟩
