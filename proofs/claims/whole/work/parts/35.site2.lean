def st9 (S : zSt) (i : Nat) : zSt := (S.1, S.2.1, fun u => if u = 9 then upd (S.2.2 9) i 1 else if siT i u then (fun _ => 0) else S.2.2 u)
theorem st9_9 {S : zSt} {i : Nat} : (st9 S i).2.2 9 = upd (S.2.2 9) i 1 := rfl
theorem st9_n {S : zSt} {i u : Nat} (h1 : u ≠ 9) (h2 : ¬ siT i u) : (st9 S i).2.2 u = S.2.2 u := (if_neg h1).trans (if_neg h2)
theorem st9_z {S : zSt} {i u : Nat} (h : siT i u) : (st9 S i).2.2 u = fun _ => 0 := (if_neg (by unfold siT at h; omega)).trans (if_pos h)
theorem bodyA_ad9 {K : Nat → ClassId} {ad ad2 : Nat → Nat} (h1 : ∀ j, j < 60 → ad2 j = ad j) (g : Nat → Int64) (f : Nat → Int32) {t : Nat} (ht : t ≠ 9) : bodyA K ad2 g f t = bodyA K ad g f t := by
  have e10 : (fun i => if i < 8 then some (ad2 (40 + i)) else none) = (fun i => if i < 8 then some (ad (40 + i)) else none) := by
    funext i
    by_cases q : i < 8
    · rw [if_pos q, if_pos q, h1 _ (by omega)]
    · rw [if_neg q, if_neg q]
  unfold bodyA
  split <;> first | rfl | (exact absurd rfl ht) | (rw [e10]) | (simp only [h1 1 (by decide), h1 2 (by decide), h1 3 (by decide), h1 4 (by decide), h1 5 (by decide), h1 6 (by decide), h1 7 (by decide), h1 8 (by decide), h1 9 (by decide), h1 10 (by decide), h1 11 (by decide), h1 14 (by decide), h1 15 (by decide), h1 16 (by decide), h1 17 (by decide), h1 18 (by decide), h1 19 (by decide), h1 20 (by decide), h1 21 (by decide), h1 22 (by decide), h1 23 (by decide), h1 24 (by decide), h1 25 (by decide), h1 26 (by decide), h1 27 (by decide), h1 28 (by decide), h1 29 (by decide), h1 30 (by decide), h1 31 (by decide), h1 32 (by decide)])
theorem zdom_oth {o : Nat → Int32} {i v : Nat} (hv : ¬ siT i v) : zdom (upd o i 1) v = zdom o v := by
  unfold siT at hv
  unfold zdom
  by_cases c1 : 100 ≤ v ∧ v < 160
  · have e : upd o i 1 ((v - 100) % 10) = o ((v - 100) % 10) := pk_un (by omega)
    have c2 : ¬ (200 ≤ v ∧ v < 280) := by omega
    have c3 : ¬ (300 ≤ v ∧ v < 380) := by omega
    simp only [e, c2, c3, decide_false, Bool.false_and]
  · by_cases c2 : 200 ≤ v ∧ v < 280
    · have e : upd o i 1 ((v - 200) / 8) = o ((v - 200) / 8) := pk_un (by omega)
      have c3 : ¬ (300 ≤ v ∧ v < 380) := by omega
      simp only [e, c1, c3, decide_false, Bool.false_and]
    · by_cases c3 : 300 ≤ v ∧ v < 380
      · have e : upd o i 1 ((v - 300) / 8) = o ((v - 300) / 8) := pk_un (by omega)
        simp only [e, c1, c2, decide_false, Bool.false_and]
      · simp only [c1, c2, c3, decide_false, Bool.false_and]
theorem zdom_rng {o : Nat → Int32} {v : Nat} (h : zdom o v = true) : v ≤ 32 ∨ (40 ≤ v ∧ v < 48) ∨ (50 ≤ v ∧ v < 58) ∨ (60 ≤ v ∧ v < 68) ∨ (70 ≤ v ∧ v < 78) ∨ (80 ≤ v ∧ v < 88) ∨ (100 ≤ v ∧ v < 160) ∨ (200 ≤ v ∧ v < 280) ∨ (300 ≤ v ∧ v < 380) := by
  unfold zdom at h
  simp only [Bool.or_eq_true, Bool.and_eq_true, decide_eq_true_eq] at h
  omega
theorem plT_or (n t : Nat) : plT n t = 1 ∨ plT n t = t := by
  unfold plT
  by_cases h : n = 1
  · exact Or.inl (if_pos h)
  · exact Or.inr (if_neg h)
theorem Lay_oth {K : Nat → ClassId} {ad ad2 : Nat → Nat} {S : zSt} {i v : Nat} (hi : i < 10) (hag : ∀ t, ¬ siT i t → ad2 t = ad t) (h9 : v ≠ 9) (hv : ¬ siT i v) : Lay K ad2 (st9 S i) v = Lay K ad S v := by
  show (if zdom ((st9 S i).2.2 9) v = true then some (bodyX K ad2 (S.1 v) (S.2.1 v) ((st9 S i).2.2 v) v) else none) = if zdom (S.2.2 9) v = true then some (bodyX K ad (S.1 v) (S.2.1 v) (S.2.2 v) v) else none
  rw [st9_9, zdom_oth hv, st9_n h9 hv]
  have e : zdom (S.2.2 9) v = true → bodyX K ad2 (S.1 v) (S.2.1 v) (S.2.2 v) v = bodyX K ad (S.1 v) (S.2.1 v) (S.2.2 v) v := by
    intro hd
    have hr := zdom_rng hd
    unfold siT at hv hag
    unfold bodyX
    by_cases c1 : v < 40
    · rw [if_pos c1, if_pos c1, bodyA_ad9 (fun j hj => hag j (by omega)) _ _ h9]
    rw [if_neg c1, if_neg c1]
    by_cases c2 : v < 50
    · rw [if_pos c2, if_pos c2, hag (plT (S.1 v) (v + 30)) (by rcases plT_or (S.1 v) (v + 30) with h | h <;> rw [h] <;> omega), hag (v + 10) (by omega), hag (v + 20) (by omega)]
    rw [if_neg c2, if_neg c2]
    by_cases c3 : v < 60
    · rw [if_pos c3, if_pos c3]
    rw [if_neg c3, if_neg c3]
    by_cases c4 : v < 100
    · rw [if_pos c4, if_pos c4]
      unfold bodyP
      by_cases c5 : v < 70
      · rw [if_pos c5, if_pos c5]
      rw [if_neg c5, if_neg c5]
      by_cases c6 : v < 80
      · rw [if_pos c6, if_pos c6, hag (v + 10) (by omega)]
      rw [if_neg c6, if_neg c6]
    rw [if_neg c4, if_neg c4]
    by_cases c5 : v < 110
    · rw [if_pos c5, if_pos c5, hag (v + 10) (by omega), hag (v + 20) (by omega), hag (v + 30) (by omega), hag (v + 40) (by omega), hag (v + 50) (by omega)]
    rw [if_neg c5, if_neg c5]
    by_cases c6 : v < 150
    · rw [if_pos c6, if_pos c6]
    rw [if_neg c6, if_neg c6]
    by_cases c7 : v < 160
    · rw [if_pos c7, if_pos c7]
      have e9 : (fun q => if q < 8 then some (ad2 (200 + 8 * (v - 150) + q)) else none) = (fun q => if q < 8 then some (ad (200 + 8 * (v - 150) + q)) else none) := by
        funext q
        by_cases hq : q < 8
        · rw [if_pos hq, if_pos hq, hag _ (by omega)]
        · rw [if_neg hq, if_neg hq]
      rw [e9]
    rw [if_neg c7, if_neg c7]
    by_cases c8 : v < 300
    · rw [if_pos c8, if_pos c8, hag (v + 100) (by omega)]
    rw [if_neg c8, if_neg c8]
  by_cases hd : zdom (S.2.2 9) v = true
  · rw [if_pos hd, if_pos hd, e hd]
  · rw [if_neg hd, if_neg hd]
theorem Lay_site {K : Nat → ClassId} {ad ad2 : Nat → Nat} {S : zSt} {i : Nat} (hi : i < 10) (hag : ∀ t, ¬ siT i t → ad2 t = ad t) : ∀ v, Lay K ad2 (st9 S i) v = z_up (WS K ad2 (Lay K ad S) i 8) 9 (.inl (K 3, 10, .inr (.inr (.inr (.inr (va_up (fun q => if q < 10 then (if S.2.2 9 q = 0 then none else some (ad (100 + q))) else none) i (some (ad2 (100 + i))))))))) v := by
  intro v
  have hn : (st9 S i).2.2 9 i ≠ 0 := by rw [st9_9, pk_us]; decide
  by_cases h9 : v = 9
  · subst h9
    rw [z_up_s]
    show some (Sum.inl (K 3, 10, Sum.inr (Sum.inr (Sum.inr (Sum.inr (fun q => if q < 10 then (if (st9 S i).2.2 9 q = 0 then none else some (ad2 (100 + q))) else none)))))) = _
    have e : (fun q => if q < 10 then (if (st9 S i).2.2 9 q = 0 then none else some (ad2 (100 + q))) else none) = va_up (fun q => if q < 10 then (if S.2.2 9 q = 0 then none else some (ad (100 + q))) else none) i (some (ad2 (100 + i))) := by
      funext q
      by_cases hq : q = i
      · subst hq
        rw [va_up_self, if_pos hi, if_neg hn]
      · rw [va_up_ne _ _ hq, st9_9, pk_un hq]
        by_cases h2 : q < 10
        · rw [if_pos h2, if_pos h2, hag (100 + q) (by unfold siT; omega)]
        · rw [if_neg h2, if_neg h2]
    rw [e]
  · rw [z_up_n h9]
    by_cases hs : siT i v
    · have hz := st9_z (S := S) hs
      unfold siT at hs
      rcases hs with rfl | rfl | rfl | rfl | rfl | rfl | h | h
      · rw [Lay_Si hi hn, WS_obj, hz]
      · rw [Lay_r0 hi hn, hz]; unfold WS; rw [if_neg (by omega), if_pos (by omega)]
      · rw [Lay_r1 hi hn, hz]; unfold WS; rw [if_neg (by omega), if_pos (by omega)]
      · rw [Lay_r2 hi hn, hz]; unfold WS; rw [if_neg (by omega), if_pos (by omega)]
      · rw [Lay_r3 hi hn, hz]; unfold WS; rw [if_neg (by omega), if_pos (by omega)]
      · rw [Lay_ress hi hn, WS_res]
      · obtain ⟨k, rfl⟩ : ∃ k, v = 200 + 8 * i + k := ⟨v - (200 + 8 * i), by omega⟩
        rw [Lay_Re hi (by omega) hn, hz]; unfold WS; rw [if_neg (by omega), if_neg (by omega), if_neg (by omega), if_pos (by omega), show 200 + 8 * i + k + 100 = 300 + 8 * i + k by omega]
      · obtain ⟨k, rfl⟩ : ∃ k, v = 300 + 8 * i + k := ⟨v - (300 + 8 * i), by omega⟩
        rw [Lay_ek hi (by omega) hn, hz]; unfold WS; rw [if_neg (by omega), if_neg (by omega), if_neg (by omega), if_neg (by omega), if_pos (by omega)]
    · rw [Lay_oth hi hag h9 hs]
      unfold siT at hs
      rw [WS_out (by omega) (by omega) (by omega) (by omega) (by omega)]
theorem Lay_free {K : Nat → ClassId} {ad : Nat → Nat} {S : zSt} {i v : Nat} (hi : i < 10) (ho : S.2.2 9 i = 0) (hv : siT i v) : Lay K ad S v = none := by
  show (if zdom (S.2.2 9) v = true then _ else none) = none
  refine if_neg (fun h => ?_)
  unfold zdom at h
  simp only [Bool.or_eq_true, Bool.and_eq_true, decide_eq_true_eq] at h
  unfold siT at hv
  have e1 : 100 ≤ v ∧ v < 160 → (v - 100) % 10 = i := by omega
  have e2 : 200 ≤ v ∧ v < 280 → (v - 200) / 8 = i := by omega
  have e3 : 300 ≤ v ∧ v < 380 → (v - 300) / 8 = i := by omega
  rcases h with h | h | h | h | h | h | ⟨h, h2⟩ | ⟨h, h2⟩ | ⟨h, h2⟩
  · omega
  · omega
  · omega
  · omega
  · omega
  · omega
  · rw [e1 h] at h2; exact h2 ho
  · rw [e2 h] at h2; exact h2 ho
  · rw [e3 h] at h2; exact h2 ho
def dSiE (S : zSt) : Int32 × zSt := if S.2.2 3 0 = 0 then (-2, wT S) else (-2, S)
set_option maxRecDepth 20000 in
theorem c_TD_site_early {l : Launch} {D : va_G} {K : Nat → ClassId} {ad : Nat → Nat} {S : zSt} {i : Nat} (hi : i < 10) (ho : S.2.2 9 i = 0) (hE : ¬ S.2.2 3 0 = 0 ∨ ¬ S.2.2 3 1 = 0) : zC l TB D zcls (ztyl K) y_TD_site (.code y_TD_site b_TD_site 2 (some FieldType.int)) (rmk 3 110) [.ref (ad 0), .int (nI i)] ad (Lay K ad S) (zP K ad (some (.int (dSiE S).1)) (dSiE S).2) := by
  refine zC.of (by decide +kernel) (Nat.le_of_ble_eq_true rfl) ?_
  intro x hx hr hml hnm hrm hq hNH
  show zV x ad (Lay K ad S) 0 0 [(0, .ref (ad 0)), (1, .int (nI i))] 0 []
  refine z_iload_n hx 1 d_TD_site_0 rfl ?_
  refine z_if_lt (tgt := 13) hx d_TD_site_1 (by decide) (fun h => absurd h (nI_pos (by omega))) (fun _ => ?_)
  refine z_iload_n hx 1 d_TD_site_4 rfl ?_
  refine z_aload_n hx 0 d_TD_site_5 rfl ?_
  refine z_get hx k_TD (t := 0) rfl 3 (by decide) a1_131 rfl d_TD_site_6 ?_
  refine z_alen hx 3 rfl (t := 9) rfl (v := 10) rfl d_TD_site_9 ?_
  refine z_icmp_lt (tgt := 21) hx d_TD_site_10 (by decide) (fun _ => ?_) (fun h => absurd (nI_ltL 10 rfl hi (by decide)) h)
  refine z_aload_n hx 0 d_TD_site_21 rfl ?_
  refine z_get hx k_TD (t := 0) rfl 3 (by decide) a1_131 rfl d_TD_site_22 ?_
  refine z_iload_n hx 1 d_TD_site_25 rfl ?_
  refine z_aaldK hx 3 rfl (t := 9) rfl (k := i) (by omega) (by decide) (v := .null) (by show va_rf (if i < 10 then (if S.2.2 9 i = 0 then none else some (ad (100 + i))) else none) = _; rw [if_pos hi, if_pos ho]; rfl) d_TD_site_26 ?_
  refine z_ifnullN (tgt := 38) hx d_TD_site_27 (by decide) ?_
  refine z_aload_n hx 0 d_TD_site_38 rfl ?_
  refine z_get hx k_TD (t := 0) rfl 1 (by decide) a1_129 rfl d_TD_site_39 ?_
  refine z_getN hx k_Jo (t := 3) rfl 0 (by decide) a1_58 rfl d_TD_site_42 ?_
  refine z_if_ne (tgt := 58) hx d_TD_site_45 (by decide) (fun h1 => ?_) (fun h1 => ?_)
  · refine z_bipush (v := (-2)) hx d_TD_site_58 rfl ?_
    have e9 : dSiE S = ((-2), S) := by unfold dSiE; (first | rw [if_pos h1] | rw [if_neg h1] | skip); (try rfl)
    exact z_iret hx hr rfl hq (Nat.le_refl _) (Nat.le_refl _) d_TD_site_60 ⟨by rw [e9], rfl, by rw [e9]⟩
  · refine z_aload_n hx 0 d_TD_site_48 rfl ?_
    refine z_get hx k_TD (t := 0) rfl 1 (by decide) a1_129 rfl d_TD_site_49 ?_
    by_cases h2 : S.2.2 3 1 = 0
    · refine z_cV hx (c_Jo_write_ok h2) k_Jo rfl ⟨a2_40, a2_43, a1_3, ⟨by decide +kernel, by decide +kernel⟩, fun sig h => by cases h; rfl⟩ a2_41 a2_42 rfl rfl d_TD_site_52 (by rw [hrm]; exact ⟨Nat.le_of_ble_eq_true rfl, Nat.le_of_ble_eq_true rfl, Nat.le_of_ble_eq_true rfl, Nat.le_of_ble_eq_true rfl⟩) ?_
      show zV x ad (Lay K ad (stM S 3 2 (S.2.2 3 2 + 1))) _ _ _ 55 [.int 1]
      refine z_if_ne (tgt := 61) hx d_TD_site_55 (by decide) (fun _ => ?_) (fun h => absurd h (by decide))
      exact absurd hE (by simp [h1, h2])
    · refine z_cV hx (c_Jo_write_torn h2) k_Jo rfl ⟨a2_40, a2_43, a1_3, ⟨by decide +kernel, by decide +kernel⟩, fun sig h => by cases h; rfl⟩ a2_41 a2_42 rfl rfl d_TD_site_52 (by rw [hrm]; exact ⟨Nat.le_of_ble_eq_true rfl, Nat.le_of_ble_eq_true rfl, Nat.le_of_ble_eq_true rfl, Nat.le_of_ble_eq_true rfl⟩) ?_
      show zV x ad (Lay K ad (stM (stM S 3 1 0) 3 0 1)) _ _ _ 55 [.int 0]
      refine z_if_ne (tgt := 61) hx d_TD_site_55 (by decide) (fun h => absurd (by decide) h) (fun _ => ?_)
      refine z_bipush (v := (-2)) hx d_TD_site_58 rfl ?_
      have e9 : dSiE S = ((-2), stM (stM S 3 1 0) 3 0 1) := by unfold dSiE; (first | rw [if_pos h1] | rw [if_neg h1] | skip); (first | rw [if_pos h2] | rw [if_neg h2] | skip); (try rfl)
      exact z_iret hx hr rfl hq (Nat.le_refl _) (Nat.le_refl _) d_TD_site_60 ⟨by rw [e9], rfl, by rw [e9]⟩
set_option maxRecDepth 20000 in
theorem c_TD_site {l : Launch} {D : va_G} {K : Nat → ClassId} {ad : Nat → Nat} {S : zSt} {i : Nat} (hi : i < 10) (ho : S.2.2 9 i = 0) (hd0 : S.2.2 3 0 = 0) (hw0 : S.2.2 3 1 = 0) : zC l TB D zcls (ztyl K) y_TD_site (.code y_TD_site b_TD_site 2 (some FieldType.int)) ({ frames := 3, cells := 22, slots := 630, locals := 110 }) [.ref (ad 0), .int (nI i)] ad (Lay K ad S) (fun r ad' ce' => r = .inl (some (.int (S.2.2 0 6 + 1))) ∧ (∀ t, ¬ siT i t → ad' t = ad t) ∧ ce' = Lay K ad' (stM (st9 (wOk S) i) 0 6 (S.2.2 0 6 + 1))) := by
  refine zC.of (by decide +kernel) (Nat.le_of_ble_eq_true rfl) ?_
  intro x hx hr hml hnm hrm hq hNH
  show zV x ad (Lay K ad S) 0 0 [(0, .ref (ad 0)), (1, .int (nI i))] 0 []
  refine z_iload_n hx 1 d_TD_site_0 rfl ?_
  refine z_if_lt (tgt := 13) hx d_TD_site_1 (by decide) (fun h => absurd h (nI_pos (by omega))) (fun _ => ?_)
  refine z_iload_n hx 1 d_TD_site_4 rfl ?_
  refine z_aload_n hx 0 d_TD_site_5 rfl ?_
  refine z_get hx k_TD (t := 0) rfl 3 (by decide) a1_131 rfl d_TD_site_6 ?_
  refine z_alen hx 3 rfl (t := 9) rfl (v := 10) rfl d_TD_site_9 ?_
  refine z_icmp_lt (tgt := 21) hx d_TD_site_10 (by decide) (fun _ => ?_) (fun h => absurd (nI_ltL 10 rfl hi (by decide)) h)
  refine z_aload_n hx 0 d_TD_site_21 rfl ?_
  refine z_get hx k_TD (t := 0) rfl 3 (by decide) a1_131 rfl d_TD_site_22 ?_
  refine z_iload_n hx 1 d_TD_site_25 rfl ?_
  refine z_aaldK hx 3 rfl (t := 9) rfl (k := i) (by omega) (by decide) (v := .null) (by show va_rf (if i < 10 then (if S.2.2 9 i = 0 then none else some (ad (100 + i))) else none) = _; rw [if_pos hi, if_pos ho]; rfl) d_TD_site_26 ?_
  refine z_ifnullN (tgt := 38) hx d_TD_site_27 (by decide) ?_
  refine z_aload_n hx 0 d_TD_site_38 rfl ?_
  refine z_get hx k_TD (t := 0) rfl 1 (by decide) a1_129 rfl d_TD_site_39 ?_
  refine z_getN hx k_Jo (t := 3) rfl 0 (by decide) a1_58 rfl d_TD_site_42 ?_
  refine z_if_ne (tgt := 58) hx d_TD_site_45 (by decide) (fun h => absurd hd0 h) (fun _ => ?_)
  refine z_aload_n hx 0 d_TD_site_48 rfl ?_
  refine z_get hx k_TD (t := 0) rfl 1 (by decide) a1_129 rfl d_TD_site_49 ?_
  refine z_cV hx (c_Jo_write_ok hw0) k_Jo rfl ⟨a2_40, a2_43, a1_3, ⟨by decide +kernel, by decide +kernel⟩, fun sig h => by cases h; rfl⟩ a2_41 a2_42 rfl rfl d_TD_site_52 (by rw [hrm]; exact ⟨Nat.le_of_ble_eq_true rfl, Nat.le_of_ble_eq_true rfl, Nat.le_of_ble_eq_true rfl, Nat.le_of_ble_eq_true rfl⟩) ?_
  show zV x ad (Lay K ad (stM S 3 2 (S.2.2 3 2 + 1))) _ _ _ 55 [.int 1]
  refine z_if_ne (tgt := 61) hx d_TD_site_55 (by decide) (fun _ => ?_) (fun h => absurd h (by decide))
  refine z_aload_n hx 0 d_TD_site_61 rfl ?_
  refine z_get hx k_TD (t := 0) rfl 3 (by decide) a1_131 rfl d_TD_site_62 ?_
  refine z_iload_n hx 1 d_TD_site_65 rfl ?_
  refine z_new hx k_Si a1_88 a2_61 a1_13 (t := 100 + i) (Lay_free (S := wOk S) hi ho (by unfold siT; omega)) fz_Si (by rw [hrm]; exact Nat.le_of_ble_eq_true rfl) (by rw [hrm]; exact Nat.le_of_ble_eq_true rfl) d_TD_site_66 (fun q => ?_)
  refine z_dup hx d_TD_site_69 rfl ?_
  have e100 : va_up ad (100 + i) q (100 + i) = q := va_up_self _ _ _
  have hz : zV x (va_up ad (100 + i) q) (z_up (Lay K ad (wOk S)) (100 + i) (.inr (5, [.null, .null, .null, .null, .null, .int 0]))) (0 + 1) (0 + 6) [(0, .ref (ad 0)), (1, .int (nI i))] 70 [.ref (va_up ad (100 + i) q (100 + i)), .ref (va_up ad (100 + i) q (100 + i)), .int (nI i), .ref (ad 9)] := by
    refine z_invI hx (c_Si_init (ad := va_up ad (100 + i) q) (W := Lay K ad (wOk S)) hi (fun v hv _ => Lay_free (S := wOk S) hi ho hv)) ⟨a2_62, a2_64, a1_13, ⟨by decide +kernel, by decide +kernel⟩, fun sig h => by cases h; rfl⟩ a2_63 rfl rfl rfl d_TD_site_70 (by rw [hrm]; exact ⟨Nat.le_of_ble_eq_true rfl, Nat.le_of_ble_eq_true rfl, Nat.le_of_ble_eq_true rfl, Nat.le_of_ble_eq_true rfl⟩) hq (Nat.le_of_ble_eq_true rfl) (Nat.le_of_ble_eq_true rfl) hNH (fun v ad' ce' h => ?_) (fun E ad' ce' h => by cases h.1)
    obtain ⟨h9, hg1, rfl⟩ := h
    cases h9
    have hag : ∀ t, ¬ siT i t → ad' t = ad t := fun t ht => (hg1 t (fun z => ht z.1)).trans (va_up_ne _ _ (by unfold siT at ht; omega))
    have g100 : ad' (100 + i) = va_up ad (100 + i) q (100 + i) := hg1 _ (fun z => z.2 rfl)
    have g9 : ad' 9 = ad 9 := hag 9 (by unfold siT; omega)
    have g0 : ad' 0 = ad 0 := hag 0 (by unfold siT; omega)
    show zV x ad' _ (0 + 1 + 21) (0 + 6 + 624) [(0, .ref (ad 0)), (1, .int (nI i))] 73 [.ref (va_up ad (100 + i) q (100 + i)), .int (nI i), .ref (ad 9)]
    rw [← g100, ← g9, ← g0]
    refine z_aast hx 3 k_Si rfl (t := 9) (u := 100 + i) ((WS_out (by omega) (by omega) (by omega) (by omega) (by omega)).trans rfl) WS_obj (vp_in_nI hi (by decide)) d_TD_site_73 (ce1 := Lay K ad' (st9 (wOk S) i)) (by rw [nI_clamp (by omega)]; exact Lay_site (S := wOk S) hi hag) ?_
    refine z_aload_n hx 0 d_TD_site_74 rfl ?_
    refine z_dup hx d_TD_site_75 rfl ?_
    refine z_get hx k_TD (t := 0) rfl 6 (by decide) a1_134 rfl d_TD_site_76 ?_
    refine z_top (b := S.2.2 0 6) (by rw [st9_n (by decide) (by unfold siT; omega)]; rfl) ?_
    refine z_iconst (v := 1) hx d_TD_site_79 rfl ?_
    refine z_iadd hx d_TD_site_80 ?_
    refine z_put hx k_TD (t := 0) rfl 6 (by decide) a1_134 rfl rfl rfl (Nat.le_of_ble_eq_true rfl) d_TD_site_81 (ce1 := Lay K ad' (stM (st9 (wOk S) i) 0 6 ((S.2.2 0 6) + 1))) (Lay_put (by decide) rfl) ?_
    refine z_aload_n hx 0 d_TD_site_84 rfl ?_
    refine z_get hx k_TD (t := 0) rfl 6 (by decide) a1_134 rfl d_TD_site_85 ?_
    refine z_top (b := (S.2.2 0 6) + 1) (rd_s) ?_
    exact z_iret hx hr rfl hq (Nat.le_refl _) (Nat.le_refl _) d_TD_site_88 ⟨rfl, hag, rfl⟩
  rw [e100] at hz
  exact hz
