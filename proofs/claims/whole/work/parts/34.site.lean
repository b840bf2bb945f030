/-- the tags of a site -/
abbrev siT (i v : Nat) : Prop := v = 100 + i ∨ v = 110 + i ∨ v = 120 + i ∨ v = 130 + i ∨ v = 140 + i ∨ v = 150 + i ∨ (200 + 8 * i ≤ v ∧ v < 208 + 8 * i) ∨ (300 + 8 * i ≤ v ∧ v < 308 + 8 * i)
def WS (K : Nat → ClassId) (ad : Nat → Nat) (W : zW) (i k : Nat) : zW := fun v =>
  if v = 100 + i then some (.inr (5, [.ref (ad (110 + i)), .ref (ad (120 + i)), .ref (ad (130 + i)), .ref (ad (140 + i)), .ref (ad (150 + i)), .int 0]))
  else if v = 110 + i ∨ v = 120 + i ∨ v = 130 + i ∨ v = 140 + i then some (.inl (K 0, 100, .inl (fun _ => 0)))
  else if v = 150 + i then some (.inl (K 5, 8, .inr (.inr (.inr (.inr (fun q => if q < k then some (ad (200 + 8 * i + q)) else none))))))
  else if 200 + 8 * i ≤ v ∧ v < 200 + 8 * i + k then some (.inr (3, [.ref (ad (v + 100)), .int 0, .int 0]))
  else if 300 + 8 * i ≤ v ∧ v < 300 + 8 * i + k then some (.inl (K 0, 24, .inl (fun _ => 0)))
  else W v
theorem WS_out {K : Nat → ClassId} {ad : Nat → Nat} {W : zW} {i k v : Nat} (h0 : v ≠ 100 + i) (h1 : ¬ (v = 110 + i ∨ v = 120 + i ∨ v = 130 + i ∨ v = 140 + i)) (h2 : v ≠ 150 + i) (h3 : ¬ (200 + 8 * i ≤ v ∧ v < 200 + 8 * i + k)) (h4 : ¬ (300 + 8 * i ≤ v ∧ v < 300 + 8 * i + k)) : WS K ad W i k v = W v := by
  unfold WS
  rw [if_neg h0, if_neg h1, if_neg h2, if_neg h3, if_neg h4]
theorem WS_obj {K : Nat → ClassId} {ad : Nat → Nat} {W : zW} {i k : Nat} : WS K ad W i k (100 + i) = some (.inr (5, [.ref (ad (110 + i)), .ref (ad (120 + i)), .ref (ad (130 + i)), .ref (ad (140 + i)), .ref (ad (150 + i)), .int 0])) := if_pos rfl
theorem WS_res {K : Nat → ClassId} {ad : Nat → Nat} {W : zW} {i k : Nat} : WS K ad W i k (150 + i) = some (.inl (K 5, 8, .inr (.inr (.inr (.inr (fun q => if q < k then some (ad (200 + 8 * i + q)) else none)))))) := by
  unfold WS
  rw [if_neg (by omega), if_neg (by omega), if_pos rfl]
theorem WS_step {K : Nat → ClassId} {ad ad2 : Nat → Nat} {W : zW} {i k : Nat} (hi : i < 10) (hk : k < 8) (hag : ∀ t, t ≠ 200 + 8 * i + k → t ≠ 300 + 8 * i + k → ad2 t = ad t) : ∀ v, WS K ad2 W i (k + 1) v = z_up (z_up (z_up (WS K ad W i k) (300 + 8 * i + k) (.inl (K 0, 24, .inl (fun _ => 0)))) (200 + 8 * i + k) (.inr (3, [.ref (ad2 (300 + 8 * i + k)), .int 0, .int 0]))) (150 + i) (.inl (K 5, 8, .inr (.inr (.inr (.inr (va_up (fun q => if q < k then some (ad (200 + 8 * i + q)) else none) k (some (ad2 (200 + 8 * i + k))))))))) v := by
  intro v
  by_cases h150 : v = 150 + i
  · subst h150
    rw [z_up_s, WS_res]
    have e : (fun q => if q < k + 1 then some (ad2 (200 + 8 * i + q)) else none) = va_up (fun q => if q < k then some (ad (200 + 8 * i + q)) else none) k (some (ad2 (200 + 8 * i + k))) := by
      funext q
      by_cases hq : q = k
      · subst hq
        rw [va_up_self, if_pos (by omega)]
      · rw [va_up_ne _ _ hq]
        by_cases h2 : q < k
        · rw [if_pos h2, if_pos (by omega), hag _ (by omega) (by omega)]
        · rw [if_neg h2, if_neg (by omega)]
    rw [e]
  · rw [z_up_n h150]
    by_cases h200 : v = 200 + 8 * i + k
    · subst h200
      rw [z_up_s]
      unfold WS
      rw [if_neg (by omega), if_neg (by omega), if_neg (by omega), if_pos (by omega), show 200 + 8 * i + k + 100 = 300 + 8 * i + k by omega]
    · rw [z_up_n h200]
      by_cases h300 : v = 300 + 8 * i + k
      · subst h300
        rw [z_up_s]
        unfold WS
        rw [if_neg (by omega), if_neg (by omega), if_neg (by omega), if_neg (by omega), if_pos (by omega)]
      · rw [z_up_n h300]
        unfold WS
        by_cases c0 : v = 100 + i
        · rw [if_pos c0, if_pos c0, hag (110 + i) (by omega) (by omega), hag (120 + i) (by omega) (by omega), hag (130 + i) (by omega) (by omega), hag (140 + i) (by omega) (by omega), hag (150 + i) (by omega) (by omega)]
        rw [if_neg c0, if_neg c0]
        by_cases c1 : v = 110 + i ∨ v = 120 + i ∨ v = 130 + i ∨ v = 140 + i
        · rw [if_pos c1, if_pos c1]
        rw [if_neg c1, if_neg c1, if_neg h150, if_neg h150]
        by_cases c2 : 200 + 8 * i ≤ v ∧ v < 200 + 8 * i + k
        · rw [if_pos c2, if_pos (by omega), hag (v + 100) (by omega) (by omega)]
        rw [if_neg c2, if_neg (by omega)]
        by_cases c3 : 300 + 8 * i ≤ v ∧ v < 300 + 8 * i + k
        · rw [if_pos c3, if_pos (by omega)]
        rw [if_neg c3, if_neg (by omega)]
set_option maxRecDepth 20000 in
theorem c_Si_init {l : Launch} {D : va_G} {K : Nat → ClassId} {ad : Nat → Nat} {W : zW} {i : Nat} (hi : i < 10) (hW : ∀ v, siT i v → v ≠ 100 + i → W v = none) : zC l TB D zcls (ztyl K) y_Si_init (.code y_Si_init b_Si_init 2 (none : Option FieldType)) { frames := 2, cells := 21, slots := 624, locals := 70 } [.ref (ad (100 + i))] ad (z_up W (100 + i) (.inr (5, [.null, .null, .null, .null, .null, .int 0]))) (fun r ad' ce' => r = .inl none ∧ (∀ t, ¬ (siT i t ∧ t ≠ 100 + i) → ad' t = ad t) ∧ ce' = WS K ad' W i 8) := by
  refine zC.of (by decide +kernel) (Nat.le_of_ble_eq_true rfl) ?_
  intro x hx hr hml hnm hrm hq hNH
  have h0 := hW (110 + i) (by unfold siT; omega) (by omega)
  have h1 := hW (120 + i) (by unfold siT; omega) (by omega)
  have h2 := hW (130 + i) (by unfold siT; omega) (by omega)
  have h3 := hW (140 + i) (by unfold siT; omega) (by omega)
  have L : ∀ (m k : Nat) (ad9 : Nat → Nat), k + m = 8 → (∀ t, ¬ (siT i t ∧ t ≠ 100 + i) → ad9 t = ad t) → zV x ad9 (WS K ad9 W i k) (5 + 2 * k) (408 + 27 * k) [(1, .int (nI k)), (0, .ref (ad9 (100 + i)))] 47 [] := by
    intro m
    induction m with
    | zero =>
      intro k ad9 he hag
      obtain rfl : k = 8 := by omega
      refine z_iload_n hx 0 d_Si_init_47 rfl ?_
      refine z_aload_n hx 1 d_Si_init_48 rfl ?_
      refine z_get hx k_Si (t := 100 + i) WS_obj 4 (by decide) a2_91 rfl d_Si_init_49 ?_
      refine z_alen hx 5 rfl (t := 150 + i) WS_res (v := 8) rfl d_Si_init_52 ?_
      refine z_icmp_ge (tgt := 75) hx d_Si_init_53 (by decide) (fun _ => ?_) (fun h => absurd (by decide) h)
      exact z_vret hx hr hq (Nat.le_refl _) (Nat.le_refl _) d_Si_init_75 ⟨rfl, hag, rfl⟩
    | succ m ih =>
      intro k ad9 he hag
      have hk : k < 8 := by omega
      refine z_iload_n hx 0 d_Si_init_47 rfl ?_
      refine z_aload_n hx 1 d_Si_init_48 rfl ?_
      refine z_get hx k_Si (t := 100 + i) WS_obj 4 (by decide) a2_91 rfl d_Si_init_49 ?_
      refine z_alen hx 5 rfl (t := 150 + i) WS_res (v := 8) rfl d_Si_init_52 ?_
      refine z_icmp_ge (tgt := 75) hx d_Si_init_53 (by decide) (fun h => absurd h (nI_nleL 8 rfl hk (by decide))) (fun _ => ?_)
      refine z_aload_n hx 1 d_Si_init_56 rfl ?_
      refine z_get hx k_Si (t := 100 + i) WS_obj 4 (by decide) a2_91 rfl d_Si_init_57 ?_
      refine z_iload_n hx 0 d_Si_init_60 rfl ?_
      refine z_new hx k_Re a2_66 a2_68 a1_14 (t := (200 + 8 * i + k)) ((WS_out (by omega) (by omega) (by omega) (by omega) (by omega)).trans (hW _ (by unfold siT; omega) (by omega))) fz_Re (by rw [hrm]; show 5 + 2 * k + 1 ≤ 21; omega) (by rw [hrm]; show 408 + 27 * k + 3 ≤ 624; omega) d_Si_init_61 (fun q => ?_)
      refine z_dup hx d_Si_init_64 rfl ?_
      have e0 : va_up ad9 (200 + 8 * i + k) q (100 + i) = ad9 (100 + i) := va_up_ne _ _ (by omega)
      have e20 : va_up ad9 (200 + 8 * i + k) q (200 + 8 * i + k) = q := va_up_self _ _ _
      have hz : zV x (va_up ad9 (200 + 8 * i + k) q) (z_up (WS K ad9 W i k) (200 + 8 * i + k) (.inr (3, [.null, .int 0, .int 0]))) (5 + 2 * k + 1) (408 + 27 * k + 3) [(1, .int (nI k)), (0, .ref (ad9 (100 + i)))] 65 [.ref (va_up ad9 (200 + 8 * i + k) q (200 + 8 * i + k)), .ref (va_up ad9 (200 + 8 * i + k) q (200 + 8 * i + k)), .int (nI k), .ref (ad9 (150 + i))] := by
        refine z_invIN hx (c_Re_init (ad := va_up ad9 (200 + 8 * i + k) q) (W := WS K ad9 W i k) (t := (200 + 8 * i + k)) (u := (300 + 8 * i + k)) (by omega) ((WS_out (by omega) (by omega) (by omega) (by omega) (by omega)).trans (hW _ (by unfold siT; omega) (by omega)))) ⟨a2_69, a2_71, a1_14, ⟨by decide +kernel, by decide +kernel⟩, fun sig h => by cases h; rfl⟩ a2_70 rfl rfl rfl d_Si_init_65 (by rw [hrm]; exact ⟨Nat.le_of_ble_eq_true rfl, Nat.le_of_ble_eq_true rfl, (by show 5 + 2 * k + 1 + 1 ≤ 21; omega), (by show 408 + 27 * k + 3 + 24 ≤ 624; omega)⟩) hq (by show 5 + 2 * k + 1 + 1 ≤ 21; omega) (by show 408 + 27 * k + 3 + 24 ≤ 624; omega) hNH (fun v ad' ce' h => ?_) (fun E ad' ce' h => by obtain ⟨q0, h1, -⟩ := h; cases h1)
        obtain ⟨q0, h9, rfl, rfl⟩ := h
        cases h9
        generalize hA2 : va_up (va_up ad9 (200 + 8 * i + k) q) (300 + 8 * i + k) q0 = ad2
        have g0 : ∀ t, t ≠ (200 + 8 * i + k) → t ≠ (300 + 8 * i + k) → ad2 t = ad9 t := fun t h1 h2 => by rw [← hA2, va_up_ne _ _ h2, va_up_ne _ _ h1]
        have g4 : ad2 (200 + 8 * i + k) = va_up ad9 (200 + 8 * i + k) q (200 + 8 * i + k) := by rw [← hA2, va_up_ne _ _ (by omega)]
        have g5 : ad2 (300 + 8 * i + k) = q0 := by rw [← hA2, va_up_self]
        have g00 : ad2 (100 + i) = ad9 (100 + i) := g0 _ (by omega) (by omega)
        have g15 : ad2 (150 + i) = ad9 (150 + i) := g0 _ (by omega) (by omega)
        show zV x ad2 _ (5 + 2 * k + 1 + 1) (408 + 27 * k + 3 + 24) [(1, .int (nI k)), (0, .ref (ad9 (100 + i)))] 68 [.ref (va_up ad9 (200 + 8 * i + k) q (200 + 8 * i + k)), .int (nI k), .ref (ad9 (150 + i))]
        rw [← g4, ← g15, ← g00, ← g5]
        refine z_aast hx 5 k_Re rfl (t := 150 + i) (u := (200 + 8 * i + k)) (by rw [z_up_n (by omega), z_up_n (by omega)]; exact WS_res) z_up_s (vp_in_nI hk (by decide)) d_Si_init_68 (ce1 := WS K ad2 W i (k + 1)) (by rw [nI_clamp (by omega)]; exact WS_step hi hk g0) ?_
        refine z_iinc (v := nI (k + 1)) hx 0 [(1, .int (nI (k + 1))), (0, .ref (ad2 (100 + i)))] d_Si_init_69 rfl (nI_1 k) (zN hml (by decide)) rfl ?_
        refine z_goto (tgt := 47) hx d_Si_init_72 (by decide) ?_
        have q9 := ih (k + 1) ad2 (by omega) (fun t ht => (g0 t (by unfold siT at ht; omega) (by unfold siT at ht; omega)).trans (hag t ht))
        rw [show 5 + 2 * (k + 1) = 5 + 2 * k + 1 + 1 by omega, show 408 + 27 * (k + 1) = 408 + 27 * k + 3 + 24 by omega] at q9
        exact q9
      rw [e20] at hz
      exact hz
  show zV x ad _ 0 0 [(0, .ref (ad (100 + i)))] 0 []
  refine z_aload_n hx 0 d_Si_init_0 rfl ?_
  refine z_objInit hx a2_65 a1_25 a1_26 (by rw [hrm]; exact Nat.le_of_ble_eq_true rfl) (by rw [hrm]; exact Nat.le_of_ble_eq_true rfl) d_Si_init_1 ?_
  refine z_aload_n hx 0 d_Si_init_4 rfl ?_
  refine z_bipush (v := 100) hx d_Si_init_5 rfl ?_
  refine z_fill hx k_Si (t := 100 + i) (u := 110 + i) rfl (by omega) h0 0 (by decide) a2_87 rfl (hnm.trans rfl) rfl (fun q => rfl) (fun q => rfl) (Nat.le_of_ble_eq_true rfl) (aty := .int) rfl 0 rfl ⟨by decide +kernel, by intro C h; cases h⟩ a1_50 (M := 100) (100, .inl (fun _ => 0)) (fun _ => rfl) (by decide) (by decide) (by decide) (by rw [hrm]; exact Nat.le_of_ble_eq_true rfl) (by rw [hrm]; exact Nat.le_of_ble_eq_true rfl) d_Si_init_7 d_Si_init_9 (fun q0 => ?_)
  show zV x (va_up ad (110 + i) q0) (z_up (z_up (W) (110 + i) (.inl (K 0, 100, .inl (fun _ => 0)))) (100 + i) (.inr (5, [.ref q0, .null, .null, .null, .null, .int 0]))) 1 100 [(0, .ref (ad (100 + i)))] 12 []
  refine z_aload_n hx 0 d_Si_init_12 rfl ?_
  refine z_bipush (v := 100) hx d_Si_init_13 rfl ?_
  refine z_fill hx k_Si (t := 100 + i) (u := 120 + i) ((va_up_ne _ _ (show 100 + i ≠ 110 + i by omega)).trans rfl) (by omega) ((z_up_n (show 120 + i ≠ 110 + i by omega)).trans h1) 1 (by decide) a2_88 rfl (hnm.trans rfl) rfl (fun q => rfl) (fun q => rfl) (Nat.le_of_ble_eq_true rfl) (aty := .int) rfl 0 rfl ⟨by decide +kernel, by intro C h; cases h⟩ a1_50 (M := 100) (100, .inl (fun _ => 0)) (fun _ => rfl) (by decide) (by decide) (by decide) (by rw [hrm]; exact Nat.le_of_ble_eq_true rfl) (by rw [hrm]; exact Nat.le_of_ble_eq_true rfl) d_Si_init_15 d_Si_init_17 (fun q1 => ?_)
  show zV x (va_up (va_up ad (110 + i) q0) (120 + i) q1) (z_up (z_up (z_up (W) (110 + i) (.inl (K 0, 100, .inl (fun _ => 0)))) (120 + i) (.inl (K 0, 100, .inl (fun _ => 0)))) (100 + i) (.inr (5, [.ref q0, .ref q1, .null, .null, .null, .int 0]))) 2 200 [(0, .ref (ad (100 + i)))] 20 []
  refine z_aload_n hx 0 d_Si_init_20 rfl ?_
  refine z_bipush (v := 100) hx d_Si_init_21 rfl ?_
  refine z_fill hx k_Si (t := 100 + i) (u := 130 + i) ((va_up_ne _ _ (show 100 + i ≠ 120 + i by omega)).trans ((va_up_ne _ _ (show 100 + i ≠ 110 + i by omega)).trans rfl)) (by omega) ((z_up_n (show 130 + i ≠ 120 + i by omega)).trans ((z_up_n (show 130 + i ≠ 110 + i by omega)).trans h2)) 2 (by decide) a2_89 rfl (hnm.trans rfl) rfl (fun q => rfl) (fun q => rfl) (Nat.le_of_ble_eq_true rfl) (aty := .int) rfl 0 rfl ⟨by decide +kernel, by intro C h; cases h⟩ a1_50 (M := 100) (100, .inl (fun _ => 0)) (fun _ => rfl) (by decide) (by decide) (by decide) (by rw [hrm]; exact Nat.le_of_ble_eq_true rfl) (by rw [hrm]; exact Nat.le_of_ble_eq_true rfl) d_Si_init_23 d_Si_init_25 (fun q2 => ?_)
  show zV x (va_up (va_up (va_up ad (110 + i) q0) (120 + i) q1) (130 + i) q2) (z_up (z_up (z_up (z_up (W) (110 + i) (.inl (K 0, 100, .inl (fun _ => 0)))) (120 + i) (.inl (K 0, 100, .inl (fun _ => 0)))) (130 + i) (.inl (K 0, 100, .inl (fun _ => 0)))) (100 + i) (.inr (5, [.ref q0, .ref q1, .ref q2, .null, .null, .int 0]))) 3 300 [(0, .ref (ad (100 + i)))] 28 []
  refine z_aload_n hx 0 d_Si_init_28 rfl ?_
  refine z_bipush (v := 100) hx d_Si_init_29 rfl ?_
  refine z_fill hx k_Si (t := 100 + i) (u := 140 + i) ((va_up_ne _ _ (show 100 + i ≠ 130 + i by omega)).trans ((va_up_ne _ _ (show 100 + i ≠ 120 + i by omega)).trans ((va_up_ne _ _ (show 100 + i ≠ 110 + i by omega)).trans rfl))) (by omega) ((z_up_n (show 140 + i ≠ 130 + i by omega)).trans ((z_up_n (show 140 + i ≠ 120 + i by omega)).trans ((z_up_n (show 140 + i ≠ 110 + i by omega)).trans h3))) 3 (by decide) a2_90 rfl (hnm.trans rfl) rfl (fun q => rfl) (fun q => rfl) (Nat.le_of_ble_eq_true rfl) (aty := .int) rfl 0 rfl ⟨by decide +kernel, by intro C h; cases h⟩ a1_50 (M := 100) (100, .inl (fun _ => 0)) (fun _ => rfl) (by decide) (by decide) (by decide) (by rw [hrm]; exact Nat.le_of_ble_eq_true rfl) (by rw [hrm]; exact Nat.le_of_ble_eq_true rfl) d_Si_init_31 d_Si_init_33 (fun q3 => ?_)
  show zV x (va_up (va_up (va_up (va_up ad (110 + i) q0) (120 + i) q1) (130 + i) q2) (140 + i) q3) (z_up (z_up (z_up (z_up (z_up (W) (110 + i) (.inl (K 0, 100, .inl (fun _ => 0)))) (120 + i) (.inl (K 0, 100, .inl (fun _ => 0)))) (130 + i) (.inl (K 0, 100, .inl (fun _ => 0)))) (140 + i) (.inl (K 0, 100, .inl (fun _ => 0)))) (100 + i) (.inr (5, [.ref q0, .ref q1, .ref q2, .ref q3, .null, .int 0]))) 4 400 [(0, .ref (ad (100 + i)))] 36 []
  refine z_aload_n hx 0 d_Si_init_36 rfl ?_
  refine z_bipush (v := 8) hx d_Si_init_37 rfl ?_
  refine z_newq hx 5 rfl a2_66 a2_67 (t := 150 + i) (by rw [z_up_n (by omega), z_up_n (by omega), z_up_n (by omega), z_up_n (by omega), z_up_n (by omega)]; exact hW (150 + i) (by unfold siT; omega) (by omega)) (by decide) (N := 8) (by decide) (by decide) (by rw [hrm]; exact Nat.le_of_ble_eq_true rfl) (by rw [hrm]; exact Nat.le_of_ble_eq_true rfl) d_Si_init_39 (fun p150 => ?_)
  generalize hAD : va_up (va_up (va_up (va_up (va_up ad (110 + i) q0) (120 + i) q1) (130 + i) q2) (140 + i) q3) (150 + i) p150 = ad9
  have g5 : ad9 (150 + i) = p150 := by rw [← hAD, va_up_self]
  have g4 : ad9 (140 + i) = q3 := by rw [← hAD, va_up_ne _ _ (by omega), va_up_self]
  have g3 : ad9 (130 + i) = q2 := by rw [← hAD, va_up_ne _ _ (by omega), va_up_ne _ _ (by omega), va_up_self]
  have g2 : ad9 (120 + i) = q1 := by rw [← hAD, va_up_ne _ _ (by omega), va_up_ne _ _ (by omega), va_up_ne _ _ (by omega), va_up_self]
  have g1 : ad9 (110 + i) = q0 := by rw [← hAD, va_up_ne _ _ (by omega), va_up_ne _ _ (by omega), va_up_ne _ _ (by omega), va_up_ne _ _ (by omega), va_up_self]
  have hag0 : ∀ t, ¬ (siT i t ∧ t ≠ 100 + i) → ad9 t = ad t := by
    intro t ht
    unfold siT at ht
    rw [← hAD, va_up_ne _ _ (by omega), va_up_ne _ _ (by omega), va_up_ne _ _ (by omega), va_up_ne _ _ (by omega), va_up_ne _ _ (by omega)]
  have g0 : ad9 (100 + i) = ad (100 + i) := hag0 _ (by omega)
  rw [← g0]
  refine z_putF hx k_Si (t := 100 + i) (by rw [z_up_n (by omega), z_up_s]) 4 (by decide) a2_91 rfl (hnm.trans rfl) rfl rfl rfl (Nat.le_of_ble_eq_true rfl) d_Si_init_42 (ce1 := WS K ad9 W i 0) (fun v => ?_) ?_
  · by_cases c0 : v = 100 + i
    · rw [c0, z_up_s, WS_obj, g1, g2, g3, g4, g5]; rfl
    · rw [z_up_n c0]
      by_cases c5 : v = 150 + i
      · rw [c5, z_up_s, WS_res]
        have e : (fun q => if q < 0 then some (ad9 (200 + 8 * i + q)) else none) = (fun _ => none) := by funext q; exact if_neg (by omega)
        rw [e]
      · rw [z_up_n c5, z_up_n c0]
        by_cases c4 : v = 140 + i
        · rw [c4, z_up_s]; unfold WS; rw [if_neg (by omega), if_pos (by omega)]
        · rw [z_up_n c4]
          by_cases c3 : v = 130 + i
          · rw [c3, z_up_s]; unfold WS; rw [if_neg (by omega), if_pos (by omega)]
          · rw [z_up_n c3]
            by_cases c2 : v = 120 + i
            · rw [c2, z_up_s]; unfold WS; rw [if_neg (by omega), if_pos (by omega)]
            · rw [z_up_n c2]
              by_cases c1 : v = 110 + i
              · rw [c1, z_up_s]; unfold WS; rw [if_neg (by omega), if_pos (by omega)]
              · rw [z_up_n c1]; exact WS_out c0 (by omega) c5 (by omega) (by omega)
  refine z_iconst (v := 0) hx d_Si_init_45 rfl ?_
  refine z_istore_n hx [(1, .int 0), (0, .ref (ad9 (100 + i)))] d_Si_init_46 rfl (zN hml (by decide)) rfl ?_
  exact L 8 0 ad9 (by omega) hag0
