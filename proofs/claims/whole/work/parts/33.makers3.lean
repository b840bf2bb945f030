def WT (K : Nat → ClassId) (ad : Nat → Nat) (W : zW) (k : Nat) : zW := fun v =>
  if v ≤ 11 then some (if v = 10 then .inl (K 4, 8, .inr (.inr (.inr (.inr (fun i => if i < k then some (ad (40 + i)) else none))))) else if v = 9 then .inl (K 3, 10, .inr (.inr (.inr (.inr (fun _ => none))))) else bodyA K ad (fun _ => 0) (fun _ => 0) v)
  else if 40 ≤ v ∧ v < 40 + k then some (.inr (6, [.int (nI (v - 40)), .ref (ad (v + 10)), .ref (ad (v + 30)), .ref (ad (v + 20)), .long 0, .int 0, .int 0, .int 0, .int 0]))
  else if 50 ≤ v ∧ v < 50 + k then some (.inl (K 0, 4, .inl (fun _ => 0)))
  else if 60 ≤ v ∧ v < 60 + k then some (.inl (K 0, 0, .inl (fun _ => 0)))
  else if 70 ≤ v ∧ v < 70 + k then some (.inr (2, [.ref (ad (v + 10)), .int 0, .int 0, .int 0]))
  else if 80 ≤ v ∧ v < 80 + k then some (.inl (K 0, 4, .inl (fun _ => 0)))
  else W v
theorem WT_out {K : Nat → ClassId} {ad : Nat → Nat} {W : zW} {k v : Nat} (h1 : 11 < v) (h2 : ¬ (40 ≤ v ∧ v < 40 + k)) (h3 : ¬ (50 ≤ v ∧ v < 50 + k)) (h4 : ¬ (60 ≤ v ∧ v < 60 + k)) (h5 : ¬ (70 ≤ v ∧ v < 70 + k)) (h6 : ¬ (80 ≤ v ∧ v < 80 + k)) : WT K ad W k v = W v := by
  unfold WT
  rw [if_neg (by omega), if_neg h2, if_neg h3, if_neg h4, if_neg h5, if_neg h6]
theorem bodyA_ad0 {K : Nat → ClassId} {ad ad2 : Nat → Nat} (h : ∀ j, j ≤ 11 → ad2 j = ad j) (g : Nat → Int64) (f : Nat → Int32) {t : Nat} (ht : t ≤ 11) (h9 : t ≠ 9) (h10 : t ≠ 10) : bodyA K ad2 g f t = bodyA K ad g f t := by
  have hh : t = 0 ∨ t = 1 ∨ t = 2 ∨ t = 3 ∨ t = 4 ∨ t = 5 ∨ t = 6 ∨ t = 7 ∨ t = 8 ∨ t = 11 := by omega
  rcases hh with rfl | rfl | rfl | rfl | rfl | rfl | rfl | rfl | rfl | rfl
  · simp only [bodyA, h 1 (by omega), h 3 (by omega), h 4 (by omega), h 9 (by omega), h 10 (by omega), h 11 (by omega)]
  · simp only [bodyA, h 2 (by omega)]
  · rfl
  · rfl
  · simp only [bodyA, h 5 (by omega), h 6 (by omega), h 7 (by omega), h 8 (by omega)]
  · rfl
  · rfl
  · rfl
  · rfl
  · rfl
/-- one more stratum -/
theorem WT_step {K : Nat → ClassId} {ad ad2 : Nat → Nat} {W : zW} {k : Nat} (hk : k < 8) (hag : ∀ t, t ≠ 40 + k → t ≠ 50 + k → t ≠ 60 + k → t ≠ 70 + k → t ≠ 80 + k → ad2 t = ad t) (hn : ad2 (40 + k) = ad2 (40 + k)) : ∀ v, WT K ad2 W (k + 1) v = z_up (z_up (z_up (z_up (z_up (z_up (WT K ad W k) (50 + k) (.inl (K 0, 4, .inl (fun _ => 0)))) (80 + k) (.inl (K 0, 4, .inl (fun _ => 0)))) (70 + k) (.inr (2, [.ref (ad2 (80 + k)), .int 0, .int 0, .int 0]))) (60 + k) (.inl (K 0, 0, .inl (fun _ => 0)))) (40 + k) (.inr (6, [.int (nI k), .ref (ad2 (50 + k)), .ref (ad2 (70 + k)), .ref (ad2 (60 + k)), .long 0, .int 0, .int 0, .int 0, .int 0]))) 10 (.inl (K 4, 8, .inr (.inr (.inr (.inr (va_up (fun i => if i < k then some (ad (40 + i)) else none) k (some (ad2 (40 + k)))))))) ) v := by
  intro v
  have hlow : ∀ j, j ≤ 11 → ad2 j = ad j := fun j hj => hag j (by omega) (by omega) (by omega) (by omega) (by omega)
  by_cases h10 : v = 10
  · subst h10
    rw [z_up_s]
    show some (Sum.inl (K 4, 8, Sum.inr (Sum.inr (Sum.inr (Sum.inr (fun i => if i < k + 1 then some (ad2 (40 + i)) else none)))))) = _
    have e : (fun i => if i < k + 1 then some (ad2 (40 + i)) else none) = va_up (fun i => if i < k then some (ad (40 + i)) else none) k (some (ad2 (40 + k))) := by
      funext i
      by_cases hi : i = k
      · subst hi
        rw [va_up_self, if_pos (by omega)]
      · rw [va_up_ne _ _ hi]
        by_cases h2 : i < k
        · rw [if_pos h2, if_pos (by omega), hag (40 + i) (by omega) (by omega) (by omega) (by omega) (by omega)]
        · rw [if_neg h2, if_neg (by omega)]
    rw [e]
  · rw [z_up_n h10]
    by_cases h40 : v = 40 + k
    · subst h40
      rw [z_up_s]
      unfold WT
      rw [if_neg (by omega), if_pos (by omega), show 40 + k - 40 = k by omega, show 40 + k + 10 = 50 + k by omega, show 40 + k + 20 = 60 + k by omega, show 40 + k + 30 = 70 + k by omega]
    · rw [z_up_n h40]
      by_cases h60 : v = 60 + k
      · subst h60
        rw [z_up_s]
        unfold WT
        rw [if_neg (by omega), if_neg (by omega), if_neg (by omega), if_pos (by omega)]
      · rw [z_up_n h60]
        by_cases h70 : v = 70 + k
        · subst h70
          rw [z_up_s]
          unfold WT
          rw [if_neg (by omega), if_neg (by omega), if_neg (by omega), if_neg (by omega), if_pos (by omega), show 70 + k + 10 = 80 + k by omega]
        rw [z_up_n h70]
        by_cases h80 : v = 80 + k
        · subst h80
          rw [z_up_s]
          unfold WT
          rw [if_neg (by omega), if_neg (by omega), if_neg (by omega), if_neg (by omega), if_neg (by omega), if_pos (by omega)]
        rw [z_up_n h80]
        by_cases h50 : v = 50 + k
        · subst h50
          rw [z_up_s]
          unfold WT
          rw [if_neg (by omega), if_neg (by omega), if_pos (by omega)]
        · rw [z_up_n h50]
          unfold WT
          by_cases c1 : v ≤ 11
          · rw [if_pos c1, if_pos c1, if_neg h10, if_neg h10]
            by_cases c9 : v = 9
            · rw [if_pos c9, if_pos c9]
            · rw [if_neg c9, if_neg c9, bodyA_ad0 hlow _ _ c1 c9 h10]
          rw [if_neg c1, if_neg c1]
          by_cases c2 : 40 ≤ v ∧ v < 40 + k
          · rw [if_pos c2, if_pos (by omega), hag (v + 10) (by omega) (by omega) (by omega) (by omega) (by omega), hag (v + 20) (by omega) (by omega) (by omega) (by omega) (by omega), hag (v + 30) (by omega) (by omega) (by omega) (by omega) (by omega)]
          rw [if_neg c2, if_neg (by omega)]
          by_cases c3 : 50 ≤ v ∧ v < 50 + k
          · rw [if_pos c3, if_pos (by omega)]
          rw [if_neg c3, if_neg (by omega)]
          by_cases c4 : 60 ≤ v ∧ v < 60 + k
          · rw [if_pos c4, if_pos (by omega)]
          rw [if_neg c4, if_neg (by omega)]
          by_cases c5 : 70 ≤ v ∧ v < 70 + k
          · rw [if_pos c5, if_pos (by omega), hag (v + 10) (by omega) (by omega) (by omega) (by omega) (by omega)]
          rw [if_neg c5, if_neg (by omega)]
          by_cases c6 : 80 ≤ v ∧ v < 80 + k
          · rw [if_pos c6, if_pos (by omega)]
          rw [if_neg c6, if_neg (by omega)]
theorem WT_0 {K : Nat → ClassId} {ad : Nat → Nat} {W : zW} {v : Nat} (h : 11 < v) : WT K ad W 0 v = W v := WT_out h (by omega) (by omega) (by omega) (by omega) (by omega)
set_option maxRecDepth 20000 in
theorem c_St_init {l : Launch} {D : va_G} {K : Nat → ClassId} {ad : Nat → Nat} {W : zW} {s : Nat} {w : Int32} (hs : s < 8) (h0 : W (50 + s) = none) (h1 : W (60 + s) = none) (h2 : W (70 + s) = none) (h3 : W (80 + s) = none) : zC l TB D zcls (ztyl K) y_St_init (.code y_St_init b_St_init 2 (none : Option FieldType)) { frames := 2, cells := 4, slots := 12, locals := 60 } [.ref (ad (40 + s)), .int w] ad (z_up W (40 + s) (.inr (6, [.int 0, .null, .null, .null, .long 0, .int 0, .int 0, .int 0, .int 0]))) (fun r ad' ce' => ∃ q0 p p2 q1, r = .inl none ∧ ad' = va_up (va_up (va_up (va_up ad (50 + s) q0) (70 + s) p) (80 + s) p2) (60 + s) q1 ∧ ce' = z_up (z_up (z_up (z_up (z_up (W) (50 + s) (.inl (K 0, 4, .inl (fun _ => 0)))) (80 + s) (.inl (K 0, 4, .inl (fun _ => 0)))) (70 + s) (.inr (2, [.ref p2, .int 0, .int 0, .int 0]))) (60 + s) (.inl (K 0, 0, .inl (fun _ => 0)))) (40 + s) (.inr (6, [.int w, .ref q0, .ref p, .ref q1, .long 0, .int 0, .int 0, .int 0, .int 0]))) := by
  refine zC.of (by decide +kernel) (Nat.le_of_ble_eq_true rfl) ?_
  intro x hx hr hml hnm hrm hq hNH
  show zV x ad _ 0 0 [(0, .ref (ad (40 + s))), (1, .int w)] 0 []
  refine z_aload_n hx 0 d_St_init_0 rfl ?_
  refine z_objInit hx a1_96 a1_25 a1_26 (by rw [hrm]; exact Nat.le_of_ble_eq_true rfl) (by rw [hrm]; exact Nat.le_of_ble_eq_true rfl) d_St_init_1 ?_
  refine z_aload_n hx 0 d_St_init_4 rfl ?_
  refine z_iconst (v := 4) hx d_St_init_5 rfl ?_
  refine z_fill hx k_St (t := 40 + s) (u := 50 + s) rfl (by omega) h0 1 (by decide) a1_100 rfl (hnm.trans rfl) rfl (fun q => rfl) (fun q => rfl) (Nat.le_of_ble_eq_true rfl) (aty := .int) rfl 0 rfl ⟨by decide +kernel, by intro C h; cases h⟩ a1_50 (M := 4) (4, .inl (fun _ => 0)) (fun _ => rfl) (by decide) (by decide) (by decide) (by rw [hrm]; exact Nat.le_of_ble_eq_true rfl) (by rw [hrm]; exact Nat.le_of_ble_eq_true rfl) d_St_init_6 d_St_init_8 (fun q0 => ?_)
  show zV x (va_up ad (50 + s) q0) (z_up (z_up (W) (50 + s) (.inl (K 0, 4, .inl (fun _ => 0)))) (40 + s) (.inr (6, [.int 0, .ref q0, .null, .null, .long 0, .int 0, .int 0, .int 0, .int 0]))) 1 4 [(0, .ref (ad (40 + s))), (1, .int w)] 11 []
  refine z_aload_n hx 0 d_St_init_11 rfl ?_
  refine z_new hx k_Pl a1_97 a1_28 a1_2 (t := 70 + s) (by rw [z_up_n (by omega), z_up_n (by omega)]; exact h2) fz_Pl (by rw [hrm]; exact Nat.le_of_ble_eq_true rfl) (by rw [hrm]; exact Nat.le_of_ble_eq_true rfl) d_St_init_12 (fun p => ?_)
  refine z_dup hx d_St_init_15 rfl ?_
  have ep : (va_up (va_up ad (50 + s) q0) (70 + s) p) (70 + s) = p := va_up_self _ _ _
  have hz : zV x (va_up (va_up ad (50 + s) q0) (70 + s) p) (z_up (z_up (z_up (W) (50 + s) (.inl (K 0, 4, .inl (fun _ => 0)))) (40 + s) (.inr (6, [.int 0, .ref q0, .null, .null, .long 0, .int 0, .int 0, .int 0, .int 0]))) (70 + s) (.inr (2, [.null, .int 0, .int 0, .int 0]))) 2 8 [(0, .ref (ad (40 + s))), (1, .int w)] 16 [.ref ((va_up (va_up ad (50 + s) q0) (70 + s) p) (70 + s)), .ref ((va_up (va_up ad (50 + s) q0) (70 + s) p) (70 + s)), .ref (ad (40 + s))] := by
    refine z_invIN hx (c_Pl_init (ad := va_up (va_up ad (50 + s) q0) (70 + s) p) (W := z_up (z_up (W) (50 + s) (.inl (K 0, 4, .inl (fun _ => 0)))) (40 + s) (.inr (6, [.int 0, .ref q0, .null, .null, .long 0, .int 0, .int 0, .int 0, .int 0]))) (t := 70 + s) (u := 80 + s) (by omega) (by rw [z_up_n (by omega), z_up_n (by omega)]; exact h3)) ⟨a1_98, a1_31, a1_2, ⟨by decide +kernel, by decide +kernel⟩, fun sig h => by cases h; rfl⟩ a1_30 rfl rfl rfl d_St_init_16 (by rw [hrm]; exact ⟨Nat.le_of_ble_eq_true rfl, Nat.le_of_ble_eq_true rfl, Nat.le_of_ble_eq_true rfl, Nat.le_of_ble_eq_true rfl⟩) hq (Nat.le_of_ble_eq_true rfl) (Nat.le_of_ble_eq_true rfl) hNH (fun v ad' ce' h => ?_) (fun E ad' ce' h => by obtain ⟨q0, h1, -⟩ := h; cases h1)
    obtain ⟨p2, h9, rfl, rfl⟩ := h
    cases h9
    show zV x (va_up (va_up (va_up ad (50 + s) q0) (70 + s) p) (80 + s) p2) (z_up (z_up (z_up (z_up (W) (50 + s) (.inl (K 0, 4, .inl (fun _ => 0)))) (40 + s) (.inr (6, [.int 0, .ref q0, .null, .null, .long 0, .int 0, .int 0, .int 0, .int 0]))) (80 + s) (.inl (K 0, 4, .inl (fun _ => 0)))) (70 + s) (.inr (2, [.ref p2, .int 0, .int 0, .int 0]))) 3 12 [(0, .ref (ad (40 + s))), (1, .int w)] 19 [.ref ((va_up (va_up ad (50 + s) q0) (70 + s) p) (70 + s)), .ref (ad (40 + s))]
    rw [ep]
    have e40 : (va_up (va_up (va_up ad (50 + s) q0) (70 + s) p) (80 + s) p2) (40 + s) = ad (40 + s) := by rw [va_up_ne _ _ (by omega), va_up_ne _ _ (by omega), va_up_ne _ _ (by omega)]
    rw [← e40]
    refine z_put hx k_St (t := 40 + s) (by rw [z_up_n (by omega), z_up_n (by omega), z_up_s]) 2 (by decide) a1_101 rfl rfl rfl (Nat.le_of_ble_eq_true rfl) d_St_init_19 (ce1 := z_up (z_up (z_up (z_up (W) (50 + s) (.inl (K 0, 4, .inl (fun _ => 0)))) (80 + s) (.inl (K 0, 4, .inl (fun _ => 0)))) (70 + s) (.inr (2, [.ref p2, .int 0, .int 0, .int 0]))) (40 + s) (.inr (6, [.int 0, .ref q0, .ref p, .null, .long 0, .int 0, .int 0, .int 0, .int 0]))) (fun v => ?_) ?_
    · by_cases h : v = 40 + s
      · rw [h, z_up_s, z_up_s]; rfl
      · rw [z_up_n h, z_up_n h]
        by_cases h7 : v = 70 + s
        · rw [h7, z_up_s, z_up_s]
        · rw [z_up_n h7, z_up_n h7]
          by_cases h8 : v = 80 + s
          · rw [h8, z_up_s, z_up_s]
          · rw [z_up_n h8, z_up_n h8, z_up_n h]
    refine z_aload_n hx 0 d_St_init_22 rfl ?_
    refine z_iconst (v := 0) hx d_St_init_23 rfl ?_
    refine z_fillN hx k_St (t := 40 + s) (u := 60 + s) rfl (by omega) (by rw [z_up_n (by omega), z_up_n (by omega), z_up_n (by omega)]; exact h1) 3 (by decide) a1_102 rfl (fun q => rfl) (fun q => rfl) (Nat.le_of_ble_eq_true rfl) (aty := .int) rfl 0 rfl ⟨by decide +kernel, by intro C h; cases h⟩ a1_50 (M := 0) (0, .inl (fun _ => 0)) (fun _ => rfl) (by decide) (by decide) (by decide) (by rw [hrm]; exact Nat.le_of_ble_eq_true rfl) (by rw [hrm]; exact Nat.le_of_ble_eq_true rfl) d_St_init_24 d_St_init_26 (fun q1 => ?_)
    show zV x (va_up (va_up (va_up (va_up ad (50 + s) q0) (70 + s) p) (80 + s) p2) (60 + s) q1) (z_up (z_up (z_up (z_up (z_up (W) (50 + s) (.inl (K 0, 4, .inl (fun _ => 0)))) (80 + s) (.inl (K 0, 4, .inl (fun _ => 0)))) (70 + s) (.inr (2, [.ref p2, .int 0, .int 0, .int 0]))) (60 + s) (.inl (K 0, 0, .inl (fun _ => 0)))) (40 + s) (.inr (6, [.int 0, .ref q0, .ref p, .ref q1, .long 0, .int 0, .int 0, .int 0, .int 0]))) 4 12 [(0, .ref ((va_up (va_up (va_up ad (50 + s) q0) (70 + s) p) (80 + s) p2) (40 + s))), (1, .int w)] 29 []
    have e41 : (va_up (va_up (va_up (va_up ad (50 + s) q0) (70 + s) p) (80 + s) p2) (60 + s) q1) (40 + s) = (va_up (va_up (va_up ad (50 + s) q0) (70 + s) p) (80 + s) p2) (40 + s) := va_up_ne _ _ (by omega)
    rw [← e41]
    refine z_aload_n hx 0 d_St_init_29 rfl ?_
    refine z_iload_n hx 1 d_St_init_30 rfl ?_
    refine z_putF hx k_St (t := 40 + s) z_up_s 0 (by decide) a1_99 rfl (hnm.trans rfl) rfl rfl rfl (Nat.le_of_ble_eq_true rfl) d_St_init_31 (ce1 := z_up (z_up (z_up (z_up (z_up (W) (50 + s) (.inl (K 0, 4, .inl (fun _ => 0)))) (80 + s) (.inl (K 0, 4, .inl (fun _ => 0)))) (70 + s) (.inr (2, [.ref p2, .int 0, .int 0, .int 0]))) (60 + s) (.inl (K 0, 0, .inl (fun _ => 0)))) (40 + s) (.inr (6, [.int w, .ref q0, .ref p, .ref q1, .long 0, .int 0, .int 0, .int 0, .int 0]))) (fun v => ?_) ?_
    · by_cases h : v = 40 + s
      · rw [h, z_up_s, z_up_s]; rfl
      · rw [z_up_n h, z_up_n h, z_up_n h]
    exact z_vret hx hr hq (Nat.le_refl _) (Nat.le_refl _) d_St_init_34 ⟨q0, p, p2, q1, rfl, rfl, rfl⟩
  rw [ep] at hz
  exact hz
set_option maxRecDepth 20000 in
theorem c_TD_init {l : Launch} {D : va_G} {K : Nat → ClassId} {ad : Nat → Nat} {W : zW} (hW : ∀ v, (1 ≤ v ∧ v ≤ 11) ∨ (40 ≤ v ∧ v < 88) → W v = none) : zC l TB D zcls (ztyl K) y_TD_init (.code y_TD_init b_TD_init 2 (none : Option FieldType)) { frames := 3, cells := 51, slots := 4225, locals := 90 } [.ref (ad 0)] ad (z_up W 0 (.inr (0, [.null, .null, .null, .null, .null, .null, .int 0, .int 0]))) (fun r ad' ce' => r = .inl none ∧ (∀ t, ¬ ((1 ≤ t ∧ t ≤ 11) ∨ (40 ≤ t ∧ t < 88)) → ad' t = ad t) ∧ ce' = WT K ad' W 8) := by
  refine zC.of (by decide +kernel) (Nat.le_of_ble_eq_true rfl) ?_
  intro x hx hr hml hnm hrm hq hNH
  have L : ∀ (m k : Nat) (ad9 : Nat → Nat), k + m = 8 → (∀ t, ¬ ((1 ≤ t ∧ t ≤ 11) ∨ (40 ≤ t ∧ t < 88)) → ad9 t = ad t) → zV x ad9 (WT K ad9 W k) (11 + 5 * k) (4057 + 21 * k) [(1, .int (nI k)), (0, .ref (ad9 0))] 65 [] := by
    intro m
    induction m with
    | zero =>
      intro k ad9 he hag
      obtain rfl : k = 8 := by omega
      refine z_iload_n hx 0 d_TD_init_65 rfl ?_
      refine z_aload_n hx 1 d_TD_init_66 rfl ?_
      refine z_get hx k_TD (t := 0) rfl 4 (by decide) a1_132 rfl d_TD_init_67 ?_
      refine z_alen hx 4 rfl (t := 10) rfl (v := 8) rfl d_TD_init_70 ?_
      refine z_icmp_ge (tgt := 94) hx d_TD_init_71 (by decide) (fun _ => ?_) (fun h => absurd (by decide) h)
      exact z_vret hx hr hq (Nat.le_refl _) (Nat.le_refl _) d_TD_init_94 ⟨rfl, hag, rfl⟩
    | succ m ih =>
      intro k ad9 he hag
      have hk : k < 8 := by omega
      refine z_iload_n hx 0 d_TD_init_65 rfl ?_
      refine z_aload_n hx 1 d_TD_init_66 rfl ?_
      refine z_get hx k_TD (t := 0) rfl 4 (by decide) a1_132 rfl d_TD_init_67 ?_
      refine z_alen hx 4 rfl (t := 10) rfl (v := 8) rfl d_TD_init_70 ?_
      refine z_icmp_ge (tgt := 94) hx d_TD_init_71 (by decide) (fun h => absurd h (nI_nleL 8 rfl hk (by decide))) (fun _ => ?_)
      refine z_aload_n hx 1 d_TD_init_74 rfl ?_
      refine z_get hx k_TD (t := 0) rfl 4 (by decide) a1_132 rfl d_TD_init_75 ?_
      refine z_iload_n hx 0 d_TD_init_78 rfl ?_
      refine z_new hx k_St a1_90 a1_92 a1_5 (t := 40 + k) ((WT_out (by omega) (by omega) (by omega) (by omega) (by omega) (by omega)).trans (hW _ (by omega))) fz_St (by rw [hrm]; show 11 + 5 * k + 1 ≤ 51; omega) (by rw [hrm]; show 4057 + 21 * k + 9 ≤ 4225; omega) d_TD_init_79 (fun q => ?_)
      refine z_dup hx d_TD_init_82 rfl ?_
      have e0 : va_up ad9 (40 + k) q 0 = ad9 0 := va_up_ne _ _ (by omega)
      have e10 : va_up ad9 (40 + k) q 10 = ad9 10 := va_up_ne _ _ (by omega)
      have e40 : va_up ad9 (40 + k) q (40 + k) = q := va_up_self _ _ _
      rw [← e0]
      refine z_iload_n hx 0 d_TD_init_83 rfl ?_
      have hz : zV x (va_up ad9 (40 + k) q) (z_up (WT K ad9 W k) (40 + k) (.inr (6, [.int 0, .null, .null, .null, .long 0, .int 0, .int 0, .int 0, .int 0]))) (11 + 5 * k + 1) (4057 + 21 * k + 9) [(1, .int (nI k)), (0, .ref (va_up ad9 (40 + k) q 0))] 84 [.int (nI k), .ref (va_up ad9 (40 + k) q (40 + k)), .ref (va_up ad9 (40 + k) q (40 + k)), .int (nI k), .ref (ad9 10)] := by
        refine z_invI hx (c_St_init (ad := va_up ad9 (40 + k) q) (W := WT K ad9 W k) (s := k) (w := nI k) hk ((WT_out (by omega) (by omega) (by omega) (by omega) (by omega) (by omega)).trans (hW _ (by omega))) ((WT_out (by omega) (by omega) (by omega) (by omega) (by omega) (by omega)).trans (hW _ (by omega))) ((WT_out (by omega) (by omega) (by omega) (by omega) (by omega) (by omega)).trans (hW _ (by omega))) ((WT_out (by omega) (by omega) (by omega) (by omega) (by omega) (by omega)).trans (hW _ (by omega)))) ⟨a1_93, a1_95, a1_5, ⟨by decide +kernel, by decide +kernel⟩, fun sig h => by cases h; rfl⟩ a1_94 rfl rfl rfl d_TD_init_84 (by rw [hrm]; exact ⟨Nat.le_of_ble_eq_true rfl, Nat.le_of_ble_eq_true rfl, (by show 11 + 5 * k + 1 + 4 ≤ 51; omega), (by show 4057 + 21 * k + 9 + 12 ≤ 4225; omega)⟩) hq (by show 11 + 5 * k + 1 + 4 ≤ 51; omega) (by show 4057 + 21 * k + 9 + 12 ≤ 4225; omega) hNH (fun v ad' ce' h => ?_) (fun E ad' ce' h => by obtain ⟨q0, p, p2, q1, h1, -⟩ := h; cases h1)
        obtain ⟨q0, p, p2, q1, h9, rfl, rfl⟩ := h
        cases h9
        generalize hA2 : va_up (va_up (va_up (va_up (va_up ad9 (40 + k) q) (50 + k) q0) (70 + k) p) (80 + k) p2) (60 + k) q1 = ad2
        have g0 : ∀ t, t ≠ 40 + k → t ≠ 50 + k → t ≠ 60 + k → t ≠ 70 + k → t ≠ 80 + k → ad2 t = ad9 t := fun t h1 h2 h3 h4 h5 => by rw [← hA2, va_up_ne _ _ h3, va_up_ne _ _ h5, va_up_ne _ _ h4, va_up_ne _ _ h2, va_up_ne _ _ h1]
        have g4 : ad2 (40 + k) = va_up ad9 (40 + k) q (40 + k) := by rw [← hA2, va_up_ne _ _ (by omega), va_up_ne _ _ (by omega), va_up_ne _ _ (by omega), va_up_ne _ _ (by omega)]
        have g5 : ad2 (50 + k) = q0 := by rw [← hA2, va_up_ne _ _ (by omega), va_up_ne _ _ (by omega), va_up_ne _ _ (by omega), va_up_self]
        have g6 : ad2 (60 + k) = q1 := by rw [← hA2, va_up_self]
        have g7 : ad2 (70 + k) = p := by rw [← hA2, va_up_ne _ _ (by omega), va_up_ne _ _ (by omega), va_up_self]
        have g8 : ad2 (80 + k) = p2 := by rw [← hA2, va_up_ne _ _ (by omega), va_up_self]
        have g00 : ad2 0 = va_up ad9 (40 + k) q 0 := by rw [e0]; exact g0 0 (by omega) (by omega) (by omega) (by omega) (by omega)
        have g10 : ad2 10 = ad9 10 := g0 10 (by omega) (by omega) (by omega) (by omega) (by omega)
        show zV x ad2 _ (11 + 5 * k + 1 + 4) (4057 + 21 * k + 9 + 12) [(1, .int (nI k)), (0, .ref (va_up ad9 (40 + k) q 0))] 87 [.ref (va_up ad9 (40 + k) q (40 + k)), .int (nI k), .ref (ad9 10)]
        rw [← g4, ← g10, ← g00, ← g5, ← g6, ← g7, ← g8]
        refine z_aast hx 4 k_St rfl (t := 10) (u := 40 + k) (by rw [z_up_n (by omega), z_up_n (by omega), z_up_n (by omega), z_up_n (by omega), z_up_n (by omega)]; rfl) z_up_s (vp_in_nI hk (by decide)) d_TD_init_87 (ce1 := WT K ad2 W (k + 1)) (by rw [nI_clamp (by omega)]; exact WT_step hk g0 rfl) ?_
        refine z_iinc (v := nI (k + 1)) hx 0 [(1, .int (nI (k + 1))), (0, .ref (ad2 0))] d_TD_init_88 rfl (nI_1 k) (zN hml (by decide)) rfl ?_
        refine z_goto (tgt := 65) hx d_TD_init_91 (by decide) ?_
        have q9 := ih (k + 1) ad2 (by omega) (fun t ht => (g0 t (by omega) (by omega) (by omega) (by omega) (by omega)).trans (hag t ht))
        rw [show 11 + 5 * (k + 1) = 11 + 5 * k + 1 + 4 by omega, show 4057 + 21 * (k + 1) = 4057 + 21 * k + 9 + 12 by omega] at q9
        exact q9
      rw [e40] at hz
      exact hz
  show zV x ad (z_up W 0 (.inr (0, [.null, .null, .null, .null, .null, .null, .int 0, .int 0]))) 0 0 [(0, .ref (ad 0))] 0 []
  have hWn : ∀ v, (1 ≤ v ∧ v ≤ 11) ∨ (40 ≤ v ∧ v < 88) → z_up W 0 (.inr (0, [.null, .null, .null, .null, .null, .null, .int 0, .int 0])) v = none := fun v hv => (z_up_n (by omega)).trans (hW v hv)
  refine z_aload_n hx 0 d_TD_init_0 rfl ?_
  refine z_objInit hx a1_24 a1_25 a1_26 (by rw [hrm]; exact Nat.le_of_ble_eq_true rfl) (by rw [hrm]; exact Nat.le_of_ble_eq_true rfl) d_TD_init_1 ?_
  refine z_aload_n hx 0 d_TD_init_4 rfl ?_
  refine z_new hx k_Pl a1_27 a1_28 a1_2 (t := 1) (hWn 1 (by omega)) fz_Pl (by rw [hrm]; exact Nat.le_of_ble_eq_true rfl) (by rw [hrm]; exact Nat.le_of_ble_eq_true rfl) d_TD_init_5 (fun p1 => ?_)
  refine z_dup hx d_TD_init_8 rfl ?_
  refine z_invIN hx (c_Pl_init (ad := va_up ad 1 p1) (t := 1) (u := 2) (by decide) (hWn 2 (by omega))) ⟨a1_29, a1_31, a1_2, ⟨by decide +kernel, by decide +kernel⟩, fun sig h => by cases h; rfl⟩ a1_30 rfl rfl rfl d_TD_init_9 (by rw [hrm]; exact ⟨Nat.le_of_ble_eq_true rfl, Nat.le_of_ble_eq_true rfl, Nat.le_of_ble_eq_true rfl, Nat.le_of_ble_eq_true rfl⟩) hq (Nat.le_of_ble_eq_true rfl) (Nat.le_of_ble_eq_true rfl) hNH (fun v ad' ce' h => ?_) (fun E ad' ce' h => by obtain ⟨q0, h1, -⟩ := h; cases h1)
  obtain ⟨p2, h9, rfl, rfl⟩ := h
  cases h9
  refine z_putF hx k_TD (t := 0) rfl 0 (by decide) a1_128 rfl (hnm.trans rfl) rfl rfl rfl (Nat.le_of_ble_eq_true rfl) d_TD_init_12 (fun v => rfl) ?_
  refine z_aload_n hx 0 d_TD_init_15 rfl ?_
  refine z_new hx k_Jo a1_51 a1_52 a1_3 (t := 3) (by rw [z_up_n (by omega), z_up_n (by omega), z_up_n (by omega)]; exact hWn 3 (by omega)) fz_Jo (by rw [hrm]; exact Nat.le_of_ble_eq_true rfl) (by rw [hrm]; exact Nat.le_of_ble_eq_true rfl) d_TD_init_16 (fun p3 => ?_)
  refine z_dup hx d_TD_init_19 rfl ?_
  refine z_invIN hx (c_Jo_init (ad := va_up (va_up (va_up ad 1 p1) 2 p2) 3 p3)) ⟨a1_53, a1_55, a1_3, ⟨by decide +kernel, by decide +kernel⟩, fun sig h => by cases h; rfl⟩ a1_54 rfl rfl rfl d_TD_init_20 (by rw [hrm]; exact ⟨Nat.le_of_ble_eq_true rfl, Nat.le_of_ble_eq_true rfl, Nat.le_of_ble_eq_true rfl, Nat.le_of_ble_eq_true rfl⟩) hq (Nat.le_of_ble_eq_true rfl) (Nat.le_of_ble_eq_true rfl) hNH (fun v ad' ce' h => ?_) (fun E ad' ce' h => by cases h.1)
  obtain ⟨h9, rfl, rfl⟩ := h
  cases h9
  refine z_putF hx k_TD (t := 0) rfl 1 (by decide) a1_129 rfl (hnm.trans rfl) rfl rfl rfl (Nat.le_of_ble_eq_true rfl) d_TD_init_23 (fun v => rfl) ?_
  refine z_aload_n hx 0 d_TD_init_26 rfl ?_
  refine z_new hx k_Sh a1_69 a1_70 a1_4 (t := 4) (by rw [z_up_n (by omega), z_up_n (by omega), z_up_n (by omega), z_up_n (by omega), z_up_n (by omega)]; exact hWn 4 (by omega)) fz_Sh (by rw [hrm]; exact Nat.le_of_ble_eq_true rfl) (by rw [hrm]; exact Nat.le_of_ble_eq_true rfl) d_TD_init_27 (fun p4 => ?_)
  refine z_dup hx d_TD_init_30 rfl ?_
  refine z_invIN hx (c_Sh_init (ad := va_up (va_up (va_up (va_up ad 1 p1) 2 p2) 3 p3) 4 p4) (by rw [z_up_n (by omega), z_up_n (by omega), z_up_n (by omega), z_up_n (by omega), z_up_n (by omega)]; exact hWn 5 (by omega)) (by rw [z_up_n (by omega), z_up_n (by omega), z_up_n (by omega), z_up_n (by omega), z_up_n (by omega)]; exact hWn 6 (by omega)) (by rw [z_up_n (by omega), z_up_n (by omega), z_up_n (by omega), z_up_n (by omega), z_up_n (by omega)]; exact hWn 7 (by omega)) (by rw [z_up_n (by omega), z_up_n (by omega), z_up_n (by omega), z_up_n (by omega), z_up_n (by omega)]; exact hWn 8 (by omega))) ⟨a1_71, a1_73, a1_4, ⟨by decide +kernel, by decide +kernel⟩, fun sig h => by cases h; rfl⟩ a1_72 rfl rfl rfl d_TD_init_31 (by rw [hrm]; exact ⟨Nat.le_of_ble_eq_true rfl, Nat.le_of_ble_eq_true rfl, Nat.le_of_ble_eq_true rfl, Nat.le_of_ble_eq_true rfl⟩) hq (Nat.le_of_ble_eq_true rfl) (Nat.le_of_ble_eq_true rfl) hNH (fun v ad' ce' h => ?_) (fun E ad' ce' h => by obtain ⟨q0, q1, q2, q3, h1, -⟩ := h; cases h1)
  obtain ⟨p5, p6, p7, p8, h9, rfl, rfl⟩ := h
  cases h9
  refine z_putF hx k_TD (t := 0) rfl 2 (by decide) a1_130 rfl (hnm.trans rfl) rfl rfl rfl (Nat.le_of_ble_eq_true rfl) d_TD_init_34 (fun v => rfl) ?_
  refine z_aload_n hx 0 d_TD_init_37 rfl ?_
  refine z_bipush (v := 10) hx d_TD_init_38 rfl ?_
  refine z_newq hx 3 rfl a1_88 a1_89 (t := 9) (by rw [z_up_n (by omega), z_up_n (by omega), z_up_n (by omega), z_up_n (by omega), z_up_n (by omega), z_up_n (by omega), z_up_n (by omega), z_up_n (by omega), z_up_n (by omega), z_up_n (by omega), z_up_n (by omega)]; exact hWn 9 (by omega)) (by decide) (N := 10) (by decide) (by decide) (by rw [hrm]; exact Nat.le_of_ble_eq_true rfl) (by rw [hrm]; exact Nat.le_of_ble_eq_true rfl) d_TD_init_40 (fun p9 => ?_)
  refine z_putF hx k_TD (t := 0) rfl 3 (by decide) a1_131 rfl (hnm.trans rfl) rfl rfl rfl (Nat.le_of_ble_eq_true rfl) d_TD_init_43 (fun v => rfl) ?_
  refine z_aload_n hx 0 d_TD_init_46 rfl ?_
  refine z_bipush (v := 8) hx d_TD_init_47 rfl ?_
  refine z_newq hx 4 rfl a1_90 a1_91 (t := 10) (by rw [z_up_n (by omega), z_up_n (by omega), z_up_n (by omega), z_up_n (by omega), z_up_n (by omega), z_up_n (by omega), z_up_n (by omega), z_up_n (by omega), z_up_n (by omega), z_up_n (by omega), z_up_n (by omega), z_up_n (by omega), z_up_n (by omega)]; exact hWn 10 (by omega)) (by decide) (N := 8) (by decide) (by decide) (by rw [hrm]; exact Nat.le_of_ble_eq_true rfl) (by rw [hrm]; exact Nat.le_of_ble_eq_true rfl) d_TD_init_49 (fun p10 => ?_)
  refine z_putF hx k_TD (t := 0) rfl 4 (by decide) a1_132 rfl (hnm.trans rfl) rfl rfl rfl (Nat.le_of_ble_eq_true rfl) d_TD_init_52 (fun v => rfl) ?_
  refine z_aload_n hx 0 d_TD_init_55 rfl ?_
  refine z_bipush (v := 24) hx d_TD_init_56 rfl ?_
  refine z_newa hx (ty := .int) rfl 0 rfl ⟨by decide +kernel, by intro C h; cases h⟩ a1_50 (t := 11) (by rw [z_up_n (by omega), z_up_n (by omega), z_up_n (by omega), z_up_n (by omega), z_up_n (by omega), z_up_n (by omega), z_up_n (by omega), z_up_n (by omega), z_up_n (by omega), z_up_n (by omega), z_up_n (by omega), z_up_n (by omega), z_up_n (by omega), z_up_n (by omega), z_up_n (by omega)]; exact hWn 11 (by omega)) (N := 24) (a0 := (24, .inl (fun _ => 0))) (fun _ => rfl) (by decide) (by decide) (by decide) (by rw [hrm]; exact Nat.le_of_ble_eq_true rfl) (by rw [hrm]; exact Nat.le_of_ble_eq_true rfl) d_TD_init_58 (fun p11 => ?_)
  refine z_putF hx k_TD (t := 0) rfl 5 (by decide) a1_133 rfl (hnm.trans rfl) rfl rfl rfl (Nat.le_of_ble_eq_true rfl) d_TD_init_60 (fun v => rfl) ?_
  have hag0 : ∀ t, ¬ (1 ≤ t ∧ t ≤ 11) → (va_up (va_up (va_up (va_up (va_up (va_up (va_up (va_up (va_up (va_up (va_up ad 1 p1) 2 p2) 3 p3) 4 p4) 5 p5) 6 p6) 7 p7) 8 p8) 9 p9) 10 p10) 11 p11) t = ad t := by
    intro t ht
    rw [va_up_ne _ _ (by omega), va_up_ne _ _ (by omega), va_up_ne _ _ (by omega), va_up_ne _ _ (by omega), va_up_ne _ _ (by omega), va_up_ne _ _ (by omega), va_up_ne _ _ (by omega), va_up_ne _ _ (by omega), va_up_ne _ _ (by omega), va_up_ne _ _ (by omega), va_up_ne _ _ (by omega)]
  refine z_pic (ce' := WT K (va_up (va_up (va_up (va_up (va_up (va_up (va_up (va_up (va_up (va_up (va_up ad 1 p1) 2 p2) 3 p3) 4 p4) 5 p5) 6 p6) 7 p7) 8 p8) 9 p9) 10 p10) 11 p11) W 0) (fun v => ?_) ?_
  · by_cases hv : v ≤ 11
    · have hh : v = 0 ∨ v = 1 ∨ v = 2 ∨ v = 3 ∨ v = 4 ∨ v = 5 ∨ v = 6 ∨ v = 7 ∨ v = 8 ∨ v = 9 ∨ v = 10 ∨ v = 11 := by omega
      rcases hh with rfl | rfl | rfl | rfl | rfl | rfl | rfl | rfl | rfl | rfl | rfl | rfl <;> rfl
    · rw [WT_0 (by omega), z_up_n (by omega), z_up_n (by omega), z_up_n (by omega), z_up_n (by omega), z_up_n (by omega), z_up_n (by omega), z_up_n (by omega), z_up_n (by omega), z_up_n (by omega), z_up_n (by omega), z_up_n (by omega), z_up_n (by omega), z_up_n (by omega), z_up_n (by omega), z_up_n (by omega), z_up_n (by omega), z_up_n (by omega), z_up_n (by omega)]
  have e0 : (va_up (va_up (va_up (va_up (va_up (va_up (va_up (va_up (va_up (va_up (va_up ad 1 p1) 2 p2) 3 p3) 4 p4) 5 p5) 6 p6) 7 p7) 8 p8) 9 p9) 10 p10) 11 p11) 0 = ad 0 := rfl
  rw [← e0]
  generalize va_up (va_up (va_up (va_up (va_up (va_up (va_up (va_up (va_up (va_up (va_up ad 1 p1) 2 p2) 3 p3) 4 p4) 5 p5) 6 p6) 7 p7) 8 p8) 9 p9) 10 p10) 11 p11 = ad9 at hag0 ⊢
  refine z_iconst (v := 0) hx d_TD_init_63 rfl ?_
  refine z_istore_n hx [(1, .int 0), (0, .ref (ad9 0))] d_TD_init_64 rfl (zN hml (by decide)) rfl ?_
  exact L 8 0 ad9 (by omega) (fun t ht => hag0 t (by omega))
