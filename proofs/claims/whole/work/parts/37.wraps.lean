def zLo (ad ad2 : Nat → Nat) : Prop := ∀ t, t < 40 → ad2 t = ad t
set_option maxRecDepth 20000 in
theorem wo_arms {l : Launch} {D : va_G} {K : Nat → ClassId} {ad : Nat → Nat} {S : zSt} {v0 : Int32} {v1 : Int32} {v2 : Int32} {v3 : Int32} {v4 : Int32} {v5 : Int64} {S1 : zSt} {f w : Nat} (hM : zC l TB D zcls (ztyl K) y_TD_arms (.code y_TD_arms b_TD_arms 9 (none : Option FieldType)) (rmk f w) [.ref (ad 0), .int v0, .int v1, .int v2, .int v3, .int v4, .long v5] ad (Lay K ad S) (zP K ad none S1)) (hf : f ≤ 8) (hw : w ≤ 160) : zCW l D zcls (ztyl K) y_La_arms (.codeWith y_La_arms b_La_arms 9 (some .int) [(0, 13, 16, 13), (0, 13, 20, 15)]) { frames := 9, cells := 0, slots := 0, locals := 200 } [.ref (ad 0), .int v0, .int v1, .int v2, .int v3, .int v4, .long v5] ad (Lay K ad S) (zP K ad (some (.int 0)) S1) := by
  refine zCW.of (by decide +kernel) (Nat.le_of_ble_eq_true rfl) ?_
  intro x hx hr hml hrm hq htb hNc
  show zV x ad (Lay K ad S) 0 0 [(0, .ref (ad 0)), (1, .int v0), (2, .int v1), (3, .int v2), (4, .int v3), (5, .int v4), (6, .long v5)] 0 []
  refine z_aload_n hx 0 d_La_arms_0 rfl ?_
  refine z_iload_n hx 1 d_La_arms_1 rfl ?_
  refine z_iload_n hx 2 d_La_arms_2 rfl ?_
  refine z_iload_n hx 3 d_La_arms_3 rfl ?_
  refine z_iload hx 4 d_La_arms_4 rfl ?_
  refine z_iload hx 5 d_La_arms_6 rfl ?_
  refine z_lload hx 6 d_La_arms_8 rfl ?_
  refine z_cV hx hM k_TD (t := 0) rfl ⟨a1_166, a1_169, a1_1, ⟨by decide +kernel, by decide +kernel⟩, fun sig h => by cases h; rfl⟩ a1_167 a1_168 rfl rfl d_La_arms_10 (by rw [hrm]; exact ⟨by show f + 1 ≤ 9; omega, by show 0 + (9 + 11) + w ≤ 200; omega, Nat.le_refl _, Nat.le_refl _⟩) ?_
  refine z_goto (tgt := 24) hx d_La_arms_13 (by decide) ?_
  refine z_iconst (v := 0) hx d_La_arms_24 rfl ?_
  exact z_iret hx hr rfl hq (Nat.le_refl _) (Nat.le_refl _) d_La_arms_25 ⟨rfl, rfl, rfl⟩
set_option maxRecDepth 20000 in
theorem wt_arms_1 {l : Launch} {D : va_G} {K : Nat → ClassId} {ad : Nat → Nat} {S : zSt} {v0 : Int32} {v1 : Int32} {v2 : Int32} {v3 : Int32} {v4 : Int32} {v5 : Int64} {f w : Nat} (hM : zC l TB D zcls (ztyl K) y_TD_arms (.code y_TD_arms b_TD_arms 9 (none : Option FieldType)) (rmx f w) [.ref (ad 0), .int v0, .int v1, .int v2, .int v3, .int v4, .long v5] ad (Lay K ad S) (zX0 K ad "java/lang/IllegalArgumentException" S)) (hf : f ≤ 8) (hw : w ≤ 160) : zCW l D zcls (ztyl K) y_La_arms (.codeWith y_La_arms b_La_arms 9 (some .int) [(0, 13, 16, 13), (0, 13, 20, 15)]) { frames := 9, cells := 1, slots := 6, locals := 200 } [.ref (ad 0), .int v0, .int v1, .int v2, .int v3, .int v4, .long v5] ad (Lay K ad S) (zP K ad (some (.int 1)) S) := by
  refine zCW.of (by decide +kernel) (Nat.le_of_ble_eq_true rfl) ?_
  intro x hx hr hml hrm hq htb hNc
  show zV x ad (Lay K ad S) 0 0 [(0, .ref (ad 0)), (1, .int v0), (2, .int v1), (3, .int v2), (4, .int v3), (5, .int v4), (6, .long v5)] 0 []
  refine z_aload_n hx 0 d_La_arms_0 rfl ?_
  refine z_iload_n hx 1 d_La_arms_1 rfl ?_
  refine z_iload_n hx 2 d_La_arms_2 rfl ?_
  refine z_iload_n hx 3 d_La_arms_3 rfl ?_
  refine z_iload hx 4 d_La_arms_4 rfl ?_
  refine z_iload hx 5 d_La_arms_6 rfl ?_
  refine z_lload hx 6 d_La_arms_8 rfl ?_
  refine z_catV hx hM k_TD (t := 0) rfl ⟨a1_166, a1_169, a1_1, ⟨by decide +kernel, by decide +kernel⟩, fun sig h => by cases h; rfl⟩ a1_167 a1_168 rfl rfl d_La_arms_10 (by rw [hrm]; exact ⟨by show f + 1 ≤ 9; omega, by show 0 + (9 + 11) + w ≤ 200; omega, by show 0 + 1 ≤ 1; omega, by show 0 + 6 ≤ 6; omega⟩) htb [] [(0, 13, 20, 15)] rfl (fun z hz => nomatch hz) (by decide) (by decide) (by decide) a1_164 a1_181 (fun q => ?_)
  refine z_astore hx [(8, .ref q), (0, .ref (ad 0)), (1, .int v0), (2, .int v1), (3, .int v2), (4, .int v3), (5, .int v4), (6, .long v5)] d_La_arms_16 (zN hml (by decide)) rfl ?_
  refine z_iconst (v := 1) hx d_La_arms_18 rfl ?_
  exact z_iret hx hr rfl hq (Nat.le_refl _) (Nat.le_refl _) d_La_arms_19 ⟨rfl, rfl, rfl⟩
set_option maxRecDepth 20000 in
theorem wt_arms_2 {l : Launch} {D : va_G} {K : Nat → ClassId} {ad : Nat → Nat} {S : zSt} {v0 : Int32} {v1 : Int32} {v2 : Int32} {v3 : Int32} {v4 : Int32} {v5 : Int64} {f w : Nat} (hM : zC l TB D zcls (ztyl K) y_TD_arms (.code y_TD_arms b_TD_arms 9 (none : Option FieldType)) (rmx f w) [.ref (ad 0), .int v0, .int v1, .int v2, .int v3, .int v4, .long v5] ad (Lay K ad S) (zX0 K ad "java/lang/IllegalStateException" S)) (hf : f ≤ 8) (hw : w ≤ 160) : zCW l D zcls (ztyl K) y_La_arms (.codeWith y_La_arms b_La_arms 9 (some .int) [(0, 13, 16, 13), (0, 13, 20, 15)]) { frames := 9, cells := 1, slots := 6, locals := 200 } [.ref (ad 0), .int v0, .int v1, .int v2, .int v3, .int v4, .long v5] ad (Lay K ad S) (zP K ad (some (.int 2)) S) := by
  refine zCW.of (by decide +kernel) (Nat.le_of_ble_eq_true rfl) ?_
  intro x hx hr hml hrm hq htb hNc
  show zV x ad (Lay K ad S) 0 0 [(0, .ref (ad 0)), (1, .int v0), (2, .int v1), (3, .int v2), (4, .int v3), (5, .int v4), (6, .long v5)] 0 []
  refine z_aload_n hx 0 d_La_arms_0 rfl ?_
  refine z_iload_n hx 1 d_La_arms_1 rfl ?_
  refine z_iload_n hx 2 d_La_arms_2 rfl ?_
  refine z_iload_n hx 3 d_La_arms_3 rfl ?_
  refine z_iload hx 4 d_La_arms_4 rfl ?_
  refine z_iload hx 5 d_La_arms_6 rfl ?_
  refine z_lload hx 6 d_La_arms_8 rfl ?_
  refine z_catV hx hM k_TD (t := 0) rfl ⟨a1_166, a1_169, a1_1, ⟨by decide +kernel, by decide +kernel⟩, fun sig h => by cases h; rfl⟩ a1_167 a1_168 rfl rfl d_La_arms_10 (by rw [hrm]; exact ⟨by show f + 1 ≤ 9; omega, by show 0 + (9 + 11) + w ≤ 200; omega, by show 0 + 1 ≤ 1; omega, by show 0 + 6 ≤ 6; omega⟩) htb [(0, 13, 16, 13)] [] rfl (fun z hz => by rcases List.mem_singleton.mp hz with rfl; exact ⟨by decide, _, a1_164, hNc.1⟩) (by decide) (by decide) (by decide) a1_165 a2_27 (fun q => ?_)
  refine z_astore hx [(8, .ref q), (0, .ref (ad 0)), (1, .int v0), (2, .int v1), (3, .int v2), (4, .int v3), (5, .int v4), (6, .long v5)] d_La_arms_20 (zN hml (by decide)) rfl ?_
  refine z_iconst (v := 2) hx d_La_arms_22 rfl ?_
  exact z_iret hx hr rfl hq (Nat.le_refl _) (Nat.le_refl _) d_La_arms_23 ⟨rfl, rfl, rfl⟩
set_option maxRecDepth 20000 in
theorem wo_site {l : Launch} {D : va_G} {K : Nat → ClassId} {ad : Nat → Nat} {S : zSt} {v0 : Int32} {rm : Room} {post' : zQ} {PP : Int32 → (Nat → Nat) → zSt → Prop} (hM : zC l TB D zcls (ztyl K) y_TD_site (.code y_TD_site b_TD_site 2 (some FieldType.int)) rm [.ref (ad 0), .int v0] ad (Lay K ad S) (post')) (hf : rm.frames ≤ 8) (hw : rm.locals ≤ 160) (hp : ∀ r ad' ce', post' r ad' ce' → ∃ z S1, r = .inl (some (.int z)) ∧ zLo ad ad' ∧ ce' = Lay K ad' S1 ∧ PP z ad' S1) : zCW l D zcls (ztyl K) y_La_site (.codeWith y_La_site b_La_site 4 (some .int) [(0, 9, 12, 21), (0, 9, 15, 13)]) { frames := 9, cells := rm.cells, slots := rm.slots, locals := 200 } [.ref (ad 0), .int v0, .ref (ad 12)] ad (Lay K ad S) (fun r ad' ce' => r = .inl (some (.int 0)) ∧ ∃ z S1, PP z ad' S1 ∧ zLo ad ad' ∧ ce' = Lay K ad' (stL S1 12 0 z.toInt64)) := by
  refine zCW.of (by decide +kernel) (Nat.le_of_ble_eq_true rfl) ?_
  intro x hx hr hml hrm hq htb hNc
  show zV x ad (Lay K ad S) 0 0 [(0, .ref (ad 0)), (1, .int v0), (2, .ref (ad 12))] 0 []
  refine z_aload_n hx 2 d_La_site_0 rfl ?_
  refine z_iconst (v := 0) hx d_La_site_1 rfl ?_
  refine z_aload_n hx 0 d_La_site_2 rfl ?_
  refine z_iload_n hx 1 d_La_site_3 rfl ?_
  refine z_retV hx k_TD (t := 0) rfl hM ⟨a2_57, a2_60, a1_1, ⟨by decide +kernel, by decide +kernel⟩, fun sig h => by cases h; rfl⟩ a2_58 a2_59 rfl rfl d_La_site_4 (by rw [hrm]; exact ⟨by show rm.frames + 1 ≤ 9; omega, by show 2 + (2 + 11) + rm.locals ≤ 200; omega, by show 0 + rm.cells ≤ rm.cells; omega, by show 0 + rm.slots ≤ rm.slots; omega⟩) (fun E ad' ce' h => by obtain ⟨z, S1, h1, -⟩ := hp _ _ _ h; cases h1) (fun v ad' ce' h => ?_)
  obtain ⟨z, S1, h1, hlo, rfl, hP⟩ := hp _ _ _ h
  cases h1
  have g12 : ad' 12 = ad 12 := hlo 12 (by omega)
  show zV x ad' (Lay K ad' S1) (0 + rm.cells) (0 + rm.slots) [(0, .ref (ad 0)), (1, .int v0), (2, .ref (ad 12))] 7 [.int z, .int 0, .ref (ad 12)]
  rw [← g12]
  refine z_i2l hx d_La_site_7 ?_
  refine z_lastK hx 1 rfl (t := 12) rfl (k := 0) (by decide) (by decide) d_La_site_8 (ce1 := Lay K ad' (stL S1 12 0 z.toInt64)) (Lay_putL rfl) ?_
  refine z_goto (tgt := 18) hx d_La_site_9 (by decide) ?_
  refine z_iconst (v := 0) hx d_La_site_18 rfl ?_
  exact z_iret hx hr rfl hq (by rw [Nat.zero_add]; exact Nat.le_refl _) (by rw [Nat.zero_add]; exact Nat.le_refl _) d_La_site_19 ⟨rfl, z, S1, hP, hlo, rfl⟩
set_option maxRecDepth 20000 in
theorem wt_site_1 {l : Launch} {D : va_G} {K : Nat → ClassId} {ad : Nat → Nat} {S : zSt} {v0 : Int32} {f w : Nat} (hM : zC l TB D zcls (ztyl K) y_TD_site (.code y_TD_site b_TD_site 2 (some FieldType.int)) (rmx f w) [.ref (ad 0), .int v0] ad (Lay K ad S) (zX0 K ad "java/lang/IndexOutOfBoundsException" S)) (hf : f ≤ 8) (hw : w ≤ 160) : zCW l D zcls (ztyl K) y_La_site (.codeWith y_La_site b_La_site 4 (some .int) [(0, 9, 12, 21), (0, 9, 15, 13)]) { frames := 9, cells := 1, slots := 6, locals := 200 } [.ref (ad 0), .int v0, .ref (ad 12)] ad (Lay K ad S) (zP K ad (some (.int 1)) S) := by
  refine zCW.of (by decide +kernel) (Nat.le_of_ble_eq_true rfl) ?_
  intro x hx hr hml hrm hq htb hNc
  show zV x ad (Lay K ad S) 0 0 [(0, .ref (ad 0)), (1, .int v0), (2, .ref (ad 12))] 0 []
  refine z_aload_n hx 2 d_La_site_0 rfl ?_
  refine z_iconst (v := 0) hx d_La_site_1 rfl ?_
  refine z_aload_n hx 0 d_La_site_2 rfl ?_
  refine z_iload_n hx 1 d_La_site_3 rfl ?_
  refine z_catV hx hM k_TD (t := 0) rfl ⟨a2_57, a2_60, a1_1, ⟨by decide +kernel, by decide +kernel⟩, fun sig h => by cases h; rfl⟩ a2_58 a2_59 rfl rfl d_La_site_4 (by rw [hrm]; exact ⟨by show f + 1 ≤ 9; omega, by show 2 + (2 + 11) + w ≤ 200; omega, by show 0 + 1 ≤ 1; omega, by show 0 + 6 ≤ 6; omega⟩) htb [] [(0, 9, 15, 13)] rfl (fun z hz => nomatch hz) (by decide) (by decide) (by decide) a2_56 a2_12 (fun q => ?_)
  refine z_astore_n hx [(3, .ref q), (0, .ref (ad 0)), (1, .int v0), (2, .ref (ad 12))] d_La_site_12 rfl (zN hml (by decide)) rfl ?_
  refine z_iconst (v := 1) hx d_La_site_13 rfl ?_
  exact z_iret hx hr rfl hq (Nat.le_refl _) (Nat.le_refl _) d_La_site_14 ⟨rfl, rfl, rfl⟩
set_option maxRecDepth 20000 in
theorem wt_site_2 {l : Launch} {D : va_G} {K : Nat → ClassId} {ad : Nat → Nat} {S : zSt} {v0 : Int32} {f w : Nat} (hM : zC l TB D zcls (ztyl K) y_TD_site (.code y_TD_site b_TD_site 2 (some FieldType.int)) (rmx f w) [.ref (ad 0), .int v0] ad (Lay K ad S) (zX0 K ad "java/lang/IllegalArgumentException" S)) (hf : f ≤ 8) (hw : w ≤ 160) : zCW l D zcls (ztyl K) y_La_site (.codeWith y_La_site b_La_site 4 (some .int) [(0, 9, 12, 21), (0, 9, 15, 13)]) { frames := 9, cells := 1, slots := 6, locals := 200 } [.ref (ad 0), .int v0, .ref (ad 12)] ad (Lay K ad S) (zP K ad (some (.int 2)) S) := by
  refine zCW.of (by decide +kernel) (Nat.le_of_ble_eq_true rfl) ?_
  intro x hx hr hml hrm hq htb hNc
  show zV x ad (Lay K ad S) 0 0 [(0, .ref (ad 0)), (1, .int v0), (2, .ref (ad 12))] 0 []
  refine z_aload_n hx 2 d_La_site_0 rfl ?_
  refine z_iconst (v := 0) hx d_La_site_1 rfl ?_
  refine z_aload_n hx 0 d_La_site_2 rfl ?_
  refine z_iload_n hx 1 d_La_site_3 rfl ?_
  refine z_catV hx hM k_TD (t := 0) rfl ⟨a2_57, a2_60, a1_1, ⟨by decide +kernel, by decide +kernel⟩, fun sig h => by cases h; rfl⟩ a2_58 a2_59 rfl rfl d_La_site_4 (by rw [hrm]; exact ⟨by show f + 1 ≤ 9; omega, by show 2 + (2 + 11) + w ≤ 200; omega, by show 0 + 1 ≤ 1; omega, by show 0 + 6 ≤ 6; omega⟩) htb [(0, 9, 12, 21)] [] rfl (fun z hz => by rcases List.mem_singleton.mp hz with rfl; exact ⟨by decide, _, a2_56, hNc.2.1⟩) (by decide) (by decide) (by decide) a1_164 a1_181 (fun q => ?_)
  refine z_astore_n hx [(3, .ref q), (0, .ref (ad 0)), (1, .int v0), (2, .ref (ad 12))] d_La_site_15 rfl (zN hml (by decide)) rfl ?_
  refine z_iconst (v := 2) hx d_La_site_16 rfl ?_
  exact z_iret hx hr rfl hq (Nat.le_refl _) (Nat.le_refl _) d_La_site_17 ⟨rfl, rfl, rfl⟩
set_option maxRecDepth 20000 in
theorem wo_kits {l : Launch} {D : va_G} {K : Nat → ClassId} {ad : Nat → Nat} {S : zSt} {v0 : Int32} {v1 : Int32} {v2 : Int32} {v3 : Int32} {rm : Room} {post' : zQ} {PP : Int32 → (Nat → Nat) → zSt → Prop} (hM : zC l TB D zcls (ztyl K) y_TD_kits (.code y_TD_kits b_TD_kits 6 (some FieldType.int)) rm [.ref (ad 0), .int v0, .int v1, .int v2, .int v3] ad (Lay K ad S) (post')) (hf : rm.frames ≤ 8) (hw : rm.locals ≤ 160) (hp : ∀ r ad' ce', post' r ad' ce' → ∃ z S1, r = .inl (some (.int z)) ∧ zLo ad ad' ∧ ce' = Lay K ad' S1 ∧ PP z ad' S1) : zCW l D zcls (ztyl K) y_La_kits (.codeWith y_La_kits b_La_kits 7 (some .int) [(0, 14, 17, 21), (0, 14, 21, 15), (0, 14, 25, 13)]) { frames := 9, cells := rm.cells, slots := rm.slots, locals := 200 } [.ref (ad 0), .int v0, .int v1, .int v2, .int v3, .ref (ad 12)] ad (Lay K ad S) (fun r ad' ce' => r = .inl (some (.int 0)) ∧ ∃ z S1, PP z ad' S1 ∧ zLo ad ad' ∧ ce' = Lay K ad' (stL S1 12 0 z.toInt64)) := by
  refine zCW.of (by decide +kernel) (Nat.le_of_ble_eq_true rfl) ?_
  intro x hx hr hml hrm hq htb hNc
  show zV x ad (Lay K ad S) 0 0 [(0, .ref (ad 0)), (1, .int v0), (2, .int v1), (3, .int v2), (4, .int v3), (5, .ref (ad 12))] 0 []
  refine z_aload hx 5 d_La_kits_0 rfl ?_
  refine z_iconst (v := 0) hx d_La_kits_2 rfl ?_
  refine z_aload_n hx 0 d_La_kits_3 rfl ?_
  refine z_iload_n hx 1 d_La_kits_4 rfl ?_
  refine z_iload_n hx 2 d_La_kits_5 rfl ?_
  refine z_iload_n hx 3 d_La_kits_6 rfl ?_
  refine z_iload hx 4 d_La_kits_7 rfl ?_
  refine z_retV hx k_TD (t := 0) rfl hM ⟨a2_109, a2_112, a1_1, ⟨by decide +kernel, by decide +kernel⟩, fun sig h => by cases h; rfl⟩ a2_110 a2_111 rfl rfl d_La_kits_9 (by rw [hrm]; exact ⟨by show rm.frames + 1 ≤ 9; omega, by show 2 + (6 + 11) + rm.locals ≤ 200; omega, by show 0 + rm.cells ≤ rm.cells; omega, by show 0 + rm.slots ≤ rm.slots; omega⟩) (fun E ad' ce' h => by obtain ⟨z, S1, h1, -⟩ := hp _ _ _ h; cases h1) (fun v ad' ce' h => ?_)
  obtain ⟨z, S1, h1, hlo, rfl, hP⟩ := hp _ _ _ h
  cases h1
  have g12 : ad' 12 = ad 12 := hlo 12 (by omega)
  show zV x ad' (Lay K ad' S1) (0 + rm.cells) (0 + rm.slots) [(0, .ref (ad 0)), (1, .int v0), (2, .int v1), (3, .int v2), (4, .int v3), (5, .ref (ad 12))] 12 [.int z, .int 0, .ref (ad 12)]
  rw [← g12]
  refine z_i2l hx d_La_kits_12 ?_
  refine z_lastK hx 1 rfl (t := 12) rfl (k := 0) (by decide) (by decide) d_La_kits_13 (ce1 := Lay K ad' (stL S1 12 0 z.toInt64)) (Lay_putL rfl) ?_
  refine z_goto (tgt := 29) hx d_La_kits_14 (by decide) ?_
  refine z_iconst (v := 0) hx d_La_kits_29 rfl ?_
  exact z_iret hx hr rfl hq (by rw [Nat.zero_add]; exact Nat.le_refl _) (by rw [Nat.zero_add]; exact Nat.le_refl _) d_La_kits_30 ⟨rfl, z, S1, hP, hlo, rfl⟩
set_option maxRecDepth 20000 in
theorem wt_kits_1 {l : Launch} {D : va_G} {K : Nat → ClassId} {ad : Nat → Nat} {S : zSt} {v0 : Int32} {v1 : Int32} {v2 : Int32} {v3 : Int32} {f w : Nat} (hM : zC l TB D zcls (ztyl K) y_TD_kits (.code y_TD_kits b_TD_kits 6 (some FieldType.int)) (rmx f w) [.ref (ad 0), .int v0, .int v1, .int v2, .int v3] ad (Lay K ad S) (zX0 K ad "java/lang/IndexOutOfBoundsException" S)) (hf : f ≤ 8) (hw : w ≤ 160) : zCW l D zcls (ztyl K) y_La_kits (.codeWith y_La_kits b_La_kits 7 (some .int) [(0, 14, 17, 21), (0, 14, 21, 15), (0, 14, 25, 13)]) { frames := 9, cells := 1, slots := 6, locals := 200 } [.ref (ad 0), .int v0, .int v1, .int v2, .int v3, .ref (ad 12)] ad (Lay K ad S) (zP K ad (some (.int 1)) S) := by
  refine zCW.of (by decide +kernel) (Nat.le_of_ble_eq_true rfl) ?_
  intro x hx hr hml hrm hq htb hNc
  show zV x ad (Lay K ad S) 0 0 [(0, .ref (ad 0)), (1, .int v0), (2, .int v1), (3, .int v2), (4, .int v3), (5, .ref (ad 12))] 0 []
  refine z_aload hx 5 d_La_kits_0 rfl ?_
  refine z_iconst (v := 0) hx d_La_kits_2 rfl ?_
  refine z_aload_n hx 0 d_La_kits_3 rfl ?_
  refine z_iload_n hx 1 d_La_kits_4 rfl ?_
  refine z_iload_n hx 2 d_La_kits_5 rfl ?_
  refine z_iload_n hx 3 d_La_kits_6 rfl ?_
  refine z_iload hx 4 d_La_kits_7 rfl ?_
  refine z_catV hx hM k_TD (t := 0) rfl ⟨a2_109, a2_112, a1_1, ⟨by decide +kernel, by decide +kernel⟩, fun sig h => by cases h; rfl⟩ a2_110 a2_111 rfl rfl d_La_kits_9 (by rw [hrm]; exact ⟨by show f + 1 ≤ 9; omega, by show 2 + (6 + 11) + w ≤ 200; omega, by show 0 + 1 ≤ 1; omega, by show 0 + 6 ≤ 6; omega⟩) htb [] [(0, 14, 21, 15), (0, 14, 25, 13)] rfl (fun z hz => nomatch hz) (by decide) (by decide) (by decide) a2_56 a2_12 (fun q => ?_)
  refine z_astore hx [(6, .ref q), (0, .ref (ad 0)), (1, .int v0), (2, .int v1), (3, .int v2), (4, .int v3), (5, .ref (ad 12))] d_La_kits_17 (zN hml (by decide)) rfl ?_
  refine z_iconst (v := 1) hx d_La_kits_19 rfl ?_
  exact z_iret hx hr rfl hq (Nat.le_refl _) (Nat.le_refl _) d_La_kits_20 ⟨rfl, rfl, rfl⟩
set_option maxRecDepth 20000 in
theorem wt_kits_2 {l : Launch} {D : va_G} {K : Nat → ClassId} {ad : Nat → Nat} {S : zSt} {v0 : Int32} {v1 : Int32} {v2 : Int32} {v3 : Int32} {f w : Nat} (hM : zC l TB D zcls (ztyl K) y_TD_kits (.code y_TD_kits b_TD_kits 6 (some FieldType.int)) (rmx f w) [.ref (ad 0), .int v0, .int v1, .int v2, .int v3] ad (Lay K ad S) (zX0 K ad "java/lang/IllegalStateException" S)) (hf : f ≤ 8) (hw : w ≤ 160) : zCW l D zcls (ztyl K) y_La_kits (.codeWith y_La_kits b_La_kits 7 (some .int) [(0, 14, 17, 21), (0, 14, 21, 15), (0, 14, 25, 13)]) { frames := 9, cells := 1, slots := 6, locals := 200 } [.ref (ad 0), .int v0, .int v1, .int v2, .int v3, .ref (ad 12)] ad (Lay K ad S) (zP K ad (some (.int 2)) S) := by
  refine zCW.of (by decide +kernel) (Nat.le_of_ble_eq_true rfl) ?_
  intro x hx hr hml hrm hq htb hNc
  show zV x ad (Lay K ad S) 0 0 [(0, .ref (ad 0)), (1, .int v0), (2, .int v1), (3, .int v2), (4, .int v3), (5, .ref (ad 12))] 0 []
  refine z_aload hx 5 d_La_kits_0 rfl ?_
  refine z_iconst (v := 0) hx d_La_kits_2 rfl ?_
  refine z_aload_n hx 0 d_La_kits_3 rfl ?_
  refine z_iload_n hx 1 d_La_kits_4 rfl ?_
  refine z_iload_n hx 2 d_La_kits_5 rfl ?_
  refine z_iload_n hx 3 d_La_kits_6 rfl ?_
  refine z_iload hx 4 d_La_kits_7 rfl ?_
  refine z_catV hx hM k_TD (t := 0) rfl ⟨a2_109, a2_112, a1_1, ⟨by decide +kernel, by decide +kernel⟩, fun sig h => by cases h; rfl⟩ a2_110 a2_111 rfl rfl d_La_kits_9 (by rw [hrm]; exact ⟨by show f + 1 ≤ 9; omega, by show 2 + (6 + 11) + w ≤ 200; omega, by show 0 + 1 ≤ 1; omega, by show 0 + 6 ≤ 6; omega⟩) htb [(0, 14, 17, 21)] [(0, 14, 25, 13)] rfl (fun z hz => by rcases List.mem_singleton.mp hz with rfl; exact ⟨by decide, _, a2_56, hNc.2.2.1⟩) (by decide) (by decide) (by decide) a1_165 a2_27 (fun q => ?_)
  refine z_astore hx [(6, .ref q), (0, .ref (ad 0)), (1, .int v0), (2, .int v1), (3, .int v2), (4, .int v3), (5, .ref (ad 12))] d_La_kits_21 (zN hml (by decide)) rfl ?_
  refine z_iconst (v := 2) hx d_La_kits_23 rfl ?_
  exact z_iret hx hr rfl hq (Nat.le_refl _) (Nat.le_refl _) d_La_kits_24 ⟨rfl, rfl, rfl⟩
set_option maxRecDepth 20000 in
theorem wt_kits_3 {l : Launch} {D : va_G} {K : Nat → ClassId} {ad : Nat → Nat} {S : zSt} {v0 : Int32} {v1 : Int32} {v2 : Int32} {v3 : Int32} {f w : Nat} (hM : zC l TB D zcls (ztyl K) y_TD_kits (.code y_TD_kits b_TD_kits 6 (some FieldType.int)) (rmx f w) [.ref (ad 0), .int v0, .int v1, .int v2, .int v3] ad (Lay K ad S) (zX0 K ad "java/lang/IllegalArgumentException" S)) (hf : f ≤ 8) (hw : w ≤ 160) : zCW l D zcls (ztyl K) y_La_kits (.codeWith y_La_kits b_La_kits 7 (some .int) [(0, 14, 17, 21), (0, 14, 21, 15), (0, 14, 25, 13)]) { frames := 9, cells := 1, slots := 6, locals := 200 } [.ref (ad 0), .int v0, .int v1, .int v2, .int v3, .ref (ad 12)] ad (Lay K ad S) (zP K ad (some (.int 3)) S) := by
  refine zCW.of (by decide +kernel) (Nat.le_of_ble_eq_true rfl) ?_
  intro x hx hr hml hrm hq htb hNc
  show zV x ad (Lay K ad S) 0 0 [(0, .ref (ad 0)), (1, .int v0), (2, .int v1), (3, .int v2), (4, .int v3), (5, .ref (ad 12))] 0 []
  refine z_aload hx 5 d_La_kits_0 rfl ?_
  refine z_iconst (v := 0) hx d_La_kits_2 rfl ?_
  refine z_aload_n hx 0 d_La_kits_3 rfl ?_
  refine z_iload_n hx 1 d_La_kits_4 rfl ?_
  refine z_iload_n hx 2 d_La_kits_5 rfl ?_
  refine z_iload_n hx 3 d_La_kits_6 rfl ?_
  refine z_iload hx 4 d_La_kits_7 rfl ?_
  refine z_catV hx hM k_TD (t := 0) rfl ⟨a2_109, a2_112, a1_1, ⟨by decide +kernel, by decide +kernel⟩, fun sig h => by cases h; rfl⟩ a2_110 a2_111 rfl rfl d_La_kits_9 (by rw [hrm]; exact ⟨by show f + 1 ≤ 9; omega, by show 2 + (6 + 11) + w ≤ 200; omega, by show 0 + 1 ≤ 1; omega, by show 0 + 6 ≤ 6; omega⟩) htb [(0, 14, 17, 21), (0, 14, 21, 15)] [] rfl (fun z hz => by rcases List.mem_cons.mp hz with rfl | hz; (exact ⟨by decide, _, a2_56, hNc.2.1⟩); rcases List.mem_singleton.mp hz with rfl; exact ⟨by decide, _, a1_165, hNc.2.2.2⟩) (by decide) (by decide) (by decide) a1_164 a1_181 (fun q => ?_)
  refine z_astore hx [(6, .ref q), (0, .ref (ad 0)), (1, .int v0), (2, .int v1), (3, .int v2), (4, .int v3), (5, .ref (ad 12))] d_La_kits_25 (zN hml (by decide)) rfl ?_
  refine z_iconst (v := 3) hx d_La_kits_27 rfl ?_
  exact z_iret hx hr rfl hq (Nat.le_refl _) (Nat.le_refl _) d_La_kits_28 ⟨rfl, rfl, rfl⟩
set_option maxRecDepth 20000 in
theorem wo_allot {l : Launch} {D : va_G} {K : Nat → ClassId} {ad : Nat → Nat} {S : zSt} {v0 : Int32} {v1 : Int32} {v2 : Int32} {rm : Room} {post' : zQ} {PP : Int32 → (Nat → Nat) → zSt → Prop} (hM : zC l TB D zcls (ztyl K) y_TD_allot (.code y_TD_allot b_TD_allot 8 (some FieldType.int)) rm [.ref (ad 0), .int v0, .int v1, .int v2] ad (Lay K ad S) (post')) (hf : rm.frames ≤ 8) (hw : rm.locals ≤ 160) (hp : ∀ r ad' ce', post' r ad' ce' → ∃ z S1, r = .inl (some (.int z)) ∧ zLo ad ad' ∧ ce' = Lay K ad' S1 ∧ PP z ad' S1) : zCW l D zcls (ztyl K) y_La_allot (.codeWith y_La_allot b_La_allot 6 (some .int) [(0, 12, 15, 21), (0, 12, 19, 15)]) { frames := 9, cells := rm.cells, slots := rm.slots, locals := 200 } [.ref (ad 0), .int v0, .int v1, .int v2, .ref (ad 12)] ad (Lay K ad S) (fun r ad' ce' => r = .inl (some (.int 0)) ∧ ∃ z S1, PP z ad' S1 ∧ zLo ad ad' ∧ ce' = Lay K ad' (stL S1 12 0 z.toInt64)) := by
  refine zCW.of (by decide +kernel) (Nat.le_of_ble_eq_true rfl) ?_
  intro x hx hr hml hrm hq htb hNc
  show zV x ad (Lay K ad S) 0 0 [(0, .ref (ad 0)), (1, .int v0), (2, .int v1), (3, .int v2), (4, .ref (ad 12))] 0 []
  refine z_aload hx 4 d_La_allot_0 rfl ?_
  refine z_iconst (v := 0) hx d_La_allot_2 rfl ?_
  refine z_aload_n hx 0 d_La_allot_3 rfl ?_
  refine z_iload_n hx 1 d_La_allot_4 rfl ?_
  refine z_iload_n hx 2 d_La_allot_5 rfl ?_
  refine z_iload_n hx 3 d_La_allot_6 rfl ?_
  refine z_retV hx k_TD (t := 0) rfl hM ⟨a2_151, a2_154, a1_1, ⟨by decide +kernel, by decide +kernel⟩, fun sig h => by cases h; rfl⟩ a2_152 a2_153 rfl rfl d_La_allot_7 (by rw [hrm]; exact ⟨by show rm.frames + 1 ≤ 9; omega, by show 2 + (8 + 11) + rm.locals ≤ 200; omega, by show 0 + rm.cells ≤ rm.cells; omega, by show 0 + rm.slots ≤ rm.slots; omega⟩) (fun E ad' ce' h => by obtain ⟨z, S1, h1, -⟩ := hp _ _ _ h; cases h1) (fun v ad' ce' h => ?_)
  obtain ⟨z, S1, h1, hlo, rfl, hP⟩ := hp _ _ _ h
  cases h1
  have g12 : ad' 12 = ad 12 := hlo 12 (by omega)
  show zV x ad' (Lay K ad' S1) (0 + rm.cells) (0 + rm.slots) [(0, .ref (ad 0)), (1, .int v0), (2, .int v1), (3, .int v2), (4, .ref (ad 12))] 10 [.int z, .int 0, .ref (ad 12)]
  rw [← g12]
  refine z_i2l hx d_La_allot_10 ?_
  refine z_lastK hx 1 rfl (t := 12) rfl (k := 0) (by decide) (by decide) d_La_allot_11 (ce1 := Lay K ad' (stL S1 12 0 z.toInt64)) (Lay_putL rfl) ?_
  refine z_goto (tgt := 23) hx d_La_allot_12 (by decide) ?_
  refine z_iconst (v := 0) hx d_La_allot_23 rfl ?_
  exact z_iret hx hr rfl hq (by rw [Nat.zero_add]; exact Nat.le_refl _) (by rw [Nat.zero_add]; exact Nat.le_refl _) d_La_allot_24 ⟨rfl, z, S1, hP, hlo, rfl⟩
set_option maxRecDepth 20000 in
theorem wt_allot_1 {l : Launch} {D : va_G} {K : Nat → ClassId} {ad : Nat → Nat} {S : zSt} {v0 : Int32} {v1 : Int32} {v2 : Int32} {f w : Nat} (hM : zC l TB D zcls (ztyl K) y_TD_allot (.code y_TD_allot b_TD_allot 8 (some FieldType.int)) (rmx f w) [.ref (ad 0), .int v0, .int v1, .int v2] ad (Lay K ad S) (zX0 K ad "java/lang/IndexOutOfBoundsException" S)) (hf : f ≤ 8) (hw : w ≤ 160) : zCW l D zcls (ztyl K) y_La_allot (.codeWith y_La_allot b_La_allot 6 (some .int) [(0, 12, 15, 21), (0, 12, 19, 15)]) { frames := 9, cells := 1, slots := 6, locals := 200 } [.ref (ad 0), .int v0, .int v1, .int v2, .ref (ad 12)] ad (Lay K ad S) (zP K ad (some (.int 1)) S) := by
  refine zCW.of (by decide +kernel) (Nat.le_of_ble_eq_true rfl) ?_
  intro x hx hr hml hrm hq htb hNc
  show zV x ad (Lay K ad S) 0 0 [(0, .ref (ad 0)), (1, .int v0), (2, .int v1), (3, .int v2), (4, .ref (ad 12))] 0 []
  refine z_aload hx 4 d_La_allot_0 rfl ?_
  refine z_iconst (v := 0) hx d_La_allot_2 rfl ?_
  refine z_aload_n hx 0 d_La_allot_3 rfl ?_
  refine z_iload_n hx 1 d_La_allot_4 rfl ?_
  refine z_iload_n hx 2 d_La_allot_5 rfl ?_
  refine z_iload_n hx 3 d_La_allot_6 rfl ?_
  refine z_catV hx hM k_TD (t := 0) rfl ⟨a2_151, a2_154, a1_1, ⟨by decide +kernel, by decide +kernel⟩, fun sig h => by cases h; rfl⟩ a2_152 a2_153 rfl rfl d_La_allot_7 (by rw [hrm]; exact ⟨by show f + 1 ≤ 9; omega, by show 2 + (8 + 11) + w ≤ 200; omega, by show 0 + 1 ≤ 1; omega, by show 0 + 6 ≤ 6; omega⟩) htb [] [(0, 12, 19, 15)] rfl (fun z hz => nomatch hz) (by decide) (by decide) (by decide) a2_56 a2_12 (fun q => ?_)
  refine z_astore hx [(5, .ref q), (0, .ref (ad 0)), (1, .int v0), (2, .int v1), (3, .int v2), (4, .ref (ad 12))] d_La_allot_15 (zN hml (by decide)) rfl ?_
  refine z_iconst (v := 1) hx d_La_allot_17 rfl ?_
  exact z_iret hx hr rfl hq (Nat.le_refl _) (Nat.le_refl _) d_La_allot_18 ⟨rfl, rfl, rfl⟩
set_option maxRecDepth 20000 in
theorem wt_allot_2 {l : Launch} {D : va_G} {K : Nat → ClassId} {ad : Nat → Nat} {S : zSt} {v0 : Int32} {v1 : Int32} {v2 : Int32} {f w : Nat} (hM : zC l TB D zcls (ztyl K) y_TD_allot (.code y_TD_allot b_TD_allot 8 (some FieldType.int)) (rmx f w) [.ref (ad 0), .int v0, .int v1, .int v2] ad (Lay K ad S) (zX0 K ad "java/lang/IllegalStateException" S)) (hf : f ≤ 8) (hw : w ≤ 160) : zCW l D zcls (ztyl K) y_La_allot (.codeWith y_La_allot b_La_allot 6 (some .int) [(0, 12, 15, 21), (0, 12, 19, 15)]) { frames := 9, cells := 1, slots := 6, locals := 200 } [.ref (ad 0), .int v0, .int v1, .int v2, .ref (ad 12)] ad (Lay K ad S) (zP K ad (some (.int 2)) S) := by
  refine zCW.of (by decide +kernel) (Nat.le_of_ble_eq_true rfl) ?_
  intro x hx hr hml hrm hq htb hNc
  show zV x ad (Lay K ad S) 0 0 [(0, .ref (ad 0)), (1, .int v0), (2, .int v1), (3, .int v2), (4, .ref (ad 12))] 0 []
  refine z_aload hx 4 d_La_allot_0 rfl ?_
  refine z_iconst (v := 0) hx d_La_allot_2 rfl ?_
  refine z_aload_n hx 0 d_La_allot_3 rfl ?_
  refine z_iload_n hx 1 d_La_allot_4 rfl ?_
  refine z_iload_n hx 2 d_La_allot_5 rfl ?_
  refine z_iload_n hx 3 d_La_allot_6 rfl ?_
  refine z_catV hx hM k_TD (t := 0) rfl ⟨a2_151, a2_154, a1_1, ⟨by decide +kernel, by decide +kernel⟩, fun sig h => by cases h; rfl⟩ a2_152 a2_153 rfl rfl d_La_allot_7 (by rw [hrm]; exact ⟨by show f + 1 ≤ 9; omega, by show 2 + (8 + 11) + w ≤ 200; omega, by show 0 + 1 ≤ 1; omega, by show 0 + 6 ≤ 6; omega⟩) htb [(0, 12, 15, 21)] [] rfl (fun z hz => by rcases List.mem_singleton.mp hz with rfl; exact ⟨by decide, _, a2_56, hNc.2.2.1⟩) (by decide) (by decide) (by decide) a1_165 a2_27 (fun q => ?_)
  refine z_astore hx [(5, .ref q), (0, .ref (ad 0)), (1, .int v0), (2, .int v1), (3, .int v2), (4, .ref (ad 12))] d_La_allot_19 (zN hml (by decide)) rfl ?_
  refine z_iconst (v := 2) hx d_La_allot_21 rfl ?_
  exact z_iret hx hr rfl hq (Nat.le_refl _) (Nat.le_refl _) d_La_allot_22 ⟨rfl, rfl, rfl⟩
set_option maxRecDepth 20000 in
theorem wo_reserve {l : Launch} {D : va_G} {K : Nat → ClassId} {ad : Nat → Nat} {S : zSt} {v0 : Int32} {v1 : Int32} {rm : Room} {post' : zQ} {PP : Int32 → (Nat → Nat) → zSt → Prop} (hM : zC l TB D zcls (ztyl K) y_TD_reserve (.code y_TD_reserve b_TD_reserve 6 (some FieldType.int)) rm [.ref (ad 0), .int v0, .int v1] ad (Lay K ad S) (post')) (hf : rm.frames ≤ 8) (hw : rm.locals ≤ 160) (hp : ∀ r ad' ce', post' r ad' ce' → ∃ z S1, r = .inl (some (.int z)) ∧ zLo ad ad' ∧ ce' = Lay K ad' S1 ∧ PP z ad' S1) : zCW l D zcls (ztyl K) y_La_reserve (.codeWith y_La_reserve b_La_reserve 5 (some .int) [(0, 10, 13, 21), (0, 10, 17, 15)]) { frames := 9, cells := rm.cells, slots := rm.slots, locals := 200 } [.ref (ad 0), .int v0, .int v1, .ref (ad 12)] ad (Lay K ad S) (fun r ad' ce' => r = .inl (some (.int 0)) ∧ ∃ z S1, PP z ad' S1 ∧ zLo ad ad' ∧ ce' = Lay K ad' (stL S1 12 0 z.toInt64)) := by
  refine zCW.of (by decide +kernel) (Nat.le_of_ble_eq_true rfl) ?_
  intro x hx hr hml hrm hq htb hNc
  show zV x ad (Lay K ad S) 0 0 [(0, .ref (ad 0)), (1, .int v0), (2, .int v1), (3, .ref (ad 12))] 0 []
  refine z_aload_n hx 3 d_La_reserve_0 rfl ?_
  refine z_iconst (v := 0) hx d_La_reserve_1 rfl ?_
  refine z_aload_n hx 0 d_La_reserve_2 rfl ?_
  refine z_iload_n hx 1 d_La_reserve_3 rfl ?_
  refine z_iload_n hx 2 d_La_reserve_4 rfl ?_
  refine z_retV hx k_TD (t := 0) rfl hM ⟨a3_18, a3_21, a1_1, ⟨by decide +kernel, by decide +kernel⟩, fun sig h => by cases h; rfl⟩ a3_19 a3_20 rfl rfl d_La_reserve_5 (by rw [hrm]; exact ⟨by show rm.frames + 1 ≤ 9; omega, by show 2 + (6 + 11) + rm.locals ≤ 200; omega, by show 0 + rm.cells ≤ rm.cells; omega, by show 0 + rm.slots ≤ rm.slots; omega⟩) (fun E ad' ce' h => by obtain ⟨z, S1, h1, -⟩ := hp _ _ _ h; cases h1) (fun v ad' ce' h => ?_)
  obtain ⟨z, S1, h1, hlo, rfl, hP⟩ := hp _ _ _ h
  cases h1
  have g12 : ad' 12 = ad 12 := hlo 12 (by omega)
  show zV x ad' (Lay K ad' S1) (0 + rm.cells) (0 + rm.slots) [(0, .ref (ad 0)), (1, .int v0), (2, .int v1), (3, .ref (ad 12))] 8 [.int z, .int 0, .ref (ad 12)]
  rw [← g12]
  refine z_i2l hx d_La_reserve_8 ?_
  refine z_lastK hx 1 rfl (t := 12) rfl (k := 0) (by decide) (by decide) d_La_reserve_9 (ce1 := Lay K ad' (stL S1 12 0 z.toInt64)) (Lay_putL rfl) ?_
  refine z_goto (tgt := 21) hx d_La_reserve_10 (by decide) ?_
  refine z_iconst (v := 0) hx d_La_reserve_21 rfl ?_
  exact z_iret hx hr rfl hq (by rw [Nat.zero_add]; exact Nat.le_refl _) (by rw [Nat.zero_add]; exact Nat.le_refl _) d_La_reserve_22 ⟨rfl, z, S1, hP, hlo, rfl⟩
set_option maxRecDepth 20000 in
theorem wt_reserve_1 {l : Launch} {D : va_G} {K : Nat → ClassId} {ad : Nat → Nat} {S : zSt} {v0 : Int32} {v1 : Int32} {f w : Nat} (hM : zC l TB D zcls (ztyl K) y_TD_reserve (.code y_TD_reserve b_TD_reserve 6 (some FieldType.int)) (rmx f w) [.ref (ad 0), .int v0, .int v1] ad (Lay K ad S) (zX0 K ad "java/lang/IndexOutOfBoundsException" S)) (hf : f ≤ 8) (hw : w ≤ 160) : zCW l D zcls (ztyl K) y_La_reserve (.codeWith y_La_reserve b_La_reserve 5 (some .int) [(0, 10, 13, 21), (0, 10, 17, 15)]) { frames := 9, cells := 1, slots := 6, locals := 200 } [.ref (ad 0), .int v0, .int v1, .ref (ad 12)] ad (Lay K ad S) (zP K ad (some (.int 1)) S) := by
  refine zCW.of (by decide +kernel) (Nat.le_of_ble_eq_true rfl) ?_
  intro x hx hr hml hrm hq htb hNc
  show zV x ad (Lay K ad S) 0 0 [(0, .ref (ad 0)), (1, .int v0), (2, .int v1), (3, .ref (ad 12))] 0 []
  refine z_aload_n hx 3 d_La_reserve_0 rfl ?_
  refine z_iconst (v := 0) hx d_La_reserve_1 rfl ?_
  refine z_aload_n hx 0 d_La_reserve_2 rfl ?_
  refine z_iload_n hx 1 d_La_reserve_3 rfl ?_
  refine z_iload_n hx 2 d_La_reserve_4 rfl ?_
  refine z_catV hx hM k_TD (t := 0) rfl ⟨a3_18, a3_21, a1_1, ⟨by decide +kernel, by decide +kernel⟩, fun sig h => by cases h; rfl⟩ a3_19 a3_20 rfl rfl d_La_reserve_5 (by rw [hrm]; exact ⟨by show f + 1 ≤ 9; omega, by show 2 + (6 + 11) + w ≤ 200; omega, by show 0 + 1 ≤ 1; omega, by show 0 + 6 ≤ 6; omega⟩) htb [] [(0, 10, 17, 15)] rfl (fun z hz => nomatch hz) (by decide) (by decide) (by decide) a2_56 a2_12 (fun q => ?_)
  refine z_astore hx [(4, .ref q), (0, .ref (ad 0)), (1, .int v0), (2, .int v1), (3, .ref (ad 12))] d_La_reserve_13 (zN hml (by decide)) rfl ?_
  refine z_iconst (v := 1) hx d_La_reserve_15 rfl ?_
  exact z_iret hx hr rfl hq (Nat.le_refl _) (Nat.le_refl _) d_La_reserve_16 ⟨rfl, rfl, rfl⟩
set_option maxRecDepth 20000 in
theorem wt_reserve_2 {l : Launch} {D : va_G} {K : Nat → ClassId} {ad : Nat → Nat} {S : zSt} {v0 : Int32} {v1 : Int32} {f w : Nat} (hM : zC l TB D zcls (ztyl K) y_TD_reserve (.code y_TD_reserve b_TD_reserve 6 (some FieldType.int)) (rmx f w) [.ref (ad 0), .int v0, .int v1] ad (Lay K ad S) (zX0 K ad "java/lang/IllegalStateException" S)) (hf : f ≤ 8) (hw : w ≤ 160) : zCW l D zcls (ztyl K) y_La_reserve (.codeWith y_La_reserve b_La_reserve 5 (some .int) [(0, 10, 13, 21), (0, 10, 17, 15)]) { frames := 9, cells := 1, slots := 6, locals := 200 } [.ref (ad 0), .int v0, .int v1, .ref (ad 12)] ad (Lay K ad S) (zP K ad (some (.int 2)) S) := by
  refine zCW.of (by decide +kernel) (Nat.le_of_ble_eq_true rfl) ?_
  intro x hx hr hml hrm hq htb hNc
  show zV x ad (Lay K ad S) 0 0 [(0, .ref (ad 0)), (1, .int v0), (2, .int v1), (3, .ref (ad 12))] 0 []
  refine z_aload_n hx 3 d_La_reserve_0 rfl ?_
  refine z_iconst (v := 0) hx d_La_reserve_1 rfl ?_
  refine z_aload_n hx 0 d_La_reserve_2 rfl ?_
  refine z_iload_n hx 1 d_La_reserve_3 rfl ?_
  refine z_iload_n hx 2 d_La_reserve_4 rfl ?_
  refine z_catV hx hM k_TD (t := 0) rfl ⟨a3_18, a3_21, a1_1, ⟨by decide +kernel, by decide +kernel⟩, fun sig h => by cases h; rfl⟩ a3_19 a3_20 rfl rfl d_La_reserve_5 (by rw [hrm]; exact ⟨by show f + 1 ≤ 9; omega, by show 2 + (6 + 11) + w ≤ 200; omega, by show 0 + 1 ≤ 1; omega, by show 0 + 6 ≤ 6; omega⟩) htb [(0, 10, 13, 21)] [] rfl (fun z hz => by rcases List.mem_singleton.mp hz with rfl; exact ⟨by decide, _, a2_56, hNc.2.2.1⟩) (by decide) (by decide) (by decide) a1_165 a2_27 (fun q => ?_)
  refine z_astore hx [(4, .ref q), (0, .ref (ad 0)), (1, .int v0), (2, .int v1), (3, .ref (ad 12))] d_La_reserve_17 (zN hml (by decide)) rfl ?_
  refine z_iconst (v := 2) hx d_La_reserve_19 rfl ?_
  exact z_iret hx hr rfl hq (Nat.le_refl _) (Nat.le_refl _) d_La_reserve_20 ⟨rfl, rfl, rfl⟩
set_option maxRecDepth 20000 in
theorem wo_offline {l : Launch} {D : va_G} {K : Nat → ClassId} {ad : Nat → Nat} {S : zSt} {v0 : Int32} {v1 : Int32} {v2 : Int32} {rm : Room} {post' : zQ} {PP : Int32 → (Nat → Nat) → zSt → Prop} (hM : zC l TB D zcls (ztyl K) y_TD_offline (.code y_TD_offline b_TD_offline 7 (some FieldType.int)) rm [.ref (ad 0), .int v0, .int v1, .int v2] ad (Lay K ad S) (post')) (hf : rm.frames ≤ 8) (hw : rm.locals ≤ 160) (hp : ∀ r ad' ce', post' r ad' ce' → ∃ z S1, r = .inl (some (.int z)) ∧ zLo ad ad' ∧ ce' = Lay K ad' S1 ∧ PP z ad' S1) : zCW l D zcls (ztyl K) y_La_offline (.codeWith y_La_offline b_La_offline 6 (some .int) [(0, 12, 15, 21), (0, 12, 19, 15)]) { frames := 9, cells := rm.cells, slots := rm.slots, locals := 200 } [.ref (ad 0), .int v0, .int v1, .int v2, .ref (ad 12)] ad (Lay K ad S) (fun r ad' ce' => r = .inl (some (.int 0)) ∧ ∃ z S1, PP z ad' S1 ∧ zLo ad ad' ∧ ce' = Lay K ad' (stL S1 12 0 z.toInt64)) := by
  refine zCW.of (by decide +kernel) (Nat.le_of_ble_eq_true rfl) ?_
  intro x hx hr hml hrm hq htb hNc
  show zV x ad (Lay K ad S) 0 0 [(0, .ref (ad 0)), (1, .int v0), (2, .int v1), (3, .int v2), (4, .ref (ad 12))] 0 []
  refine z_aload hx 4 d_La_offline_0 rfl ?_
  refine z_iconst (v := 0) hx d_La_offline_2 rfl ?_
  refine z_aload_n hx 0 d_La_offline_3 rfl ?_
  refine z_iload_n hx 1 d_La_offline_4 rfl ?_
  refine z_iload_n hx 2 d_La_offline_5 rfl ?_
  refine z_iload_n hx 3 d_La_offline_6 rfl ?_
  refine z_retV hx k_TD (t := 0) rfl hM ⟨a3_45, a3_48, a1_1, ⟨by decide +kernel, by decide +kernel⟩, fun sig h => by cases h; rfl⟩ a3_46 a3_47 rfl rfl d_La_offline_7 (by rw [hrm]; exact ⟨by show rm.frames + 1 ≤ 9; omega, by show 2 + (7 + 11) + rm.locals ≤ 200; omega, by show 0 + rm.cells ≤ rm.cells; omega, by show 0 + rm.slots ≤ rm.slots; omega⟩) (fun E ad' ce' h => by obtain ⟨z, S1, h1, -⟩ := hp _ _ _ h; cases h1) (fun v ad' ce' h => ?_)
  obtain ⟨z, S1, h1, hlo, rfl, hP⟩ := hp _ _ _ h
  cases h1
  have g12 : ad' 12 = ad 12 := hlo 12 (by omega)
  show zV x ad' (Lay K ad' S1) (0 + rm.cells) (0 + rm.slots) [(0, .ref (ad 0)), (1, .int v0), (2, .int v1), (3, .int v2), (4, .ref (ad 12))] 10 [.int z, .int 0, .ref (ad 12)]
  rw [← g12]
  refine z_i2l hx d_La_offline_10 ?_
  refine z_lastK hx 1 rfl (t := 12) rfl (k := 0) (by decide) (by decide) d_La_offline_11 (ce1 := Lay K ad' (stL S1 12 0 z.toInt64)) (Lay_putL rfl) ?_
  refine z_goto (tgt := 23) hx d_La_offline_12 (by decide) ?_
  refine z_iconst (v := 0) hx d_La_offline_23 rfl ?_
  exact z_iret hx hr rfl hq (by rw [Nat.zero_add]; exact Nat.le_refl _) (by rw [Nat.zero_add]; exact Nat.le_refl _) d_La_offline_24 ⟨rfl, z, S1, hP, hlo, rfl⟩
set_option maxRecDepth 20000 in
theorem wt_offline_1 {l : Launch} {D : va_G} {K : Nat → ClassId} {ad : Nat → Nat} {S : zSt} {v0 : Int32} {v1 : Int32} {v2 : Int32} {f w : Nat} (hM : zC l TB D zcls (ztyl K) y_TD_offline (.code y_TD_offline b_TD_offline 7 (some FieldType.int)) (rmx f w) [.ref (ad 0), .int v0, .int v1, .int v2] ad (Lay K ad S) (zX0 K ad "java/lang/IndexOutOfBoundsException" S)) (hf : f ≤ 8) (hw : w ≤ 160) : zCW l D zcls (ztyl K) y_La_offline (.codeWith y_La_offline b_La_offline 6 (some .int) [(0, 12, 15, 21), (0, 12, 19, 15)]) { frames := 9, cells := 1, slots := 6, locals := 200 } [.ref (ad 0), .int v0, .int v1, .int v2, .ref (ad 12)] ad (Lay K ad S) (zP K ad (some (.int 1)) S) := by
  refine zCW.of (by decide +kernel) (Nat.le_of_ble_eq_true rfl) ?_
  intro x hx hr hml hrm hq htb hNc
  show zV x ad (Lay K ad S) 0 0 [(0, .ref (ad 0)), (1, .int v0), (2, .int v1), (3, .int v2), (4, .ref (ad 12))] 0 []
  refine z_aload hx 4 d_La_offline_0 rfl ?_
  refine z_iconst (v := 0) hx d_La_offline_2 rfl ?_
  refine z_aload_n hx 0 d_La_offline_3 rfl ?_
  refine z_iload_n hx 1 d_La_offline_4 rfl ?_
  refine z_iload_n hx 2 d_La_offline_5 rfl ?_
  refine z_iload_n hx 3 d_La_offline_6 rfl ?_
  refine z_catV hx hM k_TD (t := 0) rfl ⟨a3_45, a3_48, a1_1, ⟨by decide +kernel, by decide +kernel⟩, fun sig h => by cases h; rfl⟩ a3_46 a3_47 rfl rfl d_La_offline_7 (by rw [hrm]; exact ⟨by show f + 1 ≤ 9; omega, by show 2 + (7 + 11) + w ≤ 200; omega, by show 0 + 1 ≤ 1; omega, by show 0 + 6 ≤ 6; omega⟩) htb [] [(0, 12, 19, 15)] rfl (fun z hz => nomatch hz) (by decide) (by decide) (by decide) a2_56 a2_12 (fun q => ?_)
  refine z_astore hx [(5, .ref q), (0, .ref (ad 0)), (1, .int v0), (2, .int v1), (3, .int v2), (4, .ref (ad 12))] d_La_offline_15 (zN hml (by decide)) rfl ?_
  refine z_iconst (v := 1) hx d_La_offline_17 rfl ?_
  exact z_iret hx hr rfl hq (Nat.le_refl _) (Nat.le_refl _) d_La_offline_18 ⟨rfl, rfl, rfl⟩
set_option maxRecDepth 20000 in
theorem wt_offline_2 {l : Launch} {D : va_G} {K : Nat → ClassId} {ad : Nat → Nat} {S : zSt} {v0 : Int32} {v1 : Int32} {v2 : Int32} {f w : Nat} (hM : zC l TB D zcls (ztyl K) y_TD_offline (.code y_TD_offline b_TD_offline 7 (some FieldType.int)) (rmx f w) [.ref (ad 0), .int v0, .int v1, .int v2] ad (Lay K ad S) (zX0 K ad "java/lang/IllegalStateException" S)) (hf : f ≤ 8) (hw : w ≤ 160) : zCW l D zcls (ztyl K) y_La_offline (.codeWith y_La_offline b_La_offline 6 (some .int) [(0, 12, 15, 21), (0, 12, 19, 15)]) { frames := 9, cells := 1, slots := 6, locals := 200 } [.ref (ad 0), .int v0, .int v1, .int v2, .ref (ad 12)] ad (Lay K ad S) (zP K ad (some (.int 2)) S) := by
  refine zCW.of (by decide +kernel) (Nat.le_of_ble_eq_true rfl) ?_
  intro x hx hr hml hrm hq htb hNc
  show zV x ad (Lay K ad S) 0 0 [(0, .ref (ad 0)), (1, .int v0), (2, .int v1), (3, .int v2), (4, .ref (ad 12))] 0 []
  refine z_aload hx 4 d_La_offline_0 rfl ?_
  refine z_iconst (v := 0) hx d_La_offline_2 rfl ?_
  refine z_aload_n hx 0 d_La_offline_3 rfl ?_
  refine z_iload_n hx 1 d_La_offline_4 rfl ?_
  refine z_iload_n hx 2 d_La_offline_5 rfl ?_
  refine z_iload_n hx 3 d_La_offline_6 rfl ?_
  refine z_catV hx hM k_TD (t := 0) rfl ⟨a3_45, a3_48, a1_1, ⟨by decide +kernel, by decide +kernel⟩, fun sig h => by cases h; rfl⟩ a3_46 a3_47 rfl rfl d_La_offline_7 (by rw [hrm]; exact ⟨by show f + 1 ≤ 9; omega, by show 2 + (7 + 11) + w ≤ 200; omega, by show 0 + 1 ≤ 1; omega, by show 0 + 6 ≤ 6; omega⟩) htb [(0, 12, 15, 21)] [] rfl (fun z hz => by rcases List.mem_singleton.mp hz with rfl; exact ⟨by decide, _, a2_56, hNc.2.2.1⟩) (by decide) (by decide) (by decide) a1_165 a2_27 (fun q => ?_)
  refine z_astore hx [(5, .ref q), (0, .ref (ad 0)), (1, .int v0), (2, .int v1), (3, .int v2), (4, .ref (ad 12))] d_La_offline_19 (zN hml (by decide)) rfl ?_
  refine z_iconst (v := 2) hx d_La_offline_21 rfl ?_
  exact z_iret hx hr rfl hq (Nat.le_refl _) (Nat.le_refl _) d_La_offline_22 ⟨rfl, rfl, rfl⟩
set_option maxRecDepth 20000 in
theorem wo_report {l : Launch} {D : va_G} {K : Nat → ClassId} {ad : Nat → Nat} {S : zSt} {v0 : Int32} {rm : Room} {post' : zQ} {PP : Int32 → (Nat → Nat) → zSt → Prop} (hM : zC l TB D zcls (ztyl K) y_TD_report (.code y_TD_report b_TD_report 5 (some FieldType.int)) rm [.ref (ad 0), .int v0] ad (Lay K ad S) (post')) (hf : rm.frames ≤ 8) (hw : rm.locals ≤ 160) (hp : ∀ r ad' ce', post' r ad' ce' → ∃ z S1, r = .inl (some (.int z)) ∧ zLo ad ad' ∧ ce' = Lay K ad' S1 ∧ PP z ad' S1) : zCW l D zcls (ztyl K) y_La_report (.codeWith y_La_report b_La_report 4 (some .int) [(0, 9, 12, 21)]) { frames := 9, cells := rm.cells, slots := rm.slots, locals := 200 } [.ref (ad 0), .int v0, .ref (ad 12)] ad (Lay K ad S) (fun r ad' ce' => r = .inl (some (.int 0)) ∧ ∃ z S1, PP z ad' S1 ∧ zLo ad ad' ∧ ce' = Lay K ad' (stL S1 12 0 z.toInt64)) := by
  refine zCW.of (by decide +kernel) (Nat.le_of_ble_eq_true rfl) ?_
  intro x hx hr hml hrm hq htb hNc
  show zV x ad (Lay K ad S) 0 0 [(0, .ref (ad 0)), (1, .int v0), (2, .ref (ad 12))] 0 []
  refine z_aload_n hx 2 d_La_report_0 rfl ?_
  refine z_iconst (v := 0) hx d_La_report_1 rfl ?_
  refine z_aload_n hx 0 d_La_report_2 rfl ?_
  refine z_iload_n hx 1 d_La_report_3 rfl ?_
  refine z_retV hx k_TD (t := 0) rfl hM ⟨a3_60, a3_63, a1_1, ⟨by decide +kernel, by decide +kernel⟩, fun sig h => by cases h; rfl⟩ a3_61 a3_62 rfl rfl d_La_report_4 (by rw [hrm]; exact ⟨by show rm.frames + 1 ≤ 9; omega, by show 2 + (5 + 11) + rm.locals ≤ 200; omega, by show 0 + rm.cells ≤ rm.cells; omega, by show 0 + rm.slots ≤ rm.slots; omega⟩) (fun E ad' ce' h => by obtain ⟨z, S1, h1, -⟩ := hp _ _ _ h; cases h1) (fun v ad' ce' h => ?_)
  obtain ⟨z, S1, h1, hlo, rfl, hP⟩ := hp _ _ _ h
  cases h1
  have g12 : ad' 12 = ad 12 := hlo 12 (by omega)
  show zV x ad' (Lay K ad' S1) (0 + rm.cells) (0 + rm.slots) [(0, .ref (ad 0)), (1, .int v0), (2, .ref (ad 12))] 7 [.int z, .int 0, .ref (ad 12)]
  rw [← g12]
  refine z_i2l hx d_La_report_7 ?_
  refine z_lastK hx 1 rfl (t := 12) rfl (k := 0) (by decide) (by decide) d_La_report_8 (ce1 := Lay K ad' (stL S1 12 0 z.toInt64)) (Lay_putL rfl) ?_
  refine z_goto (tgt := 15) hx d_La_report_9 (by decide) ?_
  refine z_iconst (v := 0) hx d_La_report_15 rfl ?_
  exact z_iret hx hr rfl hq (by rw [Nat.zero_add]; exact Nat.le_refl _) (by rw [Nat.zero_add]; exact Nat.le_refl _) d_La_report_16 ⟨rfl, z, S1, hP, hlo, rfl⟩
set_option maxRecDepth 20000 in
theorem wt_report_1 {l : Launch} {D : va_G} {K : Nat → ClassId} {ad : Nat → Nat} {S : zSt} {v0 : Int32} {f w : Nat} (hM : zC l TB D zcls (ztyl K) y_TD_report (.code y_TD_report b_TD_report 5 (some FieldType.int)) (rmx f w) [.ref (ad 0), .int v0] ad (Lay K ad S) (zX0 K ad "java/lang/IndexOutOfBoundsException" S)) (hf : f ≤ 8) (hw : w ≤ 160) : zCW l D zcls (ztyl K) y_La_report (.codeWith y_La_report b_La_report 4 (some .int) [(0, 9, 12, 21)]) { frames := 9, cells := 1, slots := 6, locals := 200 } [.ref (ad 0), .int v0, .ref (ad 12)] ad (Lay K ad S) (zP K ad (some (.int 1)) S) := by
  refine zCW.of (by decide +kernel) (Nat.le_of_ble_eq_true rfl) ?_
  intro x hx hr hml hrm hq htb hNc
  show zV x ad (Lay K ad S) 0 0 [(0, .ref (ad 0)), (1, .int v0), (2, .ref (ad 12))] 0 []
  refine z_aload_n hx 2 d_La_report_0 rfl ?_
  refine z_iconst (v := 0) hx d_La_report_1 rfl ?_
  refine z_aload_n hx 0 d_La_report_2 rfl ?_
  refine z_iload_n hx 1 d_La_report_3 rfl ?_
  refine z_catV hx hM k_TD (t := 0) rfl ⟨a3_60, a3_63, a1_1, ⟨by decide +kernel, by decide +kernel⟩, fun sig h => by cases h; rfl⟩ a3_61 a3_62 rfl rfl d_La_report_4 (by rw [hrm]; exact ⟨by show f + 1 ≤ 9; omega, by show 2 + (5 + 11) + w ≤ 200; omega, by show 0 + 1 ≤ 1; omega, by show 0 + 6 ≤ 6; omega⟩) htb [] [] rfl (fun z hz => nomatch hz) (by decide) (by decide) (by decide) a2_56 a2_12 (fun q => ?_)
  refine z_astore_n hx [(3, .ref q), (0, .ref (ad 0)), (1, .int v0), (2, .ref (ad 12))] d_La_report_12 rfl (zN hml (by decide)) rfl ?_
  refine z_iconst (v := 1) hx d_La_report_13 rfl ?_
  exact z_iret hx hr rfl hq (Nat.le_refl _) (Nat.le_refl _) d_La_report_14 ⟨rfl, rfl, rfl⟩
set_option maxRecDepth 20000 in
theorem wo_close {l : Launch} {D : va_G} {K : Nat → ClassId} {ad : Nat → Nat} {S : zSt} {v0 : Int32} {rm : Room} {post' : zQ} {PP : Int32 → (Nat → Nat) → zSt → Prop} (hM : zC l TB D zcls (ztyl K) y_TD_close (.code y_TD_close b_TD_close 4 (some FieldType.int)) rm [.ref (ad 0), .int v0] ad (Lay K ad S) (post')) (hf : rm.frames ≤ 8) (hw : rm.locals ≤ 160) (hp : ∀ r ad' ce', post' r ad' ce' → ∃ z S1, r = .inl (some (.int z)) ∧ zLo ad ad' ∧ ce' = Lay K ad' S1 ∧ PP z ad' S1) : zCW l D zcls (ztyl K) y_La_close (.codeWith y_La_close b_La_close 4 (some .int) [(0, 9, 12, 21)]) { frames := 9, cells := rm.cells, slots := rm.slots, locals := 200 } [.ref (ad 0), .int v0, .ref (ad 12)] ad (Lay K ad S) (fun r ad' ce' => r = .inl (some (.int 0)) ∧ ∃ z S1, PP z ad' S1 ∧ zLo ad ad' ∧ ce' = Lay K ad' (stL S1 12 0 z.toInt64)) := by
  refine zCW.of (by decide +kernel) (Nat.le_of_ble_eq_true rfl) ?_
  intro x hx hr hml hrm hq htb hNc
  show zV x ad (Lay K ad S) 0 0 [(0, .ref (ad 0)), (1, .int v0), (2, .ref (ad 12))] 0 []
  refine z_aload_n hx 2 d_La_close_0 rfl ?_
  refine z_iconst (v := 0) hx d_La_close_1 rfl ?_
  refine z_aload_n hx 0 d_La_close_2 rfl ?_
  refine z_iload_n hx 1 d_La_close_3 rfl ?_
  refine z_retV hx k_TD (t := 0) rfl hM ⟨a3_92, a3_95, a1_1, ⟨by decide +kernel, by decide +kernel⟩, fun sig h => by cases h; rfl⟩ a3_93 a3_94 rfl rfl d_La_close_4 (by rw [hrm]; exact ⟨by show rm.frames + 1 ≤ 9; omega, by show 2 + (4 + 11) + rm.locals ≤ 200; omega, by show 0 + rm.cells ≤ rm.cells; omega, by show 0 + rm.slots ≤ rm.slots; omega⟩) (fun E ad' ce' h => by obtain ⟨z, S1, h1, -⟩ := hp _ _ _ h; cases h1) (fun v ad' ce' h => ?_)
  obtain ⟨z, S1, h1, hlo, rfl, hP⟩ := hp _ _ _ h
  cases h1
  have g12 : ad' 12 = ad 12 := hlo 12 (by omega)
  show zV x ad' (Lay K ad' S1) (0 + rm.cells) (0 + rm.slots) [(0, .ref (ad 0)), (1, .int v0), (2, .ref (ad 12))] 7 [.int z, .int 0, .ref (ad 12)]
  rw [← g12]
  refine z_i2l hx d_La_close_7 ?_
  refine z_lastK hx 1 rfl (t := 12) rfl (k := 0) (by decide) (by decide) d_La_close_8 (ce1 := Lay K ad' (stL S1 12 0 z.toInt64)) (Lay_putL rfl) ?_
  refine z_goto (tgt := 15) hx d_La_close_9 (by decide) ?_
  refine z_iconst (v := 0) hx d_La_close_15 rfl ?_
  exact z_iret hx hr rfl hq (by rw [Nat.zero_add]; exact Nat.le_refl _) (by rw [Nat.zero_add]; exact Nat.le_refl _) d_La_close_16 ⟨rfl, z, S1, hP, hlo, rfl⟩
set_option maxRecDepth 20000 in
theorem wt_close_1 {l : Launch} {D : va_G} {K : Nat → ClassId} {ad : Nat → Nat} {S : zSt} {v0 : Int32} {f w : Nat} (hM : zC l TB D zcls (ztyl K) y_TD_close (.code y_TD_close b_TD_close 4 (some FieldType.int)) (rmx f w) [.ref (ad 0), .int v0] ad (Lay K ad S) (zX0 K ad "java/lang/IndexOutOfBoundsException" S)) (hf : f ≤ 8) (hw : w ≤ 160) : zCW l D zcls (ztyl K) y_La_close (.codeWith y_La_close b_La_close 4 (some .int) [(0, 9, 12, 21)]) { frames := 9, cells := 1, slots := 6, locals := 200 } [.ref (ad 0), .int v0, .ref (ad 12)] ad (Lay K ad S) (zP K ad (some (.int 1)) S) := by
  refine zCW.of (by decide +kernel) (Nat.le_of_ble_eq_true rfl) ?_
  intro x hx hr hml hrm hq htb hNc
  show zV x ad (Lay K ad S) 0 0 [(0, .ref (ad 0)), (1, .int v0), (2, .ref (ad 12))] 0 []
  refine z_aload_n hx 2 d_La_close_0 rfl ?_
  refine z_iconst (v := 0) hx d_La_close_1 rfl ?_
  refine z_aload_n hx 0 d_La_close_2 rfl ?_
  refine z_iload_n hx 1 d_La_close_3 rfl ?_
  refine z_catV hx hM k_TD (t := 0) rfl ⟨a3_92, a3_95, a1_1, ⟨by decide +kernel, by decide +kernel⟩, fun sig h => by cases h; rfl⟩ a3_93 a3_94 rfl rfl d_La_close_4 (by rw [hrm]; exact ⟨by show f + 1 ≤ 9; omega, by show 2 + (4 + 11) + w ≤ 200; omega, by show 0 + 1 ≤ 1; omega, by show 0 + 6 ≤ 6; omega⟩) htb [] [] rfl (fun z hz => nomatch hz) (by decide) (by decide) (by decide) a2_56 a2_12 (fun q => ?_)
  refine z_astore_n hx [(3, .ref q), (0, .ref (ad 0)), (1, .int v0), (2, .ref (ad 12))] d_La_close_12 rfl (zN hml (by decide)) rfl ?_
  refine z_iconst (v := 1) hx d_La_close_13 rfl ?_
  exact z_iret hx hr rfl hq (Nat.le_refl _) (Nat.le_refl _) d_La_close_14 ⟨rfl, rfl, rfl⟩
set_option maxRecDepth 20000 in
theorem wo_key {l : Launch} {D : va_G} {K : Nat → ClassId} {ad : Nat → Nat} {S : zSt} {v0 : Int32} {v1 : Int32} {v2 : Int32} {rm : Room} {post' : zQ} {PP : Int32 → (Nat → Nat) → zSt → Prop} (hM : zC l TB D zcls (ztyl K) y_TD_key (.code y_TD_key b_TD_key 5 (some FieldType.int)) rm [.ref (ad 0), .int v0, .int v1, .int v2] ad (Lay K ad S) (post')) (hf : rm.frames ≤ 8) (hw : rm.locals ≤ 160) (hp : ∀ r ad' ce', post' r ad' ce' → ∃ z S1, r = .inl (some (.int z)) ∧ zLo ad ad' ∧ ce' = Lay K ad' S1 ∧ PP z ad' S1) : zCW l D zcls (ztyl K) y_La_key (.codeWith y_La_key b_La_key 6 (some .int) [(0, 12, 15, 21)]) { frames := 9, cells := rm.cells, slots := rm.slots, locals := 200 } [.ref (ad 0), .int v0, .int v1, .int v2, .ref (ad 12)] ad (Lay K ad S) (fun r ad' ce' => r = .inl (some (.int 0)) ∧ ∃ z S1, PP z ad' S1 ∧ zLo ad ad' ∧ ce' = Lay K ad' (stL S1 12 0 z.toInt64)) := by
  refine zCW.of (by decide +kernel) (Nat.le_of_ble_eq_true rfl) ?_
  intro x hx hr hml hrm hq htb hNc
  show zV x ad (Lay K ad S) 0 0 [(0, .ref (ad 0)), (1, .int v0), (2, .int v1), (3, .int v2), (4, .ref (ad 12))] 0 []
  refine z_aload hx 4 d_La_key_0 rfl ?_
  refine z_iconst (v := 0) hx d_La_key_2 rfl ?_
  refine z_aload_n hx 0 d_La_key_3 rfl ?_
  refine z_iload_n hx 1 d_La_key_4 rfl ?_
  refine z_iload_n hx 2 d_La_key_5 rfl ?_
  refine z_iload_n hx 3 d_La_key_6 rfl ?_
  refine z_retV hx k_TD (t := 0) rfl hM ⟨a3_103, a3_106, a1_1, ⟨by decide +kernel, by decide +kernel⟩, fun sig h => by cases h; rfl⟩ a3_104 a3_105 rfl rfl d_La_key_7 (by rw [hrm]; exact ⟨by show rm.frames + 1 ≤ 9; omega, by show 2 + (5 + 11) + rm.locals ≤ 200; omega, by show 0 + rm.cells ≤ rm.cells; omega, by show 0 + rm.slots ≤ rm.slots; omega⟩) (fun E ad' ce' h => by obtain ⟨z, S1, h1, -⟩ := hp _ _ _ h; cases h1) (fun v ad' ce' h => ?_)
  obtain ⟨z, S1, h1, hlo, rfl, hP⟩ := hp _ _ _ h
  cases h1
  have g12 : ad' 12 = ad 12 := hlo 12 (by omega)
  show zV x ad' (Lay K ad' S1) (0 + rm.cells) (0 + rm.slots) [(0, .ref (ad 0)), (1, .int v0), (2, .int v1), (3, .int v2), (4, .ref (ad 12))] 10 [.int z, .int 0, .ref (ad 12)]
  rw [← g12]
  refine z_i2l hx d_La_key_10 ?_
  refine z_lastK hx 1 rfl (t := 12) rfl (k := 0) (by decide) (by decide) d_La_key_11 (ce1 := Lay K ad' (stL S1 12 0 z.toInt64)) (Lay_putL rfl) ?_
  refine z_goto (tgt := 19) hx d_La_key_12 (by decide) ?_
  refine z_iconst (v := 0) hx d_La_key_19 rfl ?_
  exact z_iret hx hr rfl hq (by rw [Nat.zero_add]; exact Nat.le_refl _) (by rw [Nat.zero_add]; exact Nat.le_refl _) d_La_key_20 ⟨rfl, z, S1, hP, hlo, rfl⟩
set_option maxRecDepth 20000 in
theorem wt_key_1 {l : Launch} {D : va_G} {K : Nat → ClassId} {ad : Nat → Nat} {S : zSt} {v0 : Int32} {v1 : Int32} {v2 : Int32} {f w : Nat} (hM : zC l TB D zcls (ztyl K) y_TD_key (.code y_TD_key b_TD_key 5 (some FieldType.int)) (rmx f w) [.ref (ad 0), .int v0, .int v1, .int v2] ad (Lay K ad S) (zX0 K ad "java/lang/IndexOutOfBoundsException" S)) (hf : f ≤ 8) (hw : w ≤ 160) : zCW l D zcls (ztyl K) y_La_key (.codeWith y_La_key b_La_key 6 (some .int) [(0, 12, 15, 21)]) { frames := 9, cells := 1, slots := 6, locals := 200 } [.ref (ad 0), .int v0, .int v1, .int v2, .ref (ad 12)] ad (Lay K ad S) (zP K ad (some (.int 1)) S) := by
  refine zCW.of (by decide +kernel) (Nat.le_of_ble_eq_true rfl) ?_
  intro x hx hr hml hrm hq htb hNc
  show zV x ad (Lay K ad S) 0 0 [(0, .ref (ad 0)), (1, .int v0), (2, .int v1), (3, .int v2), (4, .ref (ad 12))] 0 []
  refine z_aload hx 4 d_La_key_0 rfl ?_
  refine z_iconst (v := 0) hx d_La_key_2 rfl ?_
  refine z_aload_n hx 0 d_La_key_3 rfl ?_
  refine z_iload_n hx 1 d_La_key_4 rfl ?_
  refine z_iload_n hx 2 d_La_key_5 rfl ?_
  refine z_iload_n hx 3 d_La_key_6 rfl ?_
  refine z_catV hx hM k_TD (t := 0) rfl ⟨a3_103, a3_106, a1_1, ⟨by decide +kernel, by decide +kernel⟩, fun sig h => by cases h; rfl⟩ a3_104 a3_105 rfl rfl d_La_key_7 (by rw [hrm]; exact ⟨by show f + 1 ≤ 9; omega, by show 2 + (5 + 11) + w ≤ 200; omega, by show 0 + 1 ≤ 1; omega, by show 0 + 6 ≤ 6; omega⟩) htb [] [] rfl (fun z hz => nomatch hz) (by decide) (by decide) (by decide) a2_56 a2_12 (fun q => ?_)
  refine z_astore hx [(5, .ref q), (0, .ref (ad 0)), (1, .int v0), (2, .int v1), (3, .int v2), (4, .ref (ad 12))] d_La_key_15 (zN hml (by decide)) rfl ?_
  refine z_iconst (v := 1) hx d_La_key_17 rfl ?_
  exact z_iret hx hr rfl hq (Nat.le_refl _) (Nat.le_refl _) d_La_key_18 ⟨rfl, rfl, rfl⟩
set_option maxRecDepth 20000 in
theorem wo_arm {l : Launch} {D : va_G} {K : Nat → ClassId} {ad : Nat → Nat} {S : zSt} {v0 : Int32} {v1 : Int32} {rm : Room} {post' : zQ} {PP : Int32 → (Nat → Nat) → zSt → Prop} (hM : zC l TB D zcls (ztyl K) y_TD_arm (.code y_TD_arm b_TD_arm 5 (some FieldType.int)) rm [.ref (ad 0), .int v0, .int v1] ad (Lay K ad S) (post')) (hf : rm.frames ≤ 8) (hw : rm.locals ≤ 160) (hp : ∀ r ad' ce', post' r ad' ce' → ∃ z S1, r = .inl (some (.int z)) ∧ zLo ad ad' ∧ ce' = Lay K ad' S1 ∧ PP z ad' S1) : zCW l D zcls (ztyl K) y_La_arm (.codeWith y_La_arm b_La_arm 5 (some .int) [(0, 10, 13, 21)]) { frames := 9, cells := rm.cells, slots := rm.slots, locals := 200 } [.ref (ad 0), .int v0, .int v1, .ref (ad 12)] ad (Lay K ad S) (fun r ad' ce' => r = .inl (some (.int 0)) ∧ ∃ z S1, PP z ad' S1 ∧ zLo ad ad' ∧ ce' = Lay K ad' (stL S1 12 0 z.toInt64)) := by
  refine zCW.of (by decide +kernel) (Nat.le_of_ble_eq_true rfl) ?_
  intro x hx hr hml hrm hq htb hNc
  show zV x ad (Lay K ad S) 0 0 [(0, .ref (ad 0)), (1, .int v0), (2, .int v1), (3, .ref (ad 12))] 0 []
  refine z_aload_n hx 3 d_La_arm_0 rfl ?_
  refine z_iconst (v := 0) hx d_La_arm_1 rfl ?_
  refine z_aload_n hx 0 d_La_arm_2 rfl ?_
  refine z_iload_n hx 1 d_La_arm_3 rfl ?_
  refine z_iload_n hx 2 d_La_arm_4 rfl ?_
  refine z_retV hx k_TD (t := 0) rfl hM ⟨a3_127, a3_130, a1_1, ⟨by decide +kernel, by decide +kernel⟩, fun sig h => by cases h; rfl⟩ a3_128 a3_129 rfl rfl d_La_arm_5 (by rw [hrm]; exact ⟨by show rm.frames + 1 ≤ 9; omega, by show 2 + (5 + 11) + rm.locals ≤ 200; omega, by show 0 + rm.cells ≤ rm.cells; omega, by show 0 + rm.slots ≤ rm.slots; omega⟩) (fun E ad' ce' h => by obtain ⟨z, S1, h1, -⟩ := hp _ _ _ h; cases h1) (fun v ad' ce' h => ?_)
  obtain ⟨z, S1, h1, hlo, rfl, hP⟩ := hp _ _ _ h
  cases h1
  have g12 : ad' 12 = ad 12 := hlo 12 (by omega)
  show zV x ad' (Lay K ad' S1) (0 + rm.cells) (0 + rm.slots) [(0, .ref (ad 0)), (1, .int v0), (2, .int v1), (3, .ref (ad 12))] 8 [.int z, .int 0, .ref (ad 12)]
  rw [← g12]
  refine z_i2l hx d_La_arm_8 ?_
  refine z_lastK hx 1 rfl (t := 12) rfl (k := 0) (by decide) (by decide) d_La_arm_9 (ce1 := Lay K ad' (stL S1 12 0 z.toInt64)) (Lay_putL rfl) ?_
  refine z_goto (tgt := 17) hx d_La_arm_10 (by decide) ?_
  refine z_iconst (v := 0) hx d_La_arm_17 rfl ?_
  exact z_iret hx hr rfl hq (by rw [Nat.zero_add]; exact Nat.le_refl _) (by rw [Nat.zero_add]; exact Nat.le_refl _) d_La_arm_18 ⟨rfl, z, S1, hP, hlo, rfl⟩
set_option maxRecDepth 20000 in
theorem wt_arm_1 {l : Launch} {D : va_G} {K : Nat → ClassId} {ad : Nat → Nat} {S : zSt} {v0 : Int32} {v1 : Int32} {f w : Nat} (hM : zC l TB D zcls (ztyl K) y_TD_arm (.code y_TD_arm b_TD_arm 5 (some FieldType.int)) (rmx f w) [.ref (ad 0), .int v0, .int v1] ad (Lay K ad S) (zX0 K ad "java/lang/IndexOutOfBoundsException" S)) (hf : f ≤ 8) (hw : w ≤ 160) : zCW l D zcls (ztyl K) y_La_arm (.codeWith y_La_arm b_La_arm 5 (some .int) [(0, 10, 13, 21)]) { frames := 9, cells := 1, slots := 6, locals := 200 } [.ref (ad 0), .int v0, .int v1, .ref (ad 12)] ad (Lay K ad S) (zP K ad (some (.int 1)) S) := by
  refine zCW.of (by decide +kernel) (Nat.le_of_ble_eq_true rfl) ?_
  intro x hx hr hml hrm hq htb hNc
  show zV x ad (Lay K ad S) 0 0 [(0, .ref (ad 0)), (1, .int v0), (2, .int v1), (3, .ref (ad 12))] 0 []
  refine z_aload_n hx 3 d_La_arm_0 rfl ?_
  refine z_iconst (v := 0) hx d_La_arm_1 rfl ?_
  refine z_aload_n hx 0 d_La_arm_2 rfl ?_
  refine z_iload_n hx 1 d_La_arm_3 rfl ?_
  refine z_iload_n hx 2 d_La_arm_4 rfl ?_
  refine z_catV hx hM k_TD (t := 0) rfl ⟨a3_127, a3_130, a1_1, ⟨by decide +kernel, by decide +kernel⟩, fun sig h => by cases h; rfl⟩ a3_128 a3_129 rfl rfl d_La_arm_5 (by rw [hrm]; exact ⟨by show f + 1 ≤ 9; omega, by show 2 + (5 + 11) + w ≤ 200; omega, by show 0 + 1 ≤ 1; omega, by show 0 + 6 ≤ 6; omega⟩) htb [] [] rfl (fun z hz => nomatch hz) (by decide) (by decide) (by decide) a2_56 a2_12 (fun q => ?_)
  refine z_astore hx [(4, .ref q), (0, .ref (ad 0)), (1, .int v0), (2, .int v1), (3, .ref (ad 12))] d_La_arm_13 (zN hml (by decide)) rfl ?_
  refine z_iconst (v := 1) hx d_La_arm_15 rfl ?_
  exact z_iret hx hr rfl hq (Nat.le_refl _) (Nat.le_refl _) d_La_arm_16 ⟨rfl, rfl, rfl⟩
set_option maxRecDepth 20000 in
theorem wo_open {l : Launch} {D : va_G} {K : Nat → ClassId} {ad : Nat → Nat} {S : zSt} {v0 : Int32} {v1 : Int32} {rm : Room} {post' : zQ} {PP : Int32 → (Nat → Nat) → zSt → Prop} (hM : zC l TB D zcls (ztyl K) y_TD_open (.code y_TD_open b_TD_open 3 (some FieldType.int)) rm [.ref (ad 0), .int v0, .int v1] ad (Lay K ad S) (post')) (hf : rm.frames ≤ 8) (hw : rm.locals ≤ 160) (hp : ∀ r ad' ce', post' r ad' ce' → ∃ z S1, r = .inl (some (.int z)) ∧ zLo ad ad' ∧ ce' = Lay K ad' S1 ∧ PP z ad' S1) : zCW l D zcls (ztyl K) y_La_open (.codeWith y_La_open b_La_open 5 (some .int) [(0, 10, 13, 21)]) { frames := 9, cells := rm.cells, slots := rm.slots, locals := 200 } [.ref (ad 0), .int v0, .int v1, .ref (ad 12)] ad (Lay K ad S) (fun r ad' ce' => r = .inl (some (.int 0)) ∧ ∃ z S1, PP z ad' S1 ∧ zLo ad ad' ∧ ce' = Lay K ad' (stL S1 12 0 z.toInt64)) := by
  refine zCW.of (by decide +kernel) (Nat.le_of_ble_eq_true rfl) ?_
  intro x hx hr hml hrm hq htb hNc
  show zV x ad (Lay K ad S) 0 0 [(0, .ref (ad 0)), (1, .int v0), (2, .int v1), (3, .ref (ad 12))] 0 []
  refine z_aload_n hx 3 d_La_open_0 rfl ?_
  refine z_iconst (v := 0) hx d_La_open_1 rfl ?_
  refine z_aload_n hx 0 d_La_open_2 rfl ?_
  refine z_iload_n hx 1 d_La_open_3 rfl ?_
  refine z_iload_n hx 2 d_La_open_4 rfl ?_
  refine z_retV hx k_TD (t := 0) rfl hM ⟨a3_138, a3_141, a1_1, ⟨by decide +kernel, by decide +kernel⟩, fun sig h => by cases h; rfl⟩ a3_139 a3_140 rfl rfl d_La_open_5 (by rw [hrm]; exact ⟨by show rm.frames + 1 ≤ 9; omega, by show 2 + (3 + 11) + rm.locals ≤ 200; omega, by show 0 + rm.cells ≤ rm.cells; omega, by show 0 + rm.slots ≤ rm.slots; omega⟩) (fun E ad' ce' h => by obtain ⟨z, S1, h1, -⟩ := hp _ _ _ h; cases h1) (fun v ad' ce' h => ?_)
  obtain ⟨z, S1, h1, hlo, rfl, hP⟩ := hp _ _ _ h
  cases h1
  have g12 : ad' 12 = ad 12 := hlo 12 (by omega)
  show zV x ad' (Lay K ad' S1) (0 + rm.cells) (0 + rm.slots) [(0, .ref (ad 0)), (1, .int v0), (2, .int v1), (3, .ref (ad 12))] 8 [.int z, .int 0, .ref (ad 12)]
  rw [← g12]
  refine z_i2l hx d_La_open_8 ?_
  refine z_lastK hx 1 rfl (t := 12) rfl (k := 0) (by decide) (by decide) d_La_open_9 (ce1 := Lay K ad' (stL S1 12 0 z.toInt64)) (Lay_putL rfl) ?_
  refine z_goto (tgt := 17) hx d_La_open_10 (by decide) ?_
  refine z_iconst (v := 0) hx d_La_open_17 rfl ?_
  exact z_iret hx hr rfl hq (by rw [Nat.zero_add]; exact Nat.le_refl _) (by rw [Nat.zero_add]; exact Nat.le_refl _) d_La_open_18 ⟨rfl, z, S1, hP, hlo, rfl⟩
set_option maxRecDepth 20000 in
theorem wt_open_1 {l : Launch} {D : va_G} {K : Nat → ClassId} {ad : Nat → Nat} {S : zSt} {v0 : Int32} {v1 : Int32} {f w : Nat} (hM : zC l TB D zcls (ztyl K) y_TD_open (.code y_TD_open b_TD_open 3 (some FieldType.int)) (rmx f w) [.ref (ad 0), .int v0, .int v1] ad (Lay K ad S) (zX0 K ad "java/lang/IndexOutOfBoundsException" S)) (hf : f ≤ 8) (hw : w ≤ 160) : zCW l D zcls (ztyl K) y_La_open (.codeWith y_La_open b_La_open 5 (some .int) [(0, 10, 13, 21)]) { frames := 9, cells := 1, slots := 6, locals := 200 } [.ref (ad 0), .int v0, .int v1, .ref (ad 12)] ad (Lay K ad S) (zP K ad (some (.int 1)) S) := by
  refine zCW.of (by decide +kernel) (Nat.le_of_ble_eq_true rfl) ?_
  intro x hx hr hml hrm hq htb hNc
  show zV x ad (Lay K ad S) 0 0 [(0, .ref (ad 0)), (1, .int v0), (2, .int v1), (3, .ref (ad 12))] 0 []
  refine z_aload_n hx 3 d_La_open_0 rfl ?_
  refine z_iconst (v := 0) hx d_La_open_1 rfl ?_
  refine z_aload_n hx 0 d_La_open_2 rfl ?_
  refine z_iload_n hx 1 d_La_open_3 rfl ?_
  refine z_iload_n hx 2 d_La_open_4 rfl ?_
  refine z_catV hx hM k_TD (t := 0) rfl ⟨a3_138, a3_141, a1_1, ⟨by decide +kernel, by decide +kernel⟩, fun sig h => by cases h; rfl⟩ a3_139 a3_140 rfl rfl d_La_open_5 (by rw [hrm]; exact ⟨by show f + 1 ≤ 9; omega, by show 2 + (3 + 11) + w ≤ 200; omega, by show 0 + 1 ≤ 1; omega, by show 0 + 6 ≤ 6; omega⟩) htb [] [] rfl (fun z hz => nomatch hz) (by decide) (by decide) (by decide) a2_56 a2_12 (fun q => ?_)
  refine z_astore hx [(4, .ref q), (0, .ref (ad 0)), (1, .int v0), (2, .int v1), (3, .ref (ad 12))] d_La_open_13 (zN hml (by decide)) rfl ?_
  refine z_iconst (v := 1) hx d_La_open_15 rfl ?_
  exact z_iret hx hr rfl hq (Nat.le_refl _) (Nat.le_refl _) d_La_open_16 ⟨rfl, rfl, rfl⟩
set_option maxRecDepth 20000 in
theorem wo_count {l : Launch} {D : va_G} {K : Nat → ClassId} {ad : Nat → Nat} {S : zSt} {v0 : Int32} {v1 : Int32} {rm : Room} {post' : zQ} {PP : Int32 → (Nat → Nat) → zSt → Prop} (hM : zC l TB D zcls (ztyl K) y_TD_count (.code y_TD_count b_TD_count 4 (some FieldType.int)) rm [.ref (ad 0), .int v0, .int v1] ad (Lay K ad S) (post')) (hf : rm.frames ≤ 8) (hw : rm.locals ≤ 160) (hp : ∀ r ad' ce', post' r ad' ce' → ∃ z S1, r = .inl (some (.int z)) ∧ zLo ad ad' ∧ ce' = Lay K ad' S1 ∧ PP z ad' S1) : zCW l D zcls (ztyl K) y_La_count (.codeWith y_La_count b_La_count 5 (some .int) [(0, 10, 13, 21), (0, 10, 17, 15)]) { frames := 9, cells := rm.cells, slots := rm.slots, locals := 200 } [.ref (ad 0), .int v0, .int v1, .ref (ad 12)] ad (Lay K ad S) (fun r ad' ce' => r = .inl (some (.int 0)) ∧ ∃ z S1, PP z ad' S1 ∧ zLo ad ad' ∧ ce' = Lay K ad' (stL S1 12 0 z.toInt64)) := by
  refine zCW.of (by decide +kernel) (Nat.le_of_ble_eq_true rfl) ?_
  intro x hx hr hml hrm hq htb hNc
  show zV x ad (Lay K ad S) 0 0 [(0, .ref (ad 0)), (1, .int v0), (2, .int v1), (3, .ref (ad 12))] 0 []
  refine z_aload_n hx 3 d_La_count_0 rfl ?_
  refine z_iconst (v := 0) hx d_La_count_1 rfl ?_
  refine z_aload_n hx 0 d_La_count_2 rfl ?_
  refine z_iload_n hx 1 d_La_count_3 rfl ?_
  refine z_iload_n hx 2 d_La_count_4 rfl ?_
  refine z_retV hx k_TD (t := 0) rfl hM ⟨a3_145, a3_148, a1_1, ⟨by decide +kernel, by decide +kernel⟩, fun sig h => by cases h; rfl⟩ a3_146 a3_147 rfl rfl d_La_count_5 (by rw [hrm]; exact ⟨by show rm.frames + 1 ≤ 9; omega, by show 2 + (4 + 11) + rm.locals ≤ 200; omega, by show 0 + rm.cells ≤ rm.cells; omega, by show 0 + rm.slots ≤ rm.slots; omega⟩) (fun E ad' ce' h => by obtain ⟨z, S1, h1, -⟩ := hp _ _ _ h; cases h1) (fun v ad' ce' h => ?_)
  obtain ⟨z, S1, h1, hlo, rfl, hP⟩ := hp _ _ _ h
  cases h1
  have g12 : ad' 12 = ad 12 := hlo 12 (by omega)
  show zV x ad' (Lay K ad' S1) (0 + rm.cells) (0 + rm.slots) [(0, .ref (ad 0)), (1, .int v0), (2, .int v1), (3, .ref (ad 12))] 8 [.int z, .int 0, .ref (ad 12)]
  rw [← g12]
  refine z_i2l hx d_La_count_8 ?_
  refine z_lastK hx 1 rfl (t := 12) rfl (k := 0) (by decide) (by decide) d_La_count_9 (ce1 := Lay K ad' (stL S1 12 0 z.toInt64)) (Lay_putL rfl) ?_
  refine z_goto (tgt := 21) hx d_La_count_10 (by decide) ?_
  refine z_iconst (v := 0) hx d_La_count_21 rfl ?_
  exact z_iret hx hr rfl hq (by rw [Nat.zero_add]; exact Nat.le_refl _) (by rw [Nat.zero_add]; exact Nat.le_refl _) d_La_count_22 ⟨rfl, z, S1, hP, hlo, rfl⟩
set_option maxRecDepth 20000 in
theorem wt_count_1 {l : Launch} {D : va_G} {K : Nat → ClassId} {ad : Nat → Nat} {S : zSt} {v0 : Int32} {v1 : Int32} {f w : Nat} (hM : zC l TB D zcls (ztyl K) y_TD_count (.code y_TD_count b_TD_count 4 (some FieldType.int)) (rmx f w) [.ref (ad 0), .int v0, .int v1] ad (Lay K ad S) (zX0 K ad "java/lang/IndexOutOfBoundsException" S)) (hf : f ≤ 8) (hw : w ≤ 160) : zCW l D zcls (ztyl K) y_La_count (.codeWith y_La_count b_La_count 5 (some .int) [(0, 10, 13, 21), (0, 10, 17, 15)]) { frames := 9, cells := 1, slots := 6, locals := 200 } [.ref (ad 0), .int v0, .int v1, .ref (ad 12)] ad (Lay K ad S) (zP K ad (some (.int 1)) S) := by
  refine zCW.of (by decide +kernel) (Nat.le_of_ble_eq_true rfl) ?_
  intro x hx hr hml hrm hq htb hNc
  show zV x ad (Lay K ad S) 0 0 [(0, .ref (ad 0)), (1, .int v0), (2, .int v1), (3, .ref (ad 12))] 0 []
  refine z_aload_n hx 3 d_La_count_0 rfl ?_
  refine z_iconst (v := 0) hx d_La_count_1 rfl ?_
  refine z_aload_n hx 0 d_La_count_2 rfl ?_
  refine z_iload_n hx 1 d_La_count_3 rfl ?_
  refine z_iload_n hx 2 d_La_count_4 rfl ?_
  refine z_catV hx hM k_TD (t := 0) rfl ⟨a3_145, a3_148, a1_1, ⟨by decide +kernel, by decide +kernel⟩, fun sig h => by cases h; rfl⟩ a3_146 a3_147 rfl rfl d_La_count_5 (by rw [hrm]; exact ⟨by show f + 1 ≤ 9; omega, by show 2 + (4 + 11) + w ≤ 200; omega, by show 0 + 1 ≤ 1; omega, by show 0 + 6 ≤ 6; omega⟩) htb [] [(0, 10, 17, 15)] rfl (fun z hz => nomatch hz) (by decide) (by decide) (by decide) a2_56 a2_12 (fun q => ?_)
  refine z_astore hx [(4, .ref q), (0, .ref (ad 0)), (1, .int v0), (2, .int v1), (3, .ref (ad 12))] d_La_count_13 (zN hml (by decide)) rfl ?_
  refine z_iconst (v := 1) hx d_La_count_15 rfl ?_
  exact z_iret hx hr rfl hq (Nat.le_refl _) (Nat.le_refl _) d_La_count_16 ⟨rfl, rfl, rfl⟩
set_option maxRecDepth 20000 in
theorem wt_count_2 {l : Launch} {D : va_G} {K : Nat → ClassId} {ad : Nat → Nat} {S : zSt} {v0 : Int32} {v1 : Int32} {f w : Nat} (hM : zC l TB D zcls (ztyl K) y_TD_count (.code y_TD_count b_TD_count 4 (some FieldType.int)) (rmx f w) [.ref (ad 0), .int v0, .int v1] ad (Lay K ad S) (zX0 K ad "java/lang/IllegalStateException" S)) (hf : f ≤ 8) (hw : w ≤ 160) : zCW l D zcls (ztyl K) y_La_count (.codeWith y_La_count b_La_count 5 (some .int) [(0, 10, 13, 21), (0, 10, 17, 15)]) { frames := 9, cells := 1, slots := 6, locals := 200 } [.ref (ad 0), .int v0, .int v1, .ref (ad 12)] ad (Lay K ad S) (zP K ad (some (.int 2)) S) := by
  refine zCW.of (by decide +kernel) (Nat.le_of_ble_eq_true rfl) ?_
  intro x hx hr hml hrm hq htb hNc
  show zV x ad (Lay K ad S) 0 0 [(0, .ref (ad 0)), (1, .int v0), (2, .int v1), (3, .ref (ad 12))] 0 []
  refine z_aload_n hx 3 d_La_count_0 rfl ?_
  refine z_iconst (v := 0) hx d_La_count_1 rfl ?_
  refine z_aload_n hx 0 d_La_count_2 rfl ?_
  refine z_iload_n hx 1 d_La_count_3 rfl ?_
  refine z_iload_n hx 2 d_La_count_4 rfl ?_
  refine z_catV hx hM k_TD (t := 0) rfl ⟨a3_145, a3_148, a1_1, ⟨by decide +kernel, by decide +kernel⟩, fun sig h => by cases h; rfl⟩ a3_146 a3_147 rfl rfl d_La_count_5 (by rw [hrm]; exact ⟨by show f + 1 ≤ 9; omega, by show 2 + (4 + 11) + w ≤ 200; omega, by show 0 + 1 ≤ 1; omega, by show 0 + 6 ≤ 6; omega⟩) htb [(0, 10, 13, 21)] [] rfl (fun z hz => by rcases List.mem_singleton.mp hz with rfl; exact ⟨by decide, _, a2_56, hNc.2.2.1⟩) (by decide) (by decide) (by decide) a1_165 a2_27 (fun q => ?_)
  refine z_astore hx [(4, .ref q), (0, .ref (ad 0)), (1, .int v0), (2, .int v1), (3, .ref (ad 12))] d_La_count_17 (zN hml (by decide)) rfl ?_
  refine z_iconst (v := 2) hx d_La_count_19 rfl ?_
  exact z_iret hx hr rfl hq (Nat.le_refl _) (Nat.le_refl _) d_La_count_20 ⟨rfl, rfl, rfl⟩
set_option maxRecDepth 20000 in
theorem wo_spread {l : Launch} {D : va_G} {K : Nat → ClassId} {ad : Nat → Nat} {S : zSt} {v0 : Int32} {rm : Room} {post' : zQ} {PP : Int32 → (Nat → Nat) → zSt → Prop} (hM : zC l TB D zcls (ztyl K) y_TD_spread (.code y_TD_spread b_TD_spread 3 (some FieldType.int)) rm [.ref (ad 0), .int v0] ad (Lay K ad S) (post')) (hf : rm.frames ≤ 8) (hw : rm.locals ≤ 160) (hp : ∀ r ad' ce', post' r ad' ce' → ∃ z S1, r = .inl (some (.int z)) ∧ zLo ad ad' ∧ ce' = Lay K ad' S1 ∧ PP z ad' S1) : zCW l D zcls (ztyl K) y_La_spread (.codeWith y_La_spread b_La_spread 4 (some .int) [(0, 9, 12, 21), (0, 9, 15, 15)]) { frames := 9, cells := rm.cells, slots := rm.slots, locals := 200 } [.ref (ad 0), .int v0, .ref (ad 12)] ad (Lay K ad S) (fun r ad' ce' => r = .inl (some (.int 0)) ∧ ∃ z S1, PP z ad' S1 ∧ zLo ad ad' ∧ ce' = Lay K ad' (stL S1 12 0 z.toInt64)) := by
  refine zCW.of (by decide +kernel) (Nat.le_of_ble_eq_true rfl) ?_
  intro x hx hr hml hrm hq htb hNc
  show zV x ad (Lay K ad S) 0 0 [(0, .ref (ad 0)), (1, .int v0), (2, .ref (ad 12))] 0 []
  refine z_aload_n hx 2 d_La_spread_0 rfl ?_
  refine z_iconst (v := 0) hx d_La_spread_1 rfl ?_
  refine z_aload_n hx 0 d_La_spread_2 rfl ?_
  refine z_iload_n hx 1 d_La_spread_3 rfl ?_
  refine z_retV hx k_TD (t := 0) rfl hM ⟨a3_156, a3_159, a1_1, ⟨by decide +kernel, by decide +kernel⟩, fun sig h => by cases h; rfl⟩ a3_157 a3_158 rfl rfl d_La_spread_4 (by rw [hrm]; exact ⟨by show rm.frames + 1 ≤ 9; omega, by show 2 + (3 + 11) + rm.locals ≤ 200; omega, by show 0 + rm.cells ≤ rm.cells; omega, by show 0 + rm.slots ≤ rm.slots; omega⟩) (fun E ad' ce' h => by obtain ⟨z, S1, h1, -⟩ := hp _ _ _ h; cases h1) (fun v ad' ce' h => ?_)
  obtain ⟨z, S1, h1, hlo, rfl, hP⟩ := hp _ _ _ h
  cases h1
  have g12 : ad' 12 = ad 12 := hlo 12 (by omega)
  show zV x ad' (Lay K ad' S1) (0 + rm.cells) (0 + rm.slots) [(0, .ref (ad 0)), (1, .int v0), (2, .ref (ad 12))] 7 [.int z, .int 0, .ref (ad 12)]
  rw [← g12]
  refine z_i2l hx d_La_spread_7 ?_
  refine z_lastK hx 1 rfl (t := 12) rfl (k := 0) (by decide) (by decide) d_La_spread_8 (ce1 := Lay K ad' (stL S1 12 0 z.toInt64)) (Lay_putL rfl) ?_
  refine z_goto (tgt := 18) hx d_La_spread_9 (by decide) ?_
  refine z_iconst (v := 0) hx d_La_spread_18 rfl ?_
  exact z_iret hx hr rfl hq (by rw [Nat.zero_add]; exact Nat.le_refl _) (by rw [Nat.zero_add]; exact Nat.le_refl _) d_La_spread_19 ⟨rfl, z, S1, hP, hlo, rfl⟩
set_option maxRecDepth 20000 in
theorem wt_spread_1 {l : Launch} {D : va_G} {K : Nat → ClassId} {ad : Nat → Nat} {S : zSt} {v0 : Int32} {f w : Nat} (hM : zC l TB D zcls (ztyl K) y_TD_spread (.code y_TD_spread b_TD_spread 3 (some FieldType.int)) (rmx f w) [.ref (ad 0), .int v0] ad (Lay K ad S) (zX0 K ad "java/lang/IndexOutOfBoundsException" S)) (hf : f ≤ 8) (hw : w ≤ 160) : zCW l D zcls (ztyl K) y_La_spread (.codeWith y_La_spread b_La_spread 4 (some .int) [(0, 9, 12, 21), (0, 9, 15, 15)]) { frames := 9, cells := 1, slots := 6, locals := 200 } [.ref (ad 0), .int v0, .ref (ad 12)] ad (Lay K ad S) (zP K ad (some (.int 1)) S) := by
  refine zCW.of (by decide +kernel) (Nat.le_of_ble_eq_true rfl) ?_
  intro x hx hr hml hrm hq htb hNc
  show zV x ad (Lay K ad S) 0 0 [(0, .ref (ad 0)), (1, .int v0), (2, .ref (ad 12))] 0 []
  refine z_aload_n hx 2 d_La_spread_0 rfl ?_
  refine z_iconst (v := 0) hx d_La_spread_1 rfl ?_
  refine z_aload_n hx 0 d_La_spread_2 rfl ?_
  refine z_iload_n hx 1 d_La_spread_3 rfl ?_
  refine z_catV hx hM k_TD (t := 0) rfl ⟨a3_156, a3_159, a1_1, ⟨by decide +kernel, by decide +kernel⟩, fun sig h => by cases h; rfl⟩ a3_157 a3_158 rfl rfl d_La_spread_4 (by rw [hrm]; exact ⟨by show f + 1 ≤ 9; omega, by show 2 + (3 + 11) + w ≤ 200; omega, by show 0 + 1 ≤ 1; omega, by show 0 + 6 ≤ 6; omega⟩) htb [] [(0, 9, 15, 15)] rfl (fun z hz => nomatch hz) (by decide) (by decide) (by decide) a2_56 a2_12 (fun q => ?_)
  refine z_astore_n hx [(3, .ref q), (0, .ref (ad 0)), (1, .int v0), (2, .ref (ad 12))] d_La_spread_12 rfl (zN hml (by decide)) rfl ?_
  refine z_iconst (v := 1) hx d_La_spread_13 rfl ?_
  exact z_iret hx hr rfl hq (Nat.le_refl _) (Nat.le_refl _) d_La_spread_14 ⟨rfl, rfl, rfl⟩
set_option maxRecDepth 20000 in
theorem wt_spread_2 {l : Launch} {D : va_G} {K : Nat → ClassId} {ad : Nat → Nat} {S : zSt} {v0 : Int32} {f w : Nat} (hM : zC l TB D zcls (ztyl K) y_TD_spread (.code y_TD_spread b_TD_spread 3 (some FieldType.int)) (rmx f w) [.ref (ad 0), .int v0] ad (Lay K ad S) (zX0 K ad "java/lang/IllegalStateException" S)) (hf : f ≤ 8) (hw : w ≤ 160) : zCW l D zcls (ztyl K) y_La_spread (.codeWith y_La_spread b_La_spread 4 (some .int) [(0, 9, 12, 21), (0, 9, 15, 15)]) { frames := 9, cells := 1, slots := 6, locals := 200 } [.ref (ad 0), .int v0, .ref (ad 12)] ad (Lay K ad S) (zP K ad (some (.int 2)) S) := by
  refine zCW.of (by decide +kernel) (Nat.le_of_ble_eq_true rfl) ?_
  intro x hx hr hml hrm hq htb hNc
  show zV x ad (Lay K ad S) 0 0 [(0, .ref (ad 0)), (1, .int v0), (2, .ref (ad 12))] 0 []
  refine z_aload_n hx 2 d_La_spread_0 rfl ?_
  refine z_iconst (v := 0) hx d_La_spread_1 rfl ?_
  refine z_aload_n hx 0 d_La_spread_2 rfl ?_
  refine z_iload_n hx 1 d_La_spread_3 rfl ?_
  refine z_catV hx hM k_TD (t := 0) rfl ⟨a3_156, a3_159, a1_1, ⟨by decide +kernel, by decide +kernel⟩, fun sig h => by cases h; rfl⟩ a3_157 a3_158 rfl rfl d_La_spread_4 (by rw [hrm]; exact ⟨by show f + 1 ≤ 9; omega, by show 2 + (3 + 11) + w ≤ 200; omega, by show 0 + 1 ≤ 1; omega, by show 0 + 6 ≤ 6; omega⟩) htb [(0, 9, 12, 21)] [] rfl (fun z hz => by rcases List.mem_singleton.mp hz with rfl; exact ⟨by decide, _, a2_56, hNc.2.2.1⟩) (by decide) (by decide) (by decide) a1_165 a2_27 (fun q => ?_)
  refine z_astore_n hx [(3, .ref q), (0, .ref (ad 0)), (1, .int v0), (2, .ref (ad 12))] d_La_spread_15 rfl (zN hml (by decide)) rfl ?_
  refine z_iconst (v := 2) hx d_La_spread_16 rfl ?_
  exact z_iret hx hr rfl hq (Nat.le_refl _) (Nat.le_refl _) d_La_spread_17 ⟨rfl, rfl, rfl⟩
set_option maxRecDepth 20000 in
theorem wo_entry {l : Launch} {D : va_G} {K : Nat → ClassId} {ad : Nat → Nat} {S : zSt} {v0 : Int32} {v1 : Int32} {rm : Room} {post' : zQ} {PP : Int32 → (Nat → Nat) → zSt → Prop} (hM : zC l TB D zcls (ztyl K) y_TD_entry (.code y_TD_entry b_TD_entry 4 (some FieldType.int)) rm [.ref (ad 0), .int v0, .int v1] ad (Lay K ad S) (post')) (hf : rm.frames ≤ 8) (hw : rm.locals ≤ 160) (hp : ∀ r ad' ce', post' r ad' ce' → ∃ z S1, r = .inl (some (.int z)) ∧ zLo ad ad' ∧ ce' = Lay K ad' S1 ∧ PP z ad' S1) : zCW l D zcls (ztyl K) y_La_entry (.codeWith y_La_entry b_La_entry 5 (some .int) [(0, 10, 13, 21)]) { frames := 9, cells := rm.cells, slots := rm.slots, locals := 200 } [.ref (ad 0), .int v0, .int v1, .ref (ad 12)] ad (Lay K ad S) (fun r ad' ce' => r = .inl (some (.int 0)) ∧ ∃ z S1, PP z ad' S1 ∧ zLo ad ad' ∧ ce' = Lay K ad' (stL S1 12 0 z.toInt64)) := by
  refine zCW.of (by decide +kernel) (Nat.le_of_ble_eq_true rfl) ?_
  intro x hx hr hml hrm hq htb hNc
  show zV x ad (Lay K ad S) 0 0 [(0, .ref (ad 0)), (1, .int v0), (2, .int v1), (3, .ref (ad 12))] 0 []
  refine z_aload_n hx 3 d_La_entry_0 rfl ?_
  refine z_iconst (v := 0) hx d_La_entry_1 rfl ?_
  refine z_aload_n hx 0 d_La_entry_2 rfl ?_
  refine z_iload_n hx 1 d_La_entry_3 rfl ?_
  refine z_iload_n hx 2 d_La_entry_4 rfl ?_
  refine z_retV hx k_TD (t := 0) rfl hM ⟨a3_172, a3_175, a1_1, ⟨by decide +kernel, by decide +kernel⟩, fun sig h => by cases h; rfl⟩ a3_173 a3_174 rfl rfl d_La_entry_5 (by rw [hrm]; exact ⟨by show rm.frames + 1 ≤ 9; omega, by show 2 + (4 + 11) + rm.locals ≤ 200; omega, by show 0 + rm.cells ≤ rm.cells; omega, by show 0 + rm.slots ≤ rm.slots; omega⟩) (fun E ad' ce' h => by obtain ⟨z, S1, h1, -⟩ := hp _ _ _ h; cases h1) (fun v ad' ce' h => ?_)
  obtain ⟨z, S1, h1, hlo, rfl, hP⟩ := hp _ _ _ h
  cases h1
  have g12 : ad' 12 = ad 12 := hlo 12 (by omega)
  show zV x ad' (Lay K ad' S1) (0 + rm.cells) (0 + rm.slots) [(0, .ref (ad 0)), (1, .int v0), (2, .int v1), (3, .ref (ad 12))] 8 [.int z, .int 0, .ref (ad 12)]
  rw [← g12]
  refine z_i2l hx d_La_entry_8 ?_
  refine z_lastK hx 1 rfl (t := 12) rfl (k := 0) (by decide) (by decide) d_La_entry_9 (ce1 := Lay K ad' (stL S1 12 0 z.toInt64)) (Lay_putL rfl) ?_
  refine z_goto (tgt := 17) hx d_La_entry_10 (by decide) ?_
  refine z_iconst (v := 0) hx d_La_entry_17 rfl ?_
  exact z_iret hx hr rfl hq (by rw [Nat.zero_add]; exact Nat.le_refl _) (by rw [Nat.zero_add]; exact Nat.le_refl _) d_La_entry_18 ⟨rfl, z, S1, hP, hlo, rfl⟩
set_option maxRecDepth 20000 in
theorem wt_entry_1 {l : Launch} {D : va_G} {K : Nat → ClassId} {ad : Nat → Nat} {S : zSt} {v0 : Int32} {v1 : Int32} {f w : Nat} (hM : zC l TB D zcls (ztyl K) y_TD_entry (.code y_TD_entry b_TD_entry 4 (some FieldType.int)) (rmx f w) [.ref (ad 0), .int v0, .int v1] ad (Lay K ad S) (zX0 K ad "java/lang/IndexOutOfBoundsException" S)) (hf : f ≤ 8) (hw : w ≤ 160) : zCW l D zcls (ztyl K) y_La_entry (.codeWith y_La_entry b_La_entry 5 (some .int) [(0, 10, 13, 21)]) { frames := 9, cells := 1, slots := 6, locals := 200 } [.ref (ad 0), .int v0, .int v1, .ref (ad 12)] ad (Lay K ad S) (zP K ad (some (.int 1)) S) := by
  refine zCW.of (by decide +kernel) (Nat.le_of_ble_eq_true rfl) ?_
  intro x hx hr hml hrm hq htb hNc
  show zV x ad (Lay K ad S) 0 0 [(0, .ref (ad 0)), (1, .int v0), (2, .int v1), (3, .ref (ad 12))] 0 []
  refine z_aload_n hx 3 d_La_entry_0 rfl ?_
  refine z_iconst (v := 0) hx d_La_entry_1 rfl ?_
  refine z_aload_n hx 0 d_La_entry_2 rfl ?_
  refine z_iload_n hx 1 d_La_entry_3 rfl ?_
  refine z_iload_n hx 2 d_La_entry_4 rfl ?_
  refine z_catV hx hM k_TD (t := 0) rfl ⟨a3_172, a3_175, a1_1, ⟨by decide +kernel, by decide +kernel⟩, fun sig h => by cases h; rfl⟩ a3_173 a3_174 rfl rfl d_La_entry_5 (by rw [hrm]; exact ⟨by show f + 1 ≤ 9; omega, by show 2 + (4 + 11) + w ≤ 200; omega, by show 0 + 1 ≤ 1; omega, by show 0 + 6 ≤ 6; omega⟩) htb [] [] rfl (fun z hz => nomatch hz) (by decide) (by decide) (by decide) a2_56 a2_12 (fun q => ?_)
  refine z_astore hx [(4, .ref q), (0, .ref (ad 0)), (1, .int v0), (2, .int v1), (3, .ref (ad 12))] d_La_entry_13 (zN hml (by decide)) rfl ?_
  refine z_iconst (v := 1) hx d_La_entry_15 rfl ?_
  exact z_iret hx hr rfl hq (Nat.le_refl _) (Nat.le_refl _) d_La_entry_16 ⟨rfl, rfl, rfl⟩
set_option maxRecDepth 20000 in
theorem wo_blocks {l : Launch} {D : va_G} {K : Nat → ClassId} {ad : Nat → Nat} {S : zSt} {v0 : Int32} {rm : Room} {post' : zQ} {PP : Int32 → (Nat → Nat) → zSt → Prop} (hM : zC l TB D zcls (ztyl K) y_TD_blocks (.code y_TD_blocks b_TD_blocks 2 (some FieldType.int)) rm [.ref (ad 0), .int v0] ad (Lay K ad S) (post')) (hf : rm.frames ≤ 8) (hw : rm.locals ≤ 160) (hp : ∀ r ad' ce', post' r ad' ce' → ∃ z S1, r = .inl (some (.int z)) ∧ zLo ad ad' ∧ ce' = Lay K ad' S1 ∧ PP z ad' S1) : zCW l D zcls (ztyl K) y_La_blocks (.codeWith y_La_blocks b_La_blocks 4 (some .int) [(0, 9, 12, 21)]) { frames := 9, cells := rm.cells, slots := rm.slots, locals := 200 } [.ref (ad 0), .int v0, .ref (ad 12)] ad (Lay K ad S) (fun r ad' ce' => r = .inl (some (.int 0)) ∧ ∃ z S1, PP z ad' S1 ∧ zLo ad ad' ∧ ce' = Lay K ad' (stL S1 12 0 z.toInt64)) := by
  refine zCW.of (by decide +kernel) (Nat.le_of_ble_eq_true rfl) ?_
  intro x hx hr hml hrm hq htb hNc
  show zV x ad (Lay K ad S) 0 0 [(0, .ref (ad 0)), (1, .int v0), (2, .ref (ad 12))] 0 []
  refine z_aload_n hx 2 d_La_blocks_0 rfl ?_
  refine z_iconst (v := 0) hx d_La_blocks_1 rfl ?_
  refine z_aload_n hx 0 d_La_blocks_2 rfl ?_
  refine z_iload_n hx 1 d_La_blocks_3 rfl ?_
  refine z_retV hx k_TD (t := 0) rfl hM ⟨a3_183, a3_186, a1_1, ⟨by decide +kernel, by decide +kernel⟩, fun sig h => by cases h; rfl⟩ a3_184 a3_185 rfl rfl d_La_blocks_4 (by rw [hrm]; exact ⟨by show rm.frames + 1 ≤ 9; omega, by show 2 + (2 + 11) + rm.locals ≤ 200; omega, by show 0 + rm.cells ≤ rm.cells; omega, by show 0 + rm.slots ≤ rm.slots; omega⟩) (fun E ad' ce' h => by obtain ⟨z, S1, h1, -⟩ := hp _ _ _ h; cases h1) (fun v ad' ce' h => ?_)
  obtain ⟨z, S1, h1, hlo, rfl, hP⟩ := hp _ _ _ h
  cases h1
  have g12 : ad' 12 = ad 12 := hlo 12 (by omega)
  show zV x ad' (Lay K ad' S1) (0 + rm.cells) (0 + rm.slots) [(0, .ref (ad 0)), (1, .int v0), (2, .ref (ad 12))] 7 [.int z, .int 0, .ref (ad 12)]
  rw [← g12]
  refine z_i2l hx d_La_blocks_7 ?_
  refine z_lastK hx 1 rfl (t := 12) rfl (k := 0) (by decide) (by decide) d_La_blocks_8 (ce1 := Lay K ad' (stL S1 12 0 z.toInt64)) (Lay_putL rfl) ?_
  refine z_goto (tgt := 15) hx d_La_blocks_9 (by decide) ?_
  refine z_iconst (v := 0) hx d_La_blocks_15 rfl ?_
  exact z_iret hx hr rfl hq (by rw [Nat.zero_add]; exact Nat.le_refl _) (by rw [Nat.zero_add]; exact Nat.le_refl _) d_La_blocks_16 ⟨rfl, z, S1, hP, hlo, rfl⟩
set_option maxRecDepth 20000 in
theorem wt_blocks_1 {l : Launch} {D : va_G} {K : Nat → ClassId} {ad : Nat → Nat} {S : zSt} {v0 : Int32} {f w : Nat} (hM : zC l TB D zcls (ztyl K) y_TD_blocks (.code y_TD_blocks b_TD_blocks 2 (some FieldType.int)) (rmx f w) [.ref (ad 0), .int v0] ad (Lay K ad S) (zX0 K ad "java/lang/IndexOutOfBoundsException" S)) (hf : f ≤ 8) (hw : w ≤ 160) : zCW l D zcls (ztyl K) y_La_blocks (.codeWith y_La_blocks b_La_blocks 4 (some .int) [(0, 9, 12, 21)]) { frames := 9, cells := 1, slots := 6, locals := 200 } [.ref (ad 0), .int v0, .ref (ad 12)] ad (Lay K ad S) (zP K ad (some (.int 1)) S) := by
  refine zCW.of (by decide +kernel) (Nat.le_of_ble_eq_true rfl) ?_
  intro x hx hr hml hrm hq htb hNc
  show zV x ad (Lay K ad S) 0 0 [(0, .ref (ad 0)), (1, .int v0), (2, .ref (ad 12))] 0 []
  refine z_aload_n hx 2 d_La_blocks_0 rfl ?_
  refine z_iconst (v := 0) hx d_La_blocks_1 rfl ?_
  refine z_aload_n hx 0 d_La_blocks_2 rfl ?_
  refine z_iload_n hx 1 d_La_blocks_3 rfl ?_
  refine z_catV hx hM k_TD (t := 0) rfl ⟨a3_183, a3_186, a1_1, ⟨by decide +kernel, by decide +kernel⟩, fun sig h => by cases h; rfl⟩ a3_184 a3_185 rfl rfl d_La_blocks_4 (by rw [hrm]; exact ⟨by show f + 1 ≤ 9; omega, by show 2 + (2 + 11) + w ≤ 200; omega, by show 0 + 1 ≤ 1; omega, by show 0 + 6 ≤ 6; omega⟩) htb [] [] rfl (fun z hz => nomatch hz) (by decide) (by decide) (by decide) a2_56 a2_12 (fun q => ?_)
  refine z_astore_n hx [(3, .ref q), (0, .ref (ad 0)), (1, .int v0), (2, .ref (ad 12))] d_La_blocks_12 rfl (zN hml (by decide)) rfl ?_
  refine z_iconst (v := 1) hx d_La_blocks_13 rfl ?_
  exact z_iret hx hr rfl hq (Nat.le_refl _) (Nat.le_refl _) d_La_blocks_14 ⟨rfl, rfl, rfl⟩
set_option maxRecDepth 20000 in
theorem wo_stock {l : Launch} {D : va_G} {K : Nat → ClassId} {ad : Nat → Nat} {S : zSt} {v0 : Int32} {v1 : Int32} {rm : Room} {post' : zQ} {PP : Int32 → (Nat → Nat) → zSt → Prop} (hM : zC l TB D zcls (ztyl K) y_TD_stock (.code y_TD_stock b_TD_stock 3 (some FieldType.int)) rm [.ref (ad 0), .int v0, .int v1] ad (Lay K ad S) (post')) (hf : rm.frames ≤ 8) (hw : rm.locals ≤ 160) (hp : ∀ r ad' ce', post' r ad' ce' → ∃ z S1, r = .inl (some (.int z)) ∧ zLo ad ad' ∧ ce' = Lay K ad' S1 ∧ PP z ad' S1) : zCW l D zcls (ztyl K) y_La_stock (.codeWith y_La_stock b_La_stock 5 (some .int) [(0, 10, 13, 21), (0, 10, 17, 13)]) { frames := 9, cells := rm.cells, slots := rm.slots, locals := 200 } [.ref (ad 0), .int v0, .int v1, .ref (ad 12)] ad (Lay K ad S) (fun r ad' ce' => r = .inl (some (.int 0)) ∧ ∃ z S1, PP z ad' S1 ∧ zLo ad ad' ∧ ce' = Lay K ad' (stL S1 12 0 z.toInt64)) := by
  refine zCW.of (by decide +kernel) (Nat.le_of_ble_eq_true rfl) ?_
  intro x hx hr hml hrm hq htb hNc
  show zV x ad (Lay K ad S) 0 0 [(0, .ref (ad 0)), (1, .int v0), (2, .int v1), (3, .ref (ad 12))] 0 []
  refine z_aload_n hx 3 d_La_stock_0 rfl ?_
  refine z_iconst (v := 0) hx d_La_stock_1 rfl ?_
  refine z_aload_n hx 0 d_La_stock_2 rfl ?_
  refine z_iload_n hx 1 d_La_stock_3 rfl ?_
  refine z_iload_n hx 2 d_La_stock_4 rfl ?_
  refine z_retV hx k_TD (t := 0) rfl hM ⟨a3_190, a3_193, a1_1, ⟨by decide +kernel, by decide +kernel⟩, fun sig h => by cases h; rfl⟩ a3_191 a3_192 rfl rfl d_La_stock_5 (by rw [hrm]; exact ⟨by show rm.frames + 1 ≤ 9; omega, by show 2 + (3 + 11) + rm.locals ≤ 200; omega, by show 0 + rm.cells ≤ rm.cells; omega, by show 0 + rm.slots ≤ rm.slots; omega⟩) (fun E ad' ce' h => by obtain ⟨z, S1, h1, -⟩ := hp _ _ _ h; cases h1) (fun v ad' ce' h => ?_)
  obtain ⟨z, S1, h1, hlo, rfl, hP⟩ := hp _ _ _ h
  cases h1
  have g12 : ad' 12 = ad 12 := hlo 12 (by omega)
  show zV x ad' (Lay K ad' S1) (0 + rm.cells) (0 + rm.slots) [(0, .ref (ad 0)), (1, .int v0), (2, .int v1), (3, .ref (ad 12))] 8 [.int z, .int 0, .ref (ad 12)]
  rw [← g12]
  refine z_i2l hx d_La_stock_8 ?_
  refine z_lastK hx 1 rfl (t := 12) rfl (k := 0) (by decide) (by decide) d_La_stock_9 (ce1 := Lay K ad' (stL S1 12 0 z.toInt64)) (Lay_putL rfl) ?_
  refine z_goto (tgt := 21) hx d_La_stock_10 (by decide) ?_
  refine z_iconst (v := 0) hx d_La_stock_21 rfl ?_
  exact z_iret hx hr rfl hq (by rw [Nat.zero_add]; exact Nat.le_refl _) (by rw [Nat.zero_add]; exact Nat.le_refl _) d_La_stock_22 ⟨rfl, z, S1, hP, hlo, rfl⟩
set_option maxRecDepth 20000 in
theorem wt_stock_1 {l : Launch} {D : va_G} {K : Nat → ClassId} {ad : Nat → Nat} {S : zSt} {v0 : Int32} {v1 : Int32} {f w : Nat} (hM : zC l TB D zcls (ztyl K) y_TD_stock (.code y_TD_stock b_TD_stock 3 (some FieldType.int)) (rmx f w) [.ref (ad 0), .int v0, .int v1] ad (Lay K ad S) (zX0 K ad "java/lang/IndexOutOfBoundsException" S)) (hf : f ≤ 8) (hw : w ≤ 160) : zCW l D zcls (ztyl K) y_La_stock (.codeWith y_La_stock b_La_stock 5 (some .int) [(0, 10, 13, 21), (0, 10, 17, 13)]) { frames := 9, cells := 1, slots := 6, locals := 200 } [.ref (ad 0), .int v0, .int v1, .ref (ad 12)] ad (Lay K ad S) (zP K ad (some (.int 1)) S) := by
  refine zCW.of (by decide +kernel) (Nat.le_of_ble_eq_true rfl) ?_
  intro x hx hr hml hrm hq htb hNc
  show zV x ad (Lay K ad S) 0 0 [(0, .ref (ad 0)), (1, .int v0), (2, .int v1), (3, .ref (ad 12))] 0 []
  refine z_aload_n hx 3 d_La_stock_0 rfl ?_
  refine z_iconst (v := 0) hx d_La_stock_1 rfl ?_
  refine z_aload_n hx 0 d_La_stock_2 rfl ?_
  refine z_iload_n hx 1 d_La_stock_3 rfl ?_
  refine z_iload_n hx 2 d_La_stock_4 rfl ?_
  refine z_catV hx hM k_TD (t := 0) rfl ⟨a3_190, a3_193, a1_1, ⟨by decide +kernel, by decide +kernel⟩, fun sig h => by cases h; rfl⟩ a3_191 a3_192 rfl rfl d_La_stock_5 (by rw [hrm]; exact ⟨by show f + 1 ≤ 9; omega, by show 2 + (3 + 11) + w ≤ 200; omega, by show 0 + 1 ≤ 1; omega, by show 0 + 6 ≤ 6; omega⟩) htb [] [(0, 10, 17, 13)] rfl (fun z hz => nomatch hz) (by decide) (by decide) (by decide) a2_56 a2_12 (fun q => ?_)
  refine z_astore hx [(4, .ref q), (0, .ref (ad 0)), (1, .int v0), (2, .int v1), (3, .ref (ad 12))] d_La_stock_13 (zN hml (by decide)) rfl ?_
  refine z_iconst (v := 1) hx d_La_stock_15 rfl ?_
  exact z_iret hx hr rfl hq (Nat.le_refl _) (Nat.le_refl _) d_La_stock_16 ⟨rfl, rfl, rfl⟩
set_option maxRecDepth 20000 in
theorem wt_stock_2 {l : Launch} {D : va_G} {K : Nat → ClassId} {ad : Nat → Nat} {S : zSt} {v0 : Int32} {v1 : Int32} {f w : Nat} (hM : zC l TB D zcls (ztyl K) y_TD_stock (.code y_TD_stock b_TD_stock 3 (some FieldType.int)) (rmx f w) [.ref (ad 0), .int v0, .int v1] ad (Lay K ad S) (zX0 K ad "java/lang/IllegalArgumentException" S)) (hf : f ≤ 8) (hw : w ≤ 160) : zCW l D zcls (ztyl K) y_La_stock (.codeWith y_La_stock b_La_stock 5 (some .int) [(0, 10, 13, 21), (0, 10, 17, 13)]) { frames := 9, cells := 1, slots := 6, locals := 200 } [.ref (ad 0), .int v0, .int v1, .ref (ad 12)] ad (Lay K ad S) (zP K ad (some (.int 2)) S) := by
  refine zCW.of (by decide +kernel) (Nat.le_of_ble_eq_true rfl) ?_
  intro x hx hr hml hrm hq htb hNc
  show zV x ad (Lay K ad S) 0 0 [(0, .ref (ad 0)), (1, .int v0), (2, .int v1), (3, .ref (ad 12))] 0 []
  refine z_aload_n hx 3 d_La_stock_0 rfl ?_
  refine z_iconst (v := 0) hx d_La_stock_1 rfl ?_
  refine z_aload_n hx 0 d_La_stock_2 rfl ?_
  refine z_iload_n hx 1 d_La_stock_3 rfl ?_
  refine z_iload_n hx 2 d_La_stock_4 rfl ?_
  refine z_catV hx hM k_TD (t := 0) rfl ⟨a3_190, a3_193, a1_1, ⟨by decide +kernel, by decide +kernel⟩, fun sig h => by cases h; rfl⟩ a3_191 a3_192 rfl rfl d_La_stock_5 (by rw [hrm]; exact ⟨by show f + 1 ≤ 9; omega, by show 2 + (3 + 11) + w ≤ 200; omega, by show 0 + 1 ≤ 1; omega, by show 0 + 6 ≤ 6; omega⟩) htb [(0, 10, 13, 21)] [] rfl (fun z hz => by rcases List.mem_singleton.mp hz with rfl; exact ⟨by decide, _, a2_56, hNc.2.1⟩) (by decide) (by decide) (by decide) a1_164 a1_181 (fun q => ?_)
  refine z_astore hx [(4, .ref q), (0, .ref (ad 0)), (1, .int v0), (2, .int v1), (3, .ref (ad 12))] d_La_stock_17 (zN hml (by decide)) rfl ?_
  refine z_iconst (v := 2) hx d_La_stock_19 rfl ?_
  exact z_iret hx hr rfl hq (Nat.le_refl _) (Nat.le_refl _) d_La_stock_20 ⟨rfl, rfl, rfl⟩
set_option maxRecDepth 20000 in
theorem wo_used {l : Launch} {D : va_G} {K : Nat → ClassId} {ad : Nat → Nat} {S : zSt} {v0 : Int32} {rm : Room} {post' : zQ} {PP : Int32 → (Nat → Nat) → zSt → Prop} (hM : zC l TB D zcls (ztyl K) y_TD_used (.code y_TD_used b_TD_used 2 (some FieldType.int)) rm [.ref (ad 0), .int v0] ad (Lay K ad S) (post')) (hf : rm.frames ≤ 8) (hw : rm.locals ≤ 160) (hp : ∀ r ad' ce', post' r ad' ce' → ∃ z S1, r = .inl (some (.int z)) ∧ zLo ad ad' ∧ ce' = Lay K ad' S1 ∧ PP z ad' S1) : zCW l D zcls (ztyl K) y_La_used (.codeWith y_La_used b_La_used 4 (some .int) [(0, 9, 12, 21)]) { frames := 9, cells := rm.cells, slots := rm.slots, locals := 200 } [.ref (ad 0), .int v0, .ref (ad 12)] ad (Lay K ad S) (fun r ad' ce' => r = .inl (some (.int 0)) ∧ ∃ z S1, PP z ad' S1 ∧ zLo ad ad' ∧ ce' = Lay K ad' (stL S1 12 0 z.toInt64)) := by
  refine zCW.of (by decide +kernel) (Nat.le_of_ble_eq_true rfl) ?_
  intro x hx hr hml hrm hq htb hNc
  show zV x ad (Lay K ad S) 0 0 [(0, .ref (ad 0)), (1, .int v0), (2, .ref (ad 12))] 0 []
  refine z_aload_n hx 2 d_La_used_0 rfl ?_
  refine z_iconst (v := 0) hx d_La_used_1 rfl ?_
  refine z_aload_n hx 0 d_La_used_2 rfl ?_
  refine z_iload_n hx 1 d_La_used_3 rfl ?_
  refine z_retV hx k_TD (t := 0) rfl hM ⟨a3_201, a3_204, a1_1, ⟨by decide +kernel, by decide +kernel⟩, fun sig h => by cases h; rfl⟩ a3_202 a3_203 rfl rfl d_La_used_4 (by rw [hrm]; exact ⟨by show rm.frames + 1 ≤ 9; omega, by show 2 + (2 + 11) + rm.locals ≤ 200; omega, by show 0 + rm.cells ≤ rm.cells; omega, by show 0 + rm.slots ≤ rm.slots; omega⟩) (fun E ad' ce' h => by obtain ⟨z, S1, h1, -⟩ := hp _ _ _ h; cases h1) (fun v ad' ce' h => ?_)
  obtain ⟨z, S1, h1, hlo, rfl, hP⟩ := hp _ _ _ h
  cases h1
  have g12 : ad' 12 = ad 12 := hlo 12 (by omega)
  show zV x ad' (Lay K ad' S1) (0 + rm.cells) (0 + rm.slots) [(0, .ref (ad 0)), (1, .int v0), (2, .ref (ad 12))] 7 [.int z, .int 0, .ref (ad 12)]
  rw [← g12]
  refine z_i2l hx d_La_used_7 ?_
  refine z_lastK hx 1 rfl (t := 12) rfl (k := 0) (by decide) (by decide) d_La_used_8 (ce1 := Lay K ad' (stL S1 12 0 z.toInt64)) (Lay_putL rfl) ?_
  refine z_goto (tgt := 15) hx d_La_used_9 (by decide) ?_
  refine z_iconst (v := 0) hx d_La_used_15 rfl ?_
  exact z_iret hx hr rfl hq (by rw [Nat.zero_add]; exact Nat.le_refl _) (by rw [Nat.zero_add]; exact Nat.le_refl _) d_La_used_16 ⟨rfl, z, S1, hP, hlo, rfl⟩
set_option maxRecDepth 20000 in
theorem wt_used_1 {l : Launch} {D : va_G} {K : Nat → ClassId} {ad : Nat → Nat} {S : zSt} {v0 : Int32} {f w : Nat} (hM : zC l TB D zcls (ztyl K) y_TD_used (.code y_TD_used b_TD_used 2 (some FieldType.int)) (rmx f w) [.ref (ad 0), .int v0] ad (Lay K ad S) (zX0 K ad "java/lang/IndexOutOfBoundsException" S)) (hf : f ≤ 8) (hw : w ≤ 160) : zCW l D zcls (ztyl K) y_La_used (.codeWith y_La_used b_La_used 4 (some .int) [(0, 9, 12, 21)]) { frames := 9, cells := 1, slots := 6, locals := 200 } [.ref (ad 0), .int v0, .ref (ad 12)] ad (Lay K ad S) (zP K ad (some (.int 1)) S) := by
  refine zCW.of (by decide +kernel) (Nat.le_of_ble_eq_true rfl) ?_
  intro x hx hr hml hrm hq htb hNc
  show zV x ad (Lay K ad S) 0 0 [(0, .ref (ad 0)), (1, .int v0), (2, .ref (ad 12))] 0 []
  refine z_aload_n hx 2 d_La_used_0 rfl ?_
  refine z_iconst (v := 0) hx d_La_used_1 rfl ?_
  refine z_aload_n hx 0 d_La_used_2 rfl ?_
  refine z_iload_n hx 1 d_La_used_3 rfl ?_
  refine z_catV hx hM k_TD (t := 0) rfl ⟨a3_201, a3_204, a1_1, ⟨by decide +kernel, by decide +kernel⟩, fun sig h => by cases h; rfl⟩ a3_202 a3_203 rfl rfl d_La_used_4 (by rw [hrm]; exact ⟨by show f + 1 ≤ 9; omega, by show 2 + (2 + 11) + w ≤ 200; omega, by show 0 + 1 ≤ 1; omega, by show 0 + 6 ≤ 6; omega⟩) htb [] [] rfl (fun z hz => nomatch hz) (by decide) (by decide) (by decide) a2_56 a2_12 (fun q => ?_)
  refine z_astore_n hx [(3, .ref q), (0, .ref (ad 0)), (1, .int v0), (2, .ref (ad 12))] d_La_used_12 rfl (zN hml (by decide)) rfl ?_
  refine z_iconst (v := 1) hx d_La_used_13 rfl ?_
  exact z_iret hx hr rfl hq (Nat.le_refl _) (Nat.le_refl _) d_La_used_14 ⟨rfl, rfl, rfl⟩
set_option maxRecDepth 20000 in
theorem wo_mount {l : Launch} {D : va_G} {K : Nat → ClassId} {ad : Nat → Nat} {S : zSt}  {rm : Room} {post' : zQ} {PP : Int32 → (Nat → Nat) → zSt → Prop} (hM : zC l TB D zcls (ztyl K) y_TD_mount (.code y_TD_mount b_TD_mount 1 (some FieldType.int)) rm [.ref (ad 0)] ad (Lay K ad S) (post')) (hf : rm.frames ≤ 8) (hw : rm.locals ≤ 160) (hp : ∀ r ad' ce', post' r ad' ce' → ∃ z S1, r = .inl (some (.int z)) ∧ zLo ad ad' ∧ ce' = Lay K ad' S1 ∧ PP z ad' S1) : zCW l D zcls (ztyl K) y_La_mount (.codeWith y_La_mount b_La_mount 3 (some .int) [(0, 8, 11, 15)]) { frames := 9, cells := rm.cells, slots := rm.slots, locals := 200 } [.ref (ad 0), .ref (ad 12)] ad (Lay K ad S) (fun r ad' ce' => r = .inl (some (.int 0)) ∧ ∃ z S1, PP z ad' S1 ∧ zLo ad ad' ∧ ce' = Lay K ad' (stL S1 12 0 z.toInt64)) := by
  refine zCW.of (by decide +kernel) (Nat.le_of_ble_eq_true rfl) ?_
  intro x hx hr hml hrm hq htb hNc
  show zV x ad (Lay K ad S) 0 0 [(0, .ref (ad 0)), (1, .ref (ad 12))] 0 []
  refine z_aload_n hx 1 d_La_mount_0 rfl ?_
  refine z_iconst (v := 0) hx d_La_mount_1 rfl ?_
  refine z_aload_n hx 0 d_La_mount_2 rfl ?_
  refine z_retV hx k_TD (t := 0) rfl hM ⟨a3_212, a3_215, a1_1, ⟨by decide +kernel, by decide +kernel⟩, fun sig h => by cases h; rfl⟩ a3_213 a3_214 rfl rfl d_La_mount_3 (by rw [hrm]; exact ⟨by show rm.frames + 1 ≤ 9; omega, by show 2 + (1 + 11) + rm.locals ≤ 200; omega, by show 0 + rm.cells ≤ rm.cells; omega, by show 0 + rm.slots ≤ rm.slots; omega⟩) (fun E ad' ce' h => by obtain ⟨z, S1, h1, -⟩ := hp _ _ _ h; cases h1) (fun v ad' ce' h => ?_)
  obtain ⟨z, S1, h1, hlo, rfl, hP⟩ := hp _ _ _ h
  cases h1
  have g12 : ad' 12 = ad 12 := hlo 12 (by omega)
  show zV x ad' (Lay K ad' S1) (0 + rm.cells) (0 + rm.slots) [(0, .ref (ad 0)), (1, .ref (ad 12))] 6 [.int z, .int 0, .ref (ad 12)]
  rw [← g12]
  refine z_i2l hx d_La_mount_6 ?_
  refine z_lastK hx 1 rfl (t := 12) rfl (k := 0) (by decide) (by decide) d_La_mount_7 (ce1 := Lay K ad' (stL S1 12 0 z.toInt64)) (Lay_putL rfl) ?_
  refine z_goto (tgt := 14) hx d_La_mount_8 (by decide) ?_
  refine z_iconst (v := 0) hx d_La_mount_14 rfl ?_
  exact z_iret hx hr rfl hq (by rw [Nat.zero_add]; exact Nat.le_refl _) (by rw [Nat.zero_add]; exact Nat.le_refl _) d_La_mount_15 ⟨rfl, z, S1, hP, hlo, rfl⟩
set_option maxRecDepth 20000 in
theorem wt_mount_1 {l : Launch} {D : va_G} {K : Nat → ClassId} {ad : Nat → Nat} {S : zSt}  {f w : Nat} (hM : zC l TB D zcls (ztyl K) y_TD_mount (.code y_TD_mount b_TD_mount 1 (some FieldType.int)) (rmx f w) [.ref (ad 0)] ad (Lay K ad S) (zX0 K ad "java/lang/IllegalStateException" S)) (hf : f ≤ 8) (hw : w ≤ 160) : zCW l D zcls (ztyl K) y_La_mount (.codeWith y_La_mount b_La_mount 3 (some .int) [(0, 8, 11, 15)]) { frames := 9, cells := 1, slots := 6, locals := 200 } [.ref (ad 0), .ref (ad 12)] ad (Lay K ad S) (zP K ad (some (.int 1)) S) := by
  refine zCW.of (by decide +kernel) (Nat.le_of_ble_eq_true rfl) ?_
  intro x hx hr hml hrm hq htb hNc
  show zV x ad (Lay K ad S) 0 0 [(0, .ref (ad 0)), (1, .ref (ad 12))] 0 []
  refine z_aload_n hx 1 d_La_mount_0 rfl ?_
  refine z_iconst (v := 0) hx d_La_mount_1 rfl ?_
  refine z_aload_n hx 0 d_La_mount_2 rfl ?_
  refine z_catV hx hM k_TD (t := 0) rfl ⟨a3_212, a3_215, a1_1, ⟨by decide +kernel, by decide +kernel⟩, fun sig h => by cases h; rfl⟩ a3_213 a3_214 rfl rfl d_La_mount_3 (by rw [hrm]; exact ⟨by show f + 1 ≤ 9; omega, by show 2 + (1 + 11) + w ≤ 200; omega, by show 0 + 1 ≤ 1; omega, by show 0 + 6 ≤ 6; omega⟩) htb [] [] rfl (fun z hz => nomatch hz) (by decide) (by decide) (by decide) a1_165 a2_27 (fun q => ?_)
  refine z_astore_n hx [(2, .ref q), (0, .ref (ad 0)), (1, .ref (ad 12))] d_La_mount_11 rfl (zN hml (by decide)) rfl ?_
  refine z_iconst (v := 1) hx d_La_mount_12 rfl ?_
  exact z_iret hx hr rfl hq (Nat.le_refl _) (Nat.le_refl _) d_La_mount_13 ⟨rfl, rfl, rfl⟩
