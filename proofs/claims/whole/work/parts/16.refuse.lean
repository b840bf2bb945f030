set_option maxRecDepth 20000 in
theorem x_TD_kits_0 {l : Launch} (htr : l.stackTraces = false) {D : va_G} {K : Nat → ClassId} {ad : Nat → Nat} {S : zSt} {v0 : Int32} (hv : badSite S v0) {v1 : Int32} {v2 : Int32} {v3 : Int32} : zC l TB D zcls (ztyl K) y_TD_kits (.code y_TD_kits b_TD_kits 6 (some FieldType.int)) (rmx 7 112) [.ref (ad 0), .int v0, .int v1, .int v2, .int v3] ad (Lay K ad S) (zX0 K ad "java/lang/IndexOutOfBoundsException" S) := by
  refine zC.of (by decide +kernel) (Nat.le_of_ble_eq_true rfl) ?_
  intro x hx hr hml hnm hrm hq hNH
  show zV x ad (Lay K ad S) 0 0 [(0, .ref (ad 0)), (1, .int v0), (2, .int v1), (3, .int v2), (4, .int v3)] 0 []
  refine z_aload_n hx 0 d_TD_kits_0 rfl ?_
  refine z_iload_n hx 1 d_TD_kits_1 rfl ?_
  exact z_xV hx (x_TD_siteAt_any htr hv) k_TD rfl ⟨a2_113, a2_116, a1_1, ⟨by decide +kernel, by decide +kernel⟩, fun sig h => by cases h; rfl⟩ a2_115 s_TD_siteAt rfl rfl d_TD_kits_2 (by rw [hrm]; exact ⟨Nat.le_of_ble_eq_true rfl, Nat.le_of_ble_eq_true rfl, Nat.le_of_ble_eq_true rfl, Nat.le_of_ble_eq_true rfl⟩) hq (Nat.le_refl _) (Nat.le_refl _) hNH ⟨rfl, rfl, rfl⟩
set_option maxRecDepth 20000 in
theorem x_TD_kits_1 {l : Launch} (htr : l.stackTraces = false) {D : va_G} {K : Nat → ClassId} {ad : Nat → Nat} {S : zSt} {i : Nat} (hi : i < 10) (ho : S.2.2 9 i ≠ 0) {v1 : Int32} (hv : v1 < 0 ∨ ¬ v1 < (if S.2.2 1 1 = 0 then 4 else S.2.2 1 1)) {v2 : Int32} {v3 : Int32} : zC l TB D zcls (ztyl K) y_TD_kits (.code y_TD_kits b_TD_kits 6 (some FieldType.int)) (rmx 7 112) [.ref (ad 0), .int (nI i), .int v1, .int v2, .int v3] ad (Lay K ad S) (zX0 K ad "java/lang/IndexOutOfBoundsException" S) := by
  refine zC.of (by decide +kernel) (Nat.le_of_ble_eq_true rfl) ?_
  intro x hx hr hml hnm hrm hq hNH
  show zV x ad (Lay K ad S) 0 0 [(0, .ref (ad 0)), (1, .int (nI i)), (2, .int v1), (3, .int v2), (4, .int v3)] 0 []
  refine z_aload_n hx 0 d_TD_kits_0 rfl ?_
  refine z_iload_n hx 1 d_TD_kits_1 rfl ?_
  refine z_cV hx (c_TD_siteAt hi ho) k_TD rfl ⟨a2_113, a2_116, a1_1, ⟨by decide +kernel, by decide +kernel⟩, fun sig h => by cases h; rfl⟩ a2_115 s_TD_siteAt rfl rfl d_TD_kits_2 (by rw [hrm]; exact ⟨Nat.le_of_ble_eq_true rfl, Nat.le_of_ble_eq_true rfl, Nat.le_of_ble_eq_true rfl, Nat.le_of_ble_eq_true rfl⟩) ?_
  show zV x ad (Lay K ad S) _ _ _ 5 [.ref (ad (100 + i))]
  refine z_astore hx [(5, .ref (ad (100 + i))), (0, .ref (ad 0)), (1, .int (nI i)), (2, .int v1), (3, .int v2), (4, .int v3)] d_TD_kits_5 (zN hml (by decide)) rfl ?_
  refine z_aload_n hx 1 d_TD_kits_7 rfl ?_
  refine z_iload_n hx 3 d_TD_kits_8 rfl ?_
  exact z_xV hx (x_TD_needArm htr hv) k_TD rfl ⟨a2_117, a2_120, a1_1, ⟨by decide +kernel, by decide +kernel⟩, fun sig h => by cases h; rfl⟩ a2_119 s_TD_needArm rfl rfl d_TD_kits_9 (by rw [hrm]; exact ⟨Nat.le_of_ble_eq_true rfl, Nat.le_of_ble_eq_true rfl, Nat.le_of_ble_eq_true rfl, Nat.le_of_ble_eq_true rfl⟩) hq (Nat.le_refl _) (Nat.le_refl _) hNH ⟨rfl, rfl, rfl⟩
set_option maxRecDepth 20000 in
theorem x_TD_kits_2 {l : Launch} (htr : l.stackTraces = false) {D : va_G} {K : Nat → ClassId} {ad : Nat → Nat} {S : zSt} {i : Nat} (hi : i < 10) (ho : S.2.2 9 i ≠ 0) {a : Nat} (ha : a < 4) (hav : nI a < (if S.2.2 1 1 = 0 then 4 else S.2.2 1 1)) {v2 : Int32} (hv : v2 < 0 ∨ ¬ v2 < 1000) {v3 : Int32} : zC l TB D zcls (ztyl K) y_TD_kits (.code y_TD_kits b_TD_kits 6 (some FieldType.int)) (rmx 7 112) [.ref (ad 0), .int (nI i), .int (nI a), .int v2, .int v3] ad (Lay K ad S) (zX0 K ad "java/lang/IndexOutOfBoundsException" S) := by
  refine zC.of (by decide +kernel) (Nat.le_of_ble_eq_true rfl) ?_
  intro x hx hr hml hnm hrm hq hNH
  show zV x ad (Lay K ad S) 0 0 [(0, .ref (ad 0)), (1, .int (nI i)), (2, .int (nI a)), (3, .int v2), (4, .int v3)] 0 []
  refine z_aload_n hx 0 d_TD_kits_0 rfl ?_
  refine z_iload_n hx 1 d_TD_kits_1 rfl ?_
  refine z_cV hx (c_TD_siteAt hi ho) k_TD rfl ⟨a2_113, a2_116, a1_1, ⟨by decide +kernel, by decide +kernel⟩, fun sig h => by cases h; rfl⟩ a2_115 s_TD_siteAt rfl rfl d_TD_kits_2 (by rw [hrm]; exact ⟨Nat.le_of_ble_eq_true rfl, Nat.le_of_ble_eq_true rfl, Nat.le_of_ble_eq_true rfl, Nat.le_of_ble_eq_true rfl⟩) ?_
  show zV x ad (Lay K ad S) _ _ _ 5 [.ref (ad (100 + i))]
  refine z_astore hx [(5, .ref (ad (100 + i))), (0, .ref (ad 0)), (1, .int (nI i)), (2, .int (nI a)), (3, .int v2), (4, .int v3)] d_TD_kits_5 (zN hml (by decide)) rfl ?_
  refine z_aload_n hx 1 d_TD_kits_7 rfl ?_
  refine z_iload_n hx 3 d_TD_kits_8 rfl ?_
  refine z_cV hx (c_TD_needArm (nI_pos (by omega)) hav) k_TD rfl ⟨a2_117, a2_120, a1_1, ⟨by decide +kernel, by decide +kernel⟩, fun sig h => by cases h; rfl⟩ a2_119 s_TD_needArm rfl rfl d_TD_kits_9 (by rw [hrm]; exact ⟨Nat.le_of_ble_eq_true rfl, Nat.le_of_ble_eq_true rfl, Nat.le_of_ble_eq_true rfl, Nat.le_of_ble_eq_true rfl⟩) ?_
  show zV x ad (Lay K ad S) _ _ _ 12 []
  refine z_iload_n hx 4 d_TD_kits_12 rfl ?_
  exact z_xS hx (x_TD_needKit htr hv) ⟨a2_121, a2_123, a1_1, ⟨by decide +kernel, by decide +kernel⟩, fun sig h => by cases h; rfl⟩ a2_122 rfl rfl d_TD_kits_13 (by rw [hrm]; exact ⟨Nat.le_of_ble_eq_true rfl, Nat.le_of_ble_eq_true rfl, Nat.le_of_ble_eq_true rfl, Nat.le_of_ble_eq_true rfl⟩) hq (Nat.le_refl _) (Nat.le_refl _) hNH ⟨rfl, rfl, rfl⟩
set_option maxRecDepth 20000 in
theorem x_TD_allot_0 {l : Launch} (htr : l.stackTraces = false) {D : va_G} {K : Nat → ClassId} {ad : Nat → Nat} {S : zSt} {v0 : Int32} (hv : badSite S v0) {v1 : Int32} {v2 : Int32} : zC l TB D zcls (ztyl K) y_TD_allot (.code y_TD_allot b_TD_allot 8 (some FieldType.int)) (rmx 7 111) [.ref (ad 0), .int v0, .int v1, .int v2] ad (Lay K ad S) (zX0 K ad "java/lang/IndexOutOfBoundsException" S) := by
  refine zC.of (by decide +kernel) (Nat.le_of_ble_eq_true rfl) ?_
  intro x hx hr hml hnm hrm hq hNH
  show zV x ad (Lay K ad S) 0 0 [(0, .ref (ad 0)), (1, .int v0), (2, .int v1), (3, .int v2)] 0 []
  refine z_aload_n hx 0 d_TD_allot_0 rfl ?_
  refine z_iload_n hx 1 d_TD_allot_1 rfl ?_
  exact z_xV hx (x_TD_siteAt_any htr hv) k_TD rfl ⟨a2_113, a2_116, a1_1, ⟨by decide +kernel, by decide +kernel⟩, fun sig h => by cases h; rfl⟩ a2_115 s_TD_siteAt rfl rfl d_TD_allot_2 (by rw [hrm]; exact ⟨Nat.le_of_ble_eq_true rfl, Nat.le_of_ble_eq_true rfl, Nat.le_of_ble_eq_true rfl, Nat.le_of_ble_eq_true rfl⟩) hq (Nat.le_refl _) (Nat.le_refl _) hNH ⟨rfl, rfl, rfl⟩
set_option maxRecDepth 20000 in
theorem x_TD_allot_1 {l : Launch} (htr : l.stackTraces = false) {D : va_G} {K : Nat → ClassId} {ad : Nat → Nat} {S : zSt} {i : Nat} (hi : i < 10) (ho : S.2.2 9 i ≠ 0) {v1 : Int32} (hv : v1 < 0 ∨ 8 ≤ v1) {v2 : Int32} : zC l TB D zcls (ztyl K) y_TD_allot (.code y_TD_allot b_TD_allot 8 (some FieldType.int)) (rmx 7 111) [.ref (ad 0), .int (nI i), .int v1, .int v2] ad (Lay K ad S) (zX0 K ad "java/lang/IndexOutOfBoundsException" S) := by
  refine zC.of (by decide +kernel) (Nat.le_of_ble_eq_true rfl) ?_
  intro x hx hr hml hnm hrm hq hNH
  show zV x ad (Lay K ad S) 0 0 [(0, .ref (ad 0)), (1, .int (nI i)), (2, .int v1), (3, .int v2)] 0 []
  refine z_aload_n hx 0 d_TD_allot_0 rfl ?_
  refine z_iload_n hx 1 d_TD_allot_1 rfl ?_
  refine z_cV hx (c_TD_siteAt hi ho) k_TD rfl ⟨a2_113, a2_116, a1_1, ⟨by decide +kernel, by decide +kernel⟩, fun sig h => by cases h; rfl⟩ a2_115 s_TD_siteAt rfl rfl d_TD_allot_2 (by rw [hrm]; exact ⟨Nat.le_of_ble_eq_true rfl, Nat.le_of_ble_eq_true rfl, Nat.le_of_ble_eq_true rfl, Nat.le_of_ble_eq_true rfl⟩) ?_
  show zV x ad (Lay K ad S) _ _ _ 5 [.ref (ad (100 + i))]
  refine z_astore hx [(4, .ref (ad (100 + i))), (0, .ref (ad 0)), (1, .int (nI i)), (2, .int v1), (3, .int v2)] d_TD_allot_5 (zN hml (by decide)) rfl ?_
  refine z_aload_n hx 1 d_TD_allot_7 rfl ?_
  refine z_iload_n hx 3 d_TD_allot_8 rfl ?_
  exact z_xV hx (x_TD_stratumAt htr hv) k_TD rfl ⟨a2_6, a2_9, a1_1, ⟨by decide +kernel, by decide +kernel⟩, fun sig h => by cases h; rfl⟩ a2_8 s_TD_stratumAt rfl rfl d_TD_allot_9 (by rw [hrm]; exact ⟨Nat.le_of_ble_eq_true rfl, Nat.le_of_ble_eq_true rfl, Nat.le_of_ble_eq_true rfl, Nat.le_of_ble_eq_true rfl⟩) hq (Nat.le_refl _) (Nat.le_refl _) hNH ⟨rfl, rfl, rfl⟩
set_option maxRecDepth 20000 in
theorem x_TD_allot_2 {l : Launch} (htr : l.stackTraces = false) {D : va_G} {K : Nat → ClassId} {ad : Nat → Nat} {S : zSt} {i : Nat} (hi : i < 10) (ho : S.2.2 9 i ≠ 0) {s : Nat} (hs : s < 8) {v2 : Int32} (hv : v2 < 0 ∨ ¬ v2 < 100) : zC l TB D zcls (ztyl K) y_TD_allot (.code y_TD_allot b_TD_allot 8 (some FieldType.int)) (rmx 7 111) [.ref (ad 0), .int (nI i), .int (nI s), .int v2] ad (Lay K ad S) (zX0 K ad "java/lang/IndexOutOfBoundsException" S) := by
  refine zC.of (by decide +kernel) (Nat.le_of_ble_eq_true rfl) ?_
  intro x hx hr hml hnm hrm hq hNH
  show zV x ad (Lay K ad S) 0 0 [(0, .ref (ad 0)), (1, .int (nI i)), (2, .int (nI s)), (3, .int v2)] 0 []
  refine z_aload_n hx 0 d_TD_allot_0 rfl ?_
  refine z_iload_n hx 1 d_TD_allot_1 rfl ?_
  refine z_cV hx (c_TD_siteAt hi ho) k_TD rfl ⟨a2_113, a2_116, a1_1, ⟨by decide +kernel, by decide +kernel⟩, fun sig h => by cases h; rfl⟩ a2_115 s_TD_siteAt rfl rfl d_TD_allot_2 (by rw [hrm]; exact ⟨Nat.le_of_ble_eq_true rfl, Nat.le_of_ble_eq_true rfl, Nat.le_of_ble_eq_true rfl, Nat.le_of_ble_eq_true rfl⟩) ?_
  show zV x ad (Lay K ad S) _ _ _ 5 [.ref (ad (100 + i))]
  refine z_astore hx [(4, .ref (ad (100 + i))), (0, .ref (ad 0)), (1, .int (nI i)), (2, .int (nI s)), (3, .int v2)] d_TD_allot_5 (zN hml (by decide)) rfl ?_
  refine z_aload_n hx 1 d_TD_allot_7 rfl ?_
  refine z_iload_n hx 3 d_TD_allot_8 rfl ?_
  refine z_cV hx (c_TD_stratumAt hs) k_TD rfl ⟨a2_6, a2_9, a1_1, ⟨by decide +kernel, by decide +kernel⟩, fun sig h => by cases h; rfl⟩ a2_8 s_TD_stratumAt rfl rfl d_TD_allot_9 (by rw [hrm]; exact ⟨Nat.le_of_ble_eq_true rfl, Nat.le_of_ble_eq_true rfl, Nat.le_of_ble_eq_true rfl, Nat.le_of_ble_eq_true rfl⟩) ?_
  show zV x ad (Lay K ad S) _ _ _ 12 [.ref (ad (40 + s))]
  refine z_astore hx [(5, .ref (ad (40 + s))), (4, .ref (ad (100 + i))), (0, .ref (ad 0)), (1, .int (nI i)), (2, .int (nI s)), (3, .int v2)] d_TD_allot_12 (zN hml (by decide)) rfl ?_
  refine z_iload_n hx 5 d_TD_allot_14 rfl ?_
  exact z_xS hx (x_TD_needPerson htr hv) ⟨a2_155, a2_157, a1_1, ⟨by decide +kernel, by decide +kernel⟩, fun sig h => by cases h; rfl⟩ a2_156 rfl rfl d_TD_allot_15 (by rw [hrm]; exact ⟨Nat.le_of_ble_eq_true rfl, Nat.le_of_ble_eq_true rfl, Nat.le_of_ble_eq_true rfl, Nat.le_of_ble_eq_true rfl⟩) hq (Nat.le_refl _) (Nat.le_refl _) hNH ⟨rfl, rfl, rfl⟩
set_option maxRecDepth 20000 in
theorem x_TD_allot_plan {l : Launch} (htr : l.stackTraces = false) {D : va_G} {K : Nat → ClassId} {ad : Nat → Nat} {S : zSt} {i : Nat} (hi : i < 10) (ho : S.2.2 9 i ≠ 0) {s : Nat} (hs : s < 8) {p : Nat} (hp : p < 100) (hpl : S.2.2 1 1 = 0) : zC l TB D zcls (ztyl K) y_TD_allot (.code y_TD_allot b_TD_allot 8 (some FieldType.int)) (rmx 7 111) [.ref (ad 0), .int (nI i), .int (nI s), .int (nI p)] ad (Lay K ad S) (zX0 K ad "java/lang/IllegalStateException" S) := by
  refine zC.of (by decide +kernel) (Nat.le_of_ble_eq_true rfl) ?_
  intro x hx hr hml hnm hrm hq hNH
  show zV x ad (Lay K ad S) 0 0 [(0, .ref (ad 0)), (1, .int (nI i)), (2, .int (nI s)), (3, .int (nI p))] 0 []
  refine z_aload_n hx 0 d_TD_allot_0 rfl ?_
  refine z_iload_n hx 1 d_TD_allot_1 rfl ?_
  refine z_cV hx (c_TD_siteAt hi ho) k_TD rfl ⟨a2_113, a2_116, a1_1, ⟨by decide +kernel, by decide +kernel⟩, fun sig h => by cases h; rfl⟩ a2_115 s_TD_siteAt rfl rfl d_TD_allot_2 (by rw [hrm]; exact ⟨Nat.le_of_ble_eq_true rfl, Nat.le_of_ble_eq_true rfl, Nat.le_of_ble_eq_true rfl, Nat.le_of_ble_eq_true rfl⟩) ?_
  show zV x ad (Lay K ad S) _ _ _ 5 [.ref (ad (100 + i))]
  refine z_astore hx [(4, .ref (ad (100 + i))), (0, .ref (ad 0)), (1, .int (nI i)), (2, .int (nI s)), (3, .int (nI p))] d_TD_allot_5 (zN hml (by decide)) rfl ?_
  refine z_aload_n hx 1 d_TD_allot_7 rfl ?_
  refine z_iload_n hx 3 d_TD_allot_8 rfl ?_
  refine z_cV hx (c_TD_stratumAt hs) k_TD rfl ⟨a2_6, a2_9, a1_1, ⟨by decide +kernel, by decide +kernel⟩, fun sig h => by cases h; rfl⟩ a2_8 s_TD_stratumAt rfl rfl d_TD_allot_9 (by rw [hrm]; exact ⟨Nat.le_of_ble_eq_true rfl, Nat.le_of_ble_eq_true rfl, Nat.le_of_ble_eq_true rfl, Nat.le_of_ble_eq_true rfl⟩) ?_
  show zV x ad (Lay K ad S) _ _ _ 12 [.ref (ad (40 + s))]
  refine z_astore hx [(5, .ref (ad (40 + s))), (4, .ref (ad (100 + i))), (0, .ref (ad 0)), (1, .int (nI i)), (2, .int (nI s)), (3, .int (nI p))] d_TD_allot_12 (zN hml (by decide)) rfl ?_
  refine z_iload_n hx 5 d_TD_allot_14 rfl ?_
  refine z_cS hx (c_TD_needPerson hp) ⟨a2_155, a2_157, a1_1, ⟨by decide +kernel, by decide +kernel⟩, fun sig h => by cases h; rfl⟩ a2_156 rfl rfl d_TD_allot_15 (by rw [hrm]; exact ⟨Nat.le_of_ble_eq_true rfl, Nat.le_of_ble_eq_true rfl, Nat.le_of_ble_eq_true rfl, Nat.le_of_ble_eq_true rfl⟩) ?_
  show zV x ad (Lay K ad S) _ _ _ 18 []
  refine z_aload_n hx 2 d_TD_allot_18 rfl ?_
  exact z_xV hx (x_TD_needPlan htr hpl) k_TD rfl ⟨a2_125, a2_128, a1_1, ⟨by decide +kernel, by decide +kernel⟩, fun sig h => by cases h; rfl⟩ a2_127 s_TD_needPlan rfl rfl d_TD_allot_19 (by rw [hrm]; exact ⟨Nat.le_of_ble_eq_true rfl, Nat.le_of_ble_eq_true rfl, Nat.le_of_ble_eq_true rfl, Nat.le_of_ble_eq_true rfl⟩) hq (Nat.le_refl _) (Nat.le_refl _) hNH ⟨rfl, rfl, rfl⟩
set_option maxRecDepth 20000 in
theorem x_TD_reserve_0 {l : Launch} (htr : l.stackTraces = false) {D : va_G} {K : Nat → ClassId} {ad : Nat → Nat} {S : zSt} {v0 : Int32} (hv : badSite S v0) {v1 : Int32} : zC l TB D zcls (ztyl K) y_TD_reserve (.code y_TD_reserve b_TD_reserve 6 (some FieldType.int)) (rmx 7 111) [.ref (ad 0), .int v0, .int v1] ad (Lay K ad S) (zX0 K ad "java/lang/IndexOutOfBoundsException" S) := by
  refine zC.of (by decide +kernel) (Nat.le_of_ble_eq_true rfl) ?_
  intro x hx hr hml hnm hrm hq hNH
  show zV x ad (Lay K ad S) 0 0 [(0, .ref (ad 0)), (1, .int v0), (2, .int v1)] 0 []
  refine z_aload_n hx 0 d_TD_reserve_0 rfl ?_
  refine z_iload_n hx 1 d_TD_reserve_1 rfl ?_
  exact z_xV hx (x_TD_siteAt_any htr hv) k_TD rfl ⟨a2_113, a2_116, a1_1, ⟨by decide +kernel, by decide +kernel⟩, fun sig h => by cases h; rfl⟩ a2_115 s_TD_siteAt rfl rfl d_TD_reserve_2 (by rw [hrm]; exact ⟨Nat.le_of_ble_eq_true rfl, Nat.le_of_ble_eq_true rfl, Nat.le_of_ble_eq_true rfl, Nat.le_of_ble_eq_true rfl⟩) hq (Nat.le_refl _) (Nat.le_refl _) hNH ⟨rfl, rfl, rfl⟩
set_option maxRecDepth 20000 in
theorem x_TD_reserve_1 {l : Launch} (htr : l.stackTraces = false) {D : va_G} {K : Nat → ClassId} {ad : Nat → Nat} {S : zSt} {i : Nat} (hi : i < 10) (ho : S.2.2 9 i ≠ 0) {v1 : Int32} (hv : v1 < 0 ∨ 8 ≤ v1) : zC l TB D zcls (ztyl K) y_TD_reserve (.code y_TD_reserve b_TD_reserve 6 (some FieldType.int)) (rmx 7 111) [.ref (ad 0), .int (nI i), .int v1] ad (Lay K ad S) (zX0 K ad "java/lang/IndexOutOfBoundsException" S) := by
  refine zC.of (by decide +kernel) (Nat.le_of_ble_eq_true rfl) ?_
  intro x hx hr hml hnm hrm hq hNH
  show zV x ad (Lay K ad S) 0 0 [(0, .ref (ad 0)), (1, .int (nI i)), (2, .int v1)] 0 []
  refine z_aload_n hx 0 d_TD_reserve_0 rfl ?_
  refine z_iload_n hx 1 d_TD_reserve_1 rfl ?_
  refine z_cV hx (c_TD_siteAt hi ho) k_TD rfl ⟨a2_113, a2_116, a1_1, ⟨by decide +kernel, by decide +kernel⟩, fun sig h => by cases h; rfl⟩ a2_115 s_TD_siteAt rfl rfl d_TD_reserve_2 (by rw [hrm]; exact ⟨Nat.le_of_ble_eq_true rfl, Nat.le_of_ble_eq_true rfl, Nat.le_of_ble_eq_true rfl, Nat.le_of_ble_eq_true rfl⟩) ?_
  show zV x ad (Lay K ad S) _ _ _ 5 [.ref (ad (100 + i))]
  refine z_astore_n hx [(3, .ref (ad (100 + i))), (0, .ref (ad 0)), (1, .int (nI i)), (2, .int v1)] d_TD_reserve_5 rfl (zN hml (by decide)) rfl ?_
  refine z_aload_n hx 1 d_TD_reserve_6 rfl ?_
  refine z_iload_n hx 3 d_TD_reserve_7 rfl ?_
  exact z_xV hx (x_TD_stratumAt htr hv) k_TD rfl ⟨a2_6, a2_9, a1_1, ⟨by decide +kernel, by decide +kernel⟩, fun sig h => by cases h; rfl⟩ a2_8 s_TD_stratumAt rfl rfl d_TD_reserve_8 (by rw [hrm]; exact ⟨Nat.le_of_ble_eq_true rfl, Nat.le_of_ble_eq_true rfl, Nat.le_of_ble_eq_true rfl, Nat.le_of_ble_eq_true rfl⟩) hq (Nat.le_refl _) (Nat.le_refl _) hNH ⟨rfl, rfl, rfl⟩
set_option maxRecDepth 20000 in
theorem x_TD_reserve_plan {l : Launch} (htr : l.stackTraces = false) {D : va_G} {K : Nat → ClassId} {ad : Nat → Nat} {S : zSt} {i : Nat} (hi : i < 10) (ho : S.2.2 9 i ≠ 0) {s : Nat} (hs : s < 8) (hpl : S.2.2 1 1 = 0) : zC l TB D zcls (ztyl K) y_TD_reserve (.code y_TD_reserve b_TD_reserve 6 (some FieldType.int)) (rmx 7 111) [.ref (ad 0), .int (nI i), .int (nI s)] ad (Lay K ad S) (zX0 K ad "java/lang/IllegalStateException" S) := by
  refine zC.of (by decide +kernel) (Nat.le_of_ble_eq_true rfl) ?_
  intro x hx hr hml hnm hrm hq hNH
  show zV x ad (Lay K ad S) 0 0 [(0, .ref (ad 0)), (1, .int (nI i)), (2, .int (nI s))] 0 []
  refine z_aload_n hx 0 d_TD_reserve_0 rfl ?_
  refine z_iload_n hx 1 d_TD_reserve_1 rfl ?_
  refine z_cV hx (c_TD_siteAt hi ho) k_TD rfl ⟨a2_113, a2_116, a1_1, ⟨by decide +kernel, by decide +kernel⟩, fun sig h => by cases h; rfl⟩ a2_115 s_TD_siteAt rfl rfl d_TD_reserve_2 (by rw [hrm]; exact ⟨Nat.le_of_ble_eq_true rfl, Nat.le_of_ble_eq_true rfl, Nat.le_of_ble_eq_true rfl, Nat.le_of_ble_eq_true rfl⟩) ?_
  show zV x ad (Lay K ad S) _ _ _ 5 [.ref (ad (100 + i))]
  refine z_astore_n hx [(3, .ref (ad (100 + i))), (0, .ref (ad 0)), (1, .int (nI i)), (2, .int (nI s))] d_TD_reserve_5 rfl (zN hml (by decide)) rfl ?_
  refine z_aload_n hx 1 d_TD_reserve_6 rfl ?_
  refine z_iload_n hx 3 d_TD_reserve_7 rfl ?_
  refine z_cV hx (c_TD_stratumAt hs) k_TD rfl ⟨a2_6, a2_9, a1_1, ⟨by decide +kernel, by decide +kernel⟩, fun sig h => by cases h; rfl⟩ a2_8 s_TD_stratumAt rfl rfl d_TD_reserve_8 (by rw [hrm]; exact ⟨Nat.le_of_ble_eq_true rfl, Nat.le_of_ble_eq_true rfl, Nat.le_of_ble_eq_true rfl, Nat.le_of_ble_eq_true rfl⟩) ?_
  show zV x ad (Lay K ad S) _ _ _ 11 [.ref (ad (40 + s))]
  refine z_astore hx [(4, .ref (ad (40 + s))), (3, .ref (ad (100 + i))), (0, .ref (ad 0)), (1, .int (nI i)), (2, .int (nI s))] d_TD_reserve_11 (zN hml (by decide)) rfl ?_
  refine z_aload_n hx 2 d_TD_reserve_13 rfl ?_
  exact z_xV hx (x_TD_needPlan htr hpl) k_TD rfl ⟨a2_125, a2_128, a1_1, ⟨by decide +kernel, by decide +kernel⟩, fun sig h => by cases h; rfl⟩ a2_127 s_TD_needPlan rfl rfl d_TD_reserve_14 (by rw [hrm]; exact ⟨Nat.le_of_ble_eq_true rfl, Nat.le_of_ble_eq_true rfl, Nat.le_of_ble_eq_true rfl, Nat.le_of_ble_eq_true rfl⟩) hq (Nat.le_refl _) (Nat.le_refl _) hNH ⟨rfl, rfl, rfl⟩
set_option maxRecDepth 20000 in
theorem x_TD_offline_0 {l : Launch} (htr : l.stackTraces = false) {D : va_G} {K : Nat → ClassId} {ad : Nat → Nat} {S : zSt} {v0 : Int32} (hv : badSite S v0) {v1 : Int32} {v2 : Int32} : zC l TB D zcls (ztyl K) y_TD_offline (.code y_TD_offline b_TD_offline 7 (some FieldType.int)) (rmx 7 111) [.ref (ad 0), .int v0, .int v1, .int v2] ad (Lay K ad S) (zX0 K ad "java/lang/IndexOutOfBoundsException" S) := by
  refine zC.of (by decide +kernel) (Nat.le_of_ble_eq_true rfl) ?_
  intro x hx hr hml hnm hrm hq hNH
  show zV x ad (Lay K ad S) 0 0 [(0, .ref (ad 0)), (1, .int v0), (2, .int v1), (3, .int v2)] 0 []
  refine z_aload_n hx 0 d_TD_offline_0 rfl ?_
  refine z_iload_n hx 1 d_TD_offline_1 rfl ?_
  exact z_xV hx (x_TD_siteAt_any htr hv) k_TD rfl ⟨a2_113, a2_116, a1_1, ⟨by decide +kernel, by decide +kernel⟩, fun sig h => by cases h; rfl⟩ a2_115 s_TD_siteAt rfl rfl d_TD_offline_2 (by rw [hrm]; exact ⟨Nat.le_of_ble_eq_true rfl, Nat.le_of_ble_eq_true rfl, Nat.le_of_ble_eq_true rfl, Nat.le_of_ble_eq_true rfl⟩) hq (Nat.le_refl _) (Nat.le_refl _) hNH ⟨rfl, rfl, rfl⟩
set_option maxRecDepth 20000 in
theorem x_TD_offline_1 {l : Launch} (htr : l.stackTraces = false) {D : va_G} {K : Nat → ClassId} {ad : Nat → Nat} {S : zSt} {i : Nat} (hi : i < 10) (ho : S.2.2 9 i ≠ 0) {v1 : Int32} (hv : v1 < 0 ∨ 8 ≤ v1) {v2 : Int32} : zC l TB D zcls (ztyl K) y_TD_offline (.code y_TD_offline b_TD_offline 7 (some FieldType.int)) (rmx 7 111) [.ref (ad 0), .int (nI i), .int v1, .int v2] ad (Lay K ad S) (zX0 K ad "java/lang/IndexOutOfBoundsException" S) := by
  refine zC.of (by decide +kernel) (Nat.le_of_ble_eq_true rfl) ?_
  intro x hx hr hml hnm hrm hq hNH
  show zV x ad (Lay K ad S) 0 0 [(0, .ref (ad 0)), (1, .int (nI i)), (2, .int v1), (3, .int v2)] 0 []
  refine z_aload_n hx 0 d_TD_offline_0 rfl ?_
  refine z_iload_n hx 1 d_TD_offline_1 rfl ?_
  refine z_cV hx (c_TD_siteAt hi ho) k_TD rfl ⟨a2_113, a2_116, a1_1, ⟨by decide +kernel, by decide +kernel⟩, fun sig h => by cases h; rfl⟩ a2_115 s_TD_siteAt rfl rfl d_TD_offline_2 (by rw [hrm]; exact ⟨Nat.le_of_ble_eq_true rfl, Nat.le_of_ble_eq_true rfl, Nat.le_of_ble_eq_true rfl, Nat.le_of_ble_eq_true rfl⟩) ?_
  show zV x ad (Lay K ad S) _ _ _ 5 [.ref (ad (100 + i))]
  refine z_astore hx [(4, .ref (ad (100 + i))), (0, .ref (ad 0)), (1, .int (nI i)), (2, .int v1), (3, .int v2)] d_TD_offline_5 (zN hml (by decide)) rfl ?_
  refine z_aload_n hx 1 d_TD_offline_7 rfl ?_
  refine z_iload_n hx 3 d_TD_offline_8 rfl ?_
  exact z_xV hx (x_TD_stratumAt htr hv) k_TD rfl ⟨a2_6, a2_9, a1_1, ⟨by decide +kernel, by decide +kernel⟩, fun sig h => by cases h; rfl⟩ a2_8 s_TD_stratumAt rfl rfl d_TD_offline_9 (by rw [hrm]; exact ⟨Nat.le_of_ble_eq_true rfl, Nat.le_of_ble_eq_true rfl, Nat.le_of_ble_eq_true rfl, Nat.le_of_ble_eq_true rfl⟩) hq (Nat.le_refl _) (Nat.le_refl _) hNH ⟨rfl, rfl, rfl⟩
set_option maxRecDepth 20000 in
theorem x_TD_offline_2 {l : Launch} (htr : l.stackTraces = false) {D : va_G} {K : Nat → ClassId} {ad : Nat → Nat} {S : zSt} {i : Nat} (hi : i < 10) (ho : S.2.2 9 i ≠ 0) {s : Nat} (hs : s < 8) {v2 : Int32} (hv : v2 < 0 ∨ ¬ v2 < 100) : zC l TB D zcls (ztyl K) y_TD_offline (.code y_TD_offline b_TD_offline 7 (some FieldType.int)) (rmx 7 111) [.ref (ad 0), .int (nI i), .int (nI s), .int v2] ad (Lay K ad S) (zX0 K ad "java/lang/IndexOutOfBoundsException" S) := by
  refine zC.of (by decide +kernel) (Nat.le_of_ble_eq_true rfl) ?_
  intro x hx hr hml hnm hrm hq hNH
  show zV x ad (Lay K ad S) 0 0 [(0, .ref (ad 0)), (1, .int (nI i)), (2, .int (nI s)), (3, .int v2)] 0 []
  refine z_aload_n hx 0 d_TD_offline_0 rfl ?_
  refine z_iload_n hx 1 d_TD_offline_1 rfl ?_
  refine z_cV hx (c_TD_siteAt hi ho) k_TD rfl ⟨a2_113, a2_116, a1_1, ⟨by decide +kernel, by decide +kernel⟩, fun sig h => by cases h; rfl⟩ a2_115 s_TD_siteAt rfl rfl d_TD_offline_2 (by rw [hrm]; exact ⟨Nat.le_of_ble_eq_true rfl, Nat.le_of_ble_eq_true rfl, Nat.le_of_ble_eq_true rfl, Nat.le_of_ble_eq_true rfl⟩) ?_
  show zV x ad (Lay K ad S) _ _ _ 5 [.ref (ad (100 + i))]
  refine z_astore hx [(4, .ref (ad (100 + i))), (0, .ref (ad 0)), (1, .int (nI i)), (2, .int (nI s)), (3, .int v2)] d_TD_offline_5 (zN hml (by decide)) rfl ?_
  refine z_aload_n hx 1 d_TD_offline_7 rfl ?_
  refine z_iload_n hx 3 d_TD_offline_8 rfl ?_
  refine z_cV hx (c_TD_stratumAt hs) k_TD rfl ⟨a2_6, a2_9, a1_1, ⟨by decide +kernel, by decide +kernel⟩, fun sig h => by cases h; rfl⟩ a2_8 s_TD_stratumAt rfl rfl d_TD_offline_9 (by rw [hrm]; exact ⟨Nat.le_of_ble_eq_true rfl, Nat.le_of_ble_eq_true rfl, Nat.le_of_ble_eq_true rfl, Nat.le_of_ble_eq_true rfl⟩) ?_
  show zV x ad (Lay K ad S) _ _ _ 12 [.ref (ad (40 + s))]
  refine z_pop hx d_TD_offline_12 rfl ?_
  refine z_iload_n hx 4 d_TD_offline_13 rfl ?_
  exact z_xS hx (x_TD_needPerson htr hv) ⟨a2_155, a2_157, a1_1, ⟨by decide +kernel, by decide +kernel⟩, fun sig h => by cases h; rfl⟩ a2_156 rfl rfl d_TD_offline_14 (by rw [hrm]; exact ⟨Nat.le_of_ble_eq_true rfl, Nat.le_of_ble_eq_true rfl, Nat.le_of_ble_eq_true rfl, Nat.le_of_ble_eq_true rfl⟩) hq (Nat.le_refl _) (Nat.le_refl _) hNH ⟨rfl, rfl, rfl⟩
set_option maxRecDepth 20000 in
theorem x_TD_offline_plan {l : Launch} (htr : l.stackTraces = false) {D : va_G} {K : Nat → ClassId} {ad : Nat → Nat} {S : zSt} {i : Nat} (hi : i < 10) (ho : S.2.2 9 i ≠ 0) {s : Nat} (hs : s < 8) {p : Nat} (hp : p < 100) (hpl : S.2.2 1 1 = 0) : zC l TB D zcls (ztyl K) y_TD_offline (.code y_TD_offline b_TD_offline 7 (some FieldType.int)) (rmx 7 111) [.ref (ad 0), .int (nI i), .int (nI s), .int (nI p)] ad (Lay K ad S) (zX0 K ad "java/lang/IllegalStateException" S) := by
  refine zC.of (by decide +kernel) (Nat.le_of_ble_eq_true rfl) ?_
  intro x hx hr hml hnm hrm hq hNH
  show zV x ad (Lay K ad S) 0 0 [(0, .ref (ad 0)), (1, .int (nI i)), (2, .int (nI s)), (3, .int (nI p))] 0 []
  refine z_aload_n hx 0 d_TD_offline_0 rfl ?_
  refine z_iload_n hx 1 d_TD_offline_1 rfl ?_
  refine z_cV hx (c_TD_siteAt hi ho) k_TD rfl ⟨a2_113, a2_116, a1_1, ⟨by decide +kernel, by decide +kernel⟩, fun sig h => by cases h; rfl⟩ a2_115 s_TD_siteAt rfl rfl d_TD_offline_2 (by rw [hrm]; exact ⟨Nat.le_of_ble_eq_true rfl, Nat.le_of_ble_eq_true rfl, Nat.le_of_ble_eq_true rfl, Nat.le_of_ble_eq_true rfl⟩) ?_
  show zV x ad (Lay K ad S) _ _ _ 5 [.ref (ad (100 + i))]
  refine z_astore hx [(4, .ref (ad (100 + i))), (0, .ref (ad 0)), (1, .int (nI i)), (2, .int (nI s)), (3, .int (nI p))] d_TD_offline_5 (zN hml (by decide)) rfl ?_
  refine z_aload_n hx 1 d_TD_offline_7 rfl ?_
  refine z_iload_n hx 3 d_TD_offline_8 rfl ?_
  refine z_cV hx (c_TD_stratumAt hs) k_TD rfl ⟨a2_6, a2_9, a1_1, ⟨by decide +kernel, by decide +kernel⟩, fun sig h => by cases h; rfl⟩ a2_8 s_TD_stratumAt rfl rfl d_TD_offline_9 (by rw [hrm]; exact ⟨Nat.le_of_ble_eq_true rfl, Nat.le_of_ble_eq_true rfl, Nat.le_of_ble_eq_true rfl, Nat.le_of_ble_eq_true rfl⟩) ?_
  show zV x ad (Lay K ad S) _ _ _ 12 [.ref (ad (40 + s))]
  refine z_pop hx d_TD_offline_12 rfl ?_
  refine z_iload_n hx 4 d_TD_offline_13 rfl ?_
  refine z_cS hx (c_TD_needPerson hp) ⟨a2_155, a2_157, a1_1, ⟨by decide +kernel, by decide +kernel⟩, fun sig h => by cases h; rfl⟩ a2_156 rfl rfl d_TD_offline_14 (by rw [hrm]; exact ⟨Nat.le_of_ble_eq_true rfl, Nat.le_of_ble_eq_true rfl, Nat.le_of_ble_eq_true rfl, Nat.le_of_ble_eq_true rfl⟩) ?_
  show zV x ad (Lay K ad S) _ _ _ 17 []
  refine z_aload_n hx 1 d_TD_offline_17 rfl ?_
  exact z_xV hx (x_TD_needPlan htr hpl) k_TD rfl ⟨a2_125, a2_128, a1_1, ⟨by decide +kernel, by decide +kernel⟩, fun sig h => by cases h; rfl⟩ a2_127 s_TD_needPlan rfl rfl d_TD_offline_18 (by rw [hrm]; exact ⟨Nat.le_of_ble_eq_true rfl, Nat.le_of_ble_eq_true rfl, Nat.le_of_ble_eq_true rfl, Nat.le_of_ble_eq_true rfl⟩) hq (Nat.le_refl _) (Nat.le_refl _) hNH ⟨rfl, rfl, rfl⟩
set_option maxRecDepth 20000 in
theorem x_TD_report_0 {l : Launch} (htr : l.stackTraces = false) {D : va_G} {K : Nat → ClassId} {ad : Nat → Nat} {S : zSt} {v0 : Int32} (hv : badSite S v0) : zC l TB D zcls (ztyl K) y_TD_report (.code y_TD_report b_TD_report 5 (some FieldType.int)) (rmx 7 111) [.ref (ad 0), .int v0] ad (Lay K ad S) (zX0 K ad "java/lang/IndexOutOfBoundsException" S) := by
  refine zC.of (by decide +kernel) (Nat.le_of_ble_eq_true rfl) ?_
  intro x hx hr hml hnm hrm hq hNH
  show zV x ad (Lay K ad S) 0 0 [(0, .ref (ad 0)), (1, .int v0)] 0 []
  refine z_aload_n hx 0 d_TD_report_0 rfl ?_
  refine z_iload_n hx 1 d_TD_report_1 rfl ?_
  exact z_xV hx (x_TD_siteAt_any htr hv) k_TD rfl ⟨a2_113, a2_116, a1_1, ⟨by decide +kernel, by decide +kernel⟩, fun sig h => by cases h; rfl⟩ a2_115 s_TD_siteAt rfl rfl d_TD_report_2 (by rw [hrm]; exact ⟨Nat.le_of_ble_eq_true rfl, Nat.le_of_ble_eq_true rfl, Nat.le_of_ble_eq_true rfl, Nat.le_of_ble_eq_true rfl⟩) hq (Nat.le_refl _) (Nat.le_refl _) hNH ⟨rfl, rfl, rfl⟩
set_option maxRecDepth 20000 in
theorem x_TD_close_0 {l : Launch} (htr : l.stackTraces = false) {D : va_G} {K : Nat → ClassId} {ad : Nat → Nat} {S : zSt} {v0 : Int32} (hv : badSite S v0) : zC l TB D zcls (ztyl K) y_TD_close (.code y_TD_close b_TD_close 4 (some FieldType.int)) (rmx 7 111) [.ref (ad 0), .int v0] ad (Lay K ad S) (zX0 K ad "java/lang/IndexOutOfBoundsException" S) := by
  refine zC.of (by decide +kernel) (Nat.le_of_ble_eq_true rfl) ?_
  intro x hx hr hml hnm hrm hq hNH
  show zV x ad (Lay K ad S) 0 0 [(0, .ref (ad 0)), (1, .int v0)] 0 []
  refine z_aload_n hx 0 d_TD_close_0 rfl ?_
  refine z_iload_n hx 1 d_TD_close_1 rfl ?_
  exact z_xV hx (x_TD_siteAt_any htr hv) k_TD rfl ⟨a2_113, a2_116, a1_1, ⟨by decide +kernel, by decide +kernel⟩, fun sig h => by cases h; rfl⟩ a2_115 s_TD_siteAt rfl rfl d_TD_close_2 (by rw [hrm]; exact ⟨Nat.le_of_ble_eq_true rfl, Nat.le_of_ble_eq_true rfl, Nat.le_of_ble_eq_true rfl, Nat.le_of_ble_eq_true rfl⟩) hq (Nat.le_refl _) (Nat.le_refl _) hNH ⟨rfl, rfl, rfl⟩
set_option maxRecDepth 20000 in
theorem x_TD_key_0 {l : Launch} (htr : l.stackTraces = false) {D : va_G} {K : Nat → ClassId} {ad : Nat → Nat} {S : zSt} {v0 : Int32} (hv : v0 < 0 ∨ ¬ v0 < 5) {v1 : Int32} {v2 : Int32} : zC l TB D zcls (ztyl K) y_TD_key (.code y_TD_key b_TD_key 5 (some FieldType.int)) (rmx 7 111) [.ref (ad 0), .int v0, .int v1, .int v2] ad (Lay K ad S) (zX0 K ad "java/lang/IndexOutOfBoundsException" S) := by
  refine zC.of (by decide +kernel) (Nat.le_of_ble_eq_true rfl) ?_
  intro x hx hr hml hnm hrm hq hNH
  show zV x ad (Lay K ad S) 0 0 [(0, .ref (ad 0)), (1, .int v0), (2, .int v1), (3, .int v2)] 0 []
  refine z_iload_n hx 1 d_TD_key_0 rfl ?_
  exact z_xS hx (x_TD_needHolder htr hv) ⟨a3_107, a3_109, a1_1, ⟨by decide +kernel, by decide +kernel⟩, fun sig h => by cases h; rfl⟩ a3_108 rfl rfl d_TD_key_1 (by rw [hrm]; exact ⟨Nat.le_of_ble_eq_true rfl, Nat.le_of_ble_eq_true rfl, Nat.le_of_ble_eq_true rfl, Nat.le_of_ble_eq_true rfl⟩) hq (Nat.le_refl _) (Nat.le_refl _) hNH ⟨rfl, rfl, rfl⟩
set_option maxRecDepth 20000 in
theorem x_TD_key_1 {l : Launch} (htr : l.stackTraces = false) {D : va_G} {K : Nat → ClassId} {ad : Nat → Nat} {S : zSt} {h : Nat} (hh : h < 5) {v1 : Int32} (hv : badSite S v1) {v2 : Int32} : zC l TB D zcls (ztyl K) y_TD_key (.code y_TD_key b_TD_key 5 (some FieldType.int)) (rmx 7 111) [.ref (ad 0), .int (nI h), .int v1, .int v2] ad (Lay K ad S) (zX0 K ad "java/lang/IndexOutOfBoundsException" S) := by
  refine zC.of (by decide +kernel) (Nat.le_of_ble_eq_true rfl) ?_
  intro x hx hr hml hnm hrm hq hNH
  show zV x ad (Lay K ad S) 0 0 [(0, .ref (ad 0)), (1, .int (nI h)), (2, .int v1), (3, .int v2)] 0 []
  refine z_iload_n hx 1 d_TD_key_0 rfl ?_
  refine z_cS hx (c_TD_needHolder hh) ⟨a3_107, a3_109, a1_1, ⟨by decide +kernel, by decide +kernel⟩, fun sig h => by cases h; rfl⟩ a3_108 rfl rfl d_TD_key_1 (by rw [hrm]; exact ⟨Nat.le_of_ble_eq_true rfl, Nat.le_of_ble_eq_true rfl, Nat.le_of_ble_eq_true rfl, Nat.le_of_ble_eq_true rfl⟩) ?_
  show zV x ad (Lay K ad S) _ _ _ 4 []
  refine z_aload_n hx 0 d_TD_key_4 rfl ?_
  refine z_iload_n hx 2 d_TD_key_5 rfl ?_
  exact z_xV hx (x_TD_siteAt_any htr hv) k_TD rfl ⟨a2_113, a2_116, a1_1, ⟨by decide +kernel, by decide +kernel⟩, fun sig h => by cases h; rfl⟩ a2_115 s_TD_siteAt rfl rfl d_TD_key_6 (by rw [hrm]; exact ⟨Nat.le_of_ble_eq_true rfl, Nat.le_of_ble_eq_true rfl, Nat.le_of_ble_eq_true rfl, Nat.le_of_ble_eq_true rfl⟩) hq (Nat.le_refl _) (Nat.le_refl _) hNH ⟨rfl, rfl, rfl⟩
set_option maxRecDepth 20000 in
theorem x_TD_key_2 {l : Launch} (htr : l.stackTraces = false) {D : va_G} {K : Nat → ClassId} {ad : Nat → Nat} {S : zSt} {h : Nat} (hh : h < 5) {i : Nat} (hi : i < 10) (ho : S.2.2 9 i ≠ 0) {v2 : Int32} (hv : v2 < 0 ∨ ¬ v2 < 100) : zC l TB D zcls (ztyl K) y_TD_key (.code y_TD_key b_TD_key 5 (some FieldType.int)) (rmx 7 111) [.ref (ad 0), .int (nI h), .int (nI i), .int v2] ad (Lay K ad S) (zX0 K ad "java/lang/IndexOutOfBoundsException" S) := by
  refine zC.of (by decide +kernel) (Nat.le_of_ble_eq_true rfl) ?_
  intro x hx hr hml hnm hrm hq hNH
  show zV x ad (Lay K ad S) 0 0 [(0, .ref (ad 0)), (1, .int (nI h)), (2, .int (nI i)), (3, .int v2)] 0 []
  refine z_iload_n hx 1 d_TD_key_0 rfl ?_
  refine z_cS hx (c_TD_needHolder hh) ⟨a3_107, a3_109, a1_1, ⟨by decide +kernel, by decide +kernel⟩, fun sig h => by cases h; rfl⟩ a3_108 rfl rfl d_TD_key_1 (by rw [hrm]; exact ⟨Nat.le_of_ble_eq_true rfl, Nat.le_of_ble_eq_true rfl, Nat.le_of_ble_eq_true rfl, Nat.le_of_ble_eq_true rfl⟩) ?_
  show zV x ad (Lay K ad S) _ _ _ 4 []
  refine z_aload_n hx 0 d_TD_key_4 rfl ?_
  refine z_iload_n hx 2 d_TD_key_5 rfl ?_
  refine z_cV hx (c_TD_siteAt hi ho) k_TD rfl ⟨a2_113, a2_116, a1_1, ⟨by decide +kernel, by decide +kernel⟩, fun sig h => by cases h; rfl⟩ a2_115 s_TD_siteAt rfl rfl d_TD_key_6 (by rw [hrm]; exact ⟨Nat.le_of_ble_eq_true rfl, Nat.le_of_ble_eq_true rfl, Nat.le_of_ble_eq_true rfl, Nat.le_of_ble_eq_true rfl⟩) ?_
  show zV x ad (Lay K ad S) _ _ _ 9 [.ref (ad (100 + i))]
  refine z_astore hx [(4, .ref (ad (100 + i))), (0, .ref (ad 0)), (1, .int (nI h)), (2, .int (nI i)), (3, .int v2)] d_TD_key_9 (zN hml (by decide)) rfl ?_
  refine z_iload_n hx 4 d_TD_key_11 rfl ?_
  exact z_xS hx (x_TD_needPerson htr hv) ⟨a2_155, a2_157, a1_1, ⟨by decide +kernel, by decide +kernel⟩, fun sig h => by cases h; rfl⟩ a2_156 rfl rfl d_TD_key_12 (by rw [hrm]; exact ⟨Nat.le_of_ble_eq_true rfl, Nat.le_of_ble_eq_true rfl, Nat.le_of_ble_eq_true rfl, Nat.le_of_ble_eq_true rfl⟩) hq (Nat.le_refl _) (Nat.le_refl _) hNH ⟨rfl, rfl, rfl⟩
set_option maxRecDepth 20000 in
theorem x_TD_arm_0 {l : Launch} (htr : l.stackTraces = false) {D : va_G} {K : Nat → ClassId} {ad : Nat → Nat} {S : zSt} {v0 : Int32} (hv : badSite S v0) {v1 : Int32} : zC l TB D zcls (ztyl K) y_TD_arm (.code y_TD_arm b_TD_arm 5 (some FieldType.int)) (rmx 7 111) [.ref (ad 0), .int v0, .int v1] ad (Lay K ad S) (zX0 K ad "java/lang/IndexOutOfBoundsException" S) := by
  refine zC.of (by decide +kernel) (Nat.le_of_ble_eq_true rfl) ?_
  intro x hx hr hml hnm hrm hq hNH
  show zV x ad (Lay K ad S) 0 0 [(0, .ref (ad 0)), (1, .int v0), (2, .int v1)] 0 []
  refine z_aload_n hx 0 d_TD_arm_0 rfl ?_
  refine z_iload_n hx 1 d_TD_arm_1 rfl ?_
  exact z_xV hx (x_TD_siteAt_any htr hv) k_TD rfl ⟨a2_113, a2_116, a1_1, ⟨by decide +kernel, by decide +kernel⟩, fun sig h => by cases h; rfl⟩ a2_115 s_TD_siteAt rfl rfl d_TD_arm_2 (by rw [hrm]; exact ⟨Nat.le_of_ble_eq_true rfl, Nat.le_of_ble_eq_true rfl, Nat.le_of_ble_eq_true rfl, Nat.le_of_ble_eq_true rfl⟩) hq (Nat.le_refl _) (Nat.le_refl _) hNH ⟨rfl, rfl, rfl⟩
set_option maxRecDepth 20000 in
theorem x_TD_arm_1 {l : Launch} (htr : l.stackTraces = false) {D : va_G} {K : Nat → ClassId} {ad : Nat → Nat} {S : zSt} {i : Nat} (hi : i < 10) (ho : S.2.2 9 i ≠ 0) {v1 : Int32} (hv : v1 < 0 ∨ ¬ v1 < 100) : zC l TB D zcls (ztyl K) y_TD_arm (.code y_TD_arm b_TD_arm 5 (some FieldType.int)) (rmx 7 111) [.ref (ad 0), .int (nI i), .int v1] ad (Lay K ad S) (zX0 K ad "java/lang/IndexOutOfBoundsException" S) := by
  refine zC.of (by decide +kernel) (Nat.le_of_ble_eq_true rfl) ?_
  intro x hx hr hml hnm hrm hq hNH
  show zV x ad (Lay K ad S) 0 0 [(0, .ref (ad 0)), (1, .int (nI i)), (2, .int v1)] 0 []
  refine z_aload_n hx 0 d_TD_arm_0 rfl ?_
  refine z_iload_n hx 1 d_TD_arm_1 rfl ?_
  refine z_cV hx (c_TD_siteAt hi ho) k_TD rfl ⟨a2_113, a2_116, a1_1, ⟨by decide +kernel, by decide +kernel⟩, fun sig h => by cases h; rfl⟩ a2_115 s_TD_siteAt rfl rfl d_TD_arm_2 (by rw [hrm]; exact ⟨Nat.le_of_ble_eq_true rfl, Nat.le_of_ble_eq_true rfl, Nat.le_of_ble_eq_true rfl, Nat.le_of_ble_eq_true rfl⟩) ?_
  show zV x ad (Lay K ad S) _ _ _ 5 [.ref (ad (100 + i))]
  refine z_astore_n hx [(3, .ref (ad (100 + i))), (0, .ref (ad 0)), (1, .int (nI i)), (2, .int v1)] d_TD_arm_5 rfl (zN hml (by decide)) rfl ?_
  refine z_iload_n hx 3 d_TD_arm_6 rfl ?_
  exact z_xS hx (x_TD_needPerson htr hv) ⟨a2_155, a2_157, a1_1, ⟨by decide +kernel, by decide +kernel⟩, fun sig h => by cases h; rfl⟩ a2_156 rfl rfl d_TD_arm_7 (by rw [hrm]; exact ⟨Nat.le_of_ble_eq_true rfl, Nat.le_of_ble_eq_true rfl, Nat.le_of_ble_eq_true rfl, Nat.le_of_ble_eq_true rfl⟩) hq (Nat.le_refl _) (Nat.le_refl _) hNH ⟨rfl, rfl, rfl⟩
set_option maxRecDepth 20000 in
theorem x_TD_open_0 {l : Launch} (htr : l.stackTraces = false) {D : va_G} {K : Nat → ClassId} {ad : Nat → Nat} {S : zSt} {v0 : Int32} (hv : v0 < 0 ∨ ¬ v0 < 5) {v1 : Int32} : zC l TB D zcls (ztyl K) y_TD_open (.code y_TD_open b_TD_open 3 (some FieldType.int)) (rmx 7 110) [.ref (ad 0), .int v0, .int v1] ad (Lay K ad S) (zX0 K ad "java/lang/IndexOutOfBoundsException" S) := by
  refine zC.of (by decide +kernel) (Nat.le_of_ble_eq_true rfl) ?_
  intro x hx hr hml hnm hrm hq hNH
  show zV x ad (Lay K ad S) 0 0 [(0, .ref (ad 0)), (1, .int v0), (2, .int v1)] 0 []
  refine z_iload_n hx 1 d_TD_open_0 rfl ?_
  exact z_xS hx (x_TD_needHolder htr hv) ⟨a3_107, a3_109, a1_1, ⟨by decide +kernel, by decide +kernel⟩, fun sig h => by cases h; rfl⟩ a3_108 rfl rfl d_TD_open_1 (by rw [hrm]; exact ⟨Nat.le_of_ble_eq_true rfl, Nat.le_of_ble_eq_true rfl, Nat.le_of_ble_eq_true rfl, Nat.le_of_ble_eq_true rfl⟩) hq (Nat.le_refl _) (Nat.le_refl _) hNH ⟨rfl, rfl, rfl⟩
set_option maxRecDepth 20000 in
theorem x_TD_open_1 {l : Launch} (htr : l.stackTraces = false) {D : va_G} {K : Nat → ClassId} {ad : Nat → Nat} {S : zSt} {h : Nat} (hh : h < 5) {v1 : Int32} (hv : v1 < 0 ∨ ¬ v1 < 5) : zC l TB D zcls (ztyl K) y_TD_open (.code y_TD_open b_TD_open 3 (some FieldType.int)) (rmx 7 110) [.ref (ad 0), .int (nI h), .int v1] ad (Lay K ad S) (zX0 K ad "java/lang/IndexOutOfBoundsException" S) := by
  refine zC.of (by decide +kernel) (Nat.le_of_ble_eq_true rfl) ?_
  intro x hx hr hml hnm hrm hq hNH
  show zV x ad (Lay K ad S) 0 0 [(0, .ref (ad 0)), (1, .int (nI h)), (2, .int v1)] 0 []
  refine z_iload_n hx 1 d_TD_open_0 rfl ?_
  refine z_cS hx (c_TD_needHolder hh) ⟨a3_107, a3_109, a1_1, ⟨by decide +kernel, by decide +kernel⟩, fun sig h => by cases h; rfl⟩ a3_108 rfl rfl d_TD_open_1 (by rw [hrm]; exact ⟨Nat.le_of_ble_eq_true rfl, Nat.le_of_ble_eq_true rfl, Nat.le_of_ble_eq_true rfl, Nat.le_of_ble_eq_true rfl⟩) ?_
  show zV x ad (Lay K ad S) _ _ _ 4 []
  refine z_iload_n hx 2 d_TD_open_4 rfl ?_
  exact z_xS hx (x_TD_needHolder htr hv) ⟨a3_107, a3_109, a1_1, ⟨by decide +kernel, by decide +kernel⟩, fun sig h => by cases h; rfl⟩ a3_108 rfl rfl d_TD_open_5 (by rw [hrm]; exact ⟨Nat.le_of_ble_eq_true rfl, Nat.le_of_ble_eq_true rfl, Nat.le_of_ble_eq_true rfl, Nat.le_of_ble_eq_true rfl⟩) hq (Nat.le_refl _) (Nat.le_refl _) hNH ⟨rfl, rfl, rfl⟩
set_option maxRecDepth 20000 in
theorem x_TD_count_0 {l : Launch} (htr : l.stackTraces = false) {D : va_G} {K : Nat → ClassId} {ad : Nat → Nat} {S : zSt} {v0 : Int32} (hv : v0 < 0 ∨ 8 ≤ v0) {v1 : Int32} : zC l TB D zcls (ztyl K) y_TD_count (.code y_TD_count b_TD_count 4 (some FieldType.int)) (rmx 7 112) [.ref (ad 0), .int v0, .int v1] ad (Lay K ad S) (zX0 K ad "java/lang/IndexOutOfBoundsException" S) := by
  refine zC.of (by decide +kernel) (Nat.le_of_ble_eq_true rfl) ?_
  intro x hx hr hml hnm hrm hq hNH
  show zV x ad (Lay K ad S) 0 0 [(0, .ref (ad 0)), (1, .int v0), (2, .int v1)] 0 []
  refine z_aload_n hx 0 d_TD_count_0 rfl ?_
  refine z_iload_n hx 1 d_TD_count_1 rfl ?_
  exact z_xV hx (x_TD_stratumAt htr hv) k_TD rfl ⟨a2_6, a2_9, a1_1, ⟨by decide +kernel, by decide +kernel⟩, fun sig h => by cases h; rfl⟩ a2_8 s_TD_stratumAt rfl rfl d_TD_count_2 (by rw [hrm]; exact ⟨Nat.le_of_ble_eq_true rfl, Nat.le_of_ble_eq_true rfl, Nat.le_of_ble_eq_true rfl, Nat.le_of_ble_eq_true rfl⟩) hq (Nat.le_refl _) (Nat.le_refl _) hNH ⟨rfl, rfl, rfl⟩
set_option maxRecDepth 20000 in
theorem x_TD_count_1 {l : Launch} (htr : l.stackTraces = false) {D : va_G} {K : Nat → ClassId} {ad : Nat → Nat} {S : zSt} {s : Nat} (hs : s < 8) {v1 : Int32} (hv : v1 < 0 ∨ ¬ v1 < (if S.2.2 1 1 = 0 then 4 else S.2.2 1 1)) : zC l TB D zcls (ztyl K) y_TD_count (.code y_TD_count b_TD_count 4 (some FieldType.int)) (rmx 7 112) [.ref (ad 0), .int (nI s), .int v1] ad (Lay K ad S) (zX0 K ad "java/lang/IndexOutOfBoundsException" S) := by
  refine zC.of (by decide +kernel) (Nat.le_of_ble_eq_true rfl) ?_
  intro x hx hr hml hnm hrm hq hNH
  show zV x ad (Lay K ad S) 0 0 [(0, .ref (ad 0)), (1, .int (nI s)), (2, .int v1)] 0 []
  refine z_aload_n hx 0 d_TD_count_0 rfl ?_
  refine z_iload_n hx 1 d_TD_count_1 rfl ?_
  refine z_cV hx (c_TD_stratumAt hs) k_TD rfl ⟨a2_6, a2_9, a1_1, ⟨by decide +kernel, by decide +kernel⟩, fun sig h => by cases h; rfl⟩ a2_8 s_TD_stratumAt rfl rfl d_TD_count_2 (by rw [hrm]; exact ⟨Nat.le_of_ble_eq_true rfl, Nat.le_of_ble_eq_true rfl, Nat.le_of_ble_eq_true rfl, Nat.le_of_ble_eq_true rfl⟩) ?_
  show zV x ad (Lay K ad S) _ _ _ 5 [.ref (ad (40 + s))]
  refine z_astore_n hx [(3, .ref (ad (40 + s))), (0, .ref (ad 0)), (1, .int (nI s)), (2, .int v1)] d_TD_count_5 rfl (zN hml (by decide)) rfl ?_
  refine z_aload_n hx 1 d_TD_count_6 rfl ?_
  refine z_iload_n hx 3 d_TD_count_7 rfl ?_
  exact z_xV hx (x_TD_needArm htr hv) k_TD rfl ⟨a2_117, a2_120, a1_1, ⟨by decide +kernel, by decide +kernel⟩, fun sig h => by cases h; rfl⟩ a2_119 s_TD_needArm rfl rfl d_TD_count_8 (by rw [hrm]; exact ⟨Nat.le_of_ble_eq_true rfl, Nat.le_of_ble_eq_true rfl, Nat.le_of_ble_eq_true rfl, Nat.le_of_ble_eq_true rfl⟩) hq (Nat.le_refl _) (Nat.le_refl _) hNH ⟨rfl, rfl, rfl⟩
set_option maxRecDepth 20000 in
theorem x_TD_count_plan {l : Launch} (htr : l.stackTraces = false) {D : va_G} {K : Nat → ClassId} {ad : Nat → Nat} {S : zSt} {s : Nat} (hs : s < 8) {a : Nat} (ha : a < 4) (hav : nI a < (if S.2.2 1 1 = 0 then 4 else S.2.2 1 1)) (hpl : S.2.2 1 1 = 0) : zC l TB D zcls (ztyl K) y_TD_count (.code y_TD_count b_TD_count 4 (some FieldType.int)) (rmx 7 112) [.ref (ad 0), .int (nI s), .int (nI a)] ad (Lay K ad S) (zX0 K ad "java/lang/IllegalStateException" S) := by
  refine zC.of (by decide +kernel) (Nat.le_of_ble_eq_true rfl) ?_
  intro x hx hr hml hnm hrm hq hNH
  show zV x ad (Lay K ad S) 0 0 [(0, .ref (ad 0)), (1, .int (nI s)), (2, .int (nI a))] 0 []
  refine z_aload_n hx 0 d_TD_count_0 rfl ?_
  refine z_iload_n hx 1 d_TD_count_1 rfl ?_
  refine z_cV hx (c_TD_stratumAt hs) k_TD rfl ⟨a2_6, a2_9, a1_1, ⟨by decide +kernel, by decide +kernel⟩, fun sig h => by cases h; rfl⟩ a2_8 s_TD_stratumAt rfl rfl d_TD_count_2 (by rw [hrm]; exact ⟨Nat.le_of_ble_eq_true rfl, Nat.le_of_ble_eq_true rfl, Nat.le_of_ble_eq_true rfl, Nat.le_of_ble_eq_true rfl⟩) ?_
  show zV x ad (Lay K ad S) _ _ _ 5 [.ref (ad (40 + s))]
  refine z_astore_n hx [(3, .ref (ad (40 + s))), (0, .ref (ad 0)), (1, .int (nI s)), (2, .int (nI a))] d_TD_count_5 rfl (zN hml (by decide)) rfl ?_
  refine z_aload_n hx 1 d_TD_count_6 rfl ?_
  refine z_iload_n hx 3 d_TD_count_7 rfl ?_
  refine z_cV hx (c_TD_needArm (nI_pos (by omega)) hav) k_TD rfl ⟨a2_117, a2_120, a1_1, ⟨by decide +kernel, by decide +kernel⟩, fun sig h => by cases h; rfl⟩ a2_119 s_TD_needArm rfl rfl d_TD_count_8 (by rw [hrm]; exact ⟨Nat.le_of_ble_eq_true rfl, Nat.le_of_ble_eq_true rfl, Nat.le_of_ble_eq_true rfl, Nat.le_of_ble_eq_true rfl⟩) ?_
  show zV x ad (Lay K ad S) _ _ _ 11 []
  refine z_aload_n hx 1 d_TD_count_11 rfl ?_
  exact z_xV hx (x_TD_needPlan htr hpl) k_TD rfl ⟨a2_125, a2_128, a1_1, ⟨by decide +kernel, by decide +kernel⟩, fun sig h => by cases h; rfl⟩ a2_127 s_TD_needPlan rfl rfl d_TD_count_12 (by rw [hrm]; exact ⟨Nat.le_of_ble_eq_true rfl, Nat.le_of_ble_eq_true rfl, Nat.le_of_ble_eq_true rfl, Nat.le_of_ble_eq_true rfl⟩) hq (Nat.le_refl _) (Nat.le_refl _) hNH ⟨rfl, rfl, rfl⟩
set_option maxRecDepth 20000 in
theorem x_TD_spread_0 {l : Launch} (htr : l.stackTraces = false) {D : va_G} {K : Nat → ClassId} {ad : Nat → Nat} {S : zSt} {v0 : Int32} (hv : v0 < 0 ∨ 8 ≤ v0) : zC l TB D zcls (ztyl K) y_TD_spread (.code y_TD_spread b_TD_spread 3 (some FieldType.int)) (rmx 7 111) [.ref (ad 0), .int v0] ad (Lay K ad S) (zX0 K ad "java/lang/IndexOutOfBoundsException" S) := by
  refine zC.of (by decide +kernel) (Nat.le_of_ble_eq_true rfl) ?_
  intro x hx hr hml hnm hrm hq hNH
  show zV x ad (Lay K ad S) 0 0 [(0, .ref (ad 0)), (1, .int v0)] 0 []
  refine z_aload_n hx 0 d_TD_spread_0 rfl ?_
  refine z_iload_n hx 1 d_TD_spread_1 rfl ?_
  exact z_xV hx (x_TD_stratumAt htr hv) k_TD rfl ⟨a2_6, a2_9, a1_1, ⟨by decide +kernel, by decide +kernel⟩, fun sig h => by cases h; rfl⟩ a2_8 s_TD_stratumAt rfl rfl d_TD_spread_2 (by rw [hrm]; exact ⟨Nat.le_of_ble_eq_true rfl, Nat.le_of_ble_eq_true rfl, Nat.le_of_ble_eq_true rfl, Nat.le_of_ble_eq_true rfl⟩) hq (Nat.le_refl _) (Nat.le_refl _) hNH ⟨rfl, rfl, rfl⟩
set_option maxRecDepth 20000 in
theorem x_TD_spread_plan {l : Launch} (htr : l.stackTraces = false) {D : va_G} {K : Nat → ClassId} {ad : Nat → Nat} {S : zSt} {s : Nat} (hs : s < 8) (hpl : S.2.2 1 1 = 0) : zC l TB D zcls (ztyl K) y_TD_spread (.code y_TD_spread b_TD_spread 3 (some FieldType.int)) (rmx 7 111) [.ref (ad 0), .int (nI s)] ad (Lay K ad S) (zX0 K ad "java/lang/IllegalStateException" S) := by
  refine zC.of (by decide +kernel) (Nat.le_of_ble_eq_true rfl) ?_
  intro x hx hr hml hnm hrm hq hNH
  show zV x ad (Lay K ad S) 0 0 [(0, .ref (ad 0)), (1, .int (nI s))] 0 []
  refine z_aload_n hx 0 d_TD_spread_0 rfl ?_
  refine z_iload_n hx 1 d_TD_spread_1 rfl ?_
  refine z_cV hx (c_TD_stratumAt hs) k_TD rfl ⟨a2_6, a2_9, a1_1, ⟨by decide +kernel, by decide +kernel⟩, fun sig h => by cases h; rfl⟩ a2_8 s_TD_stratumAt rfl rfl d_TD_spread_2 (by rw [hrm]; exact ⟨Nat.le_of_ble_eq_true rfl, Nat.le_of_ble_eq_true rfl, Nat.le_of_ble_eq_true rfl, Nat.le_of_ble_eq_true rfl⟩) ?_
  show zV x ad (Lay K ad S) _ _ _ 5 [.ref (ad (40 + s))]
  refine z_astore_n hx [(2, .ref (ad (40 + s))), (0, .ref (ad 0)), (1, .int (nI s))] d_TD_spread_5 rfl (zN hml (by decide)) rfl ?_
  refine z_aload_n hx 1 d_TD_spread_6 rfl ?_
  exact z_xV hx (x_TD_needPlan htr hpl) k_TD rfl ⟨a2_125, a2_128, a1_1, ⟨by decide +kernel, by decide +kernel⟩, fun sig h => by cases h; rfl⟩ a2_127 s_TD_needPlan rfl rfl d_TD_spread_7 (by rw [hrm]; exact ⟨Nat.le_of_ble_eq_true rfl, Nat.le_of_ble_eq_true rfl, Nat.le_of_ble_eq_true rfl, Nat.le_of_ble_eq_true rfl⟩) hq (Nat.le_refl _) (Nat.le_refl _) hNH ⟨rfl, rfl, rfl⟩
set_option maxRecDepth 20000 in
theorem x_TD_entry_0 {l : Launch} (htr : l.stackTraces = false) {D : va_G} {K : Nat → ClassId} {ad : Nat → Nat} {S : zSt} {v0 : Int32} (hv : v0 < 0 ∨ 8 ≤ v0) {v1 : Int32} : zC l TB D zcls (ztyl K) y_TD_entry (.code y_TD_entry b_TD_entry 4 (some FieldType.int)) (rmx 7 111) [.ref (ad 0), .int v0, .int v1] ad (Lay K ad S) (zX0 K ad "java/lang/IndexOutOfBoundsException" S) := by
  refine zC.of (by decide +kernel) (Nat.le_of_ble_eq_true rfl) ?_
  intro x hx hr hml hnm hrm hq hNH
  show zV x ad (Lay K ad S) 0 0 [(0, .ref (ad 0)), (1, .int v0), (2, .int v1)] 0 []
  refine z_aload_n hx 0 d_TD_entry_0 rfl ?_
  refine z_iload_n hx 1 d_TD_entry_1 rfl ?_
  exact z_xV hx (x_TD_stratumAt htr hv) k_TD rfl ⟨a2_6, a2_9, a1_1, ⟨by decide +kernel, by decide +kernel⟩, fun sig h => by cases h; rfl⟩ a2_8 s_TD_stratumAt rfl rfl d_TD_entry_2 (by rw [hrm]; exact ⟨Nat.le_of_ble_eq_true rfl, Nat.le_of_ble_eq_true rfl, Nat.le_of_ble_eq_true rfl, Nat.le_of_ble_eq_true rfl⟩) hq (Nat.le_refl _) (Nat.le_refl _) hNH ⟨rfl, rfl, rfl⟩
set_option maxRecDepth 20000 in
theorem x_TD_blocks_0 {l : Launch} (htr : l.stackTraces = false) {D : va_G} {K : Nat → ClassId} {ad : Nat → Nat} {S : zSt} {v0 : Int32} (hv : v0 < 0 ∨ 8 ≤ v0) : zC l TB D zcls (ztyl K) y_TD_blocks (.code y_TD_blocks b_TD_blocks 2 (some FieldType.int)) (rmx 7 111) [.ref (ad 0), .int v0] ad (Lay K ad S) (zX0 K ad "java/lang/IndexOutOfBoundsException" S) := by
  refine zC.of (by decide +kernel) (Nat.le_of_ble_eq_true rfl) ?_
  intro x hx hr hml hnm hrm hq hNH
  show zV x ad (Lay K ad S) 0 0 [(0, .ref (ad 0)), (1, .int v0)] 0 []
  refine z_aload_n hx 0 d_TD_blocks_0 rfl ?_
  refine z_iload_n hx 1 d_TD_blocks_1 rfl ?_
  exact z_xV hx (x_TD_stratumAt htr hv) k_TD rfl ⟨a2_6, a2_9, a1_1, ⟨by decide +kernel, by decide +kernel⟩, fun sig h => by cases h; rfl⟩ a2_8 s_TD_stratumAt rfl rfl d_TD_blocks_2 (by rw [hrm]; exact ⟨Nat.le_of_ble_eq_true rfl, Nat.le_of_ble_eq_true rfl, Nat.le_of_ble_eq_true rfl, Nat.le_of_ble_eq_true rfl⟩) hq (Nat.le_refl _) (Nat.le_refl _) hNH ⟨rfl, rfl, rfl⟩
set_option maxRecDepth 20000 in
theorem x_TD_stock_0 {l : Launch} (htr : l.stackTraces = false) {D : va_G} {K : Nat → ClassId} {ad : Nat → Nat} {S : zSt} {v0 : Int32} (hv : badSite S v0) {v1 : Int32} : zC l TB D zcls (ztyl K) y_TD_stock (.code y_TD_stock b_TD_stock 3 (some FieldType.int)) (rmx 7 111) [.ref (ad 0), .int v0, .int v1] ad (Lay K ad S) (zX0 K ad "java/lang/IndexOutOfBoundsException" S) := by
  refine zC.of (by decide +kernel) (Nat.le_of_ble_eq_true rfl) ?_
  intro x hx hr hml hnm hrm hq hNH
  show zV x ad (Lay K ad S) 0 0 [(0, .ref (ad 0)), (1, .int v0), (2, .int v1)] 0 []
  refine z_aload_n hx 0 d_TD_stock_0 rfl ?_
  refine z_iload_n hx 1 d_TD_stock_1 rfl ?_
  exact z_xV hx (x_TD_siteAt_any htr hv) k_TD rfl ⟨a2_113, a2_116, a1_1, ⟨by decide +kernel, by decide +kernel⟩, fun sig h => by cases h; rfl⟩ a2_115 s_TD_siteAt rfl rfl d_TD_stock_2 (by rw [hrm]; exact ⟨Nat.le_of_ble_eq_true rfl, Nat.le_of_ble_eq_true rfl, Nat.le_of_ble_eq_true rfl, Nat.le_of_ble_eq_true rfl⟩) hq (Nat.le_refl _) (Nat.le_refl _) hNH ⟨rfl, rfl, rfl⟩
set_option maxRecDepth 20000 in
theorem x_TD_used_0 {l : Launch} (htr : l.stackTraces = false) {D : va_G} {K : Nat → ClassId} {ad : Nat → Nat} {S : zSt} {v0 : Int32} (hv : v0 < 0 ∨ ¬ v0 < 1000) : zC l TB D zcls (ztyl K) y_TD_used (.code y_TD_used b_TD_used 2 (some FieldType.int)) (rmx 7 110) [.ref (ad 0), .int v0] ad (Lay K ad S) (zX0 K ad "java/lang/IndexOutOfBoundsException" S) := by
  refine zC.of (by decide +kernel) (Nat.le_of_ble_eq_true rfl) ?_
  intro x hx hr hml hnm hrm hq hNH
  show zV x ad (Lay K ad S) 0 0 [(0, .ref (ad 0)), (1, .int v0)] 0 []
  refine z_iload_n hx 1 d_TD_used_0 rfl ?_
  exact z_xS hx (x_TD_needKit htr hv) ⟨a2_121, a2_123, a1_1, ⟨by decide +kernel, by decide +kernel⟩, fun sig h => by cases h; rfl⟩ a2_122 rfl rfl d_TD_used_1 (by rw [hrm]; exact ⟨Nat.le_of_ble_eq_true rfl, Nat.le_of_ble_eq_true rfl, Nat.le_of_ble_eq_true rfl, Nat.le_of_ble_eq_true rfl⟩) hq (Nat.le_refl _) (Nat.le_refl _) hNH ⟨rfl, rfl, rfl⟩
set_option maxRecDepth 20000 in
theorem x_TD_kits_range {l : Launch} (htr : l.stackTraces = false) {D : va_G} {K : Nat → ClassId} {ad : Nat → Nat} {S : zSt} {i : Nat} (hi : i < 10) (ho : S.2.2 9 i ≠ 0) {a : Nat} (ha : a < 4) (hav : nI a < (if S.2.2 1 1 = 0 then 4 else S.2.2 1 1)) {k : Nat} (hk : k < 1000) {v3 : Int32} (hr3 : ¬ lg_cmp ((nI k).toInt64 + v3.toInt64) 1000 ≤ 0) : zC l TB D zcls (ztyl K) y_TD_kits (.code y_TD_kits b_TD_kits 6 (some FieldType.int)) (rmx 7 112) [.ref (ad 0), .int (nI i), .int (nI a), .int (nI k), .int v3] ad (Lay K ad S) (zX0 K ad "java/lang/IndexOutOfBoundsException" S) := by
  refine zC.of (by decide +kernel) (Nat.le_of_ble_eq_true rfl) ?_
  intro x hx hr hml hnm hrm hq hNH
  show zV x ad (Lay K ad S) 0 0 [(0, .ref (ad 0)), (1, .int (nI i)), (2, .int (nI a)), (3, .int (nI k)), (4, .int v3)] 0 []
  refine z_aload_n hx 0 d_TD_kits_0 rfl ?_
  refine z_iload_n hx 1 d_TD_kits_1 rfl ?_
  refine z_cV hx (c_TD_siteAt hi ho) k_TD rfl ⟨a2_113, a2_116, a1_1, ⟨by decide +kernel, by decide +kernel⟩, fun sig h => by cases h; rfl⟩ a2_115 s_TD_siteAt rfl rfl d_TD_kits_2 (by rw [hrm]; exact ⟨Nat.le_of_ble_eq_true rfl, Nat.le_of_ble_eq_true rfl, Nat.le_of_ble_eq_true rfl, Nat.le_of_ble_eq_true rfl⟩) ?_
  show zV x ad (Lay K ad S) _ _ _ 5 [.ref (ad (100 + i))]
  refine z_astore hx [(5, .ref (ad (100 + i))), (0, .ref (ad 0)), (1, .int (nI i)), (2, .int (nI a)), (3, .int (nI k)), (4, .int v3)] d_TD_kits_5 (zN hml (by decide)) rfl ?_
  refine z_aload_n hx 1 d_TD_kits_7 rfl ?_
  refine z_iload_n hx 3 d_TD_kits_8 rfl ?_
  refine z_cV hx (c_TD_needArm (nI_pos (by omega)) hav) k_TD rfl ⟨a2_117, a2_120, a1_1, ⟨by decide +kernel, by decide +kernel⟩, fun sig h => by cases h; rfl⟩ a2_119 s_TD_needArm rfl rfl d_TD_kits_9 (by rw [hrm]; exact ⟨Nat.le_of_ble_eq_true rfl, Nat.le_of_ble_eq_true rfl, Nat.le_of_ble_eq_true rfl, Nat.le_of_ble_eq_true rfl⟩) ?_
  show zV x ad (Lay K ad S) _ _ _ 12 []
  refine z_iload_n hx 4 d_TD_kits_12 rfl ?_
  refine z_cS hx (c_TD_needKit hk) ⟨a2_121, a2_123, a1_1, ⟨by decide +kernel, by decide +kernel⟩, fun sig h => by cases h; rfl⟩ a2_122 rfl rfl d_TD_kits_13 (by rw [hrm]; exact ⟨Nat.le_of_ble_eq_true rfl, Nat.le_of_ble_eq_true rfl, Nat.le_of_ble_eq_true rfl, Nat.le_of_ble_eq_true rfl⟩) ?_
  show zV x ad (Lay K ad S) _ _ _ 16 []
  refine z_iload_n hx 4 d_TD_kits_16 rfl ?_
  refine z_i2l hx d_TD_kits_17 ?_
  refine z_iload hx 5 d_TD_kits_18 rfl ?_
  refine z_i2l hx d_TD_kits_20 ?_
  refine z_ladd hx d_TD_kits_21 ?_
  refine z_ldc2 (v := 1000) hx d_TD_kits_22 a2_124 ?_
  refine z_lcmp hx d_TD_kits_25 ?_
  refine z_if_le (tgt := 37) hx d_TD_kits_26 (by decide) (fun h => absurd h hr3) (fun _ => ?_)
  exact z_throw hx htr (ik := 86) (ic := 88) w_86 hq (Nat.le_refl _) (Nat.le_refl _) hNH (by rw [hrm]; exact ⟨Nat.le_of_ble_eq_true rfl, Nat.le_of_ble_eq_true rfl, Nat.le_of_ble_eq_true rfl, Nat.le_of_ble_eq_true rfl⟩) d_TD_kits_29 d_TD_kits_32 d_TD_kits_33 d_TD_kits_36 ⟨rfl, rfl, rfl⟩
set_option maxRecDepth 20000 in
theorem x_TD_kits_plan {l : Launch} (htr : l.stackTraces = false) {D : va_G} {K : Nat → ClassId} {ad : Nat → Nat} {S : zSt} {i : Nat} (hi : i < 10) (ho : S.2.2 9 i ≠ 0) {a : Nat} (ha : a < 4) (hav : nI a < (if S.2.2 1 1 = 0 then 4 else S.2.2 1 1)) {k : Nat} (hk : k < 1000) {v3 : Int32} (hpl : S.2.2 1 1 = 0) (hr3 : lg_cmp ((nI k).toInt64 + v3.toInt64) 1000 ≤ 0) : zC l TB D zcls (ztyl K) y_TD_kits (.code y_TD_kits b_TD_kits 6 (some FieldType.int)) (rmx 7 112) [.ref (ad 0), .int (nI i), .int (nI a), .int (nI k), .int v3] ad (Lay K ad S) (zX0 K ad "java/lang/IllegalStateException" S) := by
  refine zC.of (by decide +kernel) (Nat.le_of_ble_eq_true rfl) ?_
  intro x hx hr hml hnm hrm hq hNH
  show zV x ad (Lay K ad S) 0 0 [(0, .ref (ad 0)), (1, .int (nI i)), (2, .int (nI a)), (3, .int (nI k)), (4, .int v3)] 0 []
  refine z_aload_n hx 0 d_TD_kits_0 rfl ?_
  refine z_iload_n hx 1 d_TD_kits_1 rfl ?_
  refine z_cV hx (c_TD_siteAt hi ho) k_TD rfl ⟨a2_113, a2_116, a1_1, ⟨by decide +kernel, by decide +kernel⟩, fun sig h => by cases h; rfl⟩ a2_115 s_TD_siteAt rfl rfl d_TD_kits_2 (by rw [hrm]; exact ⟨Nat.le_of_ble_eq_true rfl, Nat.le_of_ble_eq_true rfl, Nat.le_of_ble_eq_true rfl, Nat.le_of_ble_eq_true rfl⟩) ?_
  show zV x ad (Lay K ad S) _ _ _ 5 [.ref (ad (100 + i))]
  refine z_astore hx [(5, .ref (ad (100 + i))), (0, .ref (ad 0)), (1, .int (nI i)), (2, .int (nI a)), (3, .int (nI k)), (4, .int v3)] d_TD_kits_5 (zN hml (by decide)) rfl ?_
  refine z_aload_n hx 1 d_TD_kits_7 rfl ?_
  refine z_iload_n hx 3 d_TD_kits_8 rfl ?_
  refine z_cV hx (c_TD_needArm (nI_pos (by omega)) hav) k_TD rfl ⟨a2_117, a2_120, a1_1, ⟨by decide +kernel, by decide +kernel⟩, fun sig h => by cases h; rfl⟩ a2_119 s_TD_needArm rfl rfl d_TD_kits_9 (by rw [hrm]; exact ⟨Nat.le_of_ble_eq_true rfl, Nat.le_of_ble_eq_true rfl, Nat.le_of_ble_eq_true rfl, Nat.le_of_ble_eq_true rfl⟩) ?_
  show zV x ad (Lay K ad S) _ _ _ 12 []
  refine z_iload_n hx 4 d_TD_kits_12 rfl ?_
  refine z_cS hx (c_TD_needKit hk) ⟨a2_121, a2_123, a1_1, ⟨by decide +kernel, by decide +kernel⟩, fun sig h => by cases h; rfl⟩ a2_122 rfl rfl d_TD_kits_13 (by rw [hrm]; exact ⟨Nat.le_of_ble_eq_true rfl, Nat.le_of_ble_eq_true rfl, Nat.le_of_ble_eq_true rfl, Nat.le_of_ble_eq_true rfl⟩) ?_
  show zV x ad (Lay K ad S) _ _ _ 16 []
  refine z_iload_n hx 4 d_TD_kits_16 rfl ?_
  refine z_i2l hx d_TD_kits_17 ?_
  refine z_iload hx 5 d_TD_kits_18 rfl ?_
  refine z_i2l hx d_TD_kits_20 ?_
  refine z_ladd hx d_TD_kits_21 ?_
  refine z_ldc2 (v := 1000) hx d_TD_kits_22 a2_124 ?_
  refine z_lcmp hx d_TD_kits_25 ?_
  refine z_if_le (tgt := 37) hx d_TD_kits_26 (by decide) (fun _ => ?_) (fun h => absurd hr3 h)
  refine z_aload_n hx 1 d_TD_kits_37 rfl ?_
  exact z_xV hx (x_TD_needPlan htr hpl) k_TD rfl ⟨a2_125, a2_128, a1_1, ⟨by decide +kernel, by decide +kernel⟩, fun sig h => by cases h; rfl⟩ a2_127 s_TD_needPlan rfl rfl d_TD_kits_38 (by rw [hrm]; exact ⟨Nat.le_of_ble_eq_true rfl, Nat.le_of_ble_eq_true rfl, Nat.le_of_ble_eq_true rfl, Nat.le_of_ble_eq_true rfl⟩) hq (Nat.le_refl _) (Nat.le_refl _) hNH ⟨rfl, rfl, rfl⟩
set_option maxRecDepth 20000 in
theorem x_TD_kits_count {l : Launch} (htr : l.stackTraces = false) {D : va_G} {K : Nat → ClassId} {ad : Nat → Nat} {S : zSt} {i : Nat} (hi : i < 10) (ho : S.2.2 9 i ≠ 0) {a : Nat} (ha : a < 4) (hav : nI a < (if S.2.2 1 1 = 0 then 4 else S.2.2 1 1)) {k : Nat} (hk : k < 1000) {v3 : Int32} (hpl : S.2.2 1 1 ≠ 0) (hr3 : lg_cmp ((nI k).toInt64 + v3.toInt64) 1000 ≤ 0) (hv : v3 < 1 ∨ ¬ v3 ≤ 50) : zC l TB D zcls (ztyl K) y_TD_kits (.code y_TD_kits b_TD_kits 6 (some FieldType.int)) (rmx 7 112) [.ref (ad 0), .int (nI i), .int (nI a), .int (nI k), .int v3] ad (Lay K ad S) (zX0 K ad "java/lang/IllegalArgumentException" S) := by
  refine zC.of (by decide +kernel) (Nat.le_of_ble_eq_true rfl) ?_
  intro x hx hr hml hnm hrm hq hNH
  show zV x ad (Lay K ad S) 0 0 [(0, .ref (ad 0)), (1, .int (nI i)), (2, .int (nI a)), (3, .int (nI k)), (4, .int v3)] 0 []
  refine z_aload_n hx 0 d_TD_kits_0 rfl ?_
  refine z_iload_n hx 1 d_TD_kits_1 rfl ?_
  refine z_cV hx (c_TD_siteAt hi ho) k_TD rfl ⟨a2_113, a2_116, a1_1, ⟨by decide +kernel, by decide +kernel⟩, fun sig h => by cases h; rfl⟩ a2_115 s_TD_siteAt rfl rfl d_TD_kits_2 (by rw [hrm]; exact ⟨Nat.le_of_ble_eq_true rfl, Nat.le_of_ble_eq_true rfl, Nat.le_of_ble_eq_true rfl, Nat.le_of_ble_eq_true rfl⟩) ?_
  show zV x ad (Lay K ad S) _ _ _ 5 [.ref (ad (100 + i))]
  refine z_astore hx [(5, .ref (ad (100 + i))), (0, .ref (ad 0)), (1, .int (nI i)), (2, .int (nI a)), (3, .int (nI k)), (4, .int v3)] d_TD_kits_5 (zN hml (by decide)) rfl ?_
  refine z_aload_n hx 1 d_TD_kits_7 rfl ?_
  refine z_iload_n hx 3 d_TD_kits_8 rfl ?_
  refine z_cV hx (c_TD_needArm (nI_pos (by omega)) hav) k_TD rfl ⟨a2_117, a2_120, a1_1, ⟨by decide +kernel, by decide +kernel⟩, fun sig h => by cases h; rfl⟩ a2_119 s_TD_needArm rfl rfl d_TD_kits_9 (by rw [hrm]; exact ⟨Nat.le_of_ble_eq_true rfl, Nat.le_of_ble_eq_true rfl, Nat.le_of_ble_eq_true rfl, Nat.le_of_ble_eq_true rfl⟩) ?_
  show zV x ad (Lay K ad S) _ _ _ 12 []
  refine z_iload_n hx 4 d_TD_kits_12 rfl ?_
  refine z_cS hx (c_TD_needKit hk) ⟨a2_121, a2_123, a1_1, ⟨by decide +kernel, by decide +kernel⟩, fun sig h => by cases h; rfl⟩ a2_122 rfl rfl d_TD_kits_13 (by rw [hrm]; exact ⟨Nat.le_of_ble_eq_true rfl, Nat.le_of_ble_eq_true rfl, Nat.le_of_ble_eq_true rfl, Nat.le_of_ble_eq_true rfl⟩) ?_
  show zV x ad (Lay K ad S) _ _ _ 16 []
  refine z_iload_n hx 4 d_TD_kits_16 rfl ?_
  refine z_i2l hx d_TD_kits_17 ?_
  refine z_iload hx 5 d_TD_kits_18 rfl ?_
  refine z_i2l hx d_TD_kits_20 ?_
  refine z_ladd hx d_TD_kits_21 ?_
  refine z_ldc2 (v := 1000) hx d_TD_kits_22 a2_124 ?_
  refine z_lcmp hx d_TD_kits_25 ?_
  refine z_if_le (tgt := 37) hx d_TD_kits_26 (by decide) (fun _ => ?_) (fun h => absurd hr3 h)
  refine z_aload_n hx 1 d_TD_kits_37 rfl ?_
  refine z_cV hx (c_TD_needPlan hpl) k_TD rfl ⟨a2_125, a2_128, a1_1, ⟨by decide +kernel, by decide +kernel⟩, fun sig h => by cases h; rfl⟩ a2_127 s_TD_needPlan rfl rfl d_TD_kits_38 (by rw [hrm]; exact ⟨Nat.le_of_ble_eq_true rfl, Nat.le_of_ble_eq_true rfl, Nat.le_of_ble_eq_true rfl, Nat.le_of_ble_eq_true rfl⟩) ?_
  show zV x ad (Lay K ad S) _ _ _ 41 []
  refine z_iload hx 5 d_TD_kits_41 rfl ?_
  refine z_iconst (v := 1) hx d_TD_kits_43 rfl ?_
  refine z_icmp_lt (tgt := 54) hx d_TD_kits_44 (by decide) (fun h1 => ?_) (fun h1 => ?_)
  · exact z_throw hx htr (ik := 57) (ic := 59) w_57 hq (Nat.le_refl _) (Nat.le_refl _) hNH (by rw [hrm]; exact ⟨Nat.le_of_ble_eq_true rfl, Nat.le_of_ble_eq_true rfl, Nat.le_of_ble_eq_true rfl, Nat.le_of_ble_eq_true rfl⟩) d_TD_kits_54 d_TD_kits_57 d_TD_kits_58 d_TD_kits_61 ⟨rfl, rfl, rfl⟩
  · refine z_iload hx 5 d_TD_kits_47 rfl ?_
    refine z_bipush (v := 50) hx d_TD_kits_49 rfl ?_
    refine z_icmp_le (tgt := 62) hx d_TD_kits_51 (by decide) (fun h => absurd h (hv.resolve_left h1)) (fun _ => ?_)
    exact z_throw hx htr (ik := 57) (ic := 59) w_57 hq (Nat.le_refl _) (Nat.le_refl _) hNH (by rw [hrm]; exact ⟨Nat.le_of_ble_eq_true rfl, Nat.le_of_ble_eq_true rfl, Nat.le_of_ble_eq_true rfl, Nat.le_of_ble_eq_true rfl⟩) d_TD_kits_54 d_TD_kits_57 d_TD_kits_58 d_TD_kits_61 ⟨rfl, rfl, rfl⟩
set_option maxRecDepth 20000 in
theorem x_TD_stock_what {l : Launch} (htr : l.stackTraces = false) {D : va_G} {K : Nat → ClassId} {ad : Nat → Nat} {S : zSt} {i : Nat} (hi : i < 10) (ho : S.2.2 9 i ≠ 0) {v1 : Int32} (hv : v1.toInt < 0 ∨ 2 < v1.toInt) : zC l TB D zcls (ztyl K) y_TD_stock (.code y_TD_stock b_TD_stock 3 (some FieldType.int)) (rmx 7 111) [.ref (ad 0), .int (nI i), .int v1] ad (Lay K ad S) (zX0 K ad "java/lang/IllegalArgumentException" S) := by
  refine zC.of (by decide +kernel) (Nat.le_of_ble_eq_true rfl) ?_
  intro x hx hr hml hnm hrm hq hNH
  show zV x ad (Lay K ad S) 0 0 [(0, .ref (ad 0)), (1, .int (nI i)), (2, .int v1)] 0 []
  refine z_aload_n hx 0 d_TD_stock_0 rfl ?_
  refine z_iload_n hx 1 d_TD_stock_1 rfl ?_
  refine z_cV hx (c_TD_siteAt hi ho) k_TD rfl ⟨a2_113, a2_116, a1_1, ⟨by decide +kernel, by decide +kernel⟩, fun sig h => by cases h; rfl⟩ a2_115 s_TD_siteAt rfl rfl d_TD_stock_2 (by rw [hrm]; exact ⟨Nat.le_of_ble_eq_true rfl, Nat.le_of_ble_eq_true rfl, Nat.le_of_ble_eq_true rfl, Nat.le_of_ble_eq_true rfl⟩) ?_
  show zV x ad (Lay K ad S) _ _ _ 5 [.ref (ad (100 + i))]
  refine z_pop hx d_TD_stock_5 rfl ?_
  refine z_iload_n hx 2 d_TD_stock_6 rfl ?_
  refine z_tabOut (tgt := 62) hx d_TD_stock_7 hv (by decide) ?_
  exact z_throw hx htr (ik := 57) (ic := 59) w_57 hq (Nat.le_refl _) (Nat.le_refl _) hNH (by rw [hrm]; exact ⟨Nat.le_of_ble_eq_true rfl, Nat.le_of_ble_eq_true rfl, Nat.le_of_ble_eq_true rfl, Nat.le_of_ble_eq_true rfl⟩) d_TD_stock_62 d_TD_stock_65 d_TD_stock_66 d_TD_stock_69 ⟨rfl, rfl, rfl⟩
set_option maxRecDepth 20000 in
theorem x_TD_mount {l : Launch} (htr : l.stackTraces = false) {D : va_G} {K : Nat → ClassId} {ad : Nat → Nat} {S : zSt} (hd : S.2.2 3 0 = 0) : zC l TB D zcls (ztyl K) y_TD_mount (.code y_TD_mount b_TD_mount 1 (some FieldType.int)) (rmx 6 90) [.ref (ad 0)] ad (Lay K ad S) (zX0 K ad "java/lang/IllegalStateException" S) := by
  refine zC.of (by decide +kernel) (Nat.le_of_ble_eq_true rfl) ?_
  intro x hx hr hml hnm hrm hq hNH
  show zV x ad (Lay K ad S) 0 0 [(0, .ref (ad 0))] 0 []
  refine z_aload_n hx 0 d_TD_mount_0 rfl ?_
  refine z_get hx k_TD (t := 0) rfl 1 (by decide) a1_129 rfl d_TD_mount_1 ?_
  refine z_getN hx k_Jo (t := 3) rfl 0 (by decide) a1_58 rfl d_TD_mount_4 ?_
  refine z_if_ne (tgt := 18) hx d_TD_mount_7 (by decide) (fun h => absurd hd h) (fun _ => ?_)
  exact z_throw hx htr (ik := 64) (ic := 66) w_64 hq (Nat.le_refl _) (Nat.le_refl _) hNH (by rw [hrm]; exact ⟨Nat.le_of_ble_eq_true rfl, Nat.le_of_ble_eq_true rfl, Nat.le_of_ble_eq_true rfl, Nat.le_of_ble_eq_true rfl⟩) d_TD_mount_10 d_TD_mount_13 d_TD_mount_14 d_TD_mount_17 ⟨rfl, rfl, rfl⟩
set_option maxRecDepth 20000 in
theorem x_TD_arms {l : Launch} (htr : l.stackTraces = false) {D : va_G} {K : Nat → ClassId} {ad : Nat → Nat} {S : zSt} {a b c d z : Int32} {w : Int64} (hv : areW a b c d = 0 ∨ isZ z (a + b + c + d) = 0) : zC l TB D zcls (ztyl K) y_TD_arms (.code y_TD_arms b_TD_arms 9 (none : Option FieldType)) (rmx 7 111) [.ref (ad 0), .int a, .int b, .int c, .int d, .int z, .long w] ad (Lay K ad S) (zX0 K ad "java/lang/IllegalArgumentException" S) := by
  refine zC.of (by decide +kernel) (Nat.le_of_ble_eq_true rfl) ?_
  intro x hx hr hml hnm hrm hq hNH
  show zV x ad (Lay K ad S) 0 0 [(0, .ref (ad 0)), (1, .int a), (2, .int b), (3, .int c), (4, .int d), (5, .int z), (6, .long w)] 0 []
  refine z_iload_n hx 1 d_TD_arms_0 rfl ?_
  refine z_iload_n hx 2 d_TD_arms_1 rfl ?_
  refine z_iload_n hx 3 d_TD_arms_2 rfl ?_
  refine z_iload hx 4 d_TD_arms_3 rfl ?_
  refine z_cS hx (c_TD_areWeights) ⟨a1_170, a1_172, a1_1, ⟨by decide +kernel, by decide +kernel⟩, fun sig h => by cases h; rfl⟩ a1_171 rfl rfl d_TD_arms_5 (by rw [hrm]; exact ⟨Nat.le_of_ble_eq_true rfl, Nat.le_of_ble_eq_true rfl, Nat.le_of_ble_eq_true rfl, Nat.le_of_ble_eq_true rfl⟩) ?_
  show zV x ad (Lay K ad S) _ _ _ 8 [.int (areW a b c d)]
  refine z_if_eq (tgt := 27) hx d_TD_arms_8 (by decide) (fun h1 => ?_) (fun h1 => ?_)
  · exact z_throw hx htr (ik := 57) (ic := 59) w_57 hq (Nat.le_refl _) (Nat.le_refl _) hNH (by rw [hrm]; exact ⟨Nat.le_of_ble_eq_true rfl, Nat.le_of_ble_eq_true rfl, Nat.le_of_ble_eq_true rfl, Nat.le_of_ble_eq_true rfl⟩) d_TD_arms_27 d_TD_arms_30 d_TD_arms_31 d_TD_arms_34 ⟨rfl, rfl, rfl⟩
  · refine z_iload hx 5 d_TD_arms_11 rfl ?_
    refine z_iload_n hx 1 d_TD_arms_13 rfl ?_
    refine z_iload_n hx 2 d_TD_arms_14 rfl ?_
    refine z_iadd hx d_TD_arms_15 ?_
    refine z_iload_n hx 3 d_TD_arms_16 rfl ?_
    refine z_iadd hx d_TD_arms_17 ?_
    refine z_iload hx 4 d_TD_arms_18 rfl ?_
    refine z_iadd hx d_TD_arms_20 ?_
    refine z_cS hx (c_TD_isSize) ⟨a1_176, a1_178, a1_1, ⟨by decide +kernel, by decide +kernel⟩, fun sig h => by cases h; rfl⟩ a1_177 rfl rfl d_TD_arms_21 (by rw [hrm]; exact ⟨Nat.le_of_ble_eq_true rfl, Nat.le_of_ble_eq_true rfl, Nat.le_of_ble_eq_true rfl, Nat.le_of_ble_eq_true rfl⟩) ?_
    show zV x ad (Lay K ad S) _ _ _ 24 [.int (isZ z (a + b + c + d))]
    refine z_if_ne (tgt := 35) hx d_TD_arms_24 (by decide) (fun h => absurd (hv.resolve_left h1) h) (fun _ => ?_)
    exact z_throw hx htr (ik := 57) (ic := 59) w_57 hq (Nat.le_refl _) (Nat.le_refl _) hNH (by rw [hrm]; exact ⟨Nat.le_of_ble_eq_true rfl, Nat.le_of_ble_eq_true rfl, Nat.le_of_ble_eq_true rfl, Nat.le_of_ble_eq_true rfl⟩) d_TD_arms_27 d_TD_arms_30 d_TD_arms_31 d_TD_arms_34 ⟨rfl, rfl, rfl⟩
set_option maxRecDepth 20000 in
theorem x_TD_arms_taken {l : Launch} (htr : l.stackTraces = false) {D : va_G} {K : Nat → ClassId} {ad : Nat → Nat} {S : zSt} {a b c d z : Int32} {w : Int64} (hv : ¬ areW a b c d = 0) (hz : ¬ isZ z (a + b + c + d) = 0) (ht : ¬ hasF (fun q => decide (¬ S.2.2 (40 + q) 6 ≤ 0)) 8 0 = 0) : zC l TB D zcls (ztyl K) y_TD_arms (.code y_TD_arms b_TD_arms 9 (none : Option FieldType)) (rmx 7 111) [.ref (ad 0), .int a, .int b, .int c, .int d, .int z, .long w] ad (Lay K ad S) (zX0 K ad "java/lang/IllegalStateException" S) := by
  refine zC.of (by decide +kernel) (Nat.le_of_ble_eq_true rfl) ?_
  intro x hx hr hml hnm hrm hq hNH
  show zV x ad (Lay K ad S) 0 0 [(0, .ref (ad 0)), (1, .int a), (2, .int b), (3, .int c), (4, .int d), (5, .int z), (6, .long w)] 0 []
  refine z_iload_n hx 1 d_TD_arms_0 rfl ?_
  refine z_iload_n hx 2 d_TD_arms_1 rfl ?_
  refine z_iload_n hx 3 d_TD_arms_2 rfl ?_
  refine z_iload hx 4 d_TD_arms_3 rfl ?_
  refine z_cS hx (c_TD_areWeights) ⟨a1_170, a1_172, a1_1, ⟨by decide +kernel, by decide +kernel⟩, fun sig h => by cases h; rfl⟩ a1_171 rfl rfl d_TD_arms_5 (by rw [hrm]; exact ⟨Nat.le_of_ble_eq_true rfl, Nat.le_of_ble_eq_true rfl, Nat.le_of_ble_eq_true rfl, Nat.le_of_ble_eq_true rfl⟩) ?_
  show zV x ad (Lay K ad S) _ _ _ 8 [.int (areW a b c d)]
  refine z_if_eq (tgt := 27) hx d_TD_arms_8 (by decide) (fun h => absurd h hv) (fun _ => ?_)
  refine z_iload hx 5 d_TD_arms_11 rfl ?_
  refine z_iload_n hx 1 d_TD_arms_13 rfl ?_
  refine z_iload_n hx 2 d_TD_arms_14 rfl ?_
  refine z_iadd hx d_TD_arms_15 ?_
  refine z_iload_n hx 3 d_TD_arms_16 rfl ?_
  refine z_iadd hx d_TD_arms_17 ?_
  refine z_iload hx 4 d_TD_arms_18 rfl ?_
  refine z_iadd hx d_TD_arms_20 ?_
  refine z_cS hx (c_TD_isSize) ⟨a1_176, a1_178, a1_1, ⟨by decide +kernel, by decide +kernel⟩, fun sig h => by cases h; rfl⟩ a1_177 rfl rfl d_TD_arms_21 (by rw [hrm]; exact ⟨Nat.le_of_ble_eq_true rfl, Nat.le_of_ble_eq_true rfl, Nat.le_of_ble_eq_true rfl, Nat.le_of_ble_eq_true rfl⟩) ?_
  show zV x ad (Lay K ad S) _ _ _ 24 [.int (isZ z (a + b + c + d))]
  refine z_if_ne (tgt := 35) hx d_TD_arms_24 (by decide) (fun _ => ?_) (fun h => absurd h hz)
  refine z_aload_n hx 0 d_TD_arms_35 rfl ?_
  refine z_cV hx (c_TD_isAnyBlockTaken) k_TD rfl ⟨a2_2, a2_5, a1_1, ⟨by decide +kernel, by decide +kernel⟩, fun sig h => by cases h; rfl⟩ a2_4 s_TD_isAnyBlockTaken rfl rfl d_TD_arms_36 (by rw [hrm]; exact ⟨Nat.le_of_ble_eq_true rfl, Nat.le_of_ble_eq_true rfl, Nat.le_of_ble_eq_true rfl, Nat.le_of_ble_eq_true rfl⟩) ?_
  show zV x ad (Lay K ad S) _ _ _ 39 [.int (hasF (fun q => decide (¬ S.2.2 (40 + q) 6 ≤ 0)) 8 0)]
  refine z_if_eq (tgt := 50) hx d_TD_arms_39 (by decide) (fun h => absurd h ht) (fun _ => ?_)
  exact z_throw hx htr (ik := 64) (ic := 66) w_64 hq (Nat.le_refl _) (Nat.le_refl _) hNH (by rw [hrm]; exact ⟨Nat.le_of_ble_eq_true rfl, Nat.le_of_ble_eq_true rfl, Nat.le_of_ble_eq_true rfl, Nat.le_of_ble_eq_true rfl⟩) d_TD_arms_42 d_TD_arms_45 d_TD_arms_46 d_TD_arms_49 ⟨rfl, rfl, rfl⟩
set_option maxRecDepth 20000 in
theorem x_TD_site {l : Launch} (htr : l.stackTraces = false) {D : va_G} {K : Nat → ClassId} {ad : Nat → Nat} {S : zSt} {v : Int32} (hv : v < 0 ∨ 10 ≤ v) : zC l TB D zcls (ztyl K) y_TD_site (.code y_TD_site b_TD_site 2 (some FieldType.int)) (rmx 6 90) [.ref (ad 0), .int v] ad (Lay K ad S) (zX0 K ad "java/lang/IndexOutOfBoundsException" S) := by
  refine zC.of (by decide +kernel) (Nat.le_of_ble_eq_true rfl) ?_
  intro x hx hr hml hnm hrm hq hNH
  show zV x ad (Lay K ad S) 0 0 [(0, .ref (ad 0)), (1, .int v)] 0 []
  refine z_iload_n hx 1 d_TD_site_0 rfl ?_
  refine z_if_lt (tgt := 13) hx d_TD_site_1 (by decide) (fun h1 => ?_) (fun h1 => ?_)
  · exact z_throw hx htr (ik := 86) (ic := 88) w_86 hq (Nat.le_refl _) (Nat.le_refl _) hNH (by rw [hrm]; exact ⟨Nat.le_of_ble_eq_true rfl, Nat.le_of_ble_eq_true rfl, Nat.le_of_ble_eq_true rfl, Nat.le_of_ble_eq_true rfl⟩) d_TD_site_13 d_TD_site_16 d_TD_site_17 d_TD_site_20 ⟨rfl, rfl, rfl⟩
  · refine z_iload_n hx 1 d_TD_site_4 rfl ?_
    refine z_aload_n hx 0 d_TD_site_5 rfl ?_
    refine z_get hx k_TD (t := 0) rfl 3 (by decide) a1_131 rfl d_TD_site_6 ?_
    refine z_alen hx 3 rfl (t := 9) rfl (v := 10) rfl d_TD_site_9 ?_
    refine z_icmp_lt (tgt := 21) hx d_TD_site_10 (by decide) (fun h => absurd h (Int32.not_lt.mpr (hv.resolve_left h1))) (fun _ => ?_)
    exact z_throw hx htr (ik := 86) (ic := 88) w_86 hq (Nat.le_refl _) (Nat.le_refl _) hNH (by rw [hrm]; exact ⟨Nat.le_of_ble_eq_true rfl, Nat.le_of_ble_eq_true rfl, Nat.le_of_ble_eq_true rfl, Nat.le_of_ble_eq_true rfl⟩) d_TD_site_13 d_TD_site_16 d_TD_site_17 d_TD_site_20 ⟨rfl, rfl, rfl⟩
set_option maxRecDepth 20000 in
theorem x_TD_site_there {l : Launch} (htr : l.stackTraces = false) {D : va_G} {K : Nat → ClassId} {ad : Nat → Nat} {S : zSt} {i : Nat} (hi : i < 10) (ho : S.2.2 9 i ≠ 0) : zC l TB D zcls (ztyl K) y_TD_site (.code y_TD_site b_TD_site 2 (some FieldType.int)) (rmx 6 90) [.ref (ad 0), .int (nI i)] ad (Lay K ad S) (zX0 K ad "java/lang/IllegalArgumentException" S) := by
  refine zC.of (by decide +kernel) (Nat.le_of_ble_eq_true rfl) ?_
  intro x hx hr hml hnm hrm hq hNH
  show zV x ad (Lay K ad S) 0 0 [(0, .ref (ad 0)), (1, .int (nI i))] 0 []
  refine z_iload_n hx 1 d_TD_site_0 rfl ?_
  refine z_if_lt (tgt := 13) hx d_TD_site_1 (by decide) (fun h => absurd h (nI_pos (by omega))) (fun _ => ?_)
  refine z_iload_n hx 1 d_TD_site_4 rfl ?_
  refine z_aload_n hx 0 d_TD_site_5 rfl ?_
  refine z_get hx k_TD (t := 0) rfl 3 (by decide) a1_131 rfl d_TD_site_6 ?_
  refine z_alen hx 3 rfl (t := 9) rfl (v := 10) rfl d_TD_site_9 ?_
  refine z_icmp_lt (tgt := 21) hx d_TD_site_10 (by decide) (fun _ => ?_) (fun h => absurd (nI_ltL 10 rfl hi (by decide)) h)
  refine z_aload_n hx 0 d_TD_site_21 rfl ?_
  refine z_get hx k_TD (t := 0) rfl 3 (by decide) a1_131 rfl d_TD_site_22 ?_
  refine z_iload_n hx 1 d_TD_site_25 rfl ?_
  refine z_aaldK hx 3 rfl (t := 9) rfl (k := i) (by omega) (by decide) (v := .ref (ad (100 + i))) (by show va_rf (if i < 10 then (if S.2.2 9 i = 0 then none else some (ad (100 + i))) else none) = _; rw [if_pos hi, if_neg ho]; rfl) d_TD_site_26 ?_
  refine z_ifnullR hx d_TD_site_27 ?_
  exact z_throw hx htr (ik := 57) (ic := 59) w_57 hq (Nat.le_refl _) (Nat.le_refl _) hNH (by rw [hrm]; exact ⟨Nat.le_of_ble_eq_true rfl, Nat.le_of_ble_eq_true rfl, Nat.le_of_ble_eq_true rfl, Nat.le_of_ble_eq_true rfl⟩) d_TD_site_30 d_TD_site_33 d_TD_site_34 d_TD_site_37 ⟨rfl, rfl, rfl⟩
