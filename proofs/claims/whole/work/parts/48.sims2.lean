/-! site, kits, close, report, offline: both sides -/
theorem rng {k : Nat} (hk : k < 1000) {v : Int32} : (lg_cmp ((nI k).toInt64 + v.toInt64) 1000 ≤ 0 ↔ lg_cmp (((nI k).toInt64 + v.toInt64) - 1) 999 ≤ 0) := by
  have hb := v.toInt_lt
  have hb2 := v.le_toInt
  have e1 : ((nI k).toInt64 + v.toInt64).toInt = (k : Int) + v.toInt := by
    rw [Int64.toInt_add, Int32.toInt_toInt64, Int32.toInt_toInt64, nI_toInt (by omega)]
    exact Int.bmod_eq_of_le (by omega) (by omega)
  have e2 : ((nI k).toInt64 + v.toInt64 - 1).toInt = (k : Int) + v.toInt - 1 := by
    rw [Int64.toInt_sub, e1]
    exact Int.bmod_eq_of_le (by show _ ≤ (k : Int) + v.toInt - 1; omega) (by show (k : Int) + v.toInt - 1 < _; omega)
  rw [lg_cmp_le, lg_cmp_le, Int64.le_iff_toInt_le, Int64.le_iff_toInt_le, e1, e2]
  have h1 : (1000 : Int64).toInt = 1000 := rfl
  have h2 : (999 : Int64).toInt = 999 := rfl
  omega
set_option maxRecDepth 20000 in
theorem sim_site {l : Launch} (htr : l.stackTraces = false) {D : va_G} {K : Nat → ClassId} {ad : Nat → Nat} {S : zSt} {g : Gh} {c : Nat} (h : Rel g c S) (hc : c < 512) {v0 : Int32} : SimW l D K ad S c y_La_site (.codeWith y_La_site b_La_site 4 (some .int) [(0, 9, 12, 21), (0, 9, 15, 13)]) [.int v0, .ref (ad 12)] y_Mo_site (.code y_Mo_site b_Mo_site 5 (some FieldType.int)) [.int v0] := by
  by_cases hv : v0 < 0 ∨ ¬ v0 < 10
  · exact sim_thr h hc (by decide) (wt_site_1 (x_TD_site htr (hv.imp id i10.mpr)) (by decide) (by decide)) (c_Mo_site_r hv) (by decide) (by decide)
  obtain ⟨i, hi, rfl⟩ := badI 10 rfl (by decide) hv
  by_cases ho : S.2.2 9 i = 0
  · have h21 : S.2.2 21 i ≤ 0 := by
      rcases h.st.1 i hi with q | q | q
      · rw [q.2]; decide
      · exact absurd (ho.symm.trans q.1) (by decide)
      · exact absurd (ho.symm.trans q.1) (by decide)
    by_cases hE : ¬ S.2.2 3 0 = 0 ∨ ¬ S.2.2 3 1 = 0
    · have e3 : (dSiE S).2.2.2 21 = S.2.2 21 := by
        unfold dSiE
        split
        · simp (disch := omega) only [wOk, wT, mS, mwO, mwT, stL_2, stL_1, stM_1, stM_L, rd_s, rd_j, rd_n, stM_n, rdL_s, rdL_j, rdL_n, stL_n, s9_n, s9_1, s9_L, putF_n, putF_1, putF_L, kpM_n, kpM_1, kpM_L, dpF_n, dropF_1, dropF_L, clR_n, clR_1, clR_L, clP_n, clP_1, clP_L, frmF_n, frmF_1, frmF_L, rqF_n, rpF_1, rpF_L, rpP_n, rpP_1, rpP_L, rkI_n, rkI_1, rkI_L, rpR_n, rpR_1, rpR_L, gvM_n, gvM_1, gvM_L, enF_n, enF_1, enF_L, usF_n, usF_1, usF_L]
        · rfl
      have hW := wo_site (l := l) (D := D) (K := K) (ad := ad) (S := S) (c_TD_site_early hi ho hE) (by decide) (by decide) zP_hp
      exact sim_okP hW (c_Mo_site hi (by rw [stL_2, e3]; exact h21)) (by decide) (by decide) (pu_siteE h hc hE)
    · have d0 : S.2.2 3 0 = 0 := Decidable.byContradiction fun q => hE (Or.inl q)
      have w0 : S.2.2 3 1 = 0 := Decidable.byContradiction fun q => hE (Or.inr q)
      have hW := wo_site (l := l) (D := D) (K := K) (ad := ad) (S := S) (PP := pAg ad 0 (S.2.2 0 6 + 1) (stM (st9 (wOk S) i) 0 6 (S.2.2 0 6 + 1))) (c_TD_site hi ho d0 w0) (by decide) (by decide) (fun r ad' ce' q => ⟨_, _, q.1, fun t ht => q.2.1 t (by show ¬ siT i t; unfold siT; omega), q.2.2, rfl, rfl⟩)
      refine sim_okA (s := 0) (z := S.2.2 0 6 + 1) (S1 := stM (st9 (wOk S) i) 0 6 (S.2.2 0 6 + 1)) (rm := { frames := 3, cells := 22, slots := 630, locals := 110 }) (by decide) (by show 630 ≤ _; omega) hW (fun ad' => c_Mo_site hi (by simp (disch := omega) only [wOk, wT, mS, mwO, mwT, stL_2, stL_1, stM_1, stM_L, rd_s, rd_j, rd_n, stM_n, rdL_s, rdL_j, rdL_n, stL_n, s9_n, s9_1, s9_L, putF_n, putF_1, putF_L, kpM_n, kpM_1, kpM_L, dpF_n, dropF_1, dropF_L, clR_n, clR_1, clR_L, clP_n, clP_1, clP_L, frmF_n, frmF_1, frmF_L, rqF_n, rpF_1, rpF_L, rpP_n, rpP_1, rpP_L, rkI_n, rkI_1, rkI_L, rpR_n, rpR_1, rpR_L, gvM_n, gvM_1, gvM_L, enF_n, enF_1, enF_L, usF_n, usF_1, usF_L]; exact h21)) (by decide) (by decide) (pu_site h hc hi ho d0 w0 rfl)
  · have h21 : ¬ S.2.2 21 i ≤ 0 := by
      rcases h.st.1 i hi with q | q | q
      · exact absurd q.1 ho
      · rw [q.2.1]; decide
      · rw [q.2.1]; decide
    exact sim_thr h hc (by decide) (wt_site_2 (x_TD_site_there htr hi ho) (by decide) (by decide)) (c_Mo_site_there hi h21) (by decide) (by decide)
set_option maxRecDepth 20000 in
theorem sim_kits {l : Launch} (htr : l.stackTraces = false) {D : va_G} {K : Nat → ClassId} {ad : Nat → Nat} {S : zSt} {g : Gh} {c : Nat} (h : Rel g c S) (hc : c < 512) {v0 : Int32} {v1 : Int32} {v2 : Int32} {v3 : Int32} : SimW l D K ad S c y_La_kits (.codeWith y_La_kits b_La_kits 7 (some .int) [(0, 14, 17, 21), (0, 14, 21, 15), (0, 14, 25, 13)]) [.int v0, .int v1, .int v2, .int v3, .ref (ad 12)] y_Mo_kits (.code y_Mo_kits b_Mo_kits 7 (some FieldType.int)) [.int v0, .int v1, .int v2, .int v3] := by
  rcases site_dec h.st v0 with ⟨e0, e0'⟩ | ⟨i, hi, rfl, h9, h21⟩
  · exact sim_thr h hc (by decide) (wt_kits_1 (x_TD_kits_0 htr e0) (by decide) (by decide)) (c_Mo_kits_r0 e0') (by decide) (by decide)
  rcases arm_dec h.pl v1 with ⟨e1, e1'⟩ | ⟨a, ha, rfl, hav, hav'⟩
  · exact sim_thr h hc (by decide) (wt_kits_1 (x_TD_kits_1 htr hi h9 e1) (by decide) (by decide)) (c_Mo_kits_r1 hi h21 e1') (by decide) (by decide)
  rcases kit_dec v2 with e2 | ⟨k, hk, rfl⟩
  · exact sim_thr h hc (by decide) (wt_kits_1 (x_TD_kits_2 htr hi h9 ha hav e2) (by decide) (by decide)) (c_Mo_kits_r2 hi h21 hav' e2) (by decide) (by decide)
  by_cases hr : lg_cmp ((nI k).toInt64 + v3.toInt64) 1000 ≤ 0
  · have hr' := (rng hk).mp hr
    rcases plan_dec h.pl with ⟨-, e2, e2'⟩ | ⟨-, e2, e2', -⟩
    · exact sim_thr h hc (by decide) (wt_kits_2 (x_TD_kits_plan htr hi h9 ha hav hk e2 hr) (by decide) (by decide)) (c_Mo_kits_plan hi h21 hk hav' hr' e2') (by decide) (by decide)
    by_cases hv : v3 < 1 ∨ ¬ v3 ≤ 50
    · have hw : wiF v3 1 50 = 0 := by
        unfold wiF
        rcases hv with q | q
        · rw [if_pos q]
        · rw [if_pos (Int32.not_le.mp q)]
          split <;> rfl
      exact sim_thr h hc (by decide) (wt_kits_3 (x_TD_kits_count htr hi h9 ha hav hk e2 hr hv) (by decide) (by decide)) (c_Mo_kits_count hi h21 hk hav' hr' e2' hw) (by decide) (by decide)
    · have hw : wiF v3 1 50 = 1 := by
        unfold wiF
        rw [if_neg (fun q => hv (Or.inl q)), if_neg (fun q => hv (Or.inr (Int32.not_le.mpr q)))]
      obtain ⟨n, hn1, hn5, rfl⟩ := wi1 (l := 1) (h := 50) (by decide) (by decide) (v := v3) (by show ¬ wiF v3 1 50 = 0; rw [hw]; decide)
      have hkn : k + n ≤ 1000 := by
        have e1 : ((nI k).toInt64 + (nI n).toInt64).toInt = (k : Int) + n := by
          rw [Int64.toInt_add, Int32.toInt_toInt64, Int32.toInt_toInt64, nI_toInt (by omega), nI_toInt (by omega)]
          exact Int.bmod_eq_of_le (by omega) (by omega)
        rw [lg_cmp_le, Int64.le_iff_toInt_le, e1] at hr
        have h1 : (1000 : Int64).toInt = 1000 := rfl
        omega
      have q21 : (dKits S i a k n).2.2.2 21 = S.2.2 21 := by
        unfold dKits
        split
        · split
          · split
            · split
              · simp (disch := omega) only [wOk, wT, mS, mwO, mwT, stL_2, stL_1, stM_1, stM_L, rd_s, rd_j, rd_n, stM_n, rdL_s, rdL_j, rdL_n, stL_n, s9_n, s9_1, s9_L, putF_n, putF_1, putF_L, kpM_n, kpM_1, kpM_L, dpF_n, dropF_1, dropF_L, clR_n, clR_1, clR_L, clP_n, clP_1, clP_L, frmF_n, frmF_1, frmF_L, rqF_n, rpF_1, rpF_L, rpP_n, rpP_1, rpP_L, rkI_n, rkI_1, rkI_L, rpR_n, rpR_1, rpR_L, gvM_n, gvM_1, gvM_L, enF_n, enF_1, enF_L, usF_n, usF_1, usF_L]
              · simp (disch := omega) only [wOk, wT, mS, mwO, mwT, stL_2, stL_1, stM_1, stM_L, rd_s, rd_j, rd_n, stM_n, rdL_s, rdL_j, rdL_n, stL_n, s9_n, s9_1, s9_L, putF_n, putF_1, putF_L, kpM_n, kpM_1, kpM_L, dpF_n, dropF_1, dropF_L, clR_n, clR_1, clR_L, clP_n, clP_1, clP_L, frmF_n, frmF_1, frmF_L, rqF_n, rpF_1, rpF_L, rpP_n, rpP_1, rpP_L, rkI_n, rkI_1, rkI_L, rpR_n, rpR_1, rpR_L, gvM_n, gvM_1, gvM_L, enF_n, enF_1, enF_L, usF_n, usF_1, usF_L]
            · rfl
          · rfl
        · rfl
      have q13 : (dKits S i a k n).2.2.2 13 = S.2.2 13 := by
        unfold dKits
        split
        · split
          · split
            · split
              · simp (disch := omega) only [wOk, wT, mS, mwO, mwT, stL_2, stL_1, stM_1, stM_L, rd_s, rd_j, rd_n, stM_n, rdL_s, rdL_j, rdL_n, stL_n, s9_n, s9_1, s9_L, putF_n, putF_1, putF_L, kpM_n, kpM_1, kpM_L, dpF_n, dropF_1, dropF_L, clR_n, clR_1, clR_L, clP_n, clP_1, clP_L, frmF_n, frmF_1, frmF_L, rqF_n, rpF_1, rpF_L, rpP_n, rpP_1, rpP_L, rkI_n, rkI_1, rkI_L, rpR_n, rpR_1, rpR_L, gvM_n, gvM_1, gvM_L, enF_n, enF_1, enF_L, usF_n, usF_1, usF_L]
              · simp (disch := omega) only [wOk, wT, mS, mwO, mwT, stL_2, stL_1, stM_1, stM_L, rd_s, rd_j, rd_n, stM_n, rdL_s, rdL_j, rdL_n, stL_n, s9_n, s9_1, s9_L, putF_n, putF_1, putF_L, kpM_n, kpM_1, kpM_L, dpF_n, dropF_1, dropF_L, clR_n, clR_1, clR_L, clP_n, clP_1, clP_L, frmF_n, frmF_1, frmF_L, rqF_n, rpF_1, rpF_L, rpP_n, rpP_1, rpP_L, rkI_n, rkI_1, rkI_L, rpR_n, rpR_1, rpR_L, gvM_n, gvM_1, gvM_L, enF_n, enF_1, enF_L, usF_n, usF_1, usF_L]
            · rfl
          · rfl
        · rfl
      have hW := wo_kits (l := l) (D := D) (K := K) (ad := ad) (S := S) (c_TD_kits hi h9 ha hav hk hn1 hn5 hkn hr e2) (by decide) (by decide) zP_hp
      exact sim_okP hW (c_Mo_kits hi (by rw [stL_2, q21]; exact h21) hk hn1 hn5 hkn (by rw [stL_2, q13]; exact hav') (by rw [stL_2, q13]; exact e2') hr' hw) (by decide) (by decide) (pu_kits h hc hi h9 hkn)
  · exact sim_thr h hc (by decide) (wt_kits_1 (x_TD_kits_range htr hi h9 ha hav hk hr) (by decide) (by decide)) (c_Mo_kits_r3 hi h21 hk hav' (fun q => hr ((rng hk).mpr q))) (by decide) (by decide)
set_option maxRecDepth 20000 in
theorem sim_close {l : Launch} (htr : l.stackTraces = false) {D : va_G} {K : Nat → ClassId} {ad : Nat → Nat} {S : zSt} {g : Gh} {c : Nat} (h : Rel g c S) (hc : c < 512) {v0 : Int32} : SimW l D K ad S c y_La_close (.codeWith y_La_close b_La_close 4 (some .int) [(0, 9, 12, 21)]) [.int v0, .ref (ad 12)] y_Mo_close (.code y_Mo_close b_Mo_close 4 (some FieldType.int)) [.int v0] := by
  rcases site_dec h.st v0 with ⟨e0, e0'⟩ | ⟨i, hi, rfl, h9, h21⟩
  · exact sim_thr h hc (by decide) (wt_close_1 (x_TD_close_0 htr e0) (by decide) (by decide)) (c_Mo_close_r e0') (by decide) (by decide)
  · have q21 : (dClose S i).2.2.2 21 = S.2.2 21 := by
      unfold dClose
      split
      · split
        · split
          · simp (disch := omega) only [wOk, wT, mS, mwO, mwT, stL_2, stL_1, stM_1, stM_L, rd_s, rd_j, rd_n, stM_n, rdL_s, rdL_j, rdL_n, stL_n, s9_n, s9_1, s9_L, putF_n, putF_1, putF_L, kpM_n, kpM_1, kpM_L, dpF_n, dropF_1, dropF_L, clR_n, clR_1, clR_L, clP_n, clP_1, clP_L, frmF_n, frmF_1, frmF_L, rqF_n, rpF_1, rpF_L, rpP_n, rpP_1, rpP_L, rkI_n, rkI_1, rkI_L, rpR_n, rpR_1, rpR_L, gvM_n, gvM_1, gvM_L, enF_n, enF_1, enF_L, usF_n, usF_1, usF_L]
          · simp (disch := omega) only [wOk, wT, mS, mwO, mwT, stL_2, stL_1, stM_1, stM_L, rd_s, rd_j, rd_n, stM_n, rdL_s, rdL_j, rdL_n, stL_n, s9_n, s9_1, s9_L, putF_n, putF_1, putF_L, kpM_n, kpM_1, kpM_L, dpF_n, dropF_1, dropF_L, clR_n, clR_1, clR_L, clP_n, clP_1, clP_L, frmF_n, frmF_1, frmF_L, rqF_n, rpF_1, rpF_L, rpP_n, rpP_1, rpP_L, rkI_n, rkI_1, rkI_L, rpR_n, rpR_1, rpR_L, gvM_n, gvM_1, gvM_L, enF_n, enF_1, enF_L, usF_n, usF_1, usF_L]
        · rfl
      · rfl
    have hW := wo_close (l := l) (D := D) (K := K) (ad := ad) (S := S) (c_TD_close hi h9) (by decide) (by decide) zP_hp
    exact sim_okP hW (c_Mo_close hi (by rw [stL_2, q21]; exact h21)) (by decide) (by decide) (pu_close h hc hi h9)
set_option maxRecDepth 20000 in
theorem sim_report {l : Launch} (htr : l.stackTraces = false) {D : va_G} {K : Nat → ClassId} {ad : Nat → Nat} {S : zSt} {g : Gh} {c : Nat} (h : Rel g c S) (hc : c < 512) {v0 : Int32} : SimW l D K ad S c y_La_report (.codeWith y_La_report b_La_report 4 (some .int) [(0, 9, 12, 21)]) [.int v0, .ref (ad 12)] y_Mo_report (.code y_Mo_report b_Mo_report 5 (some FieldType.int)) [.int v0] := by
  rcases site_dec h.st v0 with ⟨e0, e0'⟩ | ⟨i, hi, rfl, h9, h21⟩
  · exact sim_thr h hc (by decide) (wt_report_1 (x_TD_report_0 htr e0) (by decide) (by decide)) (c_Mo_report_r e0') (by decide) (by decide)
  · have hok := rp_ok h hc hi h9
    have hs8 : ∀ k, k < 100 → (wOk S).2.2 (110 + i) k = 1 → g.sg (100 * i + k) < 8 := fun k hk q => (hok k hk (by revert q; simp (disch := omega) only [wOk, wT, mS, mwO, mwT, stL_2, stL_1, stM_1, stM_L, rd_s, rd_j, rd_n, stM_n, rdL_s, rdL_j, rdL_n, stL_n, s9_n, s9_1, s9_L, putF_n, putF_1, putF_L, kpM_n, kpM_1, kpM_L, dpF_n, dropF_1, dropF_L, clR_n, clR_1, clR_L, clP_n, clP_1, clP_L, frmF_n, frmF_1, frmF_L, rqF_n, rpF_1, rpF_L, rpP_n, rpP_1, rpP_L, rkI_n, rkI_1, rkI_L, rpR_n, rpR_1, rpR_L, gvM_n, gvM_1, gvM_L, enF_n, enF_1, enF_L, usF_n, usF_1, usF_L]; exact id)).2.1
    have qt : ∀ t, (t = 21 ∨ t = 13 ∨ t = 30 ∨ t = 31 ∨ t = 32) → (dReport S i (fun p => g.sg (100 * i + p)) (fun p => g.ar (100 * i + p))).2.2.2 t = S.2.2 t := by
      intro t ht
      unfold dReport
      obtain ⟨Y0, hY0⟩ : ∃ Y0, Y0 = frmF (dropF (rpF i (fun p => g.sg (100 * i + p)) (fun p => g.ar (100 * i + p)) (wOk S) 100) i 8) (nI i) 1000 := ⟨_, rfl⟩
      rw [← hY0]
      have y : Y0.2.2 t = S.2.2 t := by
        rw [hY0, frmF_n (by omega), dpF_n (by omega), rqF_n (by omega) (by omega) hs8, stM_n (by omega)]
      clear hY0
      split
      · split
        · split
          · exact y
          · simp (disch := omega) only [wOk, wT, mS, mwO, mwT, stL_2, stL_1, stM_1, stM_L, rd_s, rd_j, rd_n, stM_n, rdL_s, rdL_j, rdL_n, stL_n, s9_n, s9_1, s9_L, putF_n, putF_1, putF_L, kpM_n, kpM_1, kpM_L, dpF_n, dropF_1, dropF_L, clR_n, clR_1, clR_L, clP_n, clP_1, clP_L, frmF_n, frmF_1, frmF_L, rqF_n, rpF_1, rpF_L, rpP_n, rpP_1, rpP_L, rkI_n, rkI_1, rkI_L, rpR_n, rpR_1, rpR_L, gvM_n, gvM_1, gvM_L, enF_n, enF_1, enF_L, usF_n, usF_1, usF_L]
        · rfl
      · rfl
    have hW := wo_report (l := l) (D := D) (K := K) (ad := ad) (S := S) (c_TD_report hi h9 hok) (by decide) (by decide) zP_hp
    exact sim_okP hW (c_Mo_report hi (by rw [stL_2, qt 21 (by omega)]; exact h21) (by rw [stL_2, qt 13 (by omega)]; exact h.pl.2.2.2.1) (RP_Z h.pl) (by rw [stL_2, qt 31 (by omega)]; exact re_nx h hc) (by rw [stL_2, qt 30 (by omega), qt 32 (by omega)]; exact re_gk h hc)) (by decide) (by decide) (pu_report h hc hi h9)
theorem off_qt {S : zSt} {i s p a b k t : Nat} (hi : i < 10) (ht : t = 21 ∨ t = 13 ∨ t = 30 ∨ t = 31 ∨ t = 32) : (dOff S i s p a b k).2.2.2 t = S.2.2 t := by
  unfold dOff
  split
  · split
    · split
      · split
        · split
          · simp (disch := omega) only [wOk, wT, mS, mwO, mwT, stL_2, stL_1, stM_1, stM_L, rd_s, rd_j, rd_n, stM_n, rdL_s, rdL_j, rdL_n, stL_n, s9_n, s9_1, s9_L, putF_n, putF_1, putF_L, kpM_n, kpM_1, kpM_L, dpF_n, dropF_1, dropF_L, clR_n, clR_1, clR_L, clP_n, clP_1, clP_L, frmF_n, frmF_1, frmF_L, rqF_n, rpF_1, rpF_L, rpP_n, rpP_1, rpP_L, rkI_n, rkI_1, rkI_L, rpR_n, rpR_1, rpR_L, gvM_n, gvM_1, gvM_L, enF_n, enF_1, enF_L, usF_n, usF_1, usF_L]
          · simp (disch := omega) only [wOk, wT, mS, mwO, mwT, stL_2, stL_1, stM_1, stM_L, rd_s, rd_j, rd_n, stM_n, rdL_s, rdL_j, rdL_n, stL_n, s9_n, s9_1, s9_L, putF_n, putF_1, putF_L, kpM_n, kpM_1, kpM_L, dpF_n, dropF_1, dropF_L, clR_n, clR_1, clR_L, clP_n, clP_1, clP_L, frmF_n, frmF_1, frmF_L, rqF_n, rpF_1, rpF_L, rpP_n, rpP_1, rpP_L, rkI_n, rkI_1, rkI_L, rpR_n, rpR_1, rpR_L, gvM_n, gvM_1, gvM_L, enF_n, enF_1, enF_L, usF_n, usF_1, usF_L]
        · rfl
      · rfl
    · rfl
  · rfl
set_option maxRecDepth 20000 in
theorem sim_offline {l : Launch} (htr : l.stackTraces = false) {D : va_G} {K : Nat → ClassId} {ad : Nat → Nat} {S : zSt} {g : Gh} {c : Nat} (h : Rel g c S) (hc : c < 512) {v0 : Int32} {v1 : Int32} {v2 : Int32} : SimW l D K ad S c y_La_offline (.codeWith y_La_offline b_La_offline 6 (some .int) [(0, 12, 15, 21), (0, 12, 19, 15)]) [.int v0, .int v1, .int v2, .ref (ad 12)] y_Mo_offline (.code y_Mo_offline b_Mo_offline 6 (some FieldType.int)) [.int v0, .int v1, .int v2] := by
  rcases site_dec h.st v0 with ⟨e0, e0'⟩ | ⟨i, hi, rfl, h9, h21⟩
  · exact sim_thr h hc (by decide) (wt_offline_1 (x_TD_offline_0 htr e0) (by decide) (by decide)) (r_Mo_offline (Or.inl e0')) (by decide) (by decide)
  rcases str_dec v1 with ⟨e1, e1'⟩ | ⟨s, hs, rfl⟩
  · exact sim_thr h hc (by decide) (wt_offline_1 (x_TD_offline_1 htr hi h9 e1) (by decide) (by decide)) (r_Mo_offline (Or.inr (Or.inr e1'))) (by decide) (by decide)
  rcases per_dec v2 with e2 | ⟨p, hp, rfl⟩
  · exact sim_thr h hc (by decide) (wt_offline_1 (x_TD_offline_2 htr hi h9 hs e2) (by decide) (by decide)) (r_Mo_offline (Or.inr (Or.inl e2))) (by decide) (by decide)
  rcases plan_dec h.pl with ⟨-, e3, e3'⟩ | ⟨-, e3, e3', -⟩
  · exact sim_thr h hc (by decide) (wt_offline_2 (x_TD_offline_plan htr hi h9 hs hp e3) (by decide) (by decide)) (c_Mo_offline_plan hi h21 hp hs e3') (by decide) (by decide)
  obtain ⟨o1, o2, o3, o4, o5⟩ := h.ki.2.2.1 i s hi hs
  have hZ := RP_Z h.pl
  have hT := h.bk.2.1
  have hT5 := h.bk.2.2.1
  rcases o5 h9 with ⟨a1, a2, a3⟩ | he
  · have hW := wo_offline (l := l) (D := D) (K := K) (ad := ad) (S := S) (c_TD_offline (a := 0) (b := 0) (k := 0) hi h9 hs hp e3 a3 a2 (by omega) (by omega) (fun q => absurd q (by omega))) (by decide) (by decide) zP_hp
    exact sim_okP hW (c_Mo_offline (n := 0) (b := 0) (k := 0) hi (by rw [stL_2, off_qt hi (by omega)]; exact h21) hp hs (by rw [stL_2, off_qt hi (by omega)]; exact e3') (by rw [stL_2, off_qt hi (by omega)]; exact h.pl.2.2.2.1) hZ (fun q => absurd (by rw [stL_2, off_qt hi (by omega)]; exact a1) q)) (by decide) (by decide) (pu_offN h hc hi h9 hp a1)
  · obtain ⟨b, u1, u2, u3, u4, u5, u6⟩ := he
    have hW := wo_offline (l := l) (D := D) (K := K) (ad := ad) (S := S) (c_TD_offline (a := g.nx (8 * i + s)) (b := g.Z) (k := g.gk (24 * (8 * i + s) + g.nx (8 * i + s))) hi h9 hs hp e3 u5 u4 o2 hZ (fun q => ⟨(u6 _ q).2.2.1, (u6 _ q).2.1⟩)) (by decide) (by decide) zP_hp
    exact sim_okP hW (c_Mo_offline (n := g.nx (8 * i + s)) (b := b) (k := g.gk (24 * (8 * i + s) + g.nx (8 * i + s))) (Z := g.Z) hi (by rw [stL_2, off_qt hi (by omega)]; exact h21) hp hs (by rw [stL_2, off_qt hi (by omega)]; exact e3') (by rw [stL_2, off_qt hi (by omega)]; exact h.pl.2.2.2.1) hZ (by rw [stL_2, off_qt hi (by omega), off_qt hi (by omega), off_qt hi (by omega)]; exact fun _ => ⟨u1, by omega, o1, o2, fun q => ⟨(u6 _ q).1, (u6 _ q).2.1⟩⟩)) (by decide) (by decide) (pu_offY h hc hi hs h9 hp ⟨u1, u2, u3, u4, u5, u6⟩)
