/-! allot and reserve: both sides -/
theorem al_qt {S : zSt} {i s p a t : Nat} (ht : t ≠ 3 ∧ t ≠ 7 ∧ t ≠ 8 ∧ t ≠ 40 + s ∧ t ≠ 50 + s ∧ t ≠ 110 + i ∧ t ≠ 120 + i ∧ t ≠ 130 + i) : (dAllot S i s p a).2.2.2 t = S.2.2 t := by
  unfold dAllot
  split
  · rfl
  · split
    · simp (disch := omega) only [wOk, wT, mS, mwO, mwT, stL_2, stL_1, stM_1, stM_L, rd_s, rd_j, rd_n, stM_n, rdL_s, rdL_j, rdL_n, stL_n, s9_n, s9_1, s9_L, putF_n, putF_1, putF_L, kpM_n, kpM_1, kpM_L, dpF_n, dropF_1, dropF_L, clR_n, clR_1, clR_L, clP_n, clP_1, clP_L, frmF_n, frmF_1, frmF_L, rqF_n, rpF_1, rpF_L, rpP_n, rpP_1, rpP_L, rkI_n, rkI_1, rkI_L, rpR_n, rpR_1, rpR_L, gvM_n, gvM_1, gvM_L, enF_n, enF_1, enF_L, usF_n, usF_1, usF_L, teF_n, teF_1, teF_L, akF_n, akF_1, akF_L, tbM_n, tbM_13, tbM_1, tbM_L, naM_n, naM_13, naM_1, naM_L, fillF_n, fillF_1, fillF_L, markF_n, markF_1, markF_L, rmS_n, rmS_1, rmS_L, st11_n, st11_1, st11_L]
    · simp (disch := omega) only [wOk, wT, mS, mwO, mwT, stL_2, stL_1, stM_1, stM_L, rd_s, rd_j, rd_n, stM_n, rdL_s, rdL_j, rdL_n, stL_n, s9_n, s9_1, s9_L, putF_n, putF_1, putF_L, kpM_n, kpM_1, kpM_L, dpF_n, dropF_1, dropF_L, clR_n, clR_1, clR_L, clP_n, clP_1, clP_L, frmF_n, frmF_1, frmF_L, rqF_n, rpF_1, rpF_L, rpP_n, rpP_1, rpP_L, rkI_n, rkI_1, rkI_L, rpR_n, rpR_1, rpR_L, gvM_n, gvM_1, gvM_L, enF_n, enF_1, enF_L, usF_n, usF_1, usF_L, teF_n, teF_1, teF_L, akF_n, akF_1, akF_L, tbM_n, tbM_13, tbM_1, tbM_L, naM_n, naM_13, naM_1, naM_L, fillF_n, fillF_1, fillF_L, markF_n, markF_1, markF_L, rmS_n, rmS_1, rmS_L, st11_n, st11_1, st11_L]
theorem al_qL {S : zSt} {i s p a : Nat} : (dAllot S i s p a).2.2.1 = S.2.1 := by
  unfold dAllot
  split
  · rfl
  · split
    · simp (disch := omega) only [wOk, wT, mS, mwO, mwT, stL_2, stL_1, stM_1, stM_L, rd_s, rd_j, rd_n, stM_n, rdL_s, rdL_j, rdL_n, stL_n, s9_n, s9_1, s9_L, putF_n, putF_1, putF_L, kpM_n, kpM_1, kpM_L, dpF_n, dropF_1, dropF_L, clR_n, clR_1, clR_L, clP_n, clP_1, clP_L, frmF_n, frmF_1, frmF_L, rqF_n, rpF_1, rpF_L, rpP_n, rpP_1, rpP_L, rkI_n, rkI_1, rkI_L, rpR_n, rpR_1, rpR_L, gvM_n, gvM_1, gvM_L, enF_n, enF_1, enF_L, usF_n, usF_1, usF_L, teF_n, teF_1, teF_L, akF_n, akF_1, akF_L, tbM_n, tbM_13, tbM_1, tbM_L, naM_n, naM_13, naM_1, naM_L, fillF_n, fillF_1, fillF_L, markF_n, markF_1, markF_L, rmS_n, rmS_1, rmS_L, st11_n, st11_1, st11_L]
    · simp (disch := omega) only [wOk, wT, mS, mwO, mwT, stL_2, stL_1, stM_1, stM_L, rd_s, rd_j, rd_n, stM_n, rdL_s, rdL_j, rdL_n, stL_n, s9_n, s9_1, s9_L, putF_n, putF_1, putF_L, kpM_n, kpM_1, kpM_L, dpF_n, dropF_1, dropF_L, clR_n, clR_1, clR_L, clP_n, clP_1, clP_L, frmF_n, frmF_1, frmF_L, rqF_n, rpF_1, rpF_L, rpP_n, rpP_1, rpP_L, rkI_n, rkI_1, rkI_L, rpR_n, rpR_1, rpR_L, gvM_n, gvM_1, gvM_L, enF_n, enF_1, enF_L, usF_n, usF_1, usF_L, teF_n, teF_1, teF_L, akF_n, akF_1, akF_L, tbM_n, tbM_13, tbM_1, tbM_L, naM_n, naM_13, naM_1, naM_L, fillF_n, fillF_1, fillF_L, markF_n, markF_1, markF_L, rmS_n, rmS_1, rmS_L, st11_n, st11_1, st11_L]
theorem ge_A {g g' : Gh} (gg : ∀ k, k ≠ 7 → g' k = g k) : g'.A = g.A ∧ g'.Z = g.Z ∧ g'.W = g.W ∧ g'.e = g.e ∧ g'.T = g.T ∧ g'.bs = g.bs := by
  refine ⟨?_, ?_, ?_, ?_, ?_, ?_⟩
  · show g' 0 0 0 = g 0 0 0; rw [gg 0 (by decide)]
  · show g' 1 0 0 = g 1 0 0; rw [gg 1 (by decide)]
  · show g' 2 0 0 = g 2 0 0; rw [gg 2 (by decide)]
  · funext a; show g' 3 a 0 = g 3 a 0; rw [gg 3 (by decide)]
  · show g' 4 0 0 = g 4 0 0; rw [gg 4 (by decide)]
  · funext a; show g' 5 a 0 = g 5 a 0; rw [gg 5 (by decide)]
theorem bt_R {g : Gh} {c : Nat} {S : zSt} (h : Rel g c S) (hc : c < 512) {s : Nat} (hs : s < 8) : g.bt s = rkA g.bs s g.T ∨ g.bt s = rkA g.bs s g.T + 1 := (h.bk.2.2.2.2.2 s hs).2.2.2.2.2.2.1.imp (fun q => q.1) (fun q => q.1)
theorem room_M {g : Gh} {c : Nat} {S : zSt} (h : Rel g c S) (hc : c < 512) {s : Nat} (hs : s < 8) (hZ2 : g.Z ≤ 24) : S.1 (60 + s) < g.bt s * g.Z + g.Z → max (g.bt s * g.Z + g.Z) (2 * S.1 (60 + s)) ≤ 48 * (c + 1) + 100 := by
  intro hl
  have hr : rkA g.bs s g.T ≤ g.T := rkA_le
  have hT := h.bk.2.1
  have hb := bt_R h hc hs
  have : g.bt s * g.Z ≤ (c + 1) * 24 := Nat.mul_le_mul (by omega) hZ2
  omega
theorem ah_v {g : Gh} {c : Nat} {S : zSt} (h : Rel g c S) (hc : c < 512) {s : Nat} {S' : zSt} {g1 : Gh} (hs : s < 8) (R1 : Rel g1 c S') (gb : g1.bt s = rkA g1.bs s g1.T + 1) : ∀ q, q < g1.Z → S'.2.2 (60 + s) (rkA g1.bs s g1.T * g1.Z + q) = BV (S'.2.1 18 s) g1.e g1.A g1.Z q := by
  rcases (R1.bk.2.2.2.2.2 s hs).2.2.2.2.2.2.1 with q | q
  · exact absurd q.1 (by omega)
  · exact q.2.2.2
theorem pu_K {l : Launch} {D : va_G} {K : Nat → ClassId} {ad' : Nat → Nat} {S1 : zSt} {c : Nat} {yM : MethodName} {cwM : Cond} {avM : List Value} {z : Int32} {f w : Nat} {m : Int32 × zSt} (hR : zC l TB D zcls (ztyl K) yM cwM (rmk f w) (.ref (ad' 13) :: avM) ad' (Lay K ad' (stL S1 12 0 z.toInt64)) (zP K ad' (some (.int m.1)) m.2)) (hf : f ≤ 8) (hw : w ≤ 200) (hp : Pu c z m) : ∃ (f w : Nat) (S2 : zSt) (g' : Gh), zC l TB D zcls (ztyl K) yM cwM (rmk f w) (.ref (ad' 13) :: avM) ad' (Lay K ad' (stL S1 12 0 z.toInt64)) (zP K ad' (some (.int z)) S2) ∧ f ≤ 8 ∧ w ≤ 200 ∧ S2.2.2 13 0 = 0 ∧ S2.2.1 12 0 = z.toInt64 ∧ Rel g' (c + 1) S2 := by
  obtain ⟨h1, h2, h3, g', h4⟩ := hp
  rw [h1] at hR
  exact ⟨f, w, m.2, g', hR, hf, hw, h2, h3, h4⟩
set_option maxRecDepth 20000 in
theorem sim_allot {l : Launch} (htr : l.stackTraces = false) {D : va_G} {K : Nat → ClassId} {ad : Nat → Nat} {S : zSt} {g : Gh} {c : Nat} (h : Rel g c S) (hc : c < 512) {v0 : Int32} {v1 : Int32} {v2 : Int32} : SimW l D K ad S c y_La_allot (.codeWith y_La_allot b_La_allot 6 (some .int) [(0, 12, 15, 21), (0, 12, 19, 15)]) [.int v0, .int v1, .int v2, .ref (ad 12)] y_Mo_allot (.code y_Mo_allot b_Mo_allot 6 (some FieldType.int)) [.int v0, .int v1, .int v2] := by
  rcases site_dec h.st v0 with ⟨e0, e0'⟩ | ⟨i, hi, rfl, h9, h21⟩
  · exact sim_thr h hc (by decide) (wt_allot_1 (x_TD_allot_0 htr e0) (by decide) (by decide)) (r_Mo_allot (Or.inl e0')) (by decide) (by decide)
  rcases str_dec v1 with ⟨e1, e1'⟩ | ⟨s, hs, rfl⟩
  · exact sim_thr h hc (by decide) (wt_allot_1 (x_TD_allot_1 htr hi h9 e1) (by decide) (by decide)) (r_Mo_allot (Or.inr (Or.inr e1'))) (by decide) (by decide)
  rcases per_dec v2 with e2 | ⟨p, hp, rfl⟩
  · exact sim_thr h hc (by decide) (wt_allot_1 (x_TD_allot_2 htr hi h9 hs e2) (by decide) (by decide)) (r_Mo_allot (Or.inr (Or.inl e2))) (by decide) (by decide)
  rcases plan_dec h.pl with ⟨-, e3, e3'⟩ | ⟨-, e3, e3', hpl⟩
  · exact sim_thr h hc (by decide) (wt_allot_2 (x_TD_allot_plan htr hi h9 hs hp e3) (by decide) (by decide)) (c_Mo_allot_plan hi h21 hp hs e3') (by decide) (by decide)
  have hcl := cl_iff h hc hi h9
  have hpe := per_0 h hc hi h9 hp
  by_cases hE : ¬ S.2.2 3 0 = 0 ∨ ¬ S.2.2 0 7 = 0 ∨ ¬ S.2.2 (100 + i) 5 = 0 ∨ ¬ S.2.2 (110 + i) p = 0
  · have eS : (dAllE S i).2 = S := by
      unfold dAllE
      split
      · split
        · split <;> rfl
        · rfl
      · rfl
    have hE' : ¬ S.2.2 13 1 = 0 ∨ ¬ S.2.2 13 4 = 0 ∨ S.2.2 21 i = 2 ∨ ¬ S.2.2 25 (100 * i + p) ≤ 0 := by
      rcases hE with q | q | q | q
      · exact Or.inl (h.j0 ▸ q)
      · exact Or.inr (Or.inl (h.o7 ▸ q))
      · exact Or.inr (Or.inr (Or.inl (Decidable.byContradiction fun z => q (hcl.mpr z))))
      · exact Or.inr (Or.inr (Or.inr fun z => q (hpe.mpr z)))
    have hW := wo_allot (l := l) (D := D) (K := K) (ad := ad) (S := S) (c_TD_allot_early hi h9 hs hp e3 hE) (by decide) (by decide) zP_hp
    exact sim_okP hW (c_Mo_allot_early hi (by rw [eS]; exact h21) hp hs (by rw [eS]; exact e3') (by rw [eS]; exact hE')) (by decide) (by decide) (pu_allE h hc hi h9 hp)
  have d0 : S.2.2 3 0 = 0 := Decidable.byContradiction fun q => hE (Or.inl q)
  have o7 : S.2.2 0 7 = 0 := Decidable.byContradiction fun q => hE (Or.inr (Or.inl q))
  have cl : S.2.2 (100 + i) 5 = 0 := Decidable.byContradiction fun q => hE (Or.inr (Or.inr (Or.inl q)))
  have p0 : S.2.2 (110 + i) p = 0 := Decidable.byContradiction fun q => hE (Or.inr (Or.inr (Or.inr q)))
  have n2 : ¬ S.2.2 21 i = 2 := hcl.mp cl
  have h211 := (st_1 h hc hi h9 n2).2
  have h25' := hpe.mp p0
  have h25 : S.2.2 25 (100 * i + p) = 0 := (per_25 h hc hi hp).mp h25'
  have hZ1 : 1 ≤ g.Z := hpl.2.2.1
  have hZ2 : g.Z ≤ 24 := hpl.2.2.2.1
  have hA4 : g.A ≤ 4 := hpl.2.1
  have hsE : sE g.e g.A = g.Z := hpl.2.2.2.2.2.2.2.2.2
  have hT := h.bk.2.1
  have hrk : rkA g.bs s g.T ≤ g.T := rkA_le
  obtain ⟨a1, a2, a3, a4, a5, a6, a7, a8⟩ := h.bk.2.2.2.2.2 s hs
  have hbt := bt_R h hc hs
  have hlen : g.bt s = rkA g.bs s g.T + 1 → (rkA g.bs s g.T + 1) * g.Z ≤ S.1 (60 + s) := fun q => by rw [← q]; exact a5
  -- a new block
  have new : S.2.2 (40 + s) 8 = 0 → (S.2.2 19 s < 0 ∨ ∃ b, S.2.2 19 s = nI b ∧ b < 4200 ∧ S.2.2 20 s = S.2.2 13 6) → SimW l D K ad S c y_La_allot (.codeWith y_La_allot b_La_allot 6 (some .int) [(0, 12, 15, 21), (0, 12, 19, 15)]) [.int (nI i), .int (nI s), .int (nI p), .ref (ad 12)] y_Mo_allot (.code y_Mo_allot b_Mo_allot 6 (some FieldType.int)) [.int (nI i), .int (nI s), .int (nI p)] := by
    intro h8 hnf
    obtain ⟨g1, R1, gg, gb⟩ := ah_rel h hc hs hpl
    obtain ⟨eA, eZ, eW, ee, eT, ebs⟩ := ge_A gg
    obtain ⟨S', hS'⟩ : ∃ S', S' = ahS S s (rkA g.bs s g.T) (g.bt s) g.Z g.A g.e := ⟨_, rfl⟩
    have so : ∀ t, t ≠ 60 + s → t ≠ 40 + s → S'.2.2 t = S.2.2 t := fun t h1 h2 => by rw [hS', ahS_n h1 h2]
    have s8 : S'.2.2 (40 + s) 8 = 0 := by rw [hS', ahS_j (by decide)]; exact h8
    rw [← hS'] at R1
    have gb1 : g1.bt s = rkA g1.bs s g1.T + 1 := by rw [ebs, eT]; exact gb
    have hv := ah_v h hc hs R1 gb1
    obtain ⟨ar, har⟩ := BV_ar (w := S'.2.1 18 s) (e := g1.e) (A := g1.A) (Z := g1.Z) (by rw [ee, eA, eZ]; exact hsE) (by omega) (by omega)
    have har0 := har 0 (by omega)
    have hv0 := hv 0 (by omega)
    have ha4 : ar 0 < 4 := by omega
    have hpl1 : gPl g1.A g1.Z g1.W g1.e S' := by rw [eA, eZ, eW, ee]; exact gPl_c (by rw [so 1 (by omega) (by omega)]) (so 14 (by omega) (by omega)) hpl
    have eN : nxS S s 0 (rkA g.bs s g.T) (g.bt s) g.Z g.A g.e = S' := by rw [hS']; exact if_pos rfl
    have hD := c_TD_allot (l := l) (D := D) (K := K) (ad := ad) (S := S) (O := 0) (P := 0) (T := rkA g.bs s g.T) (A := g.A) (B := g.bt s) (Z := g.Z) (M := 48 * (c + 1) + 100) (e := g.e) (a := ar 0) hi h9 hs hp e3 d0 o7 cl p0 (Rel_hg h hs e3) a4 h.pl.2.2.1 hZ1 hZ2 h.pl.1 hA4 (gPl_e h.pl hpl) hsE a6 a2 hbt (by omega) hlen (room_M h hc hs hZ2) h8 (by decide) (fun q => absurd rfl q) ha4 (by
      show (if 0 = 0 then _ else _) = _
      rw [if_pos rfl, ← hS', ← har0.1, ← hv0, ebs, eT, eZ])
    rw [eN] at hD
    have qt : ∀ t, (t = 13 ∨ t = 14 ∨ t = 16 ∨ t = 19 ∨ t = 20 ∨ t = 21 ∨ t = 25) → (dAllot S' i s p (ar 0)).2.2.2 t = S.2.2 t := fun t ht => by rw [al_qt (by omega), so t (by omega) (by omega)]
    have hav : ∀ z, (tbM (mS (stL (dAllot S' i s p (ar 0)).2 12 0 z)) s g1.T g1.Z g1.A g1.e).2.2 16 (24 * g1.T) = nI (ar 0) := fun z => by
      have tv := (tbM_v (S := mS (stL (dAllot S' i s p (ar 0)).2 12 0 z)) (s := s) (T := g1.T) (Z := g1.Z) (A := g1.A) (e := g1.e) (by omega) (by rw [ee, eA, eZ]; exact hsE)).2 0 (by omega)
      rw [show (mS (stL (dAllot S' i s p (ar 0)).2 12 0 z)).2.1 18 s = S'.2.1 18 s from by simp (disch := omega) only [wOk, wT, mS, mwO, mwT, stL_2, stL_1, stM_1, stM_L, rd_s, rd_j, rd_n, stM_n, rdL_s, rdL_j, rdL_n, stL_n, s9_n, s9_1, s9_L, putF_n, putF_1, putF_L, kpM_n, kpM_1, kpM_L, dpF_n, dropF_1, dropF_L, clR_n, clR_1, clR_L, clP_n, clP_1, clP_L, frmF_n, frmF_1, frmF_L, rqF_n, rpF_1, rpF_L, rpP_n, rpP_1, rpP_L, rkI_n, rkI_1, rkI_L, rpR_n, rpR_1, rpR_L, gvM_n, gvM_1, gvM_L, enF_n, enF_1, enF_L, usF_n, usF_1, usF_L, teF_n, teF_1, teF_L, akF_n, akF_1, akF_L, tbM_n, tbM_13, tbM_1, tbM_L, naM_n, naM_13, naM_1, naM_L, fillF_n, fillF_1, fillF_L, markF_n, markF_1, markF_L, rmS_n, rmS_1, rmS_L, st11_n, st11_1, st11_L]; rw [al_qL]] at tv
      exact tv.trans har0.1
    have hbo : ∀ z, bOk (stL (dAllot S' i s p (ar 0)).2 12 0 z) := fun z j => by rw [stL_2, qt 16 (by omega)]; exact h.bk.2.2.2.1 j
    have hW := wo_allot hD (by show 7 ≤ 8; decide) (by show 143 ≤ 160; decide) zPa_hp
    refine sim_okA (s := s) (rm := rma (48 * (c + 1) + 100) 7 143) (by show 1 ≤ 25; decide) (by show 48 * (c + 1) + 100 ≤ _; omega) hW (fun ad' => ?_) (by decide : 3 ≤ 8) (by decide : 80 ≤ 200) (pu_allN R1 hc hi hs hp hpl1 (by rw [so 9 (by omega) (by omega)]; exact h9) (by rw [so 21 (by omega) (by omega)]; exact h211) (by rw [so 25 (by omega) (by omega)]; exact h25) gb1 s8 har0.1 ha4)
    rcases hnf with q | ⟨b, q1, q2, q3⟩
    · exact c_Mo_allot_neg (T := g1.T) (Z := g1.Z) (A := g1.A) (W := g.W) (e := g1.e) (a := ar 0) hi (by rw [stL_2, qt 21 (by omega)]; exact h21) hp hs (by rw [stL_2, qt 13 (by omega)]; exact e3') (by rw [stL_2, qt 13 (by omega)]; exact h.j0.symm.trans d0) (by rw [stL_2, qt 13 (by omega)]; exact h.o7.symm.trans o7) (by rw [stL_2, qt 21 (by omega)]; exact n2) (by rw [stL_2, qt 25 (by omega)]; exact h25') (by rw [stL_2, qt 19 (by omega)]; exact q) (by rw [stL_2, qt 13 (by omega), eT]; exact h.bk.1) (by omega) (by rw [stL_2, qt 13 (by omega), eZ]; exact h.pl.2.2.2.1) (by omega) (by omega) (by rw [stL_2, qt 13 (by omega), eA]; exact h.pl.2.1) (by omega) (by rw [stL_2, qt 14 (by omega)]; exact hpl.2.2.2.2.2.2.2.1) hpl.2.2.2.2.1 hpl.2.2.2.2.2.1 (by rw [stL_2, qt 14 (by omega), eA, eZ, ee]; exact hpl.2.2.2.2.2.2.2.2.1) (by rw [ee, eA, eZ]; exact hsE) (hbo _) (hav _)
    · exact c_Mo_allot_full (T := g1.T) (Z := g1.Z) (A := g1.A) (W := g.W) (e := g1.e) (a := ar 0) (b := b) hi (by rw [stL_2, qt 21 (by omega)]; exact h21) hp hs (by rw [stL_2, qt 13 (by omega)]; exact e3') (by rw [stL_2, qt 13 (by omega)]; exact h.j0.symm.trans d0) (by rw [stL_2, qt 13 (by omega)]; exact h.o7.symm.trans o7) (by rw [stL_2, qt 21 (by omega)]; exact n2) (by rw [stL_2, qt 25 (by omega)]; exact h25') (by rw [stL_2, qt 19 (by omega)]; exact q1) q2 (by rw [stL_2, qt 20 (by omega), qt 13 (by omega)]; exact q3) (by rw [stL_2, qt 13 (by omega), eT]; exact h.bk.1) (by omega) (by rw [stL_2, qt 13 (by omega), eZ]; exact h.pl.2.2.2.1) (by omega) (by omega) (by rw [stL_2, qt 13 (by omega), eA]; exact h.pl.2.1) (by omega) (by rw [stL_2, qt 14 (by omega)]; exact hpl.2.2.2.2.2.2.2.1) hpl.2.2.2.2.1 hpl.2.2.2.2.2.1 (by rw [stL_2, qt 14 (by omega), eA, eZ, ee]; exact hpl.2.2.2.2.2.2.2.2.1) (by rw [ee, eA, eZ]; exact hsE) (hbo _) (hav _)
  rcases a8 with ⟨q1, q2⟩ | ⟨b, o, b1, b2, b3, b4, b5, b6, b7⟩
  · exact new q2 (Or.inl q1)
  by_cases hoZ : o < g.Z
  · obtain ⟨w1, w2, w3⟩ := h.bk.2.2.2.2.1 b b2
    obtain ⟨w4, w5, w6⟩ := w3 o hoZ
    have hb4 : g.bl b o < 4 := by omega
    have hrb : rkB g.bs b < rkA g.bs s g.T := by rw [rkB, b3]; exact rkA_lt b2 b3
    have hm : rkB g.bs b * g.Z + g.Z ≤ g.bt s * g.Z := by
      rw [← Nat.succ_mul]
      exact Nat.mul_le_mul_right _ (by omega)
    have eN : nxS S s (g.Z - o) (rkA g.bs s g.T) (g.bt s) g.Z g.A g.e = S := if_neg (by omega)
    have hD := c_TD_allot (l := l) (D := D) (K := K) (ad := ad) (S := S) (O := g.Z - o) (P := rkB g.bs b * g.Z + o) (T := rkA g.bs s g.T) (A := g.A) (B := g.bt s) (Z := g.Z) (M := 48 * (c + 1) + 100) (e := g.e) (a := g.bl b o) hi h9 hs hp e3 d0 o7 cl p0 (Rel_hg h hs e3) a4 h.pl.2.2.1 hZ1 hZ2 h.pl.1 hA4 (gPl_e h.pl hpl) hsE a6 a2 hbt (by omega) hlen (room_M h hc hs hZ2) b6 (by omega) (fun _ => ⟨b7, by omega, by omega⟩) hb4 (by
      unfold nxV
      rw [if_neg (by omega), ← b3]
      exact w6)
    rw [eN] at hD
    have qt : ∀ t, (t = 13 ∨ t = 14 ∨ t = 16 ∨ t = 19 ∨ t = 20 ∨ t = 21 ∨ t = 25) → (dAllot S i s p (g.bl b o)).2.2.2 t = S.2.2 t := fun t ht => by rw [al_qt (by omega)]
    have hW := wo_allot hD (by show 7 ≤ 8; decide) (by show 143 ≤ 160; decide) zPa_hp
    exact sim_okA (s := s) (rm := rma (48 * (c + 1) + 100) 7 143) (by show 1 ≤ 25; decide) (by show 48 * (c + 1) + 100 ≤ _; omega) hW (fun ad' => c_Mo_allot_open (b := b) (o := o) (Z := g.Z) (a := g.bl b o) hi (by rw [stL_2, qt 21 (by omega)]; exact h21) hp hs (by rw [stL_2, qt 13 (by omega)]; exact e3') (by rw [stL_2, qt 13 (by omega)]; exact h.j0.symm.trans d0) (by rw [stL_2, qt 13 (by omega)]; exact h.o7.symm.trans o7) (by rw [stL_2, qt 21 (by omega)]; exact n2) (by rw [stL_2, qt 25 (by omega)]; exact h25') (by rw [stL_2, qt 19 (by omega)]; exact b1) (by omega) (by rw [stL_2, qt 20 (by omega)]; exact b4) (by rw [stL_2, qt 13 (by omega)]; exact h.pl.2.2.2.1) hoZ hZ2 (by rw [stL_2, qt 16 (by omega)]; exact w4)) (by decide : 3 ≤ 8) (by decide : 80 ≤ 200) (pu_allO h hc hi hs hp hb4 hpl h9 h211 h25 ⟨b1, b2, b3, b4, b6, b7⟩ hoZ)
  · have eo : o = g.Z := by omega
    exact new (by rw [b6, eo, Nat.sub_self]; rfl) (Or.inr ⟨b, b1, by omega, by rw [b4, eo]; exact h.pl.2.2.2.1.symm⟩)
set_option maxRecDepth 20000 in
theorem sim_reserve {l : Launch} (htr : l.stackTraces = false) {D : va_G} {K : Nat → ClassId} {ad : Nat → Nat} {S : zSt} {g : Gh} {c : Nat} (h : Rel g c S) (hc : c < 512) {v0 : Int32} {v1 : Int32} : SimW l D K ad S c y_La_reserve (.codeWith y_La_reserve b_La_reserve 5 (some .int) [(0, 10, 13, 21), (0, 10, 17, 15)]) [.int v0, .int v1, .ref (ad 12)] y_Mo_reserve (.code y_Mo_reserve b_Mo_reserve 7 (some FieldType.int)) [.int v0, .int v1] := by
  rcases site_dec h.st v0 with ⟨e0, e0'⟩ | ⟨i, hi, rfl, h9, h21⟩
  · exact sim_thr h hc (by decide) (wt_reserve_1 (x_TD_reserve_0 htr e0) (by decide) (by decide)) (c_Mo_reserve_r0 e0') (by decide) (by decide)
  rcases str_dec v1 with ⟨e1, e1'⟩ | ⟨s, hs, rfl⟩
  · exact sim_thr h hc (by decide) (wt_reserve_1 (x_TD_reserve_1 htr hi h9 e1) (by decide) (by decide)) (c_Mo_reserve_r1 hi h21 e1') (by decide) (by decide)
  rcases plan_dec h.pl with ⟨-, e3, e3'⟩ | ⟨-, e3, e3', hpl⟩
  · exact sim_thr h hc (by decide) (wt_reserve_2 (x_TD_reserve_plan htr hi h9 hs e3) (by decide) (by decide)) (c_Mo_reserve_plan hi h21 hs e3') (by decide) (by decide)
  have hcl := cl_iff h hc hi h9
  have hZ1 : 1 ≤ g.Z := hpl.2.2.1
  have hZ2 : g.Z ≤ 24 := hpl.2.2.2.1
  have hA4 : g.A ≤ 4 := hpl.2.1
  have hsE : sE g.e g.A = g.Z := hpl.2.2.2.2.2.2.2.2.2
  have hT := h.bk.2.1
  have hrk : rkA g.bs s g.T ≤ g.T := rkA_le
  have hre : S.2.2 (200 + 8 * i + s) 1 ≤ 0 ↔ S.2.2 30 (8 * i + s) < 0 := by
    rcases (h.ki.2.2.1 i s hi hs).2.2.2.2 h9 with q | ⟨b, u1, u2, u3, u4, -⟩
    · exact ⟨fun _ => q.1, fun _ => by rw [q.2.1]; decide⟩
    · rw [u1, u4]
      exact ⟨fun z => absurd z (fun z => absurd ((nI_leI (b := 0) (by omega) (by omega)).mp z) (by omega)), fun z => absurd z (nI_nlt (b := 0) (by omega) (by omega))⟩
  by_cases hE : ¬ S.2.2 3 0 = 0 ∨ ¬ S.2.2 0 7 = 0 ∨ ¬ S.2.2 (100 + i) 5 = 0 ∨ ¬ S.2.2 (200 + 8 * i + s) 1 ≤ 0
  · have eS : (dResE S i).2 = S := by
      unfold dResE
      split
      · split
        · split <;> rfl
        · rfl
      · rfl
    have hE' : ¬ S.2.2 13 1 = 0 ∨ ¬ S.2.2 13 4 = 0 ∨ S.2.2 21 i = 2 ∨ ¬ S.2.2 30 (8 * i + s) < 0 := by
      rcases hE with q | q | q | q
      · exact Or.inl (h.j0 ▸ q)
      · exact Or.inr (Or.inl (h.o7 ▸ q))
      · exact Or.inr (Or.inr (Or.inl (Decidable.byContradiction fun z => q (hcl.mpr z))))
      · exact Or.inr (Or.inr (Or.inr fun z => q (hre.mpr z)))
    have hW := wo_reserve (l := l) (D := D) (K := K) (ad := ad) (S := S) (c_TD_reserve_early hi h9 hs e3 hE) (by decide) (by decide) zP_hp
    exact sim_okP hW (c_Mo_reserve_early hi (by rw [eS]; exact h21) hs (by rw [eS]; exact e3') (by rw [eS]; exact hE')) (by decide) (by decide) (pu_resE h hc hi h9)
  have d0 : S.2.2 3 0 = 0 := Decidable.byContradiction fun q => hE (Or.inl q)
  have o7 : S.2.2 0 7 = 0 := Decidable.byContradiction fun q => hE (Or.inr (Or.inl q))
  have cl : S.2.2 (100 + i) 5 = 0 := Decidable.byContradiction fun q => hE (Or.inr (Or.inr (Or.inl q)))
  have r0 : S.2.2 (200 + 8 * i + s) 1 ≤ 0 := Decidable.byContradiction fun q => hE (Or.inr (Or.inr (Or.inr q)))
  have h30 := hre.mp r0
  have n2 : ¬ S.2.2 21 i = 2 := hcl.mp cl
  have h211 := (st_1 h hc hi h9 n2).2
  obtain ⟨a1, a2, a3, a4, a5, a6, a7, a8⟩ := h.bk.2.2.2.2.2 s hs
  have hbt := bt_R h hc hs
  have hlen : g.bt s = rkA g.bs s g.T + 1 → (rkA g.bs s g.T + 1) * g.Z ≤ S.1 (60 + s) := fun q => by rw [← q]; exact a5
  obtain ⟨g1, R1, gg, gb⟩ := ah_rel h hc hs hpl
  obtain ⟨eA, eZ, eW, ee, eT, ebs⟩ := ge_A gg
  obtain ⟨S', hS'⟩ : ∃ S', S' = ahS S s (rkA g.bs s g.T) (g.bt s) g.Z g.A g.e := ⟨_, rfl⟩
  have so : ∀ t, t ≠ 60 + s → t ≠ 40 + s → S'.2.2 t = S.2.2 t := fun t h1 h2 => by rw [hS', ahS_n h1 h2]
  rw [← hS'] at R1
  have gb1 : g1.bt s = rkA g1.bs s g1.T + 1 := by rw [ebs, eT]; exact gb
  have hv := ah_v h hc hs R1 gb1
  have hpl1 : gPl g1.A g1.Z g1.W g1.e S' := by rw [eA, eZ, eW, ee]; exact gPl_c (by rw [so 1 (by omega) (by omega)]) (so 14 (by omega) (by omega)) hpl
  have hsE1 : sE g1.e g1.A = g1.Z := hpl1.2.2.2.2.2.2.2.2.2
  obtain ⟨ar, har⟩ := BV_ar (w := S'.2.1 18 s) (e := g1.e) (A := g1.A) (Z := g1.Z) hsE1 (by omega) (by omega)
  have hcn := ar_cn hsE1 (by omega) (by omega) har
  have hD := c_TD_reserve (l := l) (D := D) (K := K) (ad := ad) (S := S) (T := rkA g.bs s g.T) (A := g.A) (B := g.bt s) (Z := g.Z) (M := 48 * (c + 1) + 100) (e := g.e) (ar := ar) hi h9 hs e3 d0 o7 cl r0 (Rel_hg h hs e3) a4 h.pl.2.2.1 hZ1 hZ2 h.pl.1 hA4 (gPl_e h.pl hpl) hsE a6 a2 hbt (by omega) hlen (room_M h hc hs hZ2) (fun q hq => by
    have v := hv q (by omega)
    have w := har q (by omega)
    rw [ebs, eT, eZ] at v
    rw [← hS']
    exact ⟨v.trans (by rw [← eZ]; exact w.1), by omega⟩)
  rw [← hS'] at hD
  have hW := wo_reserve (PP := fun z _ S1 => ∃ F, (z = -6 ∧ S1 = st11 S' F ∧ ∃ q, q < g.Z ∧ gK S' i ar q = 1000) ∨ (pkH S' i ar g.Z g.A 0 F ∧ ((S'.2.2 3 1 = 0 ∧ z = nI (rkA g.bs s g.T) ∧ S1 = rvS (wOk (st11 S' F)) i s g.Z (gK S' i ar)) ∨ (¬ S'.2.2 3 1 = 0 ∧ z = -2 ∧ S1 = wT (st11 S' F))))) hD (by show 7 ≤ 8; decide) (by show 148 ≤ 160; decide) (fun r ad' ce' q => by
    obtain ⟨q1, F, q2⟩ := q
    have lo : zLo ad ad' := fun t ht => q1 t (by omega)
    rcases q2 with ⟨r1, r2, r3⟩ | ⟨r1, ⟨r2, r3, r4⟩ | ⟨r2, r3, r4⟩⟩
    · exact ⟨-6, st11 S' F, r1, lo, r2, F, Or.inl ⟨rfl, rfl, r3⟩⟩
    · exact ⟨nI (rkA g.bs s g.T), rvS (wOk (st11 S' F)) i s g.Z (gK S' i ar), r3, lo, r4, F, Or.inr ⟨r1, Or.inl ⟨r2, rfl, rfl⟩⟩⟩
    · exact ⟨-2, wT (st11 S' F), r3, lo, r4, F, Or.inr ⟨r1, Or.inr ⟨r2, rfl, rfl⟩⟩⟩)
  refine sim_ok (rm := rma (48 * (c + 1) + 100) 7 148) (by show 1 ≤ 25; decide) (by show 48 * (c + 1) + 100 ≤ _; omega) hW ?_
  rintro z ad' S1 ⟨F, hPP⟩ -
  have R2 : Rel g1 c (st11 S' F) := Rel_11 R1
  have ef : gK S' i ar = gM (st11 S' F) i ar := by
    funext q
    rw [gK_gM R1.ki.1 hi q]
    exact congrFun (gM_c rfl rfl rfl) q
  have hj : S'.2.2 13 1 = 0 := by rw [so 13 (by omega) (by omega)]; exact h.j0.symm.trans d0
  have hq4 : S'.2.2 13 4 = 0 := by rw [so 13 (by omega) (by omega)]; exact h.o7.symm.trans o7
  have base : ∀ Y : zSt, (∀ t, (t = 14 ∨ t = 16 ∨ t = 21 ∨ t = 22 ∨ t = 23 ∨ t = 24 ∨ t = 30) → Y.2.2 t = S'.2.2 t) → Y.2.2 13 = S'.2.2 13 → Y.2.1 18 = S'.2.1 18 → (gM (mS Y) i ar = gM (st11 S' F) i ar) := fun Y y1 _ _ => gM_c (by rw [stM_n (by decide), y1 22 (by omega)]; rfl) (by rw [stM_n (by decide), y1 23 (by omega)]; rfl) (by rw [stM_n (by decide), y1 24 (by omega)]; rfl)
  rcases hPP with ⟨rfl, rfl, q, hq, hk⟩ | ⟨hpk, hPP⟩
  · -- a kit lacks
    have hlk : ∃ q, 0 ≤ q ∧ q < g1.A ∧ cntI (pM (mS (stL (st11 S' F) 12 0 (Int32.toInt64 (-6)))) i q) 1000 < g1.e q := by
      refine Classical.byContradiction fun no => ?_
      have all := (gM_enough (S := mS (stL (st11 S' F) 12 0 (Int32.toInt64 (-6)))) (i := i) (fun q hq => (har q hq).2) hcn).mpr fun a ha => Nat.le_of_not_lt fun z => no ⟨a, Nat.zero_le _, ha, z⟩
      have := all q (by omega)
      rw [base _ (fun t ht => by simp (disch := omega) only [wOk, wT, mS, mwO, mwT, stL_2, stL_1, stM_1, stM_L, rd_s, rd_j, rd_n, stM_n, rdL_s, rdL_j, rdL_n, stL_n, s9_n, s9_1, s9_L, putF_n, putF_1, putF_L, kpM_n, kpM_1, kpM_L, dpF_n, dropF_1, dropF_L, clR_n, clR_1, clR_L, clP_n, clP_1, clP_L, frmF_n, frmF_1, frmF_L, rqF_n, rpF_1, rpF_L, rpP_n, rpP_1, rpP_L, rkI_n, rkI_1, rkI_L, rpR_n, rpR_1, rpR_L, gvM_n, gvM_1, gvM_L, enF_n, enF_1, enF_L, usF_n, usF_1, usF_L, teF_n, teF_1, teF_L, akF_n, akF_1, akF_L, tbM_n, tbM_13, tbM_1, tbM_L, naM_n, naM_13, naM_1, naM_L, fillF_n, fillF_1, fillF_L, markF_n, markF_1, markF_L, rmS_n, rmS_1, rmS_L, st11_n, st11_1, st11_L]) (by simp (disch := omega) only [wOk, wT, mS, mwO, mwT, stL_2, stL_1, stM_1, stM_L, rd_s, rd_j, rd_n, stM_n, rdL_s, rdL_j, rdL_n, stL_n, s9_n, s9_1, s9_L, putF_n, putF_1, putF_L, kpM_n, kpM_1, kpM_L, dpF_n, dropF_1, dropF_L, clR_n, clR_1, clR_L, clP_n, clP_1, clP_L, frmF_n, frmF_1, frmF_L, rqF_n, rpF_1, rpF_L, rpP_n, rpP_1, rpP_L, rkI_n, rkI_1, rkI_L, rpR_n, rpR_1, rpR_L, gvM_n, gvM_1, gvM_L, enF_n, enF_1, enF_L, usF_n, usF_1, usF_L, teF_n, teF_1, teF_L, akF_n, akF_1, akF_L, tbM_n, tbM_13, tbM_1, tbM_L, naM_n, naM_13, naM_1, naM_L, fillF_n, fillF_1, fillF_L, markF_n, markF_1, markF_L, rmS_n, rmS_1, rmS_L, st11_n, st11_1, st11_L]) (by simp (disch := omega) only [wOk, wT, mS, mwO, mwT, stL_2, stL_1, stM_1, stM_L, rd_s, rd_j, rd_n, stM_n, rdL_s, rdL_j, rdL_n, stL_n, s9_n, s9_1, s9_L, putF_n, putF_1, putF_L, kpM_n, kpM_1, kpM_L, dpF_n, dropF_1, dropF_L, clR_n, clR_1, clR_L, clP_n, clP_1, clP_L, frmF_n, frmF_1, frmF_L, rqF_n, rpF_1, rpF_L, rpP_n, rpP_1, rpP_L, rkI_n, rkI_1, rkI_L, rpR_n, rpR_1, rpR_L, gvM_n, gvM_1, gvM_L, enF_n, enF_1, enF_L, usF_n, usF_1, usF_L, teF_n, teF_1, teF_L, akF_n, akF_1, akF_L, tbM_n, tbM_13, tbM_1, tbM_L, naM_n, naM_13, naM_1, naM_L, fillF_n, fillF_1, fillF_L, markF_n, markF_1, markF_L, rmS_n, rmS_1, rmS_L, st11_n, st11_1, st11_L]), ← ef, hk] at this
      omega
    exact pu_K (m := (-6, mS (stL (st11 S' F) 12 0 (Int32.toInt64 (-6))))) (c_Mo_reserve_lack (T := g1.T) (Z := g1.Z) (A := g1.A) (W := g.W) (e := g1.e) hi (by simp (disch := omega) only [wOk, wT, mS, mwO, mwT, stL_2, stL_1, stM_1, stM_L, rd_s, rd_j, rd_n, stM_n, rdL_s, rdL_j, rdL_n, stL_n, s9_n, s9_1, s9_L, putF_n, putF_1, putF_L, kpM_n, kpM_1, kpM_L, dpF_n, dropF_1, dropF_L, clR_n, clR_1, clR_L, clP_n, clP_1, clP_L, frmF_n, frmF_1, frmF_L, rqF_n, rpF_1, rpF_L, rpP_n, rpP_1, rpP_L, rkI_n, rkI_1, rkI_L, rpR_n, rpR_1, rpR_L, gvM_n, gvM_1, gvM_L, enF_n, enF_1, enF_L, usF_n, usF_1, usF_L, teF_n, teF_1, teF_L, akF_n, akF_1, akF_L, tbM_n, tbM_13, tbM_1, tbM_L, naM_n, naM_13, naM_1, naM_L, fillF_n, fillF_1, fillF_L, markF_n, markF_1, markF_L, rmS_n, rmS_1, rmS_L, st11_n, st11_1, st11_L]; rw [so 21 (by omega) (by omega)]; exact h21) hs (by simp (disch := omega) only [wOk, wT, mS, mwO, mwT, stL_2, stL_1, stM_1, stM_L, rd_s, rd_j, rd_n, stM_n, rdL_s, rdL_j, rdL_n, stL_n, s9_n, s9_1, s9_L, putF_n, putF_1, putF_L, kpM_n, kpM_1, kpM_L, dpF_n, dropF_1, dropF_L, clR_n, clR_1, clR_L, clP_n, clP_1, clP_L, frmF_n, frmF_1, frmF_L, rqF_n, rpF_1, rpF_L, rpP_n, rpP_1, rpP_L, rkI_n, rkI_1, rkI_L, rpR_n, rpR_1, rpR_L, gvM_n, gvM_1, gvM_L, enF_n, enF_1, enF_L, usF_n, usF_1, usF_L, teF_n, teF_1, teF_L, akF_n, akF_1, akF_L, tbM_n, tbM_13, tbM_1, tbM_L, naM_n, naM_13, naM_1, naM_L, fillF_n, fillF_1, fillF_L, markF_n, markF_1, markF_L, rmS_n, rmS_1, rmS_L, st11_n, st11_1, st11_L]; rw [so 13 (by omega) (by omega)]; exact e3') (by simp (disch := omega) only [wOk, wT, mS, mwO, mwT, stL_2, stL_1, stM_1, stM_L, rd_s, rd_j, rd_n, stM_n, rdL_s, rdL_j, rdL_n, stL_n, s9_n, s9_1, s9_L, putF_n, putF_1, putF_L, kpM_n, kpM_1, kpM_L, dpF_n, dropF_1, dropF_L, clR_n, clR_1, clR_L, clP_n, clP_1, clP_L, frmF_n, frmF_1, frmF_L, rqF_n, rpF_1, rpF_L, rpP_n, rpP_1, rpP_L, rkI_n, rkI_1, rkI_L, rpR_n, rpR_1, rpR_L, gvM_n, gvM_1, gvM_L, enF_n, enF_1, enF_L, usF_n, usF_1, usF_L, teF_n, teF_1, teF_L, akF_n, akF_1, akF_L, tbM_n, tbM_13, tbM_1, tbM_L, naM_n, naM_13, naM_1, naM_L, fillF_n, fillF_1, fillF_L, markF_n, markF_1, markF_L, rmS_n, rmS_1, rmS_L, st11_n, st11_1, st11_L]; exact hj) (by simp (disch := omega) only [wOk, wT, mS, mwO, mwT, stL_2, stL_1, stM_1, stM_L, rd_s, rd_j, rd_n, stM_n, rdL_s, rdL_j, rdL_n, stL_n, s9_n, s9_1, s9_L, putF_n, putF_1, putF_L, kpM_n, kpM_1, kpM_L, dpF_n, dropF_1, dropF_L, clR_n, clR_1, clR_L, clP_n, clP_1, clP_L, frmF_n, frmF_1, frmF_L, rqF_n, rpF_1, rpF_L, rpP_n, rpP_1, rpP_L, rkI_n, rkI_1, rkI_L, rpR_n, rpR_1, rpR_L, gvM_n, gvM_1, gvM_L, enF_n, enF_1, enF_L, usF_n, usF_1, usF_L, teF_n, teF_1, teF_L, akF_n, akF_1, akF_L, tbM_n, tbM_13, tbM_1, tbM_L, naM_n, naM_13, naM_1, naM_L, fillF_n, fillF_1, fillF_L, markF_n, markF_1, markF_L, rmS_n, rmS_1, rmS_L, st11_n, st11_1, st11_L]; exact hq4) (by simp (disch := omega) only [wOk, wT, mS, mwO, mwT, stL_2, stL_1, stM_1, stM_L, rd_s, rd_j, rd_n, stM_n, rdL_s, rdL_j, rdL_n, stL_n, s9_n, s9_1, s9_L, putF_n, putF_1, putF_L, kpM_n, kpM_1, kpM_L, dpF_n, dropF_1, dropF_L, clR_n, clR_1, clR_L, clP_n, clP_1, clP_L, frmF_n, frmF_1, frmF_L, rqF_n, rpF_1, rpF_L, rpP_n, rpP_1, rpP_L, rkI_n, rkI_1, rkI_L, rpR_n, rpR_1, rpR_L, gvM_n, gvM_1, gvM_L, enF_n, enF_1, enF_L, usF_n, usF_1, usF_L, teF_n, teF_1, teF_L, akF_n, akF_1, akF_L, tbM_n, tbM_13, tbM_1, tbM_L, naM_n, naM_13, naM_1, naM_L, fillF_n, fillF_1, fillF_L, markF_n, markF_1, markF_L, rmS_n, rmS_1, rmS_L, st11_n, st11_1, st11_L]; rw [so 21 (by omega) (by omega)]; exact n2) (by simp (disch := omega) only [wOk, wT, mS, mwO, mwT, stL_2, stL_1, stM_1, stM_L, rd_s, rd_j, rd_n, stM_n, rdL_s, rdL_j, rdL_n, stL_n, s9_n, s9_1, s9_L, putF_n, putF_1, putF_L, kpM_n, kpM_1, kpM_L, dpF_n, dropF_1, dropF_L, clR_n, clR_1, clR_L, clP_n, clP_1, clP_L, frmF_n, frmF_1, frmF_L, rqF_n, rpF_1, rpF_L, rpP_n, rpP_1, rpP_L, rkI_n, rkI_1, rkI_L, rpR_n, rpR_1, rpR_L, gvM_n, gvM_1, gvM_L, enF_n, enF_1, enF_L, usF_n, usF_1, usF_L, teF_n, teF_1, teF_L, akF_n, akF_1, akF_L, tbM_n, tbM_13, tbM_1, tbM_L, naM_n, naM_13, naM_1, naM_L, fillF_n, fillF_1, fillF_L, markF_n, markF_1, markF_L, rmS_n, rmS_1, rmS_L, st11_n, st11_1, st11_L]; rw [so 30 (by omega) (by omega)]; exact h30) (by simp (disch := omega) only [wOk, wT, mS, mwO, mwT, stL_2, stL_1, stM_1, stM_L, rd_s, rd_j, rd_n, stM_n, rdL_s, rdL_j, rdL_n, stL_n, s9_n, s9_1, s9_L, putF_n, putF_1, putF_L, kpM_n, kpM_1, kpM_L, dpF_n, dropF_1, dropF_L, clR_n, clR_1, clR_L, clP_n, clP_1, clP_L, frmF_n, frmF_1, frmF_L, rqF_n, rpF_1, rpF_L, rpP_n, rpP_1, rpP_L, rkI_n, rkI_1, rkI_L, rpR_n, rpR_1, rpR_L, gvM_n, gvM_1, gvM_L, enF_n, enF_1, enF_L, usF_n, usF_1, usF_L, teF_n, teF_1, teF_L, akF_n, akF_1, akF_L, tbM_n, tbM_13, tbM_1, tbM_L, naM_n, naM_13, naM_1, naM_L, fillF_n, fillF_1, fillF_L, markF_n, markF_1, markF_L, rmS_n, rmS_1, rmS_L, st11_n, st11_1, st11_L]; exact R1.bk.1) (by omega) (by simp (disch := omega) only [wOk, wT, mS, mwO, mwT, stL_2, stL_1, stM_1, stM_L, rd_s, rd_j, rd_n, stM_n, rdL_s, rdL_j, rdL_n, stL_n, s9_n, s9_1, s9_L, putF_n, putF_1, putF_L, kpM_n, kpM_1, kpM_L, dpF_n, dropF_1, dropF_L, clR_n, clR_1, clR_L, clP_n, clP_1, clP_L, frmF_n, frmF_1, frmF_L, rqF_n, rpF_1, rpF_L, rpP_n, rpP_1, rpP_L, rkI_n, rkI_1, rkI_L, rpR_n, rpR_1, rpR_L, gvM_n, gvM_1, gvM_L, enF_n, enF_1, enF_L, usF_n, usF_1, usF_L, teF_n, teF_1, teF_L, akF_n, akF_1, akF_L, tbM_n, tbM_13, tbM_1, tbM_L, naM_n, naM_13, naM_1, naM_L, fillF_n, fillF_1, fillF_L, markF_n, markF_1, markF_L, rmS_n, rmS_1, rmS_L, st11_n, st11_1, st11_L]; exact R1.pl.2.2.2.1) (by omega) (by omega) (by simp (disch := omega) only [wOk, wT, mS, mwO, mwT, stL_2, stL_1, stM_1, stM_L, rd_s, rd_j, rd_n, stM_n, rdL_s, rdL_j, rdL_n, stL_n, s9_n, s9_1, s9_L, putF_n, putF_1, putF_L, kpM_n, kpM_1, kpM_L, dpF_n, dropF_1, dropF_L, clR_n, clR_1, clR_L, clP_n, clP_1, clP_L, frmF_n, frmF_1, frmF_L, rqF_n, rpF_1, rpF_L, rpP_n, rpP_1, rpP_L, rkI_n, rkI_1, rkI_L, rpR_n, rpR_1, rpR_L, gvM_n, gvM_1, gvM_L, enF_n, enF_1, enF_L, usF_n, usF_1, usF_L, teF_n, teF_1, teF_L, akF_n, akF_1, akF_L, tbM_n, tbM_13, tbM_1, tbM_L, naM_n, naM_13, naM_1, naM_L, fillF_n, fillF_1, fillF_L, markF_n, markF_1, markF_L, rmS_n, rmS_1, rmS_L, st11_n, st11_1, st11_L]; exact R1.pl.2.1) (by omega) (by simp (disch := omega) only [wOk, wT, mS, mwO, mwT, stL_2, stL_1, stM_1, stM_L, rd_s, rd_j, rd_n, stM_n, rdL_s, rdL_j, rdL_n, stL_n, s9_n, s9_1, s9_L, putF_n, putF_1, putF_L, kpM_n, kpM_1, kpM_L, dpF_n, dropF_1, dropF_L, clR_n, clR_1, clR_L, clP_n, clP_1, clP_L, frmF_n, frmF_1, frmF_L, rqF_n, rpF_1, rpF_L, rpP_n, rpP_1, rpP_L, rkI_n, rkI_1, rkI_L, rpR_n, rpR_1, rpR_L, gvM_n, gvM_1, gvM_L, enF_n, enF_1, enF_L, usF_n, usF_1, usF_L, teF_n, teF_1, teF_L, akF_n, akF_1, akF_L, tbM_n, tbM_13, tbM_1, tbM_L, naM_n, naM_13, naM_1, naM_L, fillF_n, fillF_1, fillF_L, markF_n, markF_1, markF_L, rmS_n, rmS_1, rmS_L, st11_n, st11_1, st11_L]; rw [so 14 (by omega) (by omega)]; exact hpl.2.2.2.2.2.2.2.1) hpl.2.2.2.2.1 hpl.2.2.2.2.2.1 (by simp (disch := omega) only [wOk, wT, mS, mwO, mwT, stL_2, stL_1, stM_1, stM_L, rd_s, rd_j, rd_n, stM_n, rdL_s, rdL_j, rdL_n, stL_n, s9_n, s9_1, s9_L, putF_n, putF_1, putF_L, kpM_n, kpM_1, kpM_L, dpF_n, dropF_1, dropF_L, clR_n, clR_1, clR_L, clP_n, clP_1, clP_L, frmF_n, frmF_1, frmF_L, rqF_n, rpF_1, rpF_L, rpP_n, rpP_1, rpP_L, rkI_n, rkI_1, rkI_L, rpR_n, rpR_1, rpR_L, gvM_n, gvM_1, gvM_L, enF_n, enF_1, enF_L, usF_n, usF_1, usF_L, teF_n, teF_1, teF_L, akF_n, akF_1, akF_L, tbM_n, tbM_13, tbM_1, tbM_L, naM_n, naM_13, naM_1, naM_L, fillF_n, fillF_1, fillF_L, markF_n, markF_1, markF_L, rmS_n, rmS_1, rmS_L, st11_n, st11_1, st11_L]; exact eW ▸ hpl1.2.2.2.2.2.2.2.2.1) hsE1 (fun j => by simp (disch := omega) only [wOk, wT, mS, mwO, mwT, stL_2, stL_1, stM_1, stM_L, rd_s, rd_j, rd_n, stM_n, rdL_s, rdL_j, rdL_n, stL_n, s9_n, s9_1, s9_L, putF_n, putF_1, putF_L, kpM_n, kpM_1, kpM_L, dpF_n, dropF_1, dropF_L, clR_n, clR_1, clR_L, clP_n, clP_1, clP_L, frmF_n, frmF_1, frmF_L, rqF_n, rpF_1, rpF_L, rpP_n, rpP_1, rpP_L, rkI_n, rkI_1, rkI_L, rpR_n, rpR_1, rpR_L, gvM_n, gvM_1, gvM_L, enF_n, enF_1, enF_L, usF_n, usF_1, usF_L, teF_n, teF_1, teF_L, akF_n, akF_1, akF_L, tbM_n, tbM_13, tbM_1, tbM_L, naM_n, naM_13, naM_1, naM_L, fillF_n, fillF_1, fillF_L, markF_n, markF_1, markF_L, rmS_n, rmS_1, rmS_L, st11_n, st11_1, st11_L]; exact R1.bk.2.2.2.1 j) hlk) (by decide) (by decide) (Pu_rd R2 hc)
  · have hFM : ∀ q, q < g1.Z → F q = nI (gM (st11 S' F) i ar q) ∧ gM (st11 S' F) i ar q < 1000 := fun q hq => by
      have := hpk.2 q (by omega) (Or.inl (by have := (har q hq).2; omega))
      rw [ef] at this
      exact this
    have con : ∀ Y : zSt, (∀ t, (t = 14 ∨ t = 16 ∨ t = 21 ∨ t = 22 ∨ t = 23 ∨ t = 24 ∨ t = 30) → Y.2.2 t = S'.2.2 t) → Y.2.2 13 = S'.2.2 13 → Y.2.1 18 = S'.2.1 18 → zC l TB D zcls (ztyl K) y_Mo_reserve (.code y_Mo_reserve b_Mo_reserve 7 (some FieldType.int)) (rmk 2 55) [.ref (ad' 13), .int (nI i), .int (nI s)] ad' (Lay K ad' Y) (zP K ad' (some (.int (mRes Y i s g1.T g1.Z g1.A g1.e (gM (st11 S' F) i ar)).1)) (mRes Y i s g1.T g1.Z g1.A g1.e (gM (st11 S' F) i ar)).2) := by
      intro Y y1 y13 y18
      have tv := (tbM_v (S := mwO Y) (s := s) (T := g1.T) (Z := g1.Z) (A := g1.A) (e := g1.e) (by omega) hsE1).2
      rw [show (mwO Y).2.1 18 s = S'.2.1 18 s from by simp (disch := omega) only [wOk, wT, mS, mwO, mwT, stL_2, stL_1, stM_1, stM_L, rd_s, rd_j, rd_n, stM_n, rdL_s, rdL_j, rdL_n, stL_n, s9_n, s9_1, s9_L, putF_n, putF_1, putF_L, kpM_n, kpM_1, kpM_L, dpF_n, dropF_1, dropF_L, clR_n, clR_1, clR_L, clP_n, clP_1, clP_L, frmF_n, frmF_1, frmF_L, rqF_n, rpF_1, rpF_L, rpP_n, rpP_1, rpP_L, rkI_n, rkI_1, rkI_L, rpR_n, rpR_1, rpR_L, gvM_n, gvM_1, gvM_L, enF_n, enF_1, enF_L, usF_n, usF_1, usF_L, teF_n, teF_1, teF_L, akF_n, akF_1, akF_L, tbM_n, tbM_13, tbM_1, tbM_L, naM_n, naM_13, naM_1, naM_L, fillF_n, fillF_1, fillF_L, markF_n, markF_1, markF_L, rmS_n, rmS_1, rmS_L, st11_n, st11_1, st11_L]; rw [y18]] at tv
      exact c_Mo_reserve (T := g1.T) (Z := g1.Z) (A := g1.A) (W := g.W) (e := g1.e) (ar := ar) hi (by rw [y1 21 (by omega), so 21 (by omega) (by omega)]; exact h21) hs (by rw [y13, so 13 (by omega) (by omega)]; exact e3') (by rw [y13]; exact hj) (by rw [y13]; exact hq4) (by rw [y1 21 (by omega), so 21 (by omega) (by omega)]; exact n2) (by rw [y1 30 (by omega), so 30 (by omega) (by omega)]; exact h30) (by rw [y13]; exact R1.bk.1) (by omega) (by rw [y13]; exact R1.pl.2.2.2.1) (by omega) (by omega) (by rw [y13]; exact R1.pl.2.1) (by omega) (by rw [y1 14 (by omega), so 14 (by omega) (by omega)]; exact hpl.2.2.2.2.2.2.2.1) hpl.2.2.2.2.1 hpl.2.2.2.2.2.1 (by rw [y1 14 (by omega)]; exact eW ▸ hpl1.2.2.2.2.2.2.2.2.1) hsE1 (fun j => by rw [y1 16 (by omega)]; exact R1.bk.2.2.2.1 j) ((gM_enough (S := mS Y) (i := i) (fun q hq => (har q hq).2) hcn).mp fun q hq => by rw [base Y y1 y13 y18]; exact (hFM q hq).2) (fun q hq => (tv q hq).trans (har q hq).1) (rs_pick (S := st11 S' F) (Q := Y) (fun q hq => by have := (har q hq).2; omega) (fun q hq => (hFM q hq).2) (by rw [y1 22 (by omega)]; rfl) (by rw [y1 23 (by omega)]; rfl) (by rw [y1 24 (by omega)]; rfl))
    rcases hPP with ⟨h1, rfl, rfl⟩ | ⟨h1, rfl, rfl⟩
    · have h1' : S'.2.2 13 2 = 0 := R1.j1.symm.trans h1
      rw [← eZ]
      exact pu_K (con _ (fun t ht => by unfold rvS; simp (disch := omega) only [wOk, wT, mS, mwO, mwT, stL_2, stL_1, stM_1, stM_L, rd_s, rd_j, rd_n, stM_n, rdL_s, rdL_j, rdL_n, stL_n, s9_n, s9_1, s9_L, putF_n, putF_1, putF_L, kpM_n, kpM_1, kpM_L, dpF_n, dropF_1, dropF_L, clR_n, clR_1, clR_L, clP_n, clP_1, clP_L, frmF_n, frmF_1, frmF_L, rqF_n, rpF_1, rpF_L, rpP_n, rpP_1, rpP_L, rkI_n, rkI_1, rkI_L, rpR_n, rpR_1, rpR_L, gvM_n, gvM_1, gvM_L, enF_n, enF_1, enF_L, usF_n, usF_1, usF_L, teF_n, teF_1, teF_L, akF_n, akF_1, akF_L, tbM_n, tbM_13, tbM_1, tbM_L, naM_n, naM_13, naM_1, naM_L, fillF_n, fillF_1, fillF_L, markF_n, markF_1, markF_L, rmS_n, rmS_1, rmS_L, st11_n, st11_1, st11_L]) (by unfold rvS; simp (disch := omega) only [wOk, wT, mS, mwO, mwT, stL_2, stL_1, stM_1, stM_L, rd_s, rd_j, rd_n, stM_n, rdL_s, rdL_j, rdL_n, stL_n, s9_n, s9_1, s9_L, putF_n, putF_1, putF_L, kpM_n, kpM_1, kpM_L, dpF_n, dropF_1, dropF_L, clR_n, clR_1, clR_L, clP_n, clP_1, clP_L, frmF_n, frmF_1, frmF_L, rqF_n, rpF_1, rpF_L, rpP_n, rpP_1, rpP_L, rkI_n, rkI_1, rkI_L, rpR_n, rpR_1, rpR_L, gvM_n, gvM_1, gvM_L, enF_n, enF_1, enF_L, usF_n, usF_1, usF_L, teF_n, teF_1, teF_L, akF_n, akF_1, akF_L, tbM_n, tbM_13, tbM_1, tbM_L, naM_n, naM_13, naM_1, naM_L, fillF_n, fillF_1, fillF_L, markF_n, markF_1, markF_L, rmS_n, rmS_1, rmS_L, st11_n, st11_1, st11_L]) (by unfold rvS; simp (disch := omega) only [wOk, wT, mS, mwO, mwT, stL_2, stL_1, stM_1, stM_L, rd_s, rd_j, rd_n, stM_n, rdL_s, rdL_j, rdL_n, stL_n, s9_n, s9_1, s9_L, putF_n, putF_1, putF_L, kpM_n, kpM_1, kpM_L, dpF_n, dropF_1, dropF_L, clR_n, clR_1, clR_L, clP_n, clP_1, clP_L, frmF_n, frmF_1, frmF_L, rqF_n, rpF_1, rpF_L, rpP_n, rpP_1, rpP_L, rkI_n, rkI_1, rkI_L, rpR_n, rpR_1, rpR_L, gvM_n, gvM_1, gvM_L, enF_n, enF_1, enF_L, usF_n, usF_1, usF_L, teF_n, teF_1, teF_L, akF_n, akF_1, akF_L, tbM_n, tbM_13, tbM_1, tbM_L, naM_n, naM_13, naM_1, naM_L, fillF_n, fillF_1, fillF_L, markF_n, markF_1, markF_L, rmS_n, rmS_1, rmS_L, st11_n, st11_1, st11_L])) (by decide) (by decide) (pu_res (ar := ar) R2 hc hi hs hpl1 (by simp (disch := omega) only [wOk, wT, mS, mwO, mwT, stL_2, stL_1, stM_1, stM_L, rd_s, rd_j, rd_n, stM_n, rdL_s, rdL_j, rdL_n, stL_n, s9_n, s9_1, s9_L, putF_n, putF_1, putF_L, kpM_n, kpM_1, kpM_L, dpF_n, dropF_1, dropF_L, clR_n, clR_1, clR_L, clP_n, clP_1, clP_L, frmF_n, frmF_1, frmF_L, rqF_n, rpF_1, rpF_L, rpP_n, rpP_1, rpP_L, rkI_n, rkI_1, rkI_L, rpR_n, rpR_1, rpR_L, gvM_n, gvM_1, gvM_L, enF_n, enF_1, enF_L, usF_n, usF_1, usF_L, teF_n, teF_1, teF_L, akF_n, akF_1, akF_L, tbM_n, tbM_13, tbM_1, tbM_L, naM_n, naM_13, naM_1, naM_L, fillF_n, fillF_1, fillF_L, markF_n, markF_1, markF_L, rmS_n, rmS_1, rmS_L, st11_n, st11_1, st11_L]; rw [so 9 (by omega) (by omega)]; exact h9) (by simp (disch := omega) only [wOk, wT, mS, mwO, mwT, stL_2, stL_1, stM_1, stM_L, rd_s, rd_j, rd_n, stM_n, rdL_s, rdL_j, rdL_n, stL_n, s9_n, s9_1, s9_L, putF_n, putF_1, putF_L, kpM_n, kpM_1, kpM_L, dpF_n, dropF_1, dropF_L, clR_n, clR_1, clR_L, clP_n, clP_1, clP_L, frmF_n, frmF_1, frmF_L, rqF_n, rpF_1, rpF_L, rpP_n, rpP_1, rpP_L, rkI_n, rkI_1, rkI_L, rpR_n, rpR_1, rpR_L, gvM_n, gvM_1, gvM_L, enF_n, enF_1, enF_L, usF_n, usF_1, usF_L, teF_n, teF_1, teF_L, akF_n, akF_1, akF_L, tbM_n, tbM_13, tbM_1, tbM_L, naM_n, naM_13, naM_1, naM_L, fillF_n, fillF_1, fillF_L, markF_n, markF_1, markF_L, rmS_n, rmS_1, rmS_L, st11_n, st11_1, st11_L]; rw [so 21 (by omega) (by omega)]; exact h211) (by simp (disch := omega) only [wOk, wT, mS, mwO, mwT, stL_2, stL_1, stM_1, stM_L, rd_s, rd_j, rd_n, stM_n, rdL_s, rdL_j, rdL_n, stL_n, s9_n, s9_1, s9_L, putF_n, putF_1, putF_L, kpM_n, kpM_1, kpM_L, dpF_n, dropF_1, dropF_L, clR_n, clR_1, clR_L, clP_n, clP_1, clP_L, frmF_n, frmF_1, frmF_L, rqF_n, rpF_1, rpF_L, rpP_n, rpP_1, rpP_L, rkI_n, rkI_1, rkI_L, rpR_n, rpR_1, rpR_L, gvM_n, gvM_1, gvM_L, enF_n, enF_1, enF_L, usF_n, usF_1, usF_L, teF_n, teF_1, teF_L, akF_n, akF_1, akF_L, tbM_n, tbM_13, tbM_1, tbM_L, naM_n, naM_13, naM_1, naM_L, fillF_n, fillF_1, fillF_L, markF_n, markF_1, markF_L, rmS_n, rmS_1, rmS_L, st11_n, st11_1, st11_L]; rw [so 30 (by omega) (by omega)]; exact h30) gb1 har (fun q hq => (hFM q hq).2) (fun q hq => (hFM q hq).1) h1' ef (by rw [ebs, eT]))
    · have h1' : ¬ S'.2.2 13 2 = 0 := fun q => h1 (R1.j1.trans q)
      have eM : mRes (stL (wT (st11 S' F)) 12 0 (Int32.toInt64 (-2))) i s g1.T g1.Z g1.A g1.e (gM (st11 S' F) i ar) = (-2, mwT (stL (wT (st11 S' F)) 12 0 (Int32.toInt64 (-2)))) := by
        unfold mRes
        rw [if_neg (by simp (disch := omega) only [wOk, wT, mS, mwO, mwT, stL_2, stL_1, stM_1, stM_L, rd_s, rd_j, rd_n, stM_n, rdL_s, rdL_j, rdL_n, stL_n, s9_n, s9_1, s9_L, putF_n, putF_1, putF_L, kpM_n, kpM_1, kpM_L, dpF_n, dropF_1, dropF_L, clR_n, clR_1, clR_L, clP_n, clP_1, clP_L, frmF_n, frmF_1, frmF_L, rqF_n, rpF_1, rpF_L, rpP_n, rpP_1, rpP_L, rkI_n, rkI_1, rkI_L, rpR_n, rpR_1, rpR_L, gvM_n, gvM_1, gvM_L, enF_n, enF_1, enF_L, usF_n, usF_1, usF_L, teF_n, teF_1, teF_L, akF_n, akF_1, akF_L, tbM_n, tbM_13, tbM_1, tbM_L, naM_n, naM_13, naM_1, naM_L, fillF_n, fillF_1, fillF_L, markF_n, markF_1, markF_L, rmS_n, rmS_1, rmS_L, st11_n, st11_1, st11_L]; exact h1')]
      have cc := con (stL (wT (st11 S' F)) 12 0 (Int32.toInt64 (-2))) (fun t ht => by simp (disch := omega) only [wOk, wT, mS, mwO, mwT, stL_2, stL_1, stM_1, stM_L, rd_s, rd_j, rd_n, stM_n, rdL_s, rdL_j, rdL_n, stL_n, s9_n, s9_1, s9_L, putF_n, putF_1, putF_L, kpM_n, kpM_1, kpM_L, dpF_n, dropF_1, dropF_L, clR_n, clR_1, clR_L, clP_n, clP_1, clP_L, frmF_n, frmF_1, frmF_L, rqF_n, rpF_1, rpF_L, rpP_n, rpP_1, rpP_L, rkI_n, rkI_1, rkI_L, rpR_n, rpR_1, rpR_L, gvM_n, gvM_1, gvM_L, enF_n, enF_1, enF_L, usF_n, usF_1, usF_L, teF_n, teF_1, teF_L, akF_n, akF_1, akF_L, tbM_n, tbM_13, tbM_1, tbM_L, naM_n, naM_13, naM_1, naM_L, fillF_n, fillF_1, fillF_L, markF_n, markF_1, markF_L, rmS_n, rmS_1, rmS_L, st11_n, st11_1, st11_L]) (by simp (disch := omega) only [wOk, wT, mS, mwO, mwT, stL_2, stL_1, stM_1, stM_L, rd_s, rd_j, rd_n, stM_n, rdL_s, rdL_j, rdL_n, stL_n, s9_n, s9_1, s9_L, putF_n, putF_1, putF_L, kpM_n, kpM_1, kpM_L, dpF_n, dropF_1, dropF_L, clR_n, clR_1, clR_L, clP_n, clP_1, clP_L, frmF_n, frmF_1, frmF_L, rqF_n, rpF_1, rpF_L, rpP_n, rpP_1, rpP_L, rkI_n, rkI_1, rkI_L, rpR_n, rpR_1, rpR_L, gvM_n, gvM_1, gvM_L, enF_n, enF_1, enF_L, usF_n, usF_1, usF_L, teF_n, teF_1, teF_L, akF_n, akF_1, akF_L, tbM_n, tbM_13, tbM_1, tbM_L, naM_n, naM_13, naM_1, naM_L, fillF_n, fillF_1, fillF_L, markF_n, markF_1, markF_L, rmS_n, rmS_1, rmS_L, st11_n, st11_1, st11_L]) (by simp (disch := omega) only [wOk, wT, mS, mwO, mwT, stL_2, stL_1, stM_1, stM_L, rd_s, rd_j, rd_n, stM_n, rdL_s, rdL_j, rdL_n, stL_n, s9_n, s9_1, s9_L, putF_n, putF_1, putF_L, kpM_n, kpM_1, kpM_L, dpF_n, dropF_1, dropF_L, clR_n, clR_1, clR_L, clP_n, clP_1, clP_L, frmF_n, frmF_1, frmF_L, rqF_n, rpF_1, rpF_L, rpP_n, rpP_1, rpP_L, rkI_n, rkI_1, rkI_L, rpR_n, rpR_1, rpR_L, gvM_n, gvM_1, gvM_L, enF_n, enF_1, enF_L, usF_n, usF_1, usF_L, teF_n, teF_1, teF_L, akF_n, akF_1, akF_L, tbM_n, tbM_13, tbM_1, tbM_L, naM_n, naM_13, naM_1, naM_L, fillF_n, fillF_1, fillF_L, markF_n, markF_1, markF_L, rmS_n, rmS_1, rmS_L, st11_n, st11_1, st11_L])
      rw [eM] at cc
      exact pu_K (m := (-2, mwT (stL (wT (st11 S' F)) 12 0 (Int32.toInt64 (-2))))) cc (by decide) (by decide) (Pu_tn R2 hc)
