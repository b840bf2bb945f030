/-! a person is given a kit; offline, purely -/
theorem up_s {f : Nat → Int32} {a : Nat} {v : Int32} : upd f a v a = v := if_pos rfl
theorem up_n {f : Nat → Int32} {a b : Nat} {v : Int32} (h : b ≠ a) : upd f a v b = f b := if_neg h
def gP (g : Gh) (q0 s a k : Nat) : Gh := gS (gS (gS g 8 (fun q j => if q = q0 then s else g 8 q j)) 9 (fun q j => if q = q0 then a else g 9 q j)) 10 (fun q j => if q = q0 then k else g 10 q j)
def gO (g : Gh) (q0 s a k r n : Nat) : Gh := gS (gP g q0 s a k) 12 (fun q j => if q = r then n else g 12 q j)
section GV
variable {g : Gh} {S X : zSt} {i p s a k r n : Nat}
theorem gv_pe {w d : Int32} (h : ∀ j q, j < 10 → q < 100 → gPe g j q S) (hi : i < 10) (hp : p < 100) (hs : s < 8) (ha : a < 4) (ho : S.2.2 9 i ≠ 0) (h21 : S.2.2 21 i = 1) (hw : (w = 1 ∧ d = 2) ∨ (w = 2 ∧ d = 1)) (xo : ∀ t, (t = 9 ∨ t = 21 ∨ t = 29 ∨ (140 ≤ t ∧ t < 150)) → X.2.2 t = S.2.2 t) (x25 : X.2.2 25 = upd (S.2.2 25) (100 * i + p) w) (x26 : X.2.2 26 = upd (S.2.2 26) (100 * i + p) (nI s)) (x27 : X.2.2 27 = upd (S.2.2 27) (100 * i + p) (nI a)) (x110 : X.2.2 (110 + i) = upd (S.2.2 (110 + i)) p d) (x120 : X.2.2 (120 + i) = upd (S.2.2 (120 + i)) p (nI s)) (x130 : X.2.2 (130 + i) = upd (S.2.2 (130 + i)) p (nI a)) (xn : ∀ j, j < 10 → j ≠ i → X.2.2 (110 + j) = S.2.2 (110 + j) ∧ X.2.2 (120 + j) = S.2.2 (120 + j) ∧ X.2.2 (130 + j) = S.2.2 (130 + j)) {g' : Gh} (gs : ∀ q, g'.sg q = if q = 100 * i + p then s else g.sg q) (ga : ∀ q, g'.ar q = if q = 100 * i + p then a else g.ar q) : ∀ j q, j < 10 → q < 100 → gPe g' j q X := by
  intro j q hj hq
  have old := h j q hj hq
  by_cases e : j = i ∧ q = p
  · obtain ⟨rfl, rfl⟩ := e
    unfold gPe at old ⊢
    obtain ⟨-, o2, o3⟩ := old
    rw [gs, ga, if_pos rfl, if_pos rfl, xo 9 (by omega), xo 21 (by omega), xo 29 (by omega), xo (140 + j) (by omega), x25, x26, x27, x110, x120, x130, up_s, up_s, up_s, up_s, up_s, up_s]
    refine ⟨fun z => absurd z ho, fun z => ⟨(o2 z).1, ?_, fun _ => ⟨rfl, hs, rfl, rfl, ha, rfl⟩⟩, o3⟩
    rcases hw with ⟨rfl, rfl⟩ | ⟨rfl, rfl⟩
    · exact Or.inr (Or.inl ⟨rfl, rfl⟩)
    · exact Or.inr (Or.inr (Or.inl ⟨rfl, rfl, h21⟩))
  · have ne : 100 * j + q ≠ 100 * i + p := by omega
    have e110 : X.2.2 (110 + j) q = S.2.2 (110 + j) q ∧ X.2.2 (120 + j) q = S.2.2 (120 + j) q ∧ X.2.2 (130 + j) q = S.2.2 (130 + j) q := by
      by_cases ej : j = i
      · subst ej
        have : q ≠ p := fun z => e ⟨rfl, z⟩
        rw [x110, x120, x130, up_n this, up_n this, up_n this]
        exact ⟨rfl, rfl, rfl⟩
      · obtain ⟨n1, n2, n3⟩ := xn j hj ej
        rw [n1, n2, n3]
        exact ⟨rfl, rfl, rfl⟩
    unfold gPe at old ⊢
    rw [gs, ga, if_neg ne, if_neg ne, xo 9 (by omega), xo 21 (by omega), xo 29 (by omega), xo (140 + j) (by omega), e110.1, e110.2.1, e110.2.2, x25, x26, x27, up_n ne, up_n ne, up_n ne]
    exact old
theorem gv_kn {w : Int32} {q0 s' a' : Nat} (hq : q0 < 1000) (hs : s < 8) (hs' : s' < 8) (ha : a < 4) (ha' : a' < 4) (old0 : S.2.2 25 q0 = 0) (x25 : X.2.2 25 = upd (S.2.2 25) q0 w) (x26 : X.2.2 26 = upd (S.2.2 26) q0 (nI s)) (x27 : X.2.2 27 = upd (S.2.2 27) q0 (nI a)) : knM X s' a' = if w = 1 ∧ s' = s ∧ a' = a then knM S s' a' + 1 else knM S s' a' := by
  have oth : ∀ q, q < 1000 → q ≠ q0 → decide (X.2.2 25 q = 1 ∧ X.2.2 26 q = nI s' ∧ X.2.2 27 q = nI a') = decide (S.2.2 25 q = 1 ∧ S.2.2 26 q = nI s' ∧ S.2.2 27 q = nI a') := fun q _ hn => by
    rw [x25, x26, x27, up_n hn, up_n hn, up_n hn]
  have ol : decide (S.2.2 25 q0 = 1 ∧ S.2.2 26 q0 = nI s' ∧ S.2.2 27 q0 = nI a') = false := decide_eq_false (fun z => absurd (old0.symm.trans z.1) (by decide))
  by_cases m : w = 1 ∧ s' = s ∧ a' = a
  · rw [if_pos m]
    obtain ⟨rfl, rfl, rfl⟩ := m
    unfold knM
    rw [nI_1]
    refine congrArg nI (cntI_upd hq oth ?_ ol)
    rw [x25, x26, x27, up_s, up_s, up_s]
    exact decide_eq_true ⟨rfl, rfl, rfl⟩
  · rw [if_neg m]
    unfold knM
    refine congrArg nI (cntI_congr fun q h => ?_)
    by_cases e : q = q0
    · subst e
      rw [ol, x25, x26, x27, up_s, up_s, up_s]
      exact decide_eq_false (fun z => m ⟨z.1, (nI_ij (by omega) (by omega) z.2.1).symm, (nI_ij (by omega) (by omega) z.2.2).symm⟩)
    · exact oth q h e
theorem gv_ki {w : Int32} (h : ∀ y, y < 1000 → gKi g y S) (hu : ∀ j q, j < 10 → q < 100 → gUs g j q S) (hi : i < 10) (hp : p < 100) (hk : k < 1000) (h22 : S.2.2 22 k = nI i) (h24 : S.2.2 24 k ≠ 2) (old0 : S.2.2 25 (100 * i + p) = 0) (hw : w ≠ 0) (xo : ∀ t, (t = 5 ∨ t = 6 ∨ t = 9 ∨ t = 22 ∨ t = 23) → X.2.2 t = S.2.2 t) (x24 : X.2.2 24 = upd (S.2.2 24) k 2) (x7 : X.2.2 7 = upd (S.2.2 7) k 3) (x8 : X.2.2 8 = upd (S.2.2 8) k (nI p)) (x25 : X.2.2 25 = upd (S.2.2 25) (100 * i + p) w) (x28 : X.2.2 28 = upd (S.2.2 28) (100 * i + p) (nI k)) {g' : Gh} (gh : ∀ y, g'.hm y = g.hm y) (gt : ∀ q, g'.kt q = if q = 100 * i + p then k else g.kt q) : (∀ y, y < 1000 → gKi g' y X) ∧ ∀ j q, j < 10 → q < 100 → gUs g' j q X := by
  refine ⟨fun y hy => ?_, fun j q hj hq => ?_⟩
  · have old := h y hy
    unfold gKi at old ⊢
    rw [gh, xo 5 (by omega), xo 6 (by omega), xo 9 (by omega), xo 22 (by omega), xo 23 (by omega), x24, x7, x8, x25, x28]
    by_cases e : y = k
    · subst e
      rcases old with o | ⟨o1, o2, o3, o4, o5, -⟩
      · exact absurd (h22.symm.trans o.1) (nI_m1 (by omega))
      · have eh : g.hm y = i := nI_ij (by omega) (by omega) (o1.symm.trans h22)
        refine Or.inr ⟨o1, o2, o3, o4, o5, Or.inr (Or.inr ⟨up_s, up_s, p, hp, up_s, ?_, ?_⟩)⟩
        · rw [eh, up_s]; exact hw
        · rw [eh, up_s]
    · rw [up_n e, up_n e, up_n e]
      refine old.imp id fun o => ⟨o.1, o.2.1, o.2.2.1, o.2.2.2.1, o.2.2.2.2.1, o.2.2.2.2.2.imp id (Or.imp id fun z => ⟨z.1, z.2.1, ?_⟩)⟩
      obtain ⟨p', p1, p2, p3, p4⟩ := z.2.2
      have ne : 100 * g.hm y + p' ≠ 100 * i + p := fun z => p3 (z ▸ old0)
      exact ⟨p', p1, p2, by rw [up_n ne]; exact p3, by rw [up_n ne]; exact p4⟩
  · have old := hu j q hj hq
    unfold gUs at old ⊢
    rw [gt, xo 22 (by omega), x24, x8, x25, x28]
    by_cases e : 100 * j + q = 100 * i + p
    · have e1 : j = i := by omega
      have e2 : q = p := by omega
      subst e1 e2
      rw [if_pos rfl, up_s, up_s, up_s, up_s]
      exact fun _ => ⟨rfl, hk, h22, rfl, rfl⟩
    · rw [if_neg e, up_n e, up_n e]
      intro z
      obtain ⟨u1, u2, u3, u4, u5⟩ := old z
      have ne : g.kt (100 * j + q) ≠ k := fun z => h24 (z ▸ u4)
      exact ⟨u1, u2, u3, by rw [up_n ne]; exact u4, by rw [up_n ne]; exact u5⟩
end GV
theorem per_0 {g : Gh} {c : Nat} {S : zSt} (h : Rel g c S) (hc : c < 512) {i p : Nat} (hi : i < 10) (ho : S.2.2 9 i ≠ 0) (hp : p < 100) : S.2.2 (110 + i) p = 0 ↔ S.2.2 25 (100 * i + p) ≤ 0 := by
  obtain ⟨-, e2, -⟩ := h.pe.1 i p hi hp
  rcases (e2 ho).2.1 with ⟨b1, b2⟩ | ⟨b1, b2⟩ | ⟨b1, b2, -⟩ | ⟨b1, b2, b3⟩ <;> rw [b1, b2] <;> decide
theorem pu_offN {g : Gh} {c : Nat} {S : zSt} (h : Rel g c S) (hc : c < 512) {i s p : Nat} (hi : i < 10) (ho : S.2.2 9 i ≠ 0) (hp : p < 100) (h30 : S.2.2 30 (8 * i + s) < 0) : Pu c (dOff S i s p 0 0 0).1 (mOff (stL (dOff S i s p 0 0 0).2 12 0 (dOff S i s p 0 0 0).1.toInt64) i s p 0 0 0) := by
  have hcl := cl_iff h hc hi ho
  have hpe := per_0 h hc hi ho hp
  by_cases h0 : S.2.2 13 1 = 0
  · by_cases h2 : S.2.2 21 i = 2
    · have h2' : ¬ S.2.2 (100 + i) 5 = 0 := fun q => hcl.mp q h2
      simp (disch := omega) only [dOff, mOff, h.j0, h0, h2, h2', ↓reduceIte, wOk, wT, mS, mwO, mwT, stL_2, stL_1, stM_1, stM_L, rd_s, rd_j, rd_n, stM_n, rdL_s, rdL_j, rdL_n, stL_n, s9_n, s9_1, s9_L, putF_n, putF_1, putF_L, kpM_n, kpM_1, kpM_L, dpF_n, dropF_1, dropF_L, clR_n, clR_1, clR_L, clP_n, clP_1, clP_L, frmF_n, frmF_1, frmF_L, rqF_n, rpF_1, rpF_L, rpP_n, rpP_1, rpP_L, rkI_n, rkI_1, rkI_L, rpR_n, rpR_1, rpR_L, gvM_n, gvM_1, gvM_L, enF_n, enF_1, enF_L, usF_n, usF_1, usF_L]
      exact Pu_rd h hc
    have h2' := hcl.mpr h2
    by_cases h3 : S.2.2 25 (100 * i + p) ≤ 0
    · have h3' := hpe.mpr h3
      have h4 : ¬ 0 < 0 := by omega
      simp (disch := omega) only [dOff, mOff, h.j0, h0, h2, h2', h3, h3', h30, h4, ↓reduceIte, wOk, wT, mS, mwO, mwT, stL_2, stL_1, stM_1, stM_L, rd_s, rd_j, rd_n, stM_n, rdL_s, rdL_j, rdL_n, stL_n, s9_n, s9_1, s9_L, putF_n, putF_1, putF_L, kpM_n, kpM_1, kpM_L, dpF_n, dropF_1, dropF_L, clR_n, clR_1, clR_L, clP_n, clP_1, clP_L, frmF_n, frmF_1, frmF_L, rqF_n, rpF_1, rpF_L, rpP_n, rpP_1, rpP_L, rkI_n, rkI_1, rkI_L, rpR_n, rpR_1, rpR_L, gvM_n, gvM_1, gvM_L, enF_n, enF_1, enF_L, usF_n, usF_1, usF_L]
      exact Pu_rd h hc
    · have h3' : ¬ S.2.2 (110 + i) p = 0 := fun q => h3 (hpe.mp q)
      simp (disch := omega) only [dOff, mOff, h.j0, h0, h2, h2', h3, h3', ↓reduceIte, wOk, wT, mS, mwO, mwT, stL_2, stL_1, stM_1, stM_L, rd_s, rd_j, rd_n, stM_n, rdL_s, rdL_j, rdL_n, stL_n, s9_n, s9_1, s9_L, putF_n, putF_1, putF_L, kpM_n, kpM_1, kpM_L, dpF_n, dropF_1, dropF_L, clR_n, clR_1, clR_L, clP_n, clP_1, clP_L, frmF_n, frmF_1, frmF_L, rqF_n, rpF_1, rpF_L, rpP_n, rpP_1, rpP_L, rkI_n, rkI_1, rkI_L, rpR_n, rpR_1, rpR_L, gvM_n, gvM_1, gvM_L, enF_n, enF_1, enF_L, usF_n, usF_1, usF_L]
      exact Pu_rd h hc
  · simp (disch := omega) only [dOff, mOff, h.j0, h0, ↓reduceIte, wOk, wT, mS, mwO, mwT, stL_2, stL_1, stM_1, stM_L, rd_s, rd_j, rd_n, stM_n, rdL_s, rdL_j, rdL_n, stL_n, s9_n, s9_1, s9_L, putF_n, putF_1, putF_L, kpM_n, kpM_1, kpM_L, dpF_n, dropF_1, dropF_L, clR_n, clR_1, clR_L, clP_n, clP_1, clP_L, frmF_n, frmF_1, frmF_L, rqF_n, rpF_1, rpF_L, rpP_n, rpP_1, rpP_L, rkI_n, rkI_1, rkI_L, rpR_n, rpR_1, rpR_L, gvM_n, gvM_1, gvM_L, enF_n, enF_1, enF_L, usF_n, usF_1, usF_L]
    exact Pu_rd h hc
theorem pu_offY {g : Gh} {c : Nat} {S : zSt} (h : Rel g c S) (hc : c < 512) {i s p b : Nat} (hi : i < 10) (hs : s < 8) (ho : S.2.2 9 i ≠ 0) (hp : p < 100) (he : S.2.2 30 (8 * i + s) = nI b ∧ b < g.T ∧ S.2.2 21 i = 1 ∧ S.2.2 (200 + 8 * i + s) 1 = nI g.Z ∧ S.2.2 (200 + 8 * i + s) 2 = nI (g.nx (8 * i + s)) ∧ ∀ q, q < g.Z → S.2.2 32 (24 * (8 * i + s) + q) = nI (g.gk (24 * (8 * i + s) + q)) ∧ g.gk (24 * (8 * i + s) + q) < 1000 ∧ S.2.2 (300 + 8 * i + s) q = nI (g.gk (24 * (8 * i + s) + q)) ∧ S.2.2 23 (g.gk (24 * (8 * i + s) + q)) = nI (g.bl b q) ∧ S.2.2 22 (g.gk (24 * (8 * i + s) + q)) = nI i ∧ (g.nx (8 * i + s) ≤ q → S.2.2 24 (g.gk (24 * (8 * i + s) + q)) = 1)) : Pu c (dOff S i s p (g.nx (8 * i + s)) g.Z (g.gk (24 * (8 * i + s) + g.nx (8 * i + s)))).1 (mOff (stL (dOff S i s p (g.nx (8 * i + s)) g.Z (g.gk (24 * (8 * i + s) + g.nx (8 * i + s)))).2 12 0 (dOff S i s p (g.nx (8 * i + s)) g.Z (g.gk (24 * (8 * i + s) + g.nx (8 * i + s)))).1.toInt64) i s p (g.nx (8 * i + s)) b (g.gk (24 * (8 * i + s) + g.nx (8 * i + s)))) := by
  obtain ⟨u1, u2, u3, u4, u5, u6⟩ := he
  obtain ⟨o1, o2, o3, -, -⟩ := h.ki.2.2.1 i s hi hs
  have hpe := per_0 h hc hi ho hp
  have hT := h.bk.2.1
  have hT5 := h.bk.2.2.1
  have hZ := RP_Z h.pl
  have h2 : ¬ S.2.2 21 i = 2 := by rw [u3]; decide
  have h2' := (cl_iff h hc hi ho).mpr h2
  have h30 : ¬ S.2.2 30 (8 * i + s) < 0 := by rw [u1]; exact nI_nlt (b := 0) (by omega) (by omega)
  by_cases h0 : S.2.2 13 1 = 0
  · by_cases h3 : S.2.2 25 (100 * i + p) ≤ 0
    · have h3' := hpe.mpr h3
      by_cases h4 : g.nx (8 * i + s) < g.Z
      · have h5 : ¬ S.2.2 31 (8 * i + s) = S.2.2 13 6 := by
          rw [o1, h.pl.2.2.2.1]
          exact fun z => absurd (nI_ij (by omega) (by omega) z) (by omega)
        by_cases h1 : S.2.2 13 2 = 0
        · obtain ⟨v1, v2, v3, v4, v5, v6⟩ := u6 _ h4
          have v7 := v6 (Nat.le_refl _)
          clear v6
          obtain ⟨w1, w2, w3⟩ := h.bk.2.2.2.2.1 b u2
          obtain ⟨w4, w5, -⟩ := w3 _ h4
          have hA := RP_A h.pl
          have e6 : S.2.2 6 (g.gk (24 * (8 * i + s) + g.nx (8 * i + s))) = nI (g.bl b (g.nx (8 * i + s))) := by
            rcases h.ki.1 _ v2 with o | o
            · exact absurd (v5.symm.trans o.1) (nI_m1 (by omega))
            · exact o.2.2.2.2.1.trans v4
          have old0 : S.2.2 25 (100 * i + p) = 0 := (per_25 h hc hi hp).mp h3
          generalize hk : g.gk (24 * (8 * i + s) + g.nx (8 * i + s)) = k at *
          generalize hn : g.nx (8 * i + s) = n at *
          generalize ha : g.bl b n = a at *
          have eD : dOff S i s p n g.Z k = (nI k, enF (usF (stM (wOk S) (200 + 8 * i + s) 2 (nI n + 1)) k (nI p)) i p (nI s) (nI a) 1) := by
            unfold dOff
            rw [if_pos (h.j0.trans h0), if_pos h2', if_pos h3', if_pos h4, if_pos (h.j1.trans h1), show (usF (stM (wOk S) (200 + 8 * i + s) 2 (nI n + 1)) k (nI p)).2.2 6 k = nI a from by simp (disch := omega) only [e6, wOk, wT, mS, mwO, mwT, stL_2, stL_1, stM_1, stM_L, rd_s, rd_j, rd_n, stM_n, rdL_s, rdL_j, rdL_n, stL_n, s9_n, s9_1, s9_L, putF_n, putF_1, putF_L, kpM_n, kpM_1, kpM_L, dpF_n, dropF_1, dropF_L, clR_n, clR_1, clR_L, clP_n, clP_1, clP_L, frmF_n, frmF_1, frmF_L, rqF_n, rpF_1, rpF_L, rpP_n, rpP_1, rpP_L, rkI_n, rkI_1, rkI_L, rpR_n, rpR_1, rpR_L, gvM_n, gvM_1, gvM_L, enF_n, enF_1, enF_L, usF_n, usF_1, usF_L]]
          rw [eD]
          show Pu c (nI k) (mOff (stL (enF (usF (stM (wOk S) (200 + 8 * i + s) 2 (nI n + 1)) k (nI p)) i p (nI s) (nI a) 1) 12 0 (nI k).toInt64) i s p n b k)
          have eM : mOff (stL (enF (usF (stM (wOk S) (200 + 8 * i + s) 2 (nI n + 1)) k (nI p)) i p (nI s) (nI a) 1) 12 0 (nI k).toInt64) i s p n b k = (nI k, gvM (stM (mwO (stL (enF (usF (stM (wOk S) (200 + 8 * i + s) 2 (nI n + 1)) k (nI p)) i p (nI s) (nI a) 1) 12 0 (nI k).toInt64)) 31 (8 * i + s) (nI n + 1)) (100 * i + p) (nI s) (nI a) k 2) := by
            unfold mOff
            rw [if_pos (by simp (disch := omega) only [h0, wOk, wT, mS, mwO, mwT, stL_2, stL_1, stM_1, stM_L, rd_s, rd_j, rd_n, stM_n, rdL_s, rdL_j, rdL_n, stL_n, s9_n, s9_1, s9_L, putF_n, putF_1, putF_L, kpM_n, kpM_1, kpM_L, dpF_n, dropF_1, dropF_L, clR_n, clR_1, clR_L, clP_n, clP_1, clP_L, frmF_n, frmF_1, frmF_L, rqF_n, rpF_1, rpF_L, rpP_n, rpP_1, rpP_L, rkI_n, rkI_1, rkI_L, rpR_n, rpR_1, rpR_L, gvM_n, gvM_1, gvM_L, enF_n, enF_1, enF_L, usF_n, usF_1, usF_L]), if_neg (by simp (disch := omega) only [u3, wOk, wT, mS, mwO, mwT, stL_2, stL_1, stM_1, stM_L, rd_s, rd_j, rd_n, stM_n, rdL_s, rdL_j, rdL_n, stL_n, s9_n, s9_1, s9_L, putF_n, putF_1, putF_L, kpM_n, kpM_1, kpM_L, dpF_n, dropF_1, dropF_L, clR_n, clR_1, clR_L, clP_n, clP_1, clP_L, frmF_n, frmF_1, frmF_L, rqF_n, rpF_1, rpF_L, rpP_n, rpP_1, rpP_L, rkI_n, rkI_1, rkI_L, rpR_n, rpR_1, rpR_L, gvM_n, gvM_1, gvM_L, enF_n, enF_1, enF_L, usF_n, usF_1, usF_L]; decide), if_pos (by simp (disch := omega) only [wOk, wT, mS, mwO, mwT, stL_2, stL_1, stM_1, stM_L, rd_s, rd_j, rd_n, stM_n, rdL_s, rdL_j, rdL_n, stL_n, s9_n, s9_1, s9_L, putF_n, putF_1, putF_L, kpM_n, kpM_1, kpM_L, dpF_n, dropF_1, dropF_L, clR_n, clR_1, clR_L, clP_n, clP_1, clP_L, frmF_n, frmF_1, frmF_L, rqF_n, rpF_1, rpF_L, rpP_n, rpP_1, rpP_L, rkI_n, rkI_1, rkI_L, rpR_n, rpR_1, rpR_L, gvM_n, gvM_1, gvM_L, enF_n, enF_1, enF_L, usF_n, usF_1, usF_L]; exact h3), if_neg (by simp (disch := omega) only [wOk, wT, mS, mwO, mwT, stL_2, stL_1, stM_1, stM_L, rd_s, rd_j, rd_n, stM_n, rdL_s, rdL_j, rdL_n, stL_n, s9_n, s9_1, s9_L, putF_n, putF_1, putF_L, kpM_n, kpM_1, kpM_L, dpF_n, dropF_1, dropF_L, clR_n, clR_1, clR_L, clP_n, clP_1, clP_L, frmF_n, frmF_1, frmF_L, rqF_n, rpF_1, rpF_L, rpP_n, rpP_1, rpP_L, rkI_n, rkI_1, rkI_L, rpR_n, rpR_1, rpR_L, gvM_n, gvM_1, gvM_L, enF_n, enF_1, enF_L, usF_n, usF_1, usF_L]; exact h30), if_neg (by simp (disch := omega) only [wOk, wT, mS, mwO, mwT, stL_2, stL_1, stM_1, stM_L, rd_s, rd_j, rd_n, stM_n, rdL_s, rdL_j, rdL_n, stL_n, s9_n, s9_1, s9_L, putF_n, putF_1, putF_L, kpM_n, kpM_1, kpM_L, dpF_n, dropF_1, dropF_L, clR_n, clR_1, clR_L, clP_n, clP_1, clP_L, frmF_n, frmF_1, frmF_L, rqF_n, rpF_1, rpF_L, rpP_n, rpP_1, rpP_L, rkI_n, rkI_1, rkI_L, rpR_n, rpR_1, rpR_L, gvM_n, gvM_1, gvM_L, enF_n, enF_1, enF_L, usF_n, usF_1, usF_L]; exact h5), if_pos (by simp (disch := omega) only [h1, wOk, wT, mS, mwO, mwT, stL_2, stL_1, stM_1, stM_L, rd_s, rd_j, rd_n, stM_n, rdL_s, rdL_j, rdL_n, stL_n, s9_n, s9_1, s9_L, putF_n, putF_1, putF_L, kpM_n, kpM_1, kpM_L, dpF_n, dropF_1, dropF_L, clR_n, clR_1, clR_L, clP_n, clP_1, clP_L, frmF_n, frmF_1, frmF_L, rqF_n, rpF_1, rpF_L, rpP_n, rpP_1, rpP_L, rkI_n, rkI_1, rkI_L, rpR_n, rpR_1, rpR_L, gvM_n, gvM_1, gvM_L, enF_n, enF_1, enF_L, usF_n, usF_1, usF_L]), show (stL (enF (usF (stM (wOk S) (200 + 8 * i + s) 2 (nI n + 1)) k (nI p)) i p (nI s) (nI a) 1) 12 0 (nI k).toInt64).2.2 16 (24 * b + n) = nI a from by simp (disch := omega) only [w4, wOk, wT, mS, mwO, mwT, stL_2, stL_1, stM_1, stM_L, rd_s, rd_j, rd_n, stM_n, rdL_s, rdL_j, rdL_n, stL_n, s9_n, s9_1, s9_L, putF_n, putF_1, putF_L, kpM_n, kpM_1, kpM_L, dpF_n, dropF_1, dropF_L, clR_n, clR_1, clR_L, clP_n, clP_1, clP_L, frmF_n, frmF_1, frmF_L, rqF_n, rpF_1, rpF_L, rpP_n, rpP_1, rpP_L, rkI_n, rkI_1, rkI_L, rpR_n, rpR_1, rpR_L, gvM_n, gvM_1, gvM_L, enF_n, enF_1, enF_L, usF_n, usF_1, usF_L]]
          rw [eM]
          obtain ⟨X, hX⟩ : ∃ X, X = gvM (stM (mwO (stL (enF (usF (stM (wOk S) (200 + 8 * i + s) 2 (nI n + 1)) k (nI p)) i p (nI s) (nI a) 1) 12 0 (nI k).toInt64)) 31 (8 * i + s) (nI n + 1)) (100 * i + p) (nI s) (nI a) k 2 := ⟨_, rfl⟩
          rw [← hX]
          rw [nI_1] at hX
          have xo : ∀ t, (t ≠ 3 ∧ t ≠ 13 ∧ t ≠ 7 ∧ t ≠ 8 ∧ (t < 24 ∨ 28 < t) ∧ t ≠ 31 ∧ t ≠ 110 + i ∧ t ≠ 120 + i ∧ t ≠ 130 + i ∧ t ≠ 200 + 8 * i + s) → X.2.2 t = S.2.2 t := fun t ht => by rw [hX]; simp (disch := omega) only [wOk, wT, mS, mwO, mwT, stL_2, stL_1, stM_1, stM_L, rd_s, rd_j, rd_n, stM_n, rdL_s, rdL_j, rdL_n, stL_n, s9_n, s9_1, s9_L, putF_n, putF_1, putF_L, kpM_n, kpM_1, kpM_L, dpF_n, dropF_1, dropF_L, clR_n, clR_1, clR_L, clP_n, clP_1, clP_L, frmF_n, frmF_1, frmF_L, rqF_n, rpF_1, rpF_L, rpP_n, rpP_1, rpP_L, rkI_n, rkI_1, rkI_L, rpR_n, rpR_1, rpR_L, gvM_n, gvM_1, gvM_L, enF_n, enF_1, enF_L, usF_n, usF_1, usF_L]
          have x1 : X.1 = S.1 := by rw [hX]; simp (disch := omega) only [wOk, wT, mS, mwO, mwT, stL_2, stL_1, stM_1, stM_L, rd_s, rd_j, rd_n, stM_n, rdL_s, rdL_j, rdL_n, stL_n, s9_n, s9_1, s9_L, putF_n, putF_1, putF_L, kpM_n, kpM_1, kpM_L, dpF_n, dropF_1, dropF_L, clR_n, clR_1, clR_L, clP_n, clP_1, clP_L, frmF_n, frmF_1, frmF_L, rqF_n, rpF_1, rpF_L, rpP_n, rpP_1, rpP_L, rkI_n, rkI_1, rkI_L, rpR_n, rpR_1, rpR_L, gvM_n, gvM_1, gvM_L, enF_n, enF_1, enF_L, usF_n, usF_1, usF_L]
          have xL : ∀ t, t ≠ 12 → X.2.1 t = S.2.1 t := fun t ht => by rw [hX]; simp (disch := omega) only [wOk, wT, mS, mwO, mwT, stL_2, stL_1, stM_1, stM_L, rd_s, rd_j, rd_n, stM_n, rdL_s, rdL_j, rdL_n, stL_n, s9_n, s9_1, s9_L, putF_n, putF_1, putF_L, kpM_n, kpM_1, kpM_L, dpF_n, dropF_1, dropF_L, clR_n, clR_1, clR_L, clP_n, clP_1, clP_L, frmF_n, frmF_1, frmF_L, rqF_n, rpF_1, rpF_L, rpP_n, rpP_1, rpP_L, rkI_n, rkI_1, rkI_L, rpR_n, rpR_1, rpR_L, gvM_n, gvM_1, gvM_L, enF_n, enF_1, enF_L, usF_n, usF_1, usF_L]
          have x12 : X.2.1 12 0 = (nI k).toInt64 := by rw [hX]; simp (disch := omega) only [wOk, wT, mS, mwO, mwT, stL_2, stL_1, stM_1, stM_L, rd_s, rd_j, rd_n, stM_n, rdL_s, rdL_j, rdL_n, stL_n, s9_n, s9_1, s9_L, putF_n, putF_1, putF_L, kpM_n, kpM_1, kpM_L, dpF_n, dropF_1, dropF_L, clR_n, clR_1, clR_L, clP_n, clP_1, clP_L, frmF_n, frmF_1, frmF_L, rqF_n, rpF_1, rpF_L, rpP_n, rpP_1, rpP_L, rkI_n, rkI_1, rkI_L, rpR_n, rpR_1, rpR_L, gvM_n, gvM_1, gvM_L, enF_n, enF_1, enF_L, usF_n, usF_1, usF_L]
          have x130 : X.2.2 13 0 = 0 := by rw [hX]; simp (disch := omega) only [wOk, wT, mS, mwO, mwT, stL_2, stL_1, stM_1, stM_L, rd_s, rd_j, rd_n, stM_n, rdL_s, rdL_j, rdL_n, stL_n, s9_n, s9_1, s9_L, putF_n, putF_1, putF_L, kpM_n, kpM_1, kpM_L, dpF_n, dropF_1, dropF_L, clR_n, clR_1, clR_L, clP_n, clP_1, clP_L, frmF_n, frmF_1, frmF_L, rqF_n, rpF_1, rpF_L, rpP_n, rpP_1, rpP_L, rkI_n, rkI_1, rkI_L, rpR_n, rpR_1, rpR_L, gvM_n, gvM_1, gvM_L, enF_n, enF_1, enF_L, usF_n, usF_1, usF_L]
          have j0 : X.2.2 3 0 = X.2.2 13 1 := by rw [hX]; simp (disch := omega) only [wOk, wT, mS, mwO, mwT, stL_2, stL_1, stM_1, stM_L, rd_s, rd_j, rd_n, stM_n, rdL_s, rdL_j, rdL_n, stL_n, s9_n, s9_1, s9_L, putF_n, putF_1, putF_L, kpM_n, kpM_1, kpM_L, dpF_n, dropF_1, dropF_L, clR_n, clR_1, clR_L, clP_n, clP_1, clP_L, frmF_n, frmF_1, frmF_L, rqF_n, rpF_1, rpF_L, rpP_n, rpP_1, rpP_L, rkI_n, rkI_1, rkI_L, rpR_n, rpR_1, rpR_L, gvM_n, gvM_1, gvM_L, enF_n, enF_1, enF_L, usF_n, usF_1, usF_L, h.j0, h.j1, h.j2, h.o7]
          have j1 : jT X := by rw [hX]; exact ⟨by simp (disch := omega) only [wOk, wT, mS, mwO, mwT, stL_2, stL_1, stM_1, stM_L, rd_s, rd_j, rd_n, stM_n, rdL_s, rdL_j, rdL_n, stL_n, s9_n, s9_1, s9_L, putF_n, putF_1, putF_L, kpM_n, kpM_1, kpM_L, dpF_n, dropF_1, dropF_L, clR_n, clR_1, clR_L, clP_n, clP_1, clP_L, frmF_n, frmF_1, frmF_L, rqF_n, rpF_1, rpF_L, rpP_n, rpP_1, rpP_L, rkI_n, rkI_1, rkI_L, rpR_n, rpR_1, rpR_L, gvM_n, gvM_1, gvM_L, enF_n, enF_1, enF_L, usF_n, usF_1, usF_L, h.j0, h.j1, h.j2, h.o7], by first | (refine Or.inl ?_; simp (disch := omega) only [wOk, wT, mS, mwO, mwT, stL_2, stL_1, stM_1, stM_L, rd_s, rd_j, rd_n, stM_n, rdL_s, rdL_j, rdL_n, stL_n, s9_n, s9_1, s9_L, putF_n, putF_1, putF_L, kpM_n, kpM_1, kpM_L, dpF_n, dropF_1, dropF_L, clR_n, clR_1, clR_L, clP_n, clP_1, clP_L, frmF_n, frmF_1, frmF_L, rqF_n, rpF_1, rpF_L, rpP_n, rpP_1, rpP_L, rkI_n, rkI_1, rkI_L, rpR_n, rpR_1, rpR_L, gvM_n, gvM_1, gvM_L, enF_n, enF_1, enF_L, usF_n, usF_1, usF_L]; done) | (simp (disch := omega) only [wOk, wT, mS, mwO, mwT, stL_2, stL_1, stM_1, stM_L, rd_s, rd_j, rd_n, stM_n, rdL_s, rdL_j, rdL_n, stL_n, s9_n, s9_1, s9_L, putF_n, putF_1, putF_L, kpM_n, kpM_1, kpM_L, dpF_n, dropF_1, dropF_L, clR_n, clR_1, clR_L, clP_n, clP_1, clP_L, frmF_n, frmF_1, frmF_L, rqF_n, rpF_1, rpF_L, rpP_n, rpP_1, rpP_L, rkI_n, rkI_1, rkI_L, rpR_n, rpR_1, rpR_L, gvM_n, gvM_1, gvM_L, enF_n, enF_1, enF_L, usF_n, usF_1, usF_L]; exact h.jb)⟩
          have j2 : X.2.2 3 2 = X.2.2 13 3 := by rw [hX]; simp (disch := omega) only [wOk, wT, mS, mwO, mwT, stL_2, stL_1, stM_1, stM_L, rd_s, rd_j, rd_n, stM_n, rdL_s, rdL_j, rdL_n, stL_n, s9_n, s9_1, s9_L, putF_n, putF_1, putF_L, kpM_n, kpM_1, kpM_L, dpF_n, dropF_1, dropF_L, clR_n, clR_1, clR_L, clP_n, clP_1, clP_L, frmF_n, frmF_1, frmF_L, rqF_n, rpF_1, rpF_L, rpP_n, rpP_1, rpP_L, rkI_n, rkI_1, rkI_L, rpR_n, rpR_1, rpR_L, gvM_n, gvM_1, gvM_L, enF_n, enF_1, enF_L, usF_n, usF_1, usF_L, h.j0, h.j1, h.j2, h.o7]
          have o7 : X.2.2 0 7 = X.2.2 13 4 := by rw [hX]; simp (disch := omega) only [wOk, wT, mS, mwO, mwT, stL_2, stL_1, stM_1, stM_L, rd_s, rd_j, rd_n, stM_n, rdL_s, rdL_j, rdL_n, stL_n, s9_n, s9_1, s9_L, putF_n, putF_1, putF_L, kpM_n, kpM_1, kpM_L, dpF_n, dropF_1, dropF_L, clR_n, clR_1, clR_L, clP_n, clP_1, clP_L, frmF_n, frmF_1, frmF_L, rqF_n, rpF_1, rpF_L, rpP_n, rpP_1, rpP_L, rkI_n, rkI_1, rkI_L, rpR_n, rpR_1, rpR_L, gvM_n, gvM_1, gvM_L, enF_n, enF_1, enF_L, usF_n, usF_1, usF_L, h.j0, h.j1, h.j2, h.o7]
          have x5 : ∀ j, 5 ≤ j → X.2.2 13 j = S.2.2 13 j := fun j hj => by rw [hX]; simp (disch := omega) only [wOk, wT, mS, mwO, mwT, stL_2, stL_1, stM_1, stM_L, rd_s, rd_j, rd_n, stM_n, rdL_s, rdL_j, rdL_n, stL_n, s9_n, s9_1, s9_L, putF_n, putF_1, putF_L, kpM_n, kpM_1, kpM_L, dpF_n, dropF_1, dropF_L, clR_n, clR_1, clR_L, clP_n, clP_1, clP_L, frmF_n, frmF_1, frmF_L, rqF_n, rpF_1, rpF_L, rpP_n, rpP_1, rpP_L, rkI_n, rkI_1, rkI_L, rpR_n, rpR_1, rpR_L, gvM_n, gvM_1, gvM_L, enF_n, enF_1, enF_L, usF_n, usF_1, usF_L]
          have x24 : X.2.2 24 = upd (S.2.2 24) k 2 := by rw [hX]; unfold gvM; rw [stM_s]; simp (disch := omega) only [wOk, wT, mS, mwO, mwT, stL_2, stL_1, stM_1, stM_L, rd_s, rd_j, rd_n, stM_n, rdL_s, rdL_j, rdL_n, stL_n, s9_n, s9_1, s9_L, putF_n, putF_1, putF_L, kpM_n, kpM_1, kpM_L, dpF_n, dropF_1, dropF_L, clR_n, clR_1, clR_L, clP_n, clP_1, clP_L, frmF_n, frmF_1, frmF_L, rqF_n, rpF_1, rpF_L, rpP_n, rpP_1, rpP_L, rkI_n, rkI_1, rkI_L, rpR_n, rpR_1, rpR_L, gvM_n, gvM_1, gvM_L, enF_n, enF_1, enF_L, usF_n, usF_1, usF_L]
          have x25 : X.2.2 25 = upd (S.2.2 25) (100 * i + p) 2 := by rw [hX]; unfold gvM; rw [stM_n (by decide), stM_n (by decide), stM_n (by decide), stM_n (by decide), stM_s]; simp (disch := omega) only [wOk, wT, mS, mwO, mwT, stL_2, stL_1, stM_1, stM_L, rd_s, rd_j, rd_n, stM_n, rdL_s, rdL_j, rdL_n, stL_n, s9_n, s9_1, s9_L, putF_n, putF_1, putF_L, kpM_n, kpM_1, kpM_L, dpF_n, dropF_1, dropF_L, clR_n, clR_1, clR_L, clP_n, clP_1, clP_L, frmF_n, frmF_1, frmF_L, rqF_n, rpF_1, rpF_L, rpP_n, rpP_1, rpP_L, rkI_n, rkI_1, rkI_L, rpR_n, rpR_1, rpR_L, gvM_n, gvM_1, gvM_L, enF_n, enF_1, enF_L, usF_n, usF_1, usF_L]
          have x26 : X.2.2 26 = upd (S.2.2 26) (100 * i + p) (nI s) := by rw [hX]; unfold gvM; rw [stM_n (by decide), stM_n (by decide), stM_n (by decide), stM_s]; simp (disch := omega) only [wOk, wT, mS, mwO, mwT, stL_2, stL_1, stM_1, stM_L, rd_s, rd_j, rd_n, stM_n, rdL_s, rdL_j, rdL_n, stL_n, s9_n, s9_1, s9_L, putF_n, putF_1, putF_L, kpM_n, kpM_1, kpM_L, dpF_n, dropF_1, dropF_L, clR_n, clR_1, clR_L, clP_n, clP_1, clP_L, frmF_n, frmF_1, frmF_L, rqF_n, rpF_1, rpF_L, rpP_n, rpP_1, rpP_L, rkI_n, rkI_1, rkI_L, rpR_n, rpR_1, rpR_L, gvM_n, gvM_1, gvM_L, enF_n, enF_1, enF_L, usF_n, usF_1, usF_L]
          have x27 : X.2.2 27 = upd (S.2.2 27) (100 * i + p) (nI a) := by rw [hX]; unfold gvM; rw [stM_n (by decide), stM_n (by decide), stM_s]; simp (disch := omega) only [wOk, wT, mS, mwO, mwT, stL_2, stL_1, stM_1, stM_L, rd_s, rd_j, rd_n, stM_n, rdL_s, rdL_j, rdL_n, stL_n, s9_n, s9_1, s9_L, putF_n, putF_1, putF_L, kpM_n, kpM_1, kpM_L, dpF_n, dropF_1, dropF_L, clR_n, clR_1, clR_L, clP_n, clP_1, clP_L, frmF_n, frmF_1, frmF_L, rqF_n, rpF_1, rpF_L, rpP_n, rpP_1, rpP_L, rkI_n, rkI_1, rkI_L, rpR_n, rpR_1, rpR_L, gvM_n, gvM_1, gvM_L, enF_n, enF_1, enF_L, usF_n, usF_1, usF_L]
          have x28 : X.2.2 28 = upd (S.2.2 28) (100 * i + p) (nI k) := by rw [hX]; unfold gvM; rw [stM_n (by decide), stM_s]; simp (disch := omega) only [wOk, wT, mS, mwO, mwT, stL_2, stL_1, stM_1, stM_L, rd_s, rd_j, rd_n, stM_n, rdL_s, rdL_j, rdL_n, stL_n, s9_n, s9_1, s9_L, putF_n, putF_1, putF_L, kpM_n, kpM_1, kpM_L, dpF_n, dropF_1, dropF_L, clR_n, clR_1, clR_L, clP_n, clP_1, clP_L, frmF_n, frmF_1, frmF_L, rqF_n, rpF_1, rpF_L, rpP_n, rpP_1, rpP_L, rkI_n, rkI_1, rkI_L, rpR_n, rpR_1, rpR_L, gvM_n, gvM_1, gvM_L, enF_n, enF_1, enF_L, usF_n, usF_1, usF_L]
          have x7 : X.2.2 7 = upd (S.2.2 7) k 3 := by rw [hX]; simp (disch := omega) only [wOk, wT, mS, mwO, mwT, stL_2, stL_1, stM_1, stM_L, rd_s, rd_j, rd_n, stM_n, rdL_s, rdL_j, rdL_n, stL_n, s9_n, s9_1, s9_L, putF_n, putF_1, putF_L, kpM_n, kpM_1, kpM_L, dpF_n, dropF_1, dropF_L, clR_n, clR_1, clR_L, clP_n, clP_1, clP_L, frmF_n, frmF_1, frmF_L, rqF_n, rpF_1, rpF_L, rpP_n, rpP_1, rpP_L, rkI_n, rkI_1, rkI_L, rpR_n, rpR_1, rpR_L, gvM_n, gvM_1, gvM_L, enF_n, enF_1, enF_L, usF_n, usF_1, usF_L]; unfold usF; rw [stM_n (by decide), stM_s]; simp (disch := omega) only [wOk, wT, mS, mwO, mwT, stL_2, stL_1, stM_1, stM_L, rd_s, rd_j, rd_n, stM_n, rdL_s, rdL_j, rdL_n, stL_n, s9_n, s9_1, s9_L, putF_n, putF_1, putF_L, kpM_n, kpM_1, kpM_L, dpF_n, dropF_1, dropF_L, clR_n, clR_1, clR_L, clP_n, clP_1, clP_L, frmF_n, frmF_1, frmF_L, rqF_n, rpF_1, rpF_L, rpP_n, rpP_1, rpP_L, rkI_n, rkI_1, rkI_L, rpR_n, rpR_1, rpR_L, gvM_n, gvM_1, gvM_L, enF_n, enF_1, enF_L, usF_n, usF_1, usF_L]
          have x8 : X.2.2 8 = upd (S.2.2 8) k (nI p) := by rw [hX]; simp (disch := omega) only [wOk, wT, mS, mwO, mwT, stL_2, stL_1, stM_1, stM_L, rd_s, rd_j, rd_n, stM_n, rdL_s, rdL_j, rdL_n, stL_n, s9_n, s9_1, s9_L, putF_n, putF_1, putF_L, kpM_n, kpM_1, kpM_L, dpF_n, dropF_1, dropF_L, clR_n, clR_1, clR_L, clP_n, clP_1, clP_L, frmF_n, frmF_1, frmF_L, rqF_n, rpF_1, rpF_L, rpP_n, rpP_1, rpP_L, rkI_n, rkI_1, rkI_L, rpR_n, rpR_1, rpR_L, gvM_n, gvM_1, gvM_L, enF_n, enF_1, enF_L, usF_n, usF_1, usF_L]; unfold usF; rw [stM_s]; simp (disch := omega) only [wOk, wT, mS, mwO, mwT, stL_2, stL_1, stM_1, stM_L, rd_s, rd_j, rd_n, stM_n, rdL_s, rdL_j, rdL_n, stL_n, s9_n, s9_1, s9_L, putF_n, putF_1, putF_L, kpM_n, kpM_1, kpM_L, dpF_n, dropF_1, dropF_L, clR_n, clR_1, clR_L, clP_n, clP_1, clP_L, frmF_n, frmF_1, frmF_L, rqF_n, rpF_1, rpF_L, rpP_n, rpP_1, rpP_L, rkI_n, rkI_1, rkI_L, rpR_n, rpR_1, rpR_L, gvM_n, gvM_1, gvM_L, enF_n, enF_1, enF_L, usF_n, usF_1, usF_L]
          have x110 : X.2.2 (110 + i) = upd (S.2.2 (110 + i)) p 1 := by rw [hX]; simp (disch := omega) only [wOk, wT, mS, mwO, mwT, stL_2, stL_1, stM_1, stM_L, rd_s, rd_j, rd_n, stM_n, rdL_s, rdL_j, rdL_n, stL_n, s9_n, s9_1, s9_L, putF_n, putF_1, putF_L, kpM_n, kpM_1, kpM_L, dpF_n, dropF_1, dropF_L, clR_n, clR_1, clR_L, clP_n, clP_1, clP_L, frmF_n, frmF_1, frmF_L, rqF_n, rpF_1, rpF_L, rpP_n, rpP_1, rpP_L, rkI_n, rkI_1, rkI_L, rpR_n, rpR_1, rpR_L, gvM_n, gvM_1, gvM_L, enF_n, enF_1, enF_L, usF_n, usF_1, usF_L]; unfold enF; rw [stM_n (by omega), stM_n (by omega), stM_s]; simp (disch := omega) only [wOk, wT, mS, mwO, mwT, stL_2, stL_1, stM_1, stM_L, rd_s, rd_j, rd_n, stM_n, rdL_s, rdL_j, rdL_n, stL_n, s9_n, s9_1, s9_L, putF_n, putF_1, putF_L, kpM_n, kpM_1, kpM_L, dpF_n, dropF_1, dropF_L, clR_n, clR_1, clR_L, clP_n, clP_1, clP_L, frmF_n, frmF_1, frmF_L, rqF_n, rpF_1, rpF_L, rpP_n, rpP_1, rpP_L, rkI_n, rkI_1, rkI_L, rpR_n, rpR_1, rpR_L, gvM_n, gvM_1, gvM_L, enF_n, enF_1, enF_L, usF_n, usF_1, usF_L]
          have x120 : X.2.2 (120 + i) = upd (S.2.2 (120 + i)) p (nI s) := by rw [hX]; simp (disch := omega) only [wOk, wT, mS, mwO, mwT, stL_2, stL_1, stM_1, stM_L, rd_s, rd_j, rd_n, stM_n, rdL_s, rdL_j, rdL_n, stL_n, s9_n, s9_1, s9_L, putF_n, putF_1, putF_L, kpM_n, kpM_1, kpM_L, dpF_n, dropF_1, dropF_L, clR_n, clR_1, clR_L, clP_n, clP_1, clP_L, frmF_n, frmF_1, frmF_L, rqF_n, rpF_1, rpF_L, rpP_n, rpP_1, rpP_L, rkI_n, rkI_1, rkI_L, rpR_n, rpR_1, rpR_L, gvM_n, gvM_1, gvM_L, enF_n, enF_1, enF_L, usF_n, usF_1, usF_L]; unfold enF; rw [stM_n (by omega), stM_s]; simp (disch := omega) only [wOk, wT, mS, mwO, mwT, stL_2, stL_1, stM_1, stM_L, rd_s, rd_j, rd_n, stM_n, rdL_s, rdL_j, rdL_n, stL_n, s9_n, s9_1, s9_L, putF_n, putF_1, putF_L, kpM_n, kpM_1, kpM_L, dpF_n, dropF_1, dropF_L, clR_n, clR_1, clR_L, clP_n, clP_1, clP_L, frmF_n, frmF_1, frmF_L, rqF_n, rpF_1, rpF_L, rpP_n, rpP_1, rpP_L, rkI_n, rkI_1, rkI_L, rpR_n, rpR_1, rpR_L, gvM_n, gvM_1, gvM_L, enF_n, enF_1, enF_L, usF_n, usF_1, usF_L]
          have x130' : X.2.2 (130 + i) = upd (S.2.2 (130 + i)) p (nI a) := by rw [hX]; simp (disch := omega) only [wOk, wT, mS, mwO, mwT, stL_2, stL_1, stM_1, stM_L, rd_s, rd_j, rd_n, stM_n, rdL_s, rdL_j, rdL_n, stL_n, s9_n, s9_1, s9_L, putF_n, putF_1, putF_L, kpM_n, kpM_1, kpM_L, dpF_n, dropF_1, dropF_L, clR_n, clR_1, clR_L, clP_n, clP_1, clP_L, frmF_n, frmF_1, frmF_L, rqF_n, rpF_1, rpF_L, rpP_n, rpP_1, rpP_L, rkI_n, rkI_1, rkI_L, rpR_n, rpR_1, rpR_L, gvM_n, gvM_1, gvM_L, enF_n, enF_1, enF_L, usF_n, usF_1, usF_L]; unfold enF; rw [stM_s]; simp (disch := omega) only [wOk, wT, mS, mwO, mwT, stL_2, stL_1, stM_1, stM_L, rd_s, rd_j, rd_n, stM_n, rdL_s, rdL_j, rdL_n, stL_n, s9_n, s9_1, s9_L, putF_n, putF_1, putF_L, kpM_n, kpM_1, kpM_L, dpF_n, dropF_1, dropF_L, clR_n, clR_1, clR_L, clP_n, clP_1, clP_L, frmF_n, frmF_1, frmF_L, rqF_n, rpF_1, rpF_L, rpP_n, rpP_1, rpP_L, rkI_n, rkI_1, rkI_L, rpR_n, rpR_1, rpR_L, gvM_n, gvM_1, gvM_L, enF_n, enF_1, enF_L, usF_n, usF_1, usF_L]
          have x31 : X.2.2 31 = upd (S.2.2 31) (8 * i + s) (nI (n + 1)) := by rw [hX]; simp (disch := omega) only [wOk, wT, mS, mwO, mwT, stL_2, stL_1, stM_1, stM_L, rd_s, rd_j, rd_n, stM_n, rdL_s, rdL_j, rdL_n, stL_n, s9_n, s9_1, s9_L, putF_n, putF_1, putF_L, kpM_n, kpM_1, kpM_L, dpF_n, dropF_1, dropF_L, clR_n, clR_1, clR_L, clP_n, clP_1, clP_L, frmF_n, frmF_1, frmF_L, rqF_n, rpF_1, rpF_L, rpP_n, rpP_1, rpP_L, rkI_n, rkI_1, rkI_L, rpR_n, rpR_1, rpR_L, gvM_n, gvM_1, gvM_L, enF_n, enF_1, enF_L, usF_n, usF_1, usF_L]; rw [stM_s]; simp (disch := omega) only [wOk, wT, mS, mwO, mwT, stL_2, stL_1, stM_1, stM_L, rd_s, rd_j, rd_n, stM_n, rdL_s, rdL_j, rdL_n, stL_n, s9_n, s9_1, s9_L, putF_n, putF_1, putF_L, kpM_n, kpM_1, kpM_L, dpF_n, dropF_1, dropF_L, clR_n, clR_1, clR_L, clP_n, clP_1, clP_L, frmF_n, frmF_1, frmF_L, rqF_n, rpF_1, rpF_L, rpP_n, rpP_1, rpP_L, rkI_n, rkI_1, rkI_L, rpR_n, rpR_1, rpR_L, gvM_n, gvM_1, gvM_L, enF_n, enF_1, enF_L, usF_n, usF_1, usF_L]
          have x200 : X.2.2 (200 + 8 * i + s) = upd (S.2.2 (200 + 8 * i + s)) 2 (nI (n + 1)) := by rw [hX]; simp (disch := omega) only [wOk, wT, mS, mwO, mwT, stL_2, stL_1, stM_1, stM_L, rd_s, rd_j, rd_n, stM_n, rdL_s, rdL_j, rdL_n, stL_n, s9_n, s9_1, s9_L, putF_n, putF_1, putF_L, kpM_n, kpM_1, kpM_L, dpF_n, dropF_1, dropF_L, clR_n, clR_1, clR_L, clP_n, clP_1, clP_L, frmF_n, frmF_1, frmF_L, rqF_n, rpF_1, rpF_L, rpP_n, rpP_1, rpP_L, rkI_n, rkI_1, rkI_L, rpR_n, rpR_1, rpR_L, gvM_n, gvM_1, gvM_L, enF_n, enF_1, enF_L, usF_n, usF_1, usF_L]; rw [stM_s]; simp (disch := omega) only [wOk, wT, mS, mwO, mwT, stL_2, stL_1, stM_1, stM_L, rd_s, rd_j, rd_n, stM_n, rdL_s, rdL_j, rdL_n, stL_n, s9_n, s9_1, s9_L, putF_n, putF_1, putF_L, kpM_n, kpM_1, kpM_L, dpF_n, dropF_1, dropF_L, clR_n, clR_1, clR_L, clP_n, clP_1, clP_L, frmF_n, frmF_1, frmF_L, rqF_n, rpF_1, rpF_L, rpP_n, rpP_1, rpP_L, rkI_n, rkI_1, rkI_L, rpR_n, rpR_1, rpR_L, gvM_n, gvM_1, gvM_L, enF_n, enF_1, enF_L, usF_n, usF_1, usF_L]
          clear hX eM eD
          have hne : ∀ j s' q, j < 10 → gLe g j s' q S → g.gk (24 * (8 * j + s') + q) = k → j = i ∧ s' = s ∧ q = n := by
            intro j s' q hj hl hq
            have hl' := hl
            obtain ⟨l1, l2, l3, l4⟩ := hl
            obtain ⟨-, -, -, p4, p5⟩ := h.ki.2.2.1 j s' hj l1
            rcases p5 (fun z => l3 (p4 z)) with o | ⟨b', t1, t2, t3, t4, t5, t6⟩
            · exact absurd o.1 l3
            · have t := (t6 q l2).2.2.2.2.1
              rw [hq] at t
              have ej : j = i := nI_ij (by omega) (by omega) (t.symm.trans v5)
              subst ej
              have := h.ki.2.2.2.1 j s' q s n hj hl' ⟨hs, h4, h30, by rw [hn]; exact Nat.le_refl _⟩ (hq.trans hk.symm)
              exact ⟨rfl, this⟩
          have gnx : ∀ q, (gO g (100 * i + p) s a k (8 * i + s) (n + 1)).nx q = if q = 8 * i + s then n + 1 else g.nx q := fun _ => rfl
          have hgle : ∀ j s' q, j < 10 → gLe (gO g (100 * i + p) s a k (8 * i + s) (n + 1)) j s' q X → gLe g j s' q S := by
            intro j s' q hj hl
            unfold gLe at hl ⊢
            rw [xo 30 (by omega), gnx] at hl
            refine ⟨hl.1, hl.2.1, hl.2.2.1, ?_⟩
            have l4 := hl.2.2.2
            by_cases e : 8 * j + s' = 8 * i + s
            · rw [if_pos e] at l4; rw [e, hn]; omega
            · rw [if_neg e] at l4; exact l4
          have kk := gv_ki (g' := gO g (100 * i + p) s a k (8 * i + s) (n + 1)) h.ki.1 h.ki.2.1 hi hp v2 v5 (by rw [v7]; decide) old0 (w := 2) (by decide) (fun t ht => xo t (by omega)) x24 x7 x8 x25 x28 (fun _ => rfl) (fun _ => rfl)
          refine ⟨rfl, x130, x12, gO g (100 * i + p) s a k (8 * i + s) (n + 1), j0, j1, j2, o7, RS_c (xo 9 (by omega)) (xo 21 (by omega)) (fun j hj => by rw [xo (100 + j) (by omega)]) (by rw [xo 0 (by omega)]) h.st, (RP_c (fun j hj => by rw [xo 1 (by omega)]) (xo 2 (by omega)) (xo 14 (by omega)) (x5 5 (by omega)) (x5 6 (by omega)) h.pl : RP g X), (RB_c (S := S) (Nat.le_succ c) hc (x5 9 (by omega)) (fun t ht => xo t (by omega)) x1 (fun t h1 h2 => xL t h1) h.bk : RB g (c + 1) X), ⟨gv_pe h.pe.1 hi hp hs (by omega) ho u3 (Or.inr ⟨rfl, rfl⟩) (fun t ht => xo t (by omega)) x25 x26 x27 x110 x120 x130' (fun j hj hne => ⟨xo _ (by omega), xo _ (by omega), xo _ (by omega)⟩) (fun _ => rfl) (fun _ => rfl), fun s' a' hs' ha' => ?_⟩, kk.1, kk.2, fun j s' hj hs' => ?_, fun j s1 q1 s2 q2 hj g1 g2 => ?_, fun y hy g1 g2 => ?_⟩
          · rw [xo (50 + s') (by omega), h.pe.2 s' a' hs' ha', gv_kn (by omega) hs hs' (by omega : a < 4) ha' old0 x25 x26 x27, if_neg (fun z => absurd z.1 (by decide))]
          · have old := h.ki.2.2.1 j s' hj hs'
            unfold gRe gHe at old ⊢
            rw [gnx, x31, xo 9 (by omega), xo 30 (by omega), xo 21 (by omega), xo 22 (by omega), xo 23 (by omega), xo 32 (by omega), xo (300 + 8 * j + s') (by omega), x24]
            by_cases e : 8 * j + s' = 8 * i + s
            · have e1 : j = i := by omega
              have e2 : s' = s := by omega
              subst e1 e2
              rw [if_pos rfl, up_s, x200]
              refine ⟨rfl, h4, fun z => absurd (show g.T = 0 from z) (show ¬ g.T = 0 by omega), old.2.2.2.1, fun z => Or.inr ⟨b, u1, u2, u3, ?_, up_s, fun q hq => ?_⟩⟩
              · rw [up_n (by decide)]; exact u4
              · obtain ⟨t1, t2, t3, t4, t5, t6⟩ := u6 q hq
                refine ⟨t1, t2, t3, t4, t5, fun hn' => ?_⟩
                have ne : g.gk (24 * (8 * j + s') + q) ≠ k := fun z => by
                  have := (hne j s' q hj ⟨hs', hq, h30, by rw [hn]; omega⟩ z).2.2
                  omega
                show upd (S.2.2 24) k 2 (g.gk (24 * (8 * j + s') + q)) = 1
                rw [up_n ne]
                exact t6 (by omega)
            · rw [if_neg e, up_n e, xo (200 + 8 * j + s') (by omega)]
              refine ⟨old.1, old.2.1, old.2.2.1, old.2.2.2.1, fun z => ?_⟩
              rcases old.2.2.2.2 z with o | ⟨b', t1, t2, t3, t4, t5, t6⟩
              · exact Or.inl o
              · refine Or.inr ⟨b', t1, t2, t3, t4, t5, fun q hq => ?_⟩
                obtain ⟨y1, y2, y3, y4, y5, y6⟩ := t6 q hq
                refine ⟨y1, y2, y3, y4, y5, fun hn' => ?_⟩
                have ne : g.gk (24 * (8 * j + s') + q) ≠ k := fun z => by
                  have := hne j s' q hj ⟨hs', hq, by rw [t1]; exact nI_nlt (b := 0) (by omega) (by omega), hn'⟩ z
                  omega
                show upd (S.2.2 24) k 2 (g.gk (24 * (8 * j + s') + q)) = 1
                rw [up_n ne]
                exact y6 hn'
          · exact h.ki.2.2.2.1 j s1 q1 s2 q2 hj (hgle j s1 q1 hj g1) (hgle j s2 q2 hj g2)
          · rw [x24] at g1
            have ne : y ≠ k := fun z => by rw [z, up_s] at g1; exact absurd g1 (by decide)
            rw [up_n ne] at g1
            have g2 : S.2.2 21 (g.hm y) = 1 := by rw [xo 21 (by omega)] at g2; exact g2
            obtain ⟨s1, q1, r1, r2⟩ := h.ki.2.2.2.2 y hy g1 g2
            refine ⟨s1, q1, ?_, r2⟩
            show gLe (gO g (100 * i + p) s a k (8 * i + s) (n + 1)) (g.hm y) s1 q1 X
            unfold gLe at r1 ⊢
            rw [gnx, xo 30 (by omega)]
            refine ⟨r1.1, r1.2.1, r1.2.2.1, ?_⟩
            by_cases e : 8 * g.hm y + s1 = 8 * i + s
            · rw [if_pos e]
              have r4 := r1.2.2.2
              rw [e, hn] at r4
              have : q1 ≠ n := fun z => ne (by rw [← r2, e, z]; exact hk)
              omega
            · rw [if_neg e]; exact r1.2.2.2
        · simp (disch := omega) only [dOff, mOff, h.j0, h.j1, h0, h1, h2, h2', h3, h3', h4, h5, h30, ↓reduceIte, wOk, wT, mS, mwO, mwT, stL_2, stL_1, stM_1, stM_L, rd_s, rd_j, rd_n, stM_n, rdL_s, rdL_j, rdL_n, stL_n, s9_n, s9_1, s9_L, putF_n, putF_1, putF_L, kpM_n, kpM_1, kpM_L, dpF_n, dropF_1, dropF_L, clR_n, clR_1, clR_L, clP_n, clP_1, clP_L, frmF_n, frmF_1, frmF_L, rqF_n, rpF_1, rpF_L, rpP_n, rpP_1, rpP_L, rkI_n, rkI_1, rkI_L, rpR_n, rpR_1, rpR_L, gvM_n, gvM_1, gvM_L, enF_n, enF_1, enF_L, usF_n, usF_1, usF_L]
          exact Pu_tn h hc
      · have h5 : S.2.2 31 (8 * i + s) = S.2.2 13 6 := by
          rw [o1, h.pl.2.2.2.1, show g.nx (8 * i + s) = g.Z from by omega]
        simp (disch := omega) only [dOff, mOff, h.j0, h0, h2, h2', h3, h3', h4, h5, h30, ↓reduceIte, wOk, wT, mS, mwO, mwT, stL_2, stL_1, stM_1, stM_L, rd_s, rd_j, rd_n, stM_n, rdL_s, rdL_j, rdL_n, stL_n, s9_n, s9_1, s9_L, putF_n, putF_1, putF_L, kpM_n, kpM_1, kpM_L, dpF_n, dropF_1, dropF_L, clR_n, clR_1, clR_L, clP_n, clP_1, clP_L, frmF_n, frmF_1, frmF_L, rqF_n, rpF_1, rpF_L, rpP_n, rpP_1, rpP_L, rkI_n, rkI_1, rkI_L, rpR_n, rpR_1, rpR_L, gvM_n, gvM_1, gvM_L, enF_n, enF_1, enF_L, usF_n, usF_1, usF_L]
        exact Pu_rd h hc
    · have h3' : ¬ S.2.2 (110 + i) p = 0 := fun q => h3 (hpe.mp q)
      simp (disch := omega) only [dOff, mOff, h.j0, h0, h2, h2', h3, h3', ↓reduceIte, wOk, wT, mS, mwO, mwT, stL_2, stL_1, stM_1, stM_L, rd_s, rd_j, rd_n, stM_n, rdL_s, rdL_j, rdL_n, stL_n, s9_n, s9_1, s9_L, putF_n, putF_1, putF_L, kpM_n, kpM_1, kpM_L, dpF_n, dropF_1, dropF_L, clR_n, clR_1, clR_L, clP_n, clP_1, clP_L, frmF_n, frmF_1, frmF_L, rqF_n, rpF_1, rpF_L, rpP_n, rpP_1, rpP_L, rkI_n, rkI_1, rkI_L, rpR_n, rpR_1, rpR_L, gvM_n, gvM_1, gvM_L, enF_n, enF_1, enF_L, usF_n, usF_1, usF_L]
      exact Pu_rd h hc
  · simp (disch := omega) only [dOff, mOff, h.j0, h0, ↓reduceIte, wOk, wT, mS, mwO, mwT, stL_2, stL_1, stM_1, stM_L, rd_s, rd_j, rd_n, stM_n, rdL_s, rdL_j, rdL_n, stL_n, s9_n, s9_1, s9_L, putF_n, putF_1, putF_L, kpM_n, kpM_1, kpM_L, dpF_n, dropF_1, dropF_L, clR_n, clR_1, clR_L, clP_n, clP_1, clP_L, frmF_n, frmF_1, frmF_L, rqF_n, rpF_1, rpF_L, rpP_n, rpP_1, rpP_L, rkI_n, rkI_1, rkI_L, rpR_n, rpR_1, rpR_L, gvM_n, gvM_1, gvM_L, enF_n, enF_1, enF_L, usF_n, usF_1, usF_L]
    exact Pu_rd h hc
