/-! close and report, purely -/
theorem el_cl {g : Gh} {c : Nat} {S : zSt} (h : Rel g c S) (hc : c < 512) {i : Nat} (hi : i < 10) (ho : S.2.2 9 i ≠ 0) {E Y : zSt} (hE : ∀ k, k < 8 → E.2.2 (200 + 8 * i + k) = S.2.2 (200 + 8 * i + k)) (y30 : Y.2.2 30 = S.2.2 30) (y31 : Y.2.2 31 = S.2.2 31) (y6 : Y.2.2 13 6 = S.2.2 13 6) (n : Nat) (hn : n ≤ 8) : clN Y i n = elF E i n := by
  induction n with
  | zero => rfl
  | succ n ih =>
    rw [clN, elF, ih (by omega), hE n (by omega), y30, y31, y6]
    obtain ⟨o1, -, -, -, o5⟩ := h.ki.2.2.1 i n hi (by omega)
    rcases o5 ho with ⟨a, b, d⟩ | ⟨b, u1, u2, u3, u4, u5, -⟩
    · rw [if_pos a, b, d, show (0 : Int32) - 0 = 0 from rfl, Int32.add_zero]
    · have hT := h.bk.2.1
      rw [if_neg (by rw [u1]; exact nI_nlt (b := 0) (by omega) (by omega)), o1, u4, u5, h.pl.2.2.2.1, Int32.sub_eq_add_neg, Int32.sub_eq_add_neg, Int32.add_assoc]
theorem st_1 {g : Gh} {c : Nat} {S : zSt} (h : Rel g c S) (hc : c < 512) {i : Nat} (hi : i < 10) (ho : S.2.2 9 i ≠ 0) (h2 : ¬ S.2.2 21 i = 2) : S.2.2 9 i = 1 ∧ S.2.2 21 i = 1 := by
  rcases h.st.1 i hi with q | q | q
  · exact absurd q.1 ho
  · exact ⟨q.1, q.2.1⟩
  · exact absurd q.2.1 h2
theorem pu_close {g : Gh} {c : Nat} {S : zSt} (h : Rel g c S) (hc : c < 512) {i : Nat} (hi : i < 10) (ho : S.2.2 9 i ≠ 0) : Pu c (dClose S i).1 (mClose (stL (dClose S i).2 12 0 (dClose S i).1.toInt64) i) := by
  by_cases h0 : S.2.2 13 1 = 0
  · have hcl := cl_iff h hc hi ho
    by_cases h2 : S.2.2 21 i = 2
    · have h2' : ¬ S.2.2 (100 + i) 5 = 0 := fun q => hcl.mp q h2
      simp (disch := omega) only [dClose, mClose, h.j0, h0, h2, h2', ↓reduceIte, wOk, wT, mS, mwO, mwT, stL_2, stL_1, stM_1, stM_L, rd_s, rd_j, rd_n, stM_n, rdL_s, rdL_j, rdL_n, stL_n, s9_n, s9_1, s9_L, putF_n, putF_1, putF_L, kpM_n, kpM_1, kpM_L, dpF_n, dropF_1, dropF_L, clR_n, clR_1, clR_L, clP_n, clP_1, clP_L, frmF_n, frmF_1, frmF_L, rqF_n, rpF_1, rpF_L, rpP_n, rpP_1, rpP_L, rkI_n, rkI_1, rkI_L, rpR_n, rpR_1, rpR_L, gvM_n, gvM_1, gvM_L, enF_n, enF_1, enF_L, usF_n, usF_1, usF_L]
      exact Pu_rd h hc
    have h2' := hcl.mpr h2
    obtain ⟨h91, h211⟩ := st_1 h hc hi ho h2
    by_cases h1 : S.2.2 13 2 = 0
    · have eD : dClose S i = (elF (wOk S) i 8, stM (dropF (wOk S) i 8) (100 + i) 5 1) := by
        unfold dClose
        rw [if_pos (h.j0.trans h0), if_pos h2', if_pos (h.j1.trans h1)]
      rw [eD]
      show Pu c (elF (wOk S) i 8) (mClose (stL (stM (dropF (wOk S) i 8) (100 + i) 5 1) 12 0 (elF (wOk S) i 8).toInt64) i)
      generalize hz : elF (wOk S) i 8 = z
      have eM : mClose (stL (stM (dropF (wOk S) i 8) (100 + i) 5 1) 12 0 z.toInt64) i = (z, clT (stL (stM (dropF (wOk S) i 8) (100 + i) 5 1) 12 0 z.toInt64) i) := by
        unfold mClose
        rw [if_pos (by simp (disch := omega) only [h0, wOk, wT, mS, mwO, mwT, stL_2, stL_1, stM_1, stM_L, rd_s, rd_j, rd_n, stM_n, rdL_s, rdL_j, rdL_n, stL_n, s9_n, s9_1, s9_L, putF_n, putF_1, putF_L, kpM_n, kpM_1, kpM_L, dpF_n, dropF_1, dropF_L, clR_n, clR_1, clR_L, clP_n, clP_1, clP_L, frmF_n, frmF_1, frmF_L, rqF_n, rpF_1, rpF_L, rpP_n, rpP_1, rpP_L, rkI_n, rkI_1, rkI_L, rpR_n, rpR_1, rpR_L, gvM_n, gvM_1, gvM_L, enF_n, enF_1, enF_L, usF_n, usF_1, usF_L]), if_neg (by simp (disch := omega) only [h211, wOk, wT, mS, mwO, mwT, stL_2, stL_1, stM_1, stM_L, rd_s, rd_j, rd_n, stM_n, rdL_s, rdL_j, rdL_n, stL_n, s9_n, s9_1, s9_L, putF_n, putF_1, putF_L, kpM_n, kpM_1, kpM_L, dpF_n, dropF_1, dropF_L, clR_n, clR_1, clR_L, clP_n, clP_1, clP_L, frmF_n, frmF_1, frmF_L, rqF_n, rpF_1, rpF_L, rpP_n, rpP_1, rpP_L, rkI_n, rkI_1, rkI_L, rpR_n, rpR_1, rpR_L, gvM_n, gvM_1, gvM_L, enF_n, enF_1, enF_L, usF_n, usF_1, usF_L]; decide), if_pos (by simp (disch := omega) only [h1, wOk, wT, mS, mwO, mwT, stL_2, stL_1, stM_1, stM_L, rd_s, rd_j, rd_n, stM_n, rdL_s, rdL_j, rdL_n, stL_n, s9_n, s9_1, s9_L, putF_n, putF_1, putF_L, kpM_n, kpM_1, kpM_L, dpF_n, dropF_1, dropF_L, clR_n, clR_1, clR_L, clP_n, clP_1, clP_L, frmF_n, frmF_1, frmF_L, rqF_n, rpF_1, rpF_L, rpP_n, rpP_1, rpP_L, rkI_n, rkI_1, rkI_L, rpR_n, rpR_1, rpR_L, gvM_n, gvM_1, gvM_L, enF_n, enF_1, enF_L, usF_n, usF_1, usF_L])]
        refine Prod.ext ?_ rfl
        show clN _ i 8 = z
        rw [← hz]
        exact el_cl h hc hi ho (fun k hk => by simp (disch := omega) only [wOk, wT, mS, mwO, mwT, stL_2, stL_1, stM_1, stM_L, rd_s, rd_j, rd_n, stM_n, rdL_s, rdL_j, rdL_n, stL_n, s9_n, s9_1, s9_L, putF_n, putF_1, putF_L, kpM_n, kpM_1, kpM_L, dpF_n, dropF_1, dropF_L, clR_n, clR_1, clR_L, clP_n, clP_1, clP_L, frmF_n, frmF_1, frmF_L, rqF_n, rpF_1, rpF_L, rpP_n, rpP_1, rpP_L, rkI_n, rkI_1, rkI_L, rpR_n, rpR_1, rpR_L, gvM_n, gvM_1, gvM_L, enF_n, enF_1, enF_L, usF_n, usF_1, usF_L]) (by simp (disch := omega) only [wOk, wT, mS, mwO, mwT, stL_2, stL_1, stM_1, stM_L, rd_s, rd_j, rd_n, stM_n, rdL_s, rdL_j, rdL_n, stL_n, s9_n, s9_1, s9_L, putF_n, putF_1, putF_L, kpM_n, kpM_1, kpM_L, dpF_n, dropF_1, dropF_L, clR_n, clR_1, clR_L, clP_n, clP_1, clP_L, frmF_n, frmF_1, frmF_L, rqF_n, rpF_1, rpF_L, rpP_n, rpP_1, rpP_L, rkI_n, rkI_1, rkI_L, rpR_n, rpR_1, rpR_L, gvM_n, gvM_1, gvM_L, enF_n, enF_1, enF_L, usF_n, usF_1, usF_L]) (by simp (disch := omega) only [wOk, wT, mS, mwO, mwT, stL_2, stL_1, stM_1, stM_L, rd_s, rd_j, rd_n, stM_n, rdL_s, rdL_j, rdL_n, stL_n, s9_n, s9_1, s9_L, putF_n, putF_1, putF_L, kpM_n, kpM_1, kpM_L, dpF_n, dropF_1, dropF_L, clR_n, clR_1, clR_L, clP_n, clP_1, clP_L, frmF_n, frmF_1, frmF_L, rqF_n, rpF_1, rpF_L, rpP_n, rpP_1, rpP_L, rkI_n, rkI_1, rkI_L, rpR_n, rpR_1, rpR_L, gvM_n, gvM_1, gvM_L, enF_n, enF_1, enF_L, usF_n, usF_1, usF_L]) (by simp (disch := omega) only [wOk, wT, mS, mwO, mwT, stL_2, stL_1, stM_1, stM_L, rd_s, rd_j, rd_n, stM_n, rdL_s, rdL_j, rdL_n, stL_n, s9_n, s9_1, s9_L, putF_n, putF_1, putF_L, kpM_n, kpM_1, kpM_L, dpF_n, dropF_1, dropF_L, clR_n, clR_1, clR_L, clP_n, clP_1, clP_L, frmF_n, frmF_1, frmF_L, rqF_n, rpF_1, rpF_L, rpP_n, rpP_1, rpP_L, rkI_n, rkI_1, rkI_L, rpR_n, rpR_1, rpR_L, gvM_n, gvM_1, gvM_L, enF_n, enF_1, enF_L, usF_n, usF_1, usF_L]) 8 (Nat.le_refl _)
      rw [eM]
      unfold clT
      obtain ⟨X, hX⟩ : ∃ X, X = stM (clP (clR (mwO (stL (stM (dropF (wOk S) i 8) (100 + i) 5 1) 12 0 z.toInt64)) i 8) i 100) 21 i 2 := ⟨_, rfl⟩
      rw [← hX]
      have xo : ∀ t, (t ≠ 3 ∧ t ≠ 13 ∧ t ≠ 21 ∧ t ≠ 25 ∧ t ≠ 30 ∧ t ≠ 100 + i ∧ ¬ (200 + 8 * i ≤ t ∧ t < 208 + 8 * i)) → X.2.2 t = S.2.2 t := fun t ht => by rw [hX]; simp (disch := omega) only [wOk, wT, mS, mwO, mwT, stL_2, stL_1, stM_1, stM_L, rd_s, rd_j, rd_n, stM_n, rdL_s, rdL_j, rdL_n, stL_n, s9_n, s9_1, s9_L, putF_n, putF_1, putF_L, kpM_n, kpM_1, kpM_L, dpF_n, dropF_1, dropF_L, clR_n, clR_1, clR_L, clP_n, clP_1, clP_L, frmF_n, frmF_1, frmF_L, rqF_n, rpF_1, rpF_L, rpP_n, rpP_1, rpP_L, rkI_n, rkI_1, rkI_L, rpR_n, rpR_1, rpR_L, gvM_n, gvM_1, gvM_L, enF_n, enF_1, enF_L, usF_n, usF_1, usF_L]
      have x1 : X.1 = S.1 := by rw [hX]; simp (disch := omega) only [wOk, wT, mS, mwO, mwT, stL_2, stL_1, stM_1, stM_L, rd_s, rd_j, rd_n, stM_n, rdL_s, rdL_j, rdL_n, stL_n, s9_n, s9_1, s9_L, putF_n, putF_1, putF_L, kpM_n, kpM_1, kpM_L, dpF_n, dropF_1, dropF_L, clR_n, clR_1, clR_L, clP_n, clP_1, clP_L, frmF_n, frmF_1, frmF_L, rqF_n, rpF_1, rpF_L, rpP_n, rpP_1, rpP_L, rkI_n, rkI_1, rkI_L, rpR_n, rpR_1, rpR_L, gvM_n, gvM_1, gvM_L, enF_n, enF_1, enF_L, usF_n, usF_1, usF_L]
      have xL : ∀ t, t ≠ 12 → X.2.1 t = S.2.1 t := fun t ht => by rw [hX]; simp (disch := omega) only [wOk, wT, mS, mwO, mwT, stL_2, stL_1, stM_1, stM_L, rd_s, rd_j, rd_n, stM_n, rdL_s, rdL_j, rdL_n, stL_n, s9_n, s9_1, s9_L, putF_n, putF_1, putF_L, kpM_n, kpM_1, kpM_L, dpF_n, dropF_1, dropF_L, clR_n, clR_1, clR_L, clP_n, clP_1, clP_L, frmF_n, frmF_1, frmF_L, rqF_n, rpF_1, rpF_L, rpP_n, rpP_1, rpP_L, rkI_n, rkI_1, rkI_L, rpR_n, rpR_1, rpR_L, gvM_n, gvM_1, gvM_L, enF_n, enF_1, enF_L, usF_n, usF_1, usF_L]
      have x12 : X.2.1 12 0 = z.toInt64 := by rw [hX]; simp (disch := omega) only [wOk, wT, mS, mwO, mwT, stL_2, stL_1, stM_1, stM_L, rd_s, rd_j, rd_n, stM_n, rdL_s, rdL_j, rdL_n, stL_n, s9_n, s9_1, s9_L, putF_n, putF_1, putF_L, kpM_n, kpM_1, kpM_L, dpF_n, dropF_1, dropF_L, clR_n, clR_1, clR_L, clP_n, clP_1, clP_L, frmF_n, frmF_1, frmF_L, rqF_n, rpF_1, rpF_L, rpP_n, rpP_1, rpP_L, rkI_n, rkI_1, rkI_L, rpR_n, rpR_1, rpR_L, gvM_n, gvM_1, gvM_L, enF_n, enF_1, enF_L, usF_n, usF_1, usF_L]
      have x130 : X.2.2 13 0 = 0 := by rw [hX]; simp (disch := omega) only [wOk, wT, mS, mwO, mwT, stL_2, stL_1, stM_1, stM_L, rd_s, rd_j, rd_n, stM_n, rdL_s, rdL_j, rdL_n, stL_n, s9_n, s9_1, s9_L, putF_n, putF_1, putF_L, kpM_n, kpM_1, kpM_L, dpF_n, dropF_1, dropF_L, clR_n, clR_1, clR_L, clP_n, clP_1, clP_L, frmF_n, frmF_1, frmF_L, rqF_n, rpF_1, rpF_L, rpP_n, rpP_1, rpP_L, rkI_n, rkI_1, rkI_L, rpR_n, rpR_1, rpR_L, gvM_n, gvM_1, gvM_L, enF_n, enF_1, enF_L, usF_n, usF_1, usF_L]
      have j0 : X.2.2 3 0 = X.2.2 13 1 := by rw [hX]; simp (disch := omega) only [wOk, wT, mS, mwO, mwT, stL_2, stL_1, stM_1, stM_L, rd_s, rd_j, rd_n, stM_n, rdL_s, rdL_j, rdL_n, stL_n, s9_n, s9_1, s9_L, putF_n, putF_1, putF_L, kpM_n, kpM_1, kpM_L, dpF_n, dropF_1, dropF_L, clR_n, clR_1, clR_L, clP_n, clP_1, clP_L, frmF_n, frmF_1, frmF_L, rqF_n, rpF_1, rpF_L, rpP_n, rpP_1, rpP_L, rkI_n, rkI_1, rkI_L, rpR_n, rpR_1, rpR_L, gvM_n, gvM_1, gvM_L, enF_n, enF_1, enF_L, usF_n, usF_1, usF_L, h.j0, h.j1, h.j2, h.o7]
      have j1 : jT X := by rw [hX]; exact ⟨by simp (disch := omega) only [wOk, wT, mS, mwO, mwT, stL_2, stL_1, stM_1, stM_L, rd_s, rd_j, rd_n, stM_n, rdL_s, rdL_j, rdL_n, stL_n, s9_n, s9_1, s9_L, putF_n, putF_1, putF_L, kpM_n, kpM_1, kpM_L, dpF_n, dropF_1, dropF_L, clR_n, clR_1, clR_L, clP_n, clP_1, clP_L, frmF_n, frmF_1, frmF_L, rqF_n, rpF_1, rpF_L, rpP_n, rpP_1, rpP_L, rkI_n, rkI_1, rkI_L, rpR_n, rpR_1, rpR_L, gvM_n, gvM_1, gvM_L, enF_n, enF_1, enF_L, usF_n, usF_1, usF_L, h.j0, h.j1, h.j2, h.o7], by first | (refine Or.inl ?_; simp (disch := omega) only [wOk, wT, mS, mwO, mwT, stL_2, stL_1, stM_1, stM_L, rd_s, rd_j, rd_n, stM_n, rdL_s, rdL_j, rdL_n, stL_n, s9_n, s9_1, s9_L, putF_n, putF_1, putF_L, kpM_n, kpM_1, kpM_L, dpF_n, dropF_1, dropF_L, clR_n, clR_1, clR_L, clP_n, clP_1, clP_L, frmF_n, frmF_1, frmF_L, rqF_n, rpF_1, rpF_L, rpP_n, rpP_1, rpP_L, rkI_n, rkI_1, rkI_L, rpR_n, rpR_1, rpR_L, gvM_n, gvM_1, gvM_L, enF_n, enF_1, enF_L, usF_n, usF_1, usF_L]; done) | (simp (disch := omega) only [wOk, wT, mS, mwO, mwT, stL_2, stL_1, stM_1, stM_L, rd_s, rd_j, rd_n, stM_n, rdL_s, rdL_j, rdL_n, stL_n, s9_n, s9_1, s9_L, putF_n, putF_1, putF_L, kpM_n, kpM_1, kpM_L, dpF_n, dropF_1, dropF_L, clR_n, clR_1, clR_L, clP_n, clP_1, clP_L, frmF_n, frmF_1, frmF_L, rqF_n, rpF_1, rpF_L, rpP_n, rpP_1, rpP_L, rkI_n, rkI_1, rkI_L, rpR_n, rpR_1, rpR_L, gvM_n, gvM_1, gvM_L, enF_n, enF_1, enF_L, usF_n, usF_1, usF_L]; exact h.jb)⟩
      have j2 : X.2.2 3 2 = X.2.2 13 3 := by rw [hX]; simp (disch := omega) only [wOk, wT, mS, mwO, mwT, stL_2, stL_1, stM_1, stM_L, rd_s, rd_j, rd_n, stM_n, rdL_s, rdL_j, rdL_n, stL_n, s9_n, s9_1, s9_L, putF_n, putF_1, putF_L, kpM_n, kpM_1, kpM_L, dpF_n, dropF_1, dropF_L, clR_n, clR_1, clR_L, clP_n, clP_1, clP_L, frmF_n, frmF_1, frmF_L, rqF_n, rpF_1, rpF_L, rpP_n, rpP_1, rpP_L, rkI_n, rkI_1, rkI_L, rpR_n, rpR_1, rpR_L, gvM_n, gvM_1, gvM_L, enF_n, enF_1, enF_L, usF_n, usF_1, usF_L, h.j0, h.j1, h.j2, h.o7]
      have o7 : X.2.2 0 7 = X.2.2 13 4 := by rw [hX]; simp (disch := omega) only [wOk, wT, mS, mwO, mwT, stL_2, stL_1, stM_1, stM_L, rd_s, rd_j, rd_n, stM_n, rdL_s, rdL_j, rdL_n, stL_n, s9_n, s9_1, s9_L, putF_n, putF_1, putF_L, kpM_n, kpM_1, kpM_L, dpF_n, dropF_1, dropF_L, clR_n, clR_1, clR_L, clP_n, clP_1, clP_L, frmF_n, frmF_1, frmF_L, rqF_n, rpF_1, rpF_L, rpP_n, rpP_1, rpP_L, rkI_n, rkI_1, rkI_L, rpR_n, rpR_1, rpR_L, gvM_n, gvM_1, gvM_L, enF_n, enF_1, enF_L, usF_n, usF_1, usF_L, h.j0, h.j1, h.j2, h.o7]
      have x5 : ∀ j, 5 ≤ j → X.2.2 13 j = S.2.2 13 j := fun j hj => by rw [hX]; simp (disch := omega) only [wOk, wT, mS, mwO, mwT, stL_2, stL_1, stM_1, stM_L, rd_s, rd_j, rd_n, stM_n, rdL_s, rdL_j, rdL_n, stL_n, s9_n, s9_1, s9_L, putF_n, putF_1, putF_L, kpM_n, kpM_1, kpM_L, dpF_n, dropF_1, dropF_L, clR_n, clR_1, clR_L, clP_n, clP_1, clP_L, frmF_n, frmF_1, frmF_L, rqF_n, rpF_1, rpF_L, rpP_n, rpP_1, rpP_L, rkI_n, rkI_1, rkI_L, rpR_n, rpR_1, rpR_L, gvM_n, gvM_1, gvM_L, enF_n, enF_1, enF_L, usF_n, usF_1, usF_L]
      have x21 : X.2.2 21 i = 2 := by rw [hX]; simp (disch := omega) only [wOk, wT, mS, mwO, mwT, stL_2, stL_1, stM_1, stM_L, rd_s, rd_j, rd_n, stM_n, rdL_s, rdL_j, rdL_n, stL_n, s9_n, s9_1, s9_L, putF_n, putF_1, putF_L, kpM_n, kpM_1, kpM_L, dpF_n, dropF_1, dropF_L, clR_n, clR_1, clR_L, clP_n, clP_1, clP_L, frmF_n, frmF_1, frmF_L, rqF_n, rpF_1, rpF_L, rpP_n, rpP_1, rpP_L, rkI_n, rkI_1, rkI_L, rpR_n, rpR_1, rpR_L, gvM_n, gvM_1, gvM_L, enF_n, enF_1, enF_L, usF_n, usF_1, usF_L]
      have x21o : ∀ q, q ≠ i → X.2.2 21 q = S.2.2 21 q := fun q hq => by rw [hX]; simp (disch := omega) only [wOk, wT, mS, mwO, mwT, stL_2, stL_1, stM_1, stM_L, rd_s, rd_j, rd_n, stM_n, rdL_s, rdL_j, rdL_n, stL_n, s9_n, s9_1, s9_L, putF_n, putF_1, putF_L, kpM_n, kpM_1, kpM_L, dpF_n, dropF_1, dropF_L, clR_n, clR_1, clR_L, clP_n, clP_1, clP_L, frmF_n, frmF_1, frmF_L, rqF_n, rpF_1, rpF_L, rpP_n, rpP_1, rpP_L, rkI_n, rkI_1, rkI_L, rpR_n, rpR_1, rpR_L, gvM_n, gvM_1, gvM_L, enF_n, enF_1, enF_L, usF_n, usF_1, usF_L]
      have x100 : X.2.2 (100 + i) 5 = 1 := by rw [hX]; simp (disch := omega) only [wOk, wT, mS, mwO, mwT, stL_2, stL_1, stM_1, stM_L, rd_s, rd_j, rd_n, stM_n, rdL_s, rdL_j, rdL_n, stL_n, s9_n, s9_1, s9_L, putF_n, putF_1, putF_L, kpM_n, kpM_1, kpM_L, dpF_n, dropF_1, dropF_L, clR_n, clR_1, clR_L, clP_n, clP_1, clP_L, frmF_n, frmF_1, frmF_L, rqF_n, rpF_1, rpF_L, rpP_n, rpP_1, rpP_L, rkI_n, rkI_1, rkI_L, rpR_n, rpR_1, rpR_L, gvM_n, gvM_1, gvM_L, enF_n, enF_1, enF_L, usF_n, usF_1, usF_L]
      have x30i : ∀ s, s < 8 → X.2.2 30 (8 * i + s) = -1 := fun s hs => by rw [hX]; simp (disch := omega) only [wOk, wT, mS, mwO, mwT, stL_2, stL_1, stM_1, stM_L, rd_s, rd_j, rd_n, stM_n, rdL_s, rdL_j, rdL_n, stL_n, s9_n, s9_1, s9_L, putF_n, putF_1, putF_L, kpM_n, kpM_1, kpM_L, dpF_n, dropF_1, dropF_L, clR_n, clR_1, clR_L, clP_n, clP_1, clP_L, frmF_n, frmF_1, frmF_L, rqF_n, rpF_1, rpF_L, rpP_n, rpP_1, rpP_L, rkI_n, rkI_1, rkI_L, rpR_n, rpR_1, rpR_L, gvM_n, gvM_1, gvM_L, enF_n, enF_1, enF_L, usF_n, usF_1, usF_L]; exact clR_i hs
      have x30o : ∀ q, (q < 8 * i ∨ 8 * i + 8 ≤ q) → X.2.2 30 q = S.2.2 30 q := fun q hq => by rw [hX]; simp (disch := omega) only [wOk, wT, mS, mwO, mwT, stL_2, stL_1, stM_1, stM_L, rd_s, rd_j, rd_n, stM_n, rdL_s, rdL_j, rdL_n, stL_n, s9_n, s9_1, s9_L, putF_n, putF_1, putF_L, kpM_n, kpM_1, kpM_L, dpF_n, dropF_1, dropF_L, clR_n, clR_1, clR_L, clP_n, clP_1, clP_L, frmF_n, frmF_1, frmF_L, rqF_n, rpF_1, rpF_L, rpP_n, rpP_1, rpP_L, rkI_n, rkI_1, rkI_L, rpR_n, rpR_1, rpR_L, gvM_n, gvM_1, gvM_L, enF_n, enF_1, enF_L, usF_n, usF_1, usF_L]; rw [clR_o hq]; simp (disch := omega) only [wOk, wT, mS, mwO, mwT, stL_2, stL_1, stM_1, stM_L, rd_s, rd_j, rd_n, stM_n, rdL_s, rdL_j, rdL_n, stL_n, s9_n, s9_1, s9_L, putF_n, putF_1, putF_L, kpM_n, kpM_1, kpM_L, dpF_n, dropF_1, dropF_L, clR_n, clR_1, clR_L, clP_n, clP_1, clP_L, frmF_n, frmF_1, frmF_L, rqF_n, rpF_1, rpF_L, rpP_n, rpP_1, rpP_L, rkI_n, rkI_1, rkI_L, rpR_n, rpR_1, rpR_L, gvM_n, gvM_1, gvM_L, enF_n, enF_1, enF_L, usF_n, usF_1, usF_L]
      have x25i : ∀ p, p < 100 → X.2.2 25 (100 * i + p) = if S.2.2 25 (100 * i + p) = 2 then 3 else S.2.2 25 (100 * i + p) := fun p hp => by rw [hX]; simp (disch := omega) only [wOk, wT, mS, mwO, mwT, stL_2, stL_1, stM_1, stM_L, rd_s, rd_j, rd_n, stM_n, rdL_s, rdL_j, rdL_n, stL_n, s9_n, s9_1, s9_L, putF_n, putF_1, putF_L, kpM_n, kpM_1, kpM_L, dpF_n, dropF_1, dropF_L, clR_n, clR_1, clR_L, clP_n, clP_1, clP_L, frmF_n, frmF_1, frmF_L, rqF_n, rpF_1, rpF_L, rpP_n, rpP_1, rpP_L, rkI_n, rkI_1, rkI_L, rpR_n, rpR_1, rpR_L, gvM_n, gvM_1, gvM_L, enF_n, enF_1, enF_L, usF_n, usF_1, usF_L]; rw [clP_i hp]; simp (disch := omega) only [wOk, wT, mS, mwO, mwT, stL_2, stL_1, stM_1, stM_L, rd_s, rd_j, rd_n, stM_n, rdL_s, rdL_j, rdL_n, stL_n, s9_n, s9_1, s9_L, putF_n, putF_1, putF_L, kpM_n, kpM_1, kpM_L, dpF_n, dropF_1, dropF_L, clR_n, clR_1, clR_L, clP_n, clP_1, clP_L, frmF_n, frmF_1, frmF_L, rqF_n, rpF_1, rpF_L, rpP_n, rpP_1, rpP_L, rkI_n, rkI_1, rkI_L, rpR_n, rpR_1, rpR_L, gvM_n, gvM_1, gvM_L, enF_n, enF_1, enF_L, usF_n, usF_1, usF_L]
      have x25o : ∀ q, (q < 100 * i ∨ 100 * i + 100 ≤ q) → X.2.2 25 q = S.2.2 25 q := fun q hq => by rw [hX]; simp (disch := omega) only [wOk, wT, mS, mwO, mwT, stL_2, stL_1, stM_1, stM_L, rd_s, rd_j, rd_n, stM_n, rdL_s, rdL_j, rdL_n, stL_n, s9_n, s9_1, s9_L, putF_n, putF_1, putF_L, kpM_n, kpM_1, kpM_L, dpF_n, dropF_1, dropF_L, clR_n, clR_1, clR_L, clP_n, clP_1, clP_L, frmF_n, frmF_1, frmF_L, rqF_n, rpF_1, rpF_L, rpP_n, rpP_1, rpP_L, rkI_n, rkI_1, rkI_L, rpR_n, rpR_1, rpR_L, gvM_n, gvM_1, gvM_L, enF_n, enF_1, enF_L, usF_n, usF_1, usF_L]; rw [clP_o hq]; simp (disch := omega) only [wOk, wT, mS, mwO, mwT, stL_2, stL_1, stM_1, stM_L, rd_s, rd_j, rd_n, stM_n, rdL_s, rdL_j, rdL_n, stL_n, s9_n, s9_1, s9_L, putF_n, putF_1, putF_L, kpM_n, kpM_1, kpM_L, dpF_n, dropF_1, dropF_L, clR_n, clR_1, clR_L, clP_n, clP_1, clP_L, frmF_n, frmF_1, frmF_L, rqF_n, rpF_1, rpF_L, rpP_n, rpP_1, rpP_L, rkI_n, rkI_1, rkI_L, rpR_n, rpR_1, rpR_L, gvM_n, gvM_1, gvM_L, enF_n, enF_1, enF_L, usF_n, usF_1, usF_L]
      have x200 : ∀ s j, s < 8 → (j = 1 ∨ j = 2) → X.2.2 (200 + 8 * i + s) j = 0 := fun s j hs hj => by rw [hX]; simp (disch := omega) only [wOk, wT, mS, mwO, mwT, stL_2, stL_1, stM_1, stM_L, rd_s, rd_j, rd_n, stM_n, rdL_s, rdL_j, rdL_n, stL_n, s9_n, s9_1, s9_L, putF_n, putF_1, putF_L, kpM_n, kpM_1, kpM_L, dpF_n, dropF_1, dropF_L, clR_n, clR_1, clR_L, clP_n, clP_1, clP_L, frmF_n, frmF_1, frmF_L, rqF_n, rpF_1, rpF_L, rpP_n, rpP_1, rpP_L, rkI_n, rkI_1, rkI_L, rpR_n, rpR_1, rpR_L, gvM_n, gvM_1, gvM_L, enF_n, enF_1, enF_L, usF_n, usF_1, usF_L]; exact dropF_0 hs hj
      clear hX eM eD hz
      have x25_0 : ∀ q, X.2.2 25 q = 0 ↔ S.2.2 25 q = 0 := fun q => by
        by_cases e : q < 100 * i ∨ 100 * i + 100 ≤ q
        · rw [x25o q e]
        · rw [show q = 100 * i + (q - 100 * i) from by omega, x25i _ (by omega)]
          by_cases f : S.2.2 25 (100 * i + (q - 100 * i)) = 2
          · rw [if_pos f, f]; decide
          · rw [if_neg f]
      have x25_1 : ∀ q, X.2.2 25 q = 1 ↔ S.2.2 25 q = 1 := fun q => by
        by_cases e : q < 100 * i ∨ 100 * i + 100 ≤ q
        · rw [x25o q e]
        · rw [show q = 100 * i + (q - 100 * i) from by omega, x25i _ (by omega)]
          by_cases f : S.2.2 25 (100 * i + (q - 100 * i)) = 2
          · rw [if_pos f, f]; decide
          · rw [if_neg f]
      refine ⟨rfl, x130, x12, g, j0, j1, j2, o7, ⟨fun j hj => ?_, ?_⟩, RP_c (fun j hj => by rw [xo 1 (by omega)]) (xo 2 (by omega)) (xo 14 (by omega)) (x5 5 (by omega)) (x5 6 (by omega)) h.pl, RB_c (S := S) (Nat.le_succ c) hc (x5 9 (by omega)) (fun t ht => xo t (by omega)) x1 (fun t h1 h2 => xL t h1) h.bk, ⟨fun j p hj hp => ?_, fun s a hs ha => ?_⟩, fun k hk => ?_, fun j p hj hp => ?_, fun j s hj hs => ?_, fun j s q s' q' hj g1 g2 => ?_, fun k hk g1 g2 => ?_⟩
      · by_cases e : j = i
        · subst e
          exact Or.inr (Or.inr ⟨by rw [xo 9 (by omega)]; exact h91, x21, x100⟩)
        · rw [xo 9 (by omega), x21o j e, xo (100 + j) (by omega)]
          exact h.st.1 j hj
      · rw [xo 0 (by omega), h.st.2]
        refine congrArg nI (cntI_congr fun q hq => decide_eq_decide.mpr ?_)
        by_cases e : q = i
        · subst e
          rw [x21, h211]; decide
        · rw [x21o q e]
      · have old := h.pe.1 j p hj hp
        unfold gPe at old ⊢
        rw [xo 9 (by omega), xo 26 (by omega), xo 27 (by omega), xo 29 (by omega), xo (110 + j) (by omega), xo (120 + j) (by omega), xo (130 + j) (by omega), xo (140 + j) (by omega)]
        by_cases e : j = i
        · subst e
          obtain ⟨o1, o2, o3⟩ := old
          obtain ⟨a1, a2, a3⟩ := o2 ho
          rw [x21, x25i p hp]
          refine ⟨fun q => absurd q ho, fun _ => ⟨a1, ?_, fun q => a3 (fun z => q (by rw [z, if_neg (by decide)]))⟩, o3⟩
          rcases a2 with ⟨b1, b2⟩ | ⟨b1, b2⟩ | ⟨b1, b2, -⟩ | ⟨b1, b2, b3⟩
          · rw [b1, if_neg (by decide)]; exact Or.inl ⟨rfl, b2⟩
          · rw [b1, if_neg (by decide)]; exact Or.inr (Or.inl ⟨rfl, b2⟩)
          · rw [b1, if_pos rfl]; exact Or.inr (Or.inr (Or.inr ⟨rfl, b2, rfl⟩))
          · exact absurd (h211.symm.trans b3) (by decide)
        · rw [x21o j e, x25o _ (by omega)]
          exact old
      · rw [xo (50 + s) (by omega), h.pe.2 s a hs ha]
        unfold knM
        rw [xo 26 (by omega), xo 27 (by omega)]
        refine congrArg nI (cntI_congr fun q hq => decide_eq_decide.mpr ?_)
        rw [x25_1 q]
      · have old := h.ki.1 k hk
        unfold gKi at old ⊢
        rw [xo 22 (by omega), xo 24 (by omega), xo 7 (by omega), xo 9 (by omega), xo 5 (by omega), xo 6 (by omega), xo 23 (by omega), xo 8 (by omega), xo 28 (by omega)]
        refine old.imp id fun o => ⟨o.1, o.2.1, o.2.2.1, o.2.2.2.1, o.2.2.2.2.1, o.2.2.2.2.2.imp id (Or.imp id fun q => ⟨q.1, q.2.1, ?_⟩)⟩
        obtain ⟨p, p1, p2, p3, p4⟩ := q.2.2
        exact ⟨p, p1, p2, fun z => p3 ((x25_0 _).mp z), p4⟩
      · have old := h.ki.2.1 j p hj hp
        unfold gUs at old ⊢
        rw [xo 22 (by omega), xo 24 (by omega), xo 8 (by omega), xo 28 (by omega)]
        exact fun q => old (fun z => q ((x25_0 _).mpr z))
      · have old := h.ki.2.2.1 j s hj hs
        unfold gRe gHe at old ⊢
        rw [xo 31 (by omega), xo 9 (by omega), xo 22 (by omega), xo 23 (by omega), xo 24 (by omega), xo 32 (by omega), xo (300 + 8 * j + s) (by omega)]
        by_cases e : j = i
        · subst e
          exact ⟨old.1, old.2.1, old.2.2.1, fun q => absurd q ho, fun _ => Or.inl ⟨by rw [x30i s hs]; decide, x200 s 1 hs (Or.inl rfl), x200 s 2 hs (Or.inr rfl)⟩⟩
        · rw [xo (200 + 8 * j + s) (by omega), x21o j e, x30o (8 * j + s) (by omega)]
          exact old
      · unfold gLe at g1 g2
        by_cases e : j = i
        · subst e
          exact absurd (by rw [x30i s g1.1]; decide) g1.2.2.1
        · rw [x30o _ (by have := g1.1; omega)] at g1
          rw [x30o _ (by have := g2.1; omega)] at g2
          exact h.ki.2.2.2.1 j s q s' q' hj g1 g2
      · rw [xo 24 (by omega)] at g1
        have e : g.hm k ≠ i := fun e => absurd (x21.symm.trans (e ▸ g2)) (by decide)
        rw [x21o _ e] at g2
        obtain ⟨s, q, r1, r2⟩ := h.ki.2.2.2.2 k hk g1 g2
        refine ⟨s, q, ?_, r2⟩
        unfold gLe at r1 ⊢
        rw [x30o _ (by have := r1.1; omega)]
        exact r1
    · simp (disch := omega) only [dClose, mClose, h.j0, h.j1, h0, h1, h2, h2', ↓reduceIte, wOk, wT, mS, mwO, mwT, stL_2, stL_1, stM_1, stM_L, rd_s, rd_j, rd_n, stM_n, rdL_s, rdL_j, rdL_n, stL_n, s9_n, s9_1, s9_L, putF_n, putF_1, putF_L, kpM_n, kpM_1, kpM_L, dpF_n, dropF_1, dropF_L, clR_n, clR_1, clR_L, clP_n, clP_1, clP_L, frmF_n, frmF_1, frmF_L, rqF_n, rpF_1, rpF_L, rpP_n, rpP_1, rpP_L, rkI_n, rkI_1, rkI_L, rpR_n, rpR_1, rpR_L, gvM_n, gvM_1, gvM_L, enF_n, enF_1, enF_L, usF_n, usF_1, usF_L]
      exact Pu_tn h hc
  · simp (disch := omega) only [dClose, mClose, h.j0, h0, ↓reduceIte, wOk, wT, mS, mwO, mwT, stL_2, stL_1, stM_1, stM_L, rd_s, rd_j, rd_n, stM_n, rdL_s, rdL_j, rdL_n, stL_n, s9_n, s9_1, s9_L, putF_n, putF_1, putF_L, kpM_n, kpM_1, kpM_L, dpF_n, dropF_1, dropF_L, clR_n, clR_1, clR_L, clP_n, clP_1, clP_L, frmF_n, frmF_1, frmF_L, rqF_n, rpF_1, rpF_L, rpP_n, rpP_1, rpP_L, rkI_n, rkI_1, rkI_L, rpR_n, rpR_1, rpR_L, gvM_n, gvM_1, gvM_L, enF_n, enF_1, enF_L, usF_n, usF_1, usF_L]
    exact Pu_rd h hc
-- ===== report =====
theorem rp_kn {E : zSt} {f25 f26 f27 : Nat → Int32} {i s a : Nat} {sg ar : Nat → Nat} (hi : i < 10) (hs : s < 8) (hst : ∀ p, p < 100 → (E.2.2 (110 + i) p = 1 ↔ f25 (100 * i + p) = 2)) (hok : ∀ p, p < 100 → f25 (100 * i + p) = 2 → f26 (100 * i + p) = nI (sg p) ∧ sg p < 8 ∧ f27 (100 * i + p) = nI (ar p) ∧ ar p < 4) (ha : a < 4) (h0 : E.2.2 (50 + s) a = nI (cntI (fun q => decide (f25 q = 1 ∧ f26 q = nI s ∧ f27 q = nI a)) 1000)) (n : Nat) (hn : n ≤ 100) : (rpF i sg ar E n).2.2 (50 + s) a = nI (cntI (fun q => decide ((if 100 * i ≤ q ∧ q < 100 * i + n ∧ f25 q = 2 then 1 else f25 q) = 1 ∧ f26 q = nI s ∧ f27 q = nI a)) 1000) := by
  induction n with
  | zero =>
    refine h0.trans (congrArg nI (cntI_congr fun q hq => decide_eq_decide.mpr ?_))
    rw [if_neg (by omega)]
  | succ n ih =>
    have ih := ih (by omega)
    rw [rpF]
    by_cases e : E.2.2 (110 + i) n = 1
    · rw [if_pos e]
      have e2 := (hst n (by omega)).mp e
      obtain ⟨k1, k2, k3, k4⟩ := hok n (by omega) e2
      have oth : ∀ q, q < 1000 → q ≠ 100 * i + n → decide ((if 100 * i ≤ q ∧ q < 100 * i + (n + 1) ∧ f25 q = 2 then (1 : Int32) else f25 q) = 1 ∧ f26 q = nI s ∧ f27 q = nI a) = decide ((if 100 * i ≤ q ∧ q < 100 * i + n ∧ f25 q = 2 then 1 else f25 q) = 1 ∧ f26 q = nI s ∧ f27 q = nI a) := by
        intro q hq hne
        by_cases b : 100 * i ≤ q ∧ q < 100 * i + n ∧ f25 q = 2
        · rw [if_pos b, if_pos ⟨b.1, by omega, b.2.2⟩]
        · rw [if_neg b, if_neg (fun z => b ⟨z.1, by omega, z.2.2⟩)]
      have oldF : decide ((if 100 * i ≤ (100 * i + n) ∧ (100 * i + n) < 100 * i + n ∧ f25 (100 * i + n) = 2 then (1 : Int32) else f25 (100 * i + n)) = 1 ∧ f26 (100 * i + n) = nI s ∧ f27 (100 * i + n) = nI a) = false := by
        rw [if_neg (by omega), e2]
        exact decide_eq_false (fun z => absurd z.1 (by decide))
      by_cases m : sg n = s ∧ ar n = a
      · obtain ⟨rfl, rfl⟩ := m
        rw [rd_s, rd_n (by omega), ih, nI_1]
        refine congrArg nI (cntI_upd (a := 100 * i + n) (by omega) oth ?_ oldF).symm
        rw [if_pos ⟨by omega, by omega, e2⟩, k1, k3]
        exact decide_eq_true ⟨rfl, rfl, rfl⟩
      · have : (stM (stM (rpF i sg ar E n) (110 + i) n 2) (50 + sg n) (ar n) ((stM (rpF i sg ar E n) (110 + i) n 2).2.2 (50 + sg n) (ar n) + 1)).2.2 (50 + s) a = (rpF i sg ar E n).2.2 (50 + s) a := by
          by_cases m1 : sg n = s
          · subst m1
            rw [rd_j (fun z => m ⟨rfl, z.symm⟩), rd_n (by omega)]
          · rw [rd_n (by omega), rd_n (by omega)]
        rw [this, ih]
        refine congrArg nI (cntI_congr fun q hq => ?_)
        by_cases hne : q = 100 * i + n
        · subst hne
          rw [oldF, if_pos ⟨by omega, by omega, e2⟩, k1, k3]
          refine (decide_eq_false fun z => m ⟨nI_ij (by omega) (by omega) z.2.1, nI_ij (by omega) (by omega) z.2.2⟩).symm
        · exact (oth q hq hne).symm
    · rw [if_neg e, ih]
      have e2 : ¬ f25 (100 * i + n) = 2 := fun z => e ((hst n (by omega)).mpr z)
      refine congrArg nI (cntI_congr fun q hq => decide_eq_decide.mpr ?_)
      by_cases b : 100 * i ≤ q ∧ q < 100 * i + n ∧ f25 q = 2
      · rw [if_pos b, if_pos ⟨b.1, by omega, b.2.2⟩]
      · rw [if_neg b, if_neg (fun z => b ⟨z.1, by have : q ≠ 100 * i + n := (fun z2 => e2 (z2 ▸ z.2.2)); omega, z.2.2⟩)]
theorem per_rp {g : Gh} {c : Nat} {S : zSt} (h : Rel g c S) (hc : c < 512) {i p : Nat} (hi : i < 10) (ho : S.2.2 9 i ≠ 0) (h2 : ¬ S.2.2 21 i = 2) (hp : p < 100) : S.2.2 (110 + i) p = 1 ↔ S.2.2 25 (100 * i + p) = 2 := by
  obtain ⟨-, e2, -⟩ := h.pe.1 i p hi hp
  rcases (e2 ho).2.1 with ⟨b1, b2⟩ | ⟨b1, b2⟩ | ⟨b1, b2, -⟩ | ⟨b1, b2, b3⟩
  · rw [b1, b2]; decide
  · rw [b1, b2]; decide
  · rw [b1, b2]; decide
  · exact absurd b3 h2
theorem rp_ok {g : Gh} {c : Nat} {S : zSt} (h : Rel g c S) (hc : c < 512) {i : Nat} (hi : i < 10) (ho : S.2.2 9 i ≠ 0) : rpOk S i (fun p => g.sg (100 * i + p)) (fun p => g.ar (100 * i + p)) := by
  intro p hp h1
  obtain ⟨-, e2, -⟩ := h.pe.1 i p hi hp
  obtain ⟨-, a2, a3⟩ := e2 ho
  have : S.2.2 25 (100 * i + p) ≠ 0 := by
    rcases a2 with ⟨b1, b2⟩ | ⟨b1, b2⟩ | ⟨b1, b2, -⟩ | ⟨b1, b2, b3⟩
    · exact absurd (h1.symm.trans b2) (by decide)
    · rw [b1]; decide
    · rw [b1]; decide
    · rw [b1]; decide
  have := a3 this
  exact ⟨this.2.2.1, this.2.1, this.2.2.2.2.2, this.2.2.2.2.1⟩
theorem re_nx {g : Gh} {c : Nat} {S : zSt} (h : Rel g c S) (hc : c < 512) : ∀ r, r < 80 → S.2.2 31 r = nI (g.nx r) ∧ g.nx r ≤ g.Z := by
  intro r hr
  have := h.ki.2.2.1 (r / 8) (r % 8) (by omega) (by omega)
  unfold gRe at this
  rw [show 8 * (r / 8) + r % 8 = r from by omega] at this
  exact ⟨this.1, this.2.1⟩
theorem re_gk {g : Gh} {c : Nat} {S : zSt} (h : Rel g c S) (hc : c < 512) : ∀ r, r < 80 → ¬ S.2.2 30 r < 0 → ∀ q, q < g.Z → S.2.2 32 (24 * r + q) = nI (g.gk (24 * r + q)) ∧ g.gk (24 * r + q) < 1000 := by
  intro r hr h30 q hq
  have := h.ki.2.2.1 (r / 8) (r % 8) (by omega) (by omega)
  unfold gRe gHe at this
  rw [show 8 * (r / 8) + r % 8 = r from by omega] at this
  obtain ⟨-, -, -, o4, o5⟩ := this
  rcases o5 (fun z => h30 (o4 z)) with o | ⟨b, u1, u2, u3, u4, u5, u6⟩
  · exact absurd o.1 h30
  · exact ⟨(u6 q hq).1, (u6 q hq).2.1⟩
theorem pu_report {g : Gh} {c : Nat} {S : zSt} (h : Rel g c S) (hc : c < 512) {i : Nat} (hi : i < 10) (ho : S.2.2 9 i ≠ 0) : Pu c (dReport S i (fun p => g.sg (100 * i + p)) (fun p => g.ar (100 * i + p))).1 (mReport (stL (dReport S i (fun p => g.sg (100 * i + p)) (fun p => g.ar (100 * i + p))).2 12 0 (dReport S i (fun p => g.sg (100 * i + p)) (fun p => g.ar (100 * i + p))).1.toInt64) i g.Z g.nx g.gk) := by
  by_cases h0 : S.2.2 13 1 = 0
  · have hcl := cl_iff h hc hi ho
    by_cases h2 : S.2.2 21 i = 2
    · have h2' : ¬ S.2.2 (100 + i) 5 = 0 := fun q => hcl.mp q h2
      simp (disch := omega) only [dReport, mReport, h.j0, h0, h2, h2', ↓reduceIte, wOk, wT, mS, mwO, mwT, stL_2, stL_1, stM_1, stM_L, rd_s, rd_j, rd_n, stM_n, rdL_s, rdL_j, rdL_n, stL_n, s9_n, s9_1, s9_L, putF_n, putF_1, putF_L, kpM_n, kpM_1, kpM_L, dpF_n, dropF_1, dropF_L, clR_n, clR_1, clR_L, clP_n, clP_1, clP_L, frmF_n, frmF_1, frmF_L, rqF_n, rpF_1, rpF_L, rpP_n, rpP_1, rpP_L, rkI_n, rkI_1, rkI_L, rpR_n, rpR_1, rpR_L, gvM_n, gvM_1, gvM_L, enF_n, enF_1, enF_L, usF_n, usF_1, usF_L]
      exact Pu_rd h hc
    have h2' := hcl.mpr h2
    obtain ⟨h91, h211⟩ := st_1 h hc hi ho h2
    by_cases h1 : S.2.2 13 2 = 0
    · have hok := rp_ok h hc hi ho
      have hst := fun p (hp : p < 100) => per_rp h hc hi ho h2 hp
      generalize hsg : (fun p => g.sg (100 * i + p)) = sg at *
      generalize har : (fun p => g.ar (100 * i + p)) = ar at *
      have hs8 : ∀ k, k < 100 → (wOk S).2.2 (110 + i) k = 1 → sg k < 8 := fun k hk q => (hok k hk (by revert q; simp (disch := omega) only [wOk, wT, mS, mwO, mwT, stL_2, stL_1, stM_1, stM_L, rd_s, rd_j, rd_n, stM_n, rdL_s, rdL_j, rdL_n, stL_n, s9_n, s9_1, s9_L, putF_n, putF_1, putF_L, kpM_n, kpM_1, kpM_L, dpF_n, dropF_1, dropF_L, clR_n, clR_1, clR_L, clP_n, clP_1, clP_L, frmF_n, frmF_1, frmF_L, rqF_n, rpF_1, rpF_L, rpP_n, rpP_1, rpP_L, rkI_n, rkI_1, rkI_L, rpR_n, rpR_1, rpR_L, gvM_n, gvM_1, gvM_L, enF_n, enF_1, enF_L, usF_n, usF_1, usF_L]; exact id)).2.1
      obtain ⟨z, hz⟩ : ∃ z, z = nI (cntI (fun q => decide ((wOk S).2.2 (110 + i) q = 1)) 100) := ⟨_, rfl⟩
      obtain ⟨Y0, hY0⟩ : ∃ Y0, Y0 = frmF (dropF (rpF i sg ar (wOk S) 100) i 8) (nI i) 1000 := ⟨_, rfl⟩
      have eD : dReport S i sg ar = (z, Y0) := by
        unfold dReport
        rw [if_pos (h.j0.trans h0), if_pos h2', if_pos (h.j1.trans h1), hz, hY0]
      rw [eD]
      show Pu c z (mReport (stL Y0 12 0 z.toInt64) i g.Z g.nx g.gk)
      obtain ⟨X, hX⟩ : ∃ X, X = rpR (rpP (mwO (stL Y0 12 0 z.toInt64)) i 100) i g.Z g.nx g.gk 8 := ⟨_, rfl⟩
      have qt : ∀ t, (t = 21 ∨ t = 13 ∨ t = 25) → (stL Y0 12 0 z.toInt64).2.2 t = S.2.2 t := fun t ht => by
        rw [stL_2, hY0, frmF_n (by omega), dpF_n (by omega), rqF_n (by omega) (by omega) hs8]
        simp (disch := omega) only [wOk, wT, mS, mwO, mwT, stL_2, stL_1, stM_1, stM_L, rd_s, rd_j, rd_n, stM_n, rdL_s, rdL_j, rdL_n, stL_n, s9_n, s9_1, s9_L, putF_n, putF_1, putF_L, kpM_n, kpM_1, kpM_L, dpF_n, dropF_1, dropF_L, clR_n, clR_1, clR_L, clP_n, clP_1, clP_L, frmF_n, frmF_1, frmF_L, rqF_n, rpF_1, rpF_L, rpP_n, rpP_1, rpP_L, rkI_n, rkI_1, rkI_L, rpR_n, rpR_1, rpR_L, gvM_n, gvM_1, gvM_L, enF_n, enF_1, enF_L, usF_n, usF_1, usF_L]
      have eM : mReport (stL Y0 12 0 z.toInt64) i g.Z g.nx g.gk = (z, X) := by
        unfold mReport
        rw [qt 21 (by omega), qt 13 (by omega), qt 25 (by omega), if_pos h0, if_neg h2, if_pos h1, ← hX]
        have ez : nI (cntI (fun q => decide (S.2.2 25 (100 * i + q) = 2)) 100) = z := by
          rw [hz]
          refine congrArg nI (cntI_congr fun q hq => decide_eq_decide.mpr ?_)
          rw [rd_n (by omega), hst q hq]
        rw [ez]
      rw [eM]
      clear eM eD
      have yb : ∀ t, t ≠ 7 → ¬ (200 + 8 * i ≤ t ∧ t < 200 + 8 * i + 8) → Y0.2.2 t = (rpF i sg ar (wOk S) 100).2.2 t := fun t h1 h2 => by rw [hY0, frmF_n h1, dpF_n h2]
      have yo : ∀ t, (t ≠ 3 ∧ t ≠ 7 ∧ t ≠ 110 + i ∧ (t < 50 ∨ 58 ≤ t) ∧ ¬ (200 + 8 * i ≤ t ∧ t < 208 + 8 * i)) → Y0.2.2 t = S.2.2 t := fun t ht => by rw [yb t (by omega) (by omega), rqF_n (by omega) (by omega) hs8, stM_n (by omega)]
      have y3 : Y0.2.2 3 0 = S.2.2 3 0 ∧ Y0.2.2 3 1 = S.2.2 3 1 ∧ Y0.2.2 3 2 = S.2.2 3 2 + 1 := by
        rw [yb 3 (by omega) (by omega), rqF_n (by omega) (by omega) hs8]
        exact ⟨rd_j (by decide), rd_j (by decide), rd_s⟩
      have y7 : ∀ q, q < 1000 → Y0.2.2 7 q = if S.2.2 7 q = 2 ∧ S.2.2 5 q = nI i then 1 else S.2.2 7 q := fun q hq => by
        rw [hY0, frmF_7, dpF_n (by omega), dpF_n (by omega), rqF_n (by omega) (by omega) hs8, rqF_n (by omega) (by omega) hs8, rd_n (by decide), rd_n (by decide)]
        by_cases b : S.2.2 7 q = 2 ∧ S.2.2 5 q = nI i
        · rw [if_pos b, if_pos ⟨hq, b⟩]
        · rw [if_neg b, if_neg (fun z => b z.2)]
      have y110 : ∀ p, p < 100 → Y0.2.2 (110 + i) p = if S.2.2 (110 + i) p = 1 then 2 else S.2.2 (110 + i) p := fun p hp => by
        rw [yb _ (by omega) (by omega), rpF_110 hs8, rd_n (by omega)]
        by_cases b : S.2.2 (110 + i) p = 1
        · rw [if_pos b, if_pos ⟨hp, b⟩]
        · rw [if_neg b, if_neg (fun z => b z.2)]
      have y200 : ∀ s j, s < 8 → (j = 1 ∨ j = 2) → Y0.2.2 (200 + 8 * i + s) j = 0 := fun s j hs hj => by rw [hY0, frmF_n (by omega)]; exact dropF_0 hs hj
      have y1 : Y0.1 = S.1 := by rw [hY0, frmF_1, dropF_1, rpF_1, stM_1]
      have yL : Y0.2.1 = S.2.1 := by rw [hY0, frmF_L, dropF_L, rpF_L, stM_L]
      clear qt hY0
      have xY : ∀ t, (t ≠ 13 ∧ t ≠ 24 ∧ t ≠ 25 ∧ t ≠ 30) → X.2.2 t = Y0.2.2 t := fun t ht => by rw [hX, rpR_n (by omega) (by omega), rpP_n (by omega)]; simp (disch := omega) only [wOk, wT, mS, mwO, mwT, stL_2, stL_1, stM_1, stM_L, rd_s, rd_j, rd_n, stM_n, rdL_s, rdL_j, rdL_n, stL_n, s9_n, s9_1, s9_L, putF_n, putF_1, putF_L, kpM_n, kpM_1, kpM_L, dpF_n, dropF_1, dropF_L, clR_n, clR_1, clR_L, clP_n, clP_1, clP_L, frmF_n, frmF_1, frmF_L, rqF_n, rpF_1, rpF_L, rpP_n, rpP_1, rpP_L, rkI_n, rkI_1, rkI_L, rpR_n, rpR_1, rpR_L, gvM_n, gvM_1, gvM_L, enF_n, enF_1, enF_L, usF_n, usF_1, usF_L]
      have xo : ∀ t, (t ≠ 3 ∧ t ≠ 13 ∧ t ≠ 7 ∧ t ≠ 24 ∧ t ≠ 25 ∧ t ≠ 30 ∧ t ≠ 110 + i ∧ (t < 50 ∨ 58 ≤ t) ∧ ¬ (200 + 8 * i ≤ t ∧ t < 208 + 8 * i)) → X.2.2 t = S.2.2 t := fun t ht => by rw [xY t (by omega), yo t (by omega)]
      have x1 : X.1 = S.1 := by rw [hX, rpR_1, rpP_1]; exact y1
      have xLL : X.2.1 = (stL Y0 12 0 z.toInt64).2.1 := by rw [hX, rpR_L, rpP_L]; rfl
      have xL : ∀ t, t ≠ 12 → X.2.1 t = S.2.1 t := fun t ht => by rw [xLL, stL_n ht, yL]
      have x12 : X.2.1 12 0 = z.toInt64 := by rw [xLL, rdL_s]
      have x13 : ∀ j, X.2.2 13 j = (mwO (stL Y0 12 0 z.toInt64)).2.2 13 j := fun j => by rw [hX, rpR_n (by decide) (by decide), rpP_n (by decide)]
      have x130 : X.2.2 13 0 = 0 := by rw [x13]; simp (disch := omega) only [wOk, wT, mS, mwO, mwT, stL_2, stL_1, stM_1, stM_L, rd_s, rd_j, rd_n, stM_n, rdL_s, rdL_j, rdL_n, stL_n, s9_n, s9_1, s9_L, putF_n, putF_1, putF_L, kpM_n, kpM_1, kpM_L, dpF_n, dropF_1, dropF_L, clR_n, clR_1, clR_L, clP_n, clP_1, clP_L, frmF_n, frmF_1, frmF_L, rqF_n, rpF_1, rpF_L, rpP_n, rpP_1, rpP_L, rkI_n, rkI_1, rkI_L, rpR_n, rpR_1, rpR_L, gvM_n, gvM_1, gvM_L, enF_n, enF_1, enF_L, usF_n, usF_1, usF_L]
      have x13o : ∀ j, j ≠ 0 → j ≠ 3 → X.2.2 13 j = S.2.2 13 j := fun j h0 h3 => by rw [x13]; simp (disch := omega) only [wOk, wT, mS, mwO, mwT, stL_2, stL_1, stM_1, stM_L, rd_s, rd_j, rd_n, stM_n, rdL_s, rdL_j, rdL_n, stL_n, s9_n, s9_1, s9_L, putF_n, putF_1, putF_L, kpM_n, kpM_1, kpM_L, dpF_n, dropF_1, dropF_L, clR_n, clR_1, clR_L, clP_n, clP_1, clP_L, frmF_n, frmF_1, frmF_L, rqF_n, rpF_1, rpF_L, rpP_n, rpP_1, rpP_L, rkI_n, rkI_1, rkI_L, rpR_n, rpR_1, rpR_L, gvM_n, gvM_1, gvM_L, enF_n, enF_1, enF_L, usF_n, usF_1, usF_L]; rw [yo 13 (by omega)]
      have x133 : X.2.2 13 3 = S.2.2 13 3 + 1 := by rw [x13]; simp (disch := omega) only [wOk, wT, mS, mwO, mwT, stL_2, stL_1, stM_1, stM_L, rd_s, rd_j, rd_n, stM_n, rdL_s, rdL_j, rdL_n, stL_n, s9_n, s9_1, s9_L, putF_n, putF_1, putF_L, kpM_n, kpM_1, kpM_L, dpF_n, dropF_1, dropF_L, clR_n, clR_1, clR_L, clP_n, clP_1, clP_L, frmF_n, frmF_1, frmF_L, rqF_n, rpF_1, rpF_L, rpP_n, rpP_1, rpP_L, rkI_n, rkI_1, rkI_L, rpR_n, rpR_1, rpR_L, gvM_n, gvM_1, gvM_L, enF_n, enF_1, enF_L, usF_n, usF_1, usF_L]; rw [yo 13 (by omega)]
      have j0 : X.2.2 3 0 = X.2.2 13 1 := by rw [xY 3 (by omega), y3.1, x13o 1 (by omega) (by omega)]; exact h.j0
      have j1 : jT X := ⟨by rw [xY 3 (by omega), y3.2.1, x13o 2 (by omega) (by omega)]; exact h.j1, by rw [x13o 2 (by omega) (by omega)]; exact h.jb⟩
      have j2 : X.2.2 3 2 = X.2.2 13 3 := by rw [xY 3 (by omega), y3.2.2, x133, h.j2]
      have o7 : X.2.2 0 7 = X.2.2 13 4 := by rw [xo 0 (by omega), x13o 4 (by omega) (by omega)]; exact h.o7
      have x5 : ∀ j, 5 ≤ j → X.2.2 13 j = S.2.2 13 j := fun j hj => x13o j (by omega) (by omega)
      have x7 : ∀ q, q < 1000 → X.2.2 7 q = if S.2.2 7 q = 2 ∧ S.2.2 5 q = nI i then 1 else S.2.2 7 q := fun q hq => by rw [xY 7 (by omega)]; exact y7 q hq
      have q25 : (mwO (stL Y0 12 0 z.toInt64)).2.2 25 = S.2.2 25 := by simp (disch := omega) only [wOk, wT, mS, mwO, mwT, stL_2, stL_1, stM_1, stM_L, rd_s, rd_j, rd_n, stM_n, rdL_s, rdL_j, rdL_n, stL_n, s9_n, s9_1, s9_L, putF_n, putF_1, putF_L, kpM_n, kpM_1, kpM_L, dpF_n, dropF_1, dropF_L, clR_n, clR_1, clR_L, clP_n, clP_1, clP_L, frmF_n, frmF_1, frmF_L, rqF_n, rpF_1, rpF_L, rpP_n, rpP_1, rpP_L, rkI_n, rkI_1, rkI_L, rpR_n, rpR_1, rpR_L, gvM_n, gvM_1, gvM_L, enF_n, enF_1, enF_L, usF_n, usF_1, usF_L]; exact yo 25 (by omega)
      have x25 : ∀ q, X.2.2 25 q = if 100 * i ≤ q ∧ q < 100 * i + 100 ∧ S.2.2 25 q = 2 then 1 else S.2.2 25 q := fun q => by
        rw [hX, rpR_n (by decide) (by decide), rpP_25, q25]
      have q30 : (rpP (mwO (stL Y0 12 0 z.toInt64)) i 100).2.2 30 = S.2.2 30 := by rw [rpP_n (by decide)]; simp (disch := omega) only [wOk, wT, mS, mwO, mwT, stL_2, stL_1, stM_1, stM_L, rd_s, rd_j, rd_n, stM_n, rdL_s, rdL_j, rdL_n, stL_n, s9_n, s9_1, s9_L, putF_n, putF_1, putF_L, kpM_n, kpM_1, kpM_L, dpF_n, dropF_1, dropF_L, clR_n, clR_1, clR_L, clP_n, clP_1, clP_L, frmF_n, frmF_1, frmF_L, rqF_n, rpF_1, rpF_L, rpP_n, rpP_1, rpP_L, rkI_n, rkI_1, rkI_L, rpR_n, rpR_1, rpR_L, gvM_n, gvM_1, gvM_L, enF_n, enF_1, enF_L, usF_n, usF_1, usF_L]; exact yo 30 (by omega)
      have q24 : (rpP (mwO (stL Y0 12 0 z.toInt64)) i 100).2.2 24 = S.2.2 24 := by rw [rpP_n (by decide)]; simp (disch := omega) only [wOk, wT, mS, mwO, mwT, stL_2, stL_1, stM_1, stM_L, rd_s, rd_j, rd_n, stM_n, rdL_s, rdL_j, rdL_n, stL_n, s9_n, s9_1, s9_L, putF_n, putF_1, putF_L, kpM_n, kpM_1, kpM_L, dpF_n, dropF_1, dropF_L, clR_n, clR_1, clR_L, clP_n, clP_1, clP_L, frmF_n, frmF_1, frmF_L, rqF_n, rpF_1, rpF_L, rpP_n, rpP_1, rpP_L, rkI_n, rkI_1, rkI_L, rpR_n, rpR_1, rpR_L, gvM_n, gvM_1, gvM_L, enF_n, enF_1, enF_L, usF_n, usF_1, usF_L]; exact yo 24 (by omega)
      have x24y : ∀ y, (∃ s q, gLe g i s q S ∧ g.gk (24 * (8 * i + s) + q) = y) → X.2.2 24 y = 0 := fun y hy => by
        obtain ⟨s, q, ⟨g1, g2, g3, g4⟩, e⟩ := hy
        rw [hX]
        exact rpR_24y ⟨s, q, g1, by rw [q30]; exact g3, g4, g2, e⟩
      have x24n : ∀ y, (¬ ∃ s q, gLe g i s q S ∧ g.gk (24 * (8 * i + s) + q) = y) → X.2.2 24 y = S.2.2 24 y := fun y hy => by
        rw [hX, rpR_24n, q24]
        intro s q g1 g3 g4 g2 e
        rw [q30] at g3
        exact hy ⟨s, q, ⟨g1, g2, g3, g4⟩, e⟩
      have x30i : ∀ s, s < 8 → X.2.2 30 (8 * i + s) = -1 := fun s hs => by rw [hX]; exact rpR_30i hs
      have x30o : ∀ q, (q < 8 * i ∨ 8 * i + 8 ≤ q) → X.2.2 30 q = S.2.2 30 q := fun q hq => by rw [hX, rpR_30o hq, q30]
      have x110 : ∀ p, p < 100 → X.2.2 (110 + i) p = if S.2.2 (110 + i) p = 1 then 2 else S.2.2 (110 + i) p := fun p hp => by rw [xY _ (by omega)]; exact y110 p hp
      have x50 : ∀ s a, s < 8 → a < 4 → X.2.2 (50 + s) a = knM X s a := fun s a hs ha => by
        have r := rp_kn (E := wOk S) (f25 := S.2.2 25) (f26 := S.2.2 26) (f27 := S.2.2 27) (sg := sg) (ar := ar) hi hs (fun p hp => by rw [rd_n (by omega)]; exact hst p hp) (fun p hp q => by
          have k := hok p hp ((hst p hp).mpr q)
          have e := (h.pe.1 i p hi hp).2.1 ho
          have e3 := e.2.2 (by rw [q]; decide)
          rw [e3.1, ← e3.2.2.1, e3.2.2.2.1, ← e3.2.2.2.2.2]
          exact k) ha (by rw [rd_n (by omega), h.pe.2 s a hs ha]; rfl) 100 (Nat.le_refl _)
        rw [xY (50 + s) (by omega), yb (50 + s) (by omega) (by omega), r]
        unfold knM
        rw [xo 26 (by omega), xo 27 (by omega)]
        refine congrArg nI (cntI_congr fun q hq => ?_)
        rw [x25 q]
      have x200 : ∀ s j, s < 8 → (j = 1 ∨ j = 2) → X.2.2 (200 + 8 * i + s) j = 0 := fun s j hs hj => by rw [xY _ (by omega)]; exact y200 s j hs hj
      clear hX hz
      have x25_0 : ∀ q, X.2.2 25 q = 0 ↔ S.2.2 25 q = 0 := fun q => by
        rw [x25 q]
        by_cases b : 100 * i ≤ q ∧ q < 100 * i + 100 ∧ S.2.2 25 q = 2
        · rw [if_pos b, b.2.2]; decide
        · rw [if_neg b]
      -- a marked kit of the site is freed by both, any other by none
      have hfree : ∀ k, k < 1000 → (∃ s q, gLe g i s q S ∧ g.gk (24 * (8 * i + s) + q) = k) → S.2.2 22 k = nI i ∧ S.2.2 24 k = 1 := by
        rintro k hk ⟨s, q, ⟨g1, g2, g3, g4⟩, rfl⟩
        obtain ⟨-, -, -, -, o5⟩ := h.ki.2.2.1 i s hi g1
        rcases o5 ho with o | ⟨b, u1, u2, u3, u4, u5, u6⟩
        · exact absurd o.1 g3
        · exact ⟨(u6 q g2).2.2.2.2.1, (u6 q g2).2.2.2.2.2 g4⟩
      refine ⟨rfl, x130, x12, g, j0, j1, j2, o7, RS_c (xo 9 (by omega)) (xo 21 (by omega)) (fun j hj => by rw [xo (100 + j) (by omega)]) (by rw [xo 0 (by omega)]) h.st, RP_c (fun j hj => by rw [xo 1 (by omega)]) (xo 2 (by omega)) (xo 14 (by omega)) (x5 5 (by omega)) (x5 6 (by omega)) h.pl, RB_c (S := S) (Nat.le_succ c) hc (x5 9 (by omega)) (fun t ht => xo t (by omega)) x1 (fun t h1 h2 => xL t h1) h.bk, ⟨fun j p hj hp => ?_, x50⟩, fun k hk => ?_, fun j p hj hp => ?_, fun j s hj hs => ?_, fun j s q s' q' hj g1 g2 => ?_, fun k hk g1 g2 => ?_⟩
      · have old := h.pe.1 j p hj hp
        unfold gPe at old ⊢
        rw [xo 9 (by omega), xo 21 (by omega), xo 26 (by omega), xo 27 (by omega), xo 29 (by omega), xo (120 + j) (by omega), xo (130 + j) (by omega), xo (140 + j) (by omega), x25]
        by_cases e : j = i
        · subst e
          obtain ⟨o1, o2, o3⟩ := old
          obtain ⟨a1, a2, a3⟩ := o2 ho
          rw [x110 p hp]
          refine ⟨fun q => absurd q ho, fun _ => ⟨a1, ?_, fun q => a3 (fun z => q (by rw [z, if_neg (fun w => absurd w.2.2 (by decide))]))⟩, o3⟩
          rcases a2 with ⟨b1, b2⟩ | ⟨b1, b2⟩ | ⟨b1, b2, -⟩ | ⟨b1, b2, b3⟩
          · rw [b1, b2, if_neg (fun w => absurd w.2.2 (by decide)), if_neg (by decide)]; exact Or.inl ⟨rfl, rfl⟩
          · rw [b1, b2, if_neg (fun w => absurd w.2.2 (by decide)), if_neg (by decide)]; exact Or.inr (Or.inl ⟨rfl, rfl⟩)
          · rw [b1, b2, if_pos ⟨by omega, by omega, rfl⟩, if_pos rfl]; exact Or.inr (Or.inl ⟨rfl, rfl⟩)
          · exact absurd (h211.symm.trans b3) (by decide)
        · rw [xo (110 + j) (by omega), if_neg (by omega)]
          exact old
      · have old := h.ki.1 k hk
        unfold gKi at old ⊢
        rw [xo 22 (by omega), xo 9 (by omega), xo 5 (by omega), xo 6 (by omega), xo 23 (by omega), xo 8 (by omega), xo 28 (by omega), x7 k hk]
        rcases old with ⟨o1, o2, o3⟩ | ⟨o1, o2, o3, o4, o5, o6⟩
        · refine Or.inl ⟨o1, ?_, by rw [o3, if_neg (fun w => absurd w.1 (by decide))]⟩
          rw [x24n k (fun w => absurd ((hfree k hk w).2.symm.trans o2) (by decide)), o2]
        · refine Or.inr ⟨o1, o2, o3, o4, o5, ?_⟩
          rcases o6 with ⟨a, b⟩ | ⟨a, b⟩ | ⟨a, b, p, p1, p2, p3, p4⟩
          · refine Or.inl ⟨?_, by rw [b, if_neg (fun w => absurd w.1 (by decide))]⟩
            rw [x24n k (fun w => absurd ((hfree k hk w).2.symm.trans a) (by decide)), a]
          · by_cases e : g.hm k = i
            · refine Or.inl ⟨x24y k ?_, by rw [if_pos ⟨b, by rw [o4, e]⟩]⟩
              have := h.ki.2.2.2.2 k hk a (by rw [e]; exact h211)
              rw [e] at this
              exact this
            · refine Or.inr (Or.inl ⟨?_, ?_⟩)
              · rw [x24n k (fun w => e (nI_ij (by omega) (by omega) (o1.symm.trans (hfree k hk w).1))), a]
              · rw [if_neg (fun w => e (nI_ij (by omega) (by omega) (o4.symm.trans w.2))), b]
          · refine Or.inr (Or.inr ⟨?_, by rw [b, if_neg (fun w => absurd w.1 (by decide))], p, p1, p2, fun z => p3 ((x25_0 _).mp z), p4⟩)
            rw [x24n k (fun w => absurd ((hfree k hk w).2.symm.trans a) (by decide)), a]
      · have old := h.ki.2.1 j p hj hp
        unfold gUs at old ⊢
        rw [xo 22 (by omega), xo 8 (by omega), xo 28 (by omega)]
        intro q
        obtain ⟨u1, u2, u3, u4, u5⟩ := old (fun z => q ((x25_0 _).mpr z))
        exact ⟨u1, u2, u3, by rw [x24n _ (fun w => absurd ((hfree _ u2 w).2.symm.trans u4) (by decide)), u4], u5⟩
      · have old := h.ki.2.2.1 j s hj hs
        unfold gRe gHe at old ⊢
        rw [xo 31 (by omega), xo 9 (by omega), xo 21 (by omega), xo 22 (by omega), xo 23 (by omega), xo 32 (by omega), xo (300 + 8 * j + s) (by omega)]
        by_cases e : j = i
        · subst e
          exact ⟨old.1, old.2.1, old.2.2.1, fun q => absurd q ho, fun _ => Or.inl ⟨by rw [x30i s hs]; decide, x200 s 1 hs (Or.inl rfl), x200 s 2 hs (Or.inr rfl)⟩⟩
        · rw [xo (200 + 8 * j + s) (by omega), x30o (8 * j + s) (by omega)]
          refine ⟨old.1, old.2.1, old.2.2.1, old.2.2.2.1, fun q => ?_⟩
          rcases old.2.2.2.2 q with o | ⟨b, u1, u2, u3, u4, u5, u6⟩
          · exact Or.inl o
          · refine Or.inr ⟨b, u1, u2, u3, u4, u5, fun q hq => ?_⟩
            obtain ⟨v1, v2, v3, v4, v5, v6⟩ := u6 q hq
            refine ⟨v1, v2, v3, v4, v5, fun hn => ?_⟩
            rw [x24n _ (fun w => e (nI_ij (by omega) (by omega) (v5.symm.trans (hfree _ v2 w).1)))]
            exact v6 hn
      · unfold gLe at g1 g2
        by_cases e : j = i
        · subst e
          exact absurd (by rw [x30i s g1.1]; decide) g1.2.2.1
        · rw [x30o _ (by have := g1.1; omega)] at g1
          rw [x30o _ (by have := g2.1; omega)] at g2
          exact h.ki.2.2.2.1 j s q s' q' hj g1 g2
      · rw [xo 21 (by omega)] at g2
        have nf : ¬ ∃ s q, gLe g i s q S ∧ g.gk (24 * (8 * i + s) + q) = k := fun w => absurd ((x24y k w).symm.trans g1) (by decide)
        rw [x24n k nf] at g1
        obtain ⟨s, q, r1, r2⟩ := h.ki.2.2.2.2 k hk g1 g2
        have e : g.hm k ≠ i := fun e => nf ⟨s, q, e ▸ r1, e ▸ r2⟩
        have hm10 : g.hm k < 10 := by
          rcases h.ki.1 k hk with o | o
          · exact absurd (o.2.1.symm.trans g1) (by decide)
          · exact o.2.1
        refine ⟨s, q, ?_, r2⟩
        unfold gLe at r1 ⊢
        rw [x30o _ (by have := r1.1; omega)]
        exact r1
    · simp (disch := omega) only [dReport, mReport, h.j0, h.j1, h0, h1, h2, h2', ↓reduceIte, wOk, wT, mS, mwO, mwT, stL_2, stL_1, stM_1, stM_L, rd_s, rd_j, rd_n, stM_n, rdL_s, rdL_j, rdL_n, stL_n, s9_n, s9_1, s9_L, putF_n, putF_1, putF_L, kpM_n, kpM_1, kpM_L, dpF_n, dropF_1, dropF_L, clR_n, clR_1, clR_L, clP_n, clP_1, clP_L, frmF_n, frmF_1, frmF_L, rqF_n, rpF_1, rpF_L, rpP_n, rpP_1, rpP_L, rkI_n, rkI_1, rkI_L, rpR_n, rpR_1, rpR_L, gvM_n, gvM_1, gvM_L, enF_n, enF_1, enF_L, usF_n, usF_1, usF_L]
      exact Pu_tn h hc
  · simp (disch := omega) only [dReport, mReport, h.j0, h0, ↓reduceIte, wOk, wT, mS, mwO, mwT, stL_2, stL_1, stM_1, stM_L, rd_s, rd_j, rd_n, stM_n, rdL_s, rdL_j, rdL_n, stL_n, s9_n, s9_1, s9_L, putF_n, putF_1, putF_L, kpM_n, kpM_1, kpM_L, dpF_n, dropF_1, dropF_L, clR_n, clR_1, clR_L, clP_n, clP_1, clP_L, frmF_n, frmF_1, frmF_L, rqF_n, rpF_1, rpF_L, rpP_n, rpP_1, rpP_L, rkI_n, rkI_1, rkI_L, rpR_n, rpR_1, rpR_L, gvM_n, gvM_1, gvM_L, enF_n, enF_1, enF_L, usF_n, usF_1, usF_L]
    exact Pu_rd h hc
