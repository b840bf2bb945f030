/-! each call's two sides, purely -/
def Pu (c : Nat) (z : Int32) (m : Int32 × zSt) : Prop := m.1 = z ∧ m.2.2.2 13 0 = 0 ∧ m.2.2.1 12 0 = z.toInt64 ∧ ∃ g', Rel g' (c + 1) m.2
theorem stL_2 {S : zSt} {t j : Nat} {v : Int64} : (stL S t j v).2.2 = S.2.2 := rfl
theorem stL_1 {S : zSt} {t j : Nat} {v : Int64} : (stL S t j v).1 = S.1 := rfl
theorem stM_L {S : zSt} {t j : Nat} {v : Int32} : (stM S t j v).2.1 = S.2.1 := rfl
theorem knM_c {Q R : zSt} {s a : Nat} (q1 : Q.2.2 25 = R.2.2 25) (q2 : Q.2.2 26 = R.2.2 26) (q3 : Q.2.2 27 = R.2.2 27) : knM Q s a = knM R s a := by unfold knM; rw [q1, q2, q3]
theorem sim_okP {l : Launch} {D : va_G} {K : Nat → ClassId} {ad : Nat → Nat} {S : zSt} {c : Nat} {yL yM : MethodName} {cwL cwM : Cond} {avL avM : List Value} {z : Int32} {S1 : zSt} (hW : zCW l D zcls (ztyl K) yL cwL { frames := 9, cells := 0, slots := 0, locals := 200 } (.ref (ad 0) :: avL) ad (Lay K ad S) (fun r ad' ce' => r = .inl (some (.int 0)) ∧ ∃ z' S', pEq ad z S1 z' ad' S' ∧ zLo ad ad' ∧ ce' = Lay K ad' (stL S' 12 0 z'.toInt64)))
    {f w : Nat} {m : Int32 × zSt} (hR : zC l TB D zcls (ztyl K) yM cwM (rmk f w) (.ref (ad 13) :: avM) ad (Lay K ad (stL S1 12 0 z.toInt64)) (zP K ad (some (.int m.1)) m.2)) (hf : f ≤ 8) (hw : w ≤ 200) (hp : Pu c z m) : SimW l D K ad S c yL cwL avL yM cwM avM := by
  obtain ⟨h1, h2, h3, g', h4⟩ := hp
  refine sim_ok (rm := rmk 0 0) (Nat.zero_le _) (Nat.zero_le _) hW ?_
  rintro z' ad' S' ⟨rfl, rfl, rfl⟩ -
  rw [h1] at hR
  exact ⟨f, w, m.2, g', hR, hf, hw, h2, h3, h4⟩
theorem Pu_rd {g : Gh} {c : Nat} {S : zSt} (h : Rel g c S) (hc : c < 512) {z : Int32} : Pu c z (z, mS (stL S 12 0 z.toInt64)) := ⟨rfl, rd_s, (rdL_s : (stL S 12 0 z.toInt64).2.1 12 0 = z.toInt64), g, Rel_thr (Rel_out h) hc⟩
theorem Pu_tn {g : Gh} {c : Nat} {S : zSt} (h : Rel g c S) (hc : c < 512) {z : Int32} : Pu c z (z, mwT (stL (wT S) 12 0 z.toInt64)) := by
  refine ⟨rfl, by simp (disch := omega) only [wOk, wT, mS, mwO, mwT, stL_2, stL_1, stM_1, stM_L, rd_s, rd_j, rd_n, stM_n, rdL_s, rdL_j, rdL_n, stL_n], by simp (disch := omega) only [wOk, wT, mS, mwO, mwT, stL_2, stL_1, stM_1, stM_L, rd_s, rd_j, rd_n, stM_n, rdL_s, rdL_j, rdL_n, stL_n], g, Rel_J h ⟨rfl, fun t ht => by simp (disch := omega) only [wOk, wT, mS, mwO, mwT, stL_2, stL_1, stM_1, stM_L, rd_s, rd_j, rd_n, stM_n, rdL_s, rdL_j, rdL_n, stL_n], fun t h3 h13 h0 => by simp (disch := omega) only [wOk, wT, mS, mwO, mwT, stL_2, stL_1, stM_1, stM_L, rd_s, rd_j, rd_n, stM_n, rdL_s, rdL_j, rdL_n, stL_n], fun j hj => by simp (disch := omega) only [wOk, wT, mS, mwO, mwT, stL_2, stL_1, stM_1, stM_L, rd_s, rd_j, rd_n, stM_n, rdL_s, rdL_j, rdL_n, stL_n], fun j hj => by simp (disch := omega) only [wOk, wT, mS, mwO, mwT, stL_2, stL_1, stM_1, stM_L, rd_s, rd_j, rd_n, stM_n, rdL_s, rdL_j, rdL_n, stL_n]⟩ (by omega) (by omega) (by simp (disch := omega) only [wOk, wT, mS, mwO, mwT, stL_2, stL_1, stM_1, stM_L, rd_s, rd_j, rd_n, stM_n, rdL_s, rdL_j, rdL_n, stL_n, h.j0, h.j1, h.j2, h.o7]) ⟨by simp (disch := omega) only [wOk, wT, mS, mwO, mwT, stL_2, stL_1, stM_1, stM_L, rd_s, rd_j, rd_n, stM_n, rdL_s, rdL_j, rdL_n, stL_n, h.j0, h.j1, h.j2, h.o7], by first | (refine Or.inl ?_; simp (disch := omega) only [wOk, wT, mS, mwO, mwT, stL_2, stL_1, stM_1, stM_L, rd_s, rd_j, rd_n, stM_n, rdL_s, rdL_j, rdL_n, stL_n]; done) | (simp (disch := omega) only [wOk, wT, mS, mwO, mwT, stL_2, stL_1, stM_1, stM_L, rd_s, rd_j, rd_n, stM_n, rdL_s, rdL_j, rdL_n, stL_n]; exact h.jb)⟩ (by simp (disch := omega) only [wOk, wT, mS, mwO, mwT, stL_2, stL_1, stM_1, stM_L, rd_s, rd_j, rd_n, stM_n, rdL_s, rdL_j, rdL_n, stL_n, h.j0, h.j1, h.j2, h.o7]) (by simp (disch := omega) only [wOk, wT, mS, mwO, mwT, stL_2, stL_1, stM_1, stM_L, rd_s, rd_j, rd_n, stM_n, rdL_s, rdL_j, rdL_n, stL_n, h.j0, h.j1, h.j2, h.o7])⟩
theorem pu_mount {g : Gh} {c : Nat} {S : zSt} (h : Rel g c S) (hc : c < 512) : Pu c (S.2.2 3 2) ((stL (stM S 3 0 0) 12 0 (S.2.2 3 2).toInt64).2.2 13 3, stM (mS (stL (stM S 3 0 0) 12 0 (S.2.2 3 2).toInt64)) 13 1 0) := by
  refine ⟨by simp (disch := omega) only [wOk, wT, mS, mwO, mwT, stL_2, stL_1, stM_1, stM_L, rd_s, rd_j, rd_n, stM_n, rdL_s, rdL_j, rdL_n, stL_n, h.j0, h.j1, h.j2, h.o7], by simp (disch := omega) only [wOk, wT, mS, mwO, mwT, stL_2, stL_1, stM_1, stM_L, rd_s, rd_j, rd_n, stM_n, rdL_s, rdL_j, rdL_n, stL_n], by simp (disch := omega) only [wOk, wT, mS, mwO, mwT, stL_2, stL_1, stM_1, stM_L, rd_s, rd_j, rd_n, stM_n, rdL_s, rdL_j, rdL_n, stL_n], g, Rel_J h ⟨rfl, fun t ht => by simp (disch := omega) only [wOk, wT, mS, mwO, mwT, stL_2, stL_1, stM_1, stM_L, rd_s, rd_j, rd_n, stM_n, rdL_s, rdL_j, rdL_n, stL_n], fun t h3 h13 h0 => by simp (disch := omega) only [wOk, wT, mS, mwO, mwT, stL_2, stL_1, stM_1, stM_L, rd_s, rd_j, rd_n, stM_n, rdL_s, rdL_j, rdL_n, stL_n], fun j hj => by simp (disch := omega) only [wOk, wT, mS, mwO, mwT, stL_2, stL_1, stM_1, stM_L, rd_s, rd_j, rd_n, stM_n, rdL_s, rdL_j, rdL_n, stL_n], fun j hj => by simp (disch := omega) only [wOk, wT, mS, mwO, mwT, stL_2, stL_1, stM_1, stM_L, rd_s, rd_j, rd_n, stM_n, rdL_s, rdL_j, rdL_n, stL_n]⟩ (by omega) (by omega) (by simp (disch := omega) only [wOk, wT, mS, mwO, mwT, stL_2, stL_1, stM_1, stM_L, rd_s, rd_j, rd_n, stM_n, rdL_s, rdL_j, rdL_n, stL_n, h.j0, h.j1, h.j2, h.o7]) ⟨by simp (disch := omega) only [wOk, wT, mS, mwO, mwT, stL_2, stL_1, stM_1, stM_L, rd_s, rd_j, rd_n, stM_n, rdL_s, rdL_j, rdL_n, stL_n, h.j0, h.j1, h.j2, h.o7], by first | (refine Or.inl ?_; simp (disch := omega) only [wOk, wT, mS, mwO, mwT, stL_2, stL_1, stM_1, stM_L, rd_s, rd_j, rd_n, stM_n, rdL_s, rdL_j, rdL_n, stL_n]; done) | (simp (disch := omega) only [wOk, wT, mS, mwO, mwT, stL_2, stL_1, stM_1, stM_L, rd_s, rd_j, rd_n, stM_n, rdL_s, rdL_j, rdL_n, stL_n]; exact h.jb)⟩ (by simp (disch := omega) only [wOk, wT, mS, mwO, mwT, stL_2, stL_1, stM_1, stM_L, rd_s, rd_j, rd_n, stM_n, rdL_s, rdL_j, rdL_n, stL_n, h.j0, h.j1, h.j2, h.o7]) (by simp (disch := omega) only [wOk, wT, mS, mwO, mwT, stL_2, stL_1, stM_1, stM_L, rd_s, rd_j, rd_n, stM_n, rdL_s, rdL_j, rdL_n, stL_n, h.j0, h.j1, h.j2, h.o7])⟩
theorem pu_opn {g : Gh} {c : Nat} {S : zSt} (h : Rel g c S) (hc : c < 512) {p q : Nat} : Pu c (dOpen S p q).1 (mOpen (stL (dOpen S p q).2 12 0 (dOpen S p q).1.toInt64) p q) := by
  by_cases h0 : S.2.2 13 1 = 0
  · by_cases ho : S.2.2 13 4 = 0
    · by_cases hq : nI p = nI q
      · simp (disch := omega) only [dOpen, mOpen, h.j0, h.o7, h0, ho, hq, ↓reduceIte, wOk, wT, mS, mwO, mwT, stL_2, stL_1, stM_1, stM_L, rd_s, rd_j, rd_n, stM_n, rdL_s, rdL_j, rdL_n, stL_n]
        exact Pu_rd h hc
      · by_cases h1 : S.2.2 13 2 = 0
        · simp (disch := omega) only [dOpen, mOpen, h.j0, h.j1, h.o7, h0, ho, hq, h1, ↓reduceIte, wOk, wT, mS, mwO, mwT, stL_2, stL_1, stM_1, stM_L, rd_s, rd_j, rd_n, stM_n, rdL_s, rdL_j, rdL_n, stL_n]
          refine ⟨rfl, by simp (disch := omega) only [wOk, wT, mS, mwO, mwT, stL_2, stL_1, stM_1, stM_L, rd_s, rd_j, rd_n, stM_n, rdL_s, rdL_j, rdL_n, stL_n], by simp (disch := omega) only [wOk, wT, mS, mwO, mwT, stL_2, stL_1, stM_1, stM_L, rd_s, rd_j, rd_n, stM_n, rdL_s, rdL_j, rdL_n, stL_n], g, Rel_J h ⟨rfl, fun t ht => by simp (disch := omega) only [wOk, wT, mS, mwO, mwT, stL_2, stL_1, stM_1, stM_L, rd_s, rd_j, rd_n, stM_n, rdL_s, rdL_j, rdL_n, stL_n], fun t h3 h13 h0 => by simp (disch := omega) only [wOk, wT, mS, mwO, mwT, stL_2, stL_1, stM_1, stM_L, rd_s, rd_j, rd_n, stM_n, rdL_s, rdL_j, rdL_n, stL_n], fun j hj => by simp (disch := omega) only [wOk, wT, mS, mwO, mwT, stL_2, stL_1, stM_1, stM_L, rd_s, rd_j, rd_n, stM_n, rdL_s, rdL_j, rdL_n, stL_n], fun j hj => by simp (disch := omega) only [wOk, wT, mS, mwO, mwT, stL_2, stL_1, stM_1, stM_L, rd_s, rd_j, rd_n, stM_n, rdL_s, rdL_j, rdL_n, stL_n]⟩ (by omega) (by omega) (by simp (disch := omega) only [wOk, wT, mS, mwO, mwT, stL_2, stL_1, stM_1, stM_L, rd_s, rd_j, rd_n, stM_n, rdL_s, rdL_j, rdL_n, stL_n, h.j0, h.j1, h.j2, h.o7]) ⟨by simp (disch := omega) only [wOk, wT, mS, mwO, mwT, stL_2, stL_1, stM_1, stM_L, rd_s, rd_j, rd_n, stM_n, rdL_s, rdL_j, rdL_n, stL_n, h.j0, h.j1, h.j2, h.o7], by first | (refine Or.inl ?_; simp (disch := omega) only [wOk, wT, mS, mwO, mwT, stL_2, stL_1, stM_1, stM_L, rd_s, rd_j, rd_n, stM_n, rdL_s, rdL_j, rdL_n, stL_n]; done) | (simp (disch := omega) only [wOk, wT, mS, mwO, mwT, stL_2, stL_1, stM_1, stM_L, rd_s, rd_j, rd_n, stM_n, rdL_s, rdL_j, rdL_n, stL_n]; exact h.jb)⟩ (by simp (disch := omega) only [wOk, wT, mS, mwO, mwT, stL_2, stL_1, stM_1, stM_L, rd_s, rd_j, rd_n, stM_n, rdL_s, rdL_j, rdL_n, stL_n, h.j0, h.j1, h.j2, h.o7]) (by simp (disch := omega) only [wOk, wT, mS, mwO, mwT, stL_2, stL_1, stM_1, stM_L, rd_s, rd_j, rd_n, stM_n, rdL_s, rdL_j, rdL_n, stL_n, h.j0, h.j1, h.j2, h.o7])⟩
        · simp (disch := omega) only [dOpen, mOpen, h.j0, h.j1, h.o7, h0, ho, hq, h1, ↓reduceIte, wOk, wT, mS, mwO, mwT, stL_2, stL_1, stM_1, stM_L, rd_s, rd_j, rd_n, stM_n, rdL_s, rdL_j, rdL_n, stL_n]
          exact Pu_tn h hc
    · by_cases hq : nI p = nI q
      · simp (disch := omega) only [dOpen, mOpen, h.j0, h.o7, h0, ho, hq, ↓reduceIte, wOk, wT, mS, mwO, mwT, stL_2, stL_1, stM_1, stM_L, rd_s, rd_j, rd_n, stM_n, rdL_s, rdL_j, rdL_n, stL_n]
        exact Pu_rd h hc
      · simp (disch := omega) only [dOpen, mOpen, h.j0, h.o7, h0, ho, hq, ↓reduceIte, wOk, wT, mS, mwO, mwT, stL_2, stL_1, stM_1, stM_L, rd_s, rd_j, rd_n, stM_n, rdL_s, rdL_j, rdL_n, stL_n]
        exact Pu_rd h hc
  · simp (disch := omega) only [dOpen, mOpen, h.j0, h.o7, h0, ↓reduceIte, wOk, wT, mS, mwO, mwT, stL_2, stL_1, stM_1, stM_L, rd_s, rd_j, rd_n, stM_n, rdL_s, rdL_j, rdL_n, stL_n]
    exact Pu_rd h hc
theorem pu_blocks {g : Gh} {c : Nat} {S : zSt} (h : Rel g c S) (hc : c < 512) {s : Nat} (hs : s < 8) : Pu c (S.2.2 (40 + s) 6) ((stL S 12 0 (S.2.2 (40 + s) 6).toInt64).2.2 17 s, mS (stL S 12 0 (S.2.2 (40 + s) 6).toInt64)) := by
  have e := h.bk.2.2.2.2.2 s hs
  rw [show (stL S 12 0 (S.2.2 (40 + s) 6).toInt64).2.2 17 s = S.2.2 (40 + s) 6 from e.1.trans e.2.1.symm]
  exact Pu_rd h hc
theorem pu_count {g : Gh} {c : Nat} {S : zSt} (h : Rel g c S) (hc : c < 512) {s a : Nat} (hs : s < 8) (ha : a < 4) : Pu c (dCount S s a).1 (mCount (stL (dCount S s a).2 12 0 (dCount S s a).1.toInt64) s a) := by
  have e : ∀ z, knM (stL S 12 0 z) s a = S.2.2 (50 + s) a := fun z => (h.pe.2 s a hs ha).symm
  by_cases ho : S.2.2 13 4 = 0
  · simp (disch := omega) only [dCount, mCount, h.o7, ho, ↓reduceIte, wOk, wT, mS, mwO, mwT, stL_2, stL_1, stM_1, stM_L, rd_s, rd_j, rd_n, stM_n, rdL_s, rdL_j, rdL_n, stL_n]
    exact Pu_rd h hc
  · simp (disch := omega) only [dCount, mCount, h.o7, ho, e, ↓reduceIte, wOk, wT, mS, mwO, mwT, stL_2, stL_1, stM_1, stM_L, rd_s, rd_j, rd_n, stM_n, rdL_s, rdL_j, rdL_n, stL_n]
    exact Pu_rd h hc
-- ===== the widest gap =====
theorem i_neg {x : Int32} (h : 0 ≤ x) : 0 - x ≤ x := by
  rw [Int32.le_iff_toInt_le] at h ⊢
  rw [Int32.toInt_sub]
  have h2 := x.toInt_lt
  have h0 : (0 : Int32).toInt = 0 := rfl
  rw [h0] at h ⊢
  have h3 : (0 - x.toInt).bmod (2 ^ 32) = 0 - x.toInt := Int.bmod_eq_of_le (by omega) (by omega)
  rw [h3]
  omega
theorem i_abs {x : Int32} : x ≤ absI x ∧ 0 - x ≤ absI x ∧ 0 ≤ absI x ∨ x ≤ absI x ∧ 0 - x ≤ absI x := by
  unfold absI
  by_cases h : 0 ≤ x
  · rw [if_pos h]
    exact Or.inl ⟨Int32.le_refl _, i_neg h, h⟩
  · rw [if_neg h]
    refine Or.inr ⟨?_, Int32.le_refl _⟩
    have h' : x < 0 := Int32.not_le.mp h
    rw [Int32.lt_iff_toInt_lt] at h'
    rw [Int32.le_iff_toInt_le, Int32.toInt_sub]
    have h2 := x.le_toInt
    have h0 : (0 : Int32).toInt = 0 := rfl
    rw [h0] at h' ⊢
    by_cases h3 : x.toInt = -2 ^ 31
    · rw [h3]; decide
    · have h4 : (0 - x.toInt).bmod (2 ^ 32) = 0 - x.toInt := Int.bmod_eq_of_le (by omega) (by omega)
      rw [h4]
      omega
theorem mspI_ub {S : zSt} {s a : Nat} {w : Int32} (n : Nat) : w ≤ mspI S s a w n ∧ ∀ b, b < n → dM S s a b ≤ mspI S s a w n := by
  induction n with
  | zero => exact ⟨Int32.le_refl _, fun b hb => absurd hb (by omega)⟩
  | succ n ih =>
    rw [mspI]
    by_cases h : dM S s a n ≤ mspI S s a w n
    · rw [if_pos h]
      refine ⟨ih.1, fun b hb => ?_⟩
      by_cases hn : b = n
      · rw [hn]; exact h
      · exact ih.2 b (by omega)
    · rw [if_neg h]
      have h' : mspI S s a w n ≤ dM S s a n := Int32.le_of_lt (Int32.not_le.mp h)
      refine ⟨Int32.le_trans ih.1 h', fun b hb => ?_⟩
      by_cases hn : b = n
      · rw [hn]; exact Int32.le_refl _
      · exact Int32.le_trans (ih.2 b (by omega)) h'
theorem mspI_le {S : zSt} {s a : Nat} {w M : Int32} (n : Nat) (hw : w ≤ M) (h : ∀ b, b < n → dM S s a b ≤ M) : mspI S s a w n ≤ M := by
  induction n with
  | zero => exact hw
  | succ n ih =>
    rw [mspI]
    split
    · exact ih fun b hb => h b (by omega)
    · exact h n (by omega)
theorem mspO_ub {S : zSt} {s A : Nat} (n : Nat) : 0 ≤ mspO S s A n ∧ ∀ a b, a < n → b < A → dM S s a b ≤ mspO S s A n := by
  induction n with
  | zero => exact ⟨Int32.le_refl _, fun a b ha => absurd ha (by omega)⟩
  | succ n ih =>
    rw [mspO]
    have u := mspI_ub (S := S) (s := s) (a := n) (w := mspO S s A n) A
    refine ⟨Int32.le_trans ih.1 u.1, fun a b ha hb => ?_⟩
    by_cases hn : a = n
    · rw [hn]; exact u.2 b hb
    · exact Int32.le_trans (ih.2 a b (by omega) hb) u.1
theorem mspO_le {S : zSt} {s A : Nat} {M : Int32} (n : Nat) (h0 : 0 ≤ M) (h : ∀ a b, a < n → b < A → dM S s a b ≤ M) : mspO S s A n ≤ M := by
  induction n with
  | zero => exact h0
  | succ n ih => exact mspI_le A (ih fun a b ha hb => h a b (by omega) hb) fun b hb => h n b (by omega) hb
theorem gapI_ub {S : zSt} {s a : Nat} {w : Int32} (n : Nat) : w ≤ gapI S s a w n ∧ ∀ j, j < n → absI (gap1 S s a (a + 1 + j)) ≤ gapI S s a w n := by
  induction n with
  | zero => exact ⟨Int32.le_refl _, fun b hb => absurd hb (by omega)⟩
  | succ n ih =>
    rw [gapI, mxI]
    by_cases h : gapI S s a w n < absI (gap1 S s a (a + 1 + n))
    · rw [if_pos h]
      have h' := Int32.le_of_lt h
      refine ⟨Int32.le_trans ih.1 h', fun b hb => ?_⟩
      by_cases hn : b = n
      · rw [hn]; exact Int32.le_refl _
      · exact Int32.le_trans (ih.2 b (by omega)) h'
    · rw [if_neg h]
      refine ⟨ih.1, fun b hb => ?_⟩
      by_cases hn : b = n
      · rw [hn]; exact Int32.not_lt.mp h
      · exact ih.2 b (by omega)
theorem gapI_le {S : zSt} {s a : Nat} {w M : Int32} (n : Nat) (hw : w ≤ M) (h : ∀ j, j < n → absI (gap1 S s a (a + 1 + j)) ≤ M) : gapI S s a w n ≤ M := by
  induction n with
  | zero => exact hw
  | succ n ih =>
    rw [gapI, mxI]
    split
    · exact h n (by omega)
    · exact ih fun b hb => h b (by omega)
theorem gapO_ub {S : zSt} {s A : Nat} (n : Nat) : 0 ≤ gapO S s A n ∧ ∀ a b, a < n → a < b → b < A → absI (gap1 S s a b) ≤ gapO S s A n := by
  induction n with
  | zero => exact ⟨Int32.le_refl _, fun a b ha => absurd ha (by omega)⟩
  | succ n ih =>
    rw [gapO]
    have u := gapI_ub (S := S) (s := s) (a := n) (w := gapO S s A n) (A - (n + 1))
    refine ⟨Int32.le_trans ih.1 u.1, fun a b ha hab hb => ?_⟩
    by_cases hn : a = n
    · have := u.2 (b - (n + 1)) (by omega)
      rw [show n + 1 + (b - (n + 1)) = b from by omega] at this
      rw [hn]; exact this
    · exact Int32.le_trans (ih.2 a b (by omega) hab hb) u.1
theorem gapO_le {S : zSt} {s A : Nat} {M : Int32} (n : Nat) (h0 : 0 ≤ M) (h : ∀ a b, a < n → a < b → b < A → absI (gap1 S s a b) ≤ M) : gapO S s A n ≤ M := by
  induction n with
  | zero => exact h0
  | succ n ih => exact gapI_le _ (ih fun a b ha hab hb => h a b (by omega) hab hb) fun j hj => h n _ (by omega) (by omega) (by omega)
theorem gap_eq {S : zSt} {s A : Nat} (h : ∀ a b, a < A → b < A → gap1 S s a b = dM S s a b) : mspO S s A A = gapO S s A A := by
  have sw : ∀ a b, 0 - dM S s a b = dM S s b a := fun a b => by
    unfold dM
    rw [Int32.zero_sub, Int32.neg_sub]
  have u1 := mspO_ub (S := S) (s := s) (A := A) A
  have u2 := gapO_ub (S := S) (s := s) (A := A) A
  refine Int32.le_antisymm (mspO_le A u2.1 fun a b ha hb => ?_) (gapO_le A u1.1 fun a b ha hab hb => ?_)
  · rcases Nat.lt_trichotomy a b with hab | hab | hab
    · refine Int32.le_trans ?_ (u2.2 a b ha hab hb)
      rw [h a b ha hb]
      rcases i_abs (x := dM S s a b) with q | q
      · exact q.1
      · exact q.1
    · rw [hab, dM, Int32.sub_self]
      exact u2.1
    · refine Int32.le_trans ?_ (u2.2 b a hb hab ha)
      rw [h b a hb ha, ← sw b a]
      rcases i_abs (x := dM S s b a) with q | q
      · exact q.2.1
      · exact q.2
  · rw [h a b ha hb]
    unfold absI
    split
    · exact u1.2 a b ha hb
    · rw [sw a b]
      exact u1.2 b a hb ha
theorem pu_spread {g : Gh} {c : Nat} {S : zSt} (h : Rel g c S) (hc : c < 512) {s : Nat} (hs : s < 8) : Pu c (dSpread S s g.A).1 (mSpread (stL (dSpread S s g.A).2 12 0 (dSpread S s g.A).1.toInt64) s g.A) := by
  have hA := RP_A h.pl
  have e : ∀ z, mspO (stL S 12 0 z) s g.A g.A = gapO S s g.A g.A := fun z => by
    have e1 : mspO (stL S 12 0 z) s g.A g.A = gapO (stL S 12 0 z) s g.A g.A := gap_eq fun a b ha hb => by
      unfold gap1 dM
      rw [stL_2, show knM (stL S 12 0 z) s a = S.2.2 (50 + s) a from (h.pe.2 s a hs (by omega)).symm, show knM (stL S 12 0 z) s b = S.2.2 (50 + s) b from (h.pe.2 s b hs (by omega)).symm, h.pl.2.2.2.2.1 a (by omega), h.pl.2.2.2.2.1 b (by omega)]
    rw [e1]
    have e2 : ∀ (n : Nat) (w : Int32) (a : Nat), gapI (stL S 12 0 z) s a w n = gapI S s a w n := fun n w a => by
      induction n with
      | zero => rfl
      | succ n ih => rw [gapI, gapI, ih]; rfl
    have e3 : ∀ n, gapO (stL S 12 0 z) s g.A n = gapO S s g.A n := fun n => by
      induction n with
      | zero => rfl
      | succ n ih => rw [gapO, gapO, ih, e2]
    exact e3 _
  by_cases ho : S.2.2 13 4 = 0
  · simp (disch := omega) only [dSpread, mSpread, h.o7, ho, ↓reduceIte, wOk, wT, mS, mwO, mwT, stL_2, stL_1, stM_1, stM_L, rd_s, rd_j, rd_n, stM_n, rdL_s, rdL_j, rdL_n, stL_n]
    exact Pu_rd h hc
  · simp (disch := omega) only [dSpread, mSpread, h.o7, ho, e, ↓reduceIte, wOk, wT, mS, mwO, mwT, stL_2, stL_1, stM_1, stM_L, rd_s, rd_j, rd_n, stM_n, rdL_s, rdL_j, rdL_n, stL_n]
    exact Pu_rd h hc
-- ===== entries =====
theorem nI_ij {a b : Nat} (ha : a < 2 ^ 31) (hb : b < 2 ^ 31) (h : nI a = nI b) : a = b := by
  have := congrArg Int32.toInt h
  rw [nI_toInt ha, nI_toInt hb] at this
  omega
theorem eM_list {g : Gh} {S : zSt} {s T : Nat} (hs : s < 8) (hb : ∀ b, b < T → gBl g b S) (m b q : Nat) (hm : b + m = T) : eM S s g.Z m b q = if q < (rkA g.bs s T - rkA g.bs s b) * g.Z then S.2.2 (60 + s) (rkA g.bs s b * g.Z + q) else -1 := by
  induction m generalizing b q with
  | zero =>
    rw [eM, show b = T from by omega, Nat.sub_self, Nat.zero_mul, if_neg (by omega)]
  | succ m ih =>
    obtain ⟨e1, e2, e3⟩ := hb b (by omega)
    have hmono : rkA g.bs s (b + 1) ≤ rkA g.bs s T := cntI_mono (by omega)
    rw [eM]
    by_cases hbs : g.bs b = s
    · have hr : rkA g.bs s (b + 1) = rkA g.bs s b + 1 := by rw [rkA_s, if_pos hbs]
      rw [if_pos (by rw [e1, hbs])]
      have hx : (rkA g.bs s T - rkA g.bs s b) * g.Z = (rkA g.bs s T - rkA g.bs s (b + 1)) * g.Z + g.Z := by
        rw [show rkA g.bs s T - rkA g.bs s b = (rkA g.bs s T - rkA g.bs s (b + 1)) + 1 from by omega, Nat.succ_mul]
      by_cases hq : q < g.Z
      · rw [if_pos hq, if_pos (by omega)]
        have := (e3 q hq)
        rw [rkB, hbs] at this
        exact this.1.trans this.2.2.symm
      · rw [if_neg hq, ih (b + 1) (q - g.Z) (by omega), hr, Nat.succ_mul]
        rw [hr] at hx
        by_cases hq2 : q - g.Z < (rkA g.bs s T - (rkA g.bs s b + 1)) * g.Z
        · rw [if_pos hq2, if_pos (by omega), show rkA g.bs s b * g.Z + g.Z + (q - g.Z) = rkA g.bs s b * g.Z + q from by omega]
        · rw [if_neg hq2, if_neg (by omega)]
    · have hr : rkA g.bs s (b + 1) = rkA g.bs s b := by rw [rkA_s, if_neg hbs]; rfl
      rw [if_neg (by rw [e1]; exact fun q => hbs (nI_ij (by omega) (by omega) q)), ih (b + 1) q (by omega), hr]
theorem pu_entry {g : Gh} {c : Nat} {S : zSt} (h : Rel g c S) (hc : c < 512) {s q : Nat} (hs : s < 8) {z : Int32} (hz : z = (if q < rkA g.bs s g.T * g.Z then (if q < g.bt s * g.Z ∧ q < S.1 (60 + s) then S.2.2 (60 + s) q else -1) else -1)) : Pu c z (eM (stL S 12 0 z.toInt64) s g.Z g.T 0 q, mS (stL S 12 0 z.toInt64)) := by
  have hS := h.bk.2.2.2.2.2 s hs
  have e2 : ∀ y m b q, eM (stL S 12 0 y) s g.Z m b q = eM S s g.Z m b q := fun y m => by
    induction m with
    | zero => intro b q; rfl
    | succ m ih =>
      intro b q
      rw [eM, eM, ih, ih]
      rfl
  have e : eM (stL S 12 0 z.toInt64) s g.Z g.T 0 q = z := by
    rw [e2, eM_list hs h.bk.2.2.2.2.1 g.T 0 q (by omega), hz]
    have hb : rkA g.bs s g.T * g.Z ≤ g.bt s * g.Z := by
      rcases hS.2.2.2.2.2.2.1 with q | q
      · rw [q.1]; exact Nat.le_refl _
      · rw [q.1]; exact Nat.mul_le_mul_right _ (by omega)
    have hl := hS.2.2.2.2.1
    rw [show rkA g.bs s 0 = 0 from rfl, Nat.zero_mul, Nat.zero_add, Nat.sub_zero]
    by_cases hq : q < rkA g.bs s g.T * g.Z
    · rw [if_pos hq, if_pos hq, if_pos ⟨by omega, by omega⟩]
    · rw [if_neg hq, if_neg hq]
  rw [e]
  exact Pu_rd h hc
-- ===== kits =====
theorem kit_st {g : Gh} {c : Nat} {S : zSt} (h : Rel g c S) (hc : c < 512) {i k w : Nat} (hi : i < 10) (hk : k < 1000) (hw : w < 3) : (S.2.2 7 k = nI (w + 1) ∧ S.2.2 5 k = nI i) ↔ (S.2.2 22 k = nI i ∧ S.2.2 24 k = nI w) := by
  rcases h.ki.1 k hk with ⟨e1, e2, e3⟩ | ⟨e1, e2, e3, e4, e5, e6⟩
  · rw [e1, e3]
    exact ⟨fun q => absurd q.1.symm (nI_ne0 (by omega) (by omega)), fun q => absurd q.1.symm (nI_m1 (by omega))⟩
  · rw [e1, e4]
    have : S.2.2 7 k = nI (w + 1) ↔ S.2.2 24 k = nI w := by
      have hw3 : w = 0 ∨ w = 1 ∨ w = 2 := by omega
      rcases e6 with ⟨a, b⟩ | ⟨a, b⟩ | ⟨a, b, -⟩ <;> rw [a, b] <;> rcases hw3 with rfl | rfl | rfl <;> decide
    rw [this]
    exact And.comm
theorem pu_stock {g : Gh} {c : Nat} {S : zSt} (h : Rel g c S) (hc : c < 512) {i w : Nat} (hi : i < 10) (hw : w < 3) {z : Int32} (hz : z = tlF S i (nI (w + 1))) : Pu c z (nI (cntI (fun q => decide ((stL S 12 0 z.toInt64).2.2 22 q = nI i ∧ (stL S 12 0 z.toInt64).2.2 24 q = nI w)) 1000), mS (stL S 12 0 z.toInt64)) := by
  have e : nI (cntI (fun q => decide ((stL S 12 0 z.toInt64).2.2 22 q = nI i ∧ (stL S 12 0 z.toInt64).2.2 24 q = nI w)) 1000) = z := by
    rw [hz, tlF]
    refine congrArg nI (cntI_congr fun q hq => ?_)
    exact decide_eq_decide.mpr (kit_st h hc hi hq hw).symm
  rw [e]
  exact Pu_rd h hc
theorem per_25 {g : Gh} {c : Nat} {S : zSt} (h : Rel g c S) (hc : c < 512) {i p : Nat} (hi : i < 10) (hp : p < 100) : S.2.2 25 (100 * i + p) ≤ 0 ↔ S.2.2 25 (100 * i + p) = 0 := by
  obtain ⟨e1, e2, -⟩ := h.pe.1 i p hi hp
  by_cases h9 : S.2.2 9 i = 0
  · rw [(e1 h9).1]; decide
  · rcases (e2 h9).2.1 with q | q | q | q <;> rw [q.1] <;> decide
theorem per_9 {g : Gh} {c : Nat} {S : zSt} (h : Rel g c S) (hc : c < 512) {i p : Nat} (hi : i < 10) (hp : p < 100) (hq : S.2.2 25 (100 * i + p) ≠ 0) : S.2.2 9 i ≠ 0 := fun q => hq ((h.pe.1 i p hi hp).1 q).1
theorem pu_used {g : Gh} {c : Nat} {S : zSt} (h : Rel g c S) (hc : c < 512) {k : Nat} (hk : k < 1000) {z : Int32} (hz : z = if S.2.2 7 k = 3 then S.2.2 5 k * 100 + S.2.2 8 k else -1) : Pu c z ((if nxt (fun q => decide (¬ (stL S 12 0 z.toInt64).2.2 25 q ≤ 0 ∧ (stL S 12 0 z.toInt64).2.2 28 q = nI k)) 1000 0 = 1000 then -1 else nI (nxt (fun q => decide (¬ (stL S 12 0 z.toInt64).2.2 25 q ≤ 0 ∧ (stL S 12 0 z.toInt64).2.2 28 q = nI k)) 1000 0)), mS (stL S 12 0 z.toInt64)) := by
  have hu : ∀ q, q < 1000 → decide (¬ S.2.2 25 q ≤ 0 ∧ S.2.2 28 q = nI k) = true → S.2.2 7 k = 3 ∧ ∃ i p, i < 10 ∧ p < 100 ∧ q = 100 * i + p ∧ S.2.2 5 k = nI i ∧ S.2.2 8 k = nI p := by
    intro q hq hd
    have hd := of_decide_eq_true hd
    have hq2 : q = 100 * (q / 100) + q % 100 := by omega
    have hi : q / 100 < 10 := by omega
    have hp : q % 100 < 100 := by omega
    rw [hq2, per_25 h hc hi hp] at hd
    obtain ⟨u1, u2, u3, u4, u5⟩ := h.ki.2.1 _ _ hi hp hd.1
    have hkt : g.kt (100 * (q / 100) + q % 100) = k := nI_ij (by omega) (by omega) (u1.symm.trans hd.2)
    rw [hkt] at u3 u4 u5
    rcases h.ki.1 k hk with ⟨e1, -, -⟩ | ⟨e1, e2, e3, e4, e5, e6⟩
    · exact absurd (u3.symm.trans e1) (nI_m1 (by omega))
    · refine ⟨?_, _, _, hi, hp, hq2, e4.trans (e1.symm.trans u3), u5⟩
      rcases e6 with ⟨a, b⟩ | ⟨a, b⟩ | ⟨a, b, -⟩
      · exact absurd (a.symm.trans u4) (by decide)
      · exact absurd (a.symm.trans u4) (by decide)
      · exact b
  have e : (if nxt (fun q => decide (¬ S.2.2 25 q ≤ 0 ∧ S.2.2 28 q = nI k)) 1000 0 = 1000 then -1 else nI (nxt (fun q => decide (¬ S.2.2 25 q ≤ 0 ∧ S.2.2 28 q = nI k)) 1000 0)) = z := by
    rw [hz]
    rcases nxt_spec (p := fun q => decide (¬ S.2.2 25 q ≤ 0 ∧ S.2.2 28 q = nI k)) (m := 1000) (k := 0) (by omega) with ⟨n1, n2⟩ | ⟨-, n1, n2, n3⟩
    · rw [if_pos n1]
      by_cases h7 : S.2.2 7 k = 3
      · exfalso
        rcases h.ki.1 k hk with ⟨-, -, e3⟩ | ⟨e1, e2, e3, e4, e5, e6⟩
        · exact absurd (h7.symm.trans e3) (by decide)
        · rcases e6 with ⟨a, b⟩ | ⟨a, b⟩ | ⟨a, b, p, f1, f2, f3, f4⟩
          · exact absurd (h7.symm.trans b) (by decide)
          · exact absurd (h7.symm.trans b) (by decide)
          · have := n2 (100 * g.hm k + p) (by omega) (by omega)
            have := of_decide_eq_false this
            exact this ⟨fun q => f3 ((per_25 h hc e2 f1).mp q), f4⟩
      · rw [if_neg h7]
    · obtain ⟨a1, i, p, hi, hp, hq, a2, a3⟩ := hu _ n1 n2
      rw [if_neg (by omega), if_pos a1, a2, a3, hq]
      rw [show (100 : Int32) = nI 100 from rfl, pk_mul, nI_add, Nat.mul_comm]
  exact e ▸ Pu_rd h hc
-- ===== keys =====
theorem ks_all : ∀ x, x < 32 → ksF (nI x) 5 = bcF (nI x) ∧ (ksF (nI x) 5 ≤ 1 ↔ bcF (nI x) < 2) := by decide +kernel
theorem or_all : ∀ x, x < 32 → ∀ y, y < 5 → (x ||| (1 <<< y)) < 32 ∧ nI x ||| 1 <<< (nI y &&& 31) = nI (x ||| (1 <<< y)) := by decide +kernel
theorem pu_arm {g : Gh} {c : Nat} {S : zSt} (h : Rel g c S) (hc : c < 512) {i p : Nat} (hi : i < 10) (ho : S.2.2 9 i ≠ 0) (hp : p < 100) : Pu c (dArm S i p).1 (mArm (stL (dArm S i p).2 12 0 (dArm S i p).1.toInt64) (100 * i + p)) := by
  obtain ⟨-, e2, x, hx, e3⟩ := h.pe.1 i p hi hp
  obtain ⟨a1, a2, a3⟩ := e2 ho
  have k1 := ks_all x hx
  have hk : ksF (S.2.2 29 (100 * i + p)) 5 ≤ 1 ↔ bcF (S.2.2 (140 + i) p) < 2 := by rw [a1, e3]; exact k1.2
  have hd2 : (dArm S i p).2 = S := by
    unfold dArm
    split
    · split
      · rfl
      · split <;> rfl
    · split <;> rfl
  have e : ∀ z, mArm (stL S 12 0 z) (100 * i + p) = ((dArm S i p).1, mS (stL S 12 0 z)) := fun z => by
    unfold mArm dArm
    rw [stL_2, h.o7]
    rcases a2 with ⟨b1, b2⟩ | ⟨b1, b2⟩ | ⟨b1, b2, -⟩ | ⟨b1, b2, -⟩
    · rw [b1, b2, if_neg (show ¬ (0 : Int32) = 1 by decide), if_neg (show ¬ (0 : Int32) = 2 by decide)]
      split
      · split <;> rfl
      · rfl
    · rw [b1, b2, if_pos rfl, if_pos rfl]
      obtain ⟨-, -, -, c1, -, c2⟩ := a3 (by rw [b1]; decide)
      rw [c1, c2]
      split
      · by_cases hq : bcF (S.2.2 (140 + i) p) < 2
        · rw [if_pos hq, if_pos (hk.mpr hq)]
        · rw [if_neg hq, if_neg (fun q => hq (hk.mp q))]
      · rfl
    · rw [b1, b2, if_neg (show ¬ (2 : Int32) = 1 by decide), if_neg (show ¬ (1 : Int32) = 2 by decide)]
      split
      · split <;> rfl
      · rfl
    · rw [b1, b2, if_neg (show ¬ (3 : Int32) = 1 by decide), if_neg (show ¬ (1 : Int32) = 2 by decide)]
      split
      · split <;> rfl
      · rfl
  rw [hd2, e]
  exact Pu_rd h hc
theorem pu_key {g : Gh} {c : Nat} {S : zSt} (h : Rel g c S) (hc : c < 512) {k i p : Nat} (hk : k < 5) (hi : i < 10) (ho : S.2.2 9 i ≠ 0) (hp : p < 100) : Pu c (dKey S k i p).1 (mKey (stL (dKey S k i p).2 12 0 (dKey S k i p).1.toInt64) (100 * i + p) k) := by
  by_cases h0 : S.2.2 13 1 = 0
  · by_cases h1 : S.2.2 13 2 = 0
    · obtain ⟨-, e2, x, hx, e3⟩ := h.pe.1 i p hi hp
      obtain ⟨a1, -, -⟩ := e2 ho
      obtain ⟨o1, o2⟩ := or_all x hx k hk
      simp (disch := omega) only [dKey, mKey, h.j0, h.j1, h0, h1, a1, e3, o2, ↓reduceIte, wOk, wT, mS, mwO, mwT, stL_2, stL_1, stM_1, stM_L, rd_s, rd_j, rd_n, stM_n, rdL_s, rdL_j, rdL_n, stL_n]
      refine ⟨(ks_all _ o1).1, by simp (disch := omega) only [wOk, wT, mS, mwO, mwT, stL_2, stL_1, stM_1, stM_L, rd_s, rd_j, rd_n, stM_n, rdL_s, rdL_j, rdL_n, stL_n], by simp (disch := omega) only [wOk, wT, mS, mwO, mwT, stL_2, stL_1, stM_1, stM_L, rd_s, rd_j, rd_n, stM_n, rdL_s, rdL_j, rdL_n, stL_n], g, ?_⟩
      refine ⟨by simp (disch := omega) only [wOk, wT, mS, mwO, mwT, stL_2, stL_1, stM_1, stM_L, rd_s, rd_j, rd_n, stM_n, rdL_s, rdL_j, rdL_n, stL_n, h.j0, h.j1, h.j2, h.o7], ⟨by simp (disch := omega) only [wOk, wT, mS, mwO, mwT, stL_2, stL_1, stM_1, stM_L, rd_s, rd_j, rd_n, stM_n, rdL_s, rdL_j, rdL_n, stL_n, h.j0, h.j1, h.j2, h.o7], by first | (refine Or.inl ?_; simp (disch := omega) only [wOk, wT, mS, mwO, mwT, stL_2, stL_1, stM_1, stM_L, rd_s, rd_j, rd_n, stM_n, rdL_s, rdL_j, rdL_n, stL_n]; done) | (simp (disch := omega) only [wOk, wT, mS, mwO, mwT, stL_2, stL_1, stM_1, stM_L, rd_s, rd_j, rd_n, stM_n, rdL_s, rdL_j, rdL_n, stL_n]; exact h.jb)⟩, by simp (disch := omega) only [wOk, wT, mS, mwO, mwT, stL_2, stL_1, stM_1, stM_L, rd_s, rd_j, rd_n, stM_n, rdL_s, rdL_j, rdL_n, stL_n, h.j0, h.j1, h.j2, h.o7], by simp (disch := omega) only [wOk, wT, mS, mwO, mwT, stL_2, stL_1, stM_1, stM_L, rd_s, rd_j, rd_n, stM_n, rdL_s, rdL_j, rdL_n, stL_n, h.j0, h.j1, h.j2, h.o7], RS_c (by simp (disch := omega) only [wOk, wT, mS, mwO, mwT, stL_2, stL_1, stM_1, stM_L, rd_s, rd_j, rd_n, stM_n, rdL_s, rdL_j, rdL_n, stL_n]) (by simp (disch := omega) only [wOk, wT, mS, mwO, mwT, stL_2, stL_1, stM_1, stM_L, rd_s, rd_j, rd_n, stM_n, rdL_s, rdL_j, rdL_n, stL_n]) (fun j hj => by simp (disch := omega) only [wOk, wT, mS, mwO, mwT, stL_2, stL_1, stM_1, stM_L, rd_s, rd_j, rd_n, stM_n, rdL_s, rdL_j, rdL_n, stL_n]) (by simp (disch := omega) only [wOk, wT, mS, mwO, mwT, stL_2, stL_1, stM_1, stM_L, rd_s, rd_j, rd_n, stM_n, rdL_s, rdL_j, rdL_n, stL_n]) h.st, RP_c (fun j hj => by simp (disch := omega) only [wOk, wT, mS, mwO, mwT, stL_2, stL_1, stM_1, stM_L, rd_s, rd_j, rd_n, stM_n, rdL_s, rdL_j, rdL_n, stL_n]) (by simp (disch := omega) only [wOk, wT, mS, mwO, mwT, stL_2, stL_1, stM_1, stM_L, rd_s, rd_j, rd_n, stM_n, rdL_s, rdL_j, rdL_n, stL_n]) (by simp (disch := omega) only [wOk, wT, mS, mwO, mwT, stL_2, stL_1, stM_1, stM_L, rd_s, rd_j, rd_n, stM_n, rdL_s, rdL_j, rdL_n, stL_n]) (by simp (disch := omega) only [wOk, wT, mS, mwO, mwT, stL_2, stL_1, stM_1, stM_L, rd_s, rd_j, rd_n, stM_n, rdL_s, rdL_j, rdL_n, stL_n]) (by simp (disch := omega) only [wOk, wT, mS, mwO, mwT, stL_2, stL_1, stM_1, stM_L, rd_s, rd_j, rd_n, stM_n, rdL_s, rdL_j, rdL_n, stL_n]) h.pl, RB_c (S := S) (Nat.le_succ c) hc (by simp (disch := omega) only [wOk, wT, mS, mwO, mwT, stL_2, stL_1, stM_1, stM_L, rd_s, rd_j, rd_n, stM_n, rdL_s, rdL_j, rdL_n, stL_n]) (fun t ht => by simp (disch := omega) only [wOk, wT, mS, mwO, mwT, stL_2, stL_1, stM_1, stM_L, rd_s, rd_j, rd_n, stM_n, rdL_s, rdL_j, rdL_n, stL_n]) rfl (fun t h1 h2 => by simp (disch := omega) only [wOk, wT, mS, mwO, mwT, stL_2, stL_1, stM_1, stM_L, rd_s, rd_j, rd_n, stM_n, rdL_s, rdL_j, rdL_n, stL_n]) h.bk, ⟨fun i' p' hi' hp' => ?_, fun s a hs ha => ?_⟩, RK_c (fun t ht => by simp (disch := omega) only [wOk, wT, mS, mwO, mwT, stL_2, stL_1, stM_1, stM_L, rd_s, rd_j, rd_n, stM_n, rdL_s, rdL_j, rdL_n, stL_n]) h.ki⟩
      · have := h.pe.1 i' p' hi' hp'
        unfold gPe at this ⊢
        by_cases hi2 : i' = i
        · subst hi2
          by_cases hp2 : p' = p
          · subst hp2
            simp (disch := omega) only [wOk, wT, mS, mwO, mwT, stL_2, stL_1, stM_1, stM_L, rd_s, rd_j, rd_n, stM_n, rdL_s, rdL_j, rdL_n, stL_n]
            obtain ⟨b1, b2, -⟩ := this
            exact ⟨fun q => absurd q ho, fun q => ⟨trivial, (b2 q).2⟩, _, o1, rfl⟩
          · simp (disch := omega) only [wOk, wT, mS, mwO, mwT, stL_2, stL_1, stM_1, stM_L, rd_s, rd_j, rd_n, stM_n, rdL_s, rdL_j, rdL_n, stL_n]
            exact this
        · simp (disch := omega) only [wOk, wT, mS, mwO, mwT, stL_2, stL_1, stM_1, stM_L, rd_s, rd_j, rd_n, stM_n, rdL_s, rdL_j, rdL_n, stL_n]
          exact this
      · rw [knM_c (R := S) (by simp (disch := omega) only [wOk, wT, mS, mwO, mwT, stL_2, stL_1, stM_1, stM_L, rd_s, rd_j, rd_n, stM_n, rdL_s, rdL_j, rdL_n, stL_n]) (by simp (disch := omega) only [wOk, wT, mS, mwO, mwT, stL_2, stL_1, stM_1, stM_L, rd_s, rd_j, rd_n, stM_n, rdL_s, rdL_j, rdL_n, stL_n]) (by simp (disch := omega) only [wOk, wT, mS, mwO, mwT, stL_2, stL_1, stM_1, stM_L, rd_s, rd_j, rd_n, stM_n, rdL_s, rdL_j, rdL_n, stL_n])]
        simp (disch := omega) only [wOk, wT, mS, mwO, mwT, stL_2, stL_1, stM_1, stM_L, rd_s, rd_j, rd_n, stM_n, rdL_s, rdL_j, rdL_n, stL_n]
        exact h.pe.2 s a hs ha
    · simp (disch := omega) only [dKey, mKey, h.j0, h.j1, h0, h1, ↓reduceIte, wOk, wT, mS, mwO, mwT, stL_2, stL_1, stM_1, stM_L, rd_s, rd_j, rd_n, stM_n, rdL_s, rdL_j, rdL_n, stL_n]
      exact Pu_tn h hc
  · simp (disch := omega) only [dKey, mKey, h.j0, h0, ↓reduceIte, wOk, wT, mS, mwO, mwT, stL_2, stL_1, stM_1, stM_L, rd_s, rd_j, rd_n, stM_n, rdL_s, rdL_j, rdL_n, stL_n]
    exact Pu_rd h hc
