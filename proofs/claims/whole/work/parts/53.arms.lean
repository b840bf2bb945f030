/-! arms and tear -/
theorem div_all : ∀ Z, Z < 25 → ∀ W, W < 25 → 1 ≤ W → nI Z / nI W = nI (Z / W) := by decide +kernel
def wS (w : Int64) (s : Nat) : Int64 := if w ^^^ (nI s + 1).toInt64 * (-7046029254386353131) = 0 then 1 else w ^^^ (nI s + 1).toInt64 * (-7046029254386353131)
section RSV
variable {S : zSt} {w : Int64} {n : Nat}
theorem rsL_1n {u : Nat} (h : u < 40 ∨ 40 + n ≤ u) : (rsL S w n).1 u = S.1 u := by
  induction n with
  | zero => rfl
  | succ n ih =>
    rw [rsL, rstF]
    split
    · show (stP (rsL S w n) (40 + n) 1).1 u = _
      rw [stP_n (by omega)]; exact ih (by omega)
    · show (stP (rsL S w n) (40 + n) 1).1 u = _
      rw [stP_n (by omega)]; exact ih (by omega)
theorem rsL_1s {t : Nat} (h : t < n) : (rsL S w n).1 (40 + t) = 1 := by
  induction n with
  | zero => omega
  | succ n ih =>
    have e9 : (stP (rsL S w n) (40 + n) 1).1 (40 + t) = 1 := by
      by_cases e : t = n
      · rw [e]; exact stP_s
      · rw [stP_n (by omega)]; exact ih (by omega)
    rw [rsL, rstF]
    split
    · exact e9
    · exact e9
theorem rsL_n {u : Nat} (h : u < 40 ∨ 40 + n ≤ u) : (rsL S w n).2.2 u = S.2.2 u := by
  induction n with
  | zero => rfl
  | succ n ih =>
    rw [rsL, rstF]
    split
    · rw [stM_n (by omega)]; exact ih (by omega)
    · rw [stM_n (by omega)]; exact ih (by omega)
theorem rsL_j {t j : Nat} (h : j ≠ 5) : (rsL S w n).2.2 (40 + t) j = S.2.2 (40 + t) j := by
  have e : ∀ (Q : zSt) (u : Nat) (v : Int32), (stM Q (40 + u) 5 v).2.2 (40 + t) j = Q.2.2 (40 + t) j := fun Q u v => by
    by_cases ht : 40 + t = 40 + u
    · rw [ht, rd_j h]
    · rw [rd_n ht]
  induction n with
  | zero => rfl
  | succ n ih =>
    rw [rsL, rstF]
    split
    · rw [e]; exact ih
    · rw [e]; exact ih
theorem rsL_5 {t : Nat} (h : t < n) : (rsL S w n).2.2 (40 + t) 5 = 0 := by
  induction n with
  | zero => omega
  | succ n ih =>
    rw [rsL, rstF]
    by_cases e : t = n
    · subst e
      split
      · exact rd_s
      · exact rd_s
    · split
      · rw [rd_n (by omega)]; exact ih (by omega)
      · rw [rd_n (by omega)]; exact ih (by omega)
theorem rsL_Ln {u : Nat} (h : u < 40 ∨ 40 + n ≤ u) : (rsL S w n).2.1 u = S.2.1 u := by
  induction n with
  | zero => rfl
  | succ n ih =>
    rw [rsL, rstF]
    split
    · rw [stM_L, stL_n (by omega), stL_n (by omega)]; exact ih (by omega)
    · rw [stM_L, stL_n (by omega)]; exact ih (by omega)
theorem rsL_L {t : Nat} (h : t < n) (h1 : S.2.2 (40 + t) 0 = nI t) : (rsL S w n).2.1 (40 + t) 4 = wS w t := by
  induction n with
  | zero => omega
  | succ n ih =>
    rw [rsL, rstF]
    by_cases e : t = n
    · subst e
      rw [rsL_j (by decide), h1]
      unfold wS
      split
      · rw [stM_L, rdL_s]
      · rw [stM_L, rdL_s]
    · split
      · rw [stM_L, rdL_n (by omega), rdL_n (by omega)]; exact ih (by omega)
      · rw [stM_L, rdL_n (by omega)]; exact ih (by omega)
theorem amL_2 : (amL S w n).2.2 = S.2.2 := by
  induction n with
  | zero => rfl
  | succ n ih => exact ih
theorem amL_1 : (amL S w n).1 = S.1 := by
  induction n with
  | zero => rfl
  | succ n ih => exact ih
theorem amL_18 {t : Nat} (h : t < n) : (amL S w n).2.1 18 t = wS w t := by
  induction n with
  | zero => omega
  | succ n ih =>
    rw [amL]
    by_cases e : t = n
    · rw [e, rdL_s]; rfl
    · rw [rdL_j e]; exact ih (by omega)
end RSV

theorem tk_iff {g : Gh} {c : Nat} {S : zSt} (h : Rel g c S) (hc : c < 512) : hasF (fun q => decide (¬ S.2.2 (40 + q) 6 ≤ 0)) 8 0 = 0 ↔ g.T = 0 := by
  have hT := h.bk.2.1
  rw [hasF_0]
  refine ⟨fun a => Decidable.byContradiction fun ne => ?_, fun e q _ hq => decide_eq_false fun z => ?_⟩
  · obtain ⟨-, o2, -⟩ := h.bk.2.2.2.2.1 (g.T - 1) (by omega)
    have := of_decide_eq_false (a (g.bs (g.T - 1)) (by omega) (by omega))
    rw [(h.bk.2.2.2.2.2 _ o2).2.1] at this
    have lt := rkA_lt (ar := g.bs) (a := g.bs (g.T - 1)) (j := g.T - 1) (k := g.T) (by omega) rfl
    have le : rkA g.bs (g.bs (g.T - 1)) g.T ≤ g.T := rkA_le
    exact this fun z => absurd ((nI_leI (b := 0) (by omega) (by omega)).mp z) (by omega)
  · rw [(h.bk.2.2.2.2.2 q (by omega)).2.1, e] at z
    exact z (by rw [show rkA g.bs q 0 = 0 from rfl]; decide)
theorem arms_in {a b c d z : Int32} (hv : ¬ areW a b c d = 0) (hz : ¬ isZ z (a + b + c + d) = 0) : ¬ wiF a 1 3 = 0 ∧ ¬ wiF b 1 3 = 0 ∧ ¬ wiF c 0 3 = 0 ∧ ¬ wiF d 0 3 = 0 ∧ (c = 0 → d = 0) ∧ ¬ wiF z 1 24 = 0 ∧ z - z / (a + b + c + d) * (a + b + c + d) = 0 := by
  have q1 : ¬ isW a 1 = 0 := fun q => hv (by unfold areW; rw [if_pos q])
  have q2 : ¬ isW b 1 = 0 := fun q => hv (by unfold areW; rw [if_neg q1, if_pos q])
  have q3 : ¬ isW c 0 = 0 := fun q => hv (by unfold areW; rw [if_neg q1, if_neg q2, if_pos q])
  have q4 : ¬ isW d 0 = 0 := fun q => hv (by unfold areW; rw [if_neg q1, if_neg q2, if_neg q3, if_pos q])
  unfold areW at hv
  rw [if_neg q1, if_neg q2, if_neg q3, if_neg q4] at hv
  have z1 : ¬ z < 1 := fun q => hz (by unfold isZ; rw [if_pos q])
  have z2 : ¬ 24 < z := fun q => hz (by unfold isZ; rw [if_neg z1, if_pos q])
  have z3 : ¬ a + b + c + d < 1 := fun q => hz (by unfold isZ; rw [if_neg z1, if_neg z2, if_pos q])
  unfold isZ at hz
  rw [if_neg z1, if_neg z2, if_neg z3] at hz
  refine ⟨q1, q2, q3, q4, fun q => Decidable.byContradiction fun r => hv (by rw [if_pos q, if_neg r]), ?_, Decidable.byContradiction fun r => hz (by rw [if_neg r])⟩
  unfold wiF
  rw [if_neg z1, if_neg z2]
  decide
/-- what the plan of good arms holds -/
theorem arms_pl {a b c d z : Int32} (q1 : ¬ wiF a 1 3 = 0) (q2 : ¬ wiF b 1 3 = 0) (q3 : ¬ wiF c 0 3 = 0) (q4 : ¬ wiF d 0 3 = 0) (hcd : c = 0 → d = 0) (q6 : ¬ wiF z 1 24 = 0) (hr : z - z / (a + b + c + d) * (a + b + c + d) = 0) : ∃ (A Z W : Nat) (e : Nat → Nat), 2 + (if c ≤ 0 then 0 else 1) + (if d ≤ 0 then 0 else 1) = nI A ∧ acM c d = nI A ∧ z = nI Z ∧ ∀ X : zSt, X.2.2 1 2 = a + b + c + d → X.2.2 14 0 = a → X.2.2 14 1 = b → X.2.2 14 2 = c → X.2.2 14 3 = d → gPl A Z W e X := by
  obtain ⟨wa, wb, wc, wd, hg⟩ := gW_of q1 q2 q3 q4
  obtain ⟨Z, z1, z2, rfl⟩ := wi1 (l := 1) (h := 24) (by decide) (by decide) q6
  have hs := gW_sum hg
  obtain ⟨rfl, rfl, rfl, rfl, g1, g2, g3, g4, g5, g6⟩ := hg
  have hcd' : wc = 0 → wd = 0 := fun q => by
    subst q
    exact nI_ij (by omega) (by omega) (hcd rfl)
  have hdiv := div_all Z (by omega) (wa + wb + wc + wd) (by omega) (by omega)
  have hle : Z / (wa + wb + wc + wd) * (wa + wb + wc + wd) ≤ Z := Nat.div_mul_le_self _ _
  have hZ : Z / (wa + wb + wc + wd) * (wa + wb + wc + wd) = Z := by
    rw [hs, hdiv, pk_mul, pk_sub hle] at hr
    have := nI_ij (a := Z - Z / (wa + wb + wc + wd) * (wa + wb + wc + wd)) (b := 0) (by omega) (by omega) hr
    omega
  have i0 : ∀ k, k ≤ 3 → (nI k ≤ 0 ↔ k = 0) := fun k hk => ⟨fun q => by have := (nI_leI (b := 0) (by omega) (by omega)).mp q; omega, fun q => by rw [q]; decide⟩
  generalize hQ : Z / (wa + wb + wc + wd) = Q at hZ hdiv
  refine ⟨2 + (if wc = 0 then 0 else 1) + (if wd = 0 then 0 else 1), Z, wa + wb + wc + wd, fun k => (if k = 0 then wa else if k = 1 then wb else if k = 2 then wc else wd) * Q, ?_, ?_, rfl, fun X x2 x0 x1 x2' x3 => ⟨?_, ?_, z1, z2, by omega, by omega, by rw [x2, hs], by rw [x0, x1, x2', x3, hs], fun k hk => ?_, ?_⟩⟩
  · by_cases e1 : wc = 0
    · have e2 := hcd' e1
      rw [if_pos ((i0 wc g5).mpr e1), if_pos ((i0 wd g6).mpr e2), if_pos e1, if_pos e2]; rfl
    · by_cases e2 : wd = 0
      · rw [if_neg (fun q => e1 ((i0 wc g5).mp q)), if_pos ((i0 wd g6).mpr e2), if_neg e1, if_pos e2]; rfl
      · rw [if_neg (fun q => e1 ((i0 wc g5).mp q)), if_neg (fun q => e2 ((i0 wd g6).mp q)), if_neg e1, if_neg e2]; rfl
  · unfold acM
    by_cases e1 : wc = 0
    · have e2 := hcd' e1
      rw [if_pos ((i0 wd g6).mpr e2), if_pos ((i0 wc g5).mpr e1), if_pos e1, if_pos e2]; rfl
    · by_cases e2 : wd = 0
      · rw [if_pos ((i0 wd g6).mpr e2), if_neg (fun q => e1 ((i0 wc g5).mp q)), if_neg e1, if_pos e2]; rfl
      · rw [if_neg (fun q => e2 ((i0 wd g6).mp q)), if_neg e1, if_neg e2]; rfl
  · omega
  · split <;> split <;> omega
  · rw [hdiv]
    have : k = 0 ∨ k = 1 ∨ k = 2 ∨ k = 3 := by
      have : (2 + (if wc = 0 then 0 else 1) + (if wd = 0 then 0 else 1)) ≤ 4 := by split <;> split <;> omega
      omega
    rcases this with rfl | rfl | rfl | rfl
    · rw [x0, pk_mul]; rfl
    · rw [x1, pk_mul]; rfl
    · rw [x2', pk_mul]; rfl
    · rw [x3, pk_mul]; rfl
  · by_cases e1 : wc = 0
    · have e2 := hcd' e1
      rw [if_pos e1, if_pos e2]
      subst e1 e2
      show 0 + wa * Q + wb * Q = Z
      rw [← hZ, Nat.mul_comm Q]; simp only [Nat.add_mul, Nat.add_zero, Nat.zero_add, Nat.zero_mul]
    · by_cases e2 : wd = 0
      · rw [if_neg e1, if_pos e2]
        subst e2
        show 0 + wa * Q + wb * Q + wc * Q = Z
        rw [← hZ, Nat.mul_comm Q]; simp only [Nat.add_mul, Nat.add_zero, Nat.zero_add, Nat.zero_mul]
      · rw [if_neg e1, if_neg e2]
        show 0 + wa * Q + wb * Q + wc * Q + wd * Q = Z
        rw [← hZ, Nat.mul_comm Q]; simp only [Nat.add_mul, Nat.add_zero, Nat.zero_add, Nat.zero_mul]
def SimA (l : Launch) (D : va_G) (K : Nat → ClassId) (ad : Nat → Nat) (S : zSt) (c : Nat) (av : List Value) : Prop :=
  ∃ (rm : Room) (k : Int32) (S1 : zSt), zCW l D zcls (ztyl K) y_La_arms (.codeWith y_La_arms b_La_arms 9 (some .int) [(0, 13, 16, 13), (0, 13, 20, 15)]) rm (.ref (ad 0) :: av) ad (Lay K ad S) (zP K ad (some (.int k)) S1) ∧ rm.frames ≤ 9 ∧ rm.locals ≤ 200 ∧ rm.cells ≤ 25 ∧ rm.slots ≤ 48 * (c + 1) + 700 ∧
    ∃ (f w : Nat) (S2 : zSt) (g' : Gh), zC l TB D zcls (ztyl K) y_Mo_arms (.code y_Mo_arms b_Mo_arms 12 (none : Option FieldType)) (rmk f w) (.ref (ad 13) :: av) ad (Lay K ad S1) (zP K ad none S2) ∧ f ≤ 8 ∧ w ≤ 200 ∧ S2.2.2 13 0 = k ∧ Rel g' (c + 1) S2
theorem pu_arms {g : Gh} {c : Nat} {S : zSt} (h : Rel g c S) (hc : c < 512) {a b cc d z : Int32} {w : Int64} (hv : ¬ areW a b cc d = 0) (hz : ¬ isZ z (a + b + cc + d) = 0) (hT0 : g.T = 0) : (mArms (dArms S a b cc d z w) a b cc d z w).2.2 13 0 = 0 ∧ ∃ g', Rel g' (c + 1) (mArms (dArms S a b cc d z w) a b cc d z w) := by
  by_cases h0 : S.2.2 13 1 = 0
  · by_cases h1 : S.2.2 13 2 = 0
    · obtain ⟨q1, q2, q3, q4, hcd, q6, hr⟩ := arms_in hv hz
      obtain ⟨A, Z, W, e, eA, eA', eZ, ePl⟩ := arms_pl q1 q2 q3 q4 hcd q6 hr
      have eD : dArms S a b cc d z w = rsL (setF (wOk S) a b cc d z) w 8 := by
        unfold dArms
        rw [if_pos (h.j0.trans h0), if_pos (h.j1.trans h1)]
      rw [eD]
      have eM : mArms (rsL (setF (wOk S) a b cc d z) w 8) a b cc d z w = amL (setM (rsL (setF (wOk S) a b cc d z) w 8) a b cc d z w) w 8 := by
        unfold mArms setF
        rw [if_pos (by simp (disch := omega) only [h0, wOk, wT, mS, mwO, mwT, stL_2, stL_1, stM_1, stM_L, rd_s, rd_j, rd_n, stM_n, rdL_s, rdL_j, rdL_n, stL_n, s9_n, s9_1, s9_L, putF_n, putF_1, putF_L, kpM_n, kpM_1, kpM_L, dpF_n, dropF_1, dropF_L, clR_n, clR_1, clR_L, clP_n, clP_1, clP_L, frmF_n, frmF_1, frmF_L, rqF_n, rpF_1, rpF_L, rpP_n, rpP_1, rpP_L, rkI_n, rkI_1, rkI_L, rpR_n, rpR_1, rpR_L, gvM_n, gvM_1, gvM_L, enF_n, enF_1, enF_L, usF_n, usF_1, usF_L, teF_n, teF_1, teF_L, akF_n, akF_1, akF_L, tbM_n, tbM_13, tbM_1, tbM_L, naM_n, naM_13, naM_1, naM_L, fillF_n, fillF_1, fillF_L, markF_n, markF_1, markF_L, rmS_n, rmS_1, rmS_L, st11_n, st11_1, st11_L, rsL_n, rsL_1n, amL_2, amL_1]), if_pos (by simp (disch := omega) only [h1, wOk, wT, mS, mwO, mwT, stL_2, stL_1, stM_1, stM_L, rd_s, rd_j, rd_n, stM_n, rdL_s, rdL_j, rdL_n, stL_n, s9_n, s9_1, s9_L, putF_n, putF_1, putF_L, kpM_n, kpM_1, kpM_L, dpF_n, dropF_1, dropF_L, clR_n, clR_1, clR_L, clP_n, clP_1, clP_L, frmF_n, frmF_1, frmF_L, rqF_n, rpF_1, rpF_L, rpP_n, rpP_1, rpP_L, rkI_n, rkI_1, rkI_L, rpR_n, rpR_1, rpR_L, gvM_n, gvM_1, gvM_L, enF_n, enF_1, enF_L, usF_n, usF_1, usF_L, teF_n, teF_1, teF_L, akF_n, akF_1, akF_L, tbM_n, tbM_13, tbM_1, tbM_L, naM_n, naM_13, naM_1, naM_L, fillF_n, fillF_1, fillF_L, markF_n, markF_1, markF_L, rmS_n, rmS_1, rmS_L, st11_n, st11_1, st11_L, rsL_n, rsL_1n, amL_2, amL_1])]
      rw [eM]
      obtain ⟨X, hX⟩ : ∃ X, X = amL (setM (rsL (setF (wOk S) a b cc d z) w 8) a b cc d z w) w 8 := ⟨_, rfl⟩
      rw [← hX]
      have xt : ∀ t, t < 8 → X.2.1 (40 + t) 4 = X.2.1 18 t := fun t ht => by
        rw [hX, amL_18 ht, amL_n (by omega)]
        unfold setM
        rw [stL_n (by omega), stM_L, stM_L, stM_L, stM_L, stM_L, stM_L, stM_L, stM_L]
        refine rsL_L ht ?_
        unfold setF
        simp (disch := omega) only [wOk, wT, mS, mwO, mwT, stL_2, stL_1, stM_1, stM_L, rd_s, rd_j, rd_n, stM_n, rdL_s, rdL_j, rdL_n, stL_n, s9_n, s9_1, s9_L, putF_n, putF_1, putF_L, kpM_n, kpM_1, kpM_L, dpF_n, dropF_1, dropF_L, clR_n, clR_1, clR_L, clP_n, clP_1, clP_L, frmF_n, frmF_1, frmF_L, rqF_n, rpF_1, rpF_L, rpP_n, rpP_1, rpP_L, rkI_n, rkI_1, rkI_L, rpR_n, rpR_1, rpR_L, gvM_n, gvM_1, gvM_L, enF_n, enF_1, enF_L, usF_n, usF_1, usF_L, teF_n, teF_1, teF_L, akF_n, akF_1, akF_L, tbM_n, tbM_13, tbM_1, tbM_L, naM_n, naM_13, naM_1, naM_L, fillF_n, fillF_1, fillF_L, markF_n, markF_1, markF_L, rmS_n, rmS_1, rmS_L, st11_n, st11_1, st11_L, rsL_n, rsL_1n, amL_2, amL_1]
        exact (h.bk.2.2.2.2.2 t ht).2.2.1.1
      have x5s : ∀ t, t < 8 → X.2.2 (40 + t) 5 = 0 := fun t ht => by rw [hX]; unfold setM; simp (disch := omega) only [wOk, wT, mS, mwO, mwT, stL_2, stL_1, stM_1, stM_L, rd_s, rd_j, rd_n, stM_n, rdL_s, rdL_j, rdL_n, stL_n, s9_n, s9_1, s9_L, putF_n, putF_1, putF_L, kpM_n, kpM_1, kpM_L, dpF_n, dropF_1, dropF_L, clR_n, clR_1, clR_L, clP_n, clP_1, clP_L, frmF_n, frmF_1, frmF_L, rqF_n, rpF_1, rpF_L, rpP_n, rpP_1, rpP_L, rkI_n, rkI_1, rkI_L, rpR_n, rpR_1, rpR_L, gvM_n, gvM_1, gvM_L, enF_n, enF_1, enF_L, usF_n, usF_1, usF_L, teF_n, teF_1, teF_L, akF_n, akF_1, akF_L, tbM_n, tbM_13, tbM_1, tbM_L, naM_n, naM_13, naM_1, naM_L, fillF_n, fillF_1, fillF_L, markF_n, markF_1, markF_L, rmS_n, rmS_1, rmS_L, st11_n, st11_1, st11_L, rsL_n, rsL_1n, amL_2, amL_1]; exact rsL_5 ht
      have xj : ∀ t j, t < 8 → j ≠ 5 → X.2.2 (40 + t) j = S.2.2 (40 + t) j := fun t j ht hj => by rw [hX]; unfold setM; simp (disch := omega) only [wOk, wT, mS, mwO, mwT, stL_2, stL_1, stM_1, stM_L, rd_s, rd_j, rd_n, stM_n, rdL_s, rdL_j, rdL_n, stL_n, s9_n, s9_1, s9_L, putF_n, putF_1, putF_L, kpM_n, kpM_1, kpM_L, dpF_n, dropF_1, dropF_L, clR_n, clR_1, clR_L, clP_n, clP_1, clP_L, frmF_n, frmF_1, frmF_L, rqF_n, rpF_1, rpF_L, rpP_n, rpP_1, rpP_L, rkI_n, rkI_1, rkI_L, rpR_n, rpR_1, rpR_L, gvM_n, gvM_1, gvM_L, enF_n, enF_1, enF_L, usF_n, usF_1, usF_L, teF_n, teF_1, teF_L, akF_n, akF_1, akF_L, tbM_n, tbM_13, tbM_1, tbM_L, naM_n, naM_13, naM_1, naM_L, fillF_n, fillF_1, fillF_L, markF_n, markF_1, markF_L, rmS_n, rmS_1, rmS_L, st11_n, st11_1, st11_L, rsL_n, rsL_1n, amL_2, amL_1]; rw [rsL_j hj]; unfold setF; simp (disch := omega) only [wOk, wT, mS, mwO, mwT, stL_2, stL_1, stM_1, stM_L, rd_s, rd_j, rd_n, stM_n, rdL_s, rdL_j, rdL_n, stL_n, s9_n, s9_1, s9_L, putF_n, putF_1, putF_L, kpM_n, kpM_1, kpM_L, dpF_n, dropF_1, dropF_L, clR_n, clR_1, clR_L, clP_n, clP_1, clP_L, frmF_n, frmF_1, frmF_L, rqF_n, rpF_1, rpF_L, rpP_n, rpP_1, rpP_L, rkI_n, rkI_1, rkI_L, rpR_n, rpR_1, rpR_L, gvM_n, gvM_1, gvM_L, enF_n, enF_1, enF_L, usF_n, usF_1, usF_L, teF_n, teF_1, teF_L, akF_n, akF_1, akF_L, tbM_n, tbM_13, tbM_1, tbM_L, naM_n, naM_13, naM_1, naM_L, fillF_n, fillF_1, fillF_L, markF_n, markF_1, markF_L, rmS_n, rmS_1, rmS_L, st11_n, st11_1, st11_L, rsL_n, rsL_1n, amL_2, amL_1]
      unfold setM setF at hX
      have xo : ∀ t, (t ≠ 1 ∧ t ≠ 2 ∧ t ≠ 3 ∧ t ≠ 13 ∧ t ≠ 14 ∧ ¬ (40 ≤ t ∧ t < 48)) → X.2.2 t = S.2.2 t := fun t ht => by rw [hX]; simp (disch := omega) only [wOk, wT, mS, mwO, mwT, stL_2, stL_1, stM_1, stM_L, rd_s, rd_j, rd_n, stM_n, rdL_s, rdL_j, rdL_n, stL_n, s9_n, s9_1, s9_L, putF_n, putF_1, putF_L, kpM_n, kpM_1, kpM_L, dpF_n, dropF_1, dropF_L, clR_n, clR_1, clR_L, clP_n, clP_1, clP_L, frmF_n, frmF_1, frmF_L, rqF_n, rpF_1, rpF_L, rpP_n, rpP_1, rpP_L, rkI_n, rkI_1, rkI_L, rpR_n, rpR_1, rpR_L, gvM_n, gvM_1, gvM_L, enF_n, enF_1, enF_L, usF_n, usF_1, usF_L, teF_n, teF_1, teF_L, akF_n, akF_1, akF_L, tbM_n, tbM_13, tbM_1, tbM_L, naM_n, naM_13, naM_1, naM_L, fillF_n, fillF_1, fillF_L, markF_n, markF_1, markF_L, rmS_n, rmS_1, rmS_L, st11_n, st11_1, st11_L, rsL_n, rsL_1n, amL_2, amL_1]
      have x1 : ∀ t, ¬ (40 ≤ t ∧ t < 48) → X.1 t = S.1 t := fun t ht => by rw [hX]; simp (disch := omega) only [wOk, wT, mS, mwO, mwT, stL_2, stL_1, stM_1, stM_L, rd_s, rd_j, rd_n, stM_n, rdL_s, rdL_j, rdL_n, stL_n, s9_n, s9_1, s9_L, putF_n, putF_1, putF_L, kpM_n, kpM_1, kpM_L, dpF_n, dropF_1, dropF_L, clR_n, clR_1, clR_L, clP_n, clP_1, clP_L, frmF_n, frmF_1, frmF_L, rqF_n, rpF_1, rpF_L, rpP_n, rpP_1, rpP_L, rkI_n, rkI_1, rkI_L, rpR_n, rpR_1, rpR_L, gvM_n, gvM_1, gvM_L, enF_n, enF_1, enF_L, usF_n, usF_1, usF_L, teF_n, teF_1, teF_L, akF_n, akF_1, akF_L, tbM_n, tbM_13, tbM_1, tbM_L, naM_n, naM_13, naM_1, naM_L, fillF_n, fillF_1, fillF_L, markF_n, markF_1, markF_L, rmS_n, rmS_1, rmS_L, st11_n, st11_1, st11_L, rsL_n, rsL_1n, amL_2, amL_1]
      have x1s : ∀ t, t < 8 → X.1 (40 + t) = 1 := fun t ht => by rw [hX]; simp (disch := omega) only [wOk, wT, mS, mwO, mwT, stL_2, stL_1, stM_1, stM_L, rd_s, rd_j, rd_n, stM_n, rdL_s, rdL_j, rdL_n, stL_n, s9_n, s9_1, s9_L, putF_n, putF_1, putF_L, kpM_n, kpM_1, kpM_L, dpF_n, dropF_1, dropF_L, clR_n, clR_1, clR_L, clP_n, clP_1, clP_L, frmF_n, frmF_1, frmF_L, rqF_n, rpF_1, rpF_L, rpP_n, rpP_1, rpP_L, rkI_n, rkI_1, rkI_L, rpR_n, rpR_1, rpR_L, gvM_n, gvM_1, gvM_L, enF_n, enF_1, enF_L, usF_n, usF_1, usF_L, teF_n, teF_1, teF_L, akF_n, akF_1, akF_L, tbM_n, tbM_13, tbM_1, tbM_L, naM_n, naM_13, naM_1, naM_L, fillF_n, fillF_1, fillF_L, markF_n, markF_1, markF_L, rmS_n, rmS_1, rmS_L, st11_n, st11_1, st11_L, rsL_n, rsL_1n, amL_2, amL_1]; exact rsL_1s ht
      have x130 : X.2.2 13 0 = 0 := by rw [hX]; simp (disch := omega) only [wOk, wT, mS, mwO, mwT, stL_2, stL_1, stM_1, stM_L, rd_s, rd_j, rd_n, stM_n, rdL_s, rdL_j, rdL_n, stL_n, s9_n, s9_1, s9_L, putF_n, putF_1, putF_L, kpM_n, kpM_1, kpM_L, dpF_n, dropF_1, dropF_L, clR_n, clR_1, clR_L, clP_n, clP_1, clP_L, frmF_n, frmF_1, frmF_L, rqF_n, rpF_1, rpF_L, rpP_n, rpP_1, rpP_L, rkI_n, rkI_1, rkI_L, rpR_n, rpR_1, rpR_L, gvM_n, gvM_1, gvM_L, enF_n, enF_1, enF_L, usF_n, usF_1, usF_L, teF_n, teF_1, teF_L, akF_n, akF_1, akF_L, tbM_n, tbM_13, tbM_1, tbM_L, naM_n, naM_13, naM_1, naM_L, fillF_n, fillF_1, fillF_L, markF_n, markF_1, markF_L, rmS_n, rmS_1, rmS_L, st11_n, st11_1, st11_L, rsL_n, rsL_1n, amL_2, amL_1]
      have j0 : X.2.2 3 0 = X.2.2 13 1 := by rw [hX]; simp (disch := omega) only [wOk, wT, mS, mwO, mwT, stL_2, stL_1, stM_1, stM_L, rd_s, rd_j, rd_n, stM_n, rdL_s, rdL_j, rdL_n, stL_n, s9_n, s9_1, s9_L, putF_n, putF_1, putF_L, kpM_n, kpM_1, kpM_L, dpF_n, dropF_1, dropF_L, clR_n, clR_1, clR_L, clP_n, clP_1, clP_L, frmF_n, frmF_1, frmF_L, rqF_n, rpF_1, rpF_L, rpP_n, rpP_1, rpP_L, rkI_n, rkI_1, rkI_L, rpR_n, rpR_1, rpR_L, gvM_n, gvM_1, gvM_L, enF_n, enF_1, enF_L, usF_n, usF_1, usF_L, teF_n, teF_1, teF_L, akF_n, akF_1, akF_L, tbM_n, tbM_13, tbM_1, tbM_L, naM_n, naM_13, naM_1, naM_L, fillF_n, fillF_1, fillF_L, markF_n, markF_1, markF_L, rmS_n, rmS_1, rmS_L, st11_n, st11_1, st11_L, rsL_n, rsL_1n, amL_2, amL_1, h.j0, h.j1, h.j2, h.o7]
      have j1 : jT X := by rw [hX]; exact ⟨by simp (disch := omega) only [wOk, wT, mS, mwO, mwT, stL_2, stL_1, stM_1, stM_L, rd_s, rd_j, rd_n, stM_n, rdL_s, rdL_j, rdL_n, stL_n, s9_n, s9_1, s9_L, putF_n, putF_1, putF_L, kpM_n, kpM_1, kpM_L, dpF_n, dropF_1, dropF_L, clR_n, clR_1, clR_L, clP_n, clP_1, clP_L, frmF_n, frmF_1, frmF_L, rqF_n, rpF_1, rpF_L, rpP_n, rpP_1, rpP_L, rkI_n, rkI_1, rkI_L, rpR_n, rpR_1, rpR_L, gvM_n, gvM_1, gvM_L, enF_n, enF_1, enF_L, usF_n, usF_1, usF_L, teF_n, teF_1, teF_L, akF_n, akF_1, akF_L, tbM_n, tbM_13, tbM_1, tbM_L, naM_n, naM_13, naM_1, naM_L, fillF_n, fillF_1, fillF_L, markF_n, markF_1, markF_L, rmS_n, rmS_1, rmS_L, st11_n, st11_1, st11_L, rsL_n, rsL_1n, amL_2, amL_1, h.j0, h.j1, h.j2, h.o7], by simp (disch := omega) only [wOk, wT, mS, mwO, mwT, stL_2, stL_1, stM_1, stM_L, rd_s, rd_j, rd_n, stM_n, rdL_s, rdL_j, rdL_n, stL_n, s9_n, s9_1, s9_L, putF_n, putF_1, putF_L, kpM_n, kpM_1, kpM_L, dpF_n, dropF_1, dropF_L, clR_n, clR_1, clR_L, clP_n, clP_1, clP_L, frmF_n, frmF_1, frmF_L, rqF_n, rpF_1, rpF_L, rpP_n, rpP_1, rpP_L, rkI_n, rkI_1, rkI_L, rpR_n, rpR_1, rpR_L, gvM_n, gvM_1, gvM_L, enF_n, enF_1, enF_L, usF_n, usF_1, usF_L, teF_n, teF_1, teF_L, akF_n, akF_1, akF_L, tbM_n, tbM_13, tbM_1, tbM_L, naM_n, naM_13, naM_1, naM_L, fillF_n, fillF_1, fillF_L, markF_n, markF_1, markF_L, rmS_n, rmS_1, rmS_L, st11_n, st11_1, st11_L, rsL_n, rsL_1n, amL_2, amL_1]; exact h.jb⟩
      have j2 : X.2.2 3 2 = X.2.2 13 3 := by rw [hX]; simp (disch := omega) only [wOk, wT, mS, mwO, mwT, stL_2, stL_1, stM_1, stM_L, rd_s, rd_j, rd_n, stM_n, rdL_s, rdL_j, rdL_n, stL_n, s9_n, s9_1, s9_L, putF_n, putF_1, putF_L, kpM_n, kpM_1, kpM_L, dpF_n, dropF_1, dropF_L, clR_n, clR_1, clR_L, clP_n, clP_1, clP_L, frmF_n, frmF_1, frmF_L, rqF_n, rpF_1, rpF_L, rpP_n, rpP_1, rpP_L, rkI_n, rkI_1, rkI_L, rpR_n, rpR_1, rpR_L, gvM_n, gvM_1, gvM_L, enF_n, enF_1, enF_L, usF_n, usF_1, usF_L, teF_n, teF_1, teF_L, akF_n, akF_1, akF_L, tbM_n, tbM_13, tbM_1, tbM_L, naM_n, naM_13, naM_1, naM_L, fillF_n, fillF_1, fillF_L, markF_n, markF_1, markF_L, rmS_n, rmS_1, rmS_L, st11_n, st11_1, st11_L, rsL_n, rsL_1n, amL_2, amL_1, h.j0, h.j1, h.j2, h.o7]
      have o7 : X.2.2 0 7 = X.2.2 13 4 := by rw [hX]; simp (disch := omega) only [wOk, wT, mS, mwO, mwT, stL_2, stL_1, stM_1, stM_L, rd_s, rd_j, rd_n, stM_n, rdL_s, rdL_j, rdL_n, stL_n, s9_n, s9_1, s9_L, putF_n, putF_1, putF_L, kpM_n, kpM_1, kpM_L, dpF_n, dropF_1, dropF_L, clR_n, clR_1, clR_L, clP_n, clP_1, clP_L, frmF_n, frmF_1, frmF_L, rqF_n, rpF_1, rpF_L, rpP_n, rpP_1, rpP_L, rkI_n, rkI_1, rkI_L, rpR_n, rpR_1, rpR_L, gvM_n, gvM_1, gvM_L, enF_n, enF_1, enF_L, usF_n, usF_1, usF_L, teF_n, teF_1, teF_L, akF_n, akF_1, akF_L, tbM_n, tbM_13, tbM_1, tbM_L, naM_n, naM_13, naM_1, naM_L, fillF_n, fillF_1, fillF_L, markF_n, markF_1, markF_L, rmS_n, rmS_1, rmS_L, st11_n, st11_1, st11_L, rsL_n, rsL_1n, amL_2, amL_1, h.j0, h.j1, h.j2, h.o7]
      have x139 : X.2.2 13 9 = S.2.2 13 9 := by rw [hX]; simp (disch := omega) only [wOk, wT, mS, mwO, mwT, stL_2, stL_1, stM_1, stM_L, rd_s, rd_j, rd_n, stM_n, rdL_s, rdL_j, rdL_n, stL_n, s9_n, s9_1, s9_L, putF_n, putF_1, putF_L, kpM_n, kpM_1, kpM_L, dpF_n, dropF_1, dropF_L, clR_n, clR_1, clR_L, clP_n, clP_1, clP_L, frmF_n, frmF_1, frmF_L, rqF_n, rpF_1, rpF_L, rpP_n, rpP_1, rpP_L, rkI_n, rkI_1, rkI_L, rpR_n, rpR_1, rpR_L, gvM_n, gvM_1, gvM_L, enF_n, enF_1, enF_L, usF_n, usF_1, usF_L, teF_n, teF_1, teF_L, akF_n, akF_1, akF_L, tbM_n, tbM_13, tbM_1, tbM_L, naM_n, naM_13, naM_1, naM_L, fillF_n, fillF_1, fillF_L, markF_n, markF_1, markF_L, rmS_n, rmS_1, rmS_L, st11_n, st11_1, st11_L, rsL_n, rsL_1n, amL_2, amL_1]
      have p11 : X.2.2 1 1 = nI A := by rw [hX]; simp (disch := omega) only [wOk, wT, mS, mwO, mwT, stL_2, stL_1, stM_1, stM_L, rd_s, rd_j, rd_n, stM_n, rdL_s, rdL_j, rdL_n, stL_n, s9_n, s9_1, s9_L, putF_n, putF_1, putF_L, kpM_n, kpM_1, kpM_L, dpF_n, dropF_1, dropF_L, clR_n, clR_1, clR_L, clP_n, clP_1, clP_L, frmF_n, frmF_1, frmF_L, rqF_n, rpF_1, rpF_L, rpP_n, rpP_1, rpP_L, rkI_n, rkI_1, rkI_L, rpR_n, rpR_1, rpR_L, gvM_n, gvM_1, gvM_L, enF_n, enF_1, enF_L, usF_n, usF_1, usF_L, teF_n, teF_1, teF_L, akF_n, akF_1, akF_L, tbM_n, tbM_13, tbM_1, tbM_L, naM_n, naM_13, naM_1, naM_L, fillF_n, fillF_1, fillF_L, markF_n, markF_1, markF_L, rmS_n, rmS_1, rmS_L, st11_n, st11_1, st11_L, rsL_n, rsL_1n, amL_2, amL_1]; exact eA
      have p12 : X.2.2 1 2 = a + b + cc + d := by rw [hX]; simp (disch := omega) only [wOk, wT, mS, mwO, mwT, stL_2, stL_1, stM_1, stM_L, rd_s, rd_j, rd_n, stM_n, rdL_s, rdL_j, rdL_n, stL_n, s9_n, s9_1, s9_L, putF_n, putF_1, putF_L, kpM_n, kpM_1, kpM_L, dpF_n, dropF_1, dropF_L, clR_n, clR_1, clR_L, clP_n, clP_1, clP_L, frmF_n, frmF_1, frmF_L, rqF_n, rpF_1, rpF_L, rpP_n, rpP_1, rpP_L, rkI_n, rkI_1, rkI_L, rpR_n, rpR_1, rpR_L, gvM_n, gvM_1, gvM_L, enF_n, enF_1, enF_L, usF_n, usF_1, usF_L, teF_n, teF_1, teF_L, akF_n, akF_1, akF_L, tbM_n, tbM_13, tbM_1, tbM_L, naM_n, naM_13, naM_1, naM_L, fillF_n, fillF_1, fillF_L, markF_n, markF_1, markF_L, rmS_n, rmS_1, rmS_L, st11_n, st11_1, st11_L, rsL_n, rsL_1n, amL_2, amL_1]
      have p13 : X.2.2 1 3 = nI Z := by rw [hX]; simp (disch := omega) only [wOk, wT, mS, mwO, mwT, stL_2, stL_1, stM_1, stM_L, rd_s, rd_j, rd_n, stM_n, rdL_s, rdL_j, rdL_n, stL_n, s9_n, s9_1, s9_L, putF_n, putF_1, putF_L, kpM_n, kpM_1, kpM_L, dpF_n, dropF_1, dropF_L, clR_n, clR_1, clR_L, clP_n, clP_1, clP_L, frmF_n, frmF_1, frmF_L, rqF_n, rpF_1, rpF_L, rpP_n, rpP_1, rpP_L, rkI_n, rkI_1, rkI_L, rpR_n, rpR_1, rpR_L, gvM_n, gvM_1, gvM_L, enF_n, enF_1, enF_L, usF_n, usF_1, usF_L, teF_n, teF_1, teF_L, akF_n, akF_1, akF_L, tbM_n, tbM_13, tbM_1, tbM_L, naM_n, naM_13, naM_1, naM_L, fillF_n, fillF_1, fillF_L, markF_n, markF_1, markF_L, rmS_n, rmS_1, rmS_L, st11_n, st11_1, st11_L, rsL_n, rsL_1n, amL_2, amL_1]; exact eZ
      have p135 : X.2.2 13 5 = nI A := by rw [hX]; simp (disch := omega) only [wOk, wT, mS, mwO, mwT, stL_2, stL_1, stM_1, stM_L, rd_s, rd_j, rd_n, stM_n, rdL_s, rdL_j, rdL_n, stL_n, s9_n, s9_1, s9_L, putF_n, putF_1, putF_L, kpM_n, kpM_1, kpM_L, dpF_n, dropF_1, dropF_L, clR_n, clR_1, clR_L, clP_n, clP_1, clP_L, frmF_n, frmF_1, frmF_L, rqF_n, rpF_1, rpF_L, rpP_n, rpP_1, rpP_L, rkI_n, rkI_1, rkI_L, rpR_n, rpR_1, rpR_L, gvM_n, gvM_1, gvM_L, enF_n, enF_1, enF_L, usF_n, usF_1, usF_L, teF_n, teF_1, teF_L, akF_n, akF_1, akF_L, tbM_n, tbM_13, tbM_1, tbM_L, naM_n, naM_13, naM_1, naM_L, fillF_n, fillF_1, fillF_L, markF_n, markF_1, markF_L, rmS_n, rmS_1, rmS_L, st11_n, st11_1, st11_L, rsL_n, rsL_1n, amL_2, amL_1]; exact eA'
      have p136 : X.2.2 13 6 = nI Z := by rw [hX]; simp (disch := omega) only [wOk, wT, mS, mwO, mwT, stL_2, stL_1, stM_1, stM_L, rd_s, rd_j, rd_n, stM_n, rdL_s, rdL_j, rdL_n, stL_n, s9_n, s9_1, s9_L, putF_n, putF_1, putF_L, kpM_n, kpM_1, kpM_L, dpF_n, dropF_1, dropF_L, clR_n, clR_1, clR_L, clP_n, clP_1, clP_L, frmF_n, frmF_1, frmF_L, rqF_n, rpF_1, rpF_L, rpP_n, rpP_1, rpP_L, rkI_n, rkI_1, rkI_L, rpR_n, rpR_1, rpR_L, gvM_n, gvM_1, gvM_L, enF_n, enF_1, enF_L, usF_n, usF_1, usF_L, teF_n, teF_1, teF_L, akF_n, akF_1, akF_L, tbM_n, tbM_13, tbM_1, tbM_L, naM_n, naM_13, naM_1, naM_L, fillF_n, fillF_1, fillF_L, markF_n, markF_1, markF_L, rmS_n, rmS_1, rmS_L, st11_n, st11_1, st11_L, rsL_n, rsL_1n, amL_2, amL_1]; exact eZ
      have w0 : X.2.2 14 0 = a ∧ X.2.2 2 0 = a := ⟨by rw [hX]; simp (disch := omega) only [wOk, wT, mS, mwO, mwT, stL_2, stL_1, stM_1, stM_L, rd_s, rd_j, rd_n, stM_n, rdL_s, rdL_j, rdL_n, stL_n, s9_n, s9_1, s9_L, putF_n, putF_1, putF_L, kpM_n, kpM_1, kpM_L, dpF_n, dropF_1, dropF_L, clR_n, clR_1, clR_L, clP_n, clP_1, clP_L, frmF_n, frmF_1, frmF_L, rqF_n, rpF_1, rpF_L, rpP_n, rpP_1, rpP_L, rkI_n, rkI_1, rkI_L, rpR_n, rpR_1, rpR_L, gvM_n, gvM_1, gvM_L, enF_n, enF_1, enF_L, usF_n, usF_1, usF_L, teF_n, teF_1, teF_L, akF_n, akF_1, akF_L, tbM_n, tbM_13, tbM_1, tbM_L, naM_n, naM_13, naM_1, naM_L, fillF_n, fillF_1, fillF_L, markF_n, markF_1, markF_L, rmS_n, rmS_1, rmS_L, st11_n, st11_1, st11_L, rsL_n, rsL_1n, amL_2, amL_1], by rw [hX]; simp (disch := omega) only [wOk, wT, mS, mwO, mwT, stL_2, stL_1, stM_1, stM_L, rd_s, rd_j, rd_n, stM_n, rdL_s, rdL_j, rdL_n, stL_n, s9_n, s9_1, s9_L, putF_n, putF_1, putF_L, kpM_n, kpM_1, kpM_L, dpF_n, dropF_1, dropF_L, clR_n, clR_1, clR_L, clP_n, clP_1, clP_L, frmF_n, frmF_1, frmF_L, rqF_n, rpF_1, rpF_L, rpP_n, rpP_1, rpP_L, rkI_n, rkI_1, rkI_L, rpR_n, rpR_1, rpR_L, gvM_n, gvM_1, gvM_L, enF_n, enF_1, enF_L, usF_n, usF_1, usF_L, teF_n, teF_1, teF_L, akF_n, akF_1, akF_L, tbM_n, tbM_13, tbM_1, tbM_L, naM_n, naM_13, naM_1, naM_L, fillF_n, fillF_1, fillF_L, markF_n, markF_1, markF_L, rmS_n, rmS_1, rmS_L, st11_n, st11_1, st11_L, rsL_n, rsL_1n, amL_2, amL_1]⟩
      have w1 : X.2.2 14 1 = b ∧ X.2.2 2 1 = b := ⟨by rw [hX]; simp (disch := omega) only [wOk, wT, mS, mwO, mwT, stL_2, stL_1, stM_1, stM_L, rd_s, rd_j, rd_n, stM_n, rdL_s, rdL_j, rdL_n, stL_n, s9_n, s9_1, s9_L, putF_n, putF_1, putF_L, kpM_n, kpM_1, kpM_L, dpF_n, dropF_1, dropF_L, clR_n, clR_1, clR_L, clP_n, clP_1, clP_L, frmF_n, frmF_1, frmF_L, rqF_n, rpF_1, rpF_L, rpP_n, rpP_1, rpP_L, rkI_n, rkI_1, rkI_L, rpR_n, rpR_1, rpR_L, gvM_n, gvM_1, gvM_L, enF_n, enF_1, enF_L, usF_n, usF_1, usF_L, teF_n, teF_1, teF_L, akF_n, akF_1, akF_L, tbM_n, tbM_13, tbM_1, tbM_L, naM_n, naM_13, naM_1, naM_L, fillF_n, fillF_1, fillF_L, markF_n, markF_1, markF_L, rmS_n, rmS_1, rmS_L, st11_n, st11_1, st11_L, rsL_n, rsL_1n, amL_2, amL_1], by rw [hX]; simp (disch := omega) only [wOk, wT, mS, mwO, mwT, stL_2, stL_1, stM_1, stM_L, rd_s, rd_j, rd_n, stM_n, rdL_s, rdL_j, rdL_n, stL_n, s9_n, s9_1, s9_L, putF_n, putF_1, putF_L, kpM_n, kpM_1, kpM_L, dpF_n, dropF_1, dropF_L, clR_n, clR_1, clR_L, clP_n, clP_1, clP_L, frmF_n, frmF_1, frmF_L, rqF_n, rpF_1, rpF_L, rpP_n, rpP_1, rpP_L, rkI_n, rkI_1, rkI_L, rpR_n, rpR_1, rpR_L, gvM_n, gvM_1, gvM_L, enF_n, enF_1, enF_L, usF_n, usF_1, usF_L, teF_n, teF_1, teF_L, akF_n, akF_1, akF_L, tbM_n, tbM_13, tbM_1, tbM_L, naM_n, naM_13, naM_1, naM_L, fillF_n, fillF_1, fillF_L, markF_n, markF_1, markF_L, rmS_n, rmS_1, rmS_L, st11_n, st11_1, st11_L, rsL_n, rsL_1n, amL_2, amL_1]⟩
      have w2 : X.2.2 14 2 = cc ∧ X.2.2 2 2 = cc := ⟨by rw [hX]; simp (disch := omega) only [wOk, wT, mS, mwO, mwT, stL_2, stL_1, stM_1, stM_L, rd_s, rd_j, rd_n, stM_n, rdL_s, rdL_j, rdL_n, stL_n, s9_n, s9_1, s9_L, putF_n, putF_1, putF_L, kpM_n, kpM_1, kpM_L, dpF_n, dropF_1, dropF_L, clR_n, clR_1, clR_L, clP_n, clP_1, clP_L, frmF_n, frmF_1, frmF_L, rqF_n, rpF_1, rpF_L, rpP_n, rpP_1, rpP_L, rkI_n, rkI_1, rkI_L, rpR_n, rpR_1, rpR_L, gvM_n, gvM_1, gvM_L, enF_n, enF_1, enF_L, usF_n, usF_1, usF_L, teF_n, teF_1, teF_L, akF_n, akF_1, akF_L, tbM_n, tbM_13, tbM_1, tbM_L, naM_n, naM_13, naM_1, naM_L, fillF_n, fillF_1, fillF_L, markF_n, markF_1, markF_L, rmS_n, rmS_1, rmS_L, st11_n, st11_1, st11_L, rsL_n, rsL_1n, amL_2, amL_1], by rw [hX]; simp (disch := omega) only [wOk, wT, mS, mwO, mwT, stL_2, stL_1, stM_1, stM_L, rd_s, rd_j, rd_n, stM_n, rdL_s, rdL_j, rdL_n, stL_n, s9_n, s9_1, s9_L, putF_n, putF_1, putF_L, kpM_n, kpM_1, kpM_L, dpF_n, dropF_1, dropF_L, clR_n, clR_1, clR_L, clP_n, clP_1, clP_L, frmF_n, frmF_1, frmF_L, rqF_n, rpF_1, rpF_L, rpP_n, rpP_1, rpP_L, rkI_n, rkI_1, rkI_L, rpR_n, rpR_1, rpR_L, gvM_n, gvM_1, gvM_L, enF_n, enF_1, enF_L, usF_n, usF_1, usF_L, teF_n, teF_1, teF_L, akF_n, akF_1, akF_L, tbM_n, tbM_13, tbM_1, tbM_L, naM_n, naM_13, naM_1, naM_L, fillF_n, fillF_1, fillF_L, markF_n, markF_1, markF_L, rmS_n, rmS_1, rmS_L, st11_n, st11_1, st11_L, rsL_n, rsL_1n, amL_2, amL_1]⟩
      have w3 : X.2.2 14 3 = d ∧ X.2.2 2 3 = d := ⟨by rw [hX]; simp (disch := omega) only [wOk, wT, mS, mwO, mwT, stL_2, stL_1, stM_1, stM_L, rd_s, rd_j, rd_n, stM_n, rdL_s, rdL_j, rdL_n, stL_n, s9_n, s9_1, s9_L, putF_n, putF_1, putF_L, kpM_n, kpM_1, kpM_L, dpF_n, dropF_1, dropF_L, clR_n, clR_1, clR_L, clP_n, clP_1, clP_L, frmF_n, frmF_1, frmF_L, rqF_n, rpF_1, rpF_L, rpP_n, rpP_1, rpP_L, rkI_n, rkI_1, rkI_L, rpR_n, rpR_1, rpR_L, gvM_n, gvM_1, gvM_L, enF_n, enF_1, enF_L, usF_n, usF_1, usF_L, teF_n, teF_1, teF_L, akF_n, akF_1, akF_L, tbM_n, tbM_13, tbM_1, tbM_L, naM_n, naM_13, naM_1, naM_L, fillF_n, fillF_1, fillF_L, markF_n, markF_1, markF_L, rmS_n, rmS_1, rmS_L, st11_n, st11_1, st11_L, rsL_n, rsL_1n, amL_2, amL_1], by rw [hX]; simp (disch := omega) only [wOk, wT, mS, mwO, mwT, stL_2, stL_1, stM_1, stM_L, rd_s, rd_j, rd_n, stM_n, rdL_s, rdL_j, rdL_n, stL_n, s9_n, s9_1, s9_L, putF_n, putF_1, putF_L, kpM_n, kpM_1, kpM_L, dpF_n, dropF_1, dropF_L, clR_n, clR_1, clR_L, clP_n, clP_1, clP_L, frmF_n, frmF_1, frmF_L, rqF_n, rpF_1, rpF_L, rpP_n, rpP_1, rpP_L, rkI_n, rkI_1, rkI_L, rpR_n, rpR_1, rpR_L, gvM_n, gvM_1, gvM_L, enF_n, enF_1, enF_L, usF_n, usF_1, usF_L, teF_n, teF_1, teF_L, akF_n, akF_1, akF_L, tbM_n, tbM_13, tbM_1, tbM_L, naM_n, naM_13, naM_1, naM_L, fillF_n, fillF_1, fillF_L, markF_n, markF_1, markF_L, rmS_n, rmS_1, rmS_L, st11_n, st11_1, st11_L, rsL_n, rsL_1n, amL_2, amL_1]⟩
      clear hX eM eD
      have pl := ePl X p12 w0.1 w1.1 w2.1 w3.1
      have n30 : ∀ j s, j < 10 → s < 8 → S.2.2 30 (8 * j + s) < 0 := fun j s hj hs => by
        obtain ⟨-, -, -, p4, p5⟩ := h.ki.2.2.1 j s hj hs
        by_cases z9 : S.2.2 9 j = 0
        · exact p4 z9
        · rcases p5 z9 with o | ⟨b', t1, t2, -⟩
          · exact o.1
          · omega
      have hT := h.bk.2.1
      refine ⟨x130, gS (gS (gS (gS (gS g 0 fun _ _ => A) 1 fun _ _ => Z) 2 fun _ _ => W) 3 fun k _ => e k) 7 fun _ _ => 0, j0, j1, j2, o7, RS_c (xo 9 (by omega)) (xo 21 (by omega)) (fun j hj => by rw [xo (100 + j) (by omega)]) (by rw [xo 0 (by omega)]) h.st, ⟨p11, p135, p13, p136, fun j hj => ?_, Or.inr pl⟩, ⟨x139.trans h.bk.1, show g.T ≤ c + 1 by omega, by omega, fun j => by rw [xo 16 (by omega)]; exact h.bk.2.2.2.1 j, fun b' hb => absurd (show b' < g.T from hb) (by omega), fun s hs => ?_⟩, (RE_c (fun t ht => xo t (by omega)) h.pe : RE g X), fun k hk => ?_, fun j p hj hp => ?_, fun j s hj hs => ?_, fun j s q s' q' hj l1 l2 => ?_, fun k hk l1 l2 => ?_⟩
      · have : j = 0 ∨ j = 1 ∨ j = 2 ∨ j = 3 := by omega
        rcases this with rfl | rfl | rfl | rfl
        · rw [w0.1, w0.2]
        · rw [w1.1, w1.2]
        · rw [w2.1, w2.2]
        · rw [w3.1, w3.2]
      · obtain ⟨c1, c2, c3, c4, c5, c6, c7, c8⟩ := h.bk.2.2.2.2.2 s hs
        refine ⟨by rw [xo 17 (by omega)]; exact c1, by rw [xj s 6 hs (by decide)]; exact c2, ⟨by rw [xj s 0 hs (by decide)]; exact c3.1, Or.inr (x1s s hs)⟩, by rw [x5s s hs]; rfl, by show 0 * Z ≤ _; omega, by rw [x1 (60 + s) (by omega)]; exact c6, Or.inl ⟨?_, xt s hs⟩, Or.inl ?_⟩
        · show 0 = rkA g.bs s g.T
          rw [hT0]; rfl
        · rw [xo 19 (by omega), xj s 8 hs (by decide)]
          rcases c8 with o | ⟨b', o, d1, d2, -⟩
          · exact o
          · omega
      · have old := h.ki.1 k hk
        show gKi g k X
        unfold gKi at old ⊢
        rw [xo 22 (by omega), xo 24 (by omega), xo 7 (by omega), xo 9 (by omega), xo 5 (by omega), xo 6 (by omega), xo 23 (by omega), xo 8 (by omega), xo 25 (by omega), xo 28 (by omega)]
        exact old
      · have old := h.ki.2.1 j p hj hp
        show gUs g j p X
        unfold gUs at old ⊢
        rw [xo 22 (by omega), xo 24 (by omega), xo 8 (by omega), xo 25 (by omega), xo 28 (by omega)]
        exact old
      · obtain ⟨o1, o2, o3, o4, o5⟩ := h.ki.2.2.1 j s hj hs
        refine ⟨by rw [xo 31 (by omega)]; exact o1, by show g.nx (8 * j + s) ≤ Z; rw [o3 hT0]; omega, o3, by rw [xo 9 (by omega), xo 30 (by omega)]; exact o4, fun z9 => Or.inl ?_⟩
        rw [xo 9 (by omega)] at z9
        rw [xo 30 (by omega), xo (200 + 8 * j + s) (by omega)]
        rcases o5 z9 with o | ⟨b', t1, t2, -⟩
        · exact o
        · omega
      · have l3 := l1.2.2.1
        rw [xo 30 (by omega)] at l3
        exact absurd (n30 j s hj l1.1) l3
      · rw [xo 24 (by omega)] at l1
        have l2 : S.2.2 21 (g.hm k) = 1 := by rw [xo 21 (by omega)] at l2; exact l2
        obtain ⟨s, q, r1, r2⟩ := h.ki.2.2.2.2 k hk l1 l2
        have hm10 : g.hm k < 10 := by
          rcases h.ki.1 k hk with o | o
          · exact absurd (o.2.1.symm.trans l1) (by decide)
          · exact o.2.1
        exact absurd (n30 _ s hm10 r1.1) r1.2.2.1
    · have eD : dArms S a b cc d z w = wT S := by
        unfold dArms
        rw [if_pos (h.j0.trans h0), if_neg (by rw [h.j1]; exact h1)]
      rw [eD]
      have eM : mArms (wT S) a b cc d z w = mwT (wT S) := by
        unfold mArms
        rw [if_pos (by simp (disch := omega) only [h0, wOk, wT, mS, mwO, mwT, stL_2, stL_1, stM_1, stM_L, rd_s, rd_j, rd_n, stM_n, rdL_s, rdL_j, rdL_n, stL_n, s9_n, s9_1, s9_L, putF_n, putF_1, putF_L, kpM_n, kpM_1, kpM_L, dpF_n, dropF_1, dropF_L, clR_n, clR_1, clR_L, clP_n, clP_1, clP_L, frmF_n, frmF_1, frmF_L, rqF_n, rpF_1, rpF_L, rpP_n, rpP_1, rpP_L, rkI_n, rkI_1, rkI_L, rpR_n, rpR_1, rpR_L, gvM_n, gvM_1, gvM_L, enF_n, enF_1, enF_L, usF_n, usF_1, usF_L, teF_n, teF_1, teF_L, akF_n, akF_1, akF_L, tbM_n, tbM_13, tbM_1, tbM_L, naM_n, naM_13, naM_1, naM_L, fillF_n, fillF_1, fillF_L, markF_n, markF_1, markF_L, rmS_n, rmS_1, rmS_L, st11_n, st11_1, st11_L, rsL_n, rsL_1n, amL_2, amL_1]), if_neg (by simp (disch := omega) only [wOk, wT, mS, mwO, mwT, stL_2, stL_1, stM_1, stM_L, rd_s, rd_j, rd_n, stM_n, rdL_s, rdL_j, rdL_n, stL_n, s9_n, s9_1, s9_L, putF_n, putF_1, putF_L, kpM_n, kpM_1, kpM_L, dpF_n, dropF_1, dropF_L, clR_n, clR_1, clR_L, clP_n, clP_1, clP_L, frmF_n, frmF_1, frmF_L, rqF_n, rpF_1, rpF_L, rpP_n, rpP_1, rpP_L, rkI_n, rkI_1, rkI_L, rpR_n, rpR_1, rpR_L, gvM_n, gvM_1, gvM_L, enF_n, enF_1, enF_L, usF_n, usF_1, usF_L, teF_n, teF_1, teF_L, akF_n, akF_1, akF_L, tbM_n, tbM_13, tbM_1, tbM_L, naM_n, naM_13, naM_1, naM_L, fillF_n, fillF_1, fillF_L, markF_n, markF_1, markF_L, rmS_n, rmS_1, rmS_L, st11_n, st11_1, st11_L, rsL_n, rsL_1n, amL_2, amL_1]; exact h1)]
      rw [eM]
      refine ⟨by simp (disch := omega) only [wOk, wT, mS, mwO, mwT, stL_2, stL_1, stM_1, stM_L, rd_s, rd_j, rd_n, stM_n, rdL_s, rdL_j, rdL_n, stL_n, s9_n, s9_1, s9_L, putF_n, putF_1, putF_L, kpM_n, kpM_1, kpM_L, dpF_n, dropF_1, dropF_L, clR_n, clR_1, clR_L, clP_n, clP_1, clP_L, frmF_n, frmF_1, frmF_L, rqF_n, rpF_1, rpF_L, rpP_n, rpP_1, rpP_L, rkI_n, rkI_1, rkI_L, rpR_n, rpR_1, rpR_L, gvM_n, gvM_1, gvM_L, enF_n, enF_1, enF_L, usF_n, usF_1, usF_L, teF_n, teF_1, teF_L, akF_n, akF_1, akF_L, tbM_n, tbM_13, tbM_1, tbM_L, naM_n, naM_13, naM_1, naM_L, fillF_n, fillF_1, fillF_L, markF_n, markF_1, markF_L, rmS_n, rmS_1, rmS_L, st11_n, st11_1, st11_L, rsL_n, rsL_1n, amL_2, amL_1], g, Rel_J h ⟨rfl, fun t ht => rfl, fun t h3 h13 h0 => by simp (disch := omega) only [wOk, wT, mS, mwO, mwT, stL_2, stL_1, stM_1, stM_L, rd_s, rd_j, rd_n, stM_n, rdL_s, rdL_j, rdL_n, stL_n, s9_n, s9_1, s9_L, putF_n, putF_1, putF_L, kpM_n, kpM_1, kpM_L, dpF_n, dropF_1, dropF_L, clR_n, clR_1, clR_L, clP_n, clP_1, clP_L, frmF_n, frmF_1, frmF_L, rqF_n, rpF_1, rpF_L, rpP_n, rpP_1, rpP_L, rkI_n, rkI_1, rkI_L, rpR_n, rpR_1, rpR_L, gvM_n, gvM_1, gvM_L, enF_n, enF_1, enF_L, usF_n, usF_1, usF_L, teF_n, teF_1, teF_L, akF_n, akF_1, akF_L, tbM_n, tbM_13, tbM_1, tbM_L, naM_n, naM_13, naM_1, naM_L, fillF_n, fillF_1, fillF_L, markF_n, markF_1, markF_L, rmS_n, rmS_1, rmS_L, st11_n, st11_1, st11_L, rsL_n, rsL_1n, amL_2, amL_1], fun j hj => by simp (disch := omega) only [wOk, wT, mS, mwO, mwT, stL_2, stL_1, stM_1, stM_L, rd_s, rd_j, rd_n, stM_n, rdL_s, rdL_j, rdL_n, stL_n, s9_n, s9_1, s9_L, putF_n, putF_1, putF_L, kpM_n, kpM_1, kpM_L, dpF_n, dropF_1, dropF_L, clR_n, clR_1, clR_L, clP_n, clP_1, clP_L, frmF_n, frmF_1, frmF_L, rqF_n, rpF_1, rpF_L, rpP_n, rpP_1, rpP_L, rkI_n, rkI_1, rkI_L, rpR_n, rpR_1, rpR_L, gvM_n, gvM_1, gvM_L, enF_n, enF_1, enF_L, usF_n, usF_1, usF_L, teF_n, teF_1, teF_L, akF_n, akF_1, akF_L, tbM_n, tbM_13, tbM_1, tbM_L, naM_n, naM_13, naM_1, naM_L, fillF_n, fillF_1, fillF_L, markF_n, markF_1, markF_L, rmS_n, rmS_1, rmS_L, st11_n, st11_1, st11_L, rsL_n, rsL_1n, amL_2, amL_1], fun j hj => by simp (disch := omega) only [wOk, wT, mS, mwO, mwT, stL_2, stL_1, stM_1, stM_L, rd_s, rd_j, rd_n, stM_n, rdL_s, rdL_j, rdL_n, stL_n, s9_n, s9_1, s9_L, putF_n, putF_1, putF_L, kpM_n, kpM_1, kpM_L, dpF_n, dropF_1, dropF_L, clR_n, clR_1, clR_L, clP_n, clP_1, clP_L, frmF_n, frmF_1, frmF_L, rqF_n, rpF_1, rpF_L, rpP_n, rpP_1, rpP_L, rkI_n, rkI_1, rkI_L, rpR_n, rpR_1, rpR_L, gvM_n, gvM_1, gvM_L, enF_n, enF_1, enF_L, usF_n, usF_1, usF_L, teF_n, teF_1, teF_L, akF_n, akF_1, akF_L, tbM_n, tbM_13, tbM_1, tbM_L, naM_n, naM_13, naM_1, naM_L, fillF_n, fillF_1, fillF_L, markF_n, markF_1, markF_L, rmS_n, rmS_1, rmS_L, st11_n, st11_1, st11_L, rsL_n, rsL_1n, amL_2, amL_1]⟩ (by omega) (by omega) (by simp (disch := omega) only [wOk, wT, mS, mwO, mwT, stL_2, stL_1, stM_1, stM_L, rd_s, rd_j, rd_n, stM_n, rdL_s, rdL_j, rdL_n, stL_n, s9_n, s9_1, s9_L, putF_n, putF_1, putF_L, kpM_n, kpM_1, kpM_L, dpF_n, dropF_1, dropF_L, clR_n, clR_1, clR_L, clP_n, clP_1, clP_L, frmF_n, frmF_1, frmF_L, rqF_n, rpF_1, rpF_L, rpP_n, rpP_1, rpP_L, rkI_n, rkI_1, rkI_L, rpR_n, rpR_1, rpR_L, gvM_n, gvM_1, gvM_L, enF_n, enF_1, enF_L, usF_n, usF_1, usF_L, teF_n, teF_1, teF_L, akF_n, akF_1, akF_L, tbM_n, tbM_13, tbM_1, tbM_L, naM_n, naM_13, naM_1, naM_L, fillF_n, fillF_1, fillF_L, markF_n, markF_1, markF_L, rmS_n, rmS_1, rmS_L, st11_n, st11_1, st11_L, rsL_n, rsL_1n, amL_2, amL_1, h.j0, h.j1, h.j2, h.o7]) ⟨by simp (disch := omega) only [wOk, wT, mS, mwO, mwT, stL_2, stL_1, stM_1, stM_L, rd_s, rd_j, rd_n, stM_n, rdL_s, rdL_j, rdL_n, stL_n, s9_n, s9_1, s9_L, putF_n, putF_1, putF_L, kpM_n, kpM_1, kpM_L, dpF_n, dropF_1, dropF_L, clR_n, clR_1, clR_L, clP_n, clP_1, clP_L, frmF_n, frmF_1, frmF_L, rqF_n, rpF_1, rpF_L, rpP_n, rpP_1, rpP_L, rkI_n, rkI_1, rkI_L, rpR_n, rpR_1, rpR_L, gvM_n, gvM_1, gvM_L, enF_n, enF_1, enF_L, usF_n, usF_1, usF_L, teF_n, teF_1, teF_L, akF_n, akF_1, akF_L, tbM_n, tbM_13, tbM_1, tbM_L, naM_n, naM_13, naM_1, naM_L, fillF_n, fillF_1, fillF_L, markF_n, markF_1, markF_L, rmS_n, rmS_1, rmS_L, st11_n, st11_1, st11_L, rsL_n, rsL_1n, amL_2, amL_1, h.j0, h.j1, h.j2, h.o7], Or.inl (by simp (disch := omega) only [wOk, wT, mS, mwO, mwT, stL_2, stL_1, stM_1, stM_L, rd_s, rd_j, rd_n, stM_n, rdL_s, rdL_j, rdL_n, stL_n, s9_n, s9_1, s9_L, putF_n, putF_1, putF_L, kpM_n, kpM_1, kpM_L, dpF_n, dropF_1, dropF_L, clR_n, clR_1, clR_L, clP_n, clP_1, clP_L, frmF_n, frmF_1, frmF_L, rqF_n, rpF_1, rpF_L, rpP_n, rpP_1, rpP_L, rkI_n, rkI_1, rkI_L, rpR_n, rpR_1, rpR_L, gvM_n, gvM_1, gvM_L, enF_n, enF_1, enF_L, usF_n, usF_1, usF_L, teF_n, teF_1, teF_L, akF_n, akF_1, akF_L, tbM_n, tbM_13, tbM_1, tbM_L, naM_n, naM_13, naM_1, naM_L, fillF_n, fillF_1, fillF_L, markF_n, markF_1, markF_L, rmS_n, rmS_1, rmS_L, st11_n, st11_1, st11_L, rsL_n, rsL_1n, amL_2, amL_1])⟩ (by simp (disch := omega) only [wOk, wT, mS, mwO, mwT, stL_2, stL_1, stM_1, stM_L, rd_s, rd_j, rd_n, stM_n, rdL_s, rdL_j, rdL_n, stL_n, s9_n, s9_1, s9_L, putF_n, putF_1, putF_L, kpM_n, kpM_1, kpM_L, dpF_n, dropF_1, dropF_L, clR_n, clR_1, clR_L, clP_n, clP_1, clP_L, frmF_n, frmF_1, frmF_L, rqF_n, rpF_1, rpF_L, rpP_n, rpP_1, rpP_L, rkI_n, rkI_1, rkI_L, rpR_n, rpR_1, rpR_L, gvM_n, gvM_1, gvM_L, enF_n, enF_1, enF_L, usF_n, usF_1, usF_L, teF_n, teF_1, teF_L, akF_n, akF_1, akF_L, tbM_n, tbM_13, tbM_1, tbM_L, naM_n, naM_13, naM_1, naM_L, fillF_n, fillF_1, fillF_L, markF_n, markF_1, markF_L, rmS_n, rmS_1, rmS_L, st11_n, st11_1, st11_L, rsL_n, rsL_1n, amL_2, amL_1, h.j0, h.j1, h.j2, h.o7]) (by simp (disch := omega) only [wOk, wT, mS, mwO, mwT, stL_2, stL_1, stM_1, stM_L, rd_s, rd_j, rd_n, stM_n, rdL_s, rdL_j, rdL_n, stL_n, s9_n, s9_1, s9_L, putF_n, putF_1, putF_L, kpM_n, kpM_1, kpM_L, dpF_n, dropF_1, dropF_L, clR_n, clR_1, clR_L, clP_n, clP_1, clP_L, frmF_n, frmF_1, frmF_L, rqF_n, rpF_1, rpF_L, rpP_n, rpP_1, rpP_L, rkI_n, rkI_1, rkI_L, rpR_n, rpR_1, rpR_L, gvM_n, gvM_1, gvM_L, enF_n, enF_1, enF_L, usF_n, usF_1, usF_L, teF_n, teF_1, teF_L, akF_n, akF_1, akF_L, tbM_n, tbM_13, tbM_1, tbM_L, naM_n, naM_13, naM_1, naM_L, fillF_n, fillF_1, fillF_L, markF_n, markF_1, markF_L, rmS_n, rmS_1, rmS_L, st11_n, st11_1, st11_L, rsL_n, rsL_1n, amL_2, amL_1, h.j0, h.j1, h.j2, h.o7])⟩
  · have eD : dArms S a b cc d z w = S := by
      unfold dArms
      rw [if_neg (by rw [h.j0]; exact h0)]
    rw [eD]
    have eM : mArms S a b cc d z w = mS S := by
      unfold mArms
      rw [if_neg h0]
    rw [eM]
    exact ⟨rd_s, g, Rel_thr h hc⟩
theorem ar_qt {S : zSt} {a b cc d z : Int32} {w : Int64} : (dArms S a b cc d z w).2.2 13 = S.2.2 13 := by
  unfold dArms
  split
  · split
    · unfold setF
      simp (disch := omega) only [wOk, wT, mS, mwO, mwT, stL_2, stL_1, stM_1, stM_L, rd_s, rd_j, rd_n, stM_n, rdL_s, rdL_j, rdL_n, stL_n, s9_n, s9_1, s9_L, putF_n, putF_1, putF_L, kpM_n, kpM_1, kpM_L, dpF_n, dropF_1, dropF_L, clR_n, clR_1, clR_L, clP_n, clP_1, clP_L, frmF_n, frmF_1, frmF_L, rqF_n, rpF_1, rpF_L, rpP_n, rpP_1, rpP_L, rkI_n, rkI_1, rkI_L, rpR_n, rpR_1, rpR_L, gvM_n, gvM_1, gvM_L, enF_n, enF_1, enF_L, usF_n, usF_1, usF_L, teF_n, teF_1, teF_L, akF_n, akF_1, akF_L, tbM_n, tbM_13, tbM_1, tbM_L, naM_n, naM_13, naM_1, naM_L, fillF_n, fillF_1, fillF_L, markF_n, markF_1, markF_L, rmS_n, rmS_1, rmS_L, st11_n, st11_1, st11_L, rsL_n, rsL_1n, amL_2, amL_1]
    · simp (disch := omega) only [wOk, wT, mS, mwO, mwT, stL_2, stL_1, stM_1, stM_L, rd_s, rd_j, rd_n, stM_n, rdL_s, rdL_j, rdL_n, stL_n, s9_n, s9_1, s9_L, putF_n, putF_1, putF_L, kpM_n, kpM_1, kpM_L, dpF_n, dropF_1, dropF_L, clR_n, clR_1, clR_L, clP_n, clP_1, clP_L, frmF_n, frmF_1, frmF_L, rqF_n, rpF_1, rpF_L, rpP_n, rpP_1, rpP_L, rkI_n, rkI_1, rkI_L, rpR_n, rpR_1, rpR_L, gvM_n, gvM_1, gvM_L, enF_n, enF_1, enF_L, usF_n, usF_1, usF_L, teF_n, teF_1, teF_L, akF_n, akF_1, akF_L, tbM_n, tbM_13, tbM_1, tbM_L, naM_n, naM_13, naM_1, naM_L, fillF_n, fillF_1, fillF_L, markF_n, markF_1, markF_L, rmS_n, rmS_1, rmS_L, st11_n, st11_1, st11_L, rsL_n, rsL_1n, amL_2, amL_1]
  · rfl
theorem sim_arms {l : Launch} (htr : l.stackTraces = false) {D : va_G} {K : Nat → ClassId} {ad : Nat → Nat} {g : Gh} {c : Nat} {S : zSt} (h : Rel g c S) (hc : c < 512) {a b cc d z : Int32} {w : Int64} : SimA l D K ad S c [.int a, .int b, .int cc, .int d, .int z, .long w] := by
  by_cases hb : areW a b cc d = 0 ∨ isZ z (a + b + cc + d) = 0
  · exact ⟨_, 1, S, wt_arms_1 (x_TD_arms htr hb) (by decide) (by decide), Nat.le_refl _, Nat.le_refl _, by show 1 ≤ 25; omega, by show 6 ≤ _; omega, 1, 23, _, g, c_Mo_arms_bad hb, by decide, by decide, rd_s, Rel_thr h hc⟩
  have hv : ¬ areW a b cc d = 0 := fun q => hb (Or.inl q)
  have hz : ¬ isZ z (a + b + cc + d) = 0 := fun q => hb (Or.inr q)
  obtain ⟨q1, q2, q3, q4, hcd, q6, hr⟩ := arms_in hv hz
  have hcd' : cc = 0 → ¬ 0 < d := fun q => by rw [hcd q]; decide
  have hT := h.bk.2.1
  have hTT := tk_iff h hc
  by_cases ht : g.T = 0
  · have p := pu_arms h hc (w := w) hv hz ht
    obtain ⟨p1, g', p2⟩ := p
    exact ⟨_, 0, _, wo_arms (c_TD_arms hv hz (hTT.mpr ht)) (by decide) (by decide), Nat.le_refl _, Nat.le_refl _, by show 0 ≤ 25; omega, by show 0 ≤ _; omega, 1, 23, _, g', c_Mo_arms q1 q2 q3 q4 hcd' q6 hr (by rw [ar_qt, h.bk.1, ht]; decide), by decide, by decide, p1, p2⟩
  · exact ⟨_, 2, S, wt_arms_2 (x_TD_arms_taken htr hv hz (fun q => ht (hTT.mp q))) (by decide) (by decide), Nat.le_refl _, Nat.le_refl _, by show 1 ≤ 25; omega, by show 6 ≤ _; omega, 1, 23, _, g, c_Mo_arms_taken q1 q2 q3 q4 hcd' q6 hr (by rw [h.bk.1]; exact fun q => absurd ((nI_leI (b := 0) (by omega) (by omega)).mp q) (by omega)), by decide, by decide, rd_s, Rel_thr h hc⟩
theorem pu_tear {g : Gh} {c : Nat} {S : zSt} (h : Rel g c S) (hc : c < 512) : (mTear (if S.2.2 3 0 = 0 then stM S 3 1 1 else S)).2.2 13 0 = 0 ∧ Rel g (c + 1) (mTear (if S.2.2 3 0 = 0 then stM S 3 1 1 else S)) := by
  by_cases h0 : S.2.2 13 1 = 0
  · rw [if_pos (h.j0.trans h0)]
    have e : mTear (stM S 3 1 1) = stM (mS (stM S 3 1 1)) 13 2 1 := by
      unfold mTear
      by_cases h1 : S.2.2 13 2 = 0
      · rw [if_pos (by simp (disch := omega) only [h1, wOk, wT, mS, mwO, mwT, stL_2, stL_1, stM_1, stM_L, rd_s, rd_j, rd_n, stM_n, rdL_s, rdL_j, rdL_n, stL_n, s9_n, s9_1, s9_L, putF_n, putF_1, putF_L, kpM_n, kpM_1, kpM_L, dpF_n, dropF_1, dropF_L, clR_n, clR_1, clR_L, clP_n, clP_1, clP_L, frmF_n, frmF_1, frmF_L, rqF_n, rpF_1, rpF_L, rpP_n, rpP_1, rpP_L, rkI_n, rkI_1, rkI_L, rpR_n, rpR_1, rpR_L, gvM_n, gvM_1, gvM_L, enF_n, enF_1, enF_L, usF_n, usF_1, usF_L, teF_n, teF_1, teF_L, akF_n, akF_1, akF_L, tbM_n, tbM_13, tbM_1, tbM_L, naM_n, naM_13, naM_1, naM_L, fillF_n, fillF_1, fillF_L, markF_n, markF_1, markF_L, rmS_n, rmS_1, rmS_L, st11_n, st11_1, st11_L, rsL_n, rsL_1n, amL_2, amL_1]), if_pos (by simp (disch := omega) only [h0, wOk, wT, mS, mwO, mwT, stL_2, stL_1, stM_1, stM_L, rd_s, rd_j, rd_n, stM_n, rdL_s, rdL_j, rdL_n, stL_n, s9_n, s9_1, s9_L, putF_n, putF_1, putF_L, kpM_n, kpM_1, kpM_L, dpF_n, dropF_1, dropF_L, clR_n, clR_1, clR_L, clP_n, clP_1, clP_L, frmF_n, frmF_1, frmF_L, rqF_n, rpF_1, rpF_L, rpP_n, rpP_1, rpP_L, rkI_n, rkI_1, rkI_L, rpR_n, rpR_1, rpR_L, gvM_n, gvM_1, gvM_L, enF_n, enF_1, enF_L, usF_n, usF_1, usF_L, teF_n, teF_1, teF_L, akF_n, akF_1, akF_L, tbM_n, tbM_13, tbM_1, tbM_L, naM_n, naM_13, naM_1, naM_L, fillF_n, fillF_1, fillF_L, markF_n, markF_1, markF_L, rmS_n, rmS_1, rmS_L, st11_n, st11_1, st11_L, rsL_n, rsL_1n, amL_2, amL_1])]
      · rw [if_neg (by simp (disch := omega) only [wOk, wT, mS, mwO, mwT, stL_2, stL_1, stM_1, stM_L, rd_s, rd_j, rd_n, stM_n, rdL_s, rdL_j, rdL_n, stL_n, s9_n, s9_1, s9_L, putF_n, putF_1, putF_L, kpM_n, kpM_1, kpM_L, dpF_n, dropF_1, dropF_L, clR_n, clR_1, clR_L, clP_n, clP_1, clP_L, frmF_n, frmF_1, frmF_L, rqF_n, rpF_1, rpF_L, rpP_n, rpP_1, rpP_L, rkI_n, rkI_1, rkI_L, rpR_n, rpR_1, rpR_L, gvM_n, gvM_1, gvM_L, enF_n, enF_1, enF_L, usF_n, usF_1, usF_L, teF_n, teF_1, teF_L, akF_n, akF_1, akF_L, tbM_n, tbM_13, tbM_1, tbM_L, naM_n, naM_13, naM_1, naM_L, fillF_n, fillF_1, fillF_L, markF_n, markF_1, markF_L, rmS_n, rmS_1, rmS_L, st11_n, st11_1, st11_L, rsL_n, rsL_1n, amL_2, amL_1]; exact h1)]
    rw [e]
    refine ⟨by simp (disch := omega) only [wOk, wT, mS, mwO, mwT, stL_2, stL_1, stM_1, stM_L, rd_s, rd_j, rd_n, stM_n, rdL_s, rdL_j, rdL_n, stL_n, s9_n, s9_1, s9_L, putF_n, putF_1, putF_L, kpM_n, kpM_1, kpM_L, dpF_n, dropF_1, dropF_L, clR_n, clR_1, clR_L, clP_n, clP_1, clP_L, frmF_n, frmF_1, frmF_L, rqF_n, rpF_1, rpF_L, rpP_n, rpP_1, rpP_L, rkI_n, rkI_1, rkI_L, rpR_n, rpR_1, rpR_L, gvM_n, gvM_1, gvM_L, enF_n, enF_1, enF_L, usF_n, usF_1, usF_L, teF_n, teF_1, teF_L, akF_n, akF_1, akF_L, tbM_n, tbM_13, tbM_1, tbM_L, naM_n, naM_13, naM_1, naM_L, fillF_n, fillF_1, fillF_L, markF_n, markF_1, markF_L, rmS_n, rmS_1, rmS_L, st11_n, st11_1, st11_L, rsL_n, rsL_1n, amL_2, amL_1], Rel_J h ⟨rfl, fun t ht => rfl, fun t h3 h13 h0 => by simp (disch := omega) only [wOk, wT, mS, mwO, mwT, stL_2, stL_1, stM_1, stM_L, rd_s, rd_j, rd_n, stM_n, rdL_s, rdL_j, rdL_n, stL_n, s9_n, s9_1, s9_L, putF_n, putF_1, putF_L, kpM_n, kpM_1, kpM_L, dpF_n, dropF_1, dropF_L, clR_n, clR_1, clR_L, clP_n, clP_1, clP_L, frmF_n, frmF_1, frmF_L, rqF_n, rpF_1, rpF_L, rpP_n, rpP_1, rpP_L, rkI_n, rkI_1, rkI_L, rpR_n, rpR_1, rpR_L, gvM_n, gvM_1, gvM_L, enF_n, enF_1, enF_L, usF_n, usF_1, usF_L, teF_n, teF_1, teF_L, akF_n, akF_1, akF_L, tbM_n, tbM_13, tbM_1, tbM_L, naM_n, naM_13, naM_1, naM_L, fillF_n, fillF_1, fillF_L, markF_n, markF_1, markF_L, rmS_n, rmS_1, rmS_L, st11_n, st11_1, st11_L, rsL_n, rsL_1n, amL_2, amL_1], fun j hj => by simp (disch := omega) only [wOk, wT, mS, mwO, mwT, stL_2, stL_1, stM_1, stM_L, rd_s, rd_j, rd_n, stM_n, rdL_s, rdL_j, rdL_n, stL_n, s9_n, s9_1, s9_L, putF_n, putF_1, putF_L, kpM_n, kpM_1, kpM_L, dpF_n, dropF_1, dropF_L, clR_n, clR_1, clR_L, clP_n, clP_1, clP_L, frmF_n, frmF_1, frmF_L, rqF_n, rpF_1, rpF_L, rpP_n, rpP_1, rpP_L, rkI_n, rkI_1, rkI_L, rpR_n, rpR_1, rpR_L, gvM_n, gvM_1, gvM_L, enF_n, enF_1, enF_L, usF_n, usF_1, usF_L, teF_n, teF_1, teF_L, akF_n, akF_1, akF_L, tbM_n, tbM_13, tbM_1, tbM_L, naM_n, naM_13, naM_1, naM_L, fillF_n, fillF_1, fillF_L, markF_n, markF_1, markF_L, rmS_n, rmS_1, rmS_L, st11_n, st11_1, st11_L, rsL_n, rsL_1n, amL_2, amL_1], fun j hj => by simp (disch := omega) only [wOk, wT, mS, mwO, mwT, stL_2, stL_1, stM_1, stM_L, rd_s, rd_j, rd_n, stM_n, rdL_s, rdL_j, rdL_n, stL_n, s9_n, s9_1, s9_L, putF_n, putF_1, putF_L, kpM_n, kpM_1, kpM_L, dpF_n, dropF_1, dropF_L, clR_n, clR_1, clR_L, clP_n, clP_1, clP_L, frmF_n, frmF_1, frmF_L, rqF_n, rpF_1, rpF_L, rpP_n, rpP_1, rpP_L, rkI_n, rkI_1, rkI_L, rpR_n, rpR_1, rpR_L, gvM_n, gvM_1, gvM_L, enF_n, enF_1, enF_L, usF_n, usF_1, usF_L, teF_n, teF_1, teF_L, akF_n, akF_1, akF_L, tbM_n, tbM_13, tbM_1, tbM_L, naM_n, naM_13, naM_1, naM_L, fillF_n, fillF_1, fillF_L, markF_n, markF_1, markF_L, rmS_n, rmS_1, rmS_L, st11_n, st11_1, st11_L, rsL_n, rsL_1n, amL_2, amL_1]⟩ (by omega) (by omega) (by simp (disch := omega) only [wOk, wT, mS, mwO, mwT, stL_2, stL_1, stM_1, stM_L, rd_s, rd_j, rd_n, stM_n, rdL_s, rdL_j, rdL_n, stL_n, s9_n, s9_1, s9_L, putF_n, putF_1, putF_L, kpM_n, kpM_1, kpM_L, dpF_n, dropF_1, dropF_L, clR_n, clR_1, clR_L, clP_n, clP_1, clP_L, frmF_n, frmF_1, frmF_L, rqF_n, rpF_1, rpF_L, rpP_n, rpP_1, rpP_L, rkI_n, rkI_1, rkI_L, rpR_n, rpR_1, rpR_L, gvM_n, gvM_1, gvM_L, enF_n, enF_1, enF_L, usF_n, usF_1, usF_L, teF_n, teF_1, teF_L, akF_n, akF_1, akF_L, tbM_n, tbM_13, tbM_1, tbM_L, naM_n, naM_13, naM_1, naM_L, fillF_n, fillF_1, fillF_L, markF_n, markF_1, markF_L, rmS_n, rmS_1, rmS_L, st11_n, st11_1, st11_L, rsL_n, rsL_1n, amL_2, amL_1, h.j0, h.j1, h.j2, h.o7]) ⟨by simp (disch := omega) only [wOk, wT, mS, mwO, mwT, stL_2, stL_1, stM_1, stM_L, rd_s, rd_j, rd_n, stM_n, rdL_s, rdL_j, rdL_n, stL_n, s9_n, s9_1, s9_L, putF_n, putF_1, putF_L, kpM_n, kpM_1, kpM_L, dpF_n, dropF_1, dropF_L, clR_n, clR_1, clR_L, clP_n, clP_1, clP_L, frmF_n, frmF_1, frmF_L, rqF_n, rpF_1, rpF_L, rpP_n, rpP_1, rpP_L, rkI_n, rkI_1, rkI_L, rpR_n, rpR_1, rpR_L, gvM_n, gvM_1, gvM_L, enF_n, enF_1, enF_L, usF_n, usF_1, usF_L, teF_n, teF_1, teF_L, akF_n, akF_1, akF_L, tbM_n, tbM_13, tbM_1, tbM_L, naM_n, naM_13, naM_1, naM_L, fillF_n, fillF_1, fillF_L, markF_n, markF_1, markF_L, rmS_n, rmS_1, rmS_L, st11_n, st11_1, st11_L, rsL_n, rsL_1n, amL_2, amL_1, h.j0, h.j1, h.j2, h.o7], Or.inr (by simp (disch := omega) only [wOk, wT, mS, mwO, mwT, stL_2, stL_1, stM_1, stM_L, rd_s, rd_j, rd_n, stM_n, rdL_s, rdL_j, rdL_n, stL_n, s9_n, s9_1, s9_L, putF_n, putF_1, putF_L, kpM_n, kpM_1, kpM_L, dpF_n, dropF_1, dropF_L, clR_n, clR_1, clR_L, clP_n, clP_1, clP_L, frmF_n, frmF_1, frmF_L, rqF_n, rpF_1, rpF_L, rpP_n, rpP_1, rpP_L, rkI_n, rkI_1, rkI_L, rpR_n, rpR_1, rpR_L, gvM_n, gvM_1, gvM_L, enF_n, enF_1, enF_L, usF_n, usF_1, usF_L, teF_n, teF_1, teF_L, akF_n, akF_1, akF_L, tbM_n, tbM_13, tbM_1, tbM_L, naM_n, naM_13, naM_1, naM_L, fillF_n, fillF_1, fillF_L, markF_n, markF_1, markF_L, rmS_n, rmS_1, rmS_L, st11_n, st11_1, st11_L, rsL_n, rsL_1n, amL_2, amL_1])⟩ (by simp (disch := omega) only [wOk, wT, mS, mwO, mwT, stL_2, stL_1, stM_1, stM_L, rd_s, rd_j, rd_n, stM_n, rdL_s, rdL_j, rdL_n, stL_n, s9_n, s9_1, s9_L, putF_n, putF_1, putF_L, kpM_n, kpM_1, kpM_L, dpF_n, dropF_1, dropF_L, clR_n, clR_1, clR_L, clP_n, clP_1, clP_L, frmF_n, frmF_1, frmF_L, rqF_n, rpF_1, rpF_L, rpP_n, rpP_1, rpP_L, rkI_n, rkI_1, rkI_L, rpR_n, rpR_1, rpR_L, gvM_n, gvM_1, gvM_L, enF_n, enF_1, enF_L, usF_n, usF_1, usF_L, teF_n, teF_1, teF_L, akF_n, akF_1, akF_L, tbM_n, tbM_13, tbM_1, tbM_L, naM_n, naM_13, naM_1, naM_L, fillF_n, fillF_1, fillF_L, markF_n, markF_1, markF_L, rmS_n, rmS_1, rmS_L, st11_n, st11_1, st11_L, rsL_n, rsL_1n, amL_2, amL_1, h.j0, h.j1, h.j2, h.o7]) (by simp (disch := omega) only [wOk, wT, mS, mwO, mwT, stL_2, stL_1, stM_1, stM_L, rd_s, rd_j, rd_n, stM_n, rdL_s, rdL_j, rdL_n, stL_n, s9_n, s9_1, s9_L, putF_n, putF_1, putF_L, kpM_n, kpM_1, kpM_L, dpF_n, dropF_1, dropF_L, clR_n, clR_1, clR_L, clP_n, clP_1, clP_L, frmF_n, frmF_1, frmF_L, rqF_n, rpF_1, rpF_L, rpP_n, rpP_1, rpP_L, rkI_n, rkI_1, rkI_L, rpR_n, rpR_1, rpR_L, gvM_n, gvM_1, gvM_L, enF_n, enF_1, enF_L, usF_n, usF_1, usF_L, teF_n, teF_1, teF_L, akF_n, akF_1, akF_L, tbM_n, tbM_13, tbM_1, tbM_L, naM_n, naM_13, naM_1, naM_L, fillF_n, fillF_1, fillF_L, markF_n, markF_1, markF_L, rmS_n, rmS_1, rmS_L, st11_n, st11_1, st11_L, rsL_n, rsL_1n, amL_2, amL_1, h.j0, h.j1, h.j2, h.o7])⟩
  · rw [if_neg (by rw [h.j0]; exact h0)]
    have e : mTear S = stM (mS S) 13 2 (S.2.2 13 2) := by
      unfold mTear
      rcases h.jb with h1 | h1
      · rw [if_pos h1, if_neg h0, h1]
      · rw [if_neg (by rw [h1]; decide), h1]
    rw [e]
    refine ⟨by simp (disch := omega) only [wOk, wT, mS, mwO, mwT, stL_2, stL_1, stM_1, stM_L, rd_s, rd_j, rd_n, stM_n, rdL_s, rdL_j, rdL_n, stL_n, s9_n, s9_1, s9_L, putF_n, putF_1, putF_L, kpM_n, kpM_1, kpM_L, dpF_n, dropF_1, dropF_L, clR_n, clR_1, clR_L, clP_n, clP_1, clP_L, frmF_n, frmF_1, frmF_L, rqF_n, rpF_1, rpF_L, rpP_n, rpP_1, rpP_L, rkI_n, rkI_1, rkI_L, rpR_n, rpR_1, rpR_L, gvM_n, gvM_1, gvM_L, enF_n, enF_1, enF_L, usF_n, usF_1, usF_L, teF_n, teF_1, teF_L, akF_n, akF_1, akF_L, tbM_n, tbM_13, tbM_1, tbM_L, naM_n, naM_13, naM_1, naM_L, fillF_n, fillF_1, fillF_L, markF_n, markF_1, markF_L, rmS_n, rmS_1, rmS_L, st11_n, st11_1, st11_L, rsL_n, rsL_1n, amL_2, amL_1], Rel_J h ⟨rfl, fun t ht => rfl, fun t h3 h13 h0 => by simp (disch := omega) only [wOk, wT, mS, mwO, mwT, stL_2, stL_1, stM_1, stM_L, rd_s, rd_j, rd_n, stM_n, rdL_s, rdL_j, rdL_n, stL_n, s9_n, s9_1, s9_L, putF_n, putF_1, putF_L, kpM_n, kpM_1, kpM_L, dpF_n, dropF_1, dropF_L, clR_n, clR_1, clR_L, clP_n, clP_1, clP_L, frmF_n, frmF_1, frmF_L, rqF_n, rpF_1, rpF_L, rpP_n, rpP_1, rpP_L, rkI_n, rkI_1, rkI_L, rpR_n, rpR_1, rpR_L, gvM_n, gvM_1, gvM_L, enF_n, enF_1, enF_L, usF_n, usF_1, usF_L, teF_n, teF_1, teF_L, akF_n, akF_1, akF_L, tbM_n, tbM_13, tbM_1, tbM_L, naM_n, naM_13, naM_1, naM_L, fillF_n, fillF_1, fillF_L, markF_n, markF_1, markF_L, rmS_n, rmS_1, rmS_L, st11_n, st11_1, st11_L, rsL_n, rsL_1n, amL_2, amL_1], fun j hj => by simp (disch := omega) only [wOk, wT, mS, mwO, mwT, stL_2, stL_1, stM_1, stM_L, rd_s, rd_j, rd_n, stM_n, rdL_s, rdL_j, rdL_n, stL_n, s9_n, s9_1, s9_L, putF_n, putF_1, putF_L, kpM_n, kpM_1, kpM_L, dpF_n, dropF_1, dropF_L, clR_n, clR_1, clR_L, clP_n, clP_1, clP_L, frmF_n, frmF_1, frmF_L, rqF_n, rpF_1, rpF_L, rpP_n, rpP_1, rpP_L, rkI_n, rkI_1, rkI_L, rpR_n, rpR_1, rpR_L, gvM_n, gvM_1, gvM_L, enF_n, enF_1, enF_L, usF_n, usF_1, usF_L, teF_n, teF_1, teF_L, akF_n, akF_1, akF_L, tbM_n, tbM_13, tbM_1, tbM_L, naM_n, naM_13, naM_1, naM_L, fillF_n, fillF_1, fillF_L, markF_n, markF_1, markF_L, rmS_n, rmS_1, rmS_L, st11_n, st11_1, st11_L, rsL_n, rsL_1n, amL_2, amL_1], fun j hj => by simp (disch := omega) only [wOk, wT, mS, mwO, mwT, stL_2, stL_1, stM_1, stM_L, rd_s, rd_j, rd_n, stM_n, rdL_s, rdL_j, rdL_n, stL_n, s9_n, s9_1, s9_L, putF_n, putF_1, putF_L, kpM_n, kpM_1, kpM_L, dpF_n, dropF_1, dropF_L, clR_n, clR_1, clR_L, clP_n, clP_1, clP_L, frmF_n, frmF_1, frmF_L, rqF_n, rpF_1, rpF_L, rpP_n, rpP_1, rpP_L, rkI_n, rkI_1, rkI_L, rpR_n, rpR_1, rpR_L, gvM_n, gvM_1, gvM_L, enF_n, enF_1, enF_L, usF_n, usF_1, usF_L, teF_n, teF_1, teF_L, akF_n, akF_1, akF_L, tbM_n, tbM_13, tbM_1, tbM_L, naM_n, naM_13, naM_1, naM_L, fillF_n, fillF_1, fillF_L, markF_n, markF_1, markF_L, rmS_n, rmS_1, rmS_L, st11_n, st11_1, st11_L, rsL_n, rsL_1n, amL_2, amL_1]⟩ (by omega) (by omega) (by simp (disch := omega) only [wOk, wT, mS, mwO, mwT, stL_2, stL_1, stM_1, stM_L, rd_s, rd_j, rd_n, stM_n, rdL_s, rdL_j, rdL_n, stL_n, s9_n, s9_1, s9_L, putF_n, putF_1, putF_L, kpM_n, kpM_1, kpM_L, dpF_n, dropF_1, dropF_L, clR_n, clR_1, clR_L, clP_n, clP_1, clP_L, frmF_n, frmF_1, frmF_L, rqF_n, rpF_1, rpF_L, rpP_n, rpP_1, rpP_L, rkI_n, rkI_1, rkI_L, rpR_n, rpR_1, rpR_L, gvM_n, gvM_1, gvM_L, enF_n, enF_1, enF_L, usF_n, usF_1, usF_L, teF_n, teF_1, teF_L, akF_n, akF_1, akF_L, tbM_n, tbM_13, tbM_1, tbM_L, naM_n, naM_13, naM_1, naM_L, fillF_n, fillF_1, fillF_L, markF_n, markF_1, markF_L, rmS_n, rmS_1, rmS_L, st11_n, st11_1, st11_L, rsL_n, rsL_1n, amL_2, amL_1, h.j0, h.j1, h.j2, h.o7]) ⟨by simp (disch := omega) only [wOk, wT, mS, mwO, mwT, stL_2, stL_1, stM_1, stM_L, rd_s, rd_j, rd_n, stM_n, rdL_s, rdL_j, rdL_n, stL_n, s9_n, s9_1, s9_L, putF_n, putF_1, putF_L, kpM_n, kpM_1, kpM_L, dpF_n, dropF_1, dropF_L, clR_n, clR_1, clR_L, clP_n, clP_1, clP_L, frmF_n, frmF_1, frmF_L, rqF_n, rpF_1, rpF_L, rpP_n, rpP_1, rpP_L, rkI_n, rkI_1, rkI_L, rpR_n, rpR_1, rpR_L, gvM_n, gvM_1, gvM_L, enF_n, enF_1, enF_L, usF_n, usF_1, usF_L, teF_n, teF_1, teF_L, akF_n, akF_1, akF_L, tbM_n, tbM_13, tbM_1, tbM_L, naM_n, naM_13, naM_1, naM_L, fillF_n, fillF_1, fillF_L, markF_n, markF_1, markF_L, rmS_n, rmS_1, rmS_L, st11_n, st11_1, st11_L, rsL_n, rsL_1n, amL_2, amL_1, h.j0, h.j1, h.j2, h.o7], by simp (disch := omega) only [wOk, wT, mS, mwO, mwT, stL_2, stL_1, stM_1, stM_L, rd_s, rd_j, rd_n, stM_n, rdL_s, rdL_j, rdL_n, stL_n, s9_n, s9_1, s9_L, putF_n, putF_1, putF_L, kpM_n, kpM_1, kpM_L, dpF_n, dropF_1, dropF_L, clR_n, clR_1, clR_L, clP_n, clP_1, clP_L, frmF_n, frmF_1, frmF_L, rqF_n, rpF_1, rpF_L, rpP_n, rpP_1, rpP_L, rkI_n, rkI_1, rkI_L, rpR_n, rpR_1, rpR_L, gvM_n, gvM_1, gvM_L, enF_n, enF_1, enF_L, usF_n, usF_1, usF_L, teF_n, teF_1, teF_L, akF_n, akF_1, akF_L, tbM_n, tbM_13, tbM_1, tbM_L, naM_n, naM_13, naM_1, naM_L, fillF_n, fillF_1, fillF_L, markF_n, markF_1, markF_L, rmS_n, rmS_1, rmS_L, st11_n, st11_1, st11_L, rsL_n, rsL_1n, amL_2, amL_1]; exact h.jb⟩ (by simp (disch := omega) only [wOk, wT, mS, mwO, mwT, stL_2, stL_1, stM_1, stM_L, rd_s, rd_j, rd_n, stM_n, rdL_s, rdL_j, rdL_n, stL_n, s9_n, s9_1, s9_L, putF_n, putF_1, putF_L, kpM_n, kpM_1, kpM_L, dpF_n, dropF_1, dropF_L, clR_n, clR_1, clR_L, clP_n, clP_1, clP_L, frmF_n, frmF_1, frmF_L, rqF_n, rpF_1, rpF_L, rpP_n, rpP_1, rpP_L, rkI_n, rkI_1, rkI_L, rpR_n, rpR_1, rpR_L, gvM_n, gvM_1, gvM_L, enF_n, enF_1, enF_L, usF_n, usF_1, usF_L, teF_n, teF_1, teF_L, akF_n, akF_1, akF_L, tbM_n, tbM_13, tbM_1, tbM_L, naM_n, naM_13, naM_1, naM_L, fillF_n, fillF_1, fillF_L, markF_n, markF_1, markF_L, rmS_n, rmS_1, rmS_L, st11_n, st11_1, st11_L, rsL_n, rsL_1n, amL_2, amL_1, h.j0, h.j1, h.j2, h.o7]) (by simp (disch := omega) only [wOk, wT, mS, mwO, mwT, stL_2, stL_1, stM_1, stM_L, rd_s, rd_j, rd_n, stM_n, rdL_s, rdL_j, rdL_n, stL_n, s9_n, s9_1, s9_L, putF_n, putF_1, putF_L, kpM_n, kpM_1, kpM_L, dpF_n, dropF_1, dropF_L, clR_n, clR_1, clR_L, clP_n, clP_1, clP_L, frmF_n, frmF_1, frmF_L, rqF_n, rpF_1, rpF_L, rpP_n, rpP_1, rpP_L, rkI_n, rkI_1, rkI_L, rpR_n, rpR_1, rpR_L, gvM_n, gvM_1, gvM_L, enF_n, enF_1, enF_L, usF_n, usF_1, usF_L, teF_n, teF_1, teF_L, akF_n, akF_1, akF_L, tbM_n, tbM_13, tbM_1, tbM_L, naM_n, naM_13, naM_1, naM_L, fillF_n, fillF_1, fillF_L, markF_n, markF_1, markF_L, rmS_n, rmS_1, rmS_L, st11_n, st11_1, st11_L, rsL_n, rsL_1n, amL_2, amL_1, h.j0, h.j1, h.j2, h.o7])⟩
