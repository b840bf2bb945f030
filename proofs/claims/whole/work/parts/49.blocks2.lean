/-! blocks: looking ahead and taking, purely -/
section TBV
variable {S : zSt} {s T Z A : Nat} {e : Nat → Nat}
theorem tbM_1 : (tbM S s T Z A e).1 = S.1 := by
  unfold tbM
  rw [stM_1, stM_1, stM_1, shD_1, laS_1]
theorem tbM_L {u : Nat} (h : u ≠ 18) : (tbM S s T Z A e).2.1 u = S.2.1 u := by
  unfold tbM
  rw [stM_L, stM_L, stM_L, shD_L h, laS_L]
theorem tbM_18o {j : Nat} (h : j ≠ s) : (tbM S s T Z A e).2.1 18 j = S.2.1 18 j := by
  unfold tbM
  rw [stM_L, stM_L, stM_L, shD_Lj h, laS_L]
theorem tbM_15 : (tbM S s T Z A e).2.2 15 = upd (S.2.2 15) T (nI s) := by
  unfold tbM
  rw [stM_n (by decide), stM_n (by decide), stM_s, shD_n (by decide), laS_n (by decide)]
theorem tbM_17 : (tbM S s T Z A e).2.2 17 = upd (S.2.2 17) s (S.2.2 17 s + 1) := by
  unfold tbM
  rw [stM_n (by decide), stM_s, stM_n (by decide), shD_n (by decide), laS_n (by decide)]
theorem tbM_16o {j : Nat} (hZ : 1 ≤ Z) (hs : sE e A = Z) (h : j < 24 * T ∨ 24 * T + Z ≤ j) : (tbM S s T Z A e).2.2 16 j = S.2.2 16 j := by
  unfold tbM
  rw [rd_n (by decide), rd_n (by decide), rd_n (by decide), shD_out (by omega) h, laS_out (by omega)]
theorem tbM_v (hZ : 1 ≤ Z) (hs : sE e A = Z) : (tbM S s T Z A e).2.1 18 s = BW (S.2.1 18 s) e A Z ∧ ∀ q, q < Z → (tbM S s T Z A e).2.2 16 (24 * T + q) = BV (S.2.1 18 s) e A Z q := by
  have v := shD_view (tw := 18) (jw := s) (t := 16) (F := 24 * T) (Z := Z) (S := laS 16 (24 * T) e S A) (w := S.2.1 18 s) (f := lyV e A) (by rw [laS_L]) (fun q hq => laS_view (by omega)) (k := Z - 1) (by omega)
  refine ⟨v.1, fun q hq => ?_⟩
  unfold tbM
  rw [rd_n (by decide), rd_n (by decide), rd_n (by decide)]
  exact v.2 q hq
theorem naM_1 : (naM S s T Z A e).1 = S.1 := tbM_1
theorem naM_L : (naM S s T Z A e).2.1 = S.2.1 := by
  funext u j
  unfold naM
  by_cases h : u = 18
  · subst h
    by_cases hj : j = s
    · subst hj; exact rdL_s
    · rw [rdL_j hj, stM_L, stM_L, tbM_18o hj]
  · rw [rdL_n h, stM_L, stM_L, tbM_L h]
theorem naM_15 : (naM S s T Z A e).2.2 15 = upd (S.2.2 15) T (nI s) := by
  unfold naM
  rw [stL_2, stM_n (by decide), stM_n (by decide), tbM_15]
theorem naM_17 : (naM S s T Z A e).2.2 17 = S.2.2 17 := by
  unfold naM
  rw [stL_2, stM_s, stM_n (by decide), tbM_17]
  funext q
  by_cases h : q = s
  · subst h
    rw [show ∀ (f : Nat → Int32) (v : Int32), upd f q v q = v from fun _ _ => if_pos rfl, show ∀ (f : Nat → Int32) (v : Int32), upd f q v q = v from fun _ _ => if_pos rfl, Int32.add_sub_cancel]
  · rw [show ∀ (f : Nat → Int32) (v : Int32), upd f s v q = f q from fun _ _ => if_neg h, show ∀ (f : Nat → Int32) (v : Int32), upd f s v q = f q from fun _ _ => if_neg h]
theorem naM_16o {j : Nat} (hZ : 1 ≤ Z) (hs : sE e A = Z) (h : j < 24 * T ∨ 24 * T + Z ≤ j) : (naM S s T Z A e).2.2 16 j = S.2.2 16 j := by
  unfold naM
  rw [stL_2, rd_n (by decide), rd_n (by decide), tbM_16o hZ hs h]
theorem bdS_L {B u : Nat} (h : u ≠ 40 + s) : (bdS S s B Z A e).2.1 u = S.2.1 u := by
  unfold bdS
  rw [stM_L, shD_L h, laS_L, mkS_L]
theorem bdS_v {B : Nat} (hZ : 1 ≤ Z) (hs : sE e A = Z) : (bdS S s B Z A e).2.1 (40 + s) 4 = BW (S.2.1 (40 + s) 4) e A Z ∧ ∀ q, q < Z → (bdS S s B Z A e).2.2 (60 + s) (B * Z + q) = BV (S.2.1 (40 + s) 4) e A Z q := by
  have v := shD_view (tw := 40 + s) (jw := 4) (t := 60 + s) (F := B * Z) (Z := Z) (S := laS (60 + s) (B * Z) e (mkS S s (B * Z + Z)) A) (w := S.2.1 (40 + s) 4) (f := lyV e A) (by rw [laS_L, mkS_L]) (fun q hq => laS_view (by omega)) (k := Z - 1) (by omega)
  refine ⟨v.1, fun q hq => ?_⟩
  unfold bdS
  rw [rd_n (by omega)]
  exact v.2 q hq
theorem bdS_o {B q : Nat} (hZ : 1 ≤ Z) (hs : sE e A = Z) (h : q < B * Z) (hl : B * Z ≤ S.1 (60 + s)) : (bdS S s B Z A e).2.2 (60 + s) q = S.2.2 (60 + s) q := by
  unfold bdS
  rw [rd_n (by omega), shD_out (by omega) (by omega), laS_out (by omega), mkS_old (by omega)]
end TBV
theorem rkA_le {f : Nat → Nat} {s n : Nat} : rkA f s n ≤ n := cntI_le
theorem gPl_e {g : Gh} {S : zSt} (r : RP g S) (p : gPl g.A g.Z g.W g.e S) : ∀ a, a < g.A → (if 0 < S.2.2 1 2 then S.2.2 2 a * (S.2.2 1 3 / S.2.2 1 2) else 0) = nI (g.e a) := by
  intro a ha
  obtain ⟨p1, p2, p3, p4, p5, p6, p7, p8, p9, p10⟩ := p
  rw [p7, if_pos (show (0 : Int32) < nI g.W from (nI_ltI (a := 0) (by omega) (by omega)).mpr (by omega)), r.2.2.1, r.2.2.2.2.1 a (by omega)]
  exact p9 a ha
/-- the desk has built a block ahead -/
theorem ah_rel {g : Gh} {c : Nat} {S : zSt} (h : Rel g c S) (hc : c < 512) {s : Nat} (hs : s < 8) (hpl : gPl g.A g.Z g.W g.e S) : ∃ g', Rel g' c (ahS S s (rkA g.bs s g.T) (g.bt s) g.Z g.A g.e) ∧ (∀ k, k ≠ 7 → g' k = g k) ∧ g'.bt s = rkA g.bs s g.T + 1 := by
  have hS := h.bk.2.2.2.2.2 s hs
  have hT := h.bk.2.1
  obtain ⟨a1, a2, a3, a4, a5, a6, a7, a8⟩ := hS
  unfold ahS
  rcases a7 with ⟨b1, b2⟩ | ⟨b1, b2, b3, b4⟩
  · rw [if_pos b1.symm]
    have hZ1 : 1 ≤ g.Z := hpl.2.2.1
    have hZ2 : g.Z ≤ 24 := hpl.2.2.2.1
    have hsE : sE g.e g.A = g.Z := hpl.2.2.2.2.2.2.2.2.2
    have hr : rkA g.bs s g.T ≤ g.T := rkA_le
    obtain ⟨X, hX⟩ : ∃ X, X = bdS S s (g.bt s) g.Z g.A g.e := ⟨_, rfl⟩
    have xo : ∀ t, (t ≠ 40 + s ∧ t ≠ 60 + s) → X.2.2 t = S.2.2 t := fun t ht => by rw [hX, bdS_n ht.2 ht.1]
    have x5 : X.2.2 (40 + s) 5 = nI (g.bt s + 1) := by rw [hX, bdS_5]
    have xj : ∀ j, j ≠ 5 → X.2.2 (40 + s) j = S.2.2 (40 + s) j := fun j hj => by rw [hX, bdS_j hj]
    have xL : ∀ t, t ≠ 40 + s → X.2.1 t = S.2.1 t := fun t ht => by rw [hX, bdS_L ht]
    have xv := bdS_v (S := S) (s := s) (B := g.bt s) hZ1 hsE
    rw [← hX] at xv
    have xq : ∀ q, q < g.bt s * g.Z → X.2.2 (60 + s) q = S.2.2 (60 + s) q := fun q hq => by rw [hX, bdS_o hZ1 hsE hq a5]
    have xl : g.bt s * g.Z + g.Z ≤ X.1 (60 + s) ∧ X.1 (60 + s) ≤ 24576 := by
      rw [hX, bdS_1]
      refine ⟨mkS_len.1, ?_⟩
      unfold mkS
      by_cases q : S.1 (60 + s) < g.bt s * g.Z + g.Z
      · rw [if_pos q]
        show (if 60 + s = 60 + s then _ else _) ≤ 24576
        rw [if_pos rfl]
        have : g.bt s * g.Z ≤ 511 * 24 := Nat.mul_le_mul (by omega) hZ2
        omega
      · rw [if_neg q]; exact a6
    have xln : ∀ t, t ≠ 60 + s → X.1 t = S.1 t := fun t ht => by rw [hX, bdS_1, mkS_1n ht]
    rw [← hX]
    clear hX
    have hb : ∀ q, (gS g 7 fun q _ => if q = s then rkA g.bs s g.T + 1 else g.bt q).bt q = if q = s then rkA g.bs s g.T + 1 else g.bt q := fun _ => rfl
    refine ⟨gS g 7 fun q _ => if q = s then rkA g.bs s g.T + 1 else g.bt q, ⟨by rw [xo 3 (by omega), xo 13 (by omega)]; exact h.j0, ⟨by rw [xo 3 (by omega), xo 13 (by omega)]; exact h.j1, by rw [xo 13 (by omega)]; exact h.jb⟩, by rw [xo 3 (by omega), xo 13 (by omega)]; exact h.j2, by rw [xo 0 (by omega), xo 13 (by omega)]; exact h.o7, RS_c (xo 9 (by omega)) (xo 21 (by omega)) (fun j hj => by rw [xo (100 + j) (by omega)]) (by rw [xo 0 (by omega)]) h.st, (RP_c (fun j hj => by rw [xo 1 (by omega)]) (xo 2 (by omega)) (xo 14 (by omega)) (by rw [xo 13 (by omega)]) (by rw [xo 13 (by omega)]) h.pl : RP g X), ⟨by rw [xo 13 (by omega)]; exact h.bk.1, hT, h.bk.2.2.1, fun j => by rw [xo 16 (by omega)]; exact h.bk.2.2.2.1 j, fun b hb => ?_, fun s' hs' => ?_⟩, (RE_c (fun t ht => xo t (by omega)) h.pe : RE g X), (RK_c (fun t ht => xo t (by omega)) h.ki : RK g X)⟩, fun k hk => by funext i j; exact if_neg hk, if_pos rfl⟩
    · have hb : b < g.T := hb
      have old := h.bk.2.2.2.2.1 b hb
      show gBl g b X
      unfold gBl at old ⊢
      rw [xo 15 (by omega), xo 16 (by omega)]
      refine ⟨old.1, old.2.1, fun q hq => ?_⟩
      obtain ⟨o1, o2, o3⟩ := old.2.2 q hq
      refine ⟨o1, o2, ?_⟩
      by_cases e : g.bs b = s
      · have hrk : rkB g.bs b < rkA g.bs s g.T := by rw [rkB, e]; exact rkA_lt hb e
        have : rkB g.bs b * g.Z + g.Z ≤ g.bt s * g.Z := by
          rw [← Nat.succ_mul]
          exact Nat.mul_le_mul_right _ (by omega)
        rw [e] at o3 ⊢
        rw [xq _ (by omega)]
        exact o3
      · rw [xo (60 + g.bs b) (by have := old.2.1; omega)]
        exact o3
    · show gSt _ s' X
      by_cases e : s' = s
      · subst e
        refine ⟨by rw [xo 17 (by omega)]; exact a1, by rw [xj 6 (by decide)]; exact a2, ⟨by rw [xj 0 (by decide)]; exact a3.1, by rw [xln (40 + s') (by omega)]; exact a3.2⟩, ?_, ?_, xl.2, Or.inr ⟨?_, by show g.A ≠ 0; have := hpl.1; omega, ?_, ?_⟩, ?_⟩
        · rw [hb, if_pos rfl, x5, b1]
        · rw [hb, if_pos rfl]
          show (rkA g.bs s' g.T + 1) * g.Z ≤ _
          rw [← b1, Nat.succ_mul]
          exact xl.1
        · rw [hb, if_pos rfl]; rfl
        · rw [xv.1, b2, xL 18 (by omega)]; rfl
        · intro q hq
          have := xv.2 q hq
          rw [b1, b2] at this
          rw [xL 18 (by omega)]
          exact this
        · show gOp g.Z g.T g.bs s' X
          unfold gOp at a8 ⊢
          rw [xo 19 (by omega), xo 20 (by omega), xj 7 (by decide), xj 8 (by decide)]
          exact a8
      · have old := h.bk.2.2.2.2.2 s' hs'
        unfold gSt at old ⊢
        rw [hb, if_neg e, xo 17 (by omega), xo (40 + s') (by omega), xo (60 + s') (by omega), xln (60 + s') (by omega), xln (40 + s') (by omega), xL 18 (by omega), xL (40 + s') (by omega)]
        obtain ⟨c1, c2, c3, c4, c5, c6, c7, c8⟩ := old
        refine ⟨c1, c2, c3, c4, c5, c6, c7, ?_⟩
        show gOp g.Z g.T g.bs s' X
        exact gOp_c (xo 19 (by omega)) (xo 20 (by omega)) (xo (40 + s') (by omega)) c8
  · rw [if_neg (by omega)]
    exact ⟨g, h, fun _ _ => rfl, b1⟩
/-- the numbers once a block is taken -/
def gTk (g : Gh) (s : Nat) (ar : Nat → Nat) : Gh := gS (gS (gS g 4 fun _ _ => g.T + 1) 5 fun b j => if b = g.T then s else g 5 b j) 6 fun b q => if b = g.T then ar q else g.bl b q
theorem rk_tk {g : Gh} {s s' n : Nat} {ar : Nat → Nat} (hn : n ≤ g.T) : rkA (gTk g s ar).bs s' n = rkA g.bs s' n := by
  refine cntI_congr fun q hq => ?_
  rw [show (gTk g s ar).bs q = if q = g.T then s else g.bs q from rfl, if_neg (by omega)]
theorem tk_RB {g : Gh} {c : Nat} {S : zSt} (h : Rel g c S) (hc : c < 512) {X : zSt} {s : Nat} {ar : Nat → Nat} (hs : s < 8) (hpl : gPl g.A g.Z g.W g.e S) (hbt : g.bt s = rkA g.bs s g.T + 1) (har : ∀ q, q < g.Z → BV (S.2.1 18 s) g.e g.A g.Z q = nI (ar q) ∧ ar q < g.A) (x1 : X.1 = S.1) (x60 : ∀ t, (60 ≤ t ∧ t < 68) → X.2.2 t = S.2.2 t) (x40 : ∀ t, t < 8 → t ≠ s → X.2.2 (40 + t) = S.2.2 (40 + t)) (xs : ∀ j, (j = 0 ∨ j = 5) → X.2.2 (40 + s) j = S.2.2 (40 + s) j) (xs6 : X.2.2 (40 + s) 6 = nI (rkA g.bs s g.T + 1)) (xL : ∀ t, t < 8 → X.2.1 (40 + t) = S.2.1 (40 + t)) (x15 : X.2.2 15 = upd (S.2.2 15) g.T (nI s)) (x16o : ∀ j, j < 24 * g.T → X.2.2 16 j = S.2.2 16 j) (x16 : ∀ q, q < g.Z → X.2.2 16 (24 * g.T + q) = BV (S.2.1 18 s) g.e g.A g.Z q) (xb : bOk X) (x17 : X.2.2 17 = upd (S.2.2 17) s (nI (rkA g.bs s g.T + 1))) (x18 : X.2.1 18 s = BW (S.2.1 18 s) g.e g.A g.Z) (x18o : ∀ t, t ≠ s → X.2.1 18 t = S.2.1 18 t) (x13 : X.2.2 13 9 = nI (g.T + 1)) (x19 : ∀ t, t ≠ s → X.2.2 19 t = S.2.2 19 t ∧ X.2.2 20 t = S.2.2 20 t) (hop : gOp g.Z (g.T + 1) (gTk g s ar).bs s X) : RB (gTk g s ar) (c + 1) X := by
  obtain ⟨a1, a2, a3, a4, a5, a6, a7, a8⟩ := h.bk.2.2.2.2.2 s hs
  have hZ2 : g.Z ≤ 24 := hpl.2.2.2.1
  have hT := h.bk.2.1
  have eT : (gTk g s ar).T = g.T + 1 := rfl
  have eb : ∀ q, (gTk g s ar).bs q = if q = g.T then s else g.bs q := fun _ => rfl
  have el : ∀ b q, (gTk g s ar).bl b q = if b = g.T then ar q else g.bl b q := fun _ _ => rfl
  have rkT : ∀ s', rkA (gTk g s ar).bs s' (g.T + 1) = rkA g.bs s' g.T + (if s = s' then 1 else 0) := fun s' => by
    rw [rkA_s, rk_tk (Nat.le_refl _), eb, if_pos rfl]
  have hv : ∀ q, q < g.Z → S.2.2 (60 + s) (rkA g.bs s g.T * g.Z + q) = BV (S.2.1 18 s) g.e g.A g.Z q := by
    rcases a7 with q | q
    · exact absurd q.1 (by omega)
    · exact q.2.2.2
  have hw : S.2.1 (40 + s) 4 = BW (S.2.1 18 s) g.e g.A g.Z := by
    rcases a7 with q | q
    · exact absurd q.1 (by omega)
    · exact q.2.2.1
  refine ⟨by rw [x13, eT], by rw [eT]; omega, by omega, xb, fun b hb => ?_, fun s' hs' => ?_⟩
  · rw [eT] at hb
    by_cases e : b = g.T
    · subst e
      refine ⟨by rw [eb, if_pos rfl, x15]; exact up_s, by rw [eb, if_pos rfl]; exact hs, fun q hq => ?_⟩
      rw [el, if_pos rfl, eb, if_pos rfl, x16 q hq, x60 _ (by omega), rkB, eb, if_pos rfl, rk_tk (Nat.le_refl _)]
      exact ⟨(har q hq).1, (har q hq).2, (hv q hq).trans (har q hq).1⟩
    · obtain ⟨o1, o2, o3⟩ := h.bk.2.2.2.2.1 b (by omega)
      refine ⟨by rw [eb, if_neg e, x15, up_n e]; exact o1, by rw [eb, if_neg e]; exact o2, fun q hq => ?_⟩
      have hq : q < g.Z := hq
      rw [el, if_neg e, eb, if_neg e, x16o _ (by omega), x60 _ (by omega), rkB, eb, if_neg e, rk_tk (by omega)]
      exact o3 q hq
  · by_cases e : s' = s
    · subst e
      refine ⟨?_, ?_, ⟨by rw [xs 0 (by omega)]; exact a3.1, by rw [x1]; exact a3.2⟩, by rw [xs 5 (by omega)]; exact a4, by rw [x1]; exact a5, by rw [x1]; exact a6, Or.inl ⟨?_, ?_⟩, hop⟩
      · rw [eT, rkT, if_pos rfl, x17, up_s]
      · rw [eT, rkT, if_pos rfl, xs6]
      · rw [eT, rkT, if_pos rfl]; exact hbt
      · rw [xL s' hs', x18]; exact hw
    · obtain ⟨c1, c2, c3, c4, c5, c6, c7, c8⟩ := h.bk.2.2.2.2.2 s' hs'
      refine ⟨?_, ?_, ⟨by rw [x40 s' hs' e]; exact c3.1, by rw [x1]; exact c3.2⟩, by rw [x40 s' hs' e]; exact c4, by rw [x1]; exact c5, by rw [x1]; exact c6, ?_, ?_⟩
      · rw [eT, rkT, if_neg (fun z => e z.symm), x17, up_n e]; exact c1
      · rw [eT, rkT, if_neg (fun z => e z.symm), x40 s' hs' e]; exact c2
      · rw [eT, rkT, if_neg (fun z => e z.symm), xL s' hs', x18o s' e, x60 _ (by omega)]
        exact c7
      · show gOp g.Z (g.T + 1) (gTk g s ar).bs s' X
        unfold gOp at c8 ⊢
        rw [(x19 s' e).1, (x19 s' e).2, x40 s' hs' e]
        refine c8.imp id ?_
        rintro ⟨b, o, d1, d2, d3, d4, d5, d6, d7⟩
        refine ⟨b, o, d1, by omega, by rw [eb, if_neg (by omega)]; exact d3, d4, d5, d6, ?_⟩
        rw [d7, rkB, rkB, eb, if_neg (by omega), rk_tk (by omega)]
