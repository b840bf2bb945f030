/-! what a person allotted, and a reserve taken, leave behind -/
theorem al_rel {g : Gh} {c : Nat} {S : zSt} (h : Rel g c S) (hc : c < 512) {X : zSt} {g' : Gh} {i s p a k : Nat} (hi : i < 10) (hs : s < 8) (hp : p < 100) (ha : a < 4) (hpl : gPl g.A g.Z g.W g.e S) (ho : S.2.2 9 i ≠ 0) (h21 : S.2.2 21 i = 1) (old0 : S.2.2 25 (100 * i + p) = 0) (hk : k < 1000) (h22 : S.2.2 22 k = nI i) (h24 : S.2.2 24 k = 0) (gA : g'.A = g.A) (gZ : g'.Z = g.Z) (gWW : g'.W = g.W) (ge : g'.e = g.e) (gT : g.T ≤ g'.T) (gbl : ∀ b, b < g.T → g'.bl b = g.bl b) (gsg : ∀ q, g'.sg q = if q = 100 * i + p then s else g.sg q) (gar : ∀ q, g'.ar q = if q = 100 * i + p then a else g.ar q) (gkt : ∀ q, g'.kt q = if q = 100 * i + p then k else g.kt q) (ghm : g'.hm = g.hm) (gnx : g'.nx = g.nx) (ggk : g'.gk = g.gk) (hRB : RB g' (c + 1) X)
    (xo : ∀ t, (t ≠ 3 ∧ t ≠ 13 ∧ t ≠ 7 ∧ t ≠ 8 ∧ t ≠ 11 ∧ ¬ (15 ≤ t ∧ t ≤ 20) ∧ (t < 24 ∨ 28 < t) ∧ ¬ (40 ≤ t ∧ t < 48) ∧ t ≠ 50 + s ∧ ¬ (60 ≤ t ∧ t < 68) ∧ t ≠ 110 + i ∧ t ≠ 120 + i ∧ t ≠ 130 + i) → X.2.2 t = S.2.2 t) (x5 : ∀ j, 5 ≤ j → j ≠ 9 → X.2.2 13 j = S.2.2 13 j) (x24 : X.2.2 24 = upd (S.2.2 24) k 2) (x25 : X.2.2 25 = upd (S.2.2 25) (100 * i + p) 1) (x26 : X.2.2 26 = upd (S.2.2 26) (100 * i + p) (nI s)) (x27 : X.2.2 27 = upd (S.2.2 27) (100 * i + p) (nI a)) (x28 : X.2.2 28 = upd (S.2.2 28) (100 * i + p) (nI k)) (x7 : X.2.2 7 = upd (S.2.2 7) k 3) (x8 : X.2.2 8 = upd (S.2.2 8) k (nI p)) (x110 : X.2.2 (110 + i) = upd (S.2.2 (110 + i)) p 2) (x120 : X.2.2 (120 + i) = upd (S.2.2 (120 + i)) p (nI s)) (x130 : X.2.2 (130 + i) = upd (S.2.2 (130 + i)) p (nI a)) (x50 : X.2.2 (50 + s) = upd (S.2.2 (50 + s)) a (S.2.2 (50 + s) a + 1)) (j0 : X.2.2 3 0 = X.2.2 13 1) (j1 : jT X) (j2 : X.2.2 3 2 = X.2.2 13 3) (o7 : X.2.2 0 7 = X.2.2 13 4) : Rel g' (c + 1) X := by
  have kk := gv_ki (g' := g') h.ki.1 h.ki.2.1 hi hp hk h22 (by rw [h24]; decide) old0 (w := 1) (by decide) (fun t ht => xo t (by omega)) x24 x7 x8 x25 x28 (fun y => by rw [ghm]) gkt
  have hgle : ∀ j s' q, j < 10 → (gLe g' j s' q X ↔ gLe g j s' q S) := by
    intro j s' q hj
    unfold gLe
    rw [xo 30 (by omega), gnx, gZ]
  have rp := h.pl
  refine ⟨j0, j1, j2, o7, RS_c (xo 9 (by omega)) (xo 21 (by omega)) (fun j hj => by rw [xo (100 + j) (by omega)]) (by rw [xo 0 (by omega)]) h.st, ⟨by rw [xo 1 (by omega), gA]; exact rp.1, by rw [x5 5 (by omega) (by omega), gA]; exact rp.2.1, by rw [xo 1 (by omega), gZ]; exact rp.2.2.1, by rw [x5 6 (by omega) (by omega), gZ]; exact rp.2.2.2.1, by rw [xo 2 (by omega), xo 14 (by omega)]; exact rp.2.2.2.2.1, Or.inr ?_⟩, hRB, ⟨gv_pe h.pe.1 hi hp hs ha ho h21 (Or.inl ⟨rfl, rfl⟩) (fun t ht => xo t (by omega)) x25 x26 x27 x110 x120 x130 (fun j hj hne => ⟨xo _ (by omega), xo _ (by omega), xo _ (by omega)⟩) gsg gar, fun s' a' hs' ha' => ?_⟩, kk.1, kk.2, fun j s' hj hs' => ?_, fun j s1 q1 s2 q2 hj g1 g2 => ?_, fun y hy g1 g2 => ?_⟩
  · rw [gA, gZ, gWW, ge]
    exact gPl_c (by rw [xo 1 (by omega)]) (xo 14 (by omega)) hpl
  · rw [gv_kn (by omega) hs hs' ha ha' old0 x25 x26 x27]
    by_cases e : s' = s
    · subst e
      rw [x50]
      by_cases e2 : a' = a
      · subst e2
        rw [up_s, if_pos ⟨rfl, rfl, rfl⟩, h.pe.2 s' a' hs' ha']
      · rw [up_n e2, if_neg (fun z => e2 z.2.2)]
        exact h.pe.2 s' a' hs' ha'
    · rw [if_neg (fun z => e z.2.1), xo (50 + s') (by omega)]
      exact h.pe.2 s' a' hs' ha'
  · have old := h.ki.2.2.1 j s' hj hs'
    unfold gRe gHe at old ⊢
    rw [gnx, gZ, ggk, xo 31 (by omega), xo 9 (by omega), xo 30 (by omega), xo 21 (by omega), xo 22 (by omega), xo 23 (by omega), xo 32 (by omega), xo (200 + 8 * j + s') (by omega), xo (300 + 8 * j + s') (by omega), x24]
    refine ⟨old.1, old.2.1, fun z => old.2.2.1 (by omega), old.2.2.2.1, fun z => ?_⟩
    rcases old.2.2.2.2 z with o | ⟨b, t1, t2, t3, t4, t5, t6⟩
    · exact Or.inl o
    · refine Or.inr ⟨b, t1, by omega, t3, t4, t5, fun q hq => ?_⟩
      obtain ⟨y1, y2, y3, y4, y5, y6⟩ := t6 q hq
      refine ⟨y1, y2, y3, by rw [gbl b t2]; exact y4, y5, fun hn => ?_⟩
      have ne : g.gk (24 * (8 * j + s') + q) ≠ k := fun z => absurd ((y6 hn).symm.trans (z ▸ h24)) (by decide)
      rw [up_n ne]
      exact y6 hn
  · rw [ggk]
    exact h.ki.2.2.2.1 j s1 q1 s2 q2 hj ((hgle j s1 q1 hj).mp g1) ((hgle j s2 q2 hj).mp g2)
  · rw [x24] at g1
    have ne : y ≠ k := fun z => by rw [z, up_s] at g1; exact absurd g1 (by decide)
    rw [up_n ne] at g1
    rw [ghm, xo 21 (by omega)] at g2
    have hm10 : g.hm y < 10 := by
      rcases h.ki.1 y hy with o | o
      · exact absurd (o.2.1.symm.trans g1) (by decide)
      · exact o.2.1
    obtain ⟨s1, q1, r1, r2⟩ := h.ki.2.2.2.2 y hy g1 g2
    rw [ghm, ggk]
    exact ⟨s1, q1, (hgle _ _ _ hm10).mpr r1, r2⟩
theorem rs_rel {g : Gh} {c : Nat} {S : zSt} (h : Rel g c S) (hc : c < 512) {X : zSt} {g' : Gh} {i s : Nat} {ar kk : Nat → Nat} (hi : i < 10) (hs : s < 8) (hpl : gPl g.A g.Z g.W g.e S) (ho : S.2.2 9 i ≠ 0) (h21 : S.2.2 21 i = 1) (h30 : S.2.2 30 (8 * i + s) < 0) (hkk : ∀ q, q < g.Z → kk q < 1000 ∧ S.2.2 22 (kk q) = nI i ∧ S.2.2 23 (kk q) = nI (ar q) ∧ S.2.2 24 (kk q) = 0) (hinj : ∀ q r, q < g.Z → r < g.Z → kk q = kk r → q = r) (gA : g'.A = g.A) (gZ : g'.Z = g.Z) (gWW : g'.W = g.W) (ge : g'.e = g.e) (gT : g'.T = g.T + 1) (gbl : ∀ b, b < g.T → g'.bl b = g.bl b) (gblT : g'.bl g.T = ar) (gsg : g'.sg = g.sg) (gar : g'.ar = g.ar) (gkt : g'.kt = g.kt) (ghm : g'.hm = g.hm) (gnx : ∀ r, g'.nx r = if r = 8 * i + s then 0 else g.nx r) (ggk : ∀ j, g'.gk j = if 24 * (8 * i + s) ≤ j ∧ j < 24 * (8 * i + s) + 24 then kk (j - 24 * (8 * i + s)) else g.gk j) (hRB : RB g' (c + 1) X)
    (xo : ∀ t, (t ≠ 3 ∧ t ≠ 13 ∧ t ≠ 7 ∧ t ≠ 11 ∧ ¬ (15 ≤ t ∧ t ≤ 20) ∧ t ≠ 24 ∧ t ≠ 30 ∧ t ≠ 31 ∧ t ≠ 32 ∧ ¬ (40 ≤ t ∧ t < 48) ∧ ¬ (60 ≤ t ∧ t < 68) ∧ t ≠ 200 + 8 * i + s ∧ t ≠ 300 + 8 * i + s) → X.2.2 t = S.2.2 t) (x5 : ∀ j, 5 ≤ j → j ≠ 9 → X.2.2 13 j = S.2.2 13 j) (x30 : X.2.2 30 = upd (S.2.2 30) (8 * i + s) (nI g.T)) (x31 : X.2.2 31 = upd (S.2.2 31) (8 * i + s) 0) (x32 : ∀ q, q < g.Z → X.2.2 32 (24 * (8 * i + s) + q) = nI (kk q)) (x32o : ∀ j, (j < 24 * (8 * i + s) ∨ 24 * (8 * i + s) + g.Z ≤ j) → X.2.2 32 j = S.2.2 32 j) (x200 : X.2.2 (200 + 8 * i + s) 1 = nI g.Z ∧ X.2.2 (200 + 8 * i + s) 2 = 0) (x300 : ∀ q, q < g.Z → X.2.2 (300 + 8 * i + s) q = nI (kk q)) (x24y : ∀ y, (∃ q, q < g.Z ∧ kk q = y) → X.2.2 24 y = 1 ∧ X.2.2 7 y = 2) (x24n : ∀ y, (∀ q, q < g.Z → kk q ≠ y) → X.2.2 24 y = S.2.2 24 y ∧ X.2.2 7 y = S.2.2 7 y) (j0 : X.2.2 3 0 = X.2.2 13 1) (j1 : jT X) (j2 : X.2.2 3 2 = X.2.2 13 3) (o7 : X.2.2 0 7 = X.2.2 13 4) : Rel g' (c + 1) X := by
  have rp := h.pl
  have hT := h.bk.2.1
  have hZ2 : g.Z ≤ 24 := hpl.2.2.2.1
  have tk : ∀ y, (∃ q, q < g.Z ∧ kk q = y) ∨ ∀ q, q < g.Z → kk q ≠ y := fun y => by
    by_cases e : ∃ q, q < g.Z ∧ kk q = y
    · exact Or.inl e
    · exact Or.inr fun q hq z => e ⟨q, hq, z⟩
  have n24 : ∀ y, S.2.2 24 y ≠ 0 → ∀ q, q < g.Z → kk q ≠ y := fun y hy q hq z => hy (z ▸ (hkk q hq).2.2.2)
  have x25 : X.2.2 25 = S.2.2 25 := xo 25 (by omega)
  have gko : ∀ j s' q, 8 * j + s' ≠ 8 * i + s → q < g.Z → g'.gk (24 * (8 * j + s') + q) = g.gk (24 * (8 * j + s') + q) := fun j s' q e hq => by rw [ggk, if_neg (by omega)]
  have gki : ∀ q, q < g.Z → g'.gk (24 * (8 * i + s) + q) = kk q := fun q hq => by rw [ggk, if_pos (by omega), show 24 * (8 * i + s) + q - 24 * (8 * i + s) = q from by omega]
  have hgle : ∀ j s' q, j < 10 → gLe g' j s' q X → (j = i ∧ s' = s ∧ q < g.Z) ∨ (8 * j + s' ≠ 8 * i + s ∧ gLe g j s' q S) := by
    intro j s' q hj hl
    obtain ⟨l1, l2, l3, l4⟩ := hl
    rw [gZ] at l2
    by_cases e : 8 * j + s' = 8 * i + s
    · exact Or.inl ⟨by omega, by omega, l2⟩
    · rw [x30, up_n e] at l3
      rw [gnx, if_neg e] at l4
      exact Or.inr ⟨e, l1, l2, l3, l4⟩
  have hone : ∀ j s' q, j < 10 → gLe g j s' q S → S.2.2 24 (g.gk (24 * (8 * j + s') + q)) = 1 := by
    intro j s' q hj hl
    obtain ⟨l1, l2, l3, l4⟩ := hl
    obtain ⟨-, -, -, p4, p5⟩ := h.ki.2.2.1 j s' hj l1
    rcases p5 (fun z => l3 (p4 z)) with o | ⟨b', t1, t2, t3, t4, t5, t6⟩
    · exact absurd o.1 l3
    · exact (t6 q l2).2.2.2.2.2 l4
  refine ⟨j0, j1, j2, o7, RS_c (xo 9 (by omega)) (xo 21 (by omega)) (fun j hj => by rw [xo (100 + j) (by omega)]) (by rw [xo 0 (by omega)]) h.st, ⟨by rw [xo 1 (by omega), gA]; exact rp.1, by rw [x5 5 (by omega) (by omega), gA]; exact rp.2.1, by rw [xo 1 (by omega), gZ]; exact rp.2.2.1, by rw [x5 6 (by omega) (by omega), gZ]; exact rp.2.2.2.1, by rw [xo 2 (by omega), xo 14 (by omega)]; exact rp.2.2.2.2.1, Or.inr ?_⟩, hRB, ⟨fun j p hj hp => ?_, fun s' a' hs' ha' => ?_⟩, fun y hy => ?_, fun j p hj hp => ?_, fun j s' hj hs' => ?_, fun j s1 q1 s2 q2 hj g1 g2 => ?_, fun y hy g1 g2 => ?_⟩
  · rw [gA, gZ, gWW, ge]
    exact gPl_c (by rw [xo 1 (by omega)]) (xo 14 (by omega)) hpl
  · have old := h.pe.1 j p hj hp
    unfold gPe at old ⊢
    rw [gsg, gar, xo 9 (by omega), xo 21 (by omega), x25, xo 26 (by omega), xo 27 (by omega), xo 29 (by omega), xo (110 + j) (by omega), xo (120 + j) (by omega), xo (130 + j) (by omega), xo (140 + j) (by omega)]
    exact old
  · rw [knM_c x25 (xo 26 (by omega)) (xo 27 (by omega)), xo (50 + s') (by omega)]
    exact h.pe.2 s' a' hs' ha'
  · have old := h.ki.1 y hy
    unfold gKi at old ⊢
    rw [ghm, xo 22 (by omega), xo 9 (by omega), xo 5 (by omega), xo 6 (by omega), xo 23 (by omega), xo 8 (by omega), x25, xo 28 (by omega)]
    rcases tk y with t | t
    · obtain ⟨q, hq, e⟩ := t
      have k := hkk q hq
      rw [e] at k
      rcases old with o | ⟨o1, o2, o3, o4, o5, o6⟩
      · exact absurd (k.2.1.symm.trans o.1) (nI_m1 (by omega))
      · exact Or.inr ⟨o1, o2, o3, o4, o5, Or.inr (Or.inl (x24y y ⟨q, hq, e⟩))⟩
    · rw [(x24n y t).1, (x24n y t).2]
      exact old
  · have old := h.ki.2.1 j p hj hp
    unfold gUs at old ⊢
    rw [gkt, xo 22 (by omega), xo 8 (by omega), x25, xo 28 (by omega)]
    intro z
    obtain ⟨u1, u2, u3, u4, u5⟩ := old z
    exact ⟨u1, u2, u3, by rw [(x24n _ (n24 _ (by rw [u4]; decide))).1, u4], u5⟩
  · have old := h.ki.2.2.1 j s' hj hs'
    unfold gRe gHe at old ⊢
    rw [gnx, gZ, x30, x31, xo 9 (by omega), xo 21 (by omega), xo 22 (by omega), xo 23 (by omega)]
    by_cases e : 8 * j + s' = 8 * i + s
    · have e1 : j = i := by omega
      have e2 : s' = s := by omega
      subst e1 e2
      rw [if_pos rfl, up_s, up_s]
      refine ⟨rfl, by omega, fun z => absurd z (by omega), fun z => absurd z ho, fun _ => Or.inr ⟨g.T, rfl, by omega, h21, x200.1, x200.2, fun q hq => ?_⟩⟩
      rw [gki q hq]
      have k := hkk q hq
      exact ⟨x32 q hq, k.1, x300 q hq, by rw [gblT]; exact k.2.2.1, k.2.1, fun _ => (x24y _ ⟨q, hq, rfl⟩).1⟩
    · rw [if_neg e, up_n e, up_n e, xo (200 + 8 * j + s') (by omega), xo (300 + 8 * j + s') (by omega)]
      refine ⟨old.1, old.2.1, fun z => absurd z (by omega), old.2.2.2.1, fun z => ?_⟩
      rcases old.2.2.2.2 z with o | ⟨b, t1, t2, t3, t4, t5, t6⟩
      · exact Or.inl o
      · refine Or.inr ⟨b, t1, by omega, t3, t4, t5, fun q hq => ?_⟩
        obtain ⟨y1, y2, y3, y4, y5, y6⟩ := t6 q hq
        rw [gko j s' q e hq, x32o _ (by omega)]
        refine ⟨y1, y2, y3, by rw [gbl b t2]; exact y4, y5, fun hn => ?_⟩
        rw [(x24n _ (n24 _ (by rw [y6 hn]; decide))).1]
        exact y6 hn
  · intro he
    rcases hgle j s1 q1 hj g1 with ⟨a1, a2, a3⟩ | ⟨a1, a2⟩ <;> rcases hgle j s2 q2 hj g2 with ⟨b1, b2, b3⟩ | ⟨b1, b2⟩
    · subst a1 a2 b2
      rw [gki _ a3, gki _ b3] at he
      exact ⟨rfl, hinj _ _ a3 b3 he⟩
    · subst a1 a2
      rw [gki _ a3, gko _ _ _ b1 b2.2.1] at he
      exact absurd ((hkk _ a3).2.2.2.symm.trans (he ▸ hone _ _ _ hj b2)) (by decide)
    · subst b1 b2
      rw [gki _ b3, gko _ _ _ a1 a2.2.1] at he
      exact absurd ((hkk _ b3).2.2.2.symm.trans (he ▸ hone _ _ _ hj a2)) (by decide)
    · rw [gko _ _ _ a1 a2.2.1, gko _ _ _ b1 b2.2.1] at he
      exact h.ki.2.2.2.1 j s1 q1 s2 q2 hj a2 b2 he
  · rw [ghm, xo 21 (by omega)] at g2
    rw [ghm]
    rcases tk y with t | t
    · obtain ⟨q, hq, e⟩ := t
      have k := hkk q hq
      rw [e] at k
      have ehm : g.hm y = i := by
        rcases h.ki.1 y hy with o | o
        · exact absurd (k.2.1.symm.trans o.1) (nI_m1 (by omega))
        · have := o.2.1
          exact nI_ij (by omega) (by omega) (o.1.symm.trans k.2.1)
      rw [ehm]
      refine ⟨s, q, ⟨hs, by rw [gZ]; exact hq, ?_, by rw [gnx, if_pos rfl]; omega⟩, by rw [gki q hq]; exact e⟩
      rw [x30, up_s]
      exact nI_nlt (b := 0) (by omega) (by omega)
    · rw [(x24n y t).1] at g1
      have hm10 : g.hm y < 10 := by
        rcases h.ki.1 y hy with o | o
        · exact absurd (o.2.1.symm.trans g1) (by decide)
        · exact o.2.1
      obtain ⟨s1, q1, r1, r2⟩ := h.ki.2.2.2.2 y hy g1 g2
      obtain ⟨l1, l2, l3, l4⟩ := r1
      have e : 8 * g.hm y + s1 ≠ 8 * i + s := fun z => l3 (z ▸ h30)
      exact ⟨s1, q1, ⟨l1, by rw [gZ]; exact l2, by rw [x30, up_n e]; exact l3, by rw [gnx, if_neg e]; exact l4⟩, by rw [gko _ _ _ e l2]; exact r2⟩
