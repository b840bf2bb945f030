/-! what the desk and the reference have in common -/
def Gh : Type := Nat → Nat → Nat → Nat
def Gh.A (g : Gh) : Nat := g 0 0 0
def Gh.Z (g : Gh) : Nat := g 1 0 0
def Gh.W (g : Gh) : Nat := g 2 0 0
def Gh.e (g : Gh) (a : Nat) : Nat := g 3 a 0
def Gh.T (g : Gh) : Nat := g 4 0 0
def Gh.bs (g : Gh) (b : Nat) : Nat := g 5 b 0
def Gh.bl (g : Gh) (b q : Nat) : Nat := g 6 b q
def Gh.bt (g : Gh) (s : Nat) : Nat := g 7 s 0
def Gh.sg (g : Gh) (p : Nat) : Nat := g 8 p 0
def Gh.ar (g : Gh) (p : Nat) : Nat := g 9 p 0
def Gh.kt (g : Gh) (p : Nat) : Nat := g 10 p 0
def Gh.hm (g : Gh) (k : Nat) : Nat := g 11 k 0
def Gh.nx (g : Gh) (r : Nat) : Nat := g 12 r 0
def Gh.gk (g : Gh) (q : Nat) : Nat := g 13 q 0
/-- another row of numbers at one place -/
def gS (g : Gh) (k : Nat) (f : Nat → Nat → Nat) : Gh := fun k' i j => if k' = k then f i j else g k' i j
/-- the sites -/
def RS (S : zSt) : Prop := (∀ i, i < 10 → (S.2.2 9 i = 0 ∧ S.2.2 21 i = 0) ∨ (S.2.2 9 i = 1 ∧ S.2.2 21 i = 1 ∧ S.2.2 (100 + i) 5 = 0) ∨ (S.2.2 9 i = 1 ∧ S.2.2 21 i = 2 ∧ S.2.2 (100 + i) 5 = 1)) ∧ S.2.2 0 6 = nI (cntI (fun q => decide (¬ S.2.2 21 q ≤ 0)) 10)
/-- a plan that is there -/
def gPl (A Z W : Nat) (e : Nat → Nat) (S : zSt) : Prop := 2 ≤ A ∧ A ≤ 4 ∧ 1 ≤ Z ∧ Z ≤ 24 ∧ 1 ≤ W ∧ W ≤ 24 ∧ S.2.2 1 2 = nI W ∧ S.2.2 14 0 + S.2.2 14 1 + S.2.2 14 2 + S.2.2 14 3 = nI W ∧ (∀ a, a < A → S.2.2 14 a * (nI Z / nI W) = nI (e a)) ∧ sE e A = Z
def RP (g : Gh) (S : zSt) : Prop := S.2.2 1 1 = nI g.A ∧ S.2.2 13 5 = nI g.A ∧ S.2.2 1 3 = nI g.Z ∧ S.2.2 13 6 = nI g.Z ∧ (∀ j, j < 4 → S.2.2 2 j = S.2.2 14 j) ∧ ((g.A = 0 ∧ g.Z = 0 ∧ g.T = 0) ∨ gPl g.A g.Z g.W g.e S)
/-- the place of a block among those of its stratum -/
def rkB (bs : Nat → Nat) (b : Nat) : Nat := rkA bs (bs b) b
/-- the block that is open in a stratum -/
def gOp (Z T : Nat) (bs : Nat → Nat) (s : Nat) (S : zSt) : Prop := (S.2.2 19 s < 0 ∧ S.2.2 (40 + s) 8 = 0) ∨ ∃ b o, S.2.2 19 s = nI b ∧ b < T ∧ bs b = s ∧ S.2.2 20 s = nI o ∧ o ≤ Z ∧ S.2.2 (40 + s) 8 = nI (Z - o) ∧ S.2.2 (40 + s) 7 = nI (rkB bs b * Z + o)
/-- one stratum -/
def gSt (g : Gh) (s : Nat) (S : zSt) : Prop := S.2.2 17 s = nI (rkA g.bs s g.T) ∧ S.2.2 (40 + s) 6 = nI (rkA g.bs s g.T) ∧ (S.2.2 (40 + s) 0 = nI s ∧ (g.A = 0 ∨ S.1 (40 + s) = 1)) ∧ S.2.2 (40 + s) 5 = nI (g.bt s) ∧ g.bt s * g.Z ≤ S.1 (60 + s) ∧ S.1 (60 + s) ≤ 24576 ∧
  ((g.bt s = rkA g.bs s g.T ∧ S.2.1 (40 + s) 4 = S.2.1 18 s) ∨ (g.bt s = rkA g.bs s g.T + 1 ∧ g.A ≠ 0 ∧ S.2.1 (40 + s) 4 = BW (S.2.1 18 s) g.e g.A g.Z ∧ ∀ q, q < g.Z → S.2.2 (60 + s) (rkA g.bs s g.T * g.Z + q) = BV (S.2.1 18 s) g.e g.A g.Z q)) ∧ gOp g.Z g.T g.bs s S
def gBl (g : Gh) (b : Nat) (S : zSt) : Prop := S.2.2 15 b = nI (g.bs b) ∧ g.bs b < 8 ∧ ∀ q, q < g.Z → S.2.2 16 (24 * b + q) = nI (g.bl b q) ∧ g.bl b q < g.A ∧ S.2.2 (60 + g.bs b) (rkB g.bs b * g.Z + q) = nI (g.bl b q)
def RB (g : Gh) (c : Nat) (S : zSt) : Prop := S.2.2 13 9 = nI g.T ∧ g.T ≤ c ∧ c ≤ 512 ∧ bOk S ∧ (∀ b, b < g.T → gBl g b S) ∧ ∀ s, s < 8 → gSt g s S
/-- one person -/
def gPe (g : Gh) (i p : Nat) (S : zSt) : Prop := (S.2.2 9 i = 0 → S.2.2 25 (100 * i + p) = 0 ∧ S.2.2 29 (100 * i + p) = 0) ∧
  (S.2.2 9 i ≠ 0 → S.2.2 (140 + i) p = S.2.2 29 (100 * i + p) ∧ ((S.2.2 25 (100 * i + p) = 0 ∧ S.2.2 (110 + i) p = 0) ∨ (S.2.2 25 (100 * i + p) = 1 ∧ S.2.2 (110 + i) p = 2) ∨ (S.2.2 25 (100 * i + p) = 2 ∧ S.2.2 (110 + i) p = 1 ∧ S.2.2 21 i = 1) ∨ (S.2.2 25 (100 * i + p) = 3 ∧ S.2.2 (110 + i) p = 1 ∧ S.2.2 21 i = 2)) ∧
    (S.2.2 25 (100 * i + p) ≠ 0 → S.2.2 26 (100 * i + p) = nI (g.sg (100 * i + p)) ∧ g.sg (100 * i + p) < 8 ∧ S.2.2 (120 + i) p = nI (g.sg (100 * i + p)) ∧ S.2.2 27 (100 * i + p) = nI (g.ar (100 * i + p)) ∧ g.ar (100 * i + p) < 4 ∧ S.2.2 (130 + i) p = nI (g.ar (100 * i + p)))) ∧ ∃ x, x < 32 ∧ S.2.2 29 (100 * i + p) = nI x
def RE (g : Gh) (S : zSt) : Prop := (∀ i p, i < 10 → p < 100 → gPe g i p S) ∧ ∀ s a, s < 8 → a < 4 → S.2.2 (50 + s) a = knM S s a
/-- one kit -/
def gKi (g : Gh) (k : Nat) (S : zSt) : Prop := (S.2.2 22 k = -1 ∧ S.2.2 24 k = 0 ∧ S.2.2 7 k = 0) ∨ (S.2.2 22 k = nI (g.hm k) ∧ g.hm k < 10 ∧ S.2.2 9 (g.hm k) ≠ 0 ∧ S.2.2 5 k = nI (g.hm k) ∧ S.2.2 6 k = S.2.2 23 k ∧
  ((S.2.2 24 k = 0 ∧ S.2.2 7 k = 1) ∨ (S.2.2 24 k = 1 ∧ S.2.2 7 k = 2) ∨ (S.2.2 24 k = 2 ∧ S.2.2 7 k = 3 ∧ ∃ p, p < 100 ∧ S.2.2 8 k = nI p ∧ S.2.2 25 (100 * g.hm k + p) ≠ 0 ∧ S.2.2 28 (100 * g.hm k + p) = nI k)))
def gUs (g : Gh) (i p : Nat) (S : zSt) : Prop := S.2.2 25 (100 * i + p) ≠ 0 → S.2.2 28 (100 * i + p) = nI (g.kt (100 * i + p)) ∧ g.kt (100 * i + p) < 1000 ∧ S.2.2 22 (g.kt (100 * i + p)) = nI i ∧ S.2.2 24 (g.kt (100 * i + p)) = 2 ∧ S.2.2 8 (g.kt (100 * i + p)) = nI p
/-- a reserve that is held -/
def gHe (g : Gh) (i s : Nat) (S : zSt) : Prop := ∃ b, S.2.2 30 (8 * i + s) = nI b ∧ b < g.T ∧ S.2.2 21 i = 1 ∧ S.2.2 (200 + 8 * i + s) 1 = nI g.Z ∧ S.2.2 (200 + 8 * i + s) 2 = nI (g.nx (8 * i + s)) ∧ ∀ q, q < g.Z → S.2.2 32 (24 * (8 * i + s) + q) = nI (g.gk (24 * (8 * i + s) + q)) ∧ g.gk (24 * (8 * i + s) + q) < 1000 ∧ S.2.2 (300 + 8 * i + s) q = nI (g.gk (24 * (8 * i + s) + q)) ∧ S.2.2 23 (g.gk (24 * (8 * i + s) + q)) = nI (g.bl b q) ∧ S.2.2 22 (g.gk (24 * (8 * i + s) + q)) = nI i ∧ (g.nx (8 * i + s) ≤ q → S.2.2 24 (g.gk (24 * (8 * i + s) + q)) = 1)
def gRe (g : Gh) (i s : Nat) (S : zSt) : Prop := S.2.2 31 (8 * i + s) = nI (g.nx (8 * i + s)) ∧ g.nx (8 * i + s) ≤ g.Z ∧ (g.T = 0 → g.nx (8 * i + s) = 0) ∧ (S.2.2 9 i = 0 → S.2.2 30 (8 * i + s) < 0) ∧ (S.2.2 9 i ≠ 0 → (S.2.2 30 (8 * i + s) < 0 ∧ S.2.2 (200 + 8 * i + s) 1 = 0 ∧ S.2.2 (200 + 8 * i + s) 2 = 0) ∨ gHe g i s S)
/-- what is left in a reserve -/
def gLe (g : Gh) (i s q : Nat) (S : zSt) : Prop := s < 8 ∧ q < g.Z ∧ ¬ S.2.2 30 (8 * i + s) < 0 ∧ g.nx (8 * i + s) ≤ q
def RK (g : Gh) (S : zSt) : Prop := (∀ k, k < 1000 → gKi g k S) ∧ (∀ i p, i < 10 → p < 100 → gUs g i p S) ∧ (∀ i s, i < 10 → s < 8 → gRe g i s S) ∧
  (∀ i s q s' q', i < 10 → gLe g i s q S → gLe g i s' q' S → g.gk (24 * (8 * i + s) + q) = g.gk (24 * (8 * i + s') + q') → s = s' ∧ q = q') ∧
  (∀ k, k < 1000 → S.2.2 24 k = 1 → S.2.2 21 (g.hm k) = 1 → ∃ s q, gLe g (g.hm k) s q S ∧ g.gk (24 * (8 * g.hm k + s) + q) = k)
/-- whether the next record is to be torn -/
def jT (S : zSt) : Prop := S.2.2 3 1 = S.2.2 13 2 ∧ (S.2.2 13 2 = 0 ∨ S.2.2 13 2 = 1)
def Rel (g : Gh) (c : Nat) (S : zSt) : Prop := S.2.2 3 0 = S.2.2 13 1 ∧ jT S ∧ S.2.2 3 2 = S.2.2 13 3 ∧ S.2.2 0 7 = S.2.2 13 4 ∧ RS S ∧ RP g S ∧ RB g c S ∧ RE g S ∧ RK g S
section RL
variable {g : Gh} {c : Nat} {S : zSt}
theorem Rel.j0 (h : Rel g c S) : S.2.2 3 0 = S.2.2 13 1 := h.1
theorem Rel.j1 (h : Rel g c S) : S.2.2 3 1 = S.2.2 13 2 := h.2.1.1
theorem Rel.jb (h : Rel g c S) : S.2.2 13 2 = 0 ∨ S.2.2 13 2 = 1 := h.2.1.2
theorem Rel.j2 (h : Rel g c S) : S.2.2 3 2 = S.2.2 13 3 := h.2.2.1
theorem Rel.o7 (h : Rel g c S) : S.2.2 0 7 = S.2.2 13 4 := h.2.2.2.1
theorem Rel.st (h : Rel g c S) : RS S := h.2.2.2.2.1
theorem Rel.pl (h : Rel g c S) : RP g S := h.2.2.2.2.2.1
theorem Rel.bk (h : Rel g c S) : RB g c S := h.2.2.2.2.2.2.1
theorem Rel.pe (h : Rel g c S) : RE g S := h.2.2.2.2.2.2.2.1
theorem Rel.ki (h : Rel g c S) : RK g S := h.2.2.2.2.2.2.2.2
end RL
theorem RS_c {S S' : zSt} (h9 : S'.2.2 9 = S.2.2 9) (h21 : S'.2.2 21 = S.2.2 21) (hc : ∀ i, i < 10 → S'.2.2 (100 + i) 5 = S.2.2 (100 + i) 5) (h0 : S'.2.2 0 6 = S.2.2 0 6) (r : RS S) : RS S' := by
  unfold RS
  rw [h9, h21, h0]
  refine ⟨fun i hi => ?_, r.2⟩
  rw [hc i hi]
  exact r.1 i hi
theorem gPl_c {A Z W : Nat} {e : Nat → Nat} {S S' : zSt} (h1 : S'.2.2 1 2 = S.2.2 1 2) (h14 : S'.2.2 14 = S.2.2 14) (r : gPl A Z W e S) : gPl A Z W e S' := by
  unfold gPl
  rw [h1, h14]
  exact r
theorem RP_c {g : Gh} {S S' : zSt} (h1 : ∀ j, j ≠ 0 → S'.2.2 1 j = S.2.2 1 j) (h2 : S'.2.2 2 = S.2.2 2) (h14 : S'.2.2 14 = S.2.2 14) (h5 : S'.2.2 13 5 = S.2.2 13 5) (h6 : S'.2.2 13 6 = S.2.2 13 6) (r : RP g S) : RP g S' := by
  unfold RP
  rw [h1 1 (by decide), h1 3 (by decide), h2, h14, h5, h6]
  refine ⟨r.1, r.2.1, r.2.2.1, r.2.2.2.1, r.2.2.2.2.1, ?_⟩
  rcases r.2.2.2.2.2 with h | h
  · exact Or.inl h
  · exact Or.inr (gPl_c (h1 2 (by decide)) h14 h)
theorem gOp_c {Z T : Nat} {bs : Nat → Nat} {s : Nat} {S S' : zSt} (h19 : S'.2.2 19 = S.2.2 19) (h20 : S'.2.2 20 = S.2.2 20) (h40 : S'.2.2 (40 + s) = S.2.2 (40 + s)) (r : gOp Z T bs s S) : gOp Z T bs s S' := by
  unfold gOp
  rw [h19, h20, h40]
  exact r
theorem gSt_c {g : Gh} {s : Nat} {S S' : zSt} (h17 : S'.2.2 17 = S.2.2 17) (h19 : S'.2.2 19 = S.2.2 19) (h20 : S'.2.2 20 = S.2.2 20) (h40 : S'.2.2 (40 + s) = S.2.2 (40 + s)) (h60 : S'.2.2 (60 + s) = S.2.2 (60 + s)) (h1 : S'.1 (60 + s) = S.1 (60 + s)) (h1p : S'.1 (40 + s) = S.1 (40 + s)) (hL : S'.2.1 18 = S.2.1 18) (hL4 : S'.2.1 (40 + s) = S.2.1 (40 + s)) (r : gSt g s S) : gSt g s S' := by
  unfold gSt
  rw [h17, h40, h60, h1, h1p, hL, hL4]
  exact ⟨r.1, r.2.1, r.2.2.1, r.2.2.2.1, r.2.2.2.2.1, r.2.2.2.2.2.1, r.2.2.2.2.2.2.1, gOp_c h19 h20 h40 r.2.2.2.2.2.2.2⟩
theorem RB_c {g : Gh} {c c' : Nat} {S S' : zSt} (hc : c ≤ c') (hc' : c' ≤ 512) (h9 : S'.2.2 13 9 = S.2.2 13 9) (ha : ∀ t, (15 ≤ t ∧ t ≤ 20) ∨ (40 ≤ t ∧ t < 48) ∨ (60 ≤ t ∧ t < 68) → S'.2.2 t = S.2.2 t) (h1 : S'.1 = S.1) (hL : ∀ t, t ≠ 12 → t ≠ 13 → S'.2.1 t = S.2.1 t) (r : RB g c S) : RB g c' S' := by
  obtain ⟨r1, r2, r3, r4, r5, r6⟩ := r
  refine ⟨h9.trans r1, by omega, hc', fun j => by rw [ha 16 (by omega)]; exact r4 j, fun b hb => ?_, fun s hs => ?_⟩
  · have := r5 b hb
    unfold gBl at this ⊢
    rw [ha 15 (by omega), ha 16 (by omega), ha (60 + g.bs b) (by omega)]
    exact this
  · exact gSt_c (ha 17 (by omega)) (ha 19 (by omega)) (ha 20 (by omega)) (ha (40 + s) (by omega)) (ha (60 + s) (by omega)) (by rw [h1]) (by rw [h1]) (hL 18 (by decide) (by decide)) (hL _ (by omega) (by omega)) (r6 s hs)
theorem gPe_c {g : Gh} {i p : Nat} {S S' : zSt} (h9 : S'.2.2 9 = S.2.2 9) (h21 : S'.2.2 21 = S.2.2 21) (h25 : S'.2.2 25 = S.2.2 25) (h26 : S'.2.2 26 = S.2.2 26) (h27 : S'.2.2 27 = S.2.2 27) (h29 : S'.2.2 29 = S.2.2 29) (a0 : S'.2.2 (110 + i) = S.2.2 (110 + i)) (a1 : S'.2.2 (120 + i) = S.2.2 (120 + i)) (a2 : S'.2.2 (130 + i) = S.2.2 (130 + i)) (a3 : S'.2.2 (140 + i) = S.2.2 (140 + i)) (r : gPe g i p S) : gPe g i p S' := by
  unfold gPe
  rw [h9, h21, h25, h26, h27, h29, a0, a1, a2, a3]
  exact r
theorem RE_c {g : Gh} {S S' : zSt} (ha : ∀ t, t = 9 ∨ t = 21 ∨ (25 ≤ t ∧ t ≤ 27) ∨ t = 29 ∨ (50 ≤ t ∧ t < 58) ∨ (110 ≤ t ∧ t < 150) → S'.2.2 t = S.2.2 t) (r : RE g S) : RE g S' := by
  refine ⟨fun i p hi hp => gPe_c (ha 9 (by omega)) (ha 21 (by omega)) (ha 25 (by omega)) (ha 26 (by omega)) (ha 27 (by omega)) (ha 29 (by omega)) (ha _ (by omega)) (ha _ (by omega)) (ha _ (by omega)) (ha _ (by omega)) (r.1 i p hi hp), fun s a hs h4 => ?_⟩
  rw [ha (50 + s) (by omega), r.2 s a hs h4]
  unfold knM
  rw [ha 25 (by omega), ha 26 (by omega), ha 27 (by omega)]
theorem RK_c {g : Gh} {S S' : zSt} (ha : ∀ t, (5 ≤ t ∧ t ≤ 9) ∨ (21 ≤ t ∧ t ≤ 25) ∨ t = 28 ∨ (30 ≤ t ∧ t ≤ 32) ∨ (200 ≤ t ∧ t < 380) → S'.2.2 t = S.2.2 t) (r : RK g S) : RK g S' := by
  obtain ⟨r1, r2, r3, r4, r5⟩ := r
  have e30 := ha 30 (by omega)
  refine ⟨fun k hk => ?_, fun i p hi hp => ?_, fun i s hi hs => ?_, fun i s q s' q' hi h1 h2 => ?_, fun k hk h1 h2 => ?_⟩
  · have := r1 k hk
    unfold gKi at this ⊢
    rw [ha 5 (by omega), ha 6 (by omega), ha 7 (by omega), ha 8 (by omega), ha 9 (by omega), ha 22 (by omega), ha 23 (by omega), ha 24 (by omega), ha 25 (by omega), ha 28 (by omega)]
    exact this
  · have := r2 i p hi hp
    unfold gUs at this ⊢
    rw [ha 8 (by omega), ha 22 (by omega), ha 24 (by omega), ha 25 (by omega), ha 28 (by omega)]
    exact this
  · have := r3 i s hi hs
    unfold gRe gHe at this ⊢
    rw [ha 9 (by omega), ha 21 (by omega), ha 22 (by omega), ha 23 (by omega), ha 24 (by omega), ha 30 (by omega), ha 31 (by omega), ha 32 (by omega), ha (200 + 8 * i + s) (by omega), ha (300 + 8 * i + s) (by omega)]
    exact this
  · unfold gLe at h1 h2
    rw [e30] at h1 h2
    exact r4 i s q s' q' hi h1 h2
  · rw [ha 24 (by omega)] at h1
    rw [ha 21 (by omega)] at h2
    have := r5 k hk h1 h2
    unfold gLe at this ⊢
    rw [e30]
    exact this
/-- all but the journals, thrown, opened and the law's own row stay -/
def agE (S S' : zSt) : Prop := S'.1 = S.1 ∧ (∀ t, t ≠ 12 → S'.2.1 t = S.2.1 t) ∧ (∀ t, t ≠ 3 → t ≠ 13 → t ≠ 0 → S'.2.2 t = S.2.2 t) ∧ (∀ j, 5 ≤ j → S'.2.2 13 j = S.2.2 13 j) ∧ ∀ j, j ≠ 7 → S'.2.2 0 j = S.2.2 0 j
theorem Rel_J {g : Gh} {c c' : Nat} {S S' : zSt} (h : Rel g c S) (a : agE S S') (hc : c ≤ c') (hc' : c' ≤ 512) (j0 : S'.2.2 3 0 = S'.2.2 13 1) (j1 : jT S') (j2 : S'.2.2 3 2 = S'.2.2 13 3) (o7 : S'.2.2 0 7 = S'.2.2 13 4) : Rel g c' S' := by
  obtain ⟨a1, a2, a3, a4, a5⟩ := a
  have b : ∀ t, t ≠ 3 → t ≠ 13 → t ≠ 0 → S'.2.2 t = S.2.2 t := a3
  exact ⟨j0, j1, j2, o7, RS_c (b 9 (by decide) (by decide) (by decide)) (b 21 (by decide) (by decide) (by decide)) (fun i hi => by rw [b (100 + i) (by omega) (by omega) (by omega)]) (a5 6 (by decide)) h.st,
    RP_c (fun j _ => by rw [b 1 (by decide) (by decide) (by decide)]) (b 2 (by decide) (by decide) (by decide)) (b 14 (by decide) (by decide) (by decide)) (a4 5 (by decide)) (a4 6 (by decide)) h.pl,
    RB_c hc hc' (a4 9 (by decide)) (fun t ht => b t (by omega) (by omega) (by omega)) a1 (fun t h1 _ => a2 t h1) h.bk,
    RE_c (fun t ht => b t (by omega) (by omega) (by omega)) h.pe, RK_c (fun t ht => b t (by omega) (by omega) (by omega)) h.ki⟩
/-- once arms are told every stratum has the desk's plan -/
theorem Rel_hg {g : Gh} {c : Nat} {S : zSt} (h : Rel g c S) {s : Nat} (hs : s < 8) (hp : S.2.2 1 1 ≠ 0) : S.1 (40 + s) = 1 := (h.bk.2.2.2.2.2 s hs).2.2.1.2.resolve_left (fun q => hp (by rw [h.pl.1, q]; rfl))
