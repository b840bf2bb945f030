/-! one call of both sides -/
def SimW (l : Launch) (D : va_G) (K : Nat → ClassId) (ad : Nat → Nat) (S : zSt) (c : Nat) (yL : MethodName) (cwL : Cond) (avL : List Value) (yM : MethodName) (cwM : Cond) (avM : List Value) : Prop :=
  ∃ (rm : Room) (post : zQ), zCW l D zcls (ztyl K) yL cwL rm (.ref (ad 0) :: avL) ad (Lay K ad S) post ∧ rm.frames ≤ 9 ∧ rm.locals ≤ 200 ∧ rm.cells ≤ 25 ∧ rm.slots ≤ 48 * (c + 1) + 700 ∧
    ∀ r ad' ce', post r ad' ce' → ∃ (k : Int32) (S1 : zSt), r = .inl (some (.int k)) ∧ zLo ad ad' ∧ ce' = Lay K ad' S1 ∧ ∃ (f w : Nat) (b : Int32) (S2 : zSt) (g' : Gh), zC l TB D zcls (ztyl K) yM cwM (rmk f w) (.ref (ad' 13) :: avM) ad' (Lay K ad' S1) (zP K ad' (some (.int b)) S2) ∧ f ≤ 8 ∧ w ≤ 200 ∧ S2.2.2 13 0 = k ∧ (k = 0 → S2.2.1 12 0 = b.toInt64) ∧ Rel g' (c + 1) S2
section SM
variable {l : Launch} {D : va_G} {K : Nat → ClassId} {ad : Nat → Nat} {S : zSt} {c : Nat} {yL yM : MethodName} {cwL cwM : Cond} {avL avM : List Value} {g : Gh}
theorem zLo.rfl : zLo ad ad := fun _ _ => Eq.refl _
/-- only thrown was written -/
theorem Rel_thr (h : Rel g c S) (hc : c < 512) {k : Int32} : Rel g (c + 1) (stM S 13 0 k) :=
  Rel_J h ⟨Eq.refl _, fun _ _ => Eq.refl _, fun t _ h2 _ => stM_n h2, fun j hj => rd_j (by omega), fun j _ => rd_n (by decide)⟩ (by omega) (by omega)
    ((rd_n (by decide)).trans (h.j0.trans (rd_j (by decide)).symm)) ⟨(rd_n (by decide)).trans (h.j1.trans (rd_j (by decide)).symm), by rw [rd_j (by decide)]; exact h.jb⟩ ((rd_n (by decide)).trans (h.j2.trans (rd_j (by decide)).symm)) ((rd_n (by decide)).trans (h.o7.trans (rd_j (by decide)).symm))
/-- both refuse -/
theorem sim_thr (h : Rel g c S) (hc : c < 512) {k : Int32} (hk : k ≠ 0) (hW : zCW l D zcls (ztyl K) yL cwL { frames := 9, cells := 1, slots := 6, locals := 200 } (.ref (ad 0) :: avL) ad (Lay K ad S) (zP K ad (some (.int k)) S)) {f w : Nat} (hR : zC l TB D zcls (ztyl K) yM cwM (rmk f w) (.ref (ad 13) :: avM) ad (Lay K ad S) (zP K ad (some (.int 0)) (stM S 13 0 k))) (hf : f ≤ 8) (hw : w ≤ 200) : SimW l D K ad S c yL cwL avL yM cwM avM := by
  refine ⟨_, _, hW, Nat.le_refl _, Nat.le_refl _, by show 1 ≤ 25; omega, by show 6 ≤ _; omega, fun r ad' ce' hp => ?_⟩
  obtain ⟨rfl, rfl, rfl⟩ := hp
  exact ⟨k, S, Eq.refl _, zLo.rfl, Eq.refl _, f, w, 0, stM S 13 0 k, g, hR, hf, hw, rd_s, fun z => absurd z hk, Rel_thr h hc⟩
/-- both answer -/
theorem sim_ok {PP : Int32 → (Nat → Nat) → zSt → Prop} {rm : Room} (hrc : rm.cells ≤ 25) (hrs : rm.slots ≤ 48 * (c + 1) + 700) (hW : zCW l D zcls (ztyl K) yL cwL { frames := 9, cells := rm.cells, slots := rm.slots, locals := 200 } (.ref (ad 0) :: avL) ad (Lay K ad S) (fun r ad' ce' => r = .inl (some (.int 0)) ∧ ∃ z S1, PP z ad' S1 ∧ zLo ad ad' ∧ ce' = Lay K ad' (stL S1 12 0 z.toInt64)))
    (hK : ∀ z ad' S1, PP z ad' S1 → zLo ad ad' → ∃ (f w : Nat) (S2 : zSt) (g' : Gh), zC l TB D zcls (ztyl K) yM cwM (rmk f w) (.ref (ad' 13) :: avM) ad' (Lay K ad' (stL S1 12 0 z.toInt64)) (zP K ad' (some (.int z)) S2) ∧ f ≤ 8 ∧ w ≤ 200 ∧ S2.2.2 13 0 = 0 ∧ S2.2.1 12 0 = z.toInt64 ∧ Rel g' (c + 1) S2) : SimW l D K ad S c yL cwL avL yM cwM avM := by
  refine ⟨_, _, hW, Nat.le_refl _, Nat.le_refl _, hrc, hrs, fun r ad' ce' hp => ?_⟩
  obtain ⟨rfl, z, S1, hP, hlo, rfl⟩ := hp
  obtain ⟨f, w, S2, g', h1, h2, h3, h4, h5, h6⟩ := hK z ad' S1 hP hlo
  exact ⟨0, _, Eq.refl _, hlo, Eq.refl _, f, w, z, S2, g', h1, h2, h3, h4, fun _ => h5, h6⟩
/-- what a call that changes no address came back with -/
def pEq (ad : Nat → Nat) (z : Int32) (S1 : zSt) : Int32 → (Nat → Nat) → zSt → Prop := fun z' ad' S' => z' = z ∧ ad' = ad ∧ S' = S1
theorem zP_hp {z : Int32} {S1 : zSt} : ∀ r ad' ce', zP K ad (some (.int z)) S1 r ad' ce' → ∃ z' S', r = .inl (some (.int z')) ∧ zLo ad ad' ∧ ce' = Lay K ad' S' ∧ pEq ad z S1 z' ad' S' := by
  intro r ad' ce' h
  obtain ⟨rfl, rfl, rfl⟩ := h
  exact ⟨z, S1, Eq.refl _, zLo.rfl, Eq.refl _, Eq.refl _, Eq.refl _, Eq.refl _⟩
/-- the moved list -/
def pAg (ad : Nat → Nat) (s : Nat) (z : Int32) (S1 : zSt) : Int32 → (Nat → Nat) → zSt → Prop := fun z' _ S' => z' = z ∧ S' = S1
theorem zPa_hp {s : Nat} {z : Int32} {S1 : zSt} : ∀ r ad' ce', zPa K ad s (some (.int z)) S1 r ad' ce' → ∃ z' S', r = .inl (some (.int z')) ∧ zLo ad ad' ∧ ce' = Lay K ad' S' ∧ pAg ad s z S1 z' ad' S' := by
  intro r ad' ce' h
  obtain ⟨rfl, h2, rfl⟩ := h
  exact ⟨z, S1, Eq.refl _, fun t ht => h2 t (by omega), Eq.refl _, Eq.refl _, Eq.refl _⟩
end SM
-- ===== what the guards say =====
theorem i10 {v : Int32} : (10 ≤ v) ↔ ¬ v < 10 := Int32.not_lt.symm
theorem i8 {v : Int32} : (8 ≤ v) ↔ ¬ v < 8 := Int32.not_lt.symm
theorem site_dec {S : zSt} (r : RS S) (v : Int32) : (badSite S v ∧ badM S v) ∨ ∃ i, i < 10 ∧ v = nI i ∧ S.2.2 9 i ≠ 0 ∧ ¬ S.2.2 21 i ≤ 0 := by
  by_cases h : v < 0 ∨ ¬ v < 10
  · exact Or.inl ⟨Or.inl (h.imp id i10.mpr), Or.inl h⟩
  · obtain ⟨i, hi, rfl⟩ := badI 10 rfl (by decide) h
    rcases r.1 i hi with ⟨h1, h2⟩ | ⟨h1, h2, -⟩ | ⟨h1, h2, -⟩
    · exact Or.inl ⟨Or.inr ⟨i, hi, rfl, h1⟩, Or.inr ⟨i, hi, rfl, by rw [h2]; decide⟩⟩
    · exact Or.inr ⟨i, hi, rfl, by rw [h1]; decide, by rw [h2]; decide⟩
    · exact Or.inr ⟨i, hi, rfl, by rw [h1]; decide, by rw [h2]; decide⟩
theorem str_dec (v : Int32) : ((v < 0 ∨ 8 ≤ v) ∧ (v < 0 ∨ ¬ v < 8)) ∨ ∃ s, s < 8 ∧ v = nI s := by
  by_cases h : v < 0 ∨ ¬ v < 8
  · exact Or.inl ⟨h.imp id i8.mpr, h⟩
  · exact Or.inr (badI 8 rfl (by decide) h)
theorem per_dec (v : Int32) : (v < 0 ∨ ¬ v < 100) ∨ ∃ s, s < 100 ∧ v = nI s := by
  by_cases h : v < 0 ∨ ¬ v < 100
  · exact Or.inl h
  · exact Or.inr (badI 100 rfl (by decide) h)
theorem kit_dec (v : Int32) : (v < 0 ∨ ¬ v < 1000) ∨ ∃ s, s < 1000 ∧ v = nI s := by
  by_cases h : v < 0 ∨ ¬ v < 1000
  · exact Or.inl h
  · exact Or.inr (badI 1000 rfl (by decide) h)
theorem hol_dec (v : Int32) : (v < 0 ∨ ¬ v < 5) ∨ ∃ s, s < 5 ∧ v = nI s := by
  by_cases h : v < 0 ∨ ¬ v < 5
  · exact Or.inl h
  · exact Or.inr (badI 5 rfl (by decide) h)
theorem RP_A {g : Gh} {S : zSt} (r : RP g S) : g.A ≤ 4 ∧ (g.A = 0 ∨ 2 ≤ g.A) := by
  rcases r.2.2.2.2.2 with h | h
  · omega
  · have h1 := h.1
    have h2 := h.2.1
    omega
theorem plan_dec {g : Gh} {S : zSt} (r : RP g S) : (g.A = 0 ∧ S.2.2 1 1 = 0 ∧ S.2.2 13 5 = 0) ∨ (g.A ≠ 0 ∧ S.2.2 1 1 ≠ 0 ∧ ¬ S.2.2 13 5 = 0 ∧ gPl g.A g.Z g.W g.e S) := by
  have h4 := RP_A r
  rcases r.2.2.2.2.2 with h | h
  · refine Or.inl ⟨h.1, ?_, ?_⟩
    · rw [r.1, h.1]; rfl
    · rw [r.2.1, h.1]; rfl
  · have h1 := h.1
    refine Or.inr ⟨by omega, ?_, ?_, h⟩
    · rw [r.1]; exact nI_ne0 (by omega) (by omega)
    · rw [r.2.1]; exact nI_ne0 (by omega) (by omega)
theorem arm_dec {g : Gh} {S : zSt} (r : RP g S) (v : Int32) : ((v < 0 ∨ ¬ v < (if S.2.2 1 1 = 0 then 4 else S.2.2 1 1)) ∧ wiF v 0 (if S.2.2 13 5 = 0 then 3 else S.2.2 13 5 - 1) = 0) ∨ ∃ a, a < 4 ∧ v = nI a ∧ nI a < (if S.2.2 1 1 = 0 then 4 else S.2.2 1 1) ∧ wiF (nI a) 0 (if S.2.2 13 5 = 0 then 3 else S.2.2 13 5 - 1) = 1 := by
  have h4 := RP_A r
  obtain ⟨N, hN1, hN2, e1, e2⟩ : ∃ N, 1 ≤ N ∧ N ≤ 4 ∧ (if S.2.2 1 1 = 0 then 4 else S.2.2 1 1) = nI N ∧ (if S.2.2 13 5 = 0 then 3 else S.2.2 13 5 - 1) = nI (N - 1) := by
    rcases plan_dec r with ⟨h1, h2, h3⟩ | ⟨h1, h2, h3, -⟩
    · exact ⟨4, by omega, by omega, by rw [if_pos h2]; rfl, by rw [if_pos h3]; rfl⟩
    · exact ⟨g.A, by omega, by omega, by rw [if_neg h2, r.1], by rw [if_neg h3, r.2.1]; exact pk_sub (b := 1) (by omega)⟩
  rw [e1, e2]
  have hn : (nI (N - 1)).toInt + 1 = (nI N).toInt := by
    rw [nI_toInt (by omega), nI_toInt (by omega)]
    omega
  by_cases h : v < 0 ∨ ¬ v < nI N
  · exact Or.inl ⟨h, wi_no hn h⟩
  · obtain ⟨a, ha, rfl⟩ := badI N rfl (by omega) h
    exact Or.inr ⟨a, by omega, rfl, nI_lt ha (by omega), wi_yes hn (nI_pos (by omega)) (nI_lt ha (by omega))⟩
/-- both sides' state but for the law's row -/
theorem Rel_out {g : Gh} {c : Nat} {S : zSt} (h : Rel g c S) {z : Int64} : Rel g c (stL S 12 0 z) :=
  Rel_J h ⟨rfl, fun t ht => stL_n ht, fun _ _ _ _ => rfl, fun _ _ => rfl, fun _ _ => rfl⟩ (Nat.le_refl _) h.bk.2.2.1 h.j0 h.2.1 h.j2 h.o7
