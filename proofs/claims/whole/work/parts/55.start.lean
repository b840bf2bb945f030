section LI
variable {x : zX} {cc : ByteArray} {own : String} {Ts : List Cond} {l : Launch} {D : va_G} {cl : List vw_C} {tys : List (ClassId × FieldType)} {ad : Nat → Nat} {ce : zW} {n i pc : Nat} {lv : List (Nat × Value)} {st : List Value}
theorem z_retI (hx : zOk x cc own Ts l D cl tys) {index na q : Nat} {y : MethodName} {cb : ByteArray} {maxL : Nat} {rm : Room} {As : List Value} {post' : zQ}
    (hM : zC l Ts D cl tys y (.code y cb maxL none) rm (.ref q :: As) ad ce post') (hg : zWc Ts y cb maxL none na (Cond.methodLink own index y)) (hi : Cond.instanceMethod y ∈ Ts) (hy1 : y.name = "<init>") (hlen : As.length = na) {st0 : List Value} (hst0 : As.reverse ++ .ref q :: st = st0) (hd : decode cc pc = .ok (.invokespecial index, 3))
    (hR : rm.frames + 1 ≤ (zRm x).frames ∧ (st.map fun v => v.category).sum + (maxL + 11) + rm.locals ≤ (zRm x).locals ∧ n + rm.cells ≤ (zRm x).cells ∧ i + rm.slots ≤ (zRm x).slots)
    (k : ∀ v ad' ce', post' (.inl v) ad' ce' → zV x ad' ce' (n + rm.cells) (i + rm.slots) lv (pc + 3) (v.toList ++ st)) (kt : ∀ E ad' ce', ¬ post' (.inr E) ad' ce') : zV x ad ce n i lv pc st0 := by
  obtain ⟨⟨p, l0, e, R, s⟩, ⟨m, args, below, meth, c⟩, ⟨D0, cl0, tys0⟩, A, Q⟩ := x
  obtain ⟨hexec, hb, hown, hts0, hK, hA, hlocks, hZ, hE1, hE⟩ := hx
  cases hE1
  cases hE
  have hts := fun w (h : w ∈ Ts) => zT.at hts0 h args
  intro H locs ls hH hS hl T hT X
  subst hT
  subst hb
  subst hst0
  have hpl : e.platform.magicAccessors = ({} : Platform).magicAccessors := by rw [X.admits.platform]
  obtain ⟨mk, methM, cM, kP, vm₁, hnamed, hmethM, hcodeM, -, hlocalsM, -, hkP, -, hW₁, hstep₁⟩ := Steps.initColdArgs (e := e) X.here hexec X.warmed hpl hown hy1 hg.2.2.2.1 (hts _ hg.1) (hts _ hi) (hts _ hg.2.1) (f := F0 m pc ls (As.reverse ++ .ref q :: st)) rfl (fun sig h => hlen.trans (hg.2.2.2.2 _ h)) rfl hd
  have X₁ := X.noted hW₁
  obtain ⟨o, T', L, r, ad', ce', X', hS', hH', hr, hp, hst⟩ := z_call X₁ hts0 hK hA hZ (T := T.setVm vm₁) hH hS hM hg.2.1 hg.2.2.1 (g := F0 m pc ls st) rfl hl.1 hd (X₁.named hnamed) hR.1 (by show 2 * 0 + _ + _ + _ ≤ _; have := hR.2.1; simp only [Nat.mul_zero, Nat.zero_add]; exact this) hR.2.2.1 hR.2.2.2
  cases o with
  | returned v =>
    cases r with
    | inr E => exact hr.elim
    | inl w =>
      obtain rfl : v = w := hr
      obtain ⟨t2, a1, b1⟩ := k v ad' ce' hp T'.heap (locs ++ L) ls hH' hS' hl T' rfl X'
      exact ⟨t2, hstep₁ _ fun acts => (hst acts).trans a1, b1⟩
  | threw a =>
    cases r with
    | inl w => exact hr.elim
    | inr E => exact (kt E ad' ce' hp).elim
end LI
theorem i_more {c L : Nat} (hL : L < 2 ^ 30) (hc : c ≤ 512) (h : L < 8 * c + 8) : nI L - 8 < nI (8 * c) := by
  rw [Int32.lt_iff_toInt_lt, show (8 : Int32) = nI 8 from rfl, pk_sub_toInt hL (by decide), nI_toInt (by omega)]
  omega
/-! the law's start -/
def S0 : zSt := (fun _ => 0, fun _ _ => 0, fun t => if 40 ≤ t ∧ t < 48 then (fun j => if j = 0 then nI (t - 40) else 0) else m0F 8 1000 80 t)
def g0 : Gh := fun _ _ _ => 0
theorem S0_m {t : Nat} (h : ¬ (40 ≤ t ∧ t < 48)) : S0.2.2 t = m0F 8 1000 80 t := if_neg h
theorem S0_z {t : Nat} (h : ¬ (40 ≤ t ∧ t < 48)) (h1 : t ≠ 19) (h2 : t ≠ 22) (h3 : t ≠ 30) : S0.2.2 t = fun _ => 0 := by
  rw [S0_m h]
  funext q
  unfold m0F
  rw [if_neg h1, if_neg h2, if_neg h3]
theorem S0_s {s j : Nat} (hs : s < 8) : S0.2.2 (40 + s) j = if j = 0 then nI s else 0 := by
  show (if 40 ≤ 40 + s ∧ 40 + s < 48 then (fun j => if j = 0 then nI (40 + s - 40) else 0) else _) j = _
  rw [if_pos (by omega), show 40 + s - 40 = s from by omega]
theorem bodyA_13 {K : Nat → ClassId} {ad ad2 : Nat → Nat} (h : ∀ j, 14 ≤ j → ad2 j = ad j) (g : Nat → Int64) (f : Nat → Int32) : bodyA K ad2 g f 13 = bodyA K ad g f 13 := by
  unfold bodyA
  rw [h 14 (by decide), h 15 (by decide), h 16 (by decide), h 17 (by decide), h 18 (by decide), h 19 (by decide), h 20 (by decide), h 21 (by decide), h 22 (by decide), h 23 (by decide), h 24 (by decide), h 25 (by decide), h 26 (by decide), h 27 (by decide), h 28 (by decide), h 29 (by decide), h 30 (by decide), h 31 (by decide), h 32 (by decide)]
  rfl
theorem S0_lay {K : Nat → ClassId} {ad1 ad2 ad3 : Nat → Nat} (h12 : ∀ t, (t < 13 ∨ 32 < t) → ad2 t = ad1 t) (h3 : ∀ t, t ≠ 12 → ad3 t = ad2 t) (t : Nat) : Lay K ad3 S0 t = z_up (WM K ad2 (WT K ad1 (fun _ => none) 8) 8 1000 80) 12 (.inl (K 1, 1, .inr (.inl (fun _ => 0)))) t := by
  have h13 : ∀ t, (t ≠ 12 ∧ (t < 13 ∨ 32 < t)) → ad3 t = ad1 t := fun t ht => (h3 t ht.1).trans (h12 t ht.2)
  by_cases e12 : t = 12
  · subst e12
    rw [z_up_s]
    rfl
  rw [z_up_n e12]
  by_cases e11 : t ≤ 11
  · have eW : WM K ad2 (WT K ad1 (fun _ => none) 8) 8 1000 80 t = WT K ad1 (fun _ => none) 8 t := by
      unfold WM
      rw [if_neg (by omega), if_neg (by omega)]
    rw [eW]
    have eL : Lay K ad3 S0 t = some (bodyA K ad3 (fun _ => 0) (fun _ => 0) t) := by
      have hz : zdom (S0.2.2 9) t = true := by
        unfold zdom
        rw [decide_eq_true (show t ≤ 32 by omega), Bool.true_or]
      rw [Lay_in hz]
      unfold bodyX
      rw [if_pos (show t < 40 by omega), S0_z (by omega) (by omega) (by omega) (by omega)]
      rfl
    rw [eL]
    unfold WT
    rw [if_pos e11]
    by_cases e10 : t = 10
    · subst e10
      rw [if_pos rfl]
      show (some (.inl (K 4, 8, .inr (.inr (.inr (.inr (fun i => if i < 8 then some (ad3 (40 + i)) else none)))))) : Option va_E) = _
      refine congrArg (fun f : Nat → Option Nat => (some (.inl (K 4, 8, .inr (.inr (.inr (.inr f))))) : Option va_E)) (funext fun i => ?_)
      by_cases hi : i < 8
      · rw [if_pos hi, if_pos hi, h13 (40 + i) (by omega)]
      · rw [if_neg hi, if_neg hi]
    · rw [if_neg e10]
      by_cases e9 : t = 9
      · subst e9
        rw [if_pos rfl]
        show (some (.inl (K 3, 10, .inr (.inr (.inr (.inr (fun i => if i < 10 then (if (0 : Int32) = 0 then none else some (ad3 (100 + i))) else none)))))) : Option va_E) = _
        refine congrArg (fun f : Nat → Option Nat => (some (.inl (K 3, 10, .inr (.inr (.inr (.inr f))))) : Option va_E)) (funext fun i => ?_)
        rw [if_pos rfl]
        split <;> rfl
      · rw [if_neg e9, bodyA_ad0 (fun j hj => h13 j (by omega)) _ _ e11 e9 e10]
  by_cases e32 : t ≤ 32
  · have hz : zdom (S0.2.2 9) t = true := by
      unfold zdom
      rw [decide_eq_true (show t ≤ 32 by omega), Bool.true_or]
    rw [Lay_in hz]
    unfold bodyX WM
    rw [if_pos (show t < 40 by omega), S0_m (by omega)]
    by_cases e13 : t = 13
    · subst e13
      rw [if_pos rfl, bodyA_13 (fun j hj => h3 j (by omega))]
      rfl
    · rw [if_neg e13, if_pos (by omega)]
      have hh : t = 14 ∨ t = 15 ∨ t = 16 ∨ t = 17 ∨ t = 18 ∨ t = 19 ∨ t = 20 ∨ t = 21 ∨ t = 22 ∨ t = 23 ∨ t = 24 ∨ t = 25 ∨ t = 26 ∨ t = 27 ∨ t = 28 ∨ t = 29 ∨ t = 30 ∨ t = 31 ∨ t = 32 := by omega
      rcases hh with rfl | rfl | rfl | rfl | rfl | rfl | rfl | rfl | rfl | rfl | rfl | rfl | rfl | rfl | rfl | rfl | rfl | rfl | rfl <;> rfl
  have eW : WM K ad2 (WT K ad1 (fun _ => none) 8) 8 1000 80 t = WT K ad1 (fun _ => none) 8 t := by
    unfold WM
    rw [if_neg (by omega), if_neg (by omega)]
  rw [eW]
  have o9 : S0.2.2 9 = fun _ => 0 := S0_z (by decide) (by decide) (by decide) (by decide)
  unfold WT
  rw [if_neg e11]
  by_cases e4 : 40 ≤ t ∧ t < 48
  · rw [if_pos e4]
    have hz : zdom (S0.2.2 9) t = true := by
      unfold zdom
      rw [decide_eq_true e4]; simp
    rw [Lay_in hz]
    unfold bodyX
    rw [if_neg (by omega), if_pos (by omega), show plT (S0.1 t) (t + 30) = t + 30 from rfl, h13 (t + 10) (by omega), h13 (t + 20) (by omega), h13 (t + 30) (by omega)]
    obtain ⟨s, rfl⟩ : ∃ s, t = 40 + s := ⟨t - 40, by omega⟩
    rw [S0_s (by omega), S0_s (by omega), S0_s (by omega), S0_s (by omega), S0_s (by omega), show 40 + s - 40 = s from by omega]
    rfl
  rw [if_neg e4]
  by_cases e5 : 50 ≤ t ∧ t < 58
  · rw [if_pos e5]
    have hz : zdom (S0.2.2 9) t = true := by
      unfold zdom
      rw [decide_eq_true e5]; simp
    rw [Lay_in hz]
    unfold bodyX
    rw [if_neg (by omega), if_neg (by omega), if_pos (by omega), S0_z (by omega) (by omega) (by omega) (by omega)]
  rw [if_neg e5]
  by_cases e6 : 60 ≤ t ∧ t < 68
  · rw [if_pos e6]
    have hz : zdom (S0.2.2 9) t = true := by
      unfold zdom
      rw [decide_eq_true e6]; simp
    rw [Lay_in hz]
    unfold bodyX
    rw [if_neg (by omega), if_neg (by omega), if_neg (by omega), if_pos (by omega)]
    unfold bodyP
    rw [if_pos (by omega), S0_z (by omega) (by omega) (by omega) (by omega)]
    rfl
  rw [if_neg e6]
  by_cases e7 : 70 ≤ t ∧ t < 78
  · rw [if_pos e7]
    obtain ⟨s, rfl⟩ : ∃ s, t = 70 + s := ⟨t - 70, by omega⟩
    rw [Lay_pw (by omega), show 70 + s + 10 = 80 + s by omega, h13 (80 + s) (by omega)]
  rw [if_neg e7]
  by_cases e8 : 80 ≤ t ∧ t < 88
  · rw [if_pos e8]
    obtain ⟨s, rfl⟩ : ∃ s, t = 80 + s := ⟨t - 80, by omega⟩
    rw [Lay_ww (by omega)]
  rw [if_neg e8]
  refine if_neg ?_
  rw [o9]
  unfold zdom
  rw [decide_eq_false (show ¬ t ≤ 32 by omega), decide_eq_false e4, decide_eq_false e5, decide_eq_false e6, decide_eq_false e7, decide_eq_false e8]
  simp
theorem Rel_0 : Rel g0 0 S0 := by
  have z : ∀ t, (¬ (40 ≤ t ∧ t < 48) ∧ t ≠ 19 ∧ t ≠ 22 ∧ t ≠ 30) → ∀ j, S0.2.2 t j = 0 := fun t ht j => by rw [S0_z ht.1 ht.2.1 ht.2.2.1 ht.2.2.2]
  have z19 : ∀ j, j < 8 → S0.2.2 19 j = -1 := fun j hj => by
    rw [S0_m (by decide)]
    show (if (19 : Nat) = 19 then (if j < 8 then (-1 : Int32) else 0) else _) = _
    rw [if_pos rfl, if_pos hj]
  have z22 : ∀ j, j < 1000 → S0.2.2 22 j = -1 := fun j hj => by
    rw [S0_m (by decide)]
    show (if (22 : Nat) = 19 then _ else if (22 : Nat) = 22 then (if j < 1000 then (-1 : Int32) else 0) else _) = _
    rw [if_neg (by decide), if_pos rfl, if_pos hj]
  have z30 : ∀ j, j < 80 → S0.2.2 30 j = -1 := fun j hj => by
    rw [S0_m (by decide)]
    show (if (30 : Nat) = 19 then _ else if (30 : Nat) = 22 then _ else if (30 : Nat) = 30 then (if j < 80 then (-1 : Int32) else 0) else _) = _
    rw [if_neg (by decide), if_neg (by decide), if_pos rfl, if_pos hj]
  have h9 : ∀ i, S0.2.2 9 i = 0 := z 9 (by decide)
  refine ⟨(z 3 (by decide) _).trans (z 13 (by decide) _).symm, ⟨(z 3 (by decide) _).trans (z 13 (by decide) _).symm, Or.inl (z 13 (by decide) _)⟩, (z 3 (by decide) _).trans (z 13 (by decide) _).symm, (z 0 (by decide) _).trans (z 13 (by decide) _).symm, ⟨fun i hi => Or.inl ⟨h9 i, z 21 (by decide) i⟩, ?_⟩, ⟨z 1 (by decide) _, z 13 (by decide) _, z 1 (by decide) _, z 13 (by decide) _, fun j hj => (z 2 (by decide) _).trans (z 14 (by decide) _).symm, Or.inl ⟨rfl, rfl, rfl⟩⟩, ⟨z 13 (by decide) _, Nat.le_refl _, by decide, fun j => ?_, fun b hb => absurd (show b < 0 from hb) (by omega), fun s hs => ?_⟩, ⟨fun i p hi hp => ?_, fun s a hs ha => ?_⟩, fun k hk => Or.inl ⟨z22 k hk, z 24 (by decide) k, z 7 (by decide) k⟩, fun i p hi hp q => absurd (z 25 (by decide) _) q, fun i s hi hs => ?_, fun i s q s' q' hi l1 => absurd (show q < 0 from l1.2.1) (by omega), fun k hk q => absurd ((z 24 (by decide) k).symm.trans q) (by decide)⟩
  · rw [z 0 (by decide), cntI_none (fun q hq => by rw [z 21 (by decide)]; rfl)]
    rfl
  · rw [z 16 (by decide)]
    exact bo_n (a := 0) (by decide)
  · refine ⟨z 17 (by decide) _, by rw [S0_s hs]; rfl, ⟨by rw [S0_s hs]; rfl, Or.inl rfl⟩, by rw [S0_s hs]; rfl, Nat.zero_le _, by show 0 ≤ 24576; decide, Or.inl ⟨rfl, rfl⟩, Or.inl ⟨by rw [z19 s hs]; decide, by rw [S0_s hs]; rfl⟩⟩
  · exact ⟨fun _ => ⟨z 25 (by decide) _, z 29 (by decide) _⟩, fun q => absurd (h9 i) q, 0, by decide, z 29 (by decide) _⟩
  · rw [z (50 + s) (by omega)]
    unfold knM
    rw [cntI_none (fun q hq => by rw [z 25 (by decide)]; exact decide_eq_false (fun w => absurd w.1 (by decide)))]
    rfl
  · exact ⟨z 31 (by decide) _, Nat.le_refl _, fun _ => rfl, fun _ => by rw [z30 _ (by omega)]; decide, fun q => absurd (h9 i) q⟩
set_option maxRecDepth 20000 in
/-- from the loop's head to the law's end -/
theorem law_loop {x : zX} {l : Launch} {D : va_G} {K : Nat → ClassId} {b L : Nat} {xs : Nat → Int32} (hx : zOk x b_La_law "TrialDeskLaw" TB l D zcls (ztyl K)) (htr : l.stackTraces = false) (C : lCtx x b L xs) (fin : ∀ ad ce n i lv, n ≤ 601024 → i ≤ 7293034 → zV x ad ce n i lv 1401 []) : ∀ (m c : Nat) (ad : Nat → Nat) (S : zSt) (g : Gh), c + m = 512 → Rel g c S → zV x ad (Lay K ad S) (nC c) (nS c) (lvL b ad (nI (8 * c))) 23 [] := by
  obtain ⟨cL, cN, cM, cF, cO, cC, cS⟩ := C.2.2.2.2
  intro m
  induction m with
  | zero =>
    intro c ad S g hm h
    refine z_iload hx 4 d_La_law_23 rfl ?_
    refine z_aload_n hx 0 d_La_law_25 rfl ?_
    refine z_slen hx C.1 C.2.1 C.2.2.1 d_La_law_26 ?_
    refine z_bipush (v := 8) hx d_La_law_27 rfl ?_
    refine z_isub hx d_La_law_29 ?_
    refine z_icmp_gt (tgt := 1401) hx d_La_law_30 (by decide) (fun _ => fin _ _ _ _ _ (by unfold nC; omega) (Nat.le_trans (nS_top (by omega)) (by decide))) (fun q => ?_)
    exact absurd (i_more (c := c) (L := L) (by omega) (by omega) (by omega)) q
  | succ m ih =>
    intro c ad S g hm h
    refine z_iload hx 4 d_La_law_23 rfl ?_
    refine z_aload_n hx 0 d_La_law_25 rfl ?_
    refine z_slen hx C.1 C.2.1 C.2.2.1 d_La_law_26 ?_
    refine z_bipush (v := 8) hx d_La_law_27 rfl ?_
    refine z_isub hx d_La_law_29 ?_
    refine z_icmp_gt (tgt := 1401) hx d_La_law_30 (by decide) (fun _ => fin _ _ _ _ _ (by unfold nC; omega) (Nat.le_trans (nS_top (by omega)) (by decide))) (fun q => ?_)
    have hc : 8 * c + 8 ≤ L := Decidable.byContradiction fun z => q (i_more (by omega) (by omega) (by omega))
    refine law_turn hx htr C hc h (fun ad' S' g' h' => ?_)
    refine z_iinc (v := nI (8 * (c + 1))) hx 4 [(4, .int (nI (8 * (c + 1)))), (0, .ref b), (1, .ref (ad' 0)), (2, .ref (ad' 13)), (3, .ref (ad' 12))] d_La_law_1395 rfl (nI_add (8 * c) 8) (zN cM (by decide)) rfl ?_
    refine z_goto (tgt := 23) hx d_La_law_1398 (by decide) ?_
    exact z_lv [1, 2, 3, 4, 0] _ rfl (ih (c + 1) ad' S' g' (by omega) h')
set_option maxRecDepth 20000 in
/-- the law from its entry -/
theorem law_start {x : zX} {l : Launch} {D : va_G} {K : Nat → ClassId} {b L : Nat} {xs : Nat → Int32} (hx : zOk x b_La_law "TrialDeskLaw" TB l D zcls (ztyl K)) (htr : l.stackTraces = false) (C : lCtx x b L xs) (fin : ∀ ad ce n i lv, n ≤ 601024 → i ≤ 7293034 → zV x ad ce n i lv 1401 []) {ad : Nat → Nat} : zV x ad (fun _ => none) 0 0 [(0, .ref b)] 0 [] := by
  obtain ⟨cL, cN, cM, cF, cO, cC, cS⟩ := C.2.2.2.2
  refine z_new hx k_TD a1_19 a1_20 a1_1 (t := 0) rfl fz_TD (by omega) (by omega) d_La_law_0 (fun p1 => ?_)
  refine z_dup hx d_La_law_3 rfl ?_
  refine z_retI hx (c_TD_init (ad := va_up ad 0 p1) (fun _ _ => rfl)) ⟨a1_21, a1_23, a1_1, ⟨by decide +kernel, by decide +kernel⟩, fun sig h => by cases h; rfl⟩ a1_22 rfl rfl rfl d_La_law_4 ⟨by show 3 + 1 ≤ _; omega, by show 1 + (2 + 11) + 90 ≤ _; omega, by show 0 + 1 + 51 ≤ _; omega, by show 0 + 8 + 4225 ≤ _; omega⟩ (fun v ad1 ce1 q => ?_) (fun E ad' ce' q => by cases q.1)
  obtain ⟨q1, ha1, rfl⟩ := q
  cases q1
  show zV x ad1 (WT K ad1 (fun _ => none) 8) (0 + 1 + 51) (0 + 8 + 4225) [(0, .ref b)] 7 [.ref p1]
  have e0 : ad1 0 = p1 := (ha1 0 (by decide)).trans (if_pos rfl)
  rw [← e0]
  refine z_astore_n hx [(1, .ref (ad1 0)), (0, .ref b)] d_La_law_7 rfl (zN cM (by decide)) rfl ?_
  refine z_new hx k_Mo a3_216 a3_217 a1_6 (t := 13) rfl fz_Mo (by omega) (by omega) d_La_law_8 (fun p2 => ?_)
  refine z_dup hx d_La_law_11 rfl ?_
  refine z_retI hx (c_Mo_init (ad := va_up ad1 13 p2) (W := WT K ad1 (fun _ => none) 8) rfl rfl rfl rfl rfl rfl rfl rfl rfl rfl rfl rfl rfl rfl rfl rfl rfl rfl rfl) ⟨a3_218, a3_220, a1_6, ⟨by decide +kernel, by decide +kernel⟩, fun sig h => by cases h; rfl⟩ a3_219 rfl rfl rfl d_La_law_12 ⟨by show 1 + 1 ≤ _; omega, by show 1 + (2 + 11) + 40 ≤ _; omega, by show 0 + 1 + 51 + 1 + 19 ≤ _; omega, by show 0 + 8 + 4225 + 28 + 115126 ≤ _; omega⟩ (fun v ad2 ce2 q => ?_) (fun E ad' ce' q => by cases q.1)
  obtain ⟨q1, ha2, rfl⟩ := q
  cases q1
  show zV x ad2 (WM K ad2 (WT K ad1 (fun _ => none) 8) 8 1000 80) (0 + 1 + 51 + 1 + 19) (0 + 8 + 4225 + 28 + 115126) [(1, .ref (ad1 0)), (0, .ref b)] 15 [.ref p2]
  have e13 : ad2 13 = p2 := (ha2 13 (by decide)).trans (if_pos rfl)
  have h12 : ∀ t, (t < 13 ∨ 32 < t) → ad2 t = ad1 t := fun t ht => (ha2 t (by omega)).trans (if_neg (by omega))
  rw [← e13, ← h12 0 (by decide)]
  refine z_astore_n hx [(2, .ref (ad2 13)), (1, .ref (ad2 0)), (0, .ref b)] d_La_law_15 rfl (zN cM (by decide)) rfl ?_
  refine z_iconst (v := 1) hx d_La_law_16 rfl ?_
  refine z_newa hx (ty := .long) rfl 1 rfl ⟨by decide +kernel, by intro C h; cases h⟩ a4_69 (t := 12) rfl (N := 1) (a0 := (1, .inr (.inl (fun _ => 0)))) (fun _ => rfl) (by decide) (by decide) (by decide) (by omega) (by omega) d_La_law_17 (fun p3 => ?_)
  refine z_pic (ce' := Lay K (va_up ad2 12 p3) S0) (S0_lay h12 (fun t ht => if_neg ht)) ?_
  have e12 : (va_up ad2 12 p3) 12 = p3 := if_pos rfl
  show zV x (va_up ad2 12 p3) _ _ _ [(2, .ref (va_up ad2 12 p3 13)), (1, .ref (va_up ad2 12 p3 0)), (0, .ref b)] 19 [.ref (va_up ad2 12 p3 12)]
  refine z_astore_n hx [(3, .ref (va_up ad2 12 p3 12)), (2, .ref (va_up ad2 12 p3 13)), (1, .ref (va_up ad2 12 p3 0)), (0, .ref b)] d_La_law_19 rfl (zN cM (by decide)) rfl ?_
  refine z_iconst (v := 0) hx d_La_law_20 rfl ?_
  refine z_istore hx [(4, .int (nI (8 * 0))), (3, .ref (va_up ad2 12 p3 12)), (2, .ref (va_up ad2 12 p3 13)), (1, .ref (va_up ad2 12 p3 0)), (0, .ref b)] d_La_law_21 (zN cM (by decide)) rfl ?_
  refine z_widen (n' := nC 0) (i' := nS 0) (by decide) (by decide) ?_
  exact z_lv [4, 3, 2, 1, 0] _ rfl (law_loop hx htr C fin 512 0 _ S0 g0 (by decide) Rel_0)
