section ZM
variable {x : zX} {cc : ByteArray} {own : String} {Ts : List Cond} {l : Launch} {D : va_G} {cl : List vw_C} {tys : List (ClassId × FieldType)} {ad : Nat → Nat} {ce : zW} {n i pc mc ms : Nat} {lv : List (Nat × Value)} {st : List Value} {post : zQ}
theorem z_i2b (hx : zOk x cc own Ts l D cl tys) {x1 : Int32} (hd : decode cc pc = .ok (.i2b, 1)) (k : zV x ad ce n i lv (pc + 1) (.int x1.toInt8.toInt32 :: st)) : zV x ad ce n i lv pc (.int x1 :: st) := by
  obtain ⟨⟨p, l0, e, R, s⟩, ⟨m, args, below, meth, c⟩, ⟨D0, cl0, tys0⟩, A, Q⟩ := x
  obtain ⟨hexec, hb, hown, hts0, hK, hA, hlocks, hZ, hE1, hE⟩ := hx
  cases hE1
  cases hE
  intro H locs ls hH hS hl
  exact lv_i2b hexec hb hd rfl (k H locs ls hH hS hl)
theorem z_baldK (hx : zOk x cc own Ts l D cl tys) {cA : ClassId} {N t : Nat} {f : Nat → Int32} (t0 : Nat) (ht : tys[t0]? = some (cA, .byte)) (he : ce t = some (.inl (cA, N, .inl f))) {k : Nat} (hk : k < N) (hN : N < 2 ^ 31) (hd : decode cc pc = .ok (.baload, 1)) (kk : zV x ad ce n i lv (pc + 1) (.int (f k) :: st)) : zV x ad ce n i lv pc (.int (nI k) :: .ref (ad t) :: st) := by
  obtain ⟨⟨p, l0, e, R, s⟩, ⟨m, args, below, meth, c⟩, ⟨D0, cl0, tys0⟩, A, Q⟩ := x
  obtain ⟨hexec, hb, hown, hts0, hK, hA, hlocks, hZ, hE1, hE⟩ := hx
  cases hE1
  cases hE
  intro H locs ls hH hS hl
  refine va_bald hexec hb hK (z_P1 (hH.1 _ _ he).1) 0 t0 rfl ht (vp_in_nI hk hN) hd ?_
  rw [nI_clamp (Nat.lt_trans hk hN)]
  exact kk H locs ls hH hS hl
theorem z_bastK (hx : zOk x cc own Ts l D cl tys) {cA : ClassId} {N t : Nat} {f : Nat → Int32} (t0 : Nat) (ht : tys[t0]? = some (cA, .byte)) (he : ce t = some (.inl (cA, N, .inl f))) {k : Nat} {v : Int32} (hk : k < N) (hN : N < 2 ^ 31) (hv : v.toInt8.toInt32 = v) (hd : decode cc pc = .ok (.bastore, 1)) {ce1 : zW} (hce : ∀ u, ce1 u = z_up ce t (.inl (cA, N, .inl (upd f k v))) u) (kk : zV x ad ce1 n i lv (pc + 1) st) : zV x ad ce n i lv pc (.int v :: .int (nI k) :: .ref (ad t) :: st) := by
  obtain ⟨⟨p, l0, e, R, s⟩, ⟨m, args, below, meth, c⟩, ⟨D0, cl0, tys0⟩, A, Q⟩ := x
  obtain ⟨hexec, hb, hown, hts0, hK, hA, hlocks, hZ, hE1, hE⟩ := hx
  cases hE1
  cases hE
  intro H locs ls hH hS hl
  obtain ⟨h1, hAt⟩ := hH.1 _ _ he
  have hcl : (nI k).toNatClampNeg = k := nI_clamp (Nat.lt_trans hk hN)
  refine W.bast hexec hb h1 ((hK.2 t0 _ ht).1 N (fun j => .int (f j))) (fun q => by cases q) (by show ¬ (nI k < 0 ∨ (arrV _ _ _).slots.size ≤ _); rw [arrV_size]; exact vp_in_nI hk hN) rfl rfl hd fun H1 e z oq => ?_
  refine kk H1 _ ls ((hH.set he ?_ oq).cong hce) (hS.put z oq hAt) hl
  show H1[ad t]? = some (vp_cell _ _)
  rw [e, hcl]
  have hnb : narrow .byte (.int v) = .int v := by
    show Value.int v.toInt8.toInt32 = .int v
    rw [hv]
  rw [hnb, vp_cell_i, vp_cell_i, arrV_store]
  congr 2
  funext q
  by_cases hq : q = k
  · subst hq
    simp [updV, upd]
  · simp [updV, upd, hq]
end ZM
/-- a byte -/
def bo (v : Int32) : Prop := v.toInt8.toInt32 = v
theorem bo_s : ∀ a : Fin 8, bo (nI a.val) := by unfold bo; decide +kernel
theorem bo_n {a : Nat} (h : a < 4) : bo (nI a) := bo_s ⟨a, by omega⟩
def bOk (S : zSt) : Prop := ∀ j, bo (S.2.2 16 j)
theorem bOk_put {S : zSt} (h : bOk S) {j : Nat} {v : Int32} (hv : bo v) : bOk (stM S 16 j v) := fun q => by
  by_cases z : q = j
  · subst z; rw [rd_s]; exact hv
  · rw [rd_j z]; exact h q
theorem bOk_n {S : zSt} (h : bOk S) {t j : Nat} {v : Int32} (ht : t ≠ 16) : bOk (stM S t j v) := fun q => by rw [rd_n (Ne.symm ht)]; exact h q
theorem bOk_wr {S : zSt} (h : bOk S) {v : Int32} (hv : bo v) {a m : Nat} : bOk (wrS 16 v a S m) := by
  induction m with
  | zero => exact h
  | succ m ih => exact bOk_put ih hv
theorem bOk_la {S : zSt} (h : bOk S) {F : Nat} {e : Nat → Nat} {k : Nat} (hk : k ≤ 4) : bOk (laS 16 F e S k) := by
  induction k with
  | zero => exact h
  | succ k ih => exact bOk_wr (ih (by omega)) (bo_n (by omega))
theorem bOk_sw {S : zSt} (h : bOk S) {a b : Nat} : bOk (swS 16 S a b) := bOk_put (bOk_put h (h b)) (h a)
theorem bOk_sh {S : zSt} (h : bOk S) {tw jw F Z k : Nat} : bOk (shD tw jw 16 F Z S k) := by
  induction k with
  | zero => exact h
  | succ k ih => exact bOk_sw (S := stL _ _ _ _) ih
def wiF (v lo hi : Int32) : Int32 := if v < lo then 0 else if hi < v then 0 else 1
theorem wi_no {v hi nx : Int32} (hn : hi.toInt + 1 = nx.toInt) (h : v < 0 ∨ ¬ v < nx) : wiF v 0 hi = 0 := by
  unfold wiF
  rcases h with h | h
  · rw [if_pos h]
  · by_cases q : v < 0
    · rw [if_pos q]
    · rw [if_neg q, if_pos]
      rw [Int32.lt_iff_toInt_lt] at h ⊢
      omega
theorem wi_yes {v hi nx : Int32} (hn : hi.toInt + 1 = nx.toInt) (h0 : ¬ v < 0) (h : v < nx) : wiF v 0 hi = 1 := by
  unfold wiF
  rw [if_neg h0, if_neg]
  rw [Int32.lt_iff_toInt_lt] at h ⊢
  omega
theorem wi_nI {k : Nat} {hi : Int32} (N : Nat) (hn : hi.toInt + 1 = (N : Int)) (hN : N < 2 ^ 31) (h : k < N) : wiF (nI k) 0 hi = 1 := wi_yes (nx := nI N) (by rw [nI_toInt hN]; exact hn) (nI_pos (by omega)) (nI_lt h hN)
/-- no site of the reference has this number -/
def badM (S : zSt) (v : Int32) : Prop := (v < 0 ∨ ¬ v < 10) ∨ ∃ i, i < 10 ∧ v = nI i ∧ S.2.2 21 i ≤ 0
set_option maxRecDepth 20000 in
theorem c_Mo_thrown {l : Launch} {D : va_G} {K : Nat → ClassId} {ad : Nat → Nat} {S : zSt}  : zC l TB D zcls (ztyl K) y_Mo_thrown (.code y_Mo_thrown b_Mo_thrown 1 (some FieldType.int)) (rmk 0 0) [.ref (ad 13)] ad (Lay K ad S) (zP K ad (some (.int (S.2.2 13 0))) S) := by
  refine zC.of (by decide +kernel) (Nat.le_of_ble_eq_true rfl) ?_
  intro x hx hr hml hnm hrm hq hNH
  show zV x ad (Lay K ad S) 0 0 [(0, .ref (ad 13))] 0 []
  refine z_aload_n hx 0 d_Mo_thrown_0 rfl ?_
  refine z_get hx k_Mo (t := 13) rfl 0 (by decide) a3_223 rfl d_Mo_thrown_1 ?_
  exact z_iret hx hr rfl hq (Nat.le_refl _) (Nat.le_refl _) d_Mo_thrown_4 ⟨rfl, rfl, rfl⟩
set_option maxRecDepth 20000 in
theorem c_Mo_within {l : Launch} {D : va_G} {K : Nat → ClassId} {ad : Nat → Nat} {S : zSt} {a b c : Int32} : zC l TB D zcls (ztyl K) y_Mo_within (.code y_Mo_within b_Mo_within 3 (some FieldType.boolean)) (rmk 0 0) [.int a, .int b, .int c] ad (Lay K ad S) (zP K ad (some (.int (wiF a b c))) S) := by
  refine zC.of (by decide +kernel) (Nat.le_of_ble_eq_true rfl) ?_
  intro x hx hr hml hnm hrm hq hNH
  show zV x ad (Lay K ad S) 0 0 [(0, .int a), (1, .int b), (2, .int c)] 0 []
  refine z_iload_n hx 0 d_Mo_within_0 rfl ?_
  refine z_iload_n hx 1 d_Mo_within_1 rfl ?_
  refine z_icmp_lt (tgt := 14) hx d_Mo_within_2 (by decide) (fun h1 => ?_) (fun h1 => ?_)
  · refine z_iconst (v := 0) hx d_Mo_within_14 rfl ?_
    exact z_iret hx hr rfl hq (Nat.le_refl _) (Nat.le_refl _) d_Mo_within_15 ⟨congrArg (fun z => Sum.inl (some (Value.int z))) (by unfold wiF; (first | rw [if_pos h1] | rw [if_neg h1] | skip)), rfl, rfl⟩
  · refine z_iload_n hx 0 d_Mo_within_5 rfl ?_
    refine z_iload_n hx 2 d_Mo_within_6 rfl ?_
    refine z_icmp_gt (tgt := 14) hx d_Mo_within_7 (by decide) (fun h2 => ?_) (fun h2 => ?_)
    · refine z_iconst (v := 0) hx d_Mo_within_14 rfl ?_
      exact z_iret hx hr rfl hq (Nat.le_refl _) (Nat.le_refl _) d_Mo_within_15 ⟨congrArg (fun z => Sum.inl (some (Value.int z))) (by unfold wiF; (first | rw [if_pos h1] | rw [if_neg h1] | skip); (first | rw [if_pos h2] | rw [if_neg h2] | skip)), rfl, rfl⟩
    · refine z_iconst (v := 1) hx d_Mo_within_10 rfl ?_
      refine z_goto (tgt := 15) hx d_Mo_within_11 (by decide) ?_
      exact z_iret hx hr rfl hq (Nat.le_refl _) (Nat.le_refl _) d_Mo_within_15 ⟨congrArg (fun z => Sum.inl (some (Value.int z))) (by unfold wiF; (first | rw [if_pos h1] | rw [if_neg h1] | skip); (first | rw [if_pos h2] | rw [if_neg h2] | skip)), rfl, rfl⟩
set_option maxRecDepth 20000 in
theorem c_Mo_refused_1 {l : Launch} {D : va_G} {K : Nat → ClassId} {ad : Nat → Nat} {S : zSt} {b c : Int32} : zC l TB D zcls (ztyl K) y_Mo_refused (.code y_Mo_refused b_Mo_refused 4 (some FieldType.boolean)) (rmk 0 0) [.ref (ad 13), .int 1, .int b, .int c] ad (Lay K ad S) (zP K ad (some (.int 1)) (stM S 13 0 1)) := by
  refine zC.of (by decide +kernel) (Nat.le_of_ble_eq_true rfl) ?_
  intro x hx hr hml hnm hrm hq hNH
  show zV x ad (Lay K ad S) 0 0 [(0, .ref (ad 13)), (1, .int 1), (2, .int b), (3, .int c)] 0 []
  refine z_aload_n hx 0 d_Mo_refused_0 rfl ?_
  refine z_iload_n hx 1 d_Mo_refused_1 rfl ?_
  refine z_if_eq (tgt := 9) hx d_Mo_refused_2 (by decide) (fun h => absurd h (by decide)) (fun _ => ?_)
  refine z_iconst (v := 1) hx d_Mo_refused_5 rfl ?_
  refine z_goto (tgt := 26) hx d_Mo_refused_6 (by decide) ?_
  refine z_put hx k_Mo (t := 13) rfl 0 (by decide) a3_223 rfl rfl rfl (Nat.le_of_ble_eq_true rfl) d_Mo_refused_26 (ce1 := Lay K ad (stM S 13 0 1)) (Lay_put (by decide) rfl) ?_
  refine z_aload_n hx 0 d_Mo_refused_29 rfl ?_
  refine z_get hx k_Mo (t := 13) rfl 0 (by decide) a3_223 rfl d_Mo_refused_30 ?_
  refine z_top (b := 1) (rd_s) ?_
  refine z_if_le (tgt := 40) hx d_Mo_refused_33 (by decide) (fun h => absurd h (by decide)) (fun _ => ?_)
  refine z_iconst (v := 1) hx d_Mo_refused_36 rfl ?_
  refine z_goto (tgt := 41) hx d_Mo_refused_37 (by decide) ?_
  exact z_iret hx hr rfl hq (Nat.le_refl _) (Nat.le_refl _) d_Mo_refused_41 ⟨rfl, rfl, rfl⟩
set_option maxRecDepth 20000 in
theorem c_Mo_refused_2 {l : Launch} {D : va_G} {K : Nat → ClassId} {ad : Nat → Nat} {S : zSt} {c : Int32} : zC l TB D zcls (ztyl K) y_Mo_refused (.code y_Mo_refused b_Mo_refused 4 (some FieldType.boolean)) (rmk 0 0) [.ref (ad 13), .int 0, .int 1, .int c] ad (Lay K ad S) (zP K ad (some (.int 1)) (stM S 13 0 2)) := by
  refine zC.of (by decide +kernel) (Nat.le_of_ble_eq_true rfl) ?_
  intro x hx hr hml hnm hrm hq hNH
  show zV x ad (Lay K ad S) 0 0 [(0, .ref (ad 13)), (1, .int 0), (2, .int 1), (3, .int c)] 0 []
  refine z_aload_n hx 0 d_Mo_refused_0 rfl ?_
  refine z_iload_n hx 1 d_Mo_refused_1 rfl ?_
  refine z_if_eq (tgt := 9) hx d_Mo_refused_2 (by decide) (fun _ => ?_) (fun h => absurd (by decide) h)
  refine z_iload_n hx 2 d_Mo_refused_9 rfl ?_
  refine z_if_eq (tgt := 17) hx d_Mo_refused_10 (by decide) (fun h => absurd h (by decide)) (fun _ => ?_)
  refine z_iconst (v := 2) hx d_Mo_refused_13 rfl ?_
  refine z_goto (tgt := 26) hx d_Mo_refused_14 (by decide) ?_
  refine z_put hx k_Mo (t := 13) rfl 0 (by decide) a3_223 rfl rfl rfl (Nat.le_of_ble_eq_true rfl) d_Mo_refused_26 (ce1 := Lay K ad (stM S 13 0 2)) (Lay_put (by decide) rfl) ?_
  refine z_aload_n hx 0 d_Mo_refused_29 rfl ?_
  refine z_get hx k_Mo (t := 13) rfl 0 (by decide) a3_223 rfl d_Mo_refused_30 ?_
  refine z_top (b := 2) (rd_s) ?_
  refine z_if_le (tgt := 40) hx d_Mo_refused_33 (by decide) (fun h => absurd h (by decide)) (fun _ => ?_)
  refine z_iconst (v := 1) hx d_Mo_refused_36 rfl ?_
  refine z_goto (tgt := 41) hx d_Mo_refused_37 (by decide) ?_
  exact z_iret hx hr rfl hq (Nat.le_refl _) (Nat.le_refl _) d_Mo_refused_41 ⟨rfl, rfl, rfl⟩
set_option maxRecDepth 20000 in
theorem c_Mo_refused_3 {l : Launch} {D : va_G} {K : Nat → ClassId} {ad : Nat → Nat} {S : zSt}  : zC l TB D zcls (ztyl K) y_Mo_refused (.code y_Mo_refused b_Mo_refused 4 (some FieldType.boolean)) (rmk 0 0) [.ref (ad 13), .int 0, .int 0, .int 1] ad (Lay K ad S) (zP K ad (some (.int 1)) (stM S 13 0 3)) := by
  refine zC.of (by decide +kernel) (Nat.le_of_ble_eq_true rfl) ?_
  intro x hx hr hml hnm hrm hq hNH
  show zV x ad (Lay K ad S) 0 0 [(0, .ref (ad 13)), (1, .int 0), (2, .int 0), (3, .int 1)] 0 []
  refine z_aload_n hx 0 d_Mo_refused_0 rfl ?_
  refine z_iload_n hx 1 d_Mo_refused_1 rfl ?_
  refine z_if_eq (tgt := 9) hx d_Mo_refused_2 (by decide) (fun _ => ?_) (fun h => absurd (by decide) h)
  refine z_iload_n hx 2 d_Mo_refused_9 rfl ?_
  refine z_if_eq (tgt := 17) hx d_Mo_refused_10 (by decide) (fun _ => ?_) (fun h => absurd (by decide) h)
  refine z_iload_n hx 3 d_Mo_refused_17 rfl ?_
  refine z_if_eq (tgt := 25) hx d_Mo_refused_18 (by decide) (fun h => absurd h (by decide)) (fun _ => ?_)
  refine z_iconst (v := 3) hx d_Mo_refused_21 rfl ?_
  refine z_goto (tgt := 26) hx d_Mo_refused_22 (by decide) ?_
  refine z_put hx k_Mo (t := 13) rfl 0 (by decide) a3_223 rfl rfl rfl (Nat.le_of_ble_eq_true rfl) d_Mo_refused_26 (ce1 := Lay K ad (stM S 13 0 3)) (Lay_put (by decide) rfl) ?_
  refine z_aload_n hx 0 d_Mo_refused_29 rfl ?_
  refine z_get hx k_Mo (t := 13) rfl 0 (by decide) a3_223 rfl d_Mo_refused_30 ?_
  refine z_top (b := 3) (rd_s) ?_
  refine z_if_le (tgt := 40) hx d_Mo_refused_33 (by decide) (fun h => absurd h (by decide)) (fun _ => ?_)
  refine z_iconst (v := 1) hx d_Mo_refused_36 rfl ?_
  refine z_goto (tgt := 41) hx d_Mo_refused_37 (by decide) ?_
  exact z_iret hx hr rfl hq (Nat.le_refl _) (Nat.le_refl _) d_Mo_refused_41 ⟨rfl, rfl, rfl⟩
set_option maxRecDepth 20000 in
theorem c_Mo_refused_0 {l : Launch} {D : va_G} {K : Nat → ClassId} {ad : Nat → Nat} {S : zSt}  : zC l TB D zcls (ztyl K) y_Mo_refused (.code y_Mo_refused b_Mo_refused 4 (some FieldType.boolean)) (rmk 0 0) [.ref (ad 13), .int 0, .int 0, .int 0] ad (Lay K ad S) (zP K ad (some (.int 0)) (stM S 13 0 0)) := by
  refine zC.of (by decide +kernel) (Nat.le_of_ble_eq_true rfl) ?_
  intro x hx hr hml hnm hrm hq hNH
  show zV x ad (Lay K ad S) 0 0 [(0, .ref (ad 13)), (1, .int 0), (2, .int 0), (3, .int 0)] 0 []
  refine z_aload_n hx 0 d_Mo_refused_0 rfl ?_
  refine z_iload_n hx 1 d_Mo_refused_1 rfl ?_
  refine z_if_eq (tgt := 9) hx d_Mo_refused_2 (by decide) (fun _ => ?_) (fun h => absurd (by decide) h)
  refine z_iload_n hx 2 d_Mo_refused_9 rfl ?_
  refine z_if_eq (tgt := 17) hx d_Mo_refused_10 (by decide) (fun _ => ?_) (fun h => absurd (by decide) h)
  refine z_iload_n hx 3 d_Mo_refused_17 rfl ?_
  refine z_if_eq (tgt := 25) hx d_Mo_refused_18 (by decide) (fun _ => ?_) (fun h => absurd (by decide) h)
  refine z_iconst (v := 0) hx d_Mo_refused_25 rfl ?_
  refine z_put hx k_Mo (t := 13) rfl 0 (by decide) a3_223 rfl rfl rfl (Nat.le_of_ble_eq_true rfl) d_Mo_refused_26 (ce1 := Lay K ad (stM S 13 0 0)) (Lay_put (by decide) rfl) ?_
  refine z_aload_n hx 0 d_Mo_refused_29 rfl ?_
  refine z_get hx k_Mo (t := 13) rfl 0 (by decide) a3_223 rfl d_Mo_refused_30 ?_
  refine z_top (b := 0) (rd_s) ?_
  refine z_if_le (tgt := 40) hx d_Mo_refused_33 (by decide) (fun _ => ?_) (fun h => absurd (by decide) h)
  refine z_iconst (v := 0) hx d_Mo_refused_40 rfl ?_
  exact z_iret hx hr rfl hq (Nat.le_refl _) (Nat.le_refl _) d_Mo_refused_41 ⟨rfl, rfl, rfl⟩
set_option maxRecDepth 20000 in
theorem c_Mo_isStratum_yes {l : Launch} {D : va_G} {K : Nat → ClassId} {ad : Nat → Nat} {S : zSt} {s : Nat} (hs : s < 8) : zC l TB D zcls (ztyl K) y_Mo_isStratum (.code y_Mo_isStratum b_Mo_isStratum 1 (some FieldType.boolean)) (rmk 1 22) [.int (nI s)] ad (Lay K ad S) (zP K ad (some (.int 1)) S) := by
  refine zC.of (by decide +kernel) (Nat.le_of_ble_eq_true rfl) ?_
  intro x hx hr hml hnm hrm hq hNH
  show zV x ad (Lay K ad S) 0 0 [(0, .int (nI s))] 0 []
  refine z_iload_n hx 0 d_Mo_isStratum_0 rfl ?_
  refine z_iconst (v := 0) hx d_Mo_isStratum_1 rfl ?_
  refine z_bipush (v := 7) hx d_Mo_isStratum_2 rfl ?_
  refine z_cS hx (c_Mo_within) ⟨a4_78, a4_80, a1_6, ⟨by decide +kernel, by decide +kernel⟩, fun sig h => by cases h; rfl⟩ a4_79 rfl rfl d_Mo_isStratum_4 (by rw [hrm]; exact ⟨Nat.le_of_ble_eq_true rfl, Nat.le_of_ble_eq_true rfl, Nat.le_of_ble_eq_true rfl, Nat.le_of_ble_eq_true rfl⟩) ?_
  show zV x ad (Lay K ad S) _ _ _ 7 [.int (wiF (nI s) 0 7)]
  refine z_top (b := 1) (wi_nI 8 (by decide) (by decide) (by omega)) ?_
  exact z_iret hx hr rfl hq (Nat.le_refl _) (Nat.le_refl _) d_Mo_isStratum_7 ⟨rfl, rfl, rfl⟩
set_option maxRecDepth 20000 in
theorem c_Mo_isStratum_no {l : Launch} {D : va_G} {K : Nat → ClassId} {ad : Nat → Nat} {S : zSt} {v : Int32} (hv : v < 0 ∨ ¬ v < 8) : zC l TB D zcls (ztyl K) y_Mo_isStratum (.code y_Mo_isStratum b_Mo_isStratum 1 (some FieldType.boolean)) (rmk 1 22) [.int v] ad (Lay K ad S) (zP K ad (some (.int 0)) S) := by
  refine zC.of (by decide +kernel) (Nat.le_of_ble_eq_true rfl) ?_
  intro x hx hr hml hnm hrm hq hNH
  show zV x ad (Lay K ad S) 0 0 [(0, .int v)] 0 []
  refine z_iload_n hx 0 d_Mo_isStratum_0 rfl ?_
  refine z_iconst (v := 0) hx d_Mo_isStratum_1 rfl ?_
  refine z_bipush (v := 7) hx d_Mo_isStratum_2 rfl ?_
  refine z_cS hx (c_Mo_within) ⟨a4_78, a4_80, a1_6, ⟨by decide +kernel, by decide +kernel⟩, fun sig h => by cases h; rfl⟩ a4_79 rfl rfl d_Mo_isStratum_4 (by rw [hrm]; exact ⟨Nat.le_of_ble_eq_true rfl, Nat.le_of_ble_eq_true rfl, Nat.le_of_ble_eq_true rfl, Nat.le_of_ble_eq_true rfl⟩) ?_
  show zV x ad (Lay K ad S) _ _ _ 7 [.int (wiF v 0 7)]
  refine z_top (b := 0) (wi_no (nx := 8) (by decide) hv) ?_
  exact z_iret hx hr rfl hq (Nat.le_refl _) (Nat.le_refl _) d_Mo_isStratum_7 ⟨rfl, rfl, rfl⟩
set_option maxRecDepth 20000 in
theorem c_Mo_isHolder_yes {l : Launch} {D : va_G} {K : Nat → ClassId} {ad : Nat → Nat} {S : zSt} {s : Nat} (hs : s < 5) : zC l TB D zcls (ztyl K) y_Mo_isHolder (.code y_Mo_isHolder b_Mo_isHolder 1 (some FieldType.boolean)) (rmk 1 22) [.int (nI s)] ad (Lay K ad S) (zP K ad (some (.int 1)) S) := by
  refine zC.of (by decide +kernel) (Nat.le_of_ble_eq_true rfl) ?_
  intro x hx hr hml hnm hrm hq hNH
  show zV x ad (Lay K ad S) 0 0 [(0, .int (nI s))] 0 []
  refine z_iload_n hx 0 d_Mo_isHolder_0 rfl ?_
  refine z_iconst (v := 0) hx d_Mo_isHolder_1 rfl ?_
  refine z_iconst (v := 4) hx d_Mo_isHolder_2 rfl ?_
  refine z_cS hx (c_Mo_within) ⟨a4_78, a4_80, a1_6, ⟨by decide +kernel, by decide +kernel⟩, fun sig h => by cases h; rfl⟩ a4_79 rfl rfl d_Mo_isHolder_3 (by rw [hrm]; exact ⟨Nat.le_of_ble_eq_true rfl, Nat.le_of_ble_eq_true rfl, Nat.le_of_ble_eq_true rfl, Nat.le_of_ble_eq_true rfl⟩) ?_
  show zV x ad (Lay K ad S) _ _ _ 6 [.int (wiF (nI s) 0 4)]
  refine z_top (b := 1) (wi_nI 5 (by decide) (by decide) (by omega)) ?_
  exact z_iret hx hr rfl hq (Nat.le_refl _) (Nat.le_refl _) d_Mo_isHolder_6 ⟨rfl, rfl, rfl⟩
set_option maxRecDepth 20000 in
theorem c_Mo_isHolder_no {l : Launch} {D : va_G} {K : Nat → ClassId} {ad : Nat → Nat} {S : zSt} {v : Int32} (hv : v < 0 ∨ ¬ v < 5) : zC l TB D zcls (ztyl K) y_Mo_isHolder (.code y_Mo_isHolder b_Mo_isHolder 1 (some FieldType.boolean)) (rmk 1 22) [.int v] ad (Lay K ad S) (zP K ad (some (.int 0)) S) := by
  refine zC.of (by decide +kernel) (Nat.le_of_ble_eq_true rfl) ?_
  intro x hx hr hml hnm hrm hq hNH
  show zV x ad (Lay K ad S) 0 0 [(0, .int v)] 0 []
  refine z_iload_n hx 0 d_Mo_isHolder_0 rfl ?_
  refine z_iconst (v := 0) hx d_Mo_isHolder_1 rfl ?_
  refine z_iconst (v := 4) hx d_Mo_isHolder_2 rfl ?_
  refine z_cS hx (c_Mo_within) ⟨a4_78, a4_80, a1_6, ⟨by decide +kernel, by decide +kernel⟩, fun sig h => by cases h; rfl⟩ a4_79 rfl rfl d_Mo_isHolder_3 (by rw [hrm]; exact ⟨Nat.le_of_ble_eq_true rfl, Nat.le_of_ble_eq_true rfl, Nat.le_of_ble_eq_true rfl, Nat.le_of_ble_eq_true rfl⟩) ?_
  show zV x ad (Lay K ad S) _ _ _ 6 [.int (wiF v 0 4)]
  refine z_top (b := 0) (wi_no (nx := 5) (by decide) hv) ?_
  exact z_iret hx hr rfl hq (Nat.le_refl _) (Nat.le_refl _) d_Mo_isHolder_6 ⟨rfl, rfl, rfl⟩
set_option maxRecDepth 20000 in
theorem c_Mo_isSite_yes {l : Launch} {D : va_G} {K : Nat → ClassId} {ad : Nat → Nat} {S : zSt} {i : Nat} (hi : i < 10) (ho : ¬ S.2.2 21 i ≤ 0) : zC l TB D zcls (ztyl K) y_Mo_isSite (.code y_Mo_isSite b_Mo_isSite 2 (some FieldType.boolean)) (rmk 1 22) [.ref (ad 13), .int (nI i)] ad (Lay K ad S) (zP K ad (some (.int 1)) S) := by
  refine zC.of (by decide +kernel) (Nat.le_of_ble_eq_true rfl) ?_
  intro x hx hr hml hnm hrm hq hNH
  show zV x ad (Lay K ad S) 0 0 [(0, .ref (ad 13)), (1, .int (nI i))] 0 []
  refine z_iload_n hx 1 d_Mo_isSite_0 rfl ?_
  refine z_iconst (v := 0) hx d_Mo_isSite_1 rfl ?_
  refine z_bipush (v := 9) hx d_Mo_isSite_2 rfl ?_
  refine z_cS hx (c_Mo_within) ⟨a4_78, a4_80, a1_6, ⟨by decide +kernel, by decide +kernel⟩, fun sig h => by cases h; rfl⟩ a4_79 rfl rfl d_Mo_isSite_4 (by rw [hrm]; exact ⟨Nat.le_of_ble_eq_true rfl, Nat.le_of_ble_eq_true rfl, Nat.le_of_ble_eq_true rfl, Nat.le_of_ble_eq_true rfl⟩) ?_
  show zV x ad (Lay K ad S) _ _ _ 7 [.int (wiF (nI i) 0 9)]
  refine z_top (b := 1) (wi_nI 10 (by decide) (by decide) (by omega)) ?_
  refine z_if_eq (tgt := 23) hx d_Mo_isSite_7 (by decide) (fun h => absurd h (by decide)) (fun _ => ?_)
  refine z_aload_n hx 0 d_Mo_isSite_10 rfl ?_
  refine z_get hx k_Mo (t := 13) rfl 16 (by decide) a3_239 rfl d_Mo_isSite_11 ?_
  refine z_iload_n hx 1 d_Mo_isSite_14 rfl ?_
  refine z_ialdK hx 0 rfl (t := 21) rfl (k := i) (by omega) (by first | decide | omega) d_Mo_isSite_15 ?_
  refine z_if_le (tgt := 23) hx d_Mo_isSite_16 (by decide) (fun h => absurd h ho) (fun _ => ?_)
  refine z_iconst (v := 1) hx d_Mo_isSite_19 rfl ?_
  refine z_goto (tgt := 24) hx d_Mo_isSite_20 (by decide) ?_
  exact z_iret hx hr rfl hq (Nat.le_refl _) (Nat.le_refl _) d_Mo_isSite_24 ⟨rfl, rfl, rfl⟩
set_option maxRecDepth 20000 in
theorem c_Mo_isSite_out {l : Launch} {D : va_G} {K : Nat → ClassId} {ad : Nat → Nat} {S : zSt} {v : Int32} (hv : v < 0 ∨ ¬ v < 10) : zC l TB D zcls (ztyl K) y_Mo_isSite (.code y_Mo_isSite b_Mo_isSite 2 (some FieldType.boolean)) (rmk 1 22) [.ref (ad 13), .int v] ad (Lay K ad S) (zP K ad (some (.int 0)) S) := by
  refine zC.of (by decide +kernel) (Nat.le_of_ble_eq_true rfl) ?_
  intro x hx hr hml hnm hrm hq hNH
  show zV x ad (Lay K ad S) 0 0 [(0, .ref (ad 13)), (1, .int v)] 0 []
  refine z_iload_n hx 1 d_Mo_isSite_0 rfl ?_
  refine z_iconst (v := 0) hx d_Mo_isSite_1 rfl ?_
  refine z_bipush (v := 9) hx d_Mo_isSite_2 rfl ?_
  refine z_cS hx (c_Mo_within) ⟨a4_78, a4_80, a1_6, ⟨by decide +kernel, by decide +kernel⟩, fun sig h => by cases h; rfl⟩ a4_79 rfl rfl d_Mo_isSite_4 (by rw [hrm]; exact ⟨Nat.le_of_ble_eq_true rfl, Nat.le_of_ble_eq_true rfl, Nat.le_of_ble_eq_true rfl, Nat.le_of_ble_eq_true rfl⟩) ?_
  show zV x ad (Lay K ad S) _ _ _ 7 [.int (wiF v 0 9)]
  refine z_top (b := 0) (wi_no (nx := 10) (by decide) hv) ?_
  refine z_if_eq (tgt := 23) hx d_Mo_isSite_7 (by decide) (fun _ => ?_) (fun h => absurd (by decide) h)
  refine z_iconst (v := 0) hx d_Mo_isSite_23 rfl ?_
  exact z_iret hx hr rfl hq (Nat.le_refl _) (Nat.le_refl _) d_Mo_isSite_24 ⟨rfl, rfl, rfl⟩
set_option maxRecDepth 20000 in
theorem c_Mo_isSite_none {l : Launch} {D : va_G} {K : Nat → ClassId} {ad : Nat → Nat} {S : zSt} {i : Nat} (hi : i < 10) (ho : S.2.2 21 i ≤ 0) : zC l TB D zcls (ztyl K) y_Mo_isSite (.code y_Mo_isSite b_Mo_isSite 2 (some FieldType.boolean)) (rmk 1 22) [.ref (ad 13), .int (nI i)] ad (Lay K ad S) (zP K ad (some (.int 0)) S) := by
  refine zC.of (by decide +kernel) (Nat.le_of_ble_eq_true rfl) ?_
  intro x hx hr hml hnm hrm hq hNH
  show zV x ad (Lay K ad S) 0 0 [(0, .ref (ad 13)), (1, .int (nI i))] 0 []
  refine z_iload_n hx 1 d_Mo_isSite_0 rfl ?_
  refine z_iconst (v := 0) hx d_Mo_isSite_1 rfl ?_
  refine z_bipush (v := 9) hx d_Mo_isSite_2 rfl ?_
  refine z_cS hx (c_Mo_within) ⟨a4_78, a4_80, a1_6, ⟨by decide +kernel, by decide +kernel⟩, fun sig h => by cases h; rfl⟩ a4_79 rfl rfl d_Mo_isSite_4 (by rw [hrm]; exact ⟨Nat.le_of_ble_eq_true rfl, Nat.le_of_ble_eq_true rfl, Nat.le_of_ble_eq_true rfl, Nat.le_of_ble_eq_true rfl⟩) ?_
  show zV x ad (Lay K ad S) _ _ _ 7 [.int (wiF (nI i) 0 9)]
  refine z_top (b := 1) (wi_nI 10 (by decide) (by decide) (by omega)) ?_
  refine z_if_eq (tgt := 23) hx d_Mo_isSite_7 (by decide) (fun h => absurd h (by decide)) (fun _ => ?_)
  refine z_aload_n hx 0 d_Mo_isSite_10 rfl ?_
  refine z_get hx k_Mo (t := 13) rfl 16 (by decide) a3_239 rfl d_Mo_isSite_11 ?_
  refine z_iload_n hx 1 d_Mo_isSite_14 rfl ?_
  refine z_ialdK hx 0 rfl (t := 21) rfl (k := i) (by omega) (by first | decide | omega) d_Mo_isSite_15 ?_
  refine z_if_le (tgt := 23) hx d_Mo_isSite_16 (by decide) (fun _ => ?_) (fun h => absurd ho h)
  refine z_iconst (v := 0) hx d_Mo_isSite_23 rfl ?_
  exact z_iret hx hr rfl hq (Nat.le_refl _) (Nat.le_refl _) d_Mo_isSite_24 ⟨rfl, rfl, rfl⟩
theorem c_Mo_isSite_no {l : Launch} {D : va_G} {K : Nat → ClassId} {ad : Nat → Nat} {S : zSt} {v : Int32} (hv : badM S v) : zC l TB D zcls (ztyl K) y_Mo_isSite (.code y_Mo_isSite b_Mo_isSite 2 (some FieldType.boolean)) (rmk 1 22) [.ref (ad 13), .int v] ad (Lay K ad S) (zP K ad (some (.int 0)) S) := by
  rcases hv with h | ⟨i, hi, rfl, ho⟩
  · exact c_Mo_isSite_out h
  · exact c_Mo_isSite_none hi ho
set_option maxRecDepth 20000 in
theorem c_Mo_isPerson_yes {l : Launch} {D : va_G} {K : Nat → ClassId} {ad : Nat → Nat} {S : zSt} {i p : Nat} (hi : i < 10) (ho : ¬ S.2.2 21 i ≤ 0) (hp : p < 100) : zC l TB D zcls (ztyl K) y_Mo_isPerson (.code y_Mo_isPerson b_Mo_isPerson 3 (some FieldType.boolean)) (rmk 2 43) [.ref (ad 13), .int (nI i), .int (nI p)] ad (Lay K ad S) (zP K ad (some (.int 1)) S) := by
  refine zC.of (by decide +kernel) (Nat.le_of_ble_eq_true rfl) ?_
  intro x hx hr hml hnm hrm hq hNH
  show zV x ad (Lay K ad S) 0 0 [(0, .ref (ad 13)), (1, .int (nI i)), (2, .int (nI p))] 0 []
  refine z_aload_n hx 0 d_Mo_isPerson_0 rfl ?_
  refine z_iload_n hx 1 d_Mo_isPerson_1 rfl ?_
  refine z_cV hx (c_Mo_isSite_yes hi ho) k_Mo rfl ⟨a4_98, a4_101, a1_6, ⟨by decide +kernel, by decide +kernel⟩, fun sig h => by cases h; rfl⟩ a4_100 s_Mo_isSite rfl rfl d_Mo_isPerson_2 (by rw [hrm]; exact ⟨Nat.le_of_ble_eq_true rfl, Nat.le_of_ble_eq_true rfl, Nat.le_of_ble_eq_true rfl, Nat.le_of_ble_eq_true rfl⟩) ?_
  show zV x ad (Lay K ad S) _ _ _ 5 [.int 1]
  refine z_if_eq (tgt := 22) hx d_Mo_isPerson_5 (by decide) (fun h => absurd h (by decide)) (fun _ => ?_)
  refine z_iload_n hx 2 d_Mo_isPerson_8 rfl ?_
  refine z_iconst (v := 0) hx d_Mo_isPerson_9 rfl ?_
  refine z_bipush (v := 99) hx d_Mo_isPerson_10 rfl ?_
  refine z_cS hx (c_Mo_within) ⟨a4_78, a4_80, a1_6, ⟨by decide +kernel, by decide +kernel⟩, fun sig h => by cases h; rfl⟩ a4_79 rfl rfl d_Mo_isPerson_12 (by rw [hrm]; exact ⟨Nat.le_of_ble_eq_true rfl, Nat.le_of_ble_eq_true rfl, Nat.le_of_ble_eq_true rfl, Nat.le_of_ble_eq_true rfl⟩) ?_
  show zV x ad (Lay K ad S) _ _ _ 15 [.int (wiF (nI p) 0 99)]
  refine z_top (b := 1) (wi_nI 100 (by decide) (by decide) (by omega)) ?_
  refine z_if_eq (tgt := 22) hx d_Mo_isPerson_15 (by decide) (fun h => absurd h (by decide)) (fun _ => ?_)
  refine z_iconst (v := 1) hx d_Mo_isPerson_18 rfl ?_
  refine z_goto (tgt := 23) hx d_Mo_isPerson_19 (by decide) ?_
  exact z_iret hx hr rfl hq (Nat.le_refl _) (Nat.le_refl _) d_Mo_isPerson_23 ⟨rfl, rfl, rfl⟩
set_option maxRecDepth 20000 in
theorem c_Mo_isPerson_no {l : Launch} {D : va_G} {K : Nat → ClassId} {ad : Nat → Nat} {S : zSt} {v w : Int32} (hv : badM S v) : zC l TB D zcls (ztyl K) y_Mo_isPerson (.code y_Mo_isPerson b_Mo_isPerson 3 (some FieldType.boolean)) (rmk 2 43) [.ref (ad 13), .int v, .int w] ad (Lay K ad S) (zP K ad (some (.int 0)) S) := by
  refine zC.of (by decide +kernel) (Nat.le_of_ble_eq_true rfl) ?_
  intro x hx hr hml hnm hrm hq hNH
  show zV x ad (Lay K ad S) 0 0 [(0, .ref (ad 13)), (1, .int v), (2, .int w)] 0 []
  refine z_aload_n hx 0 d_Mo_isPerson_0 rfl ?_
  refine z_iload_n hx 1 d_Mo_isPerson_1 rfl ?_
  refine z_cV hx (c_Mo_isSite_no hv) k_Mo rfl ⟨a4_98, a4_101, a1_6, ⟨by decide +kernel, by decide +kernel⟩, fun sig h => by cases h; rfl⟩ a4_100 s_Mo_isSite rfl rfl d_Mo_isPerson_2 (by rw [hrm]; exact ⟨Nat.le_of_ble_eq_true rfl, Nat.le_of_ble_eq_true rfl, Nat.le_of_ble_eq_true rfl, Nat.le_of_ble_eq_true rfl⟩) ?_
  show zV x ad (Lay K ad S) _ _ _ 5 [.int 0]
  refine z_if_eq (tgt := 22) hx d_Mo_isPerson_5 (by decide) (fun _ => ?_) (fun h => absurd (by decide) h)
  refine z_iconst (v := 0) hx d_Mo_isPerson_22 rfl ?_
  exact z_iret hx hr rfl hq (Nat.le_refl _) (Nat.le_refl _) d_Mo_isPerson_23 ⟨rfl, rfl, rfl⟩
set_option maxRecDepth 20000 in
theorem c_Mo_isPerson_out {l : Launch} {D : va_G} {K : Nat → ClassId} {ad : Nat → Nat} {S : zSt} {i : Nat} (hi : i < 10) (ho : ¬ S.2.2 21 i ≤ 0) {v : Int32} (hv : v < 0 ∨ ¬ v < 100) : zC l TB D zcls (ztyl K) y_Mo_isPerson (.code y_Mo_isPerson b_Mo_isPerson 3 (some FieldType.boolean)) (rmk 2 43) [.ref (ad 13), .int (nI i), .int v] ad (Lay K ad S) (zP K ad (some (.int 0)) S) := by
  refine zC.of (by decide +kernel) (Nat.le_of_ble_eq_true rfl) ?_
  intro x hx hr hml hnm hrm hq hNH
  show zV x ad (Lay K ad S) 0 0 [(0, .ref (ad 13)), (1, .int (nI i)), (2, .int v)] 0 []
  refine z_aload_n hx 0 d_Mo_isPerson_0 rfl ?_
  refine z_iload_n hx 1 d_Mo_isPerson_1 rfl ?_
  refine z_cV hx (c_Mo_isSite_yes hi ho) k_Mo rfl ⟨a4_98, a4_101, a1_6, ⟨by decide +kernel, by decide +kernel⟩, fun sig h => by cases h; rfl⟩ a4_100 s_Mo_isSite rfl rfl d_Mo_isPerson_2 (by rw [hrm]; exact ⟨Nat.le_of_ble_eq_true rfl, Nat.le_of_ble_eq_true rfl, Nat.le_of_ble_eq_true rfl, Nat.le_of_ble_eq_true rfl⟩) ?_
  show zV x ad (Lay K ad S) _ _ _ 5 [.int 1]
  refine z_if_eq (tgt := 22) hx d_Mo_isPerson_5 (by decide) (fun h => absurd h (by decide)) (fun _ => ?_)
  refine z_iload_n hx 2 d_Mo_isPerson_8 rfl ?_
  refine z_iconst (v := 0) hx d_Mo_isPerson_9 rfl ?_
  refine z_bipush (v := 99) hx d_Mo_isPerson_10 rfl ?_
  refine z_cS hx (c_Mo_within) ⟨a4_78, a4_80, a1_6, ⟨by decide +kernel, by decide +kernel⟩, fun sig h => by cases h; rfl⟩ a4_79 rfl rfl d_Mo_isPerson_12 (by rw [hrm]; exact ⟨Nat.le_of_ble_eq_true rfl, Nat.le_of_ble_eq_true rfl, Nat.le_of_ble_eq_true rfl, Nat.le_of_ble_eq_true rfl⟩) ?_
  show zV x ad (Lay K ad S) _ _ _ 15 [.int (wiF v 0 99)]
  refine z_top (b := 0) (wi_no (nx := 100) (by decide) hv) ?_
  refine z_if_eq (tgt := 22) hx d_Mo_isPerson_15 (by decide) (fun _ => ?_) (fun h => absurd (by decide) h)
  refine z_iconst (v := 0) hx d_Mo_isPerson_22 rfl ?_
  exact z_iret hx hr rfl hq (Nat.le_refl _) (Nat.le_refl _) d_Mo_isPerson_23 ⟨rfl, rfl, rfl⟩
theorem wi_b {a b c : Int32} : narrow .boolean (.int (wiF a b c)) = .int (wiF a b c) := by
  unfold wiF
  by_cases h : a < b
  · rw [if_pos h]; rfl
  · rw [if_neg h]
    by_cases q : c < a
    · rw [if_pos q]; rfl
    · rw [if_neg q]; rfl
set_option maxRecDepth 20000 in
theorem c_Mo_isArm {l : Launch} {D : va_G} {K : Nat → ClassId} {ad : Nat → Nat} {S : zSt} {v : Int32} : zC l TB D zcls (ztyl K) y_Mo_isArm (.code y_Mo_isArm b_Mo_isArm 2 (some FieldType.boolean)) (rmk 1 22) [.ref (ad 13), .int v] ad (Lay K ad S) (zP K ad (some (.int (wiF v 0 (if S.2.2 13 5 = 0 then 3 else S.2.2 13 5 - 1)))) S) := by
  refine zC.of (by decide +kernel) (Nat.le_of_ble_eq_true rfl) ?_
  intro x hx hr hml hnm hrm hq hNH
  show zV x ad (Lay K ad S) 0 0 [(0, .ref (ad 13)), (1, .int v)] 0 []
  refine z_iload_n hx 1 d_Mo_isArm_0 rfl ?_
  refine z_iconst (v := 0) hx d_Mo_isArm_1 rfl ?_
  refine z_aload_n hx 0 d_Mo_isArm_2 rfl ?_
  refine z_get hx k_Mo (t := 13) rfl 5 (by decide) a3_228 rfl d_Mo_isArm_3 ?_
  refine z_if_ne (tgt := 13) hx d_Mo_isArm_6 (by decide) (fun h1 => ?_) (fun h1 => ?_)
  · refine z_aload_n hx 0 d_Mo_isArm_13 rfl ?_
    refine z_get hx k_Mo (t := 13) rfl 5 (by decide) a3_228 rfl d_Mo_isArm_14 ?_
    refine z_iconst (v := 1) hx d_Mo_isArm_17 rfl ?_
    refine z_isub hx d_Mo_isArm_18 ?_
    refine z_cS hx (c_Mo_within) ⟨a4_78, a4_80, a1_6, ⟨by decide +kernel, by decide +kernel⟩, fun sig h => by cases h; rfl⟩ a4_79 rfl rfl d_Mo_isArm_19 (by rw [hrm]; exact ⟨Nat.le_of_ble_eq_true rfl, Nat.le_of_ble_eq_true rfl, Nat.le_of_ble_eq_true rfl, Nat.le_of_ble_eq_true rfl⟩) ?_
    show zV x ad (Lay K ad S) _ _ _ 22 [.int (wiF v 0 ((S.2.2 13 5) - 1))]
    have e9 : (if S.2.2 13 5 = 0 then 3 else S.2.2 13 5 - 1) = ((S.2.2 13 5) - 1) := by first | rw [if_pos h1] | rw [if_neg h1]
    exact z_iret hx hr (by rw [← e9]; exact wi_b) hq (Nat.le_refl _) (Nat.le_refl _) d_Mo_isArm_22 ⟨by rw [e9], rfl, rfl⟩
  · refine z_iconst (v := 3) hx d_Mo_isArm_9 rfl ?_
    refine z_goto (tgt := 19) hx d_Mo_isArm_10 (by decide) ?_
    refine z_cS hx (c_Mo_within) ⟨a4_78, a4_80, a1_6, ⟨by decide +kernel, by decide +kernel⟩, fun sig h => by cases h; rfl⟩ a4_79 rfl rfl d_Mo_isArm_19 (by rw [hrm]; exact ⟨Nat.le_of_ble_eq_true rfl, Nat.le_of_ble_eq_true rfl, Nat.le_of_ble_eq_true rfl, Nat.le_of_ble_eq_true rfl⟩) ?_
    show zV x ad (Lay K ad S) _ _ _ 22 [.int (wiF v 0 3)]
    have e9 : (if S.2.2 13 5 = 0 then 3 else S.2.2 13 5 - 1) = 3 := by first | rw [if_pos h1] | rw [if_neg h1]
    exact z_iret hx hr (by rw [← e9]; exact wi_b) hq (Nat.le_refl _) (Nat.le_refl _) d_Mo_isArm_22 ⟨by rw [e9], rfl, rfl⟩
set_option maxRecDepth 20000 in
theorem c_Mo_writes_ok {l : Launch} {D : va_G} {K : Nat → ClassId} {ad : Nat → Nat} {S : zSt} (hw : S.2.2 13 2 = 0) : zC l TB D zcls (ztyl K) y_Mo_writes (.code y_Mo_writes b_Mo_writes 1 (some FieldType.boolean)) (rmk 0 0) [.ref (ad 13)] ad (Lay K ad S) (zP K ad (some (.int 1)) (stM S 13 3 (S.2.2 13 3 + 1))) := by
  refine zC.of (by decide +kernel) (Nat.le_of_ble_eq_true rfl) ?_
  intro x hx hr hml hnm hrm hq hNH
  show zV x ad (Lay K ad S) 0 0 [(0, .ref (ad 13))] 0 []
  refine z_aload_n hx 0 d_Mo_writes_0 rfl ?_
  refine z_get hx k_Mo (t := 13) rfl 2 (by decide) a3_225 rfl d_Mo_writes_1 ?_
  refine z_if_eq (tgt := 19) hx d_Mo_writes_4 (by decide) (fun _ => ?_) (fun h => absurd hw h)
  refine z_aload_n hx 0 d_Mo_writes_19 rfl ?_
  refine z_dup hx d_Mo_writes_20 rfl ?_
  refine z_get hx k_Mo (t := 13) rfl 3 (by decide) a3_226 rfl d_Mo_writes_21 ?_
  refine z_iconst (v := 1) hx d_Mo_writes_24 rfl ?_
  refine z_iadd hx d_Mo_writes_25 ?_
  refine z_put hx k_Mo (t := 13) rfl 3 (by decide) a3_226 rfl rfl rfl (Nat.le_of_ble_eq_true rfl) d_Mo_writes_26 (ce1 := Lay K ad (stM S 13 3 ((S.2.2 13 3) + 1))) (Lay_put (by decide) rfl) ?_
  refine z_iconst (v := 1) hx d_Mo_writes_29 rfl ?_
  exact z_iret hx hr rfl hq (Nat.le_refl _) (Nat.le_refl _) d_Mo_writes_30 ⟨rfl, rfl, rfl⟩
set_option maxRecDepth 20000 in
theorem c_Mo_writes_torn {l : Launch} {D : va_G} {K : Nat → ClassId} {ad : Nat → Nat} {S : zSt} (hw : ¬ S.2.2 13 2 = 0) : zC l TB D zcls (ztyl K) y_Mo_writes (.code y_Mo_writes b_Mo_writes 1 (some FieldType.boolean)) (rmk 0 0) [.ref (ad 13)] ad (Lay K ad S) (zP K ad (some (.int 0)) (stM (stM S 13 2 0) 13 1 1)) := by
  refine zC.of (by decide +kernel) (Nat.le_of_ble_eq_true rfl) ?_
  intro x hx hr hml hnm hrm hq hNH
  show zV x ad (Lay K ad S) 0 0 [(0, .ref (ad 13))] 0 []
  refine z_aload_n hx 0 d_Mo_writes_0 rfl ?_
  refine z_get hx k_Mo (t := 13) rfl 2 (by decide) a3_225 rfl d_Mo_writes_1 ?_
  refine z_if_eq (tgt := 19) hx d_Mo_writes_4 (by decide) (fun h => absurd h hw) (fun _ => ?_)
  refine z_aload_n hx 0 d_Mo_writes_7 rfl ?_
  refine z_iconst (v := 0) hx d_Mo_writes_8 rfl ?_
  refine z_put hx k_Mo (t := 13) rfl 2 (by decide) a3_225 rfl rfl rfl (Nat.le_of_ble_eq_true rfl) d_Mo_writes_9 (ce1 := Lay K ad (stM S 13 2 0)) (Lay_put (by decide) rfl) ?_
  refine z_aload_n hx 0 d_Mo_writes_12 rfl ?_
  refine z_iconst (v := 1) hx d_Mo_writes_13 rfl ?_
  refine z_put hx k_Mo (t := 13) rfl 1 (by decide) a3_224 rfl rfl rfl (Nat.le_of_ble_eq_true rfl) d_Mo_writes_14 (ce1 := Lay K ad (stM (stM S 13 2 0) 13 1 1)) (Lay_put (by decide) rfl) ?_
  refine z_iconst (v := 0) hx d_Mo_writes_17 rfl ?_
  exact z_iret hx hr rfl hq (Nat.le_refl _) (Nat.le_refl _) d_Mo_writes_18 ⟨rfl, rfl, rfl⟩
set_option maxRecDepth 20000 in
theorem c_Mo_free {l : Launch} {D : va_G} {K : Nat → ClassId} {ad : Nat → Nat} {S : zSt} {s r : Int32} : zC l TB D zcls (ztyl K) y_Mo_free (.code y_Mo_free b_Mo_free 5 (some FieldType.int)) (rmk 0 0) [.ref (ad 13), .int s, .int r] ad (Lay K ad S) (zP K ad (some (.int (nI (cntI (fun q => decide (S.2.2 22 q = s ∧ S.2.2 23 q = r ∧ S.2.2 24 q = 0)) 1000)))) S) := by
  refine zC.of (by decide +kernel) (Nat.le_of_ble_eq_true rfl) ?_
  intro x hx hr hml hnm hrm hq hNH
  have L : ∀ (m_L k : Nat), k + m_L = 1000 → zV x ad (Lay K ad S) 0 0 [(4, .int (nI k)), (3, .int (nI (cntI (fun q => decide (S.2.2 22 q = s ∧ S.2.2 23 q = r ∧ S.2.2 24 q = 0)) k))), (0, .ref (ad 13)), (1, .int s), (2, .int r)] 5 [] := by
    intro m_L
    induction m_L with
    | zero =>
      intro k he_L
      have e_L : k = 1000 := by omega
      refine z_iload hx 0 d_Mo_free_5 rfl ?_
      refine z_sipush (v := 1000) hx d_Mo_free_7 rfl ?_
      refine z_icmp_ge (tgt := 59) hx d_Mo_free_10 (by decide) (fun _ => ?_) (fun h => absurd (nI_leL 1000 rfl e_L (by decide)) h)
      refine z_iload_n hx 1 d_Mo_free_59 rfl ?_
      subst e_L
      exact z_iret hx hr rfl hq (Nat.le_refl _) (Nat.le_refl _) d_Mo_free_60 ⟨rfl, rfl, rfl⟩
    | succ m_L ih_L =>
      intro k he_L
      have l_L : k < 1000 := by omega
      refine z_iload hx 0 d_Mo_free_5 rfl ?_
      refine z_sipush (v := 1000) hx d_Mo_free_7 rfl ?_
      refine z_icmp_ge (tgt := 59) hx d_Mo_free_10 (by decide) (fun h => absurd h (nI_nleL 1000 rfl l_L (by decide))) (fun _ => ?_)
      refine z_aload_n hx 2 d_Mo_free_13 rfl ?_
      refine z_get hx k_Mo (t := 13) rfl 17 (by decide) a4_0 rfl d_Mo_free_14 ?_
      refine z_iload hx 0 d_Mo_free_17 rfl ?_
      refine z_ialdK hx 0 rfl (t := 22) rfl (k := k) (by omega) (by first | decide | omega) d_Mo_free_19 ?_
      refine z_iload_n hx 3 d_Mo_free_20 rfl ?_
      refine z_icmp_ne (tgt := 51) hx d_Mo_free_21 (by decide) (fun h1 => ?_) (fun h1 => ?_)
      · refine z_iload_n hx 1 d_Mo_free_51 rfl ?_
        refine z_istore_n hx [(3, .int (nI (cntI (fun q => decide (S.2.2 22 q = s ∧ S.2.2 23 q = r ∧ S.2.2 24 q = 0)) k))), (4, .int (nI k)), (0, .ref (ad 13)), (1, .int s), (2, .int r)] d_Mo_free_52 rfl (zN hml (by decide)) rfl ?_
        refine z_iinc (v := nI (k + 1)) hx 1 [(4, .int (nI (k + 1))), (3, .int (nI (cntI (fun q => decide (S.2.2 22 q = s ∧ S.2.2 23 q = r ∧ S.2.2 24 q = 0)) k))), (0, .ref (ad 13)), (1, .int s), (2, .int r)] d_Mo_free_53 rfl (nI_1 k) (zN hml (by decide)) rfl ?_
        refine z_goto (tgt := 5) hx d_Mo_free_56 (by decide) ?_
        have q9 := ih_L (k + 1) (by omega)
        rw [show cntI (fun q => decide (S.2.2 22 q = s ∧ S.2.2 23 q = r ∧ S.2.2 24 q = 0)) (k + 1) = cntI (fun q => decide (S.2.2 22 q = s ∧ S.2.2 23 q = r ∧ S.2.2 24 q = 0)) k from by rw [cntI]; simp [h1]] at q9
        exact z_lv [0, 1, 2, 3, 4] _ rfl q9
      · refine z_aload_n hx 2 d_Mo_free_24 rfl ?_
        refine z_get hx k_Mo (t := 13) rfl 18 (by decide) a4_1 rfl d_Mo_free_25 ?_
        refine z_iload hx 0 d_Mo_free_28 rfl ?_
        refine z_ialdK hx 0 rfl (t := 23) rfl (k := k) (by omega) (by first | decide | omega) d_Mo_free_30 ?_
        refine z_iload_n hx 4 d_Mo_free_31 rfl ?_
        refine z_icmp_ne (tgt := 51) hx d_Mo_free_32 (by decide) (fun h2 => ?_) (fun h2 => ?_)
        · refine z_iload_n hx 1 d_Mo_free_51 rfl ?_
          refine z_istore_n hx [(3, .int (nI (cntI (fun q => decide (S.2.2 22 q = s ∧ S.2.2 23 q = r ∧ S.2.2 24 q = 0)) k))), (4, .int (nI k)), (0, .ref (ad 13)), (1, .int s), (2, .int r)] d_Mo_free_52 rfl (zN hml (by decide)) rfl ?_
          refine z_iinc (v := nI (k + 1)) hx 1 [(4, .int (nI (k + 1))), (3, .int (nI (cntI (fun q => decide (S.2.2 22 q = s ∧ S.2.2 23 q = r ∧ S.2.2 24 q = 0)) k))), (0, .ref (ad 13)), (1, .int s), (2, .int r)] d_Mo_free_53 rfl (nI_1 k) (zN hml (by decide)) rfl ?_
          refine z_goto (tgt := 5) hx d_Mo_free_56 (by decide) ?_
          have q9 := ih_L (k + 1) (by omega)
          rw [show cntI (fun q => decide (S.2.2 22 q = s ∧ S.2.2 23 q = r ∧ S.2.2 24 q = 0)) (k + 1) = cntI (fun q => decide (S.2.2 22 q = s ∧ S.2.2 23 q = r ∧ S.2.2 24 q = 0)) k from by rw [cntI]; simp [h1, h2]] at q9
          exact z_lv [0, 1, 2, 3, 4] _ rfl q9
        · refine z_aload_n hx 2 d_Mo_free_35 rfl ?_
          refine z_get hx k_Mo (t := 13) rfl 19 (by decide) a4_2 rfl d_Mo_free_36 ?_
          refine z_iload hx 0 d_Mo_free_39 rfl ?_
          refine z_ialdK hx 0 rfl (t := 24) rfl (k := k) (by omega) (by first | decide | omega) d_Mo_free_41 ?_
          refine z_if_ne (tgt := 51) hx d_Mo_free_42 (by decide) (fun h3 => ?_) (fun h3 => ?_)
          · refine z_iload_n hx 1 d_Mo_free_51 rfl ?_
            refine z_istore_n hx [(3, .int (nI (cntI (fun q => decide (S.2.2 22 q = s ∧ S.2.2 23 q = r ∧ S.2.2 24 q = 0)) k))), (4, .int (nI k)), (0, .ref (ad 13)), (1, .int s), (2, .int r)] d_Mo_free_52 rfl (zN hml (by decide)) rfl ?_
            refine z_iinc (v := nI (k + 1)) hx 1 [(4, .int (nI (k + 1))), (3, .int (nI (cntI (fun q => decide (S.2.2 22 q = s ∧ S.2.2 23 q = r ∧ S.2.2 24 q = 0)) k))), (0, .ref (ad 13)), (1, .int s), (2, .int r)] d_Mo_free_53 rfl (nI_1 k) (zN hml (by decide)) rfl ?_
            refine z_goto (tgt := 5) hx d_Mo_free_56 (by decide) ?_
            have q9 := ih_L (k + 1) (by omega)
            rw [show cntI (fun q => decide (S.2.2 22 q = s ∧ S.2.2 23 q = r ∧ S.2.2 24 q = 0)) (k + 1) = cntI (fun q => decide (S.2.2 22 q = s ∧ S.2.2 23 q = r ∧ S.2.2 24 q = 0)) k from by rw [cntI]; simp [h1, h2, h3]] at q9
            exact z_lv [0, 1, 2, 3, 4] _ rfl q9
          · refine z_iload_n hx 1 d_Mo_free_45 rfl ?_
            refine z_iconst (v := 1) hx d_Mo_free_46 rfl ?_
            refine z_iadd hx d_Mo_free_47 ?_
            refine z_top (b := nI (cntI (fun q => decide (S.2.2 22 q = s ∧ S.2.2 23 q = r ∧ S.2.2 24 q = 0)) k + 1)) (nI_1 _) ?_
            refine z_goto (tgt := 52) hx d_Mo_free_48 (by decide) ?_
            refine z_istore_n hx [(3, .int (nI (cntI (fun q => decide (S.2.2 22 q = s ∧ S.2.2 23 q = r ∧ S.2.2 24 q = 0)) k + 1))), (4, .int (nI k)), (0, .ref (ad 13)), (1, .int s), (2, .int r)] d_Mo_free_52 rfl (zN hml (by decide)) rfl ?_
            refine z_iinc (v := nI (k + 1)) hx 1 [(4, .int (nI (k + 1))), (3, .int (nI (cntI (fun q => decide (S.2.2 22 q = s ∧ S.2.2 23 q = r ∧ S.2.2 24 q = 0)) k + 1))), (0, .ref (ad 13)), (1, .int s), (2, .int r)] d_Mo_free_53 rfl (nI_1 k) (zN hml (by decide)) rfl ?_
            refine z_goto (tgt := 5) hx d_Mo_free_56 (by decide) ?_
            have q9 := ih_L (k + 1) (by omega)
            rw [show cntI (fun q => decide (S.2.2 22 q = s ∧ S.2.2 23 q = r ∧ S.2.2 24 q = 0)) (k + 1) = cntI (fun q => decide (S.2.2 22 q = s ∧ S.2.2 23 q = r ∧ S.2.2 24 q = 0)) k + 1 from by rw [cntI]; simp [h1, h2, h3]] at q9
            exact z_lv [0, 1, 2, 3, 4] _ rfl q9
  show zV x ad (Lay K ad S) 0 0 [(0, .ref (ad 13)), (1, .int s), (2, .int r)] 0 []
  refine z_iconst (v := 0) hx d_Mo_free_0 rfl ?_
  refine z_top (b := nI (cntI (fun q => decide (S.2.2 22 q = s ∧ S.2.2 23 q = r ∧ S.2.2 24 q = 0)) 0)) rfl ?_
  refine z_istore_n hx [(3, .int (nI (cntI (fun q => decide (S.2.2 22 q = s ∧ S.2.2 23 q = r ∧ S.2.2 24 q = 0)) 0))), (0, .ref (ad 13)), (1, .int s), (2, .int r)] d_Mo_free_1 rfl (zN hml (by decide)) rfl ?_
  refine z_iconst (v := 0) hx d_Mo_free_2 rfl ?_
  refine z_top (b := nI 0) rfl ?_
  refine z_istore hx [(4, .int (nI 0)), (3, .int (nI (cntI (fun q => decide (S.2.2 22 q = s ∧ S.2.2 23 q = r ∧ S.2.2 24 q = 0)) 0))), (0, .ref (ad 13)), (1, .int s), (2, .int r)] d_Mo_free_3 (zN hml (by decide)) rfl ?_
  exact z_lv [0, 1, 2, 3, 4] _ rfl (L 1000 0 (by omega))
set_option maxRecDepth 20000 in
theorem c_Mo_known {l : Launch} {D : va_G} {K : Nat → ClassId} {ad : Nat → Nat} {S : zSt} {s r : Int32} : zC l TB D zcls (ztyl K) y_Mo_known (.code y_Mo_known b_Mo_known 5 (some FieldType.int)) (rmk 0 0) [.ref (ad 13), .int s, .int r] ad (Lay K ad S) (zP K ad (some (.int (nI (cntI (fun q => decide (S.2.2 25 q = 1 ∧ S.2.2 26 q = s ∧ S.2.2 27 q = r)) 1000)))) S) := by
  refine zC.of (by decide +kernel) (Nat.le_of_ble_eq_true rfl) ?_
  intro x hx hr hml hnm hrm hq hNH
  have L : ∀ (m_L k : Nat), k + m_L = 1000 → zV x ad (Lay K ad S) 0 0 [(4, .int (nI k)), (3, .int (nI (cntI (fun q => decide (S.2.2 25 q = 1 ∧ S.2.2 26 q = s ∧ S.2.2 27 q = r)) k))), (0, .ref (ad 13)), (1, .int s), (2, .int r)] 5 [] := by
    intro m_L
    induction m_L with
    | zero =>
      intro k he_L
      have e_L : k = 1000 := by omega
      refine z_iload hx 0 d_Mo_known_5 rfl ?_
      refine z_sipush (v := 1000) hx d_Mo_known_7 rfl ?_
      refine z_icmp_ge (tgt := 60) hx d_Mo_known_10 (by decide) (fun _ => ?_) (fun h => absurd (nI_leL 1000 rfl e_L (by decide)) h)
      refine z_iload_n hx 1 d_Mo_known_60 rfl ?_
      subst e_L
      exact z_iret hx hr rfl hq (Nat.le_refl _) (Nat.le_refl _) d_Mo_known_61 ⟨rfl, rfl, rfl⟩
    | succ m_L ih_L =>
      intro k he_L
      have l_L : k < 1000 := by omega
      refine z_iload hx 0 d_Mo_known_5 rfl ?_
      refine z_sipush (v := 1000) hx d_Mo_known_7 rfl ?_
      refine z_icmp_ge (tgt := 60) hx d_Mo_known_10 (by decide) (fun h => absurd h (nI_nleL 1000 rfl l_L (by decide))) (fun _ => ?_)
      refine z_aload_n hx 2 d_Mo_known_13 rfl ?_
      refine z_get hx k_Mo (t := 13) rfl 20 (by decide) a4_3 rfl d_Mo_known_14 ?_
      refine z_iload hx 0 d_Mo_known_17 rfl ?_
      refine z_ialdK hx 0 rfl (t := 25) rfl (k := k) (by omega) (by first | decide | omega) d_Mo_known_19 ?_
      refine z_iconst (v := 1) hx d_Mo_known_20 rfl ?_
      refine z_icmp_ne (tgt := 52) hx d_Mo_known_21 (by decide) (fun h1 => ?_) (fun h1 => ?_)
      · refine z_iload_n hx 1 d_Mo_known_52 rfl ?_
        refine z_istore_n hx [(3, .int (nI (cntI (fun q => decide (S.2.2 25 q = 1 ∧ S.2.2 26 q = s ∧ S.2.2 27 q = r)) k))), (4, .int (nI k)), (0, .ref (ad 13)), (1, .int s), (2, .int r)] d_Mo_known_53 rfl (zN hml (by decide)) rfl ?_
        refine z_iinc (v := nI (k + 1)) hx 1 [(4, .int (nI (k + 1))), (3, .int (nI (cntI (fun q => decide (S.2.2 25 q = 1 ∧ S.2.2 26 q = s ∧ S.2.2 27 q = r)) k))), (0, .ref (ad 13)), (1, .int s), (2, .int r)] d_Mo_known_54 rfl (nI_1 k) (zN hml (by decide)) rfl ?_
        refine z_goto (tgt := 5) hx d_Mo_known_57 (by decide) ?_
        have q9 := ih_L (k + 1) (by omega)
        rw [show cntI (fun q => decide (S.2.2 25 q = 1 ∧ S.2.2 26 q = s ∧ S.2.2 27 q = r)) (k + 1) = cntI (fun q => decide (S.2.2 25 q = 1 ∧ S.2.2 26 q = s ∧ S.2.2 27 q = r)) k from by rw [cntI]; simp [h1]] at q9
        exact z_lv [0, 1, 2, 3, 4] _ rfl q9
      · refine z_aload_n hx 2 d_Mo_known_24 rfl ?_
        refine z_get hx k_Mo (t := 13) rfl 21 (by decide) a4_4 rfl d_Mo_known_25 ?_
        refine z_iload hx 0 d_Mo_known_28 rfl ?_
        refine z_ialdK hx 0 rfl (t := 26) rfl (k := k) (by omega) (by first | decide | omega) d_Mo_known_30 ?_
        refine z_iload_n hx 3 d_Mo_known_31 rfl ?_
        refine z_icmp_ne (tgt := 52) hx d_Mo_known_32 (by decide) (fun h2 => ?_) (fun h2 => ?_)
        · refine z_iload_n hx 1 d_Mo_known_52 rfl ?_
          refine z_istore_n hx [(3, .int (nI (cntI (fun q => decide (S.2.2 25 q = 1 ∧ S.2.2 26 q = s ∧ S.2.2 27 q = r)) k))), (4, .int (nI k)), (0, .ref (ad 13)), (1, .int s), (2, .int r)] d_Mo_known_53 rfl (zN hml (by decide)) rfl ?_
          refine z_iinc (v := nI (k + 1)) hx 1 [(4, .int (nI (k + 1))), (3, .int (nI (cntI (fun q => decide (S.2.2 25 q = 1 ∧ S.2.2 26 q = s ∧ S.2.2 27 q = r)) k))), (0, .ref (ad 13)), (1, .int s), (2, .int r)] d_Mo_known_54 rfl (nI_1 k) (zN hml (by decide)) rfl ?_
          refine z_goto (tgt := 5) hx d_Mo_known_57 (by decide) ?_
          have q9 := ih_L (k + 1) (by omega)
          rw [show cntI (fun q => decide (S.2.2 25 q = 1 ∧ S.2.2 26 q = s ∧ S.2.2 27 q = r)) (k + 1) = cntI (fun q => decide (S.2.2 25 q = 1 ∧ S.2.2 26 q = s ∧ S.2.2 27 q = r)) k from by rw [cntI]; simp [h1, h2]] at q9
          exact z_lv [0, 1, 2, 3, 4] _ rfl q9
        · refine z_aload_n hx 2 d_Mo_known_35 rfl ?_
          refine z_get hx k_Mo (t := 13) rfl 22 (by decide) a4_5 rfl d_Mo_known_36 ?_
          refine z_iload hx 0 d_Mo_known_39 rfl ?_
          refine z_ialdK hx 0 rfl (t := 27) rfl (k := k) (by omega) (by first | decide | omega) d_Mo_known_41 ?_
          refine z_iload_n hx 4 d_Mo_known_42 rfl ?_
          refine z_icmp_ne (tgt := 52) hx d_Mo_known_43 (by decide) (fun h3 => ?_) (fun h3 => ?_)
          · refine z_iload_n hx 1 d_Mo_known_52 rfl ?_
            refine z_istore_n hx [(3, .int (nI (cntI (fun q => decide (S.2.2 25 q = 1 ∧ S.2.2 26 q = s ∧ S.2.2 27 q = r)) k))), (4, .int (nI k)), (0, .ref (ad 13)), (1, .int s), (2, .int r)] d_Mo_known_53 rfl (zN hml (by decide)) rfl ?_
            refine z_iinc (v := nI (k + 1)) hx 1 [(4, .int (nI (k + 1))), (3, .int (nI (cntI (fun q => decide (S.2.2 25 q = 1 ∧ S.2.2 26 q = s ∧ S.2.2 27 q = r)) k))), (0, .ref (ad 13)), (1, .int s), (2, .int r)] d_Mo_known_54 rfl (nI_1 k) (zN hml (by decide)) rfl ?_
            refine z_goto (tgt := 5) hx d_Mo_known_57 (by decide) ?_
            have q9 := ih_L (k + 1) (by omega)
            rw [show cntI (fun q => decide (S.2.2 25 q = 1 ∧ S.2.2 26 q = s ∧ S.2.2 27 q = r)) (k + 1) = cntI (fun q => decide (S.2.2 25 q = 1 ∧ S.2.2 26 q = s ∧ S.2.2 27 q = r)) k from by rw [cntI]; simp [h1, h2, h3]] at q9
            exact z_lv [0, 1, 2, 3, 4] _ rfl q9
          · refine z_iload_n hx 1 d_Mo_known_46 rfl ?_
            refine z_iconst (v := 1) hx d_Mo_known_47 rfl ?_
            refine z_iadd hx d_Mo_known_48 ?_
            refine z_top (b := nI (cntI (fun q => decide (S.2.2 25 q = 1 ∧ S.2.2 26 q = s ∧ S.2.2 27 q = r)) k + 1)) (nI_1 _) ?_
            refine z_goto (tgt := 53) hx d_Mo_known_49 (by decide) ?_
            refine z_istore_n hx [(3, .int (nI (cntI (fun q => decide (S.2.2 25 q = 1 ∧ S.2.2 26 q = s ∧ S.2.2 27 q = r)) k + 1))), (4, .int (nI k)), (0, .ref (ad 13)), (1, .int s), (2, .int r)] d_Mo_known_53 rfl (zN hml (by decide)) rfl ?_
            refine z_iinc (v := nI (k + 1)) hx 1 [(4, .int (nI (k + 1))), (3, .int (nI (cntI (fun q => decide (S.2.2 25 q = 1 ∧ S.2.2 26 q = s ∧ S.2.2 27 q = r)) k + 1))), (0, .ref (ad 13)), (1, .int s), (2, .int r)] d_Mo_known_54 rfl (nI_1 k) (zN hml (by decide)) rfl ?_
            refine z_goto (tgt := 5) hx d_Mo_known_57 (by decide) ?_
            have q9 := ih_L (k + 1) (by omega)
            rw [show cntI (fun q => decide (S.2.2 25 q = 1 ∧ S.2.2 26 q = s ∧ S.2.2 27 q = r)) (k + 1) = cntI (fun q => decide (S.2.2 25 q = 1 ∧ S.2.2 26 q = s ∧ S.2.2 27 q = r)) k + 1 from by rw [cntI]; simp [h1, h2, h3]] at q9
            exact z_lv [0, 1, 2, 3, 4] _ rfl q9
  show zV x ad (Lay K ad S) 0 0 [(0, .ref (ad 13)), (1, .int s), (2, .int r)] 0 []
  refine z_iconst (v := 0) hx d_Mo_known_0 rfl ?_
  refine z_top (b := nI (cntI (fun q => decide (S.2.2 25 q = 1 ∧ S.2.2 26 q = s ∧ S.2.2 27 q = r)) 0)) rfl ?_
  refine z_istore_n hx [(3, .int (nI (cntI (fun q => decide (S.2.2 25 q = 1 ∧ S.2.2 26 q = s ∧ S.2.2 27 q = r)) 0))), (0, .ref (ad 13)), (1, .int s), (2, .int r)] d_Mo_known_1 rfl (zN hml (by decide)) rfl ?_
  refine z_iconst (v := 0) hx d_Mo_known_2 rfl ?_
  refine z_top (b := nI 0) rfl ?_
  refine z_istore hx [(4, .int (nI 0)), (3, .int (nI (cntI (fun q => decide (S.2.2 25 q = 1 ∧ S.2.2 26 q = s ∧ S.2.2 27 q = r)) 0))), (0, .ref (ad 13)), (1, .int s), (2, .int r)] d_Mo_known_3 (zN hml (by decide)) rfl ?_
  exact z_lv [0, 1, 2, 3, 4] _ rfl (L 1000 0 (by omega))
set_option maxRecDepth 20000 in
theorem c_Mo_leastFree {l : Launch} {D : va_G} {K : Nat → ClassId} {ad : Nat → Nat} {S : zSt} {s r : Int32} : zC l TB D zcls (ztyl K) y_Mo_leastFree (.code y_Mo_leastFree b_Mo_leastFree 4 (some FieldType.int)) (rmk 0 0) [.ref (ad 13), .int s, .int r] ad (Lay K ad S) (zP K ad (some (.int (if nxt (fun q => decide (S.2.2 22 q = s ∧ S.2.2 23 q = r ∧ S.2.2 24 q = 0)) 1000 0 = 1000 then -1 else nI (nxt (fun q => decide (S.2.2 22 q = s ∧ S.2.2 23 q = r ∧ S.2.2 24 q = 0)) 1000 0)))) S) := by
  refine zC.of (by decide +kernel) (Nat.le_of_ble_eq_true rfl) ?_
  intro x hx hr hml hnm hrm hq hNH
  have L : ∀ (m_L k : Nat), k + m_L = 1000 → nxt (fun q => decide (S.2.2 22 q = s ∧ S.2.2 23 q = r ∧ S.2.2 24 q = 0)) m_L k = nxt (fun q => decide (S.2.2 22 q = s ∧ S.2.2 23 q = r ∧ S.2.2 24 q = 0)) 1000 0 → zV x ad (Lay K ad S) 0 0 [(3, .int (nI k)), (0, .ref (ad 13)), (1, .int s), (2, .int r)] 2 [] := by
    intro m_L
    induction m_L with
    | zero =>
      intro k he_L hV
      have e_L : k = 1000 := by omega
      refine z_iload_n hx 0 d_Mo_leastFree_2 rfl ?_
      refine z_sipush (v := 1000) hx d_Mo_leastFree_3 rfl ?_
      refine z_icmp_ge (tgt := 44) hx d_Mo_leastFree_6 (by decide) (fun _ => ?_) (fun h => absurd (nI_leL 1000 rfl e_L (by decide)) h)
      refine z_iload_n hx 0 d_Mo_leastFree_44 rfl ?_
      refine z_sipush (v := 1000) hx d_Mo_leastFree_45 rfl ?_
      refine z_icmp_ge (tgt := 55) hx d_Mo_leastFree_48 (by decide) (fun _ => ?_) (fun h => absurd (nI_leL 1000 rfl e_L (by decide)) h)
      refine z_iconst (v := (-1)) hx d_Mo_leastFree_55 rfl ?_
      exact z_iret hx hr rfl hq (Nat.le_refl _) (Nat.le_refl _) d_Mo_leastFree_56 ⟨by rw [if_pos (by rw [← hV]; rfl)], rfl, rfl⟩
    | succ m_L ih_L =>
      intro k he_L hV
      have l_L : k < 1000 := by omega
      refine z_iload_n hx 0 d_Mo_leastFree_2 rfl ?_
      refine z_sipush (v := 1000) hx d_Mo_leastFree_3 rfl ?_
      refine z_icmp_ge (tgt := 44) hx d_Mo_leastFree_6 (by decide) (fun h => absurd h (nI_nleL 1000 rfl l_L (by decide))) (fun _ => ?_)
      refine z_aload_n hx 1 d_Mo_leastFree_9 rfl ?_
      refine z_get hx k_Mo (t := 13) rfl 17 (by decide) a4_0 rfl d_Mo_leastFree_10 ?_
      refine z_iload_n hx 0 d_Mo_leastFree_13 rfl ?_
      refine z_ialdK hx 0 rfl (t := 22) rfl (k := k) (by omega) (by first | decide | omega) d_Mo_leastFree_14 ?_
      refine z_iload_n hx 2 d_Mo_leastFree_15 rfl ?_
      refine z_icmp_ne (tgt := 38) hx d_Mo_leastFree_16 (by decide) (fun h1 => ?_) (fun h1 => ?_)
      · refine z_iinc (v := nI (k + 1)) hx 0 [(3, .int (nI (k + 1))), (0, .ref (ad 13)), (1, .int s), (2, .int r)] d_Mo_leastFree_38 rfl (nI_1 k) (zN hml (by decide)) rfl ?_
        refine z_goto (tgt := 2) hx d_Mo_leastFree_41 (by decide) ?_
        exact z_lv [0, 1, 2, 3] _ rfl (ih_L (k + 1) (by omega) (by rw [← hV, nxt, if_neg (by simp [h1])]))
      · refine z_aload_n hx 1 d_Mo_leastFree_19 rfl ?_
        refine z_get hx k_Mo (t := 13) rfl 18 (by decide) a4_1 rfl d_Mo_leastFree_20 ?_
        refine z_iload_n hx 0 d_Mo_leastFree_23 rfl ?_
        refine z_ialdK hx 0 rfl (t := 23) rfl (k := k) (by omega) (by first | decide | omega) d_Mo_leastFree_24 ?_
        refine z_iload_n hx 3 d_Mo_leastFree_25 rfl ?_
        refine z_icmp_ne (tgt := 38) hx d_Mo_leastFree_26 (by decide) (fun h2 => ?_) (fun h2 => ?_)
        · refine z_iinc (v := nI (k + 1)) hx 0 [(3, .int (nI (k + 1))), (0, .ref (ad 13)), (1, .int s), (2, .int r)] d_Mo_leastFree_38 rfl (nI_1 k) (zN hml (by decide)) rfl ?_
          refine z_goto (tgt := 2) hx d_Mo_leastFree_41 (by decide) ?_
          exact z_lv [0, 1, 2, 3] _ rfl (ih_L (k + 1) (by omega) (by rw [← hV, nxt, if_neg (by simp [h1, h2])]))
        · refine z_aload_n hx 1 d_Mo_leastFree_29 rfl ?_
          refine z_get hx k_Mo (t := 13) rfl 19 (by decide) a4_2 rfl d_Mo_leastFree_30 ?_
          refine z_iload_n hx 0 d_Mo_leastFree_33 rfl ?_
          refine z_ialdK hx 0 rfl (t := 24) rfl (k := k) (by omega) (by first | decide | omega) d_Mo_leastFree_34 ?_
          refine z_if_eq (tgt := 44) hx d_Mo_leastFree_35 (by decide) (fun h3 => ?_) (fun h3 => ?_)
          · refine z_iload_n hx 0 d_Mo_leastFree_44 rfl ?_
            refine z_sipush (v := 1000) hx d_Mo_leastFree_45 rfl ?_
            refine z_icmp_ge (tgt := 55) hx d_Mo_leastFree_48 (by decide) (fun h => absurd h (nI_nleL 1000 rfl l_L (by decide))) (fun _ => ?_)
            refine z_iload_n hx 0 d_Mo_leastFree_51 rfl ?_
            refine z_goto (tgt := 56) hx d_Mo_leastFree_52 (by decide) ?_
            have e9 : nxt (fun q => decide (S.2.2 22 q = s ∧ S.2.2 23 q = r ∧ S.2.2 24 q = 0)) 1000 0 = k := by rw [← hV, nxt, if_pos (by simp [h1, h2, h3])]
            exact z_iret hx hr rfl hq (Nat.le_refl _) (Nat.le_refl _) d_Mo_leastFree_56 ⟨by rw [if_neg (by rw [e9]; omega), e9], rfl, rfl⟩
          · refine z_iinc (v := nI (k + 1)) hx 0 [(3, .int (nI (k + 1))), (0, .ref (ad 13)), (1, .int s), (2, .int r)] d_Mo_leastFree_38 rfl (nI_1 k) (zN hml (by decide)) rfl ?_
            refine z_goto (tgt := 2) hx d_Mo_leastFree_41 (by decide) ?_
            exact z_lv [0, 1, 2, 3] _ rfl (ih_L (k + 1) (by omega) (by rw [← hV, nxt, if_neg (by simp [h1, h2, h3])]))
  show zV x ad (Lay K ad S) 0 0 [(0, .ref (ad 13)), (1, .int s), (2, .int r)] 0 []
  refine z_iconst (v := 0) hx d_Mo_leastFree_0 rfl ?_
  refine z_top (b := nI 0) rfl ?_
  refine z_istore_n hx [(3, .int (nI 0)), (0, .ref (ad 13)), (1, .int s), (2, .int r)] d_Mo_leastFree_1 rfl (zN hml (by decide)) rfl ?_
  exact z_lv [0, 1, 2, 3] _ rfl (L 1000 0 (by omega) rfl)
def ksF (v : Int32) : Nat → Int32
  | 0 => 0
  | h + 1 => ksF v h + ((v >>> (nI h &&& 31)) &&& 1)
set_option maxRecDepth 20000 in
theorem c_Mo_keysOf {l : Launch} {D : va_G} {K : Nat → ClassId} {ad : Nat → Nat} {S : zSt} {p : Nat} (hp : p < 1000) : zC l TB D zcls (ztyl K) y_Mo_keysOf (.code y_Mo_keysOf b_Mo_keysOf 4 (some FieldType.int)) (rmk 0 0) [.ref (ad 13), .int (nI p)] ad (Lay K ad S) (zP K ad (some (.int (ksF (S.2.2 29 p) 5))) S) := by
  refine zC.of (by decide +kernel) (Nat.le_of_ble_eq_true rfl) ?_
  intro x hx hr hml hnm hrm hq hNH
  have L : ∀ (m_L k : Nat), k + m_L = 5 → zV x ad (Lay K ad S) 0 0 [(3, .int (nI k)), (2, .int (ksF (S.2.2 29 p) k)), (0, .ref (ad 13)), (1, .int (nI p))] 4 [] := by
    intro m_L
    induction m_L with
    | zero =>
      intro k he_L
      have e_L : k = 5 := by omega
      refine z_iload_n hx 0 d_Mo_keysOf_4 rfl ?_
      refine z_iconst (v := 5) hx d_Mo_keysOf_5 rfl ?_
      refine z_icmp_ge (tgt := 28) hx d_Mo_keysOf_6 (by decide) (fun _ => ?_) (fun h => absurd (nI_leL 5 rfl e_L (by decide)) h)
      refine z_iload_n hx 1 d_Mo_keysOf_28 rfl ?_
      subst e_L
      exact z_iret hx hr rfl hq (Nat.le_refl _) (Nat.le_refl _) d_Mo_keysOf_29 ⟨rfl, rfl, rfl⟩
    | succ m_L ih_L =>
      intro k he_L
      have l_L : k < 5 := by omega
      refine z_iload_n hx 0 d_Mo_keysOf_4 rfl ?_
      refine z_iconst (v := 5) hx d_Mo_keysOf_5 rfl ?_
      refine z_icmp_ge (tgt := 28) hx d_Mo_keysOf_6 (by decide) (fun h => absurd h (nI_nleL 5 rfl l_L (by decide))) (fun _ => ?_)
      refine z_iload_n hx 1 d_Mo_keysOf_9 rfl ?_
      refine z_aload_n hx 2 d_Mo_keysOf_10 rfl ?_
      refine z_get hx k_Mo (t := 13) rfl 24 (by decide) a4_7 rfl d_Mo_keysOf_11 ?_
      refine z_iload_n hx 3 d_Mo_keysOf_14 rfl ?_
      refine z_ialdK hx 0 rfl (t := 29) rfl (k := p) (by omega) (by first | decide | omega) d_Mo_keysOf_15 ?_
      refine z_iload_n hx 0 d_Mo_keysOf_16 rfl ?_
      refine z_ishr hx d_Mo_keysOf_17 ?_
      refine z_iconst (v := 1) hx d_Mo_keysOf_18 rfl ?_
      refine z_iand hx d_Mo_keysOf_19 ?_
      refine z_iadd hx d_Mo_keysOf_20 ?_
      refine z_top (b := ksF (S.2.2 29 p) (k + 1)) rfl ?_
      refine z_istore_n hx [(2, .int (ksF (S.2.2 29 p) (k + 1))), (3, .int (nI k)), (0, .ref (ad 13)), (1, .int (nI p))] d_Mo_keysOf_21 rfl (zN hml (by decide)) rfl ?_
      refine z_iinc (v := nI (k + 1)) hx 1 [(3, .int (nI (k + 1))), (2, .int (ksF (S.2.2 29 p) (k + 1))), (0, .ref (ad 13)), (1, .int (nI p))] d_Mo_keysOf_22 rfl (nI_1 k) (zN hml (by decide)) rfl ?_
      refine z_goto (tgt := 4) hx d_Mo_keysOf_25 (by decide) ?_
      exact z_lv [0, 1, 2, 3] _ rfl (ih_L (k + 1) (by omega))
  show zV x ad (Lay K ad S) 0 0 [(0, .ref (ad 13)), (1, .int (nI p))] 0 []
  refine z_iconst (v := 0) hx d_Mo_keysOf_0 rfl ?_
  refine z_top (b := ksF (S.2.2 29 p) 0) rfl ?_
  refine z_istore_n hx [(2, .int (ksF (S.2.2 29 p) 0)), (0, .ref (ad 13)), (1, .int (nI p))] d_Mo_keysOf_1 rfl (zN hml (by decide)) rfl ?_
  refine z_iconst (v := 0) hx d_Mo_keysOf_2 rfl ?_
  refine z_top (b := nI 0) rfl ?_
  refine z_istore_n hx [(3, .int (nI 0)), (2, .int (ksF (S.2.2 29 p) 0)), (0, .ref (ad 13)), (1, .int (nI p))] d_Mo_keysOf_3 rfl (zN hml (by decide)) rfl ?_
  exact z_lv [0, 1, 2, 3] _ rfl (L 5 0 (by omega))
def gvM (S : zSt) (p : Nat) (s a : Int32) (k : Nat) (w : Int32) : zSt := stM (stM (stM (stM (stM S 25 p w) 26 p s) 27 p a) 28 p (nI k)) 24 k 2
set_option maxRecDepth 20000 in
theorem c_Mo_give_k {l : Launch} {D : va_G} {K : Nat → ClassId} {ad : Nat → Nat} {S : zSt} {i p k : Nat} {s a : Int32} (hi : i < 10) (hp : p < 100) (hk : k < 1000) : zC l TB D zcls (ztyl K) y_Mo_give (.code y_Mo_give b_Mo_give 8 (none : Option FieldType)) (rmk 0 0) [.ref (ad 13), .int (nI i), .int s, .int (nI p), .int a, .int (nI k), .int 1] ad (Lay K ad S) (zP K ad none (gvM S (100 * i + p) s a k 1)) := by
  refine zC.of (by decide +kernel) (Nat.le_of_ble_eq_true rfl) ?_
  intro x hx hr hml hnm hrm hq hNH
  show zV x ad (Lay K ad S) 0 0 [(0, .ref (ad 13)), (1, .int (nI i)), (2, .int s), (3, .int (nI p)), (4, .int a), (5, .int (nI k)), (6, .int 1)] 0 []
  refine z_bipush (v := 100) hx d_Mo_give_0 rfl ?_
  refine z_iload_n hx 1 d_Mo_give_2 rfl ?_
  refine z_imul hx d_Mo_give_3 ?_
  refine z_top (b := nI (100 * i)) (pk_mul 100 i) ?_
  refine z_iload_n hx 3 d_Mo_give_4 rfl ?_
  refine z_iadd hx d_Mo_give_5 ?_
  refine z_top (b := nI (100 * i + p)) (nI_add _ _) ?_
  refine z_istore hx [(7, .int (nI (100 * i + p))), (0, .ref (ad 13)), (1, .int (nI i)), (2, .int s), (3, .int (nI p)), (4, .int a), (5, .int (nI k)), (6, .int 1)] d_Mo_give_6 (zN hml (by decide)) rfl ?_
  refine z_aload_n hx 1 d_Mo_give_8 rfl ?_
  refine z_get hx k_Mo (t := 13) rfl 20 (by decide) a4_3 rfl d_Mo_give_9 ?_
  refine z_iload hx 0 d_Mo_give_12 rfl ?_
  refine z_iload hx 7 d_Mo_give_14 rfl ?_
  refine z_if_eq (tgt := 23) hx d_Mo_give_16 (by decide) (fun h => absurd h (by decide)) (fun _ => ?_)
  refine z_iconst (v := 1) hx d_Mo_give_19 rfl ?_
  refine z_goto (tgt := 24) hx d_Mo_give_20 (by decide) ?_
  refine z_iastK hx 0 rfl (t := 25) rfl (k := (100 * i + p)) (by omega) (by first | decide | omega)  d_Mo_give_24 (ce1 := Lay K ad (stM S 25 ((100 * i + p)) 1)) (Lay_put (by decide) rfl) ?_
  refine z_aload_n hx 1 d_Mo_give_25 rfl ?_
  refine z_get hx k_Mo (t := 13) rfl 21 (by decide) a4_4 rfl d_Mo_give_26 ?_
  refine z_iload hx 0 d_Mo_give_29 rfl ?_
  refine z_iload_n hx 3 d_Mo_give_31 rfl ?_
  refine z_iastK hx 0 rfl (t := 26) rfl (k := (100 * i + p)) (by omega) (by first | decide | omega)  d_Mo_give_32 (ce1 := Lay K ad (stM (stM S 25 ((100 * i + p)) 1) 26 ((100 * i + p)) s)) (Lay_put (by decide) rfl) ?_
  refine z_aload_n hx 1 d_Mo_give_33 rfl ?_
  refine z_get hx k_Mo (t := 13) rfl 22 (by decide) a4_5 rfl d_Mo_give_34 ?_
  refine z_iload hx 0 d_Mo_give_37 rfl ?_
  refine z_iload hx 5 d_Mo_give_39 rfl ?_
  refine z_iastK hx 0 rfl (t := 27) rfl (k := (100 * i + p)) (by omega) (by first | decide | omega)  d_Mo_give_41 (ce1 := Lay K ad (stM (stM (stM S 25 ((100 * i + p)) 1) 26 ((100 * i + p)) s) 27 ((100 * i + p)) a)) (Lay_put (by decide) rfl) ?_
  refine z_aload_n hx 1 d_Mo_give_42 rfl ?_
  refine z_get hx k_Mo (t := 13) rfl 23 (by decide) a4_6 rfl d_Mo_give_43 ?_
  refine z_iload hx 0 d_Mo_give_46 rfl ?_
  refine z_iload hx 6 d_Mo_give_48 rfl ?_
  refine z_iastK hx 0 rfl (t := 28) rfl (k := (100 * i + p)) (by omega) (by first | decide | omega)  d_Mo_give_50 (ce1 := Lay K ad (stM (stM (stM (stM S 25 ((100 * i + p)) 1) 26 ((100 * i + p)) s) 27 ((100 * i + p)) a) 28 ((100 * i + p)) (nI k))) (Lay_put (by decide) rfl) ?_
  refine z_aload_n hx 1 d_Mo_give_51 rfl ?_
  refine z_get hx k_Mo (t := 13) rfl 19 (by decide) a4_2 rfl d_Mo_give_52 ?_
  refine z_iload hx 6 d_Mo_give_55 rfl ?_
  refine z_iconst (v := 2) hx d_Mo_give_57 rfl ?_
  refine z_iastK hx 0 rfl (t := 24) rfl (k := k) (by omega) (by first | decide | omega)  d_Mo_give_58 (ce1 := Lay K ad (stM (stM (stM (stM (stM S 25 ((100 * i + p)) 1) 26 ((100 * i + p)) s) 27 ((100 * i + p)) a) 28 ((100 * i + p)) (nI k)) 24 k 2)) (Lay_put (by decide) rfl) ?_
  exact z_vret hx hr hq (Nat.le_refl _) (Nat.le_refl _) d_Mo_give_59 ⟨rfl, rfl, rfl⟩
set_option maxRecDepth 20000 in
theorem c_Mo_give_u {l : Launch} {D : va_G} {K : Nat → ClassId} {ad : Nat → Nat} {S : zSt} {i p k : Nat} {s a : Int32} (hi : i < 10) (hp : p < 100) (hk : k < 1000) : zC l TB D zcls (ztyl K) y_Mo_give (.code y_Mo_give b_Mo_give 8 (none : Option FieldType)) (rmk 0 0) [.ref (ad 13), .int (nI i), .int s, .int (nI p), .int a, .int (nI k), .int 0] ad (Lay K ad S) (zP K ad none (gvM S (100 * i + p) s a k 2)) := by
  refine zC.of (by decide +kernel) (Nat.le_of_ble_eq_true rfl) ?_
  intro x hx hr hml hnm hrm hq hNH
  show zV x ad (Lay K ad S) 0 0 [(0, .ref (ad 13)), (1, .int (nI i)), (2, .int s), (3, .int (nI p)), (4, .int a), (5, .int (nI k)), (6, .int 0)] 0 []
  refine z_bipush (v := 100) hx d_Mo_give_0 rfl ?_
  refine z_iload_n hx 1 d_Mo_give_2 rfl ?_
  refine z_imul hx d_Mo_give_3 ?_
  refine z_top (b := nI (100 * i)) (pk_mul 100 i) ?_
  refine z_iload_n hx 3 d_Mo_give_4 rfl ?_
  refine z_iadd hx d_Mo_give_5 ?_
  refine z_top (b := nI (100 * i + p)) (nI_add _ _) ?_
  refine z_istore hx [(7, .int (nI (100 * i + p))), (0, .ref (ad 13)), (1, .int (nI i)), (2, .int s), (3, .int (nI p)), (4, .int a), (5, .int (nI k)), (6, .int 0)] d_Mo_give_6 (zN hml (by decide)) rfl ?_
  refine z_aload_n hx 1 d_Mo_give_8 rfl ?_
  refine z_get hx k_Mo (t := 13) rfl 20 (by decide) a4_3 rfl d_Mo_give_9 ?_
  refine z_iload hx 0 d_Mo_give_12 rfl ?_
  refine z_iload hx 7 d_Mo_give_14 rfl ?_
  refine z_if_eq (tgt := 23) hx d_Mo_give_16 (by decide) (fun _ => ?_) (fun h => absurd (by decide) h)
  refine z_iconst (v := 2) hx d_Mo_give_23 rfl ?_
  refine z_iastK hx 0 rfl (t := 25) rfl (k := (100 * i + p)) (by omega) (by first | decide | omega)  d_Mo_give_24 (ce1 := Lay K ad (stM S 25 ((100 * i + p)) 2)) (Lay_put (by decide) rfl) ?_
  refine z_aload_n hx 1 d_Mo_give_25 rfl ?_
  refine z_get hx k_Mo (t := 13) rfl 21 (by decide) a4_4 rfl d_Mo_give_26 ?_
  refine z_iload hx 0 d_Mo_give_29 rfl ?_
  refine z_iload_n hx 3 d_Mo_give_31 rfl ?_
  refine z_iastK hx 0 rfl (t := 26) rfl (k := (100 * i + p)) (by omega) (by first | decide | omega)  d_Mo_give_32 (ce1 := Lay K ad (stM (stM S 25 ((100 * i + p)) 2) 26 ((100 * i + p)) s)) (Lay_put (by decide) rfl) ?_
  refine z_aload_n hx 1 d_Mo_give_33 rfl ?_
  refine z_get hx k_Mo (t := 13) rfl 22 (by decide) a4_5 rfl d_Mo_give_34 ?_
  refine z_iload hx 0 d_Mo_give_37 rfl ?_
  refine z_iload hx 5 d_Mo_give_39 rfl ?_
  refine z_iastK hx 0 rfl (t := 27) rfl (k := (100 * i + p)) (by omega) (by first | decide | omega)  d_Mo_give_41 (ce1 := Lay K ad (stM (stM (stM S 25 ((100 * i + p)) 2) 26 ((100 * i + p)) s) 27 ((100 * i + p)) a)) (Lay_put (by decide) rfl) ?_
  refine z_aload_n hx 1 d_Mo_give_42 rfl ?_
  refine z_get hx k_Mo (t := 13) rfl 23 (by decide) a4_6 rfl d_Mo_give_43 ?_
  refine z_iload hx 0 d_Mo_give_46 rfl ?_
  refine z_iload hx 6 d_Mo_give_48 rfl ?_
  refine z_iastK hx 0 rfl (t := 28) rfl (k := (100 * i + p)) (by omega) (by first | decide | omega)  d_Mo_give_50 (ce1 := Lay K ad (stM (stM (stM (stM S 25 ((100 * i + p)) 2) 26 ((100 * i + p)) s) 27 ((100 * i + p)) a) 28 ((100 * i + p)) (nI k))) (Lay_put (by decide) rfl) ?_
  refine z_aload_n hx 1 d_Mo_give_51 rfl ?_
  refine z_get hx k_Mo (t := 13) rfl 19 (by decide) a4_2 rfl d_Mo_give_52 ?_
  refine z_iload hx 6 d_Mo_give_55 rfl ?_
  refine z_iconst (v := 2) hx d_Mo_give_57 rfl ?_
  refine z_iastK hx 0 rfl (t := 24) rfl (k := k) (by omega) (by first | decide | omega)  d_Mo_give_58 (ce1 := Lay K ad (stM (stM (stM (stM (stM S 25 ((100 * i + p)) 2) 26 ((100 * i + p)) s) 27 ((100 * i + p)) a) 28 ((100 * i + p)) (nI k)) 24 k 2)) (Lay_put (by decide) rfl) ?_
  exact z_vret hx hr hq (Nat.le_refl _) (Nat.le_refl _) d_Mo_give_59 ⟨rfl, rfl, rfl⟩
