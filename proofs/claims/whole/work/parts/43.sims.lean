theorem RP_Z {g : Gh} {S : zSt} (r : RP g S) : g.Z ≤ 24 := by
  rcases r.2.2.2.2.2 with h | h
  · omega
  · have := h.2.2.2.1; omega
theorem i_nat {v : Int32} (h : ¬ v < 0) : ∃ q, q < 2 ^ 31 ∧ v = nI q := nI_of h
theorem i_out3 {v : Int32} (h : v < 0 ∨ ¬ v < 3) : v.toInt < 0 ∨ 2 < v.toInt := by
  rcases h with h | h
  · exact Or.inl (Int32.lt_iff_toInt_lt.mp h)
  · have := Int32.le_iff_toInt_le.mp (Int32.not_lt.mp h)
    have h0 : (3 : Int32).toInt = 3 := rfl
    omega
/-! each call, both sides: what reads alone and the journal -/
set_option maxRecDepth 20000 in
theorem sim_mount {l : Launch} (htr : l.stackTraces = false) {D : va_G} {K : Nat → ClassId} {ad : Nat → Nat} {S : zSt} {g : Gh} {c : Nat} (h : Rel g c S) (hc : c < 512) : SimW l D K ad S c y_La_mount (.codeWith y_La_mount b_La_mount 3 (some .int) [(0, 8, 11, 15)]) [.ref (ad 12)] y_Mo_mount (.code y_Mo_mount b_Mo_mount 1 (some FieldType.int)) [] := by
  by_cases hd : S.2.2 3 0 = 0
  · exact sim_thr h hc (by decide) (wt_mount_1 (x_TD_mount htr hd) (by decide) (by decide)) (c_Mo_mount_r (h.j0.symm.trans hd)) (by decide) (by decide)
  · have hW := wo_mount (l := l) (D := D) (K := K) (ad := ad) (S := S) (c_TD_mount hd) (by decide) (by decide) zP_hp
    exact sim_okP hW (m := (_, _)) (c_Mo_mount (by rw [stL_2, rd_n (by decide)]; exact fun q => hd (h.j0.trans q))) (by decide) (by decide) (pu_mount h hc)
set_option maxRecDepth 20000 in
theorem sim_opn {l : Launch} (htr : l.stackTraces = false) {D : va_G} {K : Nat → ClassId} {ad : Nat → Nat} {S : zSt} {g : Gh} {c : Nat} (h : Rel g c S) (hc : c < 512) {v0 : Int32} {v1 : Int32} : SimW l D K ad S c y_La_open (.codeWith y_La_open b_La_open 5 (some .int) [(0, 10, 13, 21)]) [.int v0, .int v1, .ref (ad 12)] y_Mo_open (.code y_Mo_open b_Mo_open 3 (some FieldType.int)) [.int v0, .int v1] := by
  rcases hol_dec v0 with e0 | ⟨p, hp, rfl⟩
  · exact sim_thr h hc (by decide) (wt_open_1 (x_TD_open_0 htr e0) (by decide) (by decide)) (c_Mo_open_r0 e0) (by decide) (by decide)
  rcases hol_dec v1 with e1 | ⟨q, hq, rfl⟩
  · exact sim_thr h hc (by decide) (wt_open_1 (x_TD_open_1 htr hp e1) (by decide) (by decide)) (c_Mo_open_r1 hp e1) (by decide) (by decide)
  · have hW := wo_open (l := l) (D := D) (K := K) (ad := ad) (S := S) (c_TD_open hp hq) (by decide) (by decide) zP_hp
    exact sim_okP hW (c_Mo_open hp hq) (by decide) (by decide) (pu_opn h hc)
set_option maxRecDepth 20000 in
theorem sim_blocks {l : Launch} (htr : l.stackTraces = false) {D : va_G} {K : Nat → ClassId} {ad : Nat → Nat} {S : zSt} {g : Gh} {c : Nat} (h : Rel g c S) (hc : c < 512) {v0 : Int32} : SimW l D K ad S c y_La_blocks (.codeWith y_La_blocks b_La_blocks 4 (some .int) [(0, 9, 12, 21)]) [.int v0, .ref (ad 12)] y_Mo_blocks (.code y_Mo_blocks b_Mo_blocks 2 (some FieldType.int)) [.int v0] := by
  rcases str_dec v0 with ⟨e0, e0'⟩ | ⟨s, hs, rfl⟩
  · exact sim_thr h hc (by decide) (wt_blocks_1 (x_TD_blocks_0 htr e0) (by decide) (by decide)) (c_Mo_blocks_r e0') (by decide) (by decide)
  · have hW := wo_blocks (l := l) (D := D) (K := K) (ad := ad) (S := S) (c_TD_blocks hs) (by decide) (by decide) zP_hp
    exact sim_okP hW (m := (_, _)) (c_Mo_blocks hs) (by decide) (by decide) (pu_blocks h hc hs)
set_option maxRecDepth 20000 in
theorem sim_count {l : Launch} (htr : l.stackTraces = false) {D : va_G} {K : Nat → ClassId} {ad : Nat → Nat} {S : zSt} {g : Gh} {c : Nat} (h : Rel g c S) (hc : c < 512) {v0 : Int32} {v1 : Int32} : SimW l D K ad S c y_La_count (.codeWith y_La_count b_La_count 5 (some .int) [(0, 10, 13, 21), (0, 10, 17, 15)]) [.int v0, .int v1, .ref (ad 12)] y_Mo_count (.code y_Mo_count b_Mo_count 3 (some FieldType.int)) [.int v0, .int v1] := by
  rcases str_dec v0 with ⟨e0, e0'⟩ | ⟨s, hs, rfl⟩
  · exact sim_thr h hc (by decide) (wt_count_1 (x_TD_count_0 htr e0) (by decide) (by decide)) (c_Mo_count_r0 e0') (by decide) (by decide)
  rcases arm_dec h.pl v1 with ⟨e1, e1'⟩ | ⟨a, ha, rfl, hav, hav'⟩
  · exact sim_thr h hc (by decide) (wt_count_1 (x_TD_count_1 htr hs e1) (by decide) (by decide)) (c_Mo_count_r1 hs e1') (by decide) (by decide)
  rcases plan_dec h.pl with ⟨-, e2, e2'⟩ | ⟨-, e2, e2', -⟩
  · exact sim_thr h hc (by decide) (wt_count_2 (x_TD_count_plan htr hs ha hav e2) (by decide) (by decide)) (c_Mo_count_plan hs hav' e2') (by decide) (by decide)
  · have e3 : (dCount S s a).2 = S := by unfold dCount; split <;> rfl
    have hW := wo_count (l := l) (D := D) (K := K) (ad := ad) (S := S) (c_TD_count hs ha hav e2) (by decide) (by decide) zP_hp
    exact sim_okP hW (c_Mo_count hs (by rw [e3]; exact hav') (by rw [e3]; exact e2')) (by decide) (by decide) (pu_count h hc hs ha)
set_option maxRecDepth 20000 in
theorem sim_spread {l : Launch} (htr : l.stackTraces = false) {D : va_G} {K : Nat → ClassId} {ad : Nat → Nat} {S : zSt} {g : Gh} {c : Nat} (h : Rel g c S) (hc : c < 512) {v0 : Int32} : SimW l D K ad S c y_La_spread (.codeWith y_La_spread b_La_spread 4 (some .int) [(0, 9, 12, 21), (0, 9, 15, 15)]) [.int v0, .ref (ad 12)] y_Mo_spread (.code y_Mo_spread b_Mo_spread 6 (some FieldType.int)) [.int v0] := by
  rcases str_dec v0 with ⟨e0, e0'⟩ | ⟨s, hs, rfl⟩
  · exact sim_thr h hc (by decide) (wt_spread_1 (x_TD_spread_0 htr e0) (by decide) (by decide)) (c_Mo_spread_r e0') (by decide) (by decide)
  have hA := RP_A h.pl
  rcases plan_dec h.pl with ⟨-, e2, e2'⟩ | ⟨e1, e2, e2', -⟩
  · exact sim_thr h hc (by decide) (wt_spread_2 (x_TD_spread_plan htr hs e2) (by decide) (by decide)) (c_Mo_spread_plan hs e2') (by decide) (by decide)
  · have e3 : (dSpread S s g.A).2 = S := by unfold dSpread; split <;> rfl
    have hW := wo_spread (l := l) (D := D) (K := K) (ad := ad) (S := S) (c_TD_spread hs e2 (Rel_hg h hs e2) h.pl.1 hA.1) (by decide) (by decide) zP_hp
    exact sim_okP hW (c_Mo_spread hs (by rw [e3]; exact h.pl.2.1) hA.1 (by omega)) (by decide) (by decide) (pu_spread h hc hs)
set_option maxRecDepth 20000 in
theorem sim_entry {l : Launch} (htr : l.stackTraces = false) {D : va_G} {K : Nat → ClassId} {ad : Nat → Nat} {S : zSt} {g : Gh} {c : Nat} (h : Rel g c S) (hc : c < 512) {v0 : Int32} {v1 : Int32} : SimW l D K ad S c y_La_entry (.codeWith y_La_entry b_La_entry 5 (some .int) [(0, 10, 13, 21)]) [.int v0, .int v1, .ref (ad 12)] y_Mo_entry (.code y_Mo_entry b_Mo_entry 5 (some FieldType.int)) [.int v0, .int v1] := by
  rcases str_dec v0 with ⟨e0, e0'⟩ | ⟨s, hs, rfl⟩
  · exact sim_thr h hc (by decide) (wt_entry_1 (x_TD_entry_0 htr e0) (by decide) (by decide)) (c_Mo_entry_r e0') (by decide) (by decide)
  have hS := h.bk.2.2.2.2.2 s hs
  have hT := h.bk.2.1
  have hr : rkA g.bs s g.T ≤ g.T := cntI_le
  have hZ : g.Z ≤ 24 := RP_Z h.pl
  have hb : g.bt s ≤ 513 := by
    rcases hS.2.2.2.2.2.2.1 with q | q
    · have := q.1; omega
    · have := q.1; omega
  have m1 : rkA g.bs s g.T * g.Z ≤ 512 * 24 := Nat.mul_le_mul (by omega) hZ
  have m2 : g.bt s * g.Z ≤ 513 * 24 := Nat.mul_le_mul hb hZ
  by_cases ho : S.2.2 0 7 = 0
  · have hW := wo_entry (l := l) (D := D) (K := K) (ad := ad) (S := S) (c_TD_entry_shut (v1 := v1) hs ho) (by decide) (by decide) zP_hp
    exact sim_okP hW (m := (_, _)) (c_Mo_entry_shut hs (h.o7.symm.trans ho)) (by decide) (by decide) (Pu_rd h hc)
  have ho' : ¬ S.2.2 13 4 = 0 := fun q => ho (h.o7.trans q)
  by_cases hg : S.1 (40 + s) = 1
  · by_cases hv : v1 < 0
    · have hW := wo_entry (l := l) (D := D) (K := K) (ad := ad) (S := S) (c_TD_entry_neg hs hg ho hS.2.1 h.pl.2.2.1 (by omega) hv) (by decide) (by decide) zP_hp
      exact sim_okP hW (m := (_, _)) (c_Mo_entry_neg hs ho' hv) (by decide) (by decide) (Pu_rd h hc)
    · obtain ⟨q, hq, rfl⟩ := i_nat hv
      have hW := wo_entry (l := l) (D := D) (K := K) (ad := ad) (S := S) (c_TD_entry hs hg ho hS.2.2.2.1 hS.2.1 h.pl.2.2.1 (by omega) (by omega) hq (by have := hS.2.2.2.2.2.1; omega)) (by decide) (by decide) zP_hp
      exact sim_okP hW (m := (_, _)) (c_Mo_entry hs ho' h.bk.1 (by omega) h.pl.2.2.2.1 hZ hq) (by decide) (by decide) (pu_entry h hc hs rfl)
  · have hZ0 : g.Z = 0 := by
      have hA0 : g.A = 0 := hS.2.2.1.2.resolve_right hg
      rcases h.pl.2.2.2.2.2 with q | q
      · exact q.2.1
      · have := q.1; omega
    by_cases hv : v1 < 0
    · have hW := wo_entry (l := l) (D := D) (K := K) (ad := ad) (S := S) (c_TD_entry_own (v1 := v1) hs ho hg) (by decide) (by decide) zP_hp
      exact sim_okP hW (m := (_, _)) (c_Mo_entry_neg hs ho' hv) (by decide) (by decide) (Pu_rd h hc)
    · obtain ⟨q, hq, rfl⟩ := i_nat hv
      have hW := wo_entry (l := l) (D := D) (K := K) (ad := ad) (S := S) (c_TD_entry_own (v1 := nI q) hs ho hg) (by decide) (by decide) zP_hp
      exact sim_okP hW (m := (_, _)) (c_Mo_entry hs ho' h.bk.1 (by omega) h.pl.2.2.2.1 hZ hq) (by decide) (by decide) (pu_entry h hc hs (by rw [hZ0, Nat.mul_zero, if_neg (Nat.not_lt_zero _)]))
set_option maxRecDepth 20000 in
theorem sim_stock {l : Launch} (htr : l.stackTraces = false) {D : va_G} {K : Nat → ClassId} {ad : Nat → Nat} {S : zSt} {g : Gh} {c : Nat} (h : Rel g c S) (hc : c < 512) {v0 : Int32} {v1 : Int32} : SimW l D K ad S c y_La_stock (.codeWith y_La_stock b_La_stock 5 (some .int) [(0, 10, 13, 21), (0, 10, 17, 13)]) [.int v0, .int v1, .ref (ad 12)] y_Mo_stock (.code y_Mo_stock b_Mo_stock 5 (some FieldType.int)) [.int v0, .int v1] := by
  rcases site_dec h.st v0 with ⟨e0, e0'⟩ | ⟨i, hi, rfl, h9, h21⟩
  · exact sim_thr h hc (by decide) (wt_stock_1 (x_TD_stock_0 htr e0) (by decide) (by decide)) (c_Mo_stock_r e0') (by decide) (by decide)
  by_cases hv : v1 < 0 ∨ ¬ v1 < 3
  · refine sim_thr h hc (by decide) (wt_stock_2 (x_TD_stock_what htr hi h9 (i_out3 hv)) (by decide) (by decide)) (c_Mo_stock_w hi h21 hv) (by decide) (by decide)
  · obtain ⟨w, hw, rfl⟩ := badI 3 rfl (by decide) hv
    have hw3 : w = 0 ∨ w = 1 ∨ w = 2 := by omega
    rcases hw3 with rfl | rfl | rfl
    · have hW := wo_stock (l := l) (D := D) (K := K) (ad := ad) (S := S) (c_TD_stock_0 hi h9) (by decide) (by decide) zP_hp
      exact sim_okP hW (m := (_, _)) (c_Mo_stock (w := 0) hi (by exact h21) (by decide)) (by decide) (by decide) (pu_stock (w := 0) h hc hi (by decide) rfl)
    · have hW := wo_stock (l := l) (D := D) (K := K) (ad := ad) (S := S) (c_TD_stock_1 hi h9) (by decide) (by decide) zP_hp
      exact sim_okP hW (m := (_, _)) (c_Mo_stock (w := 1) hi (by exact h21) (by decide)) (by decide) (by decide) (pu_stock (w := 1) h hc hi (by decide) rfl)
    · have hW := wo_stock (l := l) (D := D) (K := K) (ad := ad) (S := S) (c_TD_stock_2 hi h9) (by decide) (by decide) zP_hp
      exact sim_okP hW (m := (_, _)) (c_Mo_stock (w := 2) hi (by exact h21) (by decide)) (by decide) (by decide) (pu_stock (w := 2) h hc hi (by decide) rfl)
set_option maxRecDepth 20000 in
theorem sim_used {l : Launch} (htr : l.stackTraces = false) {D : va_G} {K : Nat → ClassId} {ad : Nat → Nat} {S : zSt} {g : Gh} {c : Nat} (h : Rel g c S) (hc : c < 512) {v0 : Int32} : SimW l D K ad S c y_La_used (.codeWith y_La_used b_La_used 4 (some .int) [(0, 9, 12, 21)]) [.int v0, .ref (ad 12)] y_Mo_used (.code y_Mo_used b_Mo_used 3 (some FieldType.int)) [.int v0] := by
  rcases kit_dec v0 with e0 | ⟨k, hk, rfl⟩
  · exact sim_thr h hc (by decide) (wt_used_1 (x_TD_used_0 htr e0) (by decide) (by decide)) (c_Mo_used_r e0) (by decide) (by decide)
  have hu := c_TD_used (l := l) (D := D) (K := K) (ad := ad) (S := S) hk
  unfold dUsed at hu
  by_cases ho : S.2.2 0 7 = 0
  · rw [if_pos ho] at hu
    have hW := wo_used (l := l) (D := D) (K := K) (ad := ad) (S := S) (hu) (by decide) (by decide) zP_hp
    exact sim_okP hW (m := (_, _)) (c_Mo_used_shut hk (h.o7.symm.trans ho)) (by decide) (by decide) (Pu_rd h hc)
  · rw [if_neg ho] at hu
    have hW := wo_used (l := l) (D := D) (K := K) (ad := ad) (S := S) (hu) (by decide) (by decide) zP_hp
    exact sim_okP hW (m := (_, _)) (c_Mo_used hk (fun q => ho (h.o7.trans q))) (by decide) (by decide) (pu_used h hc hk rfl)
set_option maxRecDepth 20000 in
theorem sim_arm {l : Launch} (htr : l.stackTraces = false) {D : va_G} {K : Nat → ClassId} {ad : Nat → Nat} {S : zSt} {g : Gh} {c : Nat} (h : Rel g c S) (hc : c < 512) {v0 : Int32} {v1 : Int32} : SimW l D K ad S c y_La_arm (.codeWith y_La_arm b_La_arm 5 (some .int) [(0, 10, 13, 21)]) [.int v0, .int v1, .ref (ad 12)] y_Mo_arm (.code y_Mo_arm b_Mo_arm 4 (some FieldType.int)) [.int v0, .int v1] := by
  rcases site_dec h.st v0 with ⟨e0, e0'⟩ | ⟨i, hi, rfl, h9, h21⟩
  · exact sim_thr h hc (by decide) (wt_arm_1 (x_TD_arm_0 htr e0) (by decide) (by decide)) (c_Mo_arm_r0 e0') (by decide) (by decide)
  rcases per_dec v1 with e1 | ⟨p, hp, rfl⟩
  · exact sim_thr h hc (by decide) (wt_arm_1 (x_TD_arm_1 htr hi h9 e1) (by decide) (by decide)) (c_Mo_arm_r1 hi h21 e1) (by decide) (by decide)
  · have hd2 : (dArm S i p).2 = S := by
      unfold dArm
      split
      · split
        · rfl
        · split <;> rfl
      · split <;> rfl
    have hW := wo_arm (l := l) (D := D) (K := K) (ad := ad) (S := S) (c_TD_arm hi h9 hp) (by decide) (by decide) zP_hp
    exact sim_okP hW (c_Mo_arm hi (by rw [hd2]; exact h21) hp) (by decide) (by decide) (pu_arm h hc hi h9 hp)
set_option maxRecDepth 20000 in
theorem sim_key {l : Launch} (htr : l.stackTraces = false) {D : va_G} {K : Nat → ClassId} {ad : Nat → Nat} {S : zSt} {g : Gh} {c : Nat} (h : Rel g c S) (hc : c < 512) {v0 : Int32} {v1 : Int32} {v2 : Int32} : SimW l D K ad S c y_La_key (.codeWith y_La_key b_La_key 6 (some .int) [(0, 12, 15, 21)]) [.int v0, .int v1, .int v2, .ref (ad 12)] y_Mo_key (.code y_Mo_key b_Mo_key 5 (some FieldType.int)) [.int v0, .int v1, .int v2] := by
  rcases hol_dec v0 with e0 | ⟨k, hk, rfl⟩
  · exact sim_thr h hc (by decide) (wt_key_1 (x_TD_key_0 htr e0) (by decide) (by decide)) (c_Mo_key_r0 e0) (by decide) (by decide)
  rcases site_dec h.st v1 with ⟨e0, e0'⟩ | ⟨i, hi, rfl, h9, h21⟩
  · exact sim_thr h hc (by decide) (wt_key_1 (x_TD_key_1 htr hk e0) (by decide) (by decide)) (c_Mo_key_r1 hk e0') (by decide) (by decide)
  rcases per_dec v2 with e1 | ⟨p, hp, rfl⟩
  · exact sim_thr h hc (by decide) (wt_key_1 (x_TD_key_2 htr hk hi h9 e1) (by decide) (by decide)) (c_Mo_key_r2 hk hi h21 e1) (by decide) (by decide)
  · have hd2 : (dKey S k i p).2.2.2 21 = S.2.2 21 := by
      unfold dKey
      split
      · split
        · simp (disch := omega) only [wOk, wT, mS, mwO, mwT, stL_2, stL_1, stM_1, stM_L, rd_s, rd_j, rd_n, stM_n, rdL_s, rdL_j, rdL_n, stL_n]
        · simp (disch := omega) only [wOk, wT, mS, mwO, mwT, stL_2, stL_1, stM_1, stM_L, rd_s, rd_j, rd_n, stM_n, rdL_s, rdL_j, rdL_n, stL_n]
      · rfl
    have hW := wo_key (l := l) (D := D) (K := K) (ad := ad) (S := S) (c_TD_key hk hi h9 hp) (by decide) (by decide) zP_hp
    exact sim_okP hW (c_Mo_key hk hi (by rw [stL_2, hd2]; exact h21) hp) (by decide) (by decide) (pu_key h hc hk hi h9 hp)
