set_option maxRecDepth 20000 in
theorem c_Mo_draw {l : Launch} {D : va_G} {K : Nat → ClassId} {ad : Nat → Nat} {S : zSt} {s n : Nat} (hs : s < 8) (hn1 : 1 ≤ n) (hn2 : n ≤ 24) : zC l TB D zcls (ztyl K) y_Mo_draw (.code y_Mo_draw b_Mo_draw 9 (some FieldType.int)) (rmk 0 0) [.ref (ad 13), .int (nI s), .int (nI n)] ad (Lay K ad S) (zP K ad (some (.int (nI (dN (dwF (S.2.1 18 s) (nI n)) n)))) (stL S 18 s (dwF (S.2.1 18 s) (nI n)))) := by
  refine zC.of (by decide +kernel) (Nat.le_of_ble_eq_true rfl) ?_
  intro x hx hr hml hnm hrm hq hNH
  show zV x ad (Lay K ad S) 0 0 [(0, .ref (ad 13)), (1, .int (nI s)), (2, .int (nI n))] 0 []
  refine z_ldc2 (v := 2147483648) hx d_Mo_draw_0 a4_134 ?_
  refine z_iload_n hx 2 d_Mo_draw_3 rfl ?_
  refine z_i2l hx d_Mo_draw_4 ?_
  refine z_ldiv hx d_Mo_draw_5 (by rw [nI_l (by omega)]; exact fun z => absurd ((pk_lEQ (by omega) (by omega)).mp (z.trans (show (0 : Int64) = lN 0 from rfl))) (by omega)) ?_
  refine z_iload_n hx 2 d_Mo_draw_6 rfl ?_
  refine z_i2l hx d_Mo_draw_7 ?_
  refine z_lmul hx d_Mo_draw_8 ?_
  refine z_topL (b := eN (nI n)) rfl ?_
  refine z_lstore_n hx [(3, .long (eN (nI n))), (0, .ref (ad 13)), (1, .int (nI s)), (2, .int (nI n))] d_Mo_draw_9 rfl (zN hml (by decide)) rfl ?_
  refine z_lload_n hx 0 d_Mo_draw_10 rfl ?_
  refine z_lstore hx [(5, .long (eN (nI n))), (3, .long (eN (nI n))), (0, .ref (ad 13)), (1, .int (nI s)), (2, .int (nI n))] d_Mo_draw_11 (zN hml (by decide)) rfl ?_
  refine z_lload hx 0 d_Mo_draw_13 rfl ?_
  refine z_lload_n hx 1 d_Mo_draw_15 rfl ?_
  refine z_lcmp hx d_Mo_draw_16 ?_
  refine z_if_lt (tgt := 76) hx d_Mo_draw_17 (by decide) (fun h => absurd h (fun z => absurd ((lg_cmp_lt _ _).mp z) Int64.lt_irrefl)) (fun _ => ?_)
  refine z_aload_n hx 2 d_Mo_draw_20 rfl ?_
  refine z_get hx k_Mo (t := 13) rfl 13 (by decide) a3_236 rfl d_Mo_draw_21 ?_
  refine z_iload_n hx 3 d_Mo_draw_24 rfl ?_
  refine z_laldK hx 1 rfl (t := 18) rfl (k := s) (by omega) (by first | decide | omega) d_Mo_draw_25 ?_
  refine z_lstore hx [(7, .long (S.2.1 18 s)), (5, .long (eN (nI n))), (3, .long (eN (nI n))), (0, .ref (ad 13)), (1, .int (nI s)), (2, .int (nI n))] d_Mo_draw_26 (zN hml (by decide)) rfl ?_
  refine z_lload hx 0 d_Mo_draw_28 rfl ?_
  refine z_lload hx 0 d_Mo_draw_30 rfl ?_
  refine z_bipush (v := 13) hx d_Mo_draw_32 rfl ?_
  refine z_lshl hx d_Mo_draw_34 ?_
  refine z_lxor hx d_Mo_draw_35 ?_
  refine z_topL (b := xs1 (S.2.1 18 s)) rfl ?_
  refine z_lstore hx [(7, .long (xs1 (S.2.1 18 s))), (5, .long (eN (nI n))), (3, .long (eN (nI n))), (0, .ref (ad 13)), (1, .int (nI s)), (2, .int (nI n))] d_Mo_draw_36 (zN hml (by decide)) rfl ?_
  refine z_lload hx 0 d_Mo_draw_38 rfl ?_
  refine z_lload hx 0 d_Mo_draw_40 rfl ?_
  refine z_bipush (v := 7) hx d_Mo_draw_42 rfl ?_
  refine z_lushr hx d_Mo_draw_44 ?_
  refine z_lxor hx d_Mo_draw_45 ?_
  refine z_topL (b := xs2 (xs1 (S.2.1 18 s))) rfl ?_
  refine z_lstore hx [(7, .long (xs2 (xs1 (S.2.1 18 s)))), (5, .long (eN (nI n))), (3, .long (eN (nI n))), (0, .ref (ad 13)), (1, .int (nI s)), (2, .int (nI n))] d_Mo_draw_46 (zN hml (by decide)) rfl ?_
  refine z_lload hx 0 d_Mo_draw_48 rfl ?_
  refine z_lload hx 0 d_Mo_draw_50 rfl ?_
  refine z_bipush (v := 17) hx d_Mo_draw_52 rfl ?_
  refine z_lshl hx d_Mo_draw_54 ?_
  refine z_lxor hx d_Mo_draw_55 ?_
  refine z_topL (b := xs (S.2.1 18 s)) rfl ?_
  refine z_lstore hx [(7, .long (xs (S.2.1 18 s))), (5, .long (eN (nI n))), (3, .long (eN (nI n))), (0, .ref (ad 13)), (1, .int (nI s)), (2, .int (nI n))] d_Mo_draw_56 (zN hml (by decide)) rfl ?_
  refine z_aload_n hx 3 d_Mo_draw_58 rfl ?_
  refine z_get hx k_Mo (t := 13) rfl 13 (by decide) a3_236 rfl d_Mo_draw_59 ?_
  refine z_iload_n hx 4 d_Mo_draw_62 rfl ?_
  refine z_lload hx 0 d_Mo_draw_63 rfl ?_
  refine z_lastK hx 1 rfl (t := 18) rfl (k := s) (by omega) (by first | decide | omega)  d_Mo_draw_65 (ce1 := Lay K ad (stL S 18 s (xs (S.2.1 18 s)))) (Lay_putL rfl) ?_
  refine z_lload hx 0 d_Mo_draw_66 rfl ?_
  refine z_bipush (v := 33) hx d_Mo_draw_68 rfl ?_
  refine z_lushr hx d_Mo_draw_70 ?_
  refine z_topL (b := up33 (xs (S.2.1 18 s))) rfl ?_
  refine z_lstore hx [(5, .long (up33 (xs (S.2.1 18 s)))), (7, .long (xs (S.2.1 18 s))), (3, .long (eN (nI n))), (0, .ref (ad 13)), (1, .int (nI s)), (2, .int (nI n))] d_Mo_draw_71 (zN hml (by decide)) rfl ?_
  refine z_goto (tgt := 13) hx d_Mo_draw_73 (by decide) ?_
  refine z_lload hx 0 d_Mo_draw_13 rfl ?_
  refine z_lload_n hx 2 d_Mo_draw_15 rfl ?_
  refine z_lcmp hx d_Mo_draw_16 ?_
  refine z_if_lt (tgt := 76) hx d_Mo_draw_17 (by decide) (fun h1 => ?_) (fun h1 => ?_)
  · refine z_lload hx 0 d_Mo_draw_76 rfl ?_
    refine z_iload_n hx 5 d_Mo_draw_78 rfl ?_
    refine z_i2l hx d_Mo_draw_79 ?_
    refine z_lrem hx d_Mo_draw_80 (by rw [nI_l (by omega)]; exact fun z => absurd ((pk_lEQ (by omega) (by omega)).mp (z.trans (show (0 : Int64) = lN 0 from rfl))) (by omega)) ?_
    refine z_l2i hx d_Mo_draw_81 ?_
    have e9 : dwF (S.2.1 18 s) (nI n) = xs (S.2.1 18 s) := by unfold dwF; (first | rw [if_neg (Int32.not_le.mpr h1)] | rw [if_pos (Int32.not_lt.mp h1)] | skip)
    exact z_iret hx hr rfl hq (Nat.le_refl _) (Nat.le_refl _) d_Mo_draw_82 ⟨by rw [e9, ← dvF_N hn1 hn2]; rfl, rfl, by rw [e9]; try simp only [stL_stL]⟩
  · refine z_aload_n hx 3 d_Mo_draw_20 rfl ?_
    refine z_get hx k_Mo (t := 13) rfl 13 (by decide) a3_236 rfl d_Mo_draw_21 ?_
    refine z_iload_n hx 4 d_Mo_draw_24 rfl ?_
    refine z_laldK hx 1 rfl (t := 18) rfl (k := s) (by omega) (by first | decide | omega) d_Mo_draw_25 ?_
    refine z_topL (b := xs (S.2.1 18 s)) (rdL_s) ?_
    refine z_lstore hx [(7, .long (xs (S.2.1 18 s))), (5, .long (up33 (xs (S.2.1 18 s)))), (3, .long (eN (nI n))), (0, .ref (ad 13)), (1, .int (nI s)), (2, .int (nI n))] d_Mo_draw_26 (zN hml (by decide)) rfl ?_
    refine z_lload hx 0 d_Mo_draw_28 rfl ?_
    refine z_lload hx 0 d_Mo_draw_30 rfl ?_
    refine z_bipush (v := 13) hx d_Mo_draw_32 rfl ?_
    refine z_lshl hx d_Mo_draw_34 ?_
    refine z_lxor hx d_Mo_draw_35 ?_
    refine z_topL (b := xs1 (xs (S.2.1 18 s))) rfl ?_
    refine z_lstore hx [(7, .long (xs1 (xs (S.2.1 18 s)))), (5, .long (up33 (xs (S.2.1 18 s)))), (3, .long (eN (nI n))), (0, .ref (ad 13)), (1, .int (nI s)), (2, .int (nI n))] d_Mo_draw_36 (zN hml (by decide)) rfl ?_
    refine z_lload hx 0 d_Mo_draw_38 rfl ?_
    refine z_lload hx 0 d_Mo_draw_40 rfl ?_
    refine z_bipush (v := 7) hx d_Mo_draw_42 rfl ?_
    refine z_lushr hx d_Mo_draw_44 ?_
    refine z_lxor hx d_Mo_draw_45 ?_
    refine z_topL (b := xs2 (xs1 (xs (S.2.1 18 s)))) rfl ?_
    refine z_lstore hx [(7, .long (xs2 (xs1 (xs (S.2.1 18 s))))), (5, .long (up33 (xs (S.2.1 18 s)))), (3, .long (eN (nI n))), (0, .ref (ad 13)), (1, .int (nI s)), (2, .int (nI n))] d_Mo_draw_46 (zN hml (by decide)) rfl ?_
    refine z_lload hx 0 d_Mo_draw_48 rfl ?_
    refine z_lload hx 0 d_Mo_draw_50 rfl ?_
    refine z_bipush (v := 17) hx d_Mo_draw_52 rfl ?_
    refine z_lshl hx d_Mo_draw_54 ?_
    refine z_lxor hx d_Mo_draw_55 ?_
    refine z_topL (b := xs (xs (S.2.1 18 s))) rfl ?_
    refine z_lstore hx [(7, .long (xs (xs (S.2.1 18 s)))), (5, .long (up33 (xs (S.2.1 18 s)))), (3, .long (eN (nI n))), (0, .ref (ad 13)), (1, .int (nI s)), (2, .int (nI n))] d_Mo_draw_56 (zN hml (by decide)) rfl ?_
    refine z_aload_n hx 3 d_Mo_draw_58 rfl ?_
    refine z_get hx k_Mo (t := 13) rfl 13 (by decide) a3_236 rfl d_Mo_draw_59 ?_
    refine z_iload_n hx 4 d_Mo_draw_62 rfl ?_
    refine z_lload hx 0 d_Mo_draw_63 rfl ?_
    refine z_lastK hx 1 rfl (t := 18) rfl (k := s) (by omega) (by first | decide | omega)  d_Mo_draw_65 (ce1 := Lay K ad (stL (stL S 18 s (xs (S.2.1 18 s))) 18 s (xs (xs (S.2.1 18 s))))) (Lay_putL rfl) ?_
    refine z_lload hx 0 d_Mo_draw_66 rfl ?_
    refine z_bipush (v := 33) hx d_Mo_draw_68 rfl ?_
    refine z_lushr hx d_Mo_draw_70 ?_
    refine z_topL (b := up33 (xs (xs (S.2.1 18 s)))) rfl ?_
    refine z_lstore hx [(5, .long (up33 (xs (xs (S.2.1 18 s))))), (7, .long (xs (xs (S.2.1 18 s)))), (3, .long (eN (nI n))), (0, .ref (ad 13)), (1, .int (nI s)), (2, .int (nI n))] d_Mo_draw_71 (zN hml (by decide)) rfl ?_
    refine z_goto (tgt := 13) hx d_Mo_draw_73 (by decide) ?_
    refine z_lload hx 0 d_Mo_draw_13 rfl ?_
    refine z_lload_n hx 2 d_Mo_draw_15 rfl ?_
    refine z_lcmp hx d_Mo_draw_16 ?_
    refine z_if_lt (tgt := 76) hx d_Mo_draw_17 (by decide) (fun h2 => ?_) (fun h2 => ?_)
    · refine z_lload hx 0 d_Mo_draw_76 rfl ?_
      refine z_iload_n hx 5 d_Mo_draw_78 rfl ?_
      refine z_i2l hx d_Mo_draw_79 ?_
      refine z_lrem hx d_Mo_draw_80 (by rw [nI_l (by omega)]; exact fun z => absurd ((pk_lEQ (by omega) (by omega)).mp (z.trans (show (0 : Int64) = lN 0 from rfl))) (by omega)) ?_
      refine z_l2i hx d_Mo_draw_81 ?_
      have e9 : dwF (S.2.1 18 s) (nI n) = xs (xs (S.2.1 18 s)) := by unfold dwF; (first | rw [if_neg (Int32.not_le.mpr h1)] | rw [if_pos (Int32.not_lt.mp h1)] | skip); (first | rw [if_neg (Int32.not_le.mpr h2)] | rw [if_pos (Int32.not_lt.mp h2)] | skip)
      exact z_iret hx hr rfl hq (Nat.le_refl _) (Nat.le_refl _) d_Mo_draw_82 ⟨by rw [e9, ← dvF_N hn1 hn2]; rfl, rfl, by rw [e9]; try simp only [stL_stL]⟩
    · refine z_aload_n hx 3 d_Mo_draw_20 rfl ?_
      refine z_get hx k_Mo (t := 13) rfl 13 (by decide) a3_236 rfl d_Mo_draw_21 ?_
      refine z_iload_n hx 4 d_Mo_draw_24 rfl ?_
      refine z_laldK hx 1 rfl (t := 18) rfl (k := s) (by omega) (by first | decide | omega) d_Mo_draw_25 ?_
      refine z_topL (b := xs (xs (S.2.1 18 s))) (rdL_s) ?_
      refine z_lstore hx [(7, .long (xs (xs (S.2.1 18 s)))), (5, .long (up33 (xs (xs (S.2.1 18 s))))), (3, .long (eN (nI n))), (0, .ref (ad 13)), (1, .int (nI s)), (2, .int (nI n))] d_Mo_draw_26 (zN hml (by decide)) rfl ?_
      refine z_lload hx 0 d_Mo_draw_28 rfl ?_
      refine z_lload hx 0 d_Mo_draw_30 rfl ?_
      refine z_bipush (v := 13) hx d_Mo_draw_32 rfl ?_
      refine z_lshl hx d_Mo_draw_34 ?_
      refine z_lxor hx d_Mo_draw_35 ?_
      refine z_topL (b := xs1 (xs (xs (S.2.1 18 s)))) rfl ?_
      refine z_lstore hx [(7, .long (xs1 (xs (xs (S.2.1 18 s))))), (5, .long (up33 (xs (xs (S.2.1 18 s))))), (3, .long (eN (nI n))), (0, .ref (ad 13)), (1, .int (nI s)), (2, .int (nI n))] d_Mo_draw_36 (zN hml (by decide)) rfl ?_
      refine z_lload hx 0 d_Mo_draw_38 rfl ?_
      refine z_lload hx 0 d_Mo_draw_40 rfl ?_
      refine z_bipush (v := 7) hx d_Mo_draw_42 rfl ?_
      refine z_lushr hx d_Mo_draw_44 ?_
      refine z_lxor hx d_Mo_draw_45 ?_
      refine z_topL (b := xs2 (xs1 (xs (xs (S.2.1 18 s))))) rfl ?_
      refine z_lstore hx [(7, .long (xs2 (xs1 (xs (xs (S.2.1 18 s)))))), (5, .long (up33 (xs (xs (S.2.1 18 s))))), (3, .long (eN (nI n))), (0, .ref (ad 13)), (1, .int (nI s)), (2, .int (nI n))] d_Mo_draw_46 (zN hml (by decide)) rfl ?_
      refine z_lload hx 0 d_Mo_draw_48 rfl ?_
      refine z_lload hx 0 d_Mo_draw_50 rfl ?_
      refine z_bipush (v := 17) hx d_Mo_draw_52 rfl ?_
      refine z_lshl hx d_Mo_draw_54 ?_
      refine z_lxor hx d_Mo_draw_55 ?_
      refine z_topL (b := xs (xs (xs (S.2.1 18 s)))) rfl ?_
      refine z_lstore hx [(7, .long (xs (xs (xs (S.2.1 18 s))))), (5, .long (up33 (xs (xs (S.2.1 18 s))))), (3, .long (eN (nI n))), (0, .ref (ad 13)), (1, .int (nI s)), (2, .int (nI n))] d_Mo_draw_56 (zN hml (by decide)) rfl ?_
      refine z_aload_n hx 3 d_Mo_draw_58 rfl ?_
      refine z_get hx k_Mo (t := 13) rfl 13 (by decide) a3_236 rfl d_Mo_draw_59 ?_
      refine z_iload_n hx 4 d_Mo_draw_62 rfl ?_
      refine z_lload hx 0 d_Mo_draw_63 rfl ?_
      refine z_lastK hx 1 rfl (t := 18) rfl (k := s) (by omega) (by first | decide | omega)  d_Mo_draw_65 (ce1 := Lay K ad (stL (stL (stL S 18 s (xs (S.2.1 18 s))) 18 s (xs (xs (S.2.1 18 s)))) 18 s (xs (xs (xs (S.2.1 18 s)))))) (Lay_putL rfl) ?_
      refine z_lload hx 0 d_Mo_draw_66 rfl ?_
      refine z_bipush (v := 33) hx d_Mo_draw_68 rfl ?_
      refine z_lushr hx d_Mo_draw_70 ?_
      refine z_topL (b := up33 (xs (xs (xs (S.2.1 18 s))))) rfl ?_
      refine z_lstore hx [(5, .long (up33 (xs (xs (xs (S.2.1 18 s)))))), (7, .long (xs (xs (xs (S.2.1 18 s))))), (3, .long (eN (nI n))), (0, .ref (ad 13)), (1, .int (nI s)), (2, .int (nI n))] d_Mo_draw_71 (zN hml (by decide)) rfl ?_
      refine z_goto (tgt := 13) hx d_Mo_draw_73 (by decide) ?_
      refine z_lload hx 0 d_Mo_draw_13 rfl ?_
      refine z_lload_n hx 2 d_Mo_draw_15 rfl ?_
      refine z_lcmp hx d_Mo_draw_16 ?_
      refine z_if_lt (tgt := 76) hx d_Mo_draw_17 (by decide) (fun _ => ?_) (fun h => absurd (Int32.not_le.mp (no3 hn1 hn2 (Int32.not_lt.mp h1) (Int32.not_lt.mp h2))) h)
      refine z_lload hx 0 d_Mo_draw_76 rfl ?_
      refine z_iload_n hx 5 d_Mo_draw_78 rfl ?_
      refine z_i2l hx d_Mo_draw_79 ?_
      refine z_lrem hx d_Mo_draw_80 (by rw [nI_l (by omega)]; exact fun z => absurd ((pk_lEQ (by omega) (by omega)).mp (z.trans (show (0 : Int64) = lN 0 from rfl))) (by omega)) ?_
      refine z_l2i hx d_Mo_draw_81 ?_
      have e9 : dwF (S.2.1 18 s) (nI n) = xs (xs (xs (S.2.1 18 s))) := by unfold dwF; (first | rw [if_neg (Int32.not_le.mpr h1)] | rw [if_pos (Int32.not_lt.mp h1)] | skip); (first | rw [if_neg (Int32.not_le.mpr h2)] | rw [if_pos (Int32.not_lt.mp h2)] | skip)
      exact z_iret hx hr rfl hq (Nat.le_refl _) (Nat.le_refl _) d_Mo_draw_82 ⟨by rw [e9, ← dvF_N hn1 hn2]; rfl, rfl, by rw [e9]; try simp only [stL_stL]⟩
def tbM (S : zSt) (s T Z A : Nat) (e : Nat → Nat) : zSt := stM (stM (stM (shD 18 s 16 (24 * T) Z (laS 16 (24 * T) e S A) (Z - 1)) 15 T (nI s)) 17 s (S.2.2 17 s + 1)) 13 9 (nI (T + 1))
theorem tbM_n {S : zSt} {s T Z A : Nat} {e : Nat → Nat} {u : Nat} (h1 : u ≠ 13) (h2 : u ≠ 15) (h3 : u ≠ 16) (h4 : u ≠ 17) : (tbM S s T Z A e).2.2 u = S.2.2 u := by
  unfold tbM
  rw [stM_n h1, stM_n h4, stM_n h2, shD_n h3, laS_n h3]
theorem tbM_13 {S : zSt} {s T Z A j : Nat} {e : Nat → Nat} (h : j ≠ 9) : (tbM S s T Z A e).2.2 13 j = S.2.2 13 j := by
  unfold tbM
  rw [rd_j h, rd_n (by decide), rd_n (by decide), shD_n (by decide), laS_n (by decide)]
theorem tbM_9 {S : zSt} {s T Z A : Nat} {e : Nat → Nat} : (tbM S s T Z A e).2.2 13 9 = nI (T + 1) := rd_s
set_option maxRecDepth 20000 in
theorem c_Mo_takeBlock {l : Launch} {D : va_G} {K : Nat → ClassId} {ad : Nat → Nat} {S : zSt} {s : Nat} (hs : s < 8) {T Z A W : Nat} (hT : S.2.2 13 9 = nI T) (hT2 : T < 4200) (hZ : S.2.2 13 6 = nI Z) (hZ1 : 1 ≤ Z) (hZ2 : Z ≤ 24) (hA : S.2.2 13 5 = nI A) (hA4 : A ≤ 4) (hW : S.2.2 14 0 + S.2.2 14 1 + S.2.2 14 2 + S.2.2 14 3 = nI W) (hW1 : 1 ≤ W) (hW2 : W ≤ 24) {e : Nat → Nat} (he : ∀ a, a < A → S.2.2 14 a * (nI Z / nI W) = nI (e a)) (hsE : sE e A = Z) (hbo : bOk S) : zC l TB D zcls (ztyl K) y_Mo_takeBlock (.code y_Mo_takeBlock b_Mo_takeBlock 8 (some FieldType.int)) (rmk 1 28) [.ref (ad 13), .int (nI s)] ad (Lay K ad S) (zP K ad (some (.int (nI T))) (tbM S s T Z A e)) := by
  refine zC.of (by decide +kernel) (Nat.le_of_ble_eq_true rfl) ?_
  intro x hx hr hml hnm hrm hq hNH
  have L : ∀ (m_L k : Nat), k + m_L = Z - 1 → zV x ad (Lay K ad (shD 18 s 16 (24 * T) Z (laS 16 (24 * T) e S A) k)) 0 0 [(5, .int (nI (Z - 1 - k))), (0, .ref (ad 13)), (1, .int (nI s)), (2, .int (nI (24 * T)))] 108 [] := by
    intro m_L
    induction m_L with
    | zero =>
      intro k he_L
      have e_L : k = Z - 1 := by omega
      refine z_iload hx 0 d_Mo_takeBlock_108 rfl ?_
      refine z_if_le (tgt := 170) hx d_Mo_takeBlock_110 (by decide) (fun _ => ?_) (fun h => absurd (by rw [show Z - 1 - k = 0 by omega]; decide) h)
      refine z_aload_n hx 1 d_Mo_takeBlock_170 rfl ?_
      refine z_get hx k_Mo (t := 13) rfl 10 (by decide) a3_233 rfl d_Mo_takeBlock_171 ?_
      refine z_aload_n hx 1 d_Mo_takeBlock_174 rfl ?_
      refine z_get hx k_Mo (t := 13) rfl 9 (by decide) a3_232 rfl d_Mo_takeBlock_175 ?_
      refine z_top (b := nI T) (by rw [shD_n (by omega), laS_n (by omega)]; exact hT) ?_
      refine z_iload_n hx 2 d_Mo_takeBlock_178 rfl ?_
      refine z_iastK hx 0 rfl (t := 15) rfl (k := T) (by omega) (by first | decide | omega)  d_Mo_takeBlock_179 (ce1 := Lay K ad (stM (shD 18 s 16 (24 * T) Z (laS 16 (24 * T) e S A) k) 15 T (nI s))) (Lay_put (by decide) rfl) ?_
      refine z_aload_n hx 1 d_Mo_takeBlock_180 rfl ?_
      refine z_get hx k_Mo (t := 13) rfl 12 (by decide) a3_235 rfl d_Mo_takeBlock_181 ?_
      refine z_iload_n hx 2 d_Mo_takeBlock_184 rfl ?_
      refine z_dup2_11 hx d_Mo_takeBlock_185 rfl rfl ?_
      refine z_ialdK hx 0 rfl (t := 17) rfl (k := s) (by omega) (by first | decide | omega) d_Mo_takeBlock_186 ?_
      refine z_top (b := (shD 18 s 16 (24 * T) Z (laS 16 (24 * T) e S A) k).2.2 17 s) (rd_n (by decide)) ?_
      refine z_top (b := S.2.2 17 s) (by rw [shD_n (by omega), laS_n (by omega)]) ?_
      refine z_iconst (v := 1) hx d_Mo_takeBlock_187 rfl ?_
      refine z_iadd hx d_Mo_takeBlock_188 ?_
      refine z_iastK hx 0 rfl (t := 17) rfl (k := s) (by omega) (by first | decide | omega)  d_Mo_takeBlock_189 (ce1 := Lay K ad (stM (stM (shD 18 s 16 (24 * T) Z (laS 16 (24 * T) e S A) k) 15 T (nI s)) 17 s ((S.2.2 17 s) + 1))) (Lay_put (by decide) rfl) ?_
      refine z_aload_n hx 1 d_Mo_takeBlock_190 rfl ?_
      refine z_dup hx d_Mo_takeBlock_191 rfl ?_
      refine z_get hx k_Mo (t := 13) rfl 9 (by decide) a3_232 rfl d_Mo_takeBlock_192 ?_
      refine z_top (b := (shD 18 s 16 (24 * T) Z (laS 16 (24 * T) e S A) k).2.2 13 9) ((rd_n (by decide)).trans (rd_n (by decide))) ?_
      refine z_top (b := nI T) (by rw [shD_n (by omega), laS_n (by omega)]; exact hT) ?_
      refine z_iconst (v := 1) hx d_Mo_takeBlock_195 rfl ?_
      refine z_iadd hx d_Mo_takeBlock_196 ?_
      refine z_top (b := nI (T + 1)) (nI_1 T) ?_
      refine z_put hx k_Mo (t := 13) rfl 9 (by decide) a3_232 rfl rfl rfl (Nat.le_of_ble_eq_true rfl) d_Mo_takeBlock_197 (ce1 := Lay K ad (stM (stM (stM (shD 18 s 16 (24 * T) Z (laS 16 (24 * T) e S A) k) 15 T (nI s)) 17 s ((S.2.2 17 s) + 1)) 13 9 (nI (T + 1)))) (Lay_put (by decide) rfl) ?_
      refine z_aload_n hx 1 d_Mo_takeBlock_200 rfl ?_
      refine z_get hx k_Mo (t := 13) rfl 9 (by decide) a3_232 rfl d_Mo_takeBlock_201 ?_
      refine z_top (b := nI (T + 1)) (rd_s) ?_
      refine z_iconst (v := 1) hx d_Mo_takeBlock_204 rfl ?_
      refine z_isub hx d_Mo_takeBlock_205 ?_
      refine z_top (b := nI T) (nI_pred T) ?_
      subst e_L
      exact z_iret hx hr rfl hq (Nat.le_refl _) (Nat.le_refl _) d_Mo_takeBlock_206 ⟨rfl, rfl, rfl⟩
    | succ m_L ih_L =>
      intro k he_L
      have l_L : k < Z - 1 := by omega
      have hbk : bOk (shD 18 s 16 (24 * T) Z (laS 16 (24 * T) e S A) k) := bOk_sh (bOk_la hbo hA4)
      have hdk := dN_lt (w := dwF ((shD 18 s 16 (24 * T) Z (laS 16 (24 * T) e S A) k).2.1 18 s) (nI (Z - k))) (n := Z - k) (by omega)
      refine z_iload hx 0 d_Mo_takeBlock_108 rfl ?_
      refine z_if_le (tgt := 170) hx d_Mo_takeBlock_110 (by decide) (fun h => absurd h (nI_nle (by omega) (by omega))) (fun _ => ?_)
      refine z_aload_n hx 1 d_Mo_takeBlock_113 rfl ?_
      refine z_iload_n hx 2 d_Mo_takeBlock_114 rfl ?_
      refine z_iload hx 0 d_Mo_takeBlock_115 rfl ?_
      refine z_iconst (v := 1) hx d_Mo_takeBlock_117 rfl ?_
      refine z_iadd hx d_Mo_takeBlock_118 ?_
      refine z_top (b := nI (Z - k)) (by rw [nI_1, show Z - 1 - k + 1 = Z - k by omega]) ?_
      refine z_cV hx (c_Mo_draw hs (by omega) (by omega)) k_Mo rfl ⟨a4_130, a4_133, a1_6, ⟨by decide +kernel, by decide +kernel⟩, fun sig h => by cases h; rfl⟩ a4_132 s_Mo_draw rfl rfl d_Mo_takeBlock_119 (by rw [hrm]; exact ⟨Nat.le_of_ble_eq_true rfl, Nat.le_of_ble_eq_true rfl, Nat.le_of_ble_eq_true rfl, Nat.le_of_ble_eq_true rfl⟩) ?_
      show zV x ad (Lay K ad (stL (shD 18 s 16 (24 * T) Z (laS 16 (24 * T) e S A) k) 18 s (dwF ((shD 18 s 16 (24 * T) Z (laS 16 (24 * T) e S A) k).2.1 18 s) (nI (Z - k))))) _ _ _ 122 [.int (nI (dN (dwF ((shD 18 s 16 (24 * T) Z (laS 16 (24 * T) e S A) k).2.1 18 s) (nI (Z - k))) (Z - k)))]
      refine z_istore hx [(6, .int (nI (dN (dwF ((shD 18 s 16 (24 * T) Z (laS 16 (24 * T) e S A) k).2.1 18 s) (nI (Z - k))) (Z - k)))), (5, .int (nI (Z - 1 - k))), (0, .ref (ad 13)), (1, .int (nI s)), (2, .int (nI (24 * T)))] d_Mo_takeBlock_122 (zN hml (by decide)) rfl ?_
      refine z_aload_n hx 2 d_Mo_takeBlock_124 rfl ?_
      refine z_get hx k_Mo (t := 13) rfl 11 (by decide) a3_234 rfl d_Mo_takeBlock_125 ?_
      refine z_iload_n hx 4 d_Mo_takeBlock_128 rfl ?_
      refine z_iload hx 1 d_Mo_takeBlock_129 rfl ?_
      refine z_iadd hx d_Mo_takeBlock_131 ?_
      refine z_top (b := nI (24 * T + (Z - 1 - k))) (nI_add _ _) ?_
      refine z_baldK hx 2 rfl (t := 16) rfl (k := (24 * T + (Z - 1 - k))) (by omega) (by first | decide | omega) d_Mo_takeBlock_132 ?_
      refine z_top (b := (shD 18 s 16 (24 * T) Z (laS 16 (24 * T) e S A) k).2.2 16 (24 * T + (Z - 1 - k))) rfl ?_
      refine z_istore hx [(7, .int ((shD 18 s 16 (24 * T) Z (laS 16 (24 * T) e S A) k).2.2 16 (24 * T + (Z - 1 - k)))), (6, .int (nI (dN (dwF ((shD 18 s 16 (24 * T) Z (laS 16 (24 * T) e S A) k).2.1 18 s) (nI (Z - k))) (Z - k)))), (5, .int (nI (Z - 1 - k))), (0, .ref (ad 13)), (1, .int (nI s)), (2, .int (nI (24 * T)))] d_Mo_takeBlock_133 (zN hml (by decide)) rfl ?_
      refine z_aload_n hx 3 d_Mo_takeBlock_135 rfl ?_
      refine z_get hx k_Mo (t := 13) rfl 11 (by decide) a3_234 rfl d_Mo_takeBlock_136 ?_
      refine z_iload_n hx 5 d_Mo_takeBlock_139 rfl ?_
      refine z_iload hx 2 d_Mo_takeBlock_140 rfl ?_
      refine z_iadd hx d_Mo_takeBlock_142 ?_
      refine z_top (b := nI (24 * T + (Z - 1 - k))) (nI_add _ _) ?_
      refine z_aload_n hx 3 d_Mo_takeBlock_143 rfl ?_
      refine z_get hx k_Mo (t := 13) rfl 11 (by decide) a3_234 rfl d_Mo_takeBlock_144 ?_
      refine z_iload_n hx 5 d_Mo_takeBlock_147 rfl ?_
      refine z_iload hx 1 d_Mo_takeBlock_148 rfl ?_
      refine z_iadd hx d_Mo_takeBlock_150 ?_
      refine z_top (b := nI (24 * T + dN (dwF ((shD 18 s 16 (24 * T) Z (laS 16 (24 * T) e S A) k).2.1 18 s) (nI (Z - k))) (Z - k))) (nI_add _ _) ?_
      refine z_baldK hx 2 rfl (t := 16) rfl (k := (24 * T + dN (dwF ((shD 18 s 16 (24 * T) Z (laS 16 (24 * T) e S A) k).2.1 18 s) (nI (Z - k))) (Z - k))) (by omega) (by first | decide | omega) d_Mo_takeBlock_151 ?_
      refine z_top (b := (shD 18 s 16 (24 * T) Z (laS 16 (24 * T) e S A) k).2.2 16 (24 * T + dN (dwF ((shD 18 s 16 (24 * T) Z (laS 16 (24 * T) e S A) k).2.1 18 s) (nI (Z - k))) (Z - k))) rfl ?_
      refine z_bastK hx 2 rfl (t := 16) rfl (k := (24 * T + (Z - 1 - k))) (by omega) (by first | decide | omega) (hbk _) d_Mo_takeBlock_152 (ce1 := Lay K ad (stM (stL (shD 18 s 16 (24 * T) Z (laS 16 (24 * T) e S A) k) 18 s (dwF ((shD 18 s 16 (24 * T) Z (laS 16 (24 * T) e S A) k).2.1 18 s) (nI (Z - k)))) 16 ((24 * T + (Z - 1 - k))) ((shD 18 s 16 (24 * T) Z (laS 16 (24 * T) e S A) k).2.2 16 (24 * T + dN (dwF ((shD 18 s 16 (24 * T) Z (laS 16 (24 * T) e S A) k).2.1 18 s) (nI (Z - k))) (Z - k))))) (Lay_put (by decide) rfl) ?_
      refine z_aload_n hx 3 d_Mo_takeBlock_153 rfl ?_
      refine z_get hx k_Mo (t := 13) rfl 11 (by decide) a3_234 rfl d_Mo_takeBlock_154 ?_
      refine z_iload_n hx 5 d_Mo_takeBlock_157 rfl ?_
      refine z_iload hx 1 d_Mo_takeBlock_158 rfl ?_
      refine z_iadd hx d_Mo_takeBlock_160 ?_
      refine z_top (b := nI (24 * T + dN (dwF ((shD 18 s 16 (24 * T) Z (laS 16 (24 * T) e S A) k).2.1 18 s) (nI (Z - k))) (Z - k))) (nI_add _ _) ?_
      refine z_iload hx 0 d_Mo_takeBlock_161 rfl ?_
      refine z_bastK hx 2 rfl (t := 16) rfl (k := (24 * T + dN (dwF ((shD 18 s 16 (24 * T) Z (laS 16 (24 * T) e S A) k).2.1 18 s) (nI (Z - k))) (Z - k))) (by omega) (by first | decide | omega) (hbk _) d_Mo_takeBlock_163 (ce1 := Lay K ad (stM (stM (stL (shD 18 s 16 (24 * T) Z (laS 16 (24 * T) e S A) k) 18 s (dwF ((shD 18 s 16 (24 * T) Z (laS 16 (24 * T) e S A) k).2.1 18 s) (nI (Z - k)))) 16 ((24 * T + (Z - 1 - k))) ((shD 18 s 16 (24 * T) Z (laS 16 (24 * T) e S A) k).2.2 16 (24 * T + dN (dwF ((shD 18 s 16 (24 * T) Z (laS 16 (24 * T) e S A) k).2.1 18 s) (nI (Z - k))) (Z - k)))) 16 ((24 * T + dN (dwF ((shD 18 s 16 (24 * T) Z (laS 16 (24 * T) e S A) k).2.1 18 s) (nI (Z - k))) (Z - k))) ((shD 18 s 16 (24 * T) Z (laS 16 (24 * T) e S A) k).2.2 16 (24 * T + (Z - 1 - k))))) (Lay_put (by decide) rfl) ?_
      refine z_iinc (v := nI (Z - 1 - (k + 1))) hx 2 [(5, .int (nI (Z - 1 - (k + 1)))), (7, .int ((shD 18 s 16 (24 * T) Z (laS 16 (24 * T) e S A) k).2.2 16 (24 * T + (Z - 1 - k)))), (6, .int (nI (dN (dwF ((shD 18 s 16 (24 * T) Z (laS 16 (24 * T) e S A) k).2.1 18 s) (nI (Z - k))) (Z - k)))), (0, .ref (ad 13)), (1, .int (nI s)), (2, .int (nI (24 * T)))] d_Mo_takeBlock_164 rfl (by rw [show Z - 1 - k = (Z - 1 - (k + 1)) + 1 by omega]; exact pk_m1 _) (zN hml (by decide)) rfl ?_
      refine z_goto (tgt := 108) hx d_Mo_takeBlock_167 (by decide) ?_
      exact z_lv [0, 3, 4, 5] _ rfl (ih_L (k + 1) (by omega))
  have O : ∀ (m_O a : Nat), a + m_O = A → zV x ad (Lay K ad (laS 16 (24 * T) e S a)) 0 0 [(5, .int (nI a)), (4, .int (nI (sE e a))), (0, .ref (ad 13)), (1, .int (nI s)), (2, .int (nI (24 * T))), (3, .int (nI W))] 42 [] := by
    intro m_O
    induction m_O with
    | zero =>
      intro a he_O
      have e_O : a = A := by omega
      refine z_iload hx 0 d_Mo_takeBlock_42 rfl ?_
      refine z_aload_n hx 2 d_Mo_takeBlock_44 rfl ?_
      refine z_get hx k_Mo (t := 13) rfl 5 (by decide) a3_228 rfl d_Mo_takeBlock_45 ?_
      refine z_top (b := nI A) (by rw [laS_n (by omega)]; exact hA) ?_
      refine z_icmp_ge (tgt := 100) hx d_Mo_takeBlock_48 (by decide) (fun _ => ?_) (fun h => absurd (nI_le (by omega) (by omega)) h)
      refine z_aload_n hx 2 d_Mo_takeBlock_100 rfl ?_
      refine z_get hx k_Mo (t := 13) rfl 6 (by decide) a3_229 rfl d_Mo_takeBlock_101 ?_
      refine z_top (b := nI Z) (by rw [laS_n (by omega)]; exact hZ) ?_
      refine z_iconst (v := 1) hx d_Mo_takeBlock_104 rfl ?_
      refine z_isub hx d_Mo_takeBlock_105 ?_
      refine z_top (b := nI (Z - 1 - 0)) (pk_sub (b := 1) (by omega)) ?_
      refine z_istore hx [(5, .int (nI (Z - 1 - 0))), (4, .int (nI (sE e a))), (0, .ref (ad 13)), (1, .int (nI s)), (2, .int (nI (24 * T))), (3, .int (nI W))] d_Mo_takeBlock_106 (zN hml (by decide)) rfl ?_
      subst e_O
      exact z_lv [0, 2, 3, 4] _ rfl (L (Z - 1) 0 (by omega))
    | succ m_O ih_O =>
      intro a he_O
      have l_O : a < A := by omega
      have J : ∀ (m_J j : Nat), j + m_J = e a → zV x ad (Lay K ad (wrS 16 (nI a) (24 * T + sE e a) (laS 16 (24 * T) e S a) j)) 0 0 [(6, .int (nI j)), (5, .int (nI a)), (4, .int (nI (sE e a + j))), (0, .ref (ad 13)), (1, .int (nI s)), (2, .int (nI (24 * T))), (3, .int (nI W))] 54 [] := by
        intro m_J
        induction m_J with
        | zero =>
          intro j he_J
          have e_J : j = e a := by omega
          have m9 := sE_mono (e := e) (a := a + 1) (b := A) l_O
          have m8 : sE e (a + 1) = sE e a + e a := rfl
          refine z_iload hx 0 d_Mo_takeBlock_54 rfl ?_
          refine z_aload_n hx 3 d_Mo_takeBlock_56 rfl ?_
          refine z_get hx k_Mo (t := 13) rfl 8 (by decide) a3_231 rfl d_Mo_takeBlock_57 ?_
          refine z_iload hx 1 d_Mo_takeBlock_60 rfl ?_
          refine z_ialdK hx 0 rfl (t := 14) rfl (k := a) (by omega) (by first | decide | omega) d_Mo_takeBlock_62 ?_
          refine z_aload_n hx 3 d_Mo_takeBlock_63 rfl ?_
          refine z_get hx k_Mo (t := 13) rfl 6 (by decide) a3_229 rfl d_Mo_takeBlock_64 ?_
          refine z_iload_n hx 6 d_Mo_takeBlock_67 rfl ?_
          refine z_idiv hx d_Mo_takeBlock_68 (nI_ne0 (by omega) (by omega)) ?_
          refine z_imul hx d_Mo_takeBlock_69 ?_
          refine z_top (b := nI (e a)) (by rw [wrS_n (by omega), wrS_n (by omega), laS_n (by omega), laS_n (by omega), hZ]; exact he a l_O) ?_
          refine z_icmp_ge (tgt := 94) hx d_Mo_takeBlock_70 (by decide) (fun _ => ?_) (fun h => absurd (nI_le (by omega) (by omega)) h)
          refine z_iinc (v := nI (a + 1)) hx 1 [(5, .int (nI (a + 1))), (6, .int (nI j)), (4, .int (nI (sE e a + j))), (0, .ref (ad 13)), (1, .int (nI s)), (2, .int (nI (24 * T))), (3, .int (nI W))] d_Mo_takeBlock_94 rfl (nI_1 a) (zN hml (by decide)) rfl ?_
          refine z_goto (tgt := 42) hx d_Mo_takeBlock_97 (by decide) ?_
          obtain rfl : j = e a := by omega
          exact z_lv [0, 2, 3, 4, 5, 6] _ rfl (ih_O (a + 1) (by omega))
        | succ m_J ih_J =>
          intro j he_J
          have l_J : j < e a := by omega
          have m9 := sE_mono (e := e) (a := a + 1) (b := A) l_O
          have m8 : sE e (a + 1) = sE e a + e a := rfl
          refine z_iload hx 0 d_Mo_takeBlock_54 rfl ?_
          refine z_aload_n hx 3 d_Mo_takeBlock_56 rfl ?_
          refine z_get hx k_Mo (t := 13) rfl 8 (by decide) a3_231 rfl d_Mo_takeBlock_57 ?_
          refine z_iload hx 1 d_Mo_takeBlock_60 rfl ?_
          refine z_ialdK hx 0 rfl (t := 14) rfl (k := a) (by omega) (by first | decide | omega) d_Mo_takeBlock_62 ?_
          refine z_aload_n hx 3 d_Mo_takeBlock_63 rfl ?_
          refine z_get hx k_Mo (t := 13) rfl 6 (by decide) a3_229 rfl d_Mo_takeBlock_64 ?_
          refine z_iload_n hx 6 d_Mo_takeBlock_67 rfl ?_
          refine z_idiv hx d_Mo_takeBlock_68 (nI_ne0 (by omega) (by omega)) ?_
          refine z_imul hx d_Mo_takeBlock_69 ?_
          refine z_top (b := nI (e a)) (by rw [wrS_n (by omega), wrS_n (by omega), laS_n (by omega), laS_n (by omega), hZ]; exact he a l_O) ?_
          refine z_icmp_ge (tgt := 94) hx d_Mo_takeBlock_70 (by decide) (fun h => absurd h (nI_ge (by omega) (by omega))) (fun _ => ?_)
          refine z_aload_n hx 3 d_Mo_takeBlock_73 rfl ?_
          refine z_get hx k_Mo (t := 13) rfl 11 (by decide) a3_234 rfl d_Mo_takeBlock_74 ?_
          refine z_iload_n hx 5 d_Mo_takeBlock_77 rfl ?_
          refine z_iload hx 2 d_Mo_takeBlock_78 rfl ?_
          refine z_iadd hx d_Mo_takeBlock_80 ?_
          refine z_top (b := nI (24 * T + sE e a + j)) (by rw [nI_add, show 24 * T + (sE e a + j) = 24 * T + sE e a + j by omega]) ?_
          refine z_iload hx 1 d_Mo_takeBlock_81 rfl ?_
          refine z_i2b hx d_Mo_takeBlock_83 ?_
          refine z_top (b := nI a) (bo_n (by omega)) ?_
          refine z_bastK hx 2 rfl (t := 16) rfl (k := (24 * T + sE e a + j)) (by omega) (by first | decide | omega) (bo_n (by omega)) d_Mo_takeBlock_84 (ce1 := Lay K ad (stM (wrS 16 (nI a) (24 * T + sE e a) (laS 16 (24 * T) e S a) j) 16 ((24 * T + sE e a + j)) (nI a))) (Lay_put (by decide) rfl) ?_
          refine z_iinc (v := nI (sE e a + (j + 1))) hx 2 [(4, .int (nI (sE e a + (j + 1)))), (6, .int (nI j)), (5, .int (nI a)), (0, .ref (ad 13)), (1, .int (nI s)), (2, .int (nI (24 * T))), (3, .int (nI W))] d_Mo_takeBlock_85 rfl (nI_1 _) (zN hml (by decide)) rfl ?_
          refine z_iinc (v := nI (j + 1)) hx 1 [(6, .int (nI (j + 1))), (4, .int (nI (sE e a + (j + 1)))), (5, .int (nI a)), (0, .ref (ad 13)), (1, .int (nI s)), (2, .int (nI (24 * T))), (3, .int (nI W))] d_Mo_takeBlock_88 rfl (nI_1 j) (zN hml (by decide)) rfl ?_
          refine z_goto (tgt := 54) hx d_Mo_takeBlock_91 (by decide) ?_
          exact z_lv [0, 2, 1, 3, 4, 5, 6] _ rfl (ih_J (j + 1) (by omega))
      refine z_iload hx 0 d_Mo_takeBlock_42 rfl ?_
      refine z_aload_n hx 2 d_Mo_takeBlock_44 rfl ?_
      refine z_get hx k_Mo (t := 13) rfl 5 (by decide) a3_228 rfl d_Mo_takeBlock_45 ?_
      refine z_top (b := nI A) (by rw [laS_n (by omega)]; exact hA) ?_
      refine z_icmp_ge (tgt := 100) hx d_Mo_takeBlock_48 (by decide) (fun h => absurd h (nI_ge (by omega) (by omega))) (fun _ => ?_)
      refine z_iconst (v := 0) hx d_Mo_takeBlock_51 rfl ?_
      refine z_top (b := nI 0) rfl ?_
      refine z_istore hx [(6, .int (nI 0)), (5, .int (nI a)), (4, .int (nI (sE e a))), (0, .ref (ad 13)), (1, .int (nI s)), (2, .int (nI (24 * T))), (3, .int (nI W))] d_Mo_takeBlock_52 (zN hml (by decide)) rfl ?_
      exact z_lv [0, 1, 2, 3, 4, 5, 6] _ rfl (J (e a) 0 (by omega))
  show zV x ad (Lay K ad S) 0 0 [(0, .ref (ad 13)), (1, .int (nI s))] 0 []
  refine z_bipush (v := 24) hx d_Mo_takeBlock_0 rfl ?_
  refine z_aload_n hx 0 d_Mo_takeBlock_2 rfl ?_
  refine z_get hx k_Mo (t := 13) rfl 9 (by decide) a3_232 rfl d_Mo_takeBlock_3 ?_
  refine z_top (b := nI T) hT ?_
  refine z_imul hx d_Mo_takeBlock_6 ?_
  refine z_top (b := nI (24 * T)) (pk_mul 24 T) ?_
  refine z_istore_n hx [(2, .int (nI (24 * T))), (0, .ref (ad 13)), (1, .int (nI s))] d_Mo_takeBlock_7 rfl (zN hml (by decide)) rfl ?_
  refine z_aload_n hx 1 d_Mo_takeBlock_8 rfl ?_
  refine z_get hx k_Mo (t := 13) rfl 8 (by decide) a3_231 rfl d_Mo_takeBlock_9 ?_
  refine z_iconst (v := 0) hx d_Mo_takeBlock_12 rfl ?_
  refine z_ialdK hx 0 rfl (t := 14) rfl (k := 0) (by decide) (by first | decide | omega) d_Mo_takeBlock_13 ?_
  refine z_aload_n hx 1 d_Mo_takeBlock_14 rfl ?_
  refine z_get hx k_Mo (t := 13) rfl 8 (by decide) a3_231 rfl d_Mo_takeBlock_15 ?_
  refine z_iconst (v := 1) hx d_Mo_takeBlock_18 rfl ?_
  refine z_ialdK hx 0 rfl (t := 14) rfl (k := 1) (by decide) (by first | decide | omega) d_Mo_takeBlock_19 ?_
  refine z_iadd hx d_Mo_takeBlock_20 ?_
  refine z_aload_n hx 1 d_Mo_takeBlock_21 rfl ?_
  refine z_get hx k_Mo (t := 13) rfl 8 (by decide) a3_231 rfl d_Mo_takeBlock_22 ?_
  refine z_iconst (v := 2) hx d_Mo_takeBlock_25 rfl ?_
  refine z_ialdK hx 0 rfl (t := 14) rfl (k := 2) (by decide) (by first | decide | omega) d_Mo_takeBlock_26 ?_
  refine z_iadd hx d_Mo_takeBlock_27 ?_
  refine z_aload_n hx 1 d_Mo_takeBlock_28 rfl ?_
  refine z_get hx k_Mo (t := 13) rfl 8 (by decide) a3_231 rfl d_Mo_takeBlock_29 ?_
  refine z_iconst (v := 3) hx d_Mo_takeBlock_32 rfl ?_
  refine z_ialdK hx 0 rfl (t := 14) rfl (k := 3) (by decide) (by first | decide | omega) d_Mo_takeBlock_33 ?_
  refine z_iadd hx d_Mo_takeBlock_34 ?_
  refine z_top (b := nI W) hW ?_
  refine z_istore_n hx [(3, .int (nI W)), (2, .int (nI (24 * T))), (0, .ref (ad 13)), (1, .int (nI s))] d_Mo_takeBlock_35 rfl (zN hml (by decide)) rfl ?_
  refine z_iconst (v := 0) hx d_Mo_takeBlock_36 rfl ?_
  refine z_top (b := nI (sE e 0)) rfl ?_
  refine z_istore hx [(4, .int (nI (sE e 0))), (3, .int (nI W)), (2, .int (nI (24 * T))), (0, .ref (ad 13)), (1, .int (nI s))] d_Mo_takeBlock_37 (zN hml (by decide)) rfl ?_
  refine z_iconst (v := 0) hx d_Mo_takeBlock_39 rfl ?_
  refine z_top (b := nI 0) rfl ?_
  refine z_istore hx [(5, .int (nI 0)), (4, .int (nI (sE e 0))), (3, .int (nI W)), (2, .int (nI (24 * T))), (0, .ref (ad 13)), (1, .int (nI s))] d_Mo_takeBlock_40 (zN hml (by decide)) rfl ?_
  exact z_lv [0, 1, 4, 5, 3, 2] _ rfl (O A 0 (by omega))
set_option maxRecDepth 20000 in
theorem c_Mo_nextArm_open {l : Launch} {D : va_G} {K : Nat → ClassId} {ad : Nat → Nat} {S : zSt} {s b o Z : Nat} (hs : s < 8) (hb : S.2.2 19 s = nI b) (hb2 : b < 4200) (hn : S.2.2 20 s = nI o) (hZ : S.2.2 13 6 = nI Z) (ho : o < Z) (hZ2 : Z ≤ 24) : zC l TB D zcls (ztyl K) y_Mo_nextArm (.code y_Mo_nextArm b_Mo_nextArm 6 (some FieldType.int)) (rmk 2 55) [.ref (ad 13), .int (nI s)] ad (Lay K ad S) (zP K ad (some (.int (S.2.2 16 (24 * b + o)))) S) := by
  refine zC.of (by decide +kernel) (Nat.le_of_ble_eq_true rfl) ?_
  intro x hx hr hml hnm hrm hq hNH
  show zV x ad (Lay K ad S) 0 0 [(0, .ref (ad 13)), (1, .int (nI s))] 0 []
  refine z_aload_n hx 0 d_Mo_nextArm_0 rfl ?_
  refine z_get hx k_Mo (t := 13) rfl 14 (by decide) a3_237 rfl d_Mo_nextArm_1 ?_
  refine z_iload_n hx 1 d_Mo_nextArm_4 rfl ?_
  refine z_ialdK hx 0 rfl (t := 19) rfl (k := s) (by omega) (by first | decide | omega) d_Mo_nextArm_5 ?_
  refine z_top (b := nI b) hb ?_
  refine z_if_lt (tgt := 44) hx d_Mo_nextArm_6 (by decide) (fun h => absurd h (nI_pos (by omega))) (fun _ => ?_)
  refine z_aload_n hx 0 d_Mo_nextArm_9 rfl ?_
  refine z_get hx k_Mo (t := 13) rfl 15 (by decide) a3_238 rfl d_Mo_nextArm_10 ?_
  refine z_iload_n hx 1 d_Mo_nextArm_13 rfl ?_
  refine z_ialdK hx 0 rfl (t := 20) rfl (k := s) (by omega) (by first | decide | omega) d_Mo_nextArm_14 ?_
  refine z_top (b := nI o) hn ?_
  refine z_aload_n hx 0 d_Mo_nextArm_15 rfl ?_
  refine z_get hx k_Mo (t := 13) rfl 6 (by decide) a3_229 rfl d_Mo_nextArm_16 ?_
  refine z_top (b := nI Z) hZ ?_
  refine z_icmp_ge (tgt := 44) hx d_Mo_nextArm_19 (by decide) (fun h => absurd h (nI_ge ho (by omega))) (fun _ => ?_)
  refine z_aload_n hx 0 d_Mo_nextArm_22 rfl ?_
  refine z_get hx k_Mo (t := 13) rfl 11 (by decide) a3_234 rfl d_Mo_nextArm_23 ?_
  refine z_bipush (v := 24) hx d_Mo_nextArm_26 rfl ?_
  refine z_aload_n hx 0 d_Mo_nextArm_28 rfl ?_
  refine z_get hx k_Mo (t := 13) rfl 14 (by decide) a3_237 rfl d_Mo_nextArm_29 ?_
  refine z_iload_n hx 1 d_Mo_nextArm_32 rfl ?_
  refine z_ialdK hx 0 rfl (t := 19) rfl (k := s) (by omega) (by first | decide | omega) d_Mo_nextArm_33 ?_
  refine z_top (b := nI b) hb ?_
  refine z_imul hx d_Mo_nextArm_34 ?_
  refine z_top (b := nI (24 * b)) (pk_mul 24 b) ?_
  refine z_aload_n hx 0 d_Mo_nextArm_35 rfl ?_
  refine z_get hx k_Mo (t := 13) rfl 15 (by decide) a3_238 rfl d_Mo_nextArm_36 ?_
  refine z_iload_n hx 1 d_Mo_nextArm_39 rfl ?_
  refine z_ialdK hx 0 rfl (t := 20) rfl (k := s) (by omega) (by first | decide | omega) d_Mo_nextArm_40 ?_
  refine z_top (b := nI o) hn ?_
  refine z_iadd hx d_Mo_nextArm_41 ?_
  refine z_top (b := nI (24 * b + o)) (nI_add _ _) ?_
  refine z_baldK hx 2 rfl (t := 16) rfl (k := (24 * b + o)) (by omega) (by first | decide | omega) d_Mo_nextArm_42 ?_
  exact z_iret hx hr rfl hq (Nat.le_refl _) (Nat.le_refl _) d_Mo_nextArm_43 ⟨rfl, rfl, rfl⟩
def naM (S : zSt) (s T Z A : Nat) (e : Nat → Nat) : zSt := stL (stM (stM (tbM S s T Z A e) 13 9 (nI T)) 17 s ((tbM S s T Z A e).2.2 17 s - 1)) 18 s (S.2.1 18 s)
set_option maxRecDepth 20000 in
theorem c_Mo_nextArm_neg {l : Launch} {D : va_G} {K : Nat → ClassId} {ad : Nat → Nat} {S : zSt} {s : Nat} (hs : s < 8) (hb : S.2.2 19 s < 0) {T Z A W : Nat} (hT : S.2.2 13 9 = nI T) (hT2 : T < 4200) (hZ : S.2.2 13 6 = nI Z) (hZ1 : 1 ≤ Z) (hZ2 : Z ≤ 24) (hA : S.2.2 13 5 = nI A) (hA4 : A ≤ 4) (hW : S.2.2 14 0 + S.2.2 14 1 + S.2.2 14 2 + S.2.2 14 3 = nI W) (hW1 : 1 ≤ W) (hW2 : W ≤ 24) {e : Nat → Nat} (he : ∀ a, a < A → S.2.2 14 a * (nI Z / nI W) = nI (e a)) (hsE : sE e A = Z) (hbo : bOk S) : zC l TB D zcls (ztyl K) y_Mo_nextArm (.code y_Mo_nextArm b_Mo_nextArm 6 (some FieldType.int)) (rmk 2 55) [.ref (ad 13), .int (nI s)] ad (Lay K ad S) (zP K ad (some (.int ((tbM S s T Z A e).2.2 16 (24 * T)))) (naM S s T Z A e)) := by
  refine zC.of (by decide +kernel) (Nat.le_of_ble_eq_true rfl) ?_
  intro x hx hr hml hnm hrm hq hNH
  show zV x ad (Lay K ad S) 0 0 [(0, .ref (ad 13)), (1, .int (nI s))] 0 []
  refine z_aload_n hx 0 d_Mo_nextArm_0 rfl ?_
  refine z_get hx k_Mo (t := 13) rfl 14 (by decide) a3_237 rfl d_Mo_nextArm_1 ?_
  refine z_iload_n hx 1 d_Mo_nextArm_4 rfl ?_
  refine z_ialdK hx 0 rfl (t := 19) rfl (k := s) (by omega) (by first | decide | omega) d_Mo_nextArm_5 ?_
  refine z_if_lt (tgt := 44) hx d_Mo_nextArm_6 (by decide) (fun _ => ?_) (fun h => absurd hb h)
  refine z_aload_n hx 0 d_Mo_nextArm_44 rfl ?_
  refine z_get hx k_Mo (t := 13) rfl 13 (by decide) a3_236 rfl d_Mo_nextArm_45 ?_
  refine z_iload_n hx 1 d_Mo_nextArm_48 rfl ?_
  refine z_laldK hx 1 rfl (t := 18) rfl (k := s) (by omega) (by first | decide | omega) d_Mo_nextArm_49 ?_
  refine z_lstore_n hx [(2, .long (S.2.1 18 s)), (0, .ref (ad 13)), (1, .int (nI s))] d_Mo_nextArm_50 rfl (zN hml (by decide)) rfl ?_
  refine z_aload_n hx 1 d_Mo_nextArm_51 rfl ?_
  refine z_iload_n hx 2 d_Mo_nextArm_52 rfl ?_
  refine z_cV hx (c_Mo_takeBlock hs hT (by omega) hZ hZ1 hZ2 hA hA4 hW hW1 hW2 he hsE hbo) k_Mo rfl ⟨a4_126, a4_129, a1_6, ⟨by decide +kernel, by decide +kernel⟩, fun sig h => by cases h; rfl⟩ a4_128 s_Mo_takeBlock rfl rfl d_Mo_nextArm_53 (by rw [hrm]; exact ⟨Nat.le_of_ble_eq_true rfl, Nat.le_of_ble_eq_true rfl, Nat.le_of_ble_eq_true rfl, Nat.le_of_ble_eq_true rfl⟩) ?_
  show zV x ad (Lay K ad (tbM S s T Z A e)) _ _ _ 56 [.int (nI T)]
  refine z_istore hx [(4, .int (nI T)), (2, .long (S.2.1 18 s)), (0, .ref (ad 13)), (1, .int (nI s))] d_Mo_nextArm_56 (zN hml (by decide)) rfl ?_
  refine z_aload_n hx 2 d_Mo_nextArm_58 rfl ?_
  refine z_get hx k_Mo (t := 13) rfl 11 (by decide) a3_234 rfl d_Mo_nextArm_59 ?_
  refine z_bipush (v := 24) hx d_Mo_nextArm_62 rfl ?_
  refine z_iload hx 0 d_Mo_nextArm_64 rfl ?_
  refine z_imul hx d_Mo_nextArm_66 ?_
  refine z_top (b := nI (24 * T)) (pk_mul 24 T) ?_
  refine z_baldK hx 2 rfl (t := 16) rfl (k := (24 * T)) (by omega) (by first | decide | omega) d_Mo_nextArm_67 ?_
  refine z_istore hx [(5, .int ((tbM S s T Z A e).2.2 16 (24 * T))), (4, .int (nI T)), (2, .long (S.2.1 18 s)), (0, .ref (ad 13)), (1, .int (nI s))] d_Mo_nextArm_68 (zN hml (by decide)) rfl ?_
  refine z_aload_n hx 3 d_Mo_nextArm_70 rfl ?_
  refine z_dup hx d_Mo_nextArm_71 rfl ?_
  refine z_get hx k_Mo (t := 13) rfl 9 (by decide) a3_232 rfl d_Mo_nextArm_72 ?_
  refine z_top (b := nI (T + 1)) tbM_9 ?_
  refine z_iconst (v := 1) hx d_Mo_nextArm_75 rfl ?_
  refine z_isub hx d_Mo_nextArm_76 ?_
  refine z_top (b := nI T) (nI_pred T) ?_
  refine z_put hx k_Mo (t := 13) rfl 9 (by decide) a3_232 rfl rfl rfl (Nat.le_of_ble_eq_true rfl) d_Mo_nextArm_77 (ce1 := Lay K ad (stM (tbM S s T Z A e) 13 9 (nI T))) (Lay_put (by decide) rfl) ?_
  refine z_aload_n hx 3 d_Mo_nextArm_80 rfl ?_
  refine z_get hx k_Mo (t := 13) rfl 12 (by decide) a3_235 rfl d_Mo_nextArm_81 ?_
  refine z_iload_n hx 4 d_Mo_nextArm_84 rfl ?_
  refine z_dup2_11 hx d_Mo_nextArm_85 rfl rfl ?_
  refine z_ialdK hx 0 rfl (t := 17) rfl (k := s) (by omega) (by first | decide | omega) d_Mo_nextArm_86 ?_
  refine z_top (b := (tbM S s T Z A e).2.2 17 s) (rd_n (by decide)) ?_
  refine z_iconst (v := 1) hx d_Mo_nextArm_87 rfl ?_
  refine z_isub hx d_Mo_nextArm_88 ?_
  refine z_iastK hx 0 rfl (t := 17) rfl (k := s) (by omega) (by first | decide | omega)  d_Mo_nextArm_89 (ce1 := Lay K ad (stM (stM (tbM S s T Z A e) 13 9 (nI T)) 17 s (((tbM S s T Z A e).2.2 17 s) - 1))) (Lay_put (by decide) rfl) ?_
  refine z_aload_n hx 3 d_Mo_nextArm_90 rfl ?_
  refine z_get hx k_Mo (t := 13) rfl 13 (by decide) a3_236 rfl d_Mo_nextArm_91 ?_
  refine z_iload_n hx 4 d_Mo_nextArm_94 rfl ?_
  refine z_lload_n hx 2 d_Mo_nextArm_95 rfl ?_
  refine z_lastK hx 1 rfl (t := 18) rfl (k := s) (by omega) (by first | decide | omega)  d_Mo_nextArm_96 (ce1 := Lay K ad (stL (stM (stM (tbM S s T Z A e) 13 9 (nI T)) 17 s (((tbM S s T Z A e).2.2 17 s) - 1)) 18 s (S.2.1 18 s))) (Lay_putL rfl) ?_
  refine z_iload hx 0 d_Mo_nextArm_97 rfl ?_
  exact z_iret hx hr rfl hq (Nat.le_refl _) (Nat.le_refl _) d_Mo_nextArm_99 ⟨rfl, rfl, rfl⟩
set_option maxRecDepth 20000 in
theorem c_Mo_nextArm_full {l : Launch} {D : va_G} {K : Nat → ClassId} {ad : Nat → Nat} {S : zSt} {s b : Nat} (hs : s < 8) (hb : S.2.2 19 s = nI b) (hb2 : b < 4200) (hn : S.2.2 20 s = S.2.2 13 6) {T Z A W : Nat} (hT : S.2.2 13 9 = nI T) (hT2 : T < 4200) (hZ : S.2.2 13 6 = nI Z) (hZ1 : 1 ≤ Z) (hZ2 : Z ≤ 24) (hA : S.2.2 13 5 = nI A) (hA4 : A ≤ 4) (hW : S.2.2 14 0 + S.2.2 14 1 + S.2.2 14 2 + S.2.2 14 3 = nI W) (hW1 : 1 ≤ W) (hW2 : W ≤ 24) {e : Nat → Nat} (he : ∀ a, a < A → S.2.2 14 a * (nI Z / nI W) = nI (e a)) (hsE : sE e A = Z) (hbo : bOk S) : zC l TB D zcls (ztyl K) y_Mo_nextArm (.code y_Mo_nextArm b_Mo_nextArm 6 (some FieldType.int)) (rmk 2 55) [.ref (ad 13), .int (nI s)] ad (Lay K ad S) (zP K ad (some (.int ((tbM S s T Z A e).2.2 16 (24 * T)))) (naM S s T Z A e)) := by
  refine zC.of (by decide +kernel) (Nat.le_of_ble_eq_true rfl) ?_
  intro x hx hr hml hnm hrm hq hNH
  show zV x ad (Lay K ad S) 0 0 [(0, .ref (ad 13)), (1, .int (nI s))] 0 []
  refine z_aload_n hx 0 d_Mo_nextArm_0 rfl ?_
  refine z_get hx k_Mo (t := 13) rfl 14 (by decide) a3_237 rfl d_Mo_nextArm_1 ?_
  refine z_iload_n hx 1 d_Mo_nextArm_4 rfl ?_
  refine z_ialdK hx 0 rfl (t := 19) rfl (k := s) (by omega) (by first | decide | omega) d_Mo_nextArm_5 ?_
  refine z_top (b := nI b) hb ?_
  refine z_if_lt (tgt := 44) hx d_Mo_nextArm_6 (by decide) (fun h => absurd h (nI_pos (by omega))) (fun _ => ?_)
  refine z_aload_n hx 0 d_Mo_nextArm_9 rfl ?_
  refine z_get hx k_Mo (t := 13) rfl 15 (by decide) a3_238 rfl d_Mo_nextArm_10 ?_
  refine z_iload_n hx 1 d_Mo_nextArm_13 rfl ?_
  refine z_ialdK hx 0 rfl (t := 20) rfl (k := s) (by omega) (by first | decide | omega) d_Mo_nextArm_14 ?_
  refine z_aload_n hx 0 d_Mo_nextArm_15 rfl ?_
  refine z_get hx k_Mo (t := 13) rfl 6 (by decide) a3_229 rfl d_Mo_nextArm_16 ?_
  refine z_icmp_ge (tgt := 44) hx d_Mo_nextArm_19 (by decide) (fun _ => ?_) (fun h => absurd (by rw [hn]; exact Int32.le_refl _) h)
  refine z_aload_n hx 0 d_Mo_nextArm_44 rfl ?_
  refine z_get hx k_Mo (t := 13) rfl 13 (by decide) a3_236 rfl d_Mo_nextArm_45 ?_
  refine z_iload_n hx 1 d_Mo_nextArm_48 rfl ?_
  refine z_laldK hx 1 rfl (t := 18) rfl (k := s) (by omega) (by first | decide | omega) d_Mo_nextArm_49 ?_
  refine z_lstore_n hx [(2, .long (S.2.1 18 s)), (0, .ref (ad 13)), (1, .int (nI s))] d_Mo_nextArm_50 rfl (zN hml (by decide)) rfl ?_
  refine z_aload_n hx 1 d_Mo_nextArm_51 rfl ?_
  refine z_iload_n hx 2 d_Mo_nextArm_52 rfl ?_
  refine z_cV hx (c_Mo_takeBlock hs hT (by omega) hZ hZ1 hZ2 hA hA4 hW hW1 hW2 he hsE hbo) k_Mo rfl ⟨a4_126, a4_129, a1_6, ⟨by decide +kernel, by decide +kernel⟩, fun sig h => by cases h; rfl⟩ a4_128 s_Mo_takeBlock rfl rfl d_Mo_nextArm_53 (by rw [hrm]; exact ⟨Nat.le_of_ble_eq_true rfl, Nat.le_of_ble_eq_true rfl, Nat.le_of_ble_eq_true rfl, Nat.le_of_ble_eq_true rfl⟩) ?_
  show zV x ad (Lay K ad (tbM S s T Z A e)) _ _ _ 56 [.int (nI T)]
  refine z_istore hx [(4, .int (nI T)), (2, .long (S.2.1 18 s)), (0, .ref (ad 13)), (1, .int (nI s))] d_Mo_nextArm_56 (zN hml (by decide)) rfl ?_
  refine z_aload_n hx 2 d_Mo_nextArm_58 rfl ?_
  refine z_get hx k_Mo (t := 13) rfl 11 (by decide) a3_234 rfl d_Mo_nextArm_59 ?_
  refine z_bipush (v := 24) hx d_Mo_nextArm_62 rfl ?_
  refine z_iload hx 0 d_Mo_nextArm_64 rfl ?_
  refine z_imul hx d_Mo_nextArm_66 ?_
  refine z_top (b := nI (24 * T)) (pk_mul 24 T) ?_
  refine z_baldK hx 2 rfl (t := 16) rfl (k := (24 * T)) (by omega) (by first | decide | omega) d_Mo_nextArm_67 ?_
  refine z_istore hx [(5, .int ((tbM S s T Z A e).2.2 16 (24 * T))), (4, .int (nI T)), (2, .long (S.2.1 18 s)), (0, .ref (ad 13)), (1, .int (nI s))] d_Mo_nextArm_68 (zN hml (by decide)) rfl ?_
  refine z_aload_n hx 3 d_Mo_nextArm_70 rfl ?_
  refine z_dup hx d_Mo_nextArm_71 rfl ?_
  refine z_get hx k_Mo (t := 13) rfl 9 (by decide) a3_232 rfl d_Mo_nextArm_72 ?_
  refine z_top (b := nI (T + 1)) tbM_9 ?_
  refine z_iconst (v := 1) hx d_Mo_nextArm_75 rfl ?_
  refine z_isub hx d_Mo_nextArm_76 ?_
  refine z_top (b := nI T) (nI_pred T) ?_
  refine z_put hx k_Mo (t := 13) rfl 9 (by decide) a3_232 rfl rfl rfl (Nat.le_of_ble_eq_true rfl) d_Mo_nextArm_77 (ce1 := Lay K ad (stM (tbM S s T Z A e) 13 9 (nI T))) (Lay_put (by decide) rfl) ?_
  refine z_aload_n hx 3 d_Mo_nextArm_80 rfl ?_
  refine z_get hx k_Mo (t := 13) rfl 12 (by decide) a3_235 rfl d_Mo_nextArm_81 ?_
  refine z_iload_n hx 4 d_Mo_nextArm_84 rfl ?_
  refine z_dup2_11 hx d_Mo_nextArm_85 rfl rfl ?_
  refine z_ialdK hx 0 rfl (t := 17) rfl (k := s) (by omega) (by first | decide | omega) d_Mo_nextArm_86 ?_
  refine z_top (b := (tbM S s T Z A e).2.2 17 s) (rd_n (by decide)) ?_
  refine z_iconst (v := 1) hx d_Mo_nextArm_87 rfl ?_
  refine z_isub hx d_Mo_nextArm_88 ?_
  refine z_iastK hx 0 rfl (t := 17) rfl (k := s) (by omega) (by first | decide | omega)  d_Mo_nextArm_89 (ce1 := Lay K ad (stM (stM (tbM S s T Z A e) 13 9 (nI T)) 17 s (((tbM S s T Z A e).2.2 17 s) - 1))) (Lay_put (by decide) rfl) ?_
  refine z_aload_n hx 3 d_Mo_nextArm_90 rfl ?_
  refine z_get hx k_Mo (t := 13) rfl 13 (by decide) a3_236 rfl d_Mo_nextArm_91 ?_
  refine z_iload_n hx 4 d_Mo_nextArm_94 rfl ?_
  refine z_lload_n hx 2 d_Mo_nextArm_95 rfl ?_
  refine z_lastK hx 1 rfl (t := 18) rfl (k := s) (by omega) (by first | decide | omega)  d_Mo_nextArm_96 (ce1 := Lay K ad (stL (stM (stM (tbM S s T Z A e) 13 9 (nI T)) 17 s (((tbM S s T Z A e).2.2 17 s) - 1)) 18 s (S.2.1 18 s))) (Lay_putL rfl) ?_
  refine z_iload hx 0 d_Mo_nextArm_97 rfl ?_
  exact z_iret hx hr rfl hq (Nat.le_refl _) (Nat.le_refl _) d_Mo_nextArm_99 ⟨rfl, rfl, rfl⟩
