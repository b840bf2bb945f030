set_option maxRecDepth 20000 in
theorem c_Sh_isKit {l : Launch} {D : va_G} {K : Nat → ClassId} {ad : Nat → Nat} {S : zSt} {k : Nat} (hk : k < 1000) : zC l TB D zcls (ztyl K) y_Sh_isKit (.code y_Sh_isKit b_Sh_isKit 1 (some FieldType.boolean)) (rmk 0 0) [.int (nI k)] ad (Lay K ad S) (zP K ad (some (.int 1)) S) := by
  refine zC.of (by decide +kernel) (Nat.le_of_ble_eq_true rfl) ?_
  intro x hx hr hml hnm hrm hq hNH
  show zV x ad (Lay K ad S) 0 0 [(0, .int (nI k))] 0 []
  refine z_iload_n hx 0 d_Sh_isKit_0 rfl ?_
  refine z_if_lt (tgt := 15) hx d_Sh_isKit_1 (by decide) (fun h => absurd h (nI_pos (by omega))) (fun _ => ?_)
  refine z_iload_n hx 0 d_Sh_isKit_4 rfl ?_
  refine z_sipush (v := 1000) hx d_Sh_isKit_5 rfl ?_
  refine z_icmp_ge (tgt := 15) hx d_Sh_isKit_8 (by decide) (fun h => absurd h (nI_nleL 1000 rfl hk (by decide))) (fun _ => ?_)
  refine z_iconst (v := 1) hx d_Sh_isKit_11 rfl ?_
  refine z_goto (tgt := 16) hx d_Sh_isKit_12 (by decide) ?_
  exact z_iret hx hr rfl hq (Nat.le_refl _) (Nat.le_refl _) d_Sh_isKit_16 ⟨rfl, rfl, rfl⟩
set_option maxRecDepth 20000 in
theorem c_Si_isPerson {l : Launch} {D : va_G} {K : Nat → ClassId} {ad : Nat → Nat} {S : zSt} {k : Nat} (hk : k < 100) : zC l TB D zcls (ztyl K) y_Si_isPerson (.code y_Si_isPerson b_Si_isPerson 1 (some FieldType.boolean)) (rmk 0 0) [.int (nI k)] ad (Lay K ad S) (zP K ad (some (.int 1)) S) := by
  refine zC.of (by decide +kernel) (Nat.le_of_ble_eq_true rfl) ?_
  intro x hx hr hml hnm hrm hq hNH
  show zV x ad (Lay K ad S) 0 0 [(0, .int (nI k))] 0 []
  refine z_iload_n hx 0 d_Si_isPerson_0 rfl ?_
  refine z_if_lt (tgt := 14) hx d_Si_isPerson_1 (by decide) (fun h => absurd h (nI_pos (by omega))) (fun _ => ?_)
  refine z_iload_n hx 0 d_Si_isPerson_4 rfl ?_
  refine z_bipush (v := 100) hx d_Si_isPerson_5 rfl ?_
  refine z_icmp_ge (tgt := 14) hx d_Si_isPerson_7 (by decide) (fun h => absurd h (nI_nleL 100 rfl hk (by decide))) (fun _ => ?_)
  refine z_iconst (v := 1) hx d_Si_isPerson_10 rfl ?_
  refine z_goto (tgt := 15) hx d_Si_isPerson_11 (by decide) ?_
  exact z_iret hx hr rfl hq (Nat.le_refl _) (Nat.le_refl _) d_Si_isPerson_15 ⟨rfl, rfl, rfl⟩
set_option maxRecDepth 20000 in
theorem c_Jo_tearNext {l : Launch} {D : va_G} {K : Nat → ClassId} {ad : Nat → Nat} {S : zSt}  : zC l TB D zcls (ztyl K) y_Jo_tearNext (.code y_Jo_tearNext b_Jo_tearNext 1 (none : Option FieldType)) (rmk 0 0) [.ref (ad 3)] ad (Lay K ad S) (zP K ad none (if S.2.2 3 0 = 0 then stM S 3 1 1 else S)) := by
  refine zC.of (by decide +kernel) (Nat.le_of_ble_eq_true rfl) ?_
  intro x hx hr hml hnm hrm hq hNH
  show zV x ad (Lay K ad S) 0 0 [(0, .ref (ad 3))] 0 []
  refine z_aload_n hx 0 d_Jo_tearNext_0 rfl ?_
  refine z_get hx k_Jo (t := 3) rfl 0 (by decide) a1_57 rfl d_Jo_tearNext_1 ?_
  refine z_if_ne (tgt := 12) hx d_Jo_tearNext_4 (by decide) (fun h1 => ?_) (fun h1 => ?_)
  · exact z_vret hx hr hq (Nat.le_refl _) (Nat.le_refl _) d_Jo_tearNext_12 ⟨by simp [h1], rfl, by simp [h1]⟩
  · refine z_aload_n hx 0 d_Jo_tearNext_7 rfl ?_
    refine z_iconst (v := 1) hx d_Jo_tearNext_8 rfl ?_
    refine z_put hx k_Jo (t := 3) rfl 1 (by decide) a1_59 rfl rfl rfl (Nat.le_of_ble_eq_true rfl) d_Jo_tearNext_9 (ce1 := Lay K ad (stM S 3 1 1)) (Lay_put (by decide) rfl) ?_
    exact z_vret hx hr hq (Nat.le_refl _) (Nat.le_refl _) d_Jo_tearNext_12 ⟨by simp [h1], rfl, by simp [h1]⟩
set_option maxRecDepth 20000 in
theorem c_Jo_write {l : Launch} {D : va_G} {K : Nat → ClassId} {ad : Nat → Nat} {S : zSt}  : zC l TB D zcls (ztyl K) y_Jo_write (.code y_Jo_write b_Jo_write 1 (some FieldType.boolean)) (rmk 0 0) [.ref (ad 3)] ad (Lay K ad S) (zP K ad (some (.int (if S.2.2 3 1 = 0 then 1 else 0))) (if S.2.2 3 1 = 0 then stM S 3 2 (S.2.2 3 2 + 1) else stM (stM S 3 1 0) 3 0 1)) := by
  refine zC.of (by decide +kernel) (Nat.le_of_ble_eq_true rfl) ?_
  intro x hx hr hml hnm hrm hq hNH
  show zV x ad (Lay K ad S) 0 0 [(0, .ref (ad 3))] 0 []
  refine z_aload_n hx 0 d_Jo_write_0 rfl ?_
  refine z_get hx k_Jo (t := 3) rfl 1 (by decide) a1_59 rfl d_Jo_write_1 ?_
  refine z_if_eq (tgt := 19) hx d_Jo_write_4 (by decide) (fun h1 => ?_) (fun h1 => ?_)
  · refine z_aload_n hx 0 d_Jo_write_19 rfl ?_
    refine z_dup hx d_Jo_write_20 rfl ?_
    refine z_get hx k_Jo (t := 3) rfl 2 (by decide) a1_60 rfl d_Jo_write_21 ?_
    refine z_iconst (v := 1) hx d_Jo_write_24 rfl ?_
    refine z_iadd hx d_Jo_write_25 ?_
    refine z_put hx k_Jo (t := 3) rfl 2 (by decide) a1_60 rfl rfl rfl (Nat.le_of_ble_eq_true rfl) d_Jo_write_26 (ce1 := Lay K ad (stM S 3 2 ((S.2.2 3 2) + 1))) (Lay_put (by decide) rfl) ?_
    refine z_iconst (v := 1) hx d_Jo_write_29 rfl ?_
    exact z_iret hx hr rfl hq (Nat.le_refl _) (Nat.le_refl _) d_Jo_write_30 ⟨by simp [h1], rfl, by simp [h1]⟩
  · refine z_aload_n hx 0 d_Jo_write_7 rfl ?_
    refine z_iconst (v := 0) hx d_Jo_write_8 rfl ?_
    refine z_put hx k_Jo (t := 3) rfl 1 (by decide) a1_59 rfl rfl rfl (Nat.le_of_ble_eq_true rfl) d_Jo_write_9 (ce1 := Lay K ad (stM S 3 1 0)) (Lay_put (by decide) rfl) ?_
    refine z_aload_n hx 0 d_Jo_write_12 rfl ?_
    refine z_iconst (v := 1) hx d_Jo_write_13 rfl ?_
    refine z_put hx k_Jo (t := 3) rfl 0 (by decide) a1_57 rfl rfl rfl (Nat.le_of_ble_eq_true rfl) d_Jo_write_14 (ce1 := Lay K ad (stM (stM S 3 1 0) 3 0 1)) (Lay_put (by decide) rfl) ?_
    refine z_iconst (v := 0) hx d_Jo_write_17 rfl ?_
    exact z_iret hx hr rfl hq (Nat.le_refl _) (Nat.le_refl _) d_Jo_write_18 ⟨by simp [h1], rfl, by simp [h1]⟩
set_option maxRecDepth 20000 in
theorem c_Pl_set {l : Launch} {D : va_G} {K : Nat → ClassId} {ad : Nat → Nat} {S : zSt} {a b c d e : Int32} : zC l TB D zcls (ztyl K) y_Pl_set (.code y_Pl_set b_Pl_set 6 (none : Option FieldType)) (rmk 0 0) [.ref (ad 1), .int a, .int b, .int c, .int d, .int e] ad (Lay K ad S) (zP K ad none (stM (stM (stM (stM (stM (stM (stM S 2 0 a) 2 1 b) 2 2 c) 2 3 d) 1 1 (2 + (if c ≤ 0 then 0 else 1) + (if d ≤ 0 then 0 else 1))) 1 2 (a + b + c + d)) 1 3 e)) := by
  refine zC.of (by decide +kernel) (Nat.le_of_ble_eq_true rfl) ?_
  intro x hx hr hml hnm hrm hq hNH
  show zV x ad (Lay K ad S) 0 0 [(0, .ref (ad 1)), (1, .int a), (2, .int b), (3, .int c), (4, .int d), (5, .int e)] 0 []
  refine z_aload_n hx 0 d_Pl_set_0 rfl ?_
  refine z_get hx k_Pl (t := 1) rfl 0 (by decide) a1_33 rfl d_Pl_set_1 ?_
  refine z_iconst (v := 0) hx d_Pl_set_4 rfl ?_
  refine z_iload_n hx 1 d_Pl_set_5 rfl ?_
  refine z_iastK hx 0 rfl (t := 2) rfl (k := 0) (by decide) (by first | decide | omega)  d_Pl_set_6 (ce1 := Lay K ad (stM S 2 0 a)) (Lay_put (by decide) rfl) ?_
  refine z_aload_n hx 0 d_Pl_set_7 rfl ?_
  refine z_get hx k_Pl (t := 1) rfl 0 (by decide) a1_33 rfl d_Pl_set_8 ?_
  refine z_iconst (v := 1) hx d_Pl_set_11 rfl ?_
  refine z_iload_n hx 2 d_Pl_set_12 rfl ?_
  refine z_iastK hx 0 rfl (t := 2) rfl (k := 1) (by decide) (by first | decide | omega)  d_Pl_set_13 (ce1 := Lay K ad (stM (stM S 2 0 a) 2 1 b)) (Lay_put (by decide) rfl) ?_
  refine z_aload_n hx 0 d_Pl_set_14 rfl ?_
  refine z_get hx k_Pl (t := 1) rfl 0 (by decide) a1_33 rfl d_Pl_set_15 ?_
  refine z_iconst (v := 2) hx d_Pl_set_18 rfl ?_
  refine z_iload_n hx 3 d_Pl_set_19 rfl ?_
  refine z_iastK hx 0 rfl (t := 2) rfl (k := 2) (by decide) (by first | decide | omega)  d_Pl_set_20 (ce1 := Lay K ad (stM (stM (stM S 2 0 a) 2 1 b) 2 2 c)) (Lay_put (by decide) rfl) ?_
  refine z_aload_n hx 0 d_Pl_set_21 rfl ?_
  refine z_get hx k_Pl (t := 1) rfl 0 (by decide) a1_33 rfl d_Pl_set_22 ?_
  refine z_iconst (v := 3) hx d_Pl_set_25 rfl ?_
  refine z_iload hx 4 d_Pl_set_26 rfl ?_
  refine z_iastK hx 0 rfl (t := 2) rfl (k := 3) (by decide) (by first | decide | omega)  d_Pl_set_28 (ce1 := Lay K ad (stM (stM (stM (stM S 2 0 a) 2 1 b) 2 2 c) 2 3 d)) (Lay_put (by decide) rfl) ?_
  refine z_aload_n hx 0 d_Pl_set_29 rfl ?_
  refine z_iconst (v := 2) hx d_Pl_set_30 rfl ?_
  refine z_iload_n hx 3 d_Pl_set_31 rfl ?_
  refine z_if_le (tgt := 39) hx d_Pl_set_32 (by decide) (fun h1 => ?_) (fun h1 => ?_)
  · refine z_iconst (v := 0) hx d_Pl_set_39 rfl ?_
    refine z_iadd hx d_Pl_set_40 ?_
    refine z_iload hx 4 d_Pl_set_41 rfl ?_
    refine z_if_le (tgt := 50) hx d_Pl_set_43 (by decide) (fun h2 => ?_) (fun h2 => ?_)
    · refine z_iconst (v := 0) hx d_Pl_set_50 rfl ?_
      refine z_iadd hx d_Pl_set_51 ?_
      refine z_put hx k_Pl (t := 1) rfl 1 (by decide) a1_34 rfl rfl rfl (Nat.le_of_ble_eq_true rfl) d_Pl_set_52 (ce1 := Lay K ad (stM (stM (stM (stM (stM S 2 0 a) 2 1 b) 2 2 c) 2 3 d) 1 1 ((2 + 0) + 0))) (Lay_put (by decide) rfl) ?_
      refine z_aload_n hx 0 d_Pl_set_55 rfl ?_
      refine z_iload_n hx 1 d_Pl_set_56 rfl ?_
      refine z_iload_n hx 2 d_Pl_set_57 rfl ?_
      refine z_iadd hx d_Pl_set_58 ?_
      refine z_iload_n hx 3 d_Pl_set_59 rfl ?_
      refine z_iadd hx d_Pl_set_60 ?_
      refine z_iload hx 4 d_Pl_set_61 rfl ?_
      refine z_iadd hx d_Pl_set_63 ?_
      refine z_put hx k_Pl (t := 1) rfl 2 (by decide) a1_37 rfl rfl rfl (Nat.le_of_ble_eq_true rfl) d_Pl_set_64 (ce1 := Lay K ad (stM (stM (stM (stM (stM (stM S 2 0 a) 2 1 b) 2 2 c) 2 3 d) 1 1 ((2 + 0) + 0)) 1 2 (((a + b) + c) + d))) (Lay_put (by decide) rfl) ?_
      refine z_aload_n hx 0 d_Pl_set_67 rfl ?_
      refine z_iload hx 5 d_Pl_set_68 rfl ?_
      refine z_put hx k_Pl (t := 1) rfl 3 (by decide) a1_38 rfl rfl rfl (Nat.le_of_ble_eq_true rfl) d_Pl_set_70 (ce1 := Lay K ad (stM (stM (stM (stM (stM (stM (stM S 2 0 a) 2 1 b) 2 2 c) 2 3 d) 1 1 ((2 + 0) + 0)) 1 2 (((a + b) + c) + d)) 1 3 e)) (Lay_put (by decide) rfl) ?_
      exact z_vret hx hr hq (Nat.le_refl _) (Nat.le_refl _) d_Pl_set_73 ⟨rfl, rfl, by simp [h1, h2]⟩
    · refine z_iconst (v := 1) hx d_Pl_set_46 rfl ?_
      refine z_goto (tgt := 51) hx d_Pl_set_47 (by decide) ?_
      refine z_iadd hx d_Pl_set_51 ?_
      refine z_put hx k_Pl (t := 1) rfl 1 (by decide) a1_34 rfl rfl rfl (Nat.le_of_ble_eq_true rfl) d_Pl_set_52 (ce1 := Lay K ad (stM (stM (stM (stM (stM S 2 0 a) 2 1 b) 2 2 c) 2 3 d) 1 1 ((2 + 0) + 1))) (Lay_put (by decide) rfl) ?_
      refine z_aload_n hx 0 d_Pl_set_55 rfl ?_
      refine z_iload_n hx 1 d_Pl_set_56 rfl ?_
      refine z_iload_n hx 2 d_Pl_set_57 rfl ?_
      refine z_iadd hx d_Pl_set_58 ?_
      refine z_iload_n hx 3 d_Pl_set_59 rfl ?_
      refine z_iadd hx d_Pl_set_60 ?_
      refine z_iload hx 4 d_Pl_set_61 rfl ?_
      refine z_iadd hx d_Pl_set_63 ?_
      refine z_put hx k_Pl (t := 1) rfl 2 (by decide) a1_37 rfl rfl rfl (Nat.le_of_ble_eq_true rfl) d_Pl_set_64 (ce1 := Lay K ad (stM (stM (stM (stM (stM (stM S 2 0 a) 2 1 b) 2 2 c) 2 3 d) 1 1 ((2 + 0) + 1)) 1 2 (((a + b) + c) + d))) (Lay_put (by decide) rfl) ?_
      refine z_aload_n hx 0 d_Pl_set_67 rfl ?_
      refine z_iload hx 5 d_Pl_set_68 rfl ?_
      refine z_put hx k_Pl (t := 1) rfl 3 (by decide) a1_38 rfl rfl rfl (Nat.le_of_ble_eq_true rfl) d_Pl_set_70 (ce1 := Lay K ad (stM (stM (stM (stM (stM (stM (stM S 2 0 a) 2 1 b) 2 2 c) 2 3 d) 1 1 ((2 + 0) + 1)) 1 2 (((a + b) + c) + d)) 1 3 e)) (Lay_put (by decide) rfl) ?_
      exact z_vret hx hr hq (Nat.le_refl _) (Nat.le_refl _) d_Pl_set_73 ⟨rfl, rfl, by simp [h1, h2]⟩
  · refine z_iconst (v := 1) hx d_Pl_set_35 rfl ?_
    refine z_goto (tgt := 40) hx d_Pl_set_36 (by decide) ?_
    refine z_iadd hx d_Pl_set_40 ?_
    refine z_iload hx 4 d_Pl_set_41 rfl ?_
    refine z_if_le (tgt := 50) hx d_Pl_set_43 (by decide) (fun h3 => ?_) (fun h3 => ?_)
    · refine z_iconst (v := 0) hx d_Pl_set_50 rfl ?_
      refine z_iadd hx d_Pl_set_51 ?_
      refine z_put hx k_Pl (t := 1) rfl 1 (by decide) a1_34 rfl rfl rfl (Nat.le_of_ble_eq_true rfl) d_Pl_set_52 (ce1 := Lay K ad (stM (stM (stM (stM (stM S 2 0 a) 2 1 b) 2 2 c) 2 3 d) 1 1 ((2 + 1) + 0))) (Lay_put (by decide) rfl) ?_
      refine z_aload_n hx 0 d_Pl_set_55 rfl ?_
      refine z_iload_n hx 1 d_Pl_set_56 rfl ?_
      refine z_iload_n hx 2 d_Pl_set_57 rfl ?_
      refine z_iadd hx d_Pl_set_58 ?_
      refine z_iload_n hx 3 d_Pl_set_59 rfl ?_
      refine z_iadd hx d_Pl_set_60 ?_
      refine z_iload hx 4 d_Pl_set_61 rfl ?_
      refine z_iadd hx d_Pl_set_63 ?_
      refine z_put hx k_Pl (t := 1) rfl 2 (by decide) a1_37 rfl rfl rfl (Nat.le_of_ble_eq_true rfl) d_Pl_set_64 (ce1 := Lay K ad (stM (stM (stM (stM (stM (stM S 2 0 a) 2 1 b) 2 2 c) 2 3 d) 1 1 ((2 + 1) + 0)) 1 2 (((a + b) + c) + d))) (Lay_put (by decide) rfl) ?_
      refine z_aload_n hx 0 d_Pl_set_67 rfl ?_
      refine z_iload hx 5 d_Pl_set_68 rfl ?_
      refine z_put hx k_Pl (t := 1) rfl 3 (by decide) a1_38 rfl rfl rfl (Nat.le_of_ble_eq_true rfl) d_Pl_set_70 (ce1 := Lay K ad (stM (stM (stM (stM (stM (stM (stM S 2 0 a) 2 1 b) 2 2 c) 2 3 d) 1 1 ((2 + 1) + 0)) 1 2 (((a + b) + c) + d)) 1 3 e)) (Lay_put (by decide) rfl) ?_
      exact z_vret hx hr hq (Nat.le_refl _) (Nat.le_refl _) d_Pl_set_73 ⟨rfl, rfl, by simp [h1, h3]⟩
    · refine z_iconst (v := 1) hx d_Pl_set_46 rfl ?_
      refine z_goto (tgt := 51) hx d_Pl_set_47 (by decide) ?_
      refine z_iadd hx d_Pl_set_51 ?_
      refine z_put hx k_Pl (t := 1) rfl 1 (by decide) a1_34 rfl rfl rfl (Nat.le_of_ble_eq_true rfl) d_Pl_set_52 (ce1 := Lay K ad (stM (stM (stM (stM (stM S 2 0 a) 2 1 b) 2 2 c) 2 3 d) 1 1 ((2 + 1) + 1))) (Lay_put (by decide) rfl) ?_
      refine z_aload_n hx 0 d_Pl_set_55 rfl ?_
      refine z_iload_n hx 1 d_Pl_set_56 rfl ?_
      refine z_iload_n hx 2 d_Pl_set_57 rfl ?_
      refine z_iadd hx d_Pl_set_58 ?_
      refine z_iload_n hx 3 d_Pl_set_59 rfl ?_
      refine z_iadd hx d_Pl_set_60 ?_
      refine z_iload hx 4 d_Pl_set_61 rfl ?_
      refine z_iadd hx d_Pl_set_63 ?_
      refine z_put hx k_Pl (t := 1) rfl 2 (by decide) a1_37 rfl rfl rfl (Nat.le_of_ble_eq_true rfl) d_Pl_set_64 (ce1 := Lay K ad (stM (stM (stM (stM (stM (stM S 2 0 a) 2 1 b) 2 2 c) 2 3 d) 1 1 ((2 + 1) + 1)) 1 2 (((a + b) + c) + d))) (Lay_put (by decide) rfl) ?_
      refine z_aload_n hx 0 d_Pl_set_67 rfl ?_
      refine z_iload hx 5 d_Pl_set_68 rfl ?_
      refine z_put hx k_Pl (t := 1) rfl 3 (by decide) a1_38 rfl rfl rfl (Nat.le_of_ble_eq_true rfl) d_Pl_set_70 (ce1 := Lay K ad (stM (stM (stM (stM (stM (stM (stM S 2 0 a) 2 1 b) 2 2 c) 2 3 d) 1 1 ((2 + 1) + 1)) 1 2 (((a + b) + c) + d)) 1 3 e)) (Lay_put (by decide) rfl) ?_
      exact z_vret hx hr hq (Nat.le_refl _) (Nat.le_refl _) d_Pl_set_73 ⟨rfl, rfl, by simp [h1, h3]⟩
set_option maxRecDepth 20000 in
theorem c_Pl_weightOf {l : Launch} {D : va_G} {K : Nat → ClassId} {ad : Nat → Nat} {S : zSt} {k : Nat} (hk : k < 4) : zC l TB D zcls (ztyl K) y_Pl_weightOf (.code y_Pl_weightOf b_Pl_weightOf 2 (some FieldType.int)) (rmk 0 0) [.ref (ad 1), .int (nI k)] ad (Lay K ad S) (zP K ad (some (.int (S.2.2 2 k))) S) := by
  refine zC.of (by decide +kernel) (Nat.le_of_ble_eq_true rfl) ?_
  intro x hx hr hml hnm hrm hq hNH
  show zV x ad (Lay K ad S) 0 0 [(0, .ref (ad 1)), (1, .int (nI k))] 0 []
  refine z_iload_n hx 1 d_Pl_weightOf_0 rfl ?_
  refine z_if_lt (tgt := 22) hx d_Pl_weightOf_1 (by decide) (fun h => absurd h (nI_pos (by omega))) (fun _ => ?_)
  refine z_iload_n hx 1 d_Pl_weightOf_4 rfl ?_
  refine z_aload_n hx 0 d_Pl_weightOf_5 rfl ?_
  refine z_get hx k_Pl (t := 1) rfl 0 (by decide) a1_33 rfl d_Pl_weightOf_6 ?_
  refine z_alen hx 0 rfl (t := 2) rfl (v := 4) rfl d_Pl_weightOf_9 ?_
  refine z_icmp_ge (tgt := 22) hx d_Pl_weightOf_10 (by decide) (fun h => absurd h (nI_nleL 4 rfl hk (by decide))) (fun _ => ?_)
  refine z_aload_n hx 0 d_Pl_weightOf_13 rfl ?_
  refine z_get hx k_Pl (t := 1) rfl 0 (by decide) a1_33 rfl d_Pl_weightOf_14 ?_
  refine z_iload_n hx 1 d_Pl_weightOf_17 rfl ?_
  refine z_ialdK hx 0 rfl (t := 2) rfl (k := k) (by omega) (by first | decide | omega) d_Pl_weightOf_18 ?_
  refine z_goto (tgt := 23) hx d_Pl_weightOf_19 (by decide) ?_
  exact z_iret hx hr rfl hq (Nat.le_refl _) (Nat.le_refl _) d_Pl_weightOf_23 ⟨rfl, rfl, rfl⟩
set_option maxRecDepth 20000 in
theorem c_Pl_entriesOf {l : Launch} {D : va_G} {K : Nat → ClassId} {ad : Nat → Nat} {S : zSt} {k : Nat} (hk : k < 4) : zC l TB D zcls (ztyl K) y_Pl_entriesOf (.code y_Pl_entriesOf b_Pl_entriesOf 2 (some FieldType.int)) (rmk 1 21) [.ref (ad 1), .int (nI k)] ad (Lay K ad S) (zP K ad (some (.int (if 0 < S.2.2 1 2 then S.2.2 2 k * (S.2.2 1 3 / S.2.2 1 2) else 0))) S) := by
  refine zC.of (by decide +kernel) (Nat.le_of_ble_eq_true rfl) ?_
  intro x hx hr hml hnm hrm hq hNH
  show zV x ad (Lay K ad S) 0 0 [(0, .ref (ad 1)), (1, .int (nI k))] 0 []
  refine z_aload_n hx 0 d_Pl_entriesOf_0 rfl ?_
  refine z_get hx k_Pl (t := 1) rfl 2 (by decide) a1_37 rfl d_Pl_entriesOf_1 ?_
  refine z_if_le (tgt := 25) hx d_Pl_entriesOf_4 (by decide) (fun h1 => ?_) (fun h1 => ?_)
  · refine z_iconst (v := 0) hx d_Pl_entriesOf_25 rfl ?_
    exact z_iret hx hr rfl hq (Nat.le_refl _) (Nat.le_refl _) d_Pl_entriesOf_26 ⟨by first | rw [if_pos (zgt h1)] | rw [if_neg (zngt h1)], rfl, rfl⟩
  · refine z_aload_n hx 0 d_Pl_entriesOf_7 rfl ?_
    refine z_iload_n hx 1 d_Pl_entriesOf_8 rfl ?_
    refine z_cV hx (c_Pl_weightOf hk) k_Pl rfl ⟨a2_212, a2_215, a1_2, ⟨by decide +kernel, by decide +kernel⟩, fun sig h => by cases h; rfl⟩ a2_213 a2_214 rfl rfl d_Pl_entriesOf_9 (by rw [hrm]; exact ⟨Nat.le_of_ble_eq_true rfl, Nat.le_of_ble_eq_true rfl, Nat.le_of_ble_eq_true rfl, Nat.le_of_ble_eq_true rfl⟩) ?_
    show zV x ad (Lay K ad S) _ _ _ 12 [.int (S.2.2 2 k)]
    refine z_aload_n hx 0 d_Pl_entriesOf_12 rfl ?_
    refine z_get hx k_Pl (t := 1) rfl 3 (by decide) a1_38 rfl d_Pl_entriesOf_13 ?_
    refine z_aload_n hx 0 d_Pl_entriesOf_16 rfl ?_
    refine z_get hx k_Pl (t := 1) rfl 2 (by decide) a1_37 rfl d_Pl_entriesOf_17 ?_
    refine z_idiv hx d_Pl_entriesOf_20 (fun h => by rw [h] at h1; exact h1 (by decide)) ?_
    refine z_imul hx d_Pl_entriesOf_21 ?_
    refine z_goto (tgt := 26) hx d_Pl_entriesOf_22 (by decide) ?_
    exact z_iret hx hr rfl hq (Nat.le_refl _) (Nat.le_refl _) d_Pl_entriesOf_26 ⟨by first | rw [if_pos (zgt h1)] | rw [if_neg (zngt h1)], rfl, rfl⟩
set_option maxRecDepth 20000 in
theorem c_Sh_use {l : Launch} {D : va_G} {K : Nat → ClassId} {ad : Nat → Nat} {S : zSt} {k : Nat} {p : Int32} (hk : k < 1000) : zC l TB D zcls (ztyl K) y_Sh_use (.code y_Sh_use b_Sh_use 3 (none : Option FieldType)) (rmk 1 20) [.ref (ad 4), .int (nI k), .int p] ad (Lay K ad S) (zP K ad none (stM (stM S 7 k 3) 8 k p)) := by
  refine zC.of (by decide +kernel) (Nat.le_of_ble_eq_true rfl) ?_
  intro x hx hr hml hnm hrm hq hNH
  show zV x ad (Lay K ad S) 0 0 [(0, .ref (ad 4)), (1, .int (nI k)), (2, .int p)] 0 []
  refine z_iload_n hx 1 d_Sh_use_0 rfl ?_
  refine z_cS hx (c_Sh_isKit hk) ⟨a2_133, a2_135, a1_4, ⟨by decide +kernel, by decide +kernel⟩, fun sig h => by cases h; rfl⟩ a2_134 rfl rfl d_Sh_use_1 (by rw [hrm]; exact ⟨Nat.le_of_ble_eq_true rfl, Nat.le_of_ble_eq_true rfl, Nat.le_of_ble_eq_true rfl, Nat.le_of_ble_eq_true rfl⟩) ?_
  show zV x ad (Lay K ad S) _ _ _ 4 [.int 1]
  refine z_if_eq (tgt := 21) hx d_Sh_use_4 (by decide) (fun h => absurd h (by decide)) (fun _ => ?_)
  refine z_aload_n hx 0 d_Sh_use_7 rfl ?_
  refine z_get hx k_Sh (t := 4) rfl 2 (by decide) a1_77 rfl d_Sh_use_8 ?_
  refine z_iload_n hx 1 d_Sh_use_11 rfl ?_
  refine z_iconst (v := 3) hx d_Sh_use_12 rfl ?_
  refine z_iastK hx 0 rfl (t := 7) rfl (k := k) (by omega) (by first | decide | omega)  d_Sh_use_13 (ce1 := Lay K ad (stM S 7 k 3)) (Lay_put (by decide) rfl) ?_
  refine z_aload_n hx 0 d_Sh_use_14 rfl ?_
  refine z_get hx k_Sh (t := 4) rfl 3 (by decide) a1_78 rfl d_Sh_use_15 ?_
  refine z_iload_n hx 1 d_Sh_use_18 rfl ?_
  refine z_iload_n hx 2 d_Sh_use_19 rfl ?_
  refine z_iastK hx 0 rfl (t := 8) rfl (k := k) (by omega) (by first | decide | omega)  d_Sh_use_20 (ce1 := Lay K ad (stM (stM S 7 k 3) 8 k p)) (Lay_put (by decide) rfl) ?_
  exact z_vret hx hr hq (Nat.le_refl _) (Nat.le_refl _) d_Sh_use_21 ⟨rfl, rfl, rfl⟩
set_option maxRecDepth 20000 in
theorem c_Sh_armOf {l : Launch} {D : va_G} {K : Nat → ClassId} {ad : Nat → Nat} {S : zSt} {k : Nat} (hk : k < 1000) : zC l TB D zcls (ztyl K) y_Sh_armOf (.code y_Sh_armOf b_Sh_armOf 2 (some FieldType.int)) (rmk 1 20) [.ref (ad 4), .int (nI k)] ad (Lay K ad S) (zP K ad (some (.int (S.2.2 6 k))) S) := by
  refine zC.of (by decide +kernel) (Nat.le_of_ble_eq_true rfl) ?_
  intro x hx hr hml hnm hrm hq hNH
  show zV x ad (Lay K ad S) 0 0 [(0, .ref (ad 4)), (1, .int (nI k))] 0 []
  refine z_iload_n hx 1 d_Sh_armOf_0 rfl ?_
  refine z_cS hx (c_Sh_isKit hk) ⟨a2_133, a2_135, a1_4, ⟨by decide +kernel, by decide +kernel⟩, fun sig h => by cases h; rfl⟩ a2_134 rfl rfl d_Sh_armOf_1 (by rw [hrm]; exact ⟨Nat.le_of_ble_eq_true rfl, Nat.le_of_ble_eq_true rfl, Nat.le_of_ble_eq_true rfl, Nat.le_of_ble_eq_true rfl⟩) ?_
  show zV x ad (Lay K ad S) _ _ _ 4 [.int 1]
  refine z_if_eq (tgt := 16) hx d_Sh_armOf_4 (by decide) (fun h => absurd h (by decide)) (fun _ => ?_)
  refine z_aload_n hx 0 d_Sh_armOf_7 rfl ?_
  refine z_get hx k_Sh (t := 4) rfl 1 (by decide) a1_76 rfl d_Sh_armOf_8 ?_
  refine z_iload_n hx 1 d_Sh_armOf_11 rfl ?_
  refine z_ialdK hx 0 rfl (t := 6) rfl (k := k) (by omega) (by first | decide | omega) d_Sh_armOf_12 ?_
  refine z_goto (tgt := 17) hx d_Sh_armOf_13 (by decide) ?_
  exact z_iret hx hr rfl hq (Nat.le_refl _) (Nat.le_refl _) d_Sh_armOf_17 ⟨rfl, rfl, rfl⟩
set_option maxRecDepth 20000 in
theorem c_Sh_userOf {l : Launch} {D : va_G} {K : Nat → ClassId} {ad : Nat → Nat} {S : zSt} {k : Nat} (hk : k < 1000) : zC l TB D zcls (ztyl K) y_Sh_userOf (.code y_Sh_userOf b_Sh_userOf 2 (some FieldType.int)) (rmk 1 20) [.ref (ad 4), .int (nI k)] ad (Lay K ad S) (zP K ad (some (.int (if S.2.2 7 k = 3 then S.2.2 5 k * 100 + S.2.2 8 k else -1))) S) := by
  refine zC.of (by decide +kernel) (Nat.le_of_ble_eq_true rfl) ?_
  intro x hx hr hml hnm hrm hq hNH
  show zV x ad (Lay K ad S) 0 0 [(0, .ref (ad 4)), (1, .int (nI k))] 0 []
  refine z_iload_n hx 1 d_Sh_userOf_0 rfl ?_
  refine z_cS hx (c_Sh_isKit hk) ⟨a2_133, a2_135, a1_4, ⟨by decide +kernel, by decide +kernel⟩, fun sig h => by cases h; rfl⟩ a2_134 rfl rfl d_Sh_userOf_1 (by rw [hrm]; exact ⟨Nat.le_of_ble_eq_true rfl, Nat.le_of_ble_eq_true rfl, Nat.le_of_ble_eq_true rfl, Nat.le_of_ble_eq_true rfl⟩) ?_
  show zV x ad (Lay K ad S) _ _ _ 4 [.int 1]
  refine z_if_eq (tgt := 36) hx d_Sh_userOf_4 (by decide) (fun h => absurd h (by decide)) (fun _ => ?_)
  refine z_aload_n hx 0 d_Sh_userOf_7 rfl ?_
  refine z_get hx k_Sh (t := 4) rfl 2 (by decide) a1_77 rfl d_Sh_userOf_8 ?_
  refine z_iload_n hx 1 d_Sh_userOf_11 rfl ?_
  refine z_ialdK hx 0 rfl (t := 7) rfl (k := k) (by omega) (by first | decide | omega) d_Sh_userOf_12 ?_
  refine z_iconst (v := 3) hx d_Sh_userOf_13 rfl ?_
  refine z_icmp_ne (tgt := 36) hx d_Sh_userOf_14 (by decide) (fun h1 => ?_) (fun h1 => ?_)
  · refine z_iconst (v := (-1)) hx d_Sh_userOf_36 rfl ?_
    exact z_iret hx hr rfl hq (Nat.le_refl _) (Nat.le_refl _) d_Sh_userOf_37 ⟨by simp [h1], rfl, by simp [h1]⟩
  · refine z_aload_n hx 0 d_Sh_userOf_17 rfl ?_
    refine z_get hx k_Sh (t := 4) rfl 0 (by decide) a1_75 rfl d_Sh_userOf_18 ?_
    refine z_iload_n hx 1 d_Sh_userOf_21 rfl ?_
    refine z_ialdK hx 0 rfl (t := 5) rfl (k := k) (by omega) (by first | decide | omega) d_Sh_userOf_22 ?_
    refine z_bipush (v := 100) hx d_Sh_userOf_23 rfl ?_
    refine z_imul hx d_Sh_userOf_25 ?_
    refine z_aload_n hx 0 d_Sh_userOf_26 rfl ?_
    refine z_get hx k_Sh (t := 4) rfl 3 (by decide) a1_78 rfl d_Sh_userOf_27 ?_
    refine z_iload_n hx 1 d_Sh_userOf_30 rfl ?_
    refine z_ialdK hx 0 rfl (t := 8) rfl (k := k) (by omega) (by first | decide | omega) d_Sh_userOf_31 ?_
    refine z_iadd hx d_Sh_userOf_32 ?_
    refine z_goto (tgt := 37) hx d_Sh_userOf_33 (by decide) ?_
    exact z_iret hx hr rfl hq (Nat.le_refl _) (Nat.le_refl _) d_Sh_userOf_37 ⟨by simp [h1], rfl, by simp [h1]⟩
set_option maxRecDepth 20000 in
theorem c_Sh_isFree {l : Launch} {D : va_G} {K : Nat → ClassId} {ad : Nat → Nat} {S : zSt} {k : Nat} {s r : Int32} (hk : k < 1000) : zC l TB D zcls (ztyl K) y_Sh_isFree (.code y_Sh_isFree b_Sh_isFree 4 (some FieldType.boolean)) (rmk 1 20) [.ref (ad 4), .int (nI k), .int s, .int r] ad (Lay K ad S) (zP K ad (some (.int (if S.2.2 7 k = 1 ∧ S.2.2 5 k = s ∧ S.2.2 6 k = r then 1 else 0))) S) := by
  refine zC.of (by decide +kernel) (Nat.le_of_ble_eq_true rfl) ?_
  intro x hx hr hml hnm hrm hq hNH
  show zV x ad (Lay K ad S) 0 0 [(0, .ref (ad 4)), (1, .int (nI k)), (2, .int s), (3, .int r)] 0 []
  refine z_iload_n hx 1 d_Sh_isFree_0 rfl ?_
  refine z_cS hx (c_Sh_isKit hk) ⟨a2_133, a2_135, a1_4, ⟨by decide +kernel, by decide +kernel⟩, fun sig h => by cases h; rfl⟩ a2_134 rfl rfl d_Sh_isFree_1 (by rw [hrm]; exact ⟨Nat.le_of_ble_eq_true rfl, Nat.le_of_ble_eq_true rfl, Nat.le_of_ble_eq_true rfl, Nat.le_of_ble_eq_true rfl⟩) ?_
  show zV x ad (Lay K ad S) _ _ _ 4 [.int 1]
  refine z_if_eq (tgt := 41) hx d_Sh_isFree_4 (by decide) (fun h => absurd h (by decide)) (fun _ => ?_)
  refine z_aload_n hx 0 d_Sh_isFree_7 rfl ?_
  refine z_get hx k_Sh (t := 4) rfl 2 (by decide) a1_77 rfl d_Sh_isFree_8 ?_
  refine z_iload_n hx 1 d_Sh_isFree_11 rfl ?_
  refine z_ialdK hx 0 rfl (t := 7) rfl (k := k) (by omega) (by first | decide | omega) d_Sh_isFree_12 ?_
  refine z_iconst (v := 1) hx d_Sh_isFree_13 rfl ?_
  refine z_icmp_ne (tgt := 41) hx d_Sh_isFree_14 (by decide) (fun h1 => ?_) (fun h1 => ?_)
  · refine z_iconst (v := 0) hx d_Sh_isFree_41 rfl ?_
    exact z_iret hx hr rfl hq (Nat.le_refl _) (Nat.le_refl _) d_Sh_isFree_42 ⟨by simp [h1], rfl, by simp [h1]⟩
  · refine z_aload_n hx 0 d_Sh_isFree_17 rfl ?_
    refine z_get hx k_Sh (t := 4) rfl 0 (by decide) a1_75 rfl d_Sh_isFree_18 ?_
    refine z_iload_n hx 1 d_Sh_isFree_21 rfl ?_
    refine z_ialdK hx 0 rfl (t := 5) rfl (k := k) (by omega) (by first | decide | omega) d_Sh_isFree_22 ?_
    refine z_iload_n hx 2 d_Sh_isFree_23 rfl ?_
    refine z_icmp_ne (tgt := 41) hx d_Sh_isFree_24 (by decide) (fun h2 => ?_) (fun h2 => ?_)
    · refine z_iconst (v := 0) hx d_Sh_isFree_41 rfl ?_
      exact z_iret hx hr rfl hq (Nat.le_refl _) (Nat.le_refl _) d_Sh_isFree_42 ⟨by simp [h1, h2], rfl, by simp [h1, h2]⟩
    · refine z_aload_n hx 0 d_Sh_isFree_27 rfl ?_
      refine z_get hx k_Sh (t := 4) rfl 1 (by decide) a1_76 rfl d_Sh_isFree_28 ?_
      refine z_iload_n hx 1 d_Sh_isFree_31 rfl ?_
      refine z_ialdK hx 0 rfl (t := 6) rfl (k := k) (by omega) (by first | decide | omega) d_Sh_isFree_32 ?_
      refine z_iload_n hx 3 d_Sh_isFree_33 rfl ?_
      refine z_icmp_ne (tgt := 41) hx d_Sh_isFree_34 (by decide) (fun h3 => ?_) (fun h3 => ?_)
      · refine z_iconst (v := 0) hx d_Sh_isFree_41 rfl ?_
        exact z_iret hx hr rfl hq (Nat.le_refl _) (Nat.le_refl _) d_Sh_isFree_42 ⟨by simp [h1, h2, h3], rfl, by simp [h1, h2, h3]⟩
      · refine z_iconst (v := 1) hx d_Sh_isFree_37 rfl ?_
        refine z_goto (tgt := 42) hx d_Sh_isFree_38 (by decide) ?_
        exact z_iret hx hr rfl hq (Nat.le_refl _) (Nat.le_refl _) d_Sh_isFree_42 ⟨by simp [h1, h2, h3], rfl, by simp [h1, h2, h3]⟩
set_option maxRecDepth 20000 in
theorem c_Si_isAllotted {l : Launch} {D : va_G} {K : Nat → ClassId} {ad : Nat → Nat} {S : zSt} {i p : Nat} (hi : i < 10) (ho : S.2.2 9 i ≠ 0) (hp : p < 100) : zC l TB D zcls (ztyl K) y_Si_isAllotted (.code y_Si_isAllotted b_Si_isAllotted 2 (some FieldType.boolean)) (rmk 1 20) [.ref (ad (100 + i)), .int (nI p)] ad (Lay K ad S) (zP K ad (some (.int (if S.2.2 (110 + i) p = 0 then 0 else 1))) S) := by
  refine zC.of (by decide +kernel) (Nat.le_of_ble_eq_true rfl) ?_
  intro x hx hr hml hnm hrm hq hNH
  show zV x ad (Lay K ad S) 0 0 [(0, .ref (ad (100 + i))), (1, .int (nI p))] 0 []
  refine z_iload_n hx 1 d_Si_isAllotted_0 rfl ?_
  refine z_cS hx (c_Si_isPerson hp) ⟨a2_162, a2_164, a1_13, ⟨by decide +kernel, by decide +kernel⟩, fun sig h => by cases h; rfl⟩ a2_163 rfl rfl d_Si_isAllotted_1 (by rw [hrm]; exact ⟨Nat.le_of_ble_eq_true rfl, Nat.le_of_ble_eq_true rfl, Nat.le_of_ble_eq_true rfl, Nat.le_of_ble_eq_true rfl⟩) ?_
  show zV x ad (Lay K ad S) _ _ _ 4 [.int 1]
  refine z_if_eq (tgt := 20) hx d_Si_isAllotted_4 (by decide) (fun h => absurd h (by decide)) (fun _ => ?_)
  refine z_aload_n hx 0 d_Si_isAllotted_7 rfl ?_
  refine z_get hx k_Si (t := 100 + i) (Lay_Si hi ho) 0 (by decide) a2_87 rfl d_Si_isAllotted_8 ?_
  refine z_iload_n hx 1 d_Si_isAllotted_11 rfl ?_
  refine z_ialdK hx 0 rfl (t := 110 + i) (Lay_r0 hi ho) (k := p) (by omega) (by first | decide | omega) d_Si_isAllotted_12 ?_
  refine z_if_eq (tgt := 20) hx d_Si_isAllotted_13 (by decide) (fun h1 => ?_) (fun h1 => ?_)
  · refine z_iconst (v := 0) hx d_Si_isAllotted_20 rfl ?_
    exact z_iret hx hr rfl hq (Nat.le_refl _) (Nat.le_refl _) d_Si_isAllotted_21 ⟨by simp [h1], rfl, by simp [h1]⟩
  · refine z_iconst (v := 1) hx d_Si_isAllotted_16 rfl ?_
    refine z_goto (tgt := 21) hx d_Si_isAllotted_17 (by decide) ?_
    exact z_iret hx hr rfl hq (Nat.le_refl _) (Nat.le_refl _) d_Si_isAllotted_21 ⟨by simp [h1], rfl, by simp [h1]⟩
set_option maxRecDepth 20000 in
theorem c_Si_isKnown {l : Launch} {D : va_G} {K : Nat → ClassId} {ad : Nat → Nat} {S : zSt} {i p : Nat} (hi : i < 10) (ho : S.2.2 9 i ≠ 0) (hp : p < 100) : zC l TB D zcls (ztyl K) y_Si_isKnown (.code y_Si_isKnown b_Si_isKnown 2 (some FieldType.boolean)) (rmk 1 20) [.ref (ad (100 + i)), .int (nI p)] ad (Lay K ad S) (zP K ad (some (.int (if S.2.2 (110 + i) p = 2 then 1 else 0))) S) := by
  refine zC.of (by decide +kernel) (Nat.le_of_ble_eq_true rfl) ?_
  intro x hx hr hml hnm hrm hq hNH
  show zV x ad (Lay K ad S) 0 0 [(0, .ref (ad (100 + i))), (1, .int (nI p))] 0 []
  refine z_iload_n hx 1 d_Si_isKnown_0 rfl ?_
  refine z_cS hx (c_Si_isPerson hp) ⟨a2_162, a2_164, a1_13, ⟨by decide +kernel, by decide +kernel⟩, fun sig h => by cases h; rfl⟩ a2_163 rfl rfl d_Si_isKnown_1 (by rw [hrm]; exact ⟨Nat.le_of_ble_eq_true rfl, Nat.le_of_ble_eq_true rfl, Nat.le_of_ble_eq_true rfl, Nat.le_of_ble_eq_true rfl⟩) ?_
  show zV x ad (Lay K ad S) _ _ _ 4 [.int 1]
  refine z_if_eq (tgt := 21) hx d_Si_isKnown_4 (by decide) (fun h => absurd h (by decide)) (fun _ => ?_)
  refine z_aload_n hx 0 d_Si_isKnown_7 rfl ?_
  refine z_get hx k_Si (t := 100 + i) (Lay_Si hi ho) 0 (by decide) a2_87 rfl d_Si_isKnown_8 ?_
  refine z_iload_n hx 1 d_Si_isKnown_11 rfl ?_
  refine z_ialdK hx 0 rfl (t := 110 + i) (Lay_r0 hi ho) (k := p) (by omega) (by first | decide | omega) d_Si_isKnown_12 ?_
  refine z_iconst (v := 2) hx d_Si_isKnown_13 rfl ?_
  refine z_icmp_ne (tgt := 21) hx d_Si_isKnown_14 (by decide) (fun h1 => ?_) (fun h1 => ?_)
  · refine z_iconst (v := 0) hx d_Si_isKnown_21 rfl ?_
    exact z_iret hx hr rfl hq (Nat.le_refl _) (Nat.le_refl _) d_Si_isKnown_22 ⟨by simp [h1], rfl, by simp [h1]⟩
  · refine z_iconst (v := 1) hx d_Si_isKnown_17 rfl ?_
    refine z_goto (tgt := 22) hx d_Si_isKnown_18 (by decide) ?_
    exact z_iret hx hr rfl hq (Nat.le_refl _) (Nat.le_refl _) d_Si_isKnown_22 ⟨by simp [h1], rfl, by simp [h1]⟩
set_option maxRecDepth 20000 in
theorem c_Si_enrol {l : Launch} {D : va_G} {K : Nat → ClassId} {ad : Nat → Nat} {S : zSt} {i p : Nat} (hi : i < 10) (ho : S.2.2 9 i ≠ 0) (hp : p < 100) {s a w : Int32} : zC l TB D zcls (ztyl K) y_Si_enrol (.code y_Si_enrol b_Si_enrol 5 (none : Option FieldType)) (rmk 1 20) [.ref (ad (100 + i)), .int (nI p), .int s, .int a, .int w] ad (Lay K ad S) (zP K ad none (stM (stM (stM S (110 + i) p w) (120 + i) p s) (130 + i) p a)) := by
  refine zC.of (by decide +kernel) (Nat.le_of_ble_eq_true rfl) ?_
  intro x hx hr hml hnm hrm hq hNH
  show zV x ad (Lay K ad S) 0 0 [(0, .ref (ad (100 + i))), (1, .int (nI p)), (2, .int s), (3, .int a), (4, .int w)] 0 []
  refine z_iload_n hx 1 d_Si_enrol_0 rfl ?_
  refine z_cS hx (c_Si_isPerson hp) ⟨a2_162, a2_164, a1_13, ⟨by decide +kernel, by decide +kernel⟩, fun sig h => by cases h; rfl⟩ a2_163 rfl rfl d_Si_enrol_1 (by rw [hrm]; exact ⟨Nat.le_of_ble_eq_true rfl, Nat.le_of_ble_eq_true rfl, Nat.le_of_ble_eq_true rfl, Nat.le_of_ble_eq_true rfl⟩) ?_
  show zV x ad (Lay K ad S) _ _ _ 4 [.int 1]
  refine z_if_eq (tgt := 29) hx d_Si_enrol_4 (by decide) (fun h => absurd h (by decide)) (fun _ => ?_)
  refine z_aload_n hx 0 d_Si_enrol_7 rfl ?_
  refine z_get hx k_Si (t := 100 + i) (Lay_Si hi ho) 0 (by decide) a2_87 rfl d_Si_enrol_8 ?_
  refine z_iload_n hx 1 d_Si_enrol_11 rfl ?_
  refine z_iload hx 4 d_Si_enrol_12 rfl ?_
  refine z_iastK hx 0 rfl (t := 110 + i) (Lay_r0 hi ho) (k := p) (by omega) (by first | decide | omega)  d_Si_enrol_14 (ce1 := Lay K ad (stM S (110 + i) p w)) (put_r0 hi ho) ?_
  refine z_aload_n hx 0 d_Si_enrol_15 rfl ?_
  refine z_get hx k_Si (t := 100 + i) (Lay_Si hi (ho_n (by omega) ho)) 1 (by decide) a2_88 rfl d_Si_enrol_16 ?_
  refine z_iload_n hx 1 d_Si_enrol_19 rfl ?_
  refine z_iload_n hx 2 d_Si_enrol_20 rfl ?_
  refine z_iastK hx 0 rfl (t := 120 + i) (Lay_r1 hi (ho_n (by omega) ho)) (k := p) (by omega) (by first | decide | omega)  d_Si_enrol_21 (ce1 := Lay K ad (stM (stM S (110 + i) p w) (120 + i) p s)) (put_r1 hi (ho_n (by omega) ho)) ?_
  refine z_aload_n hx 0 d_Si_enrol_22 rfl ?_
  refine z_get hx k_Si (t := 100 + i) (Lay_Si hi (ho_n (by omega) (ho_n (by omega) ho))) 2 (by decide) a2_89 rfl d_Si_enrol_23 ?_
  refine z_iload_n hx 1 d_Si_enrol_26 rfl ?_
  refine z_iload_n hx 3 d_Si_enrol_27 rfl ?_
  refine z_iastK hx 0 rfl (t := 130 + i) (Lay_r2 hi (ho_n (by omega) (ho_n (by omega) ho))) (k := p) (by omega) (by first | decide | omega)  d_Si_enrol_28 (ce1 := Lay K ad (stM (stM (stM S (110 + i) p w) (120 + i) p s) (130 + i) p a)) (put_r2 hi (ho_n (by omega) (ho_n (by omega) ho))) ?_
  exact z_vret hx hr hq (Nat.le_refl _) (Nat.le_refl _) d_Si_enrol_29 ⟨rfl, rfl, rfl⟩
set_option maxRecDepth 20000 in
theorem c_Si_tell {l : Launch} {D : va_G} {K : Nat → ClassId} {ad : Nat → Nat} {S : zSt} {i p : Nat} (hi : i < 10) (ho : S.2.2 9 i ≠ 0) (hp : p < 100) : zC l TB D zcls (ztyl K) y_Si_tell (.code y_Si_tell b_Si_tell 2 (some FieldType.boolean)) (rmk 1 20) [.ref (ad (100 + i)), .int (nI p)] ad (Lay K ad S) (zP K ad (some (.int (if S.2.2 (110 + i) p = 1 then 1 else 0))) (if S.2.2 (110 + i) p = 1 then stM S (110 + i) p 2 else S)) := by
  refine zC.of (by decide +kernel) (Nat.le_of_ble_eq_true rfl) ?_
  intro x hx hr hml hnm hrm hq hNH
  show zV x ad (Lay K ad S) 0 0 [(0, .ref (ad (100 + i))), (1, .int (nI p))] 0 []
  refine z_iload_n hx 1 d_Si_tell_0 rfl ?_
  refine z_cS hx (c_Si_isPerson hp) ⟨a2_162, a2_164, a1_13, ⟨by decide +kernel, by decide +kernel⟩, fun sig h => by cases h; rfl⟩ a2_163 rfl rfl d_Si_tell_1 (by rw [hrm]; exact ⟨Nat.le_of_ble_eq_true rfl, Nat.le_of_ble_eq_true rfl, Nat.le_of_ble_eq_true rfl, Nat.le_of_ble_eq_true rfl⟩) ?_
  show zV x ad (Lay K ad S) _ _ _ 4 [.int 1]
  refine z_if_eq (tgt := 26) hx d_Si_tell_4 (by decide) (fun h => absurd h (by decide)) (fun _ => ?_)
  refine z_aload_n hx 0 d_Si_tell_7 rfl ?_
  refine z_get hx k_Si (t := 100 + i) (Lay_Si hi ho) 0 (by decide) a2_87 rfl d_Si_tell_8 ?_
  refine z_iload_n hx 1 d_Si_tell_11 rfl ?_
  refine z_ialdK hx 0 rfl (t := 110 + i) (Lay_r0 hi ho) (k := p) (by omega) (by first | decide | omega) d_Si_tell_12 ?_
  refine z_iconst (v := 1) hx d_Si_tell_13 rfl ?_
  refine z_icmp_ne (tgt := 26) hx d_Si_tell_14 (by decide) (fun h1 => ?_) (fun h1 => ?_)
  · refine z_iconst (v := 0) hx d_Si_tell_26 rfl ?_
    exact z_iret hx hr rfl hq (Nat.le_refl _) (Nat.le_refl _) d_Si_tell_27 ⟨by simp [h1], rfl, by simp [h1]⟩
  · refine z_aload_n hx 0 d_Si_tell_17 rfl ?_
    refine z_get hx k_Si (t := 100 + i) (Lay_Si hi ho) 0 (by decide) a2_87 rfl d_Si_tell_18 ?_
    refine z_iload_n hx 1 d_Si_tell_21 rfl ?_
    refine z_iconst (v := 2) hx d_Si_tell_22 rfl ?_
    refine z_iastK hx 0 rfl (t := 110 + i) (Lay_r0 hi ho) (k := p) (by omega) (by first | decide | omega)  d_Si_tell_23 (ce1 := Lay K ad (stM S (110 + i) p 2)) (put_r0 hi ho) ?_
    refine z_iconst (v := 1) hx d_Si_tell_24 rfl ?_
    exact z_iret hx hr rfl hq (Nat.le_refl _) (Nat.le_refl _) d_Si_tell_25 ⟨by simp [h1], rfl, by simp [h1]⟩
set_option maxRecDepth 20000 in
theorem c_Si_stratumOf {l : Launch} {D : va_G} {K : Nat → ClassId} {ad : Nat → Nat} {S : zSt} {i p : Nat} (hi : i < 10) (ho : S.2.2 9 i ≠ 0) (hp : p < 100) : zC l TB D zcls (ztyl K) y_Si_stratumOf (.code y_Si_stratumOf b_Si_stratumOf 2 (some FieldType.int)) (rmk 1 20) [.ref (ad (100 + i)), .int (nI p)] ad (Lay K ad S) (zP K ad (some (.int (S.2.2 (120 + i) p))) S) := by
  refine zC.of (by decide +kernel) (Nat.le_of_ble_eq_true rfl) ?_
  intro x hx hr hml hnm hrm hq hNH
  show zV x ad (Lay K ad S) 0 0 [(0, .ref (ad (100 + i))), (1, .int (nI p))] 0 []
  refine z_iload_n hx 1 d_Si_stratumOf_0 rfl ?_
  refine z_cS hx (c_Si_isPerson hp) ⟨a2_162, a2_164, a1_13, ⟨by decide +kernel, by decide +kernel⟩, fun sig h => by cases h; rfl⟩ a2_163 rfl rfl d_Si_stratumOf_1 (by rw [hrm]; exact ⟨Nat.le_of_ble_eq_true rfl, Nat.le_of_ble_eq_true rfl, Nat.le_of_ble_eq_true rfl, Nat.le_of_ble_eq_true rfl⟩) ?_
  show zV x ad (Lay K ad S) _ _ _ 4 [.int 1]
  refine z_if_eq (tgt := 16) hx d_Si_stratumOf_4 (by decide) (fun h => absurd h (by decide)) (fun _ => ?_)
  refine z_aload_n hx 0 d_Si_stratumOf_7 rfl ?_
  refine z_get hx k_Si (t := 100 + i) (Lay_Si hi ho) 1 (by decide) a2_88 rfl d_Si_stratumOf_8 ?_
  refine z_iload_n hx 1 d_Si_stratumOf_11 rfl ?_
  refine z_ialdK hx 0 rfl (t := 120 + i) (Lay_r1 hi ho) (k := p) (by omega) (by first | decide | omega) d_Si_stratumOf_12 ?_
  refine z_goto (tgt := 17) hx d_Si_stratumOf_13 (by decide) ?_
  exact z_iret hx hr rfl hq (Nat.le_refl _) (Nat.le_refl _) d_Si_stratumOf_17 ⟨rfl, rfl, rfl⟩
set_option maxRecDepth 20000 in
theorem c_Si_armOf {l : Launch} {D : va_G} {K : Nat → ClassId} {ad : Nat → Nat} {S : zSt} {i p : Nat} (hi : i < 10) (ho : S.2.2 9 i ≠ 0) (hp : p < 100) : zC l TB D zcls (ztyl K) y_Si_armOf (.code y_Si_armOf b_Si_armOf 2 (some FieldType.int)) (rmk 1 20) [.ref (ad (100 + i)), .int (nI p)] ad (Lay K ad S) (zP K ad (some (.int (S.2.2 (130 + i) p))) S) := by
  refine zC.of (by decide +kernel) (Nat.le_of_ble_eq_true rfl) ?_
  intro x hx hr hml hnm hrm hq hNH
  show zV x ad (Lay K ad S) 0 0 [(0, .ref (ad (100 + i))), (1, .int (nI p))] 0 []
  refine z_iload_n hx 1 d_Si_armOf_0 rfl ?_
  refine z_cS hx (c_Si_isPerson hp) ⟨a2_162, a2_164, a1_13, ⟨by decide +kernel, by decide +kernel⟩, fun sig h => by cases h; rfl⟩ a2_163 rfl rfl d_Si_armOf_1 (by rw [hrm]; exact ⟨Nat.le_of_ble_eq_true rfl, Nat.le_of_ble_eq_true rfl, Nat.le_of_ble_eq_true rfl, Nat.le_of_ble_eq_true rfl⟩) ?_
  show zV x ad (Lay K ad S) _ _ _ 4 [.int 1]
  refine z_if_eq (tgt := 16) hx d_Si_armOf_4 (by decide) (fun h => absurd h (by decide)) (fun _ => ?_)
  refine z_aload_n hx 0 d_Si_armOf_7 rfl ?_
  refine z_get hx k_Si (t := 100 + i) (Lay_Si hi ho) 2 (by decide) a2_89 rfl d_Si_armOf_8 ?_
  refine z_iload_n hx 1 d_Si_armOf_11 rfl ?_
  refine z_ialdK hx 0 rfl (t := 130 + i) (Lay_r2 hi ho) (k := p) (by omega) (by first | decide | omega) d_Si_armOf_12 ?_
  refine z_goto (tgt := 17) hx d_Si_armOf_13 (by decide) ?_
  exact z_iret hx hr rfl hq (Nat.le_refl _) (Nat.le_refl _) d_Si_armOf_17 ⟨rfl, rfl, rfl⟩
set_option maxRecDepth 20000 in
theorem c_Si_addKey {l : Launch} {D : va_G} {K : Nat → ClassId} {ad : Nat → Nat} {S : zSt} {i p : Nat} (hi : i < 10) (ho : S.2.2 9 i ≠ 0) (hp : p < 100) {h : Int32} : zC l TB D zcls (ztyl K) y_Si_addKey (.code y_Si_addKey b_Si_addKey 3 (none : Option FieldType)) (rmk 1 20) [.ref (ad (100 + i)), .int (nI p), .int h] ad (Lay K ad S) (zP K ad none (stM S (140 + i) p (S.2.2 (140 + i) p ||| 1 <<< (h &&& 31)))) := by
  refine zC.of (by decide +kernel) (Nat.le_of_ble_eq_true rfl) ?_
  intro x hx hr hml hnm hrm hq hNH
  show zV x ad (Lay K ad S) 0 0 [(0, .ref (ad (100 + i))), (1, .int (nI p)), (2, .int h)] 0 []
  refine z_iload_n hx 1 d_Si_addKey_0 rfl ?_
  refine z_cS hx (c_Si_isPerson hp) ⟨a2_162, a2_164, a1_13, ⟨by decide +kernel, by decide +kernel⟩, fun sig h => by cases h; rfl⟩ a2_163 rfl rfl d_Si_addKey_1 (by rw [hrm]; exact ⟨Nat.le_of_ble_eq_true rfl, Nat.le_of_ble_eq_true rfl, Nat.le_of_ble_eq_true rfl, Nat.le_of_ble_eq_true rfl⟩) ?_
  show zV x ad (Lay K ad S) _ _ _ 4 [.int 1]
  refine z_if_eq (tgt := 19) hx d_Si_addKey_4 (by decide) (fun h => absurd h (by decide)) (fun _ => ?_)
  refine z_aload_n hx 0 d_Si_addKey_7 rfl ?_
  refine z_get hx k_Si (t := 100 + i) (Lay_Si hi ho) 3 (by decide) a2_90 rfl d_Si_addKey_8 ?_
  refine z_iload_n hx 1 d_Si_addKey_11 rfl ?_
  refine z_dup2_11 hx d_Si_addKey_12 rfl rfl ?_
  refine z_ialdK hx 0 rfl (t := 140 + i) (Lay_r3 hi ho) (k := p) (by omega) (by first | decide | omega) d_Si_addKey_13 ?_
  refine z_iconst (v := 1) hx d_Si_addKey_14 rfl ?_
  refine z_iload_n hx 2 d_Si_addKey_15 rfl ?_
  refine z_ishl hx d_Si_addKey_16 ?_
  refine z_ior hx d_Si_addKey_17 ?_
  refine z_iastK hx 0 rfl (t := 140 + i) (Lay_r3 hi ho) (k := p) (by omega) (by first | decide | omega)  d_Si_addKey_18 (ce1 := Lay K ad (stM S (140 + i) p ((S.2.2 (140 + i) p) ||| (1 <<< (h &&& 31))))) (put_r3 hi ho) ?_
  exact z_vret hx hr hq (Nat.le_refl _) (Nat.le_refl _) d_Si_addKey_19 ⟨rfl, rfl, rfl⟩
set_option maxRecDepth 20000 in
theorem c_Re_drop {l : Launch} {D : va_G} {K : Nat → ClassId} {ad : Nat → Nat} {S : zSt} {i k : Nat} (hi : i < 10) (hk : k < 8) (ho : S.2.2 9 i ≠ 0) : zC l TB D zcls (ztyl K) y_Re_drop (.code y_Re_drop b_Re_drop 1 (none : Option FieldType)) (rmk 0 0) [.ref (ad (200 + 8 * i + k))] ad (Lay K ad S) (zP K ad none (stM (stM S (200 + 8 * i + k) 1 0) (200 + 8 * i + k) 2 0)) := by
  refine zC.of (by decide +kernel) (Nat.le_of_ble_eq_true rfl) ?_
  intro x hx hr hml hnm hrm hq hNH
  show zV x ad (Lay K ad S) 0 0 [(0, .ref (ad (200 + 8 * i + k)))] 0 []
  refine z_aload_n hx 0 d_Re_drop_0 rfl ?_
  refine z_iconst (v := 0) hx d_Re_drop_1 rfl ?_
  refine z_put hx k_Re (t := 200 + 8 * i + k) (Lay_Re hi hk ho) 1 (by decide) a2_74 rfl rfl rfl (Nat.le_of_ble_eq_true rfl) d_Re_drop_2 (ce1 := Lay K ad (stM S (200 + 8 * i + k) 1 0)) (put_Re1 hi hk ho) ?_
  refine z_aload_n hx 0 d_Re_drop_5 rfl ?_
  refine z_iconst (v := 0) hx d_Re_drop_6 rfl ?_
  refine z_put hx k_Re (t := 200 + 8 * i + k) (Lay_Re hi hk (ho_n (by omega) ho)) 2 (by decide) a2_77 rfl rfl rfl (Nat.le_of_ble_eq_true rfl) d_Re_drop_7 (ce1 := Lay K ad (stM (stM S (200 + 8 * i + k) 1 0) (200 + 8 * i + k) 2 0)) (put_Re2 hi hk (ho_n (by omega) ho)) ?_
  exact z_vret hx hr hq (Nat.le_refl _) (Nat.le_refl _) d_Re_drop_10 ⟨rfl, rfl, rfl⟩
