abbrev b_In_bitCount : ByteArray := prog_15_method_49_code
def y_In_bitCount : MethodName := ⟨"java/lang/Integer", "bitCount", "(I)I"⟩
theorem d_In_bitCount_0 : decode b_In_bitCount 0 = .ok (.iload_n 0, 1) := by decide +kernel
theorem d_In_bitCount_1 : decode b_In_bitCount 1 = .ok (.iload_n 0, 1) := by decide +kernel
theorem d_In_bitCount_2 : decode b_In_bitCount 2 = .ok (.iconst 1, 1) := by decide +kernel
theorem d_In_bitCount_3 : decode b_In_bitCount 3 = .ok (.iushr, 1) := by decide +kernel
theorem d_In_bitCount_4 : decode b_In_bitCount 4 = .ok (.ldc_w 265, 3) := by decide +kernel
theorem d_In_bitCount_7 : decode b_In_bitCount 7 = .ok (.iand, 1) := by decide +kernel
theorem d_In_bitCount_8 : decode b_In_bitCount 8 = .ok (.isub, 1) := by decide +kernel
theorem d_In_bitCount_9 : decode b_In_bitCount 9 = .ok (.istore_n 0, 1) := by decide +kernel
theorem d_In_bitCount_10 : decode b_In_bitCount 10 = .ok (.iload_n 0, 1) := by decide +kernel
theorem d_In_bitCount_11 : decode b_In_bitCount 11 = .ok (.ldc_w 266, 3) := by decide +kernel
theorem d_In_bitCount_14 : decode b_In_bitCount 14 = .ok (.iand, 1) := by decide +kernel
theorem d_In_bitCount_15 : decode b_In_bitCount 15 = .ok (.iload_n 0, 1) := by decide +kernel
theorem d_In_bitCount_16 : decode b_In_bitCount 16 = .ok (.iconst 2, 1) := by decide +kernel
theorem d_In_bitCount_17 : decode b_In_bitCount 17 = .ok (.iushr, 1) := by decide +kernel
theorem d_In_bitCount_18 : decode b_In_bitCount 18 = .ok (.ldc_w 266, 3) := by decide +kernel
theorem d_In_bitCount_21 : decode b_In_bitCount 21 = .ok (.iand, 1) := by decide +kernel
theorem d_In_bitCount_22 : decode b_In_bitCount 22 = .ok (.iadd, 1) := by decide +kernel
theorem d_In_bitCount_23 : decode b_In_bitCount 23 = .ok (.istore_n 0, 1) := by decide +kernel
theorem d_In_bitCount_24 : decode b_In_bitCount 24 = .ok (.iload_n 0, 1) := by decide +kernel
theorem d_In_bitCount_25 : decode b_In_bitCount 25 = .ok (.iload_n 0, 1) := by decide +kernel
theorem d_In_bitCount_26 : decode b_In_bitCount 26 = .ok (.iconst 4, 1) := by decide +kernel
theorem d_In_bitCount_27 : decode b_In_bitCount 27 = .ok (.iushr, 1) := by decide +kernel
theorem d_In_bitCount_28 : decode b_In_bitCount 28 = .ok (.iadd, 1) := by decide +kernel
theorem d_In_bitCount_29 : decode b_In_bitCount 29 = .ok (.ldc_w 267, 3) := by decide +kernel
theorem d_In_bitCount_32 : decode b_In_bitCount 32 = .ok (.iand, 1) := by decide +kernel
theorem d_In_bitCount_33 : decode b_In_bitCount 33 = .ok (.istore_n 0, 1) := by decide +kernel
theorem d_In_bitCount_34 : decode b_In_bitCount 34 = .ok (.iload_n 0, 1) := by decide +kernel
theorem d_In_bitCount_35 : decode b_In_bitCount 35 = .ok (.iload_n 0, 1) := by decide +kernel
theorem d_In_bitCount_36 : decode b_In_bitCount 36 = .ok (.bipush 8, 2) := by decide +kernel
theorem d_In_bitCount_38 : decode b_In_bitCount 38 = .ok (.iushr, 1) := by decide +kernel
theorem d_In_bitCount_39 : decode b_In_bitCount 39 = .ok (.iadd, 1) := by decide +kernel
theorem d_In_bitCount_40 : decode b_In_bitCount 40 = .ok (.istore_n 0, 1) := by decide +kernel
theorem d_In_bitCount_41 : decode b_In_bitCount 41 = .ok (.iload_n 0, 1) := by decide +kernel
theorem d_In_bitCount_42 : decode b_In_bitCount 42 = .ok (.iload_n 0, 1) := by decide +kernel
theorem d_In_bitCount_43 : decode b_In_bitCount 43 = .ok (.bipush 16, 2) := by decide +kernel
theorem d_In_bitCount_45 : decode b_In_bitCount 45 = .ok (.iushr, 1) := by decide +kernel
theorem d_In_bitCount_46 : decode b_In_bitCount 46 = .ok (.iadd, 1) := by decide +kernel
theorem d_In_bitCount_47 : decode b_In_bitCount 47 = .ok (.istore_n 0, 1) := by decide +kernel
theorem d_In_bitCount_48 : decode b_In_bitCount 48 = .ok (.iload_n 0, 1) := by decide +kernel
theorem d_In_bitCount_49 : decode b_In_bitCount 49 = .ok (.bipush 63, 2) := by decide +kernel
theorem d_In_bitCount_51 : decode b_In_bitCount 51 = .ok (.iand, 1) := by decide +kernel
theorem d_In_bitCount_52 : decode b_In_bitCount 52 = .ok (.ireturn, 1) := by decide +kernel
def bc1 (v : Int32) : Int32 := v - ((v.toUInt32 >>> (Int32.toUInt32 1 &&& Int32.toUInt32 31)).toInt32 &&& 1431655765)
def bc2 (v : Int32) : Int32 := (v &&& 858993459) + ((v.toUInt32 >>> (Int32.toUInt32 2 &&& Int32.toUInt32 31)).toInt32 &&& 858993459)
def bc3 (v : Int32) : Int32 := (v + (v.toUInt32 >>> (Int32.toUInt32 4 &&& Int32.toUInt32 31)).toInt32) &&& 252645135
def bc4 (v : Int32) : Int32 := v + (v.toUInt32 >>> (Int32.toUInt32 8 &&& Int32.toUInt32 31)).toInt32
def bc5 (v : Int32) : Int32 := v + (v.toUInt32 >>> (Int32.toUInt32 16 &&& Int32.toUInt32 31)).toInt32
def bcF (v : Int32) : Int32 := bc5 (bc4 (bc3 (bc2 (bc1 v)))) &&& 63
set_option maxRecDepth 20000 in
theorem c_In_bitCount {l : Launch} {D : va_G} {K : Nat → ClassId} {ad : Nat → Nat} {S : zSt} {v : Int32} : zC l TB D zcls (ztyl K) y_In_bitCount (.code y_In_bitCount b_In_bitCount 1 (some FieldType.int)) (rmk 0 0) [.int v] ad (Lay K ad S) (zP K ad (some (.int (bcF v))) S) := by
  refine zC.of (by decide +kernel) (Nat.le_of_ble_eq_true rfl) ?_
  intro x hx hr hml hnm hrm hq hNH
  show zV x ad (Lay K ad S) 0 0 [(0, .int v)] 0 []
  refine z_iload_n hx 0 d_In_bitCount_0 rfl ?_
  refine z_iload_n hx 0 d_In_bitCount_1 rfl ?_
  refine z_iconst (v := 1) hx d_In_bitCount_2 rfl ?_
  refine z_iushr hx d_In_bitCount_3 ?_
  refine z_ldcw (v := 1431655765) hx d_In_bitCount_4 a3_121 ?_
  refine z_iand hx d_In_bitCount_7 ?_
  refine z_isub hx d_In_bitCount_8 ?_
  refine z_top (b := bc1 v) rfl ?_
  refine z_istore_n hx [(0, .int (bc1 v))] d_In_bitCount_9 rfl (zN hml (by decide)) rfl ?_
  refine z_iload_n hx 0 d_In_bitCount_10 rfl ?_
  refine z_ldcw (v := 858993459) hx d_In_bitCount_11 a3_122 ?_
  refine z_iand hx d_In_bitCount_14 ?_
  refine z_iload_n hx 0 d_In_bitCount_15 rfl ?_
  refine z_iconst (v := 2) hx d_In_bitCount_16 rfl ?_
  refine z_iushr hx d_In_bitCount_17 ?_
  refine z_ldcw (v := 858993459) hx d_In_bitCount_18 a3_122 ?_
  refine z_iand hx d_In_bitCount_21 ?_
  refine z_iadd hx d_In_bitCount_22 ?_
  refine z_top (b := bc2 (bc1 v)) rfl ?_
  refine z_istore_n hx [(0, .int (bc2 (bc1 v)))] d_In_bitCount_23 rfl (zN hml (by decide)) rfl ?_
  refine z_iload_n hx 0 d_In_bitCount_24 rfl ?_
  refine z_iload_n hx 0 d_In_bitCount_25 rfl ?_
  refine z_iconst (v := 4) hx d_In_bitCount_26 rfl ?_
  refine z_iushr hx d_In_bitCount_27 ?_
  refine z_iadd hx d_In_bitCount_28 ?_
  refine z_ldcw (v := 252645135) hx d_In_bitCount_29 a3_123 ?_
  refine z_iand hx d_In_bitCount_32 ?_
  refine z_top (b := bc3 (bc2 (bc1 v))) rfl ?_
  refine z_istore_n hx [(0, .int (bc3 (bc2 (bc1 v))))] d_In_bitCount_33 rfl (zN hml (by decide)) rfl ?_
  refine z_iload_n hx 0 d_In_bitCount_34 rfl ?_
  refine z_iload_n hx 0 d_In_bitCount_35 rfl ?_
  refine z_bipush (v := 8) hx d_In_bitCount_36 rfl ?_
  refine z_iushr hx d_In_bitCount_38 ?_
  refine z_iadd hx d_In_bitCount_39 ?_
  refine z_top (b := bc4 (bc3 (bc2 (bc1 v)))) rfl ?_
  refine z_istore_n hx [(0, .int (bc4 (bc3 (bc2 (bc1 v)))))] d_In_bitCount_40 rfl (zN hml (by decide)) rfl ?_
  refine z_iload_n hx 0 d_In_bitCount_41 rfl ?_
  refine z_iload_n hx 0 d_In_bitCount_42 rfl ?_
  refine z_bipush (v := 16) hx d_In_bitCount_43 rfl ?_
  refine z_iushr hx d_In_bitCount_45 ?_
  refine z_iadd hx d_In_bitCount_46 ?_
  refine z_top (b := bc5 (bc4 (bc3 (bc2 (bc1 v))))) rfl ?_
  refine z_istore_n hx [(0, .int (bc5 (bc4 (bc3 (bc2 (bc1 v))))))] d_In_bitCount_47 rfl (zN hml (by decide)) rfl ?_
  refine z_iload_n hx 0 d_In_bitCount_48 rfl ?_
  refine z_bipush (v := 63) hx d_In_bitCount_49 rfl ?_
  refine z_iand hx d_In_bitCount_51 ?_
  exact z_iret hx hr rfl hq (Nat.le_refl _) (Nat.le_refl _) d_In_bitCount_52 ⟨rfl, rfl, rfl⟩
set_option maxRecDepth 20000 in
theorem c_Si_keyCount {l : Launch} {D : va_G} {K : Nat → ClassId} {ad : Nat → Nat} {S : zSt} {i p : Nat} (hi : i < 10) (ho : S.2.2 9 i ≠ 0) (hp : p < 100) : zC l TB D zcls (ztyl K) y_Si_keyCount (.code y_Si_keyCount b_Si_keyCount 2 (some FieldType.int)) (rmk 1 20) [.ref (ad (100 + i)), .int (nI p)] ad (Lay K ad S) (zP K ad (some (.int (bcF (S.2.2 (140 + i) p)))) S) := by
  refine zC.of (by decide +kernel) (Nat.le_of_ble_eq_true rfl) ?_
  intro x hx hr hml hnm hrm hq hNH
  show zV x ad (Lay K ad S) 0 0 [(0, .ref (ad (100 + i))), (1, .int (nI p))] 0 []
  refine z_iload_n hx 1 d_Si_keyCount_0 rfl ?_
  refine z_cS hx (c_Si_isPerson hp) ⟨a2_162, a2_164, a1_13, ⟨by decide +kernel, by decide +kernel⟩, fun sig h => by cases h; rfl⟩ a2_163 rfl rfl d_Si_keyCount_1 (by rw [hrm]; exact ⟨Nat.le_of_ble_eq_true rfl, Nat.le_of_ble_eq_true rfl, Nat.le_of_ble_eq_true rfl, Nat.le_of_ble_eq_true rfl⟩) ?_
  show zV x ad (Lay K ad S) _ _ _ 4 [.int 1]
  refine z_if_eq (tgt := 19) hx d_Si_keyCount_4 (by decide) (fun h => absurd h (by decide)) (fun _ => ?_)
  refine z_aload_n hx 0 d_Si_keyCount_7 rfl ?_
  refine z_get hx k_Si (t := 100 + i) (Lay_Si hi ho) 3 (by decide) a2_90 rfl d_Si_keyCount_8 ?_
  refine z_iload_n hx 1 d_Si_keyCount_11 rfl ?_
  refine z_ialdK hx 0 rfl (t := 140 + i) (Lay_r3 hi ho) (k := p) (by omega) (by first | decide | omega) d_Si_keyCount_12 ?_
  refine z_cS hx (c_In_bitCount) ⟨a3_118, a3_120, a1_18, ⟨by decide +kernel, by decide +kernel⟩, fun sig h => by cases h; rfl⟩ a3_119 rfl rfl d_Si_keyCount_13 (by rw [hrm]; exact ⟨Nat.le_of_ble_eq_true rfl, Nat.le_of_ble_eq_true rfl, Nat.le_of_ble_eq_true rfl, Nat.le_of_ble_eq_true rfl⟩) ?_
  show zV x ad (Lay K ad S) _ _ _ 16 [.int (bcF (S.2.2 (140 + i) p))]
  refine z_goto (tgt := 20) hx d_Si_keyCount_16 (by decide) ?_
  exact z_iret hx hr rfl hq (Nat.le_refl _) (Nat.le_refl _) d_Si_keyCount_20 ⟨rfl, rfl, rfl⟩
set_option maxRecDepth 20000 in
theorem c_Jo_write_ok {l : Launch} {D : va_G} {K : Nat → ClassId} {ad : Nat → Nat} {S : zSt} (hw : S.2.2 3 1 = 0) : zC l TB D zcls (ztyl K) y_Jo_write (.code y_Jo_write b_Jo_write 1 (some FieldType.boolean)) (rmk 0 0) [.ref (ad 3)] ad (Lay K ad S) (zP K ad (some (.int 1)) (stM S 3 2 (S.2.2 3 2 + 1))) := by
  refine zC.of (by decide +kernel) (Nat.le_of_ble_eq_true rfl) ?_
  intro x hx hr hml hnm hrm hq hNH
  show zV x ad (Lay K ad S) 0 0 [(0, .ref (ad 3))] 0 []
  refine z_aload_n hx 0 d_Jo_write_0 rfl ?_
  refine z_get hx k_Jo (t := 3) rfl 1 (by decide) a1_59 rfl d_Jo_write_1 ?_
  refine z_if_eq (tgt := 19) hx d_Jo_write_4 (by decide) (fun _ => ?_) (fun h => absurd hw h)
  refine z_aload_n hx 0 d_Jo_write_19 rfl ?_
  refine z_dup hx d_Jo_write_20 rfl ?_
  refine z_get hx k_Jo (t := 3) rfl 2 (by decide) a1_60 rfl d_Jo_write_21 ?_
  refine z_iconst (v := 1) hx d_Jo_write_24 rfl ?_
  refine z_iadd hx d_Jo_write_25 ?_
  refine z_put hx k_Jo (t := 3) rfl 2 (by decide) a1_60 rfl rfl rfl (Nat.le_of_ble_eq_true rfl) d_Jo_write_26 (ce1 := Lay K ad (stM S 3 2 ((S.2.2 3 2) + 1))) (Lay_put (by decide) rfl) ?_
  refine z_iconst (v := 1) hx d_Jo_write_29 rfl ?_
  exact z_iret hx hr rfl hq (Nat.le_refl _) (Nat.le_refl _) d_Jo_write_30 ⟨rfl, rfl, rfl⟩
set_option maxRecDepth 20000 in
theorem c_Jo_write_torn {l : Launch} {D : va_G} {K : Nat → ClassId} {ad : Nat → Nat} {S : zSt} (hw : ¬ S.2.2 3 1 = 0) : zC l TB D zcls (ztyl K) y_Jo_write (.code y_Jo_write b_Jo_write 1 (some FieldType.boolean)) (rmk 0 0) [.ref (ad 3)] ad (Lay K ad S) (zP K ad (some (.int 0)) (stM (stM S 3 1 0) 3 0 1)) := by
  refine zC.of (by decide +kernel) (Nat.le_of_ble_eq_true rfl) ?_
  intro x hx hr hml hnm hrm hq hNH
  show zV x ad (Lay K ad S) 0 0 [(0, .ref (ad 3))] 0 []
  refine z_aload_n hx 0 d_Jo_write_0 rfl ?_
  refine z_get hx k_Jo (t := 3) rfl 1 (by decide) a1_59 rfl d_Jo_write_1 ?_
  refine z_if_eq (tgt := 19) hx d_Jo_write_4 (by decide) (fun h => absurd h hw) (fun _ => ?_)
  refine z_aload_n hx 0 d_Jo_write_7 rfl ?_
  refine z_iconst (v := 0) hx d_Jo_write_8 rfl ?_
  refine z_put hx k_Jo (t := 3) rfl 1 (by decide) a1_59 rfl rfl rfl (Nat.le_of_ble_eq_true rfl) d_Jo_write_9 (ce1 := Lay K ad (stM S 3 1 0)) (Lay_put (by decide) rfl) ?_
  refine z_aload_n hx 0 d_Jo_write_12 rfl ?_
  refine z_iconst (v := 1) hx d_Jo_write_13 rfl ?_
  refine z_put hx k_Jo (t := 3) rfl 0 (by decide) a1_57 rfl rfl rfl (Nat.le_of_ble_eq_true rfl) d_Jo_write_14 (ce1 := Lay K ad (stM (stM S 3 1 0) 3 0 1)) (Lay_put (by decide) rfl) ?_
  refine z_iconst (v := 0) hx d_Jo_write_17 rfl ?_
  exact z_iret hx hr rfl hq (Nat.le_refl _) (Nat.le_refl _) d_Jo_write_18 ⟨rfl, rfl, rfl⟩
