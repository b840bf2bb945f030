/-! the tables' words that stay true for good, by their places -/
def zg (w : Cond) : Bool := match w with
  | .fieldLinkNest .. => true
  | .methodLinkNest .. => true
  | .declares _ => true
  | .castable .. => true
  | .arrayOver (.object _) => true
  | w => goodWord w
def TB : List Cond := lw_tbl.filter zg
theorem zg_on {args a' : Array Value} {s U : State} {w : Cond} (hg : zg w = true) (hW : s.WarmedH U.vm) (h : w.before args s = true) : w.before a' U = true := by
  unfold zg at hg
  split at hg
  · exact va_Nw.use rfl (va_Nw.warmF hW (va_Nw.of rfl h))
  · exact va_Nw.use rfl (va_Nw.warmM hW (va_Nw.of rfl h))
  · exact va_Nw.use rfl (va_Nw.warmD hW (va_Nw.of rfl h))
  · exact va_Nw.use rfl (va_Nw.warmC hW (va_Nw.of rfl h))
  · exact va_AO.use (va_AO.moved hW.alike (va_AO.of h))
  · exact word_at hW (good_of_word hg) h
theorem zT_tbl {args : Array Value} {s : State} (hts : ∀ w ∈ lw_tbl, w.before args s = true) : zT TB s := fun w hw a' U hW => by
  obtain ⟨h1, h2⟩ := List.mem_filter.mp hw
  exact zg_on h2 hW (hts w h1)
theorem TB_1 {w : Cond} {i : Nat} (h : tables_1_1[i]? = some w) (hg : zg w = true) : w ∈ TB := List.mem_filter.mpr ⟨List.mem_append_right _ (List.mem_append_left _ (List.mem_of_getElem? h)), hg⟩
theorem TB_2 {w : Cond} {i : Nat} (h : tables_1_2[i]? = some w) (hg : zg w = true) : w ∈ TB := List.mem_filter.mpr ⟨List.mem_append_right _ (List.mem_append_right _ (List.mem_append_left _ (List.mem_of_getElem? h))), hg⟩
theorem TB_3 {w : Cond} {i : Nat} (h : tables_1_3[i]? = some w) (hg : zg w = true) : w ∈ TB := List.mem_filter.mpr ⟨List.mem_append_right _ (List.mem_append_right _ (List.mem_append_right _ (List.mem_append_left _ (List.mem_of_getElem? h)))), hg⟩
theorem TB_4 {w : Cond} {i : Nat} (h : tables_1_4[i]? = some w) (hg : zg w = true) : w ∈ TB := List.mem_filter.mpr ⟨List.mem_append_right _ (List.mem_append_right _ (List.mem_append_right _ (List.mem_append_right _ (List.mem_of_getElem? h)))), hg⟩
theorem TB_0 {w : Cond} {i : Nat} (h : (k2_sels lw_privs)[i]? = some w) (hg : zg w = true) : w ∈ TB := List.mem_filter.mpr ⟨List.mem_append_left _ (List.mem_of_getElem? h), hg⟩
theorem a1_0 : (Jvm.Cond.initialized "TrialDeskLaw") ∈ TB := TB_1 (i := 0) rfl rfl
theorem a1_1 : (Jvm.Cond.initialized "TrialDesk") ∈ TB := TB_1 (i := 1) rfl rfl
theorem a1_2 : (Jvm.Cond.initialized "TrialDesk$Plan") ∈ TB := TB_1 (i := 2) rfl rfl
theorem a1_3 : (Jvm.Cond.initialized "TrialDesk$Journal") ∈ TB := TB_1 (i := 3) rfl rfl
theorem a1_4 : (Jvm.Cond.initialized "TrialDesk$Shelf") ∈ TB := TB_1 (i := 4) rfl rfl
theorem a1_5 : (Jvm.Cond.initialized "TrialDesk$Stratum") ∈ TB := TB_1 (i := 5) rfl rfl
theorem a1_6 : (Jvm.Cond.initialized "TrialDeskModel") ∈ TB := TB_1 (i := 6) rfl rfl
theorem a1_7 : (Jvm.Cond.initialized "java/lang/Throwable") ∈ TB := TB_1 (i := 7) rfl rfl
theorem a1_8 : (Jvm.Cond.initialized "java/lang/Exception") ∈ TB := TB_1 (i := 8) rfl rfl
theorem a1_9 : (Jvm.Cond.initialized "java/lang/RuntimeException") ∈ TB := TB_1 (i := 9) rfl rfl
theorem a1_10 : (Jvm.Cond.initialized "java/lang/IllegalArgumentException") ∈ TB := TB_1 (i := 10) rfl rfl
theorem a1_11 : (Jvm.Cond.initialized "java/lang/IndexOutOfBoundsException") ∈ TB := TB_1 (i := 11) rfl rfl
theorem a1_12 : (Jvm.Cond.initialized "java/lang/IllegalStateException") ∈ TB := TB_1 (i := 12) rfl rfl
theorem a1_13 : (Jvm.Cond.initialized "TrialDesk$Site") ∈ TB := TB_1 (i := 13) rfl rfl
theorem a1_14 : (Jvm.Cond.initialized "TrialDesk$Reserve") ∈ TB := TB_1 (i := 14) rfl rfl
theorem a1_15 : (Jvm.Cond.initialized "java/lang/Math") ∈ TB := TB_1 (i := 15) rfl rfl
theorem a1_16 : (Jvm.Cond.initialized "java/util/Arrays") ∈ TB := TB_1 (i := 16) rfl rfl
theorem a1_17 : (Jvm.Cond.initialized "java/lang/System") ∈ TB := TB_1 (i := 17) rfl rfl
theorem a1_18 : (Jvm.Cond.initialized "java/lang/Integer") ∈ TB := TB_1 (i := 18) rfl rfl
theorem a1_19 : (Jvm.Cond.classLink "TrialDeskLaw" (8 : Nat) "TrialDesk") ∈ TB := TB_1 (i := 19) rfl rfl
theorem a1_20 : (Jvm.Cond.instantiable "TrialDesk" (8 : Nat)) ∈ TB := TB_1 (i := 20) rfl rfl
theorem a1_21 : (Jvm.Cond.methodLink "TrialDeskLaw" (75 : Nat) ({ cls := "TrialDesk", name := "<init>", desc := "()V" } : Jvm.MethodName)) ∈ TB := TB_1 (i := 21) rfl rfl
theorem a1_22 : (Jvm.Cond.instanceMethod ({ cls := "TrialDesk", name := "<init>", desc := "()V" } : Jvm.MethodName)) ∈ TB := TB_1 (i := 22) rfl rfl
theorem a1_23 : (Jvm.Cond.code ({ cls := "TrialDesk", name := "<init>", desc := "()V" } : Jvm.MethodName) prog_1_method_1_code (2 : Nat) (Option.none : Option Jvm.ClassFile.FieldType)) ∈ TB := TB_1 (i := 23) rfl rfl
theorem a1_24 : (Jvm.Cond.methodLink "TrialDesk" (1 : Nat) ({ cls := "java/lang/Object", name := "<init>", desc := "()V" } : Jvm.MethodName)) ∈ TB := TB_1 (i := 24) rfl rfl
theorem a1_25 : (Jvm.Cond.instanceMethod ({ cls := "java/lang/Object", name := "<init>", desc := "()V" } : Jvm.MethodName)) ∈ TB := TB_1 (i := 25) rfl rfl
theorem a1_26 : (Jvm.Cond.code ({ cls := "java/lang/Object", name := "<init>", desc := "()V" } : Jvm.MethodName) object_method_1_code (1 : Nat) (Option.none : Option Jvm.ClassFile.FieldType)) ∈ TB := TB_1 (i := 26) rfl rfl
theorem a1_27 : (Jvm.Cond.classLink "TrialDesk" (7 : Nat) "TrialDesk$Plan") ∈ TB := TB_1 (i := 27) rfl rfl
theorem a1_28 : (Jvm.Cond.instantiable "TrialDesk$Plan" (4 : Nat)) ∈ TB := TB_1 (i := 28) rfl rfl
theorem a1_29 : (Jvm.Cond.methodLinkNest "TrialDesk" (9 : Nat) ({ cls := "TrialDesk$Plan", name := "<init>", desc := "()V" } : Jvm.MethodName) "TrialDesk") ∈ TB := TB_1 (i := 29) rfl rfl
theorem a1_30 : (Jvm.Cond.instanceMethod ({ cls := "TrialDesk$Plan", name := "<init>", desc := "()V" } : Jvm.MethodName)) ∈ TB := TB_1 (i := 30) rfl rfl
theorem a1_31 : (Jvm.Cond.code ({ cls := "TrialDesk$Plan", name := "<init>", desc := "()V" } : Jvm.MethodName) prog_3_method_1_code (1 : Nat) (Option.none : Option Jvm.ClassFile.FieldType)) ∈ TB := TB_1 (i := 31) rfl rfl
theorem a1_32 : (Jvm.Cond.methodLink "TrialDesk$Plan" (3 : Nat) ({ cls := "java/lang/Object", name := "<init>", desc := "()V" } : Jvm.MethodName)) ∈ TB := TB_1 (i := 32) rfl rfl
theorem a1_33 : (Jvm.Cond.fieldLink "TrialDesk$Plan" (9 : Nat) "TrialDesk$Plan" "weights" "[I") ∈ TB := TB_1 (i := 33) rfl rfl
theorem a1_34 : (Jvm.Cond.fieldLink "TrialDesk$Plan" (15 : Nat) "TrialDesk$Plan" "armCount" "I") ∈ TB := TB_1 (i := 34) rfl rfl
theorem a1_35 : (Jvm.Cond.fieldLinkNest "TrialDesk$Stratum" (64 : Nat) "TrialDesk$Plan" "armCount" "I" "TrialDesk") ∈ TB := TB_1 (i := 35) rfl rfl
theorem a1_36 : (Jvm.Cond.fieldLinkNest "TrialDesk" (245 : Nat) "TrialDesk$Plan" "armCount" "I" "TrialDesk") ∈ TB := TB_1 (i := 36) rfl rfl
theorem a1_37 : (Jvm.Cond.fieldLink "TrialDesk$Plan" (19 : Nat) "TrialDesk$Plan" "total" "I") ∈ TB := TB_1 (i := 37) rfl rfl
theorem a1_38 : (Jvm.Cond.fieldLink "TrialDesk$Plan" (22 : Nat) "TrialDesk$Plan" "size" "I") ∈ TB := TB_1 (i := 38) rfl rfl
theorem a1_39 : (Jvm.Cond.fieldLinkNest "TrialDesk$Stratum" (57 : Nat) "TrialDesk$Plan" "size" "I" "TrialDesk") ∈ TB := TB_1 (i := 39) rfl rfl
theorem a1_40 : (Jvm.Cond.fieldLinkNest "TrialDesk" (167 : Nat) "TrialDesk$Plan" "size" "I" "TrialDesk") ∈ TB := TB_1 (i := 40) rfl rfl
theorem a1_41 : (Jvm.Cond.laysFinal "TrialDesk$Plan" "TrialDesk$Plan" "weights" "[I") ∈ TB := TB_1 (i := 41) rfl rfl
theorem a1_43 : (Jvm.Cond.lays "TrialDesk$Plan" "TrialDesk$Plan" "armCount" "I") ∈ TB := TB_1 (i := 43) rfl rfl
theorem a1_45 : (Jvm.Cond.lays "TrialDesk$Plan" "TrialDesk$Plan" "total" "I") ∈ TB := TB_1 (i := 45) rfl rfl
theorem a1_47 : (Jvm.Cond.lays "TrialDesk$Plan" "TrialDesk$Plan" "size" "I") ∈ TB := TB_1 (i := 47) rfl rfl
theorem a1_49 : (Jvm.Cond.superclass "TrialDesk$Plan" "java/lang/Object") ∈ TB := TB_1 (i := 49) rfl rfl
theorem a1_50 : (Jvm.Cond.arrayClass Jvm.ClassFile.FieldType.int) ∈ TB := TB_1 (i := 50) rfl rfl
theorem a1_51 : (Jvm.Cond.classLink "TrialDesk" (16 : Nat) "TrialDesk$Journal") ∈ TB := TB_1 (i := 51) rfl rfl
theorem a1_52 : (Jvm.Cond.instantiable "TrialDesk$Journal" (3 : Nat)) ∈ TB := TB_1 (i := 52) rfl rfl
theorem a1_53 : (Jvm.Cond.methodLinkNest "TrialDesk" (18 : Nat) ({ cls := "TrialDesk$Journal", name := "<init>", desc := "()V" } : Jvm.MethodName) "TrialDesk") ∈ TB := TB_1 (i := 53) rfl rfl
theorem a1_54 : (Jvm.Cond.instanceMethod ({ cls := "TrialDesk$Journal", name := "<init>", desc := "()V" } : Jvm.MethodName)) ∈ TB := TB_1 (i := 54) rfl rfl
theorem a1_55 : (Jvm.Cond.code ({ cls := "TrialDesk$Journal", name := "<init>", desc := "()V" } : Jvm.MethodName) prog_2_method_1_code (1 : Nat) (Option.none : Option Jvm.ClassFile.FieldType)) ∈ TB := TB_1 (i := 55) rfl rfl
theorem a1_56 : (Jvm.Cond.methodLink "TrialDesk$Journal" (1 : Nat) ({ cls := "java/lang/Object", name := "<init>", desc := "()V" } : Jvm.MethodName)) ∈ TB := TB_1 (i := 56) rfl rfl
theorem a1_57 : (Jvm.Cond.fieldLink "TrialDesk$Journal" (7 : Nat) "TrialDesk$Journal" "down" "Z") ∈ TB := TB_1 (i := 57) rfl rfl
theorem a1_58 : (Jvm.Cond.fieldLinkNest "TrialDesk" (67 : Nat) "TrialDesk$Journal" "down" "Z" "TrialDesk") ∈ TB := TB_1 (i := 58) rfl rfl
theorem a1_59 : (Jvm.Cond.fieldLink "TrialDesk$Journal" (13 : Nat) "TrialDesk$Journal" "tearing" "Z") ∈ TB := TB_1 (i := 59) rfl rfl
theorem a1_60 : (Jvm.Cond.fieldLink "TrialDesk$Journal" (16 : Nat) "TrialDesk$Journal" "records" "I") ∈ TB := TB_1 (i := 60) rfl rfl
theorem a1_61 : (Jvm.Cond.fieldLinkNest "TrialDesk" (239 : Nat) "TrialDesk$Journal" "records" "I" "TrialDesk") ∈ TB := TB_1 (i := 61) rfl rfl
theorem a1_62 : (Jvm.Cond.lays "TrialDesk$Journal" "TrialDesk$Journal" "down" "Z") ∈ TB := TB_1 (i := 62) rfl rfl
theorem a1_64 : (Jvm.Cond.lays "TrialDesk$Journal" "TrialDesk$Journal" "tearing" "Z") ∈ TB := TB_1 (i := 64) rfl rfl
theorem a1_66 : (Jvm.Cond.lays "TrialDesk$Journal" "TrialDesk$Journal" "records" "I") ∈ TB := TB_1 (i := 66) rfl rfl
theorem a1_68 : (Jvm.Cond.superclass "TrialDesk$Journal" "java/lang/Object") ∈ TB := TB_1 (i := 68) rfl rfl
theorem a1_69 : (Jvm.Cond.classLink "TrialDesk" (23 : Nat) "TrialDesk$Shelf") ∈ TB := TB_1 (i := 69) rfl rfl
theorem a1_70 : (Jvm.Cond.instantiable "TrialDesk$Shelf" (4 : Nat)) ∈ TB := TB_1 (i := 70) rfl rfl
theorem a1_71 : (Jvm.Cond.methodLinkNest "TrialDesk" (25 : Nat) ({ cls := "TrialDesk$Shelf", name := "<init>", desc := "()V" } : Jvm.MethodName) "TrialDesk") ∈ TB := TB_1 (i := 71) rfl rfl
theorem a1_72 : (Jvm.Cond.instanceMethod ({ cls := "TrialDesk$Shelf", name := "<init>", desc := "()V" } : Jvm.MethodName)) ∈ TB := TB_1 (i := 72) rfl rfl
theorem a1_73 : (Jvm.Cond.code ({ cls := "TrialDesk$Shelf", name := "<init>", desc := "()V" } : Jvm.MethodName) prog_5_method_1_code (1 : Nat) (Option.none : Option Jvm.ClassFile.FieldType)) ∈ TB := TB_1 (i := 73) rfl rfl
theorem a1_74 : (Jvm.Cond.methodLink "TrialDesk$Shelf" (3 : Nat) ({ cls := "java/lang/Object", name := "<init>", desc := "()V" } : Jvm.MethodName)) ∈ TB := TB_1 (i := 74) rfl rfl
theorem a1_75 : (Jvm.Cond.fieldLink "TrialDesk$Shelf" (9 : Nat) "TrialDesk$Shelf" "homes" "[I") ∈ TB := TB_1 (i := 75) rfl rfl
theorem a1_76 : (Jvm.Cond.fieldLink "TrialDesk$Shelf" (15 : Nat) "TrialDesk$Shelf" "forArm" "[I") ∈ TB := TB_1 (i := 76) rfl rfl
theorem a1_77 : (Jvm.Cond.fieldLink "TrialDesk$Shelf" (18 : Nat) "TrialDesk$Shelf" "states" "[I") ∈ TB := TB_1 (i := 77) rfl rfl
theorem a1_78 : (Jvm.Cond.fieldLink "TrialDesk$Shelf" (21 : Nat) "TrialDesk$Shelf" "users" "[I") ∈ TB := TB_1 (i := 78) rfl rfl
theorem a1_79 : (Jvm.Cond.laysFinal "TrialDesk$Shelf" "TrialDesk$Shelf" "homes" "[I") ∈ TB := TB_1 (i := 79) rfl rfl
theorem a1_81 : (Jvm.Cond.laysFinal "TrialDesk$Shelf" "TrialDesk$Shelf" "forArm" "[I") ∈ TB := TB_1 (i := 81) rfl rfl
theorem a1_83 : (Jvm.Cond.laysFinal "TrialDesk$Shelf" "TrialDesk$Shelf" "states" "[I") ∈ TB := TB_1 (i := 83) rfl rfl
theorem a1_85 : (Jvm.Cond.laysFinal "TrialDesk$Shelf" "TrialDesk$Shelf" "users" "[I") ∈ TB := TB_1 (i := 85) rfl rfl
theorem a1_87 : (Jvm.Cond.superclass "TrialDesk$Shelf" "java/lang/Object") ∈ TB := TB_1 (i := 87) rfl rfl
theorem a1_88 : (Jvm.Cond.classLink "TrialDesk" (30 : Nat) "TrialDesk$Site") ∈ TB := TB_1 (i := 88) rfl rfl
theorem a1_89 : (Jvm.Cond.arrayOver (Jvm.ClassFile.FieldType.object "TrialDesk$Site")) ∈ TB := TB_1 (i := 89) rfl rfl
theorem a1_90 : (Jvm.Cond.classLink "TrialDesk" (36 : Nat) "TrialDesk$Stratum") ∈ TB := TB_1 (i := 90) rfl rfl
theorem a1_91 : (Jvm.Cond.arrayOver (Jvm.ClassFile.FieldType.object "TrialDesk$Stratum")) ∈ TB := TB_1 (i := 91) rfl rfl
theorem a1_92 : (Jvm.Cond.instantiable "TrialDesk$Stratum" (9 : Nat)) ∈ TB := TB_1 (i := 92) rfl rfl
theorem a1_93 : (Jvm.Cond.methodLink "TrialDesk" (46 : Nat) ({ cls := "TrialDesk$Stratum", name := "<init>", desc := "(I)V" } : Jvm.MethodName)) ∈ TB := TB_1 (i := 93) rfl rfl
theorem a1_94 : (Jvm.Cond.instanceMethod ({ cls := "TrialDesk$Stratum", name := "<init>", desc := "(I)V" } : Jvm.MethodName)) ∈ TB := TB_1 (i := 94) rfl rfl
theorem a1_95 : (Jvm.Cond.code ({ cls := "TrialDesk$Stratum", name := "<init>", desc := "(I)V" } : Jvm.MethodName) prog_7_method_1_code (2 : Nat) (Option.none : Option Jvm.ClassFile.FieldType)) ∈ TB := TB_1 (i := 95) rfl rfl
theorem a1_96 : (Jvm.Cond.methodLink "TrialDesk$Stratum" (3 : Nat) ({ cls := "java/lang/Object", name := "<init>", desc := "()V" } : Jvm.MethodName)) ∈ TB := TB_1 (i := 96) rfl rfl
theorem a1_97 : (Jvm.Cond.classLink "TrialDesk$Stratum" (15 : Nat) "TrialDesk$Plan") ∈ TB := TB_1 (i := 97) rfl rfl
theorem a1_98 : (Jvm.Cond.methodLinkNest "TrialDesk$Stratum" (17 : Nat) ({ cls := "TrialDesk$Plan", name := "<init>", desc := "()V" } : Jvm.MethodName) "TrialDesk") ∈ TB := TB_1 (i := 98) rfl rfl
theorem a1_99 : (Jvm.Cond.fieldLink "TrialDesk$Stratum" (25 : Nat) "TrialDesk$Stratum" "number" "I") ∈ TB := TB_1 (i := 99) rfl rfl
theorem a1_100 : (Jvm.Cond.fieldLink "TrialDesk$Stratum" (9 : Nat) "TrialDesk$Stratum" "known" "[I") ∈ TB := TB_1 (i := 100) rfl rfl
theorem a1_101 : (Jvm.Cond.fieldLink "TrialDesk$Stratum" (18 : Nat) "TrialDesk$Stratum" "plan" "LTrialDesk$Plan;") ∈ TB := TB_1 (i := 101) rfl rfl
theorem a1_102 : (Jvm.Cond.fieldLink "TrialDesk$Stratum" (22 : Nat) "TrialDesk$Stratum" "list" "[I") ∈ TB := TB_1 (i := 102) rfl rfl
theorem a1_103 : (Jvm.Cond.fieldLink "TrialDesk$Stratum" (31 : Nat) "TrialDesk$Stratum" "word" "J") ∈ TB := TB_1 (i := 103) rfl rfl
theorem a1_104 : (Jvm.Cond.fieldLink "TrialDesk$Stratum" (35 : Nat) "TrialDesk$Stratum" "built" "I") ∈ TB := TB_1 (i := 104) rfl rfl
theorem a1_105 : (Jvm.Cond.fieldLink "TrialDesk$Stratum" (51 : Nat) "TrialDesk$Stratum" "taken" "I") ∈ TB := TB_1 (i := 105) rfl rfl
theorem a1_106 : (Jvm.Cond.fieldLinkNest "TrialDesk" (227 : Nat) "TrialDesk$Stratum" "taken" "I" "TrialDesk") ∈ TB := TB_1 (i := 106) rfl rfl
theorem a1_107 : (Jvm.Cond.fieldLink "TrialDesk$Stratum" (41 : Nat) "TrialDesk$Stratum" "openNext" "I") ∈ TB := TB_1 (i := 107) rfl rfl
theorem a1_108 : (Jvm.Cond.fieldLink "TrialDesk$Stratum" (38 : Nat) "TrialDesk$Stratum" "openLeft" "I") ∈ TB := TB_1 (i := 108) rfl rfl
theorem a1_109 : (Jvm.Cond.laysFinal "TrialDesk$Stratum" "TrialDesk$Stratum" "number" "I") ∈ TB := TB_1 (i := 109) rfl rfl
theorem a1_111 : (Jvm.Cond.laysFinal "TrialDesk$Stratum" "TrialDesk$Stratum" "known" "[I") ∈ TB := TB_1 (i := 111) rfl rfl
theorem a1_113 : (Jvm.Cond.lays "TrialDesk$Stratum" "TrialDesk$Stratum" "plan" "LTrialDesk$Plan;") ∈ TB := TB_1 (i := 113) rfl rfl
theorem a1_115 : (Jvm.Cond.lays "TrialDesk$Stratum" "TrialDesk$Stratum" "list" "[I") ∈ TB := TB_1 (i := 115) rfl rfl
theorem a1_117 : (Jvm.Cond.lays "TrialDesk$Stratum" "TrialDesk$Stratum" "word" "J") ∈ TB := TB_1 (i := 117) rfl rfl
theorem a1_119 : (Jvm.Cond.lays "TrialDesk$Stratum" "TrialDesk$Stratum" "built" "I") ∈ TB := TB_1 (i := 119) rfl rfl
theorem a1_121 : (Jvm.Cond.lays "TrialDesk$Stratum" "TrialDesk$Stratum" "taken" "I") ∈ TB := TB_1 (i := 121) rfl rfl
theorem a1_123 : (Jvm.Cond.lays "TrialDesk$Stratum" "TrialDesk$Stratum" "openNext" "I") ∈ TB := TB_1 (i := 123) rfl rfl
theorem a1_125 : (Jvm.Cond.lays "TrialDesk$Stratum" "TrialDesk$Stratum" "openLeft" "I") ∈ TB := TB_1 (i := 125) rfl rfl
theorem a1_127 : (Jvm.Cond.superclass "TrialDesk$Stratum" "java/lang/Object") ∈ TB := TB_1 (i := 127) rfl rfl
theorem a1_128 : (Jvm.Cond.fieldLink "TrialDesk" (10 : Nat) "TrialDesk" "plan" "LTrialDesk$Plan;") ∈ TB := TB_1 (i := 128) rfl rfl
theorem a1_129 : (Jvm.Cond.fieldLink "TrialDesk" (19 : Nat) "TrialDesk" "journal" "LTrialDesk$Journal;") ∈ TB := TB_1 (i := 129) rfl rfl
theorem a1_130 : (Jvm.Cond.fieldLink "TrialDesk" (26 : Nat) "TrialDesk" "shelf" "LTrialDesk$Shelf;") ∈ TB := TB_1 (i := 130) rfl rfl
theorem a1_131 : (Jvm.Cond.fieldLink "TrialDesk" (32 : Nat) "TrialDesk" "sites" "[LTrialDesk$Site;") ∈ TB := TB_1 (i := 131) rfl rfl
theorem a1_132 : (Jvm.Cond.fieldLink "TrialDesk" (38 : Nat) "TrialDesk" "strata" "[LTrialDesk$Stratum;") ∈ TB := TB_1 (i := 132) rfl rfl
theorem a1_133 : (Jvm.Cond.fieldLink "TrialDesk" (42 : Nat) "TrialDesk" "picked" "[I") ∈ TB := TB_1 (i := 133) rfl rfl
theorem a1_134 : (Jvm.Cond.fieldLink "TrialDesk" (90 : Nat) "TrialDesk" "siteCount" "I") ∈ TB := TB_1 (i := 134) rfl rfl
theorem a1_135 : (Jvm.Cond.fieldLink "TrialDesk" (126 : Nat) "TrialDesk" "opened" "Z") ∈ TB := TB_1 (i := 135) rfl rfl
theorem a1_136 : (Jvm.Cond.laysFinal "TrialDesk" "TrialDesk" "plan" "LTrialDesk$Plan;") ∈ TB := TB_1 (i := 136) rfl rfl
theorem a1_138 : (Jvm.Cond.laysFinal "TrialDesk" "TrialDesk" "journal" "LTrialDesk$Journal;") ∈ TB := TB_1 (i := 138) rfl rfl
theorem a1_140 : (Jvm.Cond.laysFinal "TrialDesk" "TrialDesk" "shelf" "LTrialDesk$Shelf;") ∈ TB := TB_1 (i := 140) rfl rfl
theorem a1_142 : (Jvm.Cond.laysFinal "TrialDesk" "TrialDesk" "sites" "[LTrialDesk$Site;") ∈ TB := TB_1 (i := 142) rfl rfl
theorem a1_144 : (Jvm.Cond.laysFinal "TrialDesk" "TrialDesk" "strata" "[LTrialDesk$Stratum;") ∈ TB := TB_1 (i := 144) rfl rfl
theorem a1_146 : (Jvm.Cond.laysFinal "TrialDesk" "TrialDesk" "picked" "[I") ∈ TB := TB_1 (i := 146) rfl rfl
theorem a1_148 : (Jvm.Cond.lays "TrialDesk" "TrialDesk" "siteCount" "I") ∈ TB := TB_1 (i := 148) rfl rfl
theorem a1_150 : (Jvm.Cond.lays "TrialDesk" "TrialDesk" "opened" "Z") ∈ TB := TB_1 (i := 150) rfl rfl
theorem a1_152 : (Jvm.Cond.superclass "TrialDesk" "java/lang/Object") ∈ TB := TB_1 (i := 152) rfl rfl
theorem a1_153 : (Jvm.Cond.methodLink "TrialDeskLaw" (142 : Nat) ({ cls := "TrialDesk", name := "tear", desc := "()V" } : Jvm.MethodName)) ∈ TB := TB_1 (i := 153) rfl rfl
theorem a1_154 : (Jvm.Cond.instanceMethod ({ cls := "TrialDesk", name := "tear", desc := "()V" } : Jvm.MethodName)) ∈ TB := TB_1 (i := 154) rfl rfl
theorem a1_155 : (Jvm.Cond.selects "TrialDesk" ({ cls := "TrialDesk", name := "tear", desc := "()V" } : Jvm.MethodName) ({ cls := "TrialDesk", name := "tear", desc := "()V" } : Jvm.MethodName)) ∈ TB := TB_1 (i := 155) rfl rfl
theorem a1_156 : (Jvm.Cond.code ({ cls := "TrialDesk", name := "tear", desc := "()V" } : Jvm.MethodName) prog_1_method_19_code (1 : Nat) (Option.none : Option Jvm.ClassFile.FieldType)) ∈ TB := TB_1 (i := 156) rfl rfl
theorem a1_157 : (Jvm.Cond.methodLink "TrialDesk" (236 : Nat) ({ cls := "TrialDesk$Journal", name := "tearNext", desc := "()V" } : Jvm.MethodName)) ∈ TB := TB_1 (i := 157) rfl rfl
theorem a1_158 : (Jvm.Cond.instanceMethod ({ cls := "TrialDesk$Journal", name := "tearNext", desc := "()V" } : Jvm.MethodName)) ∈ TB := TB_1 (i := 158) rfl rfl
theorem a1_159 : (Jvm.Cond.selects "TrialDesk$Journal" ({ cls := "TrialDesk$Journal", name := "tearNext", desc := "()V" } : Jvm.MethodName) ({ cls := "TrialDesk$Journal", name := "tearNext", desc := "()V" } : Jvm.MethodName)) ∈ TB := TB_1 (i := 159) rfl rfl
theorem a1_160 : (Jvm.Cond.code ({ cls := "TrialDesk$Journal", name := "tearNext", desc := "()V" } : Jvm.MethodName) prog_2_method_2_code (1 : Nat) (Option.none : Option Jvm.ClassFile.FieldType)) ∈ TB := TB_1 (i := 160) rfl rfl
theorem a1_161 : (Jvm.Cond.methodLink "TrialDeskLaw" (81 : Nat) ({ cls := "TrialDeskLaw", name := "arms", desc := "(LTrialDesk;IIIIIJ)I" } : Jvm.MethodName)) ∈ TB := TB_1 (i := 161) rfl rfl
theorem a1_162 : (Jvm.Cond.static ({ cls := "TrialDeskLaw", name := "arms", desc := "(LTrialDesk;IIIIIJ)I" } : Jvm.MethodName)) ∈ TB := TB_1 (i := 162) rfl rfl
theorem a1_163 : (Jvm.Cond.codeWith ({ cls := "TrialDeskLaw", name := "arms", desc := "(LTrialDesk;IIIIIJ)I" } : Jvm.MethodName) method_3_code (9 : Nat) (Option.some Jvm.ClassFile.FieldType.int) [((0 : Nat), (13 : Nat), (16 : Nat), (13 : Nat)), ((0 : Nat), (13 : Nat), (20 : Nat), (15 : Nat))]) ∈ TB := TB_1 (i := 163) rfl rfl
theorem a1_164 : (Jvm.Cond.classLink "TrialDeskLaw" (13 : Nat) "java/lang/IllegalArgumentException") ∈ TB := TB_1 (i := 164) rfl rfl
theorem a1_165 : (Jvm.Cond.classLink "TrialDeskLaw" (15 : Nat) "java/lang/IllegalStateException") ∈ TB := TB_1 (i := 165) rfl rfl
theorem a1_166 : (Jvm.Cond.methodLink "TrialDeskLaw" (7 : Nat) ({ cls := "TrialDesk", name := "arms", desc := "(IIIIIJ)V" } : Jvm.MethodName)) ∈ TB := TB_1 (i := 166) rfl rfl
theorem a1_167 : (Jvm.Cond.instanceMethod ({ cls := "TrialDesk", name := "arms", desc := "(IIIIIJ)V" } : Jvm.MethodName)) ∈ TB := TB_1 (i := 167) rfl rfl
theorem a1_168 : (Jvm.Cond.selects "TrialDesk" ({ cls := "TrialDesk", name := "arms", desc := "(IIIIIJ)V" } : Jvm.MethodName) ({ cls := "TrialDesk", name := "arms", desc := "(IIIIIJ)V" } : Jvm.MethodName)) ∈ TB := TB_1 (i := 168) rfl rfl
theorem a1_169 : (Jvm.Cond.code ({ cls := "TrialDesk", name := "arms", desc := "(IIIIIJ)V" } : Jvm.MethodName) prog_1_method_2_code (9 : Nat) (Option.none : Option Jvm.ClassFile.FieldType)) ∈ TB := TB_1 (i := 169) rfl rfl
theorem a1_170 : (Jvm.Cond.methodLink "TrialDesk" (49 : Nat) ({ cls := "TrialDesk", name := "areWeights", desc := "(IIII)Z" } : Jvm.MethodName)) ∈ TB := TB_1 (i := 170) rfl rfl
theorem a1_171 : (Jvm.Cond.static ({ cls := "TrialDesk", name := "areWeights", desc := "(IIII)Z" } : Jvm.MethodName)) ∈ TB := TB_1 (i := 171) rfl rfl
theorem a1_172 : (Jvm.Cond.code ({ cls := "TrialDesk", name := "areWeights", desc := "(IIII)Z" } : Jvm.MethodName) prog_1_method_21_code (5 : Nat) (Option.some Jvm.ClassFile.FieldType.boolean)) ∈ TB := TB_1 (i := 172) rfl rfl
theorem a1_173 : (Jvm.Cond.methodLink "TrialDesk" (242 : Nat) ({ cls := "TrialDesk", name := "isWeight", desc := "(II)Z" } : Jvm.MethodName)) ∈ TB := TB_1 (i := 173) rfl rfl
theorem a1_174 : (Jvm.Cond.static ({ cls := "TrialDesk", name := "isWeight", desc := "(II)Z" } : Jvm.MethodName)) ∈ TB := TB_1 (i := 174) rfl rfl
theorem a1_175 : (Jvm.Cond.code ({ cls := "TrialDesk", name := "isWeight", desc := "(II)Z" } : Jvm.MethodName) prog_1_method_22_code (2 : Nat) (Option.some Jvm.ClassFile.FieldType.boolean)) ∈ TB := TB_1 (i := 175) rfl rfl
theorem a1_176 : (Jvm.Cond.methodLink "TrialDesk" (53 : Nat) ({ cls := "TrialDesk", name := "isSize", desc := "(II)Z" } : Jvm.MethodName)) ∈ TB := TB_1 (i := 176) rfl rfl
theorem a1_177 : (Jvm.Cond.static ({ cls := "TrialDesk", name := "isSize", desc := "(II)Z" } : Jvm.MethodName)) ∈ TB := TB_1 (i := 177) rfl rfl
theorem a1_178 : (Jvm.Cond.code ({ cls := "TrialDesk", name := "isSize", desc := "(II)Z" } : Jvm.MethodName) prog_1_method_23_code (2 : Nat) (Option.some Jvm.ClassFile.FieldType.boolean)) ∈ TB := TB_1 (i := 178) rfl rfl
theorem a1_179 : (Jvm.Cond.classLink "TrialDesk" (57 : Nat) "java/lang/IllegalArgumentException") ∈ TB := TB_1 (i := 179) rfl rfl
theorem a1_180 : (Jvm.Cond.instantiable "java/lang/IllegalArgumentException" (6 : Nat)) ∈ TB := TB_1 (i := 180) rfl rfl
theorem a1_181 : (Jvm.Cond.castable "java/lang/IllegalArgumentException" "java/lang/IllegalArgumentException") ∈ TB := TB_1 (i := 181) rfl rfl
theorem a1_182 : (Jvm.Cond.declares ({ cls := "java/lang/RuntimeException", name := "<init>", desc := "()V" } : Jvm.MethodName)) ∈ TB := TB_1 (i := 182) rfl rfl
theorem a1_183 : (Jvm.Cond.declares ({ cls := "java/lang/RuntimeException", name := "<init>", desc := "(Ljava/lang/String;)V" } : Jvm.MethodName)) ∈ TB := TB_1 (i := 183) rfl rfl
theorem a1_184 : (Jvm.Cond.declares ({ cls := "java/lang/Exception", name := "<init>", desc := "()V" } : Jvm.MethodName)) ∈ TB := TB_1 (i := 184) rfl rfl
theorem a1_185 : (Jvm.Cond.declares ({ cls := "java/lang/Exception", name := "<init>", desc := "(Ljava/lang/String;)V" } : Jvm.MethodName)) ∈ TB := TB_1 (i := 185) rfl rfl
theorem a1_186 : (Jvm.Cond.declares ({ cls := "java/lang/Throwable", name := "<init>", desc := "()V" } : Jvm.MethodName)) ∈ TB := TB_1 (i := 186) rfl rfl
theorem a1_187 : (Jvm.Cond.declares ({ cls := "java/lang/Throwable", name := "<init>", desc := "(Ljava/lang/String;)V" } : Jvm.MethodName)) ∈ TB := TB_1 (i := 187) rfl rfl
theorem a1_188 : (Jvm.Cond.selects "java/lang/IllegalArgumentException" ({ cls := "java/lang/Throwable", name := "fillInStackTrace", desc := "(I)Ljava/lang/Throwable;" } : Jvm.MethodName) ({ cls := "java/lang/Throwable", name := "fillInStackTrace", desc := "(I)Ljava/lang/Throwable;" } : Jvm.MethodName)) ∈ TB := TB_1 (i := 188) rfl rfl
theorem a1_189 : (Jvm.Cond.selects "java/lang/IllegalArgumentException" ({ cls := "java/lang/Throwable", name := "fillInStackTrace", desc := "()Ljava/lang/Throwable;" } : Jvm.MethodName) ({ cls := "java/lang/Throwable", name := "fillInStackTrace", desc := "()Ljava/lang/Throwable;" } : Jvm.MethodName)) ∈ TB := TB_1 (i := 189) rfl rfl
theorem a1_190 : (Jvm.Cond.lays "java/lang/IllegalArgumentException" "java/lang/Throwable" "cause" "Ljava/lang/Throwable;") ∈ TB := TB_1 (i := 190) rfl rfl
theorem a1_191 : (Jvm.Cond.lays "java/lang/Throwable" "java/lang/Throwable" "cause" "Ljava/lang/Throwable;") ∈ TB := TB_1 (i := 191) rfl rfl
theorem a1_192 : (Jvm.Cond.lays "java/lang/IllegalArgumentException" "java/lang/Throwable" "stackTrace" "[Ljava/lang/StackTraceElement;") ∈ TB := TB_1 (i := 192) rfl rfl
theorem a1_193 : (Jvm.Cond.lays "java/lang/Throwable" "java/lang/Throwable" "stackTrace" "[Ljava/lang/StackTraceElement;") ∈ TB := TB_1 (i := 193) rfl rfl
theorem a1_194 : (Jvm.Cond.lays "java/lang/IllegalArgumentException" "java/lang/Throwable" "suppressedExceptions" "Ljava/util/List;") ∈ TB := TB_1 (i := 194) rfl rfl
theorem a1_195 : (Jvm.Cond.lays "java/lang/Throwable" "java/lang/Throwable" "suppressedExceptions" "Ljava/util/List;") ∈ TB := TB_1 (i := 195) rfl rfl
theorem a1_196 : (Jvm.Cond.lays "java/lang/IllegalArgumentException" "java/lang/Throwable" "detailMessage" "Ljava/lang/String;") ∈ TB := TB_1 (i := 196) rfl rfl
theorem a1_197 : (Jvm.Cond.lays "java/lang/Throwable" "java/lang/Throwable" "detailMessage" "Ljava/lang/String;") ∈ TB := TB_1 (i := 197) rfl rfl
theorem a1_198 : (Jvm.Cond.lays "java/lang/IllegalArgumentException" "java/lang/Throwable" "backtrace" "Ljava/lang/Object;") ∈ TB := TB_1 (i := 198) rfl rfl
theorem a1_199 : (Jvm.Cond.lays "java/lang/Throwable" "java/lang/Throwable" "backtrace" "Ljava/lang/Object;") ∈ TB := TB_1 (i := 199) rfl rfl
theorem a1_200 : (Jvm.Cond.fieldLink "java/lang/Throwable" (198 : Nat) "java/lang/Throwable" "backtrace" "Ljava/lang/Object;") ∈ TB := TB_1 (i := 200) rfl rfl
theorem a1_201 : (Jvm.Cond.superclass "java/lang/Throwable" "java/lang/Object") ∈ TB := TB_1 (i := 201) rfl rfl
theorem a1_202 : (Jvm.Cond.instanceMethod ({ cls := "java/lang/Throwable", name := "<init>", desc := "()V" } : Jvm.MethodName)) ∈ TB := TB_1 (i := 202) rfl rfl
theorem a1_203 : (Jvm.Cond.code ({ cls := "java/lang/Throwable", name := "<init>", desc := "()V" } : Jvm.MethodName) prog_19_method_1_code (1 : Nat) (Option.none : Option Jvm.ClassFile.FieldType)) ∈ TB := TB_1 (i := 203) rfl rfl
theorem a1_204 : (Jvm.Cond.methodLink "java/lang/Throwable" (1 : Nat) ({ cls := "java/lang/Object", name := "<init>", desc := "()V" } : Jvm.MethodName)) ∈ TB := TB_1 (i := 204) rfl rfl
theorem a1_205 : (Jvm.Cond.fieldLink "java/lang/Throwable" (13 : Nat) "java/lang/Throwable" "UNASSIGNED_STACK" "[Ljava/lang/StackTraceElement;") ∈ TB := TB_1 (i := 205) rfl rfl
theorem a1_207 : (Jvm.Cond.fieldLink "java/lang/Throwable" (20 : Nat) "java/lang/Throwable" "SUPPRESSED_SENTINEL" "Ljava/util/List;") ∈ TB := TB_1 (i := 207) rfl rfl
theorem a1_209 : (Jvm.Cond.methodLink "java/lang/Throwable" (27 : Nat) ({ cls := "java/lang/Throwable", name := "fillInStackTrace", desc := "()Ljava/lang/Throwable;" } : Jvm.MethodName)) ∈ TB := TB_1 (i := 209) rfl rfl
theorem a1_210 : (Jvm.Cond.instanceMethod ({ cls := "java/lang/Throwable", name := "fillInStackTrace", desc := "()Ljava/lang/Throwable;" } : Jvm.MethodName)) ∈ TB := TB_1 (i := 210) rfl rfl
theorem a1_211 : (Jvm.Cond.sameMethod "java/lang/Throwable" "java/lang/Throwable" "fillInStackTrace" "()Ljava/lang/Throwable;") ∈ TB := TB_1 (i := 211) rfl rfl
theorem a1_212 : (Jvm.Cond.selects "java/lang/IllegalStateException" ({ cls := "java/lang/Throwable", name := "fillInStackTrace", desc := "()Ljava/lang/Throwable;" } : Jvm.MethodName) ({ cls := "java/lang/Throwable", name := "fillInStackTrace", desc := "()Ljava/lang/Throwable;" } : Jvm.MethodName)) ∈ TB := TB_1 (i := 212) rfl rfl
theorem a1_213 : (Jvm.Cond.selects "java/lang/IndexOutOfBoundsException" ({ cls := "java/lang/Throwable", name := "fillInStackTrace", desc := "()Ljava/lang/Throwable;" } : Jvm.MethodName) ({ cls := "java/lang/Throwable", name := "fillInStackTrace", desc := "()Ljava/lang/Throwable;" } : Jvm.MethodName)) ∈ TB := TB_1 (i := 213) rfl rfl
theorem a1_214 : (Jvm.Cond.codeSync ({ cls := "java/lang/Throwable", name := "fillInStackTrace", desc := "()Ljava/lang/Throwable;" } : Jvm.MethodName) prog_19_method_18_code (1 : Nat) (Option.some (Jvm.ClassFile.FieldType.object "java/lang/Throwable"))) ∈ TB := TB_1 (i := 214) rfl rfl
theorem a1_215 : (Jvm.Cond.methodLink "java/lang/Throwable" (202 : Nat) ({ cls := "java/lang/Throwable", name := "fillInStackTrace", desc := "(I)Ljava/lang/Throwable;" } : Jvm.MethodName)) ∈ TB := TB_1 (i := 215) rfl rfl
theorem a1_217 : (Jvm.Cond.instanceMethod ({ cls := "java/lang/Throwable", name := "fillInStackTrace", desc := "(I)Ljava/lang/Throwable;" } : Jvm.MethodName)) ∈ TB := TB_1 (i := 217) rfl rfl
theorem a1_218 : (Jvm.Cond.instantiable "java/lang/Throwable" (6 : Nat)) ∈ TB := TB_1 (i := 218) rfl rfl
theorem a1_219 : (Jvm.Cond.native ({ cls := "java/lang/Throwable", name := "fillInStackTrace", desc := "(I)Ljava/lang/Throwable;" } : Jvm.MethodName)) ∈ TB := TB_1 (i := 219) rfl rfl
theorem a1_220 : (Jvm.Cond.methodLink "TrialDesk" (59 : Nat) ({ cls := "java/lang/IllegalArgumentException", name := "<init>", desc := "()V" } : Jvm.MethodName)) ∈ TB := TB_1 (i := 220) rfl rfl
theorem a1_221 : (Jvm.Cond.instanceMethod ({ cls := "java/lang/IllegalArgumentException", name := "<init>", desc := "()V" } : Jvm.MethodName)) ∈ TB := TB_1 (i := 221) rfl rfl
theorem a1_222 : (Jvm.Cond.code ({ cls := "java/lang/IllegalArgumentException", name := "<init>", desc := "()V" } : Jvm.MethodName) prog_12_method_1_code (1 : Nat) (Option.none : Option Jvm.ClassFile.FieldType)) ∈ TB := TB_1 (i := 222) rfl rfl
theorem a1_223 : (Jvm.Cond.methodLink "java/lang/IllegalArgumentException" (1 : Nat) ({ cls := "java/lang/RuntimeException", name := "<init>", desc := "()V" } : Jvm.MethodName)) ∈ TB := TB_1 (i := 223) rfl rfl
theorem a1_224 : (Jvm.Cond.instanceMethod ({ cls := "java/lang/RuntimeException", name := "<init>", desc := "()V" } : Jvm.MethodName)) ∈ TB := TB_1 (i := 224) rfl rfl
theorem a1_225 : (Jvm.Cond.code ({ cls := "java/lang/RuntimeException", name := "<init>", desc := "()V" } : Jvm.MethodName) prog_17_method_1_code (1 : Nat) (Option.none : Option Jvm.ClassFile.FieldType)) ∈ TB := TB_1 (i := 225) rfl rfl
theorem a1_226 : (Jvm.Cond.methodLink "java/lang/RuntimeException" (1 : Nat) ({ cls := "java/lang/Exception", name := "<init>", desc := "()V" } : Jvm.MethodName)) ∈ TB := TB_1 (i := 226) rfl rfl
theorem a1_227 : (Jvm.Cond.instanceMethod ({ cls := "java/lang/Exception", name := "<init>", desc := "()V" } : Jvm.MethodName)) ∈ TB := TB_1 (i := 227) rfl rfl
theorem a1_228 : (Jvm.Cond.code ({ cls := "java/lang/Exception", name := "<init>", desc := "()V" } : Jvm.MethodName) prog_11_method_1_code (1 : Nat) (Option.none : Option Jvm.ClassFile.FieldType)) ∈ TB := TB_1 (i := 228) rfl rfl
theorem a1_229 : (Jvm.Cond.methodLink "java/lang/Exception" (1 : Nat) ({ cls := "java/lang/Throwable", name := "<init>", desc := "()V" } : Jvm.MethodName)) ∈ TB := TB_1 (i := 229) rfl rfl
theorem a1_230 : (Jvm.Cond.fieldLink "java/lang/Throwable" (198 : Nat) "java/lang/Throwable" "backtrace" "Ljava/lang/Object;") ∈ TB := TB_1 (i := 230) rfl rfl
theorem a1_231 : (Jvm.Cond.fieldLink "java/lang/Throwable" (7 : Nat) "java/lang/Throwable" "cause" "Ljava/lang/Throwable;") ∈ TB := TB_1 (i := 231) rfl rfl
theorem a1_232 : (Jvm.Cond.fieldLink "java/lang/Throwable" (17 : Nat) "java/lang/Throwable" "stackTrace" "[Ljava/lang/StackTraceElement;") ∈ TB := TB_1 (i := 232) rfl rfl
theorem a1_233 : (Jvm.Cond.fieldLink "java/lang/Throwable" (24 : Nat) "java/lang/Throwable" "suppressedExceptions" "Ljava/util/List;") ∈ TB := TB_1 (i := 233) rfl rfl
theorem a1_238 : (Jvm.Cond.lays "java/lang/IllegalArgumentException" "java/lang/Throwable" "depth" "I") ∈ TB := TB_1 (i := 238) rfl rfl
theorem a2_1 : (Jvm.Cond.superclass "java/lang/IllegalArgumentException" "java/lang/RuntimeException") ∈ TB := TB_2 (i := 1) rfl rfl
theorem a2_2 : (Jvm.Cond.methodLink "TrialDesk" (60 : Nat) ({ cls := "TrialDesk", name := "isAnyBlockTaken", desc := "()Z" } : Jvm.MethodName)) ∈ TB := TB_2 (i := 2) rfl rfl
theorem a2_4 : (Jvm.Cond.instanceMethod ({ cls := "TrialDesk", name := "isAnyBlockTaken", desc := "()Z" } : Jvm.MethodName)) ∈ TB := TB_2 (i := 4) rfl rfl
theorem a2_5 : (Jvm.Cond.code ({ cls := "TrialDesk", name := "isAnyBlockTaken", desc := "()Z" } : Jvm.MethodName) prog_1_method_24_code (2 : Nat) (Option.some Jvm.ClassFile.FieldType.boolean)) ∈ TB := TB_2 (i := 5) rfl rfl
theorem a2_6 : (Jvm.Cond.methodLink "TrialDesk" (78 : Nat) ({ cls := "TrialDesk", name := "stratumAt", desc := "(I)LTrialDesk$Stratum;" } : Jvm.MethodName)) ∈ TB := TB_2 (i := 6) rfl rfl
theorem a2_8 : (Jvm.Cond.instanceMethod ({ cls := "TrialDesk", name := "stratumAt", desc := "(I)LTrialDesk$Stratum;" } : Jvm.MethodName)) ∈ TB := TB_2 (i := 8) rfl rfl
theorem a2_9 : (Jvm.Cond.code ({ cls := "TrialDesk", name := "stratumAt", desc := "(I)LTrialDesk$Stratum;" } : Jvm.MethodName) prog_1_method_26_code (2 : Nat) (Option.some (Jvm.ClassFile.FieldType.object "TrialDesk$Stratum"))) ∈ TB := TB_2 (i := 9) rfl rfl
theorem a2_10 : (Jvm.Cond.classLink "TrialDesk" (86 : Nat) "java/lang/IndexOutOfBoundsException") ∈ TB := TB_2 (i := 10) rfl rfl
theorem a2_11 : (Jvm.Cond.instantiable "java/lang/IndexOutOfBoundsException" (6 : Nat)) ∈ TB := TB_2 (i := 11) rfl rfl
theorem a2_12 : (Jvm.Cond.castable "java/lang/IndexOutOfBoundsException" "java/lang/IndexOutOfBoundsException") ∈ TB := TB_2 (i := 12) rfl rfl
theorem a2_13 : (Jvm.Cond.selects "java/lang/IndexOutOfBoundsException" ({ cls := "java/lang/Throwable", name := "fillInStackTrace", desc := "(I)Ljava/lang/Throwable;" } : Jvm.MethodName) ({ cls := "java/lang/Throwable", name := "fillInStackTrace", desc := "(I)Ljava/lang/Throwable;" } : Jvm.MethodName)) ∈ TB := TB_2 (i := 13) rfl rfl
theorem a2_14 : (Jvm.Cond.lays "java/lang/IndexOutOfBoundsException" "java/lang/Throwable" "cause" "Ljava/lang/Throwable;") ∈ TB := TB_2 (i := 14) rfl rfl
theorem a2_15 : (Jvm.Cond.lays "java/lang/IndexOutOfBoundsException" "java/lang/Throwable" "stackTrace" "[Ljava/lang/StackTraceElement;") ∈ TB := TB_2 (i := 15) rfl rfl
theorem a2_16 : (Jvm.Cond.lays "java/lang/IndexOutOfBoundsException" "java/lang/Throwable" "suppressedExceptions" "Ljava/util/List;") ∈ TB := TB_2 (i := 16) rfl rfl
theorem a2_17 : (Jvm.Cond.lays "java/lang/IndexOutOfBoundsException" "java/lang/Throwable" "detailMessage" "Ljava/lang/String;") ∈ TB := TB_2 (i := 17) rfl rfl
theorem a2_18 : (Jvm.Cond.lays "java/lang/IndexOutOfBoundsException" "java/lang/Throwable" "backtrace" "Ljava/lang/Object;") ∈ TB := TB_2 (i := 18) rfl rfl
theorem a2_19 : (Jvm.Cond.methodLink "TrialDesk" (88 : Nat) ({ cls := "java/lang/IndexOutOfBoundsException", name := "<init>", desc := "()V" } : Jvm.MethodName)) ∈ TB := TB_2 (i := 19) rfl rfl
theorem a2_20 : (Jvm.Cond.instanceMethod ({ cls := "java/lang/IndexOutOfBoundsException", name := "<init>", desc := "()V" } : Jvm.MethodName)) ∈ TB := TB_2 (i := 20) rfl rfl
theorem a2_21 : (Jvm.Cond.code ({ cls := "java/lang/IndexOutOfBoundsException", name := "<init>", desc := "()V" } : Jvm.MethodName) prog_14_method_1_code (1 : Nat) (Option.none : Option Jvm.ClassFile.FieldType)) ∈ TB := TB_2 (i := 21) rfl rfl
theorem a2_22 : (Jvm.Cond.methodLink "java/lang/IndexOutOfBoundsException" (1 : Nat) ({ cls := "java/lang/RuntimeException", name := "<init>", desc := "()V" } : Jvm.MethodName)) ∈ TB := TB_2 (i := 22) rfl rfl
theorem a2_23 : (Jvm.Cond.lays "java/lang/IndexOutOfBoundsException" "java/lang/Throwable" "depth" "I") ∈ TB := TB_2 (i := 23) rfl rfl
theorem a2_24 : (Jvm.Cond.superclass "java/lang/IndexOutOfBoundsException" "java/lang/RuntimeException") ∈ TB := TB_2 (i := 24) rfl rfl
theorem a2_25 : (Jvm.Cond.classLink "TrialDesk" (64 : Nat) "java/lang/IllegalStateException") ∈ TB := TB_2 (i := 25) rfl rfl
theorem a2_26 : (Jvm.Cond.instantiable "java/lang/IllegalStateException" (6 : Nat)) ∈ TB := TB_2 (i := 26) rfl rfl
theorem a2_27 : (Jvm.Cond.castable "java/lang/IllegalStateException" "java/lang/IllegalStateException") ∈ TB := TB_2 (i := 27) rfl rfl
theorem a2_28 : (Jvm.Cond.selects "java/lang/IllegalStateException" ({ cls := "java/lang/Throwable", name := "fillInStackTrace", desc := "(I)Ljava/lang/Throwable;" } : Jvm.MethodName) ({ cls := "java/lang/Throwable", name := "fillInStackTrace", desc := "(I)Ljava/lang/Throwable;" } : Jvm.MethodName)) ∈ TB := TB_2 (i := 28) rfl rfl
theorem a2_29 : (Jvm.Cond.lays "java/lang/IllegalStateException" "java/lang/Throwable" "cause" "Ljava/lang/Throwable;") ∈ TB := TB_2 (i := 29) rfl rfl
theorem a2_30 : (Jvm.Cond.lays "java/lang/IllegalStateException" "java/lang/Throwable" "stackTrace" "[Ljava/lang/StackTraceElement;") ∈ TB := TB_2 (i := 30) rfl rfl
theorem a2_31 : (Jvm.Cond.lays "java/lang/IllegalStateException" "java/lang/Throwable" "suppressedExceptions" "Ljava/util/List;") ∈ TB := TB_2 (i := 31) rfl rfl
theorem a2_32 : (Jvm.Cond.lays "java/lang/IllegalStateException" "java/lang/Throwable" "detailMessage" "Ljava/lang/String;") ∈ TB := TB_2 (i := 32) rfl rfl
theorem a2_33 : (Jvm.Cond.lays "java/lang/IllegalStateException" "java/lang/Throwable" "backtrace" "Ljava/lang/Object;") ∈ TB := TB_2 (i := 33) rfl rfl
theorem a2_34 : (Jvm.Cond.methodLink "TrialDesk" (66 : Nat) ({ cls := "java/lang/IllegalStateException", name := "<init>", desc := "()V" } : Jvm.MethodName)) ∈ TB := TB_2 (i := 34) rfl rfl
theorem a2_35 : (Jvm.Cond.instanceMethod ({ cls := "java/lang/IllegalStateException", name := "<init>", desc := "()V" } : Jvm.MethodName)) ∈ TB := TB_2 (i := 35) rfl rfl
theorem a2_36 : (Jvm.Cond.code ({ cls := "java/lang/IllegalStateException", name := "<init>", desc := "()V" } : Jvm.MethodName) prog_13_method_1_code (1 : Nat) (Option.none : Option Jvm.ClassFile.FieldType)) ∈ TB := TB_2 (i := 36) rfl rfl
theorem a2_37 : (Jvm.Cond.methodLink "java/lang/IllegalStateException" (1 : Nat) ({ cls := "java/lang/RuntimeException", name := "<init>", desc := "()V" } : Jvm.MethodName)) ∈ TB := TB_2 (i := 37) rfl rfl
theorem a2_38 : (Jvm.Cond.lays "java/lang/IllegalStateException" "java/lang/Throwable" "depth" "I") ∈ TB := TB_2 (i := 38) rfl rfl
theorem a2_39 : (Jvm.Cond.superclass "java/lang/IllegalStateException" "java/lang/RuntimeException") ∈ TB := TB_2 (i := 39) rfl rfl
theorem a2_40 : (Jvm.Cond.methodLink "TrialDesk" (71 : Nat) ({ cls := "TrialDesk$Journal", name := "write", desc := "()Z" } : Jvm.MethodName)) ∈ TB := TB_2 (i := 40) rfl rfl
theorem a2_41 : (Jvm.Cond.instanceMethod ({ cls := "TrialDesk$Journal", name := "write", desc := "()Z" } : Jvm.MethodName)) ∈ TB := TB_2 (i := 41) rfl rfl
theorem a2_42 : (Jvm.Cond.selects "TrialDesk$Journal" ({ cls := "TrialDesk$Journal", name := "write", desc := "()Z" } : Jvm.MethodName) ({ cls := "TrialDesk$Journal", name := "write", desc := "()Z" } : Jvm.MethodName)) ∈ TB := TB_2 (i := 42) rfl rfl
theorem a2_43 : (Jvm.Cond.code ({ cls := "TrialDesk$Journal", name := "write", desc := "()Z" } : Jvm.MethodName) prog_2_method_3_code (1 : Nat) (Option.some Jvm.ClassFile.FieldType.boolean)) ∈ TB := TB_2 (i := 43) rfl rfl
theorem a2_44 : (Jvm.Cond.methodLink "TrialDesk" (74 : Nat) ({ cls := "TrialDesk$Plan", name := "set", desc := "(IIIII)V" } : Jvm.MethodName)) ∈ TB := TB_2 (i := 44) rfl rfl
theorem a2_45 : (Jvm.Cond.instanceMethod ({ cls := "TrialDesk$Plan", name := "set", desc := "(IIIII)V" } : Jvm.MethodName)) ∈ TB := TB_2 (i := 45) rfl rfl
theorem a2_46 : (Jvm.Cond.selects "TrialDesk$Plan" ({ cls := "TrialDesk$Plan", name := "set", desc := "(IIIII)V" } : Jvm.MethodName) ({ cls := "TrialDesk$Plan", name := "set", desc := "(IIIII)V" } : Jvm.MethodName)) ∈ TB := TB_2 (i := 46) rfl rfl
theorem a2_47 : (Jvm.Cond.code ({ cls := "TrialDesk$Plan", name := "set", desc := "(IIIII)V" } : Jvm.MethodName) prog_3_method_2_code (6 : Nat) (Option.none : Option Jvm.ClassFile.FieldType)) ∈ TB := TB_2 (i := 47) rfl rfl
theorem a2_48 : (Jvm.Cond.methodLink "TrialDesk" (82 : Nat) ({ cls := "TrialDesk$Stratum", name := "restart", desc := "(LTrialDesk$Plan;J)V" } : Jvm.MethodName)) ∈ TB := TB_2 (i := 48) rfl rfl
theorem a2_49 : (Jvm.Cond.instanceMethod ({ cls := "TrialDesk$Stratum", name := "restart", desc := "(LTrialDesk$Plan;J)V" } : Jvm.MethodName)) ∈ TB := TB_2 (i := 49) rfl rfl
theorem a2_50 : (Jvm.Cond.selects "TrialDesk$Stratum" ({ cls := "TrialDesk$Stratum", name := "restart", desc := "(LTrialDesk$Plan;J)V" } : Jvm.MethodName) ({ cls := "TrialDesk$Stratum", name := "restart", desc := "(LTrialDesk$Plan;J)V" } : Jvm.MethodName)) ∈ TB := TB_2 (i := 50) rfl rfl
theorem a2_51 : (Jvm.Cond.code ({ cls := "TrialDesk$Stratum", name := "restart", desc := "(LTrialDesk$Plan;J)V" } : Jvm.MethodName) prog_7_method_2_code (4 : Nat) (Option.none : Option Jvm.ClassFile.FieldType)) ∈ TB := TB_2 (i := 51) rfl rfl
theorem a2_52 : (Jvm.Cond.constantLong "TrialDesk$Stratum" (29 : Nat) (-7046029254386353131 : Int64)) ∈ TB := TB_2 (i := 52) rfl rfl
theorem a2_53 : (Jvm.Cond.methodLink "TrialDeskLaw" (90 : Nat) ({ cls := "TrialDeskLaw", name := "site", desc := "(LTrialDesk;I[J)I" } : Jvm.MethodName)) ∈ TB := TB_2 (i := 53) rfl rfl
theorem a2_54 : (Jvm.Cond.static ({ cls := "TrialDeskLaw", name := "site", desc := "(LTrialDesk;I[J)I" } : Jvm.MethodName)) ∈ TB := TB_2 (i := 54) rfl rfl
theorem a2_55 : (Jvm.Cond.codeWith ({ cls := "TrialDeskLaw", name := "site", desc := "(LTrialDesk;I[J)I" } : Jvm.MethodName) method_4_code (4 : Nat) (Option.some Jvm.ClassFile.FieldType.int) [((0 : Nat), (9 : Nat), (12 : Nat), (21 : Nat)), ((0 : Nat), (9 : Nat), (15 : Nat), (13 : Nat))]) ∈ TB := TB_2 (i := 55) rfl rfl
theorem a2_56 : (Jvm.Cond.classLink "TrialDeskLaw" (21 : Nat) "java/lang/IndexOutOfBoundsException") ∈ TB := TB_2 (i := 56) rfl rfl
theorem a2_57 : (Jvm.Cond.methodLink "TrialDeskLaw" (17 : Nat) ({ cls := "TrialDesk", name := "site", desc := "(I)I" } : Jvm.MethodName)) ∈ TB := TB_2 (i := 57) rfl rfl
theorem a2_58 : (Jvm.Cond.instanceMethod ({ cls := "TrialDesk", name := "site", desc := "(I)I" } : Jvm.MethodName)) ∈ TB := TB_2 (i := 58) rfl rfl
theorem a2_59 : (Jvm.Cond.selects "TrialDesk" ({ cls := "TrialDesk", name := "site", desc := "(I)I" } : Jvm.MethodName) ({ cls := "TrialDesk", name := "site", desc := "(I)I" } : Jvm.MethodName)) ∈ TB := TB_2 (i := 59) rfl rfl
theorem a2_60 : (Jvm.Cond.code ({ cls := "TrialDesk", name := "site", desc := "(I)I" } : Jvm.MethodName) prog_1_method_3_code (2 : Nat) (Option.some Jvm.ClassFile.FieldType.int)) ∈ TB := TB_2 (i := 60) rfl rfl
theorem a2_61 : (Jvm.Cond.instantiable "TrialDesk$Site" (6 : Nat)) ∈ TB := TB_2 (i := 61) rfl rfl
theorem a2_62 : (Jvm.Cond.methodLink "TrialDesk" (89 : Nat) ({ cls := "TrialDesk$Site", name := "<init>", desc := "()V" } : Jvm.MethodName)) ∈ TB := TB_2 (i := 62) rfl rfl
theorem a2_63 : (Jvm.Cond.instanceMethod ({ cls := "TrialDesk$Site", name := "<init>", desc := "()V" } : Jvm.MethodName)) ∈ TB := TB_2 (i := 63) rfl rfl
theorem a2_64 : (Jvm.Cond.code ({ cls := "TrialDesk$Site", name := "<init>", desc := "()V" } : Jvm.MethodName) prog_6_method_1_code (2 : Nat) (Option.none : Option Jvm.ClassFile.FieldType)) ∈ TB := TB_2 (i := 64) rfl rfl
theorem a2_65 : (Jvm.Cond.methodLink "TrialDesk$Site" (3 : Nat) ({ cls := "java/lang/Object", name := "<init>", desc := "()V" } : Jvm.MethodName)) ∈ TB := TB_2 (i := 65) rfl rfl
theorem a2_66 : (Jvm.Cond.classLink "TrialDesk$Site" (24 : Nat) "TrialDesk$Reserve") ∈ TB := TB_2 (i := 66) rfl rfl
theorem a2_67 : (Jvm.Cond.arrayOver (Jvm.ClassFile.FieldType.object "TrialDesk$Reserve")) ∈ TB := TB_2 (i := 67) rfl rfl
theorem a2_68 : (Jvm.Cond.instantiable "TrialDesk$Reserve" (3 : Nat)) ∈ TB := TB_2 (i := 68) rfl rfl
theorem a2_69 : (Jvm.Cond.methodLinkNest "TrialDesk$Site" (30 : Nat) ({ cls := "TrialDesk$Reserve", name := "<init>", desc := "()V" } : Jvm.MethodName) "TrialDesk") ∈ TB := TB_2 (i := 69) rfl rfl
theorem a2_70 : (Jvm.Cond.instanceMethod ({ cls := "TrialDesk$Reserve", name := "<init>", desc := "()V" } : Jvm.MethodName)) ∈ TB := TB_2 (i := 70) rfl rfl
theorem a2_71 : (Jvm.Cond.code ({ cls := "TrialDesk$Reserve", name := "<init>", desc := "()V" } : Jvm.MethodName) prog_4_method_1_code (1 : Nat) (Option.none : Option Jvm.ClassFile.FieldType)) ∈ TB := TB_2 (i := 71) rfl rfl
theorem a2_72 : (Jvm.Cond.methodLink "TrialDesk$Reserve" (3 : Nat) ({ cls := "java/lang/Object", name := "<init>", desc := "()V" } : Jvm.MethodName)) ∈ TB := TB_2 (i := 72) rfl rfl
theorem a2_73 : (Jvm.Cond.fieldLink "TrialDesk$Reserve" (9 : Nat) "TrialDesk$Reserve" "entryKits" "[I") ∈ TB := TB_2 (i := 73) rfl rfl
theorem a2_74 : (Jvm.Cond.fieldLink "TrialDesk$Reserve" (15 : Nat) "TrialDesk$Reserve" "length" "I") ∈ TB := TB_2 (i := 74) rfl rfl
theorem a2_75 : (Jvm.Cond.fieldLinkNest "TrialDesk" (158 : Nat) "TrialDesk$Reserve" "length" "I" "TrialDesk") ∈ TB := TB_2 (i := 75) rfl rfl
theorem a2_76 : (Jvm.Cond.fieldLinkNest "TrialDesk$Site" (48 : Nat) "TrialDesk$Reserve" "length" "I" "TrialDesk") ∈ TB := TB_2 (i := 76) rfl rfl
theorem a2_77 : (Jvm.Cond.fieldLink "TrialDesk$Reserve" (19 : Nat) "TrialDesk$Reserve" "next" "I") ∈ TB := TB_2 (i := 77) rfl rfl
theorem a2_78 : (Jvm.Cond.fieldLinkNest "TrialDesk" (183 : Nat) "TrialDesk$Reserve" "next" "I" "TrialDesk") ∈ TB := TB_2 (i := 78) rfl rfl
theorem a2_79 : (Jvm.Cond.fieldLinkNest "TrialDesk$Site" (52 : Nat) "TrialDesk$Reserve" "next" "I" "TrialDesk") ∈ TB := TB_2 (i := 79) rfl rfl
theorem a2_80 : (Jvm.Cond.laysFinal "TrialDesk$Reserve" "TrialDesk$Reserve" "entryKits" "[I") ∈ TB := TB_2 (i := 80) rfl rfl
theorem a2_82 : (Jvm.Cond.lays "TrialDesk$Reserve" "TrialDesk$Reserve" "length" "I") ∈ TB := TB_2 (i := 82) rfl rfl
theorem a2_84 : (Jvm.Cond.lays "TrialDesk$Reserve" "TrialDesk$Reserve" "next" "I") ∈ TB := TB_2 (i := 84) rfl rfl
theorem a2_86 : (Jvm.Cond.superclass "TrialDesk$Reserve" "java/lang/Object") ∈ TB := TB_2 (i := 86) rfl rfl
theorem a2_87 : (Jvm.Cond.fieldLink "TrialDesk$Site" (9 : Nat) "TrialDesk$Site" "standing" "[I") ∈ TB := TB_2 (i := 87) rfl rfl
theorem a2_88 : (Jvm.Cond.fieldLink "TrialDesk$Site" (15 : Nat) "TrialDesk$Site" "inStratum" "[I") ∈ TB := TB_2 (i := 88) rfl rfl
theorem a2_89 : (Jvm.Cond.fieldLink "TrialDesk$Site" (18 : Nat) "TrialDesk$Site" "withArm" "[I") ∈ TB := TB_2 (i := 89) rfl rfl
theorem a2_90 : (Jvm.Cond.fieldLink "TrialDesk$Site" (21 : Nat) "TrialDesk$Site" "keyHolders" "[I") ∈ TB := TB_2 (i := 90) rfl rfl
theorem a2_91 : (Jvm.Cond.fieldLink "TrialDesk$Site" (26 : Nat) "TrialDesk$Site" "reserves" "[LTrialDesk$Reserve;") ∈ TB := TB_2 (i := 91) rfl rfl
theorem a2_92 : (Jvm.Cond.fieldLinkNest "TrialDesk" (109 : Nat) "TrialDesk$Site" "closed" "Z" "TrialDesk") ∈ TB := TB_2 (i := 92) rfl rfl
theorem a2_93 : (Jvm.Cond.laysFinal "TrialDesk$Site" "TrialDesk$Site" "standing" "[I") ∈ TB := TB_2 (i := 93) rfl rfl
theorem a2_95 : (Jvm.Cond.laysFinal "TrialDesk$Site" "TrialDesk$Site" "inStratum" "[I") ∈ TB := TB_2 (i := 95) rfl rfl
theorem a2_97 : (Jvm.Cond.laysFinal "TrialDesk$Site" "TrialDesk$Site" "withArm" "[I") ∈ TB := TB_2 (i := 97) rfl rfl
theorem a2_99 : (Jvm.Cond.laysFinal "TrialDesk$Site" "TrialDesk$Site" "keyHolders" "[I") ∈ TB := TB_2 (i := 99) rfl rfl
theorem a2_101 : (Jvm.Cond.laysFinal "TrialDesk$Site" "TrialDesk$Site" "reserves" "[LTrialDesk$Reserve;") ∈ TB := TB_2 (i := 101) rfl rfl
theorem a2_103 : (Jvm.Cond.lays "TrialDesk$Site" "TrialDesk$Site" "closed" "Z") ∈ TB := TB_2 (i := 103) rfl rfl
theorem a2_105 : (Jvm.Cond.superclass "TrialDesk$Site" "java/lang/Object") ∈ TB := TB_2 (i := 105) rfl rfl
theorem a2_106 : (Jvm.Cond.methodLink "TrialDeskLaw" (94 : Nat) ({ cls := "TrialDeskLaw", name := "kits", desc := "(LTrialDesk;IIII[J)I" } : Jvm.MethodName)) ∈ TB := TB_2 (i := 106) rfl rfl
theorem a2_107 : (Jvm.Cond.static ({ cls := "TrialDeskLaw", name := "kits", desc := "(LTrialDesk;IIII[J)I" } : Jvm.MethodName)) ∈ TB := TB_2 (i := 107) rfl rfl
theorem a2_108 : (Jvm.Cond.codeWith ({ cls := "TrialDeskLaw", name := "kits", desc := "(LTrialDesk;IIII[J)I" } : Jvm.MethodName) method_5_code (7 : Nat) (Option.some Jvm.ClassFile.FieldType.int) [((0 : Nat), (14 : Nat), (17 : Nat), (21 : Nat)), ((0 : Nat), (14 : Nat), (21 : Nat), (15 : Nat)), ((0 : Nat), (14 : Nat), (25 : Nat), (13 : Nat))]) ∈ TB := TB_2 (i := 108) rfl rfl
theorem a2_109 : (Jvm.Cond.methodLink "TrialDeskLaw" (23 : Nat) ({ cls := "TrialDesk", name := "kits", desc := "(IIII)I" } : Jvm.MethodName)) ∈ TB := TB_2 (i := 109) rfl rfl
theorem a2_110 : (Jvm.Cond.instanceMethod ({ cls := "TrialDesk", name := "kits", desc := "(IIII)I" } : Jvm.MethodName)) ∈ TB := TB_2 (i := 110) rfl rfl
theorem a2_111 : (Jvm.Cond.selects "TrialDesk" ({ cls := "TrialDesk", name := "kits", desc := "(IIII)I" } : Jvm.MethodName) ({ cls := "TrialDesk", name := "kits", desc := "(IIII)I" } : Jvm.MethodName)) ∈ TB := TB_2 (i := 111) rfl rfl
theorem a2_112 : (Jvm.Cond.code ({ cls := "TrialDesk", name := "kits", desc := "(IIII)I" } : Jvm.MethodName) prog_1_method_4_code (6 : Nat) (Option.some Jvm.ClassFile.FieldType.int)) ∈ TB := TB_2 (i := 112) rfl rfl
theorem a2_113 : (Jvm.Cond.methodLink "TrialDesk" (94 : Nat) ({ cls := "TrialDesk", name := "siteAt", desc := "(I)LTrialDesk$Site;" } : Jvm.MethodName)) ∈ TB := TB_2 (i := 113) rfl rfl
theorem a2_115 : (Jvm.Cond.instanceMethod ({ cls := "TrialDesk", name := "siteAt", desc := "(I)LTrialDesk$Site;" } : Jvm.MethodName)) ∈ TB := TB_2 (i := 115) rfl rfl
theorem a2_116 : (Jvm.Cond.code ({ cls := "TrialDesk", name := "siteAt", desc := "(I)LTrialDesk$Site;" } : Jvm.MethodName) prog_1_method_25_code (2 : Nat) (Option.some (Jvm.ClassFile.FieldType.object "TrialDesk$Site"))) ∈ TB := TB_2 (i := 116) rfl rfl
theorem a2_117 : (Jvm.Cond.methodLink "TrialDesk" (98 : Nat) ({ cls := "TrialDesk", name := "needArm", desc := "(I)V" } : Jvm.MethodName)) ∈ TB := TB_2 (i := 117) rfl rfl
theorem a2_119 : (Jvm.Cond.instanceMethod ({ cls := "TrialDesk", name := "needArm", desc := "(I)V" } : Jvm.MethodName)) ∈ TB := TB_2 (i := 119) rfl rfl
theorem a2_120 : (Jvm.Cond.code ({ cls := "TrialDesk", name := "needArm", desc := "(I)V" } : Jvm.MethodName) prog_1_method_27_code (3 : Nat) (Option.none : Option Jvm.ClassFile.FieldType)) ∈ TB := TB_2 (i := 120) rfl rfl
theorem a2_121 : (Jvm.Cond.methodLink "TrialDesk" (101 : Nat) ({ cls := "TrialDesk", name := "needKit", desc := "(I)V" } : Jvm.MethodName)) ∈ TB := TB_2 (i := 121) rfl rfl
theorem a2_122 : (Jvm.Cond.static ({ cls := "TrialDesk", name := "needKit", desc := "(I)V" } : Jvm.MethodName)) ∈ TB := TB_2 (i := 122) rfl rfl
theorem a2_123 : (Jvm.Cond.code ({ cls := "TrialDesk", name := "needKit", desc := "(I)V" } : Jvm.MethodName) prog_1_method_28_code (1 : Nat) (Option.none : Option Jvm.ClassFile.FieldType)) ∈ TB := TB_2 (i := 123) rfl rfl
theorem a2_124 : (Jvm.Cond.constantLong "TrialDesk" (104 : Nat) (1000 : Int64)) ∈ TB := TB_2 (i := 124) rfl rfl
theorem a2_125 : (Jvm.Cond.methodLink "TrialDesk" (106 : Nat) ({ cls := "TrialDesk", name := "needPlan", desc := "()V" } : Jvm.MethodName)) ∈ TB := TB_2 (i := 125) rfl rfl
theorem a2_127 : (Jvm.Cond.instanceMethod ({ cls := "TrialDesk", name := "needPlan", desc := "()V" } : Jvm.MethodName)) ∈ TB := TB_2 (i := 127) rfl rfl
theorem a2_128 : (Jvm.Cond.code ({ cls := "TrialDesk", name := "needPlan", desc := "()V" } : Jvm.MethodName) prog_1_method_31_code (1 : Nat) (Option.none : Option Jvm.ClassFile.FieldType)) ∈ TB := TB_2 (i := 128) rfl rfl
theorem a2_129 : (Jvm.Cond.methodLink "TrialDesk" (112 : Nat) ({ cls := "TrialDesk$Shelf", name := "hasAny", desc := "(II)Z" } : Jvm.MethodName)) ∈ TB := TB_2 (i := 129) rfl rfl
theorem a2_130 : (Jvm.Cond.instanceMethod ({ cls := "TrialDesk$Shelf", name := "hasAny", desc := "(II)Z" } : Jvm.MethodName)) ∈ TB := TB_2 (i := 130) rfl rfl
theorem a2_131 : (Jvm.Cond.selects "TrialDesk$Shelf" ({ cls := "TrialDesk$Shelf", name := "hasAny", desc := "(II)Z" } : Jvm.MethodName) ({ cls := "TrialDesk$Shelf", name := "hasAny", desc := "(II)Z" } : Jvm.MethodName)) ∈ TB := TB_2 (i := 131) rfl rfl
theorem a2_132 : (Jvm.Cond.code ({ cls := "TrialDesk$Shelf", name := "hasAny", desc := "(II)Z" } : Jvm.MethodName) prog_5_method_2_code (4 : Nat) (Option.some Jvm.ClassFile.FieldType.boolean)) ∈ TB := TB_2 (i := 132) rfl rfl
theorem a2_133 : (Jvm.Cond.methodLink "TrialDesk$Shelf" (24 : Nat) ({ cls := "TrialDesk$Shelf", name := "isKit", desc := "(I)Z" } : Jvm.MethodName)) ∈ TB := TB_2 (i := 133) rfl rfl
theorem a2_134 : (Jvm.Cond.static ({ cls := "TrialDesk$Shelf", name := "isKit", desc := "(I)Z" } : Jvm.MethodName)) ∈ TB := TB_2 (i := 134) rfl rfl
theorem a2_135 : (Jvm.Cond.code ({ cls := "TrialDesk$Shelf", name := "isKit", desc := "(I)Z" } : Jvm.MethodName) prog_5_method_13_code (1 : Nat) (Option.some Jvm.ClassFile.FieldType.boolean)) ∈ TB := TB_2 (i := 135) rfl rfl
theorem a2_136 : (Jvm.Cond.methodLink "TrialDesk" (115 : Nat) ({ cls := "TrialDesk$Shelf", name := "put", desc := "(IIII)V" } : Jvm.MethodName)) ∈ TB := TB_2 (i := 136) rfl rfl
theorem a2_137 : (Jvm.Cond.instanceMethod ({ cls := "TrialDesk$Shelf", name := "put", desc := "(IIII)V" } : Jvm.MethodName)) ∈ TB := TB_2 (i := 137) rfl rfl
theorem a2_138 : (Jvm.Cond.selects "TrialDesk$Shelf" ({ cls := "TrialDesk$Shelf", name := "put", desc := "(IIII)V" } : Jvm.MethodName) ({ cls := "TrialDesk$Shelf", name := "put", desc := "(IIII)V" } : Jvm.MethodName)) ∈ TB := TB_2 (i := 138) rfl rfl
theorem a2_139 : (Jvm.Cond.code ({ cls := "TrialDesk$Shelf", name := "put", desc := "(IIII)V" } : Jvm.MethodName) prog_5_method_3_code (6 : Nat) (Option.none : Option Jvm.ClassFile.FieldType)) ∈ TB := TB_2 (i := 139) rfl rfl
theorem a2_140 : (Jvm.Cond.methodLink "TrialDesk" (119 : Nat) ({ cls := "TrialDesk$Shelf", name := "tallyFree", desc := "(II)I" } : Jvm.MethodName)) ∈ TB := TB_2 (i := 140) rfl rfl
theorem a2_141 : (Jvm.Cond.instanceMethod ({ cls := "TrialDesk$Shelf", name := "tallyFree", desc := "(II)I" } : Jvm.MethodName)) ∈ TB := TB_2 (i := 141) rfl rfl
theorem a2_142 : (Jvm.Cond.selects "TrialDesk$Shelf" ({ cls := "TrialDesk$Shelf", name := "tallyFree", desc := "(II)I" } : Jvm.MethodName) ({ cls := "TrialDesk$Shelf", name := "tallyFree", desc := "(II)I" } : Jvm.MethodName)) ∈ TB := TB_2 (i := 142) rfl rfl
theorem a2_143 : (Jvm.Cond.code ({ cls := "TrialDesk$Shelf", name := "tallyFree", desc := "(II)I" } : Jvm.MethodName) prog_5_method_5_code (5 : Nat) (Option.some Jvm.ClassFile.FieldType.int)) ∈ TB := TB_2 (i := 143) rfl rfl
theorem a2_144 : (Jvm.Cond.methodLink "TrialDesk$Shelf" (28 : Nat) ({ cls := "TrialDesk$Shelf", name := "isFree", desc := "(III)Z" } : Jvm.MethodName)) ∈ TB := TB_2 (i := 144) rfl rfl
theorem a2_146 : (Jvm.Cond.instanceMethod ({ cls := "TrialDesk$Shelf", name := "isFree", desc := "(III)Z" } : Jvm.MethodName)) ∈ TB := TB_2 (i := 146) rfl rfl
theorem a2_147 : (Jvm.Cond.code ({ cls := "TrialDesk$Shelf", name := "isFree", desc := "(III)Z" } : Jvm.MethodName) prog_5_method_12_code (4 : Nat) (Option.some Jvm.ClassFile.FieldType.boolean)) ∈ TB := TB_2 (i := 147) rfl rfl
theorem a2_148 : (Jvm.Cond.methodLink "TrialDeskLaw" (98 : Nat) ({ cls := "TrialDeskLaw", name := "allot", desc := "(LTrialDesk;III[J)I" } : Jvm.MethodName)) ∈ TB := TB_2 (i := 148) rfl rfl
theorem a2_149 : (Jvm.Cond.static ({ cls := "TrialDeskLaw", name := "allot", desc := "(LTrialDesk;III[J)I" } : Jvm.MethodName)) ∈ TB := TB_2 (i := 149) rfl rfl
theorem a2_150 : (Jvm.Cond.codeWith ({ cls := "TrialDeskLaw", name := "allot", desc := "(LTrialDesk;III[J)I" } : Jvm.MethodName) method_6_code (6 : Nat) (Option.some Jvm.ClassFile.FieldType.int) [((0 : Nat), (12 : Nat), (15 : Nat), (21 : Nat)), ((0 : Nat), (12 : Nat), (19 : Nat), (15 : Nat))]) ∈ TB := TB_2 (i := 150) rfl rfl
theorem a2_151 : (Jvm.Cond.methodLink "TrialDeskLaw" (27 : Nat) ({ cls := "TrialDesk", name := "allot", desc := "(III)I" } : Jvm.MethodName)) ∈ TB := TB_2 (i := 151) rfl rfl
theorem a2_152 : (Jvm.Cond.instanceMethod ({ cls := "TrialDesk", name := "allot", desc := "(III)I" } : Jvm.MethodName)) ∈ TB := TB_2 (i := 152) rfl rfl
theorem a2_153 : (Jvm.Cond.selects "TrialDesk" ({ cls := "TrialDesk", name := "allot", desc := "(III)I" } : Jvm.MethodName) ({ cls := "TrialDesk", name := "allot", desc := "(III)I" } : Jvm.MethodName)) ∈ TB := TB_2 (i := 153) rfl rfl
theorem a2_154 : (Jvm.Cond.code ({ cls := "TrialDesk", name := "allot", desc := "(III)I" } : Jvm.MethodName) prog_1_method_5_code (8 : Nat) (Option.some Jvm.ClassFile.FieldType.int)) ∈ TB := TB_2 (i := 154) rfl rfl
theorem a2_155 : (Jvm.Cond.methodLink "TrialDesk" (123 : Nat) ({ cls := "TrialDesk", name := "needPerson", desc := "(I)V" } : Jvm.MethodName)) ∈ TB := TB_2 (i := 155) rfl rfl
theorem a2_156 : (Jvm.Cond.static ({ cls := "TrialDesk", name := "needPerson", desc := "(I)V" } : Jvm.MethodName)) ∈ TB := TB_2 (i := 156) rfl rfl
theorem a2_157 : (Jvm.Cond.code ({ cls := "TrialDesk", name := "needPerson", desc := "(I)V" } : Jvm.MethodName) prog_1_method_29_code (1 : Nat) (Option.none : Option Jvm.ClassFile.FieldType)) ∈ TB := TB_2 (i := 157) rfl rfl
theorem a2_158 : (Jvm.Cond.methodLink "TrialDesk" (129 : Nat) ({ cls := "TrialDesk$Site", name := "isAllotted", desc := "(I)Z" } : Jvm.MethodName)) ∈ TB := TB_2 (i := 158) rfl rfl
theorem a2_159 : (Jvm.Cond.instanceMethod ({ cls := "TrialDesk$Site", name := "isAllotted", desc := "(I)Z" } : Jvm.MethodName)) ∈ TB := TB_2 (i := 159) rfl rfl
theorem a2_160 : (Jvm.Cond.selects "TrialDesk$Site" ({ cls := "TrialDesk$Site", name := "isAllotted", desc := "(I)Z" } : Jvm.MethodName) ({ cls := "TrialDesk$Site", name := "isAllotted", desc := "(I)Z" } : Jvm.MethodName)) ∈ TB := TB_2 (i := 160) rfl rfl
theorem a2_161 : (Jvm.Cond.code ({ cls := "TrialDesk$Site", name := "isAllotted", desc := "(I)Z" } : Jvm.MethodName) prog_6_method_2_code (2 : Nat) (Option.some Jvm.ClassFile.FieldType.boolean)) ∈ TB := TB_2 (i := 161) rfl rfl
theorem a2_162 : (Jvm.Cond.methodLink "TrialDesk$Site" (31 : Nat) ({ cls := "TrialDesk$Site", name := "isPerson", desc := "(I)Z" } : Jvm.MethodName)) ∈ TB := TB_2 (i := 162) rfl rfl
theorem a2_163 : (Jvm.Cond.static ({ cls := "TrialDesk$Site", name := "isPerson", desc := "(I)Z" } : Jvm.MethodName)) ∈ TB := TB_2 (i := 163) rfl rfl
theorem a2_164 : (Jvm.Cond.code ({ cls := "TrialDesk$Site", name := "isPerson", desc := "(I)Z" } : Jvm.MethodName) prog_6_method_13_code (1 : Nat) (Option.some Jvm.ClassFile.FieldType.boolean)) ∈ TB := TB_2 (i := 164) rfl rfl
theorem a2_165 : (Jvm.Cond.methodLink "TrialDesk" (133 : Nat) ({ cls := "TrialDesk$Stratum", name := "nextArm", desc := "()I" } : Jvm.MethodName)) ∈ TB := TB_2 (i := 165) rfl rfl
theorem a2_166 : (Jvm.Cond.instanceMethod ({ cls := "TrialDesk$Stratum", name := "nextArm", desc := "()I" } : Jvm.MethodName)) ∈ TB := TB_2 (i := 166) rfl rfl
theorem a2_167 : (Jvm.Cond.selects "TrialDesk$Stratum" ({ cls := "TrialDesk$Stratum", name := "nextArm", desc := "()I" } : Jvm.MethodName) ({ cls := "TrialDesk$Stratum", name := "nextArm", desc := "()I" } : Jvm.MethodName)) ∈ TB := TB_2 (i := 167) rfl rfl
theorem a2_168 : (Jvm.Cond.code ({ cls := "TrialDesk$Stratum", name := "nextArm", desc := "()I" } : Jvm.MethodName) prog_7_method_3_code (1 : Nat) (Option.some Jvm.ClassFile.FieldType.int)) ∈ TB := TB_2 (i := 168) rfl rfl
theorem a2_169 : (Jvm.Cond.methodLink "TrialDesk$Stratum" (44 : Nat) ({ cls := "TrialDesk$Stratum", name := "armAt", desc := "(I)I" } : Jvm.MethodName)) ∈ TB := TB_2 (i := 169) rfl rfl
theorem a2_171 : (Jvm.Cond.instanceMethod ({ cls := "TrialDesk$Stratum", name := "armAt", desc := "(I)I" } : Jvm.MethodName)) ∈ TB := TB_2 (i := 171) rfl rfl
theorem a2_172 : (Jvm.Cond.code ({ cls := "TrialDesk$Stratum", name := "armAt", desc := "(I)I" } : Jvm.MethodName) prog_7_method_11_code (2 : Nat) (Option.some Jvm.ClassFile.FieldType.int)) ∈ TB := TB_2 (i := 172) rfl rfl
theorem a2_173 : (Jvm.Cond.methodLink "TrialDesk$Stratum" (48 : Nat) ({ cls := "TrialDesk$Stratum", name := "armAhead", desc := "(I)I" } : Jvm.MethodName)) ∈ TB := TB_2 (i := 173) rfl rfl
theorem a2_174 : (Jvm.Cond.instanceMethod ({ cls := "TrialDesk$Stratum", name := "armAhead", desc := "(I)I" } : Jvm.MethodName)) ∈ TB := TB_2 (i := 174) rfl rfl
theorem a2_175 : (Jvm.Cond.selects "TrialDesk$Stratum" ({ cls := "TrialDesk$Stratum", name := "armAhead", desc := "(I)I" } : Jvm.MethodName) ({ cls := "TrialDesk$Stratum", name := "armAhead", desc := "(I)I" } : Jvm.MethodName)) ∈ TB := TB_2 (i := 175) rfl rfl
theorem a2_176 : (Jvm.Cond.code ({ cls := "TrialDesk$Stratum", name := "armAhead", desc := "(I)I" } : Jvm.MethodName) prog_7_method_4_code (2 : Nat) (Option.some Jvm.ClassFile.FieldType.int)) ∈ TB := TB_2 (i := 176) rfl rfl
theorem a2_177 : (Jvm.Cond.methodLink "TrialDesk$Stratum" (54 : Nat) ({ cls := "TrialDesk$Stratum", name := "build", desc := "()V" } : Jvm.MethodName)) ∈ TB := TB_2 (i := 177) rfl rfl
theorem a2_179 : (Jvm.Cond.instanceMethod ({ cls := "TrialDesk$Stratum", name := "build", desc := "()V" } : Jvm.MethodName)) ∈ TB := TB_2 (i := 179) rfl rfl
theorem a2_180 : (Jvm.Cond.code ({ cls := "TrialDesk$Stratum", name := "build", desc := "()V" } : Jvm.MethodName) prog_7_method_12_code (2 : Nat) (Option.none : Option Jvm.ClassFile.FieldType)) ∈ TB := TB_2 (i := 180) rfl rfl
theorem a2_181 : (Jvm.Cond.methodLink "TrialDesk$Stratum" (82 : Nat) ({ cls := "TrialDesk$Stratum", name := "makeRoom", desc := "(I)V" } : Jvm.MethodName)) ∈ TB := TB_2 (i := 181) rfl rfl
theorem a2_183 : (Jvm.Cond.instanceMethod ({ cls := "TrialDesk$Stratum", name := "makeRoom", desc := "(I)V" } : Jvm.MethodName)) ∈ TB := TB_2 (i := 183) rfl rfl
theorem a2_184 : (Jvm.Cond.code ({ cls := "TrialDesk$Stratum", name := "makeRoom", desc := "(I)V" } : Jvm.MethodName) prog_7_method_13_code (2 : Nat) (Option.none : Option Jvm.ClassFile.FieldType)) ∈ TB := TB_2 (i := 184) rfl rfl
theorem a2_185 : (Jvm.Cond.methodLink "TrialDesk$Stratum" (78 : Nat) ({ cls := "java/lang/Math", name := "max", desc := "(II)I" } : Jvm.MethodName)) ∈ TB := TB_2 (i := 185) rfl rfl
theorem a2_186 : (Jvm.Cond.static ({ cls := "java/lang/Math", name := "max", desc := "(II)I" } : Jvm.MethodName)) ∈ TB := TB_2 (i := 186) rfl rfl
theorem a2_187 : (Jvm.Cond.code ({ cls := "java/lang/Math", name := "max", desc := "(II)I" } : Jvm.MethodName) prog_16_method_65_code (2 : Nat) (Option.some Jvm.ClassFile.FieldType.int)) ∈ TB := TB_2 (i := 187) rfl rfl
theorem a2_188 : (Jvm.Cond.methodLink "TrialDesk$Stratum" (92 : Nat) ({ cls := "java/util/Arrays", name := "copyOf", desc := "([II)[I" } : Jvm.MethodName)) ∈ TB := TB_2 (i := 188) rfl rfl
theorem a2_189 : (Jvm.Cond.static ({ cls := "java/util/Arrays", name := "copyOf", desc := "([II)[I" } : Jvm.MethodName)) ∈ TB := TB_2 (i := 189) rfl rfl
theorem a2_190 : (Jvm.Cond.code ({ cls := "java/util/Arrays", name := "copyOf", desc := "([II)[I" } : Jvm.MethodName) prog_20_method_123_code (3 : Nat) (Option.some (Jvm.ClassFile.FieldType.array Jvm.ClassFile.FieldType.int))) ∈ TB := TB_2 (i := 190) rfl rfl
theorem a2_191 : (Jvm.Cond.methodLink "java/util/Arrays" (316 : Nat) ({ cls := "[I", name := "clone", desc := "()Ljava/lang/Object;" } : Jvm.MethodName)) ∈ TB := TB_2 (i := 191) rfl rfl
theorem a2_192 : (Jvm.Cond.sameMethod "[I" "java/lang/Object" "clone" "()Ljava/lang/Object;") ∈ TB := TB_2 (i := 192) rfl rfl
theorem a2_193 : (Jvm.Cond.native ({ cls := "java/lang/Object", name := "clone", desc := "()Ljava/lang/Object;" } : Jvm.MethodName)) ∈ TB := TB_2 (i := 193) rfl rfl
theorem a2_194 : (Jvm.Cond.instanceMethod ({ cls := "java/lang/Object", name := "clone", desc := "()Ljava/lang/Object;" } : Jvm.MethodName)) ∈ TB := TB_2 (i := 194) rfl rfl
theorem a2_195 : (Jvm.Cond.selects "[I" ({ cls := "[I", name := "clone", desc := "()Ljava/lang/Object;" } : Jvm.MethodName) ({ cls := "java/lang/Object", name := "clone", desc := "()Ljava/lang/Object;" } : Jvm.MethodName)) ∈ TB := TB_2 (i := 195) rfl rfl
theorem a2_196 : (Jvm.Cond.castable "[I" "java/lang/Cloneable") ∈ TB := TB_2 (i := 196) rfl rfl
theorem a2_197 : (Jvm.Cond.classLink "java/util/Arrays" (317 : Nat) "[I") ∈ TB := TB_2 (i := 197) rfl rfl
theorem a2_198 : (Jvm.Cond.methodLink "java/util/Arrays" (304 : Nat) ({ cls := "java/lang/Math", name := "min", desc := "(II)I" } : Jvm.MethodName)) ∈ TB := TB_2 (i := 198) rfl rfl
theorem a2_199 : (Jvm.Cond.static ({ cls := "java/lang/Math", name := "min", desc := "(II)I" } : Jvm.MethodName)) ∈ TB := TB_2 (i := 199) rfl rfl
theorem a2_200 : (Jvm.Cond.code ({ cls := "java/lang/Math", name := "min", desc := "(II)I" } : Jvm.MethodName) prog_16_method_69_code (2 : Nat) (Option.some Jvm.ClassFile.FieldType.int)) ∈ TB := TB_2 (i := 200) rfl rfl
theorem a2_201 : (Jvm.Cond.methodLink "java/util/Arrays" (150 : Nat) ({ cls := "java/lang/System", name := "arraycopy", desc := "(Ljava/lang/Object;ILjava/lang/Object;II)V" } : Jvm.MethodName)) ∈ TB := TB_2 (i := 201) rfl rfl
theorem a2_202 : (Jvm.Cond.static ({ cls := "java/lang/System", name := "arraycopy", desc := "(Ljava/lang/Object;ILjava/lang/Object;II)V" } : Jvm.MethodName)) ∈ TB := TB_2 (i := 202) rfl rfl
theorem a2_203 : (Jvm.Cond.native ({ cls := "java/lang/System", name := "arraycopy", desc := "(Ljava/lang/Object;ILjava/lang/Object;II)V" } : Jvm.MethodName)) ∈ TB := TB_2 (i := 203) rfl rfl
theorem a2_204 : (Jvm.Cond.methodLink "TrialDesk$Stratum" (86 : Nat) ({ cls := "TrialDesk$Stratum", name := "layArms", desc := "(I)V" } : Jvm.MethodName)) ∈ TB := TB_2 (i := 204) rfl rfl
theorem a2_206 : (Jvm.Cond.instanceMethod ({ cls := "TrialDesk$Stratum", name := "layArms", desc := "(I)V" } : Jvm.MethodName)) ∈ TB := TB_2 (i := 206) rfl rfl
theorem a2_207 : (Jvm.Cond.code ({ cls := "TrialDesk$Stratum", name := "layArms", desc := "(I)V" } : Jvm.MethodName) prog_7_method_14_code (5 : Nat) (Option.none : Option Jvm.ClassFile.FieldType)) ∈ TB := TB_2 (i := 207) rfl rfl
theorem a2_208 : (Jvm.Cond.methodLink "TrialDesk$Stratum" (98 : Nat) ({ cls := "TrialDesk$Plan", name := "entriesOf", desc := "(I)I" } : Jvm.MethodName)) ∈ TB := TB_2 (i := 208) rfl rfl
theorem a2_209 : (Jvm.Cond.instanceMethod ({ cls := "TrialDesk$Plan", name := "entriesOf", desc := "(I)I" } : Jvm.MethodName)) ∈ TB := TB_2 (i := 209) rfl rfl
theorem a2_210 : (Jvm.Cond.selects "TrialDesk$Plan" ({ cls := "TrialDesk$Plan", name := "entriesOf", desc := "(I)I" } : Jvm.MethodName) ({ cls := "TrialDesk$Plan", name := "entriesOf", desc := "(I)I" } : Jvm.MethodName)) ∈ TB := TB_2 (i := 210) rfl rfl
theorem a2_211 : (Jvm.Cond.code ({ cls := "TrialDesk$Plan", name := "entriesOf", desc := "(I)I" } : Jvm.MethodName) prog_3_method_4_code (2 : Nat) (Option.some Jvm.ClassFile.FieldType.int)) ∈ TB := TB_2 (i := 211) rfl rfl
theorem a2_212 : (Jvm.Cond.methodLink "TrialDesk$Plan" (25 : Nat) ({ cls := "TrialDesk$Plan", name := "weightOf", desc := "(I)I" } : Jvm.MethodName)) ∈ TB := TB_2 (i := 212) rfl rfl
theorem a2_213 : (Jvm.Cond.instanceMethod ({ cls := "TrialDesk$Plan", name := "weightOf", desc := "(I)I" } : Jvm.MethodName)) ∈ TB := TB_2 (i := 213) rfl rfl
theorem a2_214 : (Jvm.Cond.selects "TrialDesk$Plan" ({ cls := "TrialDesk$Plan", name := "weightOf", desc := "(I)I" } : Jvm.MethodName) ({ cls := "TrialDesk$Plan", name := "weightOf", desc := "(I)I" } : Jvm.MethodName)) ∈ TB := TB_2 (i := 214) rfl rfl
theorem a2_215 : (Jvm.Cond.code ({ cls := "TrialDesk$Plan", name := "weightOf", desc := "(I)I" } : Jvm.MethodName) prog_3_method_3_code (2 : Nat) (Option.some Jvm.ClassFile.FieldType.int)) ∈ TB := TB_2 (i := 215) rfl rfl
theorem a2_216 : (Jvm.Cond.methodLink "TrialDesk$Stratum" (89 : Nat) ({ cls := "TrialDesk$Stratum", name := "shuffle", desc := "(I)V" } : Jvm.MethodName)) ∈ TB := TB_2 (i := 216) rfl rfl
theorem a2_218 : (Jvm.Cond.instanceMethod ({ cls := "TrialDesk$Stratum", name := "shuffle", desc := "(I)V" } : Jvm.MethodName)) ∈ TB := TB_2 (i := 218) rfl rfl
theorem a2_219 : (Jvm.Cond.code ({ cls := "TrialDesk$Stratum", name := "shuffle", desc := "(I)V" } : Jvm.MethodName) prog_7_method_15_code (3 : Nat) (Option.none : Option Jvm.ClassFile.FieldType)) ∈ TB := TB_2 (i := 219) rfl rfl
theorem a2_220 : (Jvm.Cond.methodLink "TrialDesk$Stratum" (101 : Nat) ({ cls := "TrialDesk$Stratum", name := "draw", desc := "(I)I" } : Jvm.MethodName)) ∈ TB := TB_2 (i := 220) rfl rfl
theorem a2_222 : (Jvm.Cond.instanceMethod ({ cls := "TrialDesk$Stratum", name := "draw", desc := "(I)I" } : Jvm.MethodName)) ∈ TB := TB_2 (i := 222) rfl rfl
theorem a2_223 : (Jvm.Cond.code ({ cls := "TrialDesk$Stratum", name := "draw", desc := "(I)I" } : Jvm.MethodName) prog_7_method_17_code (7 : Nat) (Option.some Jvm.ClassFile.FieldType.int)) ∈ TB := TB_2 (i := 223) rfl rfl
theorem a2_224 : (Jvm.Cond.constantLong "TrialDesk$Stratum" (108 : Nat) (2147483648 : Int64)) ∈ TB := TB_2 (i := 224) rfl rfl
theorem a2_225 : (Jvm.Cond.constant "TrialDesk$Stratum" (110 : Nat) (1000000 : Int32)) ∈ TB := TB_2 (i := 225) rfl rfl
theorem a2_226 : (Jvm.Cond.methodLink "TrialDesk$Stratum" (104 : Nat) ({ cls := "TrialDesk$Stratum", name := "swap", desc := "(II)V" } : Jvm.MethodName)) ∈ TB := TB_2 (i := 226) rfl rfl
theorem a2_228 : (Jvm.Cond.instanceMethod ({ cls := "TrialDesk$Stratum", name := "swap", desc := "(II)V" } : Jvm.MethodName)) ∈ TB := TB_2 (i := 228) rfl rfl
theorem a2_229 : (Jvm.Cond.code ({ cls := "TrialDesk$Stratum", name := "swap", desc := "(II)V" } : Jvm.MethodName) prog_7_method_16_code (4 : Nat) (Option.none : Option Jvm.ClassFile.FieldType)) ∈ TB := TB_2 (i := 229) rfl rfl
theorem a2_230 : (Jvm.Cond.methodLink "TrialDesk" (137 : Nat) ({ cls := "TrialDesk$Shelf", name := "leastFree", desc := "(III)I" } : Jvm.MethodName)) ∈ TB := TB_2 (i := 230) rfl rfl
theorem a2_231 : (Jvm.Cond.instanceMethod ({ cls := "TrialDesk$Shelf", name := "leastFree", desc := "(III)I" } : Jvm.MethodName)) ∈ TB := TB_2 (i := 231) rfl rfl
theorem a2_232 : (Jvm.Cond.selects "TrialDesk$Shelf" ({ cls := "TrialDesk$Shelf", name := "leastFree", desc := "(III)I" } : Jvm.MethodName) ({ cls := "TrialDesk$Shelf", name := "leastFree", desc := "(III)I" } : Jvm.MethodName)) ∈ TB := TB_2 (i := 232) rfl rfl
theorem a2_233 : (Jvm.Cond.code ({ cls := "TrialDesk$Shelf", name := "leastFree", desc := "(III)I" } : Jvm.MethodName) prog_5_method_6_code (5 : Nat) (Option.some Jvm.ClassFile.FieldType.int)) ∈ TB := TB_2 (i := 233) rfl rfl
theorem a2_234 : (Jvm.Cond.methodLink "TrialDesk$Shelf" (32 : Nat) ({ cls := "java/lang/Math", name := "max", desc := "(II)I" } : Jvm.MethodName)) ∈ TB := TB_2 (i := 234) rfl rfl
theorem a2_235 : (Jvm.Cond.methodLink "TrialDesk" (141 : Nat) ({ cls := "TrialDesk$Stratum", name := "takeEntry", desc := "()V" } : Jvm.MethodName)) ∈ TB := TB_2 (i := 235) rfl rfl
theorem a2_236 : (Jvm.Cond.instanceMethod ({ cls := "TrialDesk$Stratum", name := "takeEntry", desc := "()V" } : Jvm.MethodName)) ∈ TB := TB_2 (i := 236) rfl rfl
theorem a2_237 : (Jvm.Cond.selects "TrialDesk$Stratum" ({ cls := "TrialDesk$Stratum", name := "takeEntry", desc := "()V" } : Jvm.MethodName) ({ cls := "TrialDesk$Stratum", name := "takeEntry", desc := "()V" } : Jvm.MethodName)) ∈ TB := TB_2 (i := 237) rfl rfl
theorem a2_238 : (Jvm.Cond.code ({ cls := "TrialDesk$Stratum", name := "takeEntry", desc := "()V" } : Jvm.MethodName) prog_7_method_6_code (1 : Nat) (Option.none : Option Jvm.ClassFile.FieldType)) ∈ TB := TB_2 (i := 238) rfl rfl
theorem a2_239 : (Jvm.Cond.methodLink "TrialDesk$Stratum" (60 : Nat) ({ cls := "TrialDesk$Stratum", name := "takeBlock", desc := "()I" } : Jvm.MethodName)) ∈ TB := TB_2 (i := 239) rfl rfl
theorem a3_0 : (Jvm.Cond.instanceMethod ({ cls := "TrialDesk$Stratum", name := "takeBlock", desc := "()I" } : Jvm.MethodName)) ∈ TB := TB_3 (i := 0) rfl rfl
theorem a3_1 : (Jvm.Cond.selects "TrialDesk$Stratum" ({ cls := "TrialDesk$Stratum", name := "takeBlock", desc := "()I" } : Jvm.MethodName) ({ cls := "TrialDesk$Stratum", name := "takeBlock", desc := "()I" } : Jvm.MethodName)) ∈ TB := TB_3 (i := 1) rfl rfl
theorem a3_2 : (Jvm.Cond.code ({ cls := "TrialDesk$Stratum", name := "takeBlock", desc := "()I" } : Jvm.MethodName) prog_7_method_7_code (1 : Nat) (Option.some Jvm.ClassFile.FieldType.int)) ∈ TB := TB_3 (i := 2) rfl rfl
theorem a3_3 : (Jvm.Cond.methodLink "TrialDesk" (144 : Nat) ({ cls := "TrialDesk$Stratum", name := "addKnown", desc := "(I)V" } : Jvm.MethodName)) ∈ TB := TB_3 (i := 3) rfl rfl
theorem a3_4 : (Jvm.Cond.instanceMethod ({ cls := "TrialDesk$Stratum", name := "addKnown", desc := "(I)V" } : Jvm.MethodName)) ∈ TB := TB_3 (i := 4) rfl rfl
theorem a3_5 : (Jvm.Cond.selects "TrialDesk$Stratum" ({ cls := "TrialDesk$Stratum", name := "addKnown", desc := "(I)V" } : Jvm.MethodName) ({ cls := "TrialDesk$Stratum", name := "addKnown", desc := "(I)V" } : Jvm.MethodName)) ∈ TB := TB_3 (i := 5) rfl rfl
theorem a3_6 : (Jvm.Cond.code ({ cls := "TrialDesk$Stratum", name := "addKnown", desc := "(I)V" } : Jvm.MethodName) prog_7_method_8_code (2 : Nat) (Option.none : Option Jvm.ClassFile.FieldType)) ∈ TB := TB_3 (i := 6) rfl rfl
theorem a3_7 : (Jvm.Cond.methodLink "TrialDesk" (147 : Nat) ({ cls := "TrialDesk$Shelf", name := "use", desc := "(II)V" } : Jvm.MethodName)) ∈ TB := TB_3 (i := 7) rfl rfl
theorem a3_8 : (Jvm.Cond.instanceMethod ({ cls := "TrialDesk$Shelf", name := "use", desc := "(II)V" } : Jvm.MethodName)) ∈ TB := TB_3 (i := 8) rfl rfl
theorem a3_9 : (Jvm.Cond.selects "TrialDesk$Shelf" ({ cls := "TrialDesk$Shelf", name := "use", desc := "(II)V" } : Jvm.MethodName) ({ cls := "TrialDesk$Shelf", name := "use", desc := "(II)V" } : Jvm.MethodName)) ∈ TB := TB_3 (i := 9) rfl rfl
theorem a3_10 : (Jvm.Cond.code ({ cls := "TrialDesk$Shelf", name := "use", desc := "(II)V" } : Jvm.MethodName) prog_5_method_7_code (3 : Nat) (Option.none : Option Jvm.ClassFile.FieldType)) ∈ TB := TB_3 (i := 10) rfl rfl
theorem a3_11 : (Jvm.Cond.methodLink "TrialDesk" (151 : Nat) ({ cls := "TrialDesk$Site", name := "enrol", desc := "(IIII)V" } : Jvm.MethodName)) ∈ TB := TB_3 (i := 11) rfl rfl
theorem a3_12 : (Jvm.Cond.instanceMethod ({ cls := "TrialDesk$Site", name := "enrol", desc := "(IIII)V" } : Jvm.MethodName)) ∈ TB := TB_3 (i := 12) rfl rfl
theorem a3_13 : (Jvm.Cond.selects "TrialDesk$Site" ({ cls := "TrialDesk$Site", name := "enrol", desc := "(IIII)V" } : Jvm.MethodName) ({ cls := "TrialDesk$Site", name := "enrol", desc := "(IIII)V" } : Jvm.MethodName)) ∈ TB := TB_3 (i := 13) rfl rfl
theorem a3_14 : (Jvm.Cond.code ({ cls := "TrialDesk$Site", name := "enrol", desc := "(IIII)V" } : Jvm.MethodName) prog_6_method_4_code (5 : Nat) (Option.none : Option Jvm.ClassFile.FieldType)) ∈ TB := TB_3 (i := 14) rfl rfl
theorem a3_15 : (Jvm.Cond.methodLink "TrialDeskLaw" (102 : Nat) ({ cls := "TrialDeskLaw", name := "reserve", desc := "(LTrialDesk;II[J)I" } : Jvm.MethodName)) ∈ TB := TB_3 (i := 15) rfl rfl
theorem a3_16 : (Jvm.Cond.static ({ cls := "TrialDeskLaw", name := "reserve", desc := "(LTrialDesk;II[J)I" } : Jvm.MethodName)) ∈ TB := TB_3 (i := 16) rfl rfl
theorem a3_17 : (Jvm.Cond.codeWith ({ cls := "TrialDeskLaw", name := "reserve", desc := "(LTrialDesk;II[J)I" } : Jvm.MethodName) method_7_code (5 : Nat) (Option.some Jvm.ClassFile.FieldType.int) [((0 : Nat), (10 : Nat), (13 : Nat), (21 : Nat)), ((0 : Nat), (10 : Nat), (17 : Nat), (15 : Nat))]) ∈ TB := TB_3 (i := 17) rfl rfl
theorem a3_18 : (Jvm.Cond.methodLink "TrialDeskLaw" (31 : Nat) ({ cls := "TrialDesk", name := "reserve", desc := "(II)I" } : Jvm.MethodName)) ∈ TB := TB_3 (i := 18) rfl rfl
theorem a3_19 : (Jvm.Cond.instanceMethod ({ cls := "TrialDesk", name := "reserve", desc := "(II)I" } : Jvm.MethodName)) ∈ TB := TB_3 (i := 19) rfl rfl
theorem a3_20 : (Jvm.Cond.selects "TrialDesk" ({ cls := "TrialDesk", name := "reserve", desc := "(II)I" } : Jvm.MethodName) ({ cls := "TrialDesk", name := "reserve", desc := "(II)I" } : Jvm.MethodName)) ∈ TB := TB_3 (i := 20) rfl rfl
theorem a3_21 : (Jvm.Cond.code ({ cls := "TrialDesk", name := "reserve", desc := "(II)I" } : Jvm.MethodName) prog_1_method_6_code (6 : Nat) (Option.some Jvm.ClassFile.FieldType.int)) ∈ TB := TB_3 (i := 21) rfl rfl
theorem a3_22 : (Jvm.Cond.methodLink "TrialDesk" (154 : Nat) ({ cls := "TrialDesk$Site", name := "reserveFor", desc := "(I)LTrialDesk$Reserve;" } : Jvm.MethodName)) ∈ TB := TB_3 (i := 22) rfl rfl
theorem a3_23 : (Jvm.Cond.instanceMethod ({ cls := "TrialDesk$Site", name := "reserveFor", desc := "(I)LTrialDesk$Reserve;" } : Jvm.MethodName)) ∈ TB := TB_3 (i := 23) rfl rfl
theorem a3_24 : (Jvm.Cond.selects "TrialDesk$Site" ({ cls := "TrialDesk$Site", name := "reserveFor", desc := "(I)LTrialDesk$Reserve;" } : Jvm.MethodName) ({ cls := "TrialDesk$Site", name := "reserveFor", desc := "(I)LTrialDesk$Reserve;" } : Jvm.MethodName)) ∈ TB := TB_3 (i := 24) rfl rfl
theorem a3_25 : (Jvm.Cond.code ({ cls := "TrialDesk$Site", name := "reserveFor", desc := "(I)LTrialDesk$Reserve;" } : Jvm.MethodName) prog_6_method_10_code (2 : Nat) (Option.some (Jvm.ClassFile.FieldType.object "TrialDesk$Reserve"))) ∈ TB := TB_3 (i := 25) rfl rfl
theorem a3_26 : (Jvm.Cond.classLink "TrialDesk$Site" (41 : Nat) "java/lang/IndexOutOfBoundsException") ∈ TB := TB_3 (i := 26) rfl rfl
theorem a3_27 : (Jvm.Cond.methodLink "TrialDesk$Site" (43 : Nat) ({ cls := "java/lang/IndexOutOfBoundsException", name := "<init>", desc := "()V" } : Jvm.MethodName)) ∈ TB := TB_3 (i := 27) rfl rfl
theorem a3_28 : (Jvm.Cond.methodLink "TrialDesk" (163 : Nat) ({ cls := "TrialDesk", name := "pickKits", desc := "(ILTrialDesk$Stratum;)Z" } : Jvm.MethodName)) ∈ TB := TB_3 (i := 28) rfl rfl
theorem a3_30 : (Jvm.Cond.instanceMethod ({ cls := "TrialDesk", name := "pickKits", desc := "(ILTrialDesk$Stratum;)Z" } : Jvm.MethodName)) ∈ TB := TB_3 (i := 30) rfl rfl
theorem a3_31 : (Jvm.Cond.code ({ cls := "TrialDesk", name := "pickKits", desc := "(ILTrialDesk$Stratum;)Z" } : Jvm.MethodName) prog_1_method_32_code (6 : Nat) (Option.some Jvm.ClassFile.FieldType.boolean)) ∈ TB := TB_3 (i := 31) rfl rfl
theorem a3_32 : (Jvm.Cond.methodLink "TrialDesk" (248 : Nat) ({ cls := "TrialDesk$Stratum", name := "armAhead", desc := "(I)I" } : Jvm.MethodName)) ∈ TB := TB_3 (i := 32) rfl rfl
theorem a3_33 : (Jvm.Cond.methodLink "TrialDesk" (170 : Nat) ({ cls := "TrialDesk$Reserve", name := "fill", desc := "([II)V" } : Jvm.MethodName)) ∈ TB := TB_3 (i := 33) rfl rfl
theorem a3_34 : (Jvm.Cond.instanceMethod ({ cls := "TrialDesk$Reserve", name := "fill", desc := "([II)V" } : Jvm.MethodName)) ∈ TB := TB_3 (i := 34) rfl rfl
theorem a3_35 : (Jvm.Cond.selects "TrialDesk$Reserve" ({ cls := "TrialDesk$Reserve", name := "fill", desc := "([II)V" } : Jvm.MethodName) ({ cls := "TrialDesk$Reserve", name := "fill", desc := "([II)V" } : Jvm.MethodName)) ∈ TB := TB_3 (i := 35) rfl rfl
theorem a3_36 : (Jvm.Cond.code ({ cls := "TrialDesk$Reserve", name := "fill", desc := "([II)V" } : Jvm.MethodName) prog_4_method_2_code (4 : Nat) (Option.none : Option Jvm.ClassFile.FieldType)) ∈ TB := TB_3 (i := 36) rfl rfl
theorem a3_37 : (Jvm.Cond.methodLink "TrialDesk" (174 : Nat) ({ cls := "TrialDesk$Shelf", name := "markAll", desc := "([II)V" } : Jvm.MethodName)) ∈ TB := TB_3 (i := 37) rfl rfl
theorem a3_38 : (Jvm.Cond.instanceMethod ({ cls := "TrialDesk$Shelf", name := "markAll", desc := "([II)V" } : Jvm.MethodName)) ∈ TB := TB_3 (i := 38) rfl rfl
theorem a3_39 : (Jvm.Cond.selects "TrialDesk$Shelf" ({ cls := "TrialDesk$Shelf", name := "markAll", desc := "([II)V" } : Jvm.MethodName) ({ cls := "TrialDesk$Shelf", name := "markAll", desc := "([II)V" } : Jvm.MethodName)) ∈ TB := TB_3 (i := 39) rfl rfl
theorem a3_40 : (Jvm.Cond.code ({ cls := "TrialDesk$Shelf", name := "markAll", desc := "([II)V" } : Jvm.MethodName) prog_5_method_8_code (4 : Nat) (Option.none : Option Jvm.ClassFile.FieldType)) ∈ TB := TB_3 (i := 40) rfl rfl
theorem a3_41 : (Jvm.Cond.methodLink "TrialDesk" (177 : Nat) ({ cls := "TrialDesk$Stratum", name := "takeBlock", desc := "()I" } : Jvm.MethodName)) ∈ TB := TB_3 (i := 41) rfl rfl
theorem a3_42 : (Jvm.Cond.methodLink "TrialDeskLaw" (106 : Nat) ({ cls := "TrialDeskLaw", name := "offline", desc := "(LTrialDesk;III[J)I" } : Jvm.MethodName)) ∈ TB := TB_3 (i := 42) rfl rfl
theorem a3_43 : (Jvm.Cond.static ({ cls := "TrialDeskLaw", name := "offline", desc := "(LTrialDesk;III[J)I" } : Jvm.MethodName)) ∈ TB := TB_3 (i := 43) rfl rfl
theorem a3_44 : (Jvm.Cond.codeWith ({ cls := "TrialDeskLaw", name := "offline", desc := "(LTrialDesk;III[J)I" } : Jvm.MethodName) method_8_code (6 : Nat) (Option.some Jvm.ClassFile.FieldType.int) [((0 : Nat), (12 : Nat), (15 : Nat), (21 : Nat)), ((0 : Nat), (12 : Nat), (19 : Nat), (15 : Nat))]) ∈ TB := TB_3 (i := 44) rfl rfl
theorem a3_45 : (Jvm.Cond.methodLink "TrialDeskLaw" (35 : Nat) ({ cls := "TrialDesk", name := "offline", desc := "(III)I" } : Jvm.MethodName)) ∈ TB := TB_3 (i := 45) rfl rfl
theorem a3_46 : (Jvm.Cond.instanceMethod ({ cls := "TrialDesk", name := "offline", desc := "(III)I" } : Jvm.MethodName)) ∈ TB := TB_3 (i := 46) rfl rfl
theorem a3_47 : (Jvm.Cond.selects "TrialDesk" ({ cls := "TrialDesk", name := "offline", desc := "(III)I" } : Jvm.MethodName) ({ cls := "TrialDesk", name := "offline", desc := "(III)I" } : Jvm.MethodName)) ∈ TB := TB_3 (i := 47) rfl rfl
theorem a3_48 : (Jvm.Cond.code ({ cls := "TrialDesk", name := "offline", desc := "(III)I" } : Jvm.MethodName) prog_1_method_7_code (7 : Nat) (Option.some Jvm.ClassFile.FieldType.int)) ∈ TB := TB_3 (i := 48) rfl rfl
theorem a3_49 : (Jvm.Cond.methodLink "TrialDesk" (180 : Nat) ({ cls := "TrialDesk$Reserve", name := "nextKit", desc := "()I" } : Jvm.MethodName)) ∈ TB := TB_3 (i := 49) rfl rfl
theorem a3_50 : (Jvm.Cond.instanceMethod ({ cls := "TrialDesk$Reserve", name := "nextKit", desc := "()I" } : Jvm.MethodName)) ∈ TB := TB_3 (i := 50) rfl rfl
theorem a3_51 : (Jvm.Cond.selects "TrialDesk$Reserve" ({ cls := "TrialDesk$Reserve", name := "nextKit", desc := "()I" } : Jvm.MethodName) ({ cls := "TrialDesk$Reserve", name := "nextKit", desc := "()I" } : Jvm.MethodName)) ∈ TB := TB_3 (i := 51) rfl rfl
theorem a3_52 : (Jvm.Cond.code ({ cls := "TrialDesk$Reserve", name := "nextKit", desc := "()I" } : Jvm.MethodName) prog_4_method_3_code (1 : Nat) (Option.some Jvm.ClassFile.FieldType.int)) ∈ TB := TB_3 (i := 52) rfl rfl
theorem a3_53 : (Jvm.Cond.methodLink "TrialDesk" (186 : Nat) ({ cls := "TrialDesk$Shelf", name := "armOf", desc := "(I)I" } : Jvm.MethodName)) ∈ TB := TB_3 (i := 53) rfl rfl
theorem a3_54 : (Jvm.Cond.instanceMethod ({ cls := "TrialDesk$Shelf", name := "armOf", desc := "(I)I" } : Jvm.MethodName)) ∈ TB := TB_3 (i := 54) rfl rfl
theorem a3_55 : (Jvm.Cond.selects "TrialDesk$Shelf" ({ cls := "TrialDesk$Shelf", name := "armOf", desc := "(I)I" } : Jvm.MethodName) ({ cls := "TrialDesk$Shelf", name := "armOf", desc := "(I)I" } : Jvm.MethodName)) ∈ TB := TB_3 (i := 55) rfl rfl
theorem a3_56 : (Jvm.Cond.code ({ cls := "TrialDesk$Shelf", name := "armOf", desc := "(I)I" } : Jvm.MethodName) prog_5_method_10_code (2 : Nat) (Option.some Jvm.ClassFile.FieldType.int)) ∈ TB := TB_3 (i := 56) rfl rfl
theorem a3_57 : (Jvm.Cond.methodLink "TrialDeskLaw" (109 : Nat) ({ cls := "TrialDeskLaw", name := "report", desc := "(LTrialDesk;I[J)I" } : Jvm.MethodName)) ∈ TB := TB_3 (i := 57) rfl rfl
theorem a3_58 : (Jvm.Cond.static ({ cls := "TrialDeskLaw", name := "report", desc := "(LTrialDesk;I[J)I" } : Jvm.MethodName)) ∈ TB := TB_3 (i := 58) rfl rfl
theorem a3_59 : (Jvm.Cond.codeWith ({ cls := "TrialDeskLaw", name := "report", desc := "(LTrialDesk;I[J)I" } : Jvm.MethodName) method_9_code (4 : Nat) (Option.some Jvm.ClassFile.FieldType.int) [((0 : Nat), (9 : Nat), (12 : Nat), (21 : Nat))]) ∈ TB := TB_3 (i := 59) rfl rfl
theorem a3_60 : (Jvm.Cond.methodLink "TrialDeskLaw" (38 : Nat) ({ cls := "TrialDesk", name := "report", desc := "(I)I" } : Jvm.MethodName)) ∈ TB := TB_3 (i := 60) rfl rfl
theorem a3_61 : (Jvm.Cond.instanceMethod ({ cls := "TrialDesk", name := "report", desc := "(I)I" } : Jvm.MethodName)) ∈ TB := TB_3 (i := 61) rfl rfl
theorem a3_62 : (Jvm.Cond.selects "TrialDesk" ({ cls := "TrialDesk", name := "report", desc := "(I)I" } : Jvm.MethodName) ({ cls := "TrialDesk", name := "report", desc := "(I)I" } : Jvm.MethodName)) ∈ TB := TB_3 (i := 62) rfl rfl
theorem a3_63 : (Jvm.Cond.code ({ cls := "TrialDesk", name := "report", desc := "(I)I" } : Jvm.MethodName) prog_1_method_8_code (5 : Nat) (Option.some Jvm.ClassFile.FieldType.int)) ∈ TB := TB_3 (i := 63) rfl rfl
theorem a3_64 : (Jvm.Cond.methodLink "TrialDesk" (190 : Nat) ({ cls := "TrialDesk$Site", name := "tell", desc := "(I)Z" } : Jvm.MethodName)) ∈ TB := TB_3 (i := 64) rfl rfl
theorem a3_65 : (Jvm.Cond.instanceMethod ({ cls := "TrialDesk$Site", name := "tell", desc := "(I)Z" } : Jvm.MethodName)) ∈ TB := TB_3 (i := 65) rfl rfl
theorem a3_66 : (Jvm.Cond.selects "TrialDesk$Site" ({ cls := "TrialDesk$Site", name := "tell", desc := "(I)Z" } : Jvm.MethodName) ({ cls := "TrialDesk$Site", name := "tell", desc := "(I)Z" } : Jvm.MethodName)) ∈ TB := TB_3 (i := 66) rfl rfl
theorem a3_67 : (Jvm.Cond.code ({ cls := "TrialDesk$Site", name := "tell", desc := "(I)Z" } : Jvm.MethodName) prog_6_method_5_code (2 : Nat) (Option.some Jvm.ClassFile.FieldType.boolean)) ∈ TB := TB_3 (i := 67) rfl rfl
theorem a3_68 : (Jvm.Cond.methodLink "TrialDesk" (193 : Nat) ({ cls := "TrialDesk$Site", name := "stratumOf", desc := "(I)I" } : Jvm.MethodName)) ∈ TB := TB_3 (i := 68) rfl rfl
theorem a3_69 : (Jvm.Cond.instanceMethod ({ cls := "TrialDesk$Site", name := "stratumOf", desc := "(I)I" } : Jvm.MethodName)) ∈ TB := TB_3 (i := 69) rfl rfl
theorem a3_70 : (Jvm.Cond.selects "TrialDesk$Site" ({ cls := "TrialDesk$Site", name := "stratumOf", desc := "(I)I" } : Jvm.MethodName) ({ cls := "TrialDesk$Site", name := "stratumOf", desc := "(I)I" } : Jvm.MethodName)) ∈ TB := TB_3 (i := 70) rfl rfl
theorem a3_71 : (Jvm.Cond.code ({ cls := "TrialDesk$Site", name := "stratumOf", desc := "(I)I" } : Jvm.MethodName) prog_6_method_6_code (2 : Nat) (Option.some Jvm.ClassFile.FieldType.int)) ∈ TB := TB_3 (i := 71) rfl rfl
theorem a3_72 : (Jvm.Cond.methodLink "TrialDesk" (196 : Nat) ({ cls := "TrialDesk$Site", name := "armOf", desc := "(I)I" } : Jvm.MethodName)) ∈ TB := TB_3 (i := 72) rfl rfl
theorem a3_73 : (Jvm.Cond.instanceMethod ({ cls := "TrialDesk$Site", name := "armOf", desc := "(I)I" } : Jvm.MethodName)) ∈ TB := TB_3 (i := 73) rfl rfl
theorem a3_74 : (Jvm.Cond.selects "TrialDesk$Site" ({ cls := "TrialDesk$Site", name := "armOf", desc := "(I)I" } : Jvm.MethodName) ({ cls := "TrialDesk$Site", name := "armOf", desc := "(I)I" } : Jvm.MethodName)) ∈ TB := TB_3 (i := 74) rfl rfl
theorem a3_75 : (Jvm.Cond.code ({ cls := "TrialDesk$Site", name := "armOf", desc := "(I)I" } : Jvm.MethodName) prog_6_method_7_code (2 : Nat) (Option.some Jvm.ClassFile.FieldType.int)) ∈ TB := TB_3 (i := 75) rfl rfl
theorem a3_76 : (Jvm.Cond.methodLink "TrialDesk" (197 : Nat) ({ cls := "TrialDesk$Site", name := "dropReserves", desc := "()V" } : Jvm.MethodName)) ∈ TB := TB_3 (i := 76) rfl rfl
theorem a3_77 : (Jvm.Cond.instanceMethod ({ cls := "TrialDesk$Site", name := "dropReserves", desc := "()V" } : Jvm.MethodName)) ∈ TB := TB_3 (i := 77) rfl rfl
theorem a3_78 : (Jvm.Cond.selects "TrialDesk$Site" ({ cls := "TrialDesk$Site", name := "dropReserves", desc := "()V" } : Jvm.MethodName) ({ cls := "TrialDesk$Site", name := "dropReserves", desc := "()V" } : Jvm.MethodName)) ∈ TB := TB_3 (i := 78) rfl rfl
theorem a3_79 : (Jvm.Cond.code ({ cls := "TrialDesk$Site", name := "dropReserves", desc := "()V" } : Jvm.MethodName) prog_6_method_12_code (2 : Nat) (Option.none : Option Jvm.ClassFile.FieldType)) ∈ TB := TB_3 (i := 79) rfl rfl
theorem a3_80 : (Jvm.Cond.methodLink "TrialDesk$Site" (44 : Nat) ({ cls := "TrialDesk$Site", name := "reserveFor", desc := "(I)LTrialDesk$Reserve;" } : Jvm.MethodName)) ∈ TB := TB_3 (i := 80) rfl rfl
theorem a3_81 : (Jvm.Cond.methodLink "TrialDesk$Site" (55 : Nat) ({ cls := "TrialDesk$Reserve", name := "drop", desc := "()V" } : Jvm.MethodName)) ∈ TB := TB_3 (i := 81) rfl rfl
theorem a3_82 : (Jvm.Cond.instanceMethod ({ cls := "TrialDesk$Reserve", name := "drop", desc := "()V" } : Jvm.MethodName)) ∈ TB := TB_3 (i := 82) rfl rfl
theorem a3_83 : (Jvm.Cond.selects "TrialDesk$Reserve" ({ cls := "TrialDesk$Reserve", name := "drop", desc := "()V" } : Jvm.MethodName) ({ cls := "TrialDesk$Reserve", name := "drop", desc := "()V" } : Jvm.MethodName)) ∈ TB := TB_3 (i := 83) rfl rfl
theorem a3_84 : (Jvm.Cond.code ({ cls := "TrialDesk$Reserve", name := "drop", desc := "()V" } : Jvm.MethodName) prog_4_method_4_code (1 : Nat) (Option.none : Option Jvm.ClassFile.FieldType)) ∈ TB := TB_3 (i := 84) rfl rfl
theorem a3_85 : (Jvm.Cond.methodLink "TrialDesk" (200 : Nat) ({ cls := "TrialDesk$Shelf", name := "freeMarked", desc := "(I)V" } : Jvm.MethodName)) ∈ TB := TB_3 (i := 85) rfl rfl
theorem a3_86 : (Jvm.Cond.instanceMethod ({ cls := "TrialDesk$Shelf", name := "freeMarked", desc := "(I)V" } : Jvm.MethodName)) ∈ TB := TB_3 (i := 86) rfl rfl
theorem a3_87 : (Jvm.Cond.selects "TrialDesk$Shelf" ({ cls := "TrialDesk$Shelf", name := "freeMarked", desc := "(I)V" } : Jvm.MethodName) ({ cls := "TrialDesk$Shelf", name := "freeMarked", desc := "(I)V" } : Jvm.MethodName)) ∈ TB := TB_3 (i := 87) rfl rfl
theorem a3_88 : (Jvm.Cond.code ({ cls := "TrialDesk$Shelf", name := "freeMarked", desc := "(I)V" } : Jvm.MethodName) prog_5_method_9_code (3 : Nat) (Option.none : Option Jvm.ClassFile.FieldType)) ∈ TB := TB_3 (i := 88) rfl rfl
theorem a3_89 : (Jvm.Cond.methodLink "TrialDeskLaw" (112 : Nat) ({ cls := "TrialDeskLaw", name := "close", desc := "(LTrialDesk;I[J)I" } : Jvm.MethodName)) ∈ TB := TB_3 (i := 89) rfl rfl
theorem a3_90 : (Jvm.Cond.static ({ cls := "TrialDeskLaw", name := "close", desc := "(LTrialDesk;I[J)I" } : Jvm.MethodName)) ∈ TB := TB_3 (i := 90) rfl rfl
theorem a3_91 : (Jvm.Cond.codeWith ({ cls := "TrialDeskLaw", name := "close", desc := "(LTrialDesk;I[J)I" } : Jvm.MethodName) method_10_code (4 : Nat) (Option.some Jvm.ClassFile.FieldType.int) [((0 : Nat), (9 : Nat), (12 : Nat), (21 : Nat))]) ∈ TB := TB_3 (i := 91) rfl rfl
theorem a3_92 : (Jvm.Cond.methodLink "TrialDeskLaw" (41 : Nat) ({ cls := "TrialDesk", name := "close", desc := "(I)I" } : Jvm.MethodName)) ∈ TB := TB_3 (i := 92) rfl rfl
theorem a3_93 : (Jvm.Cond.instanceMethod ({ cls := "TrialDesk", name := "close", desc := "(I)I" } : Jvm.MethodName)) ∈ TB := TB_3 (i := 93) rfl rfl
theorem a3_94 : (Jvm.Cond.selects "TrialDesk" ({ cls := "TrialDesk", name := "close", desc := "(I)I" } : Jvm.MethodName) ({ cls := "TrialDesk", name := "close", desc := "(I)I" } : Jvm.MethodName)) ∈ TB := TB_3 (i := 94) rfl rfl
theorem a3_95 : (Jvm.Cond.code ({ cls := "TrialDesk", name := "close", desc := "(I)I" } : Jvm.MethodName) prog_1_method_9_code (4 : Nat) (Option.some Jvm.ClassFile.FieldType.int)) ∈ TB := TB_3 (i := 95) rfl rfl
theorem a3_96 : (Jvm.Cond.methodLink "TrialDesk" (203 : Nat) ({ cls := "TrialDesk$Site", name := "entriesLeft", desc := "()I" } : Jvm.MethodName)) ∈ TB := TB_3 (i := 96) rfl rfl
theorem a3_97 : (Jvm.Cond.instanceMethod ({ cls := "TrialDesk$Site", name := "entriesLeft", desc := "()I" } : Jvm.MethodName)) ∈ TB := TB_3 (i := 97) rfl rfl
theorem a3_98 : (Jvm.Cond.selects "TrialDesk$Site" ({ cls := "TrialDesk$Site", name := "entriesLeft", desc := "()I" } : Jvm.MethodName) ({ cls := "TrialDesk$Site", name := "entriesLeft", desc := "()I" } : Jvm.MethodName)) ∈ TB := TB_3 (i := 98) rfl rfl
theorem a3_99 : (Jvm.Cond.code ({ cls := "TrialDesk$Site", name := "entriesLeft", desc := "()I" } : Jvm.MethodName) prog_6_method_11_code (4 : Nat) (Option.some Jvm.ClassFile.FieldType.int)) ∈ TB := TB_3 (i := 99) rfl rfl
theorem a3_100 : (Jvm.Cond.methodLink "TrialDeskLaw" (115 : Nat) ({ cls := "TrialDeskLaw", name := "key", desc := "(LTrialDesk;III[J)I" } : Jvm.MethodName)) ∈ TB := TB_3 (i := 100) rfl rfl
theorem a3_101 : (Jvm.Cond.static ({ cls := "TrialDeskLaw", name := "key", desc := "(LTrialDesk;III[J)I" } : Jvm.MethodName)) ∈ TB := TB_3 (i := 101) rfl rfl
theorem a3_102 : (Jvm.Cond.codeWith ({ cls := "TrialDeskLaw", name := "key", desc := "(LTrialDesk;III[J)I" } : Jvm.MethodName) method_11_code (6 : Nat) (Option.some Jvm.ClassFile.FieldType.int) [((0 : Nat), (12 : Nat), (15 : Nat), (21 : Nat))]) ∈ TB := TB_3 (i := 102) rfl rfl
theorem a3_103 : (Jvm.Cond.methodLink "TrialDeskLaw" (44 : Nat) ({ cls := "TrialDesk", name := "key", desc := "(III)I" } : Jvm.MethodName)) ∈ TB := TB_3 (i := 103) rfl rfl
theorem a3_104 : (Jvm.Cond.instanceMethod ({ cls := "TrialDesk", name := "key", desc := "(III)I" } : Jvm.MethodName)) ∈ TB := TB_3 (i := 104) rfl rfl
theorem a3_105 : (Jvm.Cond.selects "TrialDesk" ({ cls := "TrialDesk", name := "key", desc := "(III)I" } : Jvm.MethodName) ({ cls := "TrialDesk", name := "key", desc := "(III)I" } : Jvm.MethodName)) ∈ TB := TB_3 (i := 105) rfl rfl
theorem a3_106 : (Jvm.Cond.code ({ cls := "TrialDesk", name := "key", desc := "(III)I" } : Jvm.MethodName) prog_1_method_10_code (5 : Nat) (Option.some Jvm.ClassFile.FieldType.int)) ∈ TB := TB_3 (i := 106) rfl rfl
theorem a3_107 : (Jvm.Cond.methodLink "TrialDesk" (206 : Nat) ({ cls := "TrialDesk", name := "needHolder", desc := "(I)V" } : Jvm.MethodName)) ∈ TB := TB_3 (i := 107) rfl rfl
theorem a3_108 : (Jvm.Cond.static ({ cls := "TrialDesk", name := "needHolder", desc := "(I)V" } : Jvm.MethodName)) ∈ TB := TB_3 (i := 108) rfl rfl
theorem a3_109 : (Jvm.Cond.code ({ cls := "TrialDesk", name := "needHolder", desc := "(I)V" } : Jvm.MethodName) prog_1_method_30_code (1 : Nat) (Option.none : Option Jvm.ClassFile.FieldType)) ∈ TB := TB_3 (i := 109) rfl rfl
theorem a3_110 : (Jvm.Cond.methodLink "TrialDesk" (209 : Nat) ({ cls := "TrialDesk$Site", name := "addKey", desc := "(II)V" } : Jvm.MethodName)) ∈ TB := TB_3 (i := 110) rfl rfl
theorem a3_111 : (Jvm.Cond.instanceMethod ({ cls := "TrialDesk$Site", name := "addKey", desc := "(II)V" } : Jvm.MethodName)) ∈ TB := TB_3 (i := 111) rfl rfl
theorem a3_112 : (Jvm.Cond.selects "TrialDesk$Site" ({ cls := "TrialDesk$Site", name := "addKey", desc := "(II)V" } : Jvm.MethodName) ({ cls := "TrialDesk$Site", name := "addKey", desc := "(II)V" } : Jvm.MethodName)) ∈ TB := TB_3 (i := 112) rfl rfl
theorem a3_113 : (Jvm.Cond.code ({ cls := "TrialDesk$Site", name := "addKey", desc := "(II)V" } : Jvm.MethodName) prog_6_method_8_code (3 : Nat) (Option.none : Option Jvm.ClassFile.FieldType)) ∈ TB := TB_3 (i := 113) rfl rfl
theorem a3_114 : (Jvm.Cond.methodLink "TrialDesk" (212 : Nat) ({ cls := "TrialDesk$Site", name := "keyCount", desc := "(I)I" } : Jvm.MethodName)) ∈ TB := TB_3 (i := 114) rfl rfl
theorem a3_115 : (Jvm.Cond.instanceMethod ({ cls := "TrialDesk$Site", name := "keyCount", desc := "(I)I" } : Jvm.MethodName)) ∈ TB := TB_3 (i := 115) rfl rfl
theorem a3_116 : (Jvm.Cond.selects "TrialDesk$Site" ({ cls := "TrialDesk$Site", name := "keyCount", desc := "(I)I" } : Jvm.MethodName) ({ cls := "TrialDesk$Site", name := "keyCount", desc := "(I)I" } : Jvm.MethodName)) ∈ TB := TB_3 (i := 116) rfl rfl
theorem a3_117 : (Jvm.Cond.code ({ cls := "TrialDesk$Site", name := "keyCount", desc := "(I)I" } : Jvm.MethodName) prog_6_method_9_code (2 : Nat) (Option.some Jvm.ClassFile.FieldType.int)) ∈ TB := TB_3 (i := 117) rfl rfl
theorem a3_118 : (Jvm.Cond.methodLink "TrialDesk$Site" (35 : Nat) ({ cls := "java/lang/Integer", name := "bitCount", desc := "(I)I" } : Jvm.MethodName)) ∈ TB := TB_3 (i := 118) rfl rfl
theorem a3_119 : (Jvm.Cond.static ({ cls := "java/lang/Integer", name := "bitCount", desc := "(I)I" } : Jvm.MethodName)) ∈ TB := TB_3 (i := 119) rfl rfl
theorem a3_120 : (Jvm.Cond.code ({ cls := "java/lang/Integer", name := "bitCount", desc := "(I)I" } : Jvm.MethodName) prog_15_method_49_code (1 : Nat) (Option.some Jvm.ClassFile.FieldType.int)) ∈ TB := TB_3 (i := 120) rfl rfl
theorem a3_121 : (Jvm.Cond.constant "java/lang/Integer" (265 : Nat) (1431655765 : Int32)) ∈ TB := TB_3 (i := 121) rfl rfl
theorem a3_122 : (Jvm.Cond.constant "java/lang/Integer" (266 : Nat) (858993459 : Int32)) ∈ TB := TB_3 (i := 122) rfl rfl
theorem a3_123 : (Jvm.Cond.constant "java/lang/Integer" (267 : Nat) (252645135 : Int32)) ∈ TB := TB_3 (i := 123) rfl rfl
theorem a3_124 : (Jvm.Cond.methodLink "TrialDeskLaw" (118 : Nat) ({ cls := "TrialDeskLaw", name := "arm", desc := "(LTrialDesk;II[J)I" } : Jvm.MethodName)) ∈ TB := TB_3 (i := 124) rfl rfl
theorem a3_125 : (Jvm.Cond.static ({ cls := "TrialDeskLaw", name := "arm", desc := "(LTrialDesk;II[J)I" } : Jvm.MethodName)) ∈ TB := TB_3 (i := 125) rfl rfl
theorem a3_126 : (Jvm.Cond.codeWith ({ cls := "TrialDeskLaw", name := "arm", desc := "(LTrialDesk;II[J)I" } : Jvm.MethodName) method_12_code (5 : Nat) (Option.some Jvm.ClassFile.FieldType.int) [((0 : Nat), (10 : Nat), (13 : Nat), (21 : Nat))]) ∈ TB := TB_3 (i := 126) rfl rfl
theorem a3_127 : (Jvm.Cond.methodLink "TrialDeskLaw" (47 : Nat) ({ cls := "TrialDesk", name := "arm", desc := "(II)I" } : Jvm.MethodName)) ∈ TB := TB_3 (i := 127) rfl rfl
theorem a3_128 : (Jvm.Cond.instanceMethod ({ cls := "TrialDesk", name := "arm", desc := "(II)I" } : Jvm.MethodName)) ∈ TB := TB_3 (i := 128) rfl rfl
theorem a3_129 : (Jvm.Cond.selects "TrialDesk" ({ cls := "TrialDesk", name := "arm", desc := "(II)I" } : Jvm.MethodName) ({ cls := "TrialDesk", name := "arm", desc := "(II)I" } : Jvm.MethodName)) ∈ TB := TB_3 (i := 129) rfl rfl
theorem a3_130 : (Jvm.Cond.code ({ cls := "TrialDesk", name := "arm", desc := "(II)I" } : Jvm.MethodName) prog_1_method_11_code (5 : Nat) (Option.some Jvm.ClassFile.FieldType.int)) ∈ TB := TB_3 (i := 130) rfl rfl
theorem a3_131 : (Jvm.Cond.methodLink "TrialDesk" (215 : Nat) ({ cls := "TrialDesk$Site", name := "isKnown", desc := "(I)Z" } : Jvm.MethodName)) ∈ TB := TB_3 (i := 131) rfl rfl
theorem a3_132 : (Jvm.Cond.instanceMethod ({ cls := "TrialDesk$Site", name := "isKnown", desc := "(I)Z" } : Jvm.MethodName)) ∈ TB := TB_3 (i := 132) rfl rfl
theorem a3_133 : (Jvm.Cond.selects "TrialDesk$Site" ({ cls := "TrialDesk$Site", name := "isKnown", desc := "(I)Z" } : Jvm.MethodName) ({ cls := "TrialDesk$Site", name := "isKnown", desc := "(I)Z" } : Jvm.MethodName)) ∈ TB := TB_3 (i := 133) rfl rfl
theorem a3_134 : (Jvm.Cond.code ({ cls := "TrialDesk$Site", name := "isKnown", desc := "(I)Z" } : Jvm.MethodName) prog_6_method_3_code (2 : Nat) (Option.some Jvm.ClassFile.FieldType.boolean)) ∈ TB := TB_3 (i := 134) rfl rfl
theorem a3_135 : (Jvm.Cond.methodLink "TrialDeskLaw" (121 : Nat) ({ cls := "TrialDeskLaw", name := "open", desc := "(LTrialDesk;II[J)I" } : Jvm.MethodName)) ∈ TB := TB_3 (i := 135) rfl rfl
theorem a3_136 : (Jvm.Cond.static ({ cls := "TrialDeskLaw", name := "open", desc := "(LTrialDesk;II[J)I" } : Jvm.MethodName)) ∈ TB := TB_3 (i := 136) rfl rfl
theorem a3_137 : (Jvm.Cond.codeWith ({ cls := "TrialDeskLaw", name := "open", desc := "(LTrialDesk;II[J)I" } : Jvm.MethodName) method_13_code (5 : Nat) (Option.some Jvm.ClassFile.FieldType.int) [((0 : Nat), (10 : Nat), (13 : Nat), (21 : Nat))]) ∈ TB := TB_3 (i := 137) rfl rfl
theorem a3_138 : (Jvm.Cond.methodLink "TrialDeskLaw" (50 : Nat) ({ cls := "TrialDesk", name := "open", desc := "(II)I" } : Jvm.MethodName)) ∈ TB := TB_3 (i := 138) rfl rfl
theorem a3_139 : (Jvm.Cond.instanceMethod ({ cls := "TrialDesk", name := "open", desc := "(II)I" } : Jvm.MethodName)) ∈ TB := TB_3 (i := 139) rfl rfl
theorem a3_140 : (Jvm.Cond.selects "TrialDesk" ({ cls := "TrialDesk", name := "open", desc := "(II)I" } : Jvm.MethodName) ({ cls := "TrialDesk", name := "open", desc := "(II)I" } : Jvm.MethodName)) ∈ TB := TB_3 (i := 140) rfl rfl
theorem a3_141 : (Jvm.Cond.code ({ cls := "TrialDesk", name := "open", desc := "(II)I" } : Jvm.MethodName) prog_1_method_12_code (3 : Nat) (Option.some Jvm.ClassFile.FieldType.int)) ∈ TB := TB_3 (i := 141) rfl rfl
theorem a3_142 : (Jvm.Cond.methodLink "TrialDeskLaw" (124 : Nat) ({ cls := "TrialDeskLaw", name := "count", desc := "(LTrialDesk;II[J)I" } : Jvm.MethodName)) ∈ TB := TB_3 (i := 142) rfl rfl
theorem a3_143 : (Jvm.Cond.static ({ cls := "TrialDeskLaw", name := "count", desc := "(LTrialDesk;II[J)I" } : Jvm.MethodName)) ∈ TB := TB_3 (i := 143) rfl rfl
theorem a3_144 : (Jvm.Cond.codeWith ({ cls := "TrialDeskLaw", name := "count", desc := "(LTrialDesk;II[J)I" } : Jvm.MethodName) method_14_code (5 : Nat) (Option.some Jvm.ClassFile.FieldType.int) [((0 : Nat), (10 : Nat), (13 : Nat), (21 : Nat)), ((0 : Nat), (10 : Nat), (17 : Nat), (15 : Nat))]) ∈ TB := TB_3 (i := 144) rfl rfl
theorem a3_145 : (Jvm.Cond.methodLink "TrialDeskLaw" (53 : Nat) ({ cls := "TrialDesk", name := "count", desc := "(II)I" } : Jvm.MethodName)) ∈ TB := TB_3 (i := 145) rfl rfl
theorem a3_146 : (Jvm.Cond.instanceMethod ({ cls := "TrialDesk", name := "count", desc := "(II)I" } : Jvm.MethodName)) ∈ TB := TB_3 (i := 146) rfl rfl
theorem a3_147 : (Jvm.Cond.selects "TrialDesk" ({ cls := "TrialDesk", name := "count", desc := "(II)I" } : Jvm.MethodName) ({ cls := "TrialDesk", name := "count", desc := "(II)I" } : Jvm.MethodName)) ∈ TB := TB_3 (i := 147) rfl rfl
theorem a3_148 : (Jvm.Cond.code ({ cls := "TrialDesk", name := "count", desc := "(II)I" } : Jvm.MethodName) prog_1_method_13_code (4 : Nat) (Option.some Jvm.ClassFile.FieldType.int)) ∈ TB := TB_3 (i := 148) rfl rfl
theorem a3_149 : (Jvm.Cond.methodLink "TrialDesk" (218 : Nat) ({ cls := "TrialDesk$Stratum", name := "knownWith", desc := "(I)I" } : Jvm.MethodName)) ∈ TB := TB_3 (i := 149) rfl rfl
theorem a3_150 : (Jvm.Cond.instanceMethod ({ cls := "TrialDesk$Stratum", name := "knownWith", desc := "(I)I" } : Jvm.MethodName)) ∈ TB := TB_3 (i := 150) rfl rfl
theorem a3_151 : (Jvm.Cond.selects "TrialDesk$Stratum" ({ cls := "TrialDesk$Stratum", name := "knownWith", desc := "(I)I" } : Jvm.MethodName) ({ cls := "TrialDesk$Stratum", name := "knownWith", desc := "(I)I" } : Jvm.MethodName)) ∈ TB := TB_3 (i := 151) rfl rfl
theorem a3_152 : (Jvm.Cond.code ({ cls := "TrialDesk$Stratum", name := "knownWith", desc := "(I)I" } : Jvm.MethodName) prog_7_method_9_code (2 : Nat) (Option.some Jvm.ClassFile.FieldType.int)) ∈ TB := TB_3 (i := 152) rfl rfl
theorem a3_153 : (Jvm.Cond.methodLink "TrialDeskLaw" (127 : Nat) ({ cls := "TrialDeskLaw", name := "spread", desc := "(LTrialDesk;I[J)I" } : Jvm.MethodName)) ∈ TB := TB_3 (i := 153) rfl rfl
theorem a3_154 : (Jvm.Cond.static ({ cls := "TrialDeskLaw", name := "spread", desc := "(LTrialDesk;I[J)I" } : Jvm.MethodName)) ∈ TB := TB_3 (i := 154) rfl rfl
theorem a3_155 : (Jvm.Cond.codeWith ({ cls := "TrialDeskLaw", name := "spread", desc := "(LTrialDesk;I[J)I" } : Jvm.MethodName) method_15_code (4 : Nat) (Option.some Jvm.ClassFile.FieldType.int) [((0 : Nat), (9 : Nat), (12 : Nat), (21 : Nat)), ((0 : Nat), (9 : Nat), (15 : Nat), (15 : Nat))]) ∈ TB := TB_3 (i := 155) rfl rfl
theorem a3_156 : (Jvm.Cond.methodLink "TrialDeskLaw" (56 : Nat) ({ cls := "TrialDesk", name := "spread", desc := "(I)I" } : Jvm.MethodName)) ∈ TB := TB_3 (i := 156) rfl rfl
theorem a3_157 : (Jvm.Cond.instanceMethod ({ cls := "TrialDesk", name := "spread", desc := "(I)I" } : Jvm.MethodName)) ∈ TB := TB_3 (i := 157) rfl rfl
theorem a3_158 : (Jvm.Cond.selects "TrialDesk" ({ cls := "TrialDesk", name := "spread", desc := "(I)I" } : Jvm.MethodName) ({ cls := "TrialDesk", name := "spread", desc := "(I)I" } : Jvm.MethodName)) ∈ TB := TB_3 (i := 158) rfl rfl
theorem a3_159 : (Jvm.Cond.code ({ cls := "TrialDesk", name := "spread", desc := "(I)I" } : Jvm.MethodName) prog_1_method_14_code (3 : Nat) (Option.some Jvm.ClassFile.FieldType.int)) ∈ TB := TB_3 (i := 159) rfl rfl
theorem a3_160 : (Jvm.Cond.methodLink "TrialDesk" (221 : Nat) ({ cls := "TrialDesk$Stratum", name := "widestGap", desc := "()I" } : Jvm.MethodName)) ∈ TB := TB_3 (i := 160) rfl rfl
theorem a3_161 : (Jvm.Cond.instanceMethod ({ cls := "TrialDesk$Stratum", name := "widestGap", desc := "()I" } : Jvm.MethodName)) ∈ TB := TB_3 (i := 161) rfl rfl
theorem a3_162 : (Jvm.Cond.selects "TrialDesk$Stratum" ({ cls := "TrialDesk$Stratum", name := "widestGap", desc := "()I" } : Jvm.MethodName) ({ cls := "TrialDesk$Stratum", name := "widestGap", desc := "()I" } : Jvm.MethodName)) ∈ TB := TB_3 (i := 162) rfl rfl
theorem a3_163 : (Jvm.Cond.code ({ cls := "TrialDesk$Stratum", name := "widestGap", desc := "()I" } : Jvm.MethodName) prog_7_method_10_code (5 : Nat) (Option.some Jvm.ClassFile.FieldType.int)) ∈ TB := TB_3 (i := 163) rfl rfl
theorem a3_164 : (Jvm.Cond.methodLink "TrialDesk$Stratum" (67 : Nat) ({ cls := "TrialDesk$Stratum", name := "knownWith", desc := "(I)I" } : Jvm.MethodName)) ∈ TB := TB_3 (i := 164) rfl rfl
theorem a3_165 : (Jvm.Cond.methodLink "TrialDesk$Stratum" (70 : Nat) ({ cls := "TrialDesk$Plan", name := "weightOf", desc := "(I)I" } : Jvm.MethodName)) ∈ TB := TB_3 (i := 165) rfl rfl
theorem a3_166 : (Jvm.Cond.methodLink "TrialDesk$Stratum" (73 : Nat) ({ cls := "java/lang/Math", name := "abs", desc := "(I)I" } : Jvm.MethodName)) ∈ TB := TB_3 (i := 166) rfl rfl
theorem a3_167 : (Jvm.Cond.static ({ cls := "java/lang/Math", name := "abs", desc := "(I)I" } : Jvm.MethodName)) ∈ TB := TB_3 (i := 167) rfl rfl
theorem a3_168 : (Jvm.Cond.code ({ cls := "java/lang/Math", name := "abs", desc := "(I)I" } : Jvm.MethodName) prog_16_method_59_code (1 : Nat) (Option.some Jvm.ClassFile.FieldType.int)) ∈ TB := TB_3 (i := 168) rfl rfl
theorem a3_169 : (Jvm.Cond.methodLink "TrialDeskLaw" (130 : Nat) ({ cls := "TrialDeskLaw", name := "entry", desc := "(LTrialDesk;II[J)I" } : Jvm.MethodName)) ∈ TB := TB_3 (i := 169) rfl rfl
theorem a3_170 : (Jvm.Cond.static ({ cls := "TrialDeskLaw", name := "entry", desc := "(LTrialDesk;II[J)I" } : Jvm.MethodName)) ∈ TB := TB_3 (i := 170) rfl rfl
theorem a3_171 : (Jvm.Cond.codeWith ({ cls := "TrialDeskLaw", name := "entry", desc := "(LTrialDesk;II[J)I" } : Jvm.MethodName) method_16_code (5 : Nat) (Option.some Jvm.ClassFile.FieldType.int) [((0 : Nat), (10 : Nat), (13 : Nat), (21 : Nat))]) ∈ TB := TB_3 (i := 171) rfl rfl
theorem a3_172 : (Jvm.Cond.methodLink "TrialDeskLaw" (59 : Nat) ({ cls := "TrialDesk", name := "entry", desc := "(II)I" } : Jvm.MethodName)) ∈ TB := TB_3 (i := 172) rfl rfl
theorem a3_173 : (Jvm.Cond.instanceMethod ({ cls := "TrialDesk", name := "entry", desc := "(II)I" } : Jvm.MethodName)) ∈ TB := TB_3 (i := 173) rfl rfl
theorem a3_174 : (Jvm.Cond.selects "TrialDesk" ({ cls := "TrialDesk", name := "entry", desc := "(II)I" } : Jvm.MethodName) ({ cls := "TrialDesk", name := "entry", desc := "(II)I" } : Jvm.MethodName)) ∈ TB := TB_3 (i := 174) rfl rfl
theorem a3_175 : (Jvm.Cond.code ({ cls := "TrialDesk", name := "entry", desc := "(II)I" } : Jvm.MethodName) prog_1_method_15_code (4 : Nat) (Option.some Jvm.ClassFile.FieldType.int)) ∈ TB := TB_3 (i := 175) rfl rfl
theorem a3_176 : (Jvm.Cond.methodLink "TrialDesk" (224 : Nat) ({ cls := "TrialDesk$Stratum", name := "takenArm", desc := "(I)I" } : Jvm.MethodName)) ∈ TB := TB_3 (i := 176) rfl rfl
theorem a3_177 : (Jvm.Cond.instanceMethod ({ cls := "TrialDesk$Stratum", name := "takenArm", desc := "(I)I" } : Jvm.MethodName)) ∈ TB := TB_3 (i := 177) rfl rfl
theorem a3_178 : (Jvm.Cond.selects "TrialDesk$Stratum" ({ cls := "TrialDesk$Stratum", name := "takenArm", desc := "(I)I" } : Jvm.MethodName) ({ cls := "TrialDesk$Stratum", name := "takenArm", desc := "(I)I" } : Jvm.MethodName)) ∈ TB := TB_3 (i := 178) rfl rfl
theorem a3_179 : (Jvm.Cond.code ({ cls := "TrialDesk$Stratum", name := "takenArm", desc := "(I)I" } : Jvm.MethodName) prog_7_method_5_code (2 : Nat) (Option.some Jvm.ClassFile.FieldType.int)) ∈ TB := TB_3 (i := 179) rfl rfl
theorem a3_180 : (Jvm.Cond.methodLink "TrialDeskLaw" (133 : Nat) ({ cls := "TrialDeskLaw", name := "blocks", desc := "(LTrialDesk;I[J)I" } : Jvm.MethodName)) ∈ TB := TB_3 (i := 180) rfl rfl
theorem a3_181 : (Jvm.Cond.static ({ cls := "TrialDeskLaw", name := "blocks", desc := "(LTrialDesk;I[J)I" } : Jvm.MethodName)) ∈ TB := TB_3 (i := 181) rfl rfl
theorem a3_182 : (Jvm.Cond.codeWith ({ cls := "TrialDeskLaw", name := "blocks", desc := "(LTrialDesk;I[J)I" } : Jvm.MethodName) method_17_code (4 : Nat) (Option.some Jvm.ClassFile.FieldType.int) [((0 : Nat), (9 : Nat), (12 : Nat), (21 : Nat))]) ∈ TB := TB_3 (i := 182) rfl rfl
theorem a3_183 : (Jvm.Cond.methodLink "TrialDeskLaw" (62 : Nat) ({ cls := "TrialDesk", name := "blocks", desc := "(I)I" } : Jvm.MethodName)) ∈ TB := TB_3 (i := 183) rfl rfl
theorem a3_184 : (Jvm.Cond.instanceMethod ({ cls := "TrialDesk", name := "blocks", desc := "(I)I" } : Jvm.MethodName)) ∈ TB := TB_3 (i := 184) rfl rfl
theorem a3_185 : (Jvm.Cond.selects "TrialDesk" ({ cls := "TrialDesk", name := "blocks", desc := "(I)I" } : Jvm.MethodName) ({ cls := "TrialDesk", name := "blocks", desc := "(I)I" } : Jvm.MethodName)) ∈ TB := TB_3 (i := 185) rfl rfl
theorem a3_186 : (Jvm.Cond.code ({ cls := "TrialDesk", name := "blocks", desc := "(I)I" } : Jvm.MethodName) prog_1_method_16_code (2 : Nat) (Option.some Jvm.ClassFile.FieldType.int)) ∈ TB := TB_3 (i := 186) rfl rfl
theorem a3_187 : (Jvm.Cond.methodLink "TrialDeskLaw" (136 : Nat) ({ cls := "TrialDeskLaw", name := "stock", desc := "(LTrialDesk;II[J)I" } : Jvm.MethodName)) ∈ TB := TB_3 (i := 187) rfl rfl
theorem a3_188 : (Jvm.Cond.static ({ cls := "TrialDeskLaw", name := "stock", desc := "(LTrialDesk;II[J)I" } : Jvm.MethodName)) ∈ TB := TB_3 (i := 188) rfl rfl
theorem a3_189 : (Jvm.Cond.codeWith ({ cls := "TrialDeskLaw", name := "stock", desc := "(LTrialDesk;II[J)I" } : Jvm.MethodName) method_18_code (5 : Nat) (Option.some Jvm.ClassFile.FieldType.int) [((0 : Nat), (10 : Nat), (13 : Nat), (21 : Nat)), ((0 : Nat), (10 : Nat), (17 : Nat), (13 : Nat))]) ∈ TB := TB_3 (i := 189) rfl rfl
theorem a3_190 : (Jvm.Cond.methodLink "TrialDeskLaw" (65 : Nat) ({ cls := "TrialDesk", name := "stock", desc := "(II)I" } : Jvm.MethodName)) ∈ TB := TB_3 (i := 190) rfl rfl
theorem a3_191 : (Jvm.Cond.instanceMethod ({ cls := "TrialDesk", name := "stock", desc := "(II)I" } : Jvm.MethodName)) ∈ TB := TB_3 (i := 191) rfl rfl
theorem a3_192 : (Jvm.Cond.selects "TrialDesk" ({ cls := "TrialDesk", name := "stock", desc := "(II)I" } : Jvm.MethodName) ({ cls := "TrialDesk", name := "stock", desc := "(II)I" } : Jvm.MethodName)) ∈ TB := TB_3 (i := 192) rfl rfl
theorem a3_193 : (Jvm.Cond.code ({ cls := "TrialDesk", name := "stock", desc := "(II)I" } : Jvm.MethodName) prog_1_method_17_code (3 : Nat) (Option.some Jvm.ClassFile.FieldType.int)) ∈ TB := TB_3 (i := 193) rfl rfl
theorem a3_194 : (Jvm.Cond.methodLink "TrialDesk" (230 : Nat) ({ cls := "TrialDesk$Shelf", name := "tally", desc := "(II)I" } : Jvm.MethodName)) ∈ TB := TB_3 (i := 194) rfl rfl
theorem a3_195 : (Jvm.Cond.instanceMethod ({ cls := "TrialDesk$Shelf", name := "tally", desc := "(II)I" } : Jvm.MethodName)) ∈ TB := TB_3 (i := 195) rfl rfl
theorem a3_196 : (Jvm.Cond.selects "TrialDesk$Shelf" ({ cls := "TrialDesk$Shelf", name := "tally", desc := "(II)I" } : Jvm.MethodName) ({ cls := "TrialDesk$Shelf", name := "tally", desc := "(II)I" } : Jvm.MethodName)) ∈ TB := TB_3 (i := 196) rfl rfl
theorem a3_197 : (Jvm.Cond.code ({ cls := "TrialDesk$Shelf", name := "tally", desc := "(II)I" } : Jvm.MethodName) prog_5_method_4_code (5 : Nat) (Option.some Jvm.ClassFile.FieldType.int)) ∈ TB := TB_3 (i := 197) rfl rfl
theorem a3_198 : (Jvm.Cond.methodLink "TrialDeskLaw" (139 : Nat) ({ cls := "TrialDeskLaw", name := "used", desc := "(LTrialDesk;I[J)I" } : Jvm.MethodName)) ∈ TB := TB_3 (i := 198) rfl rfl
theorem a3_199 : (Jvm.Cond.static ({ cls := "TrialDeskLaw", name := "used", desc := "(LTrialDesk;I[J)I" } : Jvm.MethodName)) ∈ TB := TB_3 (i := 199) rfl rfl
theorem a3_200 : (Jvm.Cond.codeWith ({ cls := "TrialDeskLaw", name := "used", desc := "(LTrialDesk;I[J)I" } : Jvm.MethodName) method_19_code (4 : Nat) (Option.some Jvm.ClassFile.FieldType.int) [((0 : Nat), (9 : Nat), (12 : Nat), (21 : Nat))]) ∈ TB := TB_3 (i := 200) rfl rfl
theorem a3_201 : (Jvm.Cond.methodLink "TrialDeskLaw" (68 : Nat) ({ cls := "TrialDesk", name := "used", desc := "(I)I" } : Jvm.MethodName)) ∈ TB := TB_3 (i := 201) rfl rfl
theorem a3_202 : (Jvm.Cond.instanceMethod ({ cls := "TrialDesk", name := "used", desc := "(I)I" } : Jvm.MethodName)) ∈ TB := TB_3 (i := 202) rfl rfl
theorem a3_203 : (Jvm.Cond.selects "TrialDesk" ({ cls := "TrialDesk", name := "used", desc := "(I)I" } : Jvm.MethodName) ({ cls := "TrialDesk", name := "used", desc := "(I)I" } : Jvm.MethodName)) ∈ TB := TB_3 (i := 203) rfl rfl
theorem a3_204 : (Jvm.Cond.code ({ cls := "TrialDesk", name := "used", desc := "(I)I" } : Jvm.MethodName) prog_1_method_18_code (2 : Nat) (Option.some Jvm.ClassFile.FieldType.int)) ∈ TB := TB_3 (i := 204) rfl rfl
theorem a3_205 : (Jvm.Cond.methodLink "TrialDesk" (233 : Nat) ({ cls := "TrialDesk$Shelf", name := "userOf", desc := "(I)I" } : Jvm.MethodName)) ∈ TB := TB_3 (i := 205) rfl rfl
theorem a3_206 : (Jvm.Cond.instanceMethod ({ cls := "TrialDesk$Shelf", name := "userOf", desc := "(I)I" } : Jvm.MethodName)) ∈ TB := TB_3 (i := 206) rfl rfl
theorem a3_207 : (Jvm.Cond.selects "TrialDesk$Shelf" ({ cls := "TrialDesk$Shelf", name := "userOf", desc := "(I)I" } : Jvm.MethodName) ({ cls := "TrialDesk$Shelf", name := "userOf", desc := "(I)I" } : Jvm.MethodName)) ∈ TB := TB_3 (i := 207) rfl rfl
theorem a3_208 : (Jvm.Cond.code ({ cls := "TrialDesk$Shelf", name := "userOf", desc := "(I)I" } : Jvm.MethodName) prog_5_method_11_code (2 : Nat) (Option.some Jvm.ClassFile.FieldType.int)) ∈ TB := TB_3 (i := 208) rfl rfl
theorem a3_209 : (Jvm.Cond.methodLink "TrialDeskLaw" (146 : Nat) ({ cls := "TrialDeskLaw", name := "mount", desc := "(LTrialDesk;[J)I" } : Jvm.MethodName)) ∈ TB := TB_3 (i := 209) rfl rfl
theorem a3_210 : (Jvm.Cond.static ({ cls := "TrialDeskLaw", name := "mount", desc := "(LTrialDesk;[J)I" } : Jvm.MethodName)) ∈ TB := TB_3 (i := 210) rfl rfl
theorem a3_211 : (Jvm.Cond.codeWith ({ cls := "TrialDeskLaw", name := "mount", desc := "(LTrialDesk;[J)I" } : Jvm.MethodName) method_20_code (3 : Nat) (Option.some Jvm.ClassFile.FieldType.int) [((0 : Nat), (8 : Nat), (11 : Nat), (15 : Nat))]) ∈ TB := TB_3 (i := 211) rfl rfl
theorem a3_212 : (Jvm.Cond.methodLink "TrialDeskLaw" (71 : Nat) ({ cls := "TrialDesk", name := "mount", desc := "()I" } : Jvm.MethodName)) ∈ TB := TB_3 (i := 212) rfl rfl
theorem a3_213 : (Jvm.Cond.instanceMethod ({ cls := "TrialDesk", name := "mount", desc := "()I" } : Jvm.MethodName)) ∈ TB := TB_3 (i := 213) rfl rfl
theorem a3_214 : (Jvm.Cond.selects "TrialDesk" ({ cls := "TrialDesk", name := "mount", desc := "()I" } : Jvm.MethodName) ({ cls := "TrialDesk", name := "mount", desc := "()I" } : Jvm.MethodName)) ∈ TB := TB_3 (i := 214) rfl rfl
theorem a3_215 : (Jvm.Cond.code ({ cls := "TrialDesk", name := "mount", desc := "()I" } : Jvm.MethodName) prog_1_method_20_code (1 : Nat) (Option.some Jvm.ClassFile.FieldType.int)) ∈ TB := TB_3 (i := 215) rfl rfl
theorem a3_216 : (Jvm.Cond.classLink "TrialDeskLaw" (76 : Nat) "TrialDeskModel") ∈ TB := TB_3 (i := 216) rfl rfl
theorem a3_217 : (Jvm.Cond.instantiable "TrialDeskModel" (28 : Nat)) ∈ TB := TB_3 (i := 217) rfl rfl
theorem a3_218 : (Jvm.Cond.methodLink "TrialDeskLaw" (78 : Nat) ({ cls := "TrialDeskModel", name := "<init>", desc := "()V" } : Jvm.MethodName)) ∈ TB := TB_3 (i := 218) rfl rfl
theorem a3_219 : (Jvm.Cond.instanceMethod ({ cls := "TrialDeskModel", name := "<init>", desc := "()V" } : Jvm.MethodName)) ∈ TB := TB_3 (i := 219) rfl rfl
theorem a3_220 : (Jvm.Cond.code ({ cls := "TrialDeskModel", name := "<init>", desc := "()V" } : Jvm.MethodName) prog_9_method_1_code (2 : Nat) (Option.none : Option Jvm.ClassFile.FieldType)) ∈ TB := TB_3 (i := 220) rfl rfl
theorem a3_221 : (Jvm.Cond.methodLink "TrialDeskModel" (1 : Nat) ({ cls := "java/lang/Object", name := "<init>", desc := "()V" } : Jvm.MethodName)) ∈ TB := TB_3 (i := 221) rfl rfl
theorem a3_222 : (Jvm.Cond.constant "TrialDeskModel" (16 : Nat) (100800 : Int32)) ∈ TB := TB_3 (i := 222) rfl rfl
theorem a3_223 : (Jvm.Cond.fieldLink "TrialDeskModel" (70 : Nat) "TrialDeskModel" "thrown" "I") ∈ TB := TB_3 (i := 223) rfl rfl
theorem a3_224 : (Jvm.Cond.fieldLink "TrialDeskModel" (89 : Nat) "TrialDeskModel" "down" "Z") ∈ TB := TB_3 (i := 224) rfl rfl
theorem a3_225 : (Jvm.Cond.fieldLink "TrialDeskModel" (85 : Nat) "TrialDeskModel" "torn" "Z") ∈ TB := TB_3 (i := 225) rfl rfl
theorem a3_226 : (Jvm.Cond.fieldLink "TrialDeskModel" (92 : Nat) "TrialDeskModel" "records" "I") ∈ TB := TB_3 (i := 226) rfl rfl
theorem a3_227 : (Jvm.Cond.fieldLink "TrialDeskModel" (140 : Nat) "TrialDeskModel" "opened" "Z") ∈ TB := TB_3 (i := 227) rfl rfl
theorem a3_228 : (Jvm.Cond.fieldLink "TrialDeskModel" (82 : Nat) "TrialDeskModel" "arms" "I") ∈ TB := TB_3 (i := 228) rfl rfl
theorem a3_229 : (Jvm.Cond.fieldLink "TrialDeskModel" (106 : Nat) "TrialDeskModel" "size" "I") ∈ TB := TB_3 (i := 229) rfl rfl
theorem a3_230 : (Jvm.Cond.fieldLink "TrialDeskModel" (109 : Nat) "TrialDeskModel" "seed" "J") ∈ TB := TB_3 (i := 230) rfl rfl
theorem a3_231 : (Jvm.Cond.fieldLink "TrialDeskModel" (7 : Nat) "TrialDeskModel" "weights" "[I") ∈ TB := TB_3 (i := 231) rfl rfl
theorem a3_232 : (Jvm.Cond.fieldLink "TrialDeskModel" (95 : Nat) "TrialDeskModel" "taken" "I") ∈ TB := TB_3 (i := 232) rfl rfl
theorem a3_233 : (Jvm.Cond.fieldLink "TrialDeskModel" (13 : Nat) "TrialDeskModel" "blockOf" "[I") ∈ TB := TB_3 (i := 233) rfl rfl
theorem a3_234 : (Jvm.Cond.fieldLink "TrialDeskModel" (17 : Nat) "TrialDeskModel" "entries" "[B") ∈ TB := TB_3 (i := 234) rfl rfl
theorem a3_235 : (Jvm.Cond.fieldLink "TrialDeskModel" (21 : Nat) "TrialDeskModel" "many" "[I") ∈ TB := TB_3 (i := 235) rfl rfl
theorem a3_236 : (Jvm.Cond.fieldLink "TrialDeskModel" (24 : Nat) "TrialDeskModel" "words" "[J") ∈ TB := TB_3 (i := 236) rfl rfl
theorem a3_237 : (Jvm.Cond.fieldLink "TrialDeskModel" (28 : Nat) "TrialDeskModel" "openBlock" "[I") ∈ TB := TB_3 (i := 237) rfl rfl
theorem a3_238 : (Jvm.Cond.fieldLink "TrialDeskModel" (31 : Nat) "TrialDeskModel" "openNext" "[I") ∈ TB := TB_3 (i := 238) rfl rfl
theorem a3_239 : (Jvm.Cond.fieldLink "TrialDeskModel" (34 : Nat) "TrialDeskModel" "sites" "[I") ∈ TB := TB_3 (i := 239) rfl rfl
theorem a4_0 : (Jvm.Cond.fieldLink "TrialDeskModel" (37 : Nat) "TrialDeskModel" "kitSite" "[I") ∈ TB := TB_4 (i := 0) rfl rfl
theorem a4_1 : (Jvm.Cond.fieldLink "TrialDeskModel" (40 : Nat) "TrialDeskModel" "kitArm" "[I") ∈ TB := TB_4 (i := 1) rfl rfl
theorem a4_2 : (Jvm.Cond.fieldLink "TrialDeskModel" (43 : Nat) "TrialDeskModel" "kitIs" "[I") ∈ TB := TB_4 (i := 2) rfl rfl
theorem a4_3 : (Jvm.Cond.fieldLink "TrialDeskModel" (46 : Nat) "TrialDeskModel" "people" "[I") ∈ TB := TB_4 (i := 3) rfl rfl
theorem a4_4 : (Jvm.Cond.fieldLink "TrialDeskModel" (49 : Nat) "TrialDeskModel" "stratumOf" "[I") ∈ TB := TB_4 (i := 4) rfl rfl
theorem a4_5 : (Jvm.Cond.fieldLink "TrialDeskModel" (52 : Nat) "TrialDeskModel" "armOf" "[I") ∈ TB := TB_4 (i := 5) rfl rfl
theorem a4_6 : (Jvm.Cond.fieldLink "TrialDeskModel" (55 : Nat) "TrialDeskModel" "kitOf" "[I") ∈ TB := TB_4 (i := 6) rfl rfl
theorem a4_7 : (Jvm.Cond.fieldLink "TrialDeskModel" (58 : Nat) "TrialDeskModel" "keys" "[I") ∈ TB := TB_4 (i := 7) rfl rfl
theorem a4_8 : (Jvm.Cond.fieldLink "TrialDeskModel" (61 : Nat) "TrialDeskModel" "reserves" "[I") ∈ TB := TB_4 (i := 8) rfl rfl
theorem a4_9 : (Jvm.Cond.fieldLink "TrialDeskModel" (64 : Nat) "TrialDeskModel" "reserveNext" "[I") ∈ TB := TB_4 (i := 9) rfl rfl
theorem a4_10 : (Jvm.Cond.fieldLink "TrialDeskModel" (67 : Nat) "TrialDeskModel" "reserveKits" "[I") ∈ TB := TB_4 (i := 10) rfl rfl
theorem a4_11 : (Jvm.Cond.lays "TrialDeskModel" "TrialDeskModel" "thrown" "I") ∈ TB := TB_4 (i := 11) rfl rfl
theorem a4_13 : (Jvm.Cond.lays "TrialDeskModel" "TrialDeskModel" "down" "Z") ∈ TB := TB_4 (i := 13) rfl rfl
theorem a4_15 : (Jvm.Cond.lays "TrialDeskModel" "TrialDeskModel" "torn" "Z") ∈ TB := TB_4 (i := 15) rfl rfl
theorem a4_17 : (Jvm.Cond.lays "TrialDeskModel" "TrialDeskModel" "records" "I") ∈ TB := TB_4 (i := 17) rfl rfl
theorem a4_19 : (Jvm.Cond.lays "TrialDeskModel" "TrialDeskModel" "opened" "Z") ∈ TB := TB_4 (i := 19) rfl rfl
theorem a4_21 : (Jvm.Cond.lays "TrialDeskModel" "TrialDeskModel" "arms" "I") ∈ TB := TB_4 (i := 21) rfl rfl
theorem a4_23 : (Jvm.Cond.lays "TrialDeskModel" "TrialDeskModel" "size" "I") ∈ TB := TB_4 (i := 23) rfl rfl
theorem a4_25 : (Jvm.Cond.lays "TrialDeskModel" "TrialDeskModel" "seed" "J") ∈ TB := TB_4 (i := 25) rfl rfl
theorem a4_27 : (Jvm.Cond.laysFinal "TrialDeskModel" "TrialDeskModel" "weights" "[I") ∈ TB := TB_4 (i := 27) rfl rfl
theorem a4_29 : (Jvm.Cond.lays "TrialDeskModel" "TrialDeskModel" "taken" "I") ∈ TB := TB_4 (i := 29) rfl rfl
theorem a4_31 : (Jvm.Cond.laysFinal "TrialDeskModel" "TrialDeskModel" "blockOf" "[I") ∈ TB := TB_4 (i := 31) rfl rfl
theorem a4_33 : (Jvm.Cond.laysFinal "TrialDeskModel" "TrialDeskModel" "entries" "[B") ∈ TB := TB_4 (i := 33) rfl rfl
theorem a4_35 : (Jvm.Cond.laysFinal "TrialDeskModel" "TrialDeskModel" "many" "[I") ∈ TB := TB_4 (i := 35) rfl rfl
theorem a4_37 : (Jvm.Cond.laysFinal "TrialDeskModel" "TrialDeskModel" "words" "[J") ∈ TB := TB_4 (i := 37) rfl rfl
theorem a4_39 : (Jvm.Cond.laysFinal "TrialDeskModel" "TrialDeskModel" "openBlock" "[I") ∈ TB := TB_4 (i := 39) rfl rfl
theorem a4_41 : (Jvm.Cond.laysFinal "TrialDeskModel" "TrialDeskModel" "openNext" "[I") ∈ TB := TB_4 (i := 41) rfl rfl
theorem a4_43 : (Jvm.Cond.laysFinal "TrialDeskModel" "TrialDeskModel" "sites" "[I") ∈ TB := TB_4 (i := 43) rfl rfl
theorem a4_45 : (Jvm.Cond.laysFinal "TrialDeskModel" "TrialDeskModel" "kitSite" "[I") ∈ TB := TB_4 (i := 45) rfl rfl
theorem a4_47 : (Jvm.Cond.laysFinal "TrialDeskModel" "TrialDeskModel" "kitArm" "[I") ∈ TB := TB_4 (i := 47) rfl rfl
theorem a4_49 : (Jvm.Cond.laysFinal "TrialDeskModel" "TrialDeskModel" "kitIs" "[I") ∈ TB := TB_4 (i := 49) rfl rfl
theorem a4_51 : (Jvm.Cond.laysFinal "TrialDeskModel" "TrialDeskModel" "people" "[I") ∈ TB := TB_4 (i := 51) rfl rfl
theorem a4_53 : (Jvm.Cond.laysFinal "TrialDeskModel" "TrialDeskModel" "stratumOf" "[I") ∈ TB := TB_4 (i := 53) rfl rfl
theorem a4_55 : (Jvm.Cond.laysFinal "TrialDeskModel" "TrialDeskModel" "armOf" "[I") ∈ TB := TB_4 (i := 55) rfl rfl
theorem a4_57 : (Jvm.Cond.laysFinal "TrialDeskModel" "TrialDeskModel" "kitOf" "[I") ∈ TB := TB_4 (i := 57) rfl rfl
theorem a4_59 : (Jvm.Cond.laysFinal "TrialDeskModel" "TrialDeskModel" "keys" "[I") ∈ TB := TB_4 (i := 59) rfl rfl
theorem a4_61 : (Jvm.Cond.laysFinal "TrialDeskModel" "TrialDeskModel" "reserves" "[I") ∈ TB := TB_4 (i := 61) rfl rfl
theorem a4_63 : (Jvm.Cond.laysFinal "TrialDeskModel" "TrialDeskModel" "reserveNext" "[I") ∈ TB := TB_4 (i := 63) rfl rfl
theorem a4_65 : (Jvm.Cond.laysFinal "TrialDeskModel" "TrialDeskModel" "reserveKits" "[I") ∈ TB := TB_4 (i := 65) rfl rfl
theorem a4_67 : (Jvm.Cond.superclass "TrialDeskModel" "java/lang/Object") ∈ TB := TB_4 (i := 67) rfl rfl
theorem a4_68 : (Jvm.Cond.arrayClass Jvm.ClassFile.FieldType.byte) ∈ TB := TB_4 (i := 68) rfl rfl
theorem a4_69 : (Jvm.Cond.arrayClass Jvm.ClassFile.FieldType.long) ∈ TB := TB_4 (i := 69) rfl rfl
theorem a4_70 : (Jvm.Cond.methodLink "TrialDeskLaw" (87 : Nat) ({ cls := "TrialDeskModel", name := "thrown", desc := "()I" } : Jvm.MethodName)) ∈ TB := TB_4 (i := 70) rfl rfl
theorem a4_71 : (Jvm.Cond.instanceMethod ({ cls := "TrialDeskModel", name := "thrown", desc := "()I" } : Jvm.MethodName)) ∈ TB := TB_4 (i := 71) rfl rfl
theorem a4_72 : (Jvm.Cond.selects "TrialDeskModel" ({ cls := "TrialDeskModel", name := "thrown", desc := "()I" } : Jvm.MethodName) ({ cls := "TrialDeskModel", name := "thrown", desc := "()I" } : Jvm.MethodName)) ∈ TB := TB_4 (i := 72) rfl rfl
theorem a4_73 : (Jvm.Cond.code ({ cls := "TrialDeskModel", name := "thrown", desc := "()I" } : Jvm.MethodName) prog_9_method_2_code (1 : Nat) (Option.some Jvm.ClassFile.FieldType.int)) ∈ TB := TB_4 (i := 73) rfl rfl
theorem a4_74 : (Jvm.Cond.methodLink "TrialDeskLaw" (86 : Nat) ({ cls := "TrialDeskModel", name := "arms", desc := "(IIIIIJ)V" } : Jvm.MethodName)) ∈ TB := TB_4 (i := 74) rfl rfl
theorem a4_75 : (Jvm.Cond.instanceMethod ({ cls := "TrialDeskModel", name := "arms", desc := "(IIIIIJ)V" } : Jvm.MethodName)) ∈ TB := TB_4 (i := 75) rfl rfl
theorem a4_76 : (Jvm.Cond.selects "TrialDeskModel" ({ cls := "TrialDeskModel", name := "arms", desc := "(IIIIIJ)V" } : Jvm.MethodName) ({ cls := "TrialDeskModel", name := "arms", desc := "(IIIIIJ)V" } : Jvm.MethodName)) ∈ TB := TB_4 (i := 76) rfl rfl
theorem a4_77 : (Jvm.Cond.code ({ cls := "TrialDeskModel", name := "arms", desc := "(IIIIIJ)V" } : Jvm.MethodName) prog_9_method_10_code (12 : Nat) (Option.none : Option Jvm.ClassFile.FieldType)) ∈ TB := TB_4 (i := 77) rfl rfl
theorem a4_78 : (Jvm.Cond.methodLink "TrialDeskModel" (74 : Nat) ({ cls := "TrialDeskModel", name := "within", desc := "(III)Z" } : Jvm.MethodName)) ∈ TB := TB_4 (i := 78) rfl rfl
theorem a4_79 : (Jvm.Cond.static ({ cls := "TrialDeskModel", name := "within", desc := "(III)Z" } : Jvm.MethodName)) ∈ TB := TB_4 (i := 79) rfl rfl
theorem a4_80 : (Jvm.Cond.code ({ cls := "TrialDeskModel", name := "within", desc := "(III)Z" } : Jvm.MethodName) prog_9_method_4_code (3 : Nat) (Option.some Jvm.ClassFile.FieldType.boolean)) ∈ TB := TB_4 (i := 80) rfl rfl
theorem a4_81 : (Jvm.Cond.methodLink "TrialDeskModel" (98 : Nat) ({ cls := "TrialDeskModel", name := "refused", desc := "(ZZZ)Z" } : Jvm.MethodName)) ∈ TB := TB_4 (i := 81) rfl rfl
theorem a4_83 : (Jvm.Cond.instanceMethod ({ cls := "TrialDeskModel", name := "refused", desc := "(ZZZ)Z" } : Jvm.MethodName)) ∈ TB := TB_4 (i := 83) rfl rfl
theorem a4_84 : (Jvm.Cond.code ({ cls := "TrialDeskModel", name := "refused", desc := "(ZZZ)Z" } : Jvm.MethodName) prog_9_method_3_code (4 : Nat) (Option.some Jvm.ClassFile.FieldType.boolean)) ∈ TB := TB_4 (i := 84) rfl rfl
theorem a4_85 : (Jvm.Cond.methodLink "TrialDeskModel" (102 : Nat) ({ cls := "TrialDeskModel", name := "writes", desc := "()Z" } : Jvm.MethodName)) ∈ TB := TB_4 (i := 85) rfl rfl
theorem a4_87 : (Jvm.Cond.instanceMethod ({ cls := "TrialDeskModel", name := "writes", desc := "()Z" } : Jvm.MethodName)) ∈ TB := TB_4 (i := 87) rfl rfl
theorem a4_88 : (Jvm.Cond.code ({ cls := "TrialDeskModel", name := "writes", desc := "()Z" } : Jvm.MethodName) prog_9_method_9_code (1 : Nat) (Option.some Jvm.ClassFile.FieldType.boolean)) ∈ TB := TB_4 (i := 88) rfl rfl
theorem a4_89 : (Jvm.Cond.constantLong "TrialDeskModel" (113 : Nat) (-7046029254386353131 : Int64)) ∈ TB := TB_4 (i := 89) rfl rfl
theorem a4_90 : (Jvm.Cond.methodLink "TrialDeskLaw" (93 : Nat) ({ cls := "TrialDeskModel", name := "site", desc := "(I)I" } : Jvm.MethodName)) ∈ TB := TB_4 (i := 90) rfl rfl
theorem a4_91 : (Jvm.Cond.instanceMethod ({ cls := "TrialDeskModel", name := "site", desc := "(I)I" } : Jvm.MethodName)) ∈ TB := TB_4 (i := 91) rfl rfl
theorem a4_92 : (Jvm.Cond.selects "TrialDeskModel" ({ cls := "TrialDeskModel", name := "site", desc := "(I)I" } : Jvm.MethodName) ({ cls := "TrialDeskModel", name := "site", desc := "(I)I" } : Jvm.MethodName)) ∈ TB := TB_4 (i := 92) rfl rfl
theorem a4_93 : (Jvm.Cond.code ({ cls := "TrialDeskModel", name := "site", desc := "(I)I" } : Jvm.MethodName) prog_9_method_14_code (5 : Nat) (Option.some Jvm.ClassFile.FieldType.int)) ∈ TB := TB_4 (i := 93) rfl rfl
theorem a4_94 : (Jvm.Cond.methodLink "TrialDeskLaw" (97 : Nat) ({ cls := "TrialDeskModel", name := "kits", desc := "(IIII)I" } : Jvm.MethodName)) ∈ TB := TB_4 (i := 94) rfl rfl
theorem a4_95 : (Jvm.Cond.instanceMethod ({ cls := "TrialDeskModel", name := "kits", desc := "(IIII)I" } : Jvm.MethodName)) ∈ TB := TB_4 (i := 95) rfl rfl
theorem a4_96 : (Jvm.Cond.selects "TrialDeskModel" ({ cls := "TrialDeskModel", name := "kits", desc := "(IIII)I" } : Jvm.MethodName) ({ cls := "TrialDeskModel", name := "kits", desc := "(IIII)I" } : Jvm.MethodName)) ∈ TB := TB_4 (i := 96) rfl rfl
theorem a4_97 : (Jvm.Cond.code ({ cls := "TrialDeskModel", name := "kits", desc := "(IIII)I" } : Jvm.MethodName) prog_9_method_17_code (7 : Nat) (Option.some Jvm.ClassFile.FieldType.int)) ∈ TB := TB_4 (i := 97) rfl rfl
theorem a4_98 : (Jvm.Cond.methodLink "TrialDeskModel" (78 : Nat) ({ cls := "TrialDeskModel", name := "isSite", desc := "(I)Z" } : Jvm.MethodName)) ∈ TB := TB_4 (i := 98) rfl rfl
theorem a4_100 : (Jvm.Cond.instanceMethod ({ cls := "TrialDeskModel", name := "isSite", desc := "(I)Z" } : Jvm.MethodName)) ∈ TB := TB_4 (i := 100) rfl rfl
theorem a4_101 : (Jvm.Cond.code ({ cls := "TrialDeskModel", name := "isSite", desc := "(I)Z" } : Jvm.MethodName) prog_9_method_5_code (2 : Nat) (Option.some Jvm.ClassFile.FieldType.boolean)) ∈ TB := TB_4 (i := 101) rfl rfl
theorem a4_102 : (Jvm.Cond.methodLink "TrialDeskModel" (125 : Nat) ({ cls := "TrialDeskModel", name := "isArm", desc := "(I)Z" } : Jvm.MethodName)) ∈ TB := TB_4 (i := 102) rfl rfl
theorem a4_104 : (Jvm.Cond.instanceMethod ({ cls := "TrialDeskModel", name := "isArm", desc := "(I)Z" } : Jvm.MethodName)) ∈ TB := TB_4 (i := 104) rfl rfl
theorem a4_105 : (Jvm.Cond.code ({ cls := "TrialDeskModel", name := "isArm", desc := "(I)Z" } : Jvm.MethodName) prog_9_method_8_code (2 : Nat) (Option.some Jvm.ClassFile.FieldType.boolean)) ∈ TB := TB_4 (i := 105) rfl rfl
theorem a4_106 : (Jvm.Cond.constantLong "TrialDeskModel" (128 : Nat) (999 : Int64)) ∈ TB := TB_4 (i := 106) rfl rfl
theorem a4_107 : (Jvm.Cond.methodLink "TrialDeskModel" (130 : Nat) ({ cls := "TrialDeskModel", name := "free", desc := "(II)I" } : Jvm.MethodName)) ∈ TB := TB_4 (i := 107) rfl rfl
theorem a4_109 : (Jvm.Cond.instanceMethod ({ cls := "TrialDeskModel", name := "free", desc := "(II)I" } : Jvm.MethodName)) ∈ TB := TB_4 (i := 109) rfl rfl
theorem a4_110 : (Jvm.Cond.code ({ cls := "TrialDeskModel", name := "free", desc := "(II)I" } : Jvm.MethodName) prog_9_method_15_code (5 : Nat) (Option.some Jvm.ClassFile.FieldType.int)) ∈ TB := TB_4 (i := 110) rfl rfl
theorem a4_111 : (Jvm.Cond.methodLink "TrialDeskLaw" (101 : Nat) ({ cls := "TrialDeskModel", name := "allot", desc := "(III)I" } : Jvm.MethodName)) ∈ TB := TB_4 (i := 111) rfl rfl
theorem a4_112 : (Jvm.Cond.instanceMethod ({ cls := "TrialDeskModel", name := "allot", desc := "(III)I" } : Jvm.MethodName)) ∈ TB := TB_4 (i := 112) rfl rfl
theorem a4_113 : (Jvm.Cond.selects "TrialDeskModel" ({ cls := "TrialDeskModel", name := "allot", desc := "(III)I" } : Jvm.MethodName) ({ cls := "TrialDeskModel", name := "allot", desc := "(III)I" } : Jvm.MethodName)) ∈ TB := TB_4 (i := 113) rfl rfl
theorem a4_114 : (Jvm.Cond.code ({ cls := "TrialDeskModel", name := "allot", desc := "(III)I" } : Jvm.MethodName) prog_9_method_19_code (6 : Nat) (Option.some Jvm.ClassFile.FieldType.int)) ∈ TB := TB_4 (i := 114) rfl rfl
theorem a4_115 : (Jvm.Cond.methodLink "TrialDeskModel" (133 : Nat) ({ cls := "TrialDeskModel", name := "isPerson", desc := "(II)Z" } : Jvm.MethodName)) ∈ TB := TB_4 (i := 115) rfl rfl
theorem a4_117 : (Jvm.Cond.instanceMethod ({ cls := "TrialDeskModel", name := "isPerson", desc := "(II)Z" } : Jvm.MethodName)) ∈ TB := TB_4 (i := 117) rfl rfl
theorem a4_118 : (Jvm.Cond.code ({ cls := "TrialDeskModel", name := "isPerson", desc := "(II)Z" } : Jvm.MethodName) prog_9_method_7_code (3 : Nat) (Option.some Jvm.ClassFile.FieldType.boolean)) ∈ TB := TB_4 (i := 118) rfl rfl
theorem a4_119 : (Jvm.Cond.methodLink "TrialDeskModel" (137 : Nat) ({ cls := "TrialDeskModel", name := "isStratum", desc := "(I)Z" } : Jvm.MethodName)) ∈ TB := TB_4 (i := 119) rfl rfl
theorem a4_120 : (Jvm.Cond.static ({ cls := "TrialDeskModel", name := "isStratum", desc := "(I)Z" } : Jvm.MethodName)) ∈ TB := TB_4 (i := 120) rfl rfl
theorem a4_121 : (Jvm.Cond.code ({ cls := "TrialDeskModel", name := "isStratum", desc := "(I)Z" } : Jvm.MethodName) prog_9_method_6_code (1 : Nat) (Option.some Jvm.ClassFile.FieldType.boolean)) ∈ TB := TB_4 (i := 121) rfl rfl
theorem a4_122 : (Jvm.Cond.methodLink "TrialDeskModel" (143 : Nat) ({ cls := "TrialDeskModel", name := "nextArm", desc := "(I)I" } : Jvm.MethodName)) ∈ TB := TB_4 (i := 122) rfl rfl
theorem a4_124 : (Jvm.Cond.instanceMethod ({ cls := "TrialDeskModel", name := "nextArm", desc := "(I)I" } : Jvm.MethodName)) ∈ TB := TB_4 (i := 124) rfl rfl
theorem a4_125 : (Jvm.Cond.code ({ cls := "TrialDeskModel", name := "nextArm", desc := "(I)I" } : Jvm.MethodName) prog_9_method_13_code (6 : Nat) (Option.some Jvm.ClassFile.FieldType.int)) ∈ TB := TB_4 (i := 125) rfl rfl
theorem a4_126 : (Jvm.Cond.methodLink "TrialDeskModel" (121 : Nat) ({ cls := "TrialDeskModel", name := "takeBlock", desc := "(I)I" } : Jvm.MethodName)) ∈ TB := TB_4 (i := 126) rfl rfl
theorem a4_128 : (Jvm.Cond.instanceMethod ({ cls := "TrialDeskModel", name := "takeBlock", desc := "(I)I" } : Jvm.MethodName)) ∈ TB := TB_4 (i := 128) rfl rfl
theorem a4_129 : (Jvm.Cond.code ({ cls := "TrialDeskModel", name := "takeBlock", desc := "(I)I" } : Jvm.MethodName) prog_9_method_12_code (8 : Nat) (Option.some Jvm.ClassFile.FieldType.int)) ∈ TB := TB_4 (i := 129) rfl rfl
theorem a4_130 : (Jvm.Cond.methodLink "TrialDeskModel" (117 : Nat) ({ cls := "TrialDeskModel", name := "draw", desc := "(II)I" } : Jvm.MethodName)) ∈ TB := TB_4 (i := 130) rfl rfl
theorem a4_132 : (Jvm.Cond.instanceMethod ({ cls := "TrialDeskModel", name := "draw", desc := "(II)I" } : Jvm.MethodName)) ∈ TB := TB_4 (i := 132) rfl rfl
theorem a4_133 : (Jvm.Cond.code ({ cls := "TrialDeskModel", name := "draw", desc := "(II)I" } : Jvm.MethodName) prog_9_method_11_code (9 : Nat) (Option.some Jvm.ClassFile.FieldType.int)) ∈ TB := TB_4 (i := 133) rfl rfl
theorem a4_134 : (Jvm.Cond.constantLong "TrialDeskModel" (115 : Nat) (2147483648 : Int64)) ∈ TB := TB_4 (i := 134) rfl rfl
theorem a4_135 : (Jvm.Cond.methodLink "TrialDeskModel" (146 : Nat) ({ cls := "TrialDeskModel", name := "leastFree", desc := "(II)I" } : Jvm.MethodName)) ∈ TB := TB_4 (i := 135) rfl rfl
theorem a4_137 : (Jvm.Cond.instanceMethod ({ cls := "TrialDeskModel", name := "leastFree", desc := "(II)I" } : Jvm.MethodName)) ∈ TB := TB_4 (i := 137) rfl rfl
theorem a4_138 : (Jvm.Cond.code ({ cls := "TrialDeskModel", name := "leastFree", desc := "(II)I" } : Jvm.MethodName) prog_9_method_16_code (4 : Nat) (Option.some Jvm.ClassFile.FieldType.int)) ∈ TB := TB_4 (i := 138) rfl rfl
theorem a4_139 : (Jvm.Cond.methodLink "TrialDeskModel" (149 : Nat) ({ cls := "TrialDeskModel", name := "give", desc := "(IIIIIZ)V" } : Jvm.MethodName)) ∈ TB := TB_4 (i := 139) rfl rfl
theorem a4_141 : (Jvm.Cond.instanceMethod ({ cls := "TrialDeskModel", name := "give", desc := "(IIIIIZ)V" } : Jvm.MethodName)) ∈ TB := TB_4 (i := 141) rfl rfl
theorem a4_142 : (Jvm.Cond.code ({ cls := "TrialDeskModel", name := "give", desc := "(IIIIIZ)V" } : Jvm.MethodName) prog_9_method_18_code (8 : Nat) (Option.none : Option Jvm.ClassFile.FieldType)) ∈ TB := TB_4 (i := 142) rfl rfl
theorem a4_143 : (Jvm.Cond.methodLink "TrialDeskLaw" (105 : Nat) ({ cls := "TrialDeskModel", name := "reserve", desc := "(II)I" } : Jvm.MethodName)) ∈ TB := TB_4 (i := 143) rfl rfl
theorem a4_144 : (Jvm.Cond.instanceMethod ({ cls := "TrialDeskModel", name := "reserve", desc := "(II)I" } : Jvm.MethodName)) ∈ TB := TB_4 (i := 144) rfl rfl
theorem a4_145 : (Jvm.Cond.selects "TrialDeskModel" ({ cls := "TrialDeskModel", name := "reserve", desc := "(II)I" } : Jvm.MethodName) ({ cls := "TrialDeskModel", name := "reserve", desc := "(II)I" } : Jvm.MethodName)) ∈ TB := TB_4 (i := 145) rfl rfl
theorem a4_146 : (Jvm.Cond.code ({ cls := "TrialDeskModel", name := "reserve", desc := "(II)I" } : Jvm.MethodName) prog_9_method_20_code (7 : Nat) (Option.some Jvm.ClassFile.FieldType.int)) ∈ TB := TB_4 (i := 146) rfl rfl
theorem a4_147 : (Jvm.Cond.methodLink "TrialDeskLaw" (108 : Nat) ({ cls := "TrialDeskModel", name := "offline", desc := "(III)I" } : Jvm.MethodName)) ∈ TB := TB_4 (i := 147) rfl rfl
theorem a4_148 : (Jvm.Cond.instanceMethod ({ cls := "TrialDeskModel", name := "offline", desc := "(III)I" } : Jvm.MethodName)) ∈ TB := TB_4 (i := 148) rfl rfl
theorem a4_149 : (Jvm.Cond.selects "TrialDeskModel" ({ cls := "TrialDeskModel", name := "offline", desc := "(III)I" } : Jvm.MethodName) ({ cls := "TrialDeskModel", name := "offline", desc := "(III)I" } : Jvm.MethodName)) ∈ TB := TB_4 (i := 149) rfl rfl
theorem a4_150 : (Jvm.Cond.code ({ cls := "TrialDeskModel", name := "offline", desc := "(III)I" } : Jvm.MethodName) prog_9_method_21_code (6 : Nat) (Option.some Jvm.ClassFile.FieldType.int)) ∈ TB := TB_4 (i := 150) rfl rfl
theorem a4_151 : (Jvm.Cond.methodLink "TrialDeskLaw" (111 : Nat) ({ cls := "TrialDeskModel", name := "report", desc := "(I)I" } : Jvm.MethodName)) ∈ TB := TB_4 (i := 151) rfl rfl
theorem a4_152 : (Jvm.Cond.instanceMethod ({ cls := "TrialDeskModel", name := "report", desc := "(I)I" } : Jvm.MethodName)) ∈ TB := TB_4 (i := 152) rfl rfl
theorem a4_153 : (Jvm.Cond.selects "TrialDeskModel" ({ cls := "TrialDeskModel", name := "report", desc := "(I)I" } : Jvm.MethodName) ({ cls := "TrialDeskModel", name := "report", desc := "(I)I" } : Jvm.MethodName)) ∈ TB := TB_4 (i := 153) rfl rfl
theorem a4_154 : (Jvm.Cond.code ({ cls := "TrialDeskModel", name := "report", desc := "(I)I" } : Jvm.MethodName) prog_9_method_23_code (5 : Nat) (Option.some Jvm.ClassFile.FieldType.int)) ∈ TB := TB_4 (i := 154) rfl rfl
theorem a4_155 : (Jvm.Cond.methodLink "TrialDeskLaw" (114 : Nat) ({ cls := "TrialDeskModel", name := "close", desc := "(I)I" } : Jvm.MethodName)) ∈ TB := TB_4 (i := 155) rfl rfl
theorem a4_156 : (Jvm.Cond.instanceMethod ({ cls := "TrialDeskModel", name := "close", desc := "(I)I" } : Jvm.MethodName)) ∈ TB := TB_4 (i := 156) rfl rfl
theorem a4_157 : (Jvm.Cond.selects "TrialDeskModel" ({ cls := "TrialDeskModel", name := "close", desc := "(I)I" } : Jvm.MethodName) ({ cls := "TrialDeskModel", name := "close", desc := "(I)I" } : Jvm.MethodName)) ∈ TB := TB_4 (i := 157) rfl rfl
theorem a4_158 : (Jvm.Cond.code ({ cls := "TrialDeskModel", name := "close", desc := "(I)I" } : Jvm.MethodName) prog_9_method_24_code (4 : Nat) (Option.some Jvm.ClassFile.FieldType.int)) ∈ TB := TB_4 (i := 158) rfl rfl
theorem a4_159 : (Jvm.Cond.methodLink "TrialDeskLaw" (117 : Nat) ({ cls := "TrialDeskModel", name := "key", desc := "(III)I" } : Jvm.MethodName)) ∈ TB := TB_4 (i := 159) rfl rfl
theorem a4_160 : (Jvm.Cond.instanceMethod ({ cls := "TrialDeskModel", name := "key", desc := "(III)I" } : Jvm.MethodName)) ∈ TB := TB_4 (i := 160) rfl rfl
theorem a4_161 : (Jvm.Cond.selects "TrialDeskModel" ({ cls := "TrialDeskModel", name := "key", desc := "(III)I" } : Jvm.MethodName) ({ cls := "TrialDeskModel", name := "key", desc := "(III)I" } : Jvm.MethodName)) ∈ TB := TB_4 (i := 161) rfl rfl
theorem a4_162 : (Jvm.Cond.code ({ cls := "TrialDeskModel", name := "key", desc := "(III)I" } : Jvm.MethodName) prog_9_method_27_code (5 : Nat) (Option.some Jvm.ClassFile.FieldType.int)) ∈ TB := TB_4 (i := 162) rfl rfl
theorem a4_163 : (Jvm.Cond.methodLink "TrialDeskModel" (153 : Nat) ({ cls := "TrialDeskModel", name := "isHolder", desc := "(I)Z" } : Jvm.MethodName)) ∈ TB := TB_4 (i := 163) rfl rfl
theorem a4_164 : (Jvm.Cond.static ({ cls := "TrialDeskModel", name := "isHolder", desc := "(I)Z" } : Jvm.MethodName)) ∈ TB := TB_4 (i := 164) rfl rfl
theorem a4_165 : (Jvm.Cond.code ({ cls := "TrialDeskModel", name := "isHolder", desc := "(I)Z" } : Jvm.MethodName) prog_9_method_25_code (1 : Nat) (Option.some Jvm.ClassFile.FieldType.boolean)) ∈ TB := TB_4 (i := 165) rfl rfl
theorem a4_166 : (Jvm.Cond.methodLink "TrialDeskModel" (156 : Nat) ({ cls := "TrialDeskModel", name := "keysOf", desc := "(I)I" } : Jvm.MethodName)) ∈ TB := TB_4 (i := 166) rfl rfl
theorem a4_168 : (Jvm.Cond.instanceMethod ({ cls := "TrialDeskModel", name := "keysOf", desc := "(I)I" } : Jvm.MethodName)) ∈ TB := TB_4 (i := 168) rfl rfl
theorem a4_169 : (Jvm.Cond.code ({ cls := "TrialDeskModel", name := "keysOf", desc := "(I)I" } : Jvm.MethodName) prog_9_method_26_code (4 : Nat) (Option.some Jvm.ClassFile.FieldType.int)) ∈ TB := TB_4 (i := 169) rfl rfl
theorem a4_170 : (Jvm.Cond.methodLink "TrialDeskLaw" (120 : Nat) ({ cls := "TrialDeskModel", name := "arm", desc := "(II)I" } : Jvm.MethodName)) ∈ TB := TB_4 (i := 170) rfl rfl
theorem a4_171 : (Jvm.Cond.instanceMethod ({ cls := "TrialDeskModel", name := "arm", desc := "(II)I" } : Jvm.MethodName)) ∈ TB := TB_4 (i := 171) rfl rfl
theorem a4_172 : (Jvm.Cond.selects "TrialDeskModel" ({ cls := "TrialDeskModel", name := "arm", desc := "(II)I" } : Jvm.MethodName) ({ cls := "TrialDeskModel", name := "arm", desc := "(II)I" } : Jvm.MethodName)) ∈ TB := TB_4 (i := 172) rfl rfl
theorem a4_173 : (Jvm.Cond.code ({ cls := "TrialDeskModel", name := "arm", desc := "(II)I" } : Jvm.MethodName) prog_9_method_28_code (4 : Nat) (Option.some Jvm.ClassFile.FieldType.int)) ∈ TB := TB_4 (i := 173) rfl rfl
theorem a4_174 : (Jvm.Cond.methodLink "TrialDeskLaw" (123 : Nat) ({ cls := "TrialDeskModel", name := "open", desc := "(II)I" } : Jvm.MethodName)) ∈ TB := TB_4 (i := 174) rfl rfl
theorem a4_175 : (Jvm.Cond.instanceMethod ({ cls := "TrialDeskModel", name := "open", desc := "(II)I" } : Jvm.MethodName)) ∈ TB := TB_4 (i := 175) rfl rfl
theorem a4_176 : (Jvm.Cond.selects "TrialDeskModel" ({ cls := "TrialDeskModel", name := "open", desc := "(II)I" } : Jvm.MethodName) ({ cls := "TrialDeskModel", name := "open", desc := "(II)I" } : Jvm.MethodName)) ∈ TB := TB_4 (i := 176) rfl rfl
theorem a4_177 : (Jvm.Cond.code ({ cls := "TrialDeskModel", name := "open", desc := "(II)I" } : Jvm.MethodName) prog_9_method_29_code (3 : Nat) (Option.some Jvm.ClassFile.FieldType.int)) ∈ TB := TB_4 (i := 177) rfl rfl
theorem a4_178 : (Jvm.Cond.methodLink "TrialDeskLaw" (126 : Nat) ({ cls := "TrialDeskModel", name := "count", desc := "(II)I" } : Jvm.MethodName)) ∈ TB := TB_4 (i := 178) rfl rfl
theorem a4_179 : (Jvm.Cond.instanceMethod ({ cls := "TrialDeskModel", name := "count", desc := "(II)I" } : Jvm.MethodName)) ∈ TB := TB_4 (i := 179) rfl rfl
theorem a4_180 : (Jvm.Cond.selects "TrialDeskModel" ({ cls := "TrialDeskModel", name := "count", desc := "(II)I" } : Jvm.MethodName) ({ cls := "TrialDeskModel", name := "count", desc := "(II)I" } : Jvm.MethodName)) ∈ TB := TB_4 (i := 180) rfl rfl
theorem a4_181 : (Jvm.Cond.code ({ cls := "TrialDeskModel", name := "count", desc := "(II)I" } : Jvm.MethodName) prog_9_method_31_code (3 : Nat) (Option.some Jvm.ClassFile.FieldType.int)) ∈ TB := TB_4 (i := 181) rfl rfl
theorem a4_182 : (Jvm.Cond.methodLink "TrialDeskModel" (159 : Nat) ({ cls := "TrialDeskModel", name := "known", desc := "(II)I" } : Jvm.MethodName)) ∈ TB := TB_4 (i := 182) rfl rfl
theorem a4_184 : (Jvm.Cond.instanceMethod ({ cls := "TrialDeskModel", name := "known", desc := "(II)I" } : Jvm.MethodName)) ∈ TB := TB_4 (i := 184) rfl rfl
theorem a4_185 : (Jvm.Cond.code ({ cls := "TrialDeskModel", name := "known", desc := "(II)I" } : Jvm.MethodName) prog_9_method_30_code (5 : Nat) (Option.some Jvm.ClassFile.FieldType.int)) ∈ TB := TB_4 (i := 185) rfl rfl
theorem a4_186 : (Jvm.Cond.methodLink "TrialDeskLaw" (129 : Nat) ({ cls := "TrialDeskModel", name := "spread", desc := "(I)I" } : Jvm.MethodName)) ∈ TB := TB_4 (i := 186) rfl rfl
theorem a4_187 : (Jvm.Cond.instanceMethod ({ cls := "TrialDeskModel", name := "spread", desc := "(I)I" } : Jvm.MethodName)) ∈ TB := TB_4 (i := 187) rfl rfl
theorem a4_188 : (Jvm.Cond.selects "TrialDeskModel" ({ cls := "TrialDeskModel", name := "spread", desc := "(I)I" } : Jvm.MethodName) ({ cls := "TrialDeskModel", name := "spread", desc := "(I)I" } : Jvm.MethodName)) ∈ TB := TB_4 (i := 188) rfl rfl
theorem a4_189 : (Jvm.Cond.code ({ cls := "TrialDeskModel", name := "spread", desc := "(I)I" } : Jvm.MethodName) prog_9_method_32_code (6 : Nat) (Option.some Jvm.ClassFile.FieldType.int)) ∈ TB := TB_4 (i := 189) rfl rfl
theorem a4_190 : (Jvm.Cond.methodLink "TrialDeskLaw" (132 : Nat) ({ cls := "TrialDeskModel", name := "entry", desc := "(II)I" } : Jvm.MethodName)) ∈ TB := TB_4 (i := 190) rfl rfl
theorem a4_191 : (Jvm.Cond.instanceMethod ({ cls := "TrialDeskModel", name := "entry", desc := "(II)I" } : Jvm.MethodName)) ∈ TB := TB_4 (i := 191) rfl rfl
theorem a4_192 : (Jvm.Cond.selects "TrialDeskModel" ({ cls := "TrialDeskModel", name := "entry", desc := "(II)I" } : Jvm.MethodName) ({ cls := "TrialDeskModel", name := "entry", desc := "(II)I" } : Jvm.MethodName)) ∈ TB := TB_4 (i := 192) rfl rfl
theorem a4_193 : (Jvm.Cond.code ({ cls := "TrialDeskModel", name := "entry", desc := "(II)I" } : Jvm.MethodName) prog_9_method_33_code (5 : Nat) (Option.some Jvm.ClassFile.FieldType.int)) ∈ TB := TB_4 (i := 193) rfl rfl
theorem a4_194 : (Jvm.Cond.methodLink "TrialDeskLaw" (135 : Nat) ({ cls := "TrialDeskModel", name := "blocks", desc := "(I)I" } : Jvm.MethodName)) ∈ TB := TB_4 (i := 194) rfl rfl
theorem a4_195 : (Jvm.Cond.instanceMethod ({ cls := "TrialDeskModel", name := "blocks", desc := "(I)I" } : Jvm.MethodName)) ∈ TB := TB_4 (i := 195) rfl rfl
theorem a4_196 : (Jvm.Cond.selects "TrialDeskModel" ({ cls := "TrialDeskModel", name := "blocks", desc := "(I)I" } : Jvm.MethodName) ({ cls := "TrialDeskModel", name := "blocks", desc := "(I)I" } : Jvm.MethodName)) ∈ TB := TB_4 (i := 196) rfl rfl
theorem a4_197 : (Jvm.Cond.code ({ cls := "TrialDeskModel", name := "blocks", desc := "(I)I" } : Jvm.MethodName) prog_9_method_34_code (2 : Nat) (Option.some Jvm.ClassFile.FieldType.int)) ∈ TB := TB_4 (i := 197) rfl rfl
theorem a4_198 : (Jvm.Cond.methodLink "TrialDeskLaw" (138 : Nat) ({ cls := "TrialDeskModel", name := "stock", desc := "(II)I" } : Jvm.MethodName)) ∈ TB := TB_4 (i := 198) rfl rfl
theorem a4_199 : (Jvm.Cond.instanceMethod ({ cls := "TrialDeskModel", name := "stock", desc := "(II)I" } : Jvm.MethodName)) ∈ TB := TB_4 (i := 199) rfl rfl
theorem a4_200 : (Jvm.Cond.selects "TrialDeskModel" ({ cls := "TrialDeskModel", name := "stock", desc := "(II)I" } : Jvm.MethodName) ({ cls := "TrialDeskModel", name := "stock", desc := "(II)I" } : Jvm.MethodName)) ∈ TB := TB_4 (i := 200) rfl rfl
theorem a4_201 : (Jvm.Cond.code ({ cls := "TrialDeskModel", name := "stock", desc := "(II)I" } : Jvm.MethodName) prog_9_method_35_code (5 : Nat) (Option.some Jvm.ClassFile.FieldType.int)) ∈ TB := TB_4 (i := 201) rfl rfl
theorem a4_202 : (Jvm.Cond.methodLink "TrialDeskLaw" (141 : Nat) ({ cls := "TrialDeskModel", name := "used", desc := "(I)I" } : Jvm.MethodName)) ∈ TB := TB_4 (i := 202) rfl rfl
theorem a4_203 : (Jvm.Cond.instanceMethod ({ cls := "TrialDeskModel", name := "used", desc := "(I)I" } : Jvm.MethodName)) ∈ TB := TB_4 (i := 203) rfl rfl
theorem a4_204 : (Jvm.Cond.selects "TrialDeskModel" ({ cls := "TrialDeskModel", name := "used", desc := "(I)I" } : Jvm.MethodName) ({ cls := "TrialDeskModel", name := "used", desc := "(I)I" } : Jvm.MethodName)) ∈ TB := TB_4 (i := 204) rfl rfl
theorem a4_205 : (Jvm.Cond.code ({ cls := "TrialDeskModel", name := "used", desc := "(I)I" } : Jvm.MethodName) prog_9_method_36_code (3 : Nat) (Option.some Jvm.ClassFile.FieldType.int)) ∈ TB := TB_4 (i := 205) rfl rfl
theorem a4_206 : (Jvm.Cond.methodLink "TrialDeskLaw" (145 : Nat) ({ cls := "TrialDeskModel", name := "tear", desc := "()V" } : Jvm.MethodName)) ∈ TB := TB_4 (i := 206) rfl rfl
theorem a4_207 : (Jvm.Cond.instanceMethod ({ cls := "TrialDeskModel", name := "tear", desc := "()V" } : Jvm.MethodName)) ∈ TB := TB_4 (i := 207) rfl rfl
theorem a4_208 : (Jvm.Cond.selects "TrialDeskModel" ({ cls := "TrialDeskModel", name := "tear", desc := "()V" } : Jvm.MethodName) ({ cls := "TrialDeskModel", name := "tear", desc := "()V" } : Jvm.MethodName)) ∈ TB := TB_4 (i := 208) rfl rfl
theorem a4_209 : (Jvm.Cond.code ({ cls := "TrialDeskModel", name := "tear", desc := "()V" } : Jvm.MethodName) prog_9_method_37_code (1 : Nat) (Option.none : Option Jvm.ClassFile.FieldType)) ∈ TB := TB_4 (i := 209) rfl rfl
theorem a4_210 : (Jvm.Cond.methodLink "TrialDeskLaw" (149 : Nat) ({ cls := "TrialDeskModel", name := "mount", desc := "()I" } : Jvm.MethodName)) ∈ TB := TB_4 (i := 210) rfl rfl
theorem a4_211 : (Jvm.Cond.instanceMethod ({ cls := "TrialDeskModel", name := "mount", desc := "()I" } : Jvm.MethodName)) ∈ TB := TB_4 (i := 211) rfl rfl
theorem a4_212 : (Jvm.Cond.selects "TrialDeskModel" ({ cls := "TrialDeskModel", name := "mount", desc := "()I" } : Jvm.MethodName) ({ cls := "TrialDeskModel", name := "mount", desc := "()I" } : Jvm.MethodName)) ∈ TB := TB_4 (i := 212) rfl rfl
theorem a4_213 : (Jvm.Cond.code ({ cls := "TrialDeskModel", name := "mount", desc := "()I" } : Jvm.MethodName) prog_9_method_38_code (1 : Nat) (Option.some Jvm.ClassFile.FieldType.int)) ∈ TB := TB_4 (i := 213) rfl rfl
theorem a4_214 : (Jvm.Cond.constantLong "TrialDeskLaw" (79 : Nat) (4294967295 : Int64)) ∈ TB := TB_4 (i := 214) rfl rfl
theorem a4_215 : (Jvm.Cond.sameMethod "java/lang/Throwable" "java/lang/Throwable" "fillInStackTrace" "(I)Ljava/lang/Throwable;") ∈ TB := TB_4 (i := 215) rfl rfl
