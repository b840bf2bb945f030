theorem d_Mo_init_0 : decode b_Mo_init 0 = .ok (.aload_n 0, 1) := by decide +kernel
theorem d_Mo_init_1 : decode b_Mo_init 1 = .ok (.invokespecial 1, 3) := by decide +kernel
theorem d_Mo_init_4 : decode b_Mo_init 4 = .ok (.aload_n 0, 1) := by decide +kernel
theorem d_Mo_init_5 : decode b_Mo_init 5 = .ok (.iconst 4, 1) := by decide +kernel
theorem d_Mo_init_6 : decode b_Mo_init 6 = .ok (.newarray .int, 2) := by decide +kernel
theorem d_Mo_init_8 : decode b_Mo_init 8 = .ok (.putfield 7, 3) := by decide +kernel
theorem d_Mo_init_11 : decode b_Mo_init 11 = .ok (.aload_n 0, 1) := by decide +kernel
theorem d_Mo_init_12 : decode b_Mo_init 12 = .ok (.sipush 4200, 3) := by decide +kernel
theorem d_Mo_init_15 : decode b_Mo_init 15 = .ok (.newarray .int, 2) := by decide +kernel
theorem d_Mo_init_17 : decode b_Mo_init 17 = .ok (.putfield 13, 3) := by decide +kernel
theorem d_Mo_init_20 : decode b_Mo_init 20 = .ok (.aload_n 0, 1) := by decide +kernel
theorem d_Mo_init_21 : decode b_Mo_init 21 = .ok (.ldc 16, 2) := by decide +kernel
theorem d_Mo_init_23 : decode b_Mo_init 23 = .ok (.newarray .byte, 2) := by decide +kernel
theorem d_Mo_init_25 : decode b_Mo_init 25 = .ok (.putfield 17, 3) := by decide +kernel
theorem d_Mo_init_28 : decode b_Mo_init 28 = .ok (.aload_n 0, 1) := by decide +kernel
theorem d_Mo_init_29 : decode b_Mo_init 29 = .ok (.bipush 8, 2) := by decide +kernel
theorem d_Mo_init_31 : decode b_Mo_init 31 = .ok (.newarray .int, 2) := by decide +kernel
theorem d_Mo_init_33 : decode b_Mo_init 33 = .ok (.putfield 21, 3) := by decide +kernel
theorem d_Mo_init_36 : decode b_Mo_init 36 = .ok (.aload_n 0, 1) := by decide +kernel
theorem d_Mo_init_37 : decode b_Mo_init 37 = .ok (.bipush 8, 2) := by decide +kernel
theorem d_Mo_init_39 : decode b_Mo_init 39 = .ok (.newarray .long, 2) := by decide +kernel
theorem d_Mo_init_41 : decode b_Mo_init 41 = .ok (.putfield 24, 3) := by decide +kernel
theorem d_Mo_init_44 : decode b_Mo_init 44 = .ok (.aload_n 0, 1) := by decide +kernel
theorem d_Mo_init_45 : decode b_Mo_init 45 = .ok (.bipush 8, 2) := by decide +kernel
theorem d_Mo_init_47 : decode b_Mo_init 47 = .ok (.newarray .int, 2) := by decide +kernel
theorem d_Mo_init_49 : decode b_Mo_init 49 = .ok (.putfield 28, 3) := by decide +kernel
theorem d_Mo_init_52 : decode b_Mo_init 52 = .ok (.aload_n 0, 1) := by decide +kernel
theorem d_Mo_init_53 : decode b_Mo_init 53 = .ok (.bipush 8, 2) := by decide +kernel
theorem d_Mo_init_55 : decode b_Mo_init 55 = .ok (.newarray .int, 2) := by decide +kernel
theorem d_Mo_init_57 : decode b_Mo_init 57 = .ok (.putfield 31, 3) := by decide +kernel
theorem d_Mo_init_60 : decode b_Mo_init 60 = .ok (.aload_n 0, 1) := by decide +kernel
theorem d_Mo_init_61 : decode b_Mo_init 61 = .ok (.bipush 10, 2) := by decide +kernel
theorem d_Mo_init_63 : decode b_Mo_init 63 = .ok (.newarray .int, 2) := by decide +kernel
theorem d_Mo_init_65 : decode b_Mo_init 65 = .ok (.putfield 34, 3) := by decide +kernel
theorem d_Mo_init_68 : decode b_Mo_init 68 = .ok (.aload_n 0, 1) := by decide +kernel
theorem d_Mo_init_69 : decode b_Mo_init 69 = .ok (.sipush 1000, 3) := by decide +kernel
theorem d_Mo_init_72 : decode b_Mo_init 72 = .ok (.newarray .int, 2) := by decide +kernel
theorem d_Mo_init_74 : decode b_Mo_init 74 = .ok (.putfield 37, 3) := by decide +kernel
theorem d_Mo_init_77 : decode b_Mo_init 77 = .ok (.aload_n 0, 1) := by decide +kernel
theorem d_Mo_init_78 : decode b_Mo_init 78 = .ok (.sipush 1000, 3) := by decide +kernel
theorem d_Mo_init_81 : decode b_Mo_init 81 = .ok (.newarray .int, 2) := by decide +kernel
theorem d_Mo_init_83 : decode b_Mo_init 83 = .ok (.putfield 40, 3) := by decide +kernel
theorem d_Mo_init_86 : decode b_Mo_init 86 = .ok (.aload_n 0, 1) := by decide +kernel
theorem d_Mo_init_87 : decode b_Mo_init 87 = .ok (.sipush 1000, 3) := by decide +kernel
theorem d_Mo_init_90 : decode b_Mo_init 90 = .ok (.newarray .int, 2) := by decide +kernel
theorem d_Mo_init_92 : decode b_Mo_init 92 = .ok (.putfield 43, 3) := by decide +kernel
theorem d_Mo_init_95 : decode b_Mo_init 95 = .ok (.aload_n 0, 1) := by decide +kernel
theorem d_Mo_init_96 : decode b_Mo_init 96 = .ok (.sipush 1000, 3) := by decide +kernel
theorem d_Mo_init_99 : decode b_Mo_init 99 = .ok (.newarray .int, 2) := by decide +kernel
theorem d_Mo_init_101 : decode b_Mo_init 101 = .ok (.putfield 46, 3) := by decide +kernel
theorem d_Mo_init_104 : decode b_Mo_init 104 = .ok (.aload_n 0, 1) := by decide +kernel
theorem d_Mo_init_105 : decode b_Mo_init 105 = .ok (.sipush 1000, 3) := by decide +kernel
theorem d_Mo_init_108 : decode b_Mo_init 108 = .ok (.newarray .int, 2) := by decide +kernel
theorem d_Mo_init_110 : decode b_Mo_init 110 = .ok (.putfield 49, 3) := by decide +kernel
theorem d_Mo_init_113 : decode b_Mo_init 113 = .ok (.aload_n 0, 1) := by decide +kernel
theorem d_Mo_init_114 : decode b_Mo_init 114 = .ok (.sipush 1000, 3) := by decide +kernel
theorem d_Mo_init_117 : decode b_Mo_init 117 = .ok (.newarray .int, 2) := by decide +kernel
theorem d_Mo_init_119 : decode b_Mo_init 119 = .ok (.putfield 52, 3) := by decide +kernel
theorem d_Mo_init_122 : decode b_Mo_init 122 = .ok (.aload_n 0, 1) := by decide +kernel
theorem d_Mo_init_123 : decode b_Mo_init 123 = .ok (.sipush 1000, 3) := by decide +kernel
theorem d_Mo_init_126 : decode b_Mo_init 126 = .ok (.newarray .int, 2) := by decide +kernel
theorem d_Mo_init_128 : decode b_Mo_init 128 = .ok (.putfield 55, 3) := by decide +kernel
theorem d_Mo_init_131 : decode b_Mo_init 131 = .ok (.aload_n 0, 1) := by decide +kernel
theorem d_Mo_init_132 : decode b_Mo_init 132 = .ok (.sipush 1000, 3) := by decide +kernel
theorem d_Mo_init_135 : decode b_Mo_init 135 = .ok (.newarray .int, 2) := by decide +kernel
theorem d_Mo_init_137 : decode b_Mo_init 137 = .ok (.putfield 58, 3) := by decide +kernel
theorem d_Mo_init_140 : decode b_Mo_init 140 = .ok (.aload_n 0, 1) := by decide +kernel
theorem d_Mo_init_141 : decode b_Mo_init 141 = .ok (.bipush 80, 2) := by decide +kernel
theorem d_Mo_init_143 : decode b_Mo_init 143 = .ok (.newarray .int, 2) := by decide +kernel
theorem d_Mo_init_145 : decode b_Mo_init 145 = .ok (.putfield 61, 3) := by decide +kernel
theorem d_Mo_init_148 : decode b_Mo_init 148 = .ok (.aload_n 0, 1) := by decide +kernel
theorem d_Mo_init_149 : decode b_Mo_init 149 = .ok (.bipush 80, 2) := by decide +kernel
theorem d_Mo_init_151 : decode b_Mo_init 151 = .ok (.newarray .int, 2) := by decide +kernel
theorem d_Mo_init_153 : decode b_Mo_init 153 = .ok (.putfield 64, 3) := by decide +kernel
theorem d_Mo_init_156 : decode b_Mo_init 156 = .ok (.aload_n 0, 1) := by decide +kernel
theorem d_Mo_init_157 : decode b_Mo_init 157 = .ok (.sipush 1920, 3) := by decide +kernel
theorem d_Mo_init_160 : decode b_Mo_init 160 = .ok (.newarray .int, 2) := by decide +kernel
theorem d_Mo_init_162 : decode b_Mo_init 162 = .ok (.putfield 67, 3) := by decide +kernel
theorem d_Mo_init_165 : decode b_Mo_init 165 = .ok (.iconst 0, 1) := by decide +kernel
theorem d_Mo_init_166 : decode b_Mo_init 166 = .ok (.istore_n 1, 1) := by decide +kernel
theorem d_Mo_init_167 : decode b_Mo_init 167 = .ok (.iload_n 1, 1) := by decide +kernel
theorem d_Mo_init_168 : decode b_Mo_init 168 = .ok (.bipush 8, 2) := by decide +kernel
theorem d_Mo_init_170 : decode b_Mo_init 170 = .ok (.if_icmp .ge 16, 3) := by decide +kernel
theorem d_Mo_init_173 : decode b_Mo_init 173 = .ok (.aload_n 0, 1) := by decide +kernel
theorem d_Mo_init_174 : decode b_Mo_init 174 = .ok (.getfield 28, 3) := by decide +kernel
theorem d_Mo_init_177 : decode b_Mo_init 177 = .ok (.iload_n 1, 1) := by decide +kernel
theorem d_Mo_init_178 : decode b_Mo_init 178 = .ok (.iconst (-1), 1) := by decide +kernel
theorem d_Mo_init_179 : decode b_Mo_init 179 = .ok (.iastore, 1) := by decide +kernel
theorem d_Mo_init_180 : decode b_Mo_init 180 = .ok (.iinc 1 1, 3) := by decide +kernel
theorem d_Mo_init_183 : decode b_Mo_init 183 = .ok (.goto (-16), 3) := by decide +kernel
theorem d_Mo_init_186 : decode b_Mo_init 186 = .ok (.iconst 0, 1) := by decide +kernel
theorem d_Mo_init_187 : decode b_Mo_init 187 = .ok (.istore_n 1, 1) := by decide +kernel
theorem d_Mo_init_188 : decode b_Mo_init 188 = .ok (.iload_n 1, 1) := by decide +kernel
theorem d_Mo_init_189 : decode b_Mo_init 189 = .ok (.sipush 1000, 3) := by decide +kernel
theorem d_Mo_init_192 : decode b_Mo_init 192 = .ok (.if_icmp .ge 16, 3) := by decide +kernel
theorem d_Mo_init_195 : decode b_Mo_init 195 = .ok (.aload_n 0, 1) := by decide +kernel
theorem d_Mo_init_196 : decode b_Mo_init 196 = .ok (.getfield 37, 3) := by decide +kernel
theorem d_Mo_init_199 : decode b_Mo_init 199 = .ok (.iload_n 1, 1) := by decide +kernel
theorem d_Mo_init_200 : decode b_Mo_init 200 = .ok (.iconst (-1), 1) := by decide +kernel
theorem d_Mo_init_201 : decode b_Mo_init 201 = .ok (.iastore, 1) := by decide +kernel
theorem d_Mo_init_202 : decode b_Mo_init 202 = .ok (.iinc 1 1, 3) := by decide +kernel
theorem d_Mo_init_205 : decode b_Mo_init 205 = .ok (.goto (-17), 3) := by decide +kernel
theorem d_Mo_init_208 : decode b_Mo_init 208 = .ok (.iconst 0, 1) := by decide +kernel
theorem d_Mo_init_209 : decode b_Mo_init 209 = .ok (.istore_n 1, 1) := by decide +kernel
theorem d_Mo_init_210 : decode b_Mo_init 210 = .ok (.iload_n 1, 1) := by decide +kernel
theorem d_Mo_init_211 : decode b_Mo_init 211 = .ok (.bipush 80, 2) := by decide +kernel
theorem d_Mo_init_213 : decode b_Mo_init 213 = .ok (.if_icmp .ge 16, 3) := by decide +kernel
theorem d_Mo_init_216 : decode b_Mo_init 216 = .ok (.aload_n 0, 1) := by decide +kernel
theorem d_Mo_init_217 : decode b_Mo_init 217 = .ok (.getfield 61, 3) := by decide +kernel
theorem d_Mo_init_220 : decode b_Mo_init 220 = .ok (.iload_n 1, 1) := by decide +kernel
theorem d_Mo_init_221 : decode b_Mo_init 221 = .ok (.iconst (-1), 1) := by decide +kernel
theorem d_Mo_init_222 : decode b_Mo_init 222 = .ok (.iastore, 1) := by decide +kernel
theorem d_Mo_init_223 : decode b_Mo_init 223 = .ok (.iinc 1 1, 3) := by decide +kernel
theorem d_Mo_init_226 : decode b_Mo_init 226 = .ok (.goto (-16), 3) := by decide +kernel
theorem d_Mo_init_229 : decode b_Mo_init 229 = .ok (.return_, 1) := by decide +kernel
theorem d_Mo_thrown_0 : decode b_Mo_thrown 0 = .ok (.aload_n 0, 1) := by decide +kernel
theorem d_Mo_thrown_1 : decode b_Mo_thrown 1 = .ok (.getfield 70, 3) := by decide +kernel
theorem d_Mo_thrown_4 : decode b_Mo_thrown 4 = .ok (.ireturn, 1) := by decide +kernel
theorem d_Mo_refused_0 : decode b_Mo_refused 0 = .ok (.aload_n 0, 1) := by decide +kernel
theorem d_Mo_refused_1 : decode b_Mo_refused 1 = .ok (.iload_n 1, 1) := by decide +kernel
theorem d_Mo_refused_2 : decode b_Mo_refused 2 = .ok (.ifCond .eq 7, 3) := by decide +kernel
theorem d_Mo_refused_5 : decode b_Mo_refused 5 = .ok (.iconst 1, 1) := by decide +kernel
theorem d_Mo_refused_6 : decode b_Mo_refused 6 = .ok (.goto 20, 3) := by decide +kernel
theorem d_Mo_refused_9 : decode b_Mo_refused 9 = .ok (.iload_n 2, 1) := by decide +kernel
theorem d_Mo_refused_10 : decode b_Mo_refused 10 = .ok (.ifCond .eq 7, 3) := by decide +kernel
theorem d_Mo_refused_13 : decode b_Mo_refused 13 = .ok (.iconst 2, 1) := by decide +kernel
theorem d_Mo_refused_14 : decode b_Mo_refused 14 = .ok (.goto 12, 3) := by decide +kernel
theorem d_Mo_refused_17 : decode b_Mo_refused 17 = .ok (.iload_n 3, 1) := by decide +kernel
theorem d_Mo_refused_18 : decode b_Mo_refused 18 = .ok (.ifCond .eq 7, 3) := by decide +kernel
theorem d_Mo_refused_21 : decode b_Mo_refused 21 = .ok (.iconst 3, 1) := by decide +kernel
theorem d_Mo_refused_22 : decode b_Mo_refused 22 = .ok (.goto 4, 3) := by decide +kernel
theorem d_Mo_refused_25 : decode b_Mo_refused 25 = .ok (.iconst 0, 1) := by decide +kernel
theorem d_Mo_refused_26 : decode b_Mo_refused 26 = .ok (.putfield 70, 3) := by decide +kernel
theorem d_Mo_refused_29 : decode b_Mo_refused 29 = .ok (.aload_n 0, 1) := by decide +kernel
theorem d_Mo_refused_30 : decode b_Mo_refused 30 = .ok (.getfield 70, 3) := by decide +kernel
theorem d_Mo_refused_33 : decode b_Mo_refused 33 = .ok (.ifCond .le 7, 3) := by decide +kernel
theorem d_Mo_refused_36 : decode b_Mo_refused 36 = .ok (.iconst 1, 1) := by decide +kernel
theorem d_Mo_refused_37 : decode b_Mo_refused 37 = .ok (.goto 4, 3) := by decide +kernel
theorem d_Mo_refused_40 : decode b_Mo_refused 40 = .ok (.iconst 0, 1) := by decide +kernel
theorem d_Mo_refused_41 : decode b_Mo_refused 41 = .ok (.ireturn, 1) := by decide +kernel
theorem d_Mo_within_0 : decode b_Mo_within 0 = .ok (.iload_n 0, 1) := by decide +kernel
theorem d_Mo_within_1 : decode b_Mo_within 1 = .ok (.iload_n 1, 1) := by decide +kernel
theorem d_Mo_within_2 : decode b_Mo_within 2 = .ok (.if_icmp .lt 12, 3) := by decide +kernel
theorem d_Mo_within_5 : decode b_Mo_within 5 = .ok (.iload_n 0, 1) := by decide +kernel
theorem d_Mo_within_6 : decode b_Mo_within 6 = .ok (.iload_n 2, 1) := by decide +kernel
theorem d_Mo_within_7 : decode b_Mo_within 7 = .ok (.if_icmp .gt 7, 3) := by decide +kernel
theorem d_Mo_within_10 : decode b_Mo_within 10 = .ok (.iconst 1, 1) := by decide +kernel
theorem d_Mo_within_11 : decode b_Mo_within 11 = .ok (.goto 4, 3) := by decide +kernel
theorem d_Mo_within_14 : decode b_Mo_within 14 = .ok (.iconst 0, 1) := by decide +kernel
theorem d_Mo_within_15 : decode b_Mo_within 15 = .ok (.ireturn, 1) := by decide +kernel
theorem d_Mo_isSite_0 : decode b_Mo_isSite 0 = .ok (.iload_n 1, 1) := by decide +kernel
theorem d_Mo_isSite_1 : decode b_Mo_isSite 1 = .ok (.iconst 0, 1) := by decide +kernel
theorem d_Mo_isSite_2 : decode b_Mo_isSite 2 = .ok (.bipush 9, 2) := by decide +kernel
theorem d_Mo_isSite_4 : decode b_Mo_isSite 4 = .ok (.invokestatic 74, 3) := by decide +kernel
theorem d_Mo_isSite_7 : decode b_Mo_isSite 7 = .ok (.ifCond .eq 16, 3) := by decide +kernel
theorem d_Mo_isSite_10 : decode b_Mo_isSite 10 = .ok (.aload_n 0, 1) := by decide +kernel
theorem d_Mo_isSite_11 : decode b_Mo_isSite 11 = .ok (.getfield 34, 3) := by decide +kernel
theorem d_Mo_isSite_14 : decode b_Mo_isSite 14 = .ok (.iload_n 1, 1) := by decide +kernel
theorem d_Mo_isSite_15 : decode b_Mo_isSite 15 = .ok (.iaload, 1) := by decide +kernel
theorem d_Mo_isSite_16 : decode b_Mo_isSite 16 = .ok (.ifCond .le 7, 3) := by decide +kernel
theorem d_Mo_isSite_19 : decode b_Mo_isSite 19 = .ok (.iconst 1, 1) := by decide +kernel
theorem d_Mo_isSite_20 : decode b_Mo_isSite 20 = .ok (.goto 4, 3) := by decide +kernel
theorem d_Mo_isSite_23 : decode b_Mo_isSite 23 = .ok (.iconst 0, 1) := by decide +kernel
theorem d_Mo_isSite_24 : decode b_Mo_isSite 24 = .ok (.ireturn, 1) := by decide +kernel
theorem d_Mo_isStratum_0 : decode b_Mo_isStratum 0 = .ok (.iload_n 0, 1) := by decide +kernel
theorem d_Mo_isStratum_1 : decode b_Mo_isStratum 1 = .ok (.iconst 0, 1) := by decide +kernel
theorem d_Mo_isStratum_2 : decode b_Mo_isStratum 2 = .ok (.bipush 7, 2) := by decide +kernel
theorem d_Mo_isStratum_4 : decode b_Mo_isStratum 4 = .ok (.invokestatic 74, 3) := by decide +kernel
theorem d_Mo_isStratum_7 : decode b_Mo_isStratum 7 = .ok (.ireturn, 1) := by decide +kernel
theorem d_Mo_isPerson_0 : decode b_Mo_isPerson 0 = .ok (.aload_n 0, 1) := by decide +kernel
theorem d_Mo_isPerson_1 : decode b_Mo_isPerson 1 = .ok (.iload_n 1, 1) := by decide +kernel
theorem d_Mo_isPerson_2 : decode b_Mo_isPerson 2 = .ok (.invokevirtual 78, 3) := by decide +kernel
theorem d_Mo_isPerson_5 : decode b_Mo_isPerson 5 = .ok (.ifCond .eq 17, 3) := by decide +kernel
theorem d_Mo_isPerson_8 : decode b_Mo_isPerson 8 = .ok (.iload_n 2, 1) := by decide +kernel
theorem d_Mo_isPerson_9 : decode b_Mo_isPerson 9 = .ok (.iconst 0, 1) := by decide +kernel
theorem d_Mo_isPerson_10 : decode b_Mo_isPerson 10 = .ok (.bipush 99, 2) := by decide +kernel
theorem d_Mo_isPerson_12 : decode b_Mo_isPerson 12 = .ok (.invokestatic 74, 3) := by decide +kernel
theorem d_Mo_isPerson_15 : decode b_Mo_isPerson 15 = .ok (.ifCond .eq 7, 3) := by decide +kernel
theorem d_Mo_isPerson_18 : decode b_Mo_isPerson 18 = .ok (.iconst 1, 1) := by decide +kernel
theorem d_Mo_isPerson_19 : decode b_Mo_isPerson 19 = .ok (.goto 4, 3) := by decide +kernel
theorem d_Mo_isPerson_22 : decode b_Mo_isPerson 22 = .ok (.iconst 0, 1) := by decide +kernel
theorem d_Mo_isPerson_23 : decode b_Mo_isPerson 23 = .ok (.ireturn, 1) := by decide +kernel
theorem d_Mo_isArm_0 : decode b_Mo_isArm 0 = .ok (.iload_n 1, 1) := by decide +kernel
theorem d_Mo_isArm_1 : decode b_Mo_isArm 1 = .ok (.iconst 0, 1) := by decide +kernel
theorem d_Mo_isArm_2 : decode b_Mo_isArm 2 = .ok (.aload_n 0, 1) := by decide +kernel
theorem d_Mo_isArm_3 : decode b_Mo_isArm 3 = .ok (.getfield 82, 3) := by decide +kernel
theorem d_Mo_isArm_6 : decode b_Mo_isArm 6 = .ok (.ifCond .ne 7, 3) := by decide +kernel
theorem d_Mo_isArm_9 : decode b_Mo_isArm 9 = .ok (.iconst 3, 1) := by decide +kernel
theorem d_Mo_isArm_10 : decode b_Mo_isArm 10 = .ok (.goto 9, 3) := by decide +kernel
theorem d_Mo_isArm_13 : decode b_Mo_isArm 13 = .ok (.aload_n 0, 1) := by decide +kernel
theorem d_Mo_isArm_14 : decode b_Mo_isArm 14 = .ok (.getfield 82, 3) := by decide +kernel
theorem d_Mo_isArm_17 : decode b_Mo_isArm 17 = .ok (.iconst 1, 1) := by decide +kernel
theorem d_Mo_isArm_18 : decode b_Mo_isArm 18 = .ok (.isub, 1) := by decide +kernel
theorem d_Mo_isArm_19 : decode b_Mo_isArm 19 = .ok (.invokestatic 74, 3) := by decide +kernel
theorem d_Mo_isArm_22 : decode b_Mo_isArm 22 = .ok (.ireturn, 1) := by decide +kernel
theorem d_Mo_writes_0 : decode b_Mo_writes 0 = .ok (.aload_n 0, 1) := by decide +kernel
theorem d_Mo_writes_1 : decode b_Mo_writes 1 = .ok (.getfield 85, 3) := by decide +kernel
theorem d_Mo_writes_4 : decode b_Mo_writes 4 = .ok (.ifCond .eq 15, 3) := by decide +kernel
theorem d_Mo_writes_7 : decode b_Mo_writes 7 = .ok (.aload_n 0, 1) := by decide +kernel
theorem d_Mo_writes_8 : decode b_Mo_writes 8 = .ok (.iconst 0, 1) := by decide +kernel
theorem d_Mo_writes_9 : decode b_Mo_writes 9 = .ok (.putfield 85, 3) := by decide +kernel
theorem d_Mo_writes_12 : decode b_Mo_writes 12 = .ok (.aload_n 0, 1) := by decide +kernel
theorem d_Mo_writes_13 : decode b_Mo_writes 13 = .ok (.iconst 1, 1) := by decide +kernel
theorem d_Mo_writes_14 : decode b_Mo_writes 14 = .ok (.putfield 89, 3) := by decide +kernel
theorem d_Mo_writes_17 : decode b_Mo_writes 17 = .ok (.iconst 0, 1) := by decide +kernel
theorem d_Mo_writes_18 : decode b_Mo_writes 18 = .ok (.ireturn, 1) := by decide +kernel
theorem d_Mo_writes_19 : decode b_Mo_writes 19 = .ok (.aload_n 0, 1) := by decide +kernel
theorem d_Mo_writes_20 : decode b_Mo_writes 20 = .ok (.dup, 1) := by decide +kernel
theorem d_Mo_writes_21 : decode b_Mo_writes 21 = .ok (.getfield 92, 3) := by decide +kernel
theorem d_Mo_writes_24 : decode b_Mo_writes 24 = .ok (.iconst 1, 1) := by decide +kernel
theorem d_Mo_writes_25 : decode b_Mo_writes 25 = .ok (.iadd, 1) := by decide +kernel
theorem d_Mo_writes_26 : decode b_Mo_writes 26 = .ok (.putfield 92, 3) := by decide +kernel
theorem d_Mo_writes_29 : decode b_Mo_writes 29 = .ok (.iconst 1, 1) := by decide +kernel
theorem d_Mo_writes_30 : decode b_Mo_writes 30 = .ok (.ireturn, 1) := by decide +kernel
theorem d_Mo_arms_0 : decode b_Mo_arms 0 = .ok (.iload_n 1, 1) := by decide +kernel
theorem d_Mo_arms_1 : decode b_Mo_arms 1 = .ok (.iconst 1, 1) := by decide +kernel
theorem d_Mo_arms_2 : decode b_Mo_arms 2 = .ok (.iconst 3, 1) := by decide +kernel
theorem d_Mo_arms_3 : decode b_Mo_arms 3 = .ok (.invokestatic 74, 3) := by decide +kernel
theorem d_Mo_arms_6 : decode b_Mo_arms 6 = .ok (.ifCond .eq 51, 3) := by decide +kernel
theorem d_Mo_arms_9 : decode b_Mo_arms 9 = .ok (.iload_n 2, 1) := by decide +kernel
theorem d_Mo_arms_10 : decode b_Mo_arms 10 = .ok (.iconst 1, 1) := by decide +kernel
theorem d_Mo_arms_11 : decode b_Mo_arms 11 = .ok (.iconst 3, 1) := by decide +kernel
theorem d_Mo_arms_12 : decode b_Mo_arms 12 = .ok (.invokestatic 74, 3) := by decide +kernel
theorem d_Mo_arms_15 : decode b_Mo_arms 15 = .ok (.ifCond .eq 42, 3) := by decide +kernel
theorem d_Mo_arms_18 : decode b_Mo_arms 18 = .ok (.iload_n 3, 1) := by decide +kernel
theorem d_Mo_arms_19 : decode b_Mo_arms 19 = .ok (.iconst 0, 1) := by decide +kernel
theorem d_Mo_arms_20 : decode b_Mo_arms 20 = .ok (.iconst 3, 1) := by decide +kernel
theorem d_Mo_arms_21 : decode b_Mo_arms 21 = .ok (.invokestatic 74, 3) := by decide +kernel
theorem d_Mo_arms_24 : decode b_Mo_arms 24 = .ok (.ifCond .eq 33, 3) := by decide +kernel
theorem d_Mo_arms_27 : decode b_Mo_arms 27 = .ok (.iload 4, 2) := by decide +kernel
theorem d_Mo_arms_29 : decode b_Mo_arms 29 = .ok (.iconst 0, 1) := by decide +kernel
theorem d_Mo_arms_30 : decode b_Mo_arms 30 = .ok (.iconst 3, 1) := by decide +kernel
theorem d_Mo_arms_31 : decode b_Mo_arms 31 = .ok (.invokestatic 74, 3) := by decide +kernel
theorem d_Mo_arms_34 : decode b_Mo_arms 34 = .ok (.ifCond .eq 23, 3) := by decide +kernel
theorem d_Mo_arms_37 : decode b_Mo_arms 37 = .ok (.iload_n 3, 1) := by decide +kernel
theorem d_Mo_arms_38 : decode b_Mo_arms 38 = .ok (.ifCond .ne 8, 3) := by decide +kernel
theorem d_Mo_arms_41 : decode b_Mo_arms 41 = .ok (.iload 4, 2) := by decide +kernel
theorem d_Mo_arms_43 : decode b_Mo_arms 43 = .ok (.ifCond .gt 14, 3) := by decide +kernel
theorem d_Mo_arms_46 : decode b_Mo_arms 46 = .ok (.iload 5, 2) := by decide +kernel
theorem d_Mo_arms_48 : decode b_Mo_arms 48 = .ok (.iconst 1, 1) := by decide +kernel
theorem d_Mo_arms_49 : decode b_Mo_arms 49 = .ok (.bipush 24, 2) := by decide +kernel
theorem d_Mo_arms_51 : decode b_Mo_arms 51 = .ok (.invokestatic 74, 3) := by decide +kernel
theorem d_Mo_arms_54 : decode b_Mo_arms 54 = .ok (.ifCond .ne 7, 3) := by decide +kernel
theorem d_Mo_arms_57 : decode b_Mo_arms 57 = .ok (.iconst 1, 1) := by decide +kernel
theorem d_Mo_arms_58 : decode b_Mo_arms 58 = .ok (.goto 4, 3) := by decide +kernel
theorem d_Mo_arms_61 : decode b_Mo_arms 61 = .ok (.iconst 0, 1) := by decide +kernel
theorem d_Mo_arms_62 : decode b_Mo_arms 62 = .ok (.istore 8, 2) := by decide +kernel
theorem d_Mo_arms_64 : decode b_Mo_arms 64 = .ok (.iload 8, 2) := by decide +kernel
theorem d_Mo_arms_66 : decode b_Mo_arms 66 = .ok (.ifCond .ne 17, 3) := by decide +kernel
theorem d_Mo_arms_69 : decode b_Mo_arms 69 = .ok (.iload 5, 2) := by decide +kernel
theorem d_Mo_arms_71 : decode b_Mo_arms 71 = .ok (.iload_n 1, 1) := by decide +kernel
theorem d_Mo_arms_72 : decode b_Mo_arms 72 = .ok (.iload_n 2, 1) := by decide +kernel
theorem d_Mo_arms_73 : decode b_Mo_arms 73 = .ok (.iadd, 1) := by decide +kernel
theorem d_Mo_arms_74 : decode b_Mo_arms 74 = .ok (.iload_n 3, 1) := by decide +kernel
theorem d_Mo_arms_75 : decode b_Mo_arms 75 = .ok (.iadd, 1) := by decide +kernel
theorem d_Mo_arms_76 : decode b_Mo_arms 76 = .ok (.iload 4, 2) := by decide +kernel
theorem d_Mo_arms_78 : decode b_Mo_arms 78 = .ok (.iadd, 1) := by decide +kernel
theorem d_Mo_arms_79 : decode b_Mo_arms 79 = .ok (.irem, 1) := by decide +kernel
theorem d_Mo_arms_80 : decode b_Mo_arms 80 = .ok (.ifCond .eq 7, 3) := by decide +kernel
theorem d_Mo_arms_83 : decode b_Mo_arms 83 = .ok (.iconst 1, 1) := by decide +kernel
theorem d_Mo_arms_84 : decode b_Mo_arms 84 = .ok (.goto 4, 3) := by decide +kernel
theorem d_Mo_arms_87 : decode b_Mo_arms 87 = .ok (.iconst 0, 1) := by decide +kernel
theorem d_Mo_arms_88 : decode b_Mo_arms 88 = .ok (.istore 8, 2) := by decide +kernel
theorem d_Mo_arms_90 : decode b_Mo_arms 90 = .ok (.aload_n 0, 1) := by decide +kernel
theorem d_Mo_arms_91 : decode b_Mo_arms 91 = .ok (.iload 8, 2) := by decide +kernel
theorem d_Mo_arms_93 : decode b_Mo_arms 93 = .ok (.aload_n 0, 1) := by decide +kernel
theorem d_Mo_arms_94 : decode b_Mo_arms 94 = .ok (.getfield 95, 3) := by decide +kernel
theorem d_Mo_arms_97 : decode b_Mo_arms 97 = .ok (.ifCond .le 7, 3) := by decide +kernel
theorem d_Mo_arms_100 : decode b_Mo_arms 100 = .ok (.iconst 1, 1) := by decide +kernel
theorem d_Mo_arms_101 : decode b_Mo_arms 101 = .ok (.goto 4, 3) := by decide +kernel
theorem d_Mo_arms_104 : decode b_Mo_arms 104 = .ok (.iconst 0, 1) := by decide +kernel
theorem d_Mo_arms_105 : decode b_Mo_arms 105 = .ok (.iconst 0, 1) := by decide +kernel
theorem d_Mo_arms_106 : decode b_Mo_arms 106 = .ok (.invokevirtual 98, 3) := by decide +kernel
theorem d_Mo_arms_109 : decode b_Mo_arms 109 = .ok (.ifCond .ne 17, 3) := by decide +kernel
theorem d_Mo_arms_112 : decode b_Mo_arms 112 = .ok (.aload_n 0, 1) := by decide +kernel
theorem d_Mo_arms_113 : decode b_Mo_arms 113 = .ok (.getfield 89, 3) := by decide +kernel
theorem d_Mo_arms_116 : decode b_Mo_arms 116 = .ok (.ifCond .ne 10, 3) := by decide +kernel
theorem d_Mo_arms_119 : decode b_Mo_arms 119 = .ok (.aload_n 0, 1) := by decide +kernel
theorem d_Mo_arms_120 : decode b_Mo_arms 120 = .ok (.invokevirtual 102, 3) := by decide +kernel
theorem d_Mo_arms_123 : decode b_Mo_arms 123 = .ok (.ifCond .ne 4, 3) := by decide +kernel
theorem d_Mo_arms_126 : decode b_Mo_arms 126 = .ok (.return_, 1) := by decide +kernel
theorem d_Mo_arms_127 : decode b_Mo_arms 127 = .ok (.aload_n 0, 1) := by decide +kernel
theorem d_Mo_arms_128 : decode b_Mo_arms 128 = .ok (.getfield 7, 3) := by decide +kernel
theorem d_Mo_arms_131 : decode b_Mo_arms 131 = .ok (.iconst 0, 1) := by decide +kernel
theorem d_Mo_arms_132 : decode b_Mo_arms 132 = .ok (.iload_n 1, 1) := by decide +kernel
theorem d_Mo_arms_133 : decode b_Mo_arms 133 = .ok (.iastore, 1) := by decide +kernel
theorem d_Mo_arms_134 : decode b_Mo_arms 134 = .ok (.aload_n 0, 1) := by decide +kernel
theorem d_Mo_arms_135 : decode b_Mo_arms 135 = .ok (.getfield 7, 3) := by decide +kernel
theorem d_Mo_arms_138 : decode b_Mo_arms 138 = .ok (.iconst 1, 1) := by decide +kernel
theorem d_Mo_arms_139 : decode b_Mo_arms 139 = .ok (.iload_n 2, 1) := by decide +kernel
theorem d_Mo_arms_140 : decode b_Mo_arms 140 = .ok (.iastore, 1) := by decide +kernel
theorem d_Mo_arms_141 : decode b_Mo_arms 141 = .ok (.aload_n 0, 1) := by decide +kernel
theorem d_Mo_arms_142 : decode b_Mo_arms 142 = .ok (.getfield 7, 3) := by decide +kernel
theorem d_Mo_arms_145 : decode b_Mo_arms 145 = .ok (.iconst 2, 1) := by decide +kernel
theorem d_Mo_arms_146 : decode b_Mo_arms 146 = .ok (.iload_n 3, 1) := by decide +kernel
theorem d_Mo_arms_147 : decode b_Mo_arms 147 = .ok (.iastore, 1) := by decide +kernel
theorem d_Mo_arms_148 : decode b_Mo_arms 148 = .ok (.aload_n 0, 1) := by decide +kernel
theorem d_Mo_arms_149 : decode b_Mo_arms 149 = .ok (.getfield 7, 3) := by decide +kernel
theorem d_Mo_arms_152 : decode b_Mo_arms 152 = .ok (.iconst 3, 1) := by decide +kernel
theorem d_Mo_arms_153 : decode b_Mo_arms 153 = .ok (.iload 4, 2) := by decide +kernel
theorem d_Mo_arms_155 : decode b_Mo_arms 155 = .ok (.iastore, 1) := by decide +kernel
theorem d_Mo_arms_156 : decode b_Mo_arms 156 = .ok (.aload_n 0, 1) := by decide +kernel
theorem d_Mo_arms_157 : decode b_Mo_arms 157 = .ok (.iload 4, 2) := by decide +kernel
theorem d_Mo_arms_159 : decode b_Mo_arms 159 = .ok (.ifCond .le 7, 3) := by decide +kernel
theorem d_Mo_arms_162 : decode b_Mo_arms 162 = .ok (.iconst 4, 1) := by decide +kernel
theorem d_Mo_arms_163 : decode b_Mo_arms 163 = .ok (.goto 12, 3) := by decide +kernel
theorem d_Mo_arms_166 : decode b_Mo_arms 166 = .ok (.iload_n 3, 1) := by decide +kernel
theorem d_Mo_arms_167 : decode b_Mo_arms 167 = .ok (.ifCond .le 7, 3) := by decide +kernel
theorem d_Mo_arms_170 : decode b_Mo_arms 170 = .ok (.iconst 3, 1) := by decide +kernel
theorem d_Mo_arms_171 : decode b_Mo_arms 171 = .ok (.goto 4, 3) := by decide +kernel
theorem d_Mo_arms_174 : decode b_Mo_arms 174 = .ok (.iconst 2, 1) := by decide +kernel
theorem d_Mo_arms_175 : decode b_Mo_arms 175 = .ok (.putfield 82, 3) := by decide +kernel
theorem d_Mo_arms_178 : decode b_Mo_arms 178 = .ok (.aload_n 0, 1) := by decide +kernel
theorem d_Mo_arms_179 : decode b_Mo_arms 179 = .ok (.iload 5, 2) := by decide +kernel
theorem d_Mo_arms_181 : decode b_Mo_arms 181 = .ok (.putfield 106, 3) := by decide +kernel
theorem d_Mo_arms_184 : decode b_Mo_arms 184 = .ok (.aload_n 0, 1) := by decide +kernel
theorem d_Mo_arms_185 : decode b_Mo_arms 185 = .ok (.lload 6, 2) := by decide +kernel
theorem d_Mo_arms_187 : decode b_Mo_arms 187 = .ok (.putfield 109, 3) := by decide +kernel
theorem d_Mo_arms_190 : decode b_Mo_arms 190 = .ok (.iconst 0, 1) := by decide +kernel
theorem d_Mo_arms_191 : decode b_Mo_arms 191 = .ok (.istore 9, 2) := by decide +kernel
theorem d_Mo_arms_193 : decode b_Mo_arms 193 = .ok (.iload 9, 2) := by decide +kernel
theorem d_Mo_arms_195 : decode b_Mo_arms 195 = .ok (.bipush 8, 2) := by decide +kernel
theorem d_Mo_arms_197 : decode b_Mo_arms 197 = .ok (.if_icmp .ge 45, 3) := by decide +kernel
theorem d_Mo_arms_200 : decode b_Mo_arms 200 = .ok (.aload_n 0, 1) := by decide +kernel
theorem d_Mo_arms_201 : decode b_Mo_arms 201 = .ok (.getfield 109, 3) := by decide +kernel
theorem d_Mo_arms_204 : decode b_Mo_arms 204 = .ok (.iload 9, 2) := by decide +kernel
theorem d_Mo_arms_206 : decode b_Mo_arms 206 = .ok (.iconst 1, 1) := by decide +kernel
theorem d_Mo_arms_207 : decode b_Mo_arms 207 = .ok (.iadd, 1) := by decide +kernel
theorem d_Mo_arms_208 : decode b_Mo_arms 208 = .ok (.i2l, 1) := by decide +kernel
theorem d_Mo_arms_209 : decode b_Mo_arms 209 = .ok (.ldc2_w 113, 3) := by decide +kernel
theorem d_Mo_arms_212 : decode b_Mo_arms 212 = .ok (.lmul, 1) := by decide +kernel
theorem d_Mo_arms_213 : decode b_Mo_arms 213 = .ok (.lxor, 1) := by decide +kernel
theorem d_Mo_arms_214 : decode b_Mo_arms 214 = .ok (.lstore 10, 2) := by decide +kernel
theorem d_Mo_arms_216 : decode b_Mo_arms 216 = .ok (.aload_n 0, 1) := by decide +kernel
theorem d_Mo_arms_217 : decode b_Mo_arms 217 = .ok (.getfield 24, 3) := by decide +kernel
theorem d_Mo_arms_220 : decode b_Mo_arms 220 = .ok (.iload 9, 2) := by decide +kernel
theorem d_Mo_arms_222 : decode b_Mo_arms 222 = .ok (.lload 10, 2) := by decide +kernel
theorem d_Mo_arms_224 : decode b_Mo_arms 224 = .ok (.lconst 0, 1) := by decide +kernel
theorem d_Mo_arms_225 : decode b_Mo_arms 225 = .ok (.lcmp, 1) := by decide +kernel
theorem d_Mo_arms_226 : decode b_Mo_arms 226 = .ok (.ifCond .ne 7, 3) := by decide +kernel
theorem d_Mo_arms_229 : decode b_Mo_arms 229 = .ok (.lconst 1, 1) := by decide +kernel
theorem d_Mo_arms_230 : decode b_Mo_arms 230 = .ok (.goto 5, 3) := by decide +kernel
theorem d_Mo_arms_233 : decode b_Mo_arms 233 = .ok (.lload 10, 2) := by decide +kernel
theorem d_Mo_arms_235 : decode b_Mo_arms 235 = .ok (.lastore, 1) := by decide +kernel
theorem d_Mo_arms_236 : decode b_Mo_arms 236 = .ok (.iinc 9 1, 3) := by decide +kernel
theorem d_Mo_arms_239 : decode b_Mo_arms 239 = .ok (.goto (-46), 3) := by decide +kernel
theorem d_Mo_arms_242 : decode b_Mo_arms 242 = .ok (.return_, 1) := by decide +kernel
theorem d_Mo_draw_0 : decode b_Mo_draw 0 = .ok (.ldc2_w 115, 3) := by decide +kernel
theorem d_Mo_draw_3 : decode b_Mo_draw 3 = .ok (.iload_n 2, 1) := by decide +kernel
theorem d_Mo_draw_4 : decode b_Mo_draw 4 = .ok (.i2l, 1) := by decide +kernel
theorem d_Mo_draw_5 : decode b_Mo_draw 5 = .ok (.ldiv, 1) := by decide +kernel
theorem d_Mo_draw_6 : decode b_Mo_draw 6 = .ok (.iload_n 2, 1) := by decide +kernel
theorem d_Mo_draw_7 : decode b_Mo_draw 7 = .ok (.i2l, 1) := by decide +kernel
theorem d_Mo_draw_8 : decode b_Mo_draw 8 = .ok (.lmul, 1) := by decide +kernel
theorem d_Mo_draw_9 : decode b_Mo_draw 9 = .ok (.lstore_n 3, 1) := by decide +kernel
theorem d_Mo_draw_10 : decode b_Mo_draw 10 = .ok (.lload_n 3, 1) := by decide +kernel
theorem d_Mo_draw_11 : decode b_Mo_draw 11 = .ok (.lstore 5, 2) := by decide +kernel
theorem d_Mo_draw_13 : decode b_Mo_draw 13 = .ok (.lload 5, 2) := by decide +kernel
theorem d_Mo_draw_15 : decode b_Mo_draw 15 = .ok (.lload_n 3, 1) := by decide +kernel
theorem d_Mo_draw_16 : decode b_Mo_draw 16 = .ok (.lcmp, 1) := by decide +kernel
theorem d_Mo_draw_17 : decode b_Mo_draw 17 = .ok (.ifCond .lt 59, 3) := by decide +kernel
theorem d_Mo_draw_20 : decode b_Mo_draw 20 = .ok (.aload_n 0, 1) := by decide +kernel
theorem d_Mo_draw_21 : decode b_Mo_draw 21 = .ok (.getfield 24, 3) := by decide +kernel
theorem d_Mo_draw_24 : decode b_Mo_draw 24 = .ok (.iload_n 1, 1) := by decide +kernel
theorem d_Mo_draw_25 : decode b_Mo_draw 25 = .ok (.laload, 1) := by decide +kernel
theorem d_Mo_draw_26 : decode b_Mo_draw 26 = .ok (.lstore 7, 2) := by decide +kernel
theorem d_Mo_draw_28 : decode b_Mo_draw 28 = .ok (.lload 7, 2) := by decide +kernel
theorem d_Mo_draw_30 : decode b_Mo_draw 30 = .ok (.lload 7, 2) := by decide +kernel
theorem d_Mo_draw_32 : decode b_Mo_draw 32 = .ok (.bipush 13, 2) := by decide +kernel
theorem d_Mo_draw_34 : decode b_Mo_draw 34 = .ok (.lshl, 1) := by decide +kernel
theorem d_Mo_draw_35 : decode b_Mo_draw 35 = .ok (.lxor, 1) := by decide +kernel
theorem d_Mo_draw_36 : decode b_Mo_draw 36 = .ok (.lstore 7, 2) := by decide +kernel
theorem d_Mo_draw_38 : decode b_Mo_draw 38 = .ok (.lload 7, 2) := by decide +kernel
theorem d_Mo_draw_40 : decode b_Mo_draw 40 = .ok (.lload 7, 2) := by decide +kernel
theorem d_Mo_draw_42 : decode b_Mo_draw 42 = .ok (.bipush 7, 2) := by decide +kernel
theorem d_Mo_draw_44 : decode b_Mo_draw 44 = .ok (.lushr, 1) := by decide +kernel
theorem d_Mo_draw_45 : decode b_Mo_draw 45 = .ok (.lxor, 1) := by decide +kernel
theorem d_Mo_draw_46 : decode b_Mo_draw 46 = .ok (.lstore 7, 2) := by decide +kernel
theorem d_Mo_draw_48 : decode b_Mo_draw 48 = .ok (.lload 7, 2) := by decide +kernel
theorem d_Mo_draw_50 : decode b_Mo_draw 50 = .ok (.lload 7, 2) := by decide +kernel
theorem d_Mo_draw_52 : decode b_Mo_draw 52 = .ok (.bipush 17, 2) := by decide +kernel
theorem d_Mo_draw_54 : decode b_Mo_draw 54 = .ok (.lshl, 1) := by decide +kernel
theorem d_Mo_draw_55 : decode b_Mo_draw 55 = .ok (.lxor, 1) := by decide +kernel
theorem d_Mo_draw_56 : decode b_Mo_draw 56 = .ok (.lstore 7, 2) := by decide +kernel
theorem d_Mo_draw_58 : decode b_Mo_draw 58 = .ok (.aload_n 0, 1) := by decide +kernel
theorem d_Mo_draw_59 : decode b_Mo_draw 59 = .ok (.getfield 24, 3) := by decide +kernel
theorem d_Mo_draw_62 : decode b_Mo_draw 62 = .ok (.iload_n 1, 1) := by decide +kernel
theorem d_Mo_draw_63 : decode b_Mo_draw 63 = .ok (.lload 7, 2) := by decide +kernel
theorem d_Mo_draw_65 : decode b_Mo_draw 65 = .ok (.lastore, 1) := by decide +kernel
theorem d_Mo_draw_66 : decode b_Mo_draw 66 = .ok (.lload 7, 2) := by decide +kernel
theorem d_Mo_draw_68 : decode b_Mo_draw 68 = .ok (.bipush 33, 2) := by decide +kernel
theorem d_Mo_draw_70 : decode b_Mo_draw 70 = .ok (.lushr, 1) := by decide +kernel
theorem d_Mo_draw_71 : decode b_Mo_draw 71 = .ok (.lstore 5, 2) := by decide +kernel
theorem d_Mo_draw_73 : decode b_Mo_draw 73 = .ok (.goto (-60), 3) := by decide +kernel
theorem d_Mo_draw_76 : decode b_Mo_draw 76 = .ok (.lload 5, 2) := by decide +kernel
theorem d_Mo_draw_78 : decode b_Mo_draw 78 = .ok (.iload_n 2, 1) := by decide +kernel
theorem d_Mo_draw_79 : decode b_Mo_draw 79 = .ok (.i2l, 1) := by decide +kernel
theorem d_Mo_draw_80 : decode b_Mo_draw 80 = .ok (.lrem, 1) := by decide +kernel
theorem d_Mo_draw_81 : decode b_Mo_draw 81 = .ok (.l2i, 1) := by decide +kernel
theorem d_Mo_draw_82 : decode b_Mo_draw 82 = .ok (.ireturn, 1) := by decide +kernel
theorem d_Mo_takeBlock_0 : decode b_Mo_takeBlock 0 = .ok (.bipush 24, 2) := by decide +kernel
theorem d_Mo_takeBlock_2 : decode b_Mo_takeBlock 2 = .ok (.aload_n 0, 1) := by decide +kernel
theorem d_Mo_takeBlock_3 : decode b_Mo_takeBlock 3 = .ok (.getfield 95, 3) := by decide +kernel
theorem d_Mo_takeBlock_6 : decode b_Mo_takeBlock 6 = .ok (.imul, 1) := by decide +kernel
theorem d_Mo_takeBlock_7 : decode b_Mo_takeBlock 7 = .ok (.istore_n 2, 1) := by decide +kernel
theorem d_Mo_takeBlock_8 : decode b_Mo_takeBlock 8 = .ok (.aload_n 0, 1) := by decide +kernel
theorem d_Mo_takeBlock_9 : decode b_Mo_takeBlock 9 = .ok (.getfield 7, 3) := by decide +kernel
theorem d_Mo_takeBlock_12 : decode b_Mo_takeBlock 12 = .ok (.iconst 0, 1) := by decide +kernel
theorem d_Mo_takeBlock_13 : decode b_Mo_takeBlock 13 = .ok (.iaload, 1) := by decide +kernel
theorem d_Mo_takeBlock_14 : decode b_Mo_takeBlock 14 = .ok (.aload_n 0, 1) := by decide +kernel
theorem d_Mo_takeBlock_15 : decode b_Mo_takeBlock 15 = .ok (.getfield 7, 3) := by decide +kernel
theorem d_Mo_takeBlock_18 : decode b_Mo_takeBlock 18 = .ok (.iconst 1, 1) := by decide +kernel
theorem d_Mo_takeBlock_19 : decode b_Mo_takeBlock 19 = .ok (.iaload, 1) := by decide +kernel
theorem d_Mo_takeBlock_20 : decode b_Mo_takeBlock 20 = .ok (.iadd, 1) := by decide +kernel
theorem d_Mo_takeBlock_21 : decode b_Mo_takeBlock 21 = .ok (.aload_n 0, 1) := by decide +kernel
theorem d_Mo_takeBlock_22 : decode b_Mo_takeBlock 22 = .ok (.getfield 7, 3) := by decide +kernel
theorem d_Mo_takeBlock_25 : decode b_Mo_takeBlock 25 = .ok (.iconst 2, 1) := by decide +kernel
theorem d_Mo_takeBlock_26 : decode b_Mo_takeBlock 26 = .ok (.iaload, 1) := by decide +kernel
theorem d_Mo_takeBlock_27 : decode b_Mo_takeBlock 27 = .ok (.iadd, 1) := by decide +kernel
theorem d_Mo_takeBlock_28 : decode b_Mo_takeBlock 28 = .ok (.aload_n 0, 1) := by decide +kernel
theorem d_Mo_takeBlock_29 : decode b_Mo_takeBlock 29 = .ok (.getfield 7, 3) := by decide +kernel
theorem d_Mo_takeBlock_32 : decode b_Mo_takeBlock 32 = .ok (.iconst 3, 1) := by decide +kernel
theorem d_Mo_takeBlock_33 : decode b_Mo_takeBlock 33 = .ok (.iaload, 1) := by decide +kernel
theorem d_Mo_takeBlock_34 : decode b_Mo_takeBlock 34 = .ok (.iadd, 1) := by decide +kernel
theorem d_Mo_takeBlock_35 : decode b_Mo_takeBlock 35 = .ok (.istore_n 3, 1) := by decide +kernel
theorem d_Mo_takeBlock_36 : decode b_Mo_takeBlock 36 = .ok (.iconst 0, 1) := by decide +kernel
theorem d_Mo_takeBlock_37 : decode b_Mo_takeBlock 37 = .ok (.istore 4, 2) := by decide +kernel
theorem d_Mo_takeBlock_39 : decode b_Mo_takeBlock 39 = .ok (.iconst 0, 1) := by decide +kernel
theorem d_Mo_takeBlock_40 : decode b_Mo_takeBlock 40 = .ok (.istore 5, 2) := by decide +kernel
theorem d_Mo_takeBlock_42 : decode b_Mo_takeBlock 42 = .ok (.iload 5, 2) := by decide +kernel
theorem d_Mo_takeBlock_44 : decode b_Mo_takeBlock 44 = .ok (.aload_n 0, 1) := by decide +kernel
theorem d_Mo_takeBlock_45 : decode b_Mo_takeBlock 45 = .ok (.getfield 82, 3) := by decide +kernel
theorem d_Mo_takeBlock_48 : decode b_Mo_takeBlock 48 = .ok (.if_icmp .ge 52, 3) := by decide +kernel
theorem d_Mo_takeBlock_51 : decode b_Mo_takeBlock 51 = .ok (.iconst 0, 1) := by decide +kernel
theorem d_Mo_takeBlock_52 : decode b_Mo_takeBlock 52 = .ok (.istore 6, 2) := by decide +kernel
theorem d_Mo_takeBlock_54 : decode b_Mo_takeBlock 54 = .ok (.iload 6, 2) := by decide +kernel
theorem d_Mo_takeBlock_56 : decode b_Mo_takeBlock 56 = .ok (.aload_n 0, 1) := by decide +kernel
theorem d_Mo_takeBlock_57 : decode b_Mo_takeBlock 57 = .ok (.getfield 7, 3) := by decide +kernel
theorem d_Mo_takeBlock_60 : decode b_Mo_takeBlock 60 = .ok (.iload 5, 2) := by decide +kernel
theorem d_Mo_takeBlock_62 : decode b_Mo_takeBlock 62 = .ok (.iaload, 1) := by decide +kernel
theorem d_Mo_takeBlock_63 : decode b_Mo_takeBlock 63 = .ok (.aload_n 0, 1) := by decide +kernel
theorem d_Mo_takeBlock_64 : decode b_Mo_takeBlock 64 = .ok (.getfield 106, 3) := by decide +kernel
theorem d_Mo_takeBlock_67 : decode b_Mo_takeBlock 67 = .ok (.iload_n 3, 1) := by decide +kernel
theorem d_Mo_takeBlock_68 : decode b_Mo_takeBlock 68 = .ok (.idiv, 1) := by decide +kernel
theorem d_Mo_takeBlock_69 : decode b_Mo_takeBlock 69 = .ok (.imul, 1) := by decide +kernel
theorem d_Mo_takeBlock_70 : decode b_Mo_takeBlock 70 = .ok (.if_icmp .ge 24, 3) := by decide +kernel
theorem d_Mo_takeBlock_73 : decode b_Mo_takeBlock 73 = .ok (.aload_n 0, 1) := by decide +kernel
theorem d_Mo_takeBlock_74 : decode b_Mo_takeBlock 74 = .ok (.getfield 17, 3) := by decide +kernel
theorem d_Mo_takeBlock_77 : decode b_Mo_takeBlock 77 = .ok (.iload_n 2, 1) := by decide +kernel
theorem d_Mo_takeBlock_78 : decode b_Mo_takeBlock 78 = .ok (.iload 4, 2) := by decide +kernel
theorem d_Mo_takeBlock_80 : decode b_Mo_takeBlock 80 = .ok (.iadd, 1) := by decide +kernel
theorem d_Mo_takeBlock_81 : decode b_Mo_takeBlock 81 = .ok (.iload 5, 2) := by decide +kernel
theorem d_Mo_takeBlock_83 : decode b_Mo_takeBlock 83 = .ok (.i2b, 1) := by decide +kernel
theorem d_Mo_takeBlock_84 : decode b_Mo_takeBlock 84 = .ok (.bastore, 1) := by decide +kernel
theorem d_Mo_takeBlock_85 : decode b_Mo_takeBlock 85 = .ok (.iinc 4 1, 3) := by decide +kernel
theorem d_Mo_takeBlock_88 : decode b_Mo_takeBlock 88 = .ok (.iinc 6 1, 3) := by decide +kernel
theorem d_Mo_takeBlock_91 : decode b_Mo_takeBlock 91 = .ok (.goto (-37), 3) := by decide +kernel
theorem d_Mo_takeBlock_94 : decode b_Mo_takeBlock 94 = .ok (.iinc 5 1, 3) := by decide +kernel
theorem d_Mo_takeBlock_97 : decode b_Mo_takeBlock 97 = .ok (.goto (-55), 3) := by decide +kernel
theorem d_Mo_takeBlock_100 : decode b_Mo_takeBlock 100 = .ok (.aload_n 0, 1) := by decide +kernel
theorem d_Mo_takeBlock_101 : decode b_Mo_takeBlock 101 = .ok (.getfield 106, 3) := by decide +kernel
theorem d_Mo_takeBlock_104 : decode b_Mo_takeBlock 104 = .ok (.iconst 1, 1) := by decide +kernel
theorem d_Mo_takeBlock_105 : decode b_Mo_takeBlock 105 = .ok (.isub, 1) := by decide +kernel
theorem d_Mo_takeBlock_106 : decode b_Mo_takeBlock 106 = .ok (.istore 5, 2) := by decide +kernel
theorem d_Mo_takeBlock_108 : decode b_Mo_takeBlock 108 = .ok (.iload 5, 2) := by decide +kernel
theorem d_Mo_takeBlock_110 : decode b_Mo_takeBlock 110 = .ok (.ifCond .le 60, 3) := by decide +kernel
theorem d_Mo_takeBlock_113 : decode b_Mo_takeBlock 113 = .ok (.aload_n 0, 1) := by decide +kernel
theorem d_Mo_takeBlock_114 : decode b_Mo_takeBlock 114 = .ok (.iload_n 1, 1) := by decide +kernel
theorem d_Mo_takeBlock_115 : decode b_Mo_takeBlock 115 = .ok (.iload 5, 2) := by decide +kernel
theorem d_Mo_takeBlock_117 : decode b_Mo_takeBlock 117 = .ok (.iconst 1, 1) := by decide +kernel
theorem d_Mo_takeBlock_118 : decode b_Mo_takeBlock 118 = .ok (.iadd, 1) := by decide +kernel
theorem d_Mo_takeBlock_119 : decode b_Mo_takeBlock 119 = .ok (.invokevirtual 117, 3) := by decide +kernel
theorem d_Mo_takeBlock_122 : decode b_Mo_takeBlock 122 = .ok (.istore 6, 2) := by decide +kernel
theorem d_Mo_takeBlock_124 : decode b_Mo_takeBlock 124 = .ok (.aload_n 0, 1) := by decide +kernel
theorem d_Mo_takeBlock_125 : decode b_Mo_takeBlock 125 = .ok (.getfield 17, 3) := by decide +kernel
theorem d_Mo_takeBlock_128 : decode b_Mo_takeBlock 128 = .ok (.iload_n 2, 1) := by decide +kernel
theorem d_Mo_takeBlock_129 : decode b_Mo_takeBlock 129 = .ok (.iload 5, 2) := by decide +kernel
theorem d_Mo_takeBlock_131 : decode b_Mo_takeBlock 131 = .ok (.iadd, 1) := by decide +kernel
theorem d_Mo_takeBlock_132 : decode b_Mo_takeBlock 132 = .ok (.baload, 1) := by decide +kernel
theorem d_Mo_takeBlock_133 : decode b_Mo_takeBlock 133 = .ok (.istore 7, 2) := by decide +kernel
theorem d_Mo_takeBlock_135 : decode b_Mo_takeBlock 135 = .ok (.aload_n 0, 1) := by decide +kernel
theorem d_Mo_takeBlock_136 : decode b_Mo_takeBlock 136 = .ok (.getfield 17, 3) := by decide +kernel
theorem d_Mo_takeBlock_139 : decode b_Mo_takeBlock 139 = .ok (.iload_n 2, 1) := by decide +kernel
theorem d_Mo_takeBlock_140 : decode b_Mo_takeBlock 140 = .ok (.iload 5, 2) := by decide +kernel
theorem d_Mo_takeBlock_142 : decode b_Mo_takeBlock 142 = .ok (.iadd, 1) := by decide +kernel
theorem d_Mo_takeBlock_143 : decode b_Mo_takeBlock 143 = .ok (.aload_n 0, 1) := by decide +kernel
theorem d_Mo_takeBlock_144 : decode b_Mo_takeBlock 144 = .ok (.getfield 17, 3) := by decide +kernel
theorem d_Mo_takeBlock_147 : decode b_Mo_takeBlock 147 = .ok (.iload_n 2, 1) := by decide +kernel
theorem d_Mo_takeBlock_148 : decode b_Mo_takeBlock 148 = .ok (.iload 6, 2) := by decide +kernel
theorem d_Mo_takeBlock_150 : decode b_Mo_takeBlock 150 = .ok (.iadd, 1) := by decide +kernel
theorem d_Mo_takeBlock_151 : decode b_Mo_takeBlock 151 = .ok (.baload, 1) := by decide +kernel
theorem d_Mo_takeBlock_152 : decode b_Mo_takeBlock 152 = .ok (.bastore, 1) := by decide +kernel
theorem d_Mo_takeBlock_153 : decode b_Mo_takeBlock 153 = .ok (.aload_n 0, 1) := by decide +kernel
theorem d_Mo_takeBlock_154 : decode b_Mo_takeBlock 154 = .ok (.getfield 17, 3) := by decide +kernel
theorem d_Mo_takeBlock_157 : decode b_Mo_takeBlock 157 = .ok (.iload_n 2, 1) := by decide +kernel
theorem d_Mo_takeBlock_158 : decode b_Mo_takeBlock 158 = .ok (.iload 6, 2) := by decide +kernel
theorem d_Mo_takeBlock_160 : decode b_Mo_takeBlock 160 = .ok (.iadd, 1) := by decide +kernel
theorem d_Mo_takeBlock_161 : decode b_Mo_takeBlock 161 = .ok (.iload 7, 2) := by decide +kernel
theorem d_Mo_takeBlock_163 : decode b_Mo_takeBlock 163 = .ok (.bastore, 1) := by decide +kernel
theorem d_Mo_takeBlock_164 : decode b_Mo_takeBlock 164 = .ok (.iinc 5 (-1), 3) := by decide +kernel
theorem d_Mo_takeBlock_167 : decode b_Mo_takeBlock 167 = .ok (.goto (-59), 3) := by decide +kernel
theorem d_Mo_takeBlock_170 : decode b_Mo_takeBlock 170 = .ok (.aload_n 0, 1) := by decide +kernel
theorem d_Mo_takeBlock_171 : decode b_Mo_takeBlock 171 = .ok (.getfield 13, 3) := by decide +kernel
theorem d_Mo_takeBlock_174 : decode b_Mo_takeBlock 174 = .ok (.aload_n 0, 1) := by decide +kernel
theorem d_Mo_takeBlock_175 : decode b_Mo_takeBlock 175 = .ok (.getfield 95, 3) := by decide +kernel
theorem d_Mo_takeBlock_178 : decode b_Mo_takeBlock 178 = .ok (.iload_n 1, 1) := by decide +kernel
theorem d_Mo_takeBlock_179 : decode b_Mo_takeBlock 179 = .ok (.iastore, 1) := by decide +kernel
theorem d_Mo_takeBlock_180 : decode b_Mo_takeBlock 180 = .ok (.aload_n 0, 1) := by decide +kernel
theorem d_Mo_takeBlock_181 : decode b_Mo_takeBlock 181 = .ok (.getfield 21, 3) := by decide +kernel
theorem d_Mo_takeBlock_184 : decode b_Mo_takeBlock 184 = .ok (.iload_n 1, 1) := by decide +kernel
theorem d_Mo_takeBlock_185 : decode b_Mo_takeBlock 185 = .ok (.dup2, 1) := by decide +kernel
theorem d_Mo_takeBlock_186 : decode b_Mo_takeBlock 186 = .ok (.iaload, 1) := by decide +kernel
theorem d_Mo_takeBlock_187 : decode b_Mo_takeBlock 187 = .ok (.iconst 1, 1) := by decide +kernel
theorem d_Mo_takeBlock_188 : decode b_Mo_takeBlock 188 = .ok (.iadd, 1) := by decide +kernel
theorem d_Mo_takeBlock_189 : decode b_Mo_takeBlock 189 = .ok (.iastore, 1) := by decide +kernel
theorem d_Mo_takeBlock_190 : decode b_Mo_takeBlock 190 = .ok (.aload_n 0, 1) := by decide +kernel
theorem d_Mo_takeBlock_191 : decode b_Mo_takeBlock 191 = .ok (.dup, 1) := by decide +kernel
theorem d_Mo_takeBlock_192 : decode b_Mo_takeBlock 192 = .ok (.getfield 95, 3) := by decide +kernel
theorem d_Mo_takeBlock_195 : decode b_Mo_takeBlock 195 = .ok (.iconst 1, 1) := by decide +kernel
theorem d_Mo_takeBlock_196 : decode b_Mo_takeBlock 196 = .ok (.iadd, 1) := by decide +kernel
theorem d_Mo_takeBlock_197 : decode b_Mo_takeBlock 197 = .ok (.putfield 95, 3) := by decide +kernel
theorem d_Mo_takeBlock_200 : decode b_Mo_takeBlock 200 = .ok (.aload_n 0, 1) := by decide +kernel
theorem d_Mo_takeBlock_201 : decode b_Mo_takeBlock 201 = .ok (.getfield 95, 3) := by decide +kernel
theorem d_Mo_takeBlock_204 : decode b_Mo_takeBlock 204 = .ok (.iconst 1, 1) := by decide +kernel
theorem d_Mo_takeBlock_205 : decode b_Mo_takeBlock 205 = .ok (.isub, 1) := by decide +kernel
theorem d_Mo_takeBlock_206 : decode b_Mo_takeBlock 206 = .ok (.ireturn, 1) := by decide +kernel
theorem d_Mo_nextArm_0 : decode b_Mo_nextArm 0 = .ok (.aload_n 0, 1) := by decide +kernel
theorem d_Mo_nextArm_1 : decode b_Mo_nextArm 1 = .ok (.getfield 28, 3) := by decide +kernel
theorem d_Mo_nextArm_4 : decode b_Mo_nextArm 4 = .ok (.iload_n 1, 1) := by decide +kernel
theorem d_Mo_nextArm_5 : decode b_Mo_nextArm 5 = .ok (.iaload, 1) := by decide +kernel
theorem d_Mo_nextArm_6 : decode b_Mo_nextArm 6 = .ok (.ifCond .lt 38, 3) := by decide +kernel
theorem d_Mo_nextArm_9 : decode b_Mo_nextArm 9 = .ok (.aload_n 0, 1) := by decide +kernel
theorem d_Mo_nextArm_10 : decode b_Mo_nextArm 10 = .ok (.getfield 31, 3) := by decide +kernel
theorem d_Mo_nextArm_13 : decode b_Mo_nextArm 13 = .ok (.iload_n 1, 1) := by decide +kernel
theorem d_Mo_nextArm_14 : decode b_Mo_nextArm 14 = .ok (.iaload, 1) := by decide +kernel
theorem d_Mo_nextArm_15 : decode b_Mo_nextArm 15 = .ok (.aload_n 0, 1) := by decide +kernel
theorem d_Mo_nextArm_16 : decode b_Mo_nextArm 16 = .ok (.getfield 106, 3) := by decide +kernel
theorem d_Mo_nextArm_19 : decode b_Mo_nextArm 19 = .ok (.if_icmp .ge 25, 3) := by decide +kernel
theorem d_Mo_nextArm_22 : decode b_Mo_nextArm 22 = .ok (.aload_n 0, 1) := by decide +kernel
theorem d_Mo_nextArm_23 : decode b_Mo_nextArm 23 = .ok (.getfield 17, 3) := by decide +kernel
theorem d_Mo_nextArm_26 : decode b_Mo_nextArm 26 = .ok (.bipush 24, 2) := by decide +kernel
theorem d_Mo_nextArm_28 : decode b_Mo_nextArm 28 = .ok (.aload_n 0, 1) := by decide +kernel
theorem d_Mo_nextArm_29 : decode b_Mo_nextArm 29 = .ok (.getfield 28, 3) := by decide +kernel
theorem d_Mo_nextArm_32 : decode b_Mo_nextArm 32 = .ok (.iload_n 1, 1) := by decide +kernel
theorem d_Mo_nextArm_33 : decode b_Mo_nextArm 33 = .ok (.iaload, 1) := by decide +kernel
theorem d_Mo_nextArm_34 : decode b_Mo_nextArm 34 = .ok (.imul, 1) := by decide +kernel
theorem d_Mo_nextArm_35 : decode b_Mo_nextArm 35 = .ok (.aload_n 0, 1) := by decide +kernel
theorem d_Mo_nextArm_36 : decode b_Mo_nextArm 36 = .ok (.getfield 31, 3) := by decide +kernel
theorem d_Mo_nextArm_39 : decode b_Mo_nextArm 39 = .ok (.iload_n 1, 1) := by decide +kernel
theorem d_Mo_nextArm_40 : decode b_Mo_nextArm 40 = .ok (.iaload, 1) := by decide +kernel
theorem d_Mo_nextArm_41 : decode b_Mo_nextArm 41 = .ok (.iadd, 1) := by decide +kernel
theorem d_Mo_nextArm_42 : decode b_Mo_nextArm 42 = .ok (.baload, 1) := by decide +kernel
theorem d_Mo_nextArm_43 : decode b_Mo_nextArm 43 = .ok (.ireturn, 1) := by decide +kernel
theorem d_Mo_nextArm_44 : decode b_Mo_nextArm 44 = .ok (.aload_n 0, 1) := by decide +kernel
theorem d_Mo_nextArm_45 : decode b_Mo_nextArm 45 = .ok (.getfield 24, 3) := by decide +kernel
theorem d_Mo_nextArm_48 : decode b_Mo_nextArm 48 = .ok (.iload_n 1, 1) := by decide +kernel
theorem d_Mo_nextArm_49 : decode b_Mo_nextArm 49 = .ok (.laload, 1) := by decide +kernel
theorem d_Mo_nextArm_50 : decode b_Mo_nextArm 50 = .ok (.lstore_n 2, 1) := by decide +kernel
theorem d_Mo_nextArm_51 : decode b_Mo_nextArm 51 = .ok (.aload_n 0, 1) := by decide +kernel
theorem d_Mo_nextArm_52 : decode b_Mo_nextArm 52 = .ok (.iload_n 1, 1) := by decide +kernel
theorem d_Mo_nextArm_53 : decode b_Mo_nextArm 53 = .ok (.invokevirtual 121, 3) := by decide +kernel
theorem d_Mo_nextArm_56 : decode b_Mo_nextArm 56 = .ok (.istore 4, 2) := by decide +kernel
theorem d_Mo_nextArm_58 : decode b_Mo_nextArm 58 = .ok (.aload_n 0, 1) := by decide +kernel
theorem d_Mo_nextArm_59 : decode b_Mo_nextArm 59 = .ok (.getfield 17, 3) := by decide +kernel
theorem d_Mo_nextArm_62 : decode b_Mo_nextArm 62 = .ok (.bipush 24, 2) := by decide +kernel
theorem d_Mo_nextArm_64 : decode b_Mo_nextArm 64 = .ok (.iload 4, 2) := by decide +kernel
theorem d_Mo_nextArm_66 : decode b_Mo_nextArm 66 = .ok (.imul, 1) := by decide +kernel
theorem d_Mo_nextArm_67 : decode b_Mo_nextArm 67 = .ok (.baload, 1) := by decide +kernel
theorem d_Mo_nextArm_68 : decode b_Mo_nextArm 68 = .ok (.istore 5, 2) := by decide +kernel
theorem d_Mo_nextArm_70 : decode b_Mo_nextArm 70 = .ok (.aload_n 0, 1) := by decide +kernel
theorem d_Mo_nextArm_71 : decode b_Mo_nextArm 71 = .ok (.dup, 1) := by decide +kernel
theorem d_Mo_nextArm_72 : decode b_Mo_nextArm 72 = .ok (.getfield 95, 3) := by decide +kernel
theorem d_Mo_nextArm_75 : decode b_Mo_nextArm 75 = .ok (.iconst 1, 1) := by decide +kernel
theorem d_Mo_nextArm_76 : decode b_Mo_nextArm 76 = .ok (.isub, 1) := by decide +kernel
theorem d_Mo_nextArm_77 : decode b_Mo_nextArm 77 = .ok (.putfield 95, 3) := by decide +kernel
theorem d_Mo_nextArm_80 : decode b_Mo_nextArm 80 = .ok (.aload_n 0, 1) := by decide +kernel
theorem d_Mo_nextArm_81 : decode b_Mo_nextArm 81 = .ok (.getfield 21, 3) := by decide +kernel
theorem d_Mo_nextArm_84 : decode b_Mo_nextArm 84 = .ok (.iload_n 1, 1) := by decide +kernel
theorem d_Mo_nextArm_85 : decode b_Mo_nextArm 85 = .ok (.dup2, 1) := by decide +kernel
theorem d_Mo_nextArm_86 : decode b_Mo_nextArm 86 = .ok (.iaload, 1) := by decide +kernel
theorem d_Mo_nextArm_87 : decode b_Mo_nextArm 87 = .ok (.iconst 1, 1) := by decide +kernel
theorem d_Mo_nextArm_88 : decode b_Mo_nextArm 88 = .ok (.isub, 1) := by decide +kernel
theorem d_Mo_nextArm_89 : decode b_Mo_nextArm 89 = .ok (.iastore, 1) := by decide +kernel
theorem d_Mo_nextArm_90 : decode b_Mo_nextArm 90 = .ok (.aload_n 0, 1) := by decide +kernel
theorem d_Mo_nextArm_91 : decode b_Mo_nextArm 91 = .ok (.getfield 24, 3) := by decide +kernel
theorem d_Mo_nextArm_94 : decode b_Mo_nextArm 94 = .ok (.iload_n 1, 1) := by decide +kernel
theorem d_Mo_nextArm_95 : decode b_Mo_nextArm 95 = .ok (.lload_n 2, 1) := by decide +kernel
theorem d_Mo_nextArm_96 : decode b_Mo_nextArm 96 = .ok (.lastore, 1) := by decide +kernel
theorem d_Mo_nextArm_97 : decode b_Mo_nextArm 97 = .ok (.iload 5, 2) := by decide +kernel
theorem d_Mo_nextArm_99 : decode b_Mo_nextArm 99 = .ok (.ireturn, 1) := by decide +kernel
theorem d_Mo_site_0 : decode b_Mo_site 0 = .ok (.iload_n 1, 1) := by decide +kernel
theorem d_Mo_site_1 : decode b_Mo_site 1 = .ok (.iconst 0, 1) := by decide +kernel
theorem d_Mo_site_2 : decode b_Mo_site 2 = .ok (.bipush 9, 2) := by decide +kernel
theorem d_Mo_site_4 : decode b_Mo_site 4 = .ok (.invokestatic 74, 3) := by decide +kernel
theorem d_Mo_site_7 : decode b_Mo_site 7 = .ok (.ifCond .ne 7, 3) := by decide +kernel
theorem d_Mo_site_10 : decode b_Mo_site 10 = .ok (.iconst 1, 1) := by decide +kernel
theorem d_Mo_site_11 : decode b_Mo_site 11 = .ok (.goto 4, 3) := by decide +kernel
theorem d_Mo_site_14 : decode b_Mo_site 14 = .ok (.iconst 0, 1) := by decide +kernel
theorem d_Mo_site_15 : decode b_Mo_site 15 = .ok (.istore_n 2, 1) := by decide +kernel
theorem d_Mo_site_16 : decode b_Mo_site 16 = .ok (.aload_n 0, 1) := by decide +kernel
theorem d_Mo_site_17 : decode b_Mo_site 17 = .ok (.iload_n 2, 1) := by decide +kernel
theorem d_Mo_site_18 : decode b_Mo_site 18 = .ok (.iload_n 2, 1) := by decide +kernel
theorem d_Mo_site_19 : decode b_Mo_site 19 = .ok (.ifCond .ne 16, 3) := by decide +kernel
theorem d_Mo_site_22 : decode b_Mo_site 22 = .ok (.aload_n 0, 1) := by decide +kernel
theorem d_Mo_site_23 : decode b_Mo_site 23 = .ok (.getfield 34, 3) := by decide +kernel
theorem d_Mo_site_26 : decode b_Mo_site 26 = .ok (.iload_n 1, 1) := by decide +kernel
theorem d_Mo_site_27 : decode b_Mo_site 27 = .ok (.iaload, 1) := by decide +kernel
theorem d_Mo_site_28 : decode b_Mo_site 28 = .ok (.ifCond .le 7, 3) := by decide +kernel
theorem d_Mo_site_31 : decode b_Mo_site 31 = .ok (.iconst 1, 1) := by decide +kernel
theorem d_Mo_site_32 : decode b_Mo_site 32 = .ok (.goto 4, 3) := by decide +kernel
theorem d_Mo_site_35 : decode b_Mo_site 35 = .ok (.iconst 0, 1) := by decide +kernel
theorem d_Mo_site_36 : decode b_Mo_site 36 = .ok (.iconst 0, 1) := by decide +kernel
theorem d_Mo_site_37 : decode b_Mo_site 37 = .ok (.invokevirtual 98, 3) := by decide +kernel
theorem d_Mo_site_40 : decode b_Mo_site 40 = .ok (.ifCond .eq 5, 3) := by decide +kernel
theorem d_Mo_site_43 : decode b_Mo_site 43 = .ok (.iconst 0, 1) := by decide +kernel
theorem d_Mo_site_44 : decode b_Mo_site 44 = .ok (.ireturn, 1) := by decide +kernel
theorem d_Mo_site_45 : decode b_Mo_site 45 = .ok (.aload_n 0, 1) := by decide +kernel
theorem d_Mo_site_46 : decode b_Mo_site 46 = .ok (.getfield 89, 3) := by decide +kernel
theorem d_Mo_site_49 : decode b_Mo_site 49 = .ok (.ifCond .ne 10, 3) := by decide +kernel
theorem d_Mo_site_52 : decode b_Mo_site 52 = .ok (.aload_n 0, 1) := by decide +kernel
theorem d_Mo_site_53 : decode b_Mo_site 53 = .ok (.invokevirtual 102, 3) := by decide +kernel
theorem d_Mo_site_56 : decode b_Mo_site 56 = .ok (.ifCond .ne 6, 3) := by decide +kernel
theorem d_Mo_site_59 : decode b_Mo_site 59 = .ok (.bipush (-2), 2) := by decide +kernel
theorem d_Mo_site_61 : decode b_Mo_site 61 = .ok (.ireturn, 1) := by decide +kernel
theorem d_Mo_site_62 : decode b_Mo_site 62 = .ok (.aload_n 0, 1) := by decide +kernel
theorem d_Mo_site_63 : decode b_Mo_site 63 = .ok (.getfield 34, 3) := by decide +kernel
theorem d_Mo_site_66 : decode b_Mo_site 66 = .ok (.iload_n 1, 1) := by decide +kernel
theorem d_Mo_site_67 : decode b_Mo_site 67 = .ok (.iconst 1, 1) := by decide +kernel
theorem d_Mo_site_68 : decode b_Mo_site 68 = .ok (.iastore, 1) := by decide +kernel
theorem d_Mo_site_69 : decode b_Mo_site 69 = .ok (.iconst 0, 1) := by decide +kernel
theorem d_Mo_site_70 : decode b_Mo_site 70 = .ok (.istore_n 3, 1) := by decide +kernel
theorem d_Mo_site_71 : decode b_Mo_site 71 = .ok (.iconst 0, 1) := by decide +kernel
theorem d_Mo_site_72 : decode b_Mo_site 72 = .ok (.istore 4, 2) := by decide +kernel
theorem d_Mo_site_74 : decode b_Mo_site 74 = .ok (.iload 4, 2) := by decide +kernel
theorem d_Mo_site_76 : decode b_Mo_site 76 = .ok (.bipush 10, 2) := by decide +kernel
theorem d_Mo_site_78 : decode b_Mo_site 78 = .ok (.if_icmp .ge 27, 3) := by decide +kernel
theorem d_Mo_site_81 : decode b_Mo_site 81 = .ok (.aload_n 0, 1) := by decide +kernel
theorem d_Mo_site_82 : decode b_Mo_site 82 = .ok (.getfield 34, 3) := by decide +kernel
theorem d_Mo_site_85 : decode b_Mo_site 85 = .ok (.iload 4, 2) := by decide +kernel
theorem d_Mo_site_87 : decode b_Mo_site 87 = .ok (.iaload, 1) := by decide +kernel
theorem d_Mo_site_88 : decode b_Mo_site 88 = .ok (.ifCond .le 9, 3) := by decide +kernel
theorem d_Mo_site_91 : decode b_Mo_site 91 = .ok (.iload_n 3, 1) := by decide +kernel
theorem d_Mo_site_92 : decode b_Mo_site 92 = .ok (.iconst 1, 1) := by decide +kernel
theorem d_Mo_site_93 : decode b_Mo_site 93 = .ok (.iadd, 1) := by decide +kernel
theorem d_Mo_site_94 : decode b_Mo_site 94 = .ok (.goto 4, 3) := by decide +kernel
theorem d_Mo_site_97 : decode b_Mo_site 97 = .ok (.iload_n 3, 1) := by decide +kernel
theorem d_Mo_site_98 : decode b_Mo_site 98 = .ok (.istore_n 3, 1) := by decide +kernel
theorem d_Mo_site_99 : decode b_Mo_site 99 = .ok (.iinc 4 1, 3) := by decide +kernel
theorem d_Mo_site_102 : decode b_Mo_site 102 = .ok (.goto (-28), 3) := by decide +kernel
theorem d_Mo_site_105 : decode b_Mo_site 105 = .ok (.iload_n 3, 1) := by decide +kernel
theorem d_Mo_site_106 : decode b_Mo_site 106 = .ok (.ireturn, 1) := by decide +kernel
theorem d_Mo_free_0 : decode b_Mo_free 0 = .ok (.iconst 0, 1) := by decide +kernel
theorem d_Mo_free_1 : decode b_Mo_free 1 = .ok (.istore_n 3, 1) := by decide +kernel
theorem d_Mo_free_2 : decode b_Mo_free 2 = .ok (.iconst 0, 1) := by decide +kernel
theorem d_Mo_free_3 : decode b_Mo_free 3 = .ok (.istore 4, 2) := by decide +kernel
theorem d_Mo_free_5 : decode b_Mo_free 5 = .ok (.iload 4, 2) := by decide +kernel
theorem d_Mo_free_7 : decode b_Mo_free 7 = .ok (.sipush 1000, 3) := by decide +kernel
theorem d_Mo_free_10 : decode b_Mo_free 10 = .ok (.if_icmp .ge 49, 3) := by decide +kernel
theorem d_Mo_free_13 : decode b_Mo_free 13 = .ok (.aload_n 0, 1) := by decide +kernel
theorem d_Mo_free_14 : decode b_Mo_free 14 = .ok (.getfield 37, 3) := by decide +kernel
theorem d_Mo_free_17 : decode b_Mo_free 17 = .ok (.iload 4, 2) := by decide +kernel
theorem d_Mo_free_19 : decode b_Mo_free 19 = .ok (.iaload, 1) := by decide +kernel
theorem d_Mo_free_20 : decode b_Mo_free 20 = .ok (.iload_n 1, 1) := by decide +kernel
theorem d_Mo_free_21 : decode b_Mo_free 21 = .ok (.if_icmp .ne 30, 3) := by decide +kernel
theorem d_Mo_free_24 : decode b_Mo_free 24 = .ok (.aload_n 0, 1) := by decide +kernel
theorem d_Mo_free_25 : decode b_Mo_free 25 = .ok (.getfield 40, 3) := by decide +kernel
theorem d_Mo_free_28 : decode b_Mo_free 28 = .ok (.iload 4, 2) := by decide +kernel
theorem d_Mo_free_30 : decode b_Mo_free 30 = .ok (.iaload, 1) := by decide +kernel
theorem d_Mo_free_31 : decode b_Mo_free 31 = .ok (.iload_n 2, 1) := by decide +kernel
theorem d_Mo_free_32 : decode b_Mo_free 32 = .ok (.if_icmp .ne 19, 3) := by decide +kernel
theorem d_Mo_free_35 : decode b_Mo_free 35 = .ok (.aload_n 0, 1) := by decide +kernel
theorem d_Mo_free_36 : decode b_Mo_free 36 = .ok (.getfield 43, 3) := by decide +kernel
theorem d_Mo_free_39 : decode b_Mo_free 39 = .ok (.iload 4, 2) := by decide +kernel
theorem d_Mo_free_41 : decode b_Mo_free 41 = .ok (.iaload, 1) := by decide +kernel
theorem d_Mo_free_42 : decode b_Mo_free 42 = .ok (.ifCond .ne 9, 3) := by decide +kernel
theorem d_Mo_free_45 : decode b_Mo_free 45 = .ok (.iload_n 3, 1) := by decide +kernel
theorem d_Mo_free_46 : decode b_Mo_free 46 = .ok (.iconst 1, 1) := by decide +kernel
theorem d_Mo_free_47 : decode b_Mo_free 47 = .ok (.iadd, 1) := by decide +kernel
theorem d_Mo_free_48 : decode b_Mo_free 48 = .ok (.goto 4, 3) := by decide +kernel
theorem d_Mo_free_51 : decode b_Mo_free 51 = .ok (.iload_n 3, 1) := by decide +kernel
theorem d_Mo_free_52 : decode b_Mo_free 52 = .ok (.istore_n 3, 1) := by decide +kernel
theorem d_Mo_free_53 : decode b_Mo_free 53 = .ok (.iinc 4 1, 3) := by decide +kernel
theorem d_Mo_free_56 : decode b_Mo_free 56 = .ok (.goto (-51), 3) := by decide +kernel
theorem d_Mo_free_59 : decode b_Mo_free 59 = .ok (.iload_n 3, 1) := by decide +kernel
theorem d_Mo_free_60 : decode b_Mo_free 60 = .ok (.ireturn, 1) := by decide +kernel
theorem d_Mo_leastFree_0 : decode b_Mo_leastFree 0 = .ok (.iconst 0, 1) := by decide +kernel
theorem d_Mo_leastFree_1 : decode b_Mo_leastFree 1 = .ok (.istore_n 3, 1) := by decide +kernel
theorem d_Mo_leastFree_2 : decode b_Mo_leastFree 2 = .ok (.iload_n 3, 1) := by decide +kernel
theorem d_Mo_leastFree_3 : decode b_Mo_leastFree 3 = .ok (.sipush 1000, 3) := by decide +kernel
theorem d_Mo_leastFree_6 : decode b_Mo_leastFree 6 = .ok (.if_icmp .ge 38, 3) := by decide +kernel
theorem d_Mo_leastFree_9 : decode b_Mo_leastFree 9 = .ok (.aload_n 0, 1) := by decide +kernel
theorem d_Mo_leastFree_10 : decode b_Mo_leastFree 10 = .ok (.getfield 37, 3) := by decide +kernel
theorem d_Mo_leastFree_13 : decode b_Mo_leastFree 13 = .ok (.iload_n 3, 1) := by decide +kernel
theorem d_Mo_leastFree_14 : decode b_Mo_leastFree 14 = .ok (.iaload, 1) := by decide +kernel
theorem d_Mo_leastFree_15 : decode b_Mo_leastFree 15 = .ok (.iload_n 1, 1) := by decide +kernel
theorem d_Mo_leastFree_16 : decode b_Mo_leastFree 16 = .ok (.if_icmp .ne 22, 3) := by decide +kernel
theorem d_Mo_leastFree_19 : decode b_Mo_leastFree 19 = .ok (.aload_n 0, 1) := by decide +kernel
theorem d_Mo_leastFree_20 : decode b_Mo_leastFree 20 = .ok (.getfield 40, 3) := by decide +kernel
theorem d_Mo_leastFree_23 : decode b_Mo_leastFree 23 = .ok (.iload_n 3, 1) := by decide +kernel
theorem d_Mo_leastFree_24 : decode b_Mo_leastFree 24 = .ok (.iaload, 1) := by decide +kernel
theorem d_Mo_leastFree_25 : decode b_Mo_leastFree 25 = .ok (.iload_n 2, 1) := by decide +kernel
theorem d_Mo_leastFree_26 : decode b_Mo_leastFree 26 = .ok (.if_icmp .ne 12, 3) := by decide +kernel
theorem d_Mo_leastFree_29 : decode b_Mo_leastFree 29 = .ok (.aload_n 0, 1) := by decide +kernel
theorem d_Mo_leastFree_30 : decode b_Mo_leastFree 30 = .ok (.getfield 43, 3) := by decide +kernel
theorem d_Mo_leastFree_33 : decode b_Mo_leastFree 33 = .ok (.iload_n 3, 1) := by decide +kernel
theorem d_Mo_leastFree_34 : decode b_Mo_leastFree 34 = .ok (.iaload, 1) := by decide +kernel
theorem d_Mo_leastFree_35 : decode b_Mo_leastFree 35 = .ok (.ifCond .eq 9, 3) := by decide +kernel
theorem d_Mo_leastFree_38 : decode b_Mo_leastFree 38 = .ok (.iinc 3 1, 3) := by decide +kernel
theorem d_Mo_leastFree_41 : decode b_Mo_leastFree 41 = .ok (.goto (-39), 3) := by decide +kernel
theorem d_Mo_leastFree_44 : decode b_Mo_leastFree 44 = .ok (.iload_n 3, 1) := by decide +kernel
theorem d_Mo_leastFree_45 : decode b_Mo_leastFree 45 = .ok (.sipush 1000, 3) := by decide +kernel
theorem d_Mo_leastFree_48 : decode b_Mo_leastFree 48 = .ok (.if_icmp .ge 7, 3) := by decide +kernel
theorem d_Mo_leastFree_51 : decode b_Mo_leastFree 51 = .ok (.iload_n 3, 1) := by decide +kernel
theorem d_Mo_leastFree_52 : decode b_Mo_leastFree 52 = .ok (.goto 4, 3) := by decide +kernel
theorem d_Mo_leastFree_55 : decode b_Mo_leastFree 55 = .ok (.iconst (-1), 1) := by decide +kernel
theorem d_Mo_leastFree_56 : decode b_Mo_leastFree 56 = .ok (.ireturn, 1) := by decide +kernel
theorem d_Mo_kits_0 : decode b_Mo_kits 0 = .ok (.aload_n 0, 1) := by decide +kernel
theorem d_Mo_kits_1 : decode b_Mo_kits 1 = .ok (.iload_n 1, 1) := by decide +kernel
theorem d_Mo_kits_2 : decode b_Mo_kits 2 = .ok (.invokevirtual 78, 3) := by decide +kernel
theorem d_Mo_kits_5 : decode b_Mo_kits 5 = .ok (.ifCond .eq 37, 3) := by decide +kernel
theorem d_Mo_kits_8 : decode b_Mo_kits 8 = .ok (.aload_n 0, 1) := by decide +kernel
theorem d_Mo_kits_9 : decode b_Mo_kits 9 = .ok (.iload_n 2, 1) := by decide +kernel
theorem d_Mo_kits_10 : decode b_Mo_kits 10 = .ok (.invokevirtual 125, 3) := by decide +kernel
theorem d_Mo_kits_13 : decode b_Mo_kits 13 = .ok (.ifCond .eq 29, 3) := by decide +kernel
theorem d_Mo_kits_16 : decode b_Mo_kits 16 = .ok (.iload_n 3, 1) := by decide +kernel
theorem d_Mo_kits_17 : decode b_Mo_kits 17 = .ok (.iconst 0, 1) := by decide +kernel
theorem d_Mo_kits_18 : decode b_Mo_kits 18 = .ok (.sipush 999, 3) := by decide +kernel
theorem d_Mo_kits_21 : decode b_Mo_kits 21 = .ok (.invokestatic 74, 3) := by decide +kernel
theorem d_Mo_kits_24 : decode b_Mo_kits 24 = .ok (.ifCond .eq 18, 3) := by decide +kernel
theorem d_Mo_kits_27 : decode b_Mo_kits 27 = .ok (.iload_n 3, 1) := by decide +kernel
theorem d_Mo_kits_28 : decode b_Mo_kits 28 = .ok (.i2l, 1) := by decide +kernel
theorem d_Mo_kits_29 : decode b_Mo_kits 29 = .ok (.iload 4, 2) := by decide +kernel
theorem d_Mo_kits_31 : decode b_Mo_kits 31 = .ok (.i2l, 1) := by decide +kernel
theorem d_Mo_kits_32 : decode b_Mo_kits 32 = .ok (.ladd, 1) := by decide +kernel
theorem d_Mo_kits_33 : decode b_Mo_kits 33 = .ok (.lconst 1, 1) := by decide +kernel
theorem d_Mo_kits_34 : decode b_Mo_kits 34 = .ok (.lsub, 1) := by decide +kernel
theorem d_Mo_kits_35 : decode b_Mo_kits 35 = .ok (.ldc2_w 128, 3) := by decide +kernel
theorem d_Mo_kits_38 : decode b_Mo_kits 38 = .ok (.lcmp, 1) := by decide +kernel
theorem d_Mo_kits_39 : decode b_Mo_kits 39 = .ok (.ifCond .le 7, 3) := by decide +kernel
theorem d_Mo_kits_42 : decode b_Mo_kits 42 = .ok (.iconst 1, 1) := by decide +kernel
theorem d_Mo_kits_43 : decode b_Mo_kits 43 = .ok (.goto 4, 3) := by decide +kernel
theorem d_Mo_kits_46 : decode b_Mo_kits 46 = .ok (.iconst 0, 1) := by decide +kernel
theorem d_Mo_kits_47 : decode b_Mo_kits 47 = .ok (.istore 5, 2) := by decide +kernel
theorem d_Mo_kits_49 : decode b_Mo_kits 49 = .ok (.aload_n 0, 1) := by decide +kernel
theorem d_Mo_kits_50 : decode b_Mo_kits 50 = .ok (.iload 5, 2) := by decide +kernel
theorem d_Mo_kits_52 : decode b_Mo_kits 52 = .ok (.aload_n 0, 1) := by decide +kernel
theorem d_Mo_kits_53 : decode b_Mo_kits 53 = .ok (.getfield 82, 3) := by decide +kernel
theorem d_Mo_kits_56 : decode b_Mo_kits 56 = .ok (.ifCond .ne 7, 3) := by decide +kernel
theorem d_Mo_kits_59 : decode b_Mo_kits 59 = .ok (.iconst 1, 1) := by decide +kernel
theorem d_Mo_kits_60 : decode b_Mo_kits 60 = .ok (.goto 4, 3) := by decide +kernel
theorem d_Mo_kits_63 : decode b_Mo_kits 63 = .ok (.iconst 0, 1) := by decide +kernel
theorem d_Mo_kits_64 : decode b_Mo_kits 64 = .ok (.iload 4, 2) := by decide +kernel
theorem d_Mo_kits_66 : decode b_Mo_kits 66 = .ok (.iconst 1, 1) := by decide +kernel
theorem d_Mo_kits_67 : decode b_Mo_kits 67 = .ok (.bipush 50, 2) := by decide +kernel
theorem d_Mo_kits_69 : decode b_Mo_kits 69 = .ok (.invokestatic 74, 3) := by decide +kernel
theorem d_Mo_kits_72 : decode b_Mo_kits 72 = .ok (.ifCond .ne 7, 3) := by decide +kernel
theorem d_Mo_kits_75 : decode b_Mo_kits 75 = .ok (.iconst 1, 1) := by decide +kernel
theorem d_Mo_kits_76 : decode b_Mo_kits 76 = .ok (.goto 4, 3) := by decide +kernel
theorem d_Mo_kits_79 : decode b_Mo_kits 79 = .ok (.iconst 0, 1) := by decide +kernel
theorem d_Mo_kits_80 : decode b_Mo_kits 80 = .ok (.invokevirtual 98, 3) := by decide +kernel
theorem d_Mo_kits_83 : decode b_Mo_kits 83 = .ok (.ifCond .eq 5, 3) := by decide +kernel
theorem d_Mo_kits_86 : decode b_Mo_kits 86 = .ok (.iconst 0, 1) := by decide +kernel
theorem d_Mo_kits_87 : decode b_Mo_kits 87 = .ok (.ireturn, 1) := by decide +kernel
theorem d_Mo_kits_88 : decode b_Mo_kits 88 = .ok (.aload_n 0, 1) := by decide +kernel
theorem d_Mo_kits_89 : decode b_Mo_kits 89 = .ok (.getfield 89, 3) := by decide +kernel
theorem d_Mo_kits_92 : decode b_Mo_kits 92 = .ok (.ifCond .eq 6, 3) := by decide +kernel
theorem d_Mo_kits_95 : decode b_Mo_kits 95 = .ok (.bipush (-2), 2) := by decide +kernel
theorem d_Mo_kits_97 : decode b_Mo_kits 97 = .ok (.ireturn, 1) := by decide +kernel
theorem d_Mo_kits_98 : decode b_Mo_kits 98 = .ok (.aload_n 0, 1) := by decide +kernel
theorem d_Mo_kits_99 : decode b_Mo_kits 99 = .ok (.getfield 34, 3) := by decide +kernel
theorem d_Mo_kits_102 : decode b_Mo_kits 102 = .ok (.iload_n 1, 1) := by decide +kernel
theorem d_Mo_kits_103 : decode b_Mo_kits 103 = .ok (.iaload, 1) := by decide +kernel
theorem d_Mo_kits_104 : decode b_Mo_kits 104 = .ok (.iconst 2, 1) := by decide +kernel
theorem d_Mo_kits_105 : decode b_Mo_kits 105 = .ok (.if_icmp .ne 6, 3) := by decide +kernel
theorem d_Mo_kits_108 : decode b_Mo_kits 108 = .ok (.bipush (-4), 2) := by decide +kernel
theorem d_Mo_kits_110 : decode b_Mo_kits 110 = .ok (.ireturn, 1) := by decide +kernel
theorem d_Mo_kits_111 : decode b_Mo_kits 111 = .ok (.iload_n 3, 1) := by decide +kernel
theorem d_Mo_kits_112 : decode b_Mo_kits 112 = .ok (.istore 6, 2) := by decide +kernel
theorem d_Mo_kits_114 : decode b_Mo_kits 114 = .ok (.iload 6, 2) := by decide +kernel
theorem d_Mo_kits_116 : decode b_Mo_kits 116 = .ok (.iload_n 3, 1) := by decide +kernel
theorem d_Mo_kits_117 : decode b_Mo_kits 117 = .ok (.iload 4, 2) := by decide +kernel
theorem d_Mo_kits_119 : decode b_Mo_kits 119 = .ok (.iadd, 1) := by decide +kernel
theorem d_Mo_kits_120 : decode b_Mo_kits 120 = .ok (.if_icmp .ge 22, 3) := by decide +kernel
theorem d_Mo_kits_123 : decode b_Mo_kits 123 = .ok (.aload_n 0, 1) := by decide +kernel
theorem d_Mo_kits_124 : decode b_Mo_kits 124 = .ok (.getfield 37, 3) := by decide +kernel
theorem d_Mo_kits_127 : decode b_Mo_kits 127 = .ok (.iload 6, 2) := by decide +kernel
theorem d_Mo_kits_129 : decode b_Mo_kits 129 = .ok (.iaload, 1) := by decide +kernel
theorem d_Mo_kits_130 : decode b_Mo_kits 130 = .ok (.ifCond .lt 6, 3) := by decide +kernel
theorem d_Mo_kits_133 : decode b_Mo_kits 133 = .ok (.bipush (-5), 2) := by decide +kernel
theorem d_Mo_kits_135 : decode b_Mo_kits 135 = .ok (.ireturn, 1) := by decide +kernel
theorem d_Mo_kits_136 : decode b_Mo_kits 136 = .ok (.iinc 6 1, 3) := by decide +kernel
theorem d_Mo_kits_139 : decode b_Mo_kits 139 = .ok (.goto (-25), 3) := by decide +kernel
theorem d_Mo_kits_142 : decode b_Mo_kits 142 = .ok (.aload_n 0, 1) := by decide +kernel
theorem d_Mo_kits_143 : decode b_Mo_kits 143 = .ok (.invokevirtual 102, 3) := by decide +kernel
theorem d_Mo_kits_146 : decode b_Mo_kits 146 = .ok (.ifCond .ne 6, 3) := by decide +kernel
theorem d_Mo_kits_149 : decode b_Mo_kits 149 = .ok (.bipush (-2), 2) := by decide +kernel
theorem d_Mo_kits_151 : decode b_Mo_kits 151 = .ok (.ireturn, 1) := by decide +kernel
theorem d_Mo_kits_152 : decode b_Mo_kits 152 = .ok (.iload_n 3, 1) := by decide +kernel
theorem d_Mo_kits_153 : decode b_Mo_kits 153 = .ok (.istore 6, 2) := by decide +kernel
theorem d_Mo_kits_155 : decode b_Mo_kits 155 = .ok (.iload 6, 2) := by decide +kernel
theorem d_Mo_kits_157 : decode b_Mo_kits 157 = .ok (.iload_n 3, 1) := by decide +kernel
theorem d_Mo_kits_158 : decode b_Mo_kits 158 = .ok (.iload 4, 2) := by decide +kernel
theorem d_Mo_kits_160 : decode b_Mo_kits 160 = .ok (.iadd, 1) := by decide +kernel
theorem d_Mo_kits_161 : decode b_Mo_kits 161 = .ok (.if_icmp .ge 25, 3) := by decide +kernel
theorem d_Mo_kits_164 : decode b_Mo_kits 164 = .ok (.aload_n 0, 1) := by decide +kernel
theorem d_Mo_kits_165 : decode b_Mo_kits 165 = .ok (.getfield 37, 3) := by decide +kernel
theorem d_Mo_kits_168 : decode b_Mo_kits 168 = .ok (.iload 6, 2) := by decide +kernel
theorem d_Mo_kits_170 : decode b_Mo_kits 170 = .ok (.iload_n 1, 1) := by decide +kernel
theorem d_Mo_kits_171 : decode b_Mo_kits 171 = .ok (.iastore, 1) := by decide +kernel
theorem d_Mo_kits_172 : decode b_Mo_kits 172 = .ok (.aload_n 0, 1) := by decide +kernel
theorem d_Mo_kits_173 : decode b_Mo_kits 173 = .ok (.getfield 40, 3) := by decide +kernel
theorem d_Mo_kits_176 : decode b_Mo_kits 176 = .ok (.iload 6, 2) := by decide +kernel
theorem d_Mo_kits_178 : decode b_Mo_kits 178 = .ok (.iload_n 2, 1) := by decide +kernel
theorem d_Mo_kits_179 : decode b_Mo_kits 179 = .ok (.iastore, 1) := by decide +kernel
theorem d_Mo_kits_180 : decode b_Mo_kits 180 = .ok (.iinc 6 1, 3) := by decide +kernel
theorem d_Mo_kits_183 : decode b_Mo_kits 183 = .ok (.goto (-28), 3) := by decide +kernel
theorem d_Mo_kits_186 : decode b_Mo_kits 186 = .ok (.aload_n 0, 1) := by decide +kernel
theorem d_Mo_kits_187 : decode b_Mo_kits 187 = .ok (.iload_n 1, 1) := by decide +kernel
theorem d_Mo_kits_188 : decode b_Mo_kits 188 = .ok (.iload_n 2, 1) := by decide +kernel
theorem d_Mo_kits_189 : decode b_Mo_kits 189 = .ok (.invokevirtual 130, 3) := by decide +kernel
theorem d_Mo_kits_192 : decode b_Mo_kits 192 = .ok (.ireturn, 1) := by decide +kernel
theorem d_Mo_give_0 : decode b_Mo_give 0 = .ok (.bipush 100, 2) := by decide +kernel
theorem d_Mo_give_2 : decode b_Mo_give 2 = .ok (.iload_n 1, 1) := by decide +kernel
theorem d_Mo_give_3 : decode b_Mo_give 3 = .ok (.imul, 1) := by decide +kernel
theorem d_Mo_give_4 : decode b_Mo_give 4 = .ok (.iload_n 3, 1) := by decide +kernel
theorem d_Mo_give_5 : decode b_Mo_give 5 = .ok (.iadd, 1) := by decide +kernel
theorem d_Mo_give_6 : decode b_Mo_give 6 = .ok (.istore 7, 2) := by decide +kernel
theorem d_Mo_give_8 : decode b_Mo_give 8 = .ok (.aload_n 0, 1) := by decide +kernel
theorem d_Mo_give_9 : decode b_Mo_give 9 = .ok (.getfield 46, 3) := by decide +kernel
theorem d_Mo_give_12 : decode b_Mo_give 12 = .ok (.iload 7, 2) := by decide +kernel
theorem d_Mo_give_14 : decode b_Mo_give 14 = .ok (.iload 6, 2) := by decide +kernel
theorem d_Mo_give_16 : decode b_Mo_give 16 = .ok (.ifCond .eq 7, 3) := by decide +kernel
theorem d_Mo_give_19 : decode b_Mo_give 19 = .ok (.iconst 1, 1) := by decide +kernel
theorem d_Mo_give_20 : decode b_Mo_give 20 = .ok (.goto 4, 3) := by decide +kernel
theorem d_Mo_give_23 : decode b_Mo_give 23 = .ok (.iconst 2, 1) := by decide +kernel
theorem d_Mo_give_24 : decode b_Mo_give 24 = .ok (.iastore, 1) := by decide +kernel
theorem d_Mo_give_25 : decode b_Mo_give 25 = .ok (.aload_n 0, 1) := by decide +kernel
theorem d_Mo_give_26 : decode b_Mo_give 26 = .ok (.getfield 49, 3) := by decide +kernel
theorem d_Mo_give_29 : decode b_Mo_give 29 = .ok (.iload 7, 2) := by decide +kernel
theorem d_Mo_give_31 : decode b_Mo_give 31 = .ok (.iload_n 2, 1) := by decide +kernel
theorem d_Mo_give_32 : decode b_Mo_give 32 = .ok (.iastore, 1) := by decide +kernel
theorem d_Mo_give_33 : decode b_Mo_give 33 = .ok (.aload_n 0, 1) := by decide +kernel
theorem d_Mo_give_34 : decode b_Mo_give 34 = .ok (.getfield 52, 3) := by decide +kernel
theorem d_Mo_give_37 : decode b_Mo_give 37 = .ok (.iload 7, 2) := by decide +kernel
theorem d_Mo_give_39 : decode b_Mo_give 39 = .ok (.iload 4, 2) := by decide +kernel
theorem d_Mo_give_41 : decode b_Mo_give 41 = .ok (.iastore, 1) := by decide +kernel
theorem d_Mo_give_42 : decode b_Mo_give 42 = .ok (.aload_n 0, 1) := by decide +kernel
theorem d_Mo_give_43 : decode b_Mo_give 43 = .ok (.getfield 55, 3) := by decide +kernel
theorem d_Mo_give_46 : decode b_Mo_give 46 = .ok (.iload 7, 2) := by decide +kernel
theorem d_Mo_give_48 : decode b_Mo_give 48 = .ok (.iload 5, 2) := by decide +kernel
theorem d_Mo_give_50 : decode b_Mo_give 50 = .ok (.iastore, 1) := by decide +kernel
theorem d_Mo_give_51 : decode b_Mo_give 51 = .ok (.aload_n 0, 1) := by decide +kernel
theorem d_Mo_give_52 : decode b_Mo_give 52 = .ok (.getfield 43, 3) := by decide +kernel
theorem d_Mo_give_55 : decode b_Mo_give 55 = .ok (.iload 5, 2) := by decide +kernel
theorem d_Mo_give_57 : decode b_Mo_give 57 = .ok (.iconst 2, 1) := by decide +kernel
theorem d_Mo_give_58 : decode b_Mo_give 58 = .ok (.iastore, 1) := by decide +kernel
theorem d_Mo_give_59 : decode b_Mo_give 59 = .ok (.return_, 1) := by decide +kernel
theorem d_Mo_allot_0 : decode b_Mo_allot 0 = .ok (.aload_n 0, 1) := by decide +kernel
theorem d_Mo_allot_1 : decode b_Mo_allot 1 = .ok (.aload_n 0, 1) := by decide +kernel
theorem d_Mo_allot_2 : decode b_Mo_allot 2 = .ok (.iload_n 1, 1) := by decide +kernel
theorem d_Mo_allot_3 : decode b_Mo_allot 3 = .ok (.iload_n 3, 1) := by decide +kernel
theorem d_Mo_allot_4 : decode b_Mo_allot 4 = .ok (.invokevirtual 133, 3) := by decide +kernel
theorem d_Mo_allot_7 : decode b_Mo_allot 7 = .ok (.ifCond .eq 10, 3) := by decide +kernel
theorem d_Mo_allot_10 : decode b_Mo_allot 10 = .ok (.iload_n 2, 1) := by decide +kernel
theorem d_Mo_allot_11 : decode b_Mo_allot 11 = .ok (.invokestatic 137, 3) := by decide +kernel
theorem d_Mo_allot_14 : decode b_Mo_allot 14 = .ok (.ifCond .ne 7, 3) := by decide +kernel
theorem d_Mo_allot_17 : decode b_Mo_allot 17 = .ok (.iconst 1, 1) := by decide +kernel
theorem d_Mo_allot_18 : decode b_Mo_allot 18 = .ok (.goto 4, 3) := by decide +kernel
theorem d_Mo_allot_21 : decode b_Mo_allot 21 = .ok (.iconst 0, 1) := by decide +kernel
theorem d_Mo_allot_22 : decode b_Mo_allot 22 = .ok (.aload_n 0, 1) := by decide +kernel
theorem d_Mo_allot_23 : decode b_Mo_allot 23 = .ok (.getfield 82, 3) := by decide +kernel
theorem d_Mo_allot_26 : decode b_Mo_allot 26 = .ok (.ifCond .ne 7, 3) := by decide +kernel
theorem d_Mo_allot_29 : decode b_Mo_allot 29 = .ok (.iconst 1, 1) := by decide +kernel
theorem d_Mo_allot_30 : decode b_Mo_allot 30 = .ok (.goto 4, 3) := by decide +kernel
theorem d_Mo_allot_33 : decode b_Mo_allot 33 = .ok (.iconst 0, 1) := by decide +kernel
theorem d_Mo_allot_34 : decode b_Mo_allot 34 = .ok (.iconst 0, 1) := by decide +kernel
theorem d_Mo_allot_35 : decode b_Mo_allot 35 = .ok (.invokevirtual 98, 3) := by decide +kernel
theorem d_Mo_allot_38 : decode b_Mo_allot 38 = .ok (.ifCond .eq 5, 3) := by decide +kernel
theorem d_Mo_allot_41 : decode b_Mo_allot 41 = .ok (.iconst 0, 1) := by decide +kernel
theorem d_Mo_allot_42 : decode b_Mo_allot 42 = .ok (.ireturn, 1) := by decide +kernel
theorem d_Mo_allot_43 : decode b_Mo_allot 43 = .ok (.aload_n 0, 1) := by decide +kernel
theorem d_Mo_allot_44 : decode b_Mo_allot 44 = .ok (.getfield 89, 3) := by decide +kernel
theorem d_Mo_allot_47 : decode b_Mo_allot 47 = .ok (.ifCond .ne 20, 3) := by decide +kernel
theorem d_Mo_allot_50 : decode b_Mo_allot 50 = .ok (.aload_n 0, 1) := by decide +kernel
theorem d_Mo_allot_51 : decode b_Mo_allot 51 = .ok (.getfield 140, 3) := by decide +kernel
theorem d_Mo_allot_54 : decode b_Mo_allot 54 = .ok (.ifCond .ne 13, 3) := by decide +kernel
theorem d_Mo_allot_57 : decode b_Mo_allot 57 = .ok (.aload_n 0, 1) := by decide +kernel
theorem d_Mo_allot_58 : decode b_Mo_allot 58 = .ok (.getfield 34, 3) := by decide +kernel
theorem d_Mo_allot_61 : decode b_Mo_allot 61 = .ok (.iload_n 1, 1) := by decide +kernel
theorem d_Mo_allot_62 : decode b_Mo_allot 62 = .ok (.iaload, 1) := by decide +kernel
theorem d_Mo_allot_63 : decode b_Mo_allot 63 = .ok (.iconst 2, 1) := by decide +kernel
theorem d_Mo_allot_64 : decode b_Mo_allot 64 = .ok (.if_icmp .ne 30, 3) := by decide +kernel
theorem d_Mo_allot_67 : decode b_Mo_allot 67 = .ok (.aload_n 0, 1) := by decide +kernel
theorem d_Mo_allot_68 : decode b_Mo_allot 68 = .ok (.getfield 89, 3) := by decide +kernel
theorem d_Mo_allot_71 : decode b_Mo_allot 71 = .ok (.ifCond .eq 8, 3) := by decide +kernel
theorem d_Mo_allot_74 : decode b_Mo_allot 74 = .ok (.bipush (-2), 2) := by decide +kernel
theorem d_Mo_allot_76 : decode b_Mo_allot 76 = .ok (.goto 17, 3) := by decide +kernel
theorem d_Mo_allot_79 : decode b_Mo_allot 79 = .ok (.aload_n 0, 1) := by decide +kernel
theorem d_Mo_allot_80 : decode b_Mo_allot 80 = .ok (.getfield 140, 3) := by decide +kernel
theorem d_Mo_allot_83 : decode b_Mo_allot 83 = .ok (.ifCond .eq 8, 3) := by decide +kernel
theorem d_Mo_allot_86 : decode b_Mo_allot 86 = .ok (.bipush (-3), 2) := by decide +kernel
theorem d_Mo_allot_88 : decode b_Mo_allot 88 = .ok (.goto 5, 3) := by decide +kernel
theorem d_Mo_allot_91 : decode b_Mo_allot 91 = .ok (.bipush (-4), 2) := by decide +kernel
theorem d_Mo_allot_93 : decode b_Mo_allot 93 = .ok (.ireturn, 1) := by decide +kernel
theorem d_Mo_allot_94 : decode b_Mo_allot 94 = .ok (.aload_n 0, 1) := by decide +kernel
theorem d_Mo_allot_95 : decode b_Mo_allot 95 = .ok (.getfield 46, 3) := by decide +kernel
theorem d_Mo_allot_98 : decode b_Mo_allot 98 = .ok (.bipush 100, 2) := by decide +kernel
theorem d_Mo_allot_100 : decode b_Mo_allot 100 = .ok (.iload_n 1, 1) := by decide +kernel
theorem d_Mo_allot_101 : decode b_Mo_allot 101 = .ok (.imul, 1) := by decide +kernel
theorem d_Mo_allot_102 : decode b_Mo_allot 102 = .ok (.iload_n 3, 1) := by decide +kernel
theorem d_Mo_allot_103 : decode b_Mo_allot 103 = .ok (.iadd, 1) := by decide +kernel
theorem d_Mo_allot_104 : decode b_Mo_allot 104 = .ok (.iaload, 1) := by decide +kernel
theorem d_Mo_allot_105 : decode b_Mo_allot 105 = .ok (.ifCond .le 6, 3) := by decide +kernel
theorem d_Mo_allot_108 : decode b_Mo_allot 108 = .ok (.bipush (-5), 2) := by decide +kernel
theorem d_Mo_allot_110 : decode b_Mo_allot 110 = .ok (.ireturn, 1) := by decide +kernel
theorem d_Mo_allot_111 : decode b_Mo_allot 111 = .ok (.aload_n 0, 1) := by decide +kernel
theorem d_Mo_allot_112 : decode b_Mo_allot 112 = .ok (.iload_n 2, 1) := by decide +kernel
theorem d_Mo_allot_113 : decode b_Mo_allot 113 = .ok (.invokevirtual 143, 3) := by decide +kernel
theorem d_Mo_allot_116 : decode b_Mo_allot 116 = .ok (.istore 4, 2) := by decide +kernel
theorem d_Mo_allot_118 : decode b_Mo_allot 118 = .ok (.aload_n 0, 1) := by decide +kernel
theorem d_Mo_allot_119 : decode b_Mo_allot 119 = .ok (.iload_n 1, 1) := by decide +kernel
theorem d_Mo_allot_120 : decode b_Mo_allot 120 = .ok (.iload 4, 2) := by decide +kernel
theorem d_Mo_allot_122 : decode b_Mo_allot 122 = .ok (.invokevirtual 146, 3) := by decide +kernel
theorem d_Mo_allot_125 : decode b_Mo_allot 125 = .ok (.istore 5, 2) := by decide +kernel
theorem d_Mo_allot_127 : decode b_Mo_allot 127 = .ok (.iload 5, 2) := by decide +kernel
theorem d_Mo_allot_129 : decode b_Mo_allot 129 = .ok (.ifCond .ge 6, 3) := by decide +kernel
theorem d_Mo_allot_132 : decode b_Mo_allot 132 = .ok (.bipush (-6), 2) := by decide +kernel
theorem d_Mo_allot_134 : decode b_Mo_allot 134 = .ok (.ireturn, 1) := by decide +kernel
theorem d_Mo_allot_135 : decode b_Mo_allot 135 = .ok (.aload_n 0, 1) := by decide +kernel
theorem d_Mo_allot_136 : decode b_Mo_allot 136 = .ok (.invokevirtual 102, 3) := by decide +kernel
theorem d_Mo_allot_139 : decode b_Mo_allot 139 = .ok (.ifCond .ne 6, 3) := by decide +kernel
theorem d_Mo_allot_142 : decode b_Mo_allot 142 = .ok (.bipush (-2), 2) := by decide +kernel
theorem d_Mo_allot_144 : decode b_Mo_allot 144 = .ok (.ireturn, 1) := by decide +kernel
theorem d_Mo_allot_145 : decode b_Mo_allot 145 = .ok (.aload_n 0, 1) := by decide +kernel
theorem d_Mo_allot_146 : decode b_Mo_allot 146 = .ok (.getfield 28, 3) := by decide +kernel
theorem d_Mo_allot_149 : decode b_Mo_allot 149 = .ok (.iload_n 2, 1) := by decide +kernel
theorem d_Mo_allot_150 : decode b_Mo_allot 150 = .ok (.iaload, 1) := by decide +kernel
theorem d_Mo_allot_151 : decode b_Mo_allot 151 = .ok (.ifCond .lt 16, 3) := by decide +kernel
theorem d_Mo_allot_154 : decode b_Mo_allot 154 = .ok (.aload_n 0, 1) := by decide +kernel
theorem d_Mo_allot_155 : decode b_Mo_allot 155 = .ok (.getfield 31, 3) := by decide +kernel
theorem d_Mo_allot_158 : decode b_Mo_allot 158 = .ok (.iload_n 2, 1) := by decide +kernel
theorem d_Mo_allot_159 : decode b_Mo_allot 159 = .ok (.iaload, 1) := by decide +kernel
theorem d_Mo_allot_160 : decode b_Mo_allot 160 = .ok (.aload_n 0, 1) := by decide +kernel
theorem d_Mo_allot_161 : decode b_Mo_allot 161 = .ok (.getfield 106, 3) := by decide +kernel
theorem d_Mo_allot_164 : decode b_Mo_allot 164 = .ok (.if_icmp .ne 21, 3) := by decide +kernel
theorem d_Mo_allot_167 : decode b_Mo_allot 167 = .ok (.aload_n 0, 1) := by decide +kernel
theorem d_Mo_allot_168 : decode b_Mo_allot 168 = .ok (.getfield 28, 3) := by decide +kernel
theorem d_Mo_allot_171 : decode b_Mo_allot 171 = .ok (.iload_n 2, 1) := by decide +kernel
theorem d_Mo_allot_172 : decode b_Mo_allot 172 = .ok (.aload_n 0, 1) := by decide +kernel
theorem d_Mo_allot_173 : decode b_Mo_allot 173 = .ok (.iload_n 2, 1) := by decide +kernel
theorem d_Mo_allot_174 : decode b_Mo_allot 174 = .ok (.invokevirtual 121, 3) := by decide +kernel
theorem d_Mo_allot_177 : decode b_Mo_allot 177 = .ok (.iastore, 1) := by decide +kernel
theorem d_Mo_allot_178 : decode b_Mo_allot 178 = .ok (.aload_n 0, 1) := by decide +kernel
theorem d_Mo_allot_179 : decode b_Mo_allot 179 = .ok (.getfield 31, 3) := by decide +kernel
theorem d_Mo_allot_182 : decode b_Mo_allot 182 = .ok (.iload_n 2, 1) := by decide +kernel
theorem d_Mo_allot_183 : decode b_Mo_allot 183 = .ok (.iconst 0, 1) := by decide +kernel
theorem d_Mo_allot_184 : decode b_Mo_allot 184 = .ok (.iastore, 1) := by decide +kernel
theorem d_Mo_allot_185 : decode b_Mo_allot 185 = .ok (.aload_n 0, 1) := by decide +kernel
theorem d_Mo_allot_186 : decode b_Mo_allot 186 = .ok (.getfield 31, 3) := by decide +kernel
theorem d_Mo_allot_189 : decode b_Mo_allot 189 = .ok (.iload_n 2, 1) := by decide +kernel
theorem d_Mo_allot_190 : decode b_Mo_allot 190 = .ok (.dup2, 1) := by decide +kernel
theorem d_Mo_allot_191 : decode b_Mo_allot 191 = .ok (.iaload, 1) := by decide +kernel
theorem d_Mo_allot_192 : decode b_Mo_allot 192 = .ok (.iconst 1, 1) := by decide +kernel
theorem d_Mo_allot_193 : decode b_Mo_allot 193 = .ok (.iadd, 1) := by decide +kernel
theorem d_Mo_allot_194 : decode b_Mo_allot 194 = .ok (.iastore, 1) := by decide +kernel
theorem d_Mo_allot_195 : decode b_Mo_allot 195 = .ok (.aload_n 0, 1) := by decide +kernel
theorem d_Mo_allot_196 : decode b_Mo_allot 196 = .ok (.iload_n 1, 1) := by decide +kernel
theorem d_Mo_allot_197 : decode b_Mo_allot 197 = .ok (.iload_n 2, 1) := by decide +kernel
theorem d_Mo_allot_198 : decode b_Mo_allot 198 = .ok (.iload_n 3, 1) := by decide +kernel
theorem d_Mo_allot_199 : decode b_Mo_allot 199 = .ok (.iload 4, 2) := by decide +kernel
theorem d_Mo_allot_201 : decode b_Mo_allot 201 = .ok (.iload 5, 2) := by decide +kernel
theorem d_Mo_allot_203 : decode b_Mo_allot 203 = .ok (.iconst 1, 1) := by decide +kernel
theorem d_Mo_allot_204 : decode b_Mo_allot 204 = .ok (.invokevirtual 149, 3) := by decide +kernel
theorem d_Mo_allot_207 : decode b_Mo_allot 207 = .ok (.iload 5, 2) := by decide +kernel
theorem d_Mo_allot_209 : decode b_Mo_allot 209 = .ok (.ireturn, 1) := by decide +kernel
theorem d_Mo_reserve_0 : decode b_Mo_reserve 0 = .ok (.aload_n 0, 1) := by decide +kernel
theorem d_Mo_reserve_1 : decode b_Mo_reserve 1 = .ok (.aload_n 0, 1) := by decide +kernel
theorem d_Mo_reserve_2 : decode b_Mo_reserve 2 = .ok (.iload_n 1, 1) := by decide +kernel
theorem d_Mo_reserve_3 : decode b_Mo_reserve 3 = .ok (.invokevirtual 78, 3) := by decide +kernel
theorem d_Mo_reserve_6 : decode b_Mo_reserve 6 = .ok (.ifCond .eq 10, 3) := by decide +kernel
theorem d_Mo_reserve_9 : decode b_Mo_reserve 9 = .ok (.iload_n 2, 1) := by decide +kernel
theorem d_Mo_reserve_10 : decode b_Mo_reserve 10 = .ok (.invokestatic 137, 3) := by decide +kernel
theorem d_Mo_reserve_13 : decode b_Mo_reserve 13 = .ok (.ifCond .ne 7, 3) := by decide +kernel
theorem d_Mo_reserve_16 : decode b_Mo_reserve 16 = .ok (.iconst 1, 1) := by decide +kernel
theorem d_Mo_reserve_17 : decode b_Mo_reserve 17 = .ok (.goto 4, 3) := by decide +kernel
theorem d_Mo_reserve_20 : decode b_Mo_reserve 20 = .ok (.iconst 0, 1) := by decide +kernel
theorem d_Mo_reserve_21 : decode b_Mo_reserve 21 = .ok (.aload_n 0, 1) := by decide +kernel
theorem d_Mo_reserve_22 : decode b_Mo_reserve 22 = .ok (.getfield 82, 3) := by decide +kernel
theorem d_Mo_reserve_25 : decode b_Mo_reserve 25 = .ok (.ifCond .ne 7, 3) := by decide +kernel
theorem d_Mo_reserve_28 : decode b_Mo_reserve 28 = .ok (.iconst 1, 1) := by decide +kernel
theorem d_Mo_reserve_29 : decode b_Mo_reserve 29 = .ok (.goto 4, 3) := by decide +kernel
theorem d_Mo_reserve_32 : decode b_Mo_reserve 32 = .ok (.iconst 0, 1) := by decide +kernel
theorem d_Mo_reserve_33 : decode b_Mo_reserve 33 = .ok (.iconst 0, 1) := by decide +kernel
theorem d_Mo_reserve_34 : decode b_Mo_reserve 34 = .ok (.invokevirtual 98, 3) := by decide +kernel
theorem d_Mo_reserve_37 : decode b_Mo_reserve 37 = .ok (.ifCond .eq 5, 3) := by decide +kernel
theorem d_Mo_reserve_40 : decode b_Mo_reserve 40 = .ok (.iconst 0, 1) := by decide +kernel
theorem d_Mo_reserve_41 : decode b_Mo_reserve 41 = .ok (.ireturn, 1) := by decide +kernel
theorem d_Mo_reserve_42 : decode b_Mo_reserve 42 = .ok (.aload_n 0, 1) := by decide +kernel
theorem d_Mo_reserve_43 : decode b_Mo_reserve 43 = .ok (.getfield 89, 3) := by decide +kernel
theorem d_Mo_reserve_46 : decode b_Mo_reserve 46 = .ok (.ifCond .ne 20, 3) := by decide +kernel
theorem d_Mo_reserve_49 : decode b_Mo_reserve 49 = .ok (.aload_n 0, 1) := by decide +kernel
theorem d_Mo_reserve_50 : decode b_Mo_reserve 50 = .ok (.getfield 140, 3) := by decide +kernel
theorem d_Mo_reserve_53 : decode b_Mo_reserve 53 = .ok (.ifCond .ne 13, 3) := by decide +kernel
theorem d_Mo_reserve_56 : decode b_Mo_reserve 56 = .ok (.aload_n 0, 1) := by decide +kernel
theorem d_Mo_reserve_57 : decode b_Mo_reserve 57 = .ok (.getfield 34, 3) := by decide +kernel
theorem d_Mo_reserve_60 : decode b_Mo_reserve 60 = .ok (.iload_n 1, 1) := by decide +kernel
theorem d_Mo_reserve_61 : decode b_Mo_reserve 61 = .ok (.iaload, 1) := by decide +kernel
theorem d_Mo_reserve_62 : decode b_Mo_reserve 62 = .ok (.iconst 2, 1) := by decide +kernel
theorem d_Mo_reserve_63 : decode b_Mo_reserve 63 = .ok (.if_icmp .ne 30, 3) := by decide +kernel
theorem d_Mo_reserve_66 : decode b_Mo_reserve 66 = .ok (.aload_n 0, 1) := by decide +kernel
theorem d_Mo_reserve_67 : decode b_Mo_reserve 67 = .ok (.getfield 89, 3) := by decide +kernel
theorem d_Mo_reserve_70 : decode b_Mo_reserve 70 = .ok (.ifCond .eq 8, 3) := by decide +kernel
theorem d_Mo_reserve_73 : decode b_Mo_reserve 73 = .ok (.bipush (-2), 2) := by decide +kernel
theorem d_Mo_reserve_75 : decode b_Mo_reserve 75 = .ok (.goto 17, 3) := by decide +kernel
theorem d_Mo_reserve_78 : decode b_Mo_reserve 78 = .ok (.aload_n 0, 1) := by decide +kernel
theorem d_Mo_reserve_79 : decode b_Mo_reserve 79 = .ok (.getfield 140, 3) := by decide +kernel
theorem d_Mo_reserve_82 : decode b_Mo_reserve 82 = .ok (.ifCond .eq 8, 3) := by decide +kernel
theorem d_Mo_reserve_85 : decode b_Mo_reserve 85 = .ok (.bipush (-3), 2) := by decide +kernel
theorem d_Mo_reserve_87 : decode b_Mo_reserve 87 = .ok (.goto 5, 3) := by decide +kernel
theorem d_Mo_reserve_90 : decode b_Mo_reserve 90 = .ok (.bipush (-4), 2) := by decide +kernel
theorem d_Mo_reserve_92 : decode b_Mo_reserve 92 = .ok (.ireturn, 1) := by decide +kernel
theorem d_Mo_reserve_93 : decode b_Mo_reserve 93 = .ok (.bipush 8, 2) := by decide +kernel
theorem d_Mo_reserve_95 : decode b_Mo_reserve 95 = .ok (.iload_n 1, 1) := by decide +kernel
theorem d_Mo_reserve_96 : decode b_Mo_reserve 96 = .ok (.imul, 1) := by decide +kernel
theorem d_Mo_reserve_97 : decode b_Mo_reserve 97 = .ok (.iload_n 2, 1) := by decide +kernel
theorem d_Mo_reserve_98 : decode b_Mo_reserve 98 = .ok (.iadd, 1) := by decide +kernel
theorem d_Mo_reserve_99 : decode b_Mo_reserve 99 = .ok (.istore_n 3, 1) := by decide +kernel
theorem d_Mo_reserve_100 : decode b_Mo_reserve 100 = .ok (.aload_n 0, 1) := by decide +kernel
theorem d_Mo_reserve_101 : decode b_Mo_reserve 101 = .ok (.getfield 61, 3) := by decide +kernel
theorem d_Mo_reserve_104 : decode b_Mo_reserve 104 = .ok (.iload_n 3, 1) := by decide +kernel
theorem d_Mo_reserve_105 : decode b_Mo_reserve 105 = .ok (.iaload, 1) := by decide +kernel
theorem d_Mo_reserve_106 : decode b_Mo_reserve 106 = .ok (.ifCond .lt 6, 3) := by decide +kernel
theorem d_Mo_reserve_109 : decode b_Mo_reserve 109 = .ok (.bipush (-8), 2) := by decide +kernel
theorem d_Mo_reserve_111 : decode b_Mo_reserve 111 = .ok (.ireturn, 1) := by decide +kernel
theorem d_Mo_reserve_112 : decode b_Mo_reserve 112 = .ok (.aload_n 0, 1) := by decide +kernel
theorem d_Mo_reserve_113 : decode b_Mo_reserve 113 = .ok (.getfield 7, 3) := by decide +kernel
theorem d_Mo_reserve_116 : decode b_Mo_reserve 116 = .ok (.iconst 0, 1) := by decide +kernel
theorem d_Mo_reserve_117 : decode b_Mo_reserve 117 = .ok (.iaload, 1) := by decide +kernel
theorem d_Mo_reserve_118 : decode b_Mo_reserve 118 = .ok (.aload_n 0, 1) := by decide +kernel
theorem d_Mo_reserve_119 : decode b_Mo_reserve 119 = .ok (.getfield 7, 3) := by decide +kernel
theorem d_Mo_reserve_122 : decode b_Mo_reserve 122 = .ok (.iconst 1, 1) := by decide +kernel
theorem d_Mo_reserve_123 : decode b_Mo_reserve 123 = .ok (.iaload, 1) := by decide +kernel
theorem d_Mo_reserve_124 : decode b_Mo_reserve 124 = .ok (.iadd, 1) := by decide +kernel
theorem d_Mo_reserve_125 : decode b_Mo_reserve 125 = .ok (.aload_n 0, 1) := by decide +kernel
theorem d_Mo_reserve_126 : decode b_Mo_reserve 126 = .ok (.getfield 7, 3) := by decide +kernel
theorem d_Mo_reserve_129 : decode b_Mo_reserve 129 = .ok (.iconst 2, 1) := by decide +kernel
theorem d_Mo_reserve_130 : decode b_Mo_reserve 130 = .ok (.iaload, 1) := by decide +kernel
theorem d_Mo_reserve_131 : decode b_Mo_reserve 131 = .ok (.iadd, 1) := by decide +kernel
theorem d_Mo_reserve_132 : decode b_Mo_reserve 132 = .ok (.aload_n 0, 1) := by decide +kernel
theorem d_Mo_reserve_133 : decode b_Mo_reserve 133 = .ok (.getfield 7, 3) := by decide +kernel
theorem d_Mo_reserve_136 : decode b_Mo_reserve 136 = .ok (.iconst 3, 1) := by decide +kernel
theorem d_Mo_reserve_137 : decode b_Mo_reserve 137 = .ok (.iaload, 1) := by decide +kernel
theorem d_Mo_reserve_138 : decode b_Mo_reserve 138 = .ok (.iadd, 1) := by decide +kernel
theorem d_Mo_reserve_139 : decode b_Mo_reserve 139 = .ok (.istore 4, 2) := by decide +kernel
theorem d_Mo_reserve_141 : decode b_Mo_reserve 141 = .ok (.iconst 0, 1) := by decide +kernel
theorem d_Mo_reserve_142 : decode b_Mo_reserve 142 = .ok (.istore 5, 2) := by decide +kernel
theorem d_Mo_reserve_144 : decode b_Mo_reserve 144 = .ok (.iload 5, 2) := by decide +kernel
theorem d_Mo_reserve_146 : decode b_Mo_reserve 146 = .ok (.aload_n 0, 1) := by decide +kernel
theorem d_Mo_reserve_147 : decode b_Mo_reserve 147 = .ok (.getfield 82, 3) := by decide +kernel
theorem d_Mo_reserve_150 : decode b_Mo_reserve 150 = .ok (.if_icmp .ge 37, 3) := by decide +kernel
theorem d_Mo_reserve_153 : decode b_Mo_reserve 153 = .ok (.aload_n 0, 1) := by decide +kernel
theorem d_Mo_reserve_154 : decode b_Mo_reserve 154 = .ok (.iload_n 1, 1) := by decide +kernel
theorem d_Mo_reserve_155 : decode b_Mo_reserve 155 = .ok (.iload 5, 2) := by decide +kernel
theorem d_Mo_reserve_157 : decode b_Mo_reserve 157 = .ok (.invokevirtual 130, 3) := by decide +kernel
theorem d_Mo_reserve_160 : decode b_Mo_reserve 160 = .ok (.aload_n 0, 1) := by decide +kernel
theorem d_Mo_reserve_161 : decode b_Mo_reserve 161 = .ok (.getfield 7, 3) := by decide +kernel
theorem d_Mo_reserve_164 : decode b_Mo_reserve 164 = .ok (.iload 5, 2) := by decide +kernel
theorem d_Mo_reserve_166 : decode b_Mo_reserve 166 = .ok (.iaload, 1) := by decide +kernel
theorem d_Mo_reserve_167 : decode b_Mo_reserve 167 = .ok (.aload_n 0, 1) := by decide +kernel
theorem d_Mo_reserve_168 : decode b_Mo_reserve 168 = .ok (.getfield 106, 3) := by decide +kernel
theorem d_Mo_reserve_171 : decode b_Mo_reserve 171 = .ok (.iload 4, 2) := by decide +kernel
theorem d_Mo_reserve_173 : decode b_Mo_reserve 173 = .ok (.idiv, 1) := by decide +kernel
theorem d_Mo_reserve_174 : decode b_Mo_reserve 174 = .ok (.imul, 1) := by decide +kernel
theorem d_Mo_reserve_175 : decode b_Mo_reserve 175 = .ok (.if_icmp .ge 6, 3) := by decide +kernel
theorem d_Mo_reserve_178 : decode b_Mo_reserve 178 = .ok (.bipush (-6), 2) := by decide +kernel
theorem d_Mo_reserve_180 : decode b_Mo_reserve 180 = .ok (.ireturn, 1) := by decide +kernel
theorem d_Mo_reserve_181 : decode b_Mo_reserve 181 = .ok (.iinc 5 1, 3) := by decide +kernel
theorem d_Mo_reserve_184 : decode b_Mo_reserve 184 = .ok (.goto (-40), 3) := by decide +kernel
theorem d_Mo_reserve_187 : decode b_Mo_reserve 187 = .ok (.aload_n 0, 1) := by decide +kernel
theorem d_Mo_reserve_188 : decode b_Mo_reserve 188 = .ok (.invokevirtual 102, 3) := by decide +kernel
theorem d_Mo_reserve_191 : decode b_Mo_reserve 191 = .ok (.ifCond .ne 6, 3) := by decide +kernel
theorem d_Mo_reserve_194 : decode b_Mo_reserve 194 = .ok (.bipush (-2), 2) := by decide +kernel
theorem d_Mo_reserve_196 : decode b_Mo_reserve 196 = .ok (.ireturn, 1) := by decide +kernel
theorem d_Mo_reserve_197 : decode b_Mo_reserve 197 = .ok (.aload_n 0, 1) := by decide +kernel
theorem d_Mo_reserve_198 : decode b_Mo_reserve 198 = .ok (.getfield 61, 3) := by decide +kernel
theorem d_Mo_reserve_201 : decode b_Mo_reserve 201 = .ok (.iload_n 3, 1) := by decide +kernel
theorem d_Mo_reserve_202 : decode b_Mo_reserve 202 = .ok (.aload_n 0, 1) := by decide +kernel
theorem d_Mo_reserve_203 : decode b_Mo_reserve 203 = .ok (.iload_n 2, 1) := by decide +kernel
theorem d_Mo_reserve_204 : decode b_Mo_reserve 204 = .ok (.invokevirtual 121, 3) := by decide +kernel
theorem d_Mo_reserve_207 : decode b_Mo_reserve 207 = .ok (.iastore, 1) := by decide +kernel
theorem d_Mo_reserve_208 : decode b_Mo_reserve 208 = .ok (.aload_n 0, 1) := by decide +kernel
theorem d_Mo_reserve_209 : decode b_Mo_reserve 209 = .ok (.getfield 64, 3) := by decide +kernel
theorem d_Mo_reserve_212 : decode b_Mo_reserve 212 = .ok (.iload_n 3, 1) := by decide +kernel
theorem d_Mo_reserve_213 : decode b_Mo_reserve 213 = .ok (.iconst 0, 1) := by decide +kernel
theorem d_Mo_reserve_214 : decode b_Mo_reserve 214 = .ok (.iastore, 1) := by decide +kernel
theorem d_Mo_reserve_215 : decode b_Mo_reserve 215 = .ok (.iconst 0, 1) := by decide +kernel
theorem d_Mo_reserve_216 : decode b_Mo_reserve 216 = .ok (.istore 5, 2) := by decide +kernel
theorem d_Mo_reserve_218 : decode b_Mo_reserve 218 = .ok (.iload 5, 2) := by decide +kernel
theorem d_Mo_reserve_220 : decode b_Mo_reserve 220 = .ok (.aload_n 0, 1) := by decide +kernel
theorem d_Mo_reserve_221 : decode b_Mo_reserve 221 = .ok (.getfield 106, 3) := by decide +kernel
theorem d_Mo_reserve_224 : decode b_Mo_reserve 224 = .ok (.if_icmp .ge 55, 3) := by decide +kernel
theorem d_Mo_reserve_227 : decode b_Mo_reserve 227 = .ok (.aload_n 0, 1) := by decide +kernel
theorem d_Mo_reserve_228 : decode b_Mo_reserve 228 = .ok (.iload_n 1, 1) := by decide +kernel
theorem d_Mo_reserve_229 : decode b_Mo_reserve 229 = .ok (.aload_n 0, 1) := by decide +kernel
theorem d_Mo_reserve_230 : decode b_Mo_reserve 230 = .ok (.getfield 17, 3) := by decide +kernel
theorem d_Mo_reserve_233 : decode b_Mo_reserve 233 = .ok (.bipush 24, 2) := by decide +kernel
theorem d_Mo_reserve_235 : decode b_Mo_reserve 235 = .ok (.aload_n 0, 1) := by decide +kernel
theorem d_Mo_reserve_236 : decode b_Mo_reserve 236 = .ok (.getfield 61, 3) := by decide +kernel
theorem d_Mo_reserve_239 : decode b_Mo_reserve 239 = .ok (.iload_n 3, 1) := by decide +kernel
theorem d_Mo_reserve_240 : decode b_Mo_reserve 240 = .ok (.iaload, 1) := by decide +kernel
theorem d_Mo_reserve_241 : decode b_Mo_reserve 241 = .ok (.imul, 1) := by decide +kernel
theorem d_Mo_reserve_242 : decode b_Mo_reserve 242 = .ok (.iload 5, 2) := by decide +kernel
theorem d_Mo_reserve_244 : decode b_Mo_reserve 244 = .ok (.iadd, 1) := by decide +kernel
theorem d_Mo_reserve_245 : decode b_Mo_reserve 245 = .ok (.baload, 1) := by decide +kernel
theorem d_Mo_reserve_246 : decode b_Mo_reserve 246 = .ok (.invokevirtual 146, 3) := by decide +kernel
theorem d_Mo_reserve_249 : decode b_Mo_reserve 249 = .ok (.istore 6, 2) := by decide +kernel
theorem d_Mo_reserve_251 : decode b_Mo_reserve 251 = .ok (.aload_n 0, 1) := by decide +kernel
theorem d_Mo_reserve_252 : decode b_Mo_reserve 252 = .ok (.getfield 67, 3) := by decide +kernel
theorem d_Mo_reserve_255 : decode b_Mo_reserve 255 = .ok (.bipush 24, 2) := by decide +kernel
theorem d_Mo_reserve_257 : decode b_Mo_reserve 257 = .ok (.iload_n 3, 1) := by decide +kernel
theorem d_Mo_reserve_258 : decode b_Mo_reserve 258 = .ok (.imul, 1) := by decide +kernel
theorem d_Mo_reserve_259 : decode b_Mo_reserve 259 = .ok (.iload 5, 2) := by decide +kernel
theorem d_Mo_reserve_261 : decode b_Mo_reserve 261 = .ok (.iadd, 1) := by decide +kernel
theorem d_Mo_reserve_262 : decode b_Mo_reserve 262 = .ok (.iload 6, 2) := by decide +kernel
theorem d_Mo_reserve_264 : decode b_Mo_reserve 264 = .ok (.iastore, 1) := by decide +kernel
theorem d_Mo_reserve_265 : decode b_Mo_reserve 265 = .ok (.aload_n 0, 1) := by decide +kernel
theorem d_Mo_reserve_266 : decode b_Mo_reserve 266 = .ok (.getfield 43, 3) := by decide +kernel
theorem d_Mo_reserve_269 : decode b_Mo_reserve 269 = .ok (.iload 6, 2) := by decide +kernel
theorem d_Mo_reserve_271 : decode b_Mo_reserve 271 = .ok (.iconst 1, 1) := by decide +kernel
theorem d_Mo_reserve_272 : decode b_Mo_reserve 272 = .ok (.iastore, 1) := by decide +kernel
theorem d_Mo_reserve_273 : decode b_Mo_reserve 273 = .ok (.iinc 5 1, 3) := by decide +kernel
theorem d_Mo_reserve_276 : decode b_Mo_reserve 276 = .ok (.goto (-58), 3) := by decide +kernel
theorem d_Mo_reserve_279 : decode b_Mo_reserve 279 = .ok (.aload_n 0, 1) := by decide +kernel
theorem d_Mo_reserve_280 : decode b_Mo_reserve 280 = .ok (.getfield 21, 3) := by decide +kernel
theorem d_Mo_reserve_283 : decode b_Mo_reserve 283 = .ok (.iload_n 2, 1) := by decide +kernel
theorem d_Mo_reserve_284 : decode b_Mo_reserve 284 = .ok (.iaload, 1) := by decide +kernel
theorem d_Mo_reserve_285 : decode b_Mo_reserve 285 = .ok (.iconst 1, 1) := by decide +kernel
theorem d_Mo_reserve_286 : decode b_Mo_reserve 286 = .ok (.isub, 1) := by decide +kernel
theorem d_Mo_reserve_287 : decode b_Mo_reserve 287 = .ok (.ireturn, 1) := by decide +kernel
theorem d_Mo_offline_0 : decode b_Mo_offline 0 = .ok (.aload_n 0, 1) := by decide +kernel
theorem d_Mo_offline_1 : decode b_Mo_offline 1 = .ok (.aload_n 0, 1) := by decide +kernel
theorem d_Mo_offline_2 : decode b_Mo_offline 2 = .ok (.iload_n 1, 1) := by decide +kernel
theorem d_Mo_offline_3 : decode b_Mo_offline 3 = .ok (.iload_n 3, 1) := by decide +kernel
theorem d_Mo_offline_4 : decode b_Mo_offline 4 = .ok (.invokevirtual 133, 3) := by decide +kernel
theorem d_Mo_offline_7 : decode b_Mo_offline 7 = .ok (.ifCond .eq 10, 3) := by decide +kernel
theorem d_Mo_offline_10 : decode b_Mo_offline 10 = .ok (.iload_n 2, 1) := by decide +kernel
theorem d_Mo_offline_11 : decode b_Mo_offline 11 = .ok (.invokestatic 137, 3) := by decide +kernel
theorem d_Mo_offline_14 : decode b_Mo_offline 14 = .ok (.ifCond .ne 7, 3) := by decide +kernel
theorem d_Mo_offline_17 : decode b_Mo_offline 17 = .ok (.iconst 1, 1) := by decide +kernel
theorem d_Mo_offline_18 : decode b_Mo_offline 18 = .ok (.goto 4, 3) := by decide +kernel
theorem d_Mo_offline_21 : decode b_Mo_offline 21 = .ok (.iconst 0, 1) := by decide +kernel
theorem d_Mo_offline_22 : decode b_Mo_offline 22 = .ok (.aload_n 0, 1) := by decide +kernel
theorem d_Mo_offline_23 : decode b_Mo_offline 23 = .ok (.getfield 82, 3) := by decide +kernel
theorem d_Mo_offline_26 : decode b_Mo_offline 26 = .ok (.ifCond .ne 7, 3) := by decide +kernel
theorem d_Mo_offline_29 : decode b_Mo_offline 29 = .ok (.iconst 1, 1) := by decide +kernel
theorem d_Mo_offline_30 : decode b_Mo_offline 30 = .ok (.goto 4, 3) := by decide +kernel
theorem d_Mo_offline_33 : decode b_Mo_offline 33 = .ok (.iconst 0, 1) := by decide +kernel
theorem d_Mo_offline_34 : decode b_Mo_offline 34 = .ok (.iconst 0, 1) := by decide +kernel
theorem d_Mo_offline_35 : decode b_Mo_offline 35 = .ok (.invokevirtual 98, 3) := by decide +kernel
theorem d_Mo_offline_38 : decode b_Mo_offline 38 = .ok (.ifCond .eq 5, 3) := by decide +kernel
theorem d_Mo_offline_41 : decode b_Mo_offline 41 = .ok (.iconst 0, 1) := by decide +kernel
theorem d_Mo_offline_42 : decode b_Mo_offline 42 = .ok (.ireturn, 1) := by decide +kernel
theorem d_Mo_offline_43 : decode b_Mo_offline 43 = .ok (.aload_n 0, 1) := by decide +kernel
theorem d_Mo_offline_44 : decode b_Mo_offline 44 = .ok (.getfield 89, 3) := by decide +kernel
theorem d_Mo_offline_47 : decode b_Mo_offline 47 = .ok (.ifCond .ne 13, 3) := by decide +kernel
theorem d_Mo_offline_50 : decode b_Mo_offline 50 = .ok (.aload_n 0, 1) := by decide +kernel
theorem d_Mo_offline_51 : decode b_Mo_offline 51 = .ok (.getfield 34, 3) := by decide +kernel
theorem d_Mo_offline_54 : decode b_Mo_offline 54 = .ok (.iload_n 1, 1) := by decide +kernel
theorem d_Mo_offline_55 : decode b_Mo_offline 55 = .ok (.iaload, 1) := by decide +kernel
theorem d_Mo_offline_56 : decode b_Mo_offline 56 = .ok (.iconst 2, 1) := by decide +kernel
theorem d_Mo_offline_57 : decode b_Mo_offline 57 = .ok (.if_icmp .ne 18, 3) := by decide +kernel
theorem d_Mo_offline_60 : decode b_Mo_offline 60 = .ok (.aload_n 0, 1) := by decide +kernel
theorem d_Mo_offline_61 : decode b_Mo_offline 61 = .ok (.getfield 89, 3) := by decide +kernel
theorem d_Mo_offline_64 : decode b_Mo_offline 64 = .ok (.ifCond .eq 8, 3) := by decide +kernel
theorem d_Mo_offline_67 : decode b_Mo_offline 67 = .ok (.bipush (-2), 2) := by decide +kernel
theorem d_Mo_offline_69 : decode b_Mo_offline 69 = .ok (.goto 5, 3) := by decide +kernel
theorem d_Mo_offline_72 : decode b_Mo_offline 72 = .ok (.bipush (-4), 2) := by decide +kernel
theorem d_Mo_offline_74 : decode b_Mo_offline 74 = .ok (.ireturn, 1) := by decide +kernel
theorem d_Mo_offline_75 : decode b_Mo_offline 75 = .ok (.aload_n 0, 1) := by decide +kernel
theorem d_Mo_offline_76 : decode b_Mo_offline 76 = .ok (.getfield 46, 3) := by decide +kernel
theorem d_Mo_offline_79 : decode b_Mo_offline 79 = .ok (.bipush 100, 2) := by decide +kernel
theorem d_Mo_offline_81 : decode b_Mo_offline 81 = .ok (.iload_n 1, 1) := by decide +kernel
theorem d_Mo_offline_82 : decode b_Mo_offline 82 = .ok (.imul, 1) := by decide +kernel
theorem d_Mo_offline_83 : decode b_Mo_offline 83 = .ok (.iload_n 3, 1) := by decide +kernel
theorem d_Mo_offline_84 : decode b_Mo_offline 84 = .ok (.iadd, 1) := by decide +kernel
theorem d_Mo_offline_85 : decode b_Mo_offline 85 = .ok (.iaload, 1) := by decide +kernel
theorem d_Mo_offline_86 : decode b_Mo_offline 86 = .ok (.ifCond .le 6, 3) := by decide +kernel
theorem d_Mo_offline_89 : decode b_Mo_offline 89 = .ok (.bipush (-5), 2) := by decide +kernel
theorem d_Mo_offline_91 : decode b_Mo_offline 91 = .ok (.ireturn, 1) := by decide +kernel
theorem d_Mo_offline_92 : decode b_Mo_offline 92 = .ok (.bipush 8, 2) := by decide +kernel
theorem d_Mo_offline_94 : decode b_Mo_offline 94 = .ok (.iload_n 1, 1) := by decide +kernel
theorem d_Mo_offline_95 : decode b_Mo_offline 95 = .ok (.imul, 1) := by decide +kernel
theorem d_Mo_offline_96 : decode b_Mo_offline 96 = .ok (.iload_n 2, 1) := by decide +kernel
theorem d_Mo_offline_97 : decode b_Mo_offline 97 = .ok (.iadd, 1) := by decide +kernel
theorem d_Mo_offline_98 : decode b_Mo_offline 98 = .ok (.istore 4, 2) := by decide +kernel
theorem d_Mo_offline_100 : decode b_Mo_offline 100 = .ok (.aload_n 0, 1) := by decide +kernel
theorem d_Mo_offline_101 : decode b_Mo_offline 101 = .ok (.getfield 61, 3) := by decide +kernel
theorem d_Mo_offline_104 : decode b_Mo_offline 104 = .ok (.iload 4, 2) := by decide +kernel
theorem d_Mo_offline_106 : decode b_Mo_offline 106 = .ok (.iaload, 1) := by decide +kernel
theorem d_Mo_offline_107 : decode b_Mo_offline 107 = .ok (.ifCond .lt 17, 3) := by decide +kernel
theorem d_Mo_offline_110 : decode b_Mo_offline 110 = .ok (.aload_n 0, 1) := by decide +kernel
theorem d_Mo_offline_111 : decode b_Mo_offline 111 = .ok (.getfield 64, 3) := by decide +kernel
theorem d_Mo_offline_114 : decode b_Mo_offline 114 = .ok (.iload 4, 2) := by decide +kernel
theorem d_Mo_offline_116 : decode b_Mo_offline 116 = .ok (.iaload, 1) := by decide +kernel
theorem d_Mo_offline_117 : decode b_Mo_offline 117 = .ok (.aload_n 0, 1) := by decide +kernel
theorem d_Mo_offline_118 : decode b_Mo_offline 118 = .ok (.getfield 106, 3) := by decide +kernel
theorem d_Mo_offline_121 : decode b_Mo_offline 121 = .ok (.if_icmp .ne 6, 3) := by decide +kernel
theorem d_Mo_offline_124 : decode b_Mo_offline 124 = .ok (.bipush (-7), 2) := by decide +kernel
theorem d_Mo_offline_126 : decode b_Mo_offline 126 = .ok (.ireturn, 1) := by decide +kernel
theorem d_Mo_offline_127 : decode b_Mo_offline 127 = .ok (.aload_n 0, 1) := by decide +kernel
theorem d_Mo_offline_128 : decode b_Mo_offline 128 = .ok (.invokevirtual 102, 3) := by decide +kernel
theorem d_Mo_offline_131 : decode b_Mo_offline 131 = .ok (.ifCond .ne 6, 3) := by decide +kernel
theorem d_Mo_offline_134 : decode b_Mo_offline 134 = .ok (.bipush (-2), 2) := by decide +kernel
theorem d_Mo_offline_136 : decode b_Mo_offline 136 = .ok (.ireturn, 1) := by decide +kernel
theorem d_Mo_offline_137 : decode b_Mo_offline 137 = .ok (.aload_n 0, 1) := by decide +kernel
theorem d_Mo_offline_138 : decode b_Mo_offline 138 = .ok (.getfield 64, 3) := by decide +kernel
theorem d_Mo_offline_141 : decode b_Mo_offline 141 = .ok (.iload 4, 2) := by decide +kernel
theorem d_Mo_offline_143 : decode b_Mo_offline 143 = .ok (.iaload, 1) := by decide +kernel
theorem d_Mo_offline_144 : decode b_Mo_offline 144 = .ok (.istore 5, 2) := by decide +kernel
theorem d_Mo_offline_146 : decode b_Mo_offline 146 = .ok (.aload_n 0, 1) := by decide +kernel
theorem d_Mo_offline_147 : decode b_Mo_offline 147 = .ok (.getfield 64, 3) := by decide +kernel
theorem d_Mo_offline_150 : decode b_Mo_offline 150 = .ok (.iload 4, 2) := by decide +kernel
theorem d_Mo_offline_152 : decode b_Mo_offline 152 = .ok (.dup2, 1) := by decide +kernel
theorem d_Mo_offline_153 : decode b_Mo_offline 153 = .ok (.iaload, 1) := by decide +kernel
theorem d_Mo_offline_154 : decode b_Mo_offline 154 = .ok (.iconst 1, 1) := by decide +kernel
theorem d_Mo_offline_155 : decode b_Mo_offline 155 = .ok (.iadd, 1) := by decide +kernel
theorem d_Mo_offline_156 : decode b_Mo_offline 156 = .ok (.iastore, 1) := by decide +kernel
theorem d_Mo_offline_157 : decode b_Mo_offline 157 = .ok (.aload_n 0, 1) := by decide +kernel
theorem d_Mo_offline_158 : decode b_Mo_offline 158 = .ok (.iload_n 1, 1) := by decide +kernel
theorem d_Mo_offline_159 : decode b_Mo_offline 159 = .ok (.iload_n 2, 1) := by decide +kernel
theorem d_Mo_offline_160 : decode b_Mo_offline 160 = .ok (.iload_n 3, 1) := by decide +kernel
theorem d_Mo_offline_161 : decode b_Mo_offline 161 = .ok (.aload_n 0, 1) := by decide +kernel
theorem d_Mo_offline_162 : decode b_Mo_offline 162 = .ok (.getfield 17, 3) := by decide +kernel
theorem d_Mo_offline_165 : decode b_Mo_offline 165 = .ok (.bipush 24, 2) := by decide +kernel
theorem d_Mo_offline_167 : decode b_Mo_offline 167 = .ok (.aload_n 0, 1) := by decide +kernel
theorem d_Mo_offline_168 : decode b_Mo_offline 168 = .ok (.getfield 61, 3) := by decide +kernel
theorem d_Mo_offline_171 : decode b_Mo_offline 171 = .ok (.iload 4, 2) := by decide +kernel
theorem d_Mo_offline_173 : decode b_Mo_offline 173 = .ok (.iaload, 1) := by decide +kernel
theorem d_Mo_offline_174 : decode b_Mo_offline 174 = .ok (.imul, 1) := by decide +kernel
theorem d_Mo_offline_175 : decode b_Mo_offline 175 = .ok (.iload 5, 2) := by decide +kernel
theorem d_Mo_offline_177 : decode b_Mo_offline 177 = .ok (.iadd, 1) := by decide +kernel
theorem d_Mo_offline_178 : decode b_Mo_offline 178 = .ok (.baload, 1) := by decide +kernel
theorem d_Mo_offline_179 : decode b_Mo_offline 179 = .ok (.aload_n 0, 1) := by decide +kernel
theorem d_Mo_offline_180 : decode b_Mo_offline 180 = .ok (.getfield 67, 3) := by decide +kernel
theorem d_Mo_offline_183 : decode b_Mo_offline 183 = .ok (.bipush 24, 2) := by decide +kernel
theorem d_Mo_offline_185 : decode b_Mo_offline 185 = .ok (.iload 4, 2) := by decide +kernel
theorem d_Mo_offline_187 : decode b_Mo_offline 187 = .ok (.imul, 1) := by decide +kernel
theorem d_Mo_offline_188 : decode b_Mo_offline 188 = .ok (.iload 5, 2) := by decide +kernel
theorem d_Mo_offline_190 : decode b_Mo_offline 190 = .ok (.iadd, 1) := by decide +kernel
theorem d_Mo_offline_191 : decode b_Mo_offline 191 = .ok (.iaload, 1) := by decide +kernel
theorem d_Mo_offline_192 : decode b_Mo_offline 192 = .ok (.iconst 0, 1) := by decide +kernel
theorem d_Mo_offline_193 : decode b_Mo_offline 193 = .ok (.invokevirtual 149, 3) := by decide +kernel
theorem d_Mo_offline_196 : decode b_Mo_offline 196 = .ok (.aload_n 0, 1) := by decide +kernel
theorem d_Mo_offline_197 : decode b_Mo_offline 197 = .ok (.getfield 67, 3) := by decide +kernel
theorem d_Mo_offline_200 : decode b_Mo_offline 200 = .ok (.bipush 24, 2) := by decide +kernel
theorem d_Mo_offline_202 : decode b_Mo_offline 202 = .ok (.iload 4, 2) := by decide +kernel
theorem d_Mo_offline_204 : decode b_Mo_offline 204 = .ok (.imul, 1) := by decide +kernel
theorem d_Mo_offline_205 : decode b_Mo_offline 205 = .ok (.iload 5, 2) := by decide +kernel
theorem d_Mo_offline_207 : decode b_Mo_offline 207 = .ok (.iadd, 1) := by decide +kernel
theorem d_Mo_offline_208 : decode b_Mo_offline 208 = .ok (.iaload, 1) := by decide +kernel
theorem d_Mo_offline_209 : decode b_Mo_offline 209 = .ok (.ireturn, 1) := by decide +kernel
theorem d_Mo_report_0 : decode b_Mo_report 0 = .ok (.aload_n 0, 1) := by decide +kernel
theorem d_Mo_report_1 : decode b_Mo_report 1 = .ok (.aload_n 0, 1) := by decide +kernel
theorem d_Mo_report_2 : decode b_Mo_report 2 = .ok (.iload_n 1, 1) := by decide +kernel
theorem d_Mo_report_3 : decode b_Mo_report 3 = .ok (.invokevirtual 78, 3) := by decide +kernel
theorem d_Mo_report_6 : decode b_Mo_report 6 = .ok (.ifCond .ne 7, 3) := by decide +kernel
theorem d_Mo_report_9 : decode b_Mo_report 9 = .ok (.iconst 1, 1) := by decide +kernel
theorem d_Mo_report_10 : decode b_Mo_report 10 = .ok (.goto 4, 3) := by decide +kernel
theorem d_Mo_report_13 : decode b_Mo_report 13 = .ok (.iconst 0, 1) := by decide +kernel
theorem d_Mo_report_14 : decode b_Mo_report 14 = .ok (.iconst 0, 1) := by decide +kernel
theorem d_Mo_report_15 : decode b_Mo_report 15 = .ok (.iconst 0, 1) := by decide +kernel
theorem d_Mo_report_16 : decode b_Mo_report 16 = .ok (.invokevirtual 98, 3) := by decide +kernel
theorem d_Mo_report_19 : decode b_Mo_report 19 = .ok (.ifCond .eq 5, 3) := by decide +kernel
theorem d_Mo_report_22 : decode b_Mo_report 22 = .ok (.iconst 0, 1) := by decide +kernel
theorem d_Mo_report_23 : decode b_Mo_report 23 = .ok (.ireturn, 1) := by decide +kernel
theorem d_Mo_report_24 : decode b_Mo_report 24 = .ok (.aload_n 0, 1) := by decide +kernel
theorem d_Mo_report_25 : decode b_Mo_report 25 = .ok (.getfield 89, 3) := by decide +kernel
theorem d_Mo_report_28 : decode b_Mo_report 28 = .ok (.ifCond .ne 13, 3) := by decide +kernel
theorem d_Mo_report_31 : decode b_Mo_report 31 = .ok (.aload_n 0, 1) := by decide +kernel
theorem d_Mo_report_32 : decode b_Mo_report 32 = .ok (.getfield 34, 3) := by decide +kernel
theorem d_Mo_report_35 : decode b_Mo_report 35 = .ok (.iload_n 1, 1) := by decide +kernel
theorem d_Mo_report_36 : decode b_Mo_report 36 = .ok (.iaload, 1) := by decide +kernel
theorem d_Mo_report_37 : decode b_Mo_report 37 = .ok (.iconst 2, 1) := by decide +kernel
theorem d_Mo_report_38 : decode b_Mo_report 38 = .ok (.if_icmp .ne 18, 3) := by decide +kernel
theorem d_Mo_report_41 : decode b_Mo_report 41 = .ok (.aload_n 0, 1) := by decide +kernel
theorem d_Mo_report_42 : decode b_Mo_report 42 = .ok (.getfield 89, 3) := by decide +kernel
theorem d_Mo_report_45 : decode b_Mo_report 45 = .ok (.ifCond .eq 8, 3) := by decide +kernel
theorem d_Mo_report_48 : decode b_Mo_report 48 = .ok (.bipush (-2), 2) := by decide +kernel
theorem d_Mo_report_50 : decode b_Mo_report 50 = .ok (.goto 5, 3) := by decide +kernel
theorem d_Mo_report_53 : decode b_Mo_report 53 = .ok (.bipush (-4), 2) := by decide +kernel
theorem d_Mo_report_55 : decode b_Mo_report 55 = .ok (.ireturn, 1) := by decide +kernel
theorem d_Mo_report_56 : decode b_Mo_report 56 = .ok (.aload_n 0, 1) := by decide +kernel
theorem d_Mo_report_57 : decode b_Mo_report 57 = .ok (.invokevirtual 102, 3) := by decide +kernel
theorem d_Mo_report_60 : decode b_Mo_report 60 = .ok (.ifCond .ne 6, 3) := by decide +kernel
theorem d_Mo_report_63 : decode b_Mo_report 63 = .ok (.bipush (-2), 2) := by decide +kernel
theorem d_Mo_report_65 : decode b_Mo_report 65 = .ok (.ireturn, 1) := by decide +kernel
theorem d_Mo_report_66 : decode b_Mo_report 66 = .ok (.iconst 0, 1) := by decide +kernel
theorem d_Mo_report_67 : decode b_Mo_report 67 = .ok (.istore_n 2, 1) := by decide +kernel
theorem d_Mo_report_68 : decode b_Mo_report 68 = .ok (.bipush 100, 2) := by decide +kernel
theorem d_Mo_report_70 : decode b_Mo_report 70 = .ok (.iload_n 1, 1) := by decide +kernel
theorem d_Mo_report_71 : decode b_Mo_report 71 = .ok (.imul, 1) := by decide +kernel
theorem d_Mo_report_72 : decode b_Mo_report 72 = .ok (.istore_n 3, 1) := by decide +kernel
theorem d_Mo_report_73 : decode b_Mo_report 73 = .ok (.iload_n 3, 1) := by decide +kernel
theorem d_Mo_report_74 : decode b_Mo_report 74 = .ok (.bipush 100, 2) := by decide +kernel
theorem d_Mo_report_76 : decode b_Mo_report 76 = .ok (.iload_n 1, 1) := by decide +kernel
theorem d_Mo_report_77 : decode b_Mo_report 77 = .ok (.imul, 1) := by decide +kernel
theorem d_Mo_report_78 : decode b_Mo_report 78 = .ok (.bipush 100, 2) := by decide +kernel
theorem d_Mo_report_80 : decode b_Mo_report 80 = .ok (.iadd, 1) := by decide +kernel
theorem d_Mo_report_81 : decode b_Mo_report 81 = .ok (.if_icmp .ge 29, 3) := by decide +kernel
theorem d_Mo_report_84 : decode b_Mo_report 84 = .ok (.aload_n 0, 1) := by decide +kernel
theorem d_Mo_report_85 : decode b_Mo_report 85 = .ok (.getfield 46, 3) := by decide +kernel
theorem d_Mo_report_88 : decode b_Mo_report 88 = .ok (.iload_n 3, 1) := by decide +kernel
theorem d_Mo_report_89 : decode b_Mo_report 89 = .ok (.iaload, 1) := by decide +kernel
theorem d_Mo_report_90 : decode b_Mo_report 90 = .ok (.iconst 2, 1) := by decide +kernel
theorem d_Mo_report_91 : decode b_Mo_report 91 = .ok (.if_icmp .ne 13, 3) := by decide +kernel
theorem d_Mo_report_94 : decode b_Mo_report 94 = .ok (.aload_n 0, 1) := by decide +kernel
theorem d_Mo_report_95 : decode b_Mo_report 95 = .ok (.getfield 46, 3) := by decide +kernel
theorem d_Mo_report_98 : decode b_Mo_report 98 = .ok (.iload_n 3, 1) := by decide +kernel
theorem d_Mo_report_99 : decode b_Mo_report 99 = .ok (.iconst 1, 1) := by decide +kernel
theorem d_Mo_report_100 : decode b_Mo_report 100 = .ok (.iastore, 1) := by decide +kernel
theorem d_Mo_report_101 : decode b_Mo_report 101 = .ok (.iinc 2 1, 3) := by decide +kernel
theorem d_Mo_report_104 : decode b_Mo_report 104 = .ok (.iinc 3 1, 3) := by decide +kernel
theorem d_Mo_report_107 : decode b_Mo_report 107 = .ok (.goto (-34), 3) := by decide +kernel
theorem d_Mo_report_110 : decode b_Mo_report 110 = .ok (.bipush 8, 2) := by decide +kernel
theorem d_Mo_report_112 : decode b_Mo_report 112 = .ok (.iload_n 1, 1) := by decide +kernel
theorem d_Mo_report_113 : decode b_Mo_report 113 = .ok (.imul, 1) := by decide +kernel
theorem d_Mo_report_114 : decode b_Mo_report 114 = .ok (.istore_n 3, 1) := by decide +kernel
theorem d_Mo_report_115 : decode b_Mo_report 115 = .ok (.iload_n 3, 1) := by decide +kernel
theorem d_Mo_report_116 : decode b_Mo_report 116 = .ok (.bipush 8, 2) := by decide +kernel
theorem d_Mo_report_118 : decode b_Mo_report 118 = .ok (.iload_n 1, 1) := by decide +kernel
theorem d_Mo_report_119 : decode b_Mo_report 119 = .ok (.imul, 1) := by decide +kernel
theorem d_Mo_report_120 : decode b_Mo_report 120 = .ok (.bipush 8, 2) := by decide +kernel
theorem d_Mo_report_122 : decode b_Mo_report 122 = .ok (.iadd, 1) := by decide +kernel
theorem d_Mo_report_123 : decode b_Mo_report 123 = .ok (.if_icmp .ge 66, 3) := by decide +kernel
theorem d_Mo_report_126 : decode b_Mo_report 126 = .ok (.aload_n 0, 1) := by decide +kernel
theorem d_Mo_report_127 : decode b_Mo_report 127 = .ok (.getfield 64, 3) := by decide +kernel
theorem d_Mo_report_130 : decode b_Mo_report 130 = .ok (.iload_n 3, 1) := by decide +kernel
theorem d_Mo_report_131 : decode b_Mo_report 131 = .ok (.iaload, 1) := by decide +kernel
theorem d_Mo_report_132 : decode b_Mo_report 132 = .ok (.istore 4, 2) := by decide +kernel
theorem d_Mo_report_134 : decode b_Mo_report 134 = .ok (.iload 4, 2) := by decide +kernel
theorem d_Mo_report_136 : decode b_Mo_report 136 = .ok (.aload_n 0, 1) := by decide +kernel
theorem d_Mo_report_137 : decode b_Mo_report 137 = .ok (.getfield 106, 3) := by decide +kernel
theorem d_Mo_report_140 : decode b_Mo_report 140 = .ok (.if_icmp .ge 36, 3) := by decide +kernel
theorem d_Mo_report_143 : decode b_Mo_report 143 = .ok (.aload_n 0, 1) := by decide +kernel
theorem d_Mo_report_144 : decode b_Mo_report 144 = .ok (.getfield 61, 3) := by decide +kernel
theorem d_Mo_report_147 : decode b_Mo_report 147 = .ok (.iload_n 3, 1) := by decide +kernel
theorem d_Mo_report_148 : decode b_Mo_report 148 = .ok (.iaload, 1) := by decide +kernel
theorem d_Mo_report_149 : decode b_Mo_report 149 = .ok (.ifCond .lt 27, 3) := by decide +kernel
theorem d_Mo_report_152 : decode b_Mo_report 152 = .ok (.aload_n 0, 1) := by decide +kernel
theorem d_Mo_report_153 : decode b_Mo_report 153 = .ok (.getfield 43, 3) := by decide +kernel
theorem d_Mo_report_156 : decode b_Mo_report 156 = .ok (.aload_n 0, 1) := by decide +kernel
theorem d_Mo_report_157 : decode b_Mo_report 157 = .ok (.getfield 67, 3) := by decide +kernel
theorem d_Mo_report_160 : decode b_Mo_report 160 = .ok (.bipush 24, 2) := by decide +kernel
theorem d_Mo_report_162 : decode b_Mo_report 162 = .ok (.iload_n 3, 1) := by decide +kernel
theorem d_Mo_report_163 : decode b_Mo_report 163 = .ok (.imul, 1) := by decide +kernel
theorem d_Mo_report_164 : decode b_Mo_report 164 = .ok (.iload 4, 2) := by decide +kernel
theorem d_Mo_report_166 : decode b_Mo_report 166 = .ok (.iadd, 1) := by decide +kernel
theorem d_Mo_report_167 : decode b_Mo_report 167 = .ok (.iaload, 1) := by decide +kernel
theorem d_Mo_report_168 : decode b_Mo_report 168 = .ok (.iconst 0, 1) := by decide +kernel
theorem d_Mo_report_169 : decode b_Mo_report 169 = .ok (.iastore, 1) := by decide +kernel
theorem d_Mo_report_170 : decode b_Mo_report 170 = .ok (.iinc 4 1, 3) := by decide +kernel
theorem d_Mo_report_173 : decode b_Mo_report 173 = .ok (.goto (-39), 3) := by decide +kernel
theorem d_Mo_report_176 : decode b_Mo_report 176 = .ok (.aload_n 0, 1) := by decide +kernel
theorem d_Mo_report_177 : decode b_Mo_report 177 = .ok (.getfield 61, 3) := by decide +kernel
theorem d_Mo_report_180 : decode b_Mo_report 180 = .ok (.iload_n 3, 1) := by decide +kernel
theorem d_Mo_report_181 : decode b_Mo_report 181 = .ok (.iconst (-1), 1) := by decide +kernel
theorem d_Mo_report_182 : decode b_Mo_report 182 = .ok (.iastore, 1) := by decide +kernel
theorem d_Mo_report_183 : decode b_Mo_report 183 = .ok (.iinc 3 1, 3) := by decide +kernel
theorem d_Mo_report_186 : decode b_Mo_report 186 = .ok (.goto (-71), 3) := by decide +kernel
theorem d_Mo_report_189 : decode b_Mo_report 189 = .ok (.iload_n 2, 1) := by decide +kernel
theorem d_Mo_report_190 : decode b_Mo_report 190 = .ok (.ireturn, 1) := by decide +kernel
theorem d_Mo_close_0 : decode b_Mo_close 0 = .ok (.aload_n 0, 1) := by decide +kernel
theorem d_Mo_close_1 : decode b_Mo_close 1 = .ok (.aload_n 0, 1) := by decide +kernel
theorem d_Mo_close_2 : decode b_Mo_close 2 = .ok (.iload_n 1, 1) := by decide +kernel
theorem d_Mo_close_3 : decode b_Mo_close 3 = .ok (.invokevirtual 78, 3) := by decide +kernel
theorem d_Mo_close_6 : decode b_Mo_close 6 = .ok (.ifCond .ne 7, 3) := by decide +kernel
theorem d_Mo_close_9 : decode b_Mo_close 9 = .ok (.iconst 1, 1) := by decide +kernel
theorem d_Mo_close_10 : decode b_Mo_close 10 = .ok (.goto 4, 3) := by decide +kernel
theorem d_Mo_close_13 : decode b_Mo_close 13 = .ok (.iconst 0, 1) := by decide +kernel
theorem d_Mo_close_14 : decode b_Mo_close 14 = .ok (.iconst 0, 1) := by decide +kernel
theorem d_Mo_close_15 : decode b_Mo_close 15 = .ok (.iconst 0, 1) := by decide +kernel
theorem d_Mo_close_16 : decode b_Mo_close 16 = .ok (.invokevirtual 98, 3) := by decide +kernel
theorem d_Mo_close_19 : decode b_Mo_close 19 = .ok (.ifCond .eq 5, 3) := by decide +kernel
theorem d_Mo_close_22 : decode b_Mo_close 22 = .ok (.iconst 0, 1) := by decide +kernel
theorem d_Mo_close_23 : decode b_Mo_close 23 = .ok (.ireturn, 1) := by decide +kernel
theorem d_Mo_close_24 : decode b_Mo_close 24 = .ok (.aload_n 0, 1) := by decide +kernel
theorem d_Mo_close_25 : decode b_Mo_close 25 = .ok (.getfield 89, 3) := by decide +kernel
theorem d_Mo_close_28 : decode b_Mo_close 28 = .ok (.ifCond .ne 13, 3) := by decide +kernel
theorem d_Mo_close_31 : decode b_Mo_close 31 = .ok (.aload_n 0, 1) := by decide +kernel
theorem d_Mo_close_32 : decode b_Mo_close 32 = .ok (.getfield 34, 3) := by decide +kernel
theorem d_Mo_close_35 : decode b_Mo_close 35 = .ok (.iload_n 1, 1) := by decide +kernel
theorem d_Mo_close_36 : decode b_Mo_close 36 = .ok (.iaload, 1) := by decide +kernel
theorem d_Mo_close_37 : decode b_Mo_close 37 = .ok (.iconst 2, 1) := by decide +kernel
theorem d_Mo_close_38 : decode b_Mo_close 38 = .ok (.if_icmp .ne 18, 3) := by decide +kernel
theorem d_Mo_close_41 : decode b_Mo_close 41 = .ok (.aload_n 0, 1) := by decide +kernel
theorem d_Mo_close_42 : decode b_Mo_close 42 = .ok (.getfield 89, 3) := by decide +kernel
theorem d_Mo_close_45 : decode b_Mo_close 45 = .ok (.ifCond .eq 8, 3) := by decide +kernel
theorem d_Mo_close_48 : decode b_Mo_close 48 = .ok (.bipush (-2), 2) := by decide +kernel
theorem d_Mo_close_50 : decode b_Mo_close 50 = .ok (.goto 5, 3) := by decide +kernel
theorem d_Mo_close_53 : decode b_Mo_close 53 = .ok (.bipush (-4), 2) := by decide +kernel
theorem d_Mo_close_55 : decode b_Mo_close 55 = .ok (.ireturn, 1) := by decide +kernel
theorem d_Mo_close_56 : decode b_Mo_close 56 = .ok (.aload_n 0, 1) := by decide +kernel
theorem d_Mo_close_57 : decode b_Mo_close 57 = .ok (.invokevirtual 102, 3) := by decide +kernel
theorem d_Mo_close_60 : decode b_Mo_close 60 = .ok (.ifCond .ne 6, 3) := by decide +kernel
theorem d_Mo_close_63 : decode b_Mo_close 63 = .ok (.bipush (-2), 2) := by decide +kernel
theorem d_Mo_close_65 : decode b_Mo_close 65 = .ok (.ireturn, 1) := by decide +kernel
theorem d_Mo_close_66 : decode b_Mo_close 66 = .ok (.iconst 0, 1) := by decide +kernel
theorem d_Mo_close_67 : decode b_Mo_close 67 = .ok (.istore_n 2, 1) := by decide +kernel
theorem d_Mo_close_68 : decode b_Mo_close 68 = .ok (.bipush 8, 2) := by decide +kernel
theorem d_Mo_close_70 : decode b_Mo_close 70 = .ok (.iload_n 1, 1) := by decide +kernel
theorem d_Mo_close_71 : decode b_Mo_close 71 = .ok (.imul, 1) := by decide +kernel
theorem d_Mo_close_72 : decode b_Mo_close 72 = .ok (.istore_n 3, 1) := by decide +kernel
theorem d_Mo_close_73 : decode b_Mo_close 73 = .ok (.iload_n 3, 1) := by decide +kernel
theorem d_Mo_close_74 : decode b_Mo_close 74 = .ok (.bipush 8, 2) := by decide +kernel
theorem d_Mo_close_76 : decode b_Mo_close 76 = .ok (.iload_n 1, 1) := by decide +kernel
theorem d_Mo_close_77 : decode b_Mo_close 77 = .ok (.imul, 1) := by decide +kernel
theorem d_Mo_close_78 : decode b_Mo_close 78 = .ok (.bipush 8, 2) := by decide +kernel
theorem d_Mo_close_80 : decode b_Mo_close 80 = .ok (.iadd, 1) := by decide +kernel
theorem d_Mo_close_81 : decode b_Mo_close 81 = .ok (.if_icmp .ge 43, 3) := by decide +kernel
theorem d_Mo_close_84 : decode b_Mo_close 84 = .ok (.aload_n 0, 1) := by decide +kernel
theorem d_Mo_close_85 : decode b_Mo_close 85 = .ok (.getfield 61, 3) := by decide +kernel
theorem d_Mo_close_88 : decode b_Mo_close 88 = .ok (.iload_n 3, 1) := by decide +kernel
theorem d_Mo_close_89 : decode b_Mo_close 89 = .ok (.iaload, 1) := by decide +kernel
theorem d_Mo_close_90 : decode b_Mo_close 90 = .ok (.ifCond .lt 19, 3) := by decide +kernel
theorem d_Mo_close_93 : decode b_Mo_close 93 = .ok (.iload_n 2, 1) := by decide +kernel
theorem d_Mo_close_94 : decode b_Mo_close 94 = .ok (.aload_n 0, 1) := by decide +kernel
theorem d_Mo_close_95 : decode b_Mo_close 95 = .ok (.getfield 106, 3) := by decide +kernel
theorem d_Mo_close_98 : decode b_Mo_close 98 = .ok (.iadd, 1) := by decide +kernel
theorem d_Mo_close_99 : decode b_Mo_close 99 = .ok (.aload_n 0, 1) := by decide +kernel
theorem d_Mo_close_100 : decode b_Mo_close 100 = .ok (.getfield 64, 3) := by decide +kernel
theorem d_Mo_close_103 : decode b_Mo_close 103 = .ok (.iload_n 3, 1) := by decide +kernel
theorem d_Mo_close_104 : decode b_Mo_close 104 = .ok (.iaload, 1) := by decide +kernel
theorem d_Mo_close_105 : decode b_Mo_close 105 = .ok (.isub, 1) := by decide +kernel
theorem d_Mo_close_106 : decode b_Mo_close 106 = .ok (.goto 4, 3) := by decide +kernel
theorem d_Mo_close_109 : decode b_Mo_close 109 = .ok (.iload_n 2, 1) := by decide +kernel
theorem d_Mo_close_110 : decode b_Mo_close 110 = .ok (.istore_n 2, 1) := by decide +kernel
theorem d_Mo_close_111 : decode b_Mo_close 111 = .ok (.aload_n 0, 1) := by decide +kernel
theorem d_Mo_close_112 : decode b_Mo_close 112 = .ok (.getfield 61, 3) := by decide +kernel
theorem d_Mo_close_115 : decode b_Mo_close 115 = .ok (.iload_n 3, 1) := by decide +kernel
theorem d_Mo_close_116 : decode b_Mo_close 116 = .ok (.iconst (-1), 1) := by decide +kernel
theorem d_Mo_close_117 : decode b_Mo_close 117 = .ok (.iastore, 1) := by decide +kernel
theorem d_Mo_close_118 : decode b_Mo_close 118 = .ok (.iinc 3 1, 3) := by decide +kernel
theorem d_Mo_close_121 : decode b_Mo_close 121 = .ok (.goto (-48), 3) := by decide +kernel
theorem d_Mo_close_124 : decode b_Mo_close 124 = .ok (.bipush 100, 2) := by decide +kernel
theorem d_Mo_close_126 : decode b_Mo_close 126 = .ok (.iload_n 1, 1) := by decide +kernel
theorem d_Mo_close_127 : decode b_Mo_close 127 = .ok (.imul, 1) := by decide +kernel
theorem d_Mo_close_128 : decode b_Mo_close 128 = .ok (.istore_n 3, 1) := by decide +kernel
theorem d_Mo_close_129 : decode b_Mo_close 129 = .ok (.iload_n 3, 1) := by decide +kernel
theorem d_Mo_close_130 : decode b_Mo_close 130 = .ok (.bipush 100, 2) := by decide +kernel
theorem d_Mo_close_132 : decode b_Mo_close 132 = .ok (.iload_n 1, 1) := by decide +kernel
theorem d_Mo_close_133 : decode b_Mo_close 133 = .ok (.imul, 1) := by decide +kernel
theorem d_Mo_close_134 : decode b_Mo_close 134 = .ok (.bipush 100, 2) := by decide +kernel
theorem d_Mo_close_136 : decode b_Mo_close 136 = .ok (.iadd, 1) := by decide +kernel
theorem d_Mo_close_137 : decode b_Mo_close 137 = .ok (.if_icmp .ge 35, 3) := by decide +kernel
theorem d_Mo_close_140 : decode b_Mo_close 140 = .ok (.aload_n 0, 1) := by decide +kernel
theorem d_Mo_close_141 : decode b_Mo_close 141 = .ok (.getfield 46, 3) := by decide +kernel
theorem d_Mo_close_144 : decode b_Mo_close 144 = .ok (.iload_n 3, 1) := by decide +kernel
theorem d_Mo_close_145 : decode b_Mo_close 145 = .ok (.aload_n 0, 1) := by decide +kernel
theorem d_Mo_close_146 : decode b_Mo_close 146 = .ok (.getfield 46, 3) := by decide +kernel
theorem d_Mo_close_149 : decode b_Mo_close 149 = .ok (.iload_n 3, 1) := by decide +kernel
theorem d_Mo_close_150 : decode b_Mo_close 150 = .ok (.iaload, 1) := by decide +kernel
theorem d_Mo_close_151 : decode b_Mo_close 151 = .ok (.iconst 2, 1) := by decide +kernel
theorem d_Mo_close_152 : decode b_Mo_close 152 = .ok (.if_icmp .ne 7, 3) := by decide +kernel
theorem d_Mo_close_155 : decode b_Mo_close 155 = .ok (.iconst 3, 1) := by decide +kernel
theorem d_Mo_close_156 : decode b_Mo_close 156 = .ok (.goto 9, 3) := by decide +kernel
theorem d_Mo_close_159 : decode b_Mo_close 159 = .ok (.aload_n 0, 1) := by decide +kernel
theorem d_Mo_close_160 : decode b_Mo_close 160 = .ok (.getfield 46, 3) := by decide +kernel
theorem d_Mo_close_163 : decode b_Mo_close 163 = .ok (.iload_n 3, 1) := by decide +kernel
theorem d_Mo_close_164 : decode b_Mo_close 164 = .ok (.iaload, 1) := by decide +kernel
theorem d_Mo_close_165 : decode b_Mo_close 165 = .ok (.iastore, 1) := by decide +kernel
theorem d_Mo_close_166 : decode b_Mo_close 166 = .ok (.iinc 3 1, 3) := by decide +kernel
theorem d_Mo_close_169 : decode b_Mo_close 169 = .ok (.goto (-40), 3) := by decide +kernel
theorem d_Mo_close_172 : decode b_Mo_close 172 = .ok (.aload_n 0, 1) := by decide +kernel
theorem d_Mo_close_173 : decode b_Mo_close 173 = .ok (.getfield 34, 3) := by decide +kernel
theorem d_Mo_close_176 : decode b_Mo_close 176 = .ok (.iload_n 1, 1) := by decide +kernel
theorem d_Mo_close_177 : decode b_Mo_close 177 = .ok (.iconst 2, 1) := by decide +kernel
theorem d_Mo_close_178 : decode b_Mo_close 178 = .ok (.iastore, 1) := by decide +kernel
theorem d_Mo_close_179 : decode b_Mo_close 179 = .ok (.iload_n 2, 1) := by decide +kernel
theorem d_Mo_close_180 : decode b_Mo_close 180 = .ok (.ireturn, 1) := by decide +kernel
theorem d_Mo_isHolder_0 : decode b_Mo_isHolder 0 = .ok (.iload_n 0, 1) := by decide +kernel
theorem d_Mo_isHolder_1 : decode b_Mo_isHolder 1 = .ok (.iconst 0, 1) := by decide +kernel
theorem d_Mo_isHolder_2 : decode b_Mo_isHolder 2 = .ok (.iconst 4, 1) := by decide +kernel
theorem d_Mo_isHolder_3 : decode b_Mo_isHolder 3 = .ok (.invokestatic 74, 3) := by decide +kernel
theorem d_Mo_isHolder_6 : decode b_Mo_isHolder 6 = .ok (.ireturn, 1) := by decide +kernel
theorem d_Mo_keysOf_0 : decode b_Mo_keysOf 0 = .ok (.iconst 0, 1) := by decide +kernel
theorem d_Mo_keysOf_1 : decode b_Mo_keysOf 1 = .ok (.istore_n 2, 1) := by decide +kernel
theorem d_Mo_keysOf_2 : decode b_Mo_keysOf 2 = .ok (.iconst 0, 1) := by decide +kernel
theorem d_Mo_keysOf_3 : decode b_Mo_keysOf 3 = .ok (.istore_n 3, 1) := by decide +kernel
theorem d_Mo_keysOf_4 : decode b_Mo_keysOf 4 = .ok (.iload_n 3, 1) := by decide +kernel
theorem d_Mo_keysOf_5 : decode b_Mo_keysOf 5 = .ok (.iconst 5, 1) := by decide +kernel
theorem d_Mo_keysOf_6 : decode b_Mo_keysOf 6 = .ok (.if_icmp .ge 22, 3) := by decide +kernel
theorem d_Mo_keysOf_9 : decode b_Mo_keysOf 9 = .ok (.iload_n 2, 1) := by decide +kernel
theorem d_Mo_keysOf_10 : decode b_Mo_keysOf 10 = .ok (.aload_n 0, 1) := by decide +kernel
theorem d_Mo_keysOf_11 : decode b_Mo_keysOf 11 = .ok (.getfield 58, 3) := by decide +kernel
theorem d_Mo_keysOf_14 : decode b_Mo_keysOf 14 = .ok (.iload_n 1, 1) := by decide +kernel
theorem d_Mo_keysOf_15 : decode b_Mo_keysOf 15 = .ok (.iaload, 1) := by decide +kernel
theorem d_Mo_keysOf_16 : decode b_Mo_keysOf 16 = .ok (.iload_n 3, 1) := by decide +kernel
theorem d_Mo_keysOf_17 : decode b_Mo_keysOf 17 = .ok (.ishr, 1) := by decide +kernel
theorem d_Mo_keysOf_18 : decode b_Mo_keysOf 18 = .ok (.iconst 1, 1) := by decide +kernel
theorem d_Mo_keysOf_19 : decode b_Mo_keysOf 19 = .ok (.iand, 1) := by decide +kernel
theorem d_Mo_keysOf_20 : decode b_Mo_keysOf 20 = .ok (.iadd, 1) := by decide +kernel
theorem d_Mo_keysOf_21 : decode b_Mo_keysOf 21 = .ok (.istore_n 2, 1) := by decide +kernel
theorem d_Mo_keysOf_22 : decode b_Mo_keysOf 22 = .ok (.iinc 3 1, 3) := by decide +kernel
theorem d_Mo_keysOf_25 : decode b_Mo_keysOf 25 = .ok (.goto (-21), 3) := by decide +kernel
theorem d_Mo_keysOf_28 : decode b_Mo_keysOf 28 = .ok (.iload_n 2, 1) := by decide +kernel
theorem d_Mo_keysOf_29 : decode b_Mo_keysOf 29 = .ok (.ireturn, 1) := by decide +kernel
theorem d_Mo_key_0 : decode b_Mo_key 0 = .ok (.aload_n 0, 1) := by decide +kernel
theorem d_Mo_key_1 : decode b_Mo_key 1 = .ok (.iload_n 1, 1) := by decide +kernel
theorem d_Mo_key_2 : decode b_Mo_key 2 = .ok (.invokestatic 153, 3) := by decide +kernel
theorem d_Mo_key_5 : decode b_Mo_key 5 = .ok (.ifCond .eq 12, 3) := by decide +kernel
theorem d_Mo_key_8 : decode b_Mo_key 8 = .ok (.aload_n 0, 1) := by decide +kernel
theorem d_Mo_key_9 : decode b_Mo_key 9 = .ok (.iload_n 2, 1) := by decide +kernel
theorem d_Mo_key_10 : decode b_Mo_key 10 = .ok (.iload_n 3, 1) := by decide +kernel
theorem d_Mo_key_11 : decode b_Mo_key 11 = .ok (.invokevirtual 133, 3) := by decide +kernel
theorem d_Mo_key_14 : decode b_Mo_key 14 = .ok (.ifCond .ne 7, 3) := by decide +kernel
theorem d_Mo_key_17 : decode b_Mo_key 17 = .ok (.iconst 1, 1) := by decide +kernel
theorem d_Mo_key_18 : decode b_Mo_key 18 = .ok (.goto 4, 3) := by decide +kernel
theorem d_Mo_key_21 : decode b_Mo_key 21 = .ok (.iconst 0, 1) := by decide +kernel
theorem d_Mo_key_22 : decode b_Mo_key 22 = .ok (.iconst 0, 1) := by decide +kernel
theorem d_Mo_key_23 : decode b_Mo_key 23 = .ok (.iconst 0, 1) := by decide +kernel
theorem d_Mo_key_24 : decode b_Mo_key 24 = .ok (.invokevirtual 98, 3) := by decide +kernel
theorem d_Mo_key_27 : decode b_Mo_key 27 = .ok (.ifCond .eq 5, 3) := by decide +kernel
theorem d_Mo_key_30 : decode b_Mo_key 30 = .ok (.iconst 0, 1) := by decide +kernel
theorem d_Mo_key_31 : decode b_Mo_key 31 = .ok (.ireturn, 1) := by decide +kernel
theorem d_Mo_key_32 : decode b_Mo_key 32 = .ok (.bipush 100, 2) := by decide +kernel
theorem d_Mo_key_34 : decode b_Mo_key 34 = .ok (.iload_n 2, 1) := by decide +kernel
theorem d_Mo_key_35 : decode b_Mo_key 35 = .ok (.imul, 1) := by decide +kernel
theorem d_Mo_key_36 : decode b_Mo_key 36 = .ok (.iload_n 3, 1) := by decide +kernel
theorem d_Mo_key_37 : decode b_Mo_key 37 = .ok (.iadd, 1) := by decide +kernel
theorem d_Mo_key_38 : decode b_Mo_key 38 = .ok (.istore 4, 2) := by decide +kernel
theorem d_Mo_key_40 : decode b_Mo_key 40 = .ok (.aload_n 0, 1) := by decide +kernel
theorem d_Mo_key_41 : decode b_Mo_key 41 = .ok (.getfield 89, 3) := by decide +kernel
theorem d_Mo_key_44 : decode b_Mo_key 44 = .ok (.ifCond .ne 10, 3) := by decide +kernel
theorem d_Mo_key_47 : decode b_Mo_key 47 = .ok (.aload_n 0, 1) := by decide +kernel
theorem d_Mo_key_48 : decode b_Mo_key 48 = .ok (.invokevirtual 102, 3) := by decide +kernel
theorem d_Mo_key_51 : decode b_Mo_key 51 = .ok (.ifCond .ne 6, 3) := by decide +kernel
theorem d_Mo_key_54 : decode b_Mo_key 54 = .ok (.bipush (-2), 2) := by decide +kernel
theorem d_Mo_key_56 : decode b_Mo_key 56 = .ok (.ireturn, 1) := by decide +kernel
theorem d_Mo_key_57 : decode b_Mo_key 57 = .ok (.aload_n 0, 1) := by decide +kernel
theorem d_Mo_key_58 : decode b_Mo_key 58 = .ok (.getfield 58, 3) := by decide +kernel
theorem d_Mo_key_61 : decode b_Mo_key 61 = .ok (.iload 4, 2) := by decide +kernel
theorem d_Mo_key_63 : decode b_Mo_key 63 = .ok (.aload_n 0, 1) := by decide +kernel
theorem d_Mo_key_64 : decode b_Mo_key 64 = .ok (.getfield 58, 3) := by decide +kernel
theorem d_Mo_key_67 : decode b_Mo_key 67 = .ok (.iload 4, 2) := by decide +kernel
theorem d_Mo_key_69 : decode b_Mo_key 69 = .ok (.iaload, 1) := by decide +kernel
theorem d_Mo_key_70 : decode b_Mo_key 70 = .ok (.iconst 1, 1) := by decide +kernel
theorem d_Mo_key_71 : decode b_Mo_key 71 = .ok (.iload_n 1, 1) := by decide +kernel
theorem d_Mo_key_72 : decode b_Mo_key 72 = .ok (.ishl, 1) := by decide +kernel
theorem d_Mo_key_73 : decode b_Mo_key 73 = .ok (.ior, 1) := by decide +kernel
theorem d_Mo_key_74 : decode b_Mo_key 74 = .ok (.iastore, 1) := by decide +kernel
theorem d_Mo_key_75 : decode b_Mo_key 75 = .ok (.aload_n 0, 1) := by decide +kernel
theorem d_Mo_key_76 : decode b_Mo_key 76 = .ok (.iload 4, 2) := by decide +kernel
theorem d_Mo_key_78 : decode b_Mo_key 78 = .ok (.invokevirtual 156, 3) := by decide +kernel
theorem d_Mo_key_81 : decode b_Mo_key 81 = .ok (.ireturn, 1) := by decide +kernel
theorem d_Mo_arm_0 : decode b_Mo_arm 0 = .ok (.aload_n 0, 1) := by decide +kernel
theorem d_Mo_arm_1 : decode b_Mo_arm 1 = .ok (.aload_n 0, 1) := by decide +kernel
theorem d_Mo_arm_2 : decode b_Mo_arm 2 = .ok (.iload_n 1, 1) := by decide +kernel
theorem d_Mo_arm_3 : decode b_Mo_arm 3 = .ok (.iload_n 2, 1) := by decide +kernel
theorem d_Mo_arm_4 : decode b_Mo_arm 4 = .ok (.invokevirtual 133, 3) := by decide +kernel
theorem d_Mo_arm_7 : decode b_Mo_arm 7 = .ok (.ifCond .ne 7, 3) := by decide +kernel
theorem d_Mo_arm_10 : decode b_Mo_arm 10 = .ok (.iconst 1, 1) := by decide +kernel
theorem d_Mo_arm_11 : decode b_Mo_arm 11 = .ok (.goto 4, 3) := by decide +kernel
theorem d_Mo_arm_14 : decode b_Mo_arm 14 = .ok (.iconst 0, 1) := by decide +kernel
theorem d_Mo_arm_15 : decode b_Mo_arm 15 = .ok (.iconst 0, 1) := by decide +kernel
theorem d_Mo_arm_16 : decode b_Mo_arm 16 = .ok (.iconst 0, 1) := by decide +kernel
theorem d_Mo_arm_17 : decode b_Mo_arm 17 = .ok (.invokevirtual 98, 3) := by decide +kernel
theorem d_Mo_arm_20 : decode b_Mo_arm 20 = .ok (.ifCond .eq 5, 3) := by decide +kernel
theorem d_Mo_arm_23 : decode b_Mo_arm 23 = .ok (.iconst 0, 1) := by decide +kernel
theorem d_Mo_arm_24 : decode b_Mo_arm 24 = .ok (.ireturn, 1) := by decide +kernel
theorem d_Mo_arm_25 : decode b_Mo_arm 25 = .ok (.bipush 100, 2) := by decide +kernel
theorem d_Mo_arm_27 : decode b_Mo_arm 27 = .ok (.iload_n 1, 1) := by decide +kernel
theorem d_Mo_arm_28 : decode b_Mo_arm 28 = .ok (.imul, 1) := by decide +kernel
theorem d_Mo_arm_29 : decode b_Mo_arm 29 = .ok (.iload_n 2, 1) := by decide +kernel
theorem d_Mo_arm_30 : decode b_Mo_arm 30 = .ok (.iadd, 1) := by decide +kernel
theorem d_Mo_arm_31 : decode b_Mo_arm 31 = .ok (.istore_n 3, 1) := by decide +kernel
theorem d_Mo_arm_32 : decode b_Mo_arm 32 = .ok (.aload_n 0, 1) := by decide +kernel
theorem d_Mo_arm_33 : decode b_Mo_arm 33 = .ok (.getfield 46, 3) := by decide +kernel
theorem d_Mo_arm_36 : decode b_Mo_arm 36 = .ok (.iload_n 3, 1) := by decide +kernel
theorem d_Mo_arm_37 : decode b_Mo_arm 37 = .ok (.iaload, 1) := by decide +kernel
theorem d_Mo_arm_38 : decode b_Mo_arm 38 = .ok (.iconst 1, 1) := by decide +kernel
theorem d_Mo_arm_39 : decode b_Mo_arm 39 = .ok (.if_icmp .ne 28, 3) := by decide +kernel
theorem d_Mo_arm_42 : decode b_Mo_arm 42 = .ok (.aload_n 0, 1) := by decide +kernel
theorem d_Mo_arm_43 : decode b_Mo_arm 43 = .ok (.getfield 140, 3) := by decide +kernel
theorem d_Mo_arm_46 : decode b_Mo_arm 46 = .ok (.ifCond .ne 12, 3) := by decide +kernel
theorem d_Mo_arm_49 : decode b_Mo_arm 49 = .ok (.aload_n 0, 1) := by decide +kernel
theorem d_Mo_arm_50 : decode b_Mo_arm 50 = .ok (.iload_n 3, 1) := by decide +kernel
theorem d_Mo_arm_51 : decode b_Mo_arm 51 = .ok (.invokevirtual 156, 3) := by decide +kernel
theorem d_Mo_arm_54 : decode b_Mo_arm 54 = .ok (.iconst 1, 1) := by decide +kernel
theorem d_Mo_arm_55 : decode b_Mo_arm 55 = .ok (.if_icmp .le 12, 3) := by decide +kernel
theorem d_Mo_arm_58 : decode b_Mo_arm 58 = .ok (.aload_n 0, 1) := by decide +kernel
theorem d_Mo_arm_59 : decode b_Mo_arm 59 = .ok (.getfield 52, 3) := by decide +kernel
theorem d_Mo_arm_62 : decode b_Mo_arm 62 = .ok (.iload_n 3, 1) := by decide +kernel
theorem d_Mo_arm_63 : decode b_Mo_arm 63 = .ok (.iaload, 1) := by decide +kernel
theorem d_Mo_arm_64 : decode b_Mo_arm 64 = .ok (.goto 4, 3) := by decide +kernel
theorem d_Mo_arm_67 : decode b_Mo_arm 67 = .ok (.iconst (-1), 1) := by decide +kernel
theorem d_Mo_arm_68 : decode b_Mo_arm 68 = .ok (.ireturn, 1) := by decide +kernel
theorem d_Mo_open_0 : decode b_Mo_open 0 = .ok (.aload_n 0, 1) := by decide +kernel
theorem d_Mo_open_1 : decode b_Mo_open 1 = .ok (.iload_n 1, 1) := by decide +kernel
theorem d_Mo_open_2 : decode b_Mo_open 2 = .ok (.invokestatic 153, 3) := by decide +kernel
theorem d_Mo_open_5 : decode b_Mo_open 5 = .ok (.ifCond .eq 10, 3) := by decide +kernel
theorem d_Mo_open_8 : decode b_Mo_open 8 = .ok (.iload_n 2, 1) := by decide +kernel
theorem d_Mo_open_9 : decode b_Mo_open 9 = .ok (.invokestatic 153, 3) := by decide +kernel
theorem d_Mo_open_12 : decode b_Mo_open 12 = .ok (.ifCond .ne 7, 3) := by decide +kernel
theorem d_Mo_open_15 : decode b_Mo_open 15 = .ok (.iconst 1, 1) := by decide +kernel
theorem d_Mo_open_16 : decode b_Mo_open 16 = .ok (.goto 4, 3) := by decide +kernel
theorem d_Mo_open_19 : decode b_Mo_open 19 = .ok (.iconst 0, 1) := by decide +kernel
theorem d_Mo_open_20 : decode b_Mo_open 20 = .ok (.iconst 0, 1) := by decide +kernel
theorem d_Mo_open_21 : decode b_Mo_open 21 = .ok (.iconst 0, 1) := by decide +kernel
theorem d_Mo_open_22 : decode b_Mo_open 22 = .ok (.invokevirtual 98, 3) := by decide +kernel
theorem d_Mo_open_25 : decode b_Mo_open 25 = .ok (.ifCond .eq 5, 3) := by decide +kernel
theorem d_Mo_open_28 : decode b_Mo_open 28 = .ok (.iconst 0, 1) := by decide +kernel
theorem d_Mo_open_29 : decode b_Mo_open 29 = .ok (.ireturn, 1) := by decide +kernel
theorem d_Mo_open_30 : decode b_Mo_open 30 = .ok (.aload_n 0, 1) := by decide +kernel
theorem d_Mo_open_31 : decode b_Mo_open 31 = .ok (.getfield 89, 3) := by decide +kernel
theorem d_Mo_open_34 : decode b_Mo_open 34 = .ok (.ifCond .eq 6, 3) := by decide +kernel
theorem d_Mo_open_37 : decode b_Mo_open 37 = .ok (.bipush (-2), 2) := by decide +kernel
theorem d_Mo_open_39 : decode b_Mo_open 39 = .ok (.ireturn, 1) := by decide +kernel
theorem d_Mo_open_40 : decode b_Mo_open 40 = .ok (.aload_n 0, 1) := by decide +kernel
theorem d_Mo_open_41 : decode b_Mo_open 41 = .ok (.getfield 140, 3) := by decide +kernel
theorem d_Mo_open_44 : decode b_Mo_open 44 = .ok (.ifCond .ne 8, 3) := by decide +kernel
theorem d_Mo_open_47 : decode b_Mo_open 47 = .ok (.iload_n 1, 1) := by decide +kernel
theorem d_Mo_open_48 : decode b_Mo_open 48 = .ok (.iload_n 2, 1) := by decide +kernel
theorem d_Mo_open_49 : decode b_Mo_open 49 = .ok (.if_icmp .ne 5, 3) := by decide +kernel
theorem d_Mo_open_52 : decode b_Mo_open 52 = .ok (.iconst 0, 1) := by decide +kernel
theorem d_Mo_open_53 : decode b_Mo_open 53 = .ok (.ireturn, 1) := by decide +kernel
theorem d_Mo_open_54 : decode b_Mo_open 54 = .ok (.aload_n 0, 1) := by decide +kernel
theorem d_Mo_open_55 : decode b_Mo_open 55 = .ok (.invokevirtual 102, 3) := by decide +kernel
theorem d_Mo_open_58 : decode b_Mo_open 58 = .ok (.ifCond .ne 6, 3) := by decide +kernel
theorem d_Mo_open_61 : decode b_Mo_open 61 = .ok (.bipush (-2), 2) := by decide +kernel
theorem d_Mo_open_63 : decode b_Mo_open 63 = .ok (.ireturn, 1) := by decide +kernel
theorem d_Mo_open_64 : decode b_Mo_open 64 = .ok (.aload_n 0, 1) := by decide +kernel
theorem d_Mo_open_65 : decode b_Mo_open 65 = .ok (.iconst 1, 1) := by decide +kernel
theorem d_Mo_open_66 : decode b_Mo_open 66 = .ok (.putfield 140, 3) := by decide +kernel
theorem d_Mo_open_69 : decode b_Mo_open 69 = .ok (.iconst 1, 1) := by decide +kernel
theorem d_Mo_open_70 : decode b_Mo_open 70 = .ok (.ireturn, 1) := by decide +kernel
theorem d_Mo_known_0 : decode b_Mo_known 0 = .ok (.iconst 0, 1) := by decide +kernel
theorem d_Mo_known_1 : decode b_Mo_known 1 = .ok (.istore_n 3, 1) := by decide +kernel
theorem d_Mo_known_2 : decode b_Mo_known 2 = .ok (.iconst 0, 1) := by decide +kernel
theorem d_Mo_known_3 : decode b_Mo_known 3 = .ok (.istore 4, 2) := by decide +kernel
theorem d_Mo_known_5 : decode b_Mo_known 5 = .ok (.iload 4, 2) := by decide +kernel
theorem d_Mo_known_7 : decode b_Mo_known 7 = .ok (.sipush 1000, 3) := by decide +kernel
theorem d_Mo_known_10 : decode b_Mo_known 10 = .ok (.if_icmp .ge 50, 3) := by decide +kernel
theorem d_Mo_known_13 : decode b_Mo_known 13 = .ok (.aload_n 0, 1) := by decide +kernel
theorem d_Mo_known_14 : decode b_Mo_known 14 = .ok (.getfield 46, 3) := by decide +kernel
theorem d_Mo_known_17 : decode b_Mo_known 17 = .ok (.iload 4, 2) := by decide +kernel
theorem d_Mo_known_19 : decode b_Mo_known 19 = .ok (.iaload, 1) := by decide +kernel
theorem d_Mo_known_20 : decode b_Mo_known 20 = .ok (.iconst 1, 1) := by decide +kernel
theorem d_Mo_known_21 : decode b_Mo_known 21 = .ok (.if_icmp .ne 31, 3) := by decide +kernel
theorem d_Mo_known_24 : decode b_Mo_known 24 = .ok (.aload_n 0, 1) := by decide +kernel
theorem d_Mo_known_25 : decode b_Mo_known 25 = .ok (.getfield 49, 3) := by decide +kernel
theorem d_Mo_known_28 : decode b_Mo_known 28 = .ok (.iload 4, 2) := by decide +kernel
theorem d_Mo_known_30 : decode b_Mo_known 30 = .ok (.iaload, 1) := by decide +kernel
theorem d_Mo_known_31 : decode b_Mo_known 31 = .ok (.iload_n 1, 1) := by decide +kernel
theorem d_Mo_known_32 : decode b_Mo_known 32 = .ok (.if_icmp .ne 20, 3) := by decide +kernel
theorem d_Mo_known_35 : decode b_Mo_known 35 = .ok (.aload_n 0, 1) := by decide +kernel
theorem d_Mo_known_36 : decode b_Mo_known 36 = .ok (.getfield 52, 3) := by decide +kernel
theorem d_Mo_known_39 : decode b_Mo_known 39 = .ok (.iload 4, 2) := by decide +kernel
theorem d_Mo_known_41 : decode b_Mo_known 41 = .ok (.iaload, 1) := by decide +kernel
theorem d_Mo_known_42 : decode b_Mo_known 42 = .ok (.iload_n 2, 1) := by decide +kernel
theorem d_Mo_known_43 : decode b_Mo_known 43 = .ok (.if_icmp .ne 9, 3) := by decide +kernel
theorem d_Mo_known_46 : decode b_Mo_known 46 = .ok (.iload_n 3, 1) := by decide +kernel
theorem d_Mo_known_47 : decode b_Mo_known 47 = .ok (.iconst 1, 1) := by decide +kernel
theorem d_Mo_known_48 : decode b_Mo_known 48 = .ok (.iadd, 1) := by decide +kernel
theorem d_Mo_known_49 : decode b_Mo_known 49 = .ok (.goto 4, 3) := by decide +kernel
theorem d_Mo_known_52 : decode b_Mo_known 52 = .ok (.iload_n 3, 1) := by decide +kernel
theorem d_Mo_known_53 : decode b_Mo_known 53 = .ok (.istore_n 3, 1) := by decide +kernel
theorem d_Mo_known_54 : decode b_Mo_known 54 = .ok (.iinc 4 1, 3) := by decide +kernel
theorem d_Mo_known_57 : decode b_Mo_known 57 = .ok (.goto (-52), 3) := by decide +kernel
theorem d_Mo_known_60 : decode b_Mo_known 60 = .ok (.iload_n 3, 1) := by decide +kernel
theorem d_Mo_known_61 : decode b_Mo_known 61 = .ok (.ireturn, 1) := by decide +kernel
theorem d_Mo_count_0 : decode b_Mo_count 0 = .ok (.aload_n 0, 1) := by decide +kernel
theorem d_Mo_count_1 : decode b_Mo_count 1 = .ok (.iload_n 1, 1) := by decide +kernel
theorem d_Mo_count_2 : decode b_Mo_count 2 = .ok (.invokestatic 137, 3) := by decide +kernel
theorem d_Mo_count_5 : decode b_Mo_count 5 = .ok (.ifCond .eq 11, 3) := by decide +kernel
theorem d_Mo_count_8 : decode b_Mo_count 8 = .ok (.aload_n 0, 1) := by decide +kernel
theorem d_Mo_count_9 : decode b_Mo_count 9 = .ok (.iload_n 2, 1) := by decide +kernel
theorem d_Mo_count_10 : decode b_Mo_count 10 = .ok (.invokevirtual 125, 3) := by decide +kernel
theorem d_Mo_count_13 : decode b_Mo_count 13 = .ok (.ifCond .ne 7, 3) := by decide +kernel
theorem d_Mo_count_16 : decode b_Mo_count 16 = .ok (.iconst 1, 1) := by decide +kernel
theorem d_Mo_count_17 : decode b_Mo_count 17 = .ok (.goto 4, 3) := by decide +kernel
theorem d_Mo_count_20 : decode b_Mo_count 20 = .ok (.iconst 0, 1) := by decide +kernel
theorem d_Mo_count_21 : decode b_Mo_count 21 = .ok (.aload_n 0, 1) := by decide +kernel
theorem d_Mo_count_22 : decode b_Mo_count 22 = .ok (.getfield 82, 3) := by decide +kernel
theorem d_Mo_count_25 : decode b_Mo_count 25 = .ok (.ifCond .ne 7, 3) := by decide +kernel
theorem d_Mo_count_28 : decode b_Mo_count 28 = .ok (.iconst 1, 1) := by decide +kernel
theorem d_Mo_count_29 : decode b_Mo_count 29 = .ok (.goto 4, 3) := by decide +kernel
theorem d_Mo_count_32 : decode b_Mo_count 32 = .ok (.iconst 0, 1) := by decide +kernel
theorem d_Mo_count_33 : decode b_Mo_count 33 = .ok (.iconst 0, 1) := by decide +kernel
theorem d_Mo_count_34 : decode b_Mo_count 34 = .ok (.invokevirtual 98, 3) := by decide +kernel
theorem d_Mo_count_37 : decode b_Mo_count 37 = .ok (.ifCond .eq 5, 3) := by decide +kernel
theorem d_Mo_count_40 : decode b_Mo_count 40 = .ok (.iconst 0, 1) := by decide +kernel
theorem d_Mo_count_41 : decode b_Mo_count 41 = .ok (.ireturn, 1) := by decide +kernel
theorem d_Mo_count_42 : decode b_Mo_count 42 = .ok (.aload_n 0, 1) := by decide +kernel
theorem d_Mo_count_43 : decode b_Mo_count 43 = .ok (.getfield 140, 3) := by decide +kernel
theorem d_Mo_count_46 : decode b_Mo_count 46 = .ok (.ifCond .eq 12, 3) := by decide +kernel
theorem d_Mo_count_49 : decode b_Mo_count 49 = .ok (.aload_n 0, 1) := by decide +kernel
theorem d_Mo_count_50 : decode b_Mo_count 50 = .ok (.iload_n 1, 1) := by decide +kernel
theorem d_Mo_count_51 : decode b_Mo_count 51 = .ok (.iload_n 2, 1) := by decide +kernel
theorem d_Mo_count_52 : decode b_Mo_count 52 = .ok (.invokevirtual 159, 3) := by decide +kernel
theorem d_Mo_count_55 : decode b_Mo_count 55 = .ok (.goto 4, 3) := by decide +kernel
theorem d_Mo_count_58 : decode b_Mo_count 58 = .ok (.iconst (-1), 1) := by decide +kernel
theorem d_Mo_count_59 : decode b_Mo_count 59 = .ok (.ireturn, 1) := by decide +kernel
theorem d_Mo_spread_0 : decode b_Mo_spread 0 = .ok (.aload_n 0, 1) := by decide +kernel
theorem d_Mo_spread_1 : decode b_Mo_spread 1 = .ok (.iload_n 1, 1) := by decide +kernel
theorem d_Mo_spread_2 : decode b_Mo_spread 2 = .ok (.invokestatic 137, 3) := by decide +kernel
theorem d_Mo_spread_5 : decode b_Mo_spread 5 = .ok (.ifCond .ne 7, 3) := by decide +kernel
theorem d_Mo_spread_8 : decode b_Mo_spread 8 = .ok (.iconst 1, 1) := by decide +kernel
theorem d_Mo_spread_9 : decode b_Mo_spread 9 = .ok (.goto 4, 3) := by decide +kernel
theorem d_Mo_spread_12 : decode b_Mo_spread 12 = .ok (.iconst 0, 1) := by decide +kernel
theorem d_Mo_spread_13 : decode b_Mo_spread 13 = .ok (.aload_n 0, 1) := by decide +kernel
theorem d_Mo_spread_14 : decode b_Mo_spread 14 = .ok (.getfield 82, 3) := by decide +kernel
theorem d_Mo_spread_17 : decode b_Mo_spread 17 = .ok (.ifCond .ne 7, 3) := by decide +kernel
theorem d_Mo_spread_20 : decode b_Mo_spread 20 = .ok (.iconst 1, 1) := by decide +kernel
theorem d_Mo_spread_21 : decode b_Mo_spread 21 = .ok (.goto 4, 3) := by decide +kernel
theorem d_Mo_spread_24 : decode b_Mo_spread 24 = .ok (.iconst 0, 1) := by decide +kernel
theorem d_Mo_spread_25 : decode b_Mo_spread 25 = .ok (.iconst 0, 1) := by decide +kernel
theorem d_Mo_spread_26 : decode b_Mo_spread 26 = .ok (.invokevirtual 98, 3) := by decide +kernel
theorem d_Mo_spread_29 : decode b_Mo_spread 29 = .ok (.ifCond .eq 5, 3) := by decide +kernel
theorem d_Mo_spread_32 : decode b_Mo_spread 32 = .ok (.iconst 0, 1) := by decide +kernel
theorem d_Mo_spread_33 : decode b_Mo_spread 33 = .ok (.ireturn, 1) := by decide +kernel
theorem d_Mo_spread_34 : decode b_Mo_spread 34 = .ok (.iconst 0, 1) := by decide +kernel
theorem d_Mo_spread_35 : decode b_Mo_spread 35 = .ok (.istore_n 2, 1) := by decide +kernel
theorem d_Mo_spread_36 : decode b_Mo_spread 36 = .ok (.iconst 0, 1) := by decide +kernel
theorem d_Mo_spread_37 : decode b_Mo_spread 37 = .ok (.istore_n 3, 1) := by decide +kernel
theorem d_Mo_spread_38 : decode b_Mo_spread 38 = .ok (.iload_n 3, 1) := by decide +kernel
theorem d_Mo_spread_39 : decode b_Mo_spread 39 = .ok (.aload_n 0, 1) := by decide +kernel
theorem d_Mo_spread_40 : decode b_Mo_spread 40 = .ok (.getfield 82, 3) := by decide +kernel
theorem d_Mo_spread_43 : decode b_Mo_spread 43 = .ok (.if_icmp .ge 71, 3) := by decide +kernel
theorem d_Mo_spread_46 : decode b_Mo_spread 46 = .ok (.iconst 0, 1) := by decide +kernel
theorem d_Mo_spread_47 : decode b_Mo_spread 47 = .ok (.istore 4, 2) := by decide +kernel
theorem d_Mo_spread_49 : decode b_Mo_spread 49 = .ok (.iload 4, 2) := by decide +kernel
theorem d_Mo_spread_51 : decode b_Mo_spread 51 = .ok (.aload_n 0, 1) := by decide +kernel
theorem d_Mo_spread_52 : decode b_Mo_spread 52 = .ok (.getfield 82, 3) := by decide +kernel
theorem d_Mo_spread_55 : decode b_Mo_spread 55 = .ok (.if_icmp .ge 53, 3) := by decide +kernel
theorem d_Mo_spread_58 : decode b_Mo_spread 58 = .ok (.aload_n 0, 1) := by decide +kernel
theorem d_Mo_spread_59 : decode b_Mo_spread 59 = .ok (.iload_n 1, 1) := by decide +kernel
theorem d_Mo_spread_60 : decode b_Mo_spread 60 = .ok (.iload_n 3, 1) := by decide +kernel
theorem d_Mo_spread_61 : decode b_Mo_spread 61 = .ok (.invokevirtual 159, 3) := by decide +kernel
theorem d_Mo_spread_64 : decode b_Mo_spread 64 = .ok (.aload_n 0, 1) := by decide +kernel
theorem d_Mo_spread_65 : decode b_Mo_spread 65 = .ok (.getfield 7, 3) := by decide +kernel
theorem d_Mo_spread_68 : decode b_Mo_spread 68 = .ok (.iload 4, 2) := by decide +kernel
theorem d_Mo_spread_70 : decode b_Mo_spread 70 = .ok (.iaload, 1) := by decide +kernel
theorem d_Mo_spread_71 : decode b_Mo_spread 71 = .ok (.imul, 1) := by decide +kernel
theorem d_Mo_spread_72 : decode b_Mo_spread 72 = .ok (.aload_n 0, 1) := by decide +kernel
theorem d_Mo_spread_73 : decode b_Mo_spread 73 = .ok (.iload_n 1, 1) := by decide +kernel
theorem d_Mo_spread_74 : decode b_Mo_spread 74 = .ok (.iload 4, 2) := by decide +kernel
theorem d_Mo_spread_76 : decode b_Mo_spread 76 = .ok (.invokevirtual 159, 3) := by decide +kernel
theorem d_Mo_spread_79 : decode b_Mo_spread 79 = .ok (.aload_n 0, 1) := by decide +kernel
theorem d_Mo_spread_80 : decode b_Mo_spread 80 = .ok (.getfield 7, 3) := by decide +kernel
theorem d_Mo_spread_83 : decode b_Mo_spread 83 = .ok (.iload_n 3, 1) := by decide +kernel
theorem d_Mo_spread_84 : decode b_Mo_spread 84 = .ok (.iaload, 1) := by decide +kernel
theorem d_Mo_spread_85 : decode b_Mo_spread 85 = .ok (.imul, 1) := by decide +kernel
theorem d_Mo_spread_86 : decode b_Mo_spread 86 = .ok (.isub, 1) := by decide +kernel
theorem d_Mo_spread_87 : decode b_Mo_spread 87 = .ok (.istore 5, 2) := by decide +kernel
theorem d_Mo_spread_89 : decode b_Mo_spread 89 = .ok (.iload 5, 2) := by decide +kernel
theorem d_Mo_spread_91 : decode b_Mo_spread 91 = .ok (.iload_n 2, 1) := by decide +kernel
theorem d_Mo_spread_92 : decode b_Mo_spread 92 = .ok (.if_icmp .le 8, 3) := by decide +kernel
theorem d_Mo_spread_95 : decode b_Mo_spread 95 = .ok (.iload 5, 2) := by decide +kernel
theorem d_Mo_spread_97 : decode b_Mo_spread 97 = .ok (.goto 4, 3) := by decide +kernel
theorem d_Mo_spread_100 : decode b_Mo_spread 100 = .ok (.iload_n 2, 1) := by decide +kernel
theorem d_Mo_spread_101 : decode b_Mo_spread 101 = .ok (.istore_n 2, 1) := by decide +kernel
theorem d_Mo_spread_102 : decode b_Mo_spread 102 = .ok (.iinc 4 1, 3) := by decide +kernel
theorem d_Mo_spread_105 : decode b_Mo_spread 105 = .ok (.goto (-56), 3) := by decide +kernel
theorem d_Mo_spread_108 : decode b_Mo_spread 108 = .ok (.iinc 3 1, 3) := by decide +kernel
theorem d_Mo_spread_111 : decode b_Mo_spread 111 = .ok (.goto (-73), 3) := by decide +kernel
theorem d_Mo_spread_114 : decode b_Mo_spread 114 = .ok (.aload_n 0, 1) := by decide +kernel
theorem d_Mo_spread_115 : decode b_Mo_spread 115 = .ok (.getfield 140, 3) := by decide +kernel
theorem d_Mo_spread_118 : decode b_Mo_spread 118 = .ok (.ifCond .eq 7, 3) := by decide +kernel
theorem d_Mo_spread_121 : decode b_Mo_spread 121 = .ok (.iload_n 2, 1) := by decide +kernel
theorem d_Mo_spread_122 : decode b_Mo_spread 122 = .ok (.goto 4, 3) := by decide +kernel
theorem d_Mo_spread_125 : decode b_Mo_spread 125 = .ok (.iconst (-1), 1) := by decide +kernel
theorem d_Mo_spread_126 : decode b_Mo_spread 126 = .ok (.ireturn, 1) := by decide +kernel
theorem d_Mo_entry_0 : decode b_Mo_entry 0 = .ok (.aload_n 0, 1) := by decide +kernel
theorem d_Mo_entry_1 : decode b_Mo_entry 1 = .ok (.iload_n 1, 1) := by decide +kernel
theorem d_Mo_entry_2 : decode b_Mo_entry 2 = .ok (.invokestatic 137, 3) := by decide +kernel
theorem d_Mo_entry_5 : decode b_Mo_entry 5 = .ok (.ifCond .ne 7, 3) := by decide +kernel
theorem d_Mo_entry_8 : decode b_Mo_entry 8 = .ok (.iconst 1, 1) := by decide +kernel
theorem d_Mo_entry_9 : decode b_Mo_entry 9 = .ok (.goto 4, 3) := by decide +kernel
theorem d_Mo_entry_12 : decode b_Mo_entry 12 = .ok (.iconst 0, 1) := by decide +kernel
theorem d_Mo_entry_13 : decode b_Mo_entry 13 = .ok (.iconst 0, 1) := by decide +kernel
theorem d_Mo_entry_14 : decode b_Mo_entry 14 = .ok (.iconst 0, 1) := by decide +kernel
theorem d_Mo_entry_15 : decode b_Mo_entry 15 = .ok (.invokevirtual 98, 3) := by decide +kernel
theorem d_Mo_entry_18 : decode b_Mo_entry 18 = .ok (.ifCond .ne 14, 3) := by decide +kernel
theorem d_Mo_entry_21 : decode b_Mo_entry 21 = .ok (.aload_n 0, 1) := by decide +kernel
theorem d_Mo_entry_22 : decode b_Mo_entry 22 = .ok (.getfield 140, 3) := by decide +kernel
theorem d_Mo_entry_25 : decode b_Mo_entry 25 = .ok (.ifCond .eq 7, 3) := by decide +kernel
theorem d_Mo_entry_28 : decode b_Mo_entry 28 = .ok (.iload_n 2, 1) := by decide +kernel
theorem d_Mo_entry_29 : decode b_Mo_entry 29 = .ok (.ifCond .ge 16, 3) := by decide +kernel
theorem d_Mo_entry_32 : decode b_Mo_entry 32 = .ok (.aload_n 0, 1) := by decide +kernel
theorem d_Mo_entry_33 : decode b_Mo_entry 33 = .ok (.getfield 70, 3) := by decide +kernel
theorem d_Mo_entry_36 : decode b_Mo_entry 36 = .ok (.ifCond .le 7, 3) := by decide +kernel
theorem d_Mo_entry_39 : decode b_Mo_entry 39 = .ok (.iconst 0, 1) := by decide +kernel
theorem d_Mo_entry_40 : decode b_Mo_entry 40 = .ok (.goto 4, 3) := by decide +kernel
theorem d_Mo_entry_43 : decode b_Mo_entry 43 = .ok (.iconst (-1), 1) := by decide +kernel
theorem d_Mo_entry_44 : decode b_Mo_entry 44 = .ok (.ireturn, 1) := by decide +kernel
theorem d_Mo_entry_45 : decode b_Mo_entry 45 = .ok (.iload_n 2, 1) := by decide +kernel
theorem d_Mo_entry_46 : decode b_Mo_entry 46 = .ok (.istore_n 3, 1) := by decide +kernel
theorem d_Mo_entry_47 : decode b_Mo_entry 47 = .ok (.iconst 0, 1) := by decide +kernel
theorem d_Mo_entry_48 : decode b_Mo_entry 48 = .ok (.istore 4, 2) := by decide +kernel
theorem d_Mo_entry_50 : decode b_Mo_entry 50 = .ok (.iload 4, 2) := by decide +kernel
theorem d_Mo_entry_52 : decode b_Mo_entry 52 = .ok (.aload_n 0, 1) := by decide +kernel
theorem d_Mo_entry_53 : decode b_Mo_entry 53 = .ok (.getfield 95, 3) := by decide +kernel
theorem d_Mo_entry_56 : decode b_Mo_entry 56 = .ok (.if_icmp .ge 48, 3) := by decide +kernel
theorem d_Mo_entry_59 : decode b_Mo_entry 59 = .ok (.aload_n 0, 1) := by decide +kernel
theorem d_Mo_entry_60 : decode b_Mo_entry 60 = .ok (.getfield 13, 3) := by decide +kernel
theorem d_Mo_entry_63 : decode b_Mo_entry 63 = .ok (.iload 4, 2) := by decide +kernel
theorem d_Mo_entry_65 : decode b_Mo_entry 65 = .ok (.iaload, 1) := by decide +kernel
theorem d_Mo_entry_66 : decode b_Mo_entry 66 = .ok (.iload_n 1, 1) := by decide +kernel
theorem d_Mo_entry_67 : decode b_Mo_entry 67 = .ok (.if_icmp .ne 31, 3) := by decide +kernel
theorem d_Mo_entry_70 : decode b_Mo_entry 70 = .ok (.iload_n 3, 1) := by decide +kernel
theorem d_Mo_entry_71 : decode b_Mo_entry 71 = .ok (.aload_n 0, 1) := by decide +kernel
theorem d_Mo_entry_72 : decode b_Mo_entry 72 = .ok (.getfield 106, 3) := by decide +kernel
theorem d_Mo_entry_75 : decode b_Mo_entry 75 = .ok (.if_icmp .ge 16, 3) := by decide +kernel
theorem d_Mo_entry_78 : decode b_Mo_entry 78 = .ok (.aload_n 0, 1) := by decide +kernel
theorem d_Mo_entry_79 : decode b_Mo_entry 79 = .ok (.getfield 17, 3) := by decide +kernel
theorem d_Mo_entry_82 : decode b_Mo_entry 82 = .ok (.bipush 24, 2) := by decide +kernel
theorem d_Mo_entry_84 : decode b_Mo_entry 84 = .ok (.iload 4, 2) := by decide +kernel
theorem d_Mo_entry_86 : decode b_Mo_entry 86 = .ok (.imul, 1) := by decide +kernel
theorem d_Mo_entry_87 : decode b_Mo_entry 87 = .ok (.iload_n 3, 1) := by decide +kernel
theorem d_Mo_entry_88 : decode b_Mo_entry 88 = .ok (.iadd, 1) := by decide +kernel
theorem d_Mo_entry_89 : decode b_Mo_entry 89 = .ok (.baload, 1) := by decide +kernel
theorem d_Mo_entry_90 : decode b_Mo_entry 90 = .ok (.ireturn, 1) := by decide +kernel
theorem d_Mo_entry_91 : decode b_Mo_entry 91 = .ok (.iload_n 3, 1) := by decide +kernel
theorem d_Mo_entry_92 : decode b_Mo_entry 92 = .ok (.aload_n 0, 1) := by decide +kernel
theorem d_Mo_entry_93 : decode b_Mo_entry 93 = .ok (.getfield 106, 3) := by decide +kernel
theorem d_Mo_entry_96 : decode b_Mo_entry 96 = .ok (.isub, 1) := by decide +kernel
theorem d_Mo_entry_97 : decode b_Mo_entry 97 = .ok (.istore_n 3, 1) := by decide +kernel
theorem d_Mo_entry_98 : decode b_Mo_entry 98 = .ok (.iinc 4 1, 3) := by decide +kernel
theorem d_Mo_entry_101 : decode b_Mo_entry 101 = .ok (.goto (-51), 3) := by decide +kernel
theorem d_Mo_entry_104 : decode b_Mo_entry 104 = .ok (.iconst (-1), 1) := by decide +kernel
theorem d_Mo_entry_105 : decode b_Mo_entry 105 = .ok (.ireturn, 1) := by decide +kernel
theorem d_Mo_blocks_0 : decode b_Mo_blocks 0 = .ok (.aload_n 0, 1) := by decide +kernel
theorem d_Mo_blocks_1 : decode b_Mo_blocks 1 = .ok (.iload_n 1, 1) := by decide +kernel
theorem d_Mo_blocks_2 : decode b_Mo_blocks 2 = .ok (.invokestatic 137, 3) := by decide +kernel
theorem d_Mo_blocks_5 : decode b_Mo_blocks 5 = .ok (.ifCond .ne 7, 3) := by decide +kernel
theorem d_Mo_blocks_8 : decode b_Mo_blocks 8 = .ok (.iconst 1, 1) := by decide +kernel
theorem d_Mo_blocks_9 : decode b_Mo_blocks 9 = .ok (.goto 4, 3) := by decide +kernel
theorem d_Mo_blocks_12 : decode b_Mo_blocks 12 = .ok (.iconst 0, 1) := by decide +kernel
theorem d_Mo_blocks_13 : decode b_Mo_blocks 13 = .ok (.iconst 0, 1) := by decide +kernel
theorem d_Mo_blocks_14 : decode b_Mo_blocks 14 = .ok (.iconst 0, 1) := by decide +kernel
theorem d_Mo_blocks_15 : decode b_Mo_blocks 15 = .ok (.invokevirtual 98, 3) := by decide +kernel
theorem d_Mo_blocks_18 : decode b_Mo_blocks 18 = .ok (.ifCond .eq 7, 3) := by decide +kernel
theorem d_Mo_blocks_21 : decode b_Mo_blocks 21 = .ok (.iconst 0, 1) := by decide +kernel
theorem d_Mo_blocks_22 : decode b_Mo_blocks 22 = .ok (.goto 9, 3) := by decide +kernel
theorem d_Mo_blocks_25 : decode b_Mo_blocks 25 = .ok (.aload_n 0, 1) := by decide +kernel
theorem d_Mo_blocks_26 : decode b_Mo_blocks 26 = .ok (.getfield 21, 3) := by decide +kernel
theorem d_Mo_blocks_29 : decode b_Mo_blocks 29 = .ok (.iload_n 1, 1) := by decide +kernel
theorem d_Mo_blocks_30 : decode b_Mo_blocks 30 = .ok (.iaload, 1) := by decide +kernel
theorem d_Mo_blocks_31 : decode b_Mo_blocks 31 = .ok (.ireturn, 1) := by decide +kernel
theorem d_Mo_stock_0 : decode b_Mo_stock 0 = .ok (.aload_n 0, 1) := by decide +kernel
theorem d_Mo_stock_1 : decode b_Mo_stock 1 = .ok (.aload_n 0, 1) := by decide +kernel
theorem d_Mo_stock_2 : decode b_Mo_stock 2 = .ok (.iload_n 1, 1) := by decide +kernel
theorem d_Mo_stock_3 : decode b_Mo_stock 3 = .ok (.invokevirtual 78, 3) := by decide +kernel
theorem d_Mo_stock_6 : decode b_Mo_stock 6 = .ok (.ifCond .ne 7, 3) := by decide +kernel
theorem d_Mo_stock_9 : decode b_Mo_stock 9 = .ok (.iconst 1, 1) := by decide +kernel
theorem d_Mo_stock_10 : decode b_Mo_stock 10 = .ok (.goto 4, 3) := by decide +kernel
theorem d_Mo_stock_13 : decode b_Mo_stock 13 = .ok (.iconst 0, 1) := by decide +kernel
theorem d_Mo_stock_14 : decode b_Mo_stock 14 = .ok (.iload_n 2, 1) := by decide +kernel
theorem d_Mo_stock_15 : decode b_Mo_stock 15 = .ok (.iconst 0, 1) := by decide +kernel
theorem d_Mo_stock_16 : decode b_Mo_stock 16 = .ok (.iconst 2, 1) := by decide +kernel
theorem d_Mo_stock_17 : decode b_Mo_stock 17 = .ok (.invokestatic 74, 3) := by decide +kernel
theorem d_Mo_stock_20 : decode b_Mo_stock 20 = .ok (.ifCond .ne 7, 3) := by decide +kernel
theorem d_Mo_stock_23 : decode b_Mo_stock 23 = .ok (.iconst 1, 1) := by decide +kernel
theorem d_Mo_stock_24 : decode b_Mo_stock 24 = .ok (.goto 4, 3) := by decide +kernel
theorem d_Mo_stock_27 : decode b_Mo_stock 27 = .ok (.iconst 0, 1) := by decide +kernel
theorem d_Mo_stock_28 : decode b_Mo_stock 28 = .ok (.iconst 0, 1) := by decide +kernel
theorem d_Mo_stock_29 : decode b_Mo_stock 29 = .ok (.invokevirtual 98, 3) := by decide +kernel
theorem d_Mo_stock_32 : decode b_Mo_stock 32 = .ok (.ifCond .eq 5, 3) := by decide +kernel
theorem d_Mo_stock_35 : decode b_Mo_stock 35 = .ok (.iconst 0, 1) := by decide +kernel
theorem d_Mo_stock_36 : decode b_Mo_stock 36 = .ok (.ireturn, 1) := by decide +kernel
theorem d_Mo_stock_37 : decode b_Mo_stock 37 = .ok (.iconst 0, 1) := by decide +kernel
theorem d_Mo_stock_38 : decode b_Mo_stock 38 = .ok (.istore_n 3, 1) := by decide +kernel
theorem d_Mo_stock_39 : decode b_Mo_stock 39 = .ok (.iconst 0, 1) := by decide +kernel
theorem d_Mo_stock_40 : decode b_Mo_stock 40 = .ok (.istore 4, 2) := by decide +kernel
theorem d_Mo_stock_42 : decode b_Mo_stock 42 = .ok (.iload 4, 2) := by decide +kernel
theorem d_Mo_stock_44 : decode b_Mo_stock 44 = .ok (.sipush 1000, 3) := by decide +kernel
theorem d_Mo_stock_47 : decode b_Mo_stock 47 = .ok (.if_icmp .ge 39, 3) := by decide +kernel
theorem d_Mo_stock_50 : decode b_Mo_stock 50 = .ok (.aload_n 0, 1) := by decide +kernel
theorem d_Mo_stock_51 : decode b_Mo_stock 51 = .ok (.getfield 37, 3) := by decide +kernel
theorem d_Mo_stock_54 : decode b_Mo_stock 54 = .ok (.iload 4, 2) := by decide +kernel
theorem d_Mo_stock_56 : decode b_Mo_stock 56 = .ok (.iaload, 1) := by decide +kernel
theorem d_Mo_stock_57 : decode b_Mo_stock 57 = .ok (.iload_n 1, 1) := by decide +kernel
theorem d_Mo_stock_58 : decode b_Mo_stock 58 = .ok (.if_icmp .ne 20, 3) := by decide +kernel
theorem d_Mo_stock_61 : decode b_Mo_stock 61 = .ok (.aload_n 0, 1) := by decide +kernel
theorem d_Mo_stock_62 : decode b_Mo_stock 62 = .ok (.getfield 43, 3) := by decide +kernel
theorem d_Mo_stock_65 : decode b_Mo_stock 65 = .ok (.iload 4, 2) := by decide +kernel
theorem d_Mo_stock_67 : decode b_Mo_stock 67 = .ok (.iaload, 1) := by decide +kernel
theorem d_Mo_stock_68 : decode b_Mo_stock 68 = .ok (.iload_n 2, 1) := by decide +kernel
theorem d_Mo_stock_69 : decode b_Mo_stock 69 = .ok (.if_icmp .ne 9, 3) := by decide +kernel
theorem d_Mo_stock_72 : decode b_Mo_stock 72 = .ok (.iload_n 3, 1) := by decide +kernel
theorem d_Mo_stock_73 : decode b_Mo_stock 73 = .ok (.iconst 1, 1) := by decide +kernel
theorem d_Mo_stock_74 : decode b_Mo_stock 74 = .ok (.iadd, 1) := by decide +kernel
theorem d_Mo_stock_75 : decode b_Mo_stock 75 = .ok (.goto 4, 3) := by decide +kernel
theorem d_Mo_stock_78 : decode b_Mo_stock 78 = .ok (.iload_n 3, 1) := by decide +kernel
theorem d_Mo_stock_79 : decode b_Mo_stock 79 = .ok (.istore_n 3, 1) := by decide +kernel
theorem d_Mo_stock_80 : decode b_Mo_stock 80 = .ok (.iinc 4 1, 3) := by decide +kernel
theorem d_Mo_stock_83 : decode b_Mo_stock 83 = .ok (.goto (-41), 3) := by decide +kernel
theorem d_Mo_stock_86 : decode b_Mo_stock 86 = .ok (.iload_n 3, 1) := by decide +kernel
theorem d_Mo_stock_87 : decode b_Mo_stock 87 = .ok (.ireturn, 1) := by decide +kernel
theorem d_Mo_used_0 : decode b_Mo_used 0 = .ok (.aload_n 0, 1) := by decide +kernel
theorem d_Mo_used_1 : decode b_Mo_used 1 = .ok (.iload_n 1, 1) := by decide +kernel
theorem d_Mo_used_2 : decode b_Mo_used 2 = .ok (.iconst 0, 1) := by decide +kernel
theorem d_Mo_used_3 : decode b_Mo_used 3 = .ok (.sipush 999, 3) := by decide +kernel
theorem d_Mo_used_6 : decode b_Mo_used 6 = .ok (.invokestatic 74, 3) := by decide +kernel
theorem d_Mo_used_9 : decode b_Mo_used 9 = .ok (.ifCond .ne 7, 3) := by decide +kernel
theorem d_Mo_used_12 : decode b_Mo_used 12 = .ok (.iconst 1, 1) := by decide +kernel
theorem d_Mo_used_13 : decode b_Mo_used 13 = .ok (.goto 4, 3) := by decide +kernel
theorem d_Mo_used_16 : decode b_Mo_used 16 = .ok (.iconst 0, 1) := by decide +kernel
theorem d_Mo_used_17 : decode b_Mo_used 17 = .ok (.iconst 0, 1) := by decide +kernel
theorem d_Mo_used_18 : decode b_Mo_used 18 = .ok (.iconst 0, 1) := by decide +kernel
theorem d_Mo_used_19 : decode b_Mo_used 19 = .ok (.invokevirtual 98, 3) := by decide +kernel
theorem d_Mo_used_22 : decode b_Mo_used 22 = .ok (.ifCond .ne 10, 3) := by decide +kernel
theorem d_Mo_used_25 : decode b_Mo_used 25 = .ok (.aload_n 0, 1) := by decide +kernel
theorem d_Mo_used_26 : decode b_Mo_used 26 = .ok (.getfield 140, 3) := by decide +kernel
theorem d_Mo_used_29 : decode b_Mo_used 29 = .ok (.ifCond .ne 16, 3) := by decide +kernel
theorem d_Mo_used_32 : decode b_Mo_used 32 = .ok (.aload_n 0, 1) := by decide +kernel
theorem d_Mo_used_33 : decode b_Mo_used 33 = .ok (.getfield 70, 3) := by decide +kernel
theorem d_Mo_used_36 : decode b_Mo_used 36 = .ok (.ifCond .le 7, 3) := by decide +kernel
theorem d_Mo_used_39 : decode b_Mo_used 39 = .ok (.iconst 0, 1) := by decide +kernel
theorem d_Mo_used_40 : decode b_Mo_used 40 = .ok (.goto 4, 3) := by decide +kernel
theorem d_Mo_used_43 : decode b_Mo_used 43 = .ok (.iconst (-1), 1) := by decide +kernel
theorem d_Mo_used_44 : decode b_Mo_used 44 = .ok (.ireturn, 1) := by decide +kernel
theorem d_Mo_used_45 : decode b_Mo_used 45 = .ok (.iconst 0, 1) := by decide +kernel
theorem d_Mo_used_46 : decode b_Mo_used 46 = .ok (.istore_n 2, 1) := by decide +kernel
theorem d_Mo_used_47 : decode b_Mo_used 47 = .ok (.iload_n 2, 1) := by decide +kernel
theorem d_Mo_used_48 : decode b_Mo_used 48 = .ok (.sipush 1000, 3) := by decide +kernel
theorem d_Mo_used_51 : decode b_Mo_used 51 = .ok (.if_icmp .ge 30, 3) := by decide +kernel
theorem d_Mo_used_54 : decode b_Mo_used 54 = .ok (.aload_n 0, 1) := by decide +kernel
theorem d_Mo_used_55 : decode b_Mo_used 55 = .ok (.getfield 46, 3) := by decide +kernel
theorem d_Mo_used_58 : decode b_Mo_used 58 = .ok (.iload_n 2, 1) := by decide +kernel
theorem d_Mo_used_59 : decode b_Mo_used 59 = .ok (.iaload, 1) := by decide +kernel
theorem d_Mo_used_60 : decode b_Mo_used 60 = .ok (.ifCond .le 15, 3) := by decide +kernel
theorem d_Mo_used_63 : decode b_Mo_used 63 = .ok (.aload_n 0, 1) := by decide +kernel
theorem d_Mo_used_64 : decode b_Mo_used 64 = .ok (.getfield 55, 3) := by decide +kernel
theorem d_Mo_used_67 : decode b_Mo_used 67 = .ok (.iload_n 2, 1) := by decide +kernel
theorem d_Mo_used_68 : decode b_Mo_used 68 = .ok (.iaload, 1) := by decide +kernel
theorem d_Mo_used_69 : decode b_Mo_used 69 = .ok (.iload_n 1, 1) := by decide +kernel
theorem d_Mo_used_70 : decode b_Mo_used 70 = .ok (.if_icmp .ne 5, 3) := by decide +kernel
theorem d_Mo_used_73 : decode b_Mo_used 73 = .ok (.iload_n 2, 1) := by decide +kernel
theorem d_Mo_used_74 : decode b_Mo_used 74 = .ok (.ireturn, 1) := by decide +kernel
theorem d_Mo_used_75 : decode b_Mo_used 75 = .ok (.iinc 2 1, 3) := by decide +kernel
theorem d_Mo_used_78 : decode b_Mo_used 78 = .ok (.goto (-31), 3) := by decide +kernel
theorem d_Mo_used_81 : decode b_Mo_used 81 = .ok (.iconst (-1), 1) := by decide +kernel
theorem d_Mo_used_82 : decode b_Mo_used 82 = .ok (.ireturn, 1) := by decide +kernel
theorem d_Mo_tear_0 : decode b_Mo_tear 0 = .ok (.aload_n 0, 1) := by decide +kernel
theorem d_Mo_tear_1 : decode b_Mo_tear 1 = .ok (.iconst 0, 1) := by decide +kernel
theorem d_Mo_tear_2 : decode b_Mo_tear 2 = .ok (.putfield 70, 3) := by decide +kernel
theorem d_Mo_tear_5 : decode b_Mo_tear 5 = .ok (.aload_n 0, 1) := by decide +kernel
theorem d_Mo_tear_6 : decode b_Mo_tear 6 = .ok (.aload_n 0, 1) := by decide +kernel
theorem d_Mo_tear_7 : decode b_Mo_tear 7 = .ok (.getfield 85, 3) := by decide +kernel
theorem d_Mo_tear_10 : decode b_Mo_tear 10 = .ok (.ifCond .ne 10, 3) := by decide +kernel
theorem d_Mo_tear_13 : decode b_Mo_tear 13 = .ok (.aload_n 0, 1) := by decide +kernel
theorem d_Mo_tear_14 : decode b_Mo_tear 14 = .ok (.getfield 89, 3) := by decide +kernel
theorem d_Mo_tear_17 : decode b_Mo_tear 17 = .ok (.ifCond .ne 7, 3) := by decide +kernel
theorem d_Mo_tear_20 : decode b_Mo_tear 20 = .ok (.iconst 1, 1) := by decide +kernel
theorem d_Mo_tear_21 : decode b_Mo_tear 21 = .ok (.goto 4, 3) := by decide +kernel
theorem d_Mo_tear_24 : decode b_Mo_tear 24 = .ok (.iconst 0, 1) := by decide +kernel
theorem d_Mo_tear_25 : decode b_Mo_tear 25 = .ok (.putfield 85, 3) := by decide +kernel
theorem d_Mo_tear_28 : decode b_Mo_tear 28 = .ok (.return_, 1) := by decide +kernel
theorem d_Mo_mount_0 : decode b_Mo_mount 0 = .ok (.aload_n 0, 1) := by decide +kernel
theorem d_Mo_mount_1 : decode b_Mo_mount 1 = .ok (.aload_n 0, 1) := by decide +kernel
theorem d_Mo_mount_2 : decode b_Mo_mount 2 = .ok (.getfield 89, 3) := by decide +kernel
theorem d_Mo_mount_5 : decode b_Mo_mount 5 = .ok (.ifCond .ne 7, 3) := by decide +kernel
theorem d_Mo_mount_8 : decode b_Mo_mount 8 = .ok (.iconst 1, 1) := by decide +kernel
theorem d_Mo_mount_9 : decode b_Mo_mount 9 = .ok (.goto 4, 3) := by decide +kernel
theorem d_Mo_mount_12 : decode b_Mo_mount 12 = .ok (.iconst 0, 1) := by decide +kernel
theorem d_Mo_mount_13 : decode b_Mo_mount 13 = .ok (.iconst 0, 1) := by decide +kernel
theorem d_Mo_mount_14 : decode b_Mo_mount 14 = .ok (.iconst 0, 1) := by decide +kernel
theorem d_Mo_mount_15 : decode b_Mo_mount 15 = .ok (.invokevirtual 98, 3) := by decide +kernel
theorem d_Mo_mount_18 : decode b_Mo_mount 18 = .ok (.ifCond .eq 5, 3) := by decide +kernel
theorem d_Mo_mount_21 : decode b_Mo_mount 21 = .ok (.iconst 0, 1) := by decide +kernel
theorem d_Mo_mount_22 : decode b_Mo_mount 22 = .ok (.ireturn, 1) := by decide +kernel
theorem d_Mo_mount_23 : decode b_Mo_mount 23 = .ok (.aload_n 0, 1) := by decide +kernel
theorem d_Mo_mount_24 : decode b_Mo_mount 24 = .ok (.iconst 0, 1) := by decide +kernel
theorem d_Mo_mount_25 : decode b_Mo_mount 25 = .ok (.putfield 89, 3) := by decide +kernel
theorem d_Mo_mount_28 : decode b_Mo_mount 28 = .ok (.aload_n 0, 1) := by decide +kernel
theorem d_Mo_mount_29 : decode b_Mo_mount 29 = .ok (.getfield 92, 3) := by decide +kernel
theorem d_Mo_mount_32 : decode b_Mo_mount 32 = .ok (.ireturn, 1) := by decide +kernel
