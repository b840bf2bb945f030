theorem d_TD_init_0 : decode b_TD_init 0 = .ok (.aload_n 0, 1) := by decide +kernel
theorem d_TD_init_1 : decode b_TD_init 1 = .ok (.invokespecial 1, 3) := by decide +kernel
theorem d_TD_init_4 : decode b_TD_init 4 = .ok (.aload_n 0, 1) := by decide +kernel
theorem d_TD_init_5 : decode b_TD_init 5 = .ok (.new 7, 3) := by decide +kernel
theorem d_TD_init_8 : decode b_TD_init 8 = .ok (.dup, 1) := by decide +kernel
theorem d_TD_init_9 : decode b_TD_init 9 = .ok (.invokespecial 9, 3) := by decide +kernel
theorem d_TD_init_12 : decode b_TD_init 12 = .ok (.putfield 10, 3) := by decide +kernel
theorem d_TD_init_15 : decode b_TD_init 15 = .ok (.aload_n 0, 1) := by decide +kernel
theorem d_TD_init_16 : decode b_TD_init 16 = .ok (.new 16, 3) := by decide +kernel
theorem d_TD_init_19 : decode b_TD_init 19 = .ok (.dup, 1) := by decide +kernel
theorem d_TD_init_20 : decode b_TD_init 20 = .ok (.invokespecial 18, 3) := by decide +kernel
theorem d_TD_init_23 : decode b_TD_init 23 = .ok (.putfield 19, 3) := by decide +kernel
theorem d_TD_init_26 : decode b_TD_init 26 = .ok (.aload_n 0, 1) := by decide +kernel
theorem d_TD_init_27 : decode b_TD_init 27 = .ok (.new 23, 3) := by decide +kernel
theorem d_TD_init_30 : decode b_TD_init 30 = .ok (.dup, 1) := by decide +kernel
theorem d_TD_init_31 : decode b_TD_init 31 = .ok (.invokespecial 25, 3) := by decide +kernel
theorem d_TD_init_34 : decode b_TD_init 34 = .ok (.putfield 26, 3) := by decide +kernel
theorem d_TD_init_37 : decode b_TD_init 37 = .ok (.aload_n 0, 1) := by decide +kernel
theorem d_TD_init_38 : decode b_TD_init 38 = .ok (.bipush 10, 2) := by decide +kernel
theorem d_TD_init_40 : decode b_TD_init 40 = .ok (.anewarray 30, 3) := by decide +kernel
theorem d_TD_init_43 : decode b_TD_init 43 = .ok (.putfield 32, 3) := by decide +kernel
theorem d_TD_init_46 : decode b_TD_init 46 = .ok (.aload_n 0, 1) := by decide +kernel
theorem d_TD_init_47 : decode b_TD_init 47 = .ok (.bipush 8, 2) := by decide +kernel
theorem d_TD_init_49 : decode b_TD_init 49 = .ok (.anewarray 36, 3) := by decide +kernel
theorem d_TD_init_52 : decode b_TD_init 52 = .ok (.putfield 38, 3) := by decide +kernel
theorem d_TD_init_55 : decode b_TD_init 55 = .ok (.aload_n 0, 1) := by decide +kernel
theorem d_TD_init_56 : decode b_TD_init 56 = .ok (.bipush 24, 2) := by decide +kernel
theorem d_TD_init_58 : decode b_TD_init 58 = .ok (.newarray .int, 2) := by decide +kernel
theorem d_TD_init_60 : decode b_TD_init 60 = .ok (.putfield 42, 3) := by decide +kernel
theorem d_TD_init_63 : decode b_TD_init 63 = .ok (.iconst 0, 1) := by decide +kernel
theorem d_TD_init_64 : decode b_TD_init 64 = .ok (.istore_n 1, 1) := by decide +kernel
theorem d_TD_init_65 : decode b_TD_init 65 = .ok (.iload_n 1, 1) := by decide +kernel
theorem d_TD_init_66 : decode b_TD_init 66 = .ok (.aload_n 0, 1) := by decide +kernel
theorem d_TD_init_67 : decode b_TD_init 67 = .ok (.getfield 38, 3) := by decide +kernel
theorem d_TD_init_70 : decode b_TD_init 70 = .ok (.arraylength, 1) := by decide +kernel
theorem d_TD_init_71 : decode b_TD_init 71 = .ok (.if_icmp .ge 23, 3) := by decide +kernel
theorem d_TD_init_74 : decode b_TD_init 74 = .ok (.aload_n 0, 1) := by decide +kernel
theorem d_TD_init_75 : decode b_TD_init 75 = .ok (.getfield 38, 3) := by decide +kernel
theorem d_TD_init_78 : decode b_TD_init 78 = .ok (.iload_n 1, 1) := by decide +kernel
theorem d_TD_init_79 : decode b_TD_init 79 = .ok (.new 36, 3) := by decide +kernel
theorem d_TD_init_82 : decode b_TD_init 82 = .ok (.dup, 1) := by decide +kernel
theorem d_TD_init_83 : decode b_TD_init 83 = .ok (.iload_n 1, 1) := by decide +kernel
theorem d_TD_init_84 : decode b_TD_init 84 = .ok (.invokespecial 46, 3) := by decide +kernel
theorem d_TD_init_87 : decode b_TD_init 87 = .ok (.aastore, 1) := by decide +kernel
theorem d_TD_init_88 : decode b_TD_init 88 = .ok (.iinc 1 1, 3) := by decide +kernel
theorem d_TD_init_91 : decode b_TD_init 91 = .ok (.goto (-26), 3) := by decide +kernel
theorem d_TD_init_94 : decode b_TD_init 94 = .ok (.return_, 1) := by decide +kernel
theorem d_TD_arms_0 : decode b_TD_arms 0 = .ok (.iload_n 1, 1) := by decide +kernel
theorem d_TD_arms_1 : decode b_TD_arms 1 = .ok (.iload_n 2, 1) := by decide +kernel
theorem d_TD_arms_2 : decode b_TD_arms 2 = .ok (.iload_n 3, 1) := by decide +kernel
theorem d_TD_arms_3 : decode b_TD_arms 3 = .ok (.iload 4, 2) := by decide +kernel
theorem d_TD_arms_5 : decode b_TD_arms 5 = .ok (.invokestatic 49, 3) := by decide +kernel
theorem d_TD_arms_8 : decode b_TD_arms 8 = .ok (.ifCond .eq 19, 3) := by decide +kernel
theorem d_TD_arms_11 : decode b_TD_arms 11 = .ok (.iload 5, 2) := by decide +kernel
theorem d_TD_arms_13 : decode b_TD_arms 13 = .ok (.iload_n 1, 1) := by decide +kernel
theorem d_TD_arms_14 : decode b_TD_arms 14 = .ok (.iload_n 2, 1) := by decide +kernel
theorem d_TD_arms_15 : decode b_TD_arms 15 = .ok (.iadd, 1) := by decide +kernel
theorem d_TD_arms_16 : decode b_TD_arms 16 = .ok (.iload_n 3, 1) := by decide +kernel
theorem d_TD_arms_17 : decode b_TD_arms 17 = .ok (.iadd, 1) := by decide +kernel
theorem d_TD_arms_18 : decode b_TD_arms 18 = .ok (.iload 4, 2) := by decide +kernel
theorem d_TD_arms_20 : decode b_TD_arms 20 = .ok (.iadd, 1) := by decide +kernel
theorem d_TD_arms_21 : decode b_TD_arms 21 = .ok (.invokestatic 53, 3) := by decide +kernel
theorem d_TD_arms_24 : decode b_TD_arms 24 = .ok (.ifCond .ne 11, 3) := by decide +kernel
theorem d_TD_arms_27 : decode b_TD_arms 27 = .ok (.new 57, 3) := by decide +kernel
theorem d_TD_arms_30 : decode b_TD_arms 30 = .ok (.dup, 1) := by decide +kernel
theorem d_TD_arms_31 : decode b_TD_arms 31 = .ok (.invokespecial 59, 3) := by decide +kernel
theorem d_TD_arms_34 : decode b_TD_arms 34 = .ok (.athrow, 1) := by decide +kernel
theorem d_TD_arms_35 : decode b_TD_arms 35 = .ok (.aload_n 0, 1) := by decide +kernel
theorem d_TD_arms_36 : decode b_TD_arms 36 = .ok (.invokevirtual 60, 3) := by decide +kernel
theorem d_TD_arms_39 : decode b_TD_arms 39 = .ok (.ifCond .eq 11, 3) := by decide +kernel
theorem d_TD_arms_42 : decode b_TD_arms 42 = .ok (.new 64, 3) := by decide +kernel
theorem d_TD_arms_45 : decode b_TD_arms 45 = .ok (.dup, 1) := by decide +kernel
theorem d_TD_arms_46 : decode b_TD_arms 46 = .ok (.invokespecial 66, 3) := by decide +kernel
theorem d_TD_arms_49 : decode b_TD_arms 49 = .ok (.athrow, 1) := by decide +kernel
theorem d_TD_arms_50 : decode b_TD_arms 50 = .ok (.aload_n 0, 1) := by decide +kernel
theorem d_TD_arms_51 : decode b_TD_arms 51 = .ok (.getfield 19, 3) := by decide +kernel
theorem d_TD_arms_54 : decode b_TD_arms 54 = .ok (.getfield 67, 3) := by decide +kernel
theorem d_TD_arms_57 : decode b_TD_arms 57 = .ok (.ifCond .ne 13, 3) := by decide +kernel
theorem d_TD_arms_60 : decode b_TD_arms 60 = .ok (.aload_n 0, 1) := by decide +kernel
theorem d_TD_arms_61 : decode b_TD_arms 61 = .ok (.getfield 19, 3) := by decide +kernel
theorem d_TD_arms_64 : decode b_TD_arms 64 = .ok (.invokevirtual 71, 3) := by decide +kernel
theorem d_TD_arms_67 : decode b_TD_arms 67 = .ok (.ifCond .ne 4, 3) := by decide +kernel
theorem d_TD_arms_70 : decode b_TD_arms 70 = .ok (.return_, 1) := by decide +kernel
theorem d_TD_arms_71 : decode b_TD_arms 71 = .ok (.aload_n 0, 1) := by decide +kernel
theorem d_TD_arms_72 : decode b_TD_arms 72 = .ok (.getfield 10, 3) := by decide +kernel
theorem d_TD_arms_75 : decode b_TD_arms 75 = .ok (.iload_n 1, 1) := by decide +kernel
theorem d_TD_arms_76 : decode b_TD_arms 76 = .ok (.iload_n 2, 1) := by decide +kernel
theorem d_TD_arms_77 : decode b_TD_arms 77 = .ok (.iload_n 3, 1) := by decide +kernel
theorem d_TD_arms_78 : decode b_TD_arms 78 = .ok (.iload 4, 2) := by decide +kernel
theorem d_TD_arms_80 : decode b_TD_arms 80 = .ok (.iload 5, 2) := by decide +kernel
theorem d_TD_arms_82 : decode b_TD_arms 82 = .ok (.invokevirtual 74, 3) := by decide +kernel
theorem d_TD_arms_85 : decode b_TD_arms 85 = .ok (.iconst 0, 1) := by decide +kernel
theorem d_TD_arms_86 : decode b_TD_arms 86 = .ok (.istore 8, 2) := by decide +kernel
theorem d_TD_arms_88 : decode b_TD_arms 88 = .ok (.iload 8, 2) := by decide +kernel
theorem d_TD_arms_90 : decode b_TD_arms 90 = .ok (.aload_n 0, 1) := by decide +kernel
theorem d_TD_arms_91 : decode b_TD_arms 91 = .ok (.getfield 38, 3) := by decide +kernel
theorem d_TD_arms_94 : decode b_TD_arms 94 = .ok (.arraylength, 1) := by decide +kernel
theorem d_TD_arms_95 : decode b_TD_arms 95 = .ok (.if_icmp .ge 24, 3) := by decide +kernel
theorem d_TD_arms_98 : decode b_TD_arms 98 = .ok (.aload_n 0, 1) := by decide +kernel
theorem d_TD_arms_99 : decode b_TD_arms 99 = .ok (.iload 8, 2) := by decide +kernel
theorem d_TD_arms_101 : decode b_TD_arms 101 = .ok (.invokevirtual 78, 3) := by decide +kernel
theorem d_TD_arms_104 : decode b_TD_arms 104 = .ok (.aload_n 0, 1) := by decide +kernel
theorem d_TD_arms_105 : decode b_TD_arms 105 = .ok (.getfield 10, 3) := by decide +kernel
theorem d_TD_arms_108 : decode b_TD_arms 108 = .ok (.lload 6, 2) := by decide +kernel
theorem d_TD_arms_110 : decode b_TD_arms 110 = .ok (.invokevirtual 82, 3) := by decide +kernel
theorem d_TD_arms_113 : decode b_TD_arms 113 = .ok (.iinc 8 1, 3) := by decide +kernel
theorem d_TD_arms_116 : decode b_TD_arms 116 = .ok (.goto (-28), 3) := by decide +kernel
theorem d_TD_arms_119 : decode b_TD_arms 119 = .ok (.return_, 1) := by decide +kernel
theorem d_TD_site_0 : decode b_TD_site 0 = .ok (.iload_n 1, 1) := by decide +kernel
theorem d_TD_site_1 : decode b_TD_site 1 = .ok (.ifCond .lt 12, 3) := by decide +kernel
theorem d_TD_site_4 : decode b_TD_site 4 = .ok (.iload_n 1, 1) := by decide +kernel
theorem d_TD_site_5 : decode b_TD_site 5 = .ok (.aload_n 0, 1) := by decide +kernel
theorem d_TD_site_6 : decode b_TD_site 6 = .ok (.getfield 32, 3) := by decide +kernel
theorem d_TD_site_9 : decode b_TD_site 9 = .ok (.arraylength, 1) := by decide +kernel
theorem d_TD_site_10 : decode b_TD_site 10 = .ok (.if_icmp .lt 11, 3) := by decide +kernel
theorem d_TD_site_13 : decode b_TD_site 13 = .ok (.new 86, 3) := by decide +kernel
theorem d_TD_site_16 : decode b_TD_site 16 = .ok (.dup, 1) := by decide +kernel
theorem d_TD_site_17 : decode b_TD_site 17 = .ok (.invokespecial 88, 3) := by decide +kernel
theorem d_TD_site_20 : decode b_TD_site 20 = .ok (.athrow, 1) := by decide +kernel
theorem d_TD_site_21 : decode b_TD_site 21 = .ok (.aload_n 0, 1) := by decide +kernel
theorem d_TD_site_22 : decode b_TD_site 22 = .ok (.getfield 32, 3) := by decide +kernel
theorem d_TD_site_25 : decode b_TD_site 25 = .ok (.iload_n 1, 1) := by decide +kernel
theorem d_TD_site_26 : decode b_TD_site 26 = .ok (.aaload, 1) := by decide +kernel
theorem d_TD_site_27 : decode b_TD_site 27 = .ok (.ifnull 11, 3) := by decide +kernel
theorem d_TD_site_30 : decode b_TD_site 30 = .ok (.new 57, 3) := by decide +kernel
theorem d_TD_site_33 : decode b_TD_site 33 = .ok (.dup, 1) := by decide +kernel
theorem d_TD_site_34 : decode b_TD_site 34 = .ok (.invokespecial 59, 3) := by decide +kernel
theorem d_TD_site_37 : decode b_TD_site 37 = .ok (.athrow, 1) := by decide +kernel
theorem d_TD_site_38 : decode b_TD_site 38 = .ok (.aload_n 0, 1) := by decide +kernel
theorem d_TD_site_39 : decode b_TD_site 39 = .ok (.getfield 19, 3) := by decide +kernel
theorem d_TD_site_42 : decode b_TD_site 42 = .ok (.getfield 67, 3) := by decide +kernel
theorem d_TD_site_45 : decode b_TD_site 45 = .ok (.ifCond .ne 13, 3) := by decide +kernel
theorem d_TD_site_48 : decode b_TD_site 48 = .ok (.aload_n 0, 1) := by decide +kernel
theorem d_TD_site_49 : decode b_TD_site 49 = .ok (.getfield 19, 3) := by decide +kernel
theorem d_TD_site_52 : decode b_TD_site 52 = .ok (.invokevirtual 71, 3) := by decide +kernel
theorem d_TD_site_55 : decode b_TD_site 55 = .ok (.ifCond .ne 6, 3) := by decide +kernel
theorem d_TD_site_58 : decode b_TD_site 58 = .ok (.bipush (-2), 2) := by decide +kernel
theorem d_TD_site_60 : decode b_TD_site 60 = .ok (.ireturn, 1) := by decide +kernel
theorem d_TD_site_61 : decode b_TD_site 61 = .ok (.aload_n 0, 1) := by decide +kernel
theorem d_TD_site_62 : decode b_TD_site 62 = .ok (.getfield 32, 3) := by decide +kernel
theorem d_TD_site_65 : decode b_TD_site 65 = .ok (.iload_n 1, 1) := by decide +kernel
theorem d_TD_site_66 : decode b_TD_site 66 = .ok (.new 30, 3) := by decide +kernel
theorem d_TD_site_69 : decode b_TD_site 69 = .ok (.dup, 1) := by decide +kernel
theorem d_TD_site_70 : decode b_TD_site 70 = .ok (.invokespecial 89, 3) := by decide +kernel
theorem d_TD_site_73 : decode b_TD_site 73 = .ok (.aastore, 1) := by decide +kernel
theorem d_TD_site_74 : decode b_TD_site 74 = .ok (.aload_n 0, 1) := by decide +kernel
theorem d_TD_site_75 : decode b_TD_site 75 = .ok (.dup, 1) := by decide +kernel
theorem d_TD_site_76 : decode b_TD_site 76 = .ok (.getfield 90, 3) := by decide +kernel
theorem d_TD_site_79 : decode b_TD_site 79 = .ok (.iconst 1, 1) := by decide +kernel
theorem d_TD_site_80 : decode b_TD_site 80 = .ok (.iadd, 1) := by decide +kernel
theorem d_TD_site_81 : decode b_TD_site 81 = .ok (.putfield 90, 3) := by decide +kernel
theorem d_TD_site_84 : decode b_TD_site 84 = .ok (.aload_n 0, 1) := by decide +kernel
theorem d_TD_site_85 : decode b_TD_site 85 = .ok (.getfield 90, 3) := by decide +kernel
theorem d_TD_site_88 : decode b_TD_site 88 = .ok (.ireturn, 1) := by decide +kernel
theorem d_TD_kits_0 : decode b_TD_kits 0 = .ok (.aload_n 0, 1) := by decide +kernel
theorem d_TD_kits_1 : decode b_TD_kits 1 = .ok (.iload_n 1, 1) := by decide +kernel
theorem d_TD_kits_2 : decode b_TD_kits 2 = .ok (.invokevirtual 94, 3) := by decide +kernel
theorem d_TD_kits_5 : decode b_TD_kits 5 = .ok (.astore 5, 2) := by decide +kernel
theorem d_TD_kits_7 : decode b_TD_kits 7 = .ok (.aload_n 0, 1) := by decide +kernel
theorem d_TD_kits_8 : decode b_TD_kits 8 = .ok (.iload_n 2, 1) := by decide +kernel
theorem d_TD_kits_9 : decode b_TD_kits 9 = .ok (.invokevirtual 98, 3) := by decide +kernel
theorem d_TD_kits_12 : decode b_TD_kits 12 = .ok (.iload_n 3, 1) := by decide +kernel
theorem d_TD_kits_13 : decode b_TD_kits 13 = .ok (.invokestatic 101, 3) := by decide +kernel
theorem d_TD_kits_16 : decode b_TD_kits 16 = .ok (.iload_n 3, 1) := by decide +kernel
theorem d_TD_kits_17 : decode b_TD_kits 17 = .ok (.i2l, 1) := by decide +kernel
theorem d_TD_kits_18 : decode b_TD_kits 18 = .ok (.iload 4, 2) := by decide +kernel
theorem d_TD_kits_20 : decode b_TD_kits 20 = .ok (.i2l, 1) := by decide +kernel
theorem d_TD_kits_21 : decode b_TD_kits 21 = .ok (.ladd, 1) := by decide +kernel
theorem d_TD_kits_22 : decode b_TD_kits 22 = .ok (.ldc2_w 104, 3) := by decide +kernel
theorem d_TD_kits_25 : decode b_TD_kits 25 = .ok (.lcmp, 1) := by decide +kernel
theorem d_TD_kits_26 : decode b_TD_kits 26 = .ok (.ifCond .le 11, 3) := by decide +kernel
theorem d_TD_kits_29 : decode b_TD_kits 29 = .ok (.new 86, 3) := by decide +kernel
theorem d_TD_kits_32 : decode b_TD_kits 32 = .ok (.dup, 1) := by decide +kernel
theorem d_TD_kits_33 : decode b_TD_kits 33 = .ok (.invokespecial 88, 3) := by decide +kernel
theorem d_TD_kits_36 : decode b_TD_kits 36 = .ok (.athrow, 1) := by decide +kernel
theorem d_TD_kits_37 : decode b_TD_kits 37 = .ok (.aload_n 0, 1) := by decide +kernel
theorem d_TD_kits_38 : decode b_TD_kits 38 = .ok (.invokevirtual 106, 3) := by decide +kernel
theorem d_TD_kits_41 : decode b_TD_kits 41 = .ok (.iload 4, 2) := by decide +kernel
theorem d_TD_kits_43 : decode b_TD_kits 43 = .ok (.iconst 1, 1) := by decide +kernel
theorem d_TD_kits_44 : decode b_TD_kits 44 = .ok (.if_icmp .lt 10, 3) := by decide +kernel
theorem d_TD_kits_47 : decode b_TD_kits 47 = .ok (.iload 4, 2) := by decide +kernel
theorem d_TD_kits_49 : decode b_TD_kits 49 = .ok (.bipush 50, 2) := by decide +kernel
theorem d_TD_kits_51 : decode b_TD_kits 51 = .ok (.if_icmp .le 11, 3) := by decide +kernel
theorem d_TD_kits_54 : decode b_TD_kits 54 = .ok (.new 57, 3) := by decide +kernel
theorem d_TD_kits_57 : decode b_TD_kits 57 = .ok (.dup, 1) := by decide +kernel
theorem d_TD_kits_58 : decode b_TD_kits 58 = .ok (.invokespecial 59, 3) := by decide +kernel
theorem d_TD_kits_61 : decode b_TD_kits 61 = .ok (.athrow, 1) := by decide +kernel
theorem d_TD_kits_62 : decode b_TD_kits 62 = .ok (.aload_n 0, 1) := by decide +kernel
theorem d_TD_kits_63 : decode b_TD_kits 63 = .ok (.getfield 19, 3) := by decide +kernel
theorem d_TD_kits_66 : decode b_TD_kits 66 = .ok (.getfield 67, 3) := by decide +kernel
theorem d_TD_kits_69 : decode b_TD_kits 69 = .ok (.ifCond .eq 6, 3) := by decide +kernel
theorem d_TD_kits_72 : decode b_TD_kits 72 = .ok (.bipush (-2), 2) := by decide +kernel
theorem d_TD_kits_74 : decode b_TD_kits 74 = .ok (.ireturn, 1) := by decide +kernel
theorem d_TD_kits_75 : decode b_TD_kits 75 = .ok (.aload 5, 2) := by decide +kernel
theorem d_TD_kits_77 : decode b_TD_kits 77 = .ok (.getfield 109, 3) := by decide +kernel
theorem d_TD_kits_80 : decode b_TD_kits 80 = .ok (.ifCond .eq 6, 3) := by decide +kernel
theorem d_TD_kits_83 : decode b_TD_kits 83 = .ok (.bipush (-4), 2) := by decide +kernel
theorem d_TD_kits_85 : decode b_TD_kits 85 = .ok (.ireturn, 1) := by decide +kernel
theorem d_TD_kits_86 : decode b_TD_kits 86 = .ok (.aload_n 0, 1) := by decide +kernel
theorem d_TD_kits_87 : decode b_TD_kits 87 = .ok (.getfield 26, 3) := by decide +kernel
theorem d_TD_kits_90 : decode b_TD_kits 90 = .ok (.iload_n 3, 1) := by decide +kernel
theorem d_TD_kits_91 : decode b_TD_kits 91 = .ok (.iload 4, 2) := by decide +kernel
theorem d_TD_kits_93 : decode b_TD_kits 93 = .ok (.invokevirtual 112, 3) := by decide +kernel
theorem d_TD_kits_96 : decode b_TD_kits 96 = .ok (.ifCond .eq 6, 3) := by decide +kernel
theorem d_TD_kits_99 : decode b_TD_kits 99 = .ok (.bipush (-5), 2) := by decide +kernel
theorem d_TD_kits_101 : decode b_TD_kits 101 = .ok (.ireturn, 1) := by decide +kernel
theorem d_TD_kits_102 : decode b_TD_kits 102 = .ok (.aload_n 0, 1) := by decide +kernel
theorem d_TD_kits_103 : decode b_TD_kits 103 = .ok (.getfield 19, 3) := by decide +kernel
theorem d_TD_kits_106 : decode b_TD_kits 106 = .ok (.invokevirtual 71, 3) := by decide +kernel
theorem d_TD_kits_109 : decode b_TD_kits 109 = .ok (.ifCond .ne 6, 3) := by decide +kernel
theorem d_TD_kits_112 : decode b_TD_kits 112 = .ok (.bipush (-2), 2) := by decide +kernel
theorem d_TD_kits_114 : decode b_TD_kits 114 = .ok (.ireturn, 1) := by decide +kernel
theorem d_TD_kits_115 : decode b_TD_kits 115 = .ok (.aload_n 0, 1) := by decide +kernel
theorem d_TD_kits_116 : decode b_TD_kits 116 = .ok (.getfield 26, 3) := by decide +kernel
theorem d_TD_kits_119 : decode b_TD_kits 119 = .ok (.iload_n 1, 1) := by decide +kernel
theorem d_TD_kits_120 : decode b_TD_kits 120 = .ok (.iload_n 2, 1) := by decide +kernel
theorem d_TD_kits_121 : decode b_TD_kits 121 = .ok (.iload_n 3, 1) := by decide +kernel
theorem d_TD_kits_122 : decode b_TD_kits 122 = .ok (.iload 4, 2) := by decide +kernel
theorem d_TD_kits_124 : decode b_TD_kits 124 = .ok (.invokevirtual 115, 3) := by decide +kernel
theorem d_TD_kits_127 : decode b_TD_kits 127 = .ok (.aload_n 0, 1) := by decide +kernel
theorem d_TD_kits_128 : decode b_TD_kits 128 = .ok (.getfield 26, 3) := by decide +kernel
theorem d_TD_kits_131 : decode b_TD_kits 131 = .ok (.iload_n 1, 1) := by decide +kernel
theorem d_TD_kits_132 : decode b_TD_kits 132 = .ok (.iload_n 2, 1) := by decide +kernel
theorem d_TD_kits_133 : decode b_TD_kits 133 = .ok (.invokevirtual 119, 3) := by decide +kernel
theorem d_TD_kits_136 : decode b_TD_kits 136 = .ok (.ireturn, 1) := by decide +kernel
theorem d_TD_allot_0 : decode b_TD_allot 0 = .ok (.aload_n 0, 1) := by decide +kernel
theorem d_TD_allot_1 : decode b_TD_allot 1 = .ok (.iload_n 1, 1) := by decide +kernel
theorem d_TD_allot_2 : decode b_TD_allot 2 = .ok (.invokevirtual 94, 3) := by decide +kernel
theorem d_TD_allot_5 : decode b_TD_allot 5 = .ok (.astore 4, 2) := by decide +kernel
theorem d_TD_allot_7 : decode b_TD_allot 7 = .ok (.aload_n 0, 1) := by decide +kernel
theorem d_TD_allot_8 : decode b_TD_allot 8 = .ok (.iload_n 2, 1) := by decide +kernel
theorem d_TD_allot_9 : decode b_TD_allot 9 = .ok (.invokevirtual 78, 3) := by decide +kernel
theorem d_TD_allot_12 : decode b_TD_allot 12 = .ok (.astore 5, 2) := by decide +kernel
theorem d_TD_allot_14 : decode b_TD_allot 14 = .ok (.iload_n 3, 1) := by decide +kernel
theorem d_TD_allot_15 : decode b_TD_allot 15 = .ok (.invokestatic 123, 3) := by decide +kernel
theorem d_TD_allot_18 : decode b_TD_allot 18 = .ok (.aload_n 0, 1) := by decide +kernel
theorem d_TD_allot_19 : decode b_TD_allot 19 = .ok (.invokevirtual 106, 3) := by decide +kernel
theorem d_TD_allot_22 : decode b_TD_allot 22 = .ok (.aload_n 0, 1) := by decide +kernel
theorem d_TD_allot_23 : decode b_TD_allot 23 = .ok (.getfield 19, 3) := by decide +kernel
theorem d_TD_allot_26 : decode b_TD_allot 26 = .ok (.getfield 67, 3) := by decide +kernel
theorem d_TD_allot_29 : decode b_TD_allot 29 = .ok (.ifCond .eq 6, 3) := by decide +kernel
theorem d_TD_allot_32 : decode b_TD_allot 32 = .ok (.bipush (-2), 2) := by decide +kernel
theorem d_TD_allot_34 : decode b_TD_allot 34 = .ok (.ireturn, 1) := by decide +kernel
theorem d_TD_allot_35 : decode b_TD_allot 35 = .ok (.aload_n 0, 1) := by decide +kernel
theorem d_TD_allot_36 : decode b_TD_allot 36 = .ok (.getfield 126, 3) := by decide +kernel
theorem d_TD_allot_39 : decode b_TD_allot 39 = .ok (.ifCond .eq 6, 3) := by decide +kernel
theorem d_TD_allot_42 : decode b_TD_allot 42 = .ok (.bipush (-3), 2) := by decide +kernel
theorem d_TD_allot_44 : decode b_TD_allot 44 = .ok (.ireturn, 1) := by decide +kernel
theorem d_TD_allot_45 : decode b_TD_allot 45 = .ok (.aload 4, 2) := by decide +kernel
theorem d_TD_allot_47 : decode b_TD_allot 47 = .ok (.getfield 109, 3) := by decide +kernel
theorem d_TD_allot_50 : decode b_TD_allot 50 = .ok (.ifCond .eq 6, 3) := by decide +kernel
theorem d_TD_allot_53 : decode b_TD_allot 53 = .ok (.bipush (-4), 2) := by decide +kernel
theorem d_TD_allot_55 : decode b_TD_allot 55 = .ok (.ireturn, 1) := by decide +kernel
theorem d_TD_allot_56 : decode b_TD_allot 56 = .ok (.aload 4, 2) := by decide +kernel
theorem d_TD_allot_58 : decode b_TD_allot 58 = .ok (.iload_n 3, 1) := by decide +kernel
theorem d_TD_allot_59 : decode b_TD_allot 59 = .ok (.invokevirtual 129, 3) := by decide +kernel
theorem d_TD_allot_62 : decode b_TD_allot 62 = .ok (.ifCond .eq 6, 3) := by decide +kernel
theorem d_TD_allot_65 : decode b_TD_allot 65 = .ok (.bipush (-5), 2) := by decide +kernel
theorem d_TD_allot_67 : decode b_TD_allot 67 = .ok (.ireturn, 1) := by decide +kernel
theorem d_TD_allot_68 : decode b_TD_allot 68 = .ok (.aload 5, 2) := by decide +kernel
theorem d_TD_allot_70 : decode b_TD_allot 70 = .ok (.invokevirtual 133, 3) := by decide +kernel
theorem d_TD_allot_73 : decode b_TD_allot 73 = .ok (.istore 6, 2) := by decide +kernel
theorem d_TD_allot_75 : decode b_TD_allot 75 = .ok (.aload_n 0, 1) := by decide +kernel
theorem d_TD_allot_76 : decode b_TD_allot 76 = .ok (.getfield 26, 3) := by decide +kernel
theorem d_TD_allot_79 : decode b_TD_allot 79 = .ok (.iload_n 1, 1) := by decide +kernel
theorem d_TD_allot_80 : decode b_TD_allot 80 = .ok (.iload 6, 2) := by decide +kernel
theorem d_TD_allot_82 : decode b_TD_allot 82 = .ok (.iconst 0, 1) := by decide +kernel
theorem d_TD_allot_83 : decode b_TD_allot 83 = .ok (.invokevirtual 137, 3) := by decide +kernel
theorem d_TD_allot_86 : decode b_TD_allot 86 = .ok (.istore 7, 2) := by decide +kernel
theorem d_TD_allot_88 : decode b_TD_allot 88 = .ok (.iload 7, 2) := by decide +kernel
theorem d_TD_allot_90 : decode b_TD_allot 90 = .ok (.iconst (-1), 1) := by decide +kernel
theorem d_TD_allot_91 : decode b_TD_allot 91 = .ok (.if_icmp .ne 6, 3) := by decide +kernel
theorem d_TD_allot_94 : decode b_TD_allot 94 = .ok (.bipush (-6), 2) := by decide +kernel
theorem d_TD_allot_96 : decode b_TD_allot 96 = .ok (.ireturn, 1) := by decide +kernel
theorem d_TD_allot_97 : decode b_TD_allot 97 = .ok (.aload_n 0, 1) := by decide +kernel
theorem d_TD_allot_98 : decode b_TD_allot 98 = .ok (.getfield 19, 3) := by decide +kernel
theorem d_TD_allot_101 : decode b_TD_allot 101 = .ok (.invokevirtual 71, 3) := by decide +kernel
theorem d_TD_allot_104 : decode b_TD_allot 104 = .ok (.ifCond .ne 6, 3) := by decide +kernel
theorem d_TD_allot_107 : decode b_TD_allot 107 = .ok (.bipush (-2), 2) := by decide +kernel
theorem d_TD_allot_109 : decode b_TD_allot 109 = .ok (.ireturn, 1) := by decide +kernel
theorem d_TD_allot_110 : decode b_TD_allot 110 = .ok (.aload 5, 2) := by decide +kernel
theorem d_TD_allot_112 : decode b_TD_allot 112 = .ok (.invokevirtual 141, 3) := by decide +kernel
theorem d_TD_allot_115 : decode b_TD_allot 115 = .ok (.aload 5, 2) := by decide +kernel
theorem d_TD_allot_117 : decode b_TD_allot 117 = .ok (.iload 6, 2) := by decide +kernel
theorem d_TD_allot_119 : decode b_TD_allot 119 = .ok (.invokevirtual 144, 3) := by decide +kernel
theorem d_TD_allot_122 : decode b_TD_allot 122 = .ok (.aload_n 0, 1) := by decide +kernel
theorem d_TD_allot_123 : decode b_TD_allot 123 = .ok (.getfield 26, 3) := by decide +kernel
theorem d_TD_allot_126 : decode b_TD_allot 126 = .ok (.iload 7, 2) := by decide +kernel
theorem d_TD_allot_128 : decode b_TD_allot 128 = .ok (.iload_n 3, 1) := by decide +kernel
theorem d_TD_allot_129 : decode b_TD_allot 129 = .ok (.invokevirtual 147, 3) := by decide +kernel
theorem d_TD_allot_132 : decode b_TD_allot 132 = .ok (.aload 4, 2) := by decide +kernel
theorem d_TD_allot_134 : decode b_TD_allot 134 = .ok (.iload_n 3, 1) := by decide +kernel
theorem d_TD_allot_135 : decode b_TD_allot 135 = .ok (.iload_n 2, 1) := by decide +kernel
theorem d_TD_allot_136 : decode b_TD_allot 136 = .ok (.iload 6, 2) := by decide +kernel
theorem d_TD_allot_138 : decode b_TD_allot 138 = .ok (.iconst 2, 1) := by decide +kernel
theorem d_TD_allot_139 : decode b_TD_allot 139 = .ok (.invokevirtual 151, 3) := by decide +kernel
theorem d_TD_allot_142 : decode b_TD_allot 142 = .ok (.iload 7, 2) := by decide +kernel
theorem d_TD_allot_144 : decode b_TD_allot 144 = .ok (.ireturn, 1) := by decide +kernel
theorem d_TD_reserve_0 : decode b_TD_reserve 0 = .ok (.aload_n 0, 1) := by decide +kernel
theorem d_TD_reserve_1 : decode b_TD_reserve 1 = .ok (.iload_n 1, 1) := by decide +kernel
theorem d_TD_reserve_2 : decode b_TD_reserve 2 = .ok (.invokevirtual 94, 3) := by decide +kernel
theorem d_TD_reserve_5 : decode b_TD_reserve 5 = .ok (.astore_n 3, 1) := by decide +kernel
theorem d_TD_reserve_6 : decode b_TD_reserve 6 = .ok (.aload_n 0, 1) := by decide +kernel
theorem d_TD_reserve_7 : decode b_TD_reserve 7 = .ok (.iload_n 2, 1) := by decide +kernel
theorem d_TD_reserve_8 : decode b_TD_reserve 8 = .ok (.invokevirtual 78, 3) := by decide +kernel
theorem d_TD_reserve_11 : decode b_TD_reserve 11 = .ok (.astore 4, 2) := by decide +kernel
theorem d_TD_reserve_13 : decode b_TD_reserve 13 = .ok (.aload_n 0, 1) := by decide +kernel
theorem d_TD_reserve_14 : decode b_TD_reserve 14 = .ok (.invokevirtual 106, 3) := by decide +kernel
theorem d_TD_reserve_17 : decode b_TD_reserve 17 = .ok (.aload_n 0, 1) := by decide +kernel
theorem d_TD_reserve_18 : decode b_TD_reserve 18 = .ok (.getfield 19, 3) := by decide +kernel
theorem d_TD_reserve_21 : decode b_TD_reserve 21 = .ok (.getfield 67, 3) := by decide +kernel
theorem d_TD_reserve_24 : decode b_TD_reserve 24 = .ok (.ifCond .eq 6, 3) := by decide +kernel
theorem d_TD_reserve_27 : decode b_TD_reserve 27 = .ok (.bipush (-2), 2) := by decide +kernel
theorem d_TD_reserve_29 : decode b_TD_reserve 29 = .ok (.ireturn, 1) := by decide +kernel
theorem d_TD_reserve_30 : decode b_TD_reserve 30 = .ok (.aload_n 0, 1) := by decide +kernel
theorem d_TD_reserve_31 : decode b_TD_reserve 31 = .ok (.getfield 126, 3) := by decide +kernel
theorem d_TD_reserve_34 : decode b_TD_reserve 34 = .ok (.ifCond .eq 6, 3) := by decide +kernel
theorem d_TD_reserve_37 : decode b_TD_reserve 37 = .ok (.bipush (-3), 2) := by decide +kernel
theorem d_TD_reserve_39 : decode b_TD_reserve 39 = .ok (.ireturn, 1) := by decide +kernel
theorem d_TD_reserve_40 : decode b_TD_reserve 40 = .ok (.aload_n 3, 1) := by decide +kernel
theorem d_TD_reserve_41 : decode b_TD_reserve 41 = .ok (.getfield 109, 3) := by decide +kernel
theorem d_TD_reserve_44 : decode b_TD_reserve 44 = .ok (.ifCond .eq 6, 3) := by decide +kernel
theorem d_TD_reserve_47 : decode b_TD_reserve 47 = .ok (.bipush (-4), 2) := by decide +kernel
theorem d_TD_reserve_49 : decode b_TD_reserve 49 = .ok (.ireturn, 1) := by decide +kernel
theorem d_TD_reserve_50 : decode b_TD_reserve 50 = .ok (.aload_n 3, 1) := by decide +kernel
theorem d_TD_reserve_51 : decode b_TD_reserve 51 = .ok (.iload_n 2, 1) := by decide +kernel
theorem d_TD_reserve_52 : decode b_TD_reserve 52 = .ok (.invokevirtual 154, 3) := by decide +kernel
theorem d_TD_reserve_55 : decode b_TD_reserve 55 = .ok (.astore 5, 2) := by decide +kernel
theorem d_TD_reserve_57 : decode b_TD_reserve 57 = .ok (.aload 5, 2) := by decide +kernel
theorem d_TD_reserve_59 : decode b_TD_reserve 59 = .ok (.getfield 158, 3) := by decide +kernel
theorem d_TD_reserve_62 : decode b_TD_reserve 62 = .ok (.ifCond .le 6, 3) := by decide +kernel
theorem d_TD_reserve_65 : decode b_TD_reserve 65 = .ok (.bipush (-8), 2) := by decide +kernel
theorem d_TD_reserve_67 : decode b_TD_reserve 67 = .ok (.ireturn, 1) := by decide +kernel
theorem d_TD_reserve_68 : decode b_TD_reserve 68 = .ok (.aload_n 0, 1) := by decide +kernel
theorem d_TD_reserve_69 : decode b_TD_reserve 69 = .ok (.iload_n 1, 1) := by decide +kernel
theorem d_TD_reserve_70 : decode b_TD_reserve 70 = .ok (.aload 4, 2) := by decide +kernel
theorem d_TD_reserve_72 : decode b_TD_reserve 72 = .ok (.invokevirtual 163, 3) := by decide +kernel
theorem d_TD_reserve_75 : decode b_TD_reserve 75 = .ok (.ifCond .ne 6, 3) := by decide +kernel
theorem d_TD_reserve_78 : decode b_TD_reserve 78 = .ok (.bipush (-6), 2) := by decide +kernel
theorem d_TD_reserve_80 : decode b_TD_reserve 80 = .ok (.ireturn, 1) := by decide +kernel
theorem d_TD_reserve_81 : decode b_TD_reserve 81 = .ok (.aload_n 0, 1) := by decide +kernel
theorem d_TD_reserve_82 : decode b_TD_reserve 82 = .ok (.getfield 19, 3) := by decide +kernel
theorem d_TD_reserve_85 : decode b_TD_reserve 85 = .ok (.invokevirtual 71, 3) := by decide +kernel
theorem d_TD_reserve_88 : decode b_TD_reserve 88 = .ok (.ifCond .ne 6, 3) := by decide +kernel
theorem d_TD_reserve_91 : decode b_TD_reserve 91 = .ok (.bipush (-2), 2) := by decide +kernel
theorem d_TD_reserve_93 : decode b_TD_reserve 93 = .ok (.ireturn, 1) := by decide +kernel
theorem d_TD_reserve_94 : decode b_TD_reserve 94 = .ok (.aload 5, 2) := by decide +kernel
theorem d_TD_reserve_96 : decode b_TD_reserve 96 = .ok (.aload_n 0, 1) := by decide +kernel
theorem d_TD_reserve_97 : decode b_TD_reserve 97 = .ok (.getfield 42, 3) := by decide +kernel
theorem d_TD_reserve_100 : decode b_TD_reserve 100 = .ok (.aload_n 0, 1) := by decide +kernel
theorem d_TD_reserve_101 : decode b_TD_reserve 101 = .ok (.getfield 10, 3) := by decide +kernel
theorem d_TD_reserve_104 : decode b_TD_reserve 104 = .ok (.getfield 167, 3) := by decide +kernel
theorem d_TD_reserve_107 : decode b_TD_reserve 107 = .ok (.invokevirtual 170, 3) := by decide +kernel
theorem d_TD_reserve_110 : decode b_TD_reserve 110 = .ok (.aload_n 0, 1) := by decide +kernel
theorem d_TD_reserve_111 : decode b_TD_reserve 111 = .ok (.getfield 26, 3) := by decide +kernel
theorem d_TD_reserve_114 : decode b_TD_reserve 114 = .ok (.aload_n 0, 1) := by decide +kernel
theorem d_TD_reserve_115 : decode b_TD_reserve 115 = .ok (.getfield 42, 3) := by decide +kernel
theorem d_TD_reserve_118 : decode b_TD_reserve 118 = .ok (.aload_n 0, 1) := by decide +kernel
theorem d_TD_reserve_119 : decode b_TD_reserve 119 = .ok (.getfield 10, 3) := by decide +kernel
theorem d_TD_reserve_122 : decode b_TD_reserve 122 = .ok (.getfield 167, 3) := by decide +kernel
theorem d_TD_reserve_125 : decode b_TD_reserve 125 = .ok (.invokevirtual 174, 3) := by decide +kernel
theorem d_TD_reserve_128 : decode b_TD_reserve 128 = .ok (.aload 4, 2) := by decide +kernel
theorem d_TD_reserve_130 : decode b_TD_reserve 130 = .ok (.invokevirtual 177, 3) := by decide +kernel
theorem d_TD_reserve_133 : decode b_TD_reserve 133 = .ok (.ireturn, 1) := by decide +kernel
theorem d_TD_offline_0 : decode b_TD_offline 0 = .ok (.aload_n 0, 1) := by decide +kernel
theorem d_TD_offline_1 : decode b_TD_offline 1 = .ok (.iload_n 1, 1) := by decide +kernel
theorem d_TD_offline_2 : decode b_TD_offline 2 = .ok (.invokevirtual 94, 3) := by decide +kernel
theorem d_TD_offline_5 : decode b_TD_offline 5 = .ok (.astore 4, 2) := by decide +kernel
theorem d_TD_offline_7 : decode b_TD_offline 7 = .ok (.aload_n 0, 1) := by decide +kernel
theorem d_TD_offline_8 : decode b_TD_offline 8 = .ok (.iload_n 2, 1) := by decide +kernel
theorem d_TD_offline_9 : decode b_TD_offline 9 = .ok (.invokevirtual 78, 3) := by decide +kernel
theorem d_TD_offline_12 : decode b_TD_offline 12 = .ok (.pop, 1) := by decide +kernel
theorem d_TD_offline_13 : decode b_TD_offline 13 = .ok (.iload_n 3, 1) := by decide +kernel
theorem d_TD_offline_14 : decode b_TD_offline 14 = .ok (.invokestatic 123, 3) := by decide +kernel
theorem d_TD_offline_17 : decode b_TD_offline 17 = .ok (.aload_n 0, 1) := by decide +kernel
theorem d_TD_offline_18 : decode b_TD_offline 18 = .ok (.invokevirtual 106, 3) := by decide +kernel
theorem d_TD_offline_21 : decode b_TD_offline 21 = .ok (.aload_n 0, 1) := by decide +kernel
theorem d_TD_offline_22 : decode b_TD_offline 22 = .ok (.getfield 19, 3) := by decide +kernel
theorem d_TD_offline_25 : decode b_TD_offline 25 = .ok (.getfield 67, 3) := by decide +kernel
theorem d_TD_offline_28 : decode b_TD_offline 28 = .ok (.ifCond .eq 6, 3) := by decide +kernel
theorem d_TD_offline_31 : decode b_TD_offline 31 = .ok (.bipush (-2), 2) := by decide +kernel
theorem d_TD_offline_33 : decode b_TD_offline 33 = .ok (.ireturn, 1) := by decide +kernel
theorem d_TD_offline_34 : decode b_TD_offline 34 = .ok (.aload 4, 2) := by decide +kernel
theorem d_TD_offline_36 : decode b_TD_offline 36 = .ok (.getfield 109, 3) := by decide +kernel
theorem d_TD_offline_39 : decode b_TD_offline 39 = .ok (.ifCond .eq 6, 3) := by decide +kernel
theorem d_TD_offline_42 : decode b_TD_offline 42 = .ok (.bipush (-4), 2) := by decide +kernel
theorem d_TD_offline_44 : decode b_TD_offline 44 = .ok (.ireturn, 1) := by decide +kernel
theorem d_TD_offline_45 : decode b_TD_offline 45 = .ok (.aload 4, 2) := by decide +kernel
theorem d_TD_offline_47 : decode b_TD_offline 47 = .ok (.iload_n 3, 1) := by decide +kernel
theorem d_TD_offline_48 : decode b_TD_offline 48 = .ok (.invokevirtual 129, 3) := by decide +kernel
theorem d_TD_offline_51 : decode b_TD_offline 51 = .ok (.ifCond .eq 6, 3) := by decide +kernel
theorem d_TD_offline_54 : decode b_TD_offline 54 = .ok (.bipush (-5), 2) := by decide +kernel
theorem d_TD_offline_56 : decode b_TD_offline 56 = .ok (.ireturn, 1) := by decide +kernel
theorem d_TD_offline_57 : decode b_TD_offline 57 = .ok (.aload 4, 2) := by decide +kernel
theorem d_TD_offline_59 : decode b_TD_offline 59 = .ok (.iload_n 2, 1) := by decide +kernel
theorem d_TD_offline_60 : decode b_TD_offline 60 = .ok (.invokevirtual 154, 3) := by decide +kernel
theorem d_TD_offline_63 : decode b_TD_offline 63 = .ok (.astore 5, 2) := by decide +kernel
theorem d_TD_offline_65 : decode b_TD_offline 65 = .ok (.aload 5, 2) := by decide +kernel
theorem d_TD_offline_67 : decode b_TD_offline 67 = .ok (.invokevirtual 180, 3) := by decide +kernel
theorem d_TD_offline_70 : decode b_TD_offline 70 = .ok (.istore 6, 2) := by decide +kernel
theorem d_TD_offline_72 : decode b_TD_offline 72 = .ok (.iload 6, 2) := by decide +kernel
theorem d_TD_offline_74 : decode b_TD_offline 74 = .ok (.iconst (-1), 1) := by decide +kernel
theorem d_TD_offline_75 : decode b_TD_offline 75 = .ok (.if_icmp .ne 6, 3) := by decide +kernel
theorem d_TD_offline_78 : decode b_TD_offline 78 = .ok (.bipush (-7), 2) := by decide +kernel
theorem d_TD_offline_80 : decode b_TD_offline 80 = .ok (.ireturn, 1) := by decide +kernel
theorem d_TD_offline_81 : decode b_TD_offline 81 = .ok (.aload_n 0, 1) := by decide +kernel
theorem d_TD_offline_82 : decode b_TD_offline 82 = .ok (.getfield 19, 3) := by decide +kernel
theorem d_TD_offline_85 : decode b_TD_offline 85 = .ok (.invokevirtual 71, 3) := by decide +kernel
theorem d_TD_offline_88 : decode b_TD_offline 88 = .ok (.ifCond .ne 6, 3) := by decide +kernel
theorem d_TD_offline_91 : decode b_TD_offline 91 = .ok (.bipush (-2), 2) := by decide +kernel
theorem d_TD_offline_93 : decode b_TD_offline 93 = .ok (.ireturn, 1) := by decide +kernel
theorem d_TD_offline_94 : decode b_TD_offline 94 = .ok (.aload 5, 2) := by decide +kernel
theorem d_TD_offline_96 : decode b_TD_offline 96 = .ok (.dup, 1) := by decide +kernel
theorem d_TD_offline_97 : decode b_TD_offline 97 = .ok (.getfield 183, 3) := by decide +kernel
theorem d_TD_offline_100 : decode b_TD_offline 100 = .ok (.iconst 1, 1) := by decide +kernel
theorem d_TD_offline_101 : decode b_TD_offline 101 = .ok (.iadd, 1) := by decide +kernel
theorem d_TD_offline_102 : decode b_TD_offline 102 = .ok (.putfield 183, 3) := by decide +kernel
theorem d_TD_offline_105 : decode b_TD_offline 105 = .ok (.aload_n 0, 1) := by decide +kernel
theorem d_TD_offline_106 : decode b_TD_offline 106 = .ok (.getfield 26, 3) := by decide +kernel
theorem d_TD_offline_109 : decode b_TD_offline 109 = .ok (.iload 6, 2) := by decide +kernel
theorem d_TD_offline_111 : decode b_TD_offline 111 = .ok (.iload_n 3, 1) := by decide +kernel
theorem d_TD_offline_112 : decode b_TD_offline 112 = .ok (.invokevirtual 147, 3) := by decide +kernel
theorem d_TD_offline_115 : decode b_TD_offline 115 = .ok (.aload 4, 2) := by decide +kernel
theorem d_TD_offline_117 : decode b_TD_offline 117 = .ok (.iload_n 3, 1) := by decide +kernel
theorem d_TD_offline_118 : decode b_TD_offline 118 = .ok (.iload_n 2, 1) := by decide +kernel
theorem d_TD_offline_119 : decode b_TD_offline 119 = .ok (.aload_n 0, 1) := by decide +kernel
theorem d_TD_offline_120 : decode b_TD_offline 120 = .ok (.getfield 26, 3) := by decide +kernel
theorem d_TD_offline_123 : decode b_TD_offline 123 = .ok (.iload 6, 2) := by decide +kernel
theorem d_TD_offline_125 : decode b_TD_offline 125 = .ok (.invokevirtual 186, 3) := by decide +kernel
theorem d_TD_offline_128 : decode b_TD_offline 128 = .ok (.iconst 1, 1) := by decide +kernel
theorem d_TD_offline_129 : decode b_TD_offline 129 = .ok (.invokevirtual 151, 3) := by decide +kernel
theorem d_TD_offline_132 : decode b_TD_offline 132 = .ok (.iload 6, 2) := by decide +kernel
theorem d_TD_offline_134 : decode b_TD_offline 134 = .ok (.ireturn, 1) := by decide +kernel
theorem d_TD_report_0 : decode b_TD_report 0 = .ok (.aload_n 0, 1) := by decide +kernel
theorem d_TD_report_1 : decode b_TD_report 1 = .ok (.iload_n 1, 1) := by decide +kernel
theorem d_TD_report_2 : decode b_TD_report 2 = .ok (.invokevirtual 94, 3) := by decide +kernel
theorem d_TD_report_5 : decode b_TD_report 5 = .ok (.astore_n 2, 1) := by decide +kernel
theorem d_TD_report_6 : decode b_TD_report 6 = .ok (.aload_n 0, 1) := by decide +kernel
theorem d_TD_report_7 : decode b_TD_report 7 = .ok (.getfield 19, 3) := by decide +kernel
theorem d_TD_report_10 : decode b_TD_report 10 = .ok (.getfield 67, 3) := by decide +kernel
theorem d_TD_report_13 : decode b_TD_report 13 = .ok (.ifCond .eq 6, 3) := by decide +kernel
theorem d_TD_report_16 : decode b_TD_report 16 = .ok (.bipush (-2), 2) := by decide +kernel
theorem d_TD_report_18 : decode b_TD_report 18 = .ok (.ireturn, 1) := by decide +kernel
theorem d_TD_report_19 : decode b_TD_report 19 = .ok (.aload_n 2, 1) := by decide +kernel
theorem d_TD_report_20 : decode b_TD_report 20 = .ok (.getfield 109, 3) := by decide +kernel
theorem d_TD_report_23 : decode b_TD_report 23 = .ok (.ifCond .eq 6, 3) := by decide +kernel
theorem d_TD_report_26 : decode b_TD_report 26 = .ok (.bipush (-4), 2) := by decide +kernel
theorem d_TD_report_28 : decode b_TD_report 28 = .ok (.ireturn, 1) := by decide +kernel
theorem d_TD_report_29 : decode b_TD_report 29 = .ok (.aload_n 0, 1) := by decide +kernel
theorem d_TD_report_30 : decode b_TD_report 30 = .ok (.getfield 19, 3) := by decide +kernel
theorem d_TD_report_33 : decode b_TD_report 33 = .ok (.invokevirtual 71, 3) := by decide +kernel
theorem d_TD_report_36 : decode b_TD_report 36 = .ok (.ifCond .ne 6, 3) := by decide +kernel
theorem d_TD_report_39 : decode b_TD_report 39 = .ok (.bipush (-2), 2) := by decide +kernel
theorem d_TD_report_41 : decode b_TD_report 41 = .ok (.ireturn, 1) := by decide +kernel
theorem d_TD_report_42 : decode b_TD_report 42 = .ok (.iconst 0, 1) := by decide +kernel
theorem d_TD_report_43 : decode b_TD_report 43 = .ok (.istore_n 3, 1) := by decide +kernel
theorem d_TD_report_44 : decode b_TD_report 44 = .ok (.iconst 0, 1) := by decide +kernel
theorem d_TD_report_45 : decode b_TD_report 45 = .ok (.istore 4, 2) := by decide +kernel
theorem d_TD_report_47 : decode b_TD_report 47 = .ok (.iload 4, 2) := by decide +kernel
theorem d_TD_report_49 : decode b_TD_report 49 = .ok (.bipush 100, 2) := by decide +kernel
theorem d_TD_report_51 : decode b_TD_report 51 = .ok (.if_icmp .ge 40, 3) := by decide +kernel
theorem d_TD_report_54 : decode b_TD_report 54 = .ok (.aload_n 2, 1) := by decide +kernel
theorem d_TD_report_55 : decode b_TD_report 55 = .ok (.iload 4, 2) := by decide +kernel
theorem d_TD_report_57 : decode b_TD_report 57 = .ok (.invokevirtual 190, 3) := by decide +kernel
theorem d_TD_report_60 : decode b_TD_report 60 = .ok (.ifCond .eq 25, 3) := by decide +kernel
theorem d_TD_report_63 : decode b_TD_report 63 = .ok (.aload_n 0, 1) := by decide +kernel
theorem d_TD_report_64 : decode b_TD_report 64 = .ok (.aload_n 2, 1) := by decide +kernel
theorem d_TD_report_65 : decode b_TD_report 65 = .ok (.iload 4, 2) := by decide +kernel
theorem d_TD_report_67 : decode b_TD_report 67 = .ok (.invokevirtual 193, 3) := by decide +kernel
theorem d_TD_report_70 : decode b_TD_report 70 = .ok (.invokevirtual 78, 3) := by decide +kernel
theorem d_TD_report_73 : decode b_TD_report 73 = .ok (.aload_n 2, 1) := by decide +kernel
theorem d_TD_report_74 : decode b_TD_report 74 = .ok (.iload 4, 2) := by decide +kernel
theorem d_TD_report_76 : decode b_TD_report 76 = .ok (.invokevirtual 196, 3) := by decide +kernel
theorem d_TD_report_79 : decode b_TD_report 79 = .ok (.invokevirtual 144, 3) := by decide +kernel
theorem d_TD_report_82 : decode b_TD_report 82 = .ok (.iinc 3 1, 3) := by decide +kernel
theorem d_TD_report_85 : decode b_TD_report 85 = .ok (.iinc 4 1, 3) := by decide +kernel
theorem d_TD_report_88 : decode b_TD_report 88 = .ok (.goto (-41), 3) := by decide +kernel
theorem d_TD_report_91 : decode b_TD_report 91 = .ok (.aload_n 2, 1) := by decide +kernel
theorem d_TD_report_92 : decode b_TD_report 92 = .ok (.invokevirtual 197, 3) := by decide +kernel
theorem d_TD_report_95 : decode b_TD_report 95 = .ok (.aload_n 0, 1) := by decide +kernel
theorem d_TD_report_96 : decode b_TD_report 96 = .ok (.getfield 26, 3) := by decide +kernel
theorem d_TD_report_99 : decode b_TD_report 99 = .ok (.iload_n 1, 1) := by decide +kernel
theorem d_TD_report_100 : decode b_TD_report 100 = .ok (.invokevirtual 200, 3) := by decide +kernel
theorem d_TD_report_103 : decode b_TD_report 103 = .ok (.iload_n 3, 1) := by decide +kernel
theorem d_TD_report_104 : decode b_TD_report 104 = .ok (.ireturn, 1) := by decide +kernel
theorem d_TD_close_0 : decode b_TD_close 0 = .ok (.aload_n 0, 1) := by decide +kernel
theorem d_TD_close_1 : decode b_TD_close 1 = .ok (.iload_n 1, 1) := by decide +kernel
theorem d_TD_close_2 : decode b_TD_close 2 = .ok (.invokevirtual 94, 3) := by decide +kernel
theorem d_TD_close_5 : decode b_TD_close 5 = .ok (.astore_n 2, 1) := by decide +kernel
theorem d_TD_close_6 : decode b_TD_close 6 = .ok (.aload_n 0, 1) := by decide +kernel
theorem d_TD_close_7 : decode b_TD_close 7 = .ok (.getfield 19, 3) := by decide +kernel
theorem d_TD_close_10 : decode b_TD_close 10 = .ok (.getfield 67, 3) := by decide +kernel
theorem d_TD_close_13 : decode b_TD_close 13 = .ok (.ifCond .eq 6, 3) := by decide +kernel
theorem d_TD_close_16 : decode b_TD_close 16 = .ok (.bipush (-2), 2) := by decide +kernel
theorem d_TD_close_18 : decode b_TD_close 18 = .ok (.ireturn, 1) := by decide +kernel
theorem d_TD_close_19 : decode b_TD_close 19 = .ok (.aload_n 2, 1) := by decide +kernel
theorem d_TD_close_20 : decode b_TD_close 20 = .ok (.getfield 109, 3) := by decide +kernel
theorem d_TD_close_23 : decode b_TD_close 23 = .ok (.ifCond .eq 6, 3) := by decide +kernel
theorem d_TD_close_26 : decode b_TD_close 26 = .ok (.bipush (-4), 2) := by decide +kernel
theorem d_TD_close_28 : decode b_TD_close 28 = .ok (.ireturn, 1) := by decide +kernel
theorem d_TD_close_29 : decode b_TD_close 29 = .ok (.aload_n 0, 1) := by decide +kernel
theorem d_TD_close_30 : decode b_TD_close 30 = .ok (.getfield 19, 3) := by decide +kernel
theorem d_TD_close_33 : decode b_TD_close 33 = .ok (.invokevirtual 71, 3) := by decide +kernel
theorem d_TD_close_36 : decode b_TD_close 36 = .ok (.ifCond .ne 6, 3) := by decide +kernel
theorem d_TD_close_39 : decode b_TD_close 39 = .ok (.bipush (-2), 2) := by decide +kernel
theorem d_TD_close_41 : decode b_TD_close 41 = .ok (.ireturn, 1) := by decide +kernel
theorem d_TD_close_42 : decode b_TD_close 42 = .ok (.aload_n 2, 1) := by decide +kernel
theorem d_TD_close_43 : decode b_TD_close 43 = .ok (.invokevirtual 203, 3) := by decide +kernel
theorem d_TD_close_46 : decode b_TD_close 46 = .ok (.istore_n 3, 1) := by decide +kernel
theorem d_TD_close_47 : decode b_TD_close 47 = .ok (.aload_n 2, 1) := by decide +kernel
theorem d_TD_close_48 : decode b_TD_close 48 = .ok (.invokevirtual 197, 3) := by decide +kernel
theorem d_TD_close_51 : decode b_TD_close 51 = .ok (.aload_n 2, 1) := by decide +kernel
theorem d_TD_close_52 : decode b_TD_close 52 = .ok (.iconst 1, 1) := by decide +kernel
theorem d_TD_close_53 : decode b_TD_close 53 = .ok (.putfield 109, 3) := by decide +kernel
theorem d_TD_close_56 : decode b_TD_close 56 = .ok (.iload_n 3, 1) := by decide +kernel
theorem d_TD_close_57 : decode b_TD_close 57 = .ok (.ireturn, 1) := by decide +kernel
theorem d_TD_key_0 : decode b_TD_key 0 = .ok (.iload_n 1, 1) := by decide +kernel
theorem d_TD_key_1 : decode b_TD_key 1 = .ok (.invokestatic 206, 3) := by decide +kernel
theorem d_TD_key_4 : decode b_TD_key 4 = .ok (.aload_n 0, 1) := by decide +kernel
theorem d_TD_key_5 : decode b_TD_key 5 = .ok (.iload_n 2, 1) := by decide +kernel
theorem d_TD_key_6 : decode b_TD_key 6 = .ok (.invokevirtual 94, 3) := by decide +kernel
theorem d_TD_key_9 : decode b_TD_key 9 = .ok (.astore 4, 2) := by decide +kernel
theorem d_TD_key_11 : decode b_TD_key 11 = .ok (.iload_n 3, 1) := by decide +kernel
theorem d_TD_key_12 : decode b_TD_key 12 = .ok (.invokestatic 123, 3) := by decide +kernel
theorem d_TD_key_15 : decode b_TD_key 15 = .ok (.aload_n 0, 1) := by decide +kernel
theorem d_TD_key_16 : decode b_TD_key 16 = .ok (.getfield 19, 3) := by decide +kernel
theorem d_TD_key_19 : decode b_TD_key 19 = .ok (.getfield 67, 3) := by decide +kernel
theorem d_TD_key_22 : decode b_TD_key 22 = .ok (.ifCond .ne 13, 3) := by decide +kernel
theorem d_TD_key_25 : decode b_TD_key 25 = .ok (.aload_n 0, 1) := by decide +kernel
theorem d_TD_key_26 : decode b_TD_key 26 = .ok (.getfield 19, 3) := by decide +kernel
theorem d_TD_key_29 : decode b_TD_key 29 = .ok (.invokevirtual 71, 3) := by decide +kernel
theorem d_TD_key_32 : decode b_TD_key 32 = .ok (.ifCond .ne 6, 3) := by decide +kernel
theorem d_TD_key_35 : decode b_TD_key 35 = .ok (.bipush (-2), 2) := by decide +kernel
theorem d_TD_key_37 : decode b_TD_key 37 = .ok (.ireturn, 1) := by decide +kernel
theorem d_TD_key_38 : decode b_TD_key 38 = .ok (.aload 4, 2) := by decide +kernel
theorem d_TD_key_40 : decode b_TD_key 40 = .ok (.iload_n 3, 1) := by decide +kernel
theorem d_TD_key_41 : decode b_TD_key 41 = .ok (.iload_n 1, 1) := by decide +kernel
theorem d_TD_key_42 : decode b_TD_key 42 = .ok (.invokevirtual 209, 3) := by decide +kernel
theorem d_TD_key_45 : decode b_TD_key 45 = .ok (.aload 4, 2) := by decide +kernel
theorem d_TD_key_47 : decode b_TD_key 47 = .ok (.iload_n 3, 1) := by decide +kernel
theorem d_TD_key_48 : decode b_TD_key 48 = .ok (.invokevirtual 212, 3) := by decide +kernel
theorem d_TD_key_51 : decode b_TD_key 51 = .ok (.ireturn, 1) := by decide +kernel
theorem d_TD_arm_0 : decode b_TD_arm 0 = .ok (.aload_n 0, 1) := by decide +kernel
theorem d_TD_arm_1 : decode b_TD_arm 1 = .ok (.iload_n 1, 1) := by decide +kernel
theorem d_TD_arm_2 : decode b_TD_arm 2 = .ok (.invokevirtual 94, 3) := by decide +kernel
theorem d_TD_arm_5 : decode b_TD_arm 5 = .ok (.astore_n 3, 1) := by decide +kernel
theorem d_TD_arm_6 : decode b_TD_arm 6 = .ok (.iload_n 2, 1) := by decide +kernel
theorem d_TD_arm_7 : decode b_TD_arm 7 = .ok (.invokestatic 123, 3) := by decide +kernel
theorem d_TD_arm_10 : decode b_TD_arm 10 = .ok (.aload_n 0, 1) := by decide +kernel
theorem d_TD_arm_11 : decode b_TD_arm 11 = .ok (.getfield 126, 3) := by decide +kernel
theorem d_TD_arm_14 : decode b_TD_arm 14 = .ok (.ifCond .ne 12, 3) := by decide +kernel
theorem d_TD_arm_17 : decode b_TD_arm 17 = .ok (.aload_n 3, 1) := by decide +kernel
theorem d_TD_arm_18 : decode b_TD_arm 18 = .ok (.iload_n 2, 1) := by decide +kernel
theorem d_TD_arm_19 : decode b_TD_arm 19 = .ok (.invokevirtual 212, 3) := by decide +kernel
theorem d_TD_arm_22 : decode b_TD_arm 22 = .ok (.iconst 2, 1) := by decide +kernel
theorem d_TD_arm_23 : decode b_TD_arm 23 = .ok (.if_icmp .lt 7, 3) := by decide +kernel
theorem d_TD_arm_26 : decode b_TD_arm 26 = .ok (.iconst 1, 1) := by decide +kernel
theorem d_TD_arm_27 : decode b_TD_arm 27 = .ok (.goto 4, 3) := by decide +kernel
theorem d_TD_arm_30 : decode b_TD_arm 30 = .ok (.iconst 0, 1) := by decide +kernel
theorem d_TD_arm_31 : decode b_TD_arm 31 = .ok (.istore 4, 2) := by decide +kernel
theorem d_TD_arm_33 : decode b_TD_arm 33 = .ok (.iload 4, 2) := by decide +kernel
theorem d_TD_arm_35 : decode b_TD_arm 35 = .ok (.ifCond .eq 19, 3) := by decide +kernel
theorem d_TD_arm_38 : decode b_TD_arm 38 = .ok (.aload_n 3, 1) := by decide +kernel
theorem d_TD_arm_39 : decode b_TD_arm 39 = .ok (.iload_n 2, 1) := by decide +kernel
theorem d_TD_arm_40 : decode b_TD_arm 40 = .ok (.invokevirtual 215, 3) := by decide +kernel
theorem d_TD_arm_43 : decode b_TD_arm 43 = .ok (.ifCond .eq 11, 3) := by decide +kernel
theorem d_TD_arm_46 : decode b_TD_arm 46 = .ok (.aload_n 3, 1) := by decide +kernel
theorem d_TD_arm_47 : decode b_TD_arm 47 = .ok (.iload_n 2, 1) := by decide +kernel
theorem d_TD_arm_48 : decode b_TD_arm 48 = .ok (.invokevirtual 196, 3) := by decide +kernel
theorem d_TD_arm_51 : decode b_TD_arm 51 = .ok (.goto 4, 3) := by decide +kernel
theorem d_TD_arm_54 : decode b_TD_arm 54 = .ok (.iconst (-1), 1) := by decide +kernel
theorem d_TD_arm_55 : decode b_TD_arm 55 = .ok (.ireturn, 1) := by decide +kernel
theorem d_TD_open_0 : decode b_TD_open 0 = .ok (.iload_n 1, 1) := by decide +kernel
theorem d_TD_open_1 : decode b_TD_open 1 = .ok (.invokestatic 206, 3) := by decide +kernel
theorem d_TD_open_4 : decode b_TD_open 4 = .ok (.iload_n 2, 1) := by decide +kernel
theorem d_TD_open_5 : decode b_TD_open 5 = .ok (.invokestatic 206, 3) := by decide +kernel
theorem d_TD_open_8 : decode b_TD_open 8 = .ok (.aload_n 0, 1) := by decide +kernel
theorem d_TD_open_9 : decode b_TD_open 9 = .ok (.getfield 19, 3) := by decide +kernel
theorem d_TD_open_12 : decode b_TD_open 12 = .ok (.getfield 67, 3) := by decide +kernel
theorem d_TD_open_15 : decode b_TD_open 15 = .ok (.ifCond .eq 6, 3) := by decide +kernel
theorem d_TD_open_18 : decode b_TD_open 18 = .ok (.bipush (-2), 2) := by decide +kernel
theorem d_TD_open_20 : decode b_TD_open 20 = .ok (.ireturn, 1) := by decide +kernel
theorem d_TD_open_21 : decode b_TD_open 21 = .ok (.iload_n 1, 1) := by decide +kernel
theorem d_TD_open_22 : decode b_TD_open 22 = .ok (.iload_n 2, 1) := by decide +kernel
theorem d_TD_open_23 : decode b_TD_open 23 = .ok (.if_icmp .eq 10, 3) := by decide +kernel
theorem d_TD_open_26 : decode b_TD_open 26 = .ok (.aload_n 0, 1) := by decide +kernel
theorem d_TD_open_27 : decode b_TD_open 27 = .ok (.getfield 126, 3) := by decide +kernel
theorem d_TD_open_30 : decode b_TD_open 30 = .ok (.ifCond .eq 5, 3) := by decide +kernel
theorem d_TD_open_33 : decode b_TD_open 33 = .ok (.iconst 0, 1) := by decide +kernel
theorem d_TD_open_34 : decode b_TD_open 34 = .ok (.ireturn, 1) := by decide +kernel
theorem d_TD_open_35 : decode b_TD_open 35 = .ok (.aload_n 0, 1) := by decide +kernel
theorem d_TD_open_36 : decode b_TD_open 36 = .ok (.getfield 19, 3) := by decide +kernel
theorem d_TD_open_39 : decode b_TD_open 39 = .ok (.invokevirtual 71, 3) := by decide +kernel
theorem d_TD_open_42 : decode b_TD_open 42 = .ok (.ifCond .ne 6, 3) := by decide +kernel
theorem d_TD_open_45 : decode b_TD_open 45 = .ok (.bipush (-2), 2) := by decide +kernel
theorem d_TD_open_47 : decode b_TD_open 47 = .ok (.ireturn, 1) := by decide +kernel
theorem d_TD_open_48 : decode b_TD_open 48 = .ok (.aload_n 0, 1) := by decide +kernel
theorem d_TD_open_49 : decode b_TD_open 49 = .ok (.iconst 1, 1) := by decide +kernel
theorem d_TD_open_50 : decode b_TD_open 50 = .ok (.putfield 126, 3) := by decide +kernel
theorem d_TD_open_53 : decode b_TD_open 53 = .ok (.iconst 1, 1) := by decide +kernel
theorem d_TD_open_54 : decode b_TD_open 54 = .ok (.ireturn, 1) := by decide +kernel
theorem d_TD_count_0 : decode b_TD_count 0 = .ok (.aload_n 0, 1) := by decide +kernel
theorem d_TD_count_1 : decode b_TD_count 1 = .ok (.iload_n 1, 1) := by decide +kernel
theorem d_TD_count_2 : decode b_TD_count 2 = .ok (.invokevirtual 78, 3) := by decide +kernel
theorem d_TD_count_5 : decode b_TD_count 5 = .ok (.astore_n 3, 1) := by decide +kernel
theorem d_TD_count_6 : decode b_TD_count 6 = .ok (.aload_n 0, 1) := by decide +kernel
theorem d_TD_count_7 : decode b_TD_count 7 = .ok (.iload_n 2, 1) := by decide +kernel
theorem d_TD_count_8 : decode b_TD_count 8 = .ok (.invokevirtual 98, 3) := by decide +kernel
theorem d_TD_count_11 : decode b_TD_count 11 = .ok (.aload_n 0, 1) := by decide +kernel
theorem d_TD_count_12 : decode b_TD_count 12 = .ok (.invokevirtual 106, 3) := by decide +kernel
theorem d_TD_count_15 : decode b_TD_count 15 = .ok (.aload_n 0, 1) := by decide +kernel
theorem d_TD_count_16 : decode b_TD_count 16 = .ok (.getfield 126, 3) := by decide +kernel
theorem d_TD_count_19 : decode b_TD_count 19 = .ok (.ifCond .eq 11, 3) := by decide +kernel
theorem d_TD_count_22 : decode b_TD_count 22 = .ok (.aload_n 3, 1) := by decide +kernel
theorem d_TD_count_23 : decode b_TD_count 23 = .ok (.iload_n 2, 1) := by decide +kernel
theorem d_TD_count_24 : decode b_TD_count 24 = .ok (.invokevirtual 218, 3) := by decide +kernel
theorem d_TD_count_27 : decode b_TD_count 27 = .ok (.goto 4, 3) := by decide +kernel
theorem d_TD_count_30 : decode b_TD_count 30 = .ok (.iconst (-1), 1) := by decide +kernel
theorem d_TD_count_31 : decode b_TD_count 31 = .ok (.ireturn, 1) := by decide +kernel
theorem d_TD_spread_0 : decode b_TD_spread 0 = .ok (.aload_n 0, 1) := by decide +kernel
theorem d_TD_spread_1 : decode b_TD_spread 1 = .ok (.iload_n 1, 1) := by decide +kernel
theorem d_TD_spread_2 : decode b_TD_spread 2 = .ok (.invokevirtual 78, 3) := by decide +kernel
theorem d_TD_spread_5 : decode b_TD_spread 5 = .ok (.astore_n 2, 1) := by decide +kernel
theorem d_TD_spread_6 : decode b_TD_spread 6 = .ok (.aload_n 0, 1) := by decide +kernel
theorem d_TD_spread_7 : decode b_TD_spread 7 = .ok (.invokevirtual 106, 3) := by decide +kernel
theorem d_TD_spread_10 : decode b_TD_spread 10 = .ok (.aload_n 0, 1) := by decide +kernel
theorem d_TD_spread_11 : decode b_TD_spread 11 = .ok (.getfield 126, 3) := by decide +kernel
theorem d_TD_spread_14 : decode b_TD_spread 14 = .ok (.ifCond .eq 10, 3) := by decide +kernel
theorem d_TD_spread_17 : decode b_TD_spread 17 = .ok (.aload_n 2, 1) := by decide +kernel
theorem d_TD_spread_18 : decode b_TD_spread 18 = .ok (.invokevirtual 221, 3) := by decide +kernel
theorem d_TD_spread_21 : decode b_TD_spread 21 = .ok (.goto 4, 3) := by decide +kernel
theorem d_TD_spread_24 : decode b_TD_spread 24 = .ok (.iconst (-1), 1) := by decide +kernel
theorem d_TD_spread_25 : decode b_TD_spread 25 = .ok (.ireturn, 1) := by decide +kernel
theorem d_TD_entry_0 : decode b_TD_entry 0 = .ok (.aload_n 0, 1) := by decide +kernel
theorem d_TD_entry_1 : decode b_TD_entry 1 = .ok (.iload_n 1, 1) := by decide +kernel
theorem d_TD_entry_2 : decode b_TD_entry 2 = .ok (.invokevirtual 78, 3) := by decide +kernel
theorem d_TD_entry_5 : decode b_TD_entry 5 = .ok (.astore_n 3, 1) := by decide +kernel
theorem d_TD_entry_6 : decode b_TD_entry 6 = .ok (.aload_n 0, 1) := by decide +kernel
theorem d_TD_entry_7 : decode b_TD_entry 7 = .ok (.getfield 126, 3) := by decide +kernel
theorem d_TD_entry_10 : decode b_TD_entry 10 = .ok (.ifCond .eq 11, 3) := by decide +kernel
theorem d_TD_entry_13 : decode b_TD_entry 13 = .ok (.aload_n 3, 1) := by decide +kernel
theorem d_TD_entry_14 : decode b_TD_entry 14 = .ok (.iload_n 2, 1) := by decide +kernel
theorem d_TD_entry_15 : decode b_TD_entry 15 = .ok (.invokevirtual 224, 3) := by decide +kernel
theorem d_TD_entry_18 : decode b_TD_entry 18 = .ok (.goto 4, 3) := by decide +kernel
theorem d_TD_entry_21 : decode b_TD_entry 21 = .ok (.iconst (-1), 1) := by decide +kernel
theorem d_TD_entry_22 : decode b_TD_entry 22 = .ok (.ireturn, 1) := by decide +kernel
theorem d_TD_blocks_0 : decode b_TD_blocks 0 = .ok (.aload_n 0, 1) := by decide +kernel
theorem d_TD_blocks_1 : decode b_TD_blocks 1 = .ok (.iload_n 1, 1) := by decide +kernel
theorem d_TD_blocks_2 : decode b_TD_blocks 2 = .ok (.invokevirtual 78, 3) := by decide +kernel
theorem d_TD_blocks_5 : decode b_TD_blocks 5 = .ok (.getfield 227, 3) := by decide +kernel
theorem d_TD_blocks_8 : decode b_TD_blocks 8 = .ok (.ireturn, 1) := by decide +kernel
theorem d_TD_stock_0 : decode b_TD_stock 0 = .ok (.aload_n 0, 1) := by decide +kernel
theorem d_TD_stock_1 : decode b_TD_stock 1 = .ok (.iload_n 1, 1) := by decide +kernel
theorem d_TD_stock_2 : decode b_TD_stock 2 = .ok (.invokevirtual 94, 3) := by decide +kernel
theorem d_TD_stock_5 : decode b_TD_stock 5 = .ok (.pop, 1) := by decide +kernel
theorem d_TD_stock_6 : decode b_TD_stock 6 = .ok (.iload_n 2, 1) := by decide +kernel
theorem d_TD_stock_7 : decode b_TD_stock 7 = .ok (.tableswitch 55 0 2 #[25, 35, 45], 25) := by decide +kernel
theorem d_TD_stock_32 : decode b_TD_stock 32 = .ok (.aload_n 0, 1) := by decide +kernel
theorem d_TD_stock_33 : decode b_TD_stock 33 = .ok (.getfield 26, 3) := by decide +kernel
theorem d_TD_stock_36 : decode b_TD_stock 36 = .ok (.iload_n 1, 1) := by decide +kernel
theorem d_TD_stock_37 : decode b_TD_stock 37 = .ok (.iconst 1, 1) := by decide +kernel
theorem d_TD_stock_38 : decode b_TD_stock 38 = .ok (.invokevirtual 230, 3) := by decide +kernel
theorem d_TD_stock_41 : decode b_TD_stock 41 = .ok (.ireturn, 1) := by decide +kernel
theorem d_TD_stock_42 : decode b_TD_stock 42 = .ok (.aload_n 0, 1) := by decide +kernel
theorem d_TD_stock_43 : decode b_TD_stock 43 = .ok (.getfield 26, 3) := by decide +kernel
theorem d_TD_stock_46 : decode b_TD_stock 46 = .ok (.iload_n 1, 1) := by decide +kernel
theorem d_TD_stock_47 : decode b_TD_stock 47 = .ok (.iconst 2, 1) := by decide +kernel
theorem d_TD_stock_48 : decode b_TD_stock 48 = .ok (.invokevirtual 230, 3) := by decide +kernel
theorem d_TD_stock_51 : decode b_TD_stock 51 = .ok (.ireturn, 1) := by decide +kernel
theorem d_TD_stock_52 : decode b_TD_stock 52 = .ok (.aload_n 0, 1) := by decide +kernel
theorem d_TD_stock_53 : decode b_TD_stock 53 = .ok (.getfield 26, 3) := by decide +kernel
theorem d_TD_stock_56 : decode b_TD_stock 56 = .ok (.iload_n 1, 1) := by decide +kernel
theorem d_TD_stock_57 : decode b_TD_stock 57 = .ok (.iconst 3, 1) := by decide +kernel
theorem d_TD_stock_58 : decode b_TD_stock 58 = .ok (.invokevirtual 230, 3) := by decide +kernel
theorem d_TD_stock_61 : decode b_TD_stock 61 = .ok (.ireturn, 1) := by decide +kernel
theorem d_TD_stock_62 : decode b_TD_stock 62 = .ok (.new 57, 3) := by decide +kernel
theorem d_TD_stock_65 : decode b_TD_stock 65 = .ok (.dup, 1) := by decide +kernel
theorem d_TD_stock_66 : decode b_TD_stock 66 = .ok (.invokespecial 59, 3) := by decide +kernel
theorem d_TD_stock_69 : decode b_TD_stock 69 = .ok (.athrow, 1) := by decide +kernel
theorem d_TD_used_0 : decode b_TD_used 0 = .ok (.iload_n 1, 1) := by decide +kernel
theorem d_TD_used_1 : decode b_TD_used 1 = .ok (.invokestatic 101, 3) := by decide +kernel
theorem d_TD_used_4 : decode b_TD_used 4 = .ok (.aload_n 0, 1) := by decide +kernel
theorem d_TD_used_5 : decode b_TD_used 5 = .ok (.getfield 126, 3) := by decide +kernel
theorem d_TD_used_8 : decode b_TD_used 8 = .ok (.ifCond .eq 14, 3) := by decide +kernel
theorem d_TD_used_11 : decode b_TD_used 11 = .ok (.aload_n 0, 1) := by decide +kernel
theorem d_TD_used_12 : decode b_TD_used 12 = .ok (.getfield 26, 3) := by decide +kernel
theorem d_TD_used_15 : decode b_TD_used 15 = .ok (.iload_n 1, 1) := by decide +kernel
theorem d_TD_used_16 : decode b_TD_used 16 = .ok (.invokevirtual 233, 3) := by decide +kernel
theorem d_TD_used_19 : decode b_TD_used 19 = .ok (.goto 4, 3) := by decide +kernel
theorem d_TD_used_22 : decode b_TD_used 22 = .ok (.iconst (-1), 1) := by decide +kernel
theorem d_TD_used_23 : decode b_TD_used 23 = .ok (.ireturn, 1) := by decide +kernel
theorem d_TD_tear_0 : decode b_TD_tear 0 = .ok (.aload_n 0, 1) := by decide +kernel
theorem d_TD_tear_1 : decode b_TD_tear 1 = .ok (.getfield 19, 3) := by decide +kernel
theorem d_TD_tear_4 : decode b_TD_tear 4 = .ok (.invokevirtual 236, 3) := by decide +kernel
theorem d_TD_tear_7 : decode b_TD_tear 7 = .ok (.return_, 1) := by decide +kernel
theorem d_TD_mount_0 : decode b_TD_mount 0 = .ok (.aload_n 0, 1) := by decide +kernel
theorem d_TD_mount_1 : decode b_TD_mount 1 = .ok (.getfield 19, 3) := by decide +kernel
theorem d_TD_mount_4 : decode b_TD_mount 4 = .ok (.getfield 67, 3) := by decide +kernel
theorem d_TD_mount_7 : decode b_TD_mount 7 = .ok (.ifCond .ne 11, 3) := by decide +kernel
theorem d_TD_mount_10 : decode b_TD_mount 10 = .ok (.new 64, 3) := by decide +kernel
theorem d_TD_mount_13 : decode b_TD_mount 13 = .ok (.dup, 1) := by decide +kernel
theorem d_TD_mount_14 : decode b_TD_mount 14 = .ok (.invokespecial 66, 3) := by decide +kernel
theorem d_TD_mount_17 : decode b_TD_mount 17 = .ok (.athrow, 1) := by decide +kernel
theorem d_TD_mount_18 : decode b_TD_mount 18 = .ok (.aload_n 0, 1) := by decide +kernel
theorem d_TD_mount_19 : decode b_TD_mount 19 = .ok (.getfield 19, 3) := by decide +kernel
theorem d_TD_mount_22 : decode b_TD_mount 22 = .ok (.iconst 0, 1) := by decide +kernel
theorem d_TD_mount_23 : decode b_TD_mount 23 = .ok (.putfield 67, 3) := by decide +kernel
theorem d_TD_mount_26 : decode b_TD_mount 26 = .ok (.aload_n 0, 1) := by decide +kernel
theorem d_TD_mount_27 : decode b_TD_mount 27 = .ok (.getfield 19, 3) := by decide +kernel
theorem d_TD_mount_30 : decode b_TD_mount 30 = .ok (.getfield 239, 3) := by decide +kernel
theorem d_TD_mount_33 : decode b_TD_mount 33 = .ok (.ireturn, 1) := by decide +kernel
theorem d_TD_areWeights_0 : decode b_TD_areWeights 0 = .ok (.iload_n 0, 1) := by decide +kernel
theorem d_TD_areWeights_1 : decode b_TD_areWeights 1 = .ok (.iconst 1, 1) := by decide +kernel
theorem d_TD_areWeights_2 : decode b_TD_areWeights 2 = .ok (.invokestatic 242, 3) := by decide +kernel
theorem d_TD_areWeights_5 : decode b_TD_areWeights 5 = .ok (.ifCond .eq 31, 3) := by decide +kernel
theorem d_TD_areWeights_8 : decode b_TD_areWeights 8 = .ok (.iload_n 1, 1) := by decide +kernel
theorem d_TD_areWeights_9 : decode b_TD_areWeights 9 = .ok (.iconst 1, 1) := by decide +kernel
theorem d_TD_areWeights_10 : decode b_TD_areWeights 10 = .ok (.invokestatic 242, 3) := by decide +kernel
theorem d_TD_areWeights_13 : decode b_TD_areWeights 13 = .ok (.ifCond .eq 23, 3) := by decide +kernel
theorem d_TD_areWeights_16 : decode b_TD_areWeights 16 = .ok (.iload_n 2, 1) := by decide +kernel
theorem d_TD_areWeights_17 : decode b_TD_areWeights 17 = .ok (.iconst 0, 1) := by decide +kernel
theorem d_TD_areWeights_18 : decode b_TD_areWeights 18 = .ok (.invokestatic 242, 3) := by decide +kernel
theorem d_TD_areWeights_21 : decode b_TD_areWeights 21 = .ok (.ifCond .eq 15, 3) := by decide +kernel
theorem d_TD_areWeights_24 : decode b_TD_areWeights 24 = .ok (.iload_n 3, 1) := by decide +kernel
theorem d_TD_areWeights_25 : decode b_TD_areWeights 25 = .ok (.iconst 0, 1) := by decide +kernel
theorem d_TD_areWeights_26 : decode b_TD_areWeights 26 = .ok (.invokestatic 242, 3) := by decide +kernel
theorem d_TD_areWeights_29 : decode b_TD_areWeights 29 = .ok (.ifCond .eq 7, 3) := by decide +kernel
theorem d_TD_areWeights_32 : decode b_TD_areWeights 32 = .ok (.iconst 1, 1) := by decide +kernel
theorem d_TD_areWeights_33 : decode b_TD_areWeights 33 = .ok (.goto 4, 3) := by decide +kernel
theorem d_TD_areWeights_36 : decode b_TD_areWeights 36 = .ok (.iconst 0, 1) := by decide +kernel
theorem d_TD_areWeights_37 : decode b_TD_areWeights 37 = .ok (.istore 4, 2) := by decide +kernel
theorem d_TD_areWeights_39 : decode b_TD_areWeights 39 = .ok (.iload 4, 2) := by decide +kernel
theorem d_TD_areWeights_41 : decode b_TD_areWeights 41 = .ok (.ifCond .eq 15, 3) := by decide +kernel
theorem d_TD_areWeights_44 : decode b_TD_areWeights 44 = .ok (.iload_n 2, 1) := by decide +kernel
theorem d_TD_areWeights_45 : decode b_TD_areWeights 45 = .ok (.ifCond .ne 7, 3) := by decide +kernel
theorem d_TD_areWeights_48 : decode b_TD_areWeights 48 = .ok (.iload_n 3, 1) := by decide +kernel
theorem d_TD_areWeights_49 : decode b_TD_areWeights 49 = .ok (.ifCond .ne 7, 3) := by decide +kernel
theorem d_TD_areWeights_52 : decode b_TD_areWeights 52 = .ok (.iconst 1, 1) := by decide +kernel
theorem d_TD_areWeights_53 : decode b_TD_areWeights 53 = .ok (.goto 4, 3) := by decide +kernel
theorem d_TD_areWeights_56 : decode b_TD_areWeights 56 = .ok (.iconst 0, 1) := by decide +kernel
theorem d_TD_areWeights_57 : decode b_TD_areWeights 57 = .ok (.ireturn, 1) := by decide +kernel
theorem d_TD_isWeight_0 : decode b_TD_isWeight 0 = .ok (.iload_n 0, 1) := by decide +kernel
theorem d_TD_isWeight_1 : decode b_TD_isWeight 1 = .ok (.iload_n 1, 1) := by decide +kernel
theorem d_TD_isWeight_2 : decode b_TD_isWeight 2 = .ok (.if_icmp .lt 12, 3) := by decide +kernel
theorem d_TD_isWeight_5 : decode b_TD_isWeight 5 = .ok (.iload_n 0, 1) := by decide +kernel
theorem d_TD_isWeight_6 : decode b_TD_isWeight 6 = .ok (.iconst 3, 1) := by decide +kernel
theorem d_TD_isWeight_7 : decode b_TD_isWeight 7 = .ok (.if_icmp .gt 7, 3) := by decide +kernel
theorem d_TD_isWeight_10 : decode b_TD_isWeight 10 = .ok (.iconst 1, 1) := by decide +kernel
theorem d_TD_isWeight_11 : decode b_TD_isWeight 11 = .ok (.goto 4, 3) := by decide +kernel
theorem d_TD_isWeight_14 : decode b_TD_isWeight 14 = .ok (.iconst 0, 1) := by decide +kernel
theorem d_TD_isWeight_15 : decode b_TD_isWeight 15 = .ok (.ireturn, 1) := by decide +kernel
theorem d_TD_isSize_0 : decode b_TD_isSize 0 = .ok (.iload_n 0, 1) := by decide +kernel
theorem d_TD_isSize_1 : decode b_TD_isSize 1 = .ok (.iconst 1, 1) := by decide +kernel
theorem d_TD_isSize_2 : decode b_TD_isSize 2 = .ok (.if_icmp .lt 24, 3) := by decide +kernel
theorem d_TD_isSize_5 : decode b_TD_isSize 5 = .ok (.iload_n 0, 1) := by decide +kernel
theorem d_TD_isSize_6 : decode b_TD_isSize 6 = .ok (.bipush 24, 2) := by decide +kernel
theorem d_TD_isSize_8 : decode b_TD_isSize 8 = .ok (.if_icmp .gt 18, 3) := by decide +kernel
theorem d_TD_isSize_11 : decode b_TD_isSize 11 = .ok (.iload_n 1, 1) := by decide +kernel
theorem d_TD_isSize_12 : decode b_TD_isSize 12 = .ok (.iconst 1, 1) := by decide +kernel
theorem d_TD_isSize_13 : decode b_TD_isSize 13 = .ok (.if_icmp .lt 13, 3) := by decide +kernel
theorem d_TD_isSize_16 : decode b_TD_isSize 16 = .ok (.iload_n 0, 1) := by decide +kernel
theorem d_TD_isSize_17 : decode b_TD_isSize 17 = .ok (.iload_n 1, 1) := by decide +kernel
theorem d_TD_isSize_18 : decode b_TD_isSize 18 = .ok (.irem, 1) := by decide +kernel
theorem d_TD_isSize_19 : decode b_TD_isSize 19 = .ok (.ifCond .ne 7, 3) := by decide +kernel
theorem d_TD_isSize_22 : decode b_TD_isSize 22 = .ok (.iconst 1, 1) := by decide +kernel
theorem d_TD_isSize_23 : decode b_TD_isSize 23 = .ok (.goto 4, 3) := by decide +kernel
theorem d_TD_isSize_26 : decode b_TD_isSize 26 = .ok (.iconst 0, 1) := by decide +kernel
theorem d_TD_isSize_27 : decode b_TD_isSize 27 = .ok (.ireturn, 1) := by decide +kernel
theorem d_TD_isAnyBlockTaken_0 : decode b_TD_isAnyBlockTaken 0 = .ok (.iconst 0, 1) := by decide +kernel
theorem d_TD_isAnyBlockTaken_1 : decode b_TD_isAnyBlockTaken 1 = .ok (.istore_n 1, 1) := by decide +kernel
theorem d_TD_isAnyBlockTaken_2 : decode b_TD_isAnyBlockTaken 2 = .ok (.iload_n 1, 1) := by decide +kernel
theorem d_TD_isAnyBlockTaken_3 : decode b_TD_isAnyBlockTaken 3 = .ok (.aload_n 0, 1) := by decide +kernel
theorem d_TD_isAnyBlockTaken_4 : decode b_TD_isAnyBlockTaken 4 = .ok (.getfield 38, 3) := by decide +kernel
theorem d_TD_isAnyBlockTaken_7 : decode b_TD_isAnyBlockTaken 7 = .ok (.arraylength, 1) := by decide +kernel
theorem d_TD_isAnyBlockTaken_8 : decode b_TD_isAnyBlockTaken 8 = .ok (.if_icmp .ge 22, 3) := by decide +kernel
theorem d_TD_isAnyBlockTaken_11 : decode b_TD_isAnyBlockTaken 11 = .ok (.aload_n 0, 1) := by decide +kernel
theorem d_TD_isAnyBlockTaken_12 : decode b_TD_isAnyBlockTaken 12 = .ok (.iload_n 1, 1) := by decide +kernel
theorem d_TD_isAnyBlockTaken_13 : decode b_TD_isAnyBlockTaken 13 = .ok (.invokevirtual 78, 3) := by decide +kernel
theorem d_TD_isAnyBlockTaken_16 : decode b_TD_isAnyBlockTaken 16 = .ok (.getfield 227, 3) := by decide +kernel
theorem d_TD_isAnyBlockTaken_19 : decode b_TD_isAnyBlockTaken 19 = .ok (.ifCond .le 5, 3) := by decide +kernel
theorem d_TD_isAnyBlockTaken_22 : decode b_TD_isAnyBlockTaken 22 = .ok (.iconst 1, 1) := by decide +kernel
theorem d_TD_isAnyBlockTaken_23 : decode b_TD_isAnyBlockTaken 23 = .ok (.ireturn, 1) := by decide +kernel
theorem d_TD_isAnyBlockTaken_24 : decode b_TD_isAnyBlockTaken 24 = .ok (.iinc 1 1, 3) := by decide +kernel
theorem d_TD_isAnyBlockTaken_27 : decode b_TD_isAnyBlockTaken 27 = .ok (.goto (-25), 3) := by decide +kernel
theorem d_TD_isAnyBlockTaken_30 : decode b_TD_isAnyBlockTaken 30 = .ok (.iconst 0, 1) := by decide +kernel
theorem d_TD_isAnyBlockTaken_31 : decode b_TD_isAnyBlockTaken 31 = .ok (.ireturn, 1) := by decide +kernel
theorem d_TD_siteAt_0 : decode b_TD_siteAt 0 = .ok (.iload_n 1, 1) := by decide +kernel
theorem d_TD_siteAt_1 : decode b_TD_siteAt 1 = .ok (.ifCond .lt 21, 3) := by decide +kernel
theorem d_TD_siteAt_4 : decode b_TD_siteAt 4 = .ok (.iload_n 1, 1) := by decide +kernel
theorem d_TD_siteAt_5 : decode b_TD_siteAt 5 = .ok (.aload_n 0, 1) := by decide +kernel
theorem d_TD_siteAt_6 : decode b_TD_siteAt 6 = .ok (.getfield 32, 3) := by decide +kernel
theorem d_TD_siteAt_9 : decode b_TD_siteAt 9 = .ok (.arraylength, 1) := by decide +kernel
theorem d_TD_siteAt_10 : decode b_TD_siteAt 10 = .ok (.if_icmp .ge 12, 3) := by decide +kernel
theorem d_TD_siteAt_13 : decode b_TD_siteAt 13 = .ok (.aload_n 0, 1) := by decide +kernel
theorem d_TD_siteAt_14 : decode b_TD_siteAt 14 = .ok (.getfield 32, 3) := by decide +kernel
theorem d_TD_siteAt_17 : decode b_TD_siteAt 17 = .ok (.iload_n 1, 1) := by decide +kernel
theorem d_TD_siteAt_18 : decode b_TD_siteAt 18 = .ok (.aaload, 1) := by decide +kernel
theorem d_TD_siteAt_19 : decode b_TD_siteAt 19 = .ok (.ifnonnull 11, 3) := by decide +kernel
theorem d_TD_siteAt_22 : decode b_TD_siteAt 22 = .ok (.new 86, 3) := by decide +kernel
theorem d_TD_siteAt_25 : decode b_TD_siteAt 25 = .ok (.dup, 1) := by decide +kernel
theorem d_TD_siteAt_26 : decode b_TD_siteAt 26 = .ok (.invokespecial 88, 3) := by decide +kernel
theorem d_TD_siteAt_29 : decode b_TD_siteAt 29 = .ok (.athrow, 1) := by decide +kernel
theorem d_TD_siteAt_30 : decode b_TD_siteAt 30 = .ok (.aload_n 0, 1) := by decide +kernel
theorem d_TD_siteAt_31 : decode b_TD_siteAt 31 = .ok (.getfield 32, 3) := by decide +kernel
theorem d_TD_siteAt_34 : decode b_TD_siteAt 34 = .ok (.iload_n 1, 1) := by decide +kernel
theorem d_TD_siteAt_35 : decode b_TD_siteAt 35 = .ok (.aaload, 1) := by decide +kernel
theorem d_TD_siteAt_36 : decode b_TD_siteAt 36 = .ok (.areturn, 1) := by decide +kernel
theorem d_TD_stratumAt_0 : decode b_TD_stratumAt 0 = .ok (.iload_n 1, 1) := by decide +kernel
theorem d_TD_stratumAt_1 : decode b_TD_stratumAt 1 = .ok (.ifCond .lt 21, 3) := by decide +kernel
theorem d_TD_stratumAt_4 : decode b_TD_stratumAt 4 = .ok (.iload_n 1, 1) := by decide +kernel
theorem d_TD_stratumAt_5 : decode b_TD_stratumAt 5 = .ok (.aload_n 0, 1) := by decide +kernel
theorem d_TD_stratumAt_6 : decode b_TD_stratumAt 6 = .ok (.getfield 38, 3) := by decide +kernel
theorem d_TD_stratumAt_9 : decode b_TD_stratumAt 9 = .ok (.arraylength, 1) := by decide +kernel
theorem d_TD_stratumAt_10 : decode b_TD_stratumAt 10 = .ok (.if_icmp .ge 12, 3) := by decide +kernel
theorem d_TD_stratumAt_13 : decode b_TD_stratumAt 13 = .ok (.aload_n 0, 1) := by decide +kernel
theorem d_TD_stratumAt_14 : decode b_TD_stratumAt 14 = .ok (.getfield 38, 3) := by decide +kernel
theorem d_TD_stratumAt_17 : decode b_TD_stratumAt 17 = .ok (.iload_n 1, 1) := by decide +kernel
theorem d_TD_stratumAt_18 : decode b_TD_stratumAt 18 = .ok (.aaload, 1) := by decide +kernel
theorem d_TD_stratumAt_19 : decode b_TD_stratumAt 19 = .ok (.ifnonnull 11, 3) := by decide +kernel
theorem d_TD_stratumAt_22 : decode b_TD_stratumAt 22 = .ok (.new 86, 3) := by decide +kernel
theorem d_TD_stratumAt_25 : decode b_TD_stratumAt 25 = .ok (.dup, 1) := by decide +kernel
theorem d_TD_stratumAt_26 : decode b_TD_stratumAt 26 = .ok (.invokespecial 88, 3) := by decide +kernel
theorem d_TD_stratumAt_29 : decode b_TD_stratumAt 29 = .ok (.athrow, 1) := by decide +kernel
theorem d_TD_stratumAt_30 : decode b_TD_stratumAt 30 = .ok (.aload_n 0, 1) := by decide +kernel
theorem d_TD_stratumAt_31 : decode b_TD_stratumAt 31 = .ok (.getfield 38, 3) := by decide +kernel
theorem d_TD_stratumAt_34 : decode b_TD_stratumAt 34 = .ok (.iload_n 1, 1) := by decide +kernel
theorem d_TD_stratumAt_35 : decode b_TD_stratumAt 35 = .ok (.aaload, 1) := by decide +kernel
theorem d_TD_stratumAt_36 : decode b_TD_stratumAt 36 = .ok (.areturn, 1) := by decide +kernel
theorem d_TD_needArm_0 : decode b_TD_needArm 0 = .ok (.aload_n 0, 1) := by decide +kernel
theorem d_TD_needArm_1 : decode b_TD_needArm 1 = .ok (.getfield 10, 3) := by decide +kernel
theorem d_TD_needArm_4 : decode b_TD_needArm 4 = .ok (.getfield 245, 3) := by decide +kernel
theorem d_TD_needArm_7 : decode b_TD_needArm 7 = .ok (.ifCond .ne 7, 3) := by decide +kernel
theorem d_TD_needArm_10 : decode b_TD_needArm 10 = .ok (.iconst 4, 1) := by decide +kernel
theorem d_TD_needArm_11 : decode b_TD_needArm 11 = .ok (.goto 10, 3) := by decide +kernel
theorem d_TD_needArm_14 : decode b_TD_needArm 14 = .ok (.aload_n 0, 1) := by decide +kernel
theorem d_TD_needArm_15 : decode b_TD_needArm 15 = .ok (.getfield 10, 3) := by decide +kernel
theorem d_TD_needArm_18 : decode b_TD_needArm 18 = .ok (.getfield 245, 3) := by decide +kernel
theorem d_TD_needArm_21 : decode b_TD_needArm 21 = .ok (.istore_n 2, 1) := by decide +kernel
theorem d_TD_needArm_22 : decode b_TD_needArm 22 = .ok (.iload_n 1, 1) := by decide +kernel
theorem d_TD_needArm_23 : decode b_TD_needArm 23 = .ok (.ifCond .lt 8, 3) := by decide +kernel
theorem d_TD_needArm_26 : decode b_TD_needArm 26 = .ok (.iload_n 1, 1) := by decide +kernel
theorem d_TD_needArm_27 : decode b_TD_needArm 27 = .ok (.iload_n 2, 1) := by decide +kernel
theorem d_TD_needArm_28 : decode b_TD_needArm 28 = .ok (.if_icmp .lt 11, 3) := by decide +kernel
theorem d_TD_needArm_31 : decode b_TD_needArm 31 = .ok (.new 86, 3) := by decide +kernel
theorem d_TD_needArm_34 : decode b_TD_needArm 34 = .ok (.dup, 1) := by decide +kernel
theorem d_TD_needArm_35 : decode b_TD_needArm 35 = .ok (.invokespecial 88, 3) := by decide +kernel
theorem d_TD_needArm_38 : decode b_TD_needArm 38 = .ok (.athrow, 1) := by decide +kernel
theorem d_TD_needArm_39 : decode b_TD_needArm 39 = .ok (.return_, 1) := by decide +kernel
theorem d_TD_needKit_0 : decode b_TD_needKit 0 = .ok (.iload_n 0, 1) := by decide +kernel
theorem d_TD_needKit_1 : decode b_TD_needKit 1 = .ok (.ifCond .lt 10, 3) := by decide +kernel
theorem d_TD_needKit_4 : decode b_TD_needKit 4 = .ok (.iload_n 0, 1) := by decide +kernel
theorem d_TD_needKit_5 : decode b_TD_needKit 5 = .ok (.sipush 1000, 3) := by decide +kernel
theorem d_TD_needKit_8 : decode b_TD_needKit 8 = .ok (.if_icmp .lt 11, 3) := by decide +kernel
theorem d_TD_needKit_11 : decode b_TD_needKit 11 = .ok (.new 86, 3) := by decide +kernel
theorem d_TD_needKit_14 : decode b_TD_needKit 14 = .ok (.dup, 1) := by decide +kernel
theorem d_TD_needKit_15 : decode b_TD_needKit 15 = .ok (.invokespecial 88, 3) := by decide +kernel
theorem d_TD_needKit_18 : decode b_TD_needKit 18 = .ok (.athrow, 1) := by decide +kernel
theorem d_TD_needKit_19 : decode b_TD_needKit 19 = .ok (.return_, 1) := by decide +kernel
theorem d_TD_needPerson_0 : decode b_TD_needPerson 0 = .ok (.iload_n 0, 1) := by decide +kernel
theorem d_TD_needPerson_1 : decode b_TD_needPerson 1 = .ok (.ifCond .lt 9, 3) := by decide +kernel
theorem d_TD_needPerson_4 : decode b_TD_needPerson 4 = .ok (.iload_n 0, 1) := by decide +kernel
theorem d_TD_needPerson_5 : decode b_TD_needPerson 5 = .ok (.bipush 100, 2) := by decide +kernel
theorem d_TD_needPerson_7 : decode b_TD_needPerson 7 = .ok (.if_icmp .lt 11, 3) := by decide +kernel
theorem d_TD_needPerson_10 : decode b_TD_needPerson 10 = .ok (.new 86, 3) := by decide +kernel
theorem d_TD_needPerson_13 : decode b_TD_needPerson 13 = .ok (.dup, 1) := by decide +kernel
theorem d_TD_needPerson_14 : decode b_TD_needPerson 14 = .ok (.invokespecial 88, 3) := by decide +kernel
theorem d_TD_needPerson_17 : decode b_TD_needPerson 17 = .ok (.athrow, 1) := by decide +kernel
theorem d_TD_needPerson_18 : decode b_TD_needPerson 18 = .ok (.return_, 1) := by decide +kernel
theorem d_TD_needHolder_0 : decode b_TD_needHolder 0 = .ok (.iload_n 0, 1) := by decide +kernel
theorem d_TD_needHolder_1 : decode b_TD_needHolder 1 = .ok (.ifCond .lt 8, 3) := by decide +kernel
theorem d_TD_needHolder_4 : decode b_TD_needHolder 4 = .ok (.iload_n 0, 1) := by decide +kernel
theorem d_TD_needHolder_5 : decode b_TD_needHolder 5 = .ok (.iconst 5, 1) := by decide +kernel
theorem d_TD_needHolder_6 : decode b_TD_needHolder 6 = .ok (.if_icmp .lt 11, 3) := by decide +kernel
theorem d_TD_needHolder_9 : decode b_TD_needHolder 9 = .ok (.new 86, 3) := by decide +kernel
theorem d_TD_needHolder_12 : decode b_TD_needHolder 12 = .ok (.dup, 1) := by decide +kernel
theorem d_TD_needHolder_13 : decode b_TD_needHolder 13 = .ok (.invokespecial 88, 3) := by decide +kernel
theorem d_TD_needHolder_16 : decode b_TD_needHolder 16 = .ok (.athrow, 1) := by decide +kernel
theorem d_TD_needHolder_17 : decode b_TD_needHolder 17 = .ok (.return_, 1) := by decide +kernel
theorem d_TD_needPlan_0 : decode b_TD_needPlan 0 = .ok (.aload_n 0, 1) := by decide +kernel
theorem d_TD_needPlan_1 : decode b_TD_needPlan 1 = .ok (.getfield 10, 3) := by decide +kernel
theorem d_TD_needPlan_4 : decode b_TD_needPlan 4 = .ok (.getfield 245, 3) := by decide +kernel
theorem d_TD_needPlan_7 : decode b_TD_needPlan 7 = .ok (.ifCond .ne 11, 3) := by decide +kernel
theorem d_TD_needPlan_10 : decode b_TD_needPlan 10 = .ok (.new 64, 3) := by decide +kernel
theorem d_TD_needPlan_13 : decode b_TD_needPlan 13 = .ok (.dup, 1) := by decide +kernel
theorem d_TD_needPlan_14 : decode b_TD_needPlan 14 = .ok (.invokespecial 66, 3) := by decide +kernel
theorem d_TD_needPlan_17 : decode b_TD_needPlan 17 = .ok (.athrow, 1) := by decide +kernel
theorem d_TD_needPlan_18 : decode b_TD_needPlan 18 = .ok (.return_, 1) := by decide +kernel
theorem d_TD_pickKits_0 : decode b_TD_pickKits 0 = .ok (.aload_n 2, 1) := by decide +kernel
theorem d_TD_pickKits_1 : decode b_TD_pickKits 1 = .ok (.iconst 0, 1) := by decide +kernel
theorem d_TD_pickKits_2 : decode b_TD_pickKits 2 = .ok (.invokevirtual 248, 3) := by decide +kernel
theorem d_TD_pickKits_5 : decode b_TD_pickKits 5 = .ok (.iconst (-1), 1) := by decide +kernel
theorem d_TD_pickKits_6 : decode b_TD_pickKits 6 = .ok (.if_icmp .ne 5, 3) := by decide +kernel
theorem d_TD_pickKits_9 : decode b_TD_pickKits 9 = .ok (.iconst 0, 1) := by decide +kernel
theorem d_TD_pickKits_10 : decode b_TD_pickKits 10 = .ok (.ireturn, 1) := by decide +kernel
theorem d_TD_pickKits_11 : decode b_TD_pickKits 11 = .ok (.iconst 0, 1) := by decide +kernel
theorem d_TD_pickKits_12 : decode b_TD_pickKits 12 = .ok (.istore_n 3, 1) := by decide +kernel
theorem d_TD_pickKits_13 : decode b_TD_pickKits 13 = .ok (.iload_n 3, 1) := by decide +kernel
theorem d_TD_pickKits_14 : decode b_TD_pickKits 14 = .ok (.aload_n 0, 1) := by decide +kernel
theorem d_TD_pickKits_15 : decode b_TD_pickKits 15 = .ok (.getfield 10, 3) := by decide +kernel
theorem d_TD_pickKits_18 : decode b_TD_pickKits 18 = .ok (.getfield 245, 3) := by decide +kernel
theorem d_TD_pickKits_21 : decode b_TD_pickKits 21 = .ok (.if_icmp .ge 85, 3) := by decide +kernel
theorem d_TD_pickKits_24 : decode b_TD_pickKits 24 = .ok (.iconst (-1), 1) := by decide +kernel
theorem d_TD_pickKits_25 : decode b_TD_pickKits 25 = .ok (.istore 4, 2) := by decide +kernel
theorem d_TD_pickKits_27 : decode b_TD_pickKits 27 = .ok (.iconst 0, 1) := by decide +kernel
theorem d_TD_pickKits_28 : decode b_TD_pickKits 28 = .ok (.istore 5, 2) := by decide +kernel
theorem d_TD_pickKits_30 : decode b_TD_pickKits 30 = .ok (.iload 5, 2) := by decide +kernel
theorem d_TD_pickKits_32 : decode b_TD_pickKits 32 = .ok (.aload_n 0, 1) := by decide +kernel
theorem d_TD_pickKits_33 : decode b_TD_pickKits 33 = .ok (.getfield 10, 3) := by decide +kernel
theorem d_TD_pickKits_36 : decode b_TD_pickKits 36 = .ok (.getfield 167, 3) := by decide +kernel
theorem d_TD_pickKits_39 : decode b_TD_pickKits 39 = .ok (.if_icmp .ge 61, 3) := by decide +kernel
theorem d_TD_pickKits_42 : decode b_TD_pickKits 42 = .ok (.iload 5, 2) := by decide +kernel
theorem d_TD_pickKits_44 : decode b_TD_pickKits 44 = .ok (.aload_n 0, 1) := by decide +kernel
theorem d_TD_pickKits_45 : decode b_TD_pickKits 45 = .ok (.getfield 42, 3) := by decide +kernel
theorem d_TD_pickKits_48 : decode b_TD_pickKits 48 = .ok (.arraylength, 1) := by decide +kernel
theorem d_TD_pickKits_49 : decode b_TD_pickKits 49 = .ok (.if_icmp .ge 51, 3) := by decide +kernel
theorem d_TD_pickKits_52 : decode b_TD_pickKits 52 = .ok (.aload_n 2, 1) := by decide +kernel
theorem d_TD_pickKits_53 : decode b_TD_pickKits 53 = .ok (.iload 5, 2) := by decide +kernel
theorem d_TD_pickKits_55 : decode b_TD_pickKits 55 = .ok (.invokevirtual 248, 3) := by decide +kernel
theorem d_TD_pickKits_58 : decode b_TD_pickKits 58 = .ok (.iload_n 3, 1) := by decide +kernel
theorem d_TD_pickKits_59 : decode b_TD_pickKits 59 = .ok (.if_icmp .ne 35, 3) := by decide +kernel
theorem d_TD_pickKits_62 : decode b_TD_pickKits 62 = .ok (.aload_n 0, 1) := by decide +kernel
theorem d_TD_pickKits_63 : decode b_TD_pickKits 63 = .ok (.getfield 26, 3) := by decide +kernel
theorem d_TD_pickKits_66 : decode b_TD_pickKits 66 = .ok (.iload_n 1, 1) := by decide +kernel
theorem d_TD_pickKits_67 : decode b_TD_pickKits 67 = .ok (.iload_n 3, 1) := by decide +kernel
theorem d_TD_pickKits_68 : decode b_TD_pickKits 68 = .ok (.iload 4, 2) := by decide +kernel
theorem d_TD_pickKits_70 : decode b_TD_pickKits 70 = .ok (.iconst 1, 1) := by decide +kernel
theorem d_TD_pickKits_71 : decode b_TD_pickKits 71 = .ok (.iadd, 1) := by decide +kernel
theorem d_TD_pickKits_72 : decode b_TD_pickKits 72 = .ok (.invokevirtual 137, 3) := by decide +kernel
theorem d_TD_pickKits_75 : decode b_TD_pickKits 75 = .ok (.istore 4, 2) := by decide +kernel
theorem d_TD_pickKits_77 : decode b_TD_pickKits 77 = .ok (.iload 4, 2) := by decide +kernel
theorem d_TD_pickKits_79 : decode b_TD_pickKits 79 = .ok (.iconst (-1), 1) := by decide +kernel
theorem d_TD_pickKits_80 : decode b_TD_pickKits 80 = .ok (.if_icmp .ne 5, 3) := by decide +kernel
theorem d_TD_pickKits_83 : decode b_TD_pickKits 83 = .ok (.iconst 0, 1) := by decide +kernel
theorem d_TD_pickKits_84 : decode b_TD_pickKits 84 = .ok (.ireturn, 1) := by decide +kernel
theorem d_TD_pickKits_85 : decode b_TD_pickKits 85 = .ok (.aload_n 0, 1) := by decide +kernel
theorem d_TD_pickKits_86 : decode b_TD_pickKits 86 = .ok (.getfield 42, 3) := by decide +kernel
theorem d_TD_pickKits_89 : decode b_TD_pickKits 89 = .ok (.iload 5, 2) := by decide +kernel
theorem d_TD_pickKits_91 : decode b_TD_pickKits 91 = .ok (.iload 4, 2) := by decide +kernel
theorem d_TD_pickKits_93 : decode b_TD_pickKits 93 = .ok (.iastore, 1) := by decide +kernel
theorem d_TD_pickKits_94 : decode b_TD_pickKits 94 = .ok (.iinc 5 1, 3) := by decide +kernel
theorem d_TD_pickKits_97 : decode b_TD_pickKits 97 = .ok (.goto (-67), 3) := by decide +kernel
theorem d_TD_pickKits_100 : decode b_TD_pickKits 100 = .ok (.iinc 3 1, 3) := by decide +kernel
theorem d_TD_pickKits_103 : decode b_TD_pickKits 103 = .ok (.goto (-90), 3) := by decide +kernel
theorem d_TD_pickKits_106 : decode b_TD_pickKits 106 = .ok (.iconst 1, 1) := by decide +kernel
theorem d_TD_pickKits_107 : decode b_TD_pickKits 107 = .ok (.ireturn, 1) := by decide +kernel
