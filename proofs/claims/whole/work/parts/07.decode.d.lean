theorem d_La_arms_0 : decode b_La_arms 0 = .ok (.aload_n 0, 1) := by decide +kernel
theorem d_La_arms_1 : decode b_La_arms 1 = .ok (.iload_n 1, 1) := by decide +kernel
theorem d_La_arms_2 : decode b_La_arms 2 = .ok (.iload_n 2, 1) := by decide +kernel
theorem d_La_arms_3 : decode b_La_arms 3 = .ok (.iload_n 3, 1) := by decide +kernel
theorem d_La_arms_4 : decode b_La_arms 4 = .ok (.iload 4, 2) := by decide +kernel
theorem d_La_arms_6 : decode b_La_arms 6 = .ok (.iload 5, 2) := by decide +kernel
theorem d_La_arms_8 : decode b_La_arms 8 = .ok (.lload 6, 2) := by decide +kernel
theorem d_La_arms_10 : decode b_La_arms 10 = .ok (.invokevirtual 7, 3) := by decide +kernel
theorem d_La_arms_13 : decode b_La_arms 13 = .ok (.goto 11, 3) := by decide +kernel
theorem d_La_arms_16 : decode b_La_arms 16 = .ok (.astore 8, 2) := by decide +kernel
theorem d_La_arms_18 : decode b_La_arms 18 = .ok (.iconst 1, 1) := by decide +kernel
theorem d_La_arms_19 : decode b_La_arms 19 = .ok (.ireturn, 1) := by decide +kernel
theorem d_La_arms_20 : decode b_La_arms 20 = .ok (.astore 8, 2) := by decide +kernel
theorem d_La_arms_22 : decode b_La_arms 22 = .ok (.iconst 2, 1) := by decide +kernel
theorem d_La_arms_23 : decode b_La_arms 23 = .ok (.ireturn, 1) := by decide +kernel
theorem d_La_arms_24 : decode b_La_arms 24 = .ok (.iconst 0, 1) := by decide +kernel
theorem d_La_arms_25 : decode b_La_arms 25 = .ok (.ireturn, 1) := by decide +kernel
theorem d_La_site_0 : decode b_La_site 0 = .ok (.aload_n 2, 1) := by decide +kernel
theorem d_La_site_1 : decode b_La_site 1 = .ok (.iconst 0, 1) := by decide +kernel
theorem d_La_site_2 : decode b_La_site 2 = .ok (.aload_n 0, 1) := by decide +kernel
theorem d_La_site_3 : decode b_La_site 3 = .ok (.iload_n 1, 1) := by decide +kernel
theorem d_La_site_4 : decode b_La_site 4 = .ok (.invokevirtual 17, 3) := by decide +kernel
theorem d_La_site_7 : decode b_La_site 7 = .ok (.i2l, 1) := by decide +kernel
theorem d_La_site_8 : decode b_La_site 8 = .ok (.lastore, 1) := by decide +kernel
theorem d_La_site_9 : decode b_La_site 9 = .ok (.goto 9, 3) := by decide +kernel
theorem d_La_site_12 : decode b_La_site 12 = .ok (.astore_n 3, 1) := by decide +kernel
theorem d_La_site_13 : decode b_La_site 13 = .ok (.iconst 1, 1) := by decide +kernel
theorem d_La_site_14 : decode b_La_site 14 = .ok (.ireturn, 1) := by decide +kernel
theorem d_La_site_15 : decode b_La_site 15 = .ok (.astore_n 3, 1) := by decide +kernel
theorem d_La_site_16 : decode b_La_site 16 = .ok (.iconst 2, 1) := by decide +kernel
theorem d_La_site_17 : decode b_La_site 17 = .ok (.ireturn, 1) := by decide +kernel
theorem d_La_site_18 : decode b_La_site 18 = .ok (.iconst 0, 1) := by decide +kernel
theorem d_La_site_19 : decode b_La_site 19 = .ok (.ireturn, 1) := by decide +kernel
theorem d_La_kits_0 : decode b_La_kits 0 = .ok (.aload 5, 2) := by decide +kernel
theorem d_La_kits_2 : decode b_La_kits 2 = .ok (.iconst 0, 1) := by decide +kernel
theorem d_La_kits_3 : decode b_La_kits 3 = .ok (.aload_n 0, 1) := by decide +kernel
theorem d_La_kits_4 : decode b_La_kits 4 = .ok (.iload_n 1, 1) := by decide +kernel
theorem d_La_kits_5 : decode b_La_kits 5 = .ok (.iload_n 2, 1) := by decide +kernel
theorem d_La_kits_6 : decode b_La_kits 6 = .ok (.iload_n 3, 1) := by decide +kernel
theorem d_La_kits_7 : decode b_La_kits 7 = .ok (.iload 4, 2) := by decide +kernel
theorem d_La_kits_9 : decode b_La_kits 9 = .ok (.invokevirtual 23, 3) := by decide +kernel
theorem d_La_kits_12 : decode b_La_kits 12 = .ok (.i2l, 1) := by decide +kernel
theorem d_La_kits_13 : decode b_La_kits 13 = .ok (.lastore, 1) := by decide +kernel
theorem d_La_kits_14 : decode b_La_kits 14 = .ok (.goto 15, 3) := by decide +kernel
theorem d_La_kits_17 : decode b_La_kits 17 = .ok (.astore 6, 2) := by decide +kernel
theorem d_La_kits_19 : decode b_La_kits 19 = .ok (.iconst 1, 1) := by decide +kernel
theorem d_La_kits_20 : decode b_La_kits 20 = .ok (.ireturn, 1) := by decide +kernel
theorem d_La_kits_21 : decode b_La_kits 21 = .ok (.astore 6, 2) := by decide +kernel
theorem d_La_kits_23 : decode b_La_kits 23 = .ok (.iconst 2, 1) := by decide +kernel
theorem d_La_kits_24 : decode b_La_kits 24 = .ok (.ireturn, 1) := by decide +kernel
theorem d_La_kits_25 : decode b_La_kits 25 = .ok (.astore 6, 2) := by decide +kernel
theorem d_La_kits_27 : decode b_La_kits 27 = .ok (.iconst 3, 1) := by decide +kernel
theorem d_La_kits_28 : decode b_La_kits 28 = .ok (.ireturn, 1) := by decide +kernel
theorem d_La_kits_29 : decode b_La_kits 29 = .ok (.iconst 0, 1) := by decide +kernel
theorem d_La_kits_30 : decode b_La_kits 30 = .ok (.ireturn, 1) := by decide +kernel
theorem d_La_allot_0 : decode b_La_allot 0 = .ok (.aload 4, 2) := by decide +kernel
theorem d_La_allot_2 : decode b_La_allot 2 = .ok (.iconst 0, 1) := by decide +kernel
theorem d_La_allot_3 : decode b_La_allot 3 = .ok (.aload_n 0, 1) := by decide +kernel
theorem d_La_allot_4 : decode b_La_allot 4 = .ok (.iload_n 1, 1) := by decide +kernel
theorem d_La_allot_5 : decode b_La_allot 5 = .ok (.iload_n 2, 1) := by decide +kernel
theorem d_La_allot_6 : decode b_La_allot 6 = .ok (.iload_n 3, 1) := by decide +kernel
theorem d_La_allot_7 : decode b_La_allot 7 = .ok (.invokevirtual 27, 3) := by decide +kernel
theorem d_La_allot_10 : decode b_La_allot 10 = .ok (.i2l, 1) := by decide +kernel
theorem d_La_allot_11 : decode b_La_allot 11 = .ok (.lastore, 1) := by decide +kernel
theorem d_La_allot_12 : decode b_La_allot 12 = .ok (.goto 11, 3) := by decide +kernel
theorem d_La_allot_15 : decode b_La_allot 15 = .ok (.astore 5, 2) := by decide +kernel
theorem d_La_allot_17 : decode b_La_allot 17 = .ok (.iconst 1, 1) := by decide +kernel
theorem d_La_allot_18 : decode b_La_allot 18 = .ok (.ireturn, 1) := by decide +kernel
theorem d_La_allot_19 : decode b_La_allot 19 = .ok (.astore 5, 2) := by decide +kernel
theorem d_La_allot_21 : decode b_La_allot 21 = .ok (.iconst 2, 1) := by decide +kernel
theorem d_La_allot_22 : decode b_La_allot 22 = .ok (.ireturn, 1) := by decide +kernel
theorem d_La_allot_23 : decode b_La_allot 23 = .ok (.iconst 0, 1) := by decide +kernel
theorem d_La_allot_24 : decode b_La_allot 24 = .ok (.ireturn, 1) := by decide +kernel
theorem d_La_reserve_0 : decode b_La_reserve 0 = .ok (.aload_n 3, 1) := by decide +kernel
theorem d_La_reserve_1 : decode b_La_reserve 1 = .ok (.iconst 0, 1) := by decide +kernel
theorem d_La_reserve_2 : decode b_La_reserve 2 = .ok (.aload_n 0, 1) := by decide +kernel
theorem d_La_reserve_3 : decode b_La_reserve 3 = .ok (.iload_n 1, 1) := by decide +kernel
theorem d_La_reserve_4 : decode b_La_reserve 4 = .ok (.iload_n 2, 1) := by decide +kernel
theorem d_La_reserve_5 : decode b_La_reserve 5 = .ok (.invokevirtual 31, 3) := by decide +kernel
theorem d_La_reserve_8 : decode b_La_reserve 8 = .ok (.i2l, 1) := by decide +kernel
theorem d_La_reserve_9 : decode b_La_reserve 9 = .ok (.lastore, 1) := by decide +kernel
theorem d_La_reserve_10 : decode b_La_reserve 10 = .ok (.goto 11, 3) := by decide +kernel
theorem d_La_reserve_13 : decode b_La_reserve 13 = .ok (.astore 4, 2) := by decide +kernel
theorem d_La_reserve_15 : decode b_La_reserve 15 = .ok (.iconst 1, 1) := by decide +kernel
theorem d_La_reserve_16 : decode b_La_reserve 16 = .ok (.ireturn, 1) := by decide +kernel
theorem d_La_reserve_17 : decode b_La_reserve 17 = .ok (.astore 4, 2) := by decide +kernel
theorem d_La_reserve_19 : decode b_La_reserve 19 = .ok (.iconst 2, 1) := by decide +kernel
theorem d_La_reserve_20 : decode b_La_reserve 20 = .ok (.ireturn, 1) := by decide +kernel
theorem d_La_reserve_21 : decode b_La_reserve 21 = .ok (.iconst 0, 1) := by decide +kernel
theorem d_La_reserve_22 : decode b_La_reserve 22 = .ok (.ireturn, 1) := by decide +kernel
theorem d_La_offline_0 : decode b_La_offline 0 = .ok (.aload 4, 2) := by decide +kernel
theorem d_La_offline_2 : decode b_La_offline 2 = .ok (.iconst 0, 1) := by decide +kernel
theorem d_La_offline_3 : decode b_La_offline 3 = .ok (.aload_n 0, 1) := by decide +kernel
theorem d_La_offline_4 : decode b_La_offline 4 = .ok (.iload_n 1, 1) := by decide +kernel
theorem d_La_offline_5 : decode b_La_offline 5 = .ok (.iload_n 2, 1) := by decide +kernel
theorem d_La_offline_6 : decode b_La_offline 6 = .ok (.iload_n 3, 1) := by decide +kernel
theorem d_La_offline_7 : decode b_La_offline 7 = .ok (.invokevirtual 35, 3) := by decide +kernel
theorem d_La_offline_10 : decode b_La_offline 10 = .ok (.i2l, 1) := by decide +kernel
theorem d_La_offline_11 : decode b_La_offline 11 = .ok (.lastore, 1) := by decide +kernel
theorem d_La_offline_12 : decode b_La_offline 12 = .ok (.goto 11, 3) := by decide +kernel
theorem d_La_offline_15 : decode b_La_offline 15 = .ok (.astore 5, 2) := by decide +kernel
theorem d_La_offline_17 : decode b_La_offline 17 = .ok (.iconst 1, 1) := by decide +kernel
theorem d_La_offline_18 : decode b_La_offline 18 = .ok (.ireturn, 1) := by decide +kernel
theorem d_La_offline_19 : decode b_La_offline 19 = .ok (.astore 5, 2) := by decide +kernel
theorem d_La_offline_21 : decode b_La_offline 21 = .ok (.iconst 2, 1) := by decide +kernel
theorem d_La_offline_22 : decode b_La_offline 22 = .ok (.ireturn, 1) := by decide +kernel
theorem d_La_offline_23 : decode b_La_offline 23 = .ok (.iconst 0, 1) := by decide +kernel
theorem d_La_offline_24 : decode b_La_offline 24 = .ok (.ireturn, 1) := by decide +kernel
theorem d_La_report_0 : decode b_La_report 0 = .ok (.aload_n 2, 1) := by decide +kernel
theorem d_La_report_1 : decode b_La_report 1 = .ok (.iconst 0, 1) := by decide +kernel
theorem d_La_report_2 : decode b_La_report 2 = .ok (.aload_n 0, 1) := by decide +kernel
theorem d_La_report_3 : decode b_La_report 3 = .ok (.iload_n 1, 1) := by decide +kernel
theorem d_La_report_4 : decode b_La_report 4 = .ok (.invokevirtual 38, 3) := by decide +kernel
theorem d_La_report_7 : decode b_La_report 7 = .ok (.i2l, 1) := by decide +kernel
theorem d_La_report_8 : decode b_La_report 8 = .ok (.lastore, 1) := by decide +kernel
theorem d_La_report_9 : decode b_La_report 9 = .ok (.goto 6, 3) := by decide +kernel
theorem d_La_report_12 : decode b_La_report 12 = .ok (.astore_n 3, 1) := by decide +kernel
theorem d_La_report_13 : decode b_La_report 13 = .ok (.iconst 1, 1) := by decide +kernel
theorem d_La_report_14 : decode b_La_report 14 = .ok (.ireturn, 1) := by decide +kernel
theorem d_La_report_15 : decode b_La_report 15 = .ok (.iconst 0, 1) := by decide +kernel
theorem d_La_report_16 : decode b_La_report 16 = .ok (.ireturn, 1) := by decide +kernel
theorem d_La_close_0 : decode b_La_close 0 = .ok (.aload_n 2, 1) := by decide +kernel
theorem d_La_close_1 : decode b_La_close 1 = .ok (.iconst 0, 1) := by decide +kernel
theorem d_La_close_2 : decode b_La_close 2 = .ok (.aload_n 0, 1) := by decide +kernel
theorem d_La_close_3 : decode b_La_close 3 = .ok (.iload_n 1, 1) := by decide +kernel
theorem d_La_close_4 : decode b_La_close 4 = .ok (.invokevirtual 41, 3) := by decide +kernel
theorem d_La_close_7 : decode b_La_close 7 = .ok (.i2l, 1) := by decide +kernel
theorem d_La_close_8 : decode b_La_close 8 = .ok (.lastore, 1) := by decide +kernel
theorem d_La_close_9 : decode b_La_close 9 = .ok (.goto 6, 3) := by decide +kernel
theorem d_La_close_12 : decode b_La_close 12 = .ok (.astore_n 3, 1) := by decide +kernel
theorem d_La_close_13 : decode b_La_close 13 = .ok (.iconst 1, 1) := by decide +kernel
theorem d_La_close_14 : decode b_La_close 14 = .ok (.ireturn, 1) := by decide +kernel
theorem d_La_close_15 : decode b_La_close 15 = .ok (.iconst 0, 1) := by decide +kernel
theorem d_La_close_16 : decode b_La_close 16 = .ok (.ireturn, 1) := by decide +kernel
theorem d_La_key_0 : decode b_La_key 0 = .ok (.aload 4, 2) := by decide +kernel
theorem d_La_key_2 : decode b_La_key 2 = .ok (.iconst 0, 1) := by decide +kernel
theorem d_La_key_3 : decode b_La_key 3 = .ok (.aload_n 0, 1) := by decide +kernel
theorem d_La_key_4 : decode b_La_key 4 = .ok (.iload_n 1, 1) := by decide +kernel
theorem d_La_key_5 : decode b_La_key 5 = .ok (.iload_n 2, 1) := by decide +kernel
theorem d_La_key_6 : decode b_La_key 6 = .ok (.iload_n 3, 1) := by decide +kernel
theorem d_La_key_7 : decode b_La_key 7 = .ok (.invokevirtual 44, 3) := by decide +kernel
theorem d_La_key_10 : decode b_La_key 10 = .ok (.i2l, 1) := by decide +kernel
theorem d_La_key_11 : decode b_La_key 11 = .ok (.lastore, 1) := by decide +kernel
theorem d_La_key_12 : decode b_La_key 12 = .ok (.goto 7, 3) := by decide +kernel
theorem d_La_key_15 : decode b_La_key 15 = .ok (.astore 5, 2) := by decide +kernel
theorem d_La_key_17 : decode b_La_key 17 = .ok (.iconst 1, 1) := by decide +kernel
theorem d_La_key_18 : decode b_La_key 18 = .ok (.ireturn, 1) := by decide +kernel
theorem d_La_key_19 : decode b_La_key 19 = .ok (.iconst 0, 1) := by decide +kernel
theorem d_La_key_20 : decode b_La_key 20 = .ok (.ireturn, 1) := by decide +kernel
theorem d_La_arm_0 : decode b_La_arm 0 = .ok (.aload_n 3, 1) := by decide +kernel
theorem d_La_arm_1 : decode b_La_arm 1 = .ok (.iconst 0, 1) := by decide +kernel
theorem d_La_arm_2 : decode b_La_arm 2 = .ok (.aload_n 0, 1) := by decide +kernel
theorem d_La_arm_3 : decode b_La_arm 3 = .ok (.iload_n 1, 1) := by decide +kernel
theorem d_La_arm_4 : decode b_La_arm 4 = .ok (.iload_n 2, 1) := by decide +kernel
theorem d_La_arm_5 : decode b_La_arm 5 = .ok (.invokevirtual 47, 3) := by decide +kernel
theorem d_La_arm_8 : decode b_La_arm 8 = .ok (.i2l, 1) := by decide +kernel
theorem d_La_arm_9 : decode b_La_arm 9 = .ok (.lastore, 1) := by decide +kernel
theorem d_La_arm_10 : decode b_La_arm 10 = .ok (.goto 7, 3) := by decide +kernel
theorem d_La_arm_13 : decode b_La_arm 13 = .ok (.astore 4, 2) := by decide +kernel
theorem d_La_arm_15 : decode b_La_arm 15 = .ok (.iconst 1, 1) := by decide +kernel
theorem d_La_arm_16 : decode b_La_arm 16 = .ok (.ireturn, 1) := by decide +kernel
theorem d_La_arm_17 : decode b_La_arm 17 = .ok (.iconst 0, 1) := by decide +kernel
theorem d_La_arm_18 : decode b_La_arm 18 = .ok (.ireturn, 1) := by decide +kernel
theorem d_La_open_0 : decode b_La_open 0 = .ok (.aload_n 3, 1) := by decide +kernel
theorem d_La_open_1 : decode b_La_open 1 = .ok (.iconst 0, 1) := by decide +kernel
theorem d_La_open_2 : decode b_La_open 2 = .ok (.aload_n 0, 1) := by decide +kernel
theorem d_La_open_3 : decode b_La_open 3 = .ok (.iload_n 1, 1) := by decide +kernel
theorem d_La_open_4 : decode b_La_open 4 = .ok (.iload_n 2, 1) := by decide +kernel
theorem d_La_open_5 : decode b_La_open 5 = .ok (.invokevirtual 50, 3) := by decide +kernel
theorem d_La_open_8 : decode b_La_open 8 = .ok (.i2l, 1) := by decide +kernel
theorem d_La_open_9 : decode b_La_open 9 = .ok (.lastore, 1) := by decide +kernel
theorem d_La_open_10 : decode b_La_open 10 = .ok (.goto 7, 3) := by decide +kernel
theorem d_La_open_13 : decode b_La_open 13 = .ok (.astore 4, 2) := by decide +kernel
theorem d_La_open_15 : decode b_La_open 15 = .ok (.iconst 1, 1) := by decide +kernel
theorem d_La_open_16 : decode b_La_open 16 = .ok (.ireturn, 1) := by decide +kernel
theorem d_La_open_17 : decode b_La_open 17 = .ok (.iconst 0, 1) := by decide +kernel
theorem d_La_open_18 : decode b_La_open 18 = .ok (.ireturn, 1) := by decide +kernel
theorem d_La_count_0 : decode b_La_count 0 = .ok (.aload_n 3, 1) := by decide +kernel
theorem d_La_count_1 : decode b_La_count 1 = .ok (.iconst 0, 1) := by decide +kernel
theorem d_La_count_2 : decode b_La_count 2 = .ok (.aload_n 0, 1) := by decide +kernel
theorem d_La_count_3 : decode b_La_count 3 = .ok (.iload_n 1, 1) := by decide +kernel
theorem d_La_count_4 : decode b_La_count 4 = .ok (.iload_n 2, 1) := by decide +kernel
theorem d_La_count_5 : decode b_La_count 5 = .ok (.invokevirtual 53, 3) := by decide +kernel
theorem d_La_count_8 : decode b_La_count 8 = .ok (.i2l, 1) := by decide +kernel
theorem d_La_count_9 : decode b_La_count 9 = .ok (.lastore, 1) := by decide +kernel
theorem d_La_count_10 : decode b_La_count 10 = .ok (.goto 11, 3) := by decide +kernel
theorem d_La_count_13 : decode b_La_count 13 = .ok (.astore 4, 2) := by decide +kernel
theorem d_La_count_15 : decode b_La_count 15 = .ok (.iconst 1, 1) := by decide +kernel
theorem d_La_count_16 : decode b_La_count 16 = .ok (.ireturn, 1) := by decide +kernel
theorem d_La_count_17 : decode b_La_count 17 = .ok (.astore 4, 2) := by decide +kernel
theorem d_La_count_19 : decode b_La_count 19 = .ok (.iconst 2, 1) := by decide +kernel
theorem d_La_count_20 : decode b_La_count 20 = .ok (.ireturn, 1) := by decide +kernel
theorem d_La_count_21 : decode b_La_count 21 = .ok (.iconst 0, 1) := by decide +kernel
theorem d_La_count_22 : decode b_La_count 22 = .ok (.ireturn, 1) := by decide +kernel
theorem d_La_spread_0 : decode b_La_spread 0 = .ok (.aload_n 2, 1) := by decide +kernel
theorem d_La_spread_1 : decode b_La_spread 1 = .ok (.iconst 0, 1) := by decide +kernel
theorem d_La_spread_2 : decode b_La_spread 2 = .ok (.aload_n 0, 1) := by decide +kernel
theorem d_La_spread_3 : decode b_La_spread 3 = .ok (.iload_n 1, 1) := by decide +kernel
theorem d_La_spread_4 : decode b_La_spread 4 = .ok (.invokevirtual 56, 3) := by decide +kernel
theorem d_La_spread_7 : decode b_La_spread 7 = .ok (.i2l, 1) := by decide +kernel
theorem d_La_spread_8 : decode b_La_spread 8 = .ok (.lastore, 1) := by decide +kernel
theorem d_La_spread_9 : decode b_La_spread 9 = .ok (.goto 9, 3) := by decide +kernel
theorem d_La_spread_12 : decode b_La_spread 12 = .ok (.astore_n 3, 1) := by decide +kernel
theorem d_La_spread_13 : decode b_La_spread 13 = .ok (.iconst 1, 1) := by decide +kernel
theorem d_La_spread_14 : decode b_La_spread 14 = .ok (.ireturn, 1) := by decide +kernel
theorem d_La_spread_15 : decode b_La_spread 15 = .ok (.astore_n 3, 1) := by decide +kernel
theorem d_La_spread_16 : decode b_La_spread 16 = .ok (.iconst 2, 1) := by decide +kernel
theorem d_La_spread_17 : decode b_La_spread 17 = .ok (.ireturn, 1) := by decide +kernel
theorem d_La_spread_18 : decode b_La_spread 18 = .ok (.iconst 0, 1) := by decide +kernel
theorem d_La_spread_19 : decode b_La_spread 19 = .ok (.ireturn, 1) := by decide +kernel
theorem d_La_entry_0 : decode b_La_entry 0 = .ok (.aload_n 3, 1) := by decide +kernel
theorem d_La_entry_1 : decode b_La_entry 1 = .ok (.iconst 0, 1) := by decide +kernel
theorem d_La_entry_2 : decode b_La_entry 2 = .ok (.aload_n 0, 1) := by decide +kernel
theorem d_La_entry_3 : decode b_La_entry 3 = .ok (.iload_n 1, 1) := by decide +kernel
theorem d_La_entry_4 : decode b_La_entry 4 = .ok (.iload_n 2, 1) := by decide +kernel
theorem d_La_entry_5 : decode b_La_entry 5 = .ok (.invokevirtual 59, 3) := by decide +kernel
theorem d_La_entry_8 : decode b_La_entry 8 = .ok (.i2l, 1) := by decide +kernel
theorem d_La_entry_9 : decode b_La_entry 9 = .ok (.lastore, 1) := by decide +kernel
theorem d_La_entry_10 : decode b_La_entry 10 = .ok (.goto 7, 3) := by decide +kernel
theorem d_La_entry_13 : decode b_La_entry 13 = .ok (.astore 4, 2) := by decide +kernel
theorem d_La_entry_15 : decode b_La_entry 15 = .ok (.iconst 1, 1) := by decide +kernel
theorem d_La_entry_16 : decode b_La_entry 16 = .ok (.ireturn, 1) := by decide +kernel
theorem d_La_entry_17 : decode b_La_entry 17 = .ok (.iconst 0, 1) := by decide +kernel
theorem d_La_entry_18 : decode b_La_entry 18 = .ok (.ireturn, 1) := by decide +kernel
theorem d_La_blocks_0 : decode b_La_blocks 0 = .ok (.aload_n 2, 1) := by decide +kernel
theorem d_La_blocks_1 : decode b_La_blocks 1 = .ok (.iconst 0, 1) := by decide +kernel
theorem d_La_blocks_2 : decode b_La_blocks 2 = .ok (.aload_n 0, 1) := by decide +kernel
theorem d_La_blocks_3 : decode b_La_blocks 3 = .ok (.iload_n 1, 1) := by decide +kernel
theorem d_La_blocks_4 : decode b_La_blocks 4 = .ok (.invokevirtual 62, 3) := by decide +kernel
theorem d_La_blocks_7 : decode b_La_blocks 7 = .ok (.i2l, 1) := by decide +kernel
theorem d_La_blocks_8 : decode b_La_blocks 8 = .ok (.lastore, 1) := by decide +kernel
theorem d_La_blocks_9 : decode b_La_blocks 9 = .ok (.goto 6, 3) := by decide +kernel
theorem d_La_blocks_12 : decode b_La_blocks 12 = .ok (.astore_n 3, 1) := by decide +kernel
theorem d_La_blocks_13 : decode b_La_blocks 13 = .ok (.iconst 1, 1) := by decide +kernel
theorem d_La_blocks_14 : decode b_La_blocks 14 = .ok (.ireturn, 1) := by decide +kernel
theorem d_La_blocks_15 : decode b_La_blocks 15 = .ok (.iconst 0, 1) := by decide +kernel
theorem d_La_blocks_16 : decode b_La_blocks 16 = .ok (.ireturn, 1) := by decide +kernel
theorem d_La_stock_0 : decode b_La_stock 0 = .ok (.aload_n 3, 1) := by decide +kernel
theorem d_La_stock_1 : decode b_La_stock 1 = .ok (.iconst 0, 1) := by decide +kernel
theorem d_La_stock_2 : decode b_La_stock 2 = .ok (.aload_n 0, 1) := by decide +kernel
theorem d_La_stock_3 : decode b_La_stock 3 = .ok (.iload_n 1, 1) := by decide +kernel
theorem d_La_stock_4 : decode b_La_stock 4 = .ok (.iload_n 2, 1) := by decide +kernel
theorem d_La_stock_5 : decode b_La_stock 5 = .ok (.invokevirtual 65, 3) := by decide +kernel
theorem d_La_stock_8 : decode b_La_stock 8 = .ok (.i2l, 1) := by decide +kernel
theorem d_La_stock_9 : decode b_La_stock 9 = .ok (.lastore, 1) := by decide +kernel
theorem d_La_stock_10 : decode b_La_stock 10 = .ok (.goto 11, 3) := by decide +kernel
theorem d_La_stock_13 : decode b_La_stock 13 = .ok (.astore 4, 2) := by decide +kernel
theorem d_La_stock_15 : decode b_La_stock 15 = .ok (.iconst 1, 1) := by decide +kernel
theorem d_La_stock_16 : decode b_La_stock 16 = .ok (.ireturn, 1) := by decide +kernel
theorem d_La_stock_17 : decode b_La_stock 17 = .ok (.astore 4, 2) := by decide +kernel
theorem d_La_stock_19 : decode b_La_stock 19 = .ok (.iconst 2, 1) := by decide +kernel
theorem d_La_stock_20 : decode b_La_stock 20 = .ok (.ireturn, 1) := by decide +kernel
theorem d_La_stock_21 : decode b_La_stock 21 = .ok (.iconst 0, 1) := by decide +kernel
theorem d_La_stock_22 : decode b_La_stock 22 = .ok (.ireturn, 1) := by decide +kernel
theorem d_La_used_0 : decode b_La_used 0 = .ok (.aload_n 2, 1) := by decide +kernel
theorem d_La_used_1 : decode b_La_used 1 = .ok (.iconst 0, 1) := by decide +kernel
theorem d_La_used_2 : decode b_La_used 2 = .ok (.aload_n 0, 1) := by decide +kernel
theorem d_La_used_3 : decode b_La_used 3 = .ok (.iload_n 1, 1) := by decide +kernel
theorem d_La_used_4 : decode b_La_used 4 = .ok (.invokevirtual 68, 3) := by decide +kernel
theorem d_La_used_7 : decode b_La_used 7 = .ok (.i2l, 1) := by decide +kernel
theorem d_La_used_8 : decode b_La_used 8 = .ok (.lastore, 1) := by decide +kernel
theorem d_La_used_9 : decode b_La_used 9 = .ok (.goto 6, 3) := by decide +kernel
theorem d_La_used_12 : decode b_La_used 12 = .ok (.astore_n 3, 1) := by decide +kernel
theorem d_La_used_13 : decode b_La_used 13 = .ok (.iconst 1, 1) := by decide +kernel
theorem d_La_used_14 : decode b_La_used 14 = .ok (.ireturn, 1) := by decide +kernel
theorem d_La_used_15 : decode b_La_used 15 = .ok (.iconst 0, 1) := by decide +kernel
theorem d_La_used_16 : decode b_La_used 16 = .ok (.ireturn, 1) := by decide +kernel
theorem d_La_mount_0 : decode b_La_mount 0 = .ok (.aload_n 1, 1) := by decide +kernel
theorem d_La_mount_1 : decode b_La_mount 1 = .ok (.iconst 0, 1) := by decide +kernel
theorem d_La_mount_2 : decode b_La_mount 2 = .ok (.aload_n 0, 1) := by decide +kernel
theorem d_La_mount_3 : decode b_La_mount 3 = .ok (.invokevirtual 71, 3) := by decide +kernel
theorem d_La_mount_6 : decode b_La_mount 6 = .ok (.i2l, 1) := by decide +kernel
theorem d_La_mount_7 : decode b_La_mount 7 = .ok (.lastore, 1) := by decide +kernel
theorem d_La_mount_8 : decode b_La_mount 8 = .ok (.goto 6, 3) := by decide +kernel
theorem d_La_mount_11 : decode b_La_mount 11 = .ok (.astore_n 2, 1) := by decide +kernel
theorem d_La_mount_12 : decode b_La_mount 12 = .ok (.iconst 1, 1) := by decide +kernel
theorem d_La_mount_13 : decode b_La_mount 13 = .ok (.ireturn, 1) := by decide +kernel
theorem d_La_mount_14 : decode b_La_mount 14 = .ok (.iconst 0, 1) := by decide +kernel
theorem d_La_mount_15 : decode b_La_mount 15 = .ok (.ireturn, 1) := by decide +kernel
theorem d_La_law_0 : decode b_La_law 0 = .ok (.new 8, 3) := by decide +kernel
theorem d_La_law_3 : decode b_La_law 3 = .ok (.dup, 1) := by decide +kernel
theorem d_La_law_4 : decode b_La_law 4 = .ok (.invokespecial 75, 3) := by decide +kernel
theorem d_La_law_7 : decode b_La_law 7 = .ok (.astore_n 1, 1) := by decide +kernel
theorem d_La_law_8 : decode b_La_law 8 = .ok (.new 76, 3) := by decide +kernel
theorem d_La_law_11 : decode b_La_law 11 = .ok (.dup, 1) := by decide +kernel
theorem d_La_law_12 : decode b_La_law 12 = .ok (.invokespecial 78, 3) := by decide +kernel
theorem d_La_law_15 : decode b_La_law 15 = .ok (.astore_n 2, 1) := by decide +kernel
theorem d_La_law_16 : decode b_La_law 16 = .ok (.iconst 1, 1) := by decide +kernel
theorem d_La_law_17 : decode b_La_law 17 = .ok (.newarray .long, 2) := by decide +kernel
theorem d_La_law_19 : decode b_La_law 19 = .ok (.astore_n 3, 1) := by decide +kernel
theorem d_La_law_20 : decode b_La_law 20 = .ok (.iconst 0, 1) := by decide +kernel
theorem d_La_law_21 : decode b_La_law 21 = .ok (.istore 4, 2) := by decide +kernel
theorem d_La_law_23 : decode b_La_law 23 = .ok (.iload 4, 2) := by decide +kernel
theorem d_La_law_25 : decode b_La_law 25 = .ok (.aload_n 0, 1) := by decide +kernel
theorem d_La_law_26 : decode b_La_law 26 = .ok (.arraylength, 1) := by decide +kernel
theorem d_La_law_27 : decode b_La_law 27 = .ok (.bipush 8, 2) := by decide +kernel
theorem d_La_law_29 : decode b_La_law 29 = .ok (.isub, 1) := by decide +kernel
theorem d_La_law_30 : decode b_La_law 30 = .ok (.if_icmp .gt 1371, 3) := by decide +kernel
theorem d_La_law_33 : decode b_La_law 33 = .ok (.aload_n 0, 1) := by decide +kernel
theorem d_La_law_34 : decode b_La_law 34 = .ok (.iload 4, 2) := by decide +kernel
theorem d_La_law_36 : decode b_La_law 36 = .ok (.iaload, 1) := by decide +kernel
theorem d_La_law_37 : decode b_La_law 37 = .ok (.bipush 31, 2) := by decide +kernel
theorem d_La_law_39 : decode b_La_law 39 = .ok (.iand, 1) := by decide +kernel
theorem d_La_law_40 : decode b_La_law 40 = .ok (.tableswitch 1355 0 18 #[92, 224, 280, 372, 452, 520, 600, 656, 712, 792, 860, 928, 996, 1052, 1120, 1176, 1244, 1300, 1311], 92) := by decide +kernel
theorem d_La_law_132 : decode b_La_law 132 = .ok (.aload_n 1, 1) := by decide +kernel
theorem d_La_law_133 : decode b_La_law 133 = .ok (.aload_n 0, 1) := by decide +kernel
theorem d_La_law_134 : decode b_La_law 134 = .ok (.iload 4, 2) := by decide +kernel
theorem d_La_law_136 : decode b_La_law 136 = .ok (.iconst 1, 1) := by decide +kernel
theorem d_La_law_137 : decode b_La_law 137 = .ok (.iadd, 1) := by decide +kernel
theorem d_La_law_138 : decode b_La_law 138 = .ok (.iaload, 1) := by decide +kernel
theorem d_La_law_139 : decode b_La_law 139 = .ok (.aload_n 0, 1) := by decide +kernel
theorem d_La_law_140 : decode b_La_law 140 = .ok (.iload 4, 2) := by decide +kernel
theorem d_La_law_142 : decode b_La_law 142 = .ok (.iconst 2, 1) := by decide +kernel
theorem d_La_law_143 : decode b_La_law 143 = .ok (.iadd, 1) := by decide +kernel
theorem d_La_law_144 : decode b_La_law 144 = .ok (.iaload, 1) := by decide +kernel
theorem d_La_law_145 : decode b_La_law 145 = .ok (.aload_n 0, 1) := by decide +kernel
theorem d_La_law_146 : decode b_La_law 146 = .ok (.iload 4, 2) := by decide +kernel
theorem d_La_law_148 : decode b_La_law 148 = .ok (.iconst 3, 1) := by decide +kernel
theorem d_La_law_149 : decode b_La_law 149 = .ok (.iadd, 1) := by decide +kernel
theorem d_La_law_150 : decode b_La_law 150 = .ok (.iaload, 1) := by decide +kernel
theorem d_La_law_151 : decode b_La_law 151 = .ok (.aload_n 0, 1) := by decide +kernel
theorem d_La_law_152 : decode b_La_law 152 = .ok (.iload 4, 2) := by decide +kernel
theorem d_La_law_154 : decode b_La_law 154 = .ok (.iconst 4, 1) := by decide +kernel
theorem d_La_law_155 : decode b_La_law 155 = .ok (.iadd, 1) := by decide +kernel
theorem d_La_law_156 : decode b_La_law 156 = .ok (.iaload, 1) := by decide +kernel
theorem d_La_law_157 : decode b_La_law 157 = .ok (.aload_n 0, 1) := by decide +kernel
theorem d_La_law_158 : decode b_La_law 158 = .ok (.iload 4, 2) := by decide +kernel
theorem d_La_law_160 : decode b_La_law 160 = .ok (.iconst 5, 1) := by decide +kernel
theorem d_La_law_161 : decode b_La_law 161 = .ok (.iadd, 1) := by decide +kernel
theorem d_La_law_162 : decode b_La_law 162 = .ok (.iaload, 1) := by decide +kernel
theorem d_La_law_163 : decode b_La_law 163 = .ok (.aload_n 0, 1) := by decide +kernel
theorem d_La_law_164 : decode b_La_law 164 = .ok (.iload 4, 2) := by decide +kernel
theorem d_La_law_166 : decode b_La_law 166 = .ok (.bipush 6, 2) := by decide +kernel
theorem d_La_law_168 : decode b_La_law 168 = .ok (.iadd, 1) := by decide +kernel
theorem d_La_law_169 : decode b_La_law 169 = .ok (.iaload, 1) := by decide +kernel
theorem d_La_law_170 : decode b_La_law 170 = .ok (.i2l, 1) := by decide +kernel
theorem d_La_law_171 : decode b_La_law 171 = .ok (.bipush 32, 2) := by decide +kernel
theorem d_La_law_173 : decode b_La_law 173 = .ok (.lshl, 1) := by decide +kernel
theorem d_La_law_174 : decode b_La_law 174 = .ok (.aload_n 0, 1) := by decide +kernel
theorem d_La_law_175 : decode b_La_law 175 = .ok (.iload 4, 2) := by decide +kernel
theorem d_La_law_177 : decode b_La_law 177 = .ok (.bipush 7, 2) := by decide +kernel
theorem d_La_law_179 : decode b_La_law 179 = .ok (.iadd, 1) := by decide +kernel
theorem d_La_law_180 : decode b_La_law 180 = .ok (.iaload, 1) := by decide +kernel
theorem d_La_law_181 : decode b_La_law 181 = .ok (.i2l, 1) := by decide +kernel
theorem d_La_law_182 : decode b_La_law 182 = .ok (.ldc2_w 79, 3) := by decide +kernel
theorem d_La_law_185 : decode b_La_law 185 = .ok (.land, 1) := by decide +kernel
theorem d_La_law_186 : decode b_La_law 186 = .ok (.lor, 1) := by decide +kernel
theorem d_La_law_187 : decode b_La_law 187 = .ok (.invokestatic 81, 3) := by decide +kernel
theorem d_La_law_190 : decode b_La_law 190 = .ok (.istore 5, 2) := by decide +kernel
theorem d_La_law_192 : decode b_La_law 192 = .ok (.aload_n 2, 1) := by decide +kernel
theorem d_La_law_193 : decode b_La_law 193 = .ok (.aload_n 0, 1) := by decide +kernel
theorem d_La_law_194 : decode b_La_law 194 = .ok (.iload 4, 2) := by decide +kernel
theorem d_La_law_196 : decode b_La_law 196 = .ok (.iconst 1, 1) := by decide +kernel
theorem d_La_law_197 : decode b_La_law 197 = .ok (.iadd, 1) := by decide +kernel
theorem d_La_law_198 : decode b_La_law 198 = .ok (.iaload, 1) := by decide +kernel
theorem d_La_law_199 : decode b_La_law 199 = .ok (.aload_n 0, 1) := by decide +kernel
theorem d_La_law_200 : decode b_La_law 200 = .ok (.iload 4, 2) := by decide +kernel
theorem d_La_law_202 : decode b_La_law 202 = .ok (.iconst 2, 1) := by decide +kernel
theorem d_La_law_203 : decode b_La_law 203 = .ok (.iadd, 1) := by decide +kernel
theorem d_La_law_204 : decode b_La_law 204 = .ok (.iaload, 1) := by decide +kernel
theorem d_La_law_205 : decode b_La_law 205 = .ok (.aload_n 0, 1) := by decide +kernel
theorem d_La_law_206 : decode b_La_law 206 = .ok (.iload 4, 2) := by decide +kernel
theorem d_La_law_208 : decode b_La_law 208 = .ok (.iconst 3, 1) := by decide +kernel
theorem d_La_law_209 : decode b_La_law 209 = .ok (.iadd, 1) := by decide +kernel
theorem d_La_law_210 : decode b_La_law 210 = .ok (.iaload, 1) := by decide +kernel
theorem d_La_law_211 : decode b_La_law 211 = .ok (.aload_n 0, 1) := by decide +kernel
theorem d_La_law_212 : decode b_La_law 212 = .ok (.iload 4, 2) := by decide +kernel
theorem d_La_law_214 : decode b_La_law 214 = .ok (.iconst 4, 1) := by decide +kernel
theorem d_La_law_215 : decode b_La_law 215 = .ok (.iadd, 1) := by decide +kernel
theorem d_La_law_216 : decode b_La_law 216 = .ok (.iaload, 1) := by decide +kernel
theorem d_La_law_217 : decode b_La_law 217 = .ok (.aload_n 0, 1) := by decide +kernel
theorem d_La_law_218 : decode b_La_law 218 = .ok (.iload 4, 2) := by decide +kernel
theorem d_La_law_220 : decode b_La_law 220 = .ok (.iconst 5, 1) := by decide +kernel
theorem d_La_law_221 : decode b_La_law 221 = .ok (.iadd, 1) := by decide +kernel
theorem d_La_law_222 : decode b_La_law 222 = .ok (.iaload, 1) := by decide +kernel
theorem d_La_law_223 : decode b_La_law 223 = .ok (.aload_n 0, 1) := by decide +kernel
theorem d_La_law_224 : decode b_La_law 224 = .ok (.iload 4, 2) := by decide +kernel
theorem d_La_law_226 : decode b_La_law 226 = .ok (.bipush 6, 2) := by decide +kernel
theorem d_La_law_228 : decode b_La_law 228 = .ok (.iadd, 1) := by decide +kernel
theorem d_La_law_229 : decode b_La_law 229 = .ok (.iaload, 1) := by decide +kernel
theorem d_La_law_230 : decode b_La_law 230 = .ok (.i2l, 1) := by decide +kernel
theorem d_La_law_231 : decode b_La_law 231 = .ok (.bipush 32, 2) := by decide +kernel
theorem d_La_law_233 : decode b_La_law 233 = .ok (.lshl, 1) := by decide +kernel
theorem d_La_law_234 : decode b_La_law 234 = .ok (.aload_n 0, 1) := by decide +kernel
theorem d_La_law_235 : decode b_La_law 235 = .ok (.iload 4, 2) := by decide +kernel
theorem d_La_law_237 : decode b_La_law 237 = .ok (.bipush 7, 2) := by decide +kernel
theorem d_La_law_239 : decode b_La_law 239 = .ok (.iadd, 1) := by decide +kernel
theorem d_La_law_240 : decode b_La_law 240 = .ok (.iaload, 1) := by decide +kernel
theorem d_La_law_241 : decode b_La_law 241 = .ok (.i2l, 1) := by decide +kernel
theorem d_La_law_242 : decode b_La_law 242 = .ok (.ldc2_w 79, 3) := by decide +kernel
theorem d_La_law_245 : decode b_La_law 245 = .ok (.land, 1) := by decide +kernel
theorem d_La_law_246 : decode b_La_law 246 = .ok (.lor, 1) := by decide +kernel
theorem d_La_law_247 : decode b_La_law 247 = .ok (.invokevirtual 86, 3) := by decide +kernel
theorem d_La_law_250 : decode b_La_law 250 = .ok (.aload_n 2, 1) := by decide +kernel
theorem d_La_law_251 : decode b_La_law 251 = .ok (.invokevirtual 87, 3) := by decide +kernel
theorem d_La_law_254 : decode b_La_law 254 = .ok (.iload 5, 2) := by decide +kernel
theorem d_La_law_256 : decode b_La_law 256 = .ok (.if_icmp .eq 5, 3) := by decide +kernel
theorem d_La_law_259 : decode b_La_law 259 = .ok (.iconst 0, 1) := by decide +kernel
theorem d_La_law_260 : decode b_La_law 260 = .ok (.ireturn, 1) := by decide +kernel
theorem d_La_law_261 : decode b_La_law 261 = .ok (.goto 1134, 3) := by decide +kernel
theorem d_La_law_264 : decode b_La_law 264 = .ok (.aload_n 1, 1) := by decide +kernel
theorem d_La_law_265 : decode b_La_law 265 = .ok (.aload_n 0, 1) := by decide +kernel
theorem d_La_law_266 : decode b_La_law 266 = .ok (.iload 4, 2) := by decide +kernel
theorem d_La_law_268 : decode b_La_law 268 = .ok (.iconst 1, 1) := by decide +kernel
theorem d_La_law_269 : decode b_La_law 269 = .ok (.iadd, 1) := by decide +kernel
theorem d_La_law_270 : decode b_La_law 270 = .ok (.iaload, 1) := by decide +kernel
theorem d_La_law_271 : decode b_La_law 271 = .ok (.aload_n 3, 1) := by decide +kernel
theorem d_La_law_272 : decode b_La_law 272 = .ok (.invokestatic 90, 3) := by decide +kernel
theorem d_La_law_275 : decode b_La_law 275 = .ok (.istore 5, 2) := by decide +kernel
theorem d_La_law_277 : decode b_La_law 277 = .ok (.aload_n 2, 1) := by decide +kernel
theorem d_La_law_278 : decode b_La_law 278 = .ok (.aload_n 0, 1) := by decide +kernel
theorem d_La_law_279 : decode b_La_law 279 = .ok (.iload 4, 2) := by decide +kernel
theorem d_La_law_281 : decode b_La_law 281 = .ok (.iconst 1, 1) := by decide +kernel
theorem d_La_law_282 : decode b_La_law 282 = .ok (.iadd, 1) := by decide +kernel
theorem d_La_law_283 : decode b_La_law 283 = .ok (.iaload, 1) := by decide +kernel
theorem d_La_law_284 : decode b_La_law 284 = .ok (.invokevirtual 93, 3) := by decide +kernel
theorem d_La_law_287 : decode b_La_law 287 = .ok (.istore 6, 2) := by decide +kernel
theorem d_La_law_289 : decode b_La_law 289 = .ok (.aload_n 2, 1) := by decide +kernel
theorem d_La_law_290 : decode b_La_law 290 = .ok (.invokevirtual 87, 3) := by decide +kernel
theorem d_La_law_293 : decode b_La_law 293 = .ok (.iload 5, 2) := by decide +kernel
theorem d_La_law_295 : decode b_La_law 295 = .ok (.if_icmp .eq 5, 3) := by decide +kernel
theorem d_La_law_298 : decode b_La_law 298 = .ok (.iconst 0, 1) := by decide +kernel
theorem d_La_law_299 : decode b_La_law 299 = .ok (.ireturn, 1) := by decide +kernel
theorem d_La_law_300 : decode b_La_law 300 = .ok (.iload 5, 2) := by decide +kernel
theorem d_La_law_302 : decode b_La_law 302 = .ok (.ifCond .ne 15, 3) := by decide +kernel
theorem d_La_law_305 : decode b_La_law 305 = .ok (.aload_n 3, 1) := by decide +kernel
theorem d_La_law_306 : decode b_La_law 306 = .ok (.iconst 0, 1) := by decide +kernel
theorem d_La_law_307 : decode b_La_law 307 = .ok (.laload, 1) := by decide +kernel
theorem d_La_law_308 : decode b_La_law 308 = .ok (.iload 6, 2) := by decide +kernel
theorem d_La_law_310 : decode b_La_law 310 = .ok (.i2l, 1) := by decide +kernel
theorem d_La_law_311 : decode b_La_law 311 = .ok (.lcmp, 1) := by decide +kernel
theorem d_La_law_312 : decode b_La_law 312 = .ok (.ifCond .eq 5, 3) := by decide +kernel
theorem d_La_law_315 : decode b_La_law 315 = .ok (.iconst 0, 1) := by decide +kernel
theorem d_La_law_316 : decode b_La_law 316 = .ok (.ireturn, 1) := by decide +kernel
theorem d_La_law_317 : decode b_La_law 317 = .ok (.goto 1078, 3) := by decide +kernel
theorem d_La_law_320 : decode b_La_law 320 = .ok (.aload_n 1, 1) := by decide +kernel
theorem d_La_law_321 : decode b_La_law 321 = .ok (.aload_n 0, 1) := by decide +kernel
theorem d_La_law_322 : decode b_La_law 322 = .ok (.iload 4, 2) := by decide +kernel
theorem d_La_law_324 : decode b_La_law 324 = .ok (.iconst 1, 1) := by decide +kernel
theorem d_La_law_325 : decode b_La_law 325 = .ok (.iadd, 1) := by decide +kernel
theorem d_La_law_326 : decode b_La_law 326 = .ok (.iaload, 1) := by decide +kernel
theorem d_La_law_327 : decode b_La_law 327 = .ok (.aload_n 0, 1) := by decide +kernel
theorem d_La_law_328 : decode b_La_law 328 = .ok (.iload 4, 2) := by decide +kernel
theorem d_La_law_330 : decode b_La_law 330 = .ok (.iconst 2, 1) := by decide +kernel
theorem d_La_law_331 : decode b_La_law 331 = .ok (.iadd, 1) := by decide +kernel
theorem d_La_law_332 : decode b_La_law 332 = .ok (.iaload, 1) := by decide +kernel
theorem d_La_law_333 : decode b_La_law 333 = .ok (.aload_n 0, 1) := by decide +kernel
theorem d_La_law_334 : decode b_La_law 334 = .ok (.iload 4, 2) := by decide +kernel
theorem d_La_law_336 : decode b_La_law 336 = .ok (.iconst 3, 1) := by decide +kernel
theorem d_La_law_337 : decode b_La_law 337 = .ok (.iadd, 1) := by decide +kernel
theorem d_La_law_338 : decode b_La_law 338 = .ok (.iaload, 1) := by decide +kernel
theorem d_La_law_339 : decode b_La_law 339 = .ok (.aload_n 0, 1) := by decide +kernel
theorem d_La_law_340 : decode b_La_law 340 = .ok (.iload 4, 2) := by decide +kernel
theorem d_La_law_342 : decode b_La_law 342 = .ok (.iconst 4, 1) := by decide +kernel
theorem d_La_law_343 : decode b_La_law 343 = .ok (.iadd, 1) := by decide +kernel
theorem d_La_law_344 : decode b_La_law 344 = .ok (.iaload, 1) := by decide +kernel
theorem d_La_law_345 : decode b_La_law 345 = .ok (.aload_n 3, 1) := by decide +kernel
theorem d_La_law_346 : decode b_La_law 346 = .ok (.invokestatic 94, 3) := by decide +kernel
theorem d_La_law_349 : decode b_La_law 349 = .ok (.istore 5, 2) := by decide +kernel
theorem d_La_law_351 : decode b_La_law 351 = .ok (.aload_n 2, 1) := by decide +kernel
theorem d_La_law_352 : decode b_La_law 352 = .ok (.aload_n 0, 1) := by decide +kernel
theorem d_La_law_353 : decode b_La_law 353 = .ok (.iload 4, 2) := by decide +kernel
theorem d_La_law_355 : decode b_La_law 355 = .ok (.iconst 1, 1) := by decide +kernel
theorem d_La_law_356 : decode b_La_law 356 = .ok (.iadd, 1) := by decide +kernel
theorem d_La_law_357 : decode b_La_law 357 = .ok (.iaload, 1) := by decide +kernel
theorem d_La_law_358 : decode b_La_law 358 = .ok (.aload_n 0, 1) := by decide +kernel
theorem d_La_law_359 : decode b_La_law 359 = .ok (.iload 4, 2) := by decide +kernel
theorem d_La_law_361 : decode b_La_law 361 = .ok (.iconst 2, 1) := by decide +kernel
theorem d_La_law_362 : decode b_La_law 362 = .ok (.iadd, 1) := by decide +kernel
theorem d_La_law_363 : decode b_La_law 363 = .ok (.iaload, 1) := by decide +kernel
theorem d_La_law_364 : decode b_La_law 364 = .ok (.aload_n 0, 1) := by decide +kernel
theorem d_La_law_365 : decode b_La_law 365 = .ok (.iload 4, 2) := by decide +kernel
theorem d_La_law_367 : decode b_La_law 367 = .ok (.iconst 3, 1) := by decide +kernel
theorem d_La_law_368 : decode b_La_law 368 = .ok (.iadd, 1) := by decide +kernel
theorem d_La_law_369 : decode b_La_law 369 = .ok (.iaload, 1) := by decide +kernel
theorem d_La_law_370 : decode b_La_law 370 = .ok (.aload_n 0, 1) := by decide +kernel
theorem d_La_law_371 : decode b_La_law 371 = .ok (.iload 4, 2) := by decide +kernel
theorem d_La_law_373 : decode b_La_law 373 = .ok (.iconst 4, 1) := by decide +kernel
theorem d_La_law_374 : decode b_La_law 374 = .ok (.iadd, 1) := by decide +kernel
theorem d_La_law_375 : decode b_La_law 375 = .ok (.iaload, 1) := by decide +kernel
theorem d_La_law_376 : decode b_La_law 376 = .ok (.invokevirtual 97, 3) := by decide +kernel
theorem d_La_law_379 : decode b_La_law 379 = .ok (.istore 6, 2) := by decide +kernel
theorem d_La_law_381 : decode b_La_law 381 = .ok (.aload_n 2, 1) := by decide +kernel
theorem d_La_law_382 : decode b_La_law 382 = .ok (.invokevirtual 87, 3) := by decide +kernel
theorem d_La_law_385 : decode b_La_law 385 = .ok (.iload 5, 2) := by decide +kernel
theorem d_La_law_387 : decode b_La_law 387 = .ok (.if_icmp .eq 5, 3) := by decide +kernel
theorem d_La_law_390 : decode b_La_law 390 = .ok (.iconst 0, 1) := by decide +kernel
theorem d_La_law_391 : decode b_La_law 391 = .ok (.ireturn, 1) := by decide +kernel
theorem d_La_law_392 : decode b_La_law 392 = .ok (.iload 5, 2) := by decide +kernel
theorem d_La_law_394 : decode b_La_law 394 = .ok (.ifCond .ne 15, 3) := by decide +kernel
theorem d_La_law_397 : decode b_La_law 397 = .ok (.aload_n 3, 1) := by decide +kernel
theorem d_La_law_398 : decode b_La_law 398 = .ok (.iconst 0, 1) := by decide +kernel
theorem d_La_law_399 : decode b_La_law 399 = .ok (.laload, 1) := by decide +kernel
theorem d_La_law_400 : decode b_La_law 400 = .ok (.iload 6, 2) := by decide +kernel
theorem d_La_law_402 : decode b_La_law 402 = .ok (.i2l, 1) := by decide +kernel
theorem d_La_law_403 : decode b_La_law 403 = .ok (.lcmp, 1) := by decide +kernel
theorem d_La_law_404 : decode b_La_law 404 = .ok (.ifCond .eq 5, 3) := by decide +kernel
theorem d_La_law_407 : decode b_La_law 407 = .ok (.iconst 0, 1) := by decide +kernel
theorem d_La_law_408 : decode b_La_law 408 = .ok (.ireturn, 1) := by decide +kernel
theorem d_La_law_409 : decode b_La_law 409 = .ok (.goto 986, 3) := by decide +kernel
theorem d_La_law_412 : decode b_La_law 412 = .ok (.aload_n 1, 1) := by decide +kernel
theorem d_La_law_413 : decode b_La_law 413 = .ok (.aload_n 0, 1) := by decide +kernel
theorem d_La_law_414 : decode b_La_law 414 = .ok (.iload 4, 2) := by decide +kernel
theorem d_La_law_416 : decode b_La_law 416 = .ok (.iconst 1, 1) := by decide +kernel
theorem d_La_law_417 : decode b_La_law 417 = .ok (.iadd, 1) := by decide +kernel
theorem d_La_law_418 : decode b_La_law 418 = .ok (.iaload, 1) := by decide +kernel
theorem d_La_law_419 : decode b_La_law 419 = .ok (.aload_n 0, 1) := by decide +kernel
theorem d_La_law_420 : decode b_La_law 420 = .ok (.iload 4, 2) := by decide +kernel
theorem d_La_law_422 : decode b_La_law 422 = .ok (.iconst 2, 1) := by decide +kernel
theorem d_La_law_423 : decode b_La_law 423 = .ok (.iadd, 1) := by decide +kernel
theorem d_La_law_424 : decode b_La_law 424 = .ok (.iaload, 1) := by decide +kernel
theorem d_La_law_425 : decode b_La_law 425 = .ok (.aload_n 0, 1) := by decide +kernel
theorem d_La_law_426 : decode b_La_law 426 = .ok (.iload 4, 2) := by decide +kernel
theorem d_La_law_428 : decode b_La_law 428 = .ok (.iconst 3, 1) := by decide +kernel
theorem d_La_law_429 : decode b_La_law 429 = .ok (.iadd, 1) := by decide +kernel
theorem d_La_law_430 : decode b_La_law 430 = .ok (.iaload, 1) := by decide +kernel
theorem d_La_law_431 : decode b_La_law 431 = .ok (.aload_n 3, 1) := by decide +kernel
theorem d_La_law_432 : decode b_La_law 432 = .ok (.invokestatic 98, 3) := by decide +kernel
theorem d_La_law_435 : decode b_La_law 435 = .ok (.istore 5, 2) := by decide +kernel
theorem d_La_law_437 : decode b_La_law 437 = .ok (.aload_n 2, 1) := by decide +kernel
theorem d_La_law_438 : decode b_La_law 438 = .ok (.aload_n 0, 1) := by decide +kernel
theorem d_La_law_439 : decode b_La_law 439 = .ok (.iload 4, 2) := by decide +kernel
theorem d_La_law_441 : decode b_La_law 441 = .ok (.iconst 1, 1) := by decide +kernel
theorem d_La_law_442 : decode b_La_law 442 = .ok (.iadd, 1) := by decide +kernel
theorem d_La_law_443 : decode b_La_law 443 = .ok (.iaload, 1) := by decide +kernel
theorem d_La_law_444 : decode b_La_law 444 = .ok (.aload_n 0, 1) := by decide +kernel
theorem d_La_law_445 : decode b_La_law 445 = .ok (.iload 4, 2) := by decide +kernel
theorem d_La_law_447 : decode b_La_law 447 = .ok (.iconst 2, 1) := by decide +kernel
theorem d_La_law_448 : decode b_La_law 448 = .ok (.iadd, 1) := by decide +kernel
theorem d_La_law_449 : decode b_La_law 449 = .ok (.iaload, 1) := by decide +kernel
theorem d_La_law_450 : decode b_La_law 450 = .ok (.aload_n 0, 1) := by decide +kernel
theorem d_La_law_451 : decode b_La_law 451 = .ok (.iload 4, 2) := by decide +kernel
theorem d_La_law_453 : decode b_La_law 453 = .ok (.iconst 3, 1) := by decide +kernel
theorem d_La_law_454 : decode b_La_law 454 = .ok (.iadd, 1) := by decide +kernel
theorem d_La_law_455 : decode b_La_law 455 = .ok (.iaload, 1) := by decide +kernel
theorem d_La_law_456 : decode b_La_law 456 = .ok (.invokevirtual 101, 3) := by decide +kernel
theorem d_La_law_459 : decode b_La_law 459 = .ok (.istore 6, 2) := by decide +kernel
theorem d_La_law_461 : decode b_La_law 461 = .ok (.aload_n 2, 1) := by decide +kernel
theorem d_La_law_462 : decode b_La_law 462 = .ok (.invokevirtual 87, 3) := by decide +kernel
theorem d_La_law_465 : decode b_La_law 465 = .ok (.iload 5, 2) := by decide +kernel
theorem d_La_law_467 : decode b_La_law 467 = .ok (.if_icmp .eq 5, 3) := by decide +kernel
theorem d_La_law_470 : decode b_La_law 470 = .ok (.iconst 0, 1) := by decide +kernel
theorem d_La_law_471 : decode b_La_law 471 = .ok (.ireturn, 1) := by decide +kernel
theorem d_La_law_472 : decode b_La_law 472 = .ok (.iload 5, 2) := by decide +kernel
theorem d_La_law_474 : decode b_La_law 474 = .ok (.ifCond .ne 15, 3) := by decide +kernel
theorem d_La_law_477 : decode b_La_law 477 = .ok (.aload_n 3, 1) := by decide +kernel
theorem d_La_law_478 : decode b_La_law 478 = .ok (.iconst 0, 1) := by decide +kernel
theorem d_La_law_479 : decode b_La_law 479 = .ok (.laload, 1) := by decide +kernel
theorem d_La_law_480 : decode b_La_law 480 = .ok (.iload 6, 2) := by decide +kernel
theorem d_La_law_482 : decode b_La_law 482 = .ok (.i2l, 1) := by decide +kernel
theorem d_La_law_483 : decode b_La_law 483 = .ok (.lcmp, 1) := by decide +kernel
theorem d_La_law_484 : decode b_La_law 484 = .ok (.ifCond .eq 5, 3) := by decide +kernel
theorem d_La_law_487 : decode b_La_law 487 = .ok (.iconst 0, 1) := by decide +kernel
theorem d_La_law_488 : decode b_La_law 488 = .ok (.ireturn, 1) := by decide +kernel
theorem d_La_law_489 : decode b_La_law 489 = .ok (.goto 906, 3) := by decide +kernel
theorem d_La_law_492 : decode b_La_law 492 = .ok (.aload_n 1, 1) := by decide +kernel
theorem d_La_law_493 : decode b_La_law 493 = .ok (.aload_n 0, 1) := by decide +kernel
theorem d_La_law_494 : decode b_La_law 494 = .ok (.iload 4, 2) := by decide +kernel
theorem d_La_law_496 : decode b_La_law 496 = .ok (.iconst 1, 1) := by decide +kernel
theorem d_La_law_497 : decode b_La_law 497 = .ok (.iadd, 1) := by decide +kernel
theorem d_La_law_498 : decode b_La_law 498 = .ok (.iaload, 1) := by decide +kernel
theorem d_La_law_499 : decode b_La_law 499 = .ok (.aload_n 0, 1) := by decide +kernel
theorem d_La_law_500 : decode b_La_law 500 = .ok (.iload 4, 2) := by decide +kernel
theorem d_La_law_502 : decode b_La_law 502 = .ok (.iconst 2, 1) := by decide +kernel
theorem d_La_law_503 : decode b_La_law 503 = .ok (.iadd, 1) := by decide +kernel
theorem d_La_law_504 : decode b_La_law 504 = .ok (.iaload, 1) := by decide +kernel
theorem d_La_law_505 : decode b_La_law 505 = .ok (.aload_n 3, 1) := by decide +kernel
theorem d_La_law_506 : decode b_La_law 506 = .ok (.invokestatic 102, 3) := by decide +kernel
theorem d_La_law_509 : decode b_La_law 509 = .ok (.istore 5, 2) := by decide +kernel
theorem d_La_law_511 : decode b_La_law 511 = .ok (.aload_n 2, 1) := by decide +kernel
theorem d_La_law_512 : decode b_La_law 512 = .ok (.aload_n 0, 1) := by decide +kernel
theorem d_La_law_513 : decode b_La_law 513 = .ok (.iload 4, 2) := by decide +kernel
theorem d_La_law_515 : decode b_La_law 515 = .ok (.iconst 1, 1) := by decide +kernel
theorem d_La_law_516 : decode b_La_law 516 = .ok (.iadd, 1) := by decide +kernel
theorem d_La_law_517 : decode b_La_law 517 = .ok (.iaload, 1) := by decide +kernel
theorem d_La_law_518 : decode b_La_law 518 = .ok (.aload_n 0, 1) := by decide +kernel
theorem d_La_law_519 : decode b_La_law 519 = .ok (.iload 4, 2) := by decide +kernel
theorem d_La_law_521 : decode b_La_law 521 = .ok (.iconst 2, 1) := by decide +kernel
theorem d_La_law_522 : decode b_La_law 522 = .ok (.iadd, 1) := by decide +kernel
theorem d_La_law_523 : decode b_La_law 523 = .ok (.iaload, 1) := by decide +kernel
theorem d_La_law_524 : decode b_La_law 524 = .ok (.invokevirtual 105, 3) := by decide +kernel
theorem d_La_law_527 : decode b_La_law 527 = .ok (.istore 6, 2) := by decide +kernel
theorem d_La_law_529 : decode b_La_law 529 = .ok (.aload_n 2, 1) := by decide +kernel
theorem d_La_law_530 : decode b_La_law 530 = .ok (.invokevirtual 87, 3) := by decide +kernel
theorem d_La_law_533 : decode b_La_law 533 = .ok (.iload 5, 2) := by decide +kernel
theorem d_La_law_535 : decode b_La_law 535 = .ok (.if_icmp .eq 5, 3) := by decide +kernel
theorem d_La_law_538 : decode b_La_law 538 = .ok (.iconst 0, 1) := by decide +kernel
theorem d_La_law_539 : decode b_La_law 539 = .ok (.ireturn, 1) := by decide +kernel
theorem d_La_law_540 : decode b_La_law 540 = .ok (.iload 5, 2) := by decide +kernel
theorem d_La_law_542 : decode b_La_law 542 = .ok (.ifCond .ne 15, 3) := by decide +kernel
theorem d_La_law_545 : decode b_La_law 545 = .ok (.aload_n 3, 1) := by decide +kernel
theorem d_La_law_546 : decode b_La_law 546 = .ok (.iconst 0, 1) := by decide +kernel
theorem d_La_law_547 : decode b_La_law 547 = .ok (.laload, 1) := by decide +kernel
theorem d_La_law_548 : decode b_La_law 548 = .ok (.iload 6, 2) := by decide +kernel
theorem d_La_law_550 : decode b_La_law 550 = .ok (.i2l, 1) := by decide +kernel
theorem d_La_law_551 : decode b_La_law 551 = .ok (.lcmp, 1) := by decide +kernel
theorem d_La_law_552 : decode b_La_law 552 = .ok (.ifCond .eq 5, 3) := by decide +kernel
theorem d_La_law_555 : decode b_La_law 555 = .ok (.iconst 0, 1) := by decide +kernel
theorem d_La_law_556 : decode b_La_law 556 = .ok (.ireturn, 1) := by decide +kernel
theorem d_La_law_557 : decode b_La_law 557 = .ok (.goto 838, 3) := by decide +kernel
theorem d_La_law_560 : decode b_La_law 560 = .ok (.aload_n 1, 1) := by decide +kernel
theorem d_La_law_561 : decode b_La_law 561 = .ok (.aload_n 0, 1) := by decide +kernel
theorem d_La_law_562 : decode b_La_law 562 = .ok (.iload 4, 2) := by decide +kernel
theorem d_La_law_564 : decode b_La_law 564 = .ok (.iconst 1, 1) := by decide +kernel
theorem d_La_law_565 : decode b_La_law 565 = .ok (.iadd, 1) := by decide +kernel
theorem d_La_law_566 : decode b_La_law 566 = .ok (.iaload, 1) := by decide +kernel
theorem d_La_law_567 : decode b_La_law 567 = .ok (.aload_n 0, 1) := by decide +kernel
theorem d_La_law_568 : decode b_La_law 568 = .ok (.iload 4, 2) := by decide +kernel
theorem d_La_law_570 : decode b_La_law 570 = .ok (.iconst 2, 1) := by decide +kernel
theorem d_La_law_571 : decode b_La_law 571 = .ok (.iadd, 1) := by decide +kernel
theorem d_La_law_572 : decode b_La_law 572 = .ok (.iaload, 1) := by decide +kernel
theorem d_La_law_573 : decode b_La_law 573 = .ok (.aload_n 0, 1) := by decide +kernel
theorem d_La_law_574 : decode b_La_law 574 = .ok (.iload 4, 2) := by decide +kernel
theorem d_La_law_576 : decode b_La_law 576 = .ok (.iconst 3, 1) := by decide +kernel
theorem d_La_law_577 : decode b_La_law 577 = .ok (.iadd, 1) := by decide +kernel
theorem d_La_law_578 : decode b_La_law 578 = .ok (.iaload, 1) := by decide +kernel
theorem d_La_law_579 : decode b_La_law 579 = .ok (.aload_n 3, 1) := by decide +kernel
theorem d_La_law_580 : decode b_La_law 580 = .ok (.invokestatic 106, 3) := by decide +kernel
theorem d_La_law_583 : decode b_La_law 583 = .ok (.istore 5, 2) := by decide +kernel
theorem d_La_law_585 : decode b_La_law 585 = .ok (.aload_n 2, 1) := by decide +kernel
theorem d_La_law_586 : decode b_La_law 586 = .ok (.aload_n 0, 1) := by decide +kernel
theorem d_La_law_587 : decode b_La_law 587 = .ok (.iload 4, 2) := by decide +kernel
theorem d_La_law_589 : decode b_La_law 589 = .ok (.iconst 1, 1) := by decide +kernel
theorem d_La_law_590 : decode b_La_law 590 = .ok (.iadd, 1) := by decide +kernel
theorem d_La_law_591 : decode b_La_law 591 = .ok (.iaload, 1) := by decide +kernel
theorem d_La_law_592 : decode b_La_law 592 = .ok (.aload_n 0, 1) := by decide +kernel
theorem d_La_law_593 : decode b_La_law 593 = .ok (.iload 4, 2) := by decide +kernel
theorem d_La_law_595 : decode b_La_law 595 = .ok (.iconst 2, 1) := by decide +kernel
theorem d_La_law_596 : decode b_La_law 596 = .ok (.iadd, 1) := by decide +kernel
theorem d_La_law_597 : decode b_La_law 597 = .ok (.iaload, 1) := by decide +kernel
theorem d_La_law_598 : decode b_La_law 598 = .ok (.aload_n 0, 1) := by decide +kernel
theorem d_La_law_599 : decode b_La_law 599 = .ok (.iload 4, 2) := by decide +kernel
theorem d_La_law_601 : decode b_La_law 601 = .ok (.iconst 3, 1) := by decide +kernel
theorem d_La_law_602 : decode b_La_law 602 = .ok (.iadd, 1) := by decide +kernel
theorem d_La_law_603 : decode b_La_law 603 = .ok (.iaload, 1) := by decide +kernel
theorem d_La_law_604 : decode b_La_law 604 = .ok (.invokevirtual 108, 3) := by decide +kernel
theorem d_La_law_607 : decode b_La_law 607 = .ok (.istore 6, 2) := by decide +kernel
theorem d_La_law_609 : decode b_La_law 609 = .ok (.aload_n 2, 1) := by decide +kernel
theorem d_La_law_610 : decode b_La_law 610 = .ok (.invokevirtual 87, 3) := by decide +kernel
theorem d_La_law_613 : decode b_La_law 613 = .ok (.iload 5, 2) := by decide +kernel
theorem d_La_law_615 : decode b_La_law 615 = .ok (.if_icmp .eq 5, 3) := by decide +kernel
theorem d_La_law_618 : decode b_La_law 618 = .ok (.iconst 0, 1) := by decide +kernel
theorem d_La_law_619 : decode b_La_law 619 = .ok (.ireturn, 1) := by decide +kernel
theorem d_La_law_620 : decode b_La_law 620 = .ok (.iload 5, 2) := by decide +kernel
theorem d_La_law_622 : decode b_La_law 622 = .ok (.ifCond .ne 15, 3) := by decide +kernel
theorem d_La_law_625 : decode b_La_law 625 = .ok (.aload_n 3, 1) := by decide +kernel
theorem d_La_law_626 : decode b_La_law 626 = .ok (.iconst 0, 1) := by decide +kernel
theorem d_La_law_627 : decode b_La_law 627 = .ok (.laload, 1) := by decide +kernel
theorem d_La_law_628 : decode b_La_law 628 = .ok (.iload 6, 2) := by decide +kernel
theorem d_La_law_630 : decode b_La_law 630 = .ok (.i2l, 1) := by decide +kernel
theorem d_La_law_631 : decode b_La_law 631 = .ok (.lcmp, 1) := by decide +kernel
theorem d_La_law_632 : decode b_La_law 632 = .ok (.ifCond .eq 5, 3) := by decide +kernel
theorem d_La_law_635 : decode b_La_law 635 = .ok (.iconst 0, 1) := by decide +kernel
theorem d_La_law_636 : decode b_La_law 636 = .ok (.ireturn, 1) := by decide +kernel
theorem d_La_law_637 : decode b_La_law 637 = .ok (.goto 758, 3) := by decide +kernel
theorem d_La_law_640 : decode b_La_law 640 = .ok (.aload_n 1, 1) := by decide +kernel
theorem d_La_law_641 : decode b_La_law 641 = .ok (.aload_n 0, 1) := by decide +kernel
theorem d_La_law_642 : decode b_La_law 642 = .ok (.iload 4, 2) := by decide +kernel
theorem d_La_law_644 : decode b_La_law 644 = .ok (.iconst 1, 1) := by decide +kernel
theorem d_La_law_645 : decode b_La_law 645 = .ok (.iadd, 1) := by decide +kernel
theorem d_La_law_646 : decode b_La_law 646 = .ok (.iaload, 1) := by decide +kernel
theorem d_La_law_647 : decode b_La_law 647 = .ok (.aload_n 3, 1) := by decide +kernel
theorem d_La_law_648 : decode b_La_law 648 = .ok (.invokestatic 109, 3) := by decide +kernel
theorem d_La_law_651 : decode b_La_law 651 = .ok (.istore 5, 2) := by decide +kernel
theorem d_La_law_653 : decode b_La_law 653 = .ok (.aload_n 2, 1) := by decide +kernel
theorem d_La_law_654 : decode b_La_law 654 = .ok (.aload_n 0, 1) := by decide +kernel
theorem d_La_law_655 : decode b_La_law 655 = .ok (.iload 4, 2) := by decide +kernel
theorem d_La_law_657 : decode b_La_law 657 = .ok (.iconst 1, 1) := by decide +kernel
theorem d_La_law_658 : decode b_La_law 658 = .ok (.iadd, 1) := by decide +kernel
theorem d_La_law_659 : decode b_La_law 659 = .ok (.iaload, 1) := by decide +kernel
theorem d_La_law_660 : decode b_La_law 660 = .ok (.invokevirtual 111, 3) := by decide +kernel
theorem d_La_law_663 : decode b_La_law 663 = .ok (.istore 6, 2) := by decide +kernel
theorem d_La_law_665 : decode b_La_law 665 = .ok (.aload_n 2, 1) := by decide +kernel
theorem d_La_law_666 : decode b_La_law 666 = .ok (.invokevirtual 87, 3) := by decide +kernel
theorem d_La_law_669 : decode b_La_law 669 = .ok (.iload 5, 2) := by decide +kernel
theorem d_La_law_671 : decode b_La_law 671 = .ok (.if_icmp .eq 5, 3) := by decide +kernel
theorem d_La_law_674 : decode b_La_law 674 = .ok (.iconst 0, 1) := by decide +kernel
theorem d_La_law_675 : decode b_La_law 675 = .ok (.ireturn, 1) := by decide +kernel
theorem d_La_law_676 : decode b_La_law 676 = .ok (.iload 5, 2) := by decide +kernel
theorem d_La_law_678 : decode b_La_law 678 = .ok (.ifCond .ne 15, 3) := by decide +kernel
theorem d_La_law_681 : decode b_La_law 681 = .ok (.aload_n 3, 1) := by decide +kernel
theorem d_La_law_682 : decode b_La_law 682 = .ok (.iconst 0, 1) := by decide +kernel
theorem d_La_law_683 : decode b_La_law 683 = .ok (.laload, 1) := by decide +kernel
theorem d_La_law_684 : decode b_La_law 684 = .ok (.iload 6, 2) := by decide +kernel
theorem d_La_law_686 : decode b_La_law 686 = .ok (.i2l, 1) := by decide +kernel
theorem d_La_law_687 : decode b_La_law 687 = .ok (.lcmp, 1) := by decide +kernel
theorem d_La_law_688 : decode b_La_law 688 = .ok (.ifCond .eq 5, 3) := by decide +kernel
theorem d_La_law_691 : decode b_La_law 691 = .ok (.iconst 0, 1) := by decide +kernel
theorem d_La_law_692 : decode b_La_law 692 = .ok (.ireturn, 1) := by decide +kernel
theorem d_La_law_693 : decode b_La_law 693 = .ok (.goto 702, 3) := by decide +kernel
theorem d_La_law_696 : decode b_La_law 696 = .ok (.aload_n 1, 1) := by decide +kernel
theorem d_La_law_697 : decode b_La_law 697 = .ok (.aload_n 0, 1) := by decide +kernel
theorem d_La_law_698 : decode b_La_law 698 = .ok (.iload 4, 2) := by decide +kernel
theorem d_La_law_700 : decode b_La_law 700 = .ok (.iconst 1, 1) := by decide +kernel
theorem d_La_law_701 : decode b_La_law 701 = .ok (.iadd, 1) := by decide +kernel
theorem d_La_law_702 : decode b_La_law 702 = .ok (.iaload, 1) := by decide +kernel
theorem d_La_law_703 : decode b_La_law 703 = .ok (.aload_n 3, 1) := by decide +kernel
theorem d_La_law_704 : decode b_La_law 704 = .ok (.invokestatic 112, 3) := by decide +kernel
theorem d_La_law_707 : decode b_La_law 707 = .ok (.istore 5, 2) := by decide +kernel
theorem d_La_law_709 : decode b_La_law 709 = .ok (.aload_n 2, 1) := by decide +kernel
theorem d_La_law_710 : decode b_La_law 710 = .ok (.aload_n 0, 1) := by decide +kernel
theorem d_La_law_711 : decode b_La_law 711 = .ok (.iload 4, 2) := by decide +kernel
theorem d_La_law_713 : decode b_La_law 713 = .ok (.iconst 1, 1) := by decide +kernel
theorem d_La_law_714 : decode b_La_law 714 = .ok (.iadd, 1) := by decide +kernel
theorem d_La_law_715 : decode b_La_law 715 = .ok (.iaload, 1) := by decide +kernel
theorem d_La_law_716 : decode b_La_law 716 = .ok (.invokevirtual 114, 3) := by decide +kernel
theorem d_La_law_719 : decode b_La_law 719 = .ok (.istore 6, 2) := by decide +kernel
theorem d_La_law_721 : decode b_La_law 721 = .ok (.aload_n 2, 1) := by decide +kernel
theorem d_La_law_722 : decode b_La_law 722 = .ok (.invokevirtual 87, 3) := by decide +kernel
theorem d_La_law_725 : decode b_La_law 725 = .ok (.iload 5, 2) := by decide +kernel
theorem d_La_law_727 : decode b_La_law 727 = .ok (.if_icmp .eq 5, 3) := by decide +kernel
theorem d_La_law_730 : decode b_La_law 730 = .ok (.iconst 0, 1) := by decide +kernel
theorem d_La_law_731 : decode b_La_law 731 = .ok (.ireturn, 1) := by decide +kernel
theorem d_La_law_732 : decode b_La_law 732 = .ok (.iload 5, 2) := by decide +kernel
theorem d_La_law_734 : decode b_La_law 734 = .ok (.ifCond .ne 15, 3) := by decide +kernel
theorem d_La_law_737 : decode b_La_law 737 = .ok (.aload_n 3, 1) := by decide +kernel
theorem d_La_law_738 : decode b_La_law 738 = .ok (.iconst 0, 1) := by decide +kernel
theorem d_La_law_739 : decode b_La_law 739 = .ok (.laload, 1) := by decide +kernel
theorem d_La_law_740 : decode b_La_law 740 = .ok (.iload 6, 2) := by decide +kernel
theorem d_La_law_742 : decode b_La_law 742 = .ok (.i2l, 1) := by decide +kernel
theorem d_La_law_743 : decode b_La_law 743 = .ok (.lcmp, 1) := by decide +kernel
theorem d_La_law_744 : decode b_La_law 744 = .ok (.ifCond .eq 5, 3) := by decide +kernel
theorem d_La_law_747 : decode b_La_law 747 = .ok (.iconst 0, 1) := by decide +kernel
theorem d_La_law_748 : decode b_La_law 748 = .ok (.ireturn, 1) := by decide +kernel
theorem d_La_law_749 : decode b_La_law 749 = .ok (.goto 646, 3) := by decide +kernel
theorem d_La_law_752 : decode b_La_law 752 = .ok (.aload_n 1, 1) := by decide +kernel
theorem d_La_law_753 : decode b_La_law 753 = .ok (.aload_n 0, 1) := by decide +kernel
theorem d_La_law_754 : decode b_La_law 754 = .ok (.iload 4, 2) := by decide +kernel
theorem d_La_law_756 : decode b_La_law 756 = .ok (.iconst 1, 1) := by decide +kernel
theorem d_La_law_757 : decode b_La_law 757 = .ok (.iadd, 1) := by decide +kernel
theorem d_La_law_758 : decode b_La_law 758 = .ok (.iaload, 1) := by decide +kernel
theorem d_La_law_759 : decode b_La_law 759 = .ok (.aload_n 0, 1) := by decide +kernel
theorem d_La_law_760 : decode b_La_law 760 = .ok (.iload 4, 2) := by decide +kernel
theorem d_La_law_762 : decode b_La_law 762 = .ok (.iconst 2, 1) := by decide +kernel
theorem d_La_law_763 : decode b_La_law 763 = .ok (.iadd, 1) := by decide +kernel
theorem d_La_law_764 : decode b_La_law 764 = .ok (.iaload, 1) := by decide +kernel
theorem d_La_law_765 : decode b_La_law 765 = .ok (.aload_n 0, 1) := by decide +kernel
theorem d_La_law_766 : decode b_La_law 766 = .ok (.iload 4, 2) := by decide +kernel
theorem d_La_law_768 : decode b_La_law 768 = .ok (.iconst 3, 1) := by decide +kernel
theorem d_La_law_769 : decode b_La_law 769 = .ok (.iadd, 1) := by decide +kernel
theorem d_La_law_770 : decode b_La_law 770 = .ok (.iaload, 1) := by decide +kernel
theorem d_La_law_771 : decode b_La_law 771 = .ok (.aload_n 3, 1) := by decide +kernel
theorem d_La_law_772 : decode b_La_law 772 = .ok (.invokestatic 115, 3) := by decide +kernel
theorem d_La_law_775 : decode b_La_law 775 = .ok (.istore 5, 2) := by decide +kernel
theorem d_La_law_777 : decode b_La_law 777 = .ok (.aload_n 2, 1) := by decide +kernel
theorem d_La_law_778 : decode b_La_law 778 = .ok (.aload_n 0, 1) := by decide +kernel
theorem d_La_law_779 : decode b_La_law 779 = .ok (.iload 4, 2) := by decide +kernel
theorem d_La_law_781 : decode b_La_law 781 = .ok (.iconst 1, 1) := by decide +kernel
theorem d_La_law_782 : decode b_La_law 782 = .ok (.iadd, 1) := by decide +kernel
theorem d_La_law_783 : decode b_La_law 783 = .ok (.iaload, 1) := by decide +kernel
theorem d_La_law_784 : decode b_La_law 784 = .ok (.aload_n 0, 1) := by decide +kernel
theorem d_La_law_785 : decode b_La_law 785 = .ok (.iload 4, 2) := by decide +kernel
theorem d_La_law_787 : decode b_La_law 787 = .ok (.iconst 2, 1) := by decide +kernel
theorem d_La_law_788 : decode b_La_law 788 = .ok (.iadd, 1) := by decide +kernel
theorem d_La_law_789 : decode b_La_law 789 = .ok (.iaload, 1) := by decide +kernel
theorem d_La_law_790 : decode b_La_law 790 = .ok (.aload_n 0, 1) := by decide +kernel
theorem d_La_law_791 : decode b_La_law 791 = .ok (.iload 4, 2) := by decide +kernel
theorem d_La_law_793 : decode b_La_law 793 = .ok (.iconst 3, 1) := by decide +kernel
theorem d_La_law_794 : decode b_La_law 794 = .ok (.iadd, 1) := by decide +kernel
theorem d_La_law_795 : decode b_La_law 795 = .ok (.iaload, 1) := by decide +kernel
theorem d_La_law_796 : decode b_La_law 796 = .ok (.invokevirtual 117, 3) := by decide +kernel
theorem d_La_law_799 : decode b_La_law 799 = .ok (.istore 6, 2) := by decide +kernel
theorem d_La_law_801 : decode b_La_law 801 = .ok (.aload_n 2, 1) := by decide +kernel
theorem d_La_law_802 : decode b_La_law 802 = .ok (.invokevirtual 87, 3) := by decide +kernel
theorem d_La_law_805 : decode b_La_law 805 = .ok (.iload 5, 2) := by decide +kernel
theorem d_La_law_807 : decode b_La_law 807 = .ok (.if_icmp .eq 5, 3) := by decide +kernel
theorem d_La_law_810 : decode b_La_law 810 = .ok (.iconst 0, 1) := by decide +kernel
theorem d_La_law_811 : decode b_La_law 811 = .ok (.ireturn, 1) := by decide +kernel
theorem d_La_law_812 : decode b_La_law 812 = .ok (.iload 5, 2) := by decide +kernel
theorem d_La_law_814 : decode b_La_law 814 = .ok (.ifCond .ne 15, 3) := by decide +kernel
theorem d_La_law_817 : decode b_La_law 817 = .ok (.aload_n 3, 1) := by decide +kernel
theorem d_La_law_818 : decode b_La_law 818 = .ok (.iconst 0, 1) := by decide +kernel
theorem d_La_law_819 : decode b_La_law 819 = .ok (.laload, 1) := by decide +kernel
theorem d_La_law_820 : decode b_La_law 820 = .ok (.iload 6, 2) := by decide +kernel
theorem d_La_law_822 : decode b_La_law 822 = .ok (.i2l, 1) := by decide +kernel
theorem d_La_law_823 : decode b_La_law 823 = .ok (.lcmp, 1) := by decide +kernel
theorem d_La_law_824 : decode b_La_law 824 = .ok (.ifCond .eq 5, 3) := by decide +kernel
theorem d_La_law_827 : decode b_La_law 827 = .ok (.iconst 0, 1) := by decide +kernel
theorem d_La_law_828 : decode b_La_law 828 = .ok (.ireturn, 1) := by decide +kernel
theorem d_La_law_829 : decode b_La_law 829 = .ok (.goto 566, 3) := by decide +kernel
theorem d_La_law_832 : decode b_La_law 832 = .ok (.aload_n 1, 1) := by decide +kernel
theorem d_La_law_833 : decode b_La_law 833 = .ok (.aload_n 0, 1) := by decide +kernel
theorem d_La_law_834 : decode b_La_law 834 = .ok (.iload 4, 2) := by decide +kernel
theorem d_La_law_836 : decode b_La_law 836 = .ok (.iconst 1, 1) := by decide +kernel
theorem d_La_law_837 : decode b_La_law 837 = .ok (.iadd, 1) := by decide +kernel
theorem d_La_law_838 : decode b_La_law 838 = .ok (.iaload, 1) := by decide +kernel
theorem d_La_law_839 : decode b_La_law 839 = .ok (.aload_n 0, 1) := by decide +kernel
theorem d_La_law_840 : decode b_La_law 840 = .ok (.iload 4, 2) := by decide +kernel
theorem d_La_law_842 : decode b_La_law 842 = .ok (.iconst 2, 1) := by decide +kernel
theorem d_La_law_843 : decode b_La_law 843 = .ok (.iadd, 1) := by decide +kernel
theorem d_La_law_844 : decode b_La_law 844 = .ok (.iaload, 1) := by decide +kernel
theorem d_La_law_845 : decode b_La_law 845 = .ok (.aload_n 3, 1) := by decide +kernel
theorem d_La_law_846 : decode b_La_law 846 = .ok (.invokestatic 118, 3) := by decide +kernel
theorem d_La_law_849 : decode b_La_law 849 = .ok (.istore 5, 2) := by decide +kernel
theorem d_La_law_851 : decode b_La_law 851 = .ok (.aload_n 2, 1) := by decide +kernel
theorem d_La_law_852 : decode b_La_law 852 = .ok (.aload_n 0, 1) := by decide +kernel
theorem d_La_law_853 : decode b_La_law 853 = .ok (.iload 4, 2) := by decide +kernel
theorem d_La_law_855 : decode b_La_law 855 = .ok (.iconst 1, 1) := by decide +kernel
theorem d_La_law_856 : decode b_La_law 856 = .ok (.iadd, 1) := by decide +kernel
theorem d_La_law_857 : decode b_La_law 857 = .ok (.iaload, 1) := by decide +kernel
theorem d_La_law_858 : decode b_La_law 858 = .ok (.aload_n 0, 1) := by decide +kernel
theorem d_La_law_859 : decode b_La_law 859 = .ok (.iload 4, 2) := by decide +kernel
theorem d_La_law_861 : decode b_La_law 861 = .ok (.iconst 2, 1) := by decide +kernel
theorem d_La_law_862 : decode b_La_law 862 = .ok (.iadd, 1) := by decide +kernel
theorem d_La_law_863 : decode b_La_law 863 = .ok (.iaload, 1) := by decide +kernel
theorem d_La_law_864 : decode b_La_law 864 = .ok (.invokevirtual 120, 3) := by decide +kernel
theorem d_La_law_867 : decode b_La_law 867 = .ok (.istore 6, 2) := by decide +kernel
theorem d_La_law_869 : decode b_La_law 869 = .ok (.aload_n 2, 1) := by decide +kernel
theorem d_La_law_870 : decode b_La_law 870 = .ok (.invokevirtual 87, 3) := by decide +kernel
theorem d_La_law_873 : decode b_La_law 873 = .ok (.iload 5, 2) := by decide +kernel
theorem d_La_law_875 : decode b_La_law 875 = .ok (.if_icmp .eq 5, 3) := by decide +kernel
theorem d_La_law_878 : decode b_La_law 878 = .ok (.iconst 0, 1) := by decide +kernel
theorem d_La_law_879 : decode b_La_law 879 = .ok (.ireturn, 1) := by decide +kernel
theorem d_La_law_880 : decode b_La_law 880 = .ok (.iload 5, 2) := by decide +kernel
theorem d_La_law_882 : decode b_La_law 882 = .ok (.ifCond .ne 15, 3) := by decide +kernel
theorem d_La_law_885 : decode b_La_law 885 = .ok (.aload_n 3, 1) := by decide +kernel
theorem d_La_law_886 : decode b_La_law 886 = .ok (.iconst 0, 1) := by decide +kernel
theorem d_La_law_887 : decode b_La_law 887 = .ok (.laload, 1) := by decide +kernel
theorem d_La_law_888 : decode b_La_law 888 = .ok (.iload 6, 2) := by decide +kernel
theorem d_La_law_890 : decode b_La_law 890 = .ok (.i2l, 1) := by decide +kernel
theorem d_La_law_891 : decode b_La_law 891 = .ok (.lcmp, 1) := by decide +kernel
theorem d_La_law_892 : decode b_La_law 892 = .ok (.ifCond .eq 5, 3) := by decide +kernel
theorem d_La_law_895 : decode b_La_law 895 = .ok (.iconst 0, 1) := by decide +kernel
theorem d_La_law_896 : decode b_La_law 896 = .ok (.ireturn, 1) := by decide +kernel
theorem d_La_law_897 : decode b_La_law 897 = .ok (.goto 498, 3) := by decide +kernel
theorem d_La_law_900 : decode b_La_law 900 = .ok (.aload_n 1, 1) := by decide +kernel
theorem d_La_law_901 : decode b_La_law 901 = .ok (.aload_n 0, 1) := by decide +kernel
theorem d_La_law_902 : decode b_La_law 902 = .ok (.iload 4, 2) := by decide +kernel
theorem d_La_law_904 : decode b_La_law 904 = .ok (.iconst 1, 1) := by decide +kernel
theorem d_La_law_905 : decode b_La_law 905 = .ok (.iadd, 1) := by decide +kernel
theorem d_La_law_906 : decode b_La_law 906 = .ok (.iaload, 1) := by decide +kernel
theorem d_La_law_907 : decode b_La_law 907 = .ok (.aload_n 0, 1) := by decide +kernel
theorem d_La_law_908 : decode b_La_law 908 = .ok (.iload 4, 2) := by decide +kernel
theorem d_La_law_910 : decode b_La_law 910 = .ok (.iconst 2, 1) := by decide +kernel
theorem d_La_law_911 : decode b_La_law 911 = .ok (.iadd, 1) := by decide +kernel
theorem d_La_law_912 : decode b_La_law 912 = .ok (.iaload, 1) := by decide +kernel
theorem d_La_law_913 : decode b_La_law 913 = .ok (.aload_n 3, 1) := by decide +kernel
theorem d_La_law_914 : decode b_La_law 914 = .ok (.invokestatic 121, 3) := by decide +kernel
theorem d_La_law_917 : decode b_La_law 917 = .ok (.istore 5, 2) := by decide +kernel
theorem d_La_law_919 : decode b_La_law 919 = .ok (.aload_n 2, 1) := by decide +kernel
theorem d_La_law_920 : decode b_La_law 920 = .ok (.aload_n 0, 1) := by decide +kernel
theorem d_La_law_921 : decode b_La_law 921 = .ok (.iload 4, 2) := by decide +kernel
theorem d_La_law_923 : decode b_La_law 923 = .ok (.iconst 1, 1) := by decide +kernel
theorem d_La_law_924 : decode b_La_law 924 = .ok (.iadd, 1) := by decide +kernel
theorem d_La_law_925 : decode b_La_law 925 = .ok (.iaload, 1) := by decide +kernel
theorem d_La_law_926 : decode b_La_law 926 = .ok (.aload_n 0, 1) := by decide +kernel
theorem d_La_law_927 : decode b_La_law 927 = .ok (.iload 4, 2) := by decide +kernel
theorem d_La_law_929 : decode b_La_law 929 = .ok (.iconst 2, 1) := by decide +kernel
theorem d_La_law_930 : decode b_La_law 930 = .ok (.iadd, 1) := by decide +kernel
theorem d_La_law_931 : decode b_La_law 931 = .ok (.iaload, 1) := by decide +kernel
theorem d_La_law_932 : decode b_La_law 932 = .ok (.invokevirtual 123, 3) := by decide +kernel
theorem d_La_law_935 : decode b_La_law 935 = .ok (.istore 6, 2) := by decide +kernel
theorem d_La_law_937 : decode b_La_law 937 = .ok (.aload_n 2, 1) := by decide +kernel
theorem d_La_law_938 : decode b_La_law 938 = .ok (.invokevirtual 87, 3) := by decide +kernel
theorem d_La_law_941 : decode b_La_law 941 = .ok (.iload 5, 2) := by decide +kernel
theorem d_La_law_943 : decode b_La_law 943 = .ok (.if_icmp .eq 5, 3) := by decide +kernel
theorem d_La_law_946 : decode b_La_law 946 = .ok (.iconst 0, 1) := by decide +kernel
theorem d_La_law_947 : decode b_La_law 947 = .ok (.ireturn, 1) := by decide +kernel
theorem d_La_law_948 : decode b_La_law 948 = .ok (.iload 5, 2) := by decide +kernel
theorem d_La_law_950 : decode b_La_law 950 = .ok (.ifCond .ne 15, 3) := by decide +kernel
theorem d_La_law_953 : decode b_La_law 953 = .ok (.aload_n 3, 1) := by decide +kernel
theorem d_La_law_954 : decode b_La_law 954 = .ok (.iconst 0, 1) := by decide +kernel
theorem d_La_law_955 : decode b_La_law 955 = .ok (.laload, 1) := by decide +kernel
theorem d_La_law_956 : decode b_La_law 956 = .ok (.iload 6, 2) := by decide +kernel
theorem d_La_law_958 : decode b_La_law 958 = .ok (.i2l, 1) := by decide +kernel
theorem d_La_law_959 : decode b_La_law 959 = .ok (.lcmp, 1) := by decide +kernel
theorem d_La_law_960 : decode b_La_law 960 = .ok (.ifCond .eq 5, 3) := by decide +kernel
theorem d_La_law_963 : decode b_La_law 963 = .ok (.iconst 0, 1) := by decide +kernel
theorem d_La_law_964 : decode b_La_law 964 = .ok (.ireturn, 1) := by decide +kernel
theorem d_La_law_965 : decode b_La_law 965 = .ok (.goto 430, 3) := by decide +kernel
theorem d_La_law_968 : decode b_La_law 968 = .ok (.aload_n 1, 1) := by decide +kernel
theorem d_La_law_969 : decode b_La_law 969 = .ok (.aload_n 0, 1) := by decide +kernel
theorem d_La_law_970 : decode b_La_law 970 = .ok (.iload 4, 2) := by decide +kernel
theorem d_La_law_972 : decode b_La_law 972 = .ok (.iconst 1, 1) := by decide +kernel
theorem d_La_law_973 : decode b_La_law 973 = .ok (.iadd, 1) := by decide +kernel
theorem d_La_law_974 : decode b_La_law 974 = .ok (.iaload, 1) := by decide +kernel
theorem d_La_law_975 : decode b_La_law 975 = .ok (.aload_n 0, 1) := by decide +kernel
theorem d_La_law_976 : decode b_La_law 976 = .ok (.iload 4, 2) := by decide +kernel
theorem d_La_law_978 : decode b_La_law 978 = .ok (.iconst 2, 1) := by decide +kernel
theorem d_La_law_979 : decode b_La_law 979 = .ok (.iadd, 1) := by decide +kernel
theorem d_La_law_980 : decode b_La_law 980 = .ok (.iaload, 1) := by decide +kernel
theorem d_La_law_981 : decode b_La_law 981 = .ok (.aload_n 3, 1) := by decide +kernel
theorem d_La_law_982 : decode b_La_law 982 = .ok (.invokestatic 124, 3) := by decide +kernel
theorem d_La_law_985 : decode b_La_law 985 = .ok (.istore 5, 2) := by decide +kernel
theorem d_La_law_987 : decode b_La_law 987 = .ok (.aload_n 2, 1) := by decide +kernel
theorem d_La_law_988 : decode b_La_law 988 = .ok (.aload_n 0, 1) := by decide +kernel
theorem d_La_law_989 : decode b_La_law 989 = .ok (.iload 4, 2) := by decide +kernel
theorem d_La_law_991 : decode b_La_law 991 = .ok (.iconst 1, 1) := by decide +kernel
theorem d_La_law_992 : decode b_La_law 992 = .ok (.iadd, 1) := by decide +kernel
theorem d_La_law_993 : decode b_La_law 993 = .ok (.iaload, 1) := by decide +kernel
theorem d_La_law_994 : decode b_La_law 994 = .ok (.aload_n 0, 1) := by decide +kernel
theorem d_La_law_995 : decode b_La_law 995 = .ok (.iload 4, 2) := by decide +kernel
theorem d_La_law_997 : decode b_La_law 997 = .ok (.iconst 2, 1) := by decide +kernel
theorem d_La_law_998 : decode b_La_law 998 = .ok (.iadd, 1) := by decide +kernel
theorem d_La_law_999 : decode b_La_law 999 = .ok (.iaload, 1) := by decide +kernel
theorem d_La_law_1000 : decode b_La_law 1000 = .ok (.invokevirtual 126, 3) := by decide +kernel
theorem d_La_law_1003 : decode b_La_law 1003 = .ok (.istore 6, 2) := by decide +kernel
theorem d_La_law_1005 : decode b_La_law 1005 = .ok (.aload_n 2, 1) := by decide +kernel
theorem d_La_law_1006 : decode b_La_law 1006 = .ok (.invokevirtual 87, 3) := by decide +kernel
theorem d_La_law_1009 : decode b_La_law 1009 = .ok (.iload 5, 2) := by decide +kernel
theorem d_La_law_1011 : decode b_La_law 1011 = .ok (.if_icmp .eq 5, 3) := by decide +kernel
theorem d_La_law_1014 : decode b_La_law 1014 = .ok (.iconst 0, 1) := by decide +kernel
theorem d_La_law_1015 : decode b_La_law 1015 = .ok (.ireturn, 1) := by decide +kernel
theorem d_La_law_1016 : decode b_La_law 1016 = .ok (.iload 5, 2) := by decide +kernel
theorem d_La_law_1018 : decode b_La_law 1018 = .ok (.ifCond .ne 15, 3) := by decide +kernel
theorem d_La_law_1021 : decode b_La_law 1021 = .ok (.aload_n 3, 1) := by decide +kernel
theorem d_La_law_1022 : decode b_La_law 1022 = .ok (.iconst 0, 1) := by decide +kernel
theorem d_La_law_1023 : decode b_La_law 1023 = .ok (.laload, 1) := by decide +kernel
theorem d_La_law_1024 : decode b_La_law 1024 = .ok (.iload 6, 2) := by decide +kernel
theorem d_La_law_1026 : decode b_La_law 1026 = .ok (.i2l, 1) := by decide +kernel
theorem d_La_law_1027 : decode b_La_law 1027 = .ok (.lcmp, 1) := by decide +kernel
theorem d_La_law_1028 : decode b_La_law 1028 = .ok (.ifCond .eq 5, 3) := by decide +kernel
theorem d_La_law_1031 : decode b_La_law 1031 = .ok (.iconst 0, 1) := by decide +kernel
theorem d_La_law_1032 : decode b_La_law 1032 = .ok (.ireturn, 1) := by decide +kernel
theorem d_La_law_1033 : decode b_La_law 1033 = .ok (.goto 362, 3) := by decide +kernel
theorem d_La_law_1036 : decode b_La_law 1036 = .ok (.aload_n 1, 1) := by decide +kernel
theorem d_La_law_1037 : decode b_La_law 1037 = .ok (.aload_n 0, 1) := by decide +kernel
theorem d_La_law_1038 : decode b_La_law 1038 = .ok (.iload 4, 2) := by decide +kernel
theorem d_La_law_1040 : decode b_La_law 1040 = .ok (.iconst 1, 1) := by decide +kernel
theorem d_La_law_1041 : decode b_La_law 1041 = .ok (.iadd, 1) := by decide +kernel
theorem d_La_law_1042 : decode b_La_law 1042 = .ok (.iaload, 1) := by decide +kernel
theorem d_La_law_1043 : decode b_La_law 1043 = .ok (.aload_n 3, 1) := by decide +kernel
theorem d_La_law_1044 : decode b_La_law 1044 = .ok (.invokestatic 127, 3) := by decide +kernel
theorem d_La_law_1047 : decode b_La_law 1047 = .ok (.istore 5, 2) := by decide +kernel
theorem d_La_law_1049 : decode b_La_law 1049 = .ok (.aload_n 2, 1) := by decide +kernel
theorem d_La_law_1050 : decode b_La_law 1050 = .ok (.aload_n 0, 1) := by decide +kernel
theorem d_La_law_1051 : decode b_La_law 1051 = .ok (.iload 4, 2) := by decide +kernel
theorem d_La_law_1053 : decode b_La_law 1053 = .ok (.iconst 1, 1) := by decide +kernel
theorem d_La_law_1054 : decode b_La_law 1054 = .ok (.iadd, 1) := by decide +kernel
theorem d_La_law_1055 : decode b_La_law 1055 = .ok (.iaload, 1) := by decide +kernel
theorem d_La_law_1056 : decode b_La_law 1056 = .ok (.invokevirtual 129, 3) := by decide +kernel
theorem d_La_law_1059 : decode b_La_law 1059 = .ok (.istore 6, 2) := by decide +kernel
theorem d_La_law_1061 : decode b_La_law 1061 = .ok (.aload_n 2, 1) := by decide +kernel
theorem d_La_law_1062 : decode b_La_law 1062 = .ok (.invokevirtual 87, 3) := by decide +kernel
theorem d_La_law_1065 : decode b_La_law 1065 = .ok (.iload 5, 2) := by decide +kernel
theorem d_La_law_1067 : decode b_La_law 1067 = .ok (.if_icmp .eq 5, 3) := by decide +kernel
theorem d_La_law_1070 : decode b_La_law 1070 = .ok (.iconst 0, 1) := by decide +kernel
theorem d_La_law_1071 : decode b_La_law 1071 = .ok (.ireturn, 1) := by decide +kernel
theorem d_La_law_1072 : decode b_La_law 1072 = .ok (.iload 5, 2) := by decide +kernel
theorem d_La_law_1074 : decode b_La_law 1074 = .ok (.ifCond .ne 15, 3) := by decide +kernel
theorem d_La_law_1077 : decode b_La_law 1077 = .ok (.aload_n 3, 1) := by decide +kernel
theorem d_La_law_1078 : decode b_La_law 1078 = .ok (.iconst 0, 1) := by decide +kernel
theorem d_La_law_1079 : decode b_La_law 1079 = .ok (.laload, 1) := by decide +kernel
theorem d_La_law_1080 : decode b_La_law 1080 = .ok (.iload 6, 2) := by decide +kernel
theorem d_La_law_1082 : decode b_La_law 1082 = .ok (.i2l, 1) := by decide +kernel
theorem d_La_law_1083 : decode b_La_law 1083 = .ok (.lcmp, 1) := by decide +kernel
theorem d_La_law_1084 : decode b_La_law 1084 = .ok (.ifCond .eq 5, 3) := by decide +kernel
theorem d_La_law_1087 : decode b_La_law 1087 = .ok (.iconst 0, 1) := by decide +kernel
theorem d_La_law_1088 : decode b_La_law 1088 = .ok (.ireturn, 1) := by decide +kernel
theorem d_La_law_1089 : decode b_La_law 1089 = .ok (.goto 306, 3) := by decide +kernel
theorem d_La_law_1092 : decode b_La_law 1092 = .ok (.aload_n 1, 1) := by decide +kernel
theorem d_La_law_1093 : decode b_La_law 1093 = .ok (.aload_n 0, 1) := by decide +kernel
theorem d_La_law_1094 : decode b_La_law 1094 = .ok (.iload 4, 2) := by decide +kernel
theorem d_La_law_1096 : decode b_La_law 1096 = .ok (.iconst 1, 1) := by decide +kernel
theorem d_La_law_1097 : decode b_La_law 1097 = .ok (.iadd, 1) := by decide +kernel
theorem d_La_law_1098 : decode b_La_law 1098 = .ok (.iaload, 1) := by decide +kernel
theorem d_La_law_1099 : decode b_La_law 1099 = .ok (.aload_n 0, 1) := by decide +kernel
theorem d_La_law_1100 : decode b_La_law 1100 = .ok (.iload 4, 2) := by decide +kernel
theorem d_La_law_1102 : decode b_La_law 1102 = .ok (.iconst 2, 1) := by decide +kernel
theorem d_La_law_1103 : decode b_La_law 1103 = .ok (.iadd, 1) := by decide +kernel
theorem d_La_law_1104 : decode b_La_law 1104 = .ok (.iaload, 1) := by decide +kernel
theorem d_La_law_1105 : decode b_La_law 1105 = .ok (.aload_n 3, 1) := by decide +kernel
theorem d_La_law_1106 : decode b_La_law 1106 = .ok (.invokestatic 130, 3) := by decide +kernel
theorem d_La_law_1109 : decode b_La_law 1109 = .ok (.istore 5, 2) := by decide +kernel
theorem d_La_law_1111 : decode b_La_law 1111 = .ok (.aload_n 2, 1) := by decide +kernel
theorem d_La_law_1112 : decode b_La_law 1112 = .ok (.aload_n 0, 1) := by decide +kernel
theorem d_La_law_1113 : decode b_La_law 1113 = .ok (.iload 4, 2) := by decide +kernel
theorem d_La_law_1115 : decode b_La_law 1115 = .ok (.iconst 1, 1) := by decide +kernel
theorem d_La_law_1116 : decode b_La_law 1116 = .ok (.iadd, 1) := by decide +kernel
theorem d_La_law_1117 : decode b_La_law 1117 = .ok (.iaload, 1) := by decide +kernel
theorem d_La_law_1118 : decode b_La_law 1118 = .ok (.aload_n 0, 1) := by decide +kernel
theorem d_La_law_1119 : decode b_La_law 1119 = .ok (.iload 4, 2) := by decide +kernel
theorem d_La_law_1121 : decode b_La_law 1121 = .ok (.iconst 2, 1) := by decide +kernel
theorem d_La_law_1122 : decode b_La_law 1122 = .ok (.iadd, 1) := by decide +kernel
theorem d_La_law_1123 : decode b_La_law 1123 = .ok (.iaload, 1) := by decide +kernel
theorem d_La_law_1124 : decode b_La_law 1124 = .ok (.invokevirtual 132, 3) := by decide +kernel
theorem d_La_law_1127 : decode b_La_law 1127 = .ok (.istore 6, 2) := by decide +kernel
theorem d_La_law_1129 : decode b_La_law 1129 = .ok (.aload_n 2, 1) := by decide +kernel
theorem d_La_law_1130 : decode b_La_law 1130 = .ok (.invokevirtual 87, 3) := by decide +kernel
theorem d_La_law_1133 : decode b_La_law 1133 = .ok (.iload 5, 2) := by decide +kernel
theorem d_La_law_1135 : decode b_La_law 1135 = .ok (.if_icmp .eq 5, 3) := by decide +kernel
theorem d_La_law_1138 : decode b_La_law 1138 = .ok (.iconst 0, 1) := by decide +kernel
theorem d_La_law_1139 : decode b_La_law 1139 = .ok (.ireturn, 1) := by decide +kernel
theorem d_La_law_1140 : decode b_La_law 1140 = .ok (.iload 5, 2) := by decide +kernel
theorem d_La_law_1142 : decode b_La_law 1142 = .ok (.ifCond .ne 15, 3) := by decide +kernel
theorem d_La_law_1145 : decode b_La_law 1145 = .ok (.aload_n 3, 1) := by decide +kernel
theorem d_La_law_1146 : decode b_La_law 1146 = .ok (.iconst 0, 1) := by decide +kernel
theorem d_La_law_1147 : decode b_La_law 1147 = .ok (.laload, 1) := by decide +kernel
theorem d_La_law_1148 : decode b_La_law 1148 = .ok (.iload 6, 2) := by decide +kernel
theorem d_La_law_1150 : decode b_La_law 1150 = .ok (.i2l, 1) := by decide +kernel
theorem d_La_law_1151 : decode b_La_law 1151 = .ok (.lcmp, 1) := by decide +kernel
theorem d_La_law_1152 : decode b_La_law 1152 = .ok (.ifCond .eq 5, 3) := by decide +kernel
theorem d_La_law_1155 : decode b_La_law 1155 = .ok (.iconst 0, 1) := by decide +kernel
theorem d_La_law_1156 : decode b_La_law 1156 = .ok (.ireturn, 1) := by decide +kernel
theorem d_La_law_1157 : decode b_La_law 1157 = .ok (.goto 238, 3) := by decide +kernel
theorem d_La_law_1160 : decode b_La_law 1160 = .ok (.aload_n 1, 1) := by decide +kernel
theorem d_La_law_1161 : decode b_La_law 1161 = .ok (.aload_n 0, 1) := by decide +kernel
theorem d_La_law_1162 : decode b_La_law 1162 = .ok (.iload 4, 2) := by decide +kernel
theorem d_La_law_1164 : decode b_La_law 1164 = .ok (.iconst 1, 1) := by decide +kernel
theorem d_La_law_1165 : decode b_La_law 1165 = .ok (.iadd, 1) := by decide +kernel
theorem d_La_law_1166 : decode b_La_law 1166 = .ok (.iaload, 1) := by decide +kernel
theorem d_La_law_1167 : decode b_La_law 1167 = .ok (.aload_n 3, 1) := by decide +kernel
theorem d_La_law_1168 : decode b_La_law 1168 = .ok (.invokestatic 133, 3) := by decide +kernel
theorem d_La_law_1171 : decode b_La_law 1171 = .ok (.istore 5, 2) := by decide +kernel
theorem d_La_law_1173 : decode b_La_law 1173 = .ok (.aload_n 2, 1) := by decide +kernel
theorem d_La_law_1174 : decode b_La_law 1174 = .ok (.aload_n 0, 1) := by decide +kernel
theorem d_La_law_1175 : decode b_La_law 1175 = .ok (.iload 4, 2) := by decide +kernel
theorem d_La_law_1177 : decode b_La_law 1177 = .ok (.iconst 1, 1) := by decide +kernel
theorem d_La_law_1178 : decode b_La_law 1178 = .ok (.iadd, 1) := by decide +kernel
theorem d_La_law_1179 : decode b_La_law 1179 = .ok (.iaload, 1) := by decide +kernel
theorem d_La_law_1180 : decode b_La_law 1180 = .ok (.invokevirtual 135, 3) := by decide +kernel
theorem d_La_law_1183 : decode b_La_law 1183 = .ok (.istore 6, 2) := by decide +kernel
theorem d_La_law_1185 : decode b_La_law 1185 = .ok (.aload_n 2, 1) := by decide +kernel
theorem d_La_law_1186 : decode b_La_law 1186 = .ok (.invokevirtual 87, 3) := by decide +kernel
theorem d_La_law_1189 : decode b_La_law 1189 = .ok (.iload 5, 2) := by decide +kernel
theorem d_La_law_1191 : decode b_La_law 1191 = .ok (.if_icmp .eq 5, 3) := by decide +kernel
theorem d_La_law_1194 : decode b_La_law 1194 = .ok (.iconst 0, 1) := by decide +kernel
theorem d_La_law_1195 : decode b_La_law 1195 = .ok (.ireturn, 1) := by decide +kernel
theorem d_La_law_1196 : decode b_La_law 1196 = .ok (.iload 5, 2) := by decide +kernel
theorem d_La_law_1198 : decode b_La_law 1198 = .ok (.ifCond .ne 15, 3) := by decide +kernel
theorem d_La_law_1201 : decode b_La_law 1201 = .ok (.aload_n 3, 1) := by decide +kernel
theorem d_La_law_1202 : decode b_La_law 1202 = .ok (.iconst 0, 1) := by decide +kernel
theorem d_La_law_1203 : decode b_La_law 1203 = .ok (.laload, 1) := by decide +kernel
theorem d_La_law_1204 : decode b_La_law 1204 = .ok (.iload 6, 2) := by decide +kernel
theorem d_La_law_1206 : decode b_La_law 1206 = .ok (.i2l, 1) := by decide +kernel
theorem d_La_law_1207 : decode b_La_law 1207 = .ok (.lcmp, 1) := by decide +kernel
theorem d_La_law_1208 : decode b_La_law 1208 = .ok (.ifCond .eq 5, 3) := by decide +kernel
theorem d_La_law_1211 : decode b_La_law 1211 = .ok (.iconst 0, 1) := by decide +kernel
theorem d_La_law_1212 : decode b_La_law 1212 = .ok (.ireturn, 1) := by decide +kernel
theorem d_La_law_1213 : decode b_La_law 1213 = .ok (.goto 182, 3) := by decide +kernel
theorem d_La_law_1216 : decode b_La_law 1216 = .ok (.aload_n 1, 1) := by decide +kernel
theorem d_La_law_1217 : decode b_La_law 1217 = .ok (.aload_n 0, 1) := by decide +kernel
theorem d_La_law_1218 : decode b_La_law 1218 = .ok (.iload 4, 2) := by decide +kernel
theorem d_La_law_1220 : decode b_La_law 1220 = .ok (.iconst 1, 1) := by decide +kernel
theorem d_La_law_1221 : decode b_La_law 1221 = .ok (.iadd, 1) := by decide +kernel
theorem d_La_law_1222 : decode b_La_law 1222 = .ok (.iaload, 1) := by decide +kernel
theorem d_La_law_1223 : decode b_La_law 1223 = .ok (.aload_n 0, 1) := by decide +kernel
theorem d_La_law_1224 : decode b_La_law 1224 = .ok (.iload 4, 2) := by decide +kernel
theorem d_La_law_1226 : decode b_La_law 1226 = .ok (.iconst 2, 1) := by decide +kernel
theorem d_La_law_1227 : decode b_La_law 1227 = .ok (.iadd, 1) := by decide +kernel
theorem d_La_law_1228 : decode b_La_law 1228 = .ok (.iaload, 1) := by decide +kernel
theorem d_La_law_1229 : decode b_La_law 1229 = .ok (.aload_n 3, 1) := by decide +kernel
theorem d_La_law_1230 : decode b_La_law 1230 = .ok (.invokestatic 136, 3) := by decide +kernel
theorem d_La_law_1233 : decode b_La_law 1233 = .ok (.istore 5, 2) := by decide +kernel
theorem d_La_law_1235 : decode b_La_law 1235 = .ok (.aload_n 2, 1) := by decide +kernel
theorem d_La_law_1236 : decode b_La_law 1236 = .ok (.aload_n 0, 1) := by decide +kernel
theorem d_La_law_1237 : decode b_La_law 1237 = .ok (.iload 4, 2) := by decide +kernel
theorem d_La_law_1239 : decode b_La_law 1239 = .ok (.iconst 1, 1) := by decide +kernel
theorem d_La_law_1240 : decode b_La_law 1240 = .ok (.iadd, 1) := by decide +kernel
theorem d_La_law_1241 : decode b_La_law 1241 = .ok (.iaload, 1) := by decide +kernel
theorem d_La_law_1242 : decode b_La_law 1242 = .ok (.aload_n 0, 1) := by decide +kernel
theorem d_La_law_1243 : decode b_La_law 1243 = .ok (.iload 4, 2) := by decide +kernel
theorem d_La_law_1245 : decode b_La_law 1245 = .ok (.iconst 2, 1) := by decide +kernel
theorem d_La_law_1246 : decode b_La_law 1246 = .ok (.iadd, 1) := by decide +kernel
theorem d_La_law_1247 : decode b_La_law 1247 = .ok (.iaload, 1) := by decide +kernel
theorem d_La_law_1248 : decode b_La_law 1248 = .ok (.invokevirtual 138, 3) := by decide +kernel
theorem d_La_law_1251 : decode b_La_law 1251 = .ok (.istore 6, 2) := by decide +kernel
theorem d_La_law_1253 : decode b_La_law 1253 = .ok (.aload_n 2, 1) := by decide +kernel
theorem d_La_law_1254 : decode b_La_law 1254 = .ok (.invokevirtual 87, 3) := by decide +kernel
theorem d_La_law_1257 : decode b_La_law 1257 = .ok (.iload 5, 2) := by decide +kernel
theorem d_La_law_1259 : decode b_La_law 1259 = .ok (.if_icmp .eq 5, 3) := by decide +kernel
theorem d_La_law_1262 : decode b_La_law 1262 = .ok (.iconst 0, 1) := by decide +kernel
theorem d_La_law_1263 : decode b_La_law 1263 = .ok (.ireturn, 1) := by decide +kernel
theorem d_La_law_1264 : decode b_La_law 1264 = .ok (.iload 5, 2) := by decide +kernel
theorem d_La_law_1266 : decode b_La_law 1266 = .ok (.ifCond .ne 15, 3) := by decide +kernel
theorem d_La_law_1269 : decode b_La_law 1269 = .ok (.aload_n 3, 1) := by decide +kernel
theorem d_La_law_1270 : decode b_La_law 1270 = .ok (.iconst 0, 1) := by decide +kernel
theorem d_La_law_1271 : decode b_La_law 1271 = .ok (.laload, 1) := by decide +kernel
theorem d_La_law_1272 : decode b_La_law 1272 = .ok (.iload 6, 2) := by decide +kernel
theorem d_La_law_1274 : decode b_La_law 1274 = .ok (.i2l, 1) := by decide +kernel
theorem d_La_law_1275 : decode b_La_law 1275 = .ok (.lcmp, 1) := by decide +kernel
theorem d_La_law_1276 : decode b_La_law 1276 = .ok (.ifCond .eq 5, 3) := by decide +kernel
theorem d_La_law_1279 : decode b_La_law 1279 = .ok (.iconst 0, 1) := by decide +kernel
theorem d_La_law_1280 : decode b_La_law 1280 = .ok (.ireturn, 1) := by decide +kernel
theorem d_La_law_1281 : decode b_La_law 1281 = .ok (.goto 114, 3) := by decide +kernel
theorem d_La_law_1284 : decode b_La_law 1284 = .ok (.aload_n 1, 1) := by decide +kernel
theorem d_La_law_1285 : decode b_La_law 1285 = .ok (.aload_n 0, 1) := by decide +kernel
theorem d_La_law_1286 : decode b_La_law 1286 = .ok (.iload 4, 2) := by decide +kernel
theorem d_La_law_1288 : decode b_La_law 1288 = .ok (.iconst 1, 1) := by decide +kernel
theorem d_La_law_1289 : decode b_La_law 1289 = .ok (.iadd, 1) := by decide +kernel
theorem d_La_law_1290 : decode b_La_law 1290 = .ok (.iaload, 1) := by decide +kernel
theorem d_La_law_1291 : decode b_La_law 1291 = .ok (.aload_n 3, 1) := by decide +kernel
theorem d_La_law_1292 : decode b_La_law 1292 = .ok (.invokestatic 139, 3) := by decide +kernel
theorem d_La_law_1295 : decode b_La_law 1295 = .ok (.istore 5, 2) := by decide +kernel
theorem d_La_law_1297 : decode b_La_law 1297 = .ok (.aload_n 2, 1) := by decide +kernel
theorem d_La_law_1298 : decode b_La_law 1298 = .ok (.aload_n 0, 1) := by decide +kernel
theorem d_La_law_1299 : decode b_La_law 1299 = .ok (.iload 4, 2) := by decide +kernel
theorem d_La_law_1301 : decode b_La_law 1301 = .ok (.iconst 1, 1) := by decide +kernel
theorem d_La_law_1302 : decode b_La_law 1302 = .ok (.iadd, 1) := by decide +kernel
theorem d_La_law_1303 : decode b_La_law 1303 = .ok (.iaload, 1) := by decide +kernel
theorem d_La_law_1304 : decode b_La_law 1304 = .ok (.invokevirtual 141, 3) := by decide +kernel
theorem d_La_law_1307 : decode b_La_law 1307 = .ok (.istore 6, 2) := by decide +kernel
theorem d_La_law_1309 : decode b_La_law 1309 = .ok (.aload_n 2, 1) := by decide +kernel
theorem d_La_law_1310 : decode b_La_law 1310 = .ok (.invokevirtual 87, 3) := by decide +kernel
theorem d_La_law_1313 : decode b_La_law 1313 = .ok (.iload 5, 2) := by decide +kernel
theorem d_La_law_1315 : decode b_La_law 1315 = .ok (.if_icmp .eq 5, 3) := by decide +kernel
theorem d_La_law_1318 : decode b_La_law 1318 = .ok (.iconst 0, 1) := by decide +kernel
theorem d_La_law_1319 : decode b_La_law 1319 = .ok (.ireturn, 1) := by decide +kernel
theorem d_La_law_1320 : decode b_La_law 1320 = .ok (.iload 5, 2) := by decide +kernel
theorem d_La_law_1322 : decode b_La_law 1322 = .ok (.ifCond .ne 15, 3) := by decide +kernel
theorem d_La_law_1325 : decode b_La_law 1325 = .ok (.aload_n 3, 1) := by decide +kernel
theorem d_La_law_1326 : decode b_La_law 1326 = .ok (.iconst 0, 1) := by decide +kernel
theorem d_La_law_1327 : decode b_La_law 1327 = .ok (.laload, 1) := by decide +kernel
theorem d_La_law_1328 : decode b_La_law 1328 = .ok (.iload 6, 2) := by decide +kernel
theorem d_La_law_1330 : decode b_La_law 1330 = .ok (.i2l, 1) := by decide +kernel
theorem d_La_law_1331 : decode b_La_law 1331 = .ok (.lcmp, 1) := by decide +kernel
theorem d_La_law_1332 : decode b_La_law 1332 = .ok (.ifCond .eq 5, 3) := by decide +kernel
theorem d_La_law_1335 : decode b_La_law 1335 = .ok (.iconst 0, 1) := by decide +kernel
theorem d_La_law_1336 : decode b_La_law 1336 = .ok (.ireturn, 1) := by decide +kernel
theorem d_La_law_1337 : decode b_La_law 1337 = .ok (.goto 58, 3) := by decide +kernel
theorem d_La_law_1340 : decode b_La_law 1340 = .ok (.aload_n 1, 1) := by decide +kernel
theorem d_La_law_1341 : decode b_La_law 1341 = .ok (.invokevirtual 142, 3) := by decide +kernel
theorem d_La_law_1344 : decode b_La_law 1344 = .ok (.aload_n 2, 1) := by decide +kernel
theorem d_La_law_1345 : decode b_La_law 1345 = .ok (.invokevirtual 145, 3) := by decide +kernel
theorem d_La_law_1348 : decode b_La_law 1348 = .ok (.goto 47, 3) := by decide +kernel
theorem d_La_law_1351 : decode b_La_law 1351 = .ok (.aload_n 1, 1) := by decide +kernel
theorem d_La_law_1352 : decode b_La_law 1352 = .ok (.aload_n 3, 1) := by decide +kernel
theorem d_La_law_1353 : decode b_La_law 1353 = .ok (.invokestatic 146, 3) := by decide +kernel
theorem d_La_law_1356 : decode b_La_law 1356 = .ok (.istore 5, 2) := by decide +kernel
theorem d_La_law_1358 : decode b_La_law 1358 = .ok (.aload_n 2, 1) := by decide +kernel
theorem d_La_law_1359 : decode b_La_law 1359 = .ok (.invokevirtual 149, 3) := by decide +kernel
theorem d_La_law_1362 : decode b_La_law 1362 = .ok (.istore 6, 2) := by decide +kernel
theorem d_La_law_1364 : decode b_La_law 1364 = .ok (.aload_n 2, 1) := by decide +kernel
theorem d_La_law_1365 : decode b_La_law 1365 = .ok (.invokevirtual 87, 3) := by decide +kernel
theorem d_La_law_1368 : decode b_La_law 1368 = .ok (.iload 5, 2) := by decide +kernel
theorem d_La_law_1370 : decode b_La_law 1370 = .ok (.if_icmp .eq 5, 3) := by decide +kernel
theorem d_La_law_1373 : decode b_La_law 1373 = .ok (.iconst 0, 1) := by decide +kernel
theorem d_La_law_1374 : decode b_La_law 1374 = .ok (.ireturn, 1) := by decide +kernel
theorem d_La_law_1375 : decode b_La_law 1375 = .ok (.iload 5, 2) := by decide +kernel
theorem d_La_law_1377 : decode b_La_law 1377 = .ok (.ifCond .ne 15, 3) := by decide +kernel
theorem d_La_law_1380 : decode b_La_law 1380 = .ok (.aload_n 3, 1) := by decide +kernel
theorem d_La_law_1381 : decode b_La_law 1381 = .ok (.iconst 0, 1) := by decide +kernel
theorem d_La_law_1382 : decode b_La_law 1382 = .ok (.laload, 1) := by decide +kernel
theorem d_La_law_1383 : decode b_La_law 1383 = .ok (.iload 6, 2) := by decide +kernel
theorem d_La_law_1385 : decode b_La_law 1385 = .ok (.i2l, 1) := by decide +kernel
theorem d_La_law_1386 : decode b_La_law 1386 = .ok (.lcmp, 1) := by decide +kernel
theorem d_La_law_1387 : decode b_La_law 1387 = .ok (.ifCond .eq 5, 3) := by decide +kernel
theorem d_La_law_1390 : decode b_La_law 1390 = .ok (.iconst 0, 1) := by decide +kernel
theorem d_La_law_1391 : decode b_La_law 1391 = .ok (.ireturn, 1) := by decide +kernel
theorem d_La_law_1392 : decode b_La_law 1392 = .ok (.goto 3, 3) := by decide +kernel
theorem d_La_law_1395 : decode b_La_law 1395 = .ok (.iinc 4 8, 3) := by decide +kernel
theorem d_La_law_1398 : decode b_La_law 1398 = .ok (.goto (-1375), 3) := by decide +kernel
theorem d_La_law_1401 : decode b_La_law 1401 = .ok (.iconst 1, 1) := by decide +kernel
theorem d_La_law_1402 : decode b_La_law 1402 = .ok (.ireturn, 1) := by decide +kernel
