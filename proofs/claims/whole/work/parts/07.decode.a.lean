theorem d_Jo_init_0 : decode b_Jo_init 0 = .ok (.aload_n 0, 1) := by decide +kernel
theorem d_Jo_init_1 : decode b_Jo_init 1 = .ok (.invokespecial 1, 3) := by decide +kernel
theorem d_Jo_init_4 : decode b_Jo_init 4 = .ok (.return_, 1) := by decide +kernel
theorem d_Jo_tearNext_0 : decode b_Jo_tearNext 0 = .ok (.aload_n 0, 1) := by decide +kernel
theorem d_Jo_tearNext_1 : decode b_Jo_tearNext 1 = .ok (.getfield 7, 3) := by decide +kernel
theorem d_Jo_tearNext_4 : decode b_Jo_tearNext 4 = .ok (.ifCond .ne 8, 3) := by decide +kernel
theorem d_Jo_tearNext_7 : decode b_Jo_tearNext 7 = .ok (.aload_n 0, 1) := by decide +kernel
theorem d_Jo_tearNext_8 : decode b_Jo_tearNext 8 = .ok (.iconst 1, 1) := by decide +kernel
theorem d_Jo_tearNext_9 : decode b_Jo_tearNext 9 = .ok (.putfield 13, 3) := by decide +kernel
theorem d_Jo_tearNext_12 : decode b_Jo_tearNext 12 = .ok (.return_, 1) := by decide +kernel
theorem d_Jo_write_0 : decode b_Jo_write 0 = .ok (.aload_n 0, 1) := by decide +kernel
theorem d_Jo_write_1 : decode b_Jo_write 1 = .ok (.getfield 13, 3) := by decide +kernel
theorem d_Jo_write_4 : decode b_Jo_write 4 = .ok (.ifCond .eq 15, 3) := by decide +kernel
theorem d_Jo_write_7 : decode b_Jo_write 7 = .ok (.aload_n 0, 1) := by decide +kernel
theorem d_Jo_write_8 : decode b_Jo_write 8 = .ok (.iconst 0, 1) := by decide +kernel
theorem d_Jo_write_9 : decode b_Jo_write 9 = .ok (.putfield 13, 3) := by decide +kernel
theorem d_Jo_write_12 : decode b_Jo_write 12 = .ok (.aload_n 0, 1) := by decide +kernel
theorem d_Jo_write_13 : decode b_Jo_write 13 = .ok (.iconst 1, 1) := by decide +kernel
theorem d_Jo_write_14 : decode b_Jo_write 14 = .ok (.putfield 7, 3) := by decide +kernel
theorem d_Jo_write_17 : decode b_Jo_write 17 = .ok (.iconst 0, 1) := by decide +kernel
theorem d_Jo_write_18 : decode b_Jo_write 18 = .ok (.ireturn, 1) := by decide +kernel
theorem d_Jo_write_19 : decode b_Jo_write 19 = .ok (.aload_n 0, 1) := by decide +kernel
theorem d_Jo_write_20 : decode b_Jo_write 20 = .ok (.dup, 1) := by decide +kernel
theorem d_Jo_write_21 : decode b_Jo_write 21 = .ok (.getfield 16, 3) := by decide +kernel
theorem d_Jo_write_24 : decode b_Jo_write 24 = .ok (.iconst 1, 1) := by decide +kernel
theorem d_Jo_write_25 : decode b_Jo_write 25 = .ok (.iadd, 1) := by decide +kernel
theorem d_Jo_write_26 : decode b_Jo_write 26 = .ok (.putfield 16, 3) := by decide +kernel
theorem d_Jo_write_29 : decode b_Jo_write 29 = .ok (.iconst 1, 1) := by decide +kernel
theorem d_Jo_write_30 : decode b_Jo_write 30 = .ok (.ireturn, 1) := by decide +kernel
theorem d_Pl_init_0 : decode b_Pl_init 0 = .ok (.aload_n 0, 1) := by decide +kernel
theorem d_Pl_init_1 : decode b_Pl_init 1 = .ok (.invokespecial 3, 3) := by decide +kernel
theorem d_Pl_init_4 : decode b_Pl_init 4 = .ok (.aload_n 0, 1) := by decide +kernel
theorem d_Pl_init_5 : decode b_Pl_init 5 = .ok (.iconst 4, 1) := by decide +kernel
theorem d_Pl_init_6 : decode b_Pl_init 6 = .ok (.newarray .int, 2) := by decide +kernel
theorem d_Pl_init_8 : decode b_Pl_init 8 = .ok (.putfield 9, 3) := by decide +kernel
theorem d_Pl_init_11 : decode b_Pl_init 11 = .ok (.return_, 1) := by decide +kernel
theorem d_Pl_set_0 : decode b_Pl_set 0 = .ok (.aload_n 0, 1) := by decide +kernel
theorem d_Pl_set_1 : decode b_Pl_set 1 = .ok (.getfield 9, 3) := by decide +kernel
theorem d_Pl_set_4 : decode b_Pl_set 4 = .ok (.iconst 0, 1) := by decide +kernel
theorem d_Pl_set_5 : decode b_Pl_set 5 = .ok (.iload_n 1, 1) := by decide +kernel
theorem d_Pl_set_6 : decode b_Pl_set 6 = .ok (.iastore, 1) := by decide +kernel
theorem d_Pl_set_7 : decode b_Pl_set 7 = .ok (.aload_n 0, 1) := by decide +kernel
theorem d_Pl_set_8 : decode b_Pl_set 8 = .ok (.getfield 9, 3) := by decide +kernel
theorem d_Pl_set_11 : decode b_Pl_set 11 = .ok (.iconst 1, 1) := by decide +kernel
theorem d_Pl_set_12 : decode b_Pl_set 12 = .ok (.iload_n 2, 1) := by decide +kernel
theorem d_Pl_set_13 : decode b_Pl_set 13 = .ok (.iastore, 1) := by decide +kernel
theorem d_Pl_set_14 : decode b_Pl_set 14 = .ok (.aload_n 0, 1) := by decide +kernel
theorem d_Pl_set_15 : decode b_Pl_set 15 = .ok (.getfield 9, 3) := by decide +kernel
theorem d_Pl_set_18 : decode b_Pl_set 18 = .ok (.iconst 2, 1) := by decide +kernel
theorem d_Pl_set_19 : decode b_Pl_set 19 = .ok (.iload_n 3, 1) := by decide +kernel
theorem d_Pl_set_20 : decode b_Pl_set 20 = .ok (.iastore, 1) := by decide +kernel
theorem d_Pl_set_21 : decode b_Pl_set 21 = .ok (.aload_n 0, 1) := by decide +kernel
theorem d_Pl_set_22 : decode b_Pl_set 22 = .ok (.getfield 9, 3) := by decide +kernel
theorem d_Pl_set_25 : decode b_Pl_set 25 = .ok (.iconst 3, 1) := by decide +kernel
theorem d_Pl_set_26 : decode b_Pl_set 26 = .ok (.iload 4, 2) := by decide +kernel
theorem d_Pl_set_28 : decode b_Pl_set 28 = .ok (.iastore, 1) := by decide +kernel
theorem d_Pl_set_29 : decode b_Pl_set 29 = .ok (.aload_n 0, 1) := by decide +kernel
theorem d_Pl_set_30 : decode b_Pl_set 30 = .ok (.iconst 2, 1) := by decide +kernel
theorem d_Pl_set_31 : decode b_Pl_set 31 = .ok (.iload_n 3, 1) := by decide +kernel
theorem d_Pl_set_32 : decode b_Pl_set 32 = .ok (.ifCond .le 7, 3) := by decide +kernel
theorem d_Pl_set_35 : decode b_Pl_set 35 = .ok (.iconst 1, 1) := by decide +kernel
theorem d_Pl_set_36 : decode b_Pl_set 36 = .ok (.goto 4, 3) := by decide +kernel
theorem d_Pl_set_39 : decode b_Pl_set 39 = .ok (.iconst 0, 1) := by decide +kernel
theorem d_Pl_set_40 : decode b_Pl_set 40 = .ok (.iadd, 1) := by decide +kernel
theorem d_Pl_set_41 : decode b_Pl_set 41 = .ok (.iload 4, 2) := by decide +kernel
theorem d_Pl_set_43 : decode b_Pl_set 43 = .ok (.ifCond .le 7, 3) := by decide +kernel
theorem d_Pl_set_46 : decode b_Pl_set 46 = .ok (.iconst 1, 1) := by decide +kernel
theorem d_Pl_set_47 : decode b_Pl_set 47 = .ok (.goto 4, 3) := by decide +kernel
theorem d_Pl_set_50 : decode b_Pl_set 50 = .ok (.iconst 0, 1) := by decide +kernel
theorem d_Pl_set_51 : decode b_Pl_set 51 = .ok (.iadd, 1) := by decide +kernel
theorem d_Pl_set_52 : decode b_Pl_set 52 = .ok (.putfield 15, 3) := by decide +kernel
theorem d_Pl_set_55 : decode b_Pl_set 55 = .ok (.aload_n 0, 1) := by decide +kernel
theorem d_Pl_set_56 : decode b_Pl_set 56 = .ok (.iload_n 1, 1) := by decide +kernel
theorem d_Pl_set_57 : decode b_Pl_set 57 = .ok (.iload_n 2, 1) := by decide +kernel
theorem d_Pl_set_58 : decode b_Pl_set 58 = .ok (.iadd, 1) := by decide +kernel
theorem d_Pl_set_59 : decode b_Pl_set 59 = .ok (.iload_n 3, 1) := by decide +kernel
theorem d_Pl_set_60 : decode b_Pl_set 60 = .ok (.iadd, 1) := by decide +kernel
theorem d_Pl_set_61 : decode b_Pl_set 61 = .ok (.iload 4, 2) := by decide +kernel
theorem d_Pl_set_63 : decode b_Pl_set 63 = .ok (.iadd, 1) := by decide +kernel
theorem d_Pl_set_64 : decode b_Pl_set 64 = .ok (.putfield 19, 3) := by decide +kernel
theorem d_Pl_set_67 : decode b_Pl_set 67 = .ok (.aload_n 0, 1) := by decide +kernel
theorem d_Pl_set_68 : decode b_Pl_set 68 = .ok (.iload 5, 2) := by decide +kernel
theorem d_Pl_set_70 : decode b_Pl_set 70 = .ok (.putfield 22, 3) := by decide +kernel
theorem d_Pl_set_73 : decode b_Pl_set 73 = .ok (.return_, 1) := by decide +kernel
theorem d_Pl_weightOf_0 : decode b_Pl_weightOf 0 = .ok (.iload_n 1, 1) := by decide +kernel
theorem d_Pl_weightOf_1 : decode b_Pl_weightOf 1 = .ok (.ifCond .lt 21, 3) := by decide +kernel
theorem d_Pl_weightOf_4 : decode b_Pl_weightOf 4 = .ok (.iload_n 1, 1) := by decide +kernel
theorem d_Pl_weightOf_5 : decode b_Pl_weightOf 5 = .ok (.aload_n 0, 1) := by decide +kernel
theorem d_Pl_weightOf_6 : decode b_Pl_weightOf 6 = .ok (.getfield 9, 3) := by decide +kernel
theorem d_Pl_weightOf_9 : decode b_Pl_weightOf 9 = .ok (.arraylength, 1) := by decide +kernel
theorem d_Pl_weightOf_10 : decode b_Pl_weightOf 10 = .ok (.if_icmp .ge 12, 3) := by decide +kernel
theorem d_Pl_weightOf_13 : decode b_Pl_weightOf 13 = .ok (.aload_n 0, 1) := by decide +kernel
theorem d_Pl_weightOf_14 : decode b_Pl_weightOf 14 = .ok (.getfield 9, 3) := by decide +kernel
theorem d_Pl_weightOf_17 : decode b_Pl_weightOf 17 = .ok (.iload_n 1, 1) := by decide +kernel
theorem d_Pl_weightOf_18 : decode b_Pl_weightOf 18 = .ok (.iaload, 1) := by decide +kernel
theorem d_Pl_weightOf_19 : decode b_Pl_weightOf 19 = .ok (.goto 4, 3) := by decide +kernel
theorem d_Pl_weightOf_22 : decode b_Pl_weightOf 22 = .ok (.iconst 0, 1) := by decide +kernel
theorem d_Pl_weightOf_23 : decode b_Pl_weightOf 23 = .ok (.ireturn, 1) := by decide +kernel
theorem d_Pl_entriesOf_0 : decode b_Pl_entriesOf 0 = .ok (.aload_n 0, 1) := by decide +kernel
theorem d_Pl_entriesOf_1 : decode b_Pl_entriesOf 1 = .ok (.getfield 19, 3) := by decide +kernel
theorem d_Pl_entriesOf_4 : decode b_Pl_entriesOf 4 = .ok (.ifCond .le 21, 3) := by decide +kernel
theorem d_Pl_entriesOf_7 : decode b_Pl_entriesOf 7 = .ok (.aload_n 0, 1) := by decide +kernel
theorem d_Pl_entriesOf_8 : decode b_Pl_entriesOf 8 = .ok (.iload_n 1, 1) := by decide +kernel
theorem d_Pl_entriesOf_9 : decode b_Pl_entriesOf 9 = .ok (.invokevirtual 25, 3) := by decide +kernel
theorem d_Pl_entriesOf_12 : decode b_Pl_entriesOf 12 = .ok (.aload_n 0, 1) := by decide +kernel
theorem d_Pl_entriesOf_13 : decode b_Pl_entriesOf 13 = .ok (.getfield 22, 3) := by decide +kernel
theorem d_Pl_entriesOf_16 : decode b_Pl_entriesOf 16 = .ok (.aload_n 0, 1) := by decide +kernel
theorem d_Pl_entriesOf_17 : decode b_Pl_entriesOf 17 = .ok (.getfield 19, 3) := by decide +kernel
theorem d_Pl_entriesOf_20 : decode b_Pl_entriesOf 20 = .ok (.idiv, 1) := by decide +kernel
theorem d_Pl_entriesOf_21 : decode b_Pl_entriesOf 21 = .ok (.imul, 1) := by decide +kernel
theorem d_Pl_entriesOf_22 : decode b_Pl_entriesOf 22 = .ok (.goto 4, 3) := by decide +kernel
theorem d_Pl_entriesOf_25 : decode b_Pl_entriesOf 25 = .ok (.iconst 0, 1) := by decide +kernel
theorem d_Pl_entriesOf_26 : decode b_Pl_entriesOf 26 = .ok (.ireturn, 1) := by decide +kernel
theorem d_Re_init_0 : decode b_Re_init 0 = .ok (.aload_n 0, 1) := by decide +kernel
theorem d_Re_init_1 : decode b_Re_init 1 = .ok (.invokespecial 3, 3) := by decide +kernel
theorem d_Re_init_4 : decode b_Re_init 4 = .ok (.aload_n 0, 1) := by decide +kernel
theorem d_Re_init_5 : decode b_Re_init 5 = .ok (.bipush 24, 2) := by decide +kernel
theorem d_Re_init_7 : decode b_Re_init 7 = .ok (.newarray .int, 2) := by decide +kernel
theorem d_Re_init_9 : decode b_Re_init 9 = .ok (.putfield 9, 3) := by decide +kernel
theorem d_Re_init_12 : decode b_Re_init 12 = .ok (.return_, 1) := by decide +kernel
theorem d_Re_fill_0 : decode b_Re_fill 0 = .ok (.iconst 0, 1) := by decide +kernel
theorem d_Re_fill_1 : decode b_Re_fill 1 = .ok (.istore_n 3, 1) := by decide +kernel
theorem d_Re_fill_2 : decode b_Re_fill 2 = .ok (.iload_n 3, 1) := by decide +kernel
theorem d_Re_fill_3 : decode b_Re_fill 3 = .ok (.iload_n 2, 1) := by decide +kernel
theorem d_Re_fill_4 : decode b_Re_fill 4 = .ok (.if_icmp .ge 33, 3) := by decide +kernel
theorem d_Re_fill_7 : decode b_Re_fill 7 = .ok (.iload_n 3, 1) := by decide +kernel
theorem d_Re_fill_8 : decode b_Re_fill 8 = .ok (.aload_n 1, 1) := by decide +kernel
theorem d_Re_fill_9 : decode b_Re_fill 9 = .ok (.arraylength, 1) := by decide +kernel
theorem d_Re_fill_10 : decode b_Re_fill 10 = .ok (.if_icmp .ge 27, 3) := by decide +kernel
theorem d_Re_fill_13 : decode b_Re_fill 13 = .ok (.iload_n 3, 1) := by decide +kernel
theorem d_Re_fill_14 : decode b_Re_fill 14 = .ok (.aload_n 0, 1) := by decide +kernel
theorem d_Re_fill_15 : decode b_Re_fill 15 = .ok (.getfield 9, 3) := by decide +kernel
theorem d_Re_fill_18 : decode b_Re_fill 18 = .ok (.arraylength, 1) := by decide +kernel
theorem d_Re_fill_19 : decode b_Re_fill 19 = .ok (.if_icmp .ge 18, 3) := by decide +kernel
theorem d_Re_fill_22 : decode b_Re_fill 22 = .ok (.aload_n 0, 1) := by decide +kernel
theorem d_Re_fill_23 : decode b_Re_fill 23 = .ok (.getfield 9, 3) := by decide +kernel
theorem d_Re_fill_26 : decode b_Re_fill 26 = .ok (.iload_n 3, 1) := by decide +kernel
theorem d_Re_fill_27 : decode b_Re_fill 27 = .ok (.aload_n 1, 1) := by decide +kernel
theorem d_Re_fill_28 : decode b_Re_fill 28 = .ok (.iload_n 3, 1) := by decide +kernel
theorem d_Re_fill_29 : decode b_Re_fill 29 = .ok (.iaload, 1) := by decide +kernel
theorem d_Re_fill_30 : decode b_Re_fill 30 = .ok (.iastore, 1) := by decide +kernel
theorem d_Re_fill_31 : decode b_Re_fill 31 = .ok (.iinc 3 1, 3) := by decide +kernel
theorem d_Re_fill_34 : decode b_Re_fill 34 = .ok (.goto (-32), 3) := by decide +kernel
theorem d_Re_fill_37 : decode b_Re_fill 37 = .ok (.aload_n 0, 1) := by decide +kernel
theorem d_Re_fill_38 : decode b_Re_fill 38 = .ok (.iload_n 2, 1) := by decide +kernel
theorem d_Re_fill_39 : decode b_Re_fill 39 = .ok (.putfield 15, 3) := by decide +kernel
theorem d_Re_fill_42 : decode b_Re_fill 42 = .ok (.aload_n 0, 1) := by decide +kernel
theorem d_Re_fill_43 : decode b_Re_fill 43 = .ok (.iconst 0, 1) := by decide +kernel
theorem d_Re_fill_44 : decode b_Re_fill 44 = .ok (.putfield 19, 3) := by decide +kernel
theorem d_Re_fill_47 : decode b_Re_fill 47 = .ok (.return_, 1) := by decide +kernel
theorem d_Re_nextKit_0 : decode b_Re_nextKit 0 = .ok (.aload_n 0, 1) := by decide +kernel
theorem d_Re_nextKit_1 : decode b_Re_nextKit 1 = .ok (.getfield 19, 3) := by decide +kernel
theorem d_Re_nextKit_4 : decode b_Re_nextKit 4 = .ok (.ifCond .lt 38, 3) := by decide +kernel
theorem d_Re_nextKit_7 : decode b_Re_nextKit 7 = .ok (.aload_n 0, 1) := by decide +kernel
theorem d_Re_nextKit_8 : decode b_Re_nextKit 8 = .ok (.getfield 19, 3) := by decide +kernel
theorem d_Re_nextKit_11 : decode b_Re_nextKit 11 = .ok (.aload_n 0, 1) := by decide +kernel
theorem d_Re_nextKit_12 : decode b_Re_nextKit 12 = .ok (.getfield 15, 3) := by decide +kernel
theorem d_Re_nextKit_15 : decode b_Re_nextKit 15 = .ok (.if_icmp .ge 27, 3) := by decide +kernel
theorem d_Re_nextKit_18 : decode b_Re_nextKit 18 = .ok (.aload_n 0, 1) := by decide +kernel
theorem d_Re_nextKit_19 : decode b_Re_nextKit 19 = .ok (.getfield 19, 3) := by decide +kernel
theorem d_Re_nextKit_22 : decode b_Re_nextKit 22 = .ok (.aload_n 0, 1) := by decide +kernel
theorem d_Re_nextKit_23 : decode b_Re_nextKit 23 = .ok (.getfield 9, 3) := by decide +kernel
theorem d_Re_nextKit_26 : decode b_Re_nextKit 26 = .ok (.arraylength, 1) := by decide +kernel
theorem d_Re_nextKit_27 : decode b_Re_nextKit 27 = .ok (.if_icmp .ge 15, 3) := by decide +kernel
theorem d_Re_nextKit_30 : decode b_Re_nextKit 30 = .ok (.aload_n 0, 1) := by decide +kernel
theorem d_Re_nextKit_31 : decode b_Re_nextKit 31 = .ok (.getfield 9, 3) := by decide +kernel
theorem d_Re_nextKit_34 : decode b_Re_nextKit 34 = .ok (.aload_n 0, 1) := by decide +kernel
theorem d_Re_nextKit_35 : decode b_Re_nextKit 35 = .ok (.getfield 19, 3) := by decide +kernel
theorem d_Re_nextKit_38 : decode b_Re_nextKit 38 = .ok (.iaload, 1) := by decide +kernel
theorem d_Re_nextKit_39 : decode b_Re_nextKit 39 = .ok (.goto 4, 3) := by decide +kernel
theorem d_Re_nextKit_42 : decode b_Re_nextKit 42 = .ok (.iconst (-1), 1) := by decide +kernel
theorem d_Re_nextKit_43 : decode b_Re_nextKit 43 = .ok (.ireturn, 1) := by decide +kernel
theorem d_Re_drop_0 : decode b_Re_drop 0 = .ok (.aload_n 0, 1) := by decide +kernel
theorem d_Re_drop_1 : decode b_Re_drop 1 = .ok (.iconst 0, 1) := by decide +kernel
theorem d_Re_drop_2 : decode b_Re_drop 2 = .ok (.putfield 15, 3) := by decide +kernel
theorem d_Re_drop_5 : decode b_Re_drop 5 = .ok (.aload_n 0, 1) := by decide +kernel
theorem d_Re_drop_6 : decode b_Re_drop 6 = .ok (.iconst 0, 1) := by decide +kernel
theorem d_Re_drop_7 : decode b_Re_drop 7 = .ok (.putfield 19, 3) := by decide +kernel
theorem d_Re_drop_10 : decode b_Re_drop 10 = .ok (.return_, 1) := by decide +kernel
theorem d_Sh_init_0 : decode b_Sh_init 0 = .ok (.aload_n 0, 1) := by decide +kernel
theorem d_Sh_init_1 : decode b_Sh_init 1 = .ok (.invokespecial 3, 3) := by decide +kernel
theorem d_Sh_init_4 : decode b_Sh_init 4 = .ok (.aload_n 0, 1) := by decide +kernel
theorem d_Sh_init_5 : decode b_Sh_init 5 = .ok (.sipush 1000, 3) := by decide +kernel
theorem d_Sh_init_8 : decode b_Sh_init 8 = .ok (.newarray .int, 2) := by decide +kernel
theorem d_Sh_init_10 : decode b_Sh_init 10 = .ok (.putfield 9, 3) := by decide +kernel
theorem d_Sh_init_13 : decode b_Sh_init 13 = .ok (.aload_n 0, 1) := by decide +kernel
theorem d_Sh_init_14 : decode b_Sh_init 14 = .ok (.sipush 1000, 3) := by decide +kernel
theorem d_Sh_init_17 : decode b_Sh_init 17 = .ok (.newarray .int, 2) := by decide +kernel
theorem d_Sh_init_19 : decode b_Sh_init 19 = .ok (.putfield 15, 3) := by decide +kernel
theorem d_Sh_init_22 : decode b_Sh_init 22 = .ok (.aload_n 0, 1) := by decide +kernel
theorem d_Sh_init_23 : decode b_Sh_init 23 = .ok (.sipush 1000, 3) := by decide +kernel
theorem d_Sh_init_26 : decode b_Sh_init 26 = .ok (.newarray .int, 2) := by decide +kernel
theorem d_Sh_init_28 : decode b_Sh_init 28 = .ok (.putfield 18, 3) := by decide +kernel
theorem d_Sh_init_31 : decode b_Sh_init 31 = .ok (.aload_n 0, 1) := by decide +kernel
theorem d_Sh_init_32 : decode b_Sh_init 32 = .ok (.sipush 1000, 3) := by decide +kernel
theorem d_Sh_init_35 : decode b_Sh_init 35 = .ok (.newarray .int, 2) := by decide +kernel
theorem d_Sh_init_37 : decode b_Sh_init 37 = .ok (.putfield 21, 3) := by decide +kernel
theorem d_Sh_init_40 : decode b_Sh_init 40 = .ok (.return_, 1) := by decide +kernel
theorem d_Sh_hasAny_0 : decode b_Sh_hasAny 0 = .ok (.iconst 0, 1) := by decide +kernel
theorem d_Sh_hasAny_1 : decode b_Sh_hasAny 1 = .ok (.istore_n 3, 1) := by decide +kernel
theorem d_Sh_hasAny_2 : decode b_Sh_hasAny 2 = .ok (.iload_n 3, 1) := by decide +kernel
theorem d_Sh_hasAny_3 : decode b_Sh_hasAny 3 = .ok (.iload_n 2, 1) := by decide +kernel
theorem d_Sh_hasAny_4 : decode b_Sh_hasAny 4 = .ok (.if_icmp .ge 31, 3) := by decide +kernel
theorem d_Sh_hasAny_7 : decode b_Sh_hasAny 7 = .ok (.iload_n 1, 1) := by decide +kernel
theorem d_Sh_hasAny_8 : decode b_Sh_hasAny 8 = .ok (.iload_n 3, 1) := by decide +kernel
theorem d_Sh_hasAny_9 : decode b_Sh_hasAny 9 = .ok (.iadd, 1) := by decide +kernel
theorem d_Sh_hasAny_10 : decode b_Sh_hasAny 10 = .ok (.invokestatic 24, 3) := by decide +kernel
theorem d_Sh_hasAny_13 : decode b_Sh_hasAny 13 = .ok (.ifCond .eq 16, 3) := by decide +kernel
theorem d_Sh_hasAny_16 : decode b_Sh_hasAny 16 = .ok (.aload_n 0, 1) := by decide +kernel
theorem d_Sh_hasAny_17 : decode b_Sh_hasAny 17 = .ok (.getfield 18, 3) := by decide +kernel
theorem d_Sh_hasAny_20 : decode b_Sh_hasAny 20 = .ok (.iload_n 1, 1) := by decide +kernel
theorem d_Sh_hasAny_21 : decode b_Sh_hasAny 21 = .ok (.iload_n 3, 1) := by decide +kernel
theorem d_Sh_hasAny_22 : decode b_Sh_hasAny 22 = .ok (.iadd, 1) := by decide +kernel
theorem d_Sh_hasAny_23 : decode b_Sh_hasAny 23 = .ok (.iaload, 1) := by decide +kernel
theorem d_Sh_hasAny_24 : decode b_Sh_hasAny 24 = .ok (.ifCond .eq 5, 3) := by decide +kernel
theorem d_Sh_hasAny_27 : decode b_Sh_hasAny 27 = .ok (.iconst 1, 1) := by decide +kernel
theorem d_Sh_hasAny_28 : decode b_Sh_hasAny 28 = .ok (.ireturn, 1) := by decide +kernel
theorem d_Sh_hasAny_29 : decode b_Sh_hasAny 29 = .ok (.iinc 3 1, 3) := by decide +kernel
theorem d_Sh_hasAny_32 : decode b_Sh_hasAny 32 = .ok (.goto (-30), 3) := by decide +kernel
theorem d_Sh_hasAny_35 : decode b_Sh_hasAny 35 = .ok (.iconst 0, 1) := by decide +kernel
theorem d_Sh_hasAny_36 : decode b_Sh_hasAny 36 = .ok (.ireturn, 1) := by decide +kernel
theorem d_Sh_put_0 : decode b_Sh_put 0 = .ok (.iconst 0, 1) := by decide +kernel
theorem d_Sh_put_1 : decode b_Sh_put 1 = .ok (.istore 5, 2) := by decide +kernel
theorem d_Sh_put_3 : decode b_Sh_put 3 = .ok (.iload 5, 2) := by decide +kernel
theorem d_Sh_put_5 : decode b_Sh_put 5 = .ok (.iload 4, 2) := by decide +kernel
theorem d_Sh_put_7 : decode b_Sh_put 7 = .ok (.if_icmp .ge 49, 3) := by decide +kernel
theorem d_Sh_put_10 : decode b_Sh_put 10 = .ok (.iload_n 3, 1) := by decide +kernel
theorem d_Sh_put_11 : decode b_Sh_put 11 = .ok (.iload 5, 2) := by decide +kernel
theorem d_Sh_put_13 : decode b_Sh_put 13 = .ok (.iadd, 1) := by decide +kernel
theorem d_Sh_put_14 : decode b_Sh_put 14 = .ok (.invokestatic 24, 3) := by decide +kernel
theorem d_Sh_put_17 : decode b_Sh_put 17 = .ok (.ifCond .eq 33, 3) := by decide +kernel
theorem d_Sh_put_20 : decode b_Sh_put 20 = .ok (.aload_n 0, 1) := by decide +kernel
theorem d_Sh_put_21 : decode b_Sh_put 21 = .ok (.getfield 9, 3) := by decide +kernel
theorem d_Sh_put_24 : decode b_Sh_put 24 = .ok (.iload_n 3, 1) := by decide +kernel
theorem d_Sh_put_25 : decode b_Sh_put 25 = .ok (.iload 5, 2) := by decide +kernel
theorem d_Sh_put_27 : decode b_Sh_put 27 = .ok (.iadd, 1) := by decide +kernel
theorem d_Sh_put_28 : decode b_Sh_put 28 = .ok (.iload_n 1, 1) := by decide +kernel
theorem d_Sh_put_29 : decode b_Sh_put 29 = .ok (.iastore, 1) := by decide +kernel
theorem d_Sh_put_30 : decode b_Sh_put 30 = .ok (.aload_n 0, 1) := by decide +kernel
theorem d_Sh_put_31 : decode b_Sh_put 31 = .ok (.getfield 15, 3) := by decide +kernel
theorem d_Sh_put_34 : decode b_Sh_put 34 = .ok (.iload_n 3, 1) := by decide +kernel
theorem d_Sh_put_35 : decode b_Sh_put 35 = .ok (.iload 5, 2) := by decide +kernel
theorem d_Sh_put_37 : decode b_Sh_put 37 = .ok (.iadd, 1) := by decide +kernel
theorem d_Sh_put_38 : decode b_Sh_put 38 = .ok (.iload_n 2, 1) := by decide +kernel
theorem d_Sh_put_39 : decode b_Sh_put 39 = .ok (.iastore, 1) := by decide +kernel
theorem d_Sh_put_40 : decode b_Sh_put 40 = .ok (.aload_n 0, 1) := by decide +kernel
theorem d_Sh_put_41 : decode b_Sh_put 41 = .ok (.getfield 18, 3) := by decide +kernel
theorem d_Sh_put_44 : decode b_Sh_put 44 = .ok (.iload_n 3, 1) := by decide +kernel
theorem d_Sh_put_45 : decode b_Sh_put 45 = .ok (.iload 5, 2) := by decide +kernel
theorem d_Sh_put_47 : decode b_Sh_put 47 = .ok (.iadd, 1) := by decide +kernel
theorem d_Sh_put_48 : decode b_Sh_put 48 = .ok (.iconst 1, 1) := by decide +kernel
theorem d_Sh_put_49 : decode b_Sh_put 49 = .ok (.iastore, 1) := by decide +kernel
theorem d_Sh_put_50 : decode b_Sh_put 50 = .ok (.iinc 5 1, 3) := by decide +kernel
theorem d_Sh_put_53 : decode b_Sh_put 53 = .ok (.goto (-50), 3) := by decide +kernel
theorem d_Sh_put_56 : decode b_Sh_put 56 = .ok (.return_, 1) := by decide +kernel
theorem d_Sh_tally_0 : decode b_Sh_tally 0 = .ok (.iconst 0, 1) := by decide +kernel
theorem d_Sh_tally_1 : decode b_Sh_tally 1 = .ok (.istore_n 3, 1) := by decide +kernel
theorem d_Sh_tally_2 : decode b_Sh_tally 2 = .ok (.iconst 0, 1) := by decide +kernel
theorem d_Sh_tally_3 : decode b_Sh_tally 3 = .ok (.istore 4, 2) := by decide +kernel
theorem d_Sh_tally_5 : decode b_Sh_tally 5 = .ok (.iload 4, 2) := by decide +kernel
theorem d_Sh_tally_7 : decode b_Sh_tally 7 = .ok (.sipush 1000, 3) := by decide +kernel
theorem d_Sh_tally_10 : decode b_Sh_tally 10 = .ok (.if_icmp .ge 34, 3) := by decide +kernel
theorem d_Sh_tally_13 : decode b_Sh_tally 13 = .ok (.aload_n 0, 1) := by decide +kernel
theorem d_Sh_tally_14 : decode b_Sh_tally 14 = .ok (.getfield 18, 3) := by decide +kernel
theorem d_Sh_tally_17 : decode b_Sh_tally 17 = .ok (.iload 4, 2) := by decide +kernel
theorem d_Sh_tally_19 : decode b_Sh_tally 19 = .ok (.iaload, 1) := by decide +kernel
theorem d_Sh_tally_20 : decode b_Sh_tally 20 = .ok (.iload_n 2, 1) := by decide +kernel
theorem d_Sh_tally_21 : decode b_Sh_tally 21 = .ok (.if_icmp .ne 17, 3) := by decide +kernel
theorem d_Sh_tally_24 : decode b_Sh_tally 24 = .ok (.aload_n 0, 1) := by decide +kernel
theorem d_Sh_tally_25 : decode b_Sh_tally 25 = .ok (.getfield 9, 3) := by decide +kernel
theorem d_Sh_tally_28 : decode b_Sh_tally 28 = .ok (.iload 4, 2) := by decide +kernel
theorem d_Sh_tally_30 : decode b_Sh_tally 30 = .ok (.iaload, 1) := by decide +kernel
theorem d_Sh_tally_31 : decode b_Sh_tally 31 = .ok (.iload_n 1, 1) := by decide +kernel
theorem d_Sh_tally_32 : decode b_Sh_tally 32 = .ok (.if_icmp .ne 6, 3) := by decide +kernel
theorem d_Sh_tally_35 : decode b_Sh_tally 35 = .ok (.iinc 3 1, 3) := by decide +kernel
theorem d_Sh_tally_38 : decode b_Sh_tally 38 = .ok (.iinc 4 1, 3) := by decide +kernel
theorem d_Sh_tally_41 : decode b_Sh_tally 41 = .ok (.goto (-36), 3) := by decide +kernel
theorem d_Sh_tally_44 : decode b_Sh_tally 44 = .ok (.iload_n 3, 1) := by decide +kernel
theorem d_Sh_tally_45 : decode b_Sh_tally 45 = .ok (.ireturn, 1) := by decide +kernel
theorem d_Sh_tallyFree_0 : decode b_Sh_tallyFree 0 = .ok (.iconst 0, 1) := by decide +kernel
theorem d_Sh_tallyFree_1 : decode b_Sh_tallyFree 1 = .ok (.istore_n 3, 1) := by decide +kernel
theorem d_Sh_tallyFree_2 : decode b_Sh_tallyFree 2 = .ok (.iconst 0, 1) := by decide +kernel
theorem d_Sh_tallyFree_3 : decode b_Sh_tallyFree 3 = .ok (.istore 4, 2) := by decide +kernel
theorem d_Sh_tallyFree_5 : decode b_Sh_tallyFree 5 = .ok (.iload 4, 2) := by decide +kernel
theorem d_Sh_tallyFree_7 : decode b_Sh_tallyFree 7 = .ok (.sipush 1000, 3) := by decide +kernel
theorem d_Sh_tallyFree_10 : decode b_Sh_tallyFree 10 = .ok (.if_icmp .ge 23, 3) := by decide +kernel
theorem d_Sh_tallyFree_13 : decode b_Sh_tallyFree 13 = .ok (.aload_n 0, 1) := by decide +kernel
theorem d_Sh_tallyFree_14 : decode b_Sh_tallyFree 14 = .ok (.iload 4, 2) := by decide +kernel
theorem d_Sh_tallyFree_16 : decode b_Sh_tallyFree 16 = .ok (.iload_n 1, 1) := by decide +kernel
theorem d_Sh_tallyFree_17 : decode b_Sh_tallyFree 17 = .ok (.iload_n 2, 1) := by decide +kernel
theorem d_Sh_tallyFree_18 : decode b_Sh_tallyFree 18 = .ok (.invokevirtual 28, 3) := by decide +kernel
theorem d_Sh_tallyFree_21 : decode b_Sh_tallyFree 21 = .ok (.ifCond .eq 6, 3) := by decide +kernel
theorem d_Sh_tallyFree_24 : decode b_Sh_tallyFree 24 = .ok (.iinc 3 1, 3) := by decide +kernel
theorem d_Sh_tallyFree_27 : decode b_Sh_tallyFree 27 = .ok (.iinc 4 1, 3) := by decide +kernel
theorem d_Sh_tallyFree_30 : decode b_Sh_tallyFree 30 = .ok (.goto (-25), 3) := by decide +kernel
theorem d_Sh_tallyFree_33 : decode b_Sh_tallyFree 33 = .ok (.iload_n 3, 1) := by decide +kernel
theorem d_Sh_tallyFree_34 : decode b_Sh_tallyFree 34 = .ok (.ireturn, 1) := by decide +kernel
theorem d_Sh_leastFree_0 : decode b_Sh_leastFree 0 = .ok (.iload_n 3, 1) := by decide +kernel
theorem d_Sh_leastFree_1 : decode b_Sh_leastFree 1 = .ok (.iconst 0, 1) := by decide +kernel
theorem d_Sh_leastFree_2 : decode b_Sh_leastFree 2 = .ok (.invokestatic 32, 3) := by decide +kernel
theorem d_Sh_leastFree_5 : decode b_Sh_leastFree 5 = .ok (.istore 4, 2) := by decide +kernel
theorem d_Sh_leastFree_7 : decode b_Sh_leastFree 7 = .ok (.iload 4, 2) := by decide +kernel
theorem d_Sh_leastFree_9 : decode b_Sh_leastFree 9 = .ok (.sipush 1000, 3) := by decide +kernel
theorem d_Sh_leastFree_12 : decode b_Sh_leastFree 12 = .ok (.if_icmp .ge 23, 3) := by decide +kernel
theorem d_Sh_leastFree_15 : decode b_Sh_leastFree 15 = .ok (.aload_n 0, 1) := by decide +kernel
theorem d_Sh_leastFree_16 : decode b_Sh_leastFree 16 = .ok (.iload 4, 2) := by decide +kernel
theorem d_Sh_leastFree_18 : decode b_Sh_leastFree 18 = .ok (.iload_n 1, 1) := by decide +kernel
theorem d_Sh_leastFree_19 : decode b_Sh_leastFree 19 = .ok (.iload_n 2, 1) := by decide +kernel
theorem d_Sh_leastFree_20 : decode b_Sh_leastFree 20 = .ok (.invokevirtual 28, 3) := by decide +kernel
theorem d_Sh_leastFree_23 : decode b_Sh_leastFree 23 = .ok (.ifCond .eq 6, 3) := by decide +kernel
theorem d_Sh_leastFree_26 : decode b_Sh_leastFree 26 = .ok (.iload 4, 2) := by decide +kernel
theorem d_Sh_leastFree_28 : decode b_Sh_leastFree 28 = .ok (.ireturn, 1) := by decide +kernel
theorem d_Sh_leastFree_29 : decode b_Sh_leastFree 29 = .ok (.iinc 4 1, 3) := by decide +kernel
theorem d_Sh_leastFree_32 : decode b_Sh_leastFree 32 = .ok (.goto (-25), 3) := by decide +kernel
theorem d_Sh_leastFree_35 : decode b_Sh_leastFree 35 = .ok (.iconst (-1), 1) := by decide +kernel
theorem d_Sh_leastFree_36 : decode b_Sh_leastFree 36 = .ok (.ireturn, 1) := by decide +kernel
theorem d_Sh_use_0 : decode b_Sh_use 0 = .ok (.iload_n 1, 1) := by decide +kernel
theorem d_Sh_use_1 : decode b_Sh_use 1 = .ok (.invokestatic 24, 3) := by decide +kernel
theorem d_Sh_use_4 : decode b_Sh_use 4 = .ok (.ifCond .eq 17, 3) := by decide +kernel
theorem d_Sh_use_7 : decode b_Sh_use 7 = .ok (.aload_n 0, 1) := by decide +kernel
theorem d_Sh_use_8 : decode b_Sh_use 8 = .ok (.getfield 18, 3) := by decide +kernel
theorem d_Sh_use_11 : decode b_Sh_use 11 = .ok (.iload_n 1, 1) := by decide +kernel
theorem d_Sh_use_12 : decode b_Sh_use 12 = .ok (.iconst 3, 1) := by decide +kernel
theorem d_Sh_use_13 : decode b_Sh_use 13 = .ok (.iastore, 1) := by decide +kernel
theorem d_Sh_use_14 : decode b_Sh_use 14 = .ok (.aload_n 0, 1) := by decide +kernel
theorem d_Sh_use_15 : decode b_Sh_use 15 = .ok (.getfield 21, 3) := by decide +kernel
theorem d_Sh_use_18 : decode b_Sh_use 18 = .ok (.iload_n 1, 1) := by decide +kernel
theorem d_Sh_use_19 : decode b_Sh_use 19 = .ok (.iload_n 2, 1) := by decide +kernel
theorem d_Sh_use_20 : decode b_Sh_use 20 = .ok (.iastore, 1) := by decide +kernel
theorem d_Sh_use_21 : decode b_Sh_use 21 = .ok (.return_, 1) := by decide +kernel
theorem d_Sh_markAll_0 : decode b_Sh_markAll 0 = .ok (.iconst 0, 1) := by decide +kernel
theorem d_Sh_markAll_1 : decode b_Sh_markAll 1 = .ok (.istore_n 3, 1) := by decide +kernel
theorem d_Sh_markAll_2 : decode b_Sh_markAll 2 = .ok (.iload_n 3, 1) := by decide +kernel
theorem d_Sh_markAll_3 : decode b_Sh_markAll 3 = .ok (.iload_n 2, 1) := by decide +kernel
theorem d_Sh_markAll_4 : decode b_Sh_markAll 4 = .ok (.if_icmp .ge 33, 3) := by decide +kernel
theorem d_Sh_markAll_7 : decode b_Sh_markAll 7 = .ok (.iload_n 3, 1) := by decide +kernel
theorem d_Sh_markAll_8 : decode b_Sh_markAll 8 = .ok (.aload_n 1, 1) := by decide +kernel
theorem d_Sh_markAll_9 : decode b_Sh_markAll 9 = .ok (.arraylength, 1) := by decide +kernel
theorem d_Sh_markAll_10 : decode b_Sh_markAll 10 = .ok (.if_icmp .ge 27, 3) := by decide +kernel
theorem d_Sh_markAll_13 : decode b_Sh_markAll 13 = .ok (.aload_n 1, 1) := by decide +kernel
theorem d_Sh_markAll_14 : decode b_Sh_markAll 14 = .ok (.iload_n 3, 1) := by decide +kernel
theorem d_Sh_markAll_15 : decode b_Sh_markAll 15 = .ok (.iaload, 1) := by decide +kernel
theorem d_Sh_markAll_16 : decode b_Sh_markAll 16 = .ok (.invokestatic 24, 3) := by decide +kernel
theorem d_Sh_markAll_19 : decode b_Sh_markAll 19 = .ok (.ifCond .eq 12, 3) := by decide +kernel
theorem d_Sh_markAll_22 : decode b_Sh_markAll 22 = .ok (.aload_n 0, 1) := by decide +kernel
theorem d_Sh_markAll_23 : decode b_Sh_markAll 23 = .ok (.getfield 18, 3) := by decide +kernel
theorem d_Sh_markAll_26 : decode b_Sh_markAll 26 = .ok (.aload_n 1, 1) := by decide +kernel
theorem d_Sh_markAll_27 : decode b_Sh_markAll 27 = .ok (.iload_n 3, 1) := by decide +kernel
theorem d_Sh_markAll_28 : decode b_Sh_markAll 28 = .ok (.iaload, 1) := by decide +kernel
theorem d_Sh_markAll_29 : decode b_Sh_markAll 29 = .ok (.iconst 2, 1) := by decide +kernel
theorem d_Sh_markAll_30 : decode b_Sh_markAll 30 = .ok (.iastore, 1) := by decide +kernel
theorem d_Sh_markAll_31 : decode b_Sh_markAll 31 = .ok (.iinc 3 1, 3) := by decide +kernel
theorem d_Sh_markAll_34 : decode b_Sh_markAll 34 = .ok (.goto (-32), 3) := by decide +kernel
theorem d_Sh_markAll_37 : decode b_Sh_markAll 37 = .ok (.return_, 1) := by decide +kernel
theorem d_Sh_freeMarked_0 : decode b_Sh_freeMarked 0 = .ok (.iconst 0, 1) := by decide +kernel
theorem d_Sh_freeMarked_1 : decode b_Sh_freeMarked 1 = .ok (.istore_n 2, 1) := by decide +kernel
theorem d_Sh_freeMarked_2 : decode b_Sh_freeMarked 2 = .ok (.iload_n 2, 1) := by decide +kernel
theorem d_Sh_freeMarked_3 : decode b_Sh_freeMarked 3 = .ok (.sipush 1000, 3) := by decide +kernel
theorem d_Sh_freeMarked_6 : decode b_Sh_freeMarked 6 = .ok (.if_icmp .ge 36, 3) := by decide +kernel
theorem d_Sh_freeMarked_9 : decode b_Sh_freeMarked 9 = .ok (.aload_n 0, 1) := by decide +kernel
theorem d_Sh_freeMarked_10 : decode b_Sh_freeMarked 10 = .ok (.getfield 18, 3) := by decide +kernel
theorem d_Sh_freeMarked_13 : decode b_Sh_freeMarked 13 = .ok (.iload_n 2, 1) := by decide +kernel
theorem d_Sh_freeMarked_14 : decode b_Sh_freeMarked 14 = .ok (.iaload, 1) := by decide +kernel
theorem d_Sh_freeMarked_15 : decode b_Sh_freeMarked 15 = .ok (.iconst 2, 1) := by decide +kernel
theorem d_Sh_freeMarked_16 : decode b_Sh_freeMarked 16 = .ok (.if_icmp .ne 20, 3) := by decide +kernel
theorem d_Sh_freeMarked_19 : decode b_Sh_freeMarked 19 = .ok (.aload_n 0, 1) := by decide +kernel
theorem d_Sh_freeMarked_20 : decode b_Sh_freeMarked 20 = .ok (.getfield 9, 3) := by decide +kernel
theorem d_Sh_freeMarked_23 : decode b_Sh_freeMarked 23 = .ok (.iload_n 2, 1) := by decide +kernel
theorem d_Sh_freeMarked_24 : decode b_Sh_freeMarked 24 = .ok (.iaload, 1) := by decide +kernel
theorem d_Sh_freeMarked_25 : decode b_Sh_freeMarked 25 = .ok (.iload_n 1, 1) := by decide +kernel
theorem d_Sh_freeMarked_26 : decode b_Sh_freeMarked 26 = .ok (.if_icmp .ne 10, 3) := by decide +kernel
theorem d_Sh_freeMarked_29 : decode b_Sh_freeMarked 29 = .ok (.aload_n 0, 1) := by decide +kernel
theorem d_Sh_freeMarked_30 : decode b_Sh_freeMarked 30 = .ok (.getfield 18, 3) := by decide +kernel
theorem d_Sh_freeMarked_33 : decode b_Sh_freeMarked 33 = .ok (.iload_n 2, 1) := by decide +kernel
theorem d_Sh_freeMarked_34 : decode b_Sh_freeMarked 34 = .ok (.iconst 1, 1) := by decide +kernel
theorem d_Sh_freeMarked_35 : decode b_Sh_freeMarked 35 = .ok (.iastore, 1) := by decide +kernel
theorem d_Sh_freeMarked_36 : decode b_Sh_freeMarked 36 = .ok (.iinc 2 1, 3) := by decide +kernel
theorem d_Sh_freeMarked_39 : decode b_Sh_freeMarked 39 = .ok (.goto (-37), 3) := by decide +kernel
theorem d_Sh_freeMarked_42 : decode b_Sh_freeMarked 42 = .ok (.return_, 1) := by decide +kernel
theorem d_Sh_armOf_0 : decode b_Sh_armOf 0 = .ok (.iload_n 1, 1) := by decide +kernel
theorem d_Sh_armOf_1 : decode b_Sh_armOf 1 = .ok (.invokestatic 24, 3) := by decide +kernel
theorem d_Sh_armOf_4 : decode b_Sh_armOf 4 = .ok (.ifCond .eq 12, 3) := by decide +kernel
theorem d_Sh_armOf_7 : decode b_Sh_armOf 7 = .ok (.aload_n 0, 1) := by decide +kernel
theorem d_Sh_armOf_8 : decode b_Sh_armOf 8 = .ok (.getfield 15, 3) := by decide +kernel
theorem d_Sh_armOf_11 : decode b_Sh_armOf 11 = .ok (.iload_n 1, 1) := by decide +kernel
theorem d_Sh_armOf_12 : decode b_Sh_armOf 12 = .ok (.iaload, 1) := by decide +kernel
theorem d_Sh_armOf_13 : decode b_Sh_armOf 13 = .ok (.goto 4, 3) := by decide +kernel
theorem d_Sh_armOf_16 : decode b_Sh_armOf 16 = .ok (.iconst (-1), 1) := by decide +kernel
theorem d_Sh_armOf_17 : decode b_Sh_armOf 17 = .ok (.ireturn, 1) := by decide +kernel
theorem d_Sh_userOf_0 : decode b_Sh_userOf 0 = .ok (.iload_n 1, 1) := by decide +kernel
theorem d_Sh_userOf_1 : decode b_Sh_userOf 1 = .ok (.invokestatic 24, 3) := by decide +kernel
theorem d_Sh_userOf_4 : decode b_Sh_userOf 4 = .ok (.ifCond .eq 32, 3) := by decide +kernel
theorem d_Sh_userOf_7 : decode b_Sh_userOf 7 = .ok (.aload_n 0, 1) := by decide +kernel
theorem d_Sh_userOf_8 : decode b_Sh_userOf 8 = .ok (.getfield 18, 3) := by decide +kernel
theorem d_Sh_userOf_11 : decode b_Sh_userOf 11 = .ok (.iload_n 1, 1) := by decide +kernel
theorem d_Sh_userOf_12 : decode b_Sh_userOf 12 = .ok (.iaload, 1) := by decide +kernel
theorem d_Sh_userOf_13 : decode b_Sh_userOf 13 = .ok (.iconst 3, 1) := by decide +kernel
theorem d_Sh_userOf_14 : decode b_Sh_userOf 14 = .ok (.if_icmp .ne 22, 3) := by decide +kernel
theorem d_Sh_userOf_17 : decode b_Sh_userOf 17 = .ok (.aload_n 0, 1) := by decide +kernel
theorem d_Sh_userOf_18 : decode b_Sh_userOf 18 = .ok (.getfield 9, 3) := by decide +kernel
theorem d_Sh_userOf_21 : decode b_Sh_userOf 21 = .ok (.iload_n 1, 1) := by decide +kernel
theorem d_Sh_userOf_22 : decode b_Sh_userOf 22 = .ok (.iaload, 1) := by decide +kernel
theorem d_Sh_userOf_23 : decode b_Sh_userOf 23 = .ok (.bipush 100, 2) := by decide +kernel
theorem d_Sh_userOf_25 : decode b_Sh_userOf 25 = .ok (.imul, 1) := by decide +kernel
theorem d_Sh_userOf_26 : decode b_Sh_userOf 26 = .ok (.aload_n 0, 1) := by decide +kernel
theorem d_Sh_userOf_27 : decode b_Sh_userOf 27 = .ok (.getfield 21, 3) := by decide +kernel
theorem d_Sh_userOf_30 : decode b_Sh_userOf 30 = .ok (.iload_n 1, 1) := by decide +kernel
theorem d_Sh_userOf_31 : decode b_Sh_userOf 31 = .ok (.iaload, 1) := by decide +kernel
theorem d_Sh_userOf_32 : decode b_Sh_userOf 32 = .ok (.iadd, 1) := by decide +kernel
theorem d_Sh_userOf_33 : decode b_Sh_userOf 33 = .ok (.goto 4, 3) := by decide +kernel
theorem d_Sh_userOf_36 : decode b_Sh_userOf 36 = .ok (.iconst (-1), 1) := by decide +kernel
theorem d_Sh_userOf_37 : decode b_Sh_userOf 37 = .ok (.ireturn, 1) := by decide +kernel
theorem d_Sh_isFree_0 : decode b_Sh_isFree 0 = .ok (.iload_n 1, 1) := by decide +kernel
theorem d_Sh_isFree_1 : decode b_Sh_isFree 1 = .ok (.invokestatic 24, 3) := by decide +kernel
theorem d_Sh_isFree_4 : decode b_Sh_isFree 4 = .ok (.ifCond .eq 37, 3) := by decide +kernel
theorem d_Sh_isFree_7 : decode b_Sh_isFree 7 = .ok (.aload_n 0, 1) := by decide +kernel
theorem d_Sh_isFree_8 : decode b_Sh_isFree 8 = .ok (.getfield 18, 3) := by decide +kernel
theorem d_Sh_isFree_11 : decode b_Sh_isFree 11 = .ok (.iload_n 1, 1) := by decide +kernel
theorem d_Sh_isFree_12 : decode b_Sh_isFree 12 = .ok (.iaload, 1) := by decide +kernel
theorem d_Sh_isFree_13 : decode b_Sh_isFree 13 = .ok (.iconst 1, 1) := by decide +kernel
theorem d_Sh_isFree_14 : decode b_Sh_isFree 14 = .ok (.if_icmp .ne 27, 3) := by decide +kernel
theorem d_Sh_isFree_17 : decode b_Sh_isFree 17 = .ok (.aload_n 0, 1) := by decide +kernel
theorem d_Sh_isFree_18 : decode b_Sh_isFree 18 = .ok (.getfield 9, 3) := by decide +kernel
theorem d_Sh_isFree_21 : decode b_Sh_isFree 21 = .ok (.iload_n 1, 1) := by decide +kernel
theorem d_Sh_isFree_22 : decode b_Sh_isFree 22 = .ok (.iaload, 1) := by decide +kernel
theorem d_Sh_isFree_23 : decode b_Sh_isFree 23 = .ok (.iload_n 2, 1) := by decide +kernel
theorem d_Sh_isFree_24 : decode b_Sh_isFree 24 = .ok (.if_icmp .ne 17, 3) := by decide +kernel
theorem d_Sh_isFree_27 : decode b_Sh_isFree 27 = .ok (.aload_n 0, 1) := by decide +kernel
theorem d_Sh_isFree_28 : decode b_Sh_isFree 28 = .ok (.getfield 15, 3) := by decide +kernel
theorem d_Sh_isFree_31 : decode b_Sh_isFree 31 = .ok (.iload_n 1, 1) := by decide +kernel
theorem d_Sh_isFree_32 : decode b_Sh_isFree 32 = .ok (.iaload, 1) := by decide +kernel
theorem d_Sh_isFree_33 : decode b_Sh_isFree 33 = .ok (.iload_n 3, 1) := by decide +kernel
theorem d_Sh_isFree_34 : decode b_Sh_isFree 34 = .ok (.if_icmp .ne 7, 3) := by decide +kernel
theorem d_Sh_isFree_37 : decode b_Sh_isFree 37 = .ok (.iconst 1, 1) := by decide +kernel
theorem d_Sh_isFree_38 : decode b_Sh_isFree 38 = .ok (.goto 4, 3) := by decide +kernel
theorem d_Sh_isFree_41 : decode b_Sh_isFree 41 = .ok (.iconst 0, 1) := by decide +kernel
theorem d_Sh_isFree_42 : decode b_Sh_isFree 42 = .ok (.ireturn, 1) := by decide +kernel
theorem d_Sh_isKit_0 : decode b_Sh_isKit 0 = .ok (.iload_n 0, 1) := by decide +kernel
theorem d_Sh_isKit_1 : decode b_Sh_isKit 1 = .ok (.ifCond .lt 14, 3) := by decide +kernel
theorem d_Sh_isKit_4 : decode b_Sh_isKit 4 = .ok (.iload_n 0, 1) := by decide +kernel
theorem d_Sh_isKit_5 : decode b_Sh_isKit 5 = .ok (.sipush 1000, 3) := by decide +kernel
theorem d_Sh_isKit_8 : decode b_Sh_isKit 8 = .ok (.if_icmp .ge 7, 3) := by decide +kernel
theorem d_Sh_isKit_11 : decode b_Sh_isKit 11 = .ok (.iconst 1, 1) := by decide +kernel
theorem d_Sh_isKit_12 : decode b_Sh_isKit 12 = .ok (.goto 4, 3) := by decide +kernel
theorem d_Sh_isKit_15 : decode b_Sh_isKit 15 = .ok (.iconst 0, 1) := by decide +kernel
theorem d_Sh_isKit_16 : decode b_Sh_isKit 16 = .ok (.ireturn, 1) := by decide +kernel
theorem d_Si_init_0 : decode b_Si_init 0 = .ok (.aload_n 0, 1) := by decide +kernel
theorem d_Si_init_1 : decode b_Si_init 1 = .ok (.invokespecial 3, 3) := by decide +kernel
theorem d_Si_init_4 : decode b_Si_init 4 = .ok (.aload_n 0, 1) := by decide +kernel
theorem d_Si_init_5 : decode b_Si_init 5 = .ok (.bipush 100, 2) := by decide +kernel
theorem d_Si_init_7 : decode b_Si_init 7 = .ok (.newarray .int, 2) := by decide +kernel
theorem d_Si_init_9 : decode b_Si_init 9 = .ok (.putfield 9, 3) := by decide +kernel
theorem d_Si_init_12 : decode b_Si_init 12 = .ok (.aload_n 0, 1) := by decide +kernel
theorem d_Si_init_13 : decode b_Si_init 13 = .ok (.bipush 100, 2) := by decide +kernel
theorem d_Si_init_15 : decode b_Si_init 15 = .ok (.newarray .int, 2) := by decide +kernel
theorem d_Si_init_17 : decode b_Si_init 17 = .ok (.putfield 15, 3) := by decide +kernel
theorem d_Si_init_20 : decode b_Si_init 20 = .ok (.aload_n 0, 1) := by decide +kernel
theorem d_Si_init_21 : decode b_Si_init 21 = .ok (.bipush 100, 2) := by decide +kernel
theorem d_Si_init_23 : decode b_Si_init 23 = .ok (.newarray .int, 2) := by decide +kernel
theorem d_Si_init_25 : decode b_Si_init 25 = .ok (.putfield 18, 3) := by decide +kernel
theorem d_Si_init_28 : decode b_Si_init 28 = .ok (.aload_n 0, 1) := by decide +kernel
theorem d_Si_init_29 : decode b_Si_init 29 = .ok (.bipush 100, 2) := by decide +kernel
theorem d_Si_init_31 : decode b_Si_init 31 = .ok (.newarray .int, 2) := by decide +kernel
theorem d_Si_init_33 : decode b_Si_init 33 = .ok (.putfield 21, 3) := by decide +kernel
theorem d_Si_init_36 : decode b_Si_init 36 = .ok (.aload_n 0, 1) := by decide +kernel
theorem d_Si_init_37 : decode b_Si_init 37 = .ok (.bipush 8, 2) := by decide +kernel
theorem d_Si_init_39 : decode b_Si_init 39 = .ok (.anewarray 24, 3) := by decide +kernel
theorem d_Si_init_42 : decode b_Si_init 42 = .ok (.putfield 26, 3) := by decide +kernel
theorem d_Si_init_45 : decode b_Si_init 45 = .ok (.iconst 0, 1) := by decide +kernel
theorem d_Si_init_46 : decode b_Si_init 46 = .ok (.istore_n 1, 1) := by decide +kernel
theorem d_Si_init_47 : decode b_Si_init 47 = .ok (.iload_n 1, 1) := by decide +kernel
theorem d_Si_init_48 : decode b_Si_init 48 = .ok (.aload_n 0, 1) := by decide +kernel
theorem d_Si_init_49 : decode b_Si_init 49 = .ok (.getfield 26, 3) := by decide +kernel
theorem d_Si_init_52 : decode b_Si_init 52 = .ok (.arraylength, 1) := by decide +kernel
theorem d_Si_init_53 : decode b_Si_init 53 = .ok (.if_icmp .ge 22, 3) := by decide +kernel
theorem d_Si_init_56 : decode b_Si_init 56 = .ok (.aload_n 0, 1) := by decide +kernel
theorem d_Si_init_57 : decode b_Si_init 57 = .ok (.getfield 26, 3) := by decide +kernel
theorem d_Si_init_60 : decode b_Si_init 60 = .ok (.iload_n 1, 1) := by decide +kernel
theorem d_Si_init_61 : decode b_Si_init 61 = .ok (.new 24, 3) := by decide +kernel
theorem d_Si_init_64 : decode b_Si_init 64 = .ok (.dup, 1) := by decide +kernel
theorem d_Si_init_65 : decode b_Si_init 65 = .ok (.invokespecial 30, 3) := by decide +kernel
theorem d_Si_init_68 : decode b_Si_init 68 = .ok (.aastore, 1) := by decide +kernel
theorem d_Si_init_69 : decode b_Si_init 69 = .ok (.iinc 1 1, 3) := by decide +kernel
theorem d_Si_init_72 : decode b_Si_init 72 = .ok (.goto (-25), 3) := by decide +kernel
theorem d_Si_init_75 : decode b_Si_init 75 = .ok (.return_, 1) := by decide +kernel
theorem d_Si_isAllotted_0 : decode b_Si_isAllotted 0 = .ok (.iload_n 1, 1) := by decide +kernel
theorem d_Si_isAllotted_1 : decode b_Si_isAllotted 1 = .ok (.invokestatic 31, 3) := by decide +kernel
theorem d_Si_isAllotted_4 : decode b_Si_isAllotted 4 = .ok (.ifCond .eq 16, 3) := by decide +kernel
theorem d_Si_isAllotted_7 : decode b_Si_isAllotted 7 = .ok (.aload_n 0, 1) := by decide +kernel
theorem d_Si_isAllotted_8 : decode b_Si_isAllotted 8 = .ok (.getfield 9, 3) := by decide +kernel
theorem d_Si_isAllotted_11 : decode b_Si_isAllotted 11 = .ok (.iload_n 1, 1) := by decide +kernel
theorem d_Si_isAllotted_12 : decode b_Si_isAllotted 12 = .ok (.iaload, 1) := by decide +kernel
theorem d_Si_isAllotted_13 : decode b_Si_isAllotted 13 = .ok (.ifCond .eq 7, 3) := by decide +kernel
theorem d_Si_isAllotted_16 : decode b_Si_isAllotted 16 = .ok (.iconst 1, 1) := by decide +kernel
theorem d_Si_isAllotted_17 : decode b_Si_isAllotted 17 = .ok (.goto 4, 3) := by decide +kernel
theorem d_Si_isAllotted_20 : decode b_Si_isAllotted 20 = .ok (.iconst 0, 1) := by decide +kernel
theorem d_Si_isAllotted_21 : decode b_Si_isAllotted 21 = .ok (.ireturn, 1) := by decide +kernel
theorem d_Si_isKnown_0 : decode b_Si_isKnown 0 = .ok (.iload_n 1, 1) := by decide +kernel
theorem d_Si_isKnown_1 : decode b_Si_isKnown 1 = .ok (.invokestatic 31, 3) := by decide +kernel
theorem d_Si_isKnown_4 : decode b_Si_isKnown 4 = .ok (.ifCond .eq 17, 3) := by decide +kernel
theorem d_Si_isKnown_7 : decode b_Si_isKnown 7 = .ok (.aload_n 0, 1) := by decide +kernel
theorem d_Si_isKnown_8 : decode b_Si_isKnown 8 = .ok (.getfield 9, 3) := by decide +kernel
theorem d_Si_isKnown_11 : decode b_Si_isKnown 11 = .ok (.iload_n 1, 1) := by decide +kernel
theorem d_Si_isKnown_12 : decode b_Si_isKnown 12 = .ok (.iaload, 1) := by decide +kernel
theorem d_Si_isKnown_13 : decode b_Si_isKnown 13 = .ok (.iconst 2, 1) := by decide +kernel
theorem d_Si_isKnown_14 : decode b_Si_isKnown 14 = .ok (.if_icmp .ne 7, 3) := by decide +kernel
theorem d_Si_isKnown_17 : decode b_Si_isKnown 17 = .ok (.iconst 1, 1) := by decide +kernel
theorem d_Si_isKnown_18 : decode b_Si_isKnown 18 = .ok (.goto 4, 3) := by decide +kernel
theorem d_Si_isKnown_21 : decode b_Si_isKnown 21 = .ok (.iconst 0, 1) := by decide +kernel
theorem d_Si_isKnown_22 : decode b_Si_isKnown 22 = .ok (.ireturn, 1) := by decide +kernel
theorem d_Si_enrol_0 : decode b_Si_enrol 0 = .ok (.iload_n 1, 1) := by decide +kernel
theorem d_Si_enrol_1 : decode b_Si_enrol 1 = .ok (.invokestatic 31, 3) := by decide +kernel
theorem d_Si_enrol_4 : decode b_Si_enrol 4 = .ok (.ifCond .eq 25, 3) := by decide +kernel
theorem d_Si_enrol_7 : decode b_Si_enrol 7 = .ok (.aload_n 0, 1) := by decide +kernel
theorem d_Si_enrol_8 : decode b_Si_enrol 8 = .ok (.getfield 9, 3) := by decide +kernel
theorem d_Si_enrol_11 : decode b_Si_enrol 11 = .ok (.iload_n 1, 1) := by decide +kernel
theorem d_Si_enrol_12 : decode b_Si_enrol 12 = .ok (.iload 4, 2) := by decide +kernel
theorem d_Si_enrol_14 : decode b_Si_enrol 14 = .ok (.iastore, 1) := by decide +kernel
theorem d_Si_enrol_15 : decode b_Si_enrol 15 = .ok (.aload_n 0, 1) := by decide +kernel
theorem d_Si_enrol_16 : decode b_Si_enrol 16 = .ok (.getfield 15, 3) := by decide +kernel
theorem d_Si_enrol_19 : decode b_Si_enrol 19 = .ok (.iload_n 1, 1) := by decide +kernel
theorem d_Si_enrol_20 : decode b_Si_enrol 20 = .ok (.iload_n 2, 1) := by decide +kernel
theorem d_Si_enrol_21 : decode b_Si_enrol 21 = .ok (.iastore, 1) := by decide +kernel
theorem d_Si_enrol_22 : decode b_Si_enrol 22 = .ok (.aload_n 0, 1) := by decide +kernel
theorem d_Si_enrol_23 : decode b_Si_enrol 23 = .ok (.getfield 18, 3) := by decide +kernel
theorem d_Si_enrol_26 : decode b_Si_enrol 26 = .ok (.iload_n 1, 1) := by decide +kernel
theorem d_Si_enrol_27 : decode b_Si_enrol 27 = .ok (.iload_n 3, 1) := by decide +kernel
theorem d_Si_enrol_28 : decode b_Si_enrol 28 = .ok (.iastore, 1) := by decide +kernel
theorem d_Si_enrol_29 : decode b_Si_enrol 29 = .ok (.return_, 1) := by decide +kernel
theorem d_Si_tell_0 : decode b_Si_tell 0 = .ok (.iload_n 1, 1) := by decide +kernel
theorem d_Si_tell_1 : decode b_Si_tell 1 = .ok (.invokestatic 31, 3) := by decide +kernel
theorem d_Si_tell_4 : decode b_Si_tell 4 = .ok (.ifCond .eq 22, 3) := by decide +kernel
theorem d_Si_tell_7 : decode b_Si_tell 7 = .ok (.aload_n 0, 1) := by decide +kernel
theorem d_Si_tell_8 : decode b_Si_tell 8 = .ok (.getfield 9, 3) := by decide +kernel
theorem d_Si_tell_11 : decode b_Si_tell 11 = .ok (.iload_n 1, 1) := by decide +kernel
theorem d_Si_tell_12 : decode b_Si_tell 12 = .ok (.iaload, 1) := by decide +kernel
theorem d_Si_tell_13 : decode b_Si_tell 13 = .ok (.iconst 1, 1) := by decide +kernel
theorem d_Si_tell_14 : decode b_Si_tell 14 = .ok (.if_icmp .ne 12, 3) := by decide +kernel
theorem d_Si_tell_17 : decode b_Si_tell 17 = .ok (.aload_n 0, 1) := by decide +kernel
theorem d_Si_tell_18 : decode b_Si_tell 18 = .ok (.getfield 9, 3) := by decide +kernel
theorem d_Si_tell_21 : decode b_Si_tell 21 = .ok (.iload_n 1, 1) := by decide +kernel
theorem d_Si_tell_22 : decode b_Si_tell 22 = .ok (.iconst 2, 1) := by decide +kernel
theorem d_Si_tell_23 : decode b_Si_tell 23 = .ok (.iastore, 1) := by decide +kernel
theorem d_Si_tell_24 : decode b_Si_tell 24 = .ok (.iconst 1, 1) := by decide +kernel
theorem d_Si_tell_25 : decode b_Si_tell 25 = .ok (.ireturn, 1) := by decide +kernel
theorem d_Si_tell_26 : decode b_Si_tell 26 = .ok (.iconst 0, 1) := by decide +kernel
theorem d_Si_tell_27 : decode b_Si_tell 27 = .ok (.ireturn, 1) := by decide +kernel
theorem d_Si_stratumOf_0 : decode b_Si_stratumOf 0 = .ok (.iload_n 1, 1) := by decide +kernel
theorem d_Si_stratumOf_1 : decode b_Si_stratumOf 1 = .ok (.invokestatic 31, 3) := by decide +kernel
theorem d_Si_stratumOf_4 : decode b_Si_stratumOf 4 = .ok (.ifCond .eq 12, 3) := by decide +kernel
theorem d_Si_stratumOf_7 : decode b_Si_stratumOf 7 = .ok (.aload_n 0, 1) := by decide +kernel
theorem d_Si_stratumOf_8 : decode b_Si_stratumOf 8 = .ok (.getfield 15, 3) := by decide +kernel
theorem d_Si_stratumOf_11 : decode b_Si_stratumOf 11 = .ok (.iload_n 1, 1) := by decide +kernel
theorem d_Si_stratumOf_12 : decode b_Si_stratumOf 12 = .ok (.iaload, 1) := by decide +kernel
theorem d_Si_stratumOf_13 : decode b_Si_stratumOf 13 = .ok (.goto 4, 3) := by decide +kernel
theorem d_Si_stratumOf_16 : decode b_Si_stratumOf 16 = .ok (.iconst 0, 1) := by decide +kernel
theorem d_Si_stratumOf_17 : decode b_Si_stratumOf 17 = .ok (.ireturn, 1) := by decide +kernel
theorem d_Si_armOf_0 : decode b_Si_armOf 0 = .ok (.iload_n 1, 1) := by decide +kernel
theorem d_Si_armOf_1 : decode b_Si_armOf 1 = .ok (.invokestatic 31, 3) := by decide +kernel
theorem d_Si_armOf_4 : decode b_Si_armOf 4 = .ok (.ifCond .eq 12, 3) := by decide +kernel
theorem d_Si_armOf_7 : decode b_Si_armOf 7 = .ok (.aload_n 0, 1) := by decide +kernel
theorem d_Si_armOf_8 : decode b_Si_armOf 8 = .ok (.getfield 18, 3) := by decide +kernel
theorem d_Si_armOf_11 : decode b_Si_armOf 11 = .ok (.iload_n 1, 1) := by decide +kernel
theorem d_Si_armOf_12 : decode b_Si_armOf 12 = .ok (.iaload, 1) := by decide +kernel
theorem d_Si_armOf_13 : decode b_Si_armOf 13 = .ok (.goto 4, 3) := by decide +kernel
theorem d_Si_armOf_16 : decode b_Si_armOf 16 = .ok (.iconst (-1), 1) := by decide +kernel
theorem d_Si_armOf_17 : decode b_Si_armOf 17 = .ok (.ireturn, 1) := by decide +kernel
theorem d_Si_addKey_0 : decode b_Si_addKey 0 = .ok (.iload_n 1, 1) := by decide +kernel
theorem d_Si_addKey_1 : decode b_Si_addKey 1 = .ok (.invokestatic 31, 3) := by decide +kernel
theorem d_Si_addKey_4 : decode b_Si_addKey 4 = .ok (.ifCond .eq 15, 3) := by decide +kernel
theorem d_Si_addKey_7 : decode b_Si_addKey 7 = .ok (.aload_n 0, 1) := by decide +kernel
theorem d_Si_addKey_8 : decode b_Si_addKey 8 = .ok (.getfield 21, 3) := by decide +kernel
theorem d_Si_addKey_11 : decode b_Si_addKey 11 = .ok (.iload_n 1, 1) := by decide +kernel
theorem d_Si_addKey_12 : decode b_Si_addKey 12 = .ok (.dup2, 1) := by decide +kernel
theorem d_Si_addKey_13 : decode b_Si_addKey 13 = .ok (.iaload, 1) := by decide +kernel
theorem d_Si_addKey_14 : decode b_Si_addKey 14 = .ok (.iconst 1, 1) := by decide +kernel
theorem d_Si_addKey_15 : decode b_Si_addKey 15 = .ok (.iload_n 2, 1) := by decide +kernel
theorem d_Si_addKey_16 : decode b_Si_addKey 16 = .ok (.ishl, 1) := by decide +kernel
theorem d_Si_addKey_17 : decode b_Si_addKey 17 = .ok (.ior, 1) := by decide +kernel
theorem d_Si_addKey_18 : decode b_Si_addKey 18 = .ok (.iastore, 1) := by decide +kernel
theorem d_Si_addKey_19 : decode b_Si_addKey 19 = .ok (.return_, 1) := by decide +kernel
theorem d_Si_keyCount_0 : decode b_Si_keyCount 0 = .ok (.iload_n 1, 1) := by decide +kernel
theorem d_Si_keyCount_1 : decode b_Si_keyCount 1 = .ok (.invokestatic 31, 3) := by decide +kernel
theorem d_Si_keyCount_4 : decode b_Si_keyCount 4 = .ok (.ifCond .eq 15, 3) := by decide +kernel
theorem d_Si_keyCount_7 : decode b_Si_keyCount 7 = .ok (.aload_n 0, 1) := by decide +kernel
theorem d_Si_keyCount_8 : decode b_Si_keyCount 8 = .ok (.getfield 21, 3) := by decide +kernel
theorem d_Si_keyCount_11 : decode b_Si_keyCount 11 = .ok (.iload_n 1, 1) := by decide +kernel
theorem d_Si_keyCount_12 : decode b_Si_keyCount 12 = .ok (.iaload, 1) := by decide +kernel
theorem d_Si_keyCount_13 : decode b_Si_keyCount 13 = .ok (.invokestatic 35, 3) := by decide +kernel
theorem d_Si_keyCount_16 : decode b_Si_keyCount 16 = .ok (.goto 4, 3) := by decide +kernel
theorem d_Si_keyCount_19 : decode b_Si_keyCount 19 = .ok (.iconst 0, 1) := by decide +kernel
theorem d_Si_keyCount_20 : decode b_Si_keyCount 20 = .ok (.ireturn, 1) := by decide +kernel
theorem d_Si_reserveFor_0 : decode b_Si_reserveFor 0 = .ok (.iload_n 1, 1) := by decide +kernel
theorem d_Si_reserveFor_1 : decode b_Si_reserveFor 1 = .ok (.ifCond .lt 21, 3) := by decide +kernel
theorem d_Si_reserveFor_4 : decode b_Si_reserveFor 4 = .ok (.iload_n 1, 1) := by decide +kernel
theorem d_Si_reserveFor_5 : decode b_Si_reserveFor 5 = .ok (.aload_n 0, 1) := by decide +kernel
theorem d_Si_reserveFor_6 : decode b_Si_reserveFor 6 = .ok (.getfield 26, 3) := by decide +kernel
theorem d_Si_reserveFor_9 : decode b_Si_reserveFor 9 = .ok (.arraylength, 1) := by decide +kernel
theorem d_Si_reserveFor_10 : decode b_Si_reserveFor 10 = .ok (.if_icmp .ge 12, 3) := by decide +kernel
theorem d_Si_reserveFor_13 : decode b_Si_reserveFor 13 = .ok (.aload_n 0, 1) := by decide +kernel
theorem d_Si_reserveFor_14 : decode b_Si_reserveFor 14 = .ok (.getfield 26, 3) := by decide +kernel
theorem d_Si_reserveFor_17 : decode b_Si_reserveFor 17 = .ok (.iload_n 1, 1) := by decide +kernel
theorem d_Si_reserveFor_18 : decode b_Si_reserveFor 18 = .ok (.aaload, 1) := by decide +kernel
theorem d_Si_reserveFor_19 : decode b_Si_reserveFor 19 = .ok (.ifnonnull 11, 3) := by decide +kernel
theorem d_Si_reserveFor_22 : decode b_Si_reserveFor 22 = .ok (.new 41, 3) := by decide +kernel
theorem d_Si_reserveFor_25 : decode b_Si_reserveFor 25 = .ok (.dup, 1) := by decide +kernel
theorem d_Si_reserveFor_26 : decode b_Si_reserveFor 26 = .ok (.invokespecial 43, 3) := by decide +kernel
theorem d_Si_reserveFor_29 : decode b_Si_reserveFor 29 = .ok (.athrow, 1) := by decide +kernel
theorem d_Si_reserveFor_30 : decode b_Si_reserveFor 30 = .ok (.aload_n 0, 1) := by decide +kernel
theorem d_Si_reserveFor_31 : decode b_Si_reserveFor 31 = .ok (.getfield 26, 3) := by decide +kernel
theorem d_Si_reserveFor_34 : decode b_Si_reserveFor 34 = .ok (.iload_n 1, 1) := by decide +kernel
theorem d_Si_reserveFor_35 : decode b_Si_reserveFor 35 = .ok (.aaload, 1) := by decide +kernel
theorem d_Si_reserveFor_36 : decode b_Si_reserveFor 36 = .ok (.areturn, 1) := by decide +kernel
theorem d_Si_entriesLeft_0 : decode b_Si_entriesLeft 0 = .ok (.iconst 0, 1) := by decide +kernel
theorem d_Si_entriesLeft_1 : decode b_Si_entriesLeft 1 = .ok (.istore_n 1, 1) := by decide +kernel
theorem d_Si_entriesLeft_2 : decode b_Si_entriesLeft 2 = .ok (.iconst 0, 1) := by decide +kernel
theorem d_Si_entriesLeft_3 : decode b_Si_entriesLeft 3 = .ok (.istore_n 2, 1) := by decide +kernel
theorem d_Si_entriesLeft_4 : decode b_Si_entriesLeft 4 = .ok (.iload_n 2, 1) := by decide +kernel
theorem d_Si_entriesLeft_5 : decode b_Si_entriesLeft 5 = .ok (.aload_n 0, 1) := by decide +kernel
theorem d_Si_entriesLeft_6 : decode b_Si_entriesLeft 6 = .ok (.getfield 26, 3) := by decide +kernel
theorem d_Si_entriesLeft_9 : decode b_Si_entriesLeft 9 = .ok (.arraylength, 1) := by decide +kernel
theorem d_Si_entriesLeft_10 : decode b_Si_entriesLeft 10 = .ok (.if_icmp .ge 27, 3) := by decide +kernel
theorem d_Si_entriesLeft_13 : decode b_Si_entriesLeft 13 = .ok (.aload_n 0, 1) := by decide +kernel
theorem d_Si_entriesLeft_14 : decode b_Si_entriesLeft 14 = .ok (.iload_n 2, 1) := by decide +kernel
theorem d_Si_entriesLeft_15 : decode b_Si_entriesLeft 15 = .ok (.invokevirtual 44, 3) := by decide +kernel
theorem d_Si_entriesLeft_18 : decode b_Si_entriesLeft 18 = .ok (.astore_n 3, 1) := by decide +kernel
theorem d_Si_entriesLeft_19 : decode b_Si_entriesLeft 19 = .ok (.iload_n 1, 1) := by decide +kernel
theorem d_Si_entriesLeft_20 : decode b_Si_entriesLeft 20 = .ok (.aload_n 3, 1) := by decide +kernel
theorem d_Si_entriesLeft_21 : decode b_Si_entriesLeft 21 = .ok (.getfield 48, 3) := by decide +kernel
theorem d_Si_entriesLeft_24 : decode b_Si_entriesLeft 24 = .ok (.aload_n 3, 1) := by decide +kernel
theorem d_Si_entriesLeft_25 : decode b_Si_entriesLeft 25 = .ok (.getfield 52, 3) := by decide +kernel
theorem d_Si_entriesLeft_28 : decode b_Si_entriesLeft 28 = .ok (.isub, 1) := by decide +kernel
theorem d_Si_entriesLeft_29 : decode b_Si_entriesLeft 29 = .ok (.iadd, 1) := by decide +kernel
theorem d_Si_entriesLeft_30 : decode b_Si_entriesLeft 30 = .ok (.istore_n 1, 1) := by decide +kernel
theorem d_Si_entriesLeft_31 : decode b_Si_entriesLeft 31 = .ok (.iinc 2 1, 3) := by decide +kernel
theorem d_Si_entriesLeft_34 : decode b_Si_entriesLeft 34 = .ok (.goto (-30), 3) := by decide +kernel
theorem d_Si_entriesLeft_37 : decode b_Si_entriesLeft 37 = .ok (.iload_n 1, 1) := by decide +kernel
theorem d_Si_entriesLeft_38 : decode b_Si_entriesLeft 38 = .ok (.ireturn, 1) := by decide +kernel
theorem d_Si_dropReserves_0 : decode b_Si_dropReserves 0 = .ok (.iconst 0, 1) := by decide +kernel
theorem d_Si_dropReserves_1 : decode b_Si_dropReserves 1 = .ok (.istore_n 1, 1) := by decide +kernel
theorem d_Si_dropReserves_2 : decode b_Si_dropReserves 2 = .ok (.iload_n 1, 1) := by decide +kernel
theorem d_Si_dropReserves_3 : decode b_Si_dropReserves 3 = .ok (.aload_n 0, 1) := by decide +kernel
theorem d_Si_dropReserves_4 : decode b_Si_dropReserves 4 = .ok (.getfield 26, 3) := by decide +kernel
theorem d_Si_dropReserves_7 : decode b_Si_dropReserves 7 = .ok (.arraylength, 1) := by decide +kernel
theorem d_Si_dropReserves_8 : decode b_Si_dropReserves 8 = .ok (.if_icmp .ge 17, 3) := by decide +kernel
theorem d_Si_dropReserves_11 : decode b_Si_dropReserves 11 = .ok (.aload_n 0, 1) := by decide +kernel
theorem d_Si_dropReserves_12 : decode b_Si_dropReserves 12 = .ok (.iload_n 1, 1) := by decide +kernel
theorem d_Si_dropReserves_13 : decode b_Si_dropReserves 13 = .ok (.invokevirtual 44, 3) := by decide +kernel
theorem d_Si_dropReserves_16 : decode b_Si_dropReserves 16 = .ok (.invokevirtual 55, 3) := by decide +kernel
theorem d_Si_dropReserves_19 : decode b_Si_dropReserves 19 = .ok (.iinc 1 1, 3) := by decide +kernel
theorem d_Si_dropReserves_22 : decode b_Si_dropReserves 22 = .ok (.goto (-20), 3) := by decide +kernel
theorem d_Si_dropReserves_25 : decode b_Si_dropReserves 25 = .ok (.return_, 1) := by decide +kernel
theorem d_Si_isPerson_0 : decode b_Si_isPerson 0 = .ok (.iload_n 0, 1) := by decide +kernel
theorem d_Si_isPerson_1 : decode b_Si_isPerson 1 = .ok (.ifCond .lt 13, 3) := by decide +kernel
theorem d_Si_isPerson_4 : decode b_Si_isPerson 4 = .ok (.iload_n 0, 1) := by decide +kernel
theorem d_Si_isPerson_5 : decode b_Si_isPerson 5 = .ok (.bipush 100, 2) := by decide +kernel
theorem d_Si_isPerson_7 : decode b_Si_isPerson 7 = .ok (.if_icmp .ge 7, 3) := by decide +kernel
theorem d_Si_isPerson_10 : decode b_Si_isPerson 10 = .ok (.iconst 1, 1) := by decide +kernel
theorem d_Si_isPerson_11 : decode b_Si_isPerson 11 = .ok (.goto 4, 3) := by decide +kernel
theorem d_Si_isPerson_14 : decode b_Si_isPerson 14 = .ok (.iconst 0, 1) := by decide +kernel
theorem d_Si_isPerson_15 : decode b_Si_isPerson 15 = .ok (.ireturn, 1) := by decide +kernel
theorem d_St_init_0 : decode b_St_init 0 = .ok (.aload_n 0, 1) := by decide +kernel
theorem d_St_init_1 : decode b_St_init 1 = .ok (.invokespecial 3, 3) := by decide +kernel
theorem d_St_init_4 : decode b_St_init 4 = .ok (.aload_n 0, 1) := by decide +kernel
theorem d_St_init_5 : decode b_St_init 5 = .ok (.iconst 4, 1) := by decide +kernel
theorem d_St_init_6 : decode b_St_init 6 = .ok (.newarray .int, 2) := by decide +kernel
theorem d_St_init_8 : decode b_St_init 8 = .ok (.putfield 9, 3) := by decide +kernel
theorem d_St_init_11 : decode b_St_init 11 = .ok (.aload_n 0, 1) := by decide +kernel
theorem d_St_init_12 : decode b_St_init 12 = .ok (.new 15, 3) := by decide +kernel
theorem d_St_init_15 : decode b_St_init 15 = .ok (.dup, 1) := by decide +kernel
theorem d_St_init_16 : decode b_St_init 16 = .ok (.invokespecial 17, 3) := by decide +kernel
theorem d_St_init_19 : decode b_St_init 19 = .ok (.putfield 18, 3) := by decide +kernel
theorem d_St_init_22 : decode b_St_init 22 = .ok (.aload_n 0, 1) := by decide +kernel
theorem d_St_init_23 : decode b_St_init 23 = .ok (.iconst 0, 1) := by decide +kernel
theorem d_St_init_24 : decode b_St_init 24 = .ok (.newarray .int, 2) := by decide +kernel
theorem d_St_init_26 : decode b_St_init 26 = .ok (.putfield 22, 3) := by decide +kernel
theorem d_St_init_29 : decode b_St_init 29 = .ok (.aload_n 0, 1) := by decide +kernel
theorem d_St_init_30 : decode b_St_init 30 = .ok (.iload_n 1, 1) := by decide +kernel
theorem d_St_init_31 : decode b_St_init 31 = .ok (.putfield 25, 3) := by decide +kernel
theorem d_St_init_34 : decode b_St_init 34 = .ok (.return_, 1) := by decide +kernel
theorem d_St_restart_0 : decode b_St_restart 0 = .ok (.aload_n 0, 1) := by decide +kernel
theorem d_St_restart_1 : decode b_St_restart 1 = .ok (.aload_n 1, 1) := by decide +kernel
theorem d_St_restart_2 : decode b_St_restart 2 = .ok (.putfield 18, 3) := by decide +kernel
theorem d_St_restart_5 : decode b_St_restart 5 = .ok (.aload_n 0, 1) := by decide +kernel
theorem d_St_restart_6 : decode b_St_restart 6 = .ok (.lload_n 2, 1) := by decide +kernel
theorem d_St_restart_7 : decode b_St_restart 7 = .ok (.aload_n 0, 1) := by decide +kernel
theorem d_St_restart_8 : decode b_St_restart 8 = .ok (.getfield 25, 3) := by decide +kernel
theorem d_St_restart_11 : decode b_St_restart 11 = .ok (.iconst 1, 1) := by decide +kernel
theorem d_St_restart_12 : decode b_St_restart 12 = .ok (.iadd, 1) := by decide +kernel
theorem d_St_restart_13 : decode b_St_restart 13 = .ok (.i2l, 1) := by decide +kernel
theorem d_St_restart_14 : decode b_St_restart 14 = .ok (.ldc2_w 29, 3) := by decide +kernel
theorem d_St_restart_17 : decode b_St_restart 17 = .ok (.lmul, 1) := by decide +kernel
theorem d_St_restart_18 : decode b_St_restart 18 = .ok (.lxor, 1) := by decide +kernel
theorem d_St_restart_19 : decode b_St_restart 19 = .ok (.putfield 31, 3) := by decide +kernel
theorem d_St_restart_22 : decode b_St_restart 22 = .ok (.aload_n 0, 1) := by decide +kernel
theorem d_St_restart_23 : decode b_St_restart 23 = .ok (.getfield 31, 3) := by decide +kernel
theorem d_St_restart_26 : decode b_St_restart 26 = .ok (.lconst 0, 1) := by decide +kernel
theorem d_St_restart_27 : decode b_St_restart 27 = .ok (.lcmp, 1) := by decide +kernel
theorem d_St_restart_28 : decode b_St_restart 28 = .ok (.ifCond .ne 8, 3) := by decide +kernel
theorem d_St_restart_31 : decode b_St_restart 31 = .ok (.aload_n 0, 1) := by decide +kernel
theorem d_St_restart_32 : decode b_St_restart 32 = .ok (.lconst 1, 1) := by decide +kernel
theorem d_St_restart_33 : decode b_St_restart 33 = .ok (.putfield 31, 3) := by decide +kernel
theorem d_St_restart_36 : decode b_St_restart 36 = .ok (.aload_n 0, 1) := by decide +kernel
theorem d_St_restart_37 : decode b_St_restart 37 = .ok (.iconst 0, 1) := by decide +kernel
theorem d_St_restart_38 : decode b_St_restart 38 = .ok (.putfield 35, 3) := by decide +kernel
theorem d_St_restart_41 : decode b_St_restart 41 = .ok (.return_, 1) := by decide +kernel
theorem d_St_nextArm_0 : decode b_St_nextArm 0 = .ok (.aload_n 0, 1) := by decide +kernel
theorem d_St_nextArm_1 : decode b_St_nextArm 1 = .ok (.getfield 38, 3) := by decide +kernel
theorem d_St_nextArm_4 : decode b_St_nextArm 4 = .ok (.ifCond .le 14, 3) := by decide +kernel
theorem d_St_nextArm_7 : decode b_St_nextArm 7 = .ok (.aload_n 0, 1) := by decide +kernel
theorem d_St_nextArm_8 : decode b_St_nextArm 8 = .ok (.aload_n 0, 1) := by decide +kernel
theorem d_St_nextArm_9 : decode b_St_nextArm 9 = .ok (.getfield 41, 3) := by decide +kernel
theorem d_St_nextArm_12 : decode b_St_nextArm 12 = .ok (.invokevirtual 44, 3) := by decide +kernel
theorem d_St_nextArm_15 : decode b_St_nextArm 15 = .ok (.goto 8, 3) := by decide +kernel
theorem d_St_nextArm_18 : decode b_St_nextArm 18 = .ok (.aload_n 0, 1) := by decide +kernel
theorem d_St_nextArm_19 : decode b_St_nextArm 19 = .ok (.iconst 0, 1) := by decide +kernel
theorem d_St_nextArm_20 : decode b_St_nextArm 20 = .ok (.invokevirtual 48, 3) := by decide +kernel
theorem d_St_nextArm_23 : decode b_St_nextArm 23 = .ok (.ireturn, 1) := by decide +kernel
theorem d_St_armAhead_0 : decode b_St_armAhead 0 = .ok (.aload_n 0, 1) := by decide +kernel
theorem d_St_armAhead_1 : decode b_St_armAhead 1 = .ok (.getfield 51, 3) := by decide +kernel
theorem d_St_armAhead_4 : decode b_St_armAhead 4 = .ok (.aload_n 0, 1) := by decide +kernel
theorem d_St_armAhead_5 : decode b_St_armAhead 5 = .ok (.getfield 35, 3) := by decide +kernel
theorem d_St_armAhead_8 : decode b_St_armAhead 8 = .ok (.if_icmp .ne 7, 3) := by decide +kernel
theorem d_St_armAhead_11 : decode b_St_armAhead 11 = .ok (.aload_n 0, 1) := by decide +kernel
theorem d_St_armAhead_12 : decode b_St_armAhead 12 = .ok (.invokevirtual 54, 3) := by decide +kernel
theorem d_St_armAhead_15 : decode b_St_armAhead 15 = .ok (.aload_n 0, 1) := by decide +kernel
theorem d_St_armAhead_16 : decode b_St_armAhead 16 = .ok (.aload_n 0, 1) := by decide +kernel
theorem d_St_armAhead_17 : decode b_St_armAhead 17 = .ok (.getfield 51, 3) := by decide +kernel
theorem d_St_armAhead_20 : decode b_St_armAhead 20 = .ok (.aload_n 0, 1) := by decide +kernel
theorem d_St_armAhead_21 : decode b_St_armAhead 21 = .ok (.getfield 18, 3) := by decide +kernel
theorem d_St_armAhead_24 : decode b_St_armAhead 24 = .ok (.getfield 57, 3) := by decide +kernel
theorem d_St_armAhead_27 : decode b_St_armAhead 27 = .ok (.imul, 1) := by decide +kernel
theorem d_St_armAhead_28 : decode b_St_armAhead 28 = .ok (.iload_n 1, 1) := by decide +kernel
theorem d_St_armAhead_29 : decode b_St_armAhead 29 = .ok (.iadd, 1) := by decide +kernel
theorem d_St_armAhead_30 : decode b_St_armAhead 30 = .ok (.invokevirtual 44, 3) := by decide +kernel
theorem d_St_armAhead_33 : decode b_St_armAhead 33 = .ok (.ireturn, 1) := by decide +kernel
theorem d_St_takenArm_0 : decode b_St_takenArm 0 = .ok (.iload_n 1, 1) := by decide +kernel
theorem d_St_takenArm_1 : decode b_St_takenArm 1 = .ok (.aload_n 0, 1) := by decide +kernel
theorem d_St_takenArm_2 : decode b_St_takenArm 2 = .ok (.getfield 51, 3) := by decide +kernel
theorem d_St_takenArm_5 : decode b_St_takenArm 5 = .ok (.aload_n 0, 1) := by decide +kernel
theorem d_St_takenArm_6 : decode b_St_takenArm 6 = .ok (.getfield 18, 3) := by decide +kernel
theorem d_St_takenArm_9 : decode b_St_takenArm 9 = .ok (.getfield 57, 3) := by decide +kernel
theorem d_St_takenArm_12 : decode b_St_takenArm 12 = .ok (.imul, 1) := by decide +kernel
theorem d_St_takenArm_13 : decode b_St_takenArm 13 = .ok (.if_icmp .ge 11, 3) := by decide +kernel
theorem d_St_takenArm_16 : decode b_St_takenArm 16 = .ok (.aload_n 0, 1) := by decide +kernel
theorem d_St_takenArm_17 : decode b_St_takenArm 17 = .ok (.iload_n 1, 1) := by decide +kernel
theorem d_St_takenArm_18 : decode b_St_takenArm 18 = .ok (.invokevirtual 44, 3) := by decide +kernel
theorem d_St_takenArm_21 : decode b_St_takenArm 21 = .ok (.goto 4, 3) := by decide +kernel
theorem d_St_takenArm_24 : decode b_St_takenArm 24 = .ok (.iconst (-1), 1) := by decide +kernel
theorem d_St_takenArm_25 : decode b_St_takenArm 25 = .ok (.ireturn, 1) := by decide +kernel
theorem d_St_takeEntry_0 : decode b_St_takeEntry 0 = .ok (.aload_n 0, 1) := by decide +kernel
theorem d_St_takeEntry_1 : decode b_St_takeEntry 1 = .ok (.getfield 38, 3) := by decide +kernel
theorem d_St_takeEntry_4 : decode b_St_takeEntry 4 = .ok (.ifCond .ne 30, 3) := by decide +kernel
theorem d_St_takeEntry_7 : decode b_St_takeEntry 7 = .ok (.aload_n 0, 1) := by decide +kernel
theorem d_St_takeEntry_8 : decode b_St_takeEntry 8 = .ok (.aload_n 0, 1) := by decide +kernel
theorem d_St_takeEntry_9 : decode b_St_takeEntry 9 = .ok (.invokevirtual 60, 3) := by decide +kernel
theorem d_St_takeEntry_12 : decode b_St_takeEntry 12 = .ok (.aload_n 0, 1) := by decide +kernel
theorem d_St_takeEntry_13 : decode b_St_takeEntry 13 = .ok (.getfield 18, 3) := by decide +kernel
theorem d_St_takeEntry_16 : decode b_St_takeEntry 16 = .ok (.getfield 57, 3) := by decide +kernel
theorem d_St_takeEntry_19 : decode b_St_takeEntry 19 = .ok (.imul, 1) := by decide +kernel
theorem d_St_takeEntry_20 : decode b_St_takeEntry 20 = .ok (.putfield 41, 3) := by decide +kernel
theorem d_St_takeEntry_23 : decode b_St_takeEntry 23 = .ok (.aload_n 0, 1) := by decide +kernel
theorem d_St_takeEntry_24 : decode b_St_takeEntry 24 = .ok (.aload_n 0, 1) := by decide +kernel
theorem d_St_takeEntry_25 : decode b_St_takeEntry 25 = .ok (.getfield 18, 3) := by decide +kernel
theorem d_St_takeEntry_28 : decode b_St_takeEntry 28 = .ok (.getfield 57, 3) := by decide +kernel
theorem d_St_takeEntry_31 : decode b_St_takeEntry 31 = .ok (.putfield 38, 3) := by decide +kernel
theorem d_St_takeEntry_34 : decode b_St_takeEntry 34 = .ok (.aload_n 0, 1) := by decide +kernel
theorem d_St_takeEntry_35 : decode b_St_takeEntry 35 = .ok (.dup, 1) := by decide +kernel
theorem d_St_takeEntry_36 : decode b_St_takeEntry 36 = .ok (.getfield 41, 3) := by decide +kernel
theorem d_St_takeEntry_39 : decode b_St_takeEntry 39 = .ok (.iconst 1, 1) := by decide +kernel
theorem d_St_takeEntry_40 : decode b_St_takeEntry 40 = .ok (.iadd, 1) := by decide +kernel
theorem d_St_takeEntry_41 : decode b_St_takeEntry 41 = .ok (.putfield 41, 3) := by decide +kernel
theorem d_St_takeEntry_44 : decode b_St_takeEntry 44 = .ok (.aload_n 0, 1) := by decide +kernel
theorem d_St_takeEntry_45 : decode b_St_takeEntry 45 = .ok (.dup, 1) := by decide +kernel
theorem d_St_takeEntry_46 : decode b_St_takeEntry 46 = .ok (.getfield 38, 3) := by decide +kernel
theorem d_St_takeEntry_49 : decode b_St_takeEntry 49 = .ok (.iconst 1, 1) := by decide +kernel
theorem d_St_takeEntry_50 : decode b_St_takeEntry 50 = .ok (.isub, 1) := by decide +kernel
theorem d_St_takeEntry_51 : decode b_St_takeEntry 51 = .ok (.putfield 38, 3) := by decide +kernel
theorem d_St_takeEntry_54 : decode b_St_takeEntry 54 = .ok (.return_, 1) := by decide +kernel
theorem d_St_takeBlock_0 : decode b_St_takeBlock 0 = .ok (.aload_n 0, 1) := by decide +kernel
theorem d_St_takeBlock_1 : decode b_St_takeBlock 1 = .ok (.dup, 1) := by decide +kernel
theorem d_St_takeBlock_2 : decode b_St_takeBlock 2 = .ok (.getfield 51, 3) := by decide +kernel
theorem d_St_takeBlock_5 : decode b_St_takeBlock 5 = .ok (.iconst 1, 1) := by decide +kernel
theorem d_St_takeBlock_6 : decode b_St_takeBlock 6 = .ok (.iadd, 1) := by decide +kernel
theorem d_St_takeBlock_7 : decode b_St_takeBlock 7 = .ok (.putfield 51, 3) := by decide +kernel
theorem d_St_takeBlock_10 : decode b_St_takeBlock 10 = .ok (.aload_n 0, 1) := by decide +kernel
theorem d_St_takeBlock_11 : decode b_St_takeBlock 11 = .ok (.getfield 51, 3) := by decide +kernel
theorem d_St_takeBlock_14 : decode b_St_takeBlock 14 = .ok (.iconst 1, 1) := by decide +kernel
theorem d_St_takeBlock_15 : decode b_St_takeBlock 15 = .ok (.isub, 1) := by decide +kernel
theorem d_St_takeBlock_16 : decode b_St_takeBlock 16 = .ok (.ireturn, 1) := by decide +kernel
theorem d_St_addKnown_0 : decode b_St_addKnown 0 = .ok (.iload_n 1, 1) := by decide +kernel
theorem d_St_addKnown_1 : decode b_St_addKnown 1 = .ok (.ifCond .lt 22, 3) := by decide +kernel
theorem d_St_addKnown_4 : decode b_St_addKnown 4 = .ok (.iload_n 1, 1) := by decide +kernel
theorem d_St_addKnown_5 : decode b_St_addKnown 5 = .ok (.aload_n 0, 1) := by decide +kernel
theorem d_St_addKnown_6 : decode b_St_addKnown 6 = .ok (.getfield 9, 3) := by decide +kernel
theorem d_St_addKnown_9 : decode b_St_addKnown 9 = .ok (.arraylength, 1) := by decide +kernel
theorem d_St_addKnown_10 : decode b_St_addKnown 10 = .ok (.if_icmp .ge 13, 3) := by decide +kernel
theorem d_St_addKnown_13 : decode b_St_addKnown 13 = .ok (.aload_n 0, 1) := by decide +kernel
theorem d_St_addKnown_14 : decode b_St_addKnown 14 = .ok (.getfield 9, 3) := by decide +kernel
theorem d_St_addKnown_17 : decode b_St_addKnown 17 = .ok (.iload_n 1, 1) := by decide +kernel
theorem d_St_addKnown_18 : decode b_St_addKnown 18 = .ok (.dup2, 1) := by decide +kernel
theorem d_St_addKnown_19 : decode b_St_addKnown 19 = .ok (.iaload, 1) := by decide +kernel
theorem d_St_addKnown_20 : decode b_St_addKnown 20 = .ok (.iconst 1, 1) := by decide +kernel
theorem d_St_addKnown_21 : decode b_St_addKnown 21 = .ok (.iadd, 1) := by decide +kernel
theorem d_St_addKnown_22 : decode b_St_addKnown 22 = .ok (.iastore, 1) := by decide +kernel
theorem d_St_addKnown_23 : decode b_St_addKnown 23 = .ok (.return_, 1) := by decide +kernel
theorem d_St_knownWith_0 : decode b_St_knownWith 0 = .ok (.iload_n 1, 1) := by decide +kernel
theorem d_St_knownWith_1 : decode b_St_knownWith 1 = .ok (.ifCond .lt 21, 3) := by decide +kernel
theorem d_St_knownWith_4 : decode b_St_knownWith 4 = .ok (.iload_n 1, 1) := by decide +kernel
theorem d_St_knownWith_5 : decode b_St_knownWith 5 = .ok (.aload_n 0, 1) := by decide +kernel
theorem d_St_knownWith_6 : decode b_St_knownWith 6 = .ok (.getfield 9, 3) := by decide +kernel
theorem d_St_knownWith_9 : decode b_St_knownWith 9 = .ok (.arraylength, 1) := by decide +kernel
theorem d_St_knownWith_10 : decode b_St_knownWith 10 = .ok (.if_icmp .ge 12, 3) := by decide +kernel
theorem d_St_knownWith_13 : decode b_St_knownWith 13 = .ok (.aload_n 0, 1) := by decide +kernel
theorem d_St_knownWith_14 : decode b_St_knownWith 14 = .ok (.getfield 9, 3) := by decide +kernel
theorem d_St_knownWith_17 : decode b_St_knownWith 17 = .ok (.iload_n 1, 1) := by decide +kernel
theorem d_St_knownWith_18 : decode b_St_knownWith 18 = .ok (.iaload, 1) := by decide +kernel
theorem d_St_knownWith_19 : decode b_St_knownWith 19 = .ok (.goto 4, 3) := by decide +kernel
theorem d_St_knownWith_22 : decode b_St_knownWith 22 = .ok (.iconst 0, 1) := by decide +kernel
theorem d_St_knownWith_23 : decode b_St_knownWith 23 = .ok (.ireturn, 1) := by decide +kernel
theorem d_St_widestGap_0 : decode b_St_widestGap 0 = .ok (.iconst 0, 1) := by decide +kernel
theorem d_St_widestGap_1 : decode b_St_widestGap 1 = .ok (.istore_n 1, 1) := by decide +kernel
theorem d_St_widestGap_2 : decode b_St_widestGap 2 = .ok (.iconst 0, 1) := by decide +kernel
theorem d_St_widestGap_3 : decode b_St_widestGap 3 = .ok (.istore_n 2, 1) := by decide +kernel
theorem d_St_widestGap_4 : decode b_St_widestGap 4 = .ok (.iload_n 2, 1) := by decide +kernel
theorem d_St_widestGap_5 : decode b_St_widestGap 5 = .ok (.aload_n 0, 1) := by decide +kernel
theorem d_St_widestGap_6 : decode b_St_widestGap 6 = .ok (.getfield 18, 3) := by decide +kernel
theorem d_St_widestGap_9 : decode b_St_widestGap 9 = .ok (.getfield 64, 3) := by decide +kernel
theorem d_St_widestGap_12 : decode b_St_widestGap 12 = .ok (.if_icmp .ge 71, 3) := by decide +kernel
theorem d_St_widestGap_15 : decode b_St_widestGap 15 = .ok (.iload_n 2, 1) := by decide +kernel
theorem d_St_widestGap_16 : decode b_St_widestGap 16 = .ok (.iconst 1, 1) := by decide +kernel
theorem d_St_widestGap_17 : decode b_St_widestGap 17 = .ok (.iadd, 1) := by decide +kernel
theorem d_St_widestGap_18 : decode b_St_widestGap 18 = .ok (.istore_n 3, 1) := by decide +kernel
theorem d_St_widestGap_19 : decode b_St_widestGap 19 = .ok (.iload_n 3, 1) := by decide +kernel
theorem d_St_widestGap_20 : decode b_St_widestGap 20 = .ok (.aload_n 0, 1) := by decide +kernel
theorem d_St_widestGap_21 : decode b_St_widestGap 21 = .ok (.getfield 18, 3) := by decide +kernel
theorem d_St_widestGap_24 : decode b_St_widestGap 24 = .ok (.getfield 64, 3) := by decide +kernel
theorem d_St_widestGap_27 : decode b_St_widestGap 27 = .ok (.if_icmp .ge 50, 3) := by decide +kernel
theorem d_St_widestGap_30 : decode b_St_widestGap 30 = .ok (.aload_n 0, 1) := by decide +kernel
theorem d_St_widestGap_31 : decode b_St_widestGap 31 = .ok (.iload_n 2, 1) := by decide +kernel
theorem d_St_widestGap_32 : decode b_St_widestGap 32 = .ok (.invokevirtual 67, 3) := by decide +kernel
theorem d_St_widestGap_35 : decode b_St_widestGap 35 = .ok (.aload_n 0, 1) := by decide +kernel
theorem d_St_widestGap_36 : decode b_St_widestGap 36 = .ok (.getfield 18, 3) := by decide +kernel
theorem d_St_widestGap_39 : decode b_St_widestGap 39 = .ok (.iload_n 3, 1) := by decide +kernel
theorem d_St_widestGap_40 : decode b_St_widestGap 40 = .ok (.invokevirtual 70, 3) := by decide +kernel
theorem d_St_widestGap_43 : decode b_St_widestGap 43 = .ok (.imul, 1) := by decide +kernel
theorem d_St_widestGap_44 : decode b_St_widestGap 44 = .ok (.aload_n 0, 1) := by decide +kernel
theorem d_St_widestGap_45 : decode b_St_widestGap 45 = .ok (.iload_n 3, 1) := by decide +kernel
theorem d_St_widestGap_46 : decode b_St_widestGap 46 = .ok (.invokevirtual 67, 3) := by decide +kernel
theorem d_St_widestGap_49 : decode b_St_widestGap 49 = .ok (.aload_n 0, 1) := by decide +kernel
theorem d_St_widestGap_50 : decode b_St_widestGap 50 = .ok (.getfield 18, 3) := by decide +kernel
theorem d_St_widestGap_53 : decode b_St_widestGap 53 = .ok (.iload_n 2, 1) := by decide +kernel
theorem d_St_widestGap_54 : decode b_St_widestGap 54 = .ok (.invokevirtual 70, 3) := by decide +kernel
theorem d_St_widestGap_57 : decode b_St_widestGap 57 = .ok (.imul, 1) := by decide +kernel
theorem d_St_widestGap_58 : decode b_St_widestGap 58 = .ok (.isub, 1) := by decide +kernel
theorem d_St_widestGap_59 : decode b_St_widestGap 59 = .ok (.istore 4, 2) := by decide +kernel
theorem d_St_widestGap_61 : decode b_St_widestGap 61 = .ok (.iload_n 1, 1) := by decide +kernel
theorem d_St_widestGap_62 : decode b_St_widestGap 62 = .ok (.iload 4, 2) := by decide +kernel
theorem d_St_widestGap_64 : decode b_St_widestGap 64 = .ok (.invokestatic 73, 3) := by decide +kernel
theorem d_St_widestGap_67 : decode b_St_widestGap 67 = .ok (.invokestatic 78, 3) := by decide +kernel
theorem d_St_widestGap_70 : decode b_St_widestGap 70 = .ok (.istore_n 1, 1) := by decide +kernel
theorem d_St_widestGap_71 : decode b_St_widestGap 71 = .ok (.iinc 3 1, 3) := by decide +kernel
theorem d_St_widestGap_74 : decode b_St_widestGap 74 = .ok (.goto (-55), 3) := by decide +kernel
theorem d_St_widestGap_77 : decode b_St_widestGap 77 = .ok (.iinc 2 1, 3) := by decide +kernel
theorem d_St_widestGap_80 : decode b_St_widestGap 80 = .ok (.goto (-76), 3) := by decide +kernel
theorem d_St_widestGap_83 : decode b_St_widestGap 83 = .ok (.iload_n 1, 1) := by decide +kernel
theorem d_St_widestGap_84 : decode b_St_widestGap 84 = .ok (.ireturn, 1) := by decide +kernel
theorem d_St_armAt_0 : decode b_St_armAt 0 = .ok (.iload_n 1, 1) := by decide +kernel
theorem d_St_armAt_1 : decode b_St_armAt 1 = .ok (.ifCond .lt 37, 3) := by decide +kernel
theorem d_St_armAt_4 : decode b_St_armAt 4 = .ok (.iload_n 1, 1) := by decide +kernel
theorem d_St_armAt_5 : decode b_St_armAt 5 = .ok (.aload_n 0, 1) := by decide +kernel
theorem d_St_armAt_6 : decode b_St_armAt 6 = .ok (.getfield 35, 3) := by decide +kernel
theorem d_St_armAt_9 : decode b_St_armAt 9 = .ok (.aload_n 0, 1) := by decide +kernel
theorem d_St_armAt_10 : decode b_St_armAt 10 = .ok (.getfield 18, 3) := by decide +kernel
theorem d_St_armAt_13 : decode b_St_armAt 13 = .ok (.getfield 57, 3) := by decide +kernel
theorem d_St_armAt_16 : decode b_St_armAt 16 = .ok (.imul, 1) := by decide +kernel
theorem d_St_armAt_17 : decode b_St_armAt 17 = .ok (.if_icmp .ge 21, 3) := by decide +kernel
theorem d_St_armAt_20 : decode b_St_armAt 20 = .ok (.iload_n 1, 1) := by decide +kernel
theorem d_St_armAt_21 : decode b_St_armAt 21 = .ok (.aload_n 0, 1) := by decide +kernel
theorem d_St_armAt_22 : decode b_St_armAt 22 = .ok (.getfield 22, 3) := by decide +kernel
theorem d_St_armAt_25 : decode b_St_armAt 25 = .ok (.arraylength, 1) := by decide +kernel
theorem d_St_armAt_26 : decode b_St_armAt 26 = .ok (.if_icmp .ge 12, 3) := by decide +kernel
theorem d_St_armAt_29 : decode b_St_armAt 29 = .ok (.aload_n 0, 1) := by decide +kernel
theorem d_St_armAt_30 : decode b_St_armAt 30 = .ok (.getfield 22, 3) := by decide +kernel
theorem d_St_armAt_33 : decode b_St_armAt 33 = .ok (.iload_n 1, 1) := by decide +kernel
theorem d_St_armAt_34 : decode b_St_armAt 34 = .ok (.iaload, 1) := by decide +kernel
theorem d_St_armAt_35 : decode b_St_armAt 35 = .ok (.goto 4, 3) := by decide +kernel
theorem d_St_armAt_38 : decode b_St_armAt 38 = .ok (.iconst (-1), 1) := by decide +kernel
theorem d_St_armAt_39 : decode b_St_armAt 39 = .ok (.ireturn, 1) := by decide +kernel
theorem d_St_build_0 : decode b_St_build 0 = .ok (.aload_n 0, 1) := by decide +kernel
theorem d_St_build_1 : decode b_St_build 1 = .ok (.getfield 35, 3) := by decide +kernel
theorem d_St_build_4 : decode b_St_build 4 = .ok (.sipush 512, 3) := by decide +kernel
theorem d_St_build_7 : decode b_St_build 7 = .ok (.if_icmp .lt 4, 3) := by decide +kernel
theorem d_St_build_10 : decode b_St_build 10 = .ok (.return_, 1) := by decide +kernel
theorem d_St_build_11 : decode b_St_build 11 = .ok (.aload_n 0, 1) := by decide +kernel
theorem d_St_build_12 : decode b_St_build 12 = .ok (.getfield 35, 3) := by decide +kernel
theorem d_St_build_15 : decode b_St_build 15 = .ok (.aload_n 0, 1) := by decide +kernel
theorem d_St_build_16 : decode b_St_build 16 = .ok (.getfield 18, 3) := by decide +kernel
theorem d_St_build_19 : decode b_St_build 19 = .ok (.getfield 57, 3) := by decide +kernel
theorem d_St_build_22 : decode b_St_build 22 = .ok (.imul, 1) := by decide +kernel
theorem d_St_build_23 : decode b_St_build 23 = .ok (.istore_n 1, 1) := by decide +kernel
theorem d_St_build_24 : decode b_St_build 24 = .ok (.aload_n 0, 1) := by decide +kernel
theorem d_St_build_25 : decode b_St_build 25 = .ok (.iload_n 1, 1) := by decide +kernel
theorem d_St_build_26 : decode b_St_build 26 = .ok (.aload_n 0, 1) := by decide +kernel
theorem d_St_build_27 : decode b_St_build 27 = .ok (.getfield 18, 3) := by decide +kernel
theorem d_St_build_30 : decode b_St_build 30 = .ok (.getfield 57, 3) := by decide +kernel
theorem d_St_build_33 : decode b_St_build 33 = .ok (.iadd, 1) := by decide +kernel
theorem d_St_build_34 : decode b_St_build 34 = .ok (.invokevirtual 82, 3) := by decide +kernel
theorem d_St_build_37 : decode b_St_build 37 = .ok (.aload_n 0, 1) := by decide +kernel
theorem d_St_build_38 : decode b_St_build 38 = .ok (.iload_n 1, 1) := by decide +kernel
theorem d_St_build_39 : decode b_St_build 39 = .ok (.invokevirtual 86, 3) := by decide +kernel
theorem d_St_build_42 : decode b_St_build 42 = .ok (.aload_n 0, 1) := by decide +kernel
theorem d_St_build_43 : decode b_St_build 43 = .ok (.iload_n 1, 1) := by decide +kernel
theorem d_St_build_44 : decode b_St_build 44 = .ok (.invokevirtual 89, 3) := by decide +kernel
theorem d_St_build_47 : decode b_St_build 47 = .ok (.aload_n 0, 1) := by decide +kernel
theorem d_St_build_48 : decode b_St_build 48 = .ok (.dup, 1) := by decide +kernel
theorem d_St_build_49 : decode b_St_build 49 = .ok (.getfield 35, 3) := by decide +kernel
theorem d_St_build_52 : decode b_St_build 52 = .ok (.iconst 1, 1) := by decide +kernel
theorem d_St_build_53 : decode b_St_build 53 = .ok (.iadd, 1) := by decide +kernel
theorem d_St_build_54 : decode b_St_build 54 = .ok (.putfield 35, 3) := by decide +kernel
theorem d_St_build_57 : decode b_St_build 57 = .ok (.return_, 1) := by decide +kernel
theorem d_St_makeRoom_0 : decode b_St_makeRoom 0 = .ok (.iload_n 1, 1) := by decide +kernel
theorem d_St_makeRoom_1 : decode b_St_makeRoom 1 = .ok (.aload_n 0, 1) := by decide +kernel
theorem d_St_makeRoom_2 : decode b_St_makeRoom 2 = .ok (.getfield 22, 3) := by decide +kernel
theorem d_St_makeRoom_5 : decode b_St_makeRoom 5 = .ok (.arraylength, 1) := by decide +kernel
theorem d_St_makeRoom_6 : decode b_St_makeRoom 6 = .ok (.if_icmp .le 32, 3) := by decide +kernel
theorem d_St_makeRoom_9 : decode b_St_makeRoom 9 = .ok (.iload_n 1, 1) := by decide +kernel
theorem d_St_makeRoom_10 : decode b_St_makeRoom 10 = .ok (.sipush 12288, 3) := by decide +kernel
theorem d_St_makeRoom_13 : decode b_St_makeRoom 13 = .ok (.if_icmp .gt 25, 3) := by decide +kernel
theorem d_St_makeRoom_16 : decode b_St_makeRoom 16 = .ok (.aload_n 0, 1) := by decide +kernel
theorem d_St_makeRoom_17 : decode b_St_makeRoom 17 = .ok (.aload_n 0, 1) := by decide +kernel
theorem d_St_makeRoom_18 : decode b_St_makeRoom 18 = .ok (.getfield 22, 3) := by decide +kernel
theorem d_St_makeRoom_21 : decode b_St_makeRoom 21 = .ok (.iload_n 1, 1) := by decide +kernel
theorem d_St_makeRoom_22 : decode b_St_makeRoom 22 = .ok (.iconst 2, 1) := by decide +kernel
theorem d_St_makeRoom_23 : decode b_St_makeRoom 23 = .ok (.aload_n 0, 1) := by decide +kernel
theorem d_St_makeRoom_24 : decode b_St_makeRoom 24 = .ok (.getfield 22, 3) := by decide +kernel
theorem d_St_makeRoom_27 : decode b_St_makeRoom 27 = .ok (.arraylength, 1) := by decide +kernel
theorem d_St_makeRoom_28 : decode b_St_makeRoom 28 = .ok (.imul, 1) := by decide +kernel
theorem d_St_makeRoom_29 : decode b_St_makeRoom 29 = .ok (.invokestatic 78, 3) := by decide +kernel
theorem d_St_makeRoom_32 : decode b_St_makeRoom 32 = .ok (.invokestatic 92, 3) := by decide +kernel
theorem d_St_makeRoom_35 : decode b_St_makeRoom 35 = .ok (.putfield 22, 3) := by decide +kernel
theorem d_St_makeRoom_38 : decode b_St_makeRoom 38 = .ok (.return_, 1) := by decide +kernel
theorem d_St_layArms_0 : decode b_St_layArms 0 = .ok (.iload_n 1, 1) := by decide +kernel
theorem d_St_layArms_1 : decode b_St_layArms 1 = .ok (.istore_n 2, 1) := by decide +kernel
theorem d_St_layArms_2 : decode b_St_layArms 2 = .ok (.iconst 0, 1) := by decide +kernel
theorem d_St_layArms_3 : decode b_St_layArms 3 = .ok (.istore_n 3, 1) := by decide +kernel
theorem d_St_layArms_4 : decode b_St_layArms 4 = .ok (.iload_n 3, 1) := by decide +kernel
theorem d_St_layArms_5 : decode b_St_layArms 5 = .ok (.aload_n 0, 1) := by decide +kernel
theorem d_St_layArms_6 : decode b_St_layArms 6 = .ok (.getfield 18, 3) := by decide +kernel
theorem d_St_layArms_9 : decode b_St_layArms 9 = .ok (.getfield 64, 3) := by decide +kernel
theorem d_St_layArms_12 : decode b_St_layArms 12 = .ok (.if_icmp .ge 53, 3) := by decide +kernel
theorem d_St_layArms_15 : decode b_St_layArms 15 = .ok (.iload_n 2, 1) := by decide +kernel
theorem d_St_layArms_16 : decode b_St_layArms 16 = .ok (.aload_n 0, 1) := by decide +kernel
theorem d_St_layArms_17 : decode b_St_layArms 17 = .ok (.getfield 18, 3) := by decide +kernel
theorem d_St_layArms_20 : decode b_St_layArms 20 = .ok (.iload_n 3, 1) := by decide +kernel
theorem d_St_layArms_21 : decode b_St_layArms 21 = .ok (.invokevirtual 98, 3) := by decide +kernel
theorem d_St_layArms_24 : decode b_St_layArms 24 = .ok (.iadd, 1) := by decide +kernel
theorem d_St_layArms_25 : decode b_St_layArms 25 = .ok (.istore 4, 2) := by decide +kernel
theorem d_St_layArms_27 : decode b_St_layArms 27 = .ok (.iload_n 2, 1) := by decide +kernel
theorem d_St_layArms_28 : decode b_St_layArms 28 = .ok (.iload 4, 2) := by decide +kernel
theorem d_St_layArms_30 : decode b_St_layArms 30 = .ok (.if_icmp .ge 29, 3) := by decide +kernel
theorem d_St_layArms_33 : decode b_St_layArms 33 = .ok (.iload_n 2, 1) := by decide +kernel
theorem d_St_layArms_34 : decode b_St_layArms 34 = .ok (.ifCond .lt 25, 3) := by decide +kernel
theorem d_St_layArms_37 : decode b_St_layArms 37 = .ok (.iload_n 2, 1) := by decide +kernel
theorem d_St_layArms_38 : decode b_St_layArms 38 = .ok (.aload_n 0, 1) := by decide +kernel
theorem d_St_layArms_39 : decode b_St_layArms 39 = .ok (.getfield 22, 3) := by decide +kernel
theorem d_St_layArms_42 : decode b_St_layArms 42 = .ok (.arraylength, 1) := by decide +kernel
theorem d_St_layArms_43 : decode b_St_layArms 43 = .ok (.if_icmp .ge 16, 3) := by decide +kernel
theorem d_St_layArms_46 : decode b_St_layArms 46 = .ok (.aload_n 0, 1) := by decide +kernel
theorem d_St_layArms_47 : decode b_St_layArms 47 = .ok (.getfield 22, 3) := by decide +kernel
theorem d_St_layArms_50 : decode b_St_layArms 50 = .ok (.iload_n 2, 1) := by decide +kernel
theorem d_St_layArms_51 : decode b_St_layArms 51 = .ok (.iload_n 3, 1) := by decide +kernel
theorem d_St_layArms_52 : decode b_St_layArms 52 = .ok (.iastore, 1) := by decide +kernel
theorem d_St_layArms_53 : decode b_St_layArms 53 = .ok (.iinc 2 1, 3) := by decide +kernel
theorem d_St_layArms_56 : decode b_St_layArms 56 = .ok (.goto (-29), 3) := by decide +kernel
theorem d_St_layArms_59 : decode b_St_layArms 59 = .ok (.iinc 3 1, 3) := by decide +kernel
theorem d_St_layArms_62 : decode b_St_layArms 62 = .ok (.goto (-58), 3) := by decide +kernel
theorem d_St_layArms_65 : decode b_St_layArms 65 = .ok (.return_, 1) := by decide +kernel
theorem d_St_shuffle_0 : decode b_St_shuffle 0 = .ok (.aload_n 0, 1) := by decide +kernel
theorem d_St_shuffle_1 : decode b_St_shuffle 1 = .ok (.getfield 18, 3) := by decide +kernel
theorem d_St_shuffle_4 : decode b_St_shuffle 4 = .ok (.getfield 57, 3) := by decide +kernel
theorem d_St_shuffle_7 : decode b_St_shuffle 7 = .ok (.iconst 1, 1) := by decide +kernel
theorem d_St_shuffle_8 : decode b_St_shuffle 8 = .ok (.isub, 1) := by decide +kernel
theorem d_St_shuffle_9 : decode b_St_shuffle 9 = .ok (.istore_n 2, 1) := by decide +kernel
theorem d_St_shuffle_10 : decode b_St_shuffle 10 = .ok (.iload_n 2, 1) := by decide +kernel
theorem d_St_shuffle_11 : decode b_St_shuffle 11 = .ok (.iconst 1, 1) := by decide +kernel
theorem d_St_shuffle_12 : decode b_St_shuffle 12 = .ok (.if_icmp .lt 25, 3) := by decide +kernel
theorem d_St_shuffle_15 : decode b_St_shuffle 15 = .ok (.aload_n 0, 1) := by decide +kernel
theorem d_St_shuffle_16 : decode b_St_shuffle 16 = .ok (.iload_n 1, 1) := by decide +kernel
theorem d_St_shuffle_17 : decode b_St_shuffle 17 = .ok (.iload_n 2, 1) := by decide +kernel
theorem d_St_shuffle_18 : decode b_St_shuffle 18 = .ok (.iadd, 1) := by decide +kernel
theorem d_St_shuffle_19 : decode b_St_shuffle 19 = .ok (.iload_n 1, 1) := by decide +kernel
theorem d_St_shuffle_20 : decode b_St_shuffle 20 = .ok (.aload_n 0, 1) := by decide +kernel
theorem d_St_shuffle_21 : decode b_St_shuffle 21 = .ok (.iload_n 2, 1) := by decide +kernel
theorem d_St_shuffle_22 : decode b_St_shuffle 22 = .ok (.iconst 1, 1) := by decide +kernel
theorem d_St_shuffle_23 : decode b_St_shuffle 23 = .ok (.iadd, 1) := by decide +kernel
theorem d_St_shuffle_24 : decode b_St_shuffle 24 = .ok (.invokevirtual 101, 3) := by decide +kernel
theorem d_St_shuffle_27 : decode b_St_shuffle 27 = .ok (.iadd, 1) := by decide +kernel
theorem d_St_shuffle_28 : decode b_St_shuffle 28 = .ok (.invokevirtual 104, 3) := by decide +kernel
theorem d_St_shuffle_31 : decode b_St_shuffle 31 = .ok (.iinc 2 (-1), 3) := by decide +kernel
theorem d_St_shuffle_34 : decode b_St_shuffle 34 = .ok (.goto (-24), 3) := by decide +kernel
theorem d_St_shuffle_37 : decode b_St_shuffle 37 = .ok (.return_, 1) := by decide +kernel
theorem d_St_swap_0 : decode b_St_swap 0 = .ok (.iload_n 1, 1) := by decide +kernel
theorem d_St_swap_1 : decode b_St_swap 1 = .ok (.ifCond .lt 51, 3) := by decide +kernel
theorem d_St_swap_4 : decode b_St_swap 4 = .ok (.iload_n 1, 1) := by decide +kernel
theorem d_St_swap_5 : decode b_St_swap 5 = .ok (.aload_n 0, 1) := by decide +kernel
theorem d_St_swap_6 : decode b_St_swap 6 = .ok (.getfield 22, 3) := by decide +kernel
theorem d_St_swap_9 : decode b_St_swap 9 = .ok (.arraylength, 1) := by decide +kernel
theorem d_St_swap_10 : decode b_St_swap 10 = .ok (.if_icmp .ge 42, 3) := by decide +kernel
theorem d_St_swap_13 : decode b_St_swap 13 = .ok (.iload_n 2, 1) := by decide +kernel
theorem d_St_swap_14 : decode b_St_swap 14 = .ok (.ifCond .lt 38, 3) := by decide +kernel
theorem d_St_swap_17 : decode b_St_swap 17 = .ok (.iload_n 2, 1) := by decide +kernel
theorem d_St_swap_18 : decode b_St_swap 18 = .ok (.aload_n 0, 1) := by decide +kernel
theorem d_St_swap_19 : decode b_St_swap 19 = .ok (.getfield 22, 3) := by decide +kernel
theorem d_St_swap_22 : decode b_St_swap 22 = .ok (.arraylength, 1) := by decide +kernel
theorem d_St_swap_23 : decode b_St_swap 23 = .ok (.if_icmp .ge 29, 3) := by decide +kernel
theorem d_St_swap_26 : decode b_St_swap 26 = .ok (.aload_n 0, 1) := by decide +kernel
theorem d_St_swap_27 : decode b_St_swap 27 = .ok (.getfield 22, 3) := by decide +kernel
theorem d_St_swap_30 : decode b_St_swap 30 = .ok (.iload_n 1, 1) := by decide +kernel
theorem d_St_swap_31 : decode b_St_swap 31 = .ok (.iaload, 1) := by decide +kernel
theorem d_St_swap_32 : decode b_St_swap 32 = .ok (.istore_n 3, 1) := by decide +kernel
theorem d_St_swap_33 : decode b_St_swap 33 = .ok (.aload_n 0, 1) := by decide +kernel
theorem d_St_swap_34 : decode b_St_swap 34 = .ok (.getfield 22, 3) := by decide +kernel
theorem d_St_swap_37 : decode b_St_swap 37 = .ok (.iload_n 1, 1) := by decide +kernel
theorem d_St_swap_38 : decode b_St_swap 38 = .ok (.aload_n 0, 1) := by decide +kernel
theorem d_St_swap_39 : decode b_St_swap 39 = .ok (.getfield 22, 3) := by decide +kernel
theorem d_St_swap_42 : decode b_St_swap 42 = .ok (.iload_n 2, 1) := by decide +kernel
theorem d_St_swap_43 : decode b_St_swap 43 = .ok (.iaload, 1) := by decide +kernel
theorem d_St_swap_44 : decode b_St_swap 44 = .ok (.iastore, 1) := by decide +kernel
theorem d_St_swap_45 : decode b_St_swap 45 = .ok (.aload_n 0, 1) := by decide +kernel
theorem d_St_swap_46 : decode b_St_swap 46 = .ok (.getfield 22, 3) := by decide +kernel
theorem d_St_swap_49 : decode b_St_swap 49 = .ok (.iload_n 2, 1) := by decide +kernel
theorem d_St_swap_50 : decode b_St_swap 50 = .ok (.iload_n 3, 1) := by decide +kernel
theorem d_St_swap_51 : decode b_St_swap 51 = .ok (.iastore, 1) := by decide +kernel
theorem d_St_swap_52 : decode b_St_swap 52 = .ok (.return_, 1) := by decide +kernel
theorem d_St_draw_0 : decode b_St_draw 0 = .ok (.iload_n 1, 1) := by decide +kernel
theorem d_St_draw_1 : decode b_St_draw 1 = .ok (.iconst 1, 1) := by decide +kernel
theorem d_St_draw_2 : decode b_St_draw 2 = .ok (.if_icmp .ge 5, 3) := by decide +kernel
theorem d_St_draw_5 : decode b_St_draw 5 = .ok (.iconst 0, 1) := by decide +kernel
theorem d_St_draw_6 : decode b_St_draw 6 = .ok (.ireturn, 1) := by decide +kernel
theorem d_St_draw_7 : decode b_St_draw 7 = .ok (.ldc2_w 108, 3) := by decide +kernel
theorem d_St_draw_10 : decode b_St_draw 10 = .ok (.iload_n 1, 1) := by decide +kernel
theorem d_St_draw_11 : decode b_St_draw 11 = .ok (.i2l, 1) := by decide +kernel
theorem d_St_draw_12 : decode b_St_draw 12 = .ok (.ldiv, 1) := by decide +kernel
theorem d_St_draw_13 : decode b_St_draw 13 = .ok (.iload_n 1, 1) := by decide +kernel
theorem d_St_draw_14 : decode b_St_draw 14 = .ok (.i2l, 1) := by decide +kernel
theorem d_St_draw_15 : decode b_St_draw 15 = .ok (.lmul, 1) := by decide +kernel
theorem d_St_draw_16 : decode b_St_draw 16 = .ok (.lstore_n 2, 1) := by decide +kernel
theorem d_St_draw_17 : decode b_St_draw 17 = .ok (.iconst 0, 1) := by decide +kernel
theorem d_St_draw_18 : decode b_St_draw 18 = .ok (.istore 4, 2) := by decide +kernel
theorem d_St_draw_20 : decode b_St_draw 20 = .ok (.iload 4, 2) := by decide +kernel
theorem d_St_draw_22 : decode b_St_draw 22 = .ok (.ldc 110, 2) := by decide +kernel
theorem d_St_draw_24 : decode b_St_draw 24 = .ok (.if_icmp .ge 80, 3) := by decide +kernel
theorem d_St_draw_27 : decode b_St_draw 27 = .ok (.aload_n 0, 1) := by decide +kernel
theorem d_St_draw_28 : decode b_St_draw 28 = .ok (.dup, 1) := by decide +kernel
theorem d_St_draw_29 : decode b_St_draw 29 = .ok (.getfield 31, 3) := by decide +kernel
theorem d_St_draw_32 : decode b_St_draw 32 = .ok (.aload_n 0, 1) := by decide +kernel
theorem d_St_draw_33 : decode b_St_draw 33 = .ok (.getfield 31, 3) := by decide +kernel
theorem d_St_draw_36 : decode b_St_draw 36 = .ok (.bipush 13, 2) := by decide +kernel
theorem d_St_draw_38 : decode b_St_draw 38 = .ok (.lshl, 1) := by decide +kernel
theorem d_St_draw_39 : decode b_St_draw 39 = .ok (.lxor, 1) := by decide +kernel
theorem d_St_draw_40 : decode b_St_draw 40 = .ok (.putfield 31, 3) := by decide +kernel
theorem d_St_draw_43 : decode b_St_draw 43 = .ok (.aload_n 0, 1) := by decide +kernel
theorem d_St_draw_44 : decode b_St_draw 44 = .ok (.dup, 1) := by decide +kernel
theorem d_St_draw_45 : decode b_St_draw 45 = .ok (.getfield 31, 3) := by decide +kernel
theorem d_St_draw_48 : decode b_St_draw 48 = .ok (.aload_n 0, 1) := by decide +kernel
theorem d_St_draw_49 : decode b_St_draw 49 = .ok (.getfield 31, 3) := by decide +kernel
theorem d_St_draw_52 : decode b_St_draw 52 = .ok (.bipush 7, 2) := by decide +kernel
theorem d_St_draw_54 : decode b_St_draw 54 = .ok (.lushr, 1) := by decide +kernel
theorem d_St_draw_55 : decode b_St_draw 55 = .ok (.lxor, 1) := by decide +kernel
theorem d_St_draw_56 : decode b_St_draw 56 = .ok (.putfield 31, 3) := by decide +kernel
theorem d_St_draw_59 : decode b_St_draw 59 = .ok (.aload_n 0, 1) := by decide +kernel
theorem d_St_draw_60 : decode b_St_draw 60 = .ok (.dup, 1) := by decide +kernel
theorem d_St_draw_61 : decode b_St_draw 61 = .ok (.getfield 31, 3) := by decide +kernel
theorem d_St_draw_64 : decode b_St_draw 64 = .ok (.aload_n 0, 1) := by decide +kernel
theorem d_St_draw_65 : decode b_St_draw 65 = .ok (.getfield 31, 3) := by decide +kernel
theorem d_St_draw_68 : decode b_St_draw 68 = .ok (.bipush 17, 2) := by decide +kernel
theorem d_St_draw_70 : decode b_St_draw 70 = .ok (.lshl, 1) := by decide +kernel
theorem d_St_draw_71 : decode b_St_draw 71 = .ok (.lxor, 1) := by decide +kernel
theorem d_St_draw_72 : decode b_St_draw 72 = .ok (.putfield 31, 3) := by decide +kernel
theorem d_St_draw_75 : decode b_St_draw 75 = .ok (.aload_n 0, 1) := by decide +kernel
theorem d_St_draw_76 : decode b_St_draw 76 = .ok (.getfield 31, 3) := by decide +kernel
theorem d_St_draw_79 : decode b_St_draw 79 = .ok (.bipush 33, 2) := by decide +kernel
theorem d_St_draw_81 : decode b_St_draw 81 = .ok (.lushr, 1) := by decide +kernel
theorem d_St_draw_82 : decode b_St_draw 82 = .ok (.lstore 5, 2) := by decide +kernel
theorem d_St_draw_84 : decode b_St_draw 84 = .ok (.lload 5, 2) := by decide +kernel
theorem d_St_draw_86 : decode b_St_draw 86 = .ok (.lload_n 2, 1) := by decide +kernel
theorem d_St_draw_87 : decode b_St_draw 87 = .ok (.lcmp, 1) := by decide +kernel
theorem d_St_draw_88 : decode b_St_draw 88 = .ok (.ifCond .ge 10, 3) := by decide +kernel
theorem d_St_draw_91 : decode b_St_draw 91 = .ok (.lload 5, 2) := by decide +kernel
theorem d_St_draw_93 : decode b_St_draw 93 = .ok (.iload_n 1, 1) := by decide +kernel
theorem d_St_draw_94 : decode b_St_draw 94 = .ok (.i2l, 1) := by decide +kernel
theorem d_St_draw_95 : decode b_St_draw 95 = .ok (.lrem, 1) := by decide +kernel
theorem d_St_draw_96 : decode b_St_draw 96 = .ok (.l2i, 1) := by decide +kernel
theorem d_St_draw_97 : decode b_St_draw 97 = .ok (.ireturn, 1) := by decide +kernel
theorem d_St_draw_98 : decode b_St_draw 98 = .ok (.iinc 4 1, 3) := by decide +kernel
theorem d_St_draw_101 : decode b_St_draw 101 = .ok (.goto (-81), 3) := by decide +kernel
theorem d_St_draw_104 : decode b_St_draw 104 = .ok (.iconst 0, 1) := by decide +kernel
theorem d_St_draw_105 : decode b_St_draw 105 = .ok (.ireturn, 1) := by decide +kernel
