theorem dX0_init_0 : decode cX0_init 0 = .ok (.aload_n 0, 1) := by decide +kernel
theorem dX0_init_1 : decode cX0_init 1 = .ok (.invokespecial 3, 3) := by decide +kernel
theorem dX0_init_4 : decode cX0_init 4 = .ok (.aload_n 0, 1) := by decide +kernel
theorem dX0_init_5 : decode cX0_init 5 = .ok (.bipush 20, 2) := by decide +kernel
theorem dX0_init_7 : decode cX0_init 7 = .ok (.newarray .int, 2) := by decide +kernel
theorem dX0_init_9 : decode cX0_init 9 = .ok (.putfield 9, 3) := by decide +kernel
theorem dX0_init_12 : decode cX0_init 12 = .ok (.aload_n 0, 1) := by decide +kernel
theorem dX0_init_13 : decode cX0_init 13 = .ok (.iload_n 1, 1) := by decide +kernel
theorem dX0_init_14 : decode cX0_init 14 = .ok (.putfield 15, 3) := by decide +kernel
theorem dX0_init_17 : decode cX0_init 17 = .ok (.return_, 1) := by decide +kernel
theorem dX0_begin_0 : decode cX0_begin 0 = .ok (.aload_n 0, 1) := by decide +kernel
theorem dX0_begin_1 : decode cX0_begin 1 = .ok (.aload_n 1, 1) := by decide +kernel
theorem dX0_begin_2 : decode cX0_begin 2 = .ok (.putfield 19, 3) := by decide +kernel
theorem dX0_begin_5 : decode cX0_begin 5 = .ok (.aload_n 0, 1) := by decide +kernel
theorem dX0_begin_6 : decode cX0_begin 6 = .ok (.iconst 1, 1) := by decide +kernel
theorem dX0_begin_7 : decode cX0_begin 7 = .ok (.putfield 23, 3) := by decide +kernel
theorem dX0_begin_10 : decode cX0_begin 10 = .ok (.iconst 0, 1) := by decide +kernel
theorem dX0_begin_11 : decode cX0_begin 11 = .ok (.istore_n 2, 1) := by decide +kernel
theorem dX0_begin_12 : decode cX0_begin 12 = .ok (.iload_n 2, 1) := by decide +kernel
theorem dX0_begin_13 : decode cX0_begin 13 = .ok (.bipush 20, 2) := by decide +kernel
theorem dX0_begin_15 : decode cX0_begin 15 = .ok (.if_icmp .ge 20, 3) := by decide +kernel
theorem dX0_begin_18 : decode cX0_begin 18 = .ok (.aload_n 0, 1) := by decide +kernel
theorem dX0_begin_19 : decode cX0_begin 19 = .ok (.getfield 9, 3) := by decide +kernel
theorem dX0_begin_22 : decode cX0_begin 22 = .ok (.iload_n 2, 1) := by decide +kernel
theorem dX0_begin_23 : decode cX0_begin 23 = .ok (.getstatic 27, 3) := by decide +kernel
theorem dX0_begin_26 : decode cX0_begin 26 = .ok (.iload_n 2, 1) := by decide +kernel
theorem dX0_begin_27 : decode cX0_begin 27 = .ok (.iaload, 1) := by decide +kernel
theorem dX0_begin_28 : decode cX0_begin 28 = .ok (.iastore, 1) := by decide +kernel
theorem dX0_begin_29 : decode cX0_begin 29 = .ok (.iinc 2 1, 3) := by decide +kernel
theorem dX0_begin_32 : decode cX0_begin 32 = .ok (.goto (-20), 3) := by decide +kernel
theorem dX0_begin_35 : decode cX0_begin 35 = .ok (.return_, 1) := by decide +kernel
theorem dX0_of_0 : decode cX0_of 0 = .ok (.iload_n 1, 1) := by decide +kernel
theorem dX0_of_1 : decode cX0_of 1 = .ok (.ifCond .lt 18, 3) := by decide +kernel
theorem dX0_of_4 : decode cX0_of 4 = .ok (.iload_n 1, 1) := by decide +kernel
theorem dX0_of_5 : decode cX0_of 5 = .ok (.bipush 20, 2) := by decide +kernel
theorem dX0_of_7 : decode cX0_of 7 = .ok (.if_icmp .ge 12, 3) := by decide +kernel
theorem dX0_of_10 : decode cX0_of 10 = .ok (.aload_n 0, 1) := by decide +kernel
theorem dX0_of_11 : decode cX0_of 11 = .ok (.getfield 9, 3) := by decide +kernel
theorem dX0_of_14 : decode cX0_of 14 = .ok (.iload_n 1, 1) := by decide +kernel
theorem dX0_of_15 : decode cX0_of 15 = .ok (.iaload, 1) := by decide +kernel
theorem dX0_of_16 : decode cX0_of 16 = .ok (.goto 4, 3) := by decide +kernel
theorem dX0_of_19 : decode cX0_of 19 = .ok (.iconst 0, 1) := by decide +kernel
theorem dX0_of_20 : decode cX0_of 20 = .ok (.ireturn, 1) := by decide +kernel
theorem dX0_change_0 : decode cX0_change 0 = .ok (.aload_n 0, 1) := by decide +kernel
theorem dX0_change_1 : decode cX0_change 1 = .ok (.iload_n 1, 1) := by decide +kernel
theorem dX0_change_2 : decode cX0_change 2 = .ok (.invokevirtual 30, 3) := by decide +kernel
theorem dX0_change_5 : decode cX0_change 5 = .ok (.istore_n 3, 1) := by decide +kernel
theorem dX0_change_6 : decode cX0_change 6 = .ok (.iload_n 1, 1) := by decide +kernel
theorem dX0_change_7 : decode cX0_change 7 = .ok (.invokestatic 34, 3) := by decide +kernel
theorem dX0_change_10 : decode cX0_change 10 = .ok (.ifCond .eq 10, 3) := by decide +kernel
theorem dX0_change_13 : decode cX0_change 13 = .ok (.aload_n 0, 1) := by decide +kernel
theorem dX0_change_14 : decode cX0_change 14 = .ok (.getfield 9, 3) := by decide +kernel
theorem dX0_change_17 : decode cX0_change 17 = .ok (.iload_n 1, 1) := by decide +kernel
theorem dX0_change_18 : decode cX0_change 18 = .ok (.iload_n 2, 1) := by decide +kernel
theorem dX0_change_19 : decode cX0_change 19 = .ok (.iastore, 1) := by decide +kernel
theorem dX0_change_20 : decode cX0_change 20 = .ok (.iload_n 3, 1) := by decide +kernel
theorem dX0_change_21 : decode cX0_change 21 = .ok (.ireturn, 1) := by decide +kernel
theorem dX0_isRoot_0 : decode cX0_isRoot 0 = .ok (.aload_n 0, 1) := by decide +kernel
theorem dX0_isRoot_1 : decode cX0_isRoot 1 = .ok (.getfield 19, 3) := by decide +kernel
theorem dX0_isRoot_4 : decode cX0_isRoot 4 = .ok (.ifnonnull 7, 3) := by decide +kernel
theorem dX0_isRoot_7 : decode cX0_isRoot 7 = .ok (.iconst 1, 1) := by decide +kernel
theorem dX0_isRoot_8 : decode cX0_isRoot 8 = .ok (.goto 4, 3) := by decide +kernel
theorem dX0_isRoot_11 : decode cX0_isRoot 11 = .ok (.iconst 0, 1) := by decide +kernel
theorem dX0_isRoot_12 : decode cX0_isRoot 12 = .ok (.ireturn, 1) := by decide +kernel
theorem dX0_isColumn_0 : decode cX0_isColumn 0 = .ok (.aload_n 0, 1) := by decide +kernel
theorem dX0_isColumn_1 : decode cX0_isColumn 1 = .ok (.iconst 0, 1) := by decide +kernel
theorem dX0_isColumn_2 : decode cX0_isColumn 2 = .ok (.invokevirtual 30, 3) := by decide +kernel
theorem dX0_isColumn_5 : decode cX0_isColumn 5 = .ok (.iconst 1, 1) := by decide +kernel
theorem dX0_isColumn_6 : decode cX0_isColumn 6 = .ok (.if_icmp .ne 7, 3) := by decide +kernel
theorem dX0_isColumn_9 : decode cX0_isColumn 9 = .ok (.iconst 1, 1) := by decide +kernel
theorem dX0_isColumn_10 : decode cX0_isColumn 10 = .ok (.goto 4, 3) := by decide +kernel
theorem dX0_isColumn_13 : decode cX0_isColumn 13 = .ok (.iconst 0, 1) := by decide +kernel
theorem dX0_isColumn_14 : decode cX0_isColumn 14 = .ok (.ireturn, 1) := by decide +kernel
theorem dX0_wraps_0 : decode cX0_wraps 0 = .ok (.aload_n 0, 1) := by decide +kernel
theorem dX0_wraps_1 : decode cX0_wraps 1 = .ok (.iconst 1, 1) := by decide +kernel
theorem dX0_wraps_2 : decode cX0_wraps 2 = .ok (.invokevirtual 30, 3) := by decide +kernel
theorem dX0_wraps_5 : decode cX0_wraps 5 = .ok (.iconst 1, 1) := by decide +kernel
theorem dX0_wraps_6 : decode cX0_wraps 6 = .ok (.if_icmp .ne 7, 3) := by decide +kernel
theorem dX0_wraps_9 : decode cX0_wraps 9 = .ok (.iconst 1, 1) := by decide +kernel
theorem dX0_wraps_10 : decode cX0_wraps 10 = .ok (.goto 4, 3) := by decide +kernel
theorem dX0_wraps_13 : decode cX0_wraps 13 = .ok (.iconst 0, 1) := by decide +kernel
theorem dX0_wraps_14 : decode cX0_wraps 14 = .ok (.ireturn, 1) := by decide +kernel
theorem dX0_unlink_0 : decode cX0_unlink 0 = .ok (.aload_n 0, 1) := by decide +kernel
theorem dX0_unlink_1 : decode cX0_unlink 1 = .ok (.iconst 0, 1) := by decide +kernel
theorem dX0_unlink_2 : decode cX0_unlink 2 = .ok (.putfield 38, 3) := by decide +kernel
theorem dX0_unlink_5 : decode cX0_unlink 5 = .ok (.aload_n 0, 1) := by decide +kernel
theorem dX0_unlink_6 : decode cX0_unlink 6 = .ok (.iconst 0, 1) := by decide +kernel
theorem dX0_unlink_7 : decode cX0_unlink 7 = .ok (.putfield 41, 3) := by decide +kernel
theorem dX0_unlink_10 : decode cX0_unlink 10 = .ok (.aload_n 0, 1) := by decide +kernel
theorem dX0_unlink_11 : decode cX0_unlink 11 = .ok (.aconst_null, 1) := by decide +kernel
theorem dX0_unlink_12 : decode cX0_unlink 12 = .ok (.putfield 44, 3) := by decide +kernel
theorem dX0_unlink_15 : decode cX0_unlink 15 = .ok (.aload_n 0, 1) := by decide +kernel
theorem dX0_unlink_16 : decode cX0_unlink 16 = .ok (.aconst_null, 1) := by decide +kernel
theorem dX0_unlink_17 : decode cX0_unlink 17 = .ok (.putfield 47, 3) := by decide +kernel
theorem dX0_unlink_20 : decode cX0_unlink 20 = .ok (.aload_n 0, 1) := by decide +kernel
theorem dX0_unlink_21 : decode cX0_unlink 21 = .ok (.iconst 0, 1) := by decide +kernel
theorem dX0_unlink_22 : decode cX0_unlink 22 = .ok (.putfield 50, 3) := by decide +kernel
theorem dX0_unlink_25 : decode cX0_unlink 25 = .ok (.return_, 1) := by decide +kernel
theorem dX0_adopt_0 : decode cX0_adopt 0 = .ok (.aconst_null, 1) := by decide +kernel
theorem dX0_adopt_1 : decode cX0_adopt 1 = .ok (.astore_n 2, 1) := by decide +kernel
theorem dX0_adopt_2 : decode cX0_adopt 2 = .ok (.aload_n 0, 1) := by decide +kernel
theorem dX0_adopt_3 : decode cX0_adopt 3 = .ok (.getfield 44, 3) := by decide +kernel
theorem dX0_adopt_6 : decode cX0_adopt 6 = .ok (.astore_n 3, 1) := by decide +kernel
theorem dX0_adopt_7 : decode cX0_adopt 7 = .ok (.aload_n 3, 1) := by decide +kernel
theorem dX0_adopt_8 : decode cX0_adopt 8 = .ok (.ifnull 28, 3) := by decide +kernel
theorem dX0_adopt_11 : decode cX0_adopt 11 = .ok (.aload_n 3, 1) := by decide +kernel
theorem dX0_adopt_12 : decode cX0_adopt 12 = .ok (.bipush 17, 2) := by decide +kernel
theorem dX0_adopt_14 : decode cX0_adopt 14 = .ok (.invokevirtual 30, 3) := by decide +kernel
theorem dX0_adopt_17 : decode cX0_adopt 17 = .ok (.aload_n 1, 1) := by decide +kernel
theorem dX0_adopt_18 : decode cX0_adopt 18 = .ok (.bipush 17, 2) := by decide +kernel
theorem dX0_adopt_20 : decode cX0_adopt 20 = .ok (.invokevirtual 30, 3) := by decide +kernel
theorem dX0_adopt_23 : decode cX0_adopt 23 = .ok (.if_icmp .gt 13, 3) := by decide +kernel
theorem dX0_adopt_26 : decode cX0_adopt 26 = .ok (.aload_n 3, 1) := by decide +kernel
theorem dX0_adopt_27 : decode cX0_adopt 27 = .ok (.astore_n 2, 1) := by decide +kernel
theorem dX0_adopt_28 : decode cX0_adopt 28 = .ok (.aload_n 3, 1) := by decide +kernel
theorem dX0_adopt_29 : decode cX0_adopt 29 = .ok (.getfield 47, 3) := by decide +kernel
theorem dX0_adopt_32 : decode cX0_adopt 32 = .ok (.astore_n 3, 1) := by decide +kernel
theorem dX0_adopt_33 : decode cX0_adopt 33 = .ok (.goto (-26), 3) := by decide +kernel
theorem dX0_adopt_36 : decode cX0_adopt 36 = .ok (.aload_n 2, 1) := by decide +kernel
theorem dX0_adopt_37 : decode cX0_adopt 37 = .ok (.ifnonnull 19, 3) := by decide +kernel
theorem dX0_adopt_40 : decode cX0_adopt 40 = .ok (.aload_n 1, 1) := by decide +kernel
theorem dX0_adopt_41 : decode cX0_adopt 41 = .ok (.aload_n 0, 1) := by decide +kernel
theorem dX0_adopt_42 : decode cX0_adopt 42 = .ok (.getfield 44, 3) := by decide +kernel
theorem dX0_adopt_45 : decode cX0_adopt 45 = .ok (.putfield 47, 3) := by decide +kernel
theorem dX0_adopt_48 : decode cX0_adopt 48 = .ok (.aload_n 0, 1) := by decide +kernel
theorem dX0_adopt_49 : decode cX0_adopt 49 = .ok (.aload_n 1, 1) := by decide +kernel
theorem dX0_adopt_50 : decode cX0_adopt 50 = .ok (.putfield 44, 3) := by decide +kernel
theorem dX0_adopt_53 : decode cX0_adopt 53 = .ok (.goto 16, 3) := by decide +kernel
theorem dX0_adopt_56 : decode cX0_adopt 56 = .ok (.aload_n 1, 1) := by decide +kernel
theorem dX0_adopt_57 : decode cX0_adopt 57 = .ok (.aload_n 2, 1) := by decide +kernel
theorem dX0_adopt_58 : decode cX0_adopt 58 = .ok (.getfield 47, 3) := by decide +kernel
theorem dX0_adopt_61 : decode cX0_adopt 61 = .ok (.putfield 47, 3) := by decide +kernel
theorem dX0_adopt_64 : decode cX0_adopt 64 = .ok (.aload_n 2, 1) := by decide +kernel
theorem dX0_adopt_65 : decode cX0_adopt 65 = .ok (.aload_n 1, 1) := by decide +kernel
theorem dX0_adopt_66 : decode cX0_adopt 66 = .ok (.putfield 47, 3) := by decide +kernel
theorem dX0_adopt_69 : decode cX0_adopt 69 = .ok (.aload_n 0, 1) := by decide +kernel
theorem dX0_adopt_70 : decode cX0_adopt 70 = .ok (.dup, 1) := by decide +kernel
theorem dX0_adopt_71 : decode cX0_adopt 71 = .ok (.getfield 50, 3) := by decide +kernel
theorem dX0_adopt_74 : decode cX0_adopt 74 = .ok (.iconst 1, 1) := by decide +kernel
theorem dX0_adopt_75 : decode cX0_adopt 75 = .ok (.iadd, 1) := by decide +kernel
theorem dX0_adopt_76 : decode cX0_adopt 76 = .ok (.putfield 50, 3) := by decide +kernel
theorem dX0_adopt_79 : decode cX0_adopt 79 = .ok (.return_, 1) := by decide +kernel
theorem dX0_innerWidth_0 : decode cX0_innerWidth 0 = .ok (.aload_n 0, 1) := by decide +kernel
theorem dX0_innerWidth_1 : decode cX0_innerWidth 1 = .ok (.getfield 53, 3) := by decide +kernel
theorem dX0_innerWidth_4 : decode cX0_innerWidth 4 = .ok (.iconst 2, 1) := by decide +kernel
theorem dX0_innerWidth_5 : decode cX0_innerWidth 5 = .ok (.aload_n 0, 1) := by decide +kernel
theorem dX0_innerWidth_6 : decode cX0_innerWidth 6 = .ok (.iconst 5, 1) := by decide +kernel
theorem dX0_innerWidth_7 : decode cX0_innerWidth 7 = .ok (.invokevirtual 30, 3) := by decide +kernel
theorem dX0_innerWidth_10 : decode cX0_innerWidth 10 = .ok (.imul, 1) := by decide +kernel
theorem dX0_innerWidth_11 : decode cX0_innerWidth 11 = .ok (.isub, 1) := by decide +kernel
theorem dX0_innerWidth_12 : decode cX0_innerWidth 12 = .ok (.iconst 0, 1) := by decide +kernel
theorem dX0_innerWidth_13 : decode cX0_innerWidth 13 = .ok (.invokestatic 56, 3) := by decide +kernel
theorem dX0_innerWidth_16 : decode cX0_innerWidth 16 = .ok (.ireturn, 1) := by decide +kernel
theorem dX0_innerHeight_0 : decode cX0_innerHeight 0 = .ok (.aload_n 0, 1) := by decide +kernel
theorem dX0_innerHeight_1 : decode cX0_innerHeight 1 = .ok (.getfield 62, 3) := by decide +kernel
theorem dX0_innerHeight_4 : decode cX0_innerHeight 4 = .ok (.iconst 2, 1) := by decide +kernel
theorem dX0_innerHeight_5 : decode cX0_innerHeight 5 = .ok (.aload_n 0, 1) := by decide +kernel
theorem dX0_innerHeight_6 : decode cX0_innerHeight 6 = .ok (.iconst 5, 1) := by decide +kernel
theorem dX0_innerHeight_7 : decode cX0_innerHeight 7 = .ok (.invokevirtual 30, 3) := by decide +kernel
theorem dX0_innerHeight_10 : decode cX0_innerHeight 10 = .ok (.imul, 1) := by decide +kernel
theorem dX0_innerHeight_11 : decode cX0_innerHeight 11 = .ok (.isub, 1) := by decide +kernel
theorem dX0_innerHeight_12 : decode cX0_innerHeight 12 = .ok (.iconst 0, 1) := by decide +kernel
theorem dX0_innerHeight_13 : decode cX0_innerHeight 13 = .ok (.invokestatic 56, 3) := by decide +kernel
theorem dX0_innerHeight_16 : decode cX0_innerHeight 16 = .ok (.ireturn, 1) := by decide +kernel
theorem dX0_margins_0 : decode cX0_margins 0 = .ok (.iconst 2, 1) := by decide +kernel
theorem dX0_margins_1 : decode cX0_margins 1 = .ok (.aload_n 0, 1) := by decide +kernel
theorem dX0_margins_2 : decode cX0_margins 2 = .ok (.bipush 6, 2) := by decide +kernel
theorem dX0_margins_4 : decode cX0_margins 4 = .ok (.invokevirtual 30, 3) := by decide +kernel
theorem dX0_margins_7 : decode cX0_margins 7 = .ok (.imul, 1) := by decide +kernel
theorem dX0_margins_8 : decode cX0_margins 8 = .ok (.ireturn, 1) := by decide +kernel
theorem dX0_limitWidth_0 : decode cX0_limitWidth 0 = .ok (.aload_n 0, 1) := by decide +kernel
theorem dX0_limitWidth_1 : decode cX0_limitWidth 1 = .ok (.invokevirtual 65, 3) := by decide +kernel
theorem dX0_limitWidth_4 : decode cX0_limitWidth 4 = .ok (.ifCond .eq 7, 3) := by decide +kernel
theorem dX0_limitWidth_7 : decode cX0_limitWidth 7 = .ok (.iload_n 1, 1) := by decide +kernel
theorem dX0_limitWidth_8 : decode cX0_limitWidth 8 = .ok (.goto 19, 3) := by decide +kernel
theorem dX0_limitWidth_11 : decode cX0_limitWidth 11 = .ok (.iload_n 1, 1) := by decide +kernel
theorem dX0_limitWidth_12 : decode cX0_limitWidth 12 = .ok (.aload_n 0, 1) := by decide +kernel
theorem dX0_limitWidth_13 : decode cX0_limitWidth 13 = .ok (.bipush 12, 2) := by decide +kernel
theorem dX0_limitWidth_15 : decode cX0_limitWidth 15 = .ok (.invokevirtual 30, 3) := by decide +kernel
theorem dX0_limitWidth_18 : decode cX0_limitWidth 18 = .ok (.aload_n 0, 1) := by decide +kernel
theorem dX0_limitWidth_19 : decode cX0_limitWidth 19 = .ok (.bipush 14, 2) := by decide +kernel
theorem dX0_limitWidth_21 : decode cX0_limitWidth 21 = .ok (.invokevirtual 30, 3) := by decide +kernel
theorem dX0_limitWidth_24 : decode cX0_limitWidth 24 = .ok (.invokestatic 69, 3) := by decide +kernel
theorem dX0_limitWidth_27 : decode cX0_limitWidth 27 = .ok (.ireturn, 1) := by decide +kernel
theorem dX0_limitHeight_0 : decode cX0_limitHeight 0 = .ok (.aload_n 0, 1) := by decide +kernel
theorem dX0_limitHeight_1 : decode cX0_limitHeight 1 = .ok (.invokevirtual 65, 3) := by decide +kernel
theorem dX0_limitHeight_4 : decode cX0_limitHeight 4 = .ok (.ifCond .eq 7, 3) := by decide +kernel
theorem dX0_limitHeight_7 : decode cX0_limitHeight 7 = .ok (.iload_n 1, 1) := by decide +kernel
theorem dX0_limitHeight_8 : decode cX0_limitHeight 8 = .ok (.goto 19, 3) := by decide +kernel
theorem dX0_limitHeight_11 : decode cX0_limitHeight 11 = .ok (.iload_n 1, 1) := by decide +kernel
theorem dX0_limitHeight_12 : decode cX0_limitHeight 12 = .ok (.aload_n 0, 1) := by decide +kernel
theorem dX0_limitHeight_13 : decode cX0_limitHeight 13 = .ok (.bipush 13, 2) := by decide +kernel
theorem dX0_limitHeight_15 : decode cX0_limitHeight 15 = .ok (.invokevirtual 30, 3) := by decide +kernel
theorem dX0_limitHeight_18 : decode cX0_limitHeight 18 = .ok (.aload_n 0, 1) := by decide +kernel
theorem dX0_limitHeight_19 : decode cX0_limitHeight 19 = .ok (.bipush 15, 2) := by decide +kernel
theorem dX0_limitHeight_21 : decode cX0_limitHeight 21 = .ok (.invokevirtual 30, 3) := by decide +kernel
theorem dX0_limitHeight_24 : decode cX0_limitHeight 24 = .ok (.invokestatic 69, 3) := by decide +kernel
theorem dX0_limitHeight_27 : decode cX0_limitHeight 27 = .ok (.ireturn, 1) := by decide +kernel
theorem dX0_fixedSize_0 : decode cX0_fixedSize 0 = .ok (.aload_n 0, 1) := by decide +kernel
theorem dX0_fixedSize_1 : decode cX0_fixedSize 1 = .ok (.invokevirtual 65, 3) := by decide +kernel
theorem dX0_fixedSize_4 : decode cX0_fixedSize 4 = .ok (.ifCond .eq 7, 3) := by decide +kernel
theorem dX0_fixedSize_7 : decode cX0_fixedSize 7 = .ok (.iconst (-1), 1) := by decide +kernel
theorem dX0_fixedSize_8 : decode cX0_fixedSize 8 = .ok (.goto 8, 3) := by decide +kernel
theorem dX0_fixedSize_11 : decode cX0_fixedSize 11 = .ok (.aload_n 0, 1) := by decide +kernel
theorem dX0_fixedSize_12 : decode cX0_fixedSize 12 = .ok (.iload_n 1, 1) := by decide +kernel
theorem dX0_fixedSize_13 : decode cX0_fixedSize 13 = .ok (.invokevirtual 30, 3) := by decide +kernel
theorem dX0_fixedSize_16 : decode cX0_fixedSize 16 = .ok (.ireturn, 1) := by decide +kernel
theorem dX0_alignment_0 : decode cX0_alignment 0 = .ok (.aload_n 0, 1) := by decide +kernel
theorem dX0_alignment_1 : decode cX0_alignment 1 = .ok (.bipush 16, 2) := by decide +kernel
theorem dX0_alignment_3 : decode cX0_alignment 3 = .ok (.invokevirtual 30, 3) := by decide +kernel
theorem dX0_alignment_6 : decode cX0_alignment 6 = .ok (.iconst (-1), 1) := by decide +kernel
theorem dX0_alignment_7 : decode cX0_alignment 7 = .ok (.if_icmp .ne 10, 3) := by decide +kernel
theorem dX0_alignment_10 : decode cX0_alignment 10 = .ok (.aload_n 0, 1) := by decide +kernel
theorem dX0_alignment_11 : decode cX0_alignment 11 = .ok (.getfield 19, 3) := by decide +kernel
theorem dX0_alignment_14 : decode cX0_alignment 14 = .ok (.ifnonnull 10, 3) := by decide +kernel
theorem dX0_alignment_17 : decode cX0_alignment 17 = .ok (.aload_n 0, 1) := by decide +kernel
theorem dX0_alignment_18 : decode cX0_alignment 18 = .ok (.bipush 16, 2) := by decide +kernel
theorem dX0_alignment_20 : decode cX0_alignment 20 = .ok (.invokevirtual 30, 3) := by decide +kernel
theorem dX0_alignment_23 : decode cX0_alignment 23 = .ok (.ireturn, 1) := by decide +kernel
theorem dX0_alignment_24 : decode cX0_alignment 24 = .ok (.aload_n 0, 1) := by decide +kernel
theorem dX0_alignment_25 : decode cX0_alignment 25 = .ok (.getfield 19, 3) := by decide +kernel
theorem dX0_alignment_28 : decode cX0_alignment 28 = .ok (.iconst 3, 1) := by decide +kernel
theorem dX0_alignment_29 : decode cX0_alignment 29 = .ok (.invokevirtual 30, 3) := by decide +kernel
theorem dX0_alignment_32 : decode cX0_alignment 32 = .ok (.ireturn, 1) := by decide +kernel
theorem dX0_textLines_0 : decode cX0_textLines 0 = .ok (.aload_n 0, 1) := by decide +kernel
theorem dX0_textLines_1 : decode cX0_textLines 1 = .ok (.invokevirtual 73, 3) := by decide +kernel
theorem dX0_textLines_4 : decode cX0_textLines 4 = .ok (.bipush 8, 2) := by decide +kernel
theorem dX0_textLines_6 : decode cX0_textLines 6 = .ok (.idiv, 1) := by decide +kernel
theorem dX0_textLines_7 : decode cX0_textLines 7 = .ok (.iconst 1, 1) := by decide +kernel
theorem dX0_textLines_8 : decode cX0_textLines 8 = .ok (.invokestatic 56, 3) := by decide +kernel
theorem dX0_textLines_11 : decode cX0_textLines 11 = .ok (.istore_n 1, 1) := by decide +kernel
theorem dX0_textLines_12 : decode cX0_textLines 12 = .ok (.aload_n 0, 1) := by decide +kernel
theorem dX0_textLines_13 : decode cX0_textLines 13 = .ok (.bipush 19, 2) := by decide +kernel
theorem dX0_textLines_15 : decode cX0_textLines 15 = .ok (.invokevirtual 30, 3) := by decide +kernel
theorem dX0_textLines_18 : decode cX0_textLines 18 = .ok (.iload_n 1, 1) := by decide +kernel
theorem dX0_textLines_19 : decode cX0_textLines 19 = .ok (.iadd, 1) := by decide +kernel
theorem dX0_textLines_20 : decode cX0_textLines 20 = .ok (.iconst 1, 1) := by decide +kernel
theorem dX0_textLines_21 : decode cX0_textLines 21 = .ok (.isub, 1) := by decide +kernel
theorem dX0_textLines_22 : decode cX0_textLines 22 = .ok (.iload_n 1, 1) := by decide +kernel
theorem dX0_textLines_23 : decode cX0_textLines 23 = .ok (.idiv, 1) := by decide +kernel
theorem dX0_textLines_24 : decode cX0_textLines 24 = .ok (.ireturn, 1) := by decide +kernel
theorem dX0_covers_0 : decode cX0_covers 0 = .ok (.iload_n 1, 1) := by decide +kernel
theorem dX0_covers_1 : decode cX0_covers 1 = .ok (.aload_n 0, 1) := by decide +kernel
theorem dX0_covers_2 : decode cX0_covers 2 = .ok (.getfield 77, 3) := by decide +kernel
theorem dX0_covers_5 : decode cX0_covers 5 = .ok (.if_icmp .lt 41, 3) := by decide +kernel
theorem dX0_covers_8 : decode cX0_covers 8 = .ok (.iload_n 1, 1) := by decide +kernel
theorem dX0_covers_9 : decode cX0_covers 9 = .ok (.aload_n 0, 1) := by decide +kernel
theorem dX0_covers_10 : decode cX0_covers 10 = .ok (.getfield 77, 3) := by decide +kernel
theorem dX0_covers_13 : decode cX0_covers 13 = .ok (.aload_n 0, 1) := by decide +kernel
theorem dX0_covers_14 : decode cX0_covers 14 = .ok (.getfield 53, 3) := by decide +kernel
theorem dX0_covers_17 : decode cX0_covers 17 = .ok (.iadd, 1) := by decide +kernel
theorem dX0_covers_18 : decode cX0_covers 18 = .ok (.if_icmp .ge 28, 3) := by decide +kernel
theorem dX0_covers_21 : decode cX0_covers 21 = .ok (.iload_n 2, 1) := by decide +kernel
theorem dX0_covers_22 : decode cX0_covers 22 = .ok (.aload_n 0, 1) := by decide +kernel
theorem dX0_covers_23 : decode cX0_covers 23 = .ok (.getfield 80, 3) := by decide +kernel
theorem dX0_covers_26 : decode cX0_covers 26 = .ok (.if_icmp .lt 20, 3) := by decide +kernel
theorem dX0_covers_29 : decode cX0_covers 29 = .ok (.iload_n 2, 1) := by decide +kernel
theorem dX0_covers_30 : decode cX0_covers 30 = .ok (.aload_n 0, 1) := by decide +kernel
theorem dX0_covers_31 : decode cX0_covers 31 = .ok (.getfield 80, 3) := by decide +kernel
theorem dX0_covers_34 : decode cX0_covers 34 = .ok (.aload_n 0, 1) := by decide +kernel
theorem dX0_covers_35 : decode cX0_covers 35 = .ok (.getfield 62, 3) := by decide +kernel
theorem dX0_covers_38 : decode cX0_covers 38 = .ok (.iadd, 1) := by decide +kernel
theorem dX0_covers_39 : decode cX0_covers 39 = .ok (.if_icmp .ge 7, 3) := by decide +kernel
theorem dX0_covers_42 : decode cX0_covers 42 = .ok (.iconst 1, 1) := by decide +kernel
theorem dX0_covers_43 : decode cX0_covers 43 = .ok (.goto 4, 3) := by decide +kernel
theorem dX0_covers_46 : decode cX0_covers 46 = .ok (.iconst 0, 1) := by decide +kernel
theorem dX0_covers_47 : decode cX0_covers 47 = .ok (.ireturn, 1) := by decide +kernel
theorem dX1_init_0 : decode cX1_init 0 = .ok (.aload_n 0, 1) := by decide +kernel
theorem dX1_init_1 : decode cX1_init 1 = .ok (.invokespecial 3, 3) := by decide +kernel
theorem dX1_init_4 : decode cX1_init 4 = .ok (.aload_n 0, 1) := by decide +kernel
theorem dX1_init_5 : decode cX1_init 5 = .ok (.bipush 40, 2) := by decide +kernel
theorem dX1_init_7 : decode cX1_init 7 = .ok (.newarray .int, 2) := by decide +kernel
theorem dX1_init_9 : decode cX1_init 9 = .ok (.putfield 9, 3) := by decide +kernel
theorem dX1_init_12 : decode cX1_init 12 = .ok (.aload_n 0, 1) := by decide +kernel
theorem dX1_init_13 : decode cX1_init 13 = .ok (.bipush 40, 2) := by decide +kernel
theorem dX1_init_15 : decode cX1_init 15 = .ok (.newarray .int, 2) := by decide +kernel
theorem dX1_init_17 : decode cX1_init 17 = .ok (.putfield 15, 3) := by decide +kernel
theorem dX1_init_20 : decode cX1_init 20 = .ok (.aload_n 0, 1) := by decide +kernel
theorem dX1_init_21 : decode cX1_init 21 = .ok (.bipush 40, 2) := by decide +kernel
theorem dX1_init_23 : decode cX1_init 23 = .ok (.newarray .int, 2) := by decide +kernel
theorem dX1_init_25 : decode cX1_init 25 = .ok (.putfield 18, 3) := by decide +kernel
theorem dX1_init_28 : decode cX1_init 28 = .ok (.aload_n 0, 1) := by decide +kernel
theorem dX1_init_29 : decode cX1_init 29 = .ok (.bipush 40, 2) := by decide +kernel
theorem dX1_init_31 : decode cX1_init 31 = .ok (.newarray .int, 2) := by decide +kernel
theorem dX1_init_33 : decode cX1_init 33 = .ok (.putfield 21, 3) := by decide +kernel
theorem dX1_init_36 : decode cX1_init 36 = .ok (.aload_n 0, 1) := by decide +kernel
theorem dX1_init_37 : decode cX1_init 37 = .ok (.bipush 40, 2) := by decide +kernel
theorem dX1_init_39 : decode cX1_init 39 = .ok (.newarray .int, 2) := by decide +kernel
theorem dX1_init_41 : decode cX1_init 41 = .ok (.putfield 24, 3) := by decide +kernel
theorem dX1_init_44 : decode cX1_init 44 = .ok (.aload_n 0, 1) := by decide +kernel
theorem dX1_init_45 : decode cX1_init 45 = .ok (.bipush 40, 2) := by decide +kernel
theorem dX1_init_47 : decode cX1_init 47 = .ok (.newarray .int, 2) := by decide +kernel
theorem dX1_init_49 : decode cX1_init 49 = .ok (.putfield 27, 3) := by decide +kernel
theorem dX1_init_52 : decode cX1_init 52 = .ok (.aload_n 0, 1) := by decide +kernel
theorem dX1_init_53 : decode cX1_init 53 = .ok (.bipush 40, 2) := by decide +kernel
theorem dX1_init_55 : decode cX1_init 55 = .ok (.newarray .int, 2) := by decide +kernel
theorem dX1_init_57 : decode cX1_init 57 = .ok (.putfield 30, 3) := by decide +kernel
theorem dX1_init_60 : decode cX1_init 60 = .ok (.aload_n 0, 1) := by decide +kernel
theorem dX1_init_61 : decode cX1_init 61 = .ok (.bipush 40, 2) := by decide +kernel
theorem dX1_init_63 : decode cX1_init 63 = .ok (.newarray .int, 2) := by decide +kernel
theorem dX1_init_65 : decode cX1_init 65 = .ok (.putfield 33, 3) := by decide +kernel
theorem dX1_init_68 : decode cX1_init 68 = .ok (.aload_n 0, 1) := by decide +kernel
theorem dX1_init_69 : decode cX1_init 69 = .ok (.bipush 40, 2) := by decide +kernel
theorem dX1_init_71 : decode cX1_init 71 = .ok (.newarray .boolean, 2) := by decide +kernel
theorem dX1_init_73 : decode cX1_init 73 = .ok (.putfield 36, 3) := by decide +kernel
theorem dX1_init_76 : decode cX1_init 76 = .ok (.return_, 1) := by decide +kernel
theorem dX1_clear_0 : decode cX1_clear 0 = .ok (.aload_n 0, 1) := by decide +kernel
theorem dX1_clear_1 : decode cX1_clear 1 = .ok (.iconst 0, 1) := by decide +kernel
theorem dX1_clear_2 : decode cX1_clear 2 = .ok (.putfield 40, 3) := by decide +kernel
theorem dX1_clear_5 : decode cX1_clear 5 = .ok (.aload_n 0, 1) := by decide +kernel
theorem dX1_clear_6 : decode cX1_clear 6 = .ok (.iconst 0, 1) := by decide +kernel
theorem dX1_clear_7 : decode cX1_clear 7 = .ok (.putfield 44, 3) := by decide +kernel
theorem dX1_clear_10 : decode cX1_clear 10 = .ok (.return_, 1) := by decide +kernel
theorem dX1_put_0 : decode cX1_put 0 = .ok (.aload_n 0, 1) := by decide +kernel
theorem dX1_put_1 : decode cX1_put 1 = .ok (.getfield 40, 3) := by decide +kernel
theorem dX1_put_4 : decode cX1_put 4 = .ok (.bipush 40, 2) := by decide +kernel
theorem dX1_put_6 : decode cX1_put 6 = .ok (.if_icmp .lt 4, 3) := by decide +kernel
theorem dX1_put_9 : decode cX1_put 9 = .ok (.return_, 1) := by decide +kernel
theorem dX1_put_10 : decode cX1_put 10 = .ok (.aload_n 0, 1) := by decide +kernel
theorem dX1_put_11 : decode cX1_put 11 = .ok (.getfield 9, 3) := by decide +kernel
theorem dX1_put_14 : decode cX1_put 14 = .ok (.aload_n 0, 1) := by decide +kernel
theorem dX1_put_15 : decode cX1_put 15 = .ok (.getfield 40, 3) := by decide +kernel
theorem dX1_put_18 : decode cX1_put 18 = .ok (.aload_n 1, 1) := by decide +kernel
theorem dX1_put_19 : decode cX1_put 19 = .ok (.iload_n 2, 1) := by decide +kernel
theorem dX1_put_20 : decode cX1_put 20 = .ok (.invokestatic 47, 3) := by decide +kernel
theorem dX1_put_23 : decode cX1_put 23 = .ok (.iastore, 1) := by decide +kernel
theorem dX1_put_24 : decode cX1_put 24 = .ok (.aload_n 0, 1) := by decide +kernel
theorem dX1_put_25 : decode cX1_put 25 = .ok (.getfield 15, 3) := by decide +kernel
theorem dX1_put_28 : decode cX1_put 28 = .ok (.aload_n 0, 1) := by decide +kernel
theorem dX1_put_29 : decode cX1_put 29 = .ok (.getfield 40, 3) := by decide +kernel
theorem dX1_put_32 : decode cX1_put 32 = .ok (.aload_n 1, 1) := by decide +kernel
theorem dX1_put_33 : decode cX1_put 33 = .ok (.iload_n 2, 1) := by decide +kernel
theorem dX1_put_34 : decode cX1_put 34 = .ok (.ifCond .eq 8, 3) := by decide +kernel
theorem dX1_put_37 : decode cX1_put 37 = .ok (.bipush 12, 2) := by decide +kernel
theorem dX1_put_39 : decode cX1_put 39 = .ok (.goto 5, 3) := by decide +kernel
theorem dX1_put_42 : decode cX1_put 42 = .ok (.bipush 13, 2) := by decide +kernel
theorem dX1_put_44 : decode cX1_put 44 = .ok (.invokevirtual 51, 3) := by decide +kernel
theorem dX1_put_47 : decode cX1_put 47 = .ok (.iastore, 1) := by decide +kernel
theorem dX1_put_48 : decode cX1_put 48 = .ok (.aload_n 0, 1) := by decide +kernel
theorem dX1_put_49 : decode cX1_put 49 = .ok (.getfield 18, 3) := by decide +kernel
theorem dX1_put_52 : decode cX1_put 52 = .ok (.aload_n 0, 1) := by decide +kernel
theorem dX1_put_53 : decode cX1_put 53 = .ok (.getfield 40, 3) := by decide +kernel
theorem dX1_put_56 : decode cX1_put 56 = .ok (.aload_n 1, 1) := by decide +kernel
theorem dX1_put_57 : decode cX1_put 57 = .ok (.iload_n 2, 1) := by decide +kernel
theorem dX1_put_58 : decode cX1_put 58 = .ok (.ifCond .eq 8, 3) := by decide +kernel
theorem dX1_put_61 : decode cX1_put 61 = .ok (.bipush 14, 2) := by decide +kernel
theorem dX1_put_63 : decode cX1_put 63 = .ok (.goto 5, 3) := by decide +kernel
theorem dX1_put_66 : decode cX1_put 66 = .ok (.bipush 15, 2) := by decide +kernel
theorem dX1_put_68 : decode cX1_put 68 = .ok (.invokevirtual 51, 3) := by decide +kernel
theorem dX1_put_71 : decode cX1_put 71 = .ok (.iastore, 1) := by decide +kernel
theorem dX1_put_72 : decode cX1_put 72 = .ok (.aload_n 0, 1) := by decide +kernel
theorem dX1_put_73 : decode cX1_put 73 = .ok (.getfield 21, 3) := by decide +kernel
theorem dX1_put_76 : decode cX1_put 76 = .ok (.aload_n 0, 1) := by decide +kernel
theorem dX1_put_77 : decode cX1_put 77 = .ok (.getfield 40, 3) := by decide +kernel
theorem dX1_put_80 : decode cX1_put 80 = .ok (.aload_n 1, 1) := by decide +kernel
theorem dX1_put_81 : decode cX1_put 81 = .ok (.bipush 8, 2) := by decide +kernel
theorem dX1_put_83 : decode cX1_put 83 = .ok (.invokevirtual 51, 3) := by decide +kernel
theorem dX1_put_86 : decode cX1_put 86 = .ok (.iastore, 1) := by decide +kernel
theorem dX1_put_87 : decode cX1_put 87 = .ok (.aload_n 0, 1) := by decide +kernel
theorem dX1_put_88 : decode cX1_put 88 = .ok (.getfield 24, 3) := by decide +kernel
theorem dX1_put_91 : decode cX1_put 91 = .ok (.aload_n 0, 1) := by decide +kernel
theorem dX1_put_92 : decode cX1_put 92 = .ok (.getfield 40, 3) := by decide +kernel
theorem dX1_put_95 : decode cX1_put 95 = .ok (.aload_n 1, 1) := by decide +kernel
theorem dX1_put_96 : decode cX1_put 96 = .ok (.bipush 9, 2) := by decide +kernel
theorem dX1_put_98 : decode cX1_put 98 = .ok (.invokevirtual 51, 3) := by decide +kernel
theorem dX1_put_101 : decode cX1_put 101 = .ok (.iastore, 1) := by decide +kernel
theorem dX1_put_102 : decode cX1_put 102 = .ok (.aload_n 0, 1) := by decide +kernel
theorem dX1_put_103 : decode cX1_put 103 = .ok (.dup, 1) := by decide +kernel
theorem dX1_put_104 : decode cX1_put 104 = .ok (.getfield 44, 3) := by decide +kernel
theorem dX1_put_107 : decode cX1_put 107 = .ok (.aload_n 1, 1) := by decide +kernel
theorem dX1_put_108 : decode cX1_put 108 = .ok (.invokevirtual 57, 3) := by decide +kernel
theorem dX1_put_111 : decode cX1_put 111 = .ok (.iadd, 1) := by decide +kernel
theorem dX1_put_112 : decode cX1_put 112 = .ok (.putfield 44, 3) := by decide +kernel
theorem dX1_put_115 : decode cX1_put 115 = .ok (.aload_n 0, 1) := by decide +kernel
theorem dX1_put_116 : decode cX1_put 116 = .ok (.dup, 1) := by decide +kernel
theorem dX1_put_117 : decode cX1_put 117 = .ok (.getfield 40, 3) := by decide +kernel
theorem dX1_put_120 : decode cX1_put 120 = .ok (.iconst 1, 1) := by decide +kernel
theorem dX1_put_121 : decode cX1_put 121 = .ok (.iadd, 1) := by decide +kernel
theorem dX1_put_122 : decode cX1_put 122 = .ok (.putfield 40, 3) := by decide +kernel
theorem dX1_put_125 : decode cX1_put 125 = .ok (.return_, 1) := by decide +kernel
theorem dX1_baseOf_0 : decode cX1_baseOf 0 = .ok (.aload_n 0, 1) := by decide +kernel
theorem dX1_baseOf_1 : decode cX1_baseOf 1 = .ok (.bipush 7, 2) := by decide +kernel
theorem dX1_baseOf_3 : decode cX1_baseOf 3 = .ok (.invokevirtual 51, 3) := by decide +kernel
theorem dX1_baseOf_6 : decode cX1_baseOf 6 = .ok (.iconst (-1), 1) := by decide +kernel
theorem dX1_baseOf_7 : decode cX1_baseOf 7 = .ok (.if_icmp .eq 10, 3) := by decide +kernel
theorem dX1_baseOf_10 : decode cX1_baseOf 10 = .ok (.aload_n 0, 1) := by decide +kernel
theorem dX1_baseOf_11 : decode cX1_baseOf 11 = .ok (.bipush 7, 2) := by decide +kernel
theorem dX1_baseOf_13 : decode cX1_baseOf 13 = .ok (.invokevirtual 51, 3) := by decide +kernel
theorem dX1_baseOf_16 : decode cX1_baseOf 16 = .ok (.ireturn, 1) := by decide +kernel
theorem dX1_baseOf_17 : decode cX1_baseOf 17 = .ok (.iload_n 1, 1) := by decide +kernel
theorem dX1_baseOf_18 : decode cX1_baseOf 18 = .ok (.ifCond .eq 10, 3) := by decide +kernel
theorem dX1_baseOf_21 : decode cX1_baseOf 21 = .ok (.aload_n 0, 1) := by decide +kernel
theorem dX1_baseOf_22 : decode cX1_baseOf 22 = .ok (.getfield 60, 3) := by decide +kernel
theorem dX1_baseOf_25 : decode cX1_baseOf 25 = .ok (.goto 7, 3) := by decide +kernel
theorem dX1_baseOf_28 : decode cX1_baseOf 28 = .ok (.aload_n 0, 1) := by decide +kernel
theorem dX1_baseOf_29 : decode cX1_baseOf 29 = .ok (.getfield 63, 3) := by decide +kernel
theorem dX1_baseOf_32 : decode cX1_baseOf 32 = .ok (.ireturn, 1) := by decide +kernel
theorem dX1_sizeAt_0 : decode cX1_sizeAt 0 = .ok (.iload_n 1, 1) := by decide +kernel
theorem dX1_sizeAt_1 : decode cX1_sizeAt 1 = .ok (.ifCond .lt 18, 3) := by decide +kernel
theorem dX1_sizeAt_4 : decode cX1_sizeAt 4 = .ok (.iload_n 1, 1) := by decide +kernel
theorem dX1_sizeAt_5 : decode cX1_sizeAt 5 = .ok (.bipush 40, 2) := by decide +kernel
theorem dX1_sizeAt_7 : decode cX1_sizeAt 7 = .ok (.if_icmp .ge 12, 3) := by decide +kernel
theorem dX1_sizeAt_10 : decode cX1_sizeAt 10 = .ok (.aload_n 0, 1) := by decide +kernel
theorem dX1_sizeAt_11 : decode cX1_sizeAt 11 = .ok (.getfield 30, 3) := by decide +kernel
theorem dX1_sizeAt_14 : decode cX1_sizeAt 14 = .ok (.iload_n 1, 1) := by decide +kernel
theorem dX1_sizeAt_15 : decode cX1_sizeAt 15 = .ok (.iaload, 1) := by decide +kernel
theorem dX1_sizeAt_16 : decode cX1_sizeAt 16 = .ok (.goto 4, 3) := by decide +kernel
theorem dX1_sizeAt_19 : decode cX1_sizeAt 19 = .ok (.iconst 0, 1) := by decide +kernel
theorem dX1_sizeAt_20 : decode cX1_sizeAt 20 = .ok (.ireturn, 1) := by decide +kernel
theorem dX1_share_0 : decode cX1_share 0 = .ok (.iload_n 1, 1) := by decide +kernel
theorem dX1_share_1 : decode cX1_share 1 = .ok (.aload_n 0, 1) := by decide +kernel
theorem dX1_share_2 : decode cX1_share 2 = .ok (.getfield 44, 3) := by decide +kernel
theorem dX1_share_5 : decode cX1_share 5 = .ok (.isub, 1) := by decide +kernel
theorem dX1_share_6 : decode cX1_share 6 = .ok (.aload_n 0, 1) := by decide +kernel
theorem dX1_share_7 : decode cX1_share 7 = .ok (.getfield 40, 3) := by decide +kernel
theorem dX1_share_10 : decode cX1_share 10 = .ok (.iload_n 2, 1) := by decide +kernel
theorem dX1_share_11 : decode cX1_share 11 = .ok (.invokestatic 66, 3) := by decide +kernel
theorem dX1_share_14 : decode cX1_share 14 = .ok (.isub, 1) := by decide +kernel
theorem dX1_share_15 : decode cX1_share 15 = .ok (.istore_n 3, 1) := by decide +kernel
theorem dX1_share_16 : decode cX1_share 16 = .ok (.aload_n 0, 1) := by decide +kernel
theorem dX1_share_17 : decode cX1_share 17 = .ok (.invokevirtual 70, 3) := by decide +kernel
theorem dX1_share_20 : decode cX1_share 20 = .ok (.iload_n 3, 1) := by decide +kernel
theorem dX1_share_21 : decode cX1_share 21 = .ok (.if_icmp .ge 7, 3) := by decide +kernel
theorem dX1_share_24 : decode cX1_share 24 = .ok (.iconst 1, 1) := by decide +kernel
theorem dX1_share_25 : decode cX1_share 25 = .ok (.goto 4, 3) := by decide +kernel
theorem dX1_share_28 : decode cX1_share 28 = .ok (.iconst 0, 1) := by decide +kernel
theorem dX1_share_29 : decode cX1_share 29 = .ok (.istore 4, 2) := by decide +kernel
theorem dX1_share_31 : decode cX1_share 31 = .ok (.iconst 0, 1) := by decide +kernel
theorem dX1_share_32 : decode cX1_share 32 = .ok (.istore 5, 2) := by decide +kernel
theorem dX1_share_34 : decode cX1_share 34 = .ok (.iload 5, 2) := by decide +kernel
theorem dX1_share_36 : decode cX1_share 36 = .ok (.aload_n 0, 1) := by decide +kernel
theorem dX1_share_37 : decode cX1_share 37 = .ok (.getfield 40, 3) := by decide +kernel
theorem dX1_share_40 : decode cX1_share 40 = .ok (.if_icmp .ge 117, 3) := by decide +kernel
theorem dX1_share_43 : decode cX1_share 43 = .ok (.iload 5, 2) := by decide +kernel
theorem dX1_share_45 : decode cX1_share 45 = .ok (.bipush 40, 2) := by decide +kernel
theorem dX1_share_47 : decode cX1_share 47 = .ok (.if_icmp .ge 110, 3) := by decide +kernel
theorem dX1_share_50 : decode cX1_share 50 = .ok (.aload_n 0, 1) := by decide +kernel
theorem dX1_share_51 : decode cX1_share 51 = .ok (.getfield 27, 3) := by decide +kernel
theorem dX1_share_54 : decode cX1_share 54 = .ok (.iload 5, 2) := by decide +kernel
theorem dX1_share_56 : decode cX1_share 56 = .ok (.iload 4, 2) := by decide +kernel
theorem dX1_share_58 : decode cX1_share 58 = .ok (.ifCond .eq 13, 3) := by decide +kernel
theorem dX1_share_61 : decode cX1_share 61 = .ok (.aload_n 0, 1) := by decide +kernel
theorem dX1_share_62 : decode cX1_share 62 = .ok (.getfield 21, 3) := by decide +kernel
theorem dX1_share_65 : decode cX1_share 65 = .ok (.iload 5, 2) := by decide +kernel
theorem dX1_share_67 : decode cX1_share 67 = .ok (.iaload, 1) := by decide +kernel
theorem dX1_share_68 : decode cX1_share 68 = .ok (.goto 18, 3) := by decide +kernel
theorem dX1_share_71 : decode cX1_share 71 = .ok (.aload_n 0, 1) := by decide +kernel
theorem dX1_share_72 : decode cX1_share 72 = .ok (.getfield 24, 3) := by decide +kernel
theorem dX1_share_75 : decode cX1_share 75 = .ok (.iload 5, 2) := by decide +kernel
theorem dX1_share_77 : decode cX1_share 77 = .ok (.iaload, 1) := by decide +kernel
theorem dX1_share_78 : decode cX1_share 78 = .ok (.aload_n 0, 1) := by decide +kernel
theorem dX1_share_79 : decode cX1_share 79 = .ok (.getfield 9, 3) := by decide +kernel
theorem dX1_share_82 : decode cX1_share 82 = .ok (.iload 5, 2) := by decide +kernel
theorem dX1_share_84 : decode cX1_share 84 = .ok (.iaload, 1) := by decide +kernel
theorem dX1_share_85 : decode cX1_share 85 = .ok (.imul, 1) := by decide +kernel
theorem dX1_share_86 : decode cX1_share 86 = .ok (.iastore, 1) := by decide +kernel
theorem dX1_share_87 : decode cX1_share 87 = .ok (.aload_n 0, 1) := by decide +kernel
theorem dX1_share_88 : decode cX1_share 88 = .ok (.getfield 36, 3) := by decide +kernel
theorem dX1_share_91 : decode cX1_share 91 = .ok (.iload 5, 2) := by decide +kernel
theorem dX1_share_93 : decode cX1_share 93 = .ok (.aload_n 0, 1) := by decide +kernel
theorem dX1_share_94 : decode cX1_share 94 = .ok (.getfield 27, 3) := by decide +kernel
theorem dX1_share_97 : decode cX1_share 97 = .ok (.iload 5, 2) := by decide +kernel
theorem dX1_share_99 : decode cX1_share 99 = .ok (.iaload, 1) := by decide +kernel
theorem dX1_share_100 : decode cX1_share 100 = .ok (.ifCond .eq 45, 3) := by decide +kernel
theorem dX1_share_103 : decode cX1_share 103 = .ok (.iload 4, 2) := by decide +kernel
theorem dX1_share_105 : decode cX1_share 105 = .ok (.ifCond .eq 23, 3) := by decide +kernel
theorem dX1_share_108 : decode cX1_share 108 = .ok (.aload_n 0, 1) := by decide +kernel
theorem dX1_share_109 : decode cX1_share 109 = .ok (.getfield 9, 3) := by decide +kernel
theorem dX1_share_112 : decode cX1_share 112 = .ok (.iload 5, 2) := by decide +kernel
theorem dX1_share_114 : decode cX1_share 114 = .ok (.iaload, 1) := by decide +kernel
theorem dX1_share_115 : decode cX1_share 115 = .ok (.aload_n 0, 1) := by decide +kernel
theorem dX1_share_116 : decode cX1_share 116 = .ok (.getfield 30, 3) := by decide +kernel
theorem dX1_share_119 : decode cX1_share 119 = .ok (.iload 5, 2) := by decide +kernel
theorem dX1_share_121 : decode cX1_share 121 = .ok (.iaload, 1) := by decide +kernel
theorem dX1_share_122 : decode cX1_share 122 = .ok (.if_icmp .le 27, 3) := by decide +kernel
theorem dX1_share_125 : decode cX1_share 125 = .ok (.goto 20, 3) := by decide +kernel
theorem dX1_share_128 : decode cX1_share 128 = .ok (.aload_n 0, 1) := by decide +kernel
theorem dX1_share_129 : decode cX1_share 129 = .ok (.getfield 9, 3) := by decide +kernel
theorem dX1_share_132 : decode cX1_share 132 = .ok (.iload 5, 2) := by decide +kernel
theorem dX1_share_134 : decode cX1_share 134 = .ok (.iaload, 1) := by decide +kernel
theorem dX1_share_135 : decode cX1_share 135 = .ok (.aload_n 0, 1) := by decide +kernel
theorem dX1_share_136 : decode cX1_share 136 = .ok (.getfield 30, 3) := by decide +kernel
theorem dX1_share_139 : decode cX1_share 139 = .ok (.iload 5, 2) := by decide +kernel
theorem dX1_share_141 : decode cX1_share 141 = .ok (.iaload, 1) := by decide +kernel
theorem dX1_share_142 : decode cX1_share 142 = .ok (.if_icmp .ge 7, 3) := by decide +kernel
theorem dX1_share_145 : decode cX1_share 145 = .ok (.iconst 1, 1) := by decide +kernel
theorem dX1_share_146 : decode cX1_share 146 = .ok (.goto 4, 3) := by decide +kernel
theorem dX1_share_149 : decode cX1_share 149 = .ok (.iconst 0, 1) := by decide +kernel
theorem dX1_share_150 : decode cX1_share 150 = .ok (.bastore, 1) := by decide +kernel
theorem dX1_share_151 : decode cX1_share 151 = .ok (.iinc 5 1, 3) := by decide +kernel
theorem dX1_share_154 : decode cX1_share 154 = .ok (.goto (-120), 3) := by decide +kernel
theorem dX1_share_157 : decode cX1_share 157 = .ok (.aload_n 0, 1) := by decide +kernel
theorem dX1_share_158 : decode cX1_share 158 = .ok (.invokevirtual 73, 3) := by decide +kernel
theorem dX1_share_161 : decode cX1_share 161 = .ok (.lstore 5, 2) := by decide +kernel
theorem dX1_share_163 : decode cX1_share 163 = .ok (.iconst 0, 1) := by decide +kernel
theorem dX1_share_164 : decode cX1_share 164 = .ok (.istore 7, 2) := by decide +kernel
theorem dX1_share_166 : decode cX1_share 166 = .ok (.iload 7, 2) := by decide +kernel
theorem dX1_share_168 : decode cX1_share 168 = .ok (.aload_n 0, 1) := by decide +kernel
theorem dX1_share_169 : decode cX1_share 169 = .ok (.getfield 40, 3) := by decide +kernel
theorem dX1_share_172 : decode cX1_share 172 = .ok (.if_icmp .ge 59, 3) := by decide +kernel
theorem dX1_share_175 : decode cX1_share 175 = .ok (.lload 5, 2) := by decide +kernel
theorem dX1_share_177 : decode cX1_share 177 = .ok (.lconst 0, 1) := by decide +kernel
theorem dX1_share_178 : decode cX1_share 178 = .ok (.lcmp, 1) := by decide +kernel
theorem dX1_share_179 : decode cX1_share 179 = .ok (.ifCond .le 52, 3) := by decide +kernel
theorem dX1_share_182 : decode cX1_share 182 = .ok (.aload_n 0, 1) := by decide +kernel
theorem dX1_share_183 : decode cX1_share 183 = .ok (.iload_n 3, 1) := by decide +kernel
theorem dX1_share_184 : decode cX1_share 184 = .ok (.invokevirtual 77, 3) := by decide +kernel
theorem dX1_share_187 : decode cX1_share 187 = .ok (.istore 8, 2) := by decide +kernel
theorem dX1_share_189 : decode cX1_share 189 = .ok (.aload_n 0, 1) := by decide +kernel
theorem dX1_share_190 : decode cX1_share 190 = .ok (.aload_n 0, 1) := by decide +kernel
theorem dX1_share_191 : decode cX1_share 191 = .ok (.iload 4, 2) := by decide +kernel
theorem dX1_share_193 : decode cX1_share 193 = .ok (.ifCond .eq 8, 3) := by decide +kernel
theorem dX1_share_196 : decode cX1_share 196 = .ok (.iload 8, 2) := by decide +kernel
theorem dX1_share_198 : decode cX1_share 198 = .ok (.goto 6, 3) := by decide +kernel
theorem dX1_share_201 : decode cX1_share 201 = .ok (.iload 8, 2) := by decide +kernel
theorem dX1_share_203 : decode cX1_share 203 = .ok (.ineg, 1) := by decide +kernel
theorem dX1_share_204 : decode cX1_share 204 = .ok (.iconst 0, 1) := by decide +kernel
theorem dX1_share_205 : decode cX1_share 205 = .ok (.invokestatic 80, 3) := by decide +kernel
theorem dX1_share_208 : decode cX1_share 208 = .ok (.i2l, 1) := by decide +kernel
theorem dX1_share_209 : decode cX1_share 209 = .ok (.lload 5, 2) := by decide +kernel
theorem dX1_share_211 : decode cX1_share 211 = .ok (.iload 4, 2) := by decide +kernel
theorem dX1_share_213 : decode cX1_share 213 = .ok (.invokevirtual 85, 3) := by decide +kernel
theorem dX1_share_216 : decode cX1_share 216 = .ok (.invokevirtual 89, 3) := by decide +kernel
theorem dX1_share_219 : decode cX1_share 219 = .ok (.aload_n 0, 1) := by decide +kernel
theorem dX1_share_220 : decode cX1_share 220 = .ok (.invokevirtual 73, 3) := by decide +kernel
theorem dX1_share_223 : decode cX1_share 223 = .ok (.lstore 5, 2) := by decide +kernel
theorem dX1_share_225 : decode cX1_share 225 = .ok (.iinc 7 1, 3) := by decide +kernel
theorem dX1_share_228 : decode cX1_share 228 = .ok (.goto (-62), 3) := by decide +kernel
theorem dX1_share_231 : decode cX1_share 231 = .ok (.return_, 1) := by decide +kernel
theorem dX1_begin_0 : decode cX1_begin 0 = .ok (.iconst 0, 1) := by decide +kernel
theorem dX1_begin_1 : decode cX1_begin 1 = .ok (.istore_n 1, 1) := by decide +kernel
theorem dX1_begin_2 : decode cX1_begin 2 = .ok (.iconst 0, 1) := by decide +kernel
theorem dX1_begin_3 : decode cX1_begin 3 = .ok (.istore_n 2, 1) := by decide +kernel
theorem dX1_begin_4 : decode cX1_begin 4 = .ok (.iload_n 2, 1) := by decide +kernel
theorem dX1_begin_5 : decode cX1_begin 5 = .ok (.aload_n 0, 1) := by decide +kernel
theorem dX1_begin_6 : decode cX1_begin 6 = .ok (.getfield 40, 3) := by decide +kernel
theorem dX1_begin_9 : decode cX1_begin 9 = .ok (.if_icmp .ge 51, 3) := by decide +kernel
theorem dX1_begin_12 : decode cX1_begin 12 = .ok (.iload_n 2, 1) := by decide +kernel
theorem dX1_begin_13 : decode cX1_begin 13 = .ok (.bipush 40, 2) := by decide +kernel
theorem dX1_begin_15 : decode cX1_begin 15 = .ok (.if_icmp .ge 45, 3) := by decide +kernel
theorem dX1_begin_18 : decode cX1_begin 18 = .ok (.aload_n 0, 1) := by decide +kernel
theorem dX1_begin_19 : decode cX1_begin 19 = .ok (.getfield 30, 3) := by decide +kernel
theorem dX1_begin_22 : decode cX1_begin 22 = .ok (.iload_n 2, 1) := by decide +kernel
theorem dX1_begin_23 : decode cX1_begin 23 = .ok (.aload_n 0, 1) := by decide +kernel
theorem dX1_begin_24 : decode cX1_begin 24 = .ok (.getfield 9, 3) := by decide +kernel
theorem dX1_begin_27 : decode cX1_begin 27 = .ok (.iload_n 2, 1) := by decide +kernel
theorem dX1_begin_28 : decode cX1_begin 28 = .ok (.iaload, 1) := by decide +kernel
theorem dX1_begin_29 : decode cX1_begin 29 = .ok (.aload_n 0, 1) := by decide +kernel
theorem dX1_begin_30 : decode cX1_begin 30 = .ok (.getfield 15, 3) := by decide +kernel
theorem dX1_begin_33 : decode cX1_begin 33 = .ok (.iload_n 2, 1) := by decide +kernel
theorem dX1_begin_34 : decode cX1_begin 34 = .ok (.iaload, 1) := by decide +kernel
theorem dX1_begin_35 : decode cX1_begin 35 = .ok (.aload_n 0, 1) := by decide +kernel
theorem dX1_begin_36 : decode cX1_begin 36 = .ok (.getfield 18, 3) := by decide +kernel
theorem dX1_begin_39 : decode cX1_begin 39 = .ok (.iload_n 2, 1) := by decide +kernel
theorem dX1_begin_40 : decode cX1_begin 40 = .ok (.iaload, 1) := by decide +kernel
theorem dX1_begin_41 : decode cX1_begin 41 = .ok (.invokestatic 93, 3) := by decide +kernel
theorem dX1_begin_44 : decode cX1_begin 44 = .ok (.iastore, 1) := by decide +kernel
theorem dX1_begin_45 : decode cX1_begin 45 = .ok (.iload_n 1, 1) := by decide +kernel
theorem dX1_begin_46 : decode cX1_begin 46 = .ok (.aload_n 0, 1) := by decide +kernel
theorem dX1_begin_47 : decode cX1_begin 47 = .ok (.getfield 30, 3) := by decide +kernel
theorem dX1_begin_50 : decode cX1_begin 50 = .ok (.iload_n 2, 1) := by decide +kernel
theorem dX1_begin_51 : decode cX1_begin 51 = .ok (.iaload, 1) := by decide +kernel
theorem dX1_begin_52 : decode cX1_begin 52 = .ok (.iadd, 1) := by decide +kernel
theorem dX1_begin_53 : decode cX1_begin 53 = .ok (.istore_n 1, 1) := by decide +kernel
theorem dX1_begin_54 : decode cX1_begin 54 = .ok (.iinc 2 1, 3) := by decide +kernel
theorem dX1_begin_57 : decode cX1_begin 57 = .ok (.goto (-53), 3) := by decide +kernel
theorem dX1_begin_60 : decode cX1_begin 60 = .ok (.iload_n 1, 1) := by decide +kernel
theorem dX1_begin_61 : decode cX1_begin 61 = .ok (.ireturn, 1) := by decide +kernel
theorem dX1_restOf_0 : decode cX1_restOf 0 = .ok (.iload_n 1, 1) := by decide +kernel
theorem dX1_restOf_1 : decode cX1_restOf 1 = .ok (.istore_n 2, 1) := by decide +kernel
theorem dX1_restOf_2 : decode cX1_restOf 2 = .ok (.iconst 0, 1) := by decide +kernel
theorem dX1_restOf_3 : decode cX1_restOf 3 = .ok (.istore_n 3, 1) := by decide +kernel
theorem dX1_restOf_4 : decode cX1_restOf 4 = .ok (.iload_n 3, 1) := by decide +kernel
theorem dX1_restOf_5 : decode cX1_restOf 5 = .ok (.aload_n 0, 1) := by decide +kernel
theorem dX1_restOf_6 : decode cX1_restOf 6 = .ok (.getfield 40, 3) := by decide +kernel
theorem dX1_restOf_9 : decode cX1_restOf 9 = .ok (.if_icmp .ge 42, 3) := by decide +kernel
theorem dX1_restOf_12 : decode cX1_restOf 12 = .ok (.iload_n 3, 1) := by decide +kernel
theorem dX1_restOf_13 : decode cX1_restOf 13 = .ok (.bipush 40, 2) := by decide +kernel
theorem dX1_restOf_15 : decode cX1_restOf 15 = .ok (.if_icmp .ge 36, 3) := by decide +kernel
theorem dX1_restOf_18 : decode cX1_restOf 18 = .ok (.iload_n 2, 1) := by decide +kernel
theorem dX1_restOf_19 : decode cX1_restOf 19 = .ok (.aload_n 0, 1) := by decide +kernel
theorem dX1_restOf_20 : decode cX1_restOf 20 = .ok (.getfield 36, 3) := by decide +kernel
theorem dX1_restOf_23 : decode cX1_restOf 23 = .ok (.iload_n 3, 1) := by decide +kernel
theorem dX1_restOf_24 : decode cX1_restOf 24 = .ok (.baload, 1) := by decide +kernel
theorem dX1_restOf_25 : decode cX1_restOf 25 = .ok (.ifCond .eq 12, 3) := by decide +kernel
theorem dX1_restOf_28 : decode cX1_restOf 28 = .ok (.aload_n 0, 1) := by decide +kernel
theorem dX1_restOf_29 : decode cX1_restOf 29 = .ok (.getfield 30, 3) := by decide +kernel
theorem dX1_restOf_32 : decode cX1_restOf 32 = .ok (.iload_n 3, 1) := by decide +kernel
theorem dX1_restOf_33 : decode cX1_restOf 33 = .ok (.iaload, 1) := by decide +kernel
theorem dX1_restOf_34 : decode cX1_restOf 34 = .ok (.goto 9, 3) := by decide +kernel
theorem dX1_restOf_37 : decode cX1_restOf 37 = .ok (.aload_n 0, 1) := by decide +kernel
theorem dX1_restOf_38 : decode cX1_restOf 38 = .ok (.getfield 9, 3) := by decide +kernel
theorem dX1_restOf_41 : decode cX1_restOf 41 = .ok (.iload_n 3, 1) := by decide +kernel
theorem dX1_restOf_42 : decode cX1_restOf 42 = .ok (.iaload, 1) := by decide +kernel
theorem dX1_restOf_43 : decode cX1_restOf 43 = .ok (.isub, 1) := by decide +kernel
theorem dX1_restOf_44 : decode cX1_restOf 44 = .ok (.istore_n 2, 1) := by decide +kernel
theorem dX1_restOf_45 : decode cX1_restOf 45 = .ok (.iinc 3 1, 3) := by decide +kernel
theorem dX1_restOf_48 : decode cX1_restOf 48 = .ok (.goto (-44), 3) := by decide +kernel
theorem dX1_restOf_51 : decode cX1_restOf 51 = .ok (.iload_n 2, 1) := by decide +kernel
theorem dX1_restOf_52 : decode cX1_restOf 52 = .ok (.ireturn, 1) := by decide +kernel
theorem dX1_openFactors_0 : decode cX1_openFactors 0 = .ok (.lconst 0, 1) := by decide +kernel
theorem dX1_openFactors_1 : decode cX1_openFactors 1 = .ok (.lstore_n 1, 1) := by decide +kernel
theorem dX1_openFactors_2 : decode cX1_openFactors 2 = .ok (.iconst 0, 1) := by decide +kernel
theorem dX1_openFactors_3 : decode cX1_openFactors 3 = .ok (.istore_n 3, 1) := by decide +kernel
theorem dX1_openFactors_4 : decode cX1_openFactors 4 = .ok (.iload_n 3, 1) := by decide +kernel
theorem dX1_openFactors_5 : decode cX1_openFactors 5 = .ok (.aload_n 0, 1) := by decide +kernel
theorem dX1_openFactors_6 : decode cX1_openFactors 6 = .ok (.getfield 40, 3) := by decide +kernel
theorem dX1_openFactors_9 : decode cX1_openFactors 9 = .ok (.if_icmp .ge 38, 3) := by decide +kernel
theorem dX1_openFactors_12 : decode cX1_openFactors 12 = .ok (.iload_n 3, 1) := by decide +kernel
theorem dX1_openFactors_13 : decode cX1_openFactors 13 = .ok (.bipush 40, 2) := by decide +kernel
theorem dX1_openFactors_15 : decode cX1_openFactors 15 = .ok (.if_icmp .ge 32, 3) := by decide +kernel
theorem dX1_openFactors_18 : decode cX1_openFactors 18 = .ok (.lload_n 1, 1) := by decide +kernel
theorem dX1_openFactors_19 : decode cX1_openFactors 19 = .ok (.aload_n 0, 1) := by decide +kernel
theorem dX1_openFactors_20 : decode cX1_openFactors 20 = .ok (.getfield 36, 3) := by decide +kernel
theorem dX1_openFactors_23 : decode cX1_openFactors 23 = .ok (.iload_n 3, 1) := by decide +kernel
theorem dX1_openFactors_24 : decode cX1_openFactors 24 = .ok (.baload, 1) := by decide +kernel
theorem dX1_openFactors_25 : decode cX1_openFactors 25 = .ok (.ifCond .eq 7, 3) := by decide +kernel
theorem dX1_openFactors_28 : decode cX1_openFactors 28 = .ok (.lconst 0, 1) := by decide +kernel
theorem dX1_openFactors_29 : decode cX1_openFactors 29 = .ok (.goto 10, 3) := by decide +kernel
theorem dX1_openFactors_32 : decode cX1_openFactors 32 = .ok (.aload_n 0, 1) := by decide +kernel
theorem dX1_openFactors_33 : decode cX1_openFactors 33 = .ok (.getfield 27, 3) := by decide +kernel
theorem dX1_openFactors_36 : decode cX1_openFactors 36 = .ok (.iload_n 3, 1) := by decide +kernel
theorem dX1_openFactors_37 : decode cX1_openFactors 37 = .ok (.iaload, 1) := by decide +kernel
theorem dX1_openFactors_38 : decode cX1_openFactors 38 = .ok (.i2l, 1) := by decide +kernel
theorem dX1_openFactors_39 : decode cX1_openFactors 39 = .ok (.ladd, 1) := by decide +kernel
theorem dX1_openFactors_40 : decode cX1_openFactors 40 = .ok (.lstore_n 1, 1) := by decide +kernel
theorem dX1_openFactors_41 : decode cX1_openFactors 41 = .ok (.iinc 3 1, 3) := by decide +kernel
theorem dX1_openFactors_44 : decode cX1_openFactors 44 = .ok (.goto (-40), 3) := by decide +kernel
theorem dX1_openFactors_47 : decode cX1_openFactors 47 = .ok (.lload_n 1, 1) := by decide +kernel
theorem dX1_openFactors_48 : decode cX1_openFactors 48 = .ok (.lreturn, 1) := by decide +kernel
theorem dX1_propose_0 : decode cX1_propose 0 = .ok (.lconst 0, 1) := by decide +kernel
theorem dX1_propose_1 : decode cX1_propose 1 = .ok (.lstore 6, 2) := by decide +kernel
theorem dX1_propose_3 : decode cX1_propose 3 = .ok (.lconst 0, 1) := by decide +kernel
theorem dX1_propose_4 : decode cX1_propose 4 = .ok (.lstore 8, 2) := by decide +kernel
theorem dX1_propose_6 : decode cX1_propose 6 = .ok (.lconst 0, 1) := by decide +kernel
theorem dX1_propose_7 : decode cX1_propose 7 = .ok (.lstore 10, 2) := by decide +kernel
theorem dX1_propose_9 : decode cX1_propose 9 = .ok (.iconst 0, 1) := by decide +kernel
theorem dX1_propose_10 : decode cX1_propose 10 = .ok (.istore 12, 2) := by decide +kernel
theorem dX1_propose_12 : decode cX1_propose 12 = .ok (.iload 12, 2) := by decide +kernel
theorem dX1_propose_14 : decode cX1_propose 14 = .ok (.aload_n 0, 1) := by decide +kernel
theorem dX1_propose_15 : decode cX1_propose 15 = .ok (.getfield 40, 3) := by decide +kernel
theorem dX1_propose_18 : decode cX1_propose 18 = .ok (.if_icmp .ge 139, 3) := by decide +kernel
theorem dX1_propose_21 : decode cX1_propose 21 = .ok (.iload 12, 2) := by decide +kernel
theorem dX1_propose_23 : decode cX1_propose 23 = .ok (.bipush 40, 2) := by decide +kernel
theorem dX1_propose_25 : decode cX1_propose 25 = .ok (.if_icmp .ge 132, 3) := by decide +kernel
theorem dX1_propose_28 : decode cX1_propose 28 = .ok (.aload_n 0, 1) := by decide +kernel
theorem dX1_propose_29 : decode cX1_propose 29 = .ok (.getfield 36, 3) := by decide +kernel
theorem dX1_propose_32 : decode cX1_propose 32 = .ok (.iload 12, 2) := by decide +kernel
theorem dX1_propose_34 : decode cX1_propose 34 = .ok (.baload, 1) := by decide +kernel
theorem dX1_propose_35 : decode cX1_propose 35 = .ok (.ifCond .ne 116, 3) := by decide +kernel
theorem dX1_propose_38 : decode cX1_propose 38 = .ok (.lload_n 3, 1) := by decide +kernel
theorem dX1_propose_39 : decode cX1_propose 39 = .ok (.lconst 0, 1) := by decide +kernel
theorem dX1_propose_40 : decode cX1_propose 40 = .ok (.lcmp, 1) := by decide +kernel
theorem dX1_propose_41 : decode cX1_propose 41 = .ok (.ifCond .le 110, 3) := by decide +kernel
theorem dX1_propose_44 : decode cX1_propose 44 = .ok (.lload 6, 2) := by decide +kernel
theorem dX1_propose_46 : decode cX1_propose 46 = .ok (.aload_n 0, 1) := by decide +kernel
theorem dX1_propose_47 : decode cX1_propose 47 = .ok (.getfield 27, 3) := by decide +kernel
theorem dX1_propose_50 : decode cX1_propose 50 = .ok (.iload 12, 2) := by decide +kernel
theorem dX1_propose_52 : decode cX1_propose 52 = .ok (.iaload, 1) := by decide +kernel
theorem dX1_propose_53 : decode cX1_propose 53 = .ok (.i2l, 1) := by decide +kernel
theorem dX1_propose_54 : decode cX1_propose 54 = .ok (.ladd, 1) := by decide +kernel
theorem dX1_propose_55 : decode cX1_propose 55 = .ok (.lstore 6, 2) := by decide +kernel
theorem dX1_propose_57 : decode cX1_propose 57 = .ok (.lload_n 1, 1) := by decide +kernel
theorem dX1_propose_58 : decode cX1_propose 58 = .ok (.lload 6, 2) := by decide +kernel
theorem dX1_propose_60 : decode cX1_propose 60 = .ok (.lmul, 1) := by decide +kernel
theorem dX1_propose_61 : decode cX1_propose 61 = .ok (.lload_n 3, 1) := by decide +kernel
theorem dX1_propose_62 : decode cX1_propose 62 = .ok (.ldiv, 1) := by decide +kernel
theorem dX1_propose_63 : decode cX1_propose 63 = .ok (.lstore 13, 2) := by decide +kernel
theorem dX1_propose_65 : decode cX1_propose 65 = .ok (.lload 13, 2) := by decide +kernel
theorem dX1_propose_67 : decode cX1_propose 67 = .ok (.lload 8, 2) := by decide +kernel
theorem dX1_propose_69 : decode cX1_propose 69 = .ok (.lsub, 1) := by decide +kernel
theorem dX1_propose_70 : decode cX1_propose 70 = .ok (.l2i, 1) := by decide +kernel
theorem dX1_propose_71 : decode cX1_propose 71 = .ok (.istore 15, 2) := by decide +kernel
theorem dX1_propose_73 : decode cX1_propose 73 = .ok (.lload 13, 2) := by decide +kernel
theorem dX1_propose_75 : decode cX1_propose 75 = .ok (.lstore 8, 2) := by decide +kernel
theorem dX1_propose_77 : decode cX1_propose 77 = .ok (.aload_n 0, 1) := by decide +kernel
theorem dX1_propose_78 : decode cX1_propose 78 = .ok (.getfield 9, 3) := by decide +kernel
theorem dX1_propose_81 : decode cX1_propose 81 = .ok (.iload 12, 2) := by decide +kernel
theorem dX1_propose_83 : decode cX1_propose 83 = .ok (.iaload, 1) := by decide +kernel
theorem dX1_propose_84 : decode cX1_propose 84 = .ok (.iload 5, 2) := by decide +kernel
theorem dX1_propose_86 : decode cX1_propose 86 = .ok (.ifCond .eq 8, 3) := by decide +kernel
theorem dX1_propose_89 : decode cX1_propose 89 = .ok (.iload 15, 2) := by decide +kernel
theorem dX1_propose_91 : decode cX1_propose 91 = .ok (.goto 6, 3) := by decide +kernel
theorem dX1_propose_94 : decode cX1_propose 94 = .ok (.iload 15, 2) := by decide +kernel
theorem dX1_propose_96 : decode cX1_propose 96 = .ok (.ineg, 1) := by decide +kernel
theorem dX1_propose_97 : decode cX1_propose 97 = .ok (.iadd, 1) := by decide +kernel
theorem dX1_propose_98 : decode cX1_propose 98 = .ok (.istore 16, 2) := by decide +kernel
theorem dX1_propose_100 : decode cX1_propose 100 = .ok (.aload_n 0, 1) := by decide +kernel
theorem dX1_propose_101 : decode cX1_propose 101 = .ok (.getfield 30, 3) := by decide +kernel
theorem dX1_propose_104 : decode cX1_propose 104 = .ok (.iload 12, 2) := by decide +kernel
theorem dX1_propose_106 : decode cX1_propose 106 = .ok (.iload 16, 2) := by decide +kernel
theorem dX1_propose_108 : decode cX1_propose 108 = .ok (.iastore, 1) := by decide +kernel
theorem dX1_propose_109 : decode cX1_propose 109 = .ok (.aload_n 0, 1) := by decide +kernel
theorem dX1_propose_110 : decode cX1_propose 110 = .ok (.getfield 33, 3) := by decide +kernel
theorem dX1_propose_113 : decode cX1_propose 113 = .ok (.iload 12, 2) := by decide +kernel
theorem dX1_propose_115 : decode cX1_propose 115 = .ok (.iload 16, 2) := by decide +kernel
theorem dX1_propose_117 : decode cX1_propose 117 = .ok (.aload_n 0, 1) := by decide +kernel
theorem dX1_propose_118 : decode cX1_propose 118 = .ok (.getfield 15, 3) := by decide +kernel
theorem dX1_propose_121 : decode cX1_propose 121 = .ok (.iload 12, 2) := by decide +kernel
theorem dX1_propose_123 : decode cX1_propose 123 = .ok (.iaload, 1) := by decide +kernel
theorem dX1_propose_124 : decode cX1_propose 124 = .ok (.aload_n 0, 1) := by decide +kernel
theorem dX1_propose_125 : decode cX1_propose 125 = .ok (.getfield 18, 3) := by decide +kernel
theorem dX1_propose_128 : decode cX1_propose 128 = .ok (.iload 12, 2) := by decide +kernel
theorem dX1_propose_130 : decode cX1_propose 130 = .ok (.iaload, 1) := by decide +kernel
theorem dX1_propose_131 : decode cX1_propose 131 = .ok (.invokestatic 93, 3) := by decide +kernel
theorem dX1_propose_134 : decode cX1_propose 134 = .ok (.iload 16, 2) := by decide +kernel
theorem dX1_propose_136 : decode cX1_propose 136 = .ok (.isub, 1) := by decide +kernel
theorem dX1_propose_137 : decode cX1_propose 137 = .ok (.iastore, 1) := by decide +kernel
theorem dX1_propose_138 : decode cX1_propose 138 = .ok (.lload 10, 2) := by decide +kernel
theorem dX1_propose_140 : decode cX1_propose 140 = .ok (.aload_n 0, 1) := by decide +kernel
theorem dX1_propose_141 : decode cX1_propose 141 = .ok (.getfield 33, 3) := by decide +kernel
theorem dX1_propose_144 : decode cX1_propose 144 = .ok (.iload 12, 2) := by decide +kernel
theorem dX1_propose_146 : decode cX1_propose 146 = .ok (.iaload, 1) := by decide +kernel
theorem dX1_propose_147 : decode cX1_propose 147 = .ok (.i2l, 1) := by decide +kernel
theorem dX1_propose_148 : decode cX1_propose 148 = .ok (.ladd, 1) := by decide +kernel
theorem dX1_propose_149 : decode cX1_propose 149 = .ok (.lstore 10, 2) := by decide +kernel
theorem dX1_propose_151 : decode cX1_propose 151 = .ok (.iinc 12 1, 3) := by decide +kernel
theorem dX1_propose_154 : decode cX1_propose 154 = .ok (.goto (-142), 3) := by decide +kernel
theorem dX1_propose_157 : decode cX1_propose 157 = .ok (.lload 10, 2) := by decide +kernel
theorem dX1_propose_159 : decode cX1_propose 159 = .ok (.lreturn, 1) := by decide +kernel
theorem dX1_settle_0 : decode cX1_settle 0 = .ok (.iconst 0, 1) := by decide +kernel
theorem dX1_settle_1 : decode cX1_settle 1 = .ok (.istore_n 3, 1) := by decide +kernel
theorem dX1_settle_2 : decode cX1_settle 2 = .ok (.iload_n 3, 1) := by decide +kernel
theorem dX1_settle_3 : decode cX1_settle 3 = .ok (.aload_n 0, 1) := by decide +kernel
theorem dX1_settle_4 : decode cX1_settle 4 = .ok (.getfield 40, 3) := by decide +kernel
theorem dX1_settle_7 : decode cX1_settle 7 = .ok (.if_icmp .ge 75, 3) := by decide +kernel
theorem dX1_settle_10 : decode cX1_settle 10 = .ok (.iload_n 3, 1) := by decide +kernel
theorem dX1_settle_11 : decode cX1_settle 11 = .ok (.bipush 40, 2) := by decide +kernel
theorem dX1_settle_13 : decode cX1_settle 13 = .ok (.if_icmp .ge 69, 3) := by decide +kernel
theorem dX1_settle_16 : decode cX1_settle 16 = .ok (.aload_n 0, 1) := by decide +kernel
theorem dX1_settle_17 : decode cX1_settle 17 = .ok (.getfield 33, 3) := by decide +kernel
theorem dX1_settle_20 : decode cX1_settle 20 = .ok (.iload_n 3, 1) := by decide +kernel
theorem dX1_settle_21 : decode cX1_settle 21 = .ok (.iaload, 1) := by decide +kernel
theorem dX1_settle_22 : decode cX1_settle 22 = .ok (.istore 4, 2) := by decide +kernel
theorem dX1_settle_24 : decode cX1_settle 24 = .ok (.aload_n 0, 1) := by decide +kernel
theorem dX1_settle_25 : decode cX1_settle 25 = .ok (.getfield 36, 3) := by decide +kernel
theorem dX1_settle_28 : decode cX1_settle 28 = .ok (.iload_n 3, 1) := by decide +kernel
theorem dX1_settle_29 : decode cX1_settle 29 = .ok (.baload, 1) := by decide +kernel
theorem dX1_settle_30 : decode cX1_settle 30 = .ok (.ifCond .ne 46, 3) := by decide +kernel
theorem dX1_settle_33 : decode cX1_settle 33 = .ok (.lload_n 1, 1) := by decide +kernel
theorem dX1_settle_34 : decode cX1_settle 34 = .ok (.lconst 0, 1) := by decide +kernel
theorem dX1_settle_35 : decode cX1_settle 35 = .ok (.lcmp, 1) := by decide +kernel
theorem dX1_settle_36 : decode cX1_settle 36 = .ok (.ifCond .eq 22, 3) := by decide +kernel
theorem dX1_settle_39 : decode cX1_settle 39 = .ok (.lload_n 1, 1) := by decide +kernel
theorem dX1_settle_40 : decode cX1_settle 40 = .ok (.lconst 0, 1) := by decide +kernel
theorem dX1_settle_41 : decode cX1_settle 41 = .ok (.lcmp, 1) := by decide +kernel
theorem dX1_settle_42 : decode cX1_settle 42 = .ok (.ifCond .le 11, 3) := by decide +kernel
theorem dX1_settle_45 : decode cX1_settle 45 = .ok (.iload 4, 2) := by decide +kernel
theorem dX1_settle_47 : decode cX1_settle 47 = .ok (.ifCond .le 29, 3) := by decide +kernel
theorem dX1_settle_50 : decode cX1_settle 50 = .ok (.goto 8, 3) := by decide +kernel
theorem dX1_settle_53 : decode cX1_settle 53 = .ok (.iload 4, 2) := by decide +kernel
theorem dX1_settle_55 : decode cX1_settle 55 = .ok (.ifCond .ge 21, 3) := by decide +kernel
theorem dX1_settle_58 : decode cX1_settle 58 = .ok (.aload_n 0, 1) := by decide +kernel
theorem dX1_settle_59 : decode cX1_settle 59 = .ok (.getfield 30, 3) := by decide +kernel
theorem dX1_settle_62 : decode cX1_settle 62 = .ok (.iload_n 3, 1) := by decide +kernel
theorem dX1_settle_63 : decode cX1_settle 63 = .ok (.dup2, 1) := by decide +kernel
theorem dX1_settle_64 : decode cX1_settle 64 = .ok (.iaload, 1) := by decide +kernel
theorem dX1_settle_65 : decode cX1_settle 65 = .ok (.iload 4, 2) := by decide +kernel
theorem dX1_settle_67 : decode cX1_settle 67 = .ok (.iadd, 1) := by decide +kernel
theorem dX1_settle_68 : decode cX1_settle 68 = .ok (.iastore, 1) := by decide +kernel
theorem dX1_settle_69 : decode cX1_settle 69 = .ok (.aload_n 0, 1) := by decide +kernel
theorem dX1_settle_70 : decode cX1_settle 70 = .ok (.getfield 36, 3) := by decide +kernel
theorem dX1_settle_73 : decode cX1_settle 73 = .ok (.iload_n 3, 1) := by decide +kernel
theorem dX1_settle_74 : decode cX1_settle 74 = .ok (.iconst 1, 1) := by decide +kernel
theorem dX1_settle_75 : decode cX1_settle 75 = .ok (.bastore, 1) := by decide +kernel
theorem dX1_settle_76 : decode cX1_settle 76 = .ok (.iinc 3 1, 3) := by decide +kernel
theorem dX1_settle_79 : decode cX1_settle 79 = .ok (.goto (-77), 3) := by decide +kernel
theorem dX1_settle_82 : decode cX1_settle 82 = .ok (.return_, 1) := by decide +kernel
theorem dX2_init_0 : decode cX2_init 0 = .ok (.aload_n 0, 1) := by decide +kernel
theorem dX2_init_1 : decode cX2_init 1 = .ok (.invokespecial 3, 3) := by decide +kernel
theorem dX2_init_4 : decode cX2_init 4 = .ok (.aload_n 0, 1) := by decide +kernel
theorem dX2_init_5 : decode cX2_init 5 = .ok (.new 9, 3) := by decide +kernel
theorem dX2_init_8 : decode cX2_init 8 = .ok (.dup, 1) := by decide +kernel
theorem dX2_init_9 : decode cX2_init 9 = .ok (.invokespecial 11, 3) := by decide +kernel
theorem dX2_init_12 : decode cX2_init 12 = .ok (.putfield 12, 3) := by decide +kernel
theorem dX2_init_15 : decode cX2_init 15 = .ok (.aload_n 0, 1) := by decide +kernel
theorem dX2_init_16 : decode cX2_init 16 = .ok (.iconst 1, 1) := by decide +kernel
theorem dX2_init_17 : decode cX2_init 17 = .ok (.putfield 18, 3) := by decide +kernel
theorem dX2_init_20 : decode cX2_init 20 = .ok (.aload_n 0, 1) := by decide +kernel
theorem dX2_init_21 : decode cX2_init 21 = .ok (.aload_n 1, 1) := by decide +kernel
theorem dX2_init_22 : decode cX2_init 22 = .ok (.putfield 22, 3) := by decide +kernel
theorem dX2_init_25 : decode cX2_init 25 = .ok (.return_, 1) := by decide +kernel
theorem dX2_arrange_0 : decode cX2_arrange 0 = .ok (.aload_n 0, 1) := by decide +kernel
theorem dX2_arrange_1 : decode cX2_arrange 1 = .ok (.getfield 18, 3) := by decide +kernel
theorem dX2_arrange_4 : decode cX2_arrange 4 = .ok (.ifCond .ne 4, 3) := by decide +kernel
theorem dX2_arrange_7 : decode cX2_arrange 7 = .ok (.return_, 1) := by decide +kernel
theorem dX2_arrange_8 : decode cX2_arrange 8 = .ok (.aload_n 0, 1) := by decide +kernel
theorem dX2_arrange_9 : decode cX2_arrange 9 = .ok (.iconst 0, 1) := by decide +kernel
theorem dX2_arrange_10 : decode cX2_arrange 10 = .ok (.putfield 18, 3) := by decide +kernel
theorem dX2_arrange_13 : decode cX2_arrange 13 = .ok (.aload_n 0, 1) := by decide +kernel
theorem dX2_arrange_14 : decode cX2_arrange 14 = .ok (.getfield 22, 3) := by decide +kernel
theorem dX2_arrange_17 : decode cX2_arrange 17 = .ok (.invokevirtual 26, 3) := by decide +kernel
theorem dX2_arrange_20 : decode cX2_arrange 20 = .ok (.bipush 39, 2) := by decide +kernel
theorem dX2_arrange_22 : decode cX2_arrange 22 = .ok (.istore_n 1, 1) := by decide +kernel
theorem dX2_arrange_23 : decode cX2_arrange 23 = .ok (.iload_n 1, 1) := by decide +kernel
theorem dX2_arrange_24 : decode cX2_arrange 24 = .ok (.ifCond .lt 26, 3) := by decide +kernel
theorem dX2_arrange_27 : decode cX2_arrange 27 = .ok (.aload_n 0, 1) := by decide +kernel
theorem dX2_arrange_28 : decode cX2_arrange 28 = .ok (.getfield 22, 3) := by decide +kernel
theorem dX2_arrange_31 : decode cX2_arrange 31 = .ok (.iload_n 1, 1) := by decide +kernel
theorem dX2_arrange_32 : decode cX2_arrange 32 = .ok (.invokevirtual 31, 3) := by decide +kernel
theorem dX2_arrange_35 : decode cX2_arrange 35 = .ok (.astore_n 2, 1) := by decide +kernel
theorem dX2_arrange_36 : decode cX2_arrange 36 = .ok (.aload_n 2, 1) := by decide +kernel
theorem dX2_arrange_37 : decode cX2_arrange 37 = .ok (.ifnull 7, 3) := by decide +kernel
theorem dX2_arrange_40 : decode cX2_arrange 40 = .ok (.aload_n 2, 1) := by decide +kernel
theorem dX2_arrange_41 : decode cX2_arrange 41 = .ok (.invokestatic 35, 3) := by decide +kernel
theorem dX2_arrange_44 : decode cX2_arrange 44 = .ok (.iinc 1 (-1), 3) := by decide +kernel
theorem dX2_arrange_47 : decode cX2_arrange 47 = .ok (.goto (-24), 3) := by decide +kernel
theorem dX2_arrange_50 : decode cX2_arrange 50 = .ok (.aload_n 0, 1) := by decide +kernel
theorem dX2_arrange_51 : decode cX2_arrange 51 = .ok (.getfield 22, 3) := by decide +kernel
theorem dX2_arrange_54 : decode cX2_arrange 54 = .ok (.getfield 39, 3) := by decide +kernel
theorem dX2_arrange_57 : decode cX2_arrange 57 = .ok (.aload_n 0, 1) := by decide +kernel
theorem dX2_arrange_58 : decode cX2_arrange 58 = .ok (.getfield 22, 3) := by decide +kernel
theorem dX2_arrange_61 : decode cX2_arrange 61 = .ok (.getfield 43, 3) := by decide +kernel
theorem dX2_arrange_64 : decode cX2_arrange 64 = .ok (.putfield 47, 3) := by decide +kernel
theorem dX2_arrange_67 : decode cX2_arrange 67 = .ok (.iconst 0, 1) := by decide +kernel
theorem dX2_arrange_68 : decode cX2_arrange 68 = .ok (.istore_n 1, 1) := by decide +kernel
theorem dX2_arrange_69 : decode cX2_arrange 69 = .ok (.iload_n 1, 1) := by decide +kernel
theorem dX2_arrange_70 : decode cX2_arrange 70 = .ok (.bipush 40, 2) := by decide +kernel
theorem dX2_arrange_72 : decode cX2_arrange 72 = .ok (.if_icmp .ge 27, 3) := by decide +kernel
theorem dX2_arrange_75 : decode cX2_arrange 75 = .ok (.aload_n 0, 1) := by decide +kernel
theorem dX2_arrange_76 : decode cX2_arrange 76 = .ok (.getfield 22, 3) := by decide +kernel
theorem dX2_arrange_79 : decode cX2_arrange 79 = .ok (.iload_n 1, 1) := by decide +kernel
theorem dX2_arrange_80 : decode cX2_arrange 80 = .ok (.invokevirtual 31, 3) := by decide +kernel
theorem dX2_arrange_83 : decode cX2_arrange 83 = .ok (.astore_n 2, 1) := by decide +kernel
theorem dX2_arrange_84 : decode cX2_arrange 84 = .ok (.aload_n 2, 1) := by decide +kernel
theorem dX2_arrange_85 : decode cX2_arrange 85 = .ok (.ifnull 8, 3) := by decide +kernel
theorem dX2_arrange_88 : decode cX2_arrange 88 = .ok (.aload_n 0, 1) := by decide +kernel
theorem dX2_arrange_89 : decode cX2_arrange 89 = .ok (.aload_n 2, 1) := by decide +kernel
theorem dX2_arrange_90 : decode cX2_arrange 90 = .ok (.invokevirtual 52, 3) := by decide +kernel
theorem dX2_arrange_93 : decode cX2_arrange 93 = .ok (.iinc 1 1, 3) := by decide +kernel
theorem dX2_arrange_96 : decode cX2_arrange 96 = .ok (.goto (-27), 3) := by decide +kernel
theorem dX2_arrange_99 : decode cX2_arrange 99 = .ok (.bipush 39, 2) := by decide +kernel
theorem dX2_arrange_101 : decode cX2_arrange 101 = .ok (.istore_n 1, 1) := by decide +kernel
theorem dX2_arrange_102 : decode cX2_arrange 102 = .ok (.iload_n 1, 1) := by decide +kernel
theorem dX2_arrange_103 : decode cX2_arrange 103 = .ok (.ifCond .lt 26, 3) := by decide +kernel
theorem dX2_arrange_106 : decode cX2_arrange 106 = .ok (.aload_n 0, 1) := by decide +kernel
theorem dX2_arrange_107 : decode cX2_arrange 107 = .ok (.getfield 22, 3) := by decide +kernel
theorem dX2_arrange_110 : decode cX2_arrange 110 = .ok (.iload_n 1, 1) := by decide +kernel
theorem dX2_arrange_111 : decode cX2_arrange 111 = .ok (.invokevirtual 31, 3) := by decide +kernel
theorem dX2_arrange_114 : decode cX2_arrange 114 = .ok (.astore_n 2, 1) := by decide +kernel
theorem dX2_arrange_115 : decode cX2_arrange 115 = .ok (.aload_n 2, 1) := by decide +kernel
theorem dX2_arrange_116 : decode cX2_arrange 116 = .ok (.ifnull 7, 3) := by decide +kernel
theorem dX2_arrange_119 : decode cX2_arrange 119 = .ok (.aload_n 2, 1) := by decide +kernel
theorem dX2_arrange_120 : decode cX2_arrange 120 = .ok (.invokestatic 55, 3) := by decide +kernel
theorem dX2_arrange_123 : decode cX2_arrange 123 = .ok (.iinc 1 (-1), 3) := by decide +kernel
theorem dX2_arrange_126 : decode cX2_arrange 126 = .ok (.goto (-24), 3) := by decide +kernel
theorem dX2_arrange_129 : decode cX2_arrange 129 = .ok (.aload_n 0, 1) := by decide +kernel
theorem dX2_arrange_130 : decode cX2_arrange 130 = .ok (.getfield 22, 3) := by decide +kernel
theorem dX2_arrange_133 : decode cX2_arrange 133 = .ok (.getfield 39, 3) := by decide +kernel
theorem dX2_arrange_136 : decode cX2_arrange 136 = .ok (.aload_n 0, 1) := by decide +kernel
theorem dX2_arrange_137 : decode cX2_arrange 137 = .ok (.getfield 22, 3) := by decide +kernel
theorem dX2_arrange_140 : decode cX2_arrange 140 = .ok (.getfield 58, 3) := by decide +kernel
theorem dX2_arrange_143 : decode cX2_arrange 143 = .ok (.putfield 61, 3) := by decide +kernel
theorem dX2_arrange_146 : decode cX2_arrange 146 = .ok (.iconst 0, 1) := by decide +kernel
theorem dX2_arrange_147 : decode cX2_arrange 147 = .ok (.istore_n 1, 1) := by decide +kernel
theorem dX2_arrange_148 : decode cX2_arrange 148 = .ok (.iload_n 1, 1) := by decide +kernel
theorem dX2_arrange_149 : decode cX2_arrange 149 = .ok (.bipush 40, 2) := by decide +kernel
theorem dX2_arrange_151 : decode cX2_arrange 151 = .ok (.if_icmp .ge 45, 3) := by decide +kernel
theorem dX2_arrange_154 : decode cX2_arrange 154 = .ok (.aload_n 0, 1) := by decide +kernel
theorem dX2_arrange_155 : decode cX2_arrange 155 = .ok (.getfield 22, 3) := by decide +kernel
theorem dX2_arrange_158 : decode cX2_arrange 158 = .ok (.iload_n 1, 1) := by decide +kernel
theorem dX2_arrange_159 : decode cX2_arrange 159 = .ok (.invokevirtual 31, 3) := by decide +kernel
theorem dX2_arrange_162 : decode cX2_arrange 162 = .ok (.astore_n 2, 1) := by decide +kernel
theorem dX2_arrange_163 : decode cX2_arrange 163 = .ok (.aload_n 2, 1) := by decide +kernel
theorem dX2_arrange_164 : decode cX2_arrange 164 = .ok (.ifnull 18, 3) := by decide +kernel
theorem dX2_arrange_167 : decode cX2_arrange 167 = .ok (.aload_n 2, 1) := by decide +kernel
theorem dX2_arrange_168 : decode cX2_arrange 168 = .ok (.invokevirtual 64, 3) := by decide +kernel
theorem dX2_arrange_171 : decode cX2_arrange 171 = .ok (.ifCond .eq 11, 3) := by decide +kernel
theorem dX2_arrange_174 : decode cX2_arrange 174 = .ok (.aload_n 0, 1) := by decide +kernel
theorem dX2_arrange_175 : decode cX2_arrange 175 = .ok (.aload_n 2, 1) := by decide +kernel
theorem dX2_arrange_176 : decode cX2_arrange 176 = .ok (.invokevirtual 68, 3) := by decide +kernel
theorem dX2_arrange_179 : decode cX2_arrange 179 = .ok (.goto 11, 3) := by decide +kernel
theorem dX2_arrange_182 : decode cX2_arrange 182 = .ok (.aload_n 2, 1) := by decide +kernel
theorem dX2_arrange_183 : decode cX2_arrange 183 = .ok (.ifnull 7, 3) := by decide +kernel
theorem dX2_arrange_186 : decode cX2_arrange 186 = .ok (.aload_n 2, 1) := by decide +kernel
theorem dX2_arrange_187 : decode cX2_arrange 187 = .ok (.invokestatic 71, 3) := by decide +kernel
theorem dX2_arrange_190 : decode cX2_arrange 190 = .ok (.iinc 1 1, 3) := by decide +kernel
theorem dX2_arrange_193 : decode cX2_arrange 193 = .ok (.goto (-45), 3) := by decide +kernel
theorem dX2_arrange_196 : decode cX2_arrange 196 = .ok (.return_, 1) := by decide +kernel
theorem dX2_measureWidth_0 : decode cX2_measureWidth 0 = .ok (.aload_n 0, 1) := by decide +kernel
theorem dX2_measureWidth_1 : decode cX2_measureWidth 1 = .ok (.bipush 10, 2) := by decide +kernel
theorem dX2_measureWidth_3 : decode cX2_measureWidth 3 = .ok (.invokevirtual 74, 3) := by decide +kernel
theorem dX2_measureWidth_6 : decode cX2_measureWidth 6 = .ok (.istore_n 1, 1) := by decide +kernel
theorem dX2_measureWidth_7 : decode cX2_measureWidth 7 = .ok (.iload_n 1, 1) := by decide +kernel
theorem dX2_measureWidth_8 : decode cX2_measureWidth 8 = .ok (.iconst (-1), 1) := by decide +kernel
theorem dX2_measureWidth_9 : decode cX2_measureWidth 9 = .ok (.if_icmp .ne 16, 3) := by decide +kernel
theorem dX2_measureWidth_12 : decode cX2_measureWidth 12 = .ok (.aload_n 0, 1) := by decide +kernel
theorem dX2_measureWidth_13 : decode cX2_measureWidth 13 = .ok (.invokestatic 78, 3) := by decide +kernel
theorem dX2_measureWidth_16 : decode cX2_measureWidth 16 = .ok (.iconst 2, 1) := by decide +kernel
theorem dX2_measureWidth_17 : decode cX2_measureWidth 17 = .ok (.aload_n 0, 1) := by decide +kernel
theorem dX2_measureWidth_18 : decode cX2_measureWidth 18 = .ok (.iconst 5, 1) := by decide +kernel
theorem dX2_measureWidth_19 : decode cX2_measureWidth 19 = .ok (.invokevirtual 82, 3) := by decide +kernel
theorem dX2_measureWidth_22 : decode cX2_measureWidth 22 = .ok (.imul, 1) := by decide +kernel
theorem dX2_measureWidth_23 : decode cX2_measureWidth 23 = .ok (.iadd, 1) := by decide +kernel
theorem dX2_measureWidth_24 : decode cX2_measureWidth 24 = .ok (.istore_n 1, 1) := by decide +kernel
theorem dX2_measureWidth_25 : decode cX2_measureWidth 25 = .ok (.aload_n 0, 1) := by decide +kernel
theorem dX2_measureWidth_26 : decode cX2_measureWidth 26 = .ok (.aload_n 0, 1) := by decide +kernel
theorem dX2_measureWidth_27 : decode cX2_measureWidth 27 = .ok (.iload_n 1, 1) := by decide +kernel
theorem dX2_measureWidth_28 : decode cX2_measureWidth 28 = .ok (.invokevirtual 85, 3) := by decide +kernel
theorem dX2_measureWidth_31 : decode cX2_measureWidth 31 = .ok (.putfield 88, 3) := by decide +kernel
theorem dX2_measureWidth_34 : decode cX2_measureWidth 34 = .ok (.return_, 1) := by decide +kernel
theorem dX2_contentWidth_0 : decode cX2_contentWidth 0 = .ok (.aload_n 0, 1) := by decide +kernel
theorem dX2_contentWidth_1 : decode cX2_contentWidth 1 = .ok (.getfield 91, 3) := by decide +kernel
theorem dX2_contentWidth_4 : decode cX2_contentWidth 4 = .ok (.ifCond .ne 13, 3) := by decide +kernel
theorem dX2_contentWidth_7 : decode cX2_contentWidth 7 = .ok (.bipush 8, 2) := by decide +kernel
theorem dX2_contentWidth_9 : decode cX2_contentWidth 9 = .ok (.aload_n 0, 1) := by decide +kernel
theorem dX2_contentWidth_10 : decode cX2_contentWidth 10 = .ok (.bipush 19, 2) := by decide +kernel
theorem dX2_contentWidth_12 : decode cX2_contentWidth 12 = .ok (.invokevirtual 82, 3) := by decide +kernel
theorem dX2_contentWidth_15 : decode cX2_contentWidth 15 = .ok (.imul, 1) := by decide +kernel
theorem dX2_contentWidth_16 : decode cX2_contentWidth 16 = .ok (.ireturn, 1) := by decide +kernel
theorem dX2_contentWidth_17 : decode cX2_contentWidth 17 = .ok (.aload_n 0, 1) := by decide +kernel
theorem dX2_contentWidth_18 : decode cX2_contentWidth 18 = .ok (.getfield 94, 3) := by decide +kernel
theorem dX2_contentWidth_21 : decode cX2_contentWidth 21 = .ok (.aload_n 0, 1) := by decide +kernel
theorem dX2_contentWidth_22 : decode cX2_contentWidth 22 = .ok (.iconst 4, 1) := by decide +kernel
theorem dX2_contentWidth_23 : decode cX2_contentWidth 23 = .ok (.invokevirtual 82, 3) := by decide +kernel
theorem dX2_contentWidth_26 : decode cX2_contentWidth 26 = .ok (.invokestatic 97, 3) := by decide +kernel
theorem dX2_contentWidth_29 : decode cX2_contentWidth 29 = .ok (.istore_n 1, 1) := by decide +kernel
theorem dX2_contentWidth_30 : decode cX2_contentWidth 30 = .ok (.iconst 0, 1) := by decide +kernel
theorem dX2_contentWidth_31 : decode cX2_contentWidth 31 = .ok (.istore_n 2, 1) := by decide +kernel
theorem dX2_contentWidth_32 : decode cX2_contentWidth 32 = .ok (.aload_n 0, 1) := by decide +kernel
theorem dX2_contentWidth_33 : decode cX2_contentWidth 33 = .ok (.getfield 101, 3) := by decide +kernel
theorem dX2_contentWidth_36 : decode cX2_contentWidth 36 = .ok (.astore_n 3, 1) := by decide +kernel
theorem dX2_contentWidth_37 : decode cX2_contentWidth 37 = .ok (.aload_n 3, 1) := by decide +kernel
theorem dX2_contentWidth_38 : decode cX2_contentWidth 38 = .ok (.ifnull 34, 3) := by decide +kernel
theorem dX2_contentWidth_41 : decode cX2_contentWidth 41 = .ok (.aload_n 3, 1) := by decide +kernel
theorem dX2_contentWidth_42 : decode cX2_contentWidth 42 = .ok (.getfield 88, 3) := by decide +kernel
theorem dX2_contentWidth_45 : decode cX2_contentWidth 45 = .ok (.aload_n 3, 1) := by decide +kernel
theorem dX2_contentWidth_46 : decode cX2_contentWidth 46 = .ok (.invokevirtual 104, 3) := by decide +kernel
theorem dX2_contentWidth_49 : decode cX2_contentWidth 49 = .ok (.iadd, 1) := by decide +kernel
theorem dX2_contentWidth_50 : decode cX2_contentWidth 50 = .ok (.istore 4, 2) := by decide +kernel
theorem dX2_contentWidth_52 : decode cX2_contentWidth 52 = .ok (.iload_n 1, 1) := by decide +kernel
theorem dX2_contentWidth_53 : decode cX2_contentWidth 53 = .ok (.iload 4, 2) := by decide +kernel
theorem dX2_contentWidth_55 : decode cX2_contentWidth 55 = .ok (.iadd, 1) := by decide +kernel
theorem dX2_contentWidth_56 : decode cX2_contentWidth 56 = .ok (.istore_n 1, 1) := by decide +kernel
theorem dX2_contentWidth_57 : decode cX2_contentWidth 57 = .ok (.iload_n 2, 1) := by decide +kernel
theorem dX2_contentWidth_58 : decode cX2_contentWidth 58 = .ok (.iload 4, 2) := by decide +kernel
theorem dX2_contentWidth_60 : decode cX2_contentWidth 60 = .ok (.invokestatic 108, 3) := by decide +kernel
theorem dX2_contentWidth_63 : decode cX2_contentWidth 63 = .ok (.istore_n 2, 1) := by decide +kernel
theorem dX2_contentWidth_64 : decode cX2_contentWidth 64 = .ok (.aload_n 3, 1) := by decide +kernel
theorem dX2_contentWidth_65 : decode cX2_contentWidth 65 = .ok (.getfield 113, 3) := by decide +kernel
theorem dX2_contentWidth_68 : decode cX2_contentWidth 68 = .ok (.astore_n 3, 1) := by decide +kernel
theorem dX2_contentWidth_69 : decode cX2_contentWidth 69 = .ok (.goto (-32), 3) := by decide +kernel
theorem dX2_contentWidth_72 : decode cX2_contentWidth 72 = .ok (.aload_n 0, 1) := by decide +kernel
theorem dX2_contentWidth_73 : decode cX2_contentWidth 73 = .ok (.invokevirtual 64, 3) := by decide +kernel
theorem dX2_contentWidth_76 : decode cX2_contentWidth 76 = .ok (.ifCond .eq 7, 3) := by decide +kernel
theorem dX2_contentWidth_79 : decode cX2_contentWidth 79 = .ok (.iload_n 2, 1) := by decide +kernel
theorem dX2_contentWidth_80 : decode cX2_contentWidth 80 = .ok (.goto 4, 3) := by decide +kernel
theorem dX2_contentWidth_83 : decode cX2_contentWidth 83 = .ok (.iload_n 1, 1) := by decide +kernel
theorem dX2_contentWidth_84 : decode cX2_contentWidth 84 = .ok (.ireturn, 1) := by decide +kernel
theorem dX2_spreadWidths_0 : decode cX2_spreadWidths 0 = .ok (.aload_n 1, 1) := by decide +kernel
theorem dX2_spreadWidths_1 : decode cX2_spreadWidths 1 = .ok (.invokevirtual 64, 3) := by decide +kernel
theorem dX2_spreadWidths_4 : decode cX2_spreadWidths 4 = .ok (.ifCond .eq 8, 3) := by decide +kernel
theorem dX2_spreadWidths_7 : decode cX2_spreadWidths 7 = .ok (.aload_n 1, 1) := by decide +kernel
theorem dX2_spreadWidths_8 : decode cX2_spreadWidths 8 = .ok (.invokestatic 116, 3) := by decide +kernel
theorem dX2_spreadWidths_11 : decode cX2_spreadWidths 11 = .ok (.return_, 1) := by decide +kernel
theorem dX2_spreadWidths_12 : decode cX2_spreadWidths 12 = .ok (.aload_n 1, 1) := by decide +kernel
theorem dX2_spreadWidths_13 : decode cX2_spreadWidths 13 = .ok (.invokestatic 119, 3) := by decide +kernel
theorem dX2_spreadWidths_16 : decode cX2_spreadWidths 16 = .ok (.aload_n 1, 1) := by decide +kernel
theorem dX2_spreadWidths_17 : decode cX2_spreadWidths 17 = .ok (.getfield 101, 3) := by decide +kernel
theorem dX2_spreadWidths_20 : decode cX2_spreadWidths 20 = .ok (.astore_n 2, 1) := by decide +kernel
theorem dX2_spreadWidths_21 : decode cX2_spreadWidths 21 = .ok (.iconst 0, 1) := by decide +kernel
theorem dX2_spreadWidths_22 : decode cX2_spreadWidths 22 = .ok (.istore_n 3, 1) := by decide +kernel
theorem dX2_spreadWidths_23 : decode cX2_spreadWidths 23 = .ok (.iload_n 3, 1) := by decide +kernel
theorem dX2_spreadWidths_24 : decode cX2_spreadWidths 24 = .ok (.aload_n 1, 1) := by decide +kernel
theorem dX2_spreadWidths_25 : decode cX2_spreadWidths 25 = .ok (.getfield 122, 3) := by decide +kernel
theorem dX2_spreadWidths_28 : decode cX2_spreadWidths 28 = .ok (.if_icmp .ge 39, 3) := by decide +kernel
theorem dX2_spreadWidths_31 : decode cX2_spreadWidths 31 = .ok (.aload_n 2, 1) := by decide +kernel
theorem dX2_spreadWidths_32 : decode cX2_spreadWidths 32 = .ok (.ifnull 35, 3) := by decide +kernel
theorem dX2_spreadWidths_35 : decode cX2_spreadWidths 35 = .ok (.aload_n 2, 1) := by decide +kernel
theorem dX2_spreadWidths_36 : decode cX2_spreadWidths 36 = .ok (.invokestatic 125, 3) := by decide +kernel
theorem dX2_spreadWidths_39 : decode cX2_spreadWidths 39 = .ok (.astore 4, 2) := by decide +kernel
theorem dX2_spreadWidths_41 : decode cX2_spreadWidths 41 = .ok (.aload_n 0, 1) := by decide +kernel
theorem dX2_spreadWidths_42 : decode cX2_spreadWidths 42 = .ok (.aload_n 2, 1) := by decide +kernel
theorem dX2_spreadWidths_43 : decode cX2_spreadWidths 43 = .ok (.aload 4, 2) := by decide +kernel
theorem dX2_spreadWidths_45 : decode cX2_spreadWidths 45 = .ok (.iconst 1, 1) := by decide +kernel
theorem dX2_spreadWidths_46 : decode cX2_spreadWidths 46 = .ok (.aload_n 1, 1) := by decide +kernel
theorem dX2_spreadWidths_47 : decode cX2_spreadWidths 47 = .ok (.invokevirtual 129, 3) := by decide +kernel
theorem dX2_spreadWidths_50 : decode cX2_spreadWidths 50 = .ok (.aload_n 1, 1) := by decide +kernel
theorem dX2_spreadWidths_51 : decode cX2_spreadWidths 51 = .ok (.iconst 4, 1) := by decide +kernel
theorem dX2_spreadWidths_52 : decode cX2_spreadWidths 52 = .ok (.invokevirtual 82, 3) := by decide +kernel
theorem dX2_spreadWidths_55 : decode cX2_spreadWidths 55 = .ok (.invokevirtual 132, 3) := by decide +kernel
theorem dX2_spreadWidths_58 : decode cX2_spreadWidths 58 = .ok (.aload 4, 2) := by decide +kernel
theorem dX2_spreadWidths_60 : decode cX2_spreadWidths 60 = .ok (.astore_n 2, 1) := by decide +kernel
theorem dX2_spreadWidths_61 : decode cX2_spreadWidths 61 = .ok (.iinc 3 1, 3) := by decide +kernel
theorem dX2_spreadWidths_64 : decode cX2_spreadWidths 64 = .ok (.goto (-41), 3) := by decide +kernel
theorem dX2_spreadWidths_67 : decode cX2_spreadWidths 67 = .ok (.return_, 1) := by decide +kernel
theorem dX2_spreadColumn_0 : decode cX2_spreadColumn 0 = .ok (.iconst 0, 1) := by decide +kernel
theorem dX2_spreadColumn_1 : decode cX2_spreadColumn 1 = .ok (.istore_n 1, 1) := by decide +kernel
theorem dX2_spreadColumn_2 : decode cX2_spreadColumn 2 = .ok (.aload_n 0, 1) := by decide +kernel
theorem dX2_spreadColumn_3 : decode cX2_spreadColumn 3 = .ok (.getfield 101, 3) := by decide +kernel
theorem dX2_spreadColumn_6 : decode cX2_spreadColumn 6 = .ok (.astore_n 2, 1) := by decide +kernel
theorem dX2_spreadColumn_7 : decode cX2_spreadColumn 7 = .ok (.aload_n 2, 1) := by decide +kernel
theorem dX2_spreadColumn_8 : decode cX2_spreadColumn 8 = .ok (.ifnull 79, 3) := by decide +kernel
theorem dX2_spreadColumn_11 : decode cX2_spreadColumn 11 = .ok (.aload_n 0, 1) := by decide +kernel
theorem dX2_spreadColumn_12 : decode cX2_spreadColumn 12 = .ok (.invokevirtual 129, 3) := by decide +kernel
theorem dX2_spreadColumn_15 : decode cX2_spreadColumn 15 = .ok (.aload_n 2, 1) := by decide +kernel
theorem dX2_spreadColumn_16 : decode cX2_spreadColumn 16 = .ok (.invokevirtual 104, 3) := by decide +kernel
theorem dX2_spreadColumn_19 : decode cX2_spreadColumn 19 = .ok (.isub, 1) := by decide +kernel
theorem dX2_spreadColumn_20 : decode cX2_spreadColumn 20 = .ok (.iconst 0, 1) := by decide +kernel
theorem dX2_spreadColumn_21 : decode cX2_spreadColumn 21 = .ok (.invokestatic 108, 3) := by decide +kernel
theorem dX2_spreadColumn_24 : decode cX2_spreadColumn 24 = .ok (.istore_n 3, 1) := by decide +kernel
theorem dX2_spreadColumn_25 : decode cX2_spreadColumn 25 = .ok (.aload_n 2, 1) := by decide +kernel
theorem dX2_spreadColumn_26 : decode cX2_spreadColumn 26 = .ok (.bipush 10, 2) := by decide +kernel
theorem dX2_spreadColumn_28 : decode cX2_spreadColumn 28 = .ok (.invokevirtual 82, 3) := by decide +kernel
theorem dX2_spreadColumn_31 : decode cX2_spreadColumn 31 = .ok (.istore 4, 2) := by decide +kernel
theorem dX2_spreadColumn_33 : decode cX2_spreadColumn 33 = .ok (.iload 4, 2) := by decide +kernel
theorem dX2_spreadColumn_35 : decode cX2_spreadColumn 35 = .ok (.iconst (-1), 1) := by decide +kernel
theorem dX2_spreadColumn_36 : decode cX2_spreadColumn 36 = .ok (.if_icmp .ne 25, 3) := by decide +kernel
theorem dX2_spreadColumn_39 : decode cX2_spreadColumn 39 = .ok (.aload_n 2, 1) := by decide +kernel
theorem dX2_spreadColumn_40 : decode cX2_spreadColumn 40 = .ok (.invokevirtual 136, 3) := by decide +kernel
theorem dX2_spreadColumn_43 : decode cX2_spreadColumn 43 = .ok (.iconst 3, 1) := by decide +kernel
theorem dX2_spreadColumn_44 : decode cX2_spreadColumn 44 = .ok (.if_icmp .ne 7, 3) := by decide +kernel
theorem dX2_spreadColumn_47 : decode cX2_spreadColumn 47 = .ok (.iload_n 3, 1) := by decide +kernel
theorem dX2_spreadColumn_48 : decode cX2_spreadColumn 48 = .ok (.goto 11, 3) := by decide +kernel
theorem dX2_spreadColumn_51 : decode cX2_spreadColumn 51 = .ok (.iload_n 3, 1) := by decide +kernel
theorem dX2_spreadColumn_52 : decode cX2_spreadColumn 52 = .ok (.aload_n 2, 1) := by decide +kernel
theorem dX2_spreadColumn_53 : decode cX2_spreadColumn 53 = .ok (.getfield 88, 3) := by decide +kernel
theorem dX2_spreadColumn_56 : decode cX2_spreadColumn 56 = .ok (.invokestatic 139, 3) := by decide +kernel
theorem dX2_spreadColumn_59 : decode cX2_spreadColumn 59 = .ok (.istore 4, 2) := by decide +kernel
theorem dX2_spreadColumn_61 : decode cX2_spreadColumn 61 = .ok (.aload_n 2, 1) := by decide +kernel
theorem dX2_spreadColumn_62 : decode cX2_spreadColumn 62 = .ok (.aload_n 2, 1) := by decide +kernel
theorem dX2_spreadColumn_63 : decode cX2_spreadColumn 63 = .ok (.iload 4, 2) := by decide +kernel
theorem dX2_spreadColumn_65 : decode cX2_spreadColumn 65 = .ok (.invokevirtual 85, 3) := by decide +kernel
theorem dX2_spreadColumn_68 : decode cX2_spreadColumn 68 = .ok (.putfield 47, 3) := by decide +kernel
theorem dX2_spreadColumn_71 : decode cX2_spreadColumn 71 = .ok (.aload_n 2, 1) := by decide +kernel
theorem dX2_spreadColumn_72 : decode cX2_spreadColumn 72 = .ok (.iload_n 1, 1) := by decide +kernel
theorem dX2_spreadColumn_73 : decode cX2_spreadColumn 73 = .ok (.putfield 142, 3) := by decide +kernel
theorem dX2_spreadColumn_76 : decode cX2_spreadColumn 76 = .ok (.iinc 1 1, 3) := by decide +kernel
theorem dX2_spreadColumn_79 : decode cX2_spreadColumn 79 = .ok (.aload_n 2, 1) := by decide +kernel
theorem dX2_spreadColumn_80 : decode cX2_spreadColumn 80 = .ok (.getfield 113, 3) := by decide +kernel
theorem dX2_spreadColumn_83 : decode cX2_spreadColumn 83 = .ok (.astore_n 2, 1) := by decide +kernel
theorem dX2_spreadColumn_84 : decode cX2_spreadColumn 84 = .ok (.goto (-77), 3) := by decide +kernel
theorem dX2_spreadColumn_87 : decode cX2_spreadColumn 87 = .ok (.aload_n 0, 1) := by decide +kernel
theorem dX2_spreadColumn_88 : decode cX2_spreadColumn 88 = .ok (.iload_n 1, 1) := by decide +kernel
theorem dX2_spreadColumn_89 : decode cX2_spreadColumn 89 = .ok (.putfield 122, 3) := by decide +kernel
theorem dX2_spreadColumn_92 : decode cX2_spreadColumn 92 = .ok (.return_, 1) := by decide +kernel
theorem dX2_breakLines_0 : decode cX2_breakLines 0 = .ok (.iconst 0, 1) := by decide +kernel
theorem dX2_breakLines_1 : decode cX2_breakLines 1 = .ok (.istore_n 1, 1) := by decide +kernel
theorem dX2_breakLines_2 : decode cX2_breakLines 2 = .ok (.iconst 0, 1) := by decide +kernel
theorem dX2_breakLines_3 : decode cX2_breakLines 3 = .ok (.istore_n 2, 1) := by decide +kernel
theorem dX2_breakLines_4 : decode cX2_breakLines 4 = .ok (.aload_n 0, 1) := by decide +kernel
theorem dX2_breakLines_5 : decode cX2_breakLines 5 = .ok (.getfield 101, 3) := by decide +kernel
theorem dX2_breakLines_8 : decode cX2_breakLines 8 = .ok (.astore_n 3, 1) := by decide +kernel
theorem dX2_breakLines_9 : decode cX2_breakLines 9 = .ok (.aload_n 3, 1) := by decide +kernel
theorem dX2_breakLines_10 : decode cX2_breakLines 10 = .ok (.ifnull 90, 3) := by decide +kernel
theorem dX2_breakLines_13 : decode cX2_breakLines 13 = .ok (.aload_n 3, 1) := by decide +kernel
theorem dX2_breakLines_14 : decode cX2_breakLines 14 = .ok (.aload_n 3, 1) := by decide +kernel
theorem dX2_breakLines_15 : decode cX2_breakLines 15 = .ok (.iconst 1, 1) := by decide +kernel
theorem dX2_breakLines_16 : decode cX2_breakLines 16 = .ok (.invokestatic 145, 3) := by decide +kernel
theorem dX2_breakLines_19 : decode cX2_breakLines 19 = .ok (.invokevirtual 85, 3) := by decide +kernel
theorem dX2_breakLines_22 : decode cX2_breakLines 22 = .ok (.aload_n 3, 1) := by decide +kernel
theorem dX2_breakLines_23 : decode cX2_breakLines 23 = .ok (.invokevirtual 104, 3) := by decide +kernel
theorem dX2_breakLines_26 : decode cX2_breakLines 26 = .ok (.iadd, 1) := by decide +kernel
theorem dX2_breakLines_27 : decode cX2_breakLines 27 = .ok (.istore 4, 2) := by decide +kernel
theorem dX2_breakLines_29 : decode cX2_breakLines 29 = .ok (.aload_n 3, 1) := by decide +kernel
theorem dX2_breakLines_30 : decode cX2_breakLines 30 = .ok (.aload_n 0, 1) := by decide +kernel
theorem dX2_breakLines_31 : decode cX2_breakLines 31 = .ok (.getfield 101, 3) := by decide +kernel
theorem dX2_breakLines_34 : decode cX2_breakLines 34 = .ok (.if_acmp .ne 9, 3) := by decide +kernel
theorem dX2_breakLines_37 : decode cX2_breakLines 37 = .ok (.iload 4, 2) := by decide +kernel
theorem dX2_breakLines_39 : decode cX2_breakLines 39 = .ok (.istore_n 2, 1) := by decide +kernel
theorem dX2_breakLines_40 : decode cX2_breakLines 40 = .ok (.goto 47, 3) := by decide +kernel
theorem dX2_breakLines_43 : decode cX2_breakLines 43 = .ok (.aload_n 0, 1) := by decide +kernel
theorem dX2_breakLines_44 : decode cX2_breakLines 44 = .ok (.invokevirtual 149, 3) := by decide +kernel
theorem dX2_breakLines_47 : decode cX2_breakLines 47 = .ok (.ifCond .eq 29, 3) := by decide +kernel
theorem dX2_breakLines_50 : decode cX2_breakLines 50 = .ok (.iload_n 2, 1) := by decide +kernel
theorem dX2_breakLines_51 : decode cX2_breakLines 51 = .ok (.aload_n 0, 1) := by decide +kernel
theorem dX2_breakLines_52 : decode cX2_breakLines 52 = .ok (.iconst 4, 1) := by decide +kernel
theorem dX2_breakLines_53 : decode cX2_breakLines 53 = .ok (.invokevirtual 82, 3) := by decide +kernel
theorem dX2_breakLines_56 : decode cX2_breakLines 56 = .ok (.iadd, 1) := by decide +kernel
theorem dX2_breakLines_57 : decode cX2_breakLines 57 = .ok (.iload 4, 2) := by decide +kernel
theorem dX2_breakLines_59 : decode cX2_breakLines 59 = .ok (.iadd, 1) := by decide +kernel
theorem dX2_breakLines_60 : decode cX2_breakLines 60 = .ok (.aload_n 0, 1) := by decide +kernel
theorem dX2_breakLines_61 : decode cX2_breakLines 61 = .ok (.invokevirtual 129, 3) := by decide +kernel
theorem dX2_breakLines_64 : decode cX2_breakLines 64 = .ok (.if_icmp .le 12, 3) := by decide +kernel
theorem dX2_breakLines_67 : decode cX2_breakLines 67 = .ok (.iinc 1 1, 3) := by decide +kernel
theorem dX2_breakLines_70 : decode cX2_breakLines 70 = .ok (.iload 4, 2) := by decide +kernel
theorem dX2_breakLines_72 : decode cX2_breakLines 72 = .ok (.istore_n 2, 1) := by decide +kernel
theorem dX2_breakLines_73 : decode cX2_breakLines 73 = .ok (.goto 14, 3) := by decide +kernel
theorem dX2_breakLines_76 : decode cX2_breakLines 76 = .ok (.iload_n 2, 1) := by decide +kernel
theorem dX2_breakLines_77 : decode cX2_breakLines 77 = .ok (.aload_n 0, 1) := by decide +kernel
theorem dX2_breakLines_78 : decode cX2_breakLines 78 = .ok (.iconst 4, 1) := by decide +kernel
theorem dX2_breakLines_79 : decode cX2_breakLines 79 = .ok (.invokevirtual 82, 3) := by decide +kernel
theorem dX2_breakLines_82 : decode cX2_breakLines 82 = .ok (.iload 4, 2) := by decide +kernel
theorem dX2_breakLines_84 : decode cX2_breakLines 84 = .ok (.iadd, 1) := by decide +kernel
theorem dX2_breakLines_85 : decode cX2_breakLines 85 = .ok (.iadd, 1) := by decide +kernel
theorem dX2_breakLines_86 : decode cX2_breakLines 86 = .ok (.istore_n 2, 1) := by decide +kernel
theorem dX2_breakLines_87 : decode cX2_breakLines 87 = .ok (.aload_n 3, 1) := by decide +kernel
theorem dX2_breakLines_88 : decode cX2_breakLines 88 = .ok (.iload_n 1, 1) := by decide +kernel
theorem dX2_breakLines_89 : decode cX2_breakLines 89 = .ok (.putfield 142, 3) := by decide +kernel
theorem dX2_breakLines_92 : decode cX2_breakLines 92 = .ok (.aload_n 3, 1) := by decide +kernel
theorem dX2_breakLines_93 : decode cX2_breakLines 93 = .ok (.getfield 113, 3) := by decide +kernel
theorem dX2_breakLines_96 : decode cX2_breakLines 96 = .ok (.astore_n 3, 1) := by decide +kernel
theorem dX2_breakLines_97 : decode cX2_breakLines 97 = .ok (.goto (-88), 3) := by decide +kernel
theorem dX2_breakLines_100 : decode cX2_breakLines 100 = .ok (.aload_n 0, 1) := by decide +kernel
theorem dX2_breakLines_101 : decode cX2_breakLines 101 = .ok (.aload_n 0, 1) := by decide +kernel
theorem dX2_breakLines_102 : decode cX2_breakLines 102 = .ok (.getfield 101, 3) := by decide +kernel
theorem dX2_breakLines_105 : decode cX2_breakLines 105 = .ok (.ifnonnull 7, 3) := by decide +kernel
theorem dX2_breakLines_108 : decode cX2_breakLines 108 = .ok (.iconst 0, 1) := by decide +kernel
theorem dX2_breakLines_109 : decode cX2_breakLines 109 = .ok (.goto 6, 3) := by decide +kernel
theorem dX2_breakLines_112 : decode cX2_breakLines 112 = .ok (.iload_n 1, 1) := by decide +kernel
