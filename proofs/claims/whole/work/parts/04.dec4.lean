theorem dX6_copyStyle_85 : decode cX6_copyStyle 85 = .ok (.iload 4, 2) := by decide +kernel
theorem dX6_copyStyle_87 : decode cX6_copyStyle 87 = .ok (.invokevirtual 73, 3) := by decide +kernel
theorem dX6_copyStyle_90 : decode cX6_copyStyle 90 = .ok (.iastore, 1) := by decide +kernel
theorem dX6_copyStyle_91 : decode cX6_copyStyle 91 = .ok (.iinc 4 1, 3) := by decide +kernel
theorem dX6_copyStyle_94 : decode cX6_copyStyle 94 = .ok (.goto (-64), 3) := by decide +kernel
theorem dX6_copyStyle_97 : decode cX6_copyStyle 97 = .ok (.iload_n 3, 1) := by decide +kernel
theorem dX6_copyStyle_98 : decode cX6_copyStyle 98 = .ok (.ireturn, 1) := by decide +kernel
theorem dX6_viewport_0 : decode cX6_viewport 0 = .ok (.aload_n 0, 1) := by decide +kernel
theorem dX6_viewport_1 : decode cX6_viewport 1 = .ok (.iload_n 1, 1) := by decide +kernel
theorem dX6_viewport_2 : decode cX6_viewport 2 = .ok (.iconst 0, 1) := by decide +kernel
theorem dX6_viewport_3 : decode cX6_viewport 3 = .ok (.sipush 2000, 3) := by decide +kernel
theorem dX6_viewport_6 : decode cX6_viewport 6 = .ok (.invokestatic 65, 3) := by decide +kernel
theorem dX6_viewport_9 : decode cX6_viewport 9 = .ok (.ifCond .eq 18, 3) := by decide +kernel
theorem dX6_viewport_12 : decode cX6_viewport 12 = .ok (.iload_n 2, 1) := by decide +kernel
theorem dX6_viewport_13 : decode cX6_viewport 13 = .ok (.iconst 0, 1) := by decide +kernel
theorem dX6_viewport_14 : decode cX6_viewport 14 = .ok (.sipush 2000, 3) := by decide +kernel
theorem dX6_viewport_17 : decode cX6_viewport 17 = .ok (.invokestatic 65, 3) := by decide +kernel
theorem dX6_viewport_20 : decode cX6_viewport 20 = .ok (.ifCond .eq 7, 3) := by decide +kernel
theorem dX6_viewport_23 : decode cX6_viewport 23 = .ok (.iconst 0, 1) := by decide +kernel
theorem dX6_viewport_24 : decode cX6_viewport 24 = .ok (.goto 4, 3) := by decide +kernel
theorem dX6_viewport_27 : decode cX6_viewport 27 = .ok (.iconst 1, 1) := by decide +kernel
theorem dX6_viewport_28 : decode cX6_viewport 28 = .ok (.putfield 58, 3) := by decide +kernel
theorem dX6_viewport_31 : decode cX6_viewport 31 = .ok (.aload_n 0, 1) := by decide +kernel
theorem dX6_viewport_32 : decode cX6_viewport 32 = .ok (.getfield 58, 3) := by decide +kernel
theorem dX6_viewport_35 : decode cX6_viewport 35 = .ok (.ifCond .ne 17, 3) := by decide +kernel
theorem dX6_viewport_38 : decode cX6_viewport 38 = .ok (.aload_n 0, 1) := by decide +kernel
theorem dX6_viewport_39 : decode cX6_viewport 39 = .ok (.getfield 7, 3) := by decide +kernel
theorem dX6_viewport_42 : decode cX6_viewport 42 = .ok (.iconst 1, 1) := by decide +kernel
theorem dX6_viewport_43 : decode cX6_viewport 43 = .ok (.iload_n 1, 1) := by decide +kernel
theorem dX6_viewport_44 : decode cX6_viewport 44 = .ok (.iastore, 1) := by decide +kernel
theorem dX6_viewport_45 : decode cX6_viewport 45 = .ok (.aload_n 0, 1) := by decide +kernel
theorem dX6_viewport_46 : decode cX6_viewport 46 = .ok (.getfield 7, 3) := by decide +kernel
theorem dX6_viewport_49 : decode cX6_viewport 49 = .ok (.iconst 2, 1) := by decide +kernel
theorem dX6_viewport_50 : decode cX6_viewport 50 = .ok (.iload_n 2, 1) := by decide +kernel
theorem dX6_viewport_51 : decode cX6_viewport 51 = .ok (.iastore, 1) := by decide +kernel
theorem dX6_viewport_52 : decode cX6_viewport 52 = .ok (.return_, 1) := by decide +kernel
theorem dX6_findShown_0 : decode cX6_findShown 0 = .ok (.iconst 0, 1) := by decide +kernel
theorem dX6_findShown_1 : decode cX6_findShown 1 = .ok (.istore_n 1, 1) := by decide +kernel
theorem dX6_findShown_2 : decode cX6_findShown 2 = .ok (.iload_n 1, 1) := by decide +kernel
theorem dX6_findShown_3 : decode cX6_findShown 3 = .ok (.aload_n 0, 1) := by decide +kernel
theorem dX6_findShown_4 : decode cX6_findShown 4 = .ok (.getfield 7, 3) := by decide +kernel
theorem dX6_findShown_7 : decode cX6_findShown 7 = .ok (.iconst 0, 1) := by decide +kernel
theorem dX6_findShown_8 : decode cX6_findShown 8 = .ok (.iaload, 1) := by decide +kernel
theorem dX6_findShown_9 : decode cX6_findShown 9 = .ok (.if_icmp .ge 58, 3) := by decide +kernel
theorem dX6_findShown_12 : decode cX6_findShown 12 = .ok (.aload_n 0, 1) := by decide +kernel
theorem dX6_findShown_13 : decode cX6_findShown 13 = .ok (.getfield 23, 3) := by decide +kernel
theorem dX6_findShown_16 : decode cX6_findShown 16 = .ok (.iload_n 1, 1) := by decide +kernel
theorem dX6_findShown_17 : decode cX6_findShown 17 = .ok (.iload_n 1, 1) := by decide +kernel
theorem dX6_findShown_18 : decode cX6_findShown 18 = .ok (.ifCond .eq 37, 3) := by decide +kernel
theorem dX6_findShown_21 : decode cX6_findShown 21 = .ok (.aload_n 0, 1) := by decide +kernel
theorem dX6_findShown_22 : decode cX6_findShown 22 = .ok (.iload_n 1, 1) := by decide +kernel
theorem dX6_findShown_23 : decode cX6_findShown 23 = .ok (.invokevirtual 69, 3) := by decide +kernel
theorem dX6_findShown_26 : decode cX6_findShown 26 = .ok (.ifCond .eq 33, 3) := by decide +kernel
theorem dX6_findShown_29 : decode cX6_findShown 29 = .ok (.aload_n 0, 1) := by decide +kernel
theorem dX6_findShown_30 : decode cX6_findShown 30 = .ok (.iload_n 1, 1) := by decide +kernel
theorem dX6_findShown_31 : decode cX6_findShown 31 = .ok (.bipush 18, 2) := by decide +kernel
theorem dX6_findShown_33 : decode cX6_findShown 33 = .ok (.invokevirtual 73, 3) := by decide +kernel
theorem dX6_findShown_36 : decode cX6_findShown 36 = .ok (.ifCond .ne 23, 3) := by decide +kernel
theorem dX6_findShown_39 : decode cX6_findShown 39 = .ok (.aload_n 0, 1) := by decide +kernel
theorem dX6_findShown_40 : decode cX6_findShown 40 = .ok (.getfield 23, 3) := by decide +kernel
theorem dX6_findShown_43 : decode cX6_findShown 43 = .ok (.aload_n 0, 1) := by decide +kernel
theorem dX6_findShown_44 : decode cX6_findShown 44 = .ok (.getfield 7, 3) := by decide +kernel
theorem dX6_findShown_47 : decode cX6_findShown 47 = .ok (.iconst 3, 1) := by decide +kernel
theorem dX6_findShown_48 : decode cX6_findShown 48 = .ok (.iload_n 1, 1) := by decide +kernel
theorem dX6_findShown_49 : decode cX6_findShown 49 = .ok (.iadd, 1) := by decide +kernel
theorem dX6_findShown_50 : decode cX6_findShown 50 = .ok (.iaload, 1) := by decide +kernel
theorem dX6_findShown_51 : decode cX6_findShown 51 = .ok (.baload, 1) := by decide +kernel
theorem dX6_findShown_52 : decode cX6_findShown 52 = .ok (.ifCond .eq 7, 3) := by decide +kernel
theorem dX6_findShown_55 : decode cX6_findShown 55 = .ok (.iconst 1, 1) := by decide +kernel
theorem dX6_findShown_56 : decode cX6_findShown 56 = .ok (.goto 4, 3) := by decide +kernel
theorem dX6_findShown_59 : decode cX6_findShown 59 = .ok (.iconst 0, 1) := by decide +kernel
theorem dX6_findShown_60 : decode cX6_findShown 60 = .ok (.bastore, 1) := by decide +kernel
theorem dX6_findShown_61 : decode cX6_findShown 61 = .ok (.iinc 1 1, 3) := by decide +kernel
theorem dX6_findShown_64 : decode cX6_findShown 64 = .ok (.goto (-62), 3) := by decide +kernel
theorem dX6_findShown_67 : decode cX6_findShown 67 = .ok (.return_, 1) := by decide +kernel
theorem dX6_limited_0 : decode cX6_limited 0 = .ok (.aload_n 0, 1) := by decide +kernel
theorem dX6_limited_1 : decode cX6_limited 1 = .ok (.iload_n 1, 1) := by decide +kernel
theorem dX6_limited_2 : decode cX6_limited 2 = .ok (.bipush 14, 2) := by decide +kernel
theorem dX6_limited_4 : decode cX6_limited 4 = .ok (.iload_n 2, 1) := by decide +kernel
theorem dX6_limited_5 : decode cX6_limited 5 = .ok (.iadd, 1) := by decide +kernel
theorem dX6_limited_6 : decode cX6_limited 6 = .ok (.invokevirtual 73, 3) := by decide +kernel
theorem dX6_limited_9 : decode cX6_limited 9 = .ok (.istore 4, 2) := by decide +kernel
theorem dX6_limited_11 : decode cX6_limited 11 = .ok (.aload_n 0, 1) := by decide +kernel
theorem dX6_limited_12 : decode cX6_limited 12 = .ok (.iload_n 1, 1) := by decide +kernel
theorem dX6_limited_13 : decode cX6_limited 13 = .ok (.bipush 12, 2) := by decide +kernel
theorem dX6_limited_15 : decode cX6_limited 15 = .ok (.iload_n 2, 1) := by decide +kernel
theorem dX6_limited_16 : decode cX6_limited 16 = .ok (.iadd, 1) := by decide +kernel
theorem dX6_limited_17 : decode cX6_limited 17 = .ok (.invokevirtual 73, 3) := by decide +kernel
theorem dX6_limited_20 : decode cX6_limited 20 = .ok (.istore 5, 2) := by decide +kernel
theorem dX6_limited_22 : decode cX6_limited 22 = .ok (.iload_n 3, 1) := by decide +kernel
theorem dX6_limited_23 : decode cX6_limited 23 = .ok (.iload 4, 2) := by decide +kernel
theorem dX6_limited_25 : decode cX6_limited 25 = .ok (.if_icmp .ge 7, 3) := by decide +kernel
theorem dX6_limited_28 : decode cX6_limited 28 = .ok (.iload_n 3, 1) := by decide +kernel
theorem dX6_limited_29 : decode cX6_limited 29 = .ok (.goto 5, 3) := by decide +kernel
theorem dX6_limited_32 : decode cX6_limited 32 = .ok (.iload 4, 2) := by decide +kernel
theorem dX6_limited_34 : decode cX6_limited 34 = .ok (.istore 6, 2) := by decide +kernel
theorem dX6_limited_36 : decode cX6_limited 36 = .ok (.iload 6, 2) := by decide +kernel
theorem dX6_limited_38 : decode cX6_limited 38 = .ok (.iload 5, 2) := by decide +kernel
theorem dX6_limited_40 : decode cX6_limited 40 = .ok (.if_icmp .le 8, 3) := by decide +kernel
theorem dX6_limited_43 : decode cX6_limited 43 = .ok (.iload 6, 2) := by decide +kernel
theorem dX6_limited_45 : decode cX6_limited 45 = .ok (.goto 5, 3) := by decide +kernel
theorem dX6_limited_48 : decode cX6_limited 48 = .ok (.iload 5, 2) := by decide +kernel
theorem dX6_limited_50 : decode cX6_limited 50 = .ok (.ireturn, 1) := by decide +kernel
theorem dX6_notNegative_0 : decode cX6_notNegative 0 = .ok (.iload_n 0, 1) := by decide +kernel
theorem dX6_notNegative_1 : decode cX6_notNegative 1 = .ok (.ifCond .ge 7, 3) := by decide +kernel
theorem dX6_notNegative_4 : decode cX6_notNegative 4 = .ok (.iconst 0, 1) := by decide +kernel
theorem dX6_notNegative_5 : decode cX6_notNegative 5 = .ok (.goto 4, 3) := by decide +kernel
theorem dX6_notNegative_8 : decode cX6_notNegative 8 = .ok (.iload_n 0, 1) := by decide +kernel
theorem dX6_notNegative_9 : decode cX6_notNegative 9 = .ok (.ireturn, 1) := by decide +kernel
theorem dX6_inner_0 : decode cX6_inner 0 = .ok (.aload_n 0, 1) := by decide +kernel
theorem dX6_inner_1 : decode cX6_inner 1 = .ok (.getfield 29, 3) := by decide +kernel
theorem dX6_inner_4 : decode cX6_inner 4 = .ok (.iconst 2, 1) := by decide +kernel
theorem dX6_inner_5 : decode cX6_inner 5 = .ok (.iload_n 1, 1) := by decide +kernel
theorem dX6_inner_6 : decode cX6_inner 6 = .ok (.imul, 1) := by decide +kernel
theorem dX6_inner_7 : decode cX6_inner 7 = .ok (.iload_n 2, 1) := by decide +kernel
theorem dX6_inner_8 : decode cX6_inner 8 = .ok (.iadd, 1) := by decide +kernel
theorem dX6_inner_9 : decode cX6_inner 9 = .ok (.iaload, 1) := by decide +kernel
theorem dX6_inner_10 : decode cX6_inner 10 = .ok (.iconst 2, 1) := by decide +kernel
theorem dX6_inner_11 : decode cX6_inner 11 = .ok (.aload_n 0, 1) := by decide +kernel
theorem dX6_inner_12 : decode cX6_inner 12 = .ok (.iload_n 1, 1) := by decide +kernel
theorem dX6_inner_13 : decode cX6_inner 13 = .ok (.iconst 5, 1) := by decide +kernel
theorem dX6_inner_14 : decode cX6_inner 14 = .ok (.invokevirtual 73, 3) := by decide +kernel
theorem dX6_inner_17 : decode cX6_inner 17 = .ok (.imul, 1) := by decide +kernel
theorem dX6_inner_18 : decode cX6_inner 18 = .ok (.isub, 1) := by decide +kernel
theorem dX6_inner_19 : decode cX6_inner 19 = .ok (.invokestatic 97, 3) := by decide +kernel
theorem dX6_inner_22 : decode cX6_inner 22 = .ok (.ireturn, 1) := by decide +kernel
theorem dX6_outer_0 : decode cX6_outer 0 = .ok (.iload_n 2, 1) := by decide +kernel
theorem dX6_outer_1 : decode cX6_outer 1 = .ok (.iconst 2, 1) := by decide +kernel
theorem dX6_outer_2 : decode cX6_outer 2 = .ok (.aload_n 0, 1) := by decide +kernel
theorem dX6_outer_3 : decode cX6_outer 3 = .ok (.iload_n 1, 1) := by decide +kernel
theorem dX6_outer_4 : decode cX6_outer 4 = .ok (.bipush 6, 2) := by decide +kernel
theorem dX6_outer_6 : decode cX6_outer 6 = .ok (.invokevirtual 73, 3) := by decide +kernel
theorem dX6_outer_9 : decode cX6_outer 9 = .ok (.imul, 1) := by decide +kernel
theorem dX6_outer_10 : decode cX6_outer 10 = .ok (.iadd, 1) := by decide +kernel
theorem dX6_outer_11 : decode cX6_outer 11 = .ok (.ireturn, 1) := by decide +kernel
theorem dX6_gapsOf_0 : decode cX6_gapsOf 0 = .ok (.iload_n 2, 1) := by decide +kernel
theorem dX6_gapsOf_1 : decode cX6_gapsOf 1 = .ok (.iconst 1, 1) := by decide +kernel
theorem dX6_gapsOf_2 : decode cX6_gapsOf 2 = .ok (.if_icmp .le 16, 3) := by decide +kernel
theorem dX6_gapsOf_5 : decode cX6_gapsOf 5 = .ok (.iload_n 2, 1) := by decide +kernel
theorem dX6_gapsOf_6 : decode cX6_gapsOf 6 = .ok (.iconst 1, 1) := by decide +kernel
theorem dX6_gapsOf_7 : decode cX6_gapsOf 7 = .ok (.isub, 1) := by decide +kernel
theorem dX6_gapsOf_8 : decode cX6_gapsOf 8 = .ok (.aload_n 0, 1) := by decide +kernel
theorem dX6_gapsOf_9 : decode cX6_gapsOf 9 = .ok (.iload_n 1, 1) := by decide +kernel
theorem dX6_gapsOf_10 : decode cX6_gapsOf 10 = .ok (.iconst 4, 1) := by decide +kernel
theorem dX6_gapsOf_11 : decode cX6_gapsOf 11 = .ok (.invokevirtual 73, 3) := by decide +kernel
theorem dX6_gapsOf_14 : decode cX6_gapsOf 14 = .ok (.imul, 1) := by decide +kernel
theorem dX6_gapsOf_15 : decode cX6_gapsOf 15 = .ok (.goto 4, 3) := by decide +kernel
theorem dX6_gapsOf_18 : decode cX6_gapsOf 18 = .ok (.iconst 0, 1) := by decide +kernel
theorem dX6_gapsOf_19 : decode cX6_gapsOf 19 = .ok (.ireturn, 1) := by decide +kernel
theorem dX6_content_0 : decode cX6_content 0 = .ok (.iconst 0, 1) := by decide +kernel
theorem dX6_content_1 : decode cX6_content 1 = .ok (.istore 4, 2) := by decide +kernel
theorem dX6_content_3 : decode cX6_content 3 = .ok (.iconst 0, 1) := by decide +kernel
theorem dX6_content_4 : decode cX6_content 4 = .ok (.istore 5, 2) := by decide +kernel
theorem dX6_content_6 : decode cX6_content 6 = .ok (.iconst 0, 1) := by decide +kernel
theorem dX6_content_7 : decode cX6_content 7 = .ok (.istore 6, 2) := by decide +kernel
theorem dX6_content_9 : decode cX6_content 9 = .ok (.iload 6, 2) := by decide +kernel
theorem dX6_content_11 : decode cX6_content 11 = .ok (.aload_n 0, 1) := by decide +kernel
theorem dX6_content_12 : decode cX6_content 12 = .ok (.getfield 77, 3) := by decide +kernel
theorem dX6_content_15 : decode cX6_content 15 = .ok (.if_icmp .ge 61, 3) := by decide +kernel
theorem dX6_content_18 : decode cX6_content 18 = .ok (.aload_n 0, 1) := by decide +kernel
theorem dX6_content_19 : decode cX6_content 19 = .ok (.aload_n 0, 1) := by decide +kernel
theorem dX6_content_20 : decode cX6_content 20 = .ok (.getfield 20, 3) := by decide +kernel
theorem dX6_content_23 : decode cX6_content 23 = .ok (.iload 6, 2) := by decide +kernel
theorem dX6_content_25 : decode cX6_content 25 = .ok (.iaload, 1) := by decide +kernel
theorem dX6_content_26 : decode cX6_content 26 = .ok (.aload_n 0, 1) := by decide +kernel
theorem dX6_content_27 : decode cX6_content 27 = .ok (.getfield 26, 3) := by decide +kernel
theorem dX6_content_30 : decode cX6_content 30 = .ok (.iconst 2, 1) := by decide +kernel
theorem dX6_content_31 : decode cX6_content 31 = .ok (.aload_n 0, 1) := by decide +kernel
theorem dX6_content_32 : decode cX6_content 32 = .ok (.getfield 20, 3) := by decide +kernel
theorem dX6_content_35 : decode cX6_content 35 = .ok (.iload 6, 2) := by decide +kernel
theorem dX6_content_37 : decode cX6_content 37 = .ok (.iaload, 1) := by decide +kernel
theorem dX6_content_38 : decode cX6_content 38 = .ok (.imul, 1) := by decide +kernel
theorem dX6_content_39 : decode cX6_content 39 = .ok (.iload_n 2, 1) := by decide +kernel
theorem dX6_content_40 : decode cX6_content 40 = .ok (.iadd, 1) := by decide +kernel
theorem dX6_content_41 : decode cX6_content 41 = .ok (.iaload, 1) := by decide +kernel
theorem dX6_content_42 : decode cX6_content 42 = .ok (.invokevirtual 100, 3) := by decide +kernel
theorem dX6_content_45 : decode cX6_content 45 = .ok (.istore 7, 2) := by decide +kernel
theorem dX6_content_47 : decode cX6_content 47 = .ok (.iload 4, 2) := by decide +kernel
theorem dX6_content_49 : decode cX6_content 49 = .ok (.iload 7, 2) := by decide +kernel
theorem dX6_content_51 : decode cX6_content 51 = .ok (.iadd, 1) := by decide +kernel
theorem dX6_content_52 : decode cX6_content 52 = .ok (.istore 4, 2) := by decide +kernel
theorem dX6_content_54 : decode cX6_content 54 = .ok (.iload 7, 2) := by decide +kernel
theorem dX6_content_56 : decode cX6_content 56 = .ok (.iload 5, 2) := by decide +kernel
theorem dX6_content_58 : decode cX6_content 58 = .ok (.if_icmp .le 8, 3) := by decide +kernel
theorem dX6_content_61 : decode cX6_content 61 = .ok (.iload 7, 2) := by decide +kernel
theorem dX6_content_63 : decode cX6_content 63 = .ok (.goto 5, 3) := by decide +kernel
theorem dX6_content_66 : decode cX6_content 66 = .ok (.iload 5, 2) := by decide +kernel
theorem dX6_content_68 : decode cX6_content 68 = .ok (.istore 5, 2) := by decide +kernel
theorem dX6_content_70 : decode cX6_content 70 = .ok (.iinc 6 1, 3) := by decide +kernel
theorem dX6_content_73 : decode cX6_content 73 = .ok (.goto (-64), 3) := by decide +kernel
theorem dX6_content_76 : decode cX6_content 76 = .ok (.iload_n 3, 1) := by decide +kernel
theorem dX6_content_77 : decode cX6_content 77 = .ok (.ifCond .eq 18, 3) := by decide +kernel
theorem dX6_content_80 : decode cX6_content 80 = .ok (.iload 4, 2) := by decide +kernel
theorem dX6_content_82 : decode cX6_content 82 = .ok (.aload_n 0, 1) := by decide +kernel
theorem dX6_content_83 : decode cX6_content 83 = .ok (.iload_n 1, 1) := by decide +kernel
theorem dX6_content_84 : decode cX6_content 84 = .ok (.aload_n 0, 1) := by decide +kernel
theorem dX6_content_85 : decode cX6_content 85 = .ok (.getfield 77, 3) := by decide +kernel
theorem dX6_content_88 : decode cX6_content 88 = .ok (.invokevirtual 103, 3) := by decide +kernel
theorem dX6_content_91 : decode cX6_content 91 = .ok (.iadd, 1) := by decide +kernel
theorem dX6_content_92 : decode cX6_content 92 = .ok (.goto 5, 3) := by decide +kernel
theorem dX6_content_95 : decode cX6_content 95 = .ok (.iload 5, 2) := by decide +kernel
theorem dX6_content_97 : decode cX6_content 97 = .ok (.ireturn, 1) := by decide +kernel
theorem dX6_setNatural_0 : decode cX6_setNatural 0 = .ok (.iload_n 1, 1) := by decide +kernel
theorem dX6_setNatural_1 : decode cX6_setNatural 1 = .ok (.ifCond .ne 7, 3) := by decide +kernel
theorem dX6_setNatural_4 : decode cX6_setNatural 4 = .ok (.iconst (-1), 1) := by decide +kernel
theorem dX6_setNatural_5 : decode cX6_setNatural 5 = .ok (.goto 12, 3) := by decide +kernel
theorem dX6_setNatural_8 : decode cX6_setNatural 8 = .ok (.aload_n 0, 1) := by decide +kernel
theorem dX6_setNatural_9 : decode cX6_setNatural 9 = .ok (.iload_n 1, 1) := by decide +kernel
theorem dX6_setNatural_10 : decode cX6_setNatural 10 = .ok (.bipush 10, 2) := by decide +kernel
theorem dX6_setNatural_12 : decode cX6_setNatural 12 = .ok (.iload_n 2, 1) := by decide +kernel
theorem dX6_setNatural_13 : decode cX6_setNatural 13 = .ok (.iadd, 1) := by decide +kernel
theorem dX6_setNatural_14 : decode cX6_setNatural 14 = .ok (.invokevirtual 73, 3) := by decide +kernel
theorem dX6_setNatural_17 : decode cX6_setNatural 17 = .ok (.istore 4, 2) := by decide +kernel
theorem dX6_setNatural_19 : decode cX6_setNatural 19 = .ok (.iload 4, 2) := by decide +kernel
theorem dX6_setNatural_21 : decode cX6_setNatural 21 = .ok (.iconst (-1), 1) := by decide +kernel
theorem dX6_setNatural_22 : decode cX6_setNatural 22 = .ok (.if_icmp .eq 8, 3) := by decide +kernel
theorem dX6_setNatural_25 : decode cX6_setNatural 25 = .ok (.iload 4, 2) := by decide +kernel
theorem dX6_setNatural_27 : decode cX6_setNatural 27 = .ok (.goto 13, 3) := by decide +kernel
theorem dX6_setNatural_30 : decode cX6_setNatural 30 = .ok (.iload_n 3, 1) := by decide +kernel
theorem dX6_setNatural_31 : decode cX6_setNatural 31 = .ok (.iconst 2, 1) := by decide +kernel
theorem dX6_setNatural_32 : decode cX6_setNatural 32 = .ok (.aload_n 0, 1) := by decide +kernel
theorem dX6_setNatural_33 : decode cX6_setNatural 33 = .ok (.iload_n 1, 1) := by decide +kernel
theorem dX6_setNatural_34 : decode cX6_setNatural 34 = .ok (.iconst 5, 1) := by decide +kernel
theorem dX6_setNatural_35 : decode cX6_setNatural 35 = .ok (.invokevirtual 73, 3) := by decide +kernel
theorem dX6_setNatural_38 : decode cX6_setNatural 38 = .ok (.imul, 1) := by decide +kernel
theorem dX6_setNatural_39 : decode cX6_setNatural 39 = .ok (.iadd, 1) := by decide +kernel
theorem dX6_setNatural_40 : decode cX6_setNatural 40 = .ok (.istore 5, 2) := by decide +kernel
theorem dX6_setNatural_42 : decode cX6_setNatural 42 = .ok (.aload_n 0, 1) := by decide +kernel
theorem dX6_setNatural_43 : decode cX6_setNatural 43 = .ok (.getfield 26, 3) := by decide +kernel
theorem dX6_setNatural_46 : decode cX6_setNatural 46 = .ok (.iconst 2, 1) := by decide +kernel
theorem dX6_setNatural_47 : decode cX6_setNatural 47 = .ok (.iload_n 1, 1) := by decide +kernel
theorem dX6_setNatural_48 : decode cX6_setNatural 48 = .ok (.imul, 1) := by decide +kernel
theorem dX6_setNatural_49 : decode cX6_setNatural 49 = .ok (.iload_n 2, 1) := by decide +kernel
theorem dX6_setNatural_50 : decode cX6_setNatural 50 = .ok (.iadd, 1) := by decide +kernel
theorem dX6_setNatural_51 : decode cX6_setNatural 51 = .ok (.iload_n 1, 1) := by decide +kernel
theorem dX6_setNatural_52 : decode cX6_setNatural 52 = .ok (.ifCond .ne 8, 3) := by decide +kernel
theorem dX6_setNatural_55 : decode cX6_setNatural 55 = .ok (.iload 5, 2) := by decide +kernel
theorem dX6_setNatural_57 : decode cX6_setNatural 57 = .ok (.goto 11, 3) := by decide +kernel
theorem dX6_setNatural_60 : decode cX6_setNatural 60 = .ok (.aload_n 0, 1) := by decide +kernel
theorem dX6_setNatural_61 : decode cX6_setNatural 61 = .ok (.iload_n 1, 1) := by decide +kernel
theorem dX6_setNatural_62 : decode cX6_setNatural 62 = .ok (.iload_n 2, 1) := by decide +kernel
theorem dX6_setNatural_63 : decode cX6_setNatural 63 = .ok (.iload 5, 2) := by decide +kernel
theorem dX6_setNatural_65 : decode cX6_setNatural 65 = .ok (.invokevirtual 106, 3) := by decide +kernel
theorem dX6_setNatural_68 : decode cX6_setNatural 68 = .ok (.iastore, 1) := by decide +kernel
theorem dX6_setNatural_69 : decode cX6_setNatural 69 = .ok (.return_, 1) := by decide +kernel
theorem dX6_findNaturalWidths_0 : decode cX6_findNaturalWidths 0 = .ok (.aload_n 0, 1) := by decide +kernel
theorem dX6_findNaturalWidths_1 : decode cX6_findNaturalWidths 1 = .ok (.getfield 7, 3) := by decide +kernel
theorem dX6_findNaturalWidths_4 : decode cX6_findNaturalWidths 4 = .ok (.iconst 0, 1) := by decide +kernel
theorem dX6_findNaturalWidths_5 : decode cX6_findNaturalWidths 5 = .ok (.iaload, 1) := by decide +kernel
theorem dX6_findNaturalWidths_6 : decode cX6_findNaturalWidths 6 = .ok (.iconst 1, 1) := by decide +kernel
theorem dX6_findNaturalWidths_7 : decode cX6_findNaturalWidths 7 = .ok (.isub, 1) := by decide +kernel
theorem dX6_findNaturalWidths_8 : decode cX6_findNaturalWidths 8 = .ok (.istore_n 1, 1) := by decide +kernel
theorem dX6_findNaturalWidths_9 : decode cX6_findNaturalWidths 9 = .ok (.iload_n 1, 1) := by decide +kernel
theorem dX6_findNaturalWidths_10 : decode cX6_findNaturalWidths 10 = .ok (.ifCond .lt 73, 3) := by decide +kernel
theorem dX6_findNaturalWidths_13 : decode cX6_findNaturalWidths 13 = .ok (.aload_n 0, 1) := by decide +kernel
theorem dX6_findNaturalWidths_14 : decode cX6_findNaturalWidths 14 = .ok (.getfield 23, 3) := by decide +kernel
theorem dX6_findNaturalWidths_17 : decode cX6_findNaturalWidths 17 = .ok (.iload_n 1, 1) := by decide +kernel
theorem dX6_findNaturalWidths_18 : decode cX6_findNaturalWidths 18 = .ok (.baload, 1) := by decide +kernel
theorem dX6_findNaturalWidths_19 : decode cX6_findNaturalWidths 19 = .ok (.ifCond .eq 58, 3) := by decide +kernel
theorem dX6_findNaturalWidths_22 : decode cX6_findNaturalWidths 22 = .ok (.aload_n 0, 1) := by decide +kernel
theorem dX6_findNaturalWidths_23 : decode cX6_findNaturalWidths 23 = .ok (.iload_n 1, 1) := by decide +kernel
theorem dX6_findNaturalWidths_24 : decode cX6_findNaturalWidths 24 = .ok (.invokevirtual 87, 3) := by decide +kernel
theorem dX6_findNaturalWidths_27 : decode cX6_findNaturalWidths 27 = .ok (.aload_n 0, 1) := by decide +kernel
theorem dX6_findNaturalWidths_28 : decode cX6_findNaturalWidths 28 = .ok (.iload_n 1, 1) := by decide +kernel
theorem dX6_findNaturalWidths_29 : decode cX6_findNaturalWidths 29 = .ok (.invokevirtual 110, 3) := by decide +kernel
theorem dX6_findNaturalWidths_32 : decode cX6_findNaturalWidths 32 = .ok (.ifCond .eq 16, 3) := by decide +kernel
theorem dX6_findNaturalWidths_35 : decode cX6_findNaturalWidths 35 = .ok (.bipush 8, 2) := by decide +kernel
theorem dX6_findNaturalWidths_37 : decode cX6_findNaturalWidths 37 = .ok (.aload_n 0, 1) := by decide +kernel
theorem dX6_findNaturalWidths_38 : decode cX6_findNaturalWidths 38 = .ok (.iload_n 1, 1) := by decide +kernel
theorem dX6_findNaturalWidths_39 : decode cX6_findNaturalWidths 39 = .ok (.bipush 19, 2) := by decide +kernel
theorem dX6_findNaturalWidths_41 : decode cX6_findNaturalWidths 41 = .ok (.invokevirtual 73, 3) := by decide +kernel
theorem dX6_findNaturalWidths_44 : decode cX6_findNaturalWidths 44 = .ok (.imul, 1) := by decide +kernel
theorem dX6_findNaturalWidths_45 : decode cX6_findNaturalWidths 45 = .ok (.goto 24, 3) := by decide +kernel
theorem dX6_findNaturalWidths_48 : decode cX6_findNaturalWidths 48 = .ok (.aload_n 0, 1) := by decide +kernel
theorem dX6_findNaturalWidths_49 : decode cX6_findNaturalWidths 49 = .ok (.iload_n 1, 1) := by decide +kernel
theorem dX6_findNaturalWidths_50 : decode cX6_findNaturalWidths 50 = .ok (.iconst 0, 1) := by decide +kernel
theorem dX6_findNaturalWidths_51 : decode cX6_findNaturalWidths 51 = .ok (.aload_n 0, 1) := by decide +kernel
theorem dX6_findNaturalWidths_52 : decode cX6_findNaturalWidths 52 = .ok (.iload_n 1, 1) := by decide +kernel
theorem dX6_findNaturalWidths_53 : decode cX6_findNaturalWidths 53 = .ok (.iconst 0, 1) := by decide +kernel
theorem dX6_findNaturalWidths_54 : decode cX6_findNaturalWidths 54 = .ok (.invokevirtual 73, 3) := by decide +kernel
theorem dX6_findNaturalWidths_57 : decode cX6_findNaturalWidths 57 = .ok (.iconst 1, 1) := by decide +kernel
theorem dX6_findNaturalWidths_58 : decode cX6_findNaturalWidths 58 = .ok (.if_icmp .eq 7, 3) := by decide +kernel
theorem dX6_findNaturalWidths_61 : decode cX6_findNaturalWidths 61 = .ok (.iconst 1, 1) := by decide +kernel
theorem dX6_findNaturalWidths_62 : decode cX6_findNaturalWidths 62 = .ok (.goto 4, 3) := by decide +kernel
theorem dX6_findNaturalWidths_65 : decode cX6_findNaturalWidths 65 = .ok (.iconst 0, 1) := by decide +kernel
theorem dX6_findNaturalWidths_66 : decode cX6_findNaturalWidths 66 = .ok (.invokevirtual 113, 3) := by decide +kernel
theorem dX6_findNaturalWidths_69 : decode cX6_findNaturalWidths 69 = .ok (.istore_n 2, 1) := by decide +kernel
theorem dX6_findNaturalWidths_70 : decode cX6_findNaturalWidths 70 = .ok (.aload_n 0, 1) := by decide +kernel
theorem dX6_findNaturalWidths_71 : decode cX6_findNaturalWidths 71 = .ok (.iload_n 1, 1) := by decide +kernel
theorem dX6_findNaturalWidths_72 : decode cX6_findNaturalWidths 72 = .ok (.iconst 0, 1) := by decide +kernel
theorem dX6_findNaturalWidths_73 : decode cX6_findNaturalWidths 73 = .ok (.iload_n 2, 1) := by decide +kernel
theorem dX6_findNaturalWidths_74 : decode cX6_findNaturalWidths 74 = .ok (.invokevirtual 117, 3) := by decide +kernel
theorem dX6_findNaturalWidths_77 : decode cX6_findNaturalWidths 77 = .ok (.iinc 1 (-1), 3) := by decide +kernel
theorem dX6_findNaturalWidths_80 : decode cX6_findNaturalWidths 80 = .ok (.goto (-71), 3) := by decide +kernel
theorem dX6_findNaturalWidths_83 : decode cX6_findNaturalWidths 83 = .ok (.return_, 1) := by decide +kernel
theorem dX6_alignment_0 : decode cX6_alignment 0 = .ok (.aload_n 0, 1) := by decide +kernel
theorem dX6_alignment_1 : decode cX6_alignment 1 = .ok (.iload_n 1, 1) := by decide +kernel
theorem dX6_alignment_2 : decode cX6_alignment 2 = .ok (.bipush 16, 2) := by decide +kernel
theorem dX6_alignment_4 : decode cX6_alignment 4 = .ok (.invokevirtual 73, 3) := by decide +kernel
theorem dX6_alignment_7 : decode cX6_alignment 7 = .ok (.iconst (-1), 1) := by decide +kernel
theorem dX6_alignment_8 : decode cX6_alignment 8 = .ok (.if_icmp .eq 13, 3) := by decide +kernel
theorem dX6_alignment_11 : decode cX6_alignment 11 = .ok (.aload_n 0, 1) := by decide +kernel
theorem dX6_alignment_12 : decode cX6_alignment 12 = .ok (.iload_n 1, 1) := by decide +kernel
theorem dX6_alignment_13 : decode cX6_alignment 13 = .ok (.bipush 16, 2) := by decide +kernel
theorem dX6_alignment_15 : decode cX6_alignment 15 = .ok (.invokevirtual 73, 3) := by decide +kernel
theorem dX6_alignment_18 : decode cX6_alignment 18 = .ok (.goto 16, 3) := by decide +kernel
theorem dX6_alignment_21 : decode cX6_alignment 21 = .ok (.aload_n 0, 1) := by decide +kernel
theorem dX6_alignment_22 : decode cX6_alignment 22 = .ok (.aload_n 0, 1) := by decide +kernel
theorem dX6_alignment_23 : decode cX6_alignment 23 = .ok (.getfield 7, 3) := by decide +kernel
theorem dX6_alignment_26 : decode cX6_alignment 26 = .ok (.iconst 3, 1) := by decide +kernel
theorem dX6_alignment_27 : decode cX6_alignment 27 = .ok (.iload_n 1, 1) := by decide +kernel
theorem dX6_alignment_28 : decode cX6_alignment 28 = .ok (.iadd, 1) := by decide +kernel
theorem dX6_alignment_29 : decode cX6_alignment 29 = .ok (.iaload, 1) := by decide +kernel
theorem dX6_alignment_30 : decode cX6_alignment 30 = .ok (.iconst 3, 1) := by decide +kernel
theorem dX6_alignment_31 : decode cX6_alignment 31 = .ok (.invokevirtual 73, 3) := by decide +kernel
theorem dX6_alignment_34 : decode cX6_alignment 34 = .ok (.ireturn, 1) := by decide +kernel
theorem dX6_baseOf_0 : decode cX6_baseOf 0 = .ok (.aload_n 0, 1) := by decide +kernel
theorem dX6_baseOf_1 : decode cX6_baseOf 1 = .ok (.iload_n 1, 1) := by decide +kernel
theorem dX6_baseOf_2 : decode cX6_baseOf 2 = .ok (.bipush 7, 2) := by decide +kernel
theorem dX6_baseOf_4 : decode cX6_baseOf 4 = .ok (.invokevirtual 73, 3) := by decide +kernel
theorem dX6_baseOf_7 : decode cX6_baseOf 7 = .ok (.iconst (-1), 1) := by decide +kernel
theorem dX6_baseOf_8 : decode cX6_baseOf 8 = .ok (.if_icmp .eq 13, 3) := by decide +kernel
theorem dX6_baseOf_11 : decode cX6_baseOf 11 = .ok (.aload_n 0, 1) := by decide +kernel
theorem dX6_baseOf_12 : decode cX6_baseOf 12 = .ok (.iload_n 1, 1) := by decide +kernel
theorem dX6_baseOf_13 : decode cX6_baseOf 13 = .ok (.bipush 7, 2) := by decide +kernel
theorem dX6_baseOf_15 : decode cX6_baseOf 15 = .ok (.invokevirtual 73, 3) := by decide +kernel
theorem dX6_baseOf_18 : decode cX6_baseOf 18 = .ok (.goto 13, 3) := by decide +kernel
theorem dX6_baseOf_21 : decode cX6_baseOf 21 = .ok (.aload_n 0, 1) := by decide +kernel
theorem dX6_baseOf_22 : decode cX6_baseOf 22 = .ok (.getfield 26, 3) := by decide +kernel
theorem dX6_baseOf_25 : decode cX6_baseOf 25 = .ok (.iconst 2, 1) := by decide +kernel
theorem dX6_baseOf_26 : decode cX6_baseOf 26 = .ok (.iload_n 1, 1) := by decide +kernel
theorem dX6_baseOf_27 : decode cX6_baseOf 27 = .ok (.imul, 1) := by decide +kernel
theorem dX6_baseOf_28 : decode cX6_baseOf 28 = .ok (.iload_n 2, 1) := by decide +kernel
theorem dX6_baseOf_29 : decode cX6_baseOf 29 = .ok (.iadd, 1) := by decide +kernel
theorem dX6_baseOf_30 : decode cX6_baseOf 30 = .ok (.iaload, 1) := by decide +kernel
theorem dX6_baseOf_31 : decode cX6_baseOf 31 = .ok (.ireturn, 1) := by decide +kernel
theorem dX6_startOf_0 : decode cX6_startOf 0 = .ok (.aload_n 0, 1) := by decide +kernel
theorem dX6_startOf_1 : decode cX6_startOf 1 = .ok (.iload_n 1, 1) := by decide +kernel
theorem dX6_startOf_2 : decode cX6_startOf 2 = .ok (.iload_n 2, 1) := by decide +kernel
theorem dX6_startOf_3 : decode cX6_startOf 3 = .ok (.aload_n 0, 1) := by decide +kernel
theorem dX6_startOf_4 : decode cX6_startOf 4 = .ok (.iload_n 1, 1) := by decide +kernel
theorem dX6_startOf_5 : decode cX6_startOf 5 = .ok (.iload_n 2, 1) := by decide +kernel
theorem dX6_startOf_6 : decode cX6_startOf 6 = .ok (.invokevirtual 121, 3) := by decide +kernel
theorem dX6_startOf_9 : decode cX6_startOf 9 = .ok (.invokevirtual 106, 3) := by decide +kernel
theorem dX6_startOf_12 : decode cX6_startOf 12 = .ok (.ireturn, 1) := by decide +kernel
theorem dX6_beginFlex_0 : decode cX6_beginFlex 0 = .ok (.aload_n 0, 1) := by decide +kernel
theorem dX6_beginFlex_1 : decode cX6_beginFlex 1 = .ok (.iload_n 1, 1) := by decide +kernel
theorem dX6_beginFlex_2 : decode cX6_beginFlex 2 = .ok (.iload_n 3, 1) := by decide +kernel
theorem dX6_beginFlex_3 : decode cX6_beginFlex 3 = .ok (.iload_n 2, 1) := by decide +kernel
theorem dX6_beginFlex_4 : decode cX6_beginFlex 4 = .ok (.isub, 1) := by decide +kernel
theorem dX6_beginFlex_5 : decode cX6_beginFlex 5 = .ok (.invokevirtual 103, 3) := by decide +kernel
theorem dX6_beginFlex_8 : decode cX6_beginFlex 8 = .ok (.istore 6, 2) := by decide +kernel
theorem dX6_beginFlex_10 : decode cX6_beginFlex 10 = .ok (.iload_n 2, 1) := by decide +kernel
theorem dX6_beginFlex_11 : decode cX6_beginFlex 11 = .ok (.istore 7, 2) := by decide +kernel
theorem dX6_beginFlex_13 : decode cX6_beginFlex 13 = .ok (.iload 7, 2) := by decide +kernel
theorem dX6_beginFlex_15 : decode cX6_beginFlex 15 = .ok (.iload_n 3, 1) := by decide +kernel
theorem dX6_beginFlex_16 : decode cX6_beginFlex 16 = .ok (.if_icmp .ge 38, 3) := by decide +kernel
theorem dX6_beginFlex_19 : decode cX6_beginFlex 19 = .ok (.iload 6, 2) := by decide +kernel
theorem dX6_beginFlex_21 : decode cX6_beginFlex 21 = .ok (.aload_n 0, 1) := by decide +kernel
theorem dX6_beginFlex_22 : decode cX6_beginFlex 22 = .ok (.aload_n 0, 1) := by decide +kernel
theorem dX6_beginFlex_23 : decode cX6_beginFlex 23 = .ok (.getfield 20, 3) := by decide +kernel
theorem dX6_beginFlex_26 : decode cX6_beginFlex 26 = .ok (.iload 7, 2) := by decide +kernel
theorem dX6_beginFlex_28 : decode cX6_beginFlex 28 = .ok (.iaload, 1) := by decide +kernel
theorem dX6_beginFlex_29 : decode cX6_beginFlex 29 = .ok (.aload_n 0, 1) := by decide +kernel
theorem dX6_beginFlex_30 : decode cX6_beginFlex 30 = .ok (.aload_n 0, 1) := by decide +kernel
theorem dX6_beginFlex_31 : decode cX6_beginFlex 31 = .ok (.getfield 20, 3) := by decide +kernel
theorem dX6_beginFlex_34 : decode cX6_beginFlex 34 = .ok (.iload 7, 2) := by decide +kernel
theorem dX6_beginFlex_36 : decode cX6_beginFlex 36 = .ok (.iaload, 1) := by decide +kernel
theorem dX6_beginFlex_37 : decode cX6_beginFlex 37 = .ok (.iload 4, 2) := by decide +kernel
theorem dX6_beginFlex_39 : decode cX6_beginFlex 39 = .ok (.invokevirtual 124, 3) := by decide +kernel
theorem dX6_beginFlex_42 : decode cX6_beginFlex 42 = .ok (.invokevirtual 100, 3) := by decide +kernel
theorem dX6_beginFlex_45 : decode cX6_beginFlex 45 = .ok (.iadd, 1) := by decide +kernel
theorem dX6_beginFlex_46 : decode cX6_beginFlex 46 = .ok (.istore 6, 2) := by decide +kernel
theorem dX6_beginFlex_48 : decode cX6_beginFlex 48 = .ok (.iinc 7 1, 3) := by decide +kernel
theorem dX6_beginFlex_51 : decode cX6_beginFlex 51 = .ok (.goto (-38), 3) := by decide +kernel
theorem dX6_beginFlex_54 : decode cX6_beginFlex 54 = .ok (.iload 6, 2) := by decide +kernel
theorem dX6_beginFlex_56 : decode cX6_beginFlex 56 = .ok (.iload 5, 2) := by decide +kernel
theorem dX6_beginFlex_58 : decode cX6_beginFlex 58 = .ok (.if_icmp .ge 7, 3) := by decide +kernel
theorem dX6_beginFlex_61 : decode cX6_beginFlex 61 = .ok (.iconst 1, 1) := by decide +kernel
theorem dX6_beginFlex_62 : decode cX6_beginFlex 62 = .ok (.goto 4, 3) := by decide +kernel
theorem dX6_beginFlex_65 : decode cX6_beginFlex 65 = .ok (.iconst 0, 1) := by decide +kernel
theorem dX6_beginFlex_66 : decode cX6_beginFlex 66 = .ok (.istore 7, 2) := by decide +kernel
theorem dX6_beginFlex_68 : decode cX6_beginFlex 68 = .ok (.iload_n 2, 1) := by decide +kernel
theorem dX6_beginFlex_69 : decode cX6_beginFlex 69 = .ok (.istore 8, 2) := by decide +kernel
theorem dX6_beginFlex_71 : decode cX6_beginFlex 71 = .ok (.iload 8, 2) := by decide +kernel
theorem dX6_beginFlex_73 : decode cX6_beginFlex 73 = .ok (.iload_n 3, 1) := by decide +kernel
theorem dX6_beginFlex_74 : decode cX6_beginFlex 74 = .ok (.if_icmp .ge 135, 3) := by decide +kernel
theorem dX6_beginFlex_77 : decode cX6_beginFlex 77 = .ok (.aload_n 0, 1) := by decide +kernel
theorem dX6_beginFlex_78 : decode cX6_beginFlex 78 = .ok (.getfield 20, 3) := by decide +kernel
theorem dX6_beginFlex_81 : decode cX6_beginFlex 81 = .ok (.iload 8, 2) := by decide +kernel
theorem dX6_beginFlex_83 : decode cX6_beginFlex 83 = .ok (.iaload, 1) := by decide +kernel
theorem dX6_beginFlex_84 : decode cX6_beginFlex 84 = .ok (.istore 9, 2) := by decide +kernel
theorem dX6_beginFlex_86 : decode cX6_beginFlex 86 = .ok (.aload_n 0, 1) := by decide +kernel
theorem dX6_beginFlex_87 : decode cX6_beginFlex 87 = .ok (.iload 9, 2) := by decide +kernel
theorem dX6_beginFlex_89 : decode cX6_beginFlex 89 = .ok (.iload 4, 2) := by decide +kernel
theorem dX6_beginFlex_91 : decode cX6_beginFlex 91 = .ok (.invokevirtual 121, 3) := by decide +kernel
theorem dX6_beginFlex_94 : decode cX6_beginFlex 94 = .ok (.istore 10, 2) := by decide +kernel
theorem dX6_beginFlex_96 : decode cX6_beginFlex 96 = .ok (.aload_n 0, 1) := by decide +kernel
theorem dX6_beginFlex_97 : decode cX6_beginFlex 97 = .ok (.iload 9, 2) := by decide +kernel
theorem dX6_beginFlex_99 : decode cX6_beginFlex 99 = .ok (.iload 4, 2) := by decide +kernel
theorem dX6_beginFlex_101 : decode cX6_beginFlex 101 = .ok (.invokevirtual 124, 3) := by decide +kernel
theorem dX6_beginFlex_104 : decode cX6_beginFlex 104 = .ok (.istore 11, 2) := by decide +kernel
theorem dX6_beginFlex_106 : decode cX6_beginFlex 106 = .ok (.aload_n 0, 1) := by decide +kernel
theorem dX6_beginFlex_107 : decode cX6_beginFlex 107 = .ok (.getfield 44, 3) := by decide +kernel
theorem dX6_beginFlex_110 : decode cX6_beginFlex 110 = .ok (.iload 8, 2) := by decide +kernel
theorem dX6_beginFlex_112 : decode cX6_beginFlex 112 = .ok (.iload 7, 2) := by decide +kernel
theorem dX6_beginFlex_114 : decode cX6_beginFlex 114 = .ok (.ifCond .eq 15, 3) := by decide +kernel
theorem dX6_beginFlex_117 : decode cX6_beginFlex 117 = .ok (.aload_n 0, 1) := by decide +kernel
theorem dX6_beginFlex_118 : decode cX6_beginFlex 118 = .ok (.iload 9, 2) := by decide +kernel
theorem dX6_beginFlex_120 : decode cX6_beginFlex 120 = .ok (.bipush 8, 2) := by decide +kernel
theorem dX6_beginFlex_122 : decode cX6_beginFlex 122 = .ok (.invokevirtual 73, 3) := by decide +kernel
theorem dX6_beginFlex_125 : decode cX6_beginFlex 125 = .ok (.i2l, 1) := by decide +kernel
theorem dX6_beginFlex_126 : decode cX6_beginFlex 126 = .ok (.goto 16, 3) := by decide +kernel
theorem dX6_beginFlex_129 : decode cX6_beginFlex 129 = .ok (.aload_n 0, 1) := by decide +kernel
theorem dX6_beginFlex_130 : decode cX6_beginFlex 130 = .ok (.iload 9, 2) := by decide +kernel
theorem dX6_beginFlex_132 : decode cX6_beginFlex 132 = .ok (.bipush 9, 2) := by decide +kernel
theorem dX6_beginFlex_134 : decode cX6_beginFlex 134 = .ok (.invokevirtual 73, 3) := by decide +kernel
theorem dX6_beginFlex_137 : decode cX6_beginFlex 137 = .ok (.i2l, 1) := by decide +kernel
theorem dX6_beginFlex_138 : decode cX6_beginFlex 138 = .ok (.iload 10, 2) := by decide +kernel
theorem dX6_beginFlex_140 : decode cX6_beginFlex 140 = .ok (.i2l, 1) := by decide +kernel
theorem dX6_beginFlex_141 : decode cX6_beginFlex 141 = .ok (.lmul, 1) := by decide +kernel
theorem dX6_beginFlex_142 : decode cX6_beginFlex 142 = .ok (.lastore, 1) := by decide +kernel
theorem dX6_beginFlex_143 : decode cX6_beginFlex 143 = .ok (.aload_n 0, 1) := by decide +kernel
theorem dX6_beginFlex_144 : decode cX6_beginFlex 144 = .ok (.getfield 41, 3) := by decide +kernel
theorem dX6_beginFlex_147 : decode cX6_beginFlex 147 = .ok (.iload 8, 2) := by decide +kernel
theorem dX6_beginFlex_149 : decode cX6_beginFlex 149 = .ok (.aload_n 0, 1) := by decide +kernel
theorem dX6_beginFlex_150 : decode cX6_beginFlex 150 = .ok (.getfield 44, 3) := by decide +kernel
theorem dX6_beginFlex_153 : decode cX6_beginFlex 153 = .ok (.iload 8, 2) := by decide +kernel
theorem dX6_beginFlex_155 : decode cX6_beginFlex 155 = .ok (.laload, 1) := by decide +kernel
theorem dX6_beginFlex_156 : decode cX6_beginFlex 156 = .ok (.lconst 0, 1) := by decide +kernel
theorem dX6_beginFlex_157 : decode cX6_beginFlex 157 = .ok (.lcmp, 1) := by decide +kernel
theorem dX6_beginFlex_158 : decode cX6_beginFlex 158 = .ok (.ifCond .eq 25, 3) := by decide +kernel
theorem dX6_beginFlex_161 : decode cX6_beginFlex 161 = .ok (.iload 7, 2) := by decide +kernel
theorem dX6_beginFlex_163 : decode cX6_beginFlex 163 = .ok (.ifCond .eq 13, 3) := by decide +kernel
theorem dX6_beginFlex_166 : decode cX6_beginFlex 166 = .ok (.iload 10, 2) := by decide +kernel
theorem dX6_beginFlex_168 : decode cX6_beginFlex 168 = .ok (.iload 11, 2) := by decide +kernel
theorem dX6_beginFlex_170 : decode cX6_beginFlex 170 = .ok (.if_icmp .le 17, 3) := by decide +kernel
theorem dX6_beginFlex_173 : decode cX6_beginFlex 173 = .ok (.goto 10, 3) := by decide +kernel
theorem dX6_beginFlex_176 : decode cX6_beginFlex 176 = .ok (.iload 10, 2) := by decide +kernel
theorem dX6_beginFlex_178 : decode cX6_beginFlex 178 = .ok (.iload 11, 2) := by decide +kernel
theorem dX6_beginFlex_180 : decode cX6_beginFlex 180 = .ok (.if_icmp .ge 7, 3) := by decide +kernel
theorem dX6_beginFlex_183 : decode cX6_beginFlex 183 = .ok (.iconst 1, 1) := by decide +kernel
theorem dX6_beginFlex_184 : decode cX6_beginFlex 184 = .ok (.goto 4, 3) := by decide +kernel
theorem dX6_beginFlex_187 : decode cX6_beginFlex 187 = .ok (.iconst 0, 1) := by decide +kernel
theorem dX6_beginFlex_188 : decode cX6_beginFlex 188 = .ok (.bastore, 1) := by decide +kernel
theorem dX6_beginFlex_189 : decode cX6_beginFlex 189 = .ok (.aload_n 0, 1) := by decide +kernel
theorem dX6_beginFlex_190 : decode cX6_beginFlex 190 = .ok (.getfield 29, 3) := by decide +kernel
theorem dX6_beginFlex_193 : decode cX6_beginFlex 193 = .ok (.iconst 2, 1) := by decide +kernel
theorem dX6_beginFlex_194 : decode cX6_beginFlex 194 = .ok (.iload 9, 2) := by decide +kernel
theorem dX6_beginFlex_196 : decode cX6_beginFlex 196 = .ok (.imul, 1) := by decide +kernel
theorem dX6_beginFlex_197 : decode cX6_beginFlex 197 = .ok (.iload 4, 2) := by decide +kernel
theorem dX6_beginFlex_199 : decode cX6_beginFlex 199 = .ok (.iadd, 1) := by decide +kernel
theorem dX6_beginFlex_200 : decode cX6_beginFlex 200 = .ok (.iload 11, 2) := by decide +kernel
theorem dX6_beginFlex_202 : decode cX6_beginFlex 202 = .ok (.iastore, 1) := by decide +kernel
theorem dX6_beginFlex_203 : decode cX6_beginFlex 203 = .ok (.iinc 8 1, 3) := by decide +kernel
theorem dX6_beginFlex_206 : decode cX6_beginFlex 206 = .ok (.goto (-135), 3) := by decide +kernel
theorem dX6_beginFlex_209 : decode cX6_beginFlex 209 = .ok (.iload 7, 2) := by decide +kernel
theorem dX6_beginFlex_211 : decode cX6_beginFlex 211 = .ok (.ireturn, 1) := by decide +kernel
theorem dX6_propose_0 : decode cX6_propose 0 = .ok (.iload 5, 2) := by decide +kernel
theorem dX6_propose_2 : decode cX6_propose 2 = .ok (.aload_n 0, 1) := by decide +kernel
theorem dX6_propose_3 : decode cX6_propose 3 = .ok (.iload_n 1, 1) := by decide +kernel
theorem dX6_propose_4 : decode cX6_propose 4 = .ok (.iload_n 3, 1) := by decide +kernel
theorem dX6_propose_5 : decode cX6_propose 5 = .ok (.iload_n 2, 1) := by decide +kernel
theorem dX6_propose_6 : decode cX6_propose 6 = .ok (.isub, 1) := by decide +kernel
theorem dX6_propose_7 : decode cX6_propose 7 = .ok (.invokevirtual 103, 3) := by decide +kernel
theorem dX6_propose_10 : decode cX6_propose 10 = .ok (.isub, 1) := by decide +kernel
theorem dX6_propose_11 : decode cX6_propose 11 = .ok (.i2l, 1) := by decide +kernel
theorem dX6_propose_12 : decode cX6_propose 12 = .ok (.lstore 7, 2) := by decide +kernel
theorem dX6_propose_14 : decode cX6_propose 14 = .ok (.lconst 0, 1) := by decide +kernel
theorem dX6_propose_15 : decode cX6_propose 15 = .ok (.lstore 9, 2) := by decide +kernel
theorem dX6_propose_17 : decode cX6_propose 17 = .ok (.iload_n 2, 1) := by decide +kernel
theorem dX6_propose_18 : decode cX6_propose 18 = .ok (.istore 11, 2) := by decide +kernel
theorem dX6_propose_20 : decode cX6_propose 20 = .ok (.iload 11, 2) := by decide +kernel
theorem dX6_propose_22 : decode cX6_propose 22 = .ok (.iload_n 3, 1) := by decide +kernel
theorem dX6_propose_23 : decode cX6_propose 23 = .ok (.if_icmp .ge 94, 3) := by decide +kernel
theorem dX6_propose_26 : decode cX6_propose 26 = .ok (.aload_n 0, 1) := by decide +kernel
theorem dX6_propose_27 : decode cX6_propose 27 = .ok (.getfield 20, 3) := by decide +kernel
theorem dX6_propose_30 : decode cX6_propose 30 = .ok (.iload 11, 2) := by decide +kernel
theorem dX6_propose_32 : decode cX6_propose 32 = .ok (.iaload, 1) := by decide +kernel
theorem dX6_propose_33 : decode cX6_propose 33 = .ok (.istore 12, 2) := by decide +kernel
theorem dX6_propose_35 : decode cX6_propose 35 = .ok (.lload 7, 2) := by decide +kernel
theorem dX6_propose_37 : decode cX6_propose 37 = .ok (.iconst 2, 1) := by decide +kernel
theorem dX6_propose_38 : decode cX6_propose 38 = .ok (.aload_n 0, 1) := by decide +kernel
theorem dX6_propose_39 : decode cX6_propose 39 = .ok (.iload 12, 2) := by decide +kernel
theorem dX6_propose_41 : decode cX6_propose 41 = .ok (.bipush 6, 2) := by decide +kernel
theorem dX6_propose_43 : decode cX6_propose 43 = .ok (.invokevirtual 73, 3) := by decide +kernel
theorem dX6_propose_46 : decode cX6_propose 46 = .ok (.imul, 1) := by decide +kernel
theorem dX6_propose_47 : decode cX6_propose 47 = .ok (.aload_n 0, 1) := by decide +kernel
theorem dX6_propose_48 : decode cX6_propose 48 = .ok (.getfield 41, 3) := by decide +kernel
theorem dX6_propose_51 : decode cX6_propose 51 = .ok (.iload 11, 2) := by decide +kernel
theorem dX6_propose_53 : decode cX6_propose 53 = .ok (.baload, 1) := by decide +kernel
theorem dX6_propose_54 : decode cX6_propose 54 = .ok (.ifCond .eq 18, 3) := by decide +kernel
theorem dX6_propose_57 : decode cX6_propose 57 = .ok (.aload_n 0, 1) := by decide +kernel
theorem dX6_propose_58 : decode cX6_propose 58 = .ok (.getfield 29, 3) := by decide +kernel
theorem dX6_propose_61 : decode cX6_propose 61 = .ok (.iconst 2, 1) := by decide +kernel
theorem dX6_propose_62 : decode cX6_propose 62 = .ok (.iload 12, 2) := by decide +kernel
theorem dX6_propose_64 : decode cX6_propose 64 = .ok (.imul, 1) := by decide +kernel
theorem dX6_propose_65 : decode cX6_propose 65 = .ok (.iload 4, 2) := by decide +kernel
theorem dX6_propose_67 : decode cX6_propose 67 = .ok (.iadd, 1) := by decide +kernel
theorem dX6_propose_68 : decode cX6_propose 68 = .ok (.iaload, 1) := by decide +kernel
theorem dX6_propose_69 : decode cX6_propose 69 = .ok (.goto 11, 3) := by decide +kernel
theorem dX6_propose_72 : decode cX6_propose 72 = .ok (.aload_n 0, 1) := by decide +kernel
theorem dX6_propose_73 : decode cX6_propose 73 = .ok (.iload 12, 2) := by decide +kernel
theorem dX6_propose_75 : decode cX6_propose 75 = .ok (.iload 4, 2) := by decide +kernel
theorem dX6_propose_77 : decode cX6_propose 77 = .ok (.invokevirtual 121, 3) := by decide +kernel
theorem dX6_propose_80 : decode cX6_propose 80 = .ok (.iadd, 1) := by decide +kernel
theorem dX6_propose_81 : decode cX6_propose 81 = .ok (.i2l, 1) := by decide +kernel
theorem dX6_propose_82 : decode cX6_propose 82 = .ok (.lsub, 1) := by decide +kernel
theorem dX6_propose_83 : decode cX6_propose 83 = .ok (.lstore 7, 2) := by decide +kernel
theorem dX6_propose_85 : decode cX6_propose 85 = .ok (.lload 9, 2) := by decide +kernel
theorem dX6_propose_87 : decode cX6_propose 87 = .ok (.aload_n 0, 1) := by decide +kernel
theorem dX6_propose_88 : decode cX6_propose 88 = .ok (.getfield 41, 3) := by decide +kernel
theorem dX6_propose_91 : decode cX6_propose 91 = .ok (.iload 11, 2) := by decide +kernel
theorem dX6_propose_93 : decode cX6_propose 93 = .ok (.baload, 1) := by decide +kernel
theorem dX6_propose_94 : decode cX6_propose 94 = .ok (.ifCond .eq 7, 3) := by decide +kernel
theorem dX6_propose_97 : decode cX6_propose 97 = .ok (.lconst 0, 1) := by decide +kernel
theorem dX6_propose_98 : decode cX6_propose 98 = .ok (.goto 10, 3) := by decide +kernel
theorem dX6_propose_101 : decode cX6_propose 101 = .ok (.aload_n 0, 1) := by decide +kernel
theorem dX6_propose_102 : decode cX6_propose 102 = .ok (.getfield 44, 3) := by decide +kernel
theorem dX6_propose_105 : decode cX6_propose 105 = .ok (.iload 11, 2) := by decide +kernel
theorem dX6_propose_107 : decode cX6_propose 107 = .ok (.laload, 1) := by decide +kernel
theorem dX6_propose_108 : decode cX6_propose 108 = .ok (.ladd, 1) := by decide +kernel
theorem dX6_propose_109 : decode cX6_propose 109 = .ok (.lstore 9, 2) := by decide +kernel
theorem dX6_propose_111 : decode cX6_propose 111 = .ok (.iinc 11 1, 3) := by decide +kernel
theorem dX6_propose_114 : decode cX6_propose 114 = .ok (.goto (-94), 3) := by decide +kernel
theorem dX6_propose_117 : decode cX6_propose 117 = .ok (.iload 6, 2) := by decide +kernel
theorem dX6_propose_119 : decode cX6_propose 119 = .ok (.ifCond .eq 8, 3) := by decide +kernel
theorem dX6_propose_122 : decode cX6_propose 122 = .ok (.lload 7, 2) := by decide +kernel
theorem dX6_propose_124 : decode cX6_propose 124 = .ok (.goto 6, 3) := by decide +kernel
theorem dX6_propose_127 : decode cX6_propose 127 = .ok (.lload 7, 2) := by decide +kernel
theorem dX6_propose_129 : decode cX6_propose 129 = .ok (.lneg, 1) := by decide +kernel
theorem dX6_propose_130 : decode cX6_propose 130 = .ok (.lstore 11, 2) := by decide +kernel
theorem dX6_propose_132 : decode cX6_propose 132 = .ok (.lload 11, 2) := by decide +kernel
theorem dX6_propose_134 : decode cX6_propose 134 = .ok (.lconst 0, 1) := by decide +kernel
theorem dX6_propose_135 : decode cX6_propose 135 = .ok (.lcmp, 1) := by decide +kernel
theorem dX6_propose_136 : decode cX6_propose 136 = .ok (.ifCond .ge 7, 3) := by decide +kernel
theorem dX6_propose_139 : decode cX6_propose 139 = .ok (.lconst 0, 1) := by decide +kernel
theorem dX6_propose_140 : decode cX6_propose 140 = .ok (.goto 5, 3) := by decide +kernel
theorem dX6_propose_143 : decode cX6_propose 143 = .ok (.lload 11, 2) := by decide +kernel
theorem dX6_propose_145 : decode cX6_propose 145 = .ok (.lstore 11, 2) := by decide +kernel
theorem dX6_propose_147 : decode cX6_propose 147 = .ok (.lconst 0, 1) := by decide +kernel
theorem dX6_propose_148 : decode cX6_propose 148 = .ok (.lstore 13, 2) := by decide +kernel
theorem dX6_propose_150 : decode cX6_propose 150 = .ok (.lconst 0, 1) := by decide +kernel
theorem dX6_propose_151 : decode cX6_propose 151 = .ok (.lstore 15, 2) := by decide +kernel
theorem dX6_propose_153 : decode cX6_propose 153 = .ok (.iload_n 2, 1) := by decide +kernel
theorem dX6_propose_154 : decode cX6_propose 154 = .ok (.istore 17, 2) := by decide +kernel
theorem dX6_propose_156 : decode cX6_propose 156 = .ok (.iload 17, 2) := by decide +kernel
theorem dX6_propose_158 : decode cX6_propose 158 = .ok (.iload_n 3, 1) := by decide +kernel
theorem dX6_propose_159 : decode cX6_propose 159 = .ok (.if_icmp .ge 87, 3) := by decide +kernel
theorem dX6_propose_162 : decode cX6_propose 162 = .ok (.aload_n 0, 1) := by decide +kernel
theorem dX6_propose_163 : decode cX6_propose 163 = .ok (.getfield 41, 3) := by decide +kernel
theorem dX6_propose_166 : decode cX6_propose 166 = .ok (.iload 17, 2) := by decide +kernel
theorem dX6_propose_168 : decode cX6_propose 168 = .ok (.baload, 1) := by decide +kernel
theorem dX6_propose_169 : decode cX6_propose 169 = .ok (.ifCond .ne 71, 3) := by decide +kernel
theorem dX6_propose_172 : decode cX6_propose 172 = .ok (.lload 13, 2) := by decide +kernel
theorem dX6_propose_174 : decode cX6_propose 174 = .ok (.aload_n 0, 1) := by decide +kernel
theorem dX6_propose_175 : decode cX6_propose 175 = .ok (.getfield 44, 3) := by decide +kernel
theorem dX6_propose_178 : decode cX6_propose 178 = .ok (.iload 17, 2) := by decide +kernel
theorem dX6_propose_180 : decode cX6_propose 180 = .ok (.laload, 1) := by decide +kernel
theorem dX6_propose_181 : decode cX6_propose 181 = .ok (.ladd, 1) := by decide +kernel
theorem dX6_propose_182 : decode cX6_propose 182 = .ok (.lstore 13, 2) := by decide +kernel
theorem dX6_propose_184 : decode cX6_propose 184 = .ok (.lload 11, 2) := by decide +kernel
theorem dX6_propose_186 : decode cX6_propose 186 = .ok (.lload 13, 2) := by decide +kernel
theorem dX6_propose_188 : decode cX6_propose 188 = .ok (.lmul, 1) := by decide +kernel
theorem dX6_propose_189 : decode cX6_propose 189 = .ok (.lload 9, 2) := by decide +kernel
theorem dX6_propose_191 : decode cX6_propose 191 = .ok (.ldiv, 1) := by decide +kernel
theorem dX6_propose_192 : decode cX6_propose 192 = .ok (.lstore 18, 2) := by decide +kernel
theorem dX6_propose_194 : decode cX6_propose 194 = .ok (.lload 18, 2) := by decide +kernel
theorem dX6_propose_196 : decode cX6_propose 196 = .ok (.lload 15, 2) := by decide +kernel
theorem dX6_propose_198 : decode cX6_propose 198 = .ok (.lsub, 1) := by decide +kernel
theorem dX6_propose_199 : decode cX6_propose 199 = .ok (.l2i, 1) := by decide +kernel
theorem dX6_propose_200 : decode cX6_propose 200 = .ok (.istore 20, 2) := by decide +kernel
theorem dX6_propose_202 : decode cX6_propose 202 = .ok (.lload 18, 2) := by decide +kernel
theorem dX6_propose_204 : decode cX6_propose 204 = .ok (.lstore 15, 2) := by decide +kernel
theorem dX6_propose_206 : decode cX6_propose 206 = .ok (.aload_n 0, 1) := by decide +kernel
theorem dX6_propose_207 : decode cX6_propose 207 = .ok (.getfield 48, 3) := by decide +kernel
theorem dX6_propose_210 : decode cX6_propose 210 = .ok (.iload 17, 2) := by decide +kernel
theorem dX6_propose_212 : decode cX6_propose 212 = .ok (.aload_n 0, 1) := by decide +kernel
theorem dX6_propose_213 : decode cX6_propose 213 = .ok (.aload_n 0, 1) := by decide +kernel
theorem dX6_propose_214 : decode cX6_propose 214 = .ok (.getfield 20, 3) := by decide +kernel
theorem dX6_propose_217 : decode cX6_propose 217 = .ok (.iload 17, 2) := by decide +kernel
theorem dX6_propose_219 : decode cX6_propose 219 = .ok (.iaload, 1) := by decide +kernel
theorem dX6_propose_220 : decode cX6_propose 220 = .ok (.iload 4, 2) := by decide +kernel
theorem dX6_propose_222 : decode cX6_propose 222 = .ok (.invokevirtual 121, 3) := by decide +kernel
theorem dX6_propose_225 : decode cX6_propose 225 = .ok (.iload 6, 2) := by decide +kernel
theorem dX6_propose_227 : decode cX6_propose 227 = .ok (.ifCond .eq 8, 3) := by decide +kernel
theorem dX6_propose_230 : decode cX6_propose 230 = .ok (.iload 20, 2) := by decide +kernel
theorem dX6_propose_232 : decode cX6_propose 232 = .ok (.goto 6, 3) := by decide +kernel
theorem dX6_propose_235 : decode cX6_propose 235 = .ok (.iload 20, 2) := by decide +kernel
theorem dX6_propose_237 : decode cX6_propose 237 = .ok (.ineg, 1) := by decide +kernel
theorem dX6_propose_238 : decode cX6_propose 238 = .ok (.iadd, 1) := by decide +kernel
theorem dX6_propose_239 : decode cX6_propose 239 = .ok (.iastore, 1) := by decide +kernel
theorem dX6_propose_240 : decode cX6_propose 240 = .ok (.iinc 17 1, 3) := by decide +kernel
theorem dX6_propose_243 : decode cX6_propose 243 = .ok (.goto (-87), 3) := by decide +kernel
theorem dX6_propose_246 : decode cX6_propose 246 = .ok (.return_, 1) := by decide +kernel
theorem dX6_deviation_0 : decode cX6_deviation 0 = .ok (.aload_n 0, 1) := by decide +kernel
theorem dX6_deviation_1 : decode cX6_deviation 1 = .ok (.aload_n 0, 1) := by decide +kernel
theorem dX6_deviation_2 : decode cX6_deviation 2 = .ok (.getfield 20, 3) := by decide +kernel
theorem dX6_deviation_5 : decode cX6_deviation 5 = .ok (.iload_n 1, 1) := by decide +kernel
theorem dX6_deviation_6 : decode cX6_deviation 6 = .ok (.iaload, 1) := by decide +kernel
theorem dX6_deviation_7 : decode cX6_deviation 7 = .ok (.iload_n 2, 1) := by decide +kernel
theorem dX6_deviation_8 : decode cX6_deviation 8 = .ok (.aload_n 0, 1) := by decide +kernel
theorem dX6_deviation_9 : decode cX6_deviation 9 = .ok (.getfield 48, 3) := by decide +kernel
theorem dX6_deviation_12 : decode cX6_deviation 12 = .ok (.iload_n 1, 1) := by decide +kernel
theorem dX6_deviation_13 : decode cX6_deviation 13 = .ok (.iaload, 1) := by decide +kernel
theorem dX6_deviation_14 : decode cX6_deviation 14 = .ok (.invokevirtual 106, 3) := by decide +kernel
theorem dX6_deviation_17 : decode cX6_deviation 17 = .ok (.aload_n 0, 1) := by decide +kernel
theorem dX6_deviation_18 : decode cX6_deviation 18 = .ok (.getfield 48, 3) := by decide +kernel
theorem dX6_deviation_21 : decode cX6_deviation 21 = .ok (.iload_n 1, 1) := by decide +kernel
theorem dX6_deviation_22 : decode cX6_deviation 22 = .ok (.iaload, 1) := by decide +kernel
theorem dX6_deviation_23 : decode cX6_deviation 23 = .ok (.isub, 1) := by decide +kernel
theorem dX6_deviation_24 : decode cX6_deviation 24 = .ok (.ireturn, 1) := by decide +kernel
theorem dX6_fixSome_0 : decode cX6_fixSome 0 = .ok (.lconst 0, 1) := by decide +kernel
theorem dX6_fixSome_1 : decode cX6_fixSome 1 = .ok (.lstore 4, 2) := by decide +kernel
theorem dX6_fixSome_3 : decode cX6_fixSome 3 = .ok (.iload_n 1, 1) := by decide +kernel
theorem dX6_fixSome_4 : decode cX6_fixSome 4 = .ok (.istore 6, 2) := by decide +kernel
theorem dX6_fixSome_6 : decode cX6_fixSome 6 = .ok (.iload 6, 2) := by decide +kernel
theorem dX6_fixSome_8 : decode cX6_fixSome 8 = .ok (.iload_n 2, 1) := by decide +kernel
theorem dX6_fixSome_9 : decode cX6_fixSome 9 = .ok (.if_icmp .ge 36, 3) := by decide +kernel
theorem dX6_fixSome_12 : decode cX6_fixSome 12 = .ok (.lload 4, 2) := by decide +kernel
theorem dX6_fixSome_14 : decode cX6_fixSome 14 = .ok (.aload_n 0, 1) := by decide +kernel
theorem dX6_fixSome_15 : decode cX6_fixSome 15 = .ok (.getfield 41, 3) := by decide +kernel
theorem dX6_fixSome_18 : decode cX6_fixSome 18 = .ok (.iload 6, 2) := by decide +kernel
theorem dX6_fixSome_20 : decode cX6_fixSome 20 = .ok (.baload, 1) := by decide +kernel
theorem dX6_fixSome_21 : decode cX6_fixSome 21 = .ok (.ifCond .eq 7, 3) := by decide +kernel
theorem dX6_fixSome_24 : decode cX6_fixSome 24 = .ok (.lconst 0, 1) := by decide +kernel
theorem dX6_fixSome_25 : decode cX6_fixSome 25 = .ok (.goto 11, 3) := by decide +kernel
theorem dX6_fixSome_28 : decode cX6_fixSome 28 = .ok (.aload_n 0, 1) := by decide +kernel
theorem dX6_fixSome_29 : decode cX6_fixSome 29 = .ok (.iload 6, 2) := by decide +kernel
theorem dX6_fixSome_31 : decode cX6_fixSome 31 = .ok (.iload_n 3, 1) := by decide +kernel
theorem dX6_fixSome_32 : decode cX6_fixSome 32 = .ok (.invokevirtual 127, 3) := by decide +kernel
theorem dX6_fixSome_35 : decode cX6_fixSome 35 = .ok (.i2l, 1) := by decide +kernel
theorem dX6_fixSome_36 : decode cX6_fixSome 36 = .ok (.ladd, 1) := by decide +kernel
theorem dX6_fixSome_37 : decode cX6_fixSome 37 = .ok (.lstore 4, 2) := by decide +kernel
theorem dX6_fixSome_39 : decode cX6_fixSome 39 = .ok (.iinc 6 1, 3) := by decide +kernel
theorem dX6_fixSome_42 : decode cX6_fixSome 42 = .ok (.goto (-36), 3) := by decide +kernel
theorem dX6_fixSome_45 : decode cX6_fixSome 45 = .ok (.iconst 0, 1) := by decide +kernel
theorem dX6_fixSome_46 : decode cX6_fixSome 46 = .ok (.istore 6, 2) := by decide +kernel
theorem dX6_fixSome_48 : decode cX6_fixSome 48 = .ok (.iload_n 1, 1) := by decide +kernel
theorem dX6_fixSome_49 : decode cX6_fixSome 49 = .ok (.istore 7, 2) := by decide +kernel
theorem dX6_fixSome_51 : decode cX6_fixSome 51 = .ok (.iload 7, 2) := by decide +kernel
theorem dX6_fixSome_53 : decode cX6_fixSome 53 = .ok (.iload_n 2, 1) := by decide +kernel
theorem dX6_fixSome_54 : decode cX6_fixSome 54 = .ok (.if_icmp .ge 125, 3) := by decide +kernel
theorem dX6_fixSome_57 : decode cX6_fixSome 57 = .ok (.aload_n 0, 1) := by decide +kernel
theorem dX6_fixSome_58 : decode cX6_fixSome 58 = .ok (.getfield 41, 3) := by decide +kernel
theorem dX6_fixSome_61 : decode cX6_fixSome 61 = .ok (.iload 7, 2) := by decide +kernel
theorem dX6_fixSome_63 : decode cX6_fixSome 63 = .ok (.baload, 1) := by decide +kernel
theorem dX6_fixSome_64 : decode cX6_fixSome 64 = .ok (.ifCond .ne 109, 3) := by decide +kernel
theorem dX6_fixSome_67 : decode cX6_fixSome 67 = .ok (.aload_n 0, 1) := by decide +kernel
theorem dX6_fixSome_68 : decode cX6_fixSome 68 = .ok (.iload 7, 2) := by decide +kernel
theorem dX6_fixSome_70 : decode cX6_fixSome 70 = .ok (.iload_n 3, 1) := by decide +kernel
theorem dX6_fixSome_71 : decode cX6_fixSome 71 = .ok (.invokevirtual 127, 3) := by decide +kernel
theorem dX6_fixSome_74 : decode cX6_fixSome 74 = .ok (.istore 8, 2) := by decide +kernel
theorem dX6_fixSome_76 : decode cX6_fixSome 76 = .ok (.lload 4, 2) := by decide +kernel
theorem dX6_fixSome_78 : decode cX6_fixSome 78 = .ok (.lconst 0, 1) := by decide +kernel
theorem dX6_fixSome_79 : decode cX6_fixSome 79 = .ok (.lcmp, 1) := by decide +kernel
theorem dX6_fixSome_80 : decode cX6_fixSome 80 = .ok (.ifCond .eq 23, 3) := by decide +kernel
theorem dX6_fixSome_83 : decode cX6_fixSome 83 = .ok (.lload 4, 2) := by decide +kernel
theorem dX6_fixSome_85 : decode cX6_fixSome 85 = .ok (.lconst 0, 1) := by decide +kernel
theorem dX6_fixSome_86 : decode cX6_fixSome 86 = .ok (.lcmp, 1) := by decide +kernel
theorem dX6_fixSome_87 : decode cX6_fixSome 87 = .ok (.ifCond .le 11, 3) := by decide +kernel
theorem dX6_fixSome_90 : decode cX6_fixSome 90 = .ok (.iload 8, 2) := by decide +kernel
theorem dX6_fixSome_92 : decode cX6_fixSome 92 = .ok (.ifCond .le 15, 3) := by decide +kernel
theorem dX6_fixSome_95 : decode cX6_fixSome 95 = .ok (.goto 8, 3) := by decide +kernel
theorem dX6_fixSome_98 : decode cX6_fixSome 98 = .ok (.iload 8, 2) := by decide +kernel
theorem dX6_fixSome_100 : decode cX6_fixSome 100 = .ok (.ifCond .ge 7, 3) := by decide +kernel
theorem dX6_fixSome_103 : decode cX6_fixSome 103 = .ok (.iconst 1, 1) := by decide +kernel
theorem dX6_fixSome_104 : decode cX6_fixSome 104 = .ok (.goto 4, 3) := by decide +kernel
theorem dX6_fixSome_107 : decode cX6_fixSome 107 = .ok (.iconst 0, 1) := by decide +kernel
theorem dX6_fixSome_108 : decode cX6_fixSome 108 = .ok (.istore 9, 2) := by decide +kernel
theorem dX6_fixSome_110 : decode cX6_fixSome 110 = .ok (.iload 9, 2) := by decide +kernel
theorem dX6_fixSome_112 : decode cX6_fixSome 112 = .ok (.ifCond .eq 46, 3) := by decide +kernel
theorem dX6_fixSome_115 : decode cX6_fixSome 115 = .ok (.aload_n 0, 1) := by decide +kernel
theorem dX6_fixSome_116 : decode cX6_fixSome 116 = .ok (.getfield 41, 3) := by decide +kernel
theorem dX6_fixSome_119 : decode cX6_fixSome 119 = .ok (.iload 7, 2) := by decide +kernel
theorem dX6_fixSome_121 : decode cX6_fixSome 121 = .ok (.iconst 1, 1) := by decide +kernel
theorem dX6_fixSome_122 : decode cX6_fixSome 122 = .ok (.bastore, 1) := by decide +kernel
theorem dX6_fixSome_123 : decode cX6_fixSome 123 = .ok (.aload_n 0, 1) := by decide +kernel
theorem dX6_fixSome_124 : decode cX6_fixSome 124 = .ok (.getfield 29, 3) := by decide +kernel
theorem dX6_fixSome_127 : decode cX6_fixSome 127 = .ok (.iconst 2, 1) := by decide +kernel
theorem dX6_fixSome_128 : decode cX6_fixSome 128 = .ok (.aload_n 0, 1) := by decide +kernel
theorem dX6_fixSome_129 : decode cX6_fixSome 129 = .ok (.getfield 20, 3) := by decide +kernel
theorem dX6_fixSome_132 : decode cX6_fixSome 132 = .ok (.iload 7, 2) := by decide +kernel
theorem dX6_fixSome_134 : decode cX6_fixSome 134 = .ok (.iaload, 1) := by decide +kernel
theorem dX6_fixSome_135 : decode cX6_fixSome 135 = .ok (.imul, 1) := by decide +kernel
theorem dX6_fixSome_136 : decode cX6_fixSome 136 = .ok (.iload_n 3, 1) := by decide +kernel
theorem dX6_fixSome_137 : decode cX6_fixSome 137 = .ok (.iadd, 1) := by decide +kernel
theorem dX6_fixSome_138 : decode cX6_fixSome 138 = .ok (.aload_n 0, 1) := by decide +kernel
theorem dX6_fixSome_139 : decode cX6_fixSome 139 = .ok (.aload_n 0, 1) := by decide +kernel
theorem dX6_fixSome_140 : decode cX6_fixSome 140 = .ok (.getfield 20, 3) := by decide +kernel
theorem dX6_fixSome_143 : decode cX6_fixSome 143 = .ok (.iload 7, 2) := by decide +kernel
theorem dX6_fixSome_145 : decode cX6_fixSome 145 = .ok (.iaload, 1) := by decide +kernel
theorem dX6_fixSome_146 : decode cX6_fixSome 146 = .ok (.iload_n 3, 1) := by decide +kernel
theorem dX6_fixSome_147 : decode cX6_fixSome 147 = .ok (.aload_n 0, 1) := by decide +kernel
theorem dX6_fixSome_148 : decode cX6_fixSome 148 = .ok (.getfield 48, 3) := by decide +kernel
theorem dX6_fixSome_151 : decode cX6_fixSome 151 = .ok (.iload 7, 2) := by decide +kernel
theorem dX6_fixSome_153 : decode cX6_fixSome 153 = .ok (.iaload, 1) := by decide +kernel
theorem dX6_fixSome_154 : decode cX6_fixSome 154 = .ok (.invokevirtual 106, 3) := by decide +kernel
theorem dX6_fixSome_157 : decode cX6_fixSome 157 = .ok (.iastore, 1) := by decide +kernel
theorem dX6_fixSome_158 : decode cX6_fixSome 158 = .ok (.iload 6, 2) := by decide +kernel
theorem dX6_fixSome_160 : decode cX6_fixSome 160 = .ok (.iload 9, 2) := by decide +kernel
theorem dX6_fixSome_162 : decode cX6_fixSome 162 = .ok (.ifCond .eq 7, 3) := by decide +kernel
theorem dX6_fixSome_165 : decode cX6_fixSome 165 = .ok (.iconst 0, 1) := by decide +kernel
theorem dX6_fixSome_166 : decode cX6_fixSome 166 = .ok (.goto 4, 3) := by decide +kernel
theorem dX6_fixSome_169 : decode cX6_fixSome 169 = .ok (.iconst 1, 1) := by decide +kernel
theorem dX6_fixSome_170 : decode cX6_fixSome 170 = .ok (.iadd, 1) := by decide +kernel
theorem dX6_fixSome_171 : decode cX6_fixSome 171 = .ok (.istore 6, 2) := by decide +kernel
theorem dX6_fixSome_173 : decode cX6_fixSome 173 = .ok (.iinc 7 1, 3) := by decide +kernel
theorem dX6_fixSome_176 : decode cX6_fixSome 176 = .ok (.goto (-125), 3) := by decide +kernel
theorem dX6_fixSome_179 : decode cX6_fixSome 179 = .ok (.iload 6, 2) := by decide +kernel
theorem dX6_fixSome_181 : decode cX6_fixSome 181 = .ok (.ireturn, 1) := by decide +kernel
theorem dX6_flex_0 : decode cX6_flex 0 = .ok (.aload_n 0, 1) := by decide +kernel
theorem dX6_flex_1 : decode cX6_flex 1 = .ok (.iload_n 1, 1) := by decide +kernel
theorem dX6_flex_2 : decode cX6_flex 2 = .ok (.iload_n 2, 1) := by decide +kernel
theorem dX6_flex_3 : decode cX6_flex 3 = .ok (.iload_n 3, 1) := by decide +kernel
theorem dX6_flex_4 : decode cX6_flex 4 = .ok (.iload 4, 2) := by decide +kernel
theorem dX6_flex_6 : decode cX6_flex 6 = .ok (.iload 5, 2) := by decide +kernel
theorem dX6_flex_8 : decode cX6_flex 8 = .ok (.invokevirtual 130, 3) := by decide +kernel
theorem dX6_flex_11 : decode cX6_flex 11 = .ok (.istore 6, 2) := by decide +kernel
theorem dX6_flex_13 : decode cX6_flex 13 = .ok (.iconst 0, 1) := by decide +kernel
theorem dX6_flex_14 : decode cX6_flex 14 = .ok (.istore 7, 2) := by decide +kernel
theorem dX6_flex_16 : decode cX6_flex 16 = .ok (.iload_n 2, 1) := by decide +kernel
theorem dX6_flex_17 : decode cX6_flex 17 = .ok (.istore 8, 2) := by decide +kernel
theorem dX6_flex_19 : decode cX6_flex 19 = .ok (.iload 8, 2) := by decide +kernel
theorem dX6_flex_21 : decode cX6_flex 21 = .ok (.iload_n 3, 1) := by decide +kernel
theorem dX6_flex_22 : decode cX6_flex 22 = .ok (.if_icmp .ge 29, 3) := by decide +kernel
theorem dX6_flex_25 : decode cX6_flex 25 = .ok (.iload 7, 2) := by decide +kernel
theorem dX6_flex_27 : decode cX6_flex 27 = .ok (.aload_n 0, 1) := by decide +kernel
theorem dX6_flex_28 : decode cX6_flex 28 = .ok (.getfield 41, 3) := by decide +kernel
theorem dX6_flex_31 : decode cX6_flex 31 = .ok (.iload 8, 2) := by decide +kernel
theorem dX6_flex_33 : decode cX6_flex 33 = .ok (.baload, 1) := by decide +kernel
theorem dX6_flex_34 : decode cX6_flex 34 = .ok (.ifCond .eq 7, 3) := by decide +kernel
theorem dX6_flex_37 : decode cX6_flex 37 = .ok (.iconst 0, 1) := by decide +kernel
theorem dX6_flex_38 : decode cX6_flex 38 = .ok (.goto 4, 3) := by decide +kernel
theorem dX6_flex_41 : decode cX6_flex 41 = .ok (.iconst 1, 1) := by decide +kernel
theorem dX6_flex_42 : decode cX6_flex 42 = .ok (.iadd, 1) := by decide +kernel
theorem dX6_flex_43 : decode cX6_flex 43 = .ok (.istore 7, 2) := by decide +kernel
theorem dX6_flex_45 : decode cX6_flex 45 = .ok (.iinc 8 1, 3) := by decide +kernel
theorem dX6_flex_48 : decode cX6_flex 48 = .ok (.goto (-29), 3) := by decide +kernel
theorem dX6_flex_51 : decode cX6_flex 51 = .ok (.iload 7, 2) := by decide +kernel
theorem dX6_flex_53 : decode cX6_flex 53 = .ok (.ifCond .le 29, 3) := by decide +kernel
theorem dX6_flex_56 : decode cX6_flex 56 = .ok (.aload_n 0, 1) := by decide +kernel
theorem dX6_flex_57 : decode cX6_flex 57 = .ok (.iload_n 1, 1) := by decide +kernel
theorem dX6_flex_58 : decode cX6_flex 58 = .ok (.iload_n 2, 1) := by decide +kernel
theorem dX6_flex_59 : decode cX6_flex 59 = .ok (.iload_n 3, 1) := by decide +kernel
theorem dX6_flex_60 : decode cX6_flex 60 = .ok (.iload 4, 2) := by decide +kernel
theorem dX6_flex_62 : decode cX6_flex 62 = .ok (.iload 5, 2) := by decide +kernel
theorem dX6_flex_64 : decode cX6_flex 64 = .ok (.iload 6, 2) := by decide +kernel
theorem dX6_flex_66 : decode cX6_flex 66 = .ok (.invokevirtual 134, 3) := by decide +kernel
theorem dX6_flex_69 : decode cX6_flex 69 = .ok (.aload_n 0, 1) := by decide +kernel
theorem dX6_flex_70 : decode cX6_flex 70 = .ok (.iload_n 2, 1) := by decide +kernel
theorem dX6_flex_71 : decode cX6_flex 71 = .ok (.iload_n 3, 1) := by decide +kernel
theorem dX6_flex_72 : decode cX6_flex 72 = .ok (.iload 4, 2) := by decide +kernel
theorem dX6_flex_74 : decode cX6_flex 74 = .ok (.invokevirtual 138, 3) := by decide +kernel
theorem dX6_flex_77 : decode cX6_flex 77 = .ok (.istore 7, 2) := by decide +kernel
theorem dX6_flex_79 : decode cX6_flex 79 = .ok (.goto (-28), 3) := by decide +kernel
theorem dX6_flex_82 : decode cX6_flex 82 = .ok (.return_, 1) := by decide +kernel
theorem dX6_endOfLine_0 : decode cX6_endOfLine 0 = .ok (.aload_n 0, 1) := by decide +kernel
theorem dX6_endOfLine_1 : decode cX6_endOfLine 1 = .ok (.iload_n 1, 1) := by decide +kernel
theorem dX6_endOfLine_2 : decode cX6_endOfLine 2 = .ok (.iconst 1, 1) := by decide +kernel
theorem dX6_endOfLine_3 : decode cX6_endOfLine 3 = .ok (.invokevirtual 73, 3) := by decide +kernel
theorem dX6_endOfLine_6 : decode cX6_endOfLine 6 = .ok (.ifCond .ne 8, 3) := by decide +kernel
theorem dX6_endOfLine_9 : decode cX6_endOfLine 9 = .ok (.aload_n 0, 1) := by decide +kernel
theorem dX6_endOfLine_10 : decode cX6_endOfLine 10 = .ok (.getfield 77, 3) := by decide +kernel
theorem dX6_endOfLine_13 : decode cX6_endOfLine 13 = .ok (.ireturn, 1) := by decide +kernel
theorem dX6_endOfLine_14 : decode cX6_endOfLine 14 = .ok (.aload_n 0, 1) := by decide +kernel
theorem dX6_endOfLine_15 : decode cX6_endOfLine 15 = .ok (.iload_n 1, 1) := by decide +kernel
theorem dX6_endOfLine_16 : decode cX6_endOfLine 16 = .ok (.iconst 0, 1) := by decide +kernel
theorem dX6_endOfLine_17 : decode cX6_endOfLine 17 = .ok (.invokevirtual 141, 3) := by decide +kernel
theorem dX6_endOfLine_20 : decode cX6_endOfLine 20 = .ok (.istore_n 3, 1) := by decide +kernel
theorem dX6_endOfLine_21 : decode cX6_endOfLine 21 = .ok (.aload_n 0, 1) := by decide +kernel
theorem dX6_endOfLine_22 : decode cX6_endOfLine 22 = .ok (.aload_n 0, 1) := by decide +kernel
theorem dX6_endOfLine_23 : decode cX6_endOfLine 23 = .ok (.getfield 20, 3) := by decide +kernel
theorem dX6_endOfLine_26 : decode cX6_endOfLine 26 = .ok (.iload_n 2, 1) := by decide +kernel
theorem dX6_endOfLine_27 : decode cX6_endOfLine 27 = .ok (.iaload, 1) := by decide +kernel
theorem dX6_endOfLine_28 : decode cX6_endOfLine 28 = .ok (.aload_n 0, 1) := by decide +kernel
theorem dX6_endOfLine_29 : decode cX6_endOfLine 29 = .ok (.aload_n 0, 1) := by decide +kernel
theorem dX6_endOfLine_30 : decode cX6_endOfLine 30 = .ok (.getfield 20, 3) := by decide +kernel
theorem dX6_endOfLine_33 : decode cX6_endOfLine 33 = .ok (.iload_n 2, 1) := by decide +kernel
theorem dX6_endOfLine_34 : decode cX6_endOfLine 34 = .ok (.iaload, 1) := by decide +kernel
theorem dX6_endOfLine_35 : decode cX6_endOfLine 35 = .ok (.iconst 0, 1) := by decide +kernel
theorem dX6_endOfLine_36 : decode cX6_endOfLine 36 = .ok (.invokevirtual 124, 3) := by decide +kernel
theorem dX6_endOfLine_39 : decode cX6_endOfLine 39 = .ok (.invokevirtual 100, 3) := by decide +kernel
theorem dX6_endOfLine_42 : decode cX6_endOfLine 42 = .ok (.istore 4, 2) := by decide +kernel
theorem dX6_endOfLine_44 : decode cX6_endOfLine 44 = .ok (.iload_n 2, 1) := by decide +kernel
theorem dX6_endOfLine_45 : decode cX6_endOfLine 45 = .ok (.iconst 1, 1) := by decide +kernel
theorem dX6_endOfLine_46 : decode cX6_endOfLine 46 = .ok (.iadd, 1) := by decide +kernel
theorem dX6_endOfLine_47 : decode cX6_endOfLine 47 = .ok (.istore 5, 2) := by decide +kernel
theorem dX6_endOfLine_49 : decode cX6_endOfLine 49 = .ok (.iconst 1, 1) := by decide +kernel
theorem dX6_endOfLine_50 : decode cX6_endOfLine 50 = .ok (.istore 6, 2) := by decide +kernel
theorem dX6_endOfLine_52 : decode cX6_endOfLine 52 = .ok (.iload 6, 2) := by decide +kernel
theorem dX6_endOfLine_54 : decode cX6_endOfLine 54 = .ok (.ifCond .eq 82, 3) := by decide +kernel
theorem dX6_endOfLine_57 : decode cX6_endOfLine 57 = .ok (.iload 5, 2) := by decide +kernel
theorem dX6_endOfLine_59 : decode cX6_endOfLine 59 = .ok (.aload_n 0, 1) := by decide +kernel
theorem dX6_endOfLine_60 : decode cX6_endOfLine 60 = .ok (.getfield 77, 3) := by decide +kernel
theorem dX6_endOfLine_63 : decode cX6_endOfLine 63 = .ok (.if_icmp .ge 73, 3) := by decide +kernel
theorem dX6_endOfLine_66 : decode cX6_endOfLine 66 = .ok (.iload 4, 2) := by decide +kernel
theorem dX6_endOfLine_68 : decode cX6_endOfLine 68 = .ok (.aload_n 0, 1) := by decide +kernel
theorem dX6_endOfLine_69 : decode cX6_endOfLine 69 = .ok (.iload_n 1, 1) := by decide +kernel
theorem dX6_endOfLine_70 : decode cX6_endOfLine 70 = .ok (.iconst 4, 1) := by decide +kernel
theorem dX6_endOfLine_71 : decode cX6_endOfLine 71 = .ok (.invokevirtual 73, 3) := by decide +kernel
theorem dX6_endOfLine_74 : decode cX6_endOfLine 74 = .ok (.iadd, 1) := by decide +kernel
theorem dX6_endOfLine_75 : decode cX6_endOfLine 75 = .ok (.aload_n 0, 1) := by decide +kernel
theorem dX6_endOfLine_76 : decode cX6_endOfLine 76 = .ok (.aload_n 0, 1) := by decide +kernel
theorem dX6_endOfLine_77 : decode cX6_endOfLine 77 = .ok (.getfield 20, 3) := by decide +kernel
theorem dX6_endOfLine_80 : decode cX6_endOfLine 80 = .ok (.iload 5, 2) := by decide +kernel
theorem dX6_endOfLine_82 : decode cX6_endOfLine 82 = .ok (.iaload, 1) := by decide +kernel
theorem dX6_endOfLine_83 : decode cX6_endOfLine 83 = .ok (.aload_n 0, 1) := by decide +kernel
theorem dX6_endOfLine_84 : decode cX6_endOfLine 84 = .ok (.aload_n 0, 1) := by decide +kernel
theorem dX6_endOfLine_85 : decode cX6_endOfLine 85 = .ok (.getfield 20, 3) := by decide +kernel
theorem dX6_endOfLine_88 : decode cX6_endOfLine 88 = .ok (.iload 5, 2) := by decide +kernel
theorem dX6_endOfLine_90 : decode cX6_endOfLine 90 = .ok (.iaload, 1) := by decide +kernel
theorem dX6_endOfLine_91 : decode cX6_endOfLine 91 = .ok (.iconst 0, 1) := by decide +kernel
theorem dX6_endOfLine_92 : decode cX6_endOfLine 92 = .ok (.invokevirtual 124, 3) := by decide +kernel
theorem dX6_endOfLine_95 : decode cX6_endOfLine 95 = .ok (.invokevirtual 100, 3) := by decide +kernel
theorem dX6_endOfLine_98 : decode cX6_endOfLine 98 = .ok (.iadd, 1) := by decide +kernel
theorem dX6_endOfLine_99 : decode cX6_endOfLine 99 = .ok (.istore 7, 2) := by decide +kernel
theorem dX6_endOfLine_101 : decode cX6_endOfLine 101 = .ok (.iload 7, 2) := by decide +kernel
theorem dX6_endOfLine_103 : decode cX6_endOfLine 103 = .ok (.iload_n 3, 1) := by decide +kernel
theorem dX6_endOfLine_104 : decode cX6_endOfLine 104 = .ok (.if_icmp .gt 7, 3) := by decide +kernel
theorem dX6_endOfLine_107 : decode cX6_endOfLine 107 = .ok (.iconst 1, 1) := by decide +kernel
theorem dX6_endOfLine_108 : decode cX6_endOfLine 108 = .ok (.goto 4, 3) := by decide +kernel
theorem dX6_endOfLine_111 : decode cX6_endOfLine 111 = .ok (.iconst 0, 1) := by decide +kernel
theorem dX6_endOfLine_112 : decode cX6_endOfLine 112 = .ok (.istore 6, 2) := by decide +kernel
theorem dX6_endOfLine_114 : decode cX6_endOfLine 114 = .ok (.iload 7, 2) := by decide +kernel
theorem dX6_endOfLine_116 : decode cX6_endOfLine 116 = .ok (.istore 4, 2) := by decide +kernel
theorem dX6_endOfLine_118 : decode cX6_endOfLine 118 = .ok (.iload 5, 2) := by decide +kernel
theorem dX6_endOfLine_120 : decode cX6_endOfLine 120 = .ok (.iload 6, 2) := by decide +kernel
theorem dX6_endOfLine_122 : decode cX6_endOfLine 122 = .ok (.ifCond .eq 7, 3) := by decide +kernel
theorem dX6_endOfLine_125 : decode cX6_endOfLine 125 = .ok (.iconst 1, 1) := by decide +kernel
theorem dX6_endOfLine_126 : decode cX6_endOfLine 126 = .ok (.goto 4, 3) := by decide +kernel
theorem dX6_endOfLine_129 : decode cX6_endOfLine 129 = .ok (.iconst 0, 1) := by decide +kernel
theorem dX6_endOfLine_130 : decode cX6_endOfLine 130 = .ok (.iadd, 1) := by decide +kernel
theorem dX6_endOfLine_131 : decode cX6_endOfLine 131 = .ok (.istore 5, 2) := by decide +kernel
theorem dX6_endOfLine_133 : decode cX6_endOfLine 133 = .ok (.goto (-81), 3) := by decide +kernel
theorem dX6_endOfLine_136 : decode cX6_endOfLine 136 = .ok (.iload 5, 2) := by decide +kernel
theorem dX6_endOfLine_138 : decode cX6_endOfLine 138 = .ok (.ireturn, 1) := by decide +kernel
theorem dX6_findLines_0 : decode cX6_findLines 0 = .ok (.iconst 0, 1) := by decide +kernel
theorem dX6_findLines_1 : decode cX6_findLines 1 = .ok (.istore_n 2, 1) := by decide +kernel
theorem dX6_findLines_2 : decode cX6_findLines 2 = .ok (.iconst 0, 1) := by decide +kernel
theorem dX6_findLines_3 : decode cX6_findLines 3 = .ok (.istore_n 3, 1) := by decide +kernel
theorem dX6_findLines_4 : decode cX6_findLines 4 = .ok (.iload_n 2, 1) := by decide +kernel
theorem dX6_findLines_5 : decode cX6_findLines 5 = .ok (.aload_n 0, 1) := by decide +kernel
theorem dX6_findLines_6 : decode cX6_findLines 6 = .ok (.getfield 77, 3) := by decide +kernel
theorem dX6_findLines_9 : decode cX6_findLines 9 = .ok (.if_icmp .ge 64, 3) := by decide +kernel
theorem dX6_findLines_12 : decode cX6_findLines 12 = .ok (.aload_n 0, 1) := by decide +kernel
theorem dX6_findLines_13 : decode cX6_findLines 13 = .ok (.iload_n 1, 1) := by decide +kernel
theorem dX6_findLines_14 : decode cX6_findLines 14 = .ok (.iload_n 2, 1) := by decide +kernel
theorem dX6_findLines_15 : decode cX6_findLines 15 = .ok (.invokevirtual 144, 3) := by decide +kernel
theorem dX6_findLines_18 : decode cX6_findLines 18 = .ok (.istore 4, 2) := by decide +kernel
theorem dX6_findLines_20 : decode cX6_findLines 20 = .ok (.iload_n 2, 1) := by decide +kernel
theorem dX6_findLines_21 : decode cX6_findLines 21 = .ok (.istore 5, 2) := by decide +kernel
theorem dX6_findLines_23 : decode cX6_findLines 23 = .ok (.iload 5, 2) := by decide +kernel
theorem dX6_findLines_25 : decode cX6_findLines 25 = .ok (.iload 4, 2) := by decide +kernel
theorem dX6_findLines_27 : decode cX6_findLines 27 = .ok (.if_icmp .ge 22, 3) := by decide +kernel
theorem dX6_findLines_30 : decode cX6_findLines 30 = .ok (.aload_n 0, 1) := by decide +kernel
theorem dX6_findLines_31 : decode cX6_findLines 31 = .ok (.getfield 35, 3) := by decide +kernel
theorem dX6_findLines_34 : decode cX6_findLines 34 = .ok (.aload_n 0, 1) := by decide +kernel
theorem dX6_findLines_35 : decode cX6_findLines 35 = .ok (.getfield 20, 3) := by decide +kernel
theorem dX6_findLines_38 : decode cX6_findLines 38 = .ok (.iload 5, 2) := by decide +kernel
theorem dX6_findLines_40 : decode cX6_findLines 40 = .ok (.iaload, 1) := by decide +kernel
theorem dX6_findLines_41 : decode cX6_findLines 41 = .ok (.iload_n 3, 1) := by decide +kernel
theorem dX6_findLines_42 : decode cX6_findLines 42 = .ok (.iastore, 1) := by decide +kernel
theorem dX6_findLines_43 : decode cX6_findLines 43 = .ok (.iinc 5 1, 3) := by decide +kernel
theorem dX6_findLines_46 : decode cX6_findLines 46 = .ok (.goto (-23), 3) := by decide +kernel
theorem dX6_findLines_49 : decode cX6_findLines 49 = .ok (.aload_n 0, 1) := by decide +kernel
theorem dX6_findLines_50 : decode cX6_findLines 50 = .ok (.iload_n 1, 1) := by decide +kernel
theorem dX6_findLines_51 : decode cX6_findLines 51 = .ok (.iload_n 2, 1) := by decide +kernel
theorem dX6_findLines_52 : decode cX6_findLines 52 = .ok (.iload 4, 2) := by decide +kernel
theorem dX6_findLines_54 : decode cX6_findLines 54 = .ok (.iconst 0, 1) := by decide +kernel
theorem dX6_findLines_55 : decode cX6_findLines 55 = .ok (.aload_n 0, 1) := by decide +kernel
theorem dX6_findLines_56 : decode cX6_findLines 56 = .ok (.iload_n 1, 1) := by decide +kernel
theorem dX6_findLines_57 : decode cX6_findLines 57 = .ok (.iconst 0, 1) := by decide +kernel
theorem dX6_findLines_58 : decode cX6_findLines 58 = .ok (.invokevirtual 141, 3) := by decide +kernel
theorem dX6_findLines_61 : decode cX6_findLines 61 = .ok (.invokevirtual 147, 3) := by decide +kernel
theorem dX6_findLines_64 : decode cX6_findLines 64 = .ok (.iload 4, 2) := by decide +kernel
theorem dX6_findLines_66 : decode cX6_findLines 66 = .ok (.istore_n 2, 1) := by decide +kernel
theorem dX6_findLines_67 : decode cX6_findLines 67 = .ok (.iinc 3 1, 3) := by decide +kernel
theorem dX6_findLines_70 : decode cX6_findLines 70 = .ok (.goto (-66), 3) := by decide +kernel
theorem dX6_findLines_73 : decode cX6_findLines 73 = .ok (.aload_n 0, 1) := by decide +kernel
theorem dX6_findLines_74 : decode cX6_findLines 74 = .ok (.getfield 38, 3) := by decide +kernel
theorem dX6_findLines_77 : decode cX6_findLines 77 = .ok (.iload_n 1, 1) := by decide +kernel
theorem dX6_findLines_78 : decode cX6_findLines 78 = .ok (.iload_n 3, 1) := by decide +kernel
theorem dX6_findLines_79 : decode cX6_findLines 79 = .ok (.iastore, 1) := by decide +kernel
theorem dX6_findLines_80 : decode cX6_findLines 80 = .ok (.return_, 1) := by decide +kernel
theorem dX6_findColumnWidths_0 : decode cX6_findColumnWidths 0 = .ok (.iconst 0, 1) := by decide +kernel
theorem dX6_findColumnWidths_1 : decode cX6_findColumnWidths 1 = .ok (.istore_n 2, 1) := by decide +kernel
theorem dX6_findColumnWidths_2 : decode cX6_findColumnWidths 2 = .ok (.iload_n 2, 1) := by decide +kernel
theorem dX6_findColumnWidths_3 : decode cX6_findColumnWidths 3 = .ok (.aload_n 0, 1) := by decide +kernel
theorem dX6_findColumnWidths_4 : decode cX6_findColumnWidths 4 = .ok (.getfield 77, 3) := by decide +kernel
theorem dX6_findColumnWidths_7 : decode cX6_findColumnWidths 7 = .ok (.if_icmp .ge 116, 3) := by decide +kernel
theorem dX6_findColumnWidths_10 : decode cX6_findColumnWidths 10 = .ok (.aload_n 0, 1) := by decide +kernel
theorem dX6_findColumnWidths_11 : decode cX6_findColumnWidths 11 = .ok (.getfield 20, 3) := by decide +kernel
theorem dX6_findColumnWidths_14 : decode cX6_findColumnWidths 14 = .ok (.iload_n 2, 1) := by decide +kernel
theorem dX6_findColumnWidths_15 : decode cX6_findColumnWidths 15 = .ok (.iaload, 1) := by decide +kernel
theorem dX6_findColumnWidths_16 : decode cX6_findColumnWidths 16 = .ok (.istore_n 3, 1) := by decide +kernel
theorem dX6_findColumnWidths_17 : decode cX6_findColumnWidths 17 = .ok (.aload_n 0, 1) := by decide +kernel
theorem dX6_findColumnWidths_18 : decode cX6_findColumnWidths 18 = .ok (.iload_n 1, 1) := by decide +kernel
theorem dX6_findColumnWidths_19 : decode cX6_findColumnWidths 19 = .ok (.iconst 0, 1) := by decide +kernel
theorem dX6_findColumnWidths_20 : decode cX6_findColumnWidths 20 = .ok (.invokevirtual 141, 3) := by decide +kernel
theorem dX6_findColumnWidths_23 : decode cX6_findColumnWidths 23 = .ok (.iconst 2, 1) := by decide +kernel
theorem dX6_findColumnWidths_24 : decode cX6_findColumnWidths 24 = .ok (.aload_n 0, 1) := by decide +kernel
theorem dX6_findColumnWidths_25 : decode cX6_findColumnWidths 25 = .ok (.iload_n 3, 1) := by decide +kernel
theorem dX6_findColumnWidths_26 : decode cX6_findColumnWidths 26 = .ok (.bipush 6, 2) := by decide +kernel
theorem dX6_findColumnWidths_28 : decode cX6_findColumnWidths 28 = .ok (.invokevirtual 73, 3) := by decide +kernel
theorem dX6_findColumnWidths_31 : decode cX6_findColumnWidths 31 = .ok (.imul, 1) := by decide +kernel
theorem dX6_findColumnWidths_32 : decode cX6_findColumnWidths 32 = .ok (.isub, 1) := by decide +kernel
theorem dX6_findColumnWidths_33 : decode cX6_findColumnWidths 33 = .ok (.invokestatic 97, 3) := by decide +kernel
theorem dX6_findColumnWidths_36 : decode cX6_findColumnWidths 36 = .ok (.istore 4, 2) := by decide +kernel
theorem dX6_findColumnWidths_38 : decode cX6_findColumnWidths 38 = .ok (.aload_n 0, 1) := by decide +kernel
theorem dX6_findColumnWidths_39 : decode cX6_findColumnWidths 39 = .ok (.getfield 26, 3) := by decide +kernel
theorem dX6_findColumnWidths_42 : decode cX6_findColumnWidths 42 = .ok (.iconst 2, 1) := by decide +kernel
theorem dX6_findColumnWidths_43 : decode cX6_findColumnWidths 43 = .ok (.iload_n 3, 1) := by decide +kernel
theorem dX6_findColumnWidths_44 : decode cX6_findColumnWidths 44 = .ok (.imul, 1) := by decide +kernel
theorem dX6_findColumnWidths_45 : decode cX6_findColumnWidths 45 = .ok (.iaload, 1) := by decide +kernel
theorem dX6_findColumnWidths_46 : decode cX6_findColumnWidths 46 = .ok (.istore 5, 2) := by decide +kernel
theorem dX6_findColumnWidths_48 : decode cX6_findColumnWidths 48 = .ok (.aload_n 0, 1) := by decide +kernel
theorem dX6_findColumnWidths_49 : decode cX6_findColumnWidths 49 = .ok (.iload_n 3, 1) := by decide +kernel
theorem dX6_findColumnWidths_50 : decode cX6_findColumnWidths 50 = .ok (.bipush 10, 2) := by decide +kernel
theorem dX6_findColumnWidths_52 : decode cX6_findColumnWidths 52 = .ok (.invokevirtual 73, 3) := by decide +kernel
theorem dX6_findColumnWidths_55 : decode cX6_findColumnWidths 55 = .ok (.iconst (-1), 1) := by decide +kernel
theorem dX6_findColumnWidths_56 : decode cX6_findColumnWidths 56 = .ok (.if_icmp .eq 13, 3) := by decide +kernel
theorem dX6_findColumnWidths_59 : decode cX6_findColumnWidths 59 = .ok (.aload_n 0, 1) := by decide +kernel
theorem dX6_findColumnWidths_60 : decode cX6_findColumnWidths 60 = .ok (.iload_n 3, 1) := by decide +kernel
theorem dX6_findColumnWidths_61 : decode cX6_findColumnWidths 61 = .ok (.bipush 10, 2) := by decide +kernel
theorem dX6_findColumnWidths_63 : decode cX6_findColumnWidths 63 = .ok (.invokevirtual 73, 3) := by decide +kernel
theorem dX6_findColumnWidths_66 : decode cX6_findColumnWidths 66 = .ok (.goto 26, 3) := by decide +kernel
theorem dX6_findColumnWidths_69 : decode cX6_findColumnWidths 69 = .ok (.aload_n 0, 1) := by decide +kernel
theorem dX6_findColumnWidths_70 : decode cX6_findColumnWidths 70 = .ok (.iload_n 3, 1) := by decide +kernel
theorem dX6_findColumnWidths_71 : decode cX6_findColumnWidths 71 = .ok (.invokevirtual 151, 3) := by decide +kernel
theorem dX6_findColumnWidths_74 : decode cX6_findColumnWidths 74 = .ok (.iconst 3, 1) := by decide +kernel
theorem dX6_findColumnWidths_75 : decode cX6_findColumnWidths 75 = .ok (.if_icmp .eq 10, 3) := by decide +kernel
theorem dX6_findColumnWidths_78 : decode cX6_findColumnWidths 78 = .ok (.iload 4, 2) := by decide +kernel
theorem dX6_findColumnWidths_80 : decode cX6_findColumnWidths 80 = .ok (.iload 5, 2) := by decide +kernel
theorem dX6_findColumnWidths_82 : decode cX6_findColumnWidths 82 = .ok (.if_icmp .ge 8, 3) := by decide +kernel
theorem dX6_findColumnWidths_85 : decode cX6_findColumnWidths 85 = .ok (.iload 4, 2) := by decide +kernel
theorem dX6_findColumnWidths_87 : decode cX6_findColumnWidths 87 = .ok (.goto 5, 3) := by decide +kernel
theorem dX6_findColumnWidths_90 : decode cX6_findColumnWidths 90 = .ok (.iload 5, 2) := by decide +kernel
theorem dX6_findColumnWidths_92 : decode cX6_findColumnWidths 92 = .ok (.istore 6, 2) := by decide +kernel
theorem dX6_findColumnWidths_94 : decode cX6_findColumnWidths 94 = .ok (.aload_n 0, 1) := by decide +kernel
theorem dX6_findColumnWidths_95 : decode cX6_findColumnWidths 95 = .ok (.getfield 29, 3) := by decide +kernel
theorem dX6_findColumnWidths_98 : decode cX6_findColumnWidths 98 = .ok (.iconst 2, 1) := by decide +kernel
theorem dX6_findColumnWidths_99 : decode cX6_findColumnWidths 99 = .ok (.iload_n 3, 1) := by decide +kernel
theorem dX6_findColumnWidths_100 : decode cX6_findColumnWidths 100 = .ok (.imul, 1) := by decide +kernel
theorem dX6_findColumnWidths_101 : decode cX6_findColumnWidths 101 = .ok (.aload_n 0, 1) := by decide +kernel
theorem dX6_findColumnWidths_102 : decode cX6_findColumnWidths 102 = .ok (.iload_n 3, 1) := by decide +kernel
theorem dX6_findColumnWidths_103 : decode cX6_findColumnWidths 103 = .ok (.iconst 0, 1) := by decide +kernel
theorem dX6_findColumnWidths_104 : decode cX6_findColumnWidths 104 = .ok (.iload 6, 2) := by decide +kernel
theorem dX6_findColumnWidths_106 : decode cX6_findColumnWidths 106 = .ok (.invokevirtual 106, 3) := by decide +kernel
theorem dX6_findColumnWidths_109 : decode cX6_findColumnWidths 109 = .ok (.iastore, 1) := by decide +kernel
theorem dX6_findColumnWidths_110 : decode cX6_findColumnWidths 110 = .ok (.aload_n 0, 1) := by decide +kernel
theorem dX6_findColumnWidths_111 : decode cX6_findColumnWidths 111 = .ok (.getfield 35, 3) := by decide +kernel
theorem dX6_findColumnWidths_114 : decode cX6_findColumnWidths 114 = .ok (.iload_n 3, 1) := by decide +kernel
theorem dX6_findColumnWidths_115 : decode cX6_findColumnWidths 115 = .ok (.iload_n 2, 1) := by decide +kernel
theorem dX6_findColumnWidths_116 : decode cX6_findColumnWidths 116 = .ok (.iastore, 1) := by decide +kernel
theorem dX6_findColumnWidths_117 : decode cX6_findColumnWidths 117 = .ok (.iinc 2 1, 3) := by decide +kernel
theorem dX6_findColumnWidths_120 : decode cX6_findColumnWidths 120 = .ok (.goto (-118), 3) := by decide +kernel
theorem dX6_findColumnWidths_123 : decode cX6_findColumnWidths 123 = .ok (.aload_n 0, 1) := by decide +kernel
theorem dX6_findColumnWidths_124 : decode cX6_findColumnWidths 124 = .ok (.getfield 38, 3) := by decide +kernel
theorem dX6_findColumnWidths_127 : decode cX6_findColumnWidths 127 = .ok (.iload_n 1, 1) := by decide +kernel
theorem dX6_findColumnWidths_128 : decode cX6_findColumnWidths 128 = .ok (.aload_n 0, 1) := by decide +kernel
theorem dX6_findColumnWidths_129 : decode cX6_findColumnWidths 129 = .ok (.getfield 77, 3) := by decide +kernel
theorem dX6_findColumnWidths_132 : decode cX6_findColumnWidths 132 = .ok (.iastore, 1) := by decide +kernel
theorem dX6_findColumnWidths_133 : decode cX6_findColumnWidths 133 = .ok (.return_, 1) := by decide +kernel
theorem dX6_textLines_0 : decode cX6_textLines 0 = .ok (.aload_n 0, 1) := by decide +kernel
theorem dX6_textLines_1 : decode cX6_textLines 1 = .ok (.iload_n 1, 1) := by decide +kernel
theorem dX6_textLines_2 : decode cX6_textLines 2 = .ok (.iconst 0, 1) := by decide +kernel
theorem dX6_textLines_3 : decode cX6_textLines 3 = .ok (.invokevirtual 141, 3) := by decide +kernel
theorem dX6_textLines_6 : decode cX6_textLines 6 = .ok (.bipush 8, 2) := by decide +kernel
theorem dX6_textLines_8 : decode cX6_textLines 8 = .ok (.idiv, 1) := by decide +kernel
theorem dX6_textLines_9 : decode cX6_textLines 9 = .ok (.istore_n 2, 1) := by decide +kernel
theorem dX6_textLines_10 : decode cX6_textLines 10 = .ok (.iload_n 2, 1) := by decide +kernel
theorem dX6_textLines_11 : decode cX6_textLines 11 = .ok (.iconst 1, 1) := by decide +kernel
theorem dX6_textLines_12 : decode cX6_textLines 12 = .ok (.if_icmp .ge 7, 3) := by decide +kernel
theorem dX6_textLines_15 : decode cX6_textLines 15 = .ok (.iconst 1, 1) := by decide +kernel
theorem dX6_textLines_16 : decode cX6_textLines 16 = .ok (.goto 4, 3) := by decide +kernel
theorem dX6_textLines_19 : decode cX6_textLines 19 = .ok (.iload_n 2, 1) := by decide +kernel
theorem dX6_textLines_20 : decode cX6_textLines 20 = .ok (.istore_n 2, 1) := by decide +kernel
theorem dX6_textLines_21 : decode cX6_textLines 21 = .ok (.aload_n 0, 1) := by decide +kernel
theorem dX6_textLines_22 : decode cX6_textLines 22 = .ok (.iload_n 1, 1) := by decide +kernel
theorem dX6_textLines_23 : decode cX6_textLines 23 = .ok (.bipush 19, 2) := by decide +kernel
theorem dX6_textLines_25 : decode cX6_textLines 25 = .ok (.invokevirtual 73, 3) := by decide +kernel
theorem dX6_textLines_28 : decode cX6_textLines 28 = .ok (.iload_n 2, 1) := by decide +kernel
theorem dX6_textLines_29 : decode cX6_textLines 29 = .ok (.iadd, 1) := by decide +kernel
theorem dX6_textLines_30 : decode cX6_textLines 30 = .ok (.iconst 1, 1) := by decide +kernel
theorem dX6_textLines_31 : decode cX6_textLines 31 = .ok (.isub, 1) := by decide +kernel
theorem dX6_textLines_32 : decode cX6_textLines 32 = .ok (.iload_n 2, 1) := by decide +kernel
theorem dX6_textLines_33 : decode cX6_textLines 33 = .ok (.idiv, 1) := by decide +kernel
theorem dX6_textLines_34 : decode cX6_textLines 34 = .ok (.ireturn, 1) := by decide +kernel
theorem dX6_findWidths_0 : decode cX6_findWidths 0 = .ok (.aload_n 0, 1) := by decide +kernel
theorem dX6_findWidths_1 : decode cX6_findWidths 1 = .ok (.getfield 29, 3) := by decide +kernel
theorem dX6_findWidths_4 : decode cX6_findWidths 4 = .ok (.iconst 0, 1) := by decide +kernel
theorem dX6_findWidths_5 : decode cX6_findWidths 5 = .ok (.aload_n 0, 1) := by decide +kernel
theorem dX6_findWidths_6 : decode cX6_findWidths 6 = .ok (.getfield 7, 3) := by decide +kernel
theorem dX6_findWidths_9 : decode cX6_findWidths 9 = .ok (.iconst 1, 1) := by decide +kernel
theorem dX6_findWidths_10 : decode cX6_findWidths 10 = .ok (.iaload, 1) := by decide +kernel
theorem dX6_findWidths_11 : decode cX6_findWidths 11 = .ok (.iastore, 1) := by decide +kernel
theorem dX6_findWidths_12 : decode cX6_findWidths 12 = .ok (.aload_n 0, 1) := by decide +kernel
theorem dX6_findWidths_13 : decode cX6_findWidths 13 = .ok (.getfield 35, 3) := by decide +kernel
theorem dX6_findWidths_16 : decode cX6_findWidths 16 = .ok (.iconst 0, 1) := by decide +kernel
theorem dX6_findWidths_17 : decode cX6_findWidths 17 = .ok (.iconst 0, 1) := by decide +kernel
theorem dX6_findWidths_18 : decode cX6_findWidths 18 = .ok (.iastore, 1) := by decide +kernel
theorem dX6_findWidths_19 : decode cX6_findWidths 19 = .ok (.iconst 0, 1) := by decide +kernel
theorem dX6_findWidths_20 : decode cX6_findWidths 20 = .ok (.istore_n 1, 1) := by decide +kernel
theorem dX6_findWidths_21 : decode cX6_findWidths 21 = .ok (.iload_n 1, 1) := by decide +kernel
theorem dX6_findWidths_22 : decode cX6_findWidths 22 = .ok (.aload_n 0, 1) := by decide +kernel
theorem dX6_findWidths_23 : decode cX6_findWidths 23 = .ok (.getfield 7, 3) := by decide +kernel
theorem dX6_findWidths_26 : decode cX6_findWidths 26 = .ok (.iconst 0, 1) := by decide +kernel
theorem dX6_findWidths_27 : decode cX6_findWidths 27 = .ok (.iaload, 1) := by decide +kernel
theorem dX6_findWidths_28 : decode cX6_findWidths 28 = .ok (.if_icmp .ge 68, 3) := by decide +kernel
theorem dX6_findWidths_31 : decode cX6_findWidths 31 = .ok (.aload_n 0, 1) := by decide +kernel
theorem dX6_findWidths_32 : decode cX6_findWidths 32 = .ok (.getfield 23, 3) := by decide +kernel
theorem dX6_findWidths_35 : decode cX6_findWidths 35 = .ok (.iload_n 1, 1) := by decide +kernel
theorem dX6_findWidths_36 : decode cX6_findWidths 36 = .ok (.baload, 1) := by decide +kernel
theorem dX6_findWidths_37 : decode cX6_findWidths 37 = .ok (.ifCond .eq 53, 3) := by decide +kernel
theorem dX6_findWidths_40 : decode cX6_findWidths 40 = .ok (.aload_n 0, 1) := by decide +kernel
theorem dX6_findWidths_41 : decode cX6_findWidths 41 = .ok (.iload_n 1, 1) := by decide +kernel
theorem dX6_findWidths_42 : decode cX6_findWidths 42 = .ok (.invokevirtual 87, 3) := by decide +kernel
theorem dX6_findWidths_45 : decode cX6_findWidths 45 = .ok (.aload_n 0, 1) := by decide +kernel
theorem dX6_findWidths_46 : decode cX6_findWidths 46 = .ok (.iload_n 1, 1) := by decide +kernel
theorem dX6_findWidths_47 : decode cX6_findWidths 47 = .ok (.invokevirtual 110, 3) := by decide +kernel
theorem dX6_findWidths_50 : decode cX6_findWidths 50 = .ok (.ifCond .eq 17, 3) := by decide +kernel
theorem dX6_findWidths_53 : decode cX6_findWidths 53 = .ok (.aload_n 0, 1) := by decide +kernel
theorem dX6_findWidths_54 : decode cX6_findWidths 54 = .ok (.getfield 38, 3) := by decide +kernel
theorem dX6_findWidths_57 : decode cX6_findWidths 57 = .ok (.iload_n 1, 1) := by decide +kernel
theorem dX6_findWidths_58 : decode cX6_findWidths 58 = .ok (.aload_n 0, 1) := by decide +kernel
theorem dX6_findWidths_59 : decode cX6_findWidths 59 = .ok (.iload_n 1, 1) := by decide +kernel
theorem dX6_findWidths_60 : decode cX6_findWidths 60 = .ok (.invokevirtual 154, 3) := by decide +kernel
theorem dX6_findWidths_63 : decode cX6_findWidths 63 = .ok (.iastore, 1) := by decide +kernel
theorem dX6_findWidths_64 : decode cX6_findWidths 64 = .ok (.goto 26, 3) := by decide +kernel
theorem dX6_findWidths_67 : decode cX6_findWidths 67 = .ok (.aload_n 0, 1) := by decide +kernel
theorem dX6_findWidths_68 : decode cX6_findWidths 68 = .ok (.iload_n 1, 1) := by decide +kernel
theorem dX6_findWidths_69 : decode cX6_findWidths 69 = .ok (.iconst 0, 1) := by decide +kernel
theorem dX6_findWidths_70 : decode cX6_findWidths 70 = .ok (.invokevirtual 73, 3) := by decide +kernel
theorem dX6_findWidths_73 : decode cX6_findWidths 73 = .ok (.iconst 1, 1) := by decide +kernel
theorem dX6_findWidths_74 : decode cX6_findWidths 74 = .ok (.if_icmp .ne 11, 3) := by decide +kernel
theorem dX6_findWidths_77 : decode cX6_findWidths 77 = .ok (.aload_n 0, 1) := by decide +kernel
theorem dX6_findWidths_78 : decode cX6_findWidths 78 = .ok (.iload_n 1, 1) := by decide +kernel
theorem dX6_findWidths_79 : decode cX6_findWidths 79 = .ok (.invokevirtual 157, 3) := by decide +kernel
theorem dX6_findWidths_82 : decode cX6_findWidths 82 = .ok (.goto 8, 3) := by decide +kernel
theorem dX6_findWidths_85 : decode cX6_findWidths 85 = .ok (.aload_n 0, 1) := by decide +kernel
theorem dX6_findWidths_86 : decode cX6_findWidths 86 = .ok (.iload_n 1, 1) := by decide +kernel
theorem dX6_findWidths_87 : decode cX6_findWidths 87 = .ok (.invokevirtual 160, 3) := by decide +kernel
theorem dX6_findWidths_90 : decode cX6_findWidths 90 = .ok (.iinc 1 1, 3) := by decide +kernel
theorem dX6_findWidths_93 : decode cX6_findWidths 93 = .ok (.goto (-72), 3) := by decide +kernel
theorem dX6_findWidths_96 : decode cX6_findWidths 96 = .ok (.return_, 1) := by decide +kernel
theorem dX6_lineHeight_0 : decode cX6_lineHeight 0 = .ok (.iconst 0, 1) := by decide +kernel
theorem dX6_lineHeight_1 : decode cX6_lineHeight 1 = .ok (.istore_n 2, 1) := by decide +kernel
theorem dX6_lineHeight_2 : decode cX6_lineHeight 2 = .ok (.iconst 0, 1) := by decide +kernel
theorem dX6_lineHeight_3 : decode cX6_lineHeight 3 = .ok (.istore_n 3, 1) := by decide +kernel
theorem dX6_lineHeight_4 : decode cX6_lineHeight 4 = .ok (.iload_n 3, 1) := by decide +kernel
theorem dX6_lineHeight_5 : decode cX6_lineHeight 5 = .ok (.aload_n 0, 1) := by decide +kernel
theorem dX6_lineHeight_6 : decode cX6_lineHeight 6 = .ok (.getfield 77, 3) := by decide +kernel
theorem dX6_lineHeight_9 : decode cX6_lineHeight 9 = .ok (.if_icmp .ge 64, 3) := by decide +kernel
theorem dX6_lineHeight_12 : decode cX6_lineHeight 12 = .ok (.aload_n 0, 1) := by decide +kernel
theorem dX6_lineHeight_13 : decode cX6_lineHeight 13 = .ok (.aload_n 0, 1) := by decide +kernel
theorem dX6_lineHeight_14 : decode cX6_lineHeight 14 = .ok (.getfield 20, 3) := by decide +kernel
theorem dX6_lineHeight_17 : decode cX6_lineHeight 17 = .ok (.iload_n 3, 1) := by decide +kernel
theorem dX6_lineHeight_18 : decode cX6_lineHeight 18 = .ok (.iaload, 1) := by decide +kernel
theorem dX6_lineHeight_19 : decode cX6_lineHeight 19 = .ok (.aload_n 0, 1) := by decide +kernel
theorem dX6_lineHeight_20 : decode cX6_lineHeight 20 = .ok (.getfield 26, 3) := by decide +kernel
theorem dX6_lineHeight_23 : decode cX6_lineHeight 23 = .ok (.iconst 2, 1) := by decide +kernel
theorem dX6_lineHeight_24 : decode cX6_lineHeight 24 = .ok (.aload_n 0, 1) := by decide +kernel
theorem dX6_lineHeight_25 : decode cX6_lineHeight 25 = .ok (.getfield 20, 3) := by decide +kernel
theorem dX6_lineHeight_28 : decode cX6_lineHeight 28 = .ok (.iload_n 3, 1) := by decide +kernel
theorem dX6_lineHeight_29 : decode cX6_lineHeight 29 = .ok (.iaload, 1) := by decide +kernel
theorem dX6_lineHeight_30 : decode cX6_lineHeight 30 = .ok (.imul, 1) := by decide +kernel
theorem dX6_lineHeight_31 : decode cX6_lineHeight 31 = .ok (.iconst 1, 1) := by decide +kernel
theorem dX6_lineHeight_32 : decode cX6_lineHeight 32 = .ok (.iadd, 1) := by decide +kernel
theorem dX6_lineHeight_33 : decode cX6_lineHeight 33 = .ok (.iaload, 1) := by decide +kernel
theorem dX6_lineHeight_34 : decode cX6_lineHeight 34 = .ok (.invokevirtual 100, 3) := by decide +kernel
theorem dX6_lineHeight_37 : decode cX6_lineHeight 37 = .ok (.istore 4, 2) := by decide +kernel
theorem dX6_lineHeight_39 : decode cX6_lineHeight 39 = .ok (.aload_n 0, 1) := by decide +kernel
theorem dX6_lineHeight_40 : decode cX6_lineHeight 40 = .ok (.getfield 35, 3) := by decide +kernel
theorem dX6_lineHeight_43 : decode cX6_lineHeight 43 = .ok (.aload_n 0, 1) := by decide +kernel
theorem dX6_lineHeight_44 : decode cX6_lineHeight 44 = .ok (.getfield 20, 3) := by decide +kernel
theorem dX6_lineHeight_47 : decode cX6_lineHeight 47 = .ok (.iload_n 3, 1) := by decide +kernel
theorem dX6_lineHeight_48 : decode cX6_lineHeight 48 = .ok (.iaload, 1) := by decide +kernel
theorem dX6_lineHeight_49 : decode cX6_lineHeight 49 = .ok (.iaload, 1) := by decide +kernel
theorem dX6_lineHeight_50 : decode cX6_lineHeight 50 = .ok (.iload_n 1, 1) := by decide +kernel
theorem dX6_lineHeight_51 : decode cX6_lineHeight 51 = .ok (.if_icmp .ne 14, 3) := by decide +kernel
theorem dX6_lineHeight_54 : decode cX6_lineHeight 54 = .ok (.iload 4, 2) := by decide +kernel
theorem dX6_lineHeight_56 : decode cX6_lineHeight 56 = .ok (.iload_n 2, 1) := by decide +kernel
theorem dX6_lineHeight_57 : decode cX6_lineHeight 57 = .ok (.if_icmp .le 8, 3) := by decide +kernel
theorem dX6_lineHeight_60 : decode cX6_lineHeight 60 = .ok (.iload 4, 2) := by decide +kernel
theorem dX6_lineHeight_62 : decode cX6_lineHeight 62 = .ok (.goto 4, 3) := by decide +kernel
theorem dX6_lineHeight_65 : decode cX6_lineHeight 65 = .ok (.iload_n 2, 1) := by decide +kernel
theorem dX6_lineHeight_66 : decode cX6_lineHeight 66 = .ok (.istore_n 2, 1) := by decide +kernel
theorem dX6_lineHeight_67 : decode cX6_lineHeight 67 = .ok (.iinc 3 1, 3) := by decide +kernel
theorem dX6_lineHeight_70 : decode cX6_lineHeight 70 = .ok (.goto (-66), 3) := by decide +kernel
theorem dX6_lineHeight_73 : decode cX6_lineHeight 73 = .ok (.iload_n 2, 1) := by decide +kernel
theorem dX6_lineHeight_74 : decode cX6_lineHeight 74 = .ok (.ireturn, 1) := by decide +kernel
theorem dX6_rowContent_0 : decode cX6_rowContent 0 = .ok (.aload_n 0, 1) := by decide +kernel
theorem dX6_rowContent_1 : decode cX6_rowContent 1 = .ok (.iload_n 1, 1) := by decide +kernel
theorem dX6_rowContent_2 : decode cX6_rowContent 2 = .ok (.aload_n 0, 1) := by decide +kernel
theorem dX6_rowContent_3 : decode cX6_rowContent 3 = .ok (.getfield 38, 3) := by decide +kernel
theorem dX6_rowContent_6 : decode cX6_rowContent 6 = .ok (.iload_n 1, 1) := by decide +kernel
theorem dX6_rowContent_7 : decode cX6_rowContent 7 = .ok (.iaload, 1) := by decide +kernel
theorem dX6_rowContent_8 : decode cX6_rowContent 8 = .ok (.invokevirtual 103, 3) := by decide +kernel
theorem dX6_rowContent_11 : decode cX6_rowContent 11 = .ok (.istore_n 2, 1) := by decide +kernel
