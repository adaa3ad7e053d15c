theorem dX2_breakLines_113 : decode cX2_breakLines 113 = .ok (.iconst 1, 1) := by decide +kernel
theorem dX2_breakLines_114 : decode cX2_breakLines 114 = .ok (.iadd, 1) := by decide +kernel
theorem dX2_breakLines_115 : decode cX2_breakLines 115 = .ok (.putfield 122, 3) := by decide +kernel
theorem dX2_breakLines_118 : decode cX2_breakLines 118 = .ok (.return_, 1) := by decide +kernel
theorem dX2_lineEnd_0 : decode cX2_lineEnd 0 = .ok (.aload_n 0, 1) := by decide +kernel
theorem dX2_lineEnd_1 : decode cX2_lineEnd 1 = .ok (.astore_n 1, 1) := by decide +kernel
theorem dX2_lineEnd_2 : decode cX2_lineEnd 2 = .ok (.aload_n 1, 1) := by decide +kernel
theorem dX2_lineEnd_3 : decode cX2_lineEnd 3 = .ok (.ifnull 22, 3) := by decide +kernel
theorem dX2_lineEnd_6 : decode cX2_lineEnd 6 = .ok (.aload_n 1, 1) := by decide +kernel
theorem dX2_lineEnd_7 : decode cX2_lineEnd 7 = .ok (.getfield 142, 3) := by decide +kernel
theorem dX2_lineEnd_10 : decode cX2_lineEnd 10 = .ok (.aload_n 0, 1) := by decide +kernel
theorem dX2_lineEnd_11 : decode cX2_lineEnd 11 = .ok (.getfield 142, 3) := by decide +kernel
theorem dX2_lineEnd_14 : decode cX2_lineEnd 14 = .ok (.if_icmp .ne 11, 3) := by decide +kernel
theorem dX2_lineEnd_17 : decode cX2_lineEnd 17 = .ok (.aload_n 1, 1) := by decide +kernel
theorem dX2_lineEnd_18 : decode cX2_lineEnd 18 = .ok (.getfield 113, 3) := by decide +kernel
theorem dX2_lineEnd_21 : decode cX2_lineEnd 21 = .ok (.astore_n 1, 1) := by decide +kernel
theorem dX2_lineEnd_22 : decode cX2_lineEnd 22 = .ok (.goto (-20), 3) := by decide +kernel
theorem dX2_lineEnd_25 : decode cX2_lineEnd 25 = .ok (.aload_n 1, 1) := by decide +kernel
theorem dX2_lineEnd_26 : decode cX2_lineEnd 26 = .ok (.areturn, 1) := by decide +kernel
theorem dX2_flexKids_0 : decode cX2_flexKids 0 = .ok (.aload_n 0, 1) := by decide +kernel
theorem dX2_flexKids_1 : decode cX2_flexKids 1 = .ok (.getfield 12, 3) := by decide +kernel
theorem dX2_flexKids_4 : decode cX2_flexKids 4 = .ok (.invokevirtual 152, 3) := by decide +kernel
theorem dX2_flexKids_7 : decode cX2_flexKids 7 = .ok (.aload_n 1, 1) := by decide +kernel
theorem dX2_flexKids_8 : decode cX2_flexKids 8 = .ok (.astore 6, 2) := by decide +kernel
theorem dX2_flexKids_10 : decode cX2_flexKids 10 = .ok (.aload 6, 2) := by decide +kernel
theorem dX2_flexKids_12 : decode cX2_flexKids 12 = .ok (.ifnull 29, 3) := by decide +kernel
theorem dX2_flexKids_15 : decode cX2_flexKids 15 = .ok (.aload 6, 2) := by decide +kernel
theorem dX2_flexKids_17 : decode cX2_flexKids 17 = .ok (.aload_n 2, 1) := by decide +kernel
theorem dX2_flexKids_18 : decode cX2_flexKids 18 = .ok (.if_acmp .eq 23, 3) := by decide +kernel
theorem dX2_flexKids_21 : decode cX2_flexKids 21 = .ok (.aload_n 0, 1) := by decide +kernel
theorem dX2_flexKids_22 : decode cX2_flexKids 22 = .ok (.getfield 12, 3) := by decide +kernel
theorem dX2_flexKids_25 : decode cX2_flexKids 25 = .ok (.aload 6, 2) := by decide +kernel
theorem dX2_flexKids_27 : decode cX2_flexKids 27 = .ok (.iload_n 3, 1) := by decide +kernel
theorem dX2_flexKids_28 : decode cX2_flexKids 28 = .ok (.invokevirtual 155, 3) := by decide +kernel
theorem dX2_flexKids_31 : decode cX2_flexKids 31 = .ok (.aload 6, 2) := by decide +kernel
theorem dX2_flexKids_33 : decode cX2_flexKids 33 = .ok (.getfield 113, 3) := by decide +kernel
theorem dX2_flexKids_36 : decode cX2_flexKids 36 = .ok (.astore 6, 2) := by decide +kernel
theorem dX2_flexKids_38 : decode cX2_flexKids 38 = .ok (.goto (-28), 3) := by decide +kernel
theorem dX2_flexKids_41 : decode cX2_flexKids 41 = .ok (.aload_n 0, 1) := by decide +kernel
theorem dX2_flexKids_42 : decode cX2_flexKids 42 = .ok (.getfield 12, 3) := by decide +kernel
theorem dX2_flexKids_45 : decode cX2_flexKids 45 = .ok (.iload 4, 2) := by decide +kernel
theorem dX2_flexKids_47 : decode cX2_flexKids 47 = .ok (.iload 5, 2) := by decide +kernel
theorem dX2_flexKids_49 : decode cX2_flexKids 49 = .ok (.invokevirtual 159, 3) := by decide +kernel
theorem dX2_flexKids_52 : decode cX2_flexKids 52 = .ok (.iconst 0, 1) := by decide +kernel
theorem dX2_flexKids_53 : decode cX2_flexKids 53 = .ok (.istore 6, 2) := by decide +kernel
theorem dX2_flexKids_55 : decode cX2_flexKids 55 = .ok (.aload_n 1, 1) := by decide +kernel
theorem dX2_flexKids_56 : decode cX2_flexKids 56 = .ok (.astore 7, 2) := by decide +kernel
theorem dX2_flexKids_58 : decode cX2_flexKids 58 = .ok (.aload 7, 2) := by decide +kernel
theorem dX2_flexKids_60 : decode cX2_flexKids 60 = .ok (.ifnull 57, 3) := by decide +kernel
theorem dX2_flexKids_63 : decode cX2_flexKids 63 = .ok (.aload 7, 2) := by decide +kernel
theorem dX2_flexKids_65 : decode cX2_flexKids 65 = .ok (.aload_n 2, 1) := by decide +kernel
theorem dX2_flexKids_66 : decode cX2_flexKids 66 = .ok (.if_acmp .eq 51, 3) := by decide +kernel
theorem dX2_flexKids_69 : decode cX2_flexKids 69 = .ok (.iload_n 3, 1) := by decide +kernel
theorem dX2_flexKids_70 : decode cX2_flexKids 70 = .ok (.ifCond .eq 20, 3) := by decide +kernel
theorem dX2_flexKids_73 : decode cX2_flexKids 73 = .ok (.aload 7, 2) := by decide +kernel
theorem dX2_flexKids_75 : decode cX2_flexKids 75 = .ok (.aload_n 0, 1) := by decide +kernel
theorem dX2_flexKids_76 : decode cX2_flexKids 76 = .ok (.getfield 12, 3) := by decide +kernel
theorem dX2_flexKids_79 : decode cX2_flexKids 79 = .ok (.iload 6, 2) := by decide +kernel
theorem dX2_flexKids_81 : decode cX2_flexKids 81 = .ok (.invokevirtual 163, 3) := by decide +kernel
theorem dX2_flexKids_84 : decode cX2_flexKids 84 = .ok (.putfield 47, 3) := by decide +kernel
theorem dX2_flexKids_87 : decode cX2_flexKids 87 = .ok (.goto 17, 3) := by decide +kernel
theorem dX2_flexKids_90 : decode cX2_flexKids 90 = .ok (.aload 7, 2) := by decide +kernel
theorem dX2_flexKids_92 : decode cX2_flexKids 92 = .ok (.aload_n 0, 1) := by decide +kernel
theorem dX2_flexKids_93 : decode cX2_flexKids 93 = .ok (.getfield 12, 3) := by decide +kernel
theorem dX2_flexKids_96 : decode cX2_flexKids 96 = .ok (.iload 6, 2) := by decide +kernel
theorem dX2_flexKids_98 : decode cX2_flexKids 98 = .ok (.invokevirtual 163, 3) := by decide +kernel
theorem dX2_flexKids_101 : decode cX2_flexKids 101 = .ok (.putfield 61, 3) := by decide +kernel
theorem dX2_flexKids_104 : decode cX2_flexKids 104 = .ok (.iinc 6 1, 3) := by decide +kernel
theorem dX2_flexKids_107 : decode cX2_flexKids 107 = .ok (.aload 7, 2) := by decide +kernel
theorem dX2_flexKids_109 : decode cX2_flexKids 109 = .ok (.getfield 113, 3) := by decide +kernel
theorem dX2_flexKids_112 : decode cX2_flexKids 112 = .ok (.astore 7, 2) := by decide +kernel
theorem dX2_flexKids_114 : decode cX2_flexKids 114 = .ok (.goto (-56), 3) := by decide +kernel
theorem dX2_flexKids_117 : decode cX2_flexKids 117 = .ok (.return_, 1) := by decide +kernel
theorem dX2_measureHeight_0 : decode cX2_measureHeight 0 = .ok (.aload_n 0, 1) := by decide +kernel
theorem dX2_measureHeight_1 : decode cX2_measureHeight 1 = .ok (.getfield 91, 3) := by decide +kernel
theorem dX2_measureHeight_4 : decode cX2_measureHeight 4 = .ok (.ifCond .ne 11, 3) := by decide +kernel
theorem dX2_measureHeight_7 : decode cX2_measureHeight 7 = .ok (.aload_n 0, 1) := by decide +kernel
theorem dX2_measureHeight_8 : decode cX2_measureHeight 8 = .ok (.aload_n 0, 1) := by decide +kernel
theorem dX2_measureHeight_9 : decode cX2_measureHeight 9 = .ok (.invokevirtual 166, 3) := by decide +kernel
theorem dX2_measureHeight_12 : decode cX2_measureHeight 12 = .ok (.putfield 122, 3) := by decide +kernel
theorem dX2_measureHeight_15 : decode cX2_measureHeight 15 = .ok (.aload_n 0, 1) := by decide +kernel
theorem dX2_measureHeight_16 : decode cX2_measureHeight 16 = .ok (.bipush 11, 2) := by decide +kernel
theorem dX2_measureHeight_18 : decode cX2_measureHeight 18 = .ok (.invokevirtual 74, 3) := by decide +kernel
theorem dX2_measureHeight_21 : decode cX2_measureHeight 21 = .ok (.istore_n 1, 1) := by decide +kernel
theorem dX2_measureHeight_22 : decode cX2_measureHeight 22 = .ok (.iload_n 1, 1) := by decide +kernel
theorem dX2_measureHeight_23 : decode cX2_measureHeight 23 = .ok (.iconst (-1), 1) := by decide +kernel
theorem dX2_measureHeight_24 : decode cX2_measureHeight 24 = .ok (.if_icmp .ne 16, 3) := by decide +kernel
theorem dX2_measureHeight_27 : decode cX2_measureHeight 27 = .ok (.aload_n 0, 1) := by decide +kernel
theorem dX2_measureHeight_28 : decode cX2_measureHeight 28 = .ok (.invokestatic 169, 3) := by decide +kernel
theorem dX2_measureHeight_31 : decode cX2_measureHeight 31 = .ok (.iconst 2, 1) := by decide +kernel
theorem dX2_measureHeight_32 : decode cX2_measureHeight 32 = .ok (.aload_n 0, 1) := by decide +kernel
theorem dX2_measureHeight_33 : decode cX2_measureHeight 33 = .ok (.iconst 5, 1) := by decide +kernel
theorem dX2_measureHeight_34 : decode cX2_measureHeight 34 = .ok (.invokevirtual 82, 3) := by decide +kernel
theorem dX2_measureHeight_37 : decode cX2_measureHeight 37 = .ok (.imul, 1) := by decide +kernel
theorem dX2_measureHeight_38 : decode cX2_measureHeight 38 = .ok (.iadd, 1) := by decide +kernel
theorem dX2_measureHeight_39 : decode cX2_measureHeight 39 = .ok (.istore_n 1, 1) := by decide +kernel
theorem dX2_measureHeight_40 : decode cX2_measureHeight 40 = .ok (.aload_n 0, 1) := by decide +kernel
theorem dX2_measureHeight_41 : decode cX2_measureHeight 41 = .ok (.aload_n 0, 1) := by decide +kernel
theorem dX2_measureHeight_42 : decode cX2_measureHeight 42 = .ok (.iload_n 1, 1) := by decide +kernel
theorem dX2_measureHeight_43 : decode cX2_measureHeight 43 = .ok (.invokevirtual 172, 3) := by decide +kernel
theorem dX2_measureHeight_46 : decode cX2_measureHeight 46 = .ok (.putfield 175, 3) := by decide +kernel
theorem dX2_measureHeight_49 : decode cX2_measureHeight 49 = .ok (.return_, 1) := by decide +kernel
theorem dX2_contentHeight_0 : decode cX2_contentHeight 0 = .ok (.aload_n 0, 1) := by decide +kernel
theorem dX2_contentHeight_1 : decode cX2_contentHeight 1 = .ok (.getfield 91, 3) := by decide +kernel
theorem dX2_contentHeight_4 : decode cX2_contentHeight 4 = .ok (.ifCond .ne 11, 3) := by decide +kernel
theorem dX2_contentHeight_7 : decode cX2_contentHeight 7 = .ok (.bipush 16, 2) := by decide +kernel
theorem dX2_contentHeight_9 : decode cX2_contentHeight 9 = .ok (.aload_n 0, 1) := by decide +kernel
theorem dX2_contentHeight_10 : decode cX2_contentHeight 10 = .ok (.getfield 122, 3) := by decide +kernel
theorem dX2_contentHeight_13 : decode cX2_contentHeight 13 = .ok (.imul, 1) := by decide +kernel
theorem dX2_contentHeight_14 : decode cX2_contentHeight 14 = .ok (.ireturn, 1) := by decide +kernel
theorem dX2_contentHeight_15 : decode cX2_contentHeight 15 = .ok (.aload_n 0, 1) := by decide +kernel
theorem dX2_contentHeight_16 : decode cX2_contentHeight 16 = .ok (.getfield 122, 3) := by decide +kernel
theorem dX2_contentHeight_19 : decode cX2_contentHeight 19 = .ok (.aload_n 0, 1) := by decide +kernel
theorem dX2_contentHeight_20 : decode cX2_contentHeight 20 = .ok (.iconst 4, 1) := by decide +kernel
theorem dX2_contentHeight_21 : decode cX2_contentHeight 21 = .ok (.invokevirtual 82, 3) := by decide +kernel
theorem dX2_contentHeight_24 : decode cX2_contentHeight 24 = .ok (.invokestatic 97, 3) := by decide +kernel
theorem dX2_contentHeight_27 : decode cX2_contentHeight 27 = .ok (.istore_n 1, 1) := by decide +kernel
theorem dX2_contentHeight_28 : decode cX2_contentHeight 28 = .ok (.aload_n 0, 1) := by decide +kernel
theorem dX2_contentHeight_29 : decode cX2_contentHeight 29 = .ok (.getfield 101, 3) := by decide +kernel
theorem dX2_contentHeight_32 : decode cX2_contentHeight 32 = .ok (.astore_n 2, 1) := by decide +kernel
theorem dX2_contentHeight_33 : decode cX2_contentHeight 33 = .ok (.iconst 0, 1) := by decide +kernel
theorem dX2_contentHeight_34 : decode cX2_contentHeight 34 = .ok (.istore_n 3, 1) := by decide +kernel
theorem dX2_contentHeight_35 : decode cX2_contentHeight 35 = .ok (.iload_n 3, 1) := by decide +kernel
theorem dX2_contentHeight_36 : decode cX2_contentHeight 36 = .ok (.aload_n 0, 1) := by decide +kernel
theorem dX2_contentHeight_37 : decode cX2_contentHeight 37 = .ok (.getfield 122, 3) := by decide +kernel
theorem dX2_contentHeight_40 : decode cX2_contentHeight 40 = .ok (.if_icmp .ge 31, 3) := by decide +kernel
theorem dX2_contentHeight_43 : decode cX2_contentHeight 43 = .ok (.aload_n 2, 1) := by decide +kernel
theorem dX2_contentHeight_44 : decode cX2_contentHeight 44 = .ok (.ifnull 27, 3) := by decide +kernel
theorem dX2_contentHeight_47 : decode cX2_contentHeight 47 = .ok (.aload_n 2, 1) := by decide +kernel
theorem dX2_contentHeight_48 : decode cX2_contentHeight 48 = .ok (.invokestatic 125, 3) := by decide +kernel
theorem dX2_contentHeight_51 : decode cX2_contentHeight 51 = .ok (.astore 4, 2) := by decide +kernel
theorem dX2_contentHeight_53 : decode cX2_contentHeight 53 = .ok (.iload_n 1, 1) := by decide +kernel
theorem dX2_contentHeight_54 : decode cX2_contentHeight 54 = .ok (.aload_n 2, 1) := by decide +kernel
theorem dX2_contentHeight_55 : decode cX2_contentHeight 55 = .ok (.aload 4, 2) := by decide +kernel
theorem dX2_contentHeight_57 : decode cX2_contentHeight 57 = .ok (.invokestatic 178, 3) := by decide +kernel
theorem dX2_contentHeight_60 : decode cX2_contentHeight 60 = .ok (.iadd, 1) := by decide +kernel
theorem dX2_contentHeight_61 : decode cX2_contentHeight 61 = .ok (.istore_n 1, 1) := by decide +kernel
theorem dX2_contentHeight_62 : decode cX2_contentHeight 62 = .ok (.aload 4, 2) := by decide +kernel
theorem dX2_contentHeight_64 : decode cX2_contentHeight 64 = .ok (.astore_n 2, 1) := by decide +kernel
theorem dX2_contentHeight_65 : decode cX2_contentHeight 65 = .ok (.iinc 3 1, 3) := by decide +kernel
theorem dX2_contentHeight_68 : decode cX2_contentHeight 68 = .ok (.goto (-33), 3) := by decide +kernel
theorem dX2_contentHeight_71 : decode cX2_contentHeight 71 = .ok (.iload_n 1, 1) := by decide +kernel
theorem dX2_contentHeight_72 : decode cX2_contentHeight 72 = .ok (.ireturn, 1) := by decide +kernel
theorem dX2_lineHeight_0 : decode cX2_lineHeight 0 = .ok (.iconst 0, 1) := by decide +kernel
theorem dX2_lineHeight_1 : decode cX2_lineHeight 1 = .ok (.istore_n 2, 1) := by decide +kernel
theorem dX2_lineHeight_2 : decode cX2_lineHeight 2 = .ok (.aload_n 0, 1) := by decide +kernel
theorem dX2_lineHeight_3 : decode cX2_lineHeight 3 = .ok (.astore_n 3, 1) := by decide +kernel
theorem dX2_lineHeight_4 : decode cX2_lineHeight 4 = .ok (.aload_n 3, 1) := by decide +kernel
theorem dX2_lineHeight_5 : decode cX2_lineHeight 5 = .ok (.ifnull 30, 3) := by decide +kernel
theorem dX2_lineHeight_8 : decode cX2_lineHeight 8 = .ok (.aload_n 3, 1) := by decide +kernel
theorem dX2_lineHeight_9 : decode cX2_lineHeight 9 = .ok (.aload_n 1, 1) := by decide +kernel
theorem dX2_lineHeight_10 : decode cX2_lineHeight 10 = .ok (.if_acmp .eq 25, 3) := by decide +kernel
theorem dX2_lineHeight_13 : decode cX2_lineHeight 13 = .ok (.iload_n 2, 1) := by decide +kernel
theorem dX2_lineHeight_14 : decode cX2_lineHeight 14 = .ok (.aload_n 3, 1) := by decide +kernel
theorem dX2_lineHeight_15 : decode cX2_lineHeight 15 = .ok (.getfield 175, 3) := by decide +kernel
theorem dX2_lineHeight_18 : decode cX2_lineHeight 18 = .ok (.aload_n 3, 1) := by decide +kernel
theorem dX2_lineHeight_19 : decode cX2_lineHeight 19 = .ok (.invokevirtual 104, 3) := by decide +kernel
theorem dX2_lineHeight_22 : decode cX2_lineHeight 22 = .ok (.iadd, 1) := by decide +kernel
theorem dX2_lineHeight_23 : decode cX2_lineHeight 23 = .ok (.invokestatic 108, 3) := by decide +kernel
theorem dX2_lineHeight_26 : decode cX2_lineHeight 26 = .ok (.istore_n 2, 1) := by decide +kernel
theorem dX2_lineHeight_27 : decode cX2_lineHeight 27 = .ok (.aload_n 3, 1) := by decide +kernel
theorem dX2_lineHeight_28 : decode cX2_lineHeight 28 = .ok (.getfield 113, 3) := by decide +kernel
theorem dX2_lineHeight_31 : decode cX2_lineHeight 31 = .ok (.astore_n 3, 1) := by decide +kernel
theorem dX2_lineHeight_32 : decode cX2_lineHeight 32 = .ok (.goto (-28), 3) := by decide +kernel
theorem dX2_lineHeight_35 : decode cX2_lineHeight 35 = .ok (.iload_n 2, 1) := by decide +kernel
theorem dX2_lineHeight_36 : decode cX2_lineHeight 36 = .ok (.ireturn, 1) := by decide +kernel
theorem dX2_placeRow_0 : decode cX2_placeRow 0 = .ok (.aload_n 0, 1) := by decide +kernel
theorem dX2_placeRow_1 : decode cX2_placeRow 1 = .ok (.getfield 182, 3) := by decide +kernel
theorem dX2_placeRow_4 : decode cX2_placeRow 4 = .ok (.aload_n 0, 1) := by decide +kernel
theorem dX2_placeRow_5 : decode cX2_placeRow 5 = .ok (.iconst 5, 1) := by decide +kernel
theorem dX2_placeRow_6 : decode cX2_placeRow 6 = .ok (.invokevirtual 82, 3) := by decide +kernel
theorem dX2_placeRow_9 : decode cX2_placeRow 9 = .ok (.iadd, 1) := by decide +kernel
theorem dX2_placeRow_10 : decode cX2_placeRow 10 = .ok (.istore_n 1, 1) := by decide +kernel
theorem dX2_placeRow_11 : decode cX2_placeRow 11 = .ok (.aload_n 0, 1) := by decide +kernel
theorem dX2_placeRow_12 : decode cX2_placeRow 12 = .ok (.getfield 101, 3) := by decide +kernel
theorem dX2_placeRow_15 : decode cX2_placeRow 15 = .ok (.astore_n 2, 1) := by decide +kernel
theorem dX2_placeRow_16 : decode cX2_placeRow 16 = .ok (.iconst 0, 1) := by decide +kernel
theorem dX2_placeRow_17 : decode cX2_placeRow 17 = .ok (.istore_n 3, 1) := by decide +kernel
theorem dX2_placeRow_18 : decode cX2_placeRow 18 = .ok (.iload_n 3, 1) := by decide +kernel
theorem dX2_placeRow_19 : decode cX2_placeRow 19 = .ok (.aload_n 0, 1) := by decide +kernel
theorem dX2_placeRow_20 : decode cX2_placeRow 20 = .ok (.getfield 122, 3) := by decide +kernel
theorem dX2_placeRow_23 : decode cX2_placeRow 23 = .ok (.if_icmp .ge 65, 3) := by decide +kernel
theorem dX2_placeRow_26 : decode cX2_placeRow 26 = .ok (.aload_n 2, 1) := by decide +kernel
theorem dX2_placeRow_27 : decode cX2_placeRow 27 = .ok (.ifnull 61, 3) := by decide +kernel
theorem dX2_placeRow_30 : decode cX2_placeRow 30 = .ok (.aload_n 2, 1) := by decide +kernel
theorem dX2_placeRow_31 : decode cX2_placeRow 31 = .ok (.invokestatic 125, 3) := by decide +kernel
theorem dX2_placeRow_34 : decode cX2_placeRow 34 = .ok (.astore 4, 2) := by decide +kernel
theorem dX2_placeRow_36 : decode cX2_placeRow 36 = .ok (.aload_n 0, 1) := by decide +kernel
theorem dX2_placeRow_37 : decode cX2_placeRow 37 = .ok (.invokevirtual 149, 3) := by decide +kernel
theorem dX2_placeRow_40 : decode cX2_placeRow 40 = .ok (.ifCond .eq 12, 3) := by decide +kernel
theorem dX2_placeRow_43 : decode cX2_placeRow 43 = .ok (.aload_n 2, 1) := by decide +kernel
theorem dX2_placeRow_44 : decode cX2_placeRow 44 = .ok (.aload 4, 2) := by decide +kernel
theorem dX2_placeRow_46 : decode cX2_placeRow 46 = .ok (.invokestatic 178, 3) := by decide +kernel
theorem dX2_placeRow_49 : decode cX2_placeRow 49 = .ok (.goto 7, 3) := by decide +kernel
theorem dX2_placeRow_52 : decode cX2_placeRow 52 = .ok (.aload_n 0, 1) := by decide +kernel
theorem dX2_placeRow_53 : decode cX2_placeRow 53 = .ok (.invokevirtual 185, 3) := by decide +kernel
theorem dX2_placeRow_56 : decode cX2_placeRow 56 = .ok (.istore 5, 2) := by decide +kernel
theorem dX2_placeRow_58 : decode cX2_placeRow 58 = .ok (.aload_n 0, 1) := by decide +kernel
theorem dX2_placeRow_59 : decode cX2_placeRow 59 = .ok (.aload_n 2, 1) := by decide +kernel
theorem dX2_placeRow_60 : decode cX2_placeRow 60 = .ok (.aload 4, 2) := by decide +kernel
theorem dX2_placeRow_62 : decode cX2_placeRow 62 = .ok (.iload_n 1, 1) := by decide +kernel
theorem dX2_placeRow_63 : decode cX2_placeRow 63 = .ok (.iload 5, 2) := by decide +kernel
theorem dX2_placeRow_65 : decode cX2_placeRow 65 = .ok (.invokestatic 188, 3) := by decide +kernel
theorem dX2_placeRow_68 : decode cX2_placeRow 68 = .ok (.iload_n 1, 1) := by decide +kernel
theorem dX2_placeRow_69 : decode cX2_placeRow 69 = .ok (.iload 5, 2) := by decide +kernel
theorem dX2_placeRow_71 : decode cX2_placeRow 71 = .ok (.aload_n 0, 1) := by decide +kernel
theorem dX2_placeRow_72 : decode cX2_placeRow 72 = .ok (.iconst 4, 1) := by decide +kernel
theorem dX2_placeRow_73 : decode cX2_placeRow 73 = .ok (.invokevirtual 82, 3) := by decide +kernel
theorem dX2_placeRow_76 : decode cX2_placeRow 76 = .ok (.iadd, 1) := by decide +kernel
theorem dX2_placeRow_77 : decode cX2_placeRow 77 = .ok (.iadd, 1) := by decide +kernel
theorem dX2_placeRow_78 : decode cX2_placeRow 78 = .ok (.istore_n 1, 1) := by decide +kernel
theorem dX2_placeRow_79 : decode cX2_placeRow 79 = .ok (.aload 4, 2) := by decide +kernel
theorem dX2_placeRow_81 : decode cX2_placeRow 81 = .ok (.astore_n 2, 1) := by decide +kernel
theorem dX2_placeRow_82 : decode cX2_placeRow 82 = .ok (.iinc 3 1, 3) := by decide +kernel
theorem dX2_placeRow_85 : decode cX2_placeRow 85 = .ok (.goto (-67), 3) := by decide +kernel
theorem dX2_placeRow_88 : decode cX2_placeRow 88 = .ok (.return_, 1) := by decide +kernel
theorem dX2_placeColumn_0 : decode cX2_placeColumn 0 = .ok (.aload_n 0, 1) := by decide +kernel
theorem dX2_placeColumn_1 : decode cX2_placeColumn 1 = .ok (.aload_n 1, 1) := by decide +kernel
theorem dX2_placeColumn_2 : decode cX2_placeColumn 2 = .ok (.getfield 101, 3) := by decide +kernel
theorem dX2_placeColumn_5 : decode cX2_placeColumn 5 = .ok (.aconst_null, 1) := by decide +kernel
theorem dX2_placeColumn_6 : decode cX2_placeColumn 6 = .ok (.iconst 0, 1) := by decide +kernel
theorem dX2_placeColumn_7 : decode cX2_placeColumn 7 = .ok (.aload_n 1, 1) := by decide +kernel
theorem dX2_placeColumn_8 : decode cX2_placeColumn 8 = .ok (.invokevirtual 185, 3) := by decide +kernel
theorem dX2_placeColumn_11 : decode cX2_placeColumn 11 = .ok (.aload_n 1, 1) := by decide +kernel
theorem dX2_placeColumn_12 : decode cX2_placeColumn 12 = .ok (.iconst 4, 1) := by decide +kernel
theorem dX2_placeColumn_13 : decode cX2_placeColumn 13 = .ok (.invokevirtual 82, 3) := by decide +kernel
theorem dX2_placeColumn_16 : decode cX2_placeColumn 16 = .ok (.invokevirtual 132, 3) := by decide +kernel
theorem dX2_placeColumn_19 : decode cX2_placeColumn 19 = .ok (.aload_n 1, 1) := by decide +kernel
theorem dX2_placeColumn_20 : decode cX2_placeColumn 20 = .ok (.invokevirtual 185, 3) := by decide +kernel
theorem dX2_placeColumn_23 : decode cX2_placeColumn 23 = .ok (.aload_n 1, 1) := by decide +kernel
theorem dX2_placeColumn_24 : decode cX2_placeColumn 24 = .ok (.getfield 94, 3) := by decide +kernel
theorem dX2_placeColumn_27 : decode cX2_placeColumn 27 = .ok (.aload_n 1, 1) := by decide +kernel
theorem dX2_placeColumn_28 : decode cX2_placeColumn 28 = .ok (.iconst 4, 1) := by decide +kernel
theorem dX2_placeColumn_29 : decode cX2_placeColumn 29 = .ok (.invokevirtual 82, 3) := by decide +kernel
theorem dX2_placeColumn_32 : decode cX2_placeColumn 32 = .ok (.invokestatic 97, 3) := by decide +kernel
theorem dX2_placeColumn_35 : decode cX2_placeColumn 35 = .ok (.isub, 1) := by decide +kernel
theorem dX2_placeColumn_36 : decode cX2_placeColumn 36 = .ok (.istore_n 2, 1) := by decide +kernel
theorem dX2_placeColumn_37 : decode cX2_placeColumn 37 = .ok (.aload_n 1, 1) := by decide +kernel
theorem dX2_placeColumn_38 : decode cX2_placeColumn 38 = .ok (.getfield 101, 3) := by decide +kernel
theorem dX2_placeColumn_41 : decode cX2_placeColumn 41 = .ok (.astore_n 3, 1) := by decide +kernel
theorem dX2_placeColumn_42 : decode cX2_placeColumn 42 = .ok (.aload_n 3, 1) := by decide +kernel
theorem dX2_placeColumn_43 : decode cX2_placeColumn 43 = .ok (.ifnull 23, 3) := by decide +kernel
theorem dX2_placeColumn_46 : decode cX2_placeColumn 46 = .ok (.iload_n 2, 1) := by decide +kernel
theorem dX2_placeColumn_47 : decode cX2_placeColumn 47 = .ok (.aload_n 3, 1) := by decide +kernel
theorem dX2_placeColumn_48 : decode cX2_placeColumn 48 = .ok (.getfield 61, 3) := by decide +kernel
theorem dX2_placeColumn_51 : decode cX2_placeColumn 51 = .ok (.aload_n 3, 1) := by decide +kernel
theorem dX2_placeColumn_52 : decode cX2_placeColumn 52 = .ok (.invokevirtual 104, 3) := by decide +kernel
theorem dX2_placeColumn_55 : decode cX2_placeColumn 55 = .ok (.iadd, 1) := by decide +kernel
theorem dX2_placeColumn_56 : decode cX2_placeColumn 56 = .ok (.isub, 1) := by decide +kernel
theorem dX2_placeColumn_57 : decode cX2_placeColumn 57 = .ok (.istore_n 2, 1) := by decide +kernel
theorem dX2_placeColumn_58 : decode cX2_placeColumn 58 = .ok (.aload_n 3, 1) := by decide +kernel
theorem dX2_placeColumn_59 : decode cX2_placeColumn 59 = .ok (.getfield 113, 3) := by decide +kernel
theorem dX2_placeColumn_62 : decode cX2_placeColumn 62 = .ok (.astore_n 3, 1) := by decide +kernel
theorem dX2_placeColumn_63 : decode cX2_placeColumn 63 = .ok (.goto (-21), 3) := by decide +kernel
theorem dX2_placeColumn_66 : decode cX2_placeColumn 66 = .ok (.aload_n 1, 1) := by decide +kernel
theorem dX2_placeColumn_67 : decode cX2_placeColumn 67 = .ok (.getfield 192, 3) := by decide +kernel
theorem dX2_placeColumn_70 : decode cX2_placeColumn 70 = .ok (.aload_n 1, 1) := by decide +kernel
theorem dX2_placeColumn_71 : decode cX2_placeColumn 71 = .ok (.iconst 5, 1) := by decide +kernel
theorem dX2_placeColumn_72 : decode cX2_placeColumn 72 = .ok (.invokevirtual 82, 3) := by decide +kernel
theorem dX2_placeColumn_75 : decode cX2_placeColumn 75 = .ok (.iadd, 1) := by decide +kernel
theorem dX2_placeColumn_76 : decode cX2_placeColumn 76 = .ok (.istore_n 3, 1) := by decide +kernel
theorem dX2_placeColumn_77 : decode cX2_placeColumn 77 = .ok (.aload_n 1, 1) := by decide +kernel
theorem dX2_placeColumn_78 : decode cX2_placeColumn 78 = .ok (.getfield 182, 3) := by decide +kernel
theorem dX2_placeColumn_81 : decode cX2_placeColumn 81 = .ok (.aload_n 1, 1) := by decide +kernel
theorem dX2_placeColumn_82 : decode cX2_placeColumn 82 = .ok (.iconst 5, 1) := by decide +kernel
theorem dX2_placeColumn_83 : decode cX2_placeColumn 83 = .ok (.invokevirtual 82, 3) := by decide +kernel
theorem dX2_placeColumn_86 : decode cX2_placeColumn 86 = .ok (.iadd, 1) := by decide +kernel
theorem dX2_placeColumn_87 : decode cX2_placeColumn 87 = .ok (.istore 4, 2) := by decide +kernel
theorem dX2_placeColumn_89 : decode cX2_placeColumn 89 = .ok (.iconst 0, 1) := by decide +kernel
theorem dX2_placeColumn_90 : decode cX2_placeColumn 90 = .ok (.istore 5, 2) := by decide +kernel
theorem dX2_placeColumn_92 : decode cX2_placeColumn 92 = .ok (.aload_n 1, 1) := by decide +kernel
theorem dX2_placeColumn_93 : decode cX2_placeColumn 93 = .ok (.getfield 101, 3) := by decide +kernel
theorem dX2_placeColumn_96 : decode cX2_placeColumn 96 = .ok (.astore 6, 2) := by decide +kernel
theorem dX2_placeColumn_98 : decode cX2_placeColumn 98 = .ok (.aload 6, 2) := by decide +kernel
theorem dX2_placeColumn_100 : decode cX2_placeColumn 100 = .ok (.ifnull 112, 3) := by decide +kernel
theorem dX2_placeColumn_103 : decode cX2_placeColumn 103 = .ok (.aload_n 1, 1) := by decide +kernel
theorem dX2_placeColumn_104 : decode cX2_placeColumn 104 = .ok (.invokevirtual 129, 3) := by decide +kernel
theorem dX2_placeColumn_107 : decode cX2_placeColumn 107 = .ok (.aload 6, 2) := by decide +kernel
theorem dX2_placeColumn_109 : decode cX2_placeColumn 109 = .ok (.getfield 47, 3) := by decide +kernel
theorem dX2_placeColumn_112 : decode cX2_placeColumn 112 = .ok (.isub, 1) := by decide +kernel
theorem dX2_placeColumn_113 : decode cX2_placeColumn 113 = .ok (.aload 6, 2) := by decide +kernel
theorem dX2_placeColumn_115 : decode cX2_placeColumn 115 = .ok (.invokevirtual 104, 3) := by decide +kernel
theorem dX2_placeColumn_118 : decode cX2_placeColumn 118 = .ok (.isub, 1) := by decide +kernel
theorem dX2_placeColumn_119 : decode cX2_placeColumn 119 = .ok (.istore 7, 2) := by decide +kernel
theorem dX2_placeColumn_121 : decode cX2_placeColumn 121 = .ok (.aload 6, 2) := by decide +kernel
theorem dX2_placeColumn_123 : decode cX2_placeColumn 123 = .ok (.iload_n 3, 1) := by decide +kernel
theorem dX2_placeColumn_124 : decode cX2_placeColumn 124 = .ok (.aload 6, 2) := by decide +kernel
theorem dX2_placeColumn_126 : decode cX2_placeColumn 126 = .ok (.invokevirtual 136, 3) := by decide +kernel
theorem dX2_placeColumn_129 : decode cX2_placeColumn 129 = .ok (.iload 7, 2) := by decide +kernel
theorem dX2_placeColumn_131 : decode cX2_placeColumn 131 = .ok (.invokestatic 195, 3) := by decide +kernel
theorem dX2_placeColumn_134 : decode cX2_placeColumn 134 = .ok (.iadd, 1) := by decide +kernel
theorem dX2_placeColumn_135 : decode cX2_placeColumn 135 = .ok (.aload 6, 2) := by decide +kernel
theorem dX2_placeColumn_137 : decode cX2_placeColumn 137 = .ok (.bipush 6, 2) := by decide +kernel
theorem dX2_placeColumn_139 : decode cX2_placeColumn 139 = .ok (.invokevirtual 82, 3) := by decide +kernel
theorem dX2_placeColumn_142 : decode cX2_placeColumn 142 = .ok (.iadd, 1) := by decide +kernel
theorem dX2_placeColumn_143 : decode cX2_placeColumn 143 = .ok (.putfield 192, 3) := by decide +kernel
theorem dX2_placeColumn_146 : decode cX2_placeColumn 146 = .ok (.aload 6, 2) := by decide +kernel
theorem dX2_placeColumn_148 : decode cX2_placeColumn 148 = .ok (.iload 4, 2) := by decide +kernel
theorem dX2_placeColumn_150 : decode cX2_placeColumn 150 = .ok (.aload_n 1, 1) := by decide +kernel
theorem dX2_placeColumn_151 : decode cX2_placeColumn 151 = .ok (.iconst 2, 1) := by decide +kernel
theorem dX2_placeColumn_152 : decode cX2_placeColumn 152 = .ok (.invokevirtual 82, 3) := by decide +kernel
theorem dX2_placeColumn_155 : decode cX2_placeColumn 155 = .ok (.iload_n 2, 1) := by decide +kernel
theorem dX2_placeColumn_156 : decode cX2_placeColumn 156 = .ok (.iload 5, 2) := by decide +kernel
theorem dX2_placeColumn_158 : decode cX2_placeColumn 158 = .ok (.aload_n 1, 1) := by decide +kernel
theorem dX2_placeColumn_159 : decode cX2_placeColumn 159 = .ok (.getfield 94, 3) := by decide +kernel
theorem dX2_placeColumn_162 : decode cX2_placeColumn 162 = .ok (.invokestatic 198, 3) := by decide +kernel
theorem dX2_placeColumn_165 : decode cX2_placeColumn 165 = .ok (.iadd, 1) := by decide +kernel
theorem dX2_placeColumn_166 : decode cX2_placeColumn 166 = .ok (.aload 6, 2) := by decide +kernel
theorem dX2_placeColumn_168 : decode cX2_placeColumn 168 = .ok (.bipush 6, 2) := by decide +kernel
theorem dX2_placeColumn_170 : decode cX2_placeColumn 170 = .ok (.invokevirtual 82, 3) := by decide +kernel
theorem dX2_placeColumn_173 : decode cX2_placeColumn 173 = .ok (.iadd, 1) := by decide +kernel
theorem dX2_placeColumn_174 : decode cX2_placeColumn 174 = .ok (.putfield 182, 3) := by decide +kernel
theorem dX2_placeColumn_177 : decode cX2_placeColumn 177 = .ok (.iload 4, 2) := by decide +kernel
theorem dX2_placeColumn_179 : decode cX2_placeColumn 179 = .ok (.aload 6, 2) := by decide +kernel
theorem dX2_placeColumn_181 : decode cX2_placeColumn 181 = .ok (.getfield 61, 3) := by decide +kernel
theorem dX2_placeColumn_184 : decode cX2_placeColumn 184 = .ok (.aload 6, 2) := by decide +kernel
theorem dX2_placeColumn_186 : decode cX2_placeColumn 186 = .ok (.invokevirtual 104, 3) := by decide +kernel
theorem dX2_placeColumn_189 : decode cX2_placeColumn 189 = .ok (.iadd, 1) := by decide +kernel
theorem dX2_placeColumn_190 : decode cX2_placeColumn 190 = .ok (.aload_n 1, 1) := by decide +kernel
theorem dX2_placeColumn_191 : decode cX2_placeColumn 191 = .ok (.iconst 4, 1) := by decide +kernel
theorem dX2_placeColumn_192 : decode cX2_placeColumn 192 = .ok (.invokevirtual 82, 3) := by decide +kernel
theorem dX2_placeColumn_195 : decode cX2_placeColumn 195 = .ok (.iadd, 1) := by decide +kernel
theorem dX2_placeColumn_196 : decode cX2_placeColumn 196 = .ok (.iadd, 1) := by decide +kernel
theorem dX2_placeColumn_197 : decode cX2_placeColumn 197 = .ok (.istore 4, 2) := by decide +kernel
theorem dX2_placeColumn_199 : decode cX2_placeColumn 199 = .ok (.iinc 5 1, 3) := by decide +kernel
theorem dX2_placeColumn_202 : decode cX2_placeColumn 202 = .ok (.aload 6, 2) := by decide +kernel
theorem dX2_placeColumn_204 : decode cX2_placeColumn 204 = .ok (.getfield 113, 3) := by decide +kernel
theorem dX2_placeColumn_207 : decode cX2_placeColumn 207 = .ok (.astore 6, 2) := by decide +kernel
theorem dX2_placeColumn_209 : decode cX2_placeColumn 209 = .ok (.goto (-111), 3) := by decide +kernel
theorem dX2_placeColumn_212 : decode cX2_placeColumn 212 = .ok (.return_, 1) := by decide +kernel
theorem dX2_placeLine_0 : decode cX2_placeLine 0 = .ok (.iconst 0, 1) := by decide +kernel
theorem dX2_placeLine_1 : decode cX2_placeLine 1 = .ok (.istore 5, 2) := by decide +kernel
theorem dX2_placeLine_3 : decode cX2_placeLine 3 = .ok (.aload_n 0, 1) := by decide +kernel
theorem dX2_placeLine_4 : decode cX2_placeLine 4 = .ok (.invokevirtual 129, 3) := by decide +kernel
theorem dX2_placeLine_7 : decode cX2_placeLine 7 = .ok (.istore 6, 2) := by decide +kernel
theorem dX2_placeLine_9 : decode cX2_placeLine 9 = .ok (.aload_n 1, 1) := by decide +kernel
theorem dX2_placeLine_10 : decode cX2_placeLine 10 = .ok (.astore 7, 2) := by decide +kernel
theorem dX2_placeLine_12 : decode cX2_placeLine 12 = .ok (.aload 7, 2) := by decide +kernel
theorem dX2_placeLine_14 : decode cX2_placeLine 14 = .ok (.ifnull 38, 3) := by decide +kernel
theorem dX2_placeLine_17 : decode cX2_placeLine 17 = .ok (.aload 7, 2) := by decide +kernel
theorem dX2_placeLine_19 : decode cX2_placeLine 19 = .ok (.aload_n 2, 1) := by decide +kernel
theorem dX2_placeLine_20 : decode cX2_placeLine 20 = .ok (.if_acmp .eq 32, 3) := by decide +kernel
theorem dX2_placeLine_23 : decode cX2_placeLine 23 = .ok (.iinc 5 1, 3) := by decide +kernel
theorem dX2_placeLine_26 : decode cX2_placeLine 26 = .ok (.iload 6, 2) := by decide +kernel
theorem dX2_placeLine_28 : decode cX2_placeLine 28 = .ok (.aload 7, 2) := by decide +kernel
theorem dX2_placeLine_30 : decode cX2_placeLine 30 = .ok (.getfield 47, 3) := by decide +kernel
theorem dX2_placeLine_33 : decode cX2_placeLine 33 = .ok (.aload 7, 2) := by decide +kernel
theorem dX2_placeLine_35 : decode cX2_placeLine 35 = .ok (.invokevirtual 104, 3) := by decide +kernel
theorem dX2_placeLine_38 : decode cX2_placeLine 38 = .ok (.iadd, 1) := by decide +kernel
theorem dX2_placeLine_39 : decode cX2_placeLine 39 = .ok (.isub, 1) := by decide +kernel
theorem dX2_placeLine_40 : decode cX2_placeLine 40 = .ok (.istore 6, 2) := by decide +kernel
theorem dX2_placeLine_42 : decode cX2_placeLine 42 = .ok (.aload 7, 2) := by decide +kernel
theorem dX2_placeLine_44 : decode cX2_placeLine 44 = .ok (.getfield 113, 3) := by decide +kernel
theorem dX2_placeLine_47 : decode cX2_placeLine 47 = .ok (.astore 7, 2) := by decide +kernel
theorem dX2_placeLine_49 : decode cX2_placeLine 49 = .ok (.goto (-37), 3) := by decide +kernel
theorem dX2_placeLine_52 : decode cX2_placeLine 52 = .ok (.iload 6, 2) := by decide +kernel
theorem dX2_placeLine_54 : decode cX2_placeLine 54 = .ok (.iload 5, 2) := by decide +kernel
theorem dX2_placeLine_56 : decode cX2_placeLine 56 = .ok (.aload_n 0, 1) := by decide +kernel
theorem dX2_placeLine_57 : decode cX2_placeLine 57 = .ok (.iconst 4, 1) := by decide +kernel
theorem dX2_placeLine_58 : decode cX2_placeLine 58 = .ok (.invokevirtual 82, 3) := by decide +kernel
theorem dX2_placeLine_61 : decode cX2_placeLine 61 = .ok (.invokestatic 97, 3) := by decide +kernel
theorem dX2_placeLine_64 : decode cX2_placeLine 64 = .ok (.isub, 1) := by decide +kernel
theorem dX2_placeLine_65 : decode cX2_placeLine 65 = .ok (.istore 6, 2) := by decide +kernel
theorem dX2_placeLine_67 : decode cX2_placeLine 67 = .ok (.aload_n 0, 1) := by decide +kernel
theorem dX2_placeLine_68 : decode cX2_placeLine 68 = .ok (.getfield 192, 3) := by decide +kernel
theorem dX2_placeLine_71 : decode cX2_placeLine 71 = .ok (.aload_n 0, 1) := by decide +kernel
theorem dX2_placeLine_72 : decode cX2_placeLine 72 = .ok (.iconst 5, 1) := by decide +kernel
theorem dX2_placeLine_73 : decode cX2_placeLine 73 = .ok (.invokevirtual 82, 3) := by decide +kernel
theorem dX2_placeLine_76 : decode cX2_placeLine 76 = .ok (.iadd, 1) := by decide +kernel
theorem dX2_placeLine_77 : decode cX2_placeLine 77 = .ok (.istore 7, 2) := by decide +kernel
theorem dX2_placeLine_79 : decode cX2_placeLine 79 = .ok (.iconst 0, 1) := by decide +kernel
theorem dX2_placeLine_80 : decode cX2_placeLine 80 = .ok (.istore 8, 2) := by decide +kernel
theorem dX2_placeLine_82 : decode cX2_placeLine 82 = .ok (.aload_n 1, 1) := by decide +kernel
theorem dX2_placeLine_83 : decode cX2_placeLine 83 = .ok (.astore 9, 2) := by decide +kernel
theorem dX2_placeLine_85 : decode cX2_placeLine 85 = .ok (.aload 9, 2) := by decide +kernel
theorem dX2_placeLine_87 : decode cX2_placeLine 87 = .ok (.ifnull 127, 3) := by decide +kernel
theorem dX2_placeLine_90 : decode cX2_placeLine 90 = .ok (.aload 9, 2) := by decide +kernel
theorem dX2_placeLine_92 : decode cX2_placeLine 92 = .ok (.aload_n 2, 1) := by decide +kernel
theorem dX2_placeLine_93 : decode cX2_placeLine 93 = .ok (.if_acmp .eq 121, 3) := by decide +kernel
theorem dX2_placeLine_96 : decode cX2_placeLine 96 = .ok (.aload 9, 2) := by decide +kernel
theorem dX2_placeLine_98 : decode cX2_placeLine 98 = .ok (.aload 9, 2) := by decide +kernel
theorem dX2_placeLine_100 : decode cX2_placeLine 100 = .ok (.iload 4, 2) := by decide +kernel
theorem dX2_placeLine_102 : decode cX2_placeLine 102 = .ok (.invokestatic 202, 3) := by decide +kernel
theorem dX2_placeLine_105 : decode cX2_placeLine 105 = .ok (.putfield 61, 3) := by decide +kernel
theorem dX2_placeLine_108 : decode cX2_placeLine 108 = .ok (.iload 4, 2) := by decide +kernel
theorem dX2_placeLine_110 : decode cX2_placeLine 110 = .ok (.aload 9, 2) := by decide +kernel
theorem dX2_placeLine_112 : decode cX2_placeLine 112 = .ok (.getfield 61, 3) := by decide +kernel
theorem dX2_placeLine_115 : decode cX2_placeLine 115 = .ok (.isub, 1) := by decide +kernel
theorem dX2_placeLine_116 : decode cX2_placeLine 116 = .ok (.aload 9, 2) := by decide +kernel
theorem dX2_placeLine_118 : decode cX2_placeLine 118 = .ok (.invokevirtual 104, 3) := by decide +kernel
theorem dX2_placeLine_121 : decode cX2_placeLine 121 = .ok (.isub, 1) := by decide +kernel
theorem dX2_placeLine_122 : decode cX2_placeLine 122 = .ok (.istore 10, 2) := by decide +kernel
theorem dX2_placeLine_124 : decode cX2_placeLine 124 = .ok (.aload 9, 2) := by decide +kernel
theorem dX2_placeLine_126 : decode cX2_placeLine 126 = .ok (.iload 7, 2) := by decide +kernel
theorem dX2_placeLine_128 : decode cX2_placeLine 128 = .ok (.aload_n 0, 1) := by decide +kernel
theorem dX2_placeLine_129 : decode cX2_placeLine 129 = .ok (.iconst 2, 1) := by decide +kernel
theorem dX2_placeLine_130 : decode cX2_placeLine 130 = .ok (.invokevirtual 82, 3) := by decide +kernel
theorem dX2_placeLine_133 : decode cX2_placeLine 133 = .ok (.iload 6, 2) := by decide +kernel
theorem dX2_placeLine_135 : decode cX2_placeLine 135 = .ok (.iload 8, 2) := by decide +kernel
theorem dX2_placeLine_137 : decode cX2_placeLine 137 = .ok (.iload 5, 2) := by decide +kernel
theorem dX2_placeLine_139 : decode cX2_placeLine 139 = .ok (.invokestatic 198, 3) := by decide +kernel
theorem dX2_placeLine_142 : decode cX2_placeLine 142 = .ok (.iadd, 1) := by decide +kernel
theorem dX2_placeLine_143 : decode cX2_placeLine 143 = .ok (.aload 9, 2) := by decide +kernel
theorem dX2_placeLine_145 : decode cX2_placeLine 145 = .ok (.bipush 6, 2) := by decide +kernel
theorem dX2_placeLine_147 : decode cX2_placeLine 147 = .ok (.invokevirtual 82, 3) := by decide +kernel
theorem dX2_placeLine_150 : decode cX2_placeLine 150 = .ok (.iadd, 1) := by decide +kernel
theorem dX2_placeLine_151 : decode cX2_placeLine 151 = .ok (.putfield 192, 3) := by decide +kernel
theorem dX2_placeLine_154 : decode cX2_placeLine 154 = .ok (.aload 9, 2) := by decide +kernel
theorem dX2_placeLine_156 : decode cX2_placeLine 156 = .ok (.iload_n 3, 1) := by decide +kernel
theorem dX2_placeLine_157 : decode cX2_placeLine 157 = .ok (.aload 9, 2) := by decide +kernel
theorem dX2_placeLine_159 : decode cX2_placeLine 159 = .ok (.invokevirtual 136, 3) := by decide +kernel
theorem dX2_placeLine_162 : decode cX2_placeLine 162 = .ok (.iload 10, 2) := by decide +kernel
theorem dX2_placeLine_164 : decode cX2_placeLine 164 = .ok (.invokestatic 195, 3) := by decide +kernel
theorem dX2_placeLine_167 : decode cX2_placeLine 167 = .ok (.iadd, 1) := by decide +kernel
theorem dX2_placeLine_168 : decode cX2_placeLine 168 = .ok (.aload 9, 2) := by decide +kernel
theorem dX2_placeLine_170 : decode cX2_placeLine 170 = .ok (.bipush 6, 2) := by decide +kernel
theorem dX2_placeLine_172 : decode cX2_placeLine 172 = .ok (.invokevirtual 82, 3) := by decide +kernel
theorem dX2_placeLine_175 : decode cX2_placeLine 175 = .ok (.iadd, 1) := by decide +kernel
theorem dX2_placeLine_176 : decode cX2_placeLine 176 = .ok (.putfield 182, 3) := by decide +kernel
theorem dX2_placeLine_179 : decode cX2_placeLine 179 = .ok (.iload 7, 2) := by decide +kernel
theorem dX2_placeLine_181 : decode cX2_placeLine 181 = .ok (.aload 9, 2) := by decide +kernel
theorem dX2_placeLine_183 : decode cX2_placeLine 183 = .ok (.getfield 47, 3) := by decide +kernel
theorem dX2_placeLine_186 : decode cX2_placeLine 186 = .ok (.aload 9, 2) := by decide +kernel
theorem dX2_placeLine_188 : decode cX2_placeLine 188 = .ok (.invokevirtual 104, 3) := by decide +kernel
theorem dX2_placeLine_191 : decode cX2_placeLine 191 = .ok (.iadd, 1) := by decide +kernel
theorem dX2_placeLine_192 : decode cX2_placeLine 192 = .ok (.aload_n 0, 1) := by decide +kernel
theorem dX2_placeLine_193 : decode cX2_placeLine 193 = .ok (.iconst 4, 1) := by decide +kernel
theorem dX2_placeLine_194 : decode cX2_placeLine 194 = .ok (.invokevirtual 82, 3) := by decide +kernel
theorem dX2_placeLine_197 : decode cX2_placeLine 197 = .ok (.iadd, 1) := by decide +kernel
theorem dX2_placeLine_198 : decode cX2_placeLine 198 = .ok (.iadd, 1) := by decide +kernel
theorem dX2_placeLine_199 : decode cX2_placeLine 199 = .ok (.istore 7, 2) := by decide +kernel
theorem dX2_placeLine_201 : decode cX2_placeLine 201 = .ok (.iinc 8 1, 3) := by decide +kernel
theorem dX2_placeLine_204 : decode cX2_placeLine 204 = .ok (.aload 9, 2) := by decide +kernel
theorem dX2_placeLine_206 : decode cX2_placeLine 206 = .ok (.getfield 113, 3) := by decide +kernel
theorem dX2_placeLine_209 : decode cX2_placeLine 209 = .ok (.astore 9, 2) := by decide +kernel
theorem dX2_placeLine_211 : decode cX2_placeLine 211 = .ok (.goto (-126), 3) := by decide +kernel
theorem dX2_placeLine_214 : decode cX2_placeLine 214 = .ok (.return_, 1) := by decide +kernel
theorem dX2_heightInLine_0 : decode cX2_heightInLine 0 = .ok (.aload_n 0, 1) := by decide +kernel
theorem dX2_heightInLine_1 : decode cX2_heightInLine 1 = .ok (.bipush 11, 2) := by decide +kernel
theorem dX2_heightInLine_3 : decode cX2_heightInLine 3 = .ok (.invokevirtual 82, 3) := by decide +kernel
theorem dX2_heightInLine_6 : decode cX2_heightInLine 6 = .ok (.istore_n 2, 1) := by decide +kernel
theorem dX2_heightInLine_7 : decode cX2_heightInLine 7 = .ok (.iload_n 2, 1) := by decide +kernel
theorem dX2_heightInLine_8 : decode cX2_heightInLine 8 = .ok (.iconst (-1), 1) := by decide +kernel
theorem dX2_heightInLine_9 : decode cX2_heightInLine 9 = .ok (.if_icmp .ne 29, 3) := by decide +kernel
theorem dX2_heightInLine_12 : decode cX2_heightInLine 12 = .ok (.aload_n 0, 1) := by decide +kernel
theorem dX2_heightInLine_13 : decode cX2_heightInLine 13 = .ok (.invokevirtual 136, 3) := by decide +kernel
theorem dX2_heightInLine_16 : decode cX2_heightInLine 16 = .ok (.iconst 3, 1) := by decide +kernel
theorem dX2_heightInLine_17 : decode cX2_heightInLine 17 = .ok (.if_icmp .ne 16, 3) := by decide +kernel
theorem dX2_heightInLine_20 : decode cX2_heightInLine 20 = .ok (.iload_n 1, 1) := by decide +kernel
theorem dX2_heightInLine_21 : decode cX2_heightInLine 21 = .ok (.aload_n 0, 1) := by decide +kernel
theorem dX2_heightInLine_22 : decode cX2_heightInLine 22 = .ok (.invokevirtual 104, 3) := by decide +kernel
theorem dX2_heightInLine_25 : decode cX2_heightInLine 25 = .ok (.isub, 1) := by decide +kernel
theorem dX2_heightInLine_26 : decode cX2_heightInLine 26 = .ok (.iconst 0, 1) := by decide +kernel
theorem dX2_heightInLine_27 : decode cX2_heightInLine 27 = .ok (.invokestatic 108, 3) := by decide +kernel
theorem dX2_heightInLine_30 : decode cX2_heightInLine 30 = .ok (.goto 7, 3) := by decide +kernel
theorem dX2_heightInLine_33 : decode cX2_heightInLine 33 = .ok (.aload_n 0, 1) := by decide +kernel
theorem dX2_heightInLine_34 : decode cX2_heightInLine 34 = .ok (.getfield 175, 3) := by decide +kernel
theorem dX2_heightInLine_37 : decode cX2_heightInLine 37 = .ok (.istore_n 2, 1) := by decide +kernel
theorem dX2_heightInLine_38 : decode cX2_heightInLine 38 = .ok (.aload_n 0, 1) := by decide +kernel
theorem dX2_heightInLine_39 : decode cX2_heightInLine 39 = .ok (.iload_n 2, 1) := by decide +kernel
theorem dX2_heightInLine_40 : decode cX2_heightInLine 40 = .ok (.invokevirtual 172, 3) := by decide +kernel
theorem dX2_heightInLine_43 : decode cX2_heightInLine 43 = .ok (.ireturn, 1) := by decide +kernel
theorem dX2_justifyShift_0 : decode cX2_justifyShift 0 = .ok (.iload_n 1, 1) := by decide +kernel
theorem dX2_justifyShift_1 : decode cX2_justifyShift 1 = .ok (.ifCond .le 8, 3) := by decide +kernel
theorem dX2_justifyShift_4 : decode cX2_justifyShift 4 = .ok (.iload_n 3, 1) := by decide +kernel
theorem dX2_justifyShift_5 : decode cX2_justifyShift 5 = .ok (.iconst 1, 1) := by decide +kernel
theorem dX2_justifyShift_6 : decode cX2_justifyShift 6 = .ok (.if_icmp .ge 5, 3) := by decide +kernel
theorem dX2_justifyShift_9 : decode cX2_justifyShift 9 = .ok (.iconst 0, 1) := by decide +kernel
theorem dX2_justifyShift_10 : decode cX2_justifyShift 10 = .ok (.ireturn, 1) := by decide +kernel
theorem dX2_justifyShift_11 : decode cX2_justifyShift 11 = .ok (.iload_n 0, 1) := by decide +kernel
theorem dX2_justifyShift_12 : decode cX2_justifyShift 12 = .ok (.tableswitch 65 1 4 #[32, 34, 38, 55], 32) := by decide +kernel
theorem dX2_justifyShift_44 : decode cX2_justifyShift 44 = .ok (.iload_n 1, 1) := by decide +kernel
theorem dX2_justifyShift_45 : decode cX2_justifyShift 45 = .ok (.ireturn, 1) := by decide +kernel
theorem dX2_justifyShift_46 : decode cX2_justifyShift 46 = .ok (.iload_n 1, 1) := by decide +kernel
theorem dX2_justifyShift_47 : decode cX2_justifyShift 47 = .ok (.iconst 2, 1) := by decide +kernel
theorem dX2_justifyShift_48 : decode cX2_justifyShift 48 = .ok (.idiv, 1) := by decide +kernel
theorem dX2_justifyShift_49 : decode cX2_justifyShift 49 = .ok (.ireturn, 1) := by decide +kernel
theorem dX2_justifyShift_50 : decode cX2_justifyShift 50 = .ok (.iload_n 3, 1) := by decide +kernel
theorem dX2_justifyShift_51 : decode cX2_justifyShift 51 = .ok (.iconst 1, 1) := by decide +kernel
theorem dX2_justifyShift_52 : decode cX2_justifyShift 52 = .ok (.if_icmp .le 13, 3) := by decide +kernel
theorem dX2_justifyShift_55 : decode cX2_justifyShift 55 = .ok (.iload_n 1, 1) := by decide +kernel
theorem dX2_justifyShift_56 : decode cX2_justifyShift 56 = .ok (.iload_n 2, 1) := by decide +kernel
theorem dX2_justifyShift_57 : decode cX2_justifyShift 57 = .ok (.imul, 1) := by decide +kernel
theorem dX2_justifyShift_58 : decode cX2_justifyShift 58 = .ok (.iload_n 3, 1) := by decide +kernel
theorem dX2_justifyShift_59 : decode cX2_justifyShift 59 = .ok (.iconst 1, 1) := by decide +kernel
theorem dX2_justifyShift_60 : decode cX2_justifyShift 60 = .ok (.isub, 1) := by decide +kernel
theorem dX2_justifyShift_61 : decode cX2_justifyShift 61 = .ok (.idiv, 1) := by decide +kernel
theorem dX2_justifyShift_62 : decode cX2_justifyShift 62 = .ok (.goto 4, 3) := by decide +kernel
theorem dX2_justifyShift_65 : decode cX2_justifyShift 65 = .ok (.iconst 0, 1) := by decide +kernel
theorem dX2_justifyShift_66 : decode cX2_justifyShift 66 = .ok (.ireturn, 1) := by decide +kernel
theorem dX2_justifyShift_67 : decode cX2_justifyShift 67 = .ok (.iload_n 1, 1) := by decide +kernel
theorem dX2_justifyShift_68 : decode cX2_justifyShift 68 = .ok (.iload_n 2, 1) := by decide +kernel
theorem dX2_justifyShift_69 : decode cX2_justifyShift 69 = .ok (.iconst 1, 1) := by decide +kernel
theorem dX2_justifyShift_70 : decode cX2_justifyShift 70 = .ok (.iadd, 1) := by decide +kernel
theorem dX2_justifyShift_71 : decode cX2_justifyShift 71 = .ok (.imul, 1) := by decide +kernel
theorem dX2_justifyShift_72 : decode cX2_justifyShift 72 = .ok (.iload_n 3, 1) := by decide +kernel
theorem dX2_justifyShift_73 : decode cX2_justifyShift 73 = .ok (.iconst 1, 1) := by decide +kernel
theorem dX2_justifyShift_74 : decode cX2_justifyShift 74 = .ok (.iadd, 1) := by decide +kernel
theorem dX2_justifyShift_75 : decode cX2_justifyShift 75 = .ok (.idiv, 1) := by decide +kernel
theorem dX2_justifyShift_76 : decode cX2_justifyShift 76 = .ok (.ireturn, 1) := by decide +kernel
theorem dX2_justifyShift_77 : decode cX2_justifyShift 77 = .ok (.iconst 0, 1) := by decide +kernel
theorem dX2_justifyShift_78 : decode cX2_justifyShift 78 = .ok (.ireturn, 1) := by decide +kernel
theorem dX2_alignShift_0 : decode cX2_alignShift 0 = .ok (.iload_n 1, 1) := by decide +kernel
theorem dX2_alignShift_1 : decode cX2_alignShift 1 = .ok (.ifCond .gt 5, 3) := by decide +kernel
theorem dX2_alignShift_4 : decode cX2_alignShift 4 = .ok (.iconst 0, 1) := by decide +kernel
theorem dX2_alignShift_5 : decode cX2_alignShift 5 = .ok (.ireturn, 1) := by decide +kernel
theorem dX2_alignShift_6 : decode cX2_alignShift 6 = .ok (.iload_n 0, 1) := by decide +kernel
theorem dX2_alignShift_7 : decode cX2_alignShift 7 = .ok (.lookupswitch 31 #[(1, 25), (2, 27)], 25) := by decide +kernel
theorem dX2_alignShift_32 : decode cX2_alignShift 32 = .ok (.iload_n 1, 1) := by decide +kernel
theorem dX2_alignShift_33 : decode cX2_alignShift 33 = .ok (.ireturn, 1) := by decide +kernel
theorem dX2_alignShift_34 : decode cX2_alignShift 34 = .ok (.iload_n 1, 1) := by decide +kernel
theorem dX2_alignShift_35 : decode cX2_alignShift 35 = .ok (.iconst 2, 1) := by decide +kernel
theorem dX2_alignShift_36 : decode cX2_alignShift 36 = .ok (.idiv, 1) := by decide +kernel
theorem dX2_alignShift_37 : decode cX2_alignShift 37 = .ok (.ireturn, 1) := by decide +kernel
theorem dX2_alignShift_38 : decode cX2_alignShift 38 = .ok (.iconst 0, 1) := by decide +kernel
theorem dX2_alignShift_39 : decode cX2_alignShift 39 = .ok (.ireturn, 1) := by decide +kernel
theorem dX2_kidsOverflow_0 : decode cX2_kidsOverflow 0 = .ok (.iconst 0, 1) := by decide +kernel
theorem dX2_kidsOverflow_1 : decode cX2_kidsOverflow 1 = .ok (.istore_n 1, 1) := by decide +kernel
theorem dX2_kidsOverflow_2 : decode cX2_kidsOverflow 2 = .ok (.iconst 0, 1) := by decide +kernel
theorem dX2_kidsOverflow_3 : decode cX2_kidsOverflow 3 = .ok (.istore_n 2, 1) := by decide +kernel
theorem dX2_kidsOverflow_4 : decode cX2_kidsOverflow 4 = .ok (.aload_n 0, 1) := by decide +kernel
theorem dX2_kidsOverflow_5 : decode cX2_kidsOverflow 5 = .ok (.getfield 101, 3) := by decide +kernel
theorem dX2_kidsOverflow_8 : decode cX2_kidsOverflow 8 = .ok (.astore_n 3, 1) := by decide +kernel
theorem dX2_kidsOverflow_9 : decode cX2_kidsOverflow 9 = .ok (.aload_n 3, 1) := by decide +kernel
theorem dX2_kidsOverflow_10 : decode cX2_kidsOverflow 10 = .ok (.ifnull 83, 3) := by decide +kernel
theorem dX2_kidsOverflow_13 : decode cX2_kidsOverflow 13 = .ok (.aload_n 3, 1) := by decide +kernel
theorem dX2_kidsOverflow_14 : decode cX2_kidsOverflow 14 = .ok (.getfield 192, 3) := by decide +kernel
theorem dX2_kidsOverflow_17 : decode cX2_kidsOverflow 17 = .ok (.aload_n 3, 1) := by decide +kernel
theorem dX2_kidsOverflow_18 : decode cX2_kidsOverflow 18 = .ok (.getfield 47, 3) := by decide +kernel
theorem dX2_kidsOverflow_21 : decode cX2_kidsOverflow 21 = .ok (.iadd, 1) := by decide +kernel
theorem dX2_kidsOverflow_22 : decode cX2_kidsOverflow 22 = .ok (.aload_n 3, 1) := by decide +kernel
theorem dX2_kidsOverflow_23 : decode cX2_kidsOverflow 23 = .ok (.bipush 6, 2) := by decide +kernel
theorem dX2_kidsOverflow_25 : decode cX2_kidsOverflow 25 = .ok (.invokevirtual 82, 3) := by decide +kernel
theorem dX2_kidsOverflow_28 : decode cX2_kidsOverflow 28 = .ok (.iadd, 1) := by decide +kernel
theorem dX2_kidsOverflow_29 : decode cX2_kidsOverflow 29 = .ok (.aload_n 0, 1) := by decide +kernel
theorem dX2_kidsOverflow_30 : decode cX2_kidsOverflow 30 = .ok (.getfield 192, 3) := by decide +kernel
theorem dX2_kidsOverflow_33 : decode cX2_kidsOverflow 33 = .ok (.aload_n 0, 1) := by decide +kernel
theorem dX2_kidsOverflow_34 : decode cX2_kidsOverflow 34 = .ok (.getfield 47, 3) := by decide +kernel
theorem dX2_kidsOverflow_37 : decode cX2_kidsOverflow 37 = .ok (.iadd, 1) := by decide +kernel
theorem dX2_kidsOverflow_38 : decode cX2_kidsOverflow 38 = .ok (.aload_n 0, 1) := by decide +kernel
theorem dX2_kidsOverflow_39 : decode cX2_kidsOverflow 39 = .ok (.iconst 5, 1) := by decide +kernel
theorem dX2_kidsOverflow_40 : decode cX2_kidsOverflow 40 = .ok (.invokevirtual 82, 3) := by decide +kernel
theorem dX2_kidsOverflow_43 : decode cX2_kidsOverflow 43 = .ok (.isub, 1) := by decide +kernel
theorem dX2_kidsOverflow_44 : decode cX2_kidsOverflow 44 = .ok (.if_icmp .le 5, 3) := by decide +kernel
theorem dX2_kidsOverflow_47 : decode cX2_kidsOverflow 47 = .ok (.iconst 1, 1) := by decide +kernel
theorem dX2_kidsOverflow_48 : decode cX2_kidsOverflow 48 = .ok (.istore_n 1, 1) := by decide +kernel
theorem dX2_kidsOverflow_49 : decode cX2_kidsOverflow 49 = .ok (.aload_n 3, 1) := by decide +kernel
theorem dX2_kidsOverflow_50 : decode cX2_kidsOverflow 50 = .ok (.getfield 182, 3) := by decide +kernel
theorem dX2_kidsOverflow_53 : decode cX2_kidsOverflow 53 = .ok (.aload_n 3, 1) := by decide +kernel
theorem dX2_kidsOverflow_54 : decode cX2_kidsOverflow 54 = .ok (.getfield 61, 3) := by decide +kernel
theorem dX2_kidsOverflow_57 : decode cX2_kidsOverflow 57 = .ok (.iadd, 1) := by decide +kernel
theorem dX2_kidsOverflow_58 : decode cX2_kidsOverflow 58 = .ok (.aload_n 3, 1) := by decide +kernel
theorem dX2_kidsOverflow_59 : decode cX2_kidsOverflow 59 = .ok (.bipush 6, 2) := by decide +kernel
theorem dX2_kidsOverflow_61 : decode cX2_kidsOverflow 61 = .ok (.invokevirtual 82, 3) := by decide +kernel
theorem dX2_kidsOverflow_64 : decode cX2_kidsOverflow 64 = .ok (.iadd, 1) := by decide +kernel
theorem dX2_kidsOverflow_65 : decode cX2_kidsOverflow 65 = .ok (.aload_n 0, 1) := by decide +kernel
theorem dX2_kidsOverflow_66 : decode cX2_kidsOverflow 66 = .ok (.getfield 182, 3) := by decide +kernel
theorem dX2_kidsOverflow_69 : decode cX2_kidsOverflow 69 = .ok (.aload_n 0, 1) := by decide +kernel
theorem dX2_kidsOverflow_70 : decode cX2_kidsOverflow 70 = .ok (.getfield 61, 3) := by decide +kernel
theorem dX2_kidsOverflow_73 : decode cX2_kidsOverflow 73 = .ok (.iadd, 1) := by decide +kernel
theorem dX2_kidsOverflow_74 : decode cX2_kidsOverflow 74 = .ok (.aload_n 0, 1) := by decide +kernel
theorem dX2_kidsOverflow_75 : decode cX2_kidsOverflow 75 = .ok (.iconst 5, 1) := by decide +kernel
theorem dX2_kidsOverflow_76 : decode cX2_kidsOverflow 76 = .ok (.invokevirtual 82, 3) := by decide +kernel
theorem dX2_kidsOverflow_79 : decode cX2_kidsOverflow 79 = .ok (.isub, 1) := by decide +kernel
theorem dX2_kidsOverflow_80 : decode cX2_kidsOverflow 80 = .ok (.if_icmp .le 5, 3) := by decide +kernel
theorem dX2_kidsOverflow_83 : decode cX2_kidsOverflow 83 = .ok (.iconst 2, 1) := by decide +kernel
theorem dX2_kidsOverflow_84 : decode cX2_kidsOverflow 84 = .ok (.istore_n 2, 1) := by decide +kernel
theorem dX2_kidsOverflow_85 : decode cX2_kidsOverflow 85 = .ok (.aload_n 3, 1) := by decide +kernel
theorem dX2_kidsOverflow_86 : decode cX2_kidsOverflow 86 = .ok (.getfield 113, 3) := by decide +kernel
theorem dX2_kidsOverflow_89 : decode cX2_kidsOverflow 89 = .ok (.astore_n 3, 1) := by decide +kernel
theorem dX2_kidsOverflow_90 : decode cX2_kidsOverflow 90 = .ok (.goto (-81), 3) := by decide +kernel
theorem dX2_kidsOverflow_93 : decode cX2_kidsOverflow 93 = .ok (.iload_n 1, 1) := by decide +kernel
theorem dX2_kidsOverflow_94 : decode cX2_kidsOverflow 94 = .ok (.iload_n 2, 1) := by decide +kernel
theorem dX2_kidsOverflow_95 : decode cX2_kidsOverflow 95 = .ok (.iadd, 1) := by decide +kernel
theorem dX2_kidsOverflow_96 : decode cX2_kidsOverflow 96 = .ok (.ireturn, 1) := by decide +kernel
theorem dX2_textOverflow_0 : decode cX2_textOverflow 0 = .ok (.aload_n 0, 1) := by decide +kernel
theorem dX2_textOverflow_1 : decode cX2_textOverflow 1 = .ok (.bipush 19, 2) := by decide +kernel
theorem dX2_textOverflow_3 : decode cX2_textOverflow 3 = .ok (.invokevirtual 82, 3) := by decide +kernel
theorem dX2_textOverflow_6 : decode cX2_textOverflow 6 = .ok (.ifCond .le 16, 3) := by decide +kernel
theorem dX2_textOverflow_9 : decode cX2_textOverflow 9 = .ok (.aload_n 0, 1) := by decide +kernel
theorem dX2_textOverflow_10 : decode cX2_textOverflow 10 = .ok (.invokevirtual 129, 3) := by decide +kernel
theorem dX2_textOverflow_13 : decode cX2_textOverflow 13 = .ok (.bipush 8, 2) := by decide +kernel
theorem dX2_textOverflow_15 : decode cX2_textOverflow 15 = .ok (.if_icmp .ge 7, 3) := by decide +kernel
theorem dX2_textOverflow_18 : decode cX2_textOverflow 18 = .ok (.iconst 1, 1) := by decide +kernel
theorem dX2_textOverflow_19 : decode cX2_textOverflow 19 = .ok (.goto 4, 3) := by decide +kernel
theorem dX2_textOverflow_22 : decode cX2_textOverflow 22 = .ok (.iconst 0, 1) := by decide +kernel
theorem dX2_textOverflow_23 : decode cX2_textOverflow 23 = .ok (.istore_n 1, 1) := by decide +kernel
theorem dX2_textOverflow_24 : decode cX2_textOverflow 24 = .ok (.bipush 16, 2) := by decide +kernel
theorem dX2_textOverflow_26 : decode cX2_textOverflow 26 = .ok (.aload_n 0, 1) := by decide +kernel
theorem dX2_textOverflow_27 : decode cX2_textOverflow 27 = .ok (.getfield 122, 3) := by decide +kernel
theorem dX2_textOverflow_30 : decode cX2_textOverflow 30 = .ok (.imul, 1) := by decide +kernel
theorem dX2_textOverflow_31 : decode cX2_textOverflow 31 = .ok (.aload_n 0, 1) := by decide +kernel
theorem dX2_textOverflow_32 : decode cX2_textOverflow 32 = .ok (.invokevirtual 185, 3) := by decide +kernel
theorem dX2_textOverflow_35 : decode cX2_textOverflow 35 = .ok (.if_icmp .le 7, 3) := by decide +kernel
theorem dX2_textOverflow_38 : decode cX2_textOverflow 38 = .ok (.iconst 1, 1) := by decide +kernel
theorem dX2_textOverflow_39 : decode cX2_textOverflow 39 = .ok (.goto 4, 3) := by decide +kernel
theorem dX2_textOverflow_42 : decode cX2_textOverflow 42 = .ok (.iconst 0, 1) := by decide +kernel
theorem dX2_textOverflow_43 : decode cX2_textOverflow 43 = .ok (.istore_n 2, 1) := by decide +kernel
theorem dX2_textOverflow_44 : decode cX2_textOverflow 44 = .ok (.iload_n 1, 1) := by decide +kernel
theorem dX2_textOverflow_45 : decode cX2_textOverflow 45 = .ok (.ifCond .eq 7, 3) := by decide +kernel
theorem dX2_textOverflow_48 : decode cX2_textOverflow 48 = .ok (.iconst 1, 1) := by decide +kernel
theorem dX2_textOverflow_49 : decode cX2_textOverflow 49 = .ok (.goto 4, 3) := by decide +kernel
theorem dX2_textOverflow_52 : decode cX2_textOverflow 52 = .ok (.iconst 0, 1) := by decide +kernel
theorem dX2_textOverflow_53 : decode cX2_textOverflow 53 = .ok (.iload_n 2, 1) := by decide +kernel
theorem dX2_textOverflow_54 : decode cX2_textOverflow 54 = .ok (.ifCond .eq 7, 3) := by decide +kernel
theorem dX2_textOverflow_57 : decode cX2_textOverflow 57 = .ok (.iconst 2, 1) := by decide +kernel
theorem dX2_textOverflow_58 : decode cX2_textOverflow 58 = .ok (.goto 4, 3) := by decide +kernel
theorem dX2_textOverflow_61 : decode cX2_textOverflow 61 = .ok (.iconst 0, 1) := by decide +kernel
theorem dX2_textOverflow_62 : decode cX2_textOverflow 62 = .ok (.iadd, 1) := by decide +kernel
theorem dX2_textOverflow_63 : decode cX2_textOverflow 63 = .ok (.ireturn, 1) := by decide +kernel
theorem dX2_topmostAt_0 : decode cX2_topmostAt 0 = .ok (.iconst (-1), 1) := by decide +kernel
theorem dX2_topmostAt_1 : decode cX2_topmostAt 1 = .ok (.istore_n 3, 1) := by decide +kernel
theorem dX2_topmostAt_2 : decode cX2_topmostAt 2 = .ok (.aload_n 0, 1) := by decide +kernel
theorem dX2_topmostAt_3 : decode cX2_topmostAt 3 = .ok (.getfield 22, 3) := by decide +kernel
theorem dX2_topmostAt_6 : decode cX2_topmostAt 6 = .ok (.getfield 39, 3) := by decide +kernel
theorem dX2_topmostAt_9 : decode cX2_topmostAt 9 = .ok (.astore 4, 2) := by decide +kernel
theorem dX2_topmostAt_11 : decode cX2_topmostAt 11 = .ok (.iconst 0, 1) := by decide +kernel
theorem dX2_topmostAt_12 : decode cX2_topmostAt 12 = .ok (.istore 5, 2) := by decide +kernel
theorem dX2_topmostAt_14 : decode cX2_topmostAt 14 = .ok (.iload 5, 2) := by decide +kernel
theorem dX2_topmostAt_16 : decode cX2_topmostAt 16 = .ok (.bipush 40, 2) := by decide +kernel
theorem dX2_topmostAt_18 : decode cX2_topmostAt 18 = .ok (.if_icmp .ge 37, 3) := by decide +kernel
theorem dX2_topmostAt_21 : decode cX2_topmostAt 21 = .ok (.aload 4, 2) := by decide +kernel
theorem dX2_topmostAt_23 : decode cX2_topmostAt 23 = .ok (.ifnull 32, 3) := by decide +kernel
theorem dX2_topmostAt_26 : decode cX2_topmostAt 26 = .ok (.aload 4, 2) := by decide +kernel
theorem dX2_topmostAt_28 : decode cX2_topmostAt 28 = .ok (.iload_n 1, 1) := by decide +kernel
theorem dX2_topmostAt_29 : decode cX2_topmostAt 29 = .ok (.iload_n 2, 1) := by decide +kernel
theorem dX2_topmostAt_30 : decode cX2_topmostAt 30 = .ok (.invokevirtual 206, 3) := by decide +kernel
theorem dX2_topmostAt_33 : decode cX2_topmostAt 33 = .ok (.ifCond .eq 9, 3) := by decide +kernel
theorem dX2_topmostAt_36 : decode cX2_topmostAt 36 = .ok (.aload 4, 2) := by decide +kernel
theorem dX2_topmostAt_38 : decode cX2_topmostAt 38 = .ok (.getfield 210, 3) := by decide +kernel
theorem dX2_topmostAt_41 : decode cX2_topmostAt 41 = .ok (.istore_n 3, 1) := by decide +kernel
theorem dX2_topmostAt_42 : decode cX2_topmostAt 42 = .ok (.aload 4, 2) := by decide +kernel
theorem dX2_topmostAt_44 : decode cX2_topmostAt 44 = .ok (.invokestatic 213, 3) := by decide +kernel
theorem dX2_topmostAt_47 : decode cX2_topmostAt 47 = .ok (.astore 4, 2) := by decide +kernel
theorem dX2_topmostAt_49 : decode cX2_topmostAt 49 = .ok (.iinc 5 1, 3) := by decide +kernel
theorem dX2_topmostAt_52 : decode cX2_topmostAt 52 = .ok (.goto (-38), 3) := by decide +kernel
theorem dX2_topmostAt_55 : decode cX2_topmostAt 55 = .ok (.iload_n 3, 1) := by decide +kernel
theorem dX2_topmostAt_56 : decode cX2_topmostAt 56 = .ok (.ireturn, 1) := by decide +kernel
theorem dX2_paintedAfter_0 : decode cX2_paintedAfter 0 = .ok (.aload_n 0, 1) := by decide +kernel
theorem dX2_paintedAfter_1 : decode cX2_paintedAfter 1 = .ok (.getfield 101, 3) := by decide +kernel
theorem dX2_paintedAfter_4 : decode cX2_paintedAfter 4 = .ok (.ifnull 8, 3) := by decide +kernel
theorem dX2_paintedAfter_7 : decode cX2_paintedAfter 7 = .ok (.aload_n 0, 1) := by decide +kernel
theorem dX2_paintedAfter_8 : decode cX2_paintedAfter 8 = .ok (.getfield 101, 3) := by decide +kernel
theorem dX2_paintedAfter_11 : decode cX2_paintedAfter 11 = .ok (.areturn, 1) := by decide +kernel
theorem dX2_paintedAfter_12 : decode cX2_paintedAfter 12 = .ok (.aload_n 0, 1) := by decide +kernel
theorem dX2_paintedAfter_13 : decode cX2_paintedAfter 13 = .ok (.astore_n 1, 1) := by decide +kernel
theorem dX2_paintedAfter_14 : decode cX2_paintedAfter 14 = .ok (.aload_n 1, 1) := by decide +kernel
theorem dX2_paintedAfter_15 : decode cX2_paintedAfter 15 = .ok (.ifnull 18, 3) := by decide +kernel
theorem dX2_paintedAfter_18 : decode cX2_paintedAfter 18 = .ok (.aload_n 1, 1) := by decide +kernel
theorem dX2_paintedAfter_19 : decode cX2_paintedAfter 19 = .ok (.getfield 113, 3) := by decide +kernel
theorem dX2_paintedAfter_22 : decode cX2_paintedAfter 22 = .ok (.ifnonnull 11, 3) := by decide +kernel
theorem dX2_paintedAfter_25 : decode cX2_paintedAfter 25 = .ok (.aload_n 1, 1) := by decide +kernel
theorem dX2_paintedAfter_26 : decode cX2_paintedAfter 26 = .ok (.getfield 216, 3) := by decide +kernel
theorem dX2_paintedAfter_29 : decode cX2_paintedAfter 29 = .ok (.astore_n 1, 1) := by decide +kernel
theorem dX2_paintedAfter_30 : decode cX2_paintedAfter 30 = .ok (.goto (-16), 3) := by decide +kernel
theorem dX2_paintedAfter_33 : decode cX2_paintedAfter 33 = .ok (.aload_n 1, 1) := by decide +kernel
theorem dX2_paintedAfter_34 : decode cX2_paintedAfter 34 = .ok (.ifnonnull 7, 3) := by decide +kernel
theorem dX2_paintedAfter_37 : decode cX2_paintedAfter 37 = .ok (.aconst_null, 1) := by decide +kernel
theorem dX2_paintedAfter_38 : decode cX2_paintedAfter 38 = .ok (.goto 7, 3) := by decide +kernel
theorem dX2_paintedAfter_41 : decode cX2_paintedAfter 41 = .ok (.aload_n 1, 1) := by decide +kernel
theorem dX2_paintedAfter_42 : decode cX2_paintedAfter 42 = .ok (.getfield 113, 3) := by decide +kernel
theorem dX2_paintedAfter_45 : decode cX2_paintedAfter 45 = .ok (.areturn, 1) := by decide +kernel
theorem dX2_narrowestFor_0 : decode cX2_narrowestFor 0 = .ok (.aload_n 1, 1) := by decide +kernel
theorem dX2_narrowestFor_1 : decode cX2_narrowestFor 1 = .ok (.invokestatic 219, 3) := by decide +kernel
theorem dX2_narrowestFor_4 : decode cX2_narrowestFor 4 = .ok (.ifCond .ne 17, 3) := by decide +kernel
theorem dX2_narrowestFor_7 : decode cX2_narrowestFor 7 = .ok (.aload_n 1, 1) := by decide +kernel
theorem dX2_narrowestFor_8 : decode cX2_narrowestFor 8 = .ok (.getfield 122, 3) := by decide +kernel
theorem dX2_narrowestFor_11 : decode cX2_narrowestFor 11 = .ok (.iload_n 2, 1) := by decide +kernel
theorem dX2_narrowestFor_12 : decode cX2_narrowestFor 12 = .ok (.if_icmp .gt 7, 3) := by decide +kernel
theorem dX2_narrowestFor_15 : decode cX2_narrowestFor 15 = .ok (.iconst 0, 1) := by decide +kernel
theorem dX2_narrowestFor_16 : decode cX2_narrowestFor 16 = .ok (.goto 4, 3) := by decide +kernel
theorem dX2_narrowestFor_19 : decode cX2_narrowestFor 19 = .ok (.iconst (-1), 1) := by decide +kernel
theorem dX2_narrowestFor_20 : decode cX2_narrowestFor 20 = .ok (.ireturn, 1) := by decide +kernel
theorem dX2_narrowestFor_21 : decode cX2_narrowestFor 21 = .ok (.iload_n 2, 1) := by decide +kernel
theorem dX2_narrowestFor_22 : decode cX2_narrowestFor 22 = .ok (.iconst 1, 1) := by decide +kernel
theorem dX2_narrowestFor_23 : decode cX2_narrowestFor 23 = .ok (.if_icmp .ge 5, 3) := by decide +kernel
theorem dX2_narrowestFor_26 : decode cX2_narrowestFor 26 = .ok (.iconst (-1), 1) := by decide +kernel
theorem dX2_narrowestFor_27 : decode cX2_narrowestFor 27 = .ok (.ireturn, 1) := by decide +kernel
theorem dX2_narrowestFor_28 : decode cX2_narrowestFor 28 = .ok (.aload_n 1, 1) := by decide +kernel
theorem dX2_narrowestFor_29 : decode cX2_narrowestFor 29 = .ok (.astore_n 3, 1) := by decide +kernel
theorem dX2_narrowestFor_30 : decode cX2_narrowestFor 30 = .ok (.aload_n 3, 1) := by decide +kernel
theorem dX2_narrowestFor_31 : decode cX2_narrowestFor 31 = .ok (.ifnull 26, 3) := by decide +kernel
theorem dX2_narrowestFor_34 : decode cX2_narrowestFor 34 = .ok (.aload_n 3, 1) := by decide +kernel
theorem dX2_narrowestFor_35 : decode cX2_narrowestFor 35 = .ok (.getfield 216, 3) := by decide +kernel
theorem dX2_narrowestFor_38 : decode cX2_narrowestFor 38 = .ok (.ifnull 19, 3) := by decide +kernel
theorem dX2_narrowestFor_41 : decode cX2_narrowestFor 41 = .ok (.aload_n 3, 1) := by decide +kernel
theorem dX2_narrowestFor_42 : decode cX2_narrowestFor 42 = .ok (.getfield 216, 3) := by decide +kernel
theorem dX2_narrowestFor_45 : decode cX2_narrowestFor 45 = .ok (.aload_n 3, 1) := by decide +kernel
theorem dX2_narrowestFor_46 : decode cX2_narrowestFor 46 = .ok (.putfield 223, 3) := by decide +kernel
theorem dX2_narrowestFor_49 : decode cX2_narrowestFor 49 = .ok (.aload_n 3, 1) := by decide +kernel
theorem dX2_narrowestFor_50 : decode cX2_narrowestFor 50 = .ok (.getfield 216, 3) := by decide +kernel
theorem dX2_narrowestFor_53 : decode cX2_narrowestFor 53 = .ok (.astore_n 3, 1) := by decide +kernel
theorem dX2_narrowestFor_54 : decode cX2_narrowestFor 54 = .ok (.goto (-24), 3) := by decide +kernel
theorem dX2_narrowestFor_57 : decode cX2_narrowestFor 57 = .ok (.iconst 0, 1) := by decide +kernel
theorem dX2_narrowestFor_58 : decode cX2_narrowestFor 58 = .ok (.istore_n 3, 1) := by decide +kernel
theorem dX2_narrowestFor_59 : decode cX2_narrowestFor 59 = .ok (.iload_n 3, 1) := by decide +kernel
theorem dX2_narrowestFor_60 : decode cX2_narrowestFor 60 = .ok (.sipush 2000, 3) := by decide +kernel
theorem dX2_narrowestFor_63 : decode cX2_narrowestFor 63 = .ok (.if_icmp .gt 21, 3) := by decide +kernel
theorem dX2_narrowestFor_66 : decode cX2_narrowestFor 66 = .ok (.aload_n 0, 1) := by decide +kernel
theorem dX2_narrowestFor_67 : decode cX2_narrowestFor 67 = .ok (.aload_n 1, 1) := by decide +kernel
theorem dX2_narrowestFor_68 : decode cX2_narrowestFor 68 = .ok (.iload_n 3, 1) := by decide +kernel
theorem dX2_narrowestFor_69 : decode cX2_narrowestFor 69 = .ok (.invokevirtual 226, 3) := by decide +kernel
theorem dX2_narrowestFor_72 : decode cX2_narrowestFor 72 = .ok (.iload_n 2, 1) := by decide +kernel
theorem dX2_narrowestFor_73 : decode cX2_narrowestFor 73 = .ok (.if_icmp .gt 5, 3) := by decide +kernel
theorem dX2_narrowestFor_76 : decode cX2_narrowestFor 76 = .ok (.iload_n 3, 1) := by decide +kernel
theorem dX2_narrowestFor_77 : decode cX2_narrowestFor 77 = .ok (.ireturn, 1) := by decide +kernel
theorem dX2_narrowestFor_78 : decode cX2_narrowestFor 78 = .ok (.iinc 3 1, 3) := by decide +kernel
theorem dX2_narrowestFor_81 : decode cX2_narrowestFor 81 = .ok (.goto (-22), 3) := by decide +kernel
theorem dX2_narrowestFor_84 : decode cX2_narrowestFor 84 = .ok (.iconst (-1), 1) := by decide +kernel
theorem dX2_narrowestFor_85 : decode cX2_narrowestFor 85 = .ok (.ireturn, 1) := by decide +kernel
theorem dX2_linesVary_0 : decode cX2_linesVary 0 = .ok (.aload_n 0, 1) := by decide +kernel
theorem dX2_linesVary_1 : decode cX2_linesVary 1 = .ok (.getfield 91, 3) := by decide +kernel
theorem dX2_linesVary_4 : decode cX2_linesVary 4 = .ok (.ifCond .ne 18, 3) := by decide +kernel
theorem dX2_linesVary_7 : decode cX2_linesVary 7 = .ok (.aload_n 0, 1) := by decide +kernel
theorem dX2_linesVary_8 : decode cX2_linesVary 8 = .ok (.bipush 19, 2) := by decide +kernel
theorem dX2_linesVary_10 : decode cX2_linesVary 10 = .ok (.invokevirtual 82, 3) := by decide +kernel
theorem dX2_linesVary_13 : decode cX2_linesVary 13 = .ok (.ifCond .le 7, 3) := by decide +kernel
theorem dX2_linesVary_16 : decode cX2_linesVary 16 = .ok (.iconst 1, 1) := by decide +kernel
theorem dX2_linesVary_17 : decode cX2_linesVary 17 = .ok (.goto 4, 3) := by decide +kernel
theorem dX2_linesVary_20 : decode cX2_linesVary 20 = .ok (.iconst 0, 1) := by decide +kernel
theorem dX2_linesVary_21 : decode cX2_linesVary 21 = .ok (.ireturn, 1) := by decide +kernel
theorem dX2_linesVary_22 : decode cX2_linesVary 22 = .ok (.aload_n 0, 1) := by decide +kernel
theorem dX2_linesVary_23 : decode cX2_linesVary 23 = .ok (.invokevirtual 64, 3) := by decide +kernel
theorem dX2_linesVary_26 : decode cX2_linesVary 26 = .ok (.ifCond .ne 22, 3) := by decide +kernel
theorem dX2_linesVary_29 : decode cX2_linesVary 29 = .ok (.aload_n 0, 1) := by decide +kernel
theorem dX2_linesVary_30 : decode cX2_linesVary 30 = .ok (.invokevirtual 149, 3) := by decide +kernel
theorem dX2_linesVary_33 : decode cX2_linesVary 33 = .ok (.ifCond .eq 15, 3) := by decide +kernel
theorem dX2_linesVary_36 : decode cX2_linesVary 36 = .ok (.aload_n 0, 1) := by decide +kernel
theorem dX2_linesVary_37 : decode cX2_linesVary 37 = .ok (.getfield 94, 3) := by decide +kernel
theorem dX2_linesVary_40 : decode cX2_linesVary 40 = .ok (.iconst 1, 1) := by decide +kernel
theorem dX2_linesVary_41 : decode cX2_linesVary 41 = .ok (.if_icmp .le 7, 3) := by decide +kernel
theorem dX2_linesVary_44 : decode cX2_linesVary 44 = .ok (.iconst 1, 1) := by decide +kernel
theorem dX2_linesVary_45 : decode cX2_linesVary 45 = .ok (.goto 4, 3) := by decide +kernel
theorem dX2_linesVary_48 : decode cX2_linesVary 48 = .ok (.iconst 0, 1) := by decide +kernel
theorem dX2_linesVary_49 : decode cX2_linesVary 49 = .ok (.ireturn, 1) := by decide +kernel
theorem dX2_linesAt_0 : decode cX2_linesAt 0 = .ok (.aload_n 0, 1) := by decide +kernel
theorem dX2_linesAt_1 : decode cX2_linesAt 1 = .ok (.getfield 22, 3) := by decide +kernel
theorem dX2_linesAt_4 : decode cX2_linesAt 4 = .ok (.getfield 39, 3) := by decide +kernel
theorem dX2_linesAt_7 : decode cX2_linesAt 7 = .ok (.iload_n 2, 1) := by decide +kernel
theorem dX2_linesAt_8 : decode cX2_linesAt 8 = .ok (.putfield 47, 3) := by decide +kernel
theorem dX2_linesAt_11 : decode cX2_linesAt 11 = .ok (.aload_n 0, 1) := by decide +kernel
theorem dX2_linesAt_12 : decode cX2_linesAt 12 = .ok (.getfield 22, 3) := by decide +kernel
theorem dX2_linesAt_15 : decode cX2_linesAt 15 = .ok (.getfield 39, 3) := by decide +kernel
theorem dX2_linesAt_18 : decode cX2_linesAt 18 = .ok (.astore_n 3, 1) := by decide +kernel
theorem dX2_linesAt_19 : decode cX2_linesAt 19 = .ok (.aload_n 3, 1) := by decide +kernel
theorem dX2_linesAt_20 : decode cX2_linesAt 20 = .ok (.ifnull 21, 3) := by decide +kernel
theorem dX2_linesAt_23 : decode cX2_linesAt 23 = .ok (.aload_n 3, 1) := by decide +kernel
theorem dX2_linesAt_24 : decode cX2_linesAt 24 = .ok (.aload_n 1, 1) := by decide +kernel
theorem dX2_linesAt_25 : decode cX2_linesAt 25 = .ok (.if_acmp .eq 16, 3) := by decide +kernel
theorem dX2_linesAt_28 : decode cX2_linesAt 28 = .ok (.aload_n 0, 1) := by decide +kernel
theorem dX2_linesAt_29 : decode cX2_linesAt 29 = .ok (.aload_n 3, 1) := by decide +kernel
theorem dX2_linesAt_30 : decode cX2_linesAt 30 = .ok (.invokevirtual 52, 3) := by decide +kernel
theorem dX2_linesAt_33 : decode cX2_linesAt 33 = .ok (.aload_n 3, 1) := by decide +kernel
theorem dX2_linesAt_34 : decode cX2_linesAt 34 = .ok (.getfield 223, 3) := by decide +kernel
theorem dX2_linesAt_37 : decode cX2_linesAt 37 = .ok (.astore_n 3, 1) := by decide +kernel
theorem dX2_linesAt_38 : decode cX2_linesAt 38 = .ok (.goto (-19), 3) := by decide +kernel
theorem dX2_linesAt_41 : decode cX2_linesAt 41 = .ok (.aload_n 1, 1) := by decide +kernel
theorem dX2_linesAt_42 : decode cX2_linesAt 42 = .ok (.getfield 91, 3) := by decide +kernel
theorem dX2_linesAt_45 : decode cX2_linesAt 45 = .ok (.ifCond .ne 8, 3) := by decide +kernel
theorem dX2_linesAt_48 : decode cX2_linesAt 48 = .ok (.aload_n 1, 1) := by decide +kernel
theorem dX2_linesAt_49 : decode cX2_linesAt 49 = .ok (.invokevirtual 166, 3) := by decide +kernel
theorem dX2_linesAt_52 : decode cX2_linesAt 52 = .ok (.ireturn, 1) := by decide +kernel
theorem dX2_linesAt_53 : decode cX2_linesAt 53 = .ok (.aload_n 1, 1) := by decide +kernel
theorem dX2_linesAt_54 : decode cX2_linesAt 54 = .ok (.invokestatic 119, 3) := by decide +kernel
theorem dX2_linesAt_57 : decode cX2_linesAt 57 = .ok (.aload_n 1, 1) := by decide +kernel
theorem dX2_linesAt_58 : decode cX2_linesAt 58 = .ok (.getfield 122, 3) := by decide +kernel
theorem dX2_linesAt_61 : decode cX2_linesAt 61 = .ok (.ireturn, 1) := by decide +kernel
theorem dX4_init_0 : decode cX4_init 0 = .ok (.aload_n 0, 1) := by decide +kernel
theorem dX4_init_1 : decode cX4_init 1 = .ok (.invokespecial 3, 3) := by decide +kernel
theorem dX4_init_4 : decode cX4_init 4 = .ok (.aload_n 0, 1) := by decide +kernel
theorem dX4_init_5 : decode cX4_init 5 = .ok (.bipush 40, 2) := by decide +kernel
theorem dX4_init_7 : decode cX4_init 7 = .ok (.anewarray 9, 3) := by decide +kernel
theorem dX4_init_10 : decode cX4_init 10 = .ok (.putfield 11, 3) := by decide +kernel
theorem dX4_init_13 : decode cX4_init 13 = .ok (.aload_n 0, 1) := by decide +kernel
theorem dX4_init_14 : decode cX4_init 14 = .ok (.new 9, 3) := by decide +kernel
theorem dX4_init_17 : decode cX4_init 17 = .ok (.dup, 1) := by decide +kernel
theorem dX4_init_18 : decode cX4_init 18 = .ok (.iconst 0, 1) := by decide +kernel
theorem dX4_init_19 : decode cX4_init 19 = .ok (.invokespecial 17, 3) := by decide +kernel
theorem dX4_init_22 : decode cX4_init 22 = .ok (.putfield 20, 3) := by decide +kernel
theorem dX4_init_25 : decode cX4_init 25 = .ok (.aload_n 0, 1) := by decide +kernel
theorem dX4_init_26 : decode cX4_init 26 = .ok (.iconst 1, 1) := by decide +kernel
theorem dX4_init_27 : decode cX4_init 27 = .ok (.putfield 24, 3) := by decide +kernel
theorem dX4_init_30 : decode cX4_init 30 = .ok (.aload_n 0, 1) := by decide +kernel
theorem dX4_init_31 : decode cX4_init 31 = .ok (.sipush 800, 3) := by decide +kernel
theorem dX4_init_34 : decode cX4_init 34 = .ok (.putfield 28, 3) := by decide +kernel
theorem dX4_init_37 : decode cX4_init 37 = .ok (.aload_n 0, 1) := by decide +kernel
theorem dX4_init_38 : decode cX4_init 38 = .ok (.sipush 600, 3) := by decide +kernel
theorem dX4_init_41 : decode cX4_init 41 = .ok (.putfield 31, 3) := by decide +kernel
theorem dX4_init_44 : decode cX4_init 44 = .ok (.aload_n 0, 1) := by decide +kernel
theorem dX4_init_45 : decode cX4_init 45 = .ok (.getfield 11, 3) := by decide +kernel
theorem dX4_init_48 : decode cX4_init 48 = .ok (.iconst 0, 1) := by decide +kernel
theorem dX4_init_49 : decode cX4_init 49 = .ok (.aload_n 0, 1) := by decide +kernel
theorem dX4_init_50 : decode cX4_init 50 = .ok (.getfield 20, 3) := by decide +kernel
theorem dX4_init_53 : decode cX4_init 53 = .ok (.aastore, 1) := by decide +kernel
theorem dX4_init_54 : decode cX4_init 54 = .ok (.iconst 1, 1) := by decide +kernel
theorem dX4_init_55 : decode cX4_init 55 = .ok (.istore_n 1, 1) := by decide +kernel
theorem dX4_init_56 : decode cX4_init 56 = .ok (.iload_n 1, 1) := by decide +kernel
theorem dX4_init_57 : decode cX4_init 57 = .ok (.bipush 40, 2) := by decide +kernel
theorem dX4_init_59 : decode cX4_init 59 = .ok (.if_icmp .ge 23, 3) := by decide +kernel
theorem dX4_init_62 : decode cX4_init 62 = .ok (.aload_n 0, 1) := by decide +kernel
theorem dX4_init_63 : decode cX4_init 63 = .ok (.getfield 11, 3) := by decide +kernel
theorem dX4_init_66 : decode cX4_init 66 = .ok (.iload_n 1, 1) := by decide +kernel
theorem dX4_init_67 : decode cX4_init 67 = .ok (.new 9, 3) := by decide +kernel
theorem dX4_init_70 : decode cX4_init 70 = .ok (.dup, 1) := by decide +kernel
theorem dX4_init_71 : decode cX4_init 71 = .ok (.iload_n 1, 1) := by decide +kernel
theorem dX4_init_72 : decode cX4_init 72 = .ok (.invokespecial 17, 3) := by decide +kernel
theorem dX4_init_75 : decode cX4_init 75 = .ok (.aastore, 1) := by decide +kernel
theorem dX4_init_76 : decode cX4_init 76 = .ok (.iinc 1 1, 3) := by decide +kernel
theorem dX4_init_79 : decode cX4_init 79 = .ok (.goto (-23), 3) := by decide +kernel
theorem dX4_init_82 : decode cX4_init 82 = .ok (.aload_n 0, 1) := by decide +kernel
theorem dX4_init_83 : decode cX4_init 83 = .ok (.getfield 20, 3) := by decide +kernel
theorem dX4_init_86 : decode cX4_init 86 = .ok (.aconst_null, 1) := by decide +kernel
theorem dX4_init_87 : decode cX4_init 87 = .ok (.invokevirtual 34, 3) := by decide +kernel
theorem dX4_init_90 : decode cX4_init 90 = .ok (.return_, 1) := by decide +kernel
theorem dX4_at_0 : decode cX4_at 0 = .ok (.iload_n 1, 1) := by decide +kernel
theorem dX4_at_1 : decode cX4_at 1 = .ok (.ifCond .lt 18, 3) := by decide +kernel
theorem dX4_at_4 : decode cX4_at 4 = .ok (.iload_n 1, 1) := by decide +kernel
theorem dX4_at_5 : decode cX4_at 5 = .ok (.bipush 40, 2) := by decide +kernel
theorem dX4_at_7 : decode cX4_at 7 = .ok (.if_icmp .ge 12, 3) := by decide +kernel
theorem dX4_at_10 : decode cX4_at 10 = .ok (.aload_n 0, 1) := by decide +kernel
theorem dX4_at_11 : decode cX4_at 11 = .ok (.getfield 11, 3) := by decide +kernel
theorem dX4_at_14 : decode cX4_at 14 = .ok (.iload_n 1, 1) := by decide +kernel
theorem dX4_at_15 : decode cX4_at 15 = .ok (.aaload, 1) := by decide +kernel
theorem dX4_at_16 : decode cX4_at 16 = .ok (.goto 4, 3) := by decide +kernel
theorem dX4_at_19 : decode cX4_at 19 = .ok (.aconst_null, 1) := by decide +kernel
theorem dX4_at_20 : decode cX4_at 20 = .ok (.areturn, 1) := by decide +kernel
theorem dX4_shownAt_0 : decode cX4_shownAt 0 = .ok (.aload_n 0, 1) := by decide +kernel
theorem dX4_shownAt_1 : decode cX4_shownAt 1 = .ok (.iload_n 1, 1) := by decide +kernel
theorem dX4_shownAt_2 : decode cX4_shownAt 2 = .ok (.invokevirtual 38, 3) := by decide +kernel
theorem dX4_shownAt_5 : decode cX4_shownAt 5 = .ok (.astore_n 2, 1) := by decide +kernel
theorem dX4_shownAt_6 : decode cX4_shownAt 6 = .ok (.aload_n 2, 1) := by decide +kernel
theorem dX4_shownAt_7 : decode cX4_shownAt 7 = .ok (.ifnull 21, 3) := by decide +kernel
theorem dX4_shownAt_10 : decode cX4_shownAt 10 = .ok (.aload_n 2, 1) := by decide +kernel
theorem dX4_shownAt_11 : decode cX4_shownAt 11 = .ok (.getfield 42, 3) := by decide +kernel
theorem dX4_shownAt_14 : decode cX4_shownAt 14 = .ok (.ifCond .eq 14, 3) := by decide +kernel
theorem dX4_shownAt_17 : decode cX4_shownAt 17 = .ok (.aload_n 2, 1) := by decide +kernel
theorem dX4_shownAt_18 : decode cX4_shownAt 18 = .ok (.getfield 46, 3) := by decide +kernel
theorem dX4_shownAt_21 : decode cX4_shownAt 21 = .ok (.ifCond .eq 7, 3) := by decide +kernel
theorem dX4_shownAt_24 : decode cX4_shownAt 24 = .ok (.aload_n 2, 1) := by decide +kernel
theorem dX4_shownAt_25 : decode cX4_shownAt 25 = .ok (.goto 4, 3) := by decide +kernel
theorem dX4_shownAt_28 : decode cX4_shownAt 28 = .ok (.aconst_null, 1) := by decide +kernel
theorem dX4_shownAt_29 : decode cX4_shownAt 29 = .ok (.areturn, 1) := by decide +kernel
theorem dX4_isFull_0 : decode cX4_isFull 0 = .ok (.aload_n 0, 1) := by decide +kernel
theorem dX4_isFull_1 : decode cX4_isFull 1 = .ok (.getfield 24, 3) := by decide +kernel
theorem dX4_isFull_4 : decode cX4_isFull 4 = .ok (.bipush 40, 2) := by decide +kernel
theorem dX4_isFull_6 : decode cX4_isFull 6 = .ok (.if_icmp .lt 7, 3) := by decide +kernel
theorem dX4_isFull_9 : decode cX4_isFull 9 = .ok (.iconst 1, 1) := by decide +kernel
theorem dX4_isFull_10 : decode cX4_isFull 10 = .ok (.goto 4, 3) := by decide +kernel
theorem dX4_isFull_13 : decode cX4_isFull 13 = .ok (.iconst 0, 1) := by decide +kernel
theorem dX4_isFull_14 : decode cX4_isFull 14 = .ok (.ireturn, 1) := by decide +kernel
theorem dX4_append_0 : decode cX4_append 0 = .ok (.aload_n 0, 1) := by decide +kernel
theorem dX4_append_1 : decode cX4_append 1 = .ok (.aload_n 0, 1) := by decide +kernel
theorem dX4_append_2 : decode cX4_append 2 = .ok (.getfield 24, 3) := by decide +kernel
theorem dX4_append_5 : decode cX4_append 5 = .ok (.invokevirtual 38, 3) := by decide +kernel
theorem dX4_append_8 : decode cX4_append 8 = .ok (.astore_n 2, 1) := by decide +kernel
theorem dX4_append_9 : decode cX4_append 9 = .ok (.aload_n 2, 1) := by decide +kernel
theorem dX4_append_10 : decode cX4_append 10 = .ok (.ifnonnull 5, 3) := by decide +kernel
theorem dX4_append_13 : decode cX4_append 13 = .ok (.iconst (-1), 1) := by decide +kernel
theorem dX4_append_14 : decode cX4_append 14 = .ok (.ireturn, 1) := by decide +kernel
theorem dX4_append_15 : decode cX4_append 15 = .ok (.aload_n 2, 1) := by decide +kernel
theorem dX4_append_16 : decode cX4_append 16 = .ok (.aload_n 1, 1) := by decide +kernel
theorem dX4_append_17 : decode cX4_append 17 = .ok (.invokevirtual 34, 3) := by decide +kernel
theorem dX4_append_20 : decode cX4_append 20 = .ok (.aload_n 0, 1) := by decide +kernel
theorem dX4_append_21 : decode cX4_append 21 = .ok (.dup, 1) := by decide +kernel
theorem dX4_append_22 : decode cX4_append 22 = .ok (.getfield 24, 3) := by decide +kernel
theorem dX4_append_25 : decode cX4_append 25 = .ok (.iconst 1, 1) := by decide +kernel
theorem dX4_append_26 : decode cX4_append 26 = .ok (.iadd, 1) := by decide +kernel
theorem dX4_append_27 : decode cX4_append 27 = .ok (.putfield 24, 3) := by decide +kernel
theorem dX4_append_30 : decode cX4_append 30 = .ok (.aload_n 2, 1) := by decide +kernel
theorem dX4_append_31 : decode cX4_append 31 = .ok (.getfield 49, 3) := by decide +kernel
theorem dX4_append_34 : decode cX4_append 34 = .ok (.ireturn, 1) := by decide +kernel
theorem dX4_link_0 : decode cX4_link 0 = .ok (.iconst 0, 1) := by decide +kernel
theorem dX4_link_1 : decode cX4_link 1 = .ok (.istore_n 1, 1) := by decide +kernel
theorem dX4_link_2 : decode cX4_link 2 = .ok (.iload_n 1, 1) := by decide +kernel
theorem dX4_link_3 : decode cX4_link 3 = .ok (.bipush 40, 2) := by decide +kernel
theorem dX4_link_5 : decode cX4_link 5 = .ok (.if_icmp .ge 23, 3) := by decide +kernel
theorem dX4_link_8 : decode cX4_link 8 = .ok (.aload_n 0, 1) := by decide +kernel
theorem dX4_link_9 : decode cX4_link 9 = .ok (.iload_n 1, 1) := by decide +kernel
theorem dX4_link_10 : decode cX4_link 10 = .ok (.invokevirtual 38, 3) := by decide +kernel
theorem dX4_link_13 : decode cX4_link 13 = .ok (.astore_n 2, 1) := by decide +kernel
theorem dX4_link_14 : decode cX4_link 14 = .ok (.aload_n 2, 1) := by decide +kernel
theorem dX4_link_15 : decode cX4_link 15 = .ok (.ifnull 7, 3) := by decide +kernel
theorem dX4_link_18 : decode cX4_link 18 = .ok (.aload_n 2, 1) := by decide +kernel
theorem dX4_link_19 : decode cX4_link 19 = .ok (.invokevirtual 55, 3) := by decide +kernel
theorem dX4_link_22 : decode cX4_link 22 = .ok (.iinc 1 1, 3) := by decide +kernel
theorem dX4_link_25 : decode cX4_link 25 = .ok (.goto (-23), 3) := by decide +kernel
theorem dX4_link_28 : decode cX4_link 28 = .ok (.aload_n 0, 1) := by decide +kernel
theorem dX4_link_29 : decode cX4_link 29 = .ok (.getfield 20, 3) := by decide +kernel
theorem dX4_link_32 : decode cX4_link 32 = .ok (.iconst 1, 1) := by decide +kernel
theorem dX4_link_33 : decode cX4_link 33 = .ok (.putfield 46, 3) := by decide +kernel
theorem dX4_link_36 : decode cX4_link 36 = .ok (.iconst 1, 1) := by decide +kernel
theorem dX4_link_37 : decode cX4_link 37 = .ok (.istore_n 1, 1) := by decide +kernel
theorem dX4_link_38 : decode cX4_link 38 = .ok (.iload_n 1, 1) := by decide +kernel
theorem dX4_link_39 : decode cX4_link 39 = .ok (.bipush 40, 2) := by decide +kernel
theorem dX4_link_41 : decode cX4_link 41 = .ok (.if_icmp .ge 69, 3) := by decide +kernel
theorem dX4_link_44 : decode cX4_link 44 = .ok (.aload_n 0, 1) := by decide +kernel
theorem dX4_link_45 : decode cX4_link 45 = .ok (.iload_n 1, 1) := by decide +kernel
theorem dX4_link_46 : decode cX4_link 46 = .ok (.invokevirtual 38, 3) := by decide +kernel
theorem dX4_link_49 : decode cX4_link 49 = .ok (.astore_n 2, 1) := by decide +kernel
theorem dX4_link_50 : decode cX4_link 50 = .ok (.aload_n 2, 1) := by decide +kernel
theorem dX4_link_51 : decode cX4_link 51 = .ok (.ifnull 53, 3) := by decide +kernel
theorem dX4_link_54 : decode cX4_link 54 = .ok (.aload_n 2, 1) := by decide +kernel
theorem dX4_link_55 : decode cX4_link 55 = .ok (.getfield 42, 3) := by decide +kernel
theorem dX4_link_58 : decode cX4_link 58 = .ok (.ifCond .eq 46, 3) := by decide +kernel
theorem dX4_link_61 : decode cX4_link 61 = .ok (.aload_n 2, 1) := by decide +kernel
theorem dX4_link_62 : decode cX4_link 62 = .ok (.getfield 52, 3) := by decide +kernel
theorem dX4_link_65 : decode cX4_link 65 = .ok (.ifnull 39, 3) := by decide +kernel
theorem dX4_link_68 : decode cX4_link 68 = .ok (.aload_n 2, 1) := by decide +kernel
theorem dX4_link_69 : decode cX4_link 69 = .ok (.getfield 52, 3) := by decide +kernel
theorem dX4_link_72 : decode cX4_link 72 = .ok (.iconst 1, 1) := by decide +kernel
theorem dX4_link_73 : decode cX4_link 73 = .ok (.putfield 58, 3) := by decide +kernel
theorem dX4_link_76 : decode cX4_link 76 = .ok (.aload_n 2, 1) := by decide +kernel
theorem dX4_link_77 : decode cX4_link 77 = .ok (.bipush 18, 2) := by decide +kernel
theorem dX4_link_79 : decode cX4_link 79 = .ok (.invokevirtual 61, 3) := by decide +kernel
theorem dX4_link_82 : decode cX4_link 82 = .ok (.ifCond .ne 22, 3) := by decide +kernel
theorem dX4_link_85 : decode cX4_link 85 = .ok (.aload_n 2, 1) := by decide +kernel
theorem dX4_link_86 : decode cX4_link 86 = .ok (.aload_n 2, 1) := by decide +kernel
theorem dX4_link_87 : decode cX4_link 87 = .ok (.getfield 52, 3) := by decide +kernel
theorem dX4_link_90 : decode cX4_link 90 = .ok (.getfield 46, 3) := by decide +kernel
theorem dX4_link_93 : decode cX4_link 93 = .ok (.putfield 46, 3) := by decide +kernel
theorem dX4_link_96 : decode cX4_link 96 = .ok (.aload_n 2, 1) := by decide +kernel
theorem dX4_link_97 : decode cX4_link 97 = .ok (.getfield 52, 3) := by decide +kernel
theorem dX4_link_100 : decode cX4_link 100 = .ok (.aload_n 2, 1) := by decide +kernel
theorem dX4_link_101 : decode cX4_link 101 = .ok (.invokevirtual 65, 3) := by decide +kernel
theorem dX4_link_104 : decode cX4_link 104 = .ok (.iinc 1 1, 3) := by decide +kernel
theorem dX4_link_107 : decode cX4_link 107 = .ok (.goto (-69), 3) := by decide +kernel
theorem dX4_link_110 : decode cX4_link 110 = .ok (.return_, 1) := by decide +kernel
theorem dX5_init_0 : decode cX5_init 0 = .ok (.aload_n 0, 1) := by decide +kernel
theorem dX5_init_1 : decode cX5_init 1 = .ok (.invokespecial 1, 3) := by decide +kernel
theorem dX5_init_4 : decode cX5_init 4 = .ok (.aload_n 0, 1) := by decide +kernel
theorem dX5_init_5 : decode cX5_init 5 = .ok (.new 7, 3) := by decide +kernel
theorem dX5_init_8 : decode cX5_init 8 = .ok (.dup, 1) := by decide +kernel
theorem dX5_init_9 : decode cX5_init 9 = .ok (.invokespecial 9, 3) := by decide +kernel
theorem dX5_init_12 : decode cX5_init 12 = .ok (.putfield 10, 3) := by decide +kernel
theorem dX5_init_15 : decode cX5_init 15 = .ok (.aload_n 0, 1) := by decide +kernel
theorem dX5_init_16 : decode cX5_init 16 = .ok (.new 16, 3) := by decide +kernel
theorem dX5_init_19 : decode cX5_init 19 = .ok (.dup, 1) := by decide +kernel
theorem dX5_init_20 : decode cX5_init 20 = .ok (.aload_n 0, 1) := by decide +kernel
theorem dX5_init_21 : decode cX5_init 21 = .ok (.getfield 10, 3) := by decide +kernel
theorem dX5_init_24 : decode cX5_init 24 = .ok (.invokespecial 18, 3) := by decide +kernel
theorem dX5_init_27 : decode cX5_init 27 = .ok (.putfield 21, 3) := by decide +kernel
theorem dX5_init_30 : decode cX5_init 30 = .ok (.aload_n 0, 1) := by decide +kernel
theorem dX5_init_31 : decode cX5_init 31 = .ok (.iconst 2, 1) := by decide +kernel
theorem dX5_init_32 : decode cX5_init 32 = .ok (.anewarray 25, 3) := by decide +kernel
theorem dX5_init_35 : decode cX5_init 35 = .ok (.putfield 27, 3) := by decide +kernel
theorem dX5_init_38 : decode cX5_init 38 = .ok (.return_, 1) := by decide +kernel
theorem dX5_add_0 : decode cX5_add 0 = .ok (.aload_n 0, 1) := by decide +kernel
theorem dX5_add_1 : decode cX5_add 1 = .ok (.iload_n 1, 1) := by decide +kernel
theorem dX5_add_2 : decode cX5_add 2 = .ok (.invokevirtual 31, 3) := by decide +kernel
theorem dX5_add_5 : decode cX5_add 5 = .ok (.astore_n 2, 1) := by decide +kernel
theorem dX5_add_6 : decode cX5_add 6 = .ok (.aload_n 0, 1) := by decide +kernel
theorem dX5_add_7 : decode cX5_add 7 = .ok (.getfield 10, 3) := by decide +kernel
theorem dX5_add_10 : decode cX5_add 10 = .ok (.invokevirtual 35, 3) := by decide +kernel
theorem dX5_add_13 : decode cX5_add 13 = .ok (.ifCond .eq 13, 3) := by decide +kernel
theorem dX5_add_16 : decode cX5_add 16 = .ok (.new 39, 3) := by decide +kernel
theorem dX5_add_19 : decode cX5_add 19 = .ok (.dup, 1) := by decide +kernel
theorem dX5_add_20 : decode cX5_add 20 = .ok (.ldc 41, 2) := by decide +kernel
theorem dX5_add_22 : decode cX5_add 22 = .ok (.invokespecial 43, 3) := by decide +kernel
theorem dX5_add_25 : decode cX5_add 25 = .ok (.athrow, 1) := by decide +kernel
theorem dX5_add_26 : decode cX5_add 26 = .ok (.aload_n 0, 1) := by decide +kernel
theorem dX5_add_27 : decode cX5_add 27 = .ok (.getfield 21, 3) := by decide +kernel
theorem dX5_add_30 : decode cX5_add 30 = .ok (.iconst 1, 1) := by decide +kernel
theorem dX5_add_31 : decode cX5_add 31 = .ok (.putfield 46, 3) := by decide +kernel
theorem dX5_add_34 : decode cX5_add 34 = .ok (.aload_n 0, 1) := by decide +kernel
theorem dX5_add_35 : decode cX5_add 35 = .ok (.getfield 10, 3) := by decide +kernel
theorem dX5_add_38 : decode cX5_add 38 = .ok (.aload_n 2, 1) := by decide +kernel
theorem dX5_add_39 : decode cX5_add 39 = .ok (.invokevirtual 50, 3) := by decide +kernel
theorem dX5_add_42 : decode cX5_add 42 = .ok (.ireturn, 1) := by decide +kernel
theorem dX5_child_0 : decode cX5_child 0 = .ok (.aload_n 0, 1) := by decide +kernel
theorem dX5_child_1 : decode cX5_child 1 = .ok (.iload_n 1, 1) := by decide +kernel
theorem dX5_child_2 : decode cX5_child 2 = .ok (.invokevirtual 31, 3) := by decide +kernel
theorem dX5_child_5 : decode cX5_child 5 = .ok (.astore_n 3, 1) := by decide +kernel
theorem dX5_child_6 : decode cX5_child 6 = .ok (.aload_n 0, 1) := by decide +kernel
theorem dX5_child_7 : decode cX5_child 7 = .ok (.getfield 21, 3) := by decide +kernel
theorem dX5_child_10 : decode cX5_child 10 = .ok (.invokevirtual 74, 3) := by decide +kernel
theorem dX5_child_13 : decode cX5_child 13 = .ok (.iload_n 2, 1) := by decide +kernel
theorem dX5_child_14 : decode cX5_child 14 = .ok (.iconst (-1), 1) := by decide +kernel
theorem dX5_child_15 : decode cX5_child 15 = .ok (.if_icmp .ne 8, 3) := by decide +kernel
theorem dX5_child_18 : decode cX5_child 18 = .ok (.aload_n 3, 1) := by decide +kernel
theorem dX5_child_19 : decode cX5_child 19 = .ok (.getfield 77, 3) := by decide +kernel
theorem dX5_child_22 : decode cX5_child 22 = .ok (.ireturn, 1) := by decide +kernel
theorem dX5_child_23 : decode cX5_child 23 = .ok (.iconst 0, 1) := by decide +kernel
theorem dX5_child_24 : decode cX5_child 24 = .ok (.istore 4, 2) := by decide +kernel
theorem dX5_child_26 : decode cX5_child 26 = .ok (.aload_n 3, 1) := by decide +kernel
theorem dX5_child_27 : decode cX5_child 27 = .ok (.getfield 81, 3) := by decide +kernel
theorem dX5_child_30 : decode cX5_child 30 = .ok (.astore 5, 2) := by decide +kernel
theorem dX5_child_32 : decode cX5_child 32 = .ok (.aload 5, 2) := by decide +kernel
theorem dX5_child_34 : decode cX5_child 34 = .ok (.ifnull 28, 3) := by decide +kernel
theorem dX5_child_37 : decode cX5_child 37 = .ok (.iload 4, 2) := by decide +kernel
theorem dX5_child_39 : decode cX5_child 39 = .ok (.iload_n 2, 1) := by decide +kernel
theorem dX5_child_40 : decode cX5_child 40 = .ok (.if_icmp .ne 9, 3) := by decide +kernel
theorem dX5_child_43 : decode cX5_child 43 = .ok (.aload 5, 2) := by decide +kernel
theorem dX5_child_45 : decode cX5_child 45 = .ok (.getfield 85, 3) := by decide +kernel
theorem dX5_child_48 : decode cX5_child 48 = .ok (.ireturn, 1) := by decide +kernel
theorem dX5_child_49 : decode cX5_child 49 = .ok (.iinc 4 1, 3) := by decide +kernel
theorem dX5_child_52 : decode cX5_child 52 = .ok (.aload 5, 2) := by decide +kernel
theorem dX5_child_54 : decode cX5_child 54 = .ok (.getfield 88, 3) := by decide +kernel
theorem dX5_child_57 : decode cX5_child 57 = .ok (.astore 5, 2) := by decide +kernel
theorem dX5_child_59 : decode cX5_child 59 = .ok (.goto (-27), 3) := by decide +kernel
theorem dX5_child_62 : decode cX5_child 62 = .ok (.iconst (-1), 1) := by decide +kernel
theorem dX5_child_63 : decode cX5_child 63 = .ok (.ireturn, 1) := by decide +kernel
theorem dX5_set_0 : decode cX5_set 0 = .ok (.aload_n 0, 1) := by decide +kernel
theorem dX5_set_1 : decode cX5_set 1 = .ok (.iload_n 1, 1) := by decide +kernel
theorem dX5_set_2 : decode cX5_set 2 = .ok (.invokevirtual 31, 3) := by decide +kernel
theorem dX5_set_5 : decode cX5_set 5 = .ok (.astore 4, 2) := by decide +kernel
theorem dX5_set_7 : decode cX5_set 7 = .ok (.iload_n 2, 1) := by decide +kernel
theorem dX5_set_8 : decode cX5_set 8 = .ok (.invokestatic 91, 3) := by decide +kernel
theorem dX5_set_11 : decode cX5_set 11 = .ok (.ifCond .ne 13, 3) := by decide +kernel
theorem dX5_set_14 : decode cX5_set 14 = .ok (.new 59, 3) := by decide +kernel
theorem dX5_set_17 : decode cX5_set 17 = .ok (.dup, 1) := by decide +kernel
theorem dX5_set_18 : decode cX5_set 18 = .ok (.ldc 95, 2) := by decide +kernel
theorem dX5_set_20 : decode cX5_set 20 = .ok (.invokespecial 63, 3) := by decide +kernel
theorem dX5_set_23 : decode cX5_set 23 = .ok (.athrow, 1) := by decide +kernel
theorem dX5_set_24 : decode cX5_set 24 = .ok (.iload_n 3, 1) := by decide +kernel
theorem dX5_set_25 : decode cX5_set 25 = .ok (.getstatic 97, 3) := by decide +kernel
theorem dX5_set_28 : decode cX5_set 28 = .ok (.iload_n 2, 1) := by decide +kernel
theorem dX5_set_29 : decode cX5_set 29 = .ok (.iaload, 1) := by decide +kernel
theorem dX5_set_30 : decode cX5_set 30 = .ok (.if_icmp .lt 12, 3) := by decide +kernel
theorem dX5_set_33 : decode cX5_set 33 = .ok (.iload_n 3, 1) := by decide +kernel
theorem dX5_set_34 : decode cX5_set 34 = .ok (.getstatic 101, 3) := by decide +kernel
theorem dX5_set_37 : decode cX5_set 37 = .ok (.iload_n 2, 1) := by decide +kernel
theorem dX5_set_38 : decode cX5_set 38 = .ok (.iaload, 1) := by decide +kernel
theorem dX5_set_39 : decode cX5_set 39 = .ok (.if_icmp .le 13, 3) := by decide +kernel
theorem dX5_set_42 : decode cX5_set 42 = .ok (.new 59, 3) := by decide +kernel
theorem dX5_set_45 : decode cX5_set 45 = .ok (.dup, 1) := by decide +kernel
theorem dX5_set_46 : decode cX5_set 46 = .ok (.ldc 104, 2) := by decide +kernel
theorem dX5_set_48 : decode cX5_set 48 = .ok (.invokespecial 63, 3) := by decide +kernel
theorem dX5_set_51 : decode cX5_set 51 = .ok (.athrow, 1) := by decide +kernel
theorem dX5_set_52 : decode cX5_set 52 = .ok (.aload_n 0, 1) := by decide +kernel
theorem dX5_set_53 : decode cX5_set 53 = .ok (.getfield 21, 3) := by decide +kernel
theorem dX5_set_56 : decode cX5_set 56 = .ok (.iconst 1, 1) := by decide +kernel
theorem dX5_set_57 : decode cX5_set 57 = .ok (.putfield 46, 3) := by decide +kernel
theorem dX5_set_60 : decode cX5_set 60 = .ok (.aload 4, 2) := by decide +kernel
theorem dX5_set_62 : decode cX5_set 62 = .ok (.iload_n 2, 1) := by decide +kernel
theorem dX5_set_63 : decode cX5_set 63 = .ok (.iload_n 3, 1) := by decide +kernel
theorem dX5_set_64 : decode cX5_set 64 = .ok (.invokevirtual 106, 3) := by decide +kernel
theorem dX5_set_67 : decode cX5_set 67 = .ok (.ireturn, 1) := by decide +kernel
theorem dX5_viewport_0 : decode cX5_viewport 0 = .ok (.iload_n 1, 1) := by decide +kernel
theorem dX5_viewport_1 : decode cX5_viewport 1 = .ok (.invokestatic 114, 3) := by decide +kernel
theorem dX5_viewport_4 : decode cX5_viewport 4 = .ok (.ifCond .eq 10, 3) := by decide +kernel
theorem dX5_viewport_7 : decode cX5_viewport 7 = .ok (.iload_n 2, 1) := by decide +kernel
theorem dX5_viewport_8 : decode cX5_viewport 8 = .ok (.invokestatic 114, 3) := by decide +kernel
theorem dX5_viewport_11 : decode cX5_viewport 11 = .ok (.ifCond .ne 13, 3) := by decide +kernel
theorem dX5_viewport_14 : decode cX5_viewport 14 = .ok (.new 59, 3) := by decide +kernel
theorem dX5_viewport_17 : decode cX5_viewport 17 = .ok (.dup, 1) := by decide +kernel
theorem dX5_viewport_18 : decode cX5_viewport 18 = .ok (.ldc 117, 2) := by decide +kernel
theorem dX5_viewport_20 : decode cX5_viewport 20 = .ok (.invokespecial 63, 3) := by decide +kernel
theorem dX5_viewport_23 : decode cX5_viewport 23 = .ok (.athrow, 1) := by decide +kernel
theorem dX5_viewport_24 : decode cX5_viewport 24 = .ok (.aload_n 0, 1) := by decide +kernel
theorem dX5_viewport_25 : decode cX5_viewport 25 = .ok (.getfield 21, 3) := by decide +kernel
theorem dX5_viewport_28 : decode cX5_viewport 28 = .ok (.iconst 1, 1) := by decide +kernel
theorem dX5_viewport_29 : decode cX5_viewport 29 = .ok (.putfield 46, 3) := by decide +kernel
theorem dX5_viewport_32 : decode cX5_viewport 32 = .ok (.aload_n 0, 1) := by decide +kernel
theorem dX5_viewport_33 : decode cX5_viewport 33 = .ok (.getfield 10, 3) := by decide +kernel
theorem dX5_viewport_36 : decode cX5_viewport 36 = .ok (.iload_n 1, 1) := by decide +kernel
theorem dX5_viewport_37 : decode cX5_viewport 37 = .ok (.putfield 119, 3) := by decide +kernel
theorem dX5_viewport_40 : decode cX5_viewport 40 = .ok (.aload_n 0, 1) := by decide +kernel
theorem dX5_viewport_41 : decode cX5_viewport 41 = .ok (.getfield 10, 3) := by decide +kernel
theorem dX5_viewport_44 : decode cX5_viewport 44 = .ok (.iload_n 2, 1) := by decide +kernel
theorem dX5_viewport_45 : decode cX5_viewport 45 = .ok (.putfield 122, 3) := by decide +kernel
theorem dX5_viewport_48 : decode cX5_viewport 48 = .ok (.return_, 1) := by decide +kernel
theorem dX5_x_0 : decode cX5_x 0 = .ok (.aload_n 0, 1) := by decide +kernel
theorem dX5_x_1 : decode cX5_x 1 = .ok (.aload_n 0, 1) := by decide +kernel
theorem dX5_x_2 : decode cX5_x 2 = .ok (.iload_n 1, 1) := by decide +kernel
theorem dX5_x_3 : decode cX5_x 3 = .ok (.invokevirtual 31, 3) := by decide +kernel
theorem dX5_x_6 : decode cX5_x 6 = .ok (.invokevirtual 125, 3) := by decide +kernel
theorem dX5_x_9 : decode cX5_x 9 = .ok (.getfield 129, 3) := by decide +kernel
theorem dX5_x_12 : decode cX5_x 12 = .ok (.ireturn, 1) := by decide +kernel
theorem dX5_y_0 : decode cX5_y 0 = .ok (.aload_n 0, 1) := by decide +kernel
theorem dX5_y_1 : decode cX5_y 1 = .ok (.aload_n 0, 1) := by decide +kernel
theorem dX5_y_2 : decode cX5_y 2 = .ok (.iload_n 1, 1) := by decide +kernel
theorem dX5_y_3 : decode cX5_y 3 = .ok (.invokevirtual 31, 3) := by decide +kernel
theorem dX5_y_6 : decode cX5_y 6 = .ok (.invokevirtual 125, 3) := by decide +kernel
theorem dX5_y_9 : decode cX5_y 9 = .ok (.getfield 132, 3) := by decide +kernel
theorem dX5_y_12 : decode cX5_y 12 = .ok (.ireturn, 1) := by decide +kernel
theorem dX5_width_0 : decode cX5_width 0 = .ok (.aload_n 0, 1) := by decide +kernel
theorem dX5_width_1 : decode cX5_width 1 = .ok (.aload_n 0, 1) := by decide +kernel
theorem dX5_width_2 : decode cX5_width 2 = .ok (.iload_n 1, 1) := by decide +kernel
theorem dX5_width_3 : decode cX5_width 3 = .ok (.invokevirtual 31, 3) := by decide +kernel
theorem dX5_width_6 : decode cX5_width 6 = .ok (.invokevirtual 125, 3) := by decide +kernel
theorem dX5_width_9 : decode cX5_width 9 = .ok (.getfield 135, 3) := by decide +kernel
theorem dX5_width_12 : decode cX5_width 12 = .ok (.ireturn, 1) := by decide +kernel
theorem dX5_height_0 : decode cX5_height 0 = .ok (.aload_n 0, 1) := by decide +kernel
theorem dX5_height_1 : decode cX5_height 1 = .ok (.aload_n 0, 1) := by decide +kernel
theorem dX5_height_2 : decode cX5_height 2 = .ok (.iload_n 1, 1) := by decide +kernel
theorem dX5_height_3 : decode cX5_height 3 = .ok (.invokevirtual 31, 3) := by decide +kernel
theorem dX5_height_6 : decode cX5_height 6 = .ok (.invokevirtual 125, 3) := by decide +kernel
theorem dX5_height_9 : decode cX5_height 9 = .ok (.getfield 138, 3) := by decide +kernel
theorem dX5_height_12 : decode cX5_height 12 = .ok (.ireturn, 1) := by decide +kernel
theorem dX5_lines_0 : decode cX5_lines 0 = .ok (.aload_n 0, 1) := by decide +kernel
theorem dX5_lines_1 : decode cX5_lines 1 = .ok (.aload_n 0, 1) := by decide +kernel
theorem dX5_lines_2 : decode cX5_lines 2 = .ok (.iload_n 1, 1) := by decide +kernel
theorem dX5_lines_3 : decode cX5_lines 3 = .ok (.invokevirtual 31, 3) := by decide +kernel
theorem dX5_lines_6 : decode cX5_lines 6 = .ok (.invokevirtual 125, 3) := by decide +kernel
theorem dX5_lines_9 : decode cX5_lines 9 = .ok (.getfield 147, 3) := by decide +kernel
theorem dX5_lines_12 : decode cX5_lines 12 = .ok (.ireturn, 1) := by decide +kernel
theorem dX5_lineOf_0 : decode cX5_lineOf 0 = .ok (.aload_n 0, 1) := by decide +kernel
theorem dX5_lineOf_1 : decode cX5_lineOf 1 = .ok (.aload_n 0, 1) := by decide +kernel
theorem dX5_lineOf_2 : decode cX5_lineOf 2 = .ok (.iload_n 1, 1) := by decide +kernel
theorem dX5_lineOf_3 : decode cX5_lineOf 3 = .ok (.invokevirtual 31, 3) := by decide +kernel
