theorem dX6_rowContent_12 : decode cX6_rowContent 12 = .ok (.iconst 0, 1) := by decide +kernel
theorem dX6_rowContent_13 : decode cX6_rowContent 13 = .ok (.istore_n 3, 1) := by decide +kernel
theorem dX6_rowContent_14 : decode cX6_rowContent 14 = .ok (.iload_n 3, 1) := by decide +kernel
theorem dX6_rowContent_15 : decode cX6_rowContent 15 = .ok (.aload_n 0, 1) := by decide +kernel
theorem dX6_rowContent_16 : decode cX6_rowContent 16 = .ok (.getfield 38, 3) := by decide +kernel
theorem dX6_rowContent_19 : decode cX6_rowContent 19 = .ok (.iload_n 1, 1) := by decide +kernel
theorem dX6_rowContent_20 : decode cX6_rowContent 20 = .ok (.iaload, 1) := by decide +kernel
theorem dX6_rowContent_21 : decode cX6_rowContent 21 = .ok (.if_icmp .ge 17, 3) := by decide +kernel
theorem dX6_rowContent_24 : decode cX6_rowContent 24 = .ok (.iload_n 2, 1) := by decide +kernel
theorem dX6_rowContent_25 : decode cX6_rowContent 25 = .ok (.aload_n 0, 1) := by decide +kernel
theorem dX6_rowContent_26 : decode cX6_rowContent 26 = .ok (.iload_n 3, 1) := by decide +kernel
theorem dX6_rowContent_27 : decode cX6_rowContent 27 = .ok (.invokevirtual 163, 3) := by decide +kernel
theorem dX6_rowContent_30 : decode cX6_rowContent 30 = .ok (.iadd, 1) := by decide +kernel
theorem dX6_rowContent_31 : decode cX6_rowContent 31 = .ok (.istore_n 2, 1) := by decide +kernel
theorem dX6_rowContent_32 : decode cX6_rowContent 32 = .ok (.iinc 3 1, 3) := by decide +kernel
theorem dX6_rowContent_35 : decode cX6_rowContent 35 = .ok (.goto (-21), 3) := by decide +kernel
theorem dX6_rowContent_38 : decode cX6_rowContent 38 = .ok (.iload_n 2, 1) := by decide +kernel
theorem dX6_rowContent_39 : decode cX6_rowContent 39 = .ok (.ireturn, 1) := by decide +kernel
theorem dX6_findNaturalHeights_0 : decode cX6_findNaturalHeights 0 = .ok (.aload_n 0, 1) := by decide +kernel
theorem dX6_findNaturalHeights_1 : decode cX6_findNaturalHeights 1 = .ok (.getfield 7, 3) := by decide +kernel
theorem dX6_findNaturalHeights_4 : decode cX6_findNaturalHeights 4 = .ok (.iconst 0, 1) := by decide +kernel
theorem dX6_findNaturalHeights_5 : decode cX6_findNaturalHeights 5 = .ok (.iaload, 1) := by decide +kernel
theorem dX6_findNaturalHeights_6 : decode cX6_findNaturalHeights 6 = .ok (.iconst 1, 1) := by decide +kernel
theorem dX6_findNaturalHeights_7 : decode cX6_findNaturalHeights 7 = .ok (.isub, 1) := by decide +kernel
theorem dX6_findNaturalHeights_8 : decode cX6_findNaturalHeights 8 = .ok (.istore_n 1, 1) := by decide +kernel
theorem dX6_findNaturalHeights_9 : decode cX6_findNaturalHeights 9 = .ok (.iload_n 1, 1) := by decide +kernel
theorem dX6_findNaturalHeights_10 : decode cX6_findNaturalHeights 10 = .ok (.ifCond .lt 76, 3) := by decide +kernel
theorem dX6_findNaturalHeights_13 : decode cX6_findNaturalHeights 13 = .ok (.aload_n 0, 1) := by decide +kernel
theorem dX6_findNaturalHeights_14 : decode cX6_findNaturalHeights 14 = .ok (.getfield 23, 3) := by decide +kernel
theorem dX6_findNaturalHeights_17 : decode cX6_findNaturalHeights 17 = .ok (.iload_n 1, 1) := by decide +kernel
theorem dX6_findNaturalHeights_18 : decode cX6_findNaturalHeights 18 = .ok (.baload, 1) := by decide +kernel
theorem dX6_findNaturalHeights_19 : decode cX6_findNaturalHeights 19 = .ok (.ifCond .eq 61, 3) := by decide +kernel
theorem dX6_findNaturalHeights_22 : decode cX6_findNaturalHeights 22 = .ok (.aload_n 0, 1) := by decide +kernel
theorem dX6_findNaturalHeights_23 : decode cX6_findNaturalHeights 23 = .ok (.iload_n 1, 1) := by decide +kernel
theorem dX6_findNaturalHeights_24 : decode cX6_findNaturalHeights 24 = .ok (.invokevirtual 87, 3) := by decide +kernel
theorem dX6_findNaturalHeights_27 : decode cX6_findNaturalHeights 27 = .ok (.aload_n 0, 1) := by decide +kernel
theorem dX6_findNaturalHeights_28 : decode cX6_findNaturalHeights 28 = .ok (.iload_n 1, 1) := by decide +kernel
theorem dX6_findNaturalHeights_29 : decode cX6_findNaturalHeights 29 = .ok (.invokevirtual 110, 3) := by decide +kernel
theorem dX6_findNaturalHeights_32 : decode cX6_findNaturalHeights 32 = .ok (.ifCond .eq 15, 3) := by decide +kernel
theorem dX6_findNaturalHeights_35 : decode cX6_findNaturalHeights 35 = .ok (.bipush 16, 2) := by decide +kernel
theorem dX6_findNaturalHeights_37 : decode cX6_findNaturalHeights 37 = .ok (.aload_n 0, 1) := by decide +kernel
theorem dX6_findNaturalHeights_38 : decode cX6_findNaturalHeights 38 = .ok (.getfield 38, 3) := by decide +kernel
theorem dX6_findNaturalHeights_41 : decode cX6_findNaturalHeights 41 = .ok (.iload_n 1, 1) := by decide +kernel
theorem dX6_findNaturalHeights_42 : decode cX6_findNaturalHeights 42 = .ok (.iaload, 1) := by decide +kernel
theorem dX6_findNaturalHeights_43 : decode cX6_findNaturalHeights 43 = .ok (.imul, 1) := by decide +kernel
theorem dX6_findNaturalHeights_44 : decode cX6_findNaturalHeights 44 = .ok (.goto 28, 3) := by decide +kernel
theorem dX6_findNaturalHeights_47 : decode cX6_findNaturalHeights 47 = .ok (.aload_n 0, 1) := by decide +kernel
theorem dX6_findNaturalHeights_48 : decode cX6_findNaturalHeights 48 = .ok (.iload_n 1, 1) := by decide +kernel
theorem dX6_findNaturalHeights_49 : decode cX6_findNaturalHeights 49 = .ok (.iconst 0, 1) := by decide +kernel
theorem dX6_findNaturalHeights_50 : decode cX6_findNaturalHeights 50 = .ok (.invokevirtual 73, 3) := by decide +kernel
theorem dX6_findNaturalHeights_53 : decode cX6_findNaturalHeights 53 = .ok (.iconst 1, 1) := by decide +kernel
theorem dX6_findNaturalHeights_54 : decode cX6_findNaturalHeights 54 = .ok (.if_icmp .ne 13, 3) := by decide +kernel
theorem dX6_findNaturalHeights_57 : decode cX6_findNaturalHeights 57 = .ok (.aload_n 0, 1) := by decide +kernel
theorem dX6_findNaturalHeights_58 : decode cX6_findNaturalHeights 58 = .ok (.iload_n 1, 1) := by decide +kernel
theorem dX6_findNaturalHeights_59 : decode cX6_findNaturalHeights 59 = .ok (.iconst 1, 1) := by decide +kernel
theorem dX6_findNaturalHeights_60 : decode cX6_findNaturalHeights 60 = .ok (.iconst 1, 1) := by decide +kernel
theorem dX6_findNaturalHeights_61 : decode cX6_findNaturalHeights 61 = .ok (.invokevirtual 113, 3) := by decide +kernel
theorem dX6_findNaturalHeights_64 : decode cX6_findNaturalHeights 64 = .ok (.goto 8, 3) := by decide +kernel
theorem dX6_findNaturalHeights_67 : decode cX6_findNaturalHeights 67 = .ok (.aload_n 0, 1) := by decide +kernel
theorem dX6_findNaturalHeights_68 : decode cX6_findNaturalHeights 68 = .ok (.iload_n 1, 1) := by decide +kernel
theorem dX6_findNaturalHeights_69 : decode cX6_findNaturalHeights 69 = .ok (.invokevirtual 166, 3) := by decide +kernel
theorem dX6_findNaturalHeights_72 : decode cX6_findNaturalHeights 72 = .ok (.istore_n 2, 1) := by decide +kernel
theorem dX6_findNaturalHeights_73 : decode cX6_findNaturalHeights 73 = .ok (.aload_n 0, 1) := by decide +kernel
theorem dX6_findNaturalHeights_74 : decode cX6_findNaturalHeights 74 = .ok (.iload_n 1, 1) := by decide +kernel
theorem dX6_findNaturalHeights_75 : decode cX6_findNaturalHeights 75 = .ok (.iconst 1, 1) := by decide +kernel
theorem dX6_findNaturalHeights_76 : decode cX6_findNaturalHeights 76 = .ok (.iload_n 2, 1) := by decide +kernel
theorem dX6_findNaturalHeights_77 : decode cX6_findNaturalHeights 77 = .ok (.invokevirtual 117, 3) := by decide +kernel
theorem dX6_findNaturalHeights_80 : decode cX6_findNaturalHeights 80 = .ok (.iinc 1 (-1), 3) := by decide +kernel
theorem dX6_findNaturalHeights_83 : decode cX6_findNaturalHeights 83 = .ok (.goto (-74), 3) := by decide +kernel
theorem dX6_findNaturalHeights_86 : decode cX6_findNaturalHeights 86 = .ok (.return_, 1) := by decide +kernel
theorem dX6_moved_0 : decode cX6_moved 0 = .ok (.iload_n 1, 1) := by decide +kernel
theorem dX6_moved_1 : decode cX6_moved 1 = .ok (.ifCond .le 7, 3) := by decide +kernel
theorem dX6_moved_4 : decode cX6_moved 4 = .ok (.iload_n 0, 1) := by decide +kernel
theorem dX6_moved_5 : decode cX6_moved 5 = .ok (.ifCond .ne 5, 3) := by decide +kernel
theorem dX6_moved_8 : decode cX6_moved 8 = .ok (.iconst 0, 1) := by decide +kernel
theorem dX6_moved_9 : decode cX6_moved 9 = .ok (.ireturn, 1) := by decide +kernel
theorem dX6_moved_10 : decode cX6_moved 10 = .ok (.iload_n 0, 1) := by decide +kernel
theorem dX6_moved_11 : decode cX6_moved 11 = .ok (.iconst 1, 1) := by decide +kernel
theorem dX6_moved_12 : decode cX6_moved 12 = .ok (.if_icmp .ne 5, 3) := by decide +kernel
theorem dX6_moved_15 : decode cX6_moved 15 = .ok (.iload_n 1, 1) := by decide +kernel
theorem dX6_moved_16 : decode cX6_moved 16 = .ok (.ireturn, 1) := by decide +kernel
theorem dX6_moved_17 : decode cX6_moved 17 = .ok (.iload_n 0, 1) := by decide +kernel
theorem dX6_moved_18 : decode cX6_moved 18 = .ok (.iconst 2, 1) := by decide +kernel
theorem dX6_moved_19 : decode cX6_moved 19 = .ok (.if_icmp .ne 7, 3) := by decide +kernel
theorem dX6_moved_22 : decode cX6_moved 22 = .ok (.iload_n 1, 1) := by decide +kernel
theorem dX6_moved_23 : decode cX6_moved 23 = .ok (.iconst 2, 1) := by decide +kernel
theorem dX6_moved_24 : decode cX6_moved 24 = .ok (.idiv, 1) := by decide +kernel
theorem dX6_moved_25 : decode cX6_moved 25 = .ok (.ireturn, 1) := by decide +kernel
theorem dX6_moved_26 : decode cX6_moved 26 = .ok (.iload_n 0, 1) := by decide +kernel
theorem dX6_moved_27 : decode cX6_moved 27 = .ok (.iconst 3, 1) := by decide +kernel
theorem dX6_moved_28 : decode cX6_moved 28 = .ok (.if_icmp .ne 20, 3) := by decide +kernel
theorem dX6_moved_31 : decode cX6_moved 31 = .ok (.iload_n 3, 1) := by decide +kernel
theorem dX6_moved_32 : decode cX6_moved 32 = .ok (.iconst 1, 1) := by decide +kernel
theorem dX6_moved_33 : decode cX6_moved 33 = .ok (.if_icmp .ne 7, 3) := by decide +kernel
theorem dX6_moved_36 : decode cX6_moved 36 = .ok (.iconst 0, 1) := by decide +kernel
theorem dX6_moved_37 : decode cX6_moved 37 = .ok (.goto 10, 3) := by decide +kernel
theorem dX6_moved_40 : decode cX6_moved 40 = .ok (.iload_n 1, 1) := by decide +kernel
theorem dX6_moved_41 : decode cX6_moved 41 = .ok (.iload_n 2, 1) := by decide +kernel
theorem dX6_moved_42 : decode cX6_moved 42 = .ok (.imul, 1) := by decide +kernel
theorem dX6_moved_43 : decode cX6_moved 43 = .ok (.iload_n 3, 1) := by decide +kernel
theorem dX6_moved_44 : decode cX6_moved 44 = .ok (.iconst 1, 1) := by decide +kernel
theorem dX6_moved_45 : decode cX6_moved 45 = .ok (.isub, 1) := by decide +kernel
theorem dX6_moved_46 : decode cX6_moved 46 = .ok (.idiv, 1) := by decide +kernel
theorem dX6_moved_47 : decode cX6_moved 47 = .ok (.ireturn, 1) := by decide +kernel
theorem dX6_moved_48 : decode cX6_moved 48 = .ok (.iload_n 1, 1) := by decide +kernel
theorem dX6_moved_49 : decode cX6_moved 49 = .ok (.iload_n 2, 1) := by decide +kernel
theorem dX6_moved_50 : decode cX6_moved 50 = .ok (.iconst 1, 1) := by decide +kernel
theorem dX6_moved_51 : decode cX6_moved 51 = .ok (.iadd, 1) := by decide +kernel
theorem dX6_moved_52 : decode cX6_moved 52 = .ok (.imul, 1) := by decide +kernel
theorem dX6_moved_53 : decode cX6_moved 53 = .ok (.iload_n 3, 1) := by decide +kernel
theorem dX6_moved_54 : decode cX6_moved 54 = .ok (.iconst 1, 1) := by decide +kernel
theorem dX6_moved_55 : decode cX6_moved 55 = .ok (.iadd, 1) := by decide +kernel
theorem dX6_moved_56 : decode cX6_moved 56 = .ok (.idiv, 1) := by decide +kernel
theorem dX6_moved_57 : decode cX6_moved 57 = .ok (.ireturn, 1) := by decide +kernel
theorem dX6_justify_0 : decode cX6_justify 0 = .ok (.aload_n 0, 1) := by decide +kernel
theorem dX6_justify_1 : decode cX6_justify 1 = .ok (.iload_n 1, 1) := by decide +kernel
theorem dX6_justify_2 : decode cX6_justify 2 = .ok (.iload 4, 2) := by decide +kernel
theorem dX6_justify_4 : decode cX6_justify 4 = .ok (.invokevirtual 141, 3) := by decide +kernel
theorem dX6_justify_7 : decode cX6_justify 7 = .ok (.istore 5, 2) := by decide +kernel
theorem dX6_justify_9 : decode cX6_justify 9 = .ok (.aload_n 0, 1) := by decide +kernel
theorem dX6_justify_10 : decode cX6_justify 10 = .ok (.iload_n 1, 1) := by decide +kernel
theorem dX6_justify_11 : decode cX6_justify 11 = .ok (.iload_n 3, 1) := by decide +kernel
theorem dX6_justify_12 : decode cX6_justify 12 = .ok (.iload_n 2, 1) := by decide +kernel
theorem dX6_justify_13 : decode cX6_justify 13 = .ok (.isub, 1) := by decide +kernel
theorem dX6_justify_14 : decode cX6_justify 14 = .ok (.invokevirtual 103, 3) := by decide +kernel
theorem dX6_justify_17 : decode cX6_justify 17 = .ok (.istore 6, 2) := by decide +kernel
theorem dX6_justify_19 : decode cX6_justify 19 = .ok (.iload_n 2, 1) := by decide +kernel
theorem dX6_justify_20 : decode cX6_justify 20 = .ok (.istore 7, 2) := by decide +kernel
theorem dX6_justify_22 : decode cX6_justify 22 = .ok (.iload 7, 2) := by decide +kernel
theorem dX6_justify_24 : decode cX6_justify 24 = .ok (.iload_n 3, 1) := by decide +kernel
theorem dX6_justify_25 : decode cX6_justify 25 = .ok (.if_icmp .ge 42, 3) := by decide +kernel
theorem dX6_justify_28 : decode cX6_justify 28 = .ok (.iload 6, 2) := by decide +kernel
theorem dX6_justify_30 : decode cX6_justify 30 = .ok (.aload_n 0, 1) := by decide +kernel
theorem dX6_justify_31 : decode cX6_justify 31 = .ok (.aload_n 0, 1) := by decide +kernel
theorem dX6_justify_32 : decode cX6_justify 32 = .ok (.getfield 20, 3) := by decide +kernel
theorem dX6_justify_35 : decode cX6_justify 35 = .ok (.iload 7, 2) := by decide +kernel
theorem dX6_justify_37 : decode cX6_justify 37 = .ok (.iaload, 1) := by decide +kernel
theorem dX6_justify_38 : decode cX6_justify 38 = .ok (.aload_n 0, 1) := by decide +kernel
theorem dX6_justify_39 : decode cX6_justify 39 = .ok (.getfield 29, 3) := by decide +kernel
theorem dX6_justify_42 : decode cX6_justify 42 = .ok (.iconst 2, 1) := by decide +kernel
theorem dX6_justify_43 : decode cX6_justify 43 = .ok (.aload_n 0, 1) := by decide +kernel
theorem dX6_justify_44 : decode cX6_justify 44 = .ok (.getfield 20, 3) := by decide +kernel
theorem dX6_justify_47 : decode cX6_justify 47 = .ok (.iload 7, 2) := by decide +kernel
theorem dX6_justify_49 : decode cX6_justify 49 = .ok (.iaload, 1) := by decide +kernel
theorem dX6_justify_50 : decode cX6_justify 50 = .ok (.imul, 1) := by decide +kernel
theorem dX6_justify_51 : decode cX6_justify 51 = .ok (.iload 4, 2) := by decide +kernel
theorem dX6_justify_53 : decode cX6_justify 53 = .ok (.iadd, 1) := by decide +kernel
theorem dX6_justify_54 : decode cX6_justify 54 = .ok (.iaload, 1) := by decide +kernel
theorem dX6_justify_55 : decode cX6_justify 55 = .ok (.invokevirtual 100, 3) := by decide +kernel
theorem dX6_justify_58 : decode cX6_justify 58 = .ok (.iadd, 1) := by decide +kernel
theorem dX6_justify_59 : decode cX6_justify 59 = .ok (.istore 6, 2) := by decide +kernel
theorem dX6_justify_61 : decode cX6_justify 61 = .ok (.iinc 7 1, 3) := by decide +kernel
theorem dX6_justify_64 : decode cX6_justify 64 = .ok (.goto (-42), 3) := by decide +kernel
theorem dX6_justify_67 : decode cX6_justify 67 = .ok (.aload_n 0, 1) := by decide +kernel
theorem dX6_justify_68 : decode cX6_justify 68 = .ok (.getfield 32, 3) := by decide +kernel
theorem dX6_justify_71 : decode cX6_justify 71 = .ok (.iconst 2, 1) := by decide +kernel
theorem dX6_justify_72 : decode cX6_justify 72 = .ok (.iload_n 1, 1) := by decide +kernel
theorem dX6_justify_73 : decode cX6_justify 73 = .ok (.imul, 1) := by decide +kernel
theorem dX6_justify_74 : decode cX6_justify 74 = .ok (.iload 4, 2) := by decide +kernel
theorem dX6_justify_76 : decode cX6_justify 76 = .ok (.iadd, 1) := by decide +kernel
theorem dX6_justify_77 : decode cX6_justify 77 = .ok (.iaload, 1) := by decide +kernel
theorem dX6_justify_78 : decode cX6_justify 78 = .ok (.aload_n 0, 1) := by decide +kernel
theorem dX6_justify_79 : decode cX6_justify 79 = .ok (.iload_n 1, 1) := by decide +kernel
theorem dX6_justify_80 : decode cX6_justify 80 = .ok (.iconst 5, 1) := by decide +kernel
theorem dX6_justify_81 : decode cX6_justify 81 = .ok (.invokevirtual 73, 3) := by decide +kernel
theorem dX6_justify_84 : decode cX6_justify 84 = .ok (.iadd, 1) := by decide +kernel
theorem dX6_justify_85 : decode cX6_justify 85 = .ok (.istore 7, 2) := by decide +kernel
theorem dX6_justify_87 : decode cX6_justify 87 = .ok (.iload_n 2, 1) := by decide +kernel
theorem dX6_justify_88 : decode cX6_justify 88 = .ok (.istore 8, 2) := by decide +kernel
theorem dX6_justify_90 : decode cX6_justify 90 = .ok (.iload 8, 2) := by decide +kernel
theorem dX6_justify_92 : decode cX6_justify 92 = .ok (.iload_n 3, 1) := by decide +kernel
theorem dX6_justify_93 : decode cX6_justify 93 = .ok (.if_icmp .ge 93, 3) := by decide +kernel
theorem dX6_justify_96 : decode cX6_justify 96 = .ok (.aload_n 0, 1) := by decide +kernel
theorem dX6_justify_97 : decode cX6_justify 97 = .ok (.getfield 20, 3) := by decide +kernel
theorem dX6_justify_100 : decode cX6_justify 100 = .ok (.iload 8, 2) := by decide +kernel
theorem dX6_justify_102 : decode cX6_justify 102 = .ok (.iaload, 1) := by decide +kernel
theorem dX6_justify_103 : decode cX6_justify 103 = .ok (.istore 9, 2) := by decide +kernel
theorem dX6_justify_105 : decode cX6_justify 105 = .ok (.aload_n 0, 1) := by decide +kernel
theorem dX6_justify_106 : decode cX6_justify 106 = .ok (.getfield 32, 3) := by decide +kernel
theorem dX6_justify_109 : decode cX6_justify 109 = .ok (.iconst 2, 1) := by decide +kernel
theorem dX6_justify_110 : decode cX6_justify 110 = .ok (.iload 9, 2) := by decide +kernel
theorem dX6_justify_112 : decode cX6_justify 112 = .ok (.imul, 1) := by decide +kernel
theorem dX6_justify_113 : decode cX6_justify 113 = .ok (.iload 4, 2) := by decide +kernel
theorem dX6_justify_115 : decode cX6_justify 115 = .ok (.iadd, 1) := by decide +kernel
theorem dX6_justify_116 : decode cX6_justify 116 = .ok (.iload 7, 2) := by decide +kernel
theorem dX6_justify_118 : decode cX6_justify 118 = .ok (.aload_n 0, 1) := by decide +kernel
theorem dX6_justify_119 : decode cX6_justify 119 = .ok (.iload_n 1, 1) := by decide +kernel
theorem dX6_justify_120 : decode cX6_justify 120 = .ok (.iconst 2, 1) := by decide +kernel
theorem dX6_justify_121 : decode cX6_justify 121 = .ok (.invokevirtual 73, 3) := by decide +kernel
theorem dX6_justify_124 : decode cX6_justify 124 = .ok (.iload 5, 2) := by decide +kernel
theorem dX6_justify_126 : decode cX6_justify 126 = .ok (.iload 6, 2) := by decide +kernel
theorem dX6_justify_128 : decode cX6_justify 128 = .ok (.isub, 1) := by decide +kernel
theorem dX6_justify_129 : decode cX6_justify 129 = .ok (.iload 8, 2) := by decide +kernel
theorem dX6_justify_131 : decode cX6_justify 131 = .ok (.iload_n 2, 1) := by decide +kernel
theorem dX6_justify_132 : decode cX6_justify 132 = .ok (.isub, 1) := by decide +kernel
theorem dX6_justify_133 : decode cX6_justify 133 = .ok (.iload_n 3, 1) := by decide +kernel
theorem dX6_justify_134 : decode cX6_justify 134 = .ok (.iload_n 2, 1) := by decide +kernel
theorem dX6_justify_135 : decode cX6_justify 135 = .ok (.isub, 1) := by decide +kernel
theorem dX6_justify_136 : decode cX6_justify 136 = .ok (.invokestatic 169, 3) := by decide +kernel
theorem dX6_justify_139 : decode cX6_justify 139 = .ok (.iadd, 1) := by decide +kernel
theorem dX6_justify_140 : decode cX6_justify 140 = .ok (.aload_n 0, 1) := by decide +kernel
theorem dX6_justify_141 : decode cX6_justify 141 = .ok (.iload 9, 2) := by decide +kernel
theorem dX6_justify_143 : decode cX6_justify 143 = .ok (.bipush 6, 2) := by decide +kernel
theorem dX6_justify_145 : decode cX6_justify 145 = .ok (.invokevirtual 73, 3) := by decide +kernel
theorem dX6_justify_148 : decode cX6_justify 148 = .ok (.iadd, 1) := by decide +kernel
theorem dX6_justify_149 : decode cX6_justify 149 = .ok (.iastore, 1) := by decide +kernel
theorem dX6_justify_150 : decode cX6_justify 150 = .ok (.iload 7, 2) := by decide +kernel
theorem dX6_justify_152 : decode cX6_justify 152 = .ok (.aload_n 0, 1) := by decide +kernel
theorem dX6_justify_153 : decode cX6_justify 153 = .ok (.iload 9, 2) := by decide +kernel
theorem dX6_justify_155 : decode cX6_justify 155 = .ok (.aload_n 0, 1) := by decide +kernel
theorem dX6_justify_156 : decode cX6_justify 156 = .ok (.getfield 29, 3) := by decide +kernel
theorem dX6_justify_159 : decode cX6_justify 159 = .ok (.iconst 2, 1) := by decide +kernel
theorem dX6_justify_160 : decode cX6_justify 160 = .ok (.iload 9, 2) := by decide +kernel
theorem dX6_justify_162 : decode cX6_justify 162 = .ok (.imul, 1) := by decide +kernel
theorem dX6_justify_163 : decode cX6_justify 163 = .ok (.iload 4, 2) := by decide +kernel
theorem dX6_justify_165 : decode cX6_justify 165 = .ok (.iadd, 1) := by decide +kernel
theorem dX6_justify_166 : decode cX6_justify 166 = .ok (.iaload, 1) := by decide +kernel
theorem dX6_justify_167 : decode cX6_justify 167 = .ok (.invokevirtual 100, 3) := by decide +kernel
theorem dX6_justify_170 : decode cX6_justify 170 = .ok (.aload_n 0, 1) := by decide +kernel
theorem dX6_justify_171 : decode cX6_justify 171 = .ok (.iload_n 1, 1) := by decide +kernel
theorem dX6_justify_172 : decode cX6_justify 172 = .ok (.iconst 4, 1) := by decide +kernel
theorem dX6_justify_173 : decode cX6_justify 173 = .ok (.invokevirtual 73, 3) := by decide +kernel
theorem dX6_justify_176 : decode cX6_justify 176 = .ok (.iadd, 1) := by decide +kernel
theorem dX6_justify_177 : decode cX6_justify 177 = .ok (.iadd, 1) := by decide +kernel
theorem dX6_justify_178 : decode cX6_justify 178 = .ok (.istore 7, 2) := by decide +kernel
theorem dX6_justify_180 : decode cX6_justify 180 = .ok (.iinc 8 1, 3) := by decide +kernel
theorem dX6_justify_183 : decode cX6_justify 183 = .ok (.goto (-93), 3) := by decide +kernel
theorem dX6_justify_186 : decode cX6_justify 186 = .ok (.return_, 1) := by decide +kernel
theorem dX6_align_0 : decode cX6_align 0 = .ok (.iload 4, 2) := by decide +kernel
theorem dX6_align_2 : decode cX6_align 2 = .ok (.aload_n 0, 1) := by decide +kernel
theorem dX6_align_3 : decode cX6_align 3 = .ok (.iload_n 1, 1) := by decide +kernel
theorem dX6_align_4 : decode cX6_align 4 = .ok (.aload_n 0, 1) := by decide +kernel
theorem dX6_align_5 : decode cX6_align 5 = .ok (.getfield 29, 3) := by decide +kernel
theorem dX6_align_8 : decode cX6_align 8 = .ok (.iconst 2, 1) := by decide +kernel
theorem dX6_align_9 : decode cX6_align 9 = .ok (.iload_n 1, 1) := by decide +kernel
theorem dX6_align_10 : decode cX6_align 10 = .ok (.imul, 1) := by decide +kernel
theorem dX6_align_11 : decode cX6_align 11 = .ok (.iload_n 2, 1) := by decide +kernel
theorem dX6_align_12 : decode cX6_align 12 = .ok (.iadd, 1) := by decide +kernel
theorem dX6_align_13 : decode cX6_align 13 = .ok (.iaload, 1) := by decide +kernel
theorem dX6_align_14 : decode cX6_align 14 = .ok (.invokevirtual 100, 3) := by decide +kernel
theorem dX6_align_17 : decode cX6_align 17 = .ok (.isub, 1) := by decide +kernel
theorem dX6_align_18 : decode cX6_align 18 = .ok (.istore 5, 2) := by decide +kernel
theorem dX6_align_20 : decode cX6_align 20 = .ok (.aload_n 0, 1) := by decide +kernel
theorem dX6_align_21 : decode cX6_align 21 = .ok (.iload_n 1, 1) := by decide +kernel
theorem dX6_align_22 : decode cX6_align 22 = .ok (.invokevirtual 151, 3) := by decide +kernel
theorem dX6_align_25 : decode cX6_align 25 = .ok (.istore 6, 2) := by decide +kernel
theorem dX6_align_27 : decode cX6_align 27 = .ok (.iload 5, 2) := by decide +kernel
theorem dX6_align_29 : decode cX6_align 29 = .ok (.ifCond .gt 7, 3) := by decide +kernel
theorem dX6_align_32 : decode cX6_align 32 = .ok (.iconst 0, 1) := by decide +kernel
theorem dX6_align_33 : decode cX6_align 33 = .ok (.goto 28, 3) := by decide +kernel
theorem dX6_align_36 : decode cX6_align 36 = .ok (.iload 6, 2) := by decide +kernel
theorem dX6_align_38 : decode cX6_align 38 = .ok (.iconst 1, 1) := by decide +kernel
theorem dX6_align_39 : decode cX6_align 39 = .ok (.if_icmp .ne 8, 3) := by decide +kernel
theorem dX6_align_42 : decode cX6_align 42 = .ok (.iload 5, 2) := by decide +kernel
theorem dX6_align_44 : decode cX6_align 44 = .ok (.goto 17, 3) := by decide +kernel
theorem dX6_align_47 : decode cX6_align 47 = .ok (.iload 6, 2) := by decide +kernel
theorem dX6_align_49 : decode cX6_align 49 = .ok (.iconst 2, 1) := by decide +kernel
theorem dX6_align_50 : decode cX6_align 50 = .ok (.if_icmp .ne 10, 3) := by decide +kernel
theorem dX6_align_53 : decode cX6_align 53 = .ok (.iload 5, 2) := by decide +kernel
theorem dX6_align_55 : decode cX6_align 55 = .ok (.iconst 2, 1) := by decide +kernel
theorem dX6_align_56 : decode cX6_align 56 = .ok (.idiv, 1) := by decide +kernel
theorem dX6_align_57 : decode cX6_align 57 = .ok (.goto 4, 3) := by decide +kernel
theorem dX6_align_60 : decode cX6_align 60 = .ok (.iconst 0, 1) := by decide +kernel
theorem dX6_align_61 : decode cX6_align 61 = .ok (.istore 7, 2) := by decide +kernel
theorem dX6_align_63 : decode cX6_align 63 = .ok (.aload_n 0, 1) := by decide +kernel
theorem dX6_align_64 : decode cX6_align 64 = .ok (.getfield 32, 3) := by decide +kernel
theorem dX6_align_67 : decode cX6_align 67 = .ok (.iconst 2, 1) := by decide +kernel
theorem dX6_align_68 : decode cX6_align 68 = .ok (.iload_n 1, 1) := by decide +kernel
theorem dX6_align_69 : decode cX6_align 69 = .ok (.imul, 1) := by decide +kernel
theorem dX6_align_70 : decode cX6_align 70 = .ok (.iload_n 2, 1) := by decide +kernel
theorem dX6_align_71 : decode cX6_align 71 = .ok (.iadd, 1) := by decide +kernel
theorem dX6_align_72 : decode cX6_align 72 = .ok (.iload_n 3, 1) := by decide +kernel
theorem dX6_align_73 : decode cX6_align 73 = .ok (.iload 7, 2) := by decide +kernel
theorem dX6_align_75 : decode cX6_align 75 = .ok (.iadd, 1) := by decide +kernel
theorem dX6_align_76 : decode cX6_align 76 = .ok (.aload_n 0, 1) := by decide +kernel
theorem dX6_align_77 : decode cX6_align 77 = .ok (.iload_n 1, 1) := by decide +kernel
theorem dX6_align_78 : decode cX6_align 78 = .ok (.bipush 6, 2) := by decide +kernel
theorem dX6_align_80 : decode cX6_align 80 = .ok (.invokevirtual 73, 3) := by decide +kernel
theorem dX6_align_83 : decode cX6_align 83 = .ok (.iadd, 1) := by decide +kernel
theorem dX6_align_84 : decode cX6_align 84 = .ok (.iastore, 1) := by decide +kernel
theorem dX6_align_85 : decode cX6_align 85 = .ok (.return_, 1) := by decide +kernel
theorem dX6_placeColumn_0 : decode cX6_placeColumn 0 = .ok (.aload_n 0, 1) := by decide +kernel
theorem dX6_placeColumn_1 : decode cX6_placeColumn 1 = .ok (.iload_n 1, 1) := by decide +kernel
theorem dX6_placeColumn_2 : decode cX6_placeColumn 2 = .ok (.iconst 0, 1) := by decide +kernel
theorem dX6_placeColumn_3 : decode cX6_placeColumn 3 = .ok (.aload_n 0, 1) := by decide +kernel
theorem dX6_placeColumn_4 : decode cX6_placeColumn 4 = .ok (.getfield 77, 3) := by decide +kernel
theorem dX6_placeColumn_7 : decode cX6_placeColumn 7 = .ok (.iconst 1, 1) := by decide +kernel
theorem dX6_placeColumn_8 : decode cX6_placeColumn 8 = .ok (.aload_n 0, 1) := by decide +kernel
theorem dX6_placeColumn_9 : decode cX6_placeColumn 9 = .ok (.iload_n 1, 1) := by decide +kernel
theorem dX6_placeColumn_10 : decode cX6_placeColumn 10 = .ok (.iconst 1, 1) := by decide +kernel
theorem dX6_placeColumn_11 : decode cX6_placeColumn 11 = .ok (.invokevirtual 141, 3) := by decide +kernel
theorem dX6_placeColumn_14 : decode cX6_placeColumn 14 = .ok (.invokevirtual 147, 3) := by decide +kernel
theorem dX6_placeColumn_17 : decode cX6_placeColumn 17 = .ok (.aload_n 0, 1) := by decide +kernel
theorem dX6_placeColumn_18 : decode cX6_placeColumn 18 = .ok (.iload_n 1, 1) := by decide +kernel
theorem dX6_placeColumn_19 : decode cX6_placeColumn 19 = .ok (.iconst 0, 1) := by decide +kernel
theorem dX6_placeColumn_20 : decode cX6_placeColumn 20 = .ok (.aload_n 0, 1) := by decide +kernel
theorem dX6_placeColumn_21 : decode cX6_placeColumn 21 = .ok (.getfield 77, 3) := by decide +kernel
theorem dX6_placeColumn_24 : decode cX6_placeColumn 24 = .ok (.iconst 1, 1) := by decide +kernel
theorem dX6_placeColumn_25 : decode cX6_placeColumn 25 = .ok (.invokevirtual 173, 3) := by decide +kernel
theorem dX6_placeColumn_28 : decode cX6_placeColumn 28 = .ok (.iconst 0, 1) := by decide +kernel
theorem dX6_placeColumn_29 : decode cX6_placeColumn 29 = .ok (.istore_n 2, 1) := by decide +kernel
theorem dX6_placeColumn_30 : decode cX6_placeColumn 30 = .ok (.iload_n 2, 1) := by decide +kernel
theorem dX6_placeColumn_31 : decode cX6_placeColumn 31 = .ok (.aload_n 0, 1) := by decide +kernel
theorem dX6_placeColumn_32 : decode cX6_placeColumn 32 = .ok (.getfield 77, 3) := by decide +kernel
theorem dX6_placeColumn_35 : decode cX6_placeColumn 35 = .ok (.if_icmp .ge 41, 3) := by decide +kernel
theorem dX6_placeColumn_38 : decode cX6_placeColumn 38 = .ok (.aload_n 0, 1) := by decide +kernel
theorem dX6_placeColumn_39 : decode cX6_placeColumn 39 = .ok (.aload_n 0, 1) := by decide +kernel
theorem dX6_placeColumn_40 : decode cX6_placeColumn 40 = .ok (.getfield 20, 3) := by decide +kernel
theorem dX6_placeColumn_43 : decode cX6_placeColumn 43 = .ok (.iload_n 2, 1) := by decide +kernel
theorem dX6_placeColumn_44 : decode cX6_placeColumn 44 = .ok (.iaload, 1) := by decide +kernel
theorem dX6_placeColumn_45 : decode cX6_placeColumn 45 = .ok (.iconst 0, 1) := by decide +kernel
theorem dX6_placeColumn_46 : decode cX6_placeColumn 46 = .ok (.aload_n 0, 1) := by decide +kernel
theorem dX6_placeColumn_47 : decode cX6_placeColumn 47 = .ok (.getfield 32, 3) := by decide +kernel
theorem dX6_placeColumn_50 : decode cX6_placeColumn 50 = .ok (.iconst 2, 1) := by decide +kernel
theorem dX6_placeColumn_51 : decode cX6_placeColumn 51 = .ok (.iload_n 1, 1) := by decide +kernel
theorem dX6_placeColumn_52 : decode cX6_placeColumn 52 = .ok (.imul, 1) := by decide +kernel
theorem dX6_placeColumn_53 : decode cX6_placeColumn 53 = .ok (.iaload, 1) := by decide +kernel
theorem dX6_placeColumn_54 : decode cX6_placeColumn 54 = .ok (.aload_n 0, 1) := by decide +kernel
theorem dX6_placeColumn_55 : decode cX6_placeColumn 55 = .ok (.iload_n 1, 1) := by decide +kernel
theorem dX6_placeColumn_56 : decode cX6_placeColumn 56 = .ok (.iconst 5, 1) := by decide +kernel
theorem dX6_placeColumn_57 : decode cX6_placeColumn 57 = .ok (.invokevirtual 73, 3) := by decide +kernel
theorem dX6_placeColumn_60 : decode cX6_placeColumn 60 = .ok (.iadd, 1) := by decide +kernel
theorem dX6_placeColumn_61 : decode cX6_placeColumn 61 = .ok (.aload_n 0, 1) := by decide +kernel
theorem dX6_placeColumn_62 : decode cX6_placeColumn 62 = .ok (.iload_n 1, 1) := by decide +kernel
theorem dX6_placeColumn_63 : decode cX6_placeColumn 63 = .ok (.iconst 0, 1) := by decide +kernel
theorem dX6_placeColumn_64 : decode cX6_placeColumn 64 = .ok (.invokevirtual 141, 3) := by decide +kernel
theorem dX6_placeColumn_67 : decode cX6_placeColumn 67 = .ok (.invokevirtual 177, 3) := by decide +kernel
theorem dX6_placeColumn_70 : decode cX6_placeColumn 70 = .ok (.iinc 2 1, 3) := by decide +kernel
theorem dX6_placeColumn_73 : decode cX6_placeColumn 73 = .ok (.goto (-43), 3) := by decide +kernel
theorem dX6_placeColumn_76 : decode cX6_placeColumn 76 = .ok (.return_, 1) := by decide +kernel
theorem dX6_setRowHeight_0 : decode cX6_setRowHeight 0 = .ok (.iload_n 2, 1) := by decide +kernel
theorem dX6_setRowHeight_1 : decode cX6_setRowHeight 1 = .ok (.iconst 2, 1) := by decide +kernel
theorem dX6_setRowHeight_2 : decode cX6_setRowHeight 2 = .ok (.aload_n 0, 1) := by decide +kernel
theorem dX6_setRowHeight_3 : decode cX6_setRowHeight 3 = .ok (.iload_n 1, 1) := by decide +kernel
theorem dX6_setRowHeight_4 : decode cX6_setRowHeight 4 = .ok (.bipush 6, 2) := by decide +kernel
theorem dX6_setRowHeight_6 : decode cX6_setRowHeight 6 = .ok (.invokevirtual 73, 3) := by decide +kernel
theorem dX6_setRowHeight_9 : decode cX6_setRowHeight 9 = .ok (.imul, 1) := by decide +kernel
theorem dX6_setRowHeight_10 : decode cX6_setRowHeight 10 = .ok (.isub, 1) := by decide +kernel
theorem dX6_setRowHeight_11 : decode cX6_setRowHeight 11 = .ok (.invokestatic 97, 3) := by decide +kernel
theorem dX6_setRowHeight_14 : decode cX6_setRowHeight 14 = .ok (.istore_n 3, 1) := by decide +kernel
theorem dX6_setRowHeight_15 : decode cX6_setRowHeight 15 = .ok (.aload_n 0, 1) := by decide +kernel
theorem dX6_setRowHeight_16 : decode cX6_setRowHeight 16 = .ok (.iload_n 1, 1) := by decide +kernel
theorem dX6_setRowHeight_17 : decode cX6_setRowHeight 17 = .ok (.bipush 11, 2) := by decide +kernel
theorem dX6_setRowHeight_19 : decode cX6_setRowHeight 19 = .ok (.invokevirtual 73, 3) := by decide +kernel
theorem dX6_setRowHeight_22 : decode cX6_setRowHeight 22 = .ok (.iconst (-1), 1) := by decide +kernel
theorem dX6_setRowHeight_23 : decode cX6_setRowHeight 23 = .ok (.if_icmp .eq 13, 3) := by decide +kernel
theorem dX6_setRowHeight_26 : decode cX6_setRowHeight 26 = .ok (.aload_n 0, 1) := by decide +kernel
theorem dX6_setRowHeight_27 : decode cX6_setRowHeight 27 = .ok (.iload_n 1, 1) := by decide +kernel
theorem dX6_setRowHeight_28 : decode cX6_setRowHeight 28 = .ok (.bipush 11, 2) := by decide +kernel
theorem dX6_setRowHeight_30 : decode cX6_setRowHeight 30 = .ok (.invokevirtual 73, 3) := by decide +kernel
theorem dX6_setRowHeight_33 : decode cX6_setRowHeight 33 = .ok (.goto 26, 3) := by decide +kernel
theorem dX6_setRowHeight_36 : decode cX6_setRowHeight 36 = .ok (.aload_n 0, 1) := by decide +kernel
theorem dX6_setRowHeight_37 : decode cX6_setRowHeight 37 = .ok (.iload_n 1, 1) := by decide +kernel
theorem dX6_setRowHeight_38 : decode cX6_setRowHeight 38 = .ok (.invokevirtual 151, 3) := by decide +kernel
theorem dX6_setRowHeight_41 : decode cX6_setRowHeight 41 = .ok (.iconst 3, 1) := by decide +kernel
theorem dX6_setRowHeight_42 : decode cX6_setRowHeight 42 = .ok (.if_icmp .ne 7, 3) := by decide +kernel
theorem dX6_setRowHeight_45 : decode cX6_setRowHeight 45 = .ok (.iload_n 3, 1) := by decide +kernel
theorem dX6_setRowHeight_46 : decode cX6_setRowHeight 46 = .ok (.goto 13, 3) := by decide +kernel
theorem dX6_setRowHeight_49 : decode cX6_setRowHeight 49 = .ok (.aload_n 0, 1) := by decide +kernel
theorem dX6_setRowHeight_50 : decode cX6_setRowHeight 50 = .ok (.getfield 26, 3) := by decide +kernel
theorem dX6_setRowHeight_53 : decode cX6_setRowHeight 53 = .ok (.iconst 2, 1) := by decide +kernel
theorem dX6_setRowHeight_54 : decode cX6_setRowHeight 54 = .ok (.iload_n 1, 1) := by decide +kernel
theorem dX6_setRowHeight_55 : decode cX6_setRowHeight 55 = .ok (.imul, 1) := by decide +kernel
theorem dX6_setRowHeight_56 : decode cX6_setRowHeight 56 = .ok (.iconst 1, 1) := by decide +kernel
theorem dX6_setRowHeight_57 : decode cX6_setRowHeight 57 = .ok (.iadd, 1) := by decide +kernel
theorem dX6_setRowHeight_58 : decode cX6_setRowHeight 58 = .ok (.iaload, 1) := by decide +kernel
theorem dX6_setRowHeight_59 : decode cX6_setRowHeight 59 = .ok (.istore 4, 2) := by decide +kernel
theorem dX6_setRowHeight_61 : decode cX6_setRowHeight 61 = .ok (.aload_n 0, 1) := by decide +kernel
theorem dX6_setRowHeight_62 : decode cX6_setRowHeight 62 = .ok (.getfield 29, 3) := by decide +kernel
theorem dX6_setRowHeight_65 : decode cX6_setRowHeight 65 = .ok (.iconst 2, 1) := by decide +kernel
theorem dX6_setRowHeight_66 : decode cX6_setRowHeight 66 = .ok (.iload_n 1, 1) := by decide +kernel
theorem dX6_setRowHeight_67 : decode cX6_setRowHeight 67 = .ok (.imul, 1) := by decide +kernel
theorem dX6_setRowHeight_68 : decode cX6_setRowHeight 68 = .ok (.iconst 1, 1) := by decide +kernel
theorem dX6_setRowHeight_69 : decode cX6_setRowHeight 69 = .ok (.iadd, 1) := by decide +kernel
theorem dX6_setRowHeight_70 : decode cX6_setRowHeight 70 = .ok (.aload_n 0, 1) := by decide +kernel
theorem dX6_setRowHeight_71 : decode cX6_setRowHeight 71 = .ok (.iload_n 1, 1) := by decide +kernel
theorem dX6_setRowHeight_72 : decode cX6_setRowHeight 72 = .ok (.iconst 1, 1) := by decide +kernel
theorem dX6_setRowHeight_73 : decode cX6_setRowHeight 73 = .ok (.iload 4, 2) := by decide +kernel
theorem dX6_setRowHeight_75 : decode cX6_setRowHeight 75 = .ok (.invokevirtual 106, 3) := by decide +kernel
theorem dX6_setRowHeight_78 : decode cX6_setRowHeight 78 = .ok (.iastore, 1) := by decide +kernel
theorem dX6_setRowHeight_79 : decode cX6_setRowHeight 79 = .ok (.return_, 1) := by decide +kernel
theorem dX6_placeRow_0 : decode cX6_placeRow 0 = .ok (.aload_n 0, 1) := by decide +kernel
theorem dX6_placeRow_1 : decode cX6_placeRow 1 = .ok (.getfield 32, 3) := by decide +kernel
theorem dX6_placeRow_4 : decode cX6_placeRow 4 = .ok (.iconst 2, 1) := by decide +kernel
theorem dX6_placeRow_5 : decode cX6_placeRow 5 = .ok (.iload_n 1, 1) := by decide +kernel
theorem dX6_placeRow_6 : decode cX6_placeRow 6 = .ok (.imul, 1) := by decide +kernel
theorem dX6_placeRow_7 : decode cX6_placeRow 7 = .ok (.iconst 1, 1) := by decide +kernel
theorem dX6_placeRow_8 : decode cX6_placeRow 8 = .ok (.iadd, 1) := by decide +kernel
theorem dX6_placeRow_9 : decode cX6_placeRow 9 = .ok (.iaload, 1) := by decide +kernel
theorem dX6_placeRow_10 : decode cX6_placeRow 10 = .ok (.aload_n 0, 1) := by decide +kernel
theorem dX6_placeRow_11 : decode cX6_placeRow 11 = .ok (.iload_n 1, 1) := by decide +kernel
theorem dX6_placeRow_12 : decode cX6_placeRow 12 = .ok (.iconst 5, 1) := by decide +kernel
theorem dX6_placeRow_13 : decode cX6_placeRow 13 = .ok (.invokevirtual 73, 3) := by decide +kernel
theorem dX6_placeRow_16 : decode cX6_placeRow 16 = .ok (.iadd, 1) := by decide +kernel
theorem dX6_placeRow_17 : decode cX6_placeRow 17 = .ok (.istore_n 2, 1) := by decide +kernel
theorem dX6_placeRow_18 : decode cX6_placeRow 18 = .ok (.iconst 0, 1) := by decide +kernel
theorem dX6_placeRow_19 : decode cX6_placeRow 19 = .ok (.istore_n 3, 1) := by decide +kernel
theorem dX6_placeRow_20 : decode cX6_placeRow 20 = .ok (.iconst 0, 1) := by decide +kernel
theorem dX6_placeRow_21 : decode cX6_placeRow 21 = .ok (.istore 4, 2) := by decide +kernel
theorem dX6_placeRow_23 : decode cX6_placeRow 23 = .ok (.iload 4, 2) := by decide +kernel
theorem dX6_placeRow_25 : decode cX6_placeRow 25 = .ok (.aload_n 0, 1) := by decide +kernel
theorem dX6_placeRow_26 : decode cX6_placeRow 26 = .ok (.getfield 38, 3) := by decide +kernel
theorem dX6_placeRow_29 : decode cX6_placeRow 29 = .ok (.iload_n 1, 1) := by decide +kernel
theorem dX6_placeRow_30 : decode cX6_placeRow 30 = .ok (.iaload, 1) := by decide +kernel
theorem dX6_placeRow_31 : decode cX6_placeRow 31 = .ok (.if_icmp .ge 122, 3) := by decide +kernel
theorem dX6_placeRow_34 : decode cX6_placeRow 34 = .ok (.aload_n 0, 1) := by decide +kernel
theorem dX6_placeRow_35 : decode cX6_placeRow 35 = .ok (.iload_n 1, 1) := by decide +kernel
theorem dX6_placeRow_36 : decode cX6_placeRow 36 = .ok (.iconst 1, 1) := by decide +kernel
theorem dX6_placeRow_37 : decode cX6_placeRow 37 = .ok (.invokevirtual 73, 3) := by decide +kernel
theorem dX6_placeRow_40 : decode cX6_placeRow 40 = .ok (.ifCond .ne 12, 3) := by decide +kernel
theorem dX6_placeRow_43 : decode cX6_placeRow 43 = .ok (.aload_n 0, 1) := by decide +kernel
theorem dX6_placeRow_44 : decode cX6_placeRow 44 = .ok (.iload_n 1, 1) := by decide +kernel
theorem dX6_placeRow_45 : decode cX6_placeRow 45 = .ok (.iconst 1, 1) := by decide +kernel
theorem dX6_placeRow_46 : decode cX6_placeRow 46 = .ok (.invokevirtual 141, 3) := by decide +kernel
theorem dX6_placeRow_49 : decode cX6_placeRow 49 = .ok (.goto 9, 3) := by decide +kernel
theorem dX6_placeRow_52 : decode cX6_placeRow 52 = .ok (.aload_n 0, 1) := by decide +kernel
theorem dX6_placeRow_53 : decode cX6_placeRow 53 = .ok (.iload 4, 2) := by decide +kernel
theorem dX6_placeRow_55 : decode cX6_placeRow 55 = .ok (.invokevirtual 163, 3) := by decide +kernel
theorem dX6_placeRow_58 : decode cX6_placeRow 58 = .ok (.istore 5, 2) := by decide +kernel
theorem dX6_placeRow_60 : decode cX6_placeRow 60 = .ok (.iload_n 3, 1) := by decide +kernel
theorem dX6_placeRow_61 : decode cX6_placeRow 61 = .ok (.istore 6, 2) := by decide +kernel
theorem dX6_placeRow_63 : decode cX6_placeRow 63 = .ok (.iload 6, 2) := by decide +kernel
theorem dX6_placeRow_65 : decode cX6_placeRow 65 = .ok (.aload_n 0, 1) := by decide +kernel
theorem dX6_placeRow_66 : decode cX6_placeRow 66 = .ok (.getfield 77, 3) := by decide +kernel
theorem dX6_placeRow_69 : decode cX6_placeRow 69 = .ok (.if_icmp .ge 54, 3) := by decide +kernel
theorem dX6_placeRow_72 : decode cX6_placeRow 72 = .ok (.aload_n 0, 1) := by decide +kernel
theorem dX6_placeRow_73 : decode cX6_placeRow 73 = .ok (.getfield 35, 3) := by decide +kernel
theorem dX6_placeRow_76 : decode cX6_placeRow 76 = .ok (.aload_n 0, 1) := by decide +kernel
theorem dX6_placeRow_77 : decode cX6_placeRow 77 = .ok (.getfield 20, 3) := by decide +kernel
theorem dX6_placeRow_80 : decode cX6_placeRow 80 = .ok (.iload 6, 2) := by decide +kernel
theorem dX6_placeRow_82 : decode cX6_placeRow 82 = .ok (.iaload, 1) := by decide +kernel
theorem dX6_placeRow_83 : decode cX6_placeRow 83 = .ok (.iaload, 1) := by decide +kernel
theorem dX6_placeRow_84 : decode cX6_placeRow 84 = .ok (.iload 4, 2) := by decide +kernel
theorem dX6_placeRow_86 : decode cX6_placeRow 86 = .ok (.if_icmp .ne 37, 3) := by decide +kernel
theorem dX6_placeRow_89 : decode cX6_placeRow 89 = .ok (.aload_n 0, 1) := by decide +kernel
theorem dX6_placeRow_90 : decode cX6_placeRow 90 = .ok (.aload_n 0, 1) := by decide +kernel
theorem dX6_placeRow_91 : decode cX6_placeRow 91 = .ok (.getfield 20, 3) := by decide +kernel
theorem dX6_placeRow_94 : decode cX6_placeRow 94 = .ok (.iload 6, 2) := by decide +kernel
theorem dX6_placeRow_96 : decode cX6_placeRow 96 = .ok (.iaload, 1) := by decide +kernel
theorem dX6_placeRow_97 : decode cX6_placeRow 97 = .ok (.iload 5, 2) := by decide +kernel
theorem dX6_placeRow_99 : decode cX6_placeRow 99 = .ok (.invokevirtual 180, 3) := by decide +kernel
theorem dX6_placeRow_102 : decode cX6_placeRow 102 = .ok (.aload_n 0, 1) := by decide +kernel
theorem dX6_placeRow_103 : decode cX6_placeRow 103 = .ok (.aload_n 0, 1) := by decide +kernel
theorem dX6_placeRow_104 : decode cX6_placeRow 104 = .ok (.getfield 20, 3) := by decide +kernel
theorem dX6_placeRow_107 : decode cX6_placeRow 107 = .ok (.iload 6, 2) := by decide +kernel
theorem dX6_placeRow_109 : decode cX6_placeRow 109 = .ok (.iaload, 1) := by decide +kernel
theorem dX6_placeRow_110 : decode cX6_placeRow 110 = .ok (.iconst 1, 1) := by decide +kernel
theorem dX6_placeRow_111 : decode cX6_placeRow 111 = .ok (.iload_n 2, 1) := by decide +kernel
theorem dX6_placeRow_112 : decode cX6_placeRow 112 = .ok (.iload 5, 2) := by decide +kernel
theorem dX6_placeRow_114 : decode cX6_placeRow 114 = .ok (.invokevirtual 177, 3) := by decide +kernel
theorem dX6_placeRow_117 : decode cX6_placeRow 117 = .ok (.iinc 6 1, 3) := by decide +kernel
theorem dX6_placeRow_120 : decode cX6_placeRow 120 = .ok (.goto (-57), 3) := by decide +kernel
theorem dX6_placeRow_123 : decode cX6_placeRow 123 = .ok (.aload_n 0, 1) := by decide +kernel
theorem dX6_placeRow_124 : decode cX6_placeRow 124 = .ok (.iload_n 1, 1) := by decide +kernel
theorem dX6_placeRow_125 : decode cX6_placeRow 125 = .ok (.iload_n 3, 1) := by decide +kernel
theorem dX6_placeRow_126 : decode cX6_placeRow 126 = .ok (.iload 6, 2) := by decide +kernel
theorem dX6_placeRow_128 : decode cX6_placeRow 128 = .ok (.iconst 0, 1) := by decide +kernel
theorem dX6_placeRow_129 : decode cX6_placeRow 129 = .ok (.invokevirtual 173, 3) := by decide +kernel
theorem dX6_placeRow_132 : decode cX6_placeRow 132 = .ok (.iload 6, 2) := by decide +kernel
theorem dX6_placeRow_134 : decode cX6_placeRow 134 = .ok (.istore_n 3, 1) := by decide +kernel
theorem dX6_placeRow_135 : decode cX6_placeRow 135 = .ok (.iload_n 2, 1) := by decide +kernel
theorem dX6_placeRow_136 : decode cX6_placeRow 136 = .ok (.iload 5, 2) := by decide +kernel
theorem dX6_placeRow_138 : decode cX6_placeRow 138 = .ok (.aload_n 0, 1) := by decide +kernel
theorem dX6_placeRow_139 : decode cX6_placeRow 139 = .ok (.iload_n 1, 1) := by decide +kernel
theorem dX6_placeRow_140 : decode cX6_placeRow 140 = .ok (.iconst 4, 1) := by decide +kernel
theorem dX6_placeRow_141 : decode cX6_placeRow 141 = .ok (.invokevirtual 73, 3) := by decide +kernel
theorem dX6_placeRow_144 : decode cX6_placeRow 144 = .ok (.iadd, 1) := by decide +kernel
theorem dX6_placeRow_145 : decode cX6_placeRow 145 = .ok (.iadd, 1) := by decide +kernel
theorem dX6_placeRow_146 : decode cX6_placeRow 146 = .ok (.istore_n 2, 1) := by decide +kernel
theorem dX6_placeRow_147 : decode cX6_placeRow 147 = .ok (.iinc 4 1, 3) := by decide +kernel
theorem dX6_placeRow_150 : decode cX6_placeRow 150 = .ok (.goto (-127), 3) := by decide +kernel
theorem dX6_placeRow_153 : decode cX6_placeRow 153 = .ok (.return_, 1) := by decide +kernel
theorem dX6_findPlaces_0 : decode cX6_findPlaces 0 = .ok (.aload_n 0, 1) := by decide +kernel
theorem dX6_findPlaces_1 : decode cX6_findPlaces 1 = .ok (.getfield 29, 3) := by decide +kernel
theorem dX6_findPlaces_4 : decode cX6_findPlaces 4 = .ok (.iconst 1, 1) := by decide +kernel
theorem dX6_findPlaces_5 : decode cX6_findPlaces 5 = .ok (.aload_n 0, 1) := by decide +kernel
theorem dX6_findPlaces_6 : decode cX6_findPlaces 6 = .ok (.getfield 7, 3) := by decide +kernel
theorem dX6_findPlaces_9 : decode cX6_findPlaces 9 = .ok (.iconst 2, 1) := by decide +kernel
theorem dX6_findPlaces_10 : decode cX6_findPlaces 10 = .ok (.iaload, 1) := by decide +kernel
theorem dX6_findPlaces_11 : decode cX6_findPlaces 11 = .ok (.iastore, 1) := by decide +kernel
theorem dX6_findPlaces_12 : decode cX6_findPlaces 12 = .ok (.aload_n 0, 1) := by decide +kernel
theorem dX6_findPlaces_13 : decode cX6_findPlaces 13 = .ok (.getfield 32, 3) := by decide +kernel
theorem dX6_findPlaces_16 : decode cX6_findPlaces 16 = .ok (.iconst 0, 1) := by decide +kernel
theorem dX6_findPlaces_17 : decode cX6_findPlaces 17 = .ok (.iconst 0, 1) := by decide +kernel
theorem dX6_findPlaces_18 : decode cX6_findPlaces 18 = .ok (.iastore, 1) := by decide +kernel
theorem dX6_findPlaces_19 : decode cX6_findPlaces 19 = .ok (.aload_n 0, 1) := by decide +kernel
theorem dX6_findPlaces_20 : decode cX6_findPlaces 20 = .ok (.getfield 32, 3) := by decide +kernel
theorem dX6_findPlaces_23 : decode cX6_findPlaces 23 = .ok (.iconst 1, 1) := by decide +kernel
theorem dX6_findPlaces_24 : decode cX6_findPlaces 24 = .ok (.iconst 0, 1) := by decide +kernel
theorem dX6_findPlaces_25 : decode cX6_findPlaces 25 = .ok (.iastore, 1) := by decide +kernel
theorem dX6_findPlaces_26 : decode cX6_findPlaces 26 = .ok (.iconst 0, 1) := by decide +kernel
theorem dX6_findPlaces_27 : decode cX6_findPlaces 27 = .ok (.istore_n 1, 1) := by decide +kernel
theorem dX6_findPlaces_28 : decode cX6_findPlaces 28 = .ok (.iload_n 1, 1) := by decide +kernel
theorem dX6_findPlaces_29 : decode cX6_findPlaces 29 = .ok (.aload_n 0, 1) := by decide +kernel
theorem dX6_findPlaces_30 : decode cX6_findPlaces 30 = .ok (.getfield 7, 3) := by decide +kernel
theorem dX6_findPlaces_33 : decode cX6_findPlaces 33 = .ok (.iconst 0, 1) := by decide +kernel
theorem dX6_findPlaces_34 : decode cX6_findPlaces 34 = .ok (.iaload, 1) := by decide +kernel
theorem dX6_findPlaces_35 : decode cX6_findPlaces 35 = .ok (.if_icmp .ge 53, 3) := by decide +kernel
theorem dX6_findPlaces_38 : decode cX6_findPlaces 38 = .ok (.aload_n 0, 1) := by decide +kernel
theorem dX6_findPlaces_39 : decode cX6_findPlaces 39 = .ok (.getfield 23, 3) := by decide +kernel
theorem dX6_findPlaces_42 : decode cX6_findPlaces 42 = .ok (.iload_n 1, 1) := by decide +kernel
theorem dX6_findPlaces_43 : decode cX6_findPlaces 43 = .ok (.baload, 1) := by decide +kernel
theorem dX6_findPlaces_44 : decode cX6_findPlaces 44 = .ok (.ifCond .eq 38, 3) := by decide +kernel
theorem dX6_findPlaces_47 : decode cX6_findPlaces 47 = .ok (.aload_n 0, 1) := by decide +kernel
theorem dX6_findPlaces_48 : decode cX6_findPlaces 48 = .ok (.iload_n 1, 1) := by decide +kernel
theorem dX6_findPlaces_49 : decode cX6_findPlaces 49 = .ok (.invokevirtual 87, 3) := by decide +kernel
theorem dX6_findPlaces_52 : decode cX6_findPlaces 52 = .ok (.aload_n 0, 1) := by decide +kernel
theorem dX6_findPlaces_53 : decode cX6_findPlaces 53 = .ok (.iload_n 1, 1) := by decide +kernel
theorem dX6_findPlaces_54 : decode cX6_findPlaces 54 = .ok (.iconst 0, 1) := by decide +kernel
theorem dX6_findPlaces_55 : decode cX6_findPlaces 55 = .ok (.invokevirtual 73, 3) := by decide +kernel
theorem dX6_findPlaces_58 : decode cX6_findPlaces 58 = .ok (.iconst 1, 1) := by decide +kernel
theorem dX6_findPlaces_59 : decode cX6_findPlaces 59 = .ok (.if_icmp .ne 11, 3) := by decide +kernel
theorem dX6_findPlaces_62 : decode cX6_findPlaces 62 = .ok (.aload_n 0, 1) := by decide +kernel
theorem dX6_findPlaces_63 : decode cX6_findPlaces 63 = .ok (.iload_n 1, 1) := by decide +kernel
theorem dX6_findPlaces_64 : decode cX6_findPlaces 64 = .ok (.invokevirtual 184, 3) := by decide +kernel
theorem dX6_findPlaces_67 : decode cX6_findPlaces 67 = .ok (.goto 15, 3) := by decide +kernel
theorem dX6_findPlaces_70 : decode cX6_findPlaces 70 = .ok (.aload_n 0, 1) := by decide +kernel
theorem dX6_findPlaces_71 : decode cX6_findPlaces 71 = .ok (.getfield 77, 3) := by decide +kernel
theorem dX6_findPlaces_74 : decode cX6_findPlaces 74 = .ok (.ifCond .le 8, 3) := by decide +kernel
theorem dX6_findPlaces_77 : decode cX6_findPlaces 77 = .ok (.aload_n 0, 1) := by decide +kernel
theorem dX6_findPlaces_78 : decode cX6_findPlaces 78 = .ok (.iload_n 1, 1) := by decide +kernel
theorem dX6_findPlaces_79 : decode cX6_findPlaces 79 = .ok (.invokevirtual 187, 3) := by decide +kernel
theorem dX6_findPlaces_82 : decode cX6_findPlaces 82 = .ok (.iinc 1 1, 3) := by decide +kernel
theorem dX6_findPlaces_85 : decode cX6_findPlaces 85 = .ok (.goto (-57), 3) := by decide +kernel
theorem dX6_findPlaces_88 : decode cX6_findPlaces 88 = .ok (.return_, 1) := by decide +kernel
theorem dX6_layOut_0 : decode cX6_layOut 0 = .ok (.aload_n 0, 1) := by decide +kernel
theorem dX6_layOut_1 : decode cX6_layOut 1 = .ok (.invokevirtual 190, 3) := by decide +kernel
theorem dX6_layOut_4 : decode cX6_layOut 4 = .ok (.aload_n 0, 1) := by decide +kernel
theorem dX6_layOut_5 : decode cX6_layOut 5 = .ok (.invokevirtual 193, 3) := by decide +kernel
theorem dX6_layOut_8 : decode cX6_layOut 8 = .ok (.aload_n 0, 1) := by decide +kernel
theorem dX6_layOut_9 : decode cX6_layOut 9 = .ok (.invokevirtual 196, 3) := by decide +kernel
theorem dX6_layOut_12 : decode cX6_layOut 12 = .ok (.aload_n 0, 1) := by decide +kernel
theorem dX6_layOut_13 : decode cX6_layOut 13 = .ok (.invokevirtual 199, 3) := by decide +kernel
theorem dX6_layOut_16 : decode cX6_layOut 16 = .ok (.aload_n 0, 1) := by decide +kernel
theorem dX6_layOut_17 : decode cX6_layOut 17 = .ok (.invokevirtual 202, 3) := by decide +kernel
theorem dX6_layOut_20 : decode cX6_layOut 20 = .ok (.return_, 1) := by decide +kernel
theorem dX6_hasLayout_0 : decode cX6_hasLayout 0 = .ok (.aload_n 0, 1) := by decide +kernel
theorem dX6_hasLayout_1 : decode cX6_hasLayout 1 = .ok (.aload_n 0, 1) := by decide +kernel
theorem dX6_hasLayout_2 : decode cX6_hasLayout 2 = .ok (.iload_n 1, 1) := by decide +kernel
theorem dX6_hasLayout_3 : decode cX6_hasLayout 3 = .ok (.invokevirtual 69, 3) := by decide +kernel
theorem dX6_hasLayout_6 : decode cX6_hasLayout 6 = .ok (.ifCond .eq 7, 3) := by decide +kernel
theorem dX6_hasLayout_9 : decode cX6_hasLayout 9 = .ok (.iconst 0, 1) := by decide +kernel
theorem dX6_hasLayout_10 : decode cX6_hasLayout 10 = .ok (.goto 4, 3) := by decide +kernel
theorem dX6_hasLayout_13 : decode cX6_hasLayout 13 = .ok (.iconst 1, 1) := by decide +kernel
theorem dX6_hasLayout_14 : decode cX6_hasLayout 14 = .ok (.putfield 58, 3) := by decide +kernel
theorem dX6_hasLayout_17 : decode cX6_hasLayout 17 = .ok (.aload_n 0, 1) := by decide +kernel
theorem dX6_hasLayout_18 : decode cX6_hasLayout 18 = .ok (.getfield 58, 3) := by decide +kernel
theorem dX6_hasLayout_21 : decode cX6_hasLayout 21 = .ok (.ifCond .ne 25, 3) := by decide +kernel
theorem dX6_hasLayout_24 : decode cX6_hasLayout 24 = .ok (.aload_n 0, 1) := by decide +kernel
theorem dX6_hasLayout_25 : decode cX6_hasLayout 25 = .ok (.invokevirtual 190, 3) := by decide +kernel
theorem dX6_hasLayout_28 : decode cX6_hasLayout 28 = .ok (.aload_n 0, 1) := by decide +kernel
theorem dX6_hasLayout_29 : decode cX6_hasLayout 29 = .ok (.aload_n 0, 1) := by decide +kernel
theorem dX6_hasLayout_30 : decode cX6_hasLayout 30 = .ok (.getfield 23, 3) := by decide +kernel
theorem dX6_hasLayout_33 : decode cX6_hasLayout 33 = .ok (.iload_n 1, 1) := by decide +kernel
theorem dX6_hasLayout_34 : decode cX6_hasLayout 34 = .ok (.baload, 1) := by decide +kernel
theorem dX6_hasLayout_35 : decode cX6_hasLayout 35 = .ok (.ifCond .eq 7, 3) := by decide +kernel
theorem dX6_hasLayout_38 : decode cX6_hasLayout 38 = .ok (.iconst 0, 1) := by decide +kernel
theorem dX6_hasLayout_39 : decode cX6_hasLayout 39 = .ok (.goto 4, 3) := by decide +kernel
theorem dX6_hasLayout_42 : decode cX6_hasLayout 42 = .ok (.iconst 2, 1) := by decide +kernel
theorem dX6_hasLayout_43 : decode cX6_hasLayout 43 = .ok (.putfield 58, 3) := by decide +kernel
theorem dX6_hasLayout_46 : decode cX6_hasLayout 46 = .ok (.aload_n 0, 1) := by decide +kernel
theorem dX6_hasLayout_47 : decode cX6_hasLayout 47 = .ok (.getfield 58, 3) := by decide +kernel
theorem dX6_hasLayout_50 : decode cX6_hasLayout 50 = .ok (.ifCond .ne 7, 3) := by decide +kernel
theorem dX6_hasLayout_53 : decode cX6_hasLayout 53 = .ok (.aload_n 0, 1) := by decide +kernel
theorem dX6_hasLayout_54 : decode cX6_hasLayout 54 = .ok (.invokevirtual 205, 3) := by decide +kernel
theorem dX6_hasLayout_57 : decode cX6_hasLayout 57 = .ok (.aload_n 0, 1) := by decide +kernel
theorem dX6_hasLayout_58 : decode cX6_hasLayout 58 = .ok (.getfield 58, 3) := by decide +kernel
theorem dX6_hasLayout_61 : decode cX6_hasLayout 61 = .ok (.ifCond .ne 7, 3) := by decide +kernel
theorem dX6_hasLayout_64 : decode cX6_hasLayout 64 = .ok (.iconst 1, 1) := by decide +kernel
theorem dX6_hasLayout_65 : decode cX6_hasLayout 65 = .ok (.goto 4, 3) := by decide +kernel
theorem dX6_hasLayout_68 : decode cX6_hasLayout 68 = .ok (.iconst 0, 1) := by decide +kernel
theorem dX6_hasLayout_69 : decode cX6_hasLayout 69 = .ok (.ireturn, 1) := by decide +kernel
theorem dX6_x_0 : decode cX6_x 0 = .ok (.aload_n 0, 1) := by decide +kernel
theorem dX6_x_1 : decode cX6_x 1 = .ok (.iload_n 1, 1) := by decide +kernel
theorem dX6_x_2 : decode cX6_x 2 = .ok (.invokevirtual 208, 3) := by decide +kernel
theorem dX6_x_5 : decode cX6_x 5 = .ok (.ifCond .eq 14, 3) := by decide +kernel
theorem dX6_x_8 : decode cX6_x 8 = .ok (.aload_n 0, 1) := by decide +kernel
theorem dX6_x_9 : decode cX6_x 9 = .ok (.getfield 32, 3) := by decide +kernel
theorem dX6_x_12 : decode cX6_x 12 = .ok (.iconst 2, 1) := by decide +kernel
theorem dX6_x_13 : decode cX6_x 13 = .ok (.iload_n 1, 1) := by decide +kernel
theorem dX6_x_14 : decode cX6_x 14 = .ok (.imul, 1) := by decide +kernel
theorem dX6_x_15 : decode cX6_x 15 = .ok (.iaload, 1) := by decide +kernel
theorem dX6_x_16 : decode cX6_x 16 = .ok (.goto 4, 3) := by decide +kernel
theorem dX6_x_19 : decode cX6_x 19 = .ok (.iconst 0, 1) := by decide +kernel
theorem dX6_x_20 : decode cX6_x 20 = .ok (.ireturn, 1) := by decide +kernel
theorem dX6_y_0 : decode cX6_y 0 = .ok (.aload_n 0, 1) := by decide +kernel
theorem dX6_y_1 : decode cX6_y 1 = .ok (.iload_n 1, 1) := by decide +kernel
theorem dX6_y_2 : decode cX6_y 2 = .ok (.invokevirtual 208, 3) := by decide +kernel
theorem dX6_y_5 : decode cX6_y 5 = .ok (.ifCond .eq 16, 3) := by decide +kernel
theorem dX6_y_8 : decode cX6_y 8 = .ok (.aload_n 0, 1) := by decide +kernel
theorem dX6_y_9 : decode cX6_y 9 = .ok (.getfield 32, 3) := by decide +kernel
theorem dX6_y_12 : decode cX6_y 12 = .ok (.iconst 2, 1) := by decide +kernel
theorem dX6_y_13 : decode cX6_y 13 = .ok (.iload_n 1, 1) := by decide +kernel
theorem dX6_y_14 : decode cX6_y 14 = .ok (.imul, 1) := by decide +kernel
theorem dX6_y_15 : decode cX6_y 15 = .ok (.iconst 1, 1) := by decide +kernel
theorem dX6_y_16 : decode cX6_y 16 = .ok (.iadd, 1) := by decide +kernel
theorem dX6_y_17 : decode cX6_y 17 = .ok (.iaload, 1) := by decide +kernel
theorem dX6_y_18 : decode cX6_y 18 = .ok (.goto 4, 3) := by decide +kernel
theorem dX6_y_21 : decode cX6_y 21 = .ok (.iconst 0, 1) := by decide +kernel
theorem dX6_y_22 : decode cX6_y 22 = .ok (.ireturn, 1) := by decide +kernel
theorem dX6_width_0 : decode cX6_width 0 = .ok (.aload_n 0, 1) := by decide +kernel
theorem dX6_width_1 : decode cX6_width 1 = .ok (.iload_n 1, 1) := by decide +kernel
theorem dX6_width_2 : decode cX6_width 2 = .ok (.invokevirtual 208, 3) := by decide +kernel
theorem dX6_width_5 : decode cX6_width 5 = .ok (.ifCond .eq 14, 3) := by decide +kernel
theorem dX6_width_8 : decode cX6_width 8 = .ok (.aload_n 0, 1) := by decide +kernel
theorem dX6_width_9 : decode cX6_width 9 = .ok (.getfield 29, 3) := by decide +kernel
theorem dX6_width_12 : decode cX6_width 12 = .ok (.iconst 2, 1) := by decide +kernel
theorem dX6_width_13 : decode cX6_width 13 = .ok (.iload_n 1, 1) := by decide +kernel
theorem dX6_width_14 : decode cX6_width 14 = .ok (.imul, 1) := by decide +kernel
theorem dX6_width_15 : decode cX6_width 15 = .ok (.iaload, 1) := by decide +kernel
theorem dX6_width_16 : decode cX6_width 16 = .ok (.goto 4, 3) := by decide +kernel
theorem dX6_width_19 : decode cX6_width 19 = .ok (.iconst 0, 1) := by decide +kernel
theorem dX6_width_20 : decode cX6_width 20 = .ok (.ireturn, 1) := by decide +kernel
theorem dX6_height_0 : decode cX6_height 0 = .ok (.aload_n 0, 1) := by decide +kernel
theorem dX6_height_1 : decode cX6_height 1 = .ok (.iload_n 1, 1) := by decide +kernel
theorem dX6_height_2 : decode cX6_height 2 = .ok (.invokevirtual 208, 3) := by decide +kernel
theorem dX6_height_5 : decode cX6_height 5 = .ok (.ifCond .eq 16, 3) := by decide +kernel
theorem dX6_height_8 : decode cX6_height 8 = .ok (.aload_n 0, 1) := by decide +kernel
theorem dX6_height_9 : decode cX6_height 9 = .ok (.getfield 29, 3) := by decide +kernel
theorem dX6_height_12 : decode cX6_height 12 = .ok (.iconst 2, 1) := by decide +kernel
theorem dX6_height_13 : decode cX6_height 13 = .ok (.iload_n 1, 1) := by decide +kernel
theorem dX6_height_14 : decode cX6_height 14 = .ok (.imul, 1) := by decide +kernel
theorem dX6_height_15 : decode cX6_height 15 = .ok (.iconst 1, 1) := by decide +kernel
theorem dX6_height_16 : decode cX6_height 16 = .ok (.iadd, 1) := by decide +kernel
theorem dX6_height_17 : decode cX6_height 17 = .ok (.iaload, 1) := by decide +kernel
theorem dX6_height_18 : decode cX6_height 18 = .ok (.goto 4, 3) := by decide +kernel
theorem dX6_height_21 : decode cX6_height 21 = .ok (.iconst 0, 1) := by decide +kernel
theorem dX6_height_22 : decode cX6_height 22 = .ok (.ireturn, 1) := by decide +kernel
theorem dX6_naturalWidth_0 : decode cX6_naturalWidth 0 = .ok (.aload_n 0, 1) := by decide +kernel
theorem dX6_naturalWidth_1 : decode cX6_naturalWidth 1 = .ok (.iload_n 1, 1) := by decide +kernel
theorem dX6_naturalWidth_2 : decode cX6_naturalWidth 2 = .ok (.invokevirtual 208, 3) := by decide +kernel
theorem dX6_naturalWidth_5 : decode cX6_naturalWidth 5 = .ok (.ifCond .eq 14, 3) := by decide +kernel
theorem dX6_naturalWidth_8 : decode cX6_naturalWidth 8 = .ok (.aload_n 0, 1) := by decide +kernel
theorem dX6_naturalWidth_9 : decode cX6_naturalWidth 9 = .ok (.getfield 26, 3) := by decide +kernel
theorem dX6_naturalWidth_12 : decode cX6_naturalWidth 12 = .ok (.iconst 2, 1) := by decide +kernel
theorem dX6_naturalWidth_13 : decode cX6_naturalWidth 13 = .ok (.iload_n 1, 1) := by decide +kernel
theorem dX6_naturalWidth_14 : decode cX6_naturalWidth 14 = .ok (.imul, 1) := by decide +kernel
theorem dX6_naturalWidth_15 : decode cX6_naturalWidth 15 = .ok (.iaload, 1) := by decide +kernel
theorem dX6_naturalWidth_16 : decode cX6_naturalWidth 16 = .ok (.goto 4, 3) := by decide +kernel
theorem dX6_naturalWidth_19 : decode cX6_naturalWidth 19 = .ok (.iconst 0, 1) := by decide +kernel
theorem dX6_naturalWidth_20 : decode cX6_naturalWidth 20 = .ok (.ireturn, 1) := by decide +kernel
theorem dX6_naturalHeight_0 : decode cX6_naturalHeight 0 = .ok (.aload_n 0, 1) := by decide +kernel
theorem dX6_naturalHeight_1 : decode cX6_naturalHeight 1 = .ok (.iload_n 1, 1) := by decide +kernel
theorem dX6_naturalHeight_2 : decode cX6_naturalHeight 2 = .ok (.invokevirtual 208, 3) := by decide +kernel
theorem dX6_naturalHeight_5 : decode cX6_naturalHeight 5 = .ok (.ifCond .eq 16, 3) := by decide +kernel
theorem dX6_naturalHeight_8 : decode cX6_naturalHeight 8 = .ok (.aload_n 0, 1) := by decide +kernel
theorem dX6_naturalHeight_9 : decode cX6_naturalHeight 9 = .ok (.getfield 26, 3) := by decide +kernel
theorem dX6_naturalHeight_12 : decode cX6_naturalHeight 12 = .ok (.iconst 2, 1) := by decide +kernel
theorem dX6_naturalHeight_13 : decode cX6_naturalHeight 13 = .ok (.iload_n 1, 1) := by decide +kernel
theorem dX6_naturalHeight_14 : decode cX6_naturalHeight 14 = .ok (.imul, 1) := by decide +kernel
theorem dX6_naturalHeight_15 : decode cX6_naturalHeight 15 = .ok (.iconst 1, 1) := by decide +kernel
theorem dX6_naturalHeight_16 : decode cX6_naturalHeight 16 = .ok (.iadd, 1) := by decide +kernel
theorem dX6_naturalHeight_17 : decode cX6_naturalHeight 17 = .ok (.iaload, 1) := by decide +kernel
theorem dX6_naturalHeight_18 : decode cX6_naturalHeight 18 = .ok (.goto 4, 3) := by decide +kernel
theorem dX6_naturalHeight_21 : decode cX6_naturalHeight 21 = .ok (.iconst 0, 1) := by decide +kernel
theorem dX6_naturalHeight_22 : decode cX6_naturalHeight 22 = .ok (.ireturn, 1) := by decide +kernel
theorem dX6_lines_0 : decode cX6_lines 0 = .ok (.aload_n 0, 1) := by decide +kernel
theorem dX6_lines_1 : decode cX6_lines 1 = .ok (.iload_n 1, 1) := by decide +kernel
theorem dX6_lines_2 : decode cX6_lines 2 = .ok (.invokevirtual 208, 3) := by decide +kernel
theorem dX6_lines_5 : decode cX6_lines 5 = .ok (.ifCond .eq 12, 3) := by decide +kernel
theorem dX6_lines_8 : decode cX6_lines 8 = .ok (.aload_n 0, 1) := by decide +kernel
theorem dX6_lines_9 : decode cX6_lines 9 = .ok (.getfield 38, 3) := by decide +kernel
theorem dX6_lines_12 : decode cX6_lines 12 = .ok (.iload_n 1, 1) := by decide +kernel
theorem dX6_lines_13 : decode cX6_lines 13 = .ok (.iaload, 1) := by decide +kernel
theorem dX6_lines_14 : decode cX6_lines 14 = .ok (.goto 4, 3) := by decide +kernel
theorem dX6_lines_17 : decode cX6_lines 17 = .ok (.iconst 0, 1) := by decide +kernel
theorem dX6_lines_18 : decode cX6_lines 18 = .ok (.ireturn, 1) := by decide +kernel
theorem dX6_lineOf_0 : decode cX6_lineOf 0 = .ok (.aload_n 0, 1) := by decide +kernel
theorem dX6_lineOf_1 : decode cX6_lineOf 1 = .ok (.iload_n 1, 1) := by decide +kernel
theorem dX6_lineOf_2 : decode cX6_lineOf 2 = .ok (.invokevirtual 208, 3) := by decide +kernel
theorem dX6_lineOf_5 : decode cX6_lineOf 5 = .ok (.ifCond .eq 12, 3) := by decide +kernel
theorem dX6_lineOf_8 : decode cX6_lineOf 8 = .ok (.aload_n 0, 1) := by decide +kernel
theorem dX6_lineOf_9 : decode cX6_lineOf 9 = .ok (.getfield 35, 3) := by decide +kernel
theorem dX6_lineOf_12 : decode cX6_lineOf 12 = .ok (.iload_n 1, 1) := by decide +kernel
theorem dX6_lineOf_13 : decode cX6_lineOf 13 = .ok (.iaload, 1) := by decide +kernel
theorem dX6_lineOf_14 : decode cX6_lineOf 14 = .ok (.goto 4, 3) := by decide +kernel
theorem dX6_lineOf_17 : decode cX6_lineOf 17 = .ok (.iconst 0, 1) := by decide +kernel
theorem dX6_lineOf_18 : decode cX6_lineOf 18 = .ok (.ireturn, 1) := by decide +kernel
theorem dX6_end_0 : decode cX6_end 0 = .ok (.aload_n 0, 1) := by decide +kernel
theorem dX6_end_1 : decode cX6_end 1 = .ok (.getfield 32, 3) := by decide +kernel
theorem dX6_end_4 : decode cX6_end 4 = .ok (.iconst 2, 1) := by decide +kernel
theorem dX6_end_5 : decode cX6_end 5 = .ok (.iload_n 1, 1) := by decide +kernel
theorem dX6_end_6 : decode cX6_end 6 = .ok (.imul, 1) := by decide +kernel
theorem dX6_end_7 : decode cX6_end 7 = .ok (.iload_n 2, 1) := by decide +kernel
theorem dX6_end_8 : decode cX6_end 8 = .ok (.iadd, 1) := by decide +kernel
theorem dX6_end_9 : decode cX6_end 9 = .ok (.iaload, 1) := by decide +kernel
theorem dX6_end_10 : decode cX6_end 10 = .ok (.aload_n 0, 1) := by decide +kernel
theorem dX6_end_11 : decode cX6_end 11 = .ok (.getfield 29, 3) := by decide +kernel
theorem dX6_end_14 : decode cX6_end 14 = .ok (.iconst 2, 1) := by decide +kernel
theorem dX6_end_15 : decode cX6_end 15 = .ok (.iload_n 1, 1) := by decide +kernel
theorem dX6_end_16 : decode cX6_end 16 = .ok (.imul, 1) := by decide +kernel
theorem dX6_end_17 : decode cX6_end 17 = .ok (.iload_n 2, 1) := by decide +kernel
theorem dX6_end_18 : decode cX6_end 18 = .ok (.iadd, 1) := by decide +kernel
theorem dX6_end_19 : decode cX6_end 19 = .ok (.iaload, 1) := by decide +kernel
theorem dX6_end_20 : decode cX6_end 20 = .ok (.iadd, 1) := by decide +kernel
theorem dX6_end_21 : decode cX6_end 21 = .ok (.ireturn, 1) := by decide +kernel
theorem dX6_overflow_0 : decode cX6_overflow 0 = .ok (.aload_n 0, 1) := by decide +kernel
theorem dX6_overflow_1 : decode cX6_overflow 1 = .ok (.iload_n 1, 1) := by decide +kernel
theorem dX6_overflow_2 : decode cX6_overflow 2 = .ok (.invokevirtual 208, 3) := by decide +kernel
theorem dX6_overflow_5 : decode cX6_overflow 5 = .ok (.ifCond .ne 5, 3) := by decide +kernel
theorem dX6_overflow_8 : decode cX6_overflow 8 = .ok (.iconst 0, 1) := by decide +kernel
theorem dX6_overflow_9 : decode cX6_overflow 9 = .ok (.ireturn, 1) := by decide +kernel
theorem dX6_overflow_10 : decode cX6_overflow 10 = .ok (.aload_n 0, 1) := by decide +kernel
theorem dX6_overflow_11 : decode cX6_overflow 11 = .ok (.iload_n 1, 1) := by decide +kernel
theorem dX6_overflow_12 : decode cX6_overflow 12 = .ok (.invokevirtual 110, 3) := by decide +kernel
theorem dX6_overflow_15 : decode cX6_overflow 15 = .ok (.ifCond .eq 64, 3) := by decide +kernel
theorem dX6_overflow_18 : decode cX6_overflow 18 = .ok (.aload_n 0, 1) := by decide +kernel
theorem dX6_overflow_19 : decode cX6_overflow 19 = .ok (.iload_n 1, 1) := by decide +kernel
theorem dX6_overflow_20 : decode cX6_overflow 20 = .ok (.bipush 19, 2) := by decide +kernel
theorem dX6_overflow_22 : decode cX6_overflow 22 = .ok (.invokevirtual 73, 3) := by decide +kernel
theorem dX6_overflow_25 : decode cX6_overflow 25 = .ok (.ifCond .le 18, 3) := by decide +kernel
theorem dX6_overflow_28 : decode cX6_overflow 28 = .ok (.aload_n 0, 1) := by decide +kernel
theorem dX6_overflow_29 : decode cX6_overflow 29 = .ok (.iload_n 1, 1) := by decide +kernel
theorem dX6_overflow_30 : decode cX6_overflow 30 = .ok (.iconst 0, 1) := by decide +kernel
theorem dX6_overflow_31 : decode cX6_overflow 31 = .ok (.invokevirtual 141, 3) := by decide +kernel
theorem dX6_overflow_34 : decode cX6_overflow 34 = .ok (.bipush 8, 2) := by decide +kernel
theorem dX6_overflow_36 : decode cX6_overflow 36 = .ok (.if_icmp .ge 7, 3) := by decide +kernel
theorem dX6_overflow_39 : decode cX6_overflow 39 = .ok (.iconst 1, 1) := by decide +kernel
theorem dX6_overflow_40 : decode cX6_overflow 40 = .ok (.goto 4, 3) := by decide +kernel
theorem dX6_overflow_43 : decode cX6_overflow 43 = .ok (.iconst 0, 1) := by decide +kernel
theorem dX6_overflow_44 : decode cX6_overflow 44 = .ok (.istore_n 2, 1) := by decide +kernel
theorem dX6_overflow_45 : decode cX6_overflow 45 = .ok (.iload_n 2, 1) := by decide +kernel
theorem dX6_overflow_46 : decode cX6_overflow 46 = .ok (.ifCond .eq 7, 3) := by decide +kernel
theorem dX6_overflow_49 : decode cX6_overflow 49 = .ok (.iconst 1, 1) := by decide +kernel
theorem dX6_overflow_50 : decode cX6_overflow 50 = .ok (.goto 4, 3) := by decide +kernel
theorem dX6_overflow_53 : decode cX6_overflow 53 = .ok (.iconst 0, 1) := by decide +kernel
theorem dX6_overflow_54 : decode cX6_overflow 54 = .ok (.bipush 16, 2) := by decide +kernel
theorem dX6_overflow_56 : decode cX6_overflow 56 = .ok (.aload_n 0, 1) := by decide +kernel
theorem dX6_overflow_57 : decode cX6_overflow 57 = .ok (.getfield 38, 3) := by decide +kernel
theorem dX6_overflow_60 : decode cX6_overflow 60 = .ok (.iload_n 1, 1) := by decide +kernel
theorem dX6_overflow_61 : decode cX6_overflow 61 = .ok (.iaload, 1) := by decide +kernel
theorem dX6_overflow_62 : decode cX6_overflow 62 = .ok (.imul, 1) := by decide +kernel
theorem dX6_overflow_63 : decode cX6_overflow 63 = .ok (.aload_n 0, 1) := by decide +kernel
theorem dX6_overflow_64 : decode cX6_overflow 64 = .ok (.iload_n 1, 1) := by decide +kernel
theorem dX6_overflow_65 : decode cX6_overflow 65 = .ok (.iconst 1, 1) := by decide +kernel
theorem dX6_overflow_66 : decode cX6_overflow 66 = .ok (.invokevirtual 141, 3) := by decide +kernel
theorem dX6_overflow_69 : decode cX6_overflow 69 = .ok (.if_icmp .le 7, 3) := by decide +kernel
theorem dX6_overflow_72 : decode cX6_overflow 72 = .ok (.iconst 2, 1) := by decide +kernel
theorem dX6_overflow_73 : decode cX6_overflow 73 = .ok (.goto 4, 3) := by decide +kernel
theorem dX6_overflow_76 : decode cX6_overflow 76 = .ok (.iconst 0, 1) := by decide +kernel
theorem dX6_overflow_77 : decode cX6_overflow 77 = .ok (.iadd, 1) := by decide +kernel
theorem dX6_overflow_78 : decode cX6_overflow 78 = .ok (.ireturn, 1) := by decide +kernel
theorem dX6_overflow_79 : decode cX6_overflow 79 = .ok (.aload_n 0, 1) := by decide +kernel
theorem dX6_overflow_80 : decode cX6_overflow 80 = .ok (.iload_n 1, 1) := by decide +kernel
theorem dX6_overflow_81 : decode cX6_overflow 81 = .ok (.invokevirtual 87, 3) := by decide +kernel
theorem dX6_overflow_84 : decode cX6_overflow 84 = .ok (.iconst 0, 1) := by decide +kernel
theorem dX6_overflow_85 : decode cX6_overflow 85 = .ok (.istore_n 2, 1) := by decide +kernel
theorem dX6_overflow_86 : decode cX6_overflow 86 = .ok (.iconst 0, 1) := by decide +kernel
theorem dX6_overflow_87 : decode cX6_overflow 87 = .ok (.istore_n 3, 1) := by decide +kernel
theorem dX6_overflow_88 : decode cX6_overflow 88 = .ok (.iload_n 3, 1) := by decide +kernel
theorem dX6_overflow_89 : decode cX6_overflow 89 = .ok (.aload_n 0, 1) := by decide +kernel
theorem dX6_overflow_90 : decode cX6_overflow 90 = .ok (.getfield 77, 3) := by decide +kernel
theorem dX6_overflow_93 : decode cX6_overflow 93 = .ok (.if_icmp .ge 89, 3) := by decide +kernel
theorem dX6_overflow_96 : decode cX6_overflow 96 = .ok (.iconst 0, 1) := by decide +kernel
theorem dX6_overflow_97 : decode cX6_overflow 97 = .ok (.istore 4, 2) := by decide +kernel
theorem dX6_overflow_99 : decode cX6_overflow 99 = .ok (.iload 4, 2) := by decide +kernel
theorem dX6_overflow_101 : decode cX6_overflow 101 = .ok (.iconst 2, 1) := by decide +kernel
theorem dX6_overflow_102 : decode cX6_overflow 102 = .ok (.if_icmp .ge 74, 3) := by decide +kernel
theorem dX6_overflow_105 : decode cX6_overflow 105 = .ok (.aload_n 0, 1) := by decide +kernel
theorem dX6_overflow_106 : decode cX6_overflow 106 = .ok (.aload_n 0, 1) := by decide +kernel
theorem dX6_overflow_107 : decode cX6_overflow 107 = .ok (.getfield 20, 3) := by decide +kernel
theorem dX6_overflow_110 : decode cX6_overflow 110 = .ok (.iload_n 3, 1) := by decide +kernel
theorem dX6_overflow_111 : decode cX6_overflow 111 = .ok (.iaload, 1) := by decide +kernel
theorem dX6_overflow_112 : decode cX6_overflow 112 = .ok (.iload 4, 2) := by decide +kernel
theorem dX6_overflow_114 : decode cX6_overflow 114 = .ok (.invokevirtual 211, 3) := by decide +kernel
theorem dX6_overflow_117 : decode cX6_overflow 117 = .ok (.aload_n 0, 1) := by decide +kernel
theorem dX6_overflow_118 : decode cX6_overflow 118 = .ok (.aload_n 0, 1) := by decide +kernel
theorem dX6_overflow_119 : decode cX6_overflow 119 = .ok (.getfield 20, 3) := by decide +kernel
theorem dX6_overflow_122 : decode cX6_overflow 122 = .ok (.iload_n 3, 1) := by decide +kernel
theorem dX6_overflow_123 : decode cX6_overflow 123 = .ok (.iaload, 1) := by decide +kernel
theorem dX6_overflow_124 : decode cX6_overflow 124 = .ok (.bipush 6, 2) := by decide +kernel
theorem dX6_overflow_126 : decode cX6_overflow 126 = .ok (.invokevirtual 73, 3) := by decide +kernel
theorem dX6_overflow_129 : decode cX6_overflow 129 = .ok (.iadd, 1) := by decide +kernel
theorem dX6_overflow_130 : decode cX6_overflow 130 = .ok (.aload_n 0, 1) := by decide +kernel
theorem dX6_overflow_131 : decode cX6_overflow 131 = .ok (.iload_n 1, 1) := by decide +kernel
theorem dX6_overflow_132 : decode cX6_overflow 132 = .ok (.iload 4, 2) := by decide +kernel
theorem dX6_overflow_134 : decode cX6_overflow 134 = .ok (.invokevirtual 211, 3) := by decide +kernel
theorem dX6_overflow_137 : decode cX6_overflow 137 = .ok (.aload_n 0, 1) := by decide +kernel
theorem dX6_overflow_138 : decode cX6_overflow 138 = .ok (.iload_n 1, 1) := by decide +kernel
theorem dX6_overflow_139 : decode cX6_overflow 139 = .ok (.iconst 5, 1) := by decide +kernel
theorem dX6_overflow_140 : decode cX6_overflow 140 = .ok (.invokevirtual 73, 3) := by decide +kernel
theorem dX6_overflow_143 : decode cX6_overflow 143 = .ok (.isub, 1) := by decide +kernel
theorem dX6_overflow_144 : decode cX6_overflow 144 = .ok (.if_icmp .le 7, 3) := by decide +kernel
theorem dX6_overflow_147 : decode cX6_overflow 147 = .ok (.iconst 1, 1) := by decide +kernel
theorem dX6_overflow_148 : decode cX6_overflow 148 = .ok (.goto 4, 3) := by decide +kernel
theorem dX6_overflow_151 : decode cX6_overflow 151 = .ok (.iconst 0, 1) := by decide +kernel
theorem dX6_overflow_152 : decode cX6_overflow 152 = .ok (.istore 5, 2) := by decide +kernel
theorem dX6_overflow_154 : decode cX6_overflow 154 = .ok (.iload_n 2, 1) := by decide +kernel
theorem dX6_overflow_155 : decode cX6_overflow 155 = .ok (.iload 5, 2) := by decide +kernel
theorem dX6_overflow_157 : decode cX6_overflow 157 = .ok (.ifCond .eq 10, 3) := by decide +kernel
theorem dX6_overflow_160 : decode cX6_overflow 160 = .ok (.iconst 1, 1) := by decide +kernel
theorem dX6_overflow_161 : decode cX6_overflow 161 = .ok (.iload 4, 2) := by decide +kernel
theorem dX6_overflow_163 : decode cX6_overflow 163 = .ok (.iadd, 1) := by decide +kernel
theorem dX6_overflow_164 : decode cX6_overflow 164 = .ok (.goto 4, 3) := by decide +kernel
theorem dX6_overflow_167 : decode cX6_overflow 167 = .ok (.iconst 0, 1) := by decide +kernel
theorem dX6_overflow_168 : decode cX6_overflow 168 = .ok (.ior, 1) := by decide +kernel
theorem dX6_overflow_169 : decode cX6_overflow 169 = .ok (.istore_n 2, 1) := by decide +kernel
theorem dX6_overflow_170 : decode cX6_overflow 170 = .ok (.iinc 4 1, 3) := by decide +kernel
theorem dX6_overflow_173 : decode cX6_overflow 173 = .ok (.goto (-74), 3) := by decide +kernel
theorem dX6_overflow_176 : decode cX6_overflow 176 = .ok (.iinc 3 1, 3) := by decide +kernel
theorem dX6_overflow_179 : decode cX6_overflow 179 = .ok (.goto (-91), 3) := by decide +kernel
theorem dX6_overflow_182 : decode cX6_overflow 182 = .ok (.iload_n 2, 1) := by decide +kernel
theorem dX6_overflow_183 : decode cX6_overflow 183 = .ok (.ireturn, 1) := by decide +kernel
theorem dX6_covers_0 : decode cX6_covers 0 = .ok (.iload_n 2, 1) := by decide +kernel
theorem dX6_covers_1 : decode cX6_covers 1 = .ok (.aload_n 0, 1) := by decide +kernel
theorem dX6_covers_2 : decode cX6_covers 2 = .ok (.getfield 32, 3) := by decide +kernel
theorem dX6_covers_5 : decode cX6_covers 5 = .ok (.iconst 2, 1) := by decide +kernel
theorem dX6_covers_6 : decode cX6_covers 6 = .ok (.iload_n 1, 1) := by decide +kernel
theorem dX6_covers_7 : decode cX6_covers 7 = .ok (.imul, 1) := by decide +kernel
theorem dX6_covers_8 : decode cX6_covers 8 = .ok (.iaload, 1) := by decide +kernel
theorem dX6_covers_9 : decode cX6_covers 9 = .ok (.if_icmp .lt 41, 3) := by decide +kernel
theorem dX6_covers_12 : decode cX6_covers 12 = .ok (.iload_n 2, 1) := by decide +kernel
theorem dX6_covers_13 : decode cX6_covers 13 = .ok (.aload_n 0, 1) := by decide +kernel
theorem dX6_covers_14 : decode cX6_covers 14 = .ok (.iload_n 1, 1) := by decide +kernel
theorem dX6_covers_15 : decode cX6_covers 15 = .ok (.iconst 0, 1) := by decide +kernel
theorem dX6_covers_16 : decode cX6_covers 16 = .ok (.invokevirtual 211, 3) := by decide +kernel
theorem dX6_covers_19 : decode cX6_covers 19 = .ok (.if_icmp .ge 31, 3) := by decide +kernel
theorem dX6_covers_22 : decode cX6_covers 22 = .ok (.iload_n 3, 1) := by decide +kernel
theorem dX6_covers_23 : decode cX6_covers 23 = .ok (.aload_n 0, 1) := by decide +kernel
theorem dX6_covers_24 : decode cX6_covers 24 = .ok (.getfield 32, 3) := by decide +kernel
theorem dX6_covers_27 : decode cX6_covers 27 = .ok (.iconst 2, 1) := by decide +kernel
theorem dX6_covers_28 : decode cX6_covers 28 = .ok (.iload_n 1, 1) := by decide +kernel
theorem dX6_covers_29 : decode cX6_covers 29 = .ok (.imul, 1) := by decide +kernel
theorem dX6_covers_30 : decode cX6_covers 30 = .ok (.iconst 1, 1) := by decide +kernel
theorem dX6_covers_31 : decode cX6_covers 31 = .ok (.iadd, 1) := by decide +kernel
theorem dX6_covers_32 : decode cX6_covers 32 = .ok (.iaload, 1) := by decide +kernel
theorem dX6_covers_33 : decode cX6_covers 33 = .ok (.if_icmp .lt 17, 3) := by decide +kernel
theorem dX6_covers_36 : decode cX6_covers 36 = .ok (.iload_n 3, 1) := by decide +kernel
theorem dX6_covers_37 : decode cX6_covers 37 = .ok (.aload_n 0, 1) := by decide +kernel
theorem dX6_covers_38 : decode cX6_covers 38 = .ok (.iload_n 1, 1) := by decide +kernel
theorem dX6_covers_39 : decode cX6_covers 39 = .ok (.iconst 1, 1) := by decide +kernel
theorem dX6_covers_40 : decode cX6_covers 40 = .ok (.invokevirtual 211, 3) := by decide +kernel
theorem dX6_covers_43 : decode cX6_covers 43 = .ok (.if_icmp .ge 7, 3) := by decide +kernel
theorem dX6_covers_46 : decode cX6_covers 46 = .ok (.iconst 1, 1) := by decide +kernel
theorem dX6_covers_47 : decode cX6_covers 47 = .ok (.goto 4, 3) := by decide +kernel
theorem dX6_covers_50 : decode cX6_covers 50 = .ok (.iconst 0, 1) := by decide +kernel
theorem dX6_covers_51 : decode cX6_covers 51 = .ok (.ireturn, 1) := by decide +kernel
theorem dX6_hit_0 : decode cX6_hit 0 = .ok (.aload_n 0, 1) := by decide +kernel
theorem dX6_hit_1 : decode cX6_hit 1 = .ok (.iconst 0, 1) := by decide +kernel
theorem dX6_hit_2 : decode cX6_hit 2 = .ok (.putfield 58, 3) := by decide +kernel
theorem dX6_hit_5 : decode cX6_hit 5 = .ok (.aload_n 0, 1) := by decide +kernel
theorem dX6_hit_6 : decode cX6_hit 6 = .ok (.invokevirtual 205, 3) := by decide +kernel
theorem dX6_hit_9 : decode cX6_hit 9 = .ok (.iconst (-1), 1) := by decide +kernel
theorem dX6_hit_10 : decode cX6_hit 10 = .ok (.istore_n 3, 1) := by decide +kernel
theorem dX6_hit_11 : decode cX6_hit 11 = .ok (.iconst 1, 1) := by decide +kernel
theorem dX6_hit_12 : decode cX6_hit 12 = .ok (.istore 4, 2) := by decide +kernel
theorem dX6_hit_14 : decode cX6_hit 14 = .ok (.aload_n 0, 1) := by decide +kernel
theorem dX6_hit_15 : decode cX6_hit 15 = .ok (.getfield 51, 3) := by decide +kernel
theorem dX6_hit_18 : decode cX6_hit 18 = .ok (.iconst 0, 1) := by decide +kernel
theorem dX6_hit_19 : decode cX6_hit 19 = .ok (.iconst 0, 1) := by decide +kernel
theorem dX6_hit_20 : decode cX6_hit 20 = .ok (.iastore, 1) := by decide +kernel
theorem dX6_hit_21 : decode cX6_hit 21 = .ok (.iload 4, 2) := by decide +kernel
theorem dX6_hit_23 : decode cX6_hit 23 = .ok (.ifCond .le 78, 3) := by decide +kernel
theorem dX6_hit_26 : decode cX6_hit 26 = .ok (.iinc 4 (-1), 3) := by decide +kernel
theorem dX6_hit_29 : decode cX6_hit 29 = .ok (.aload_n 0, 1) := by decide +kernel
theorem dX6_hit_30 : decode cX6_hit 30 = .ok (.getfield 51, 3) := by decide +kernel
theorem dX6_hit_33 : decode cX6_hit 33 = .ok (.iload 4, 2) := by decide +kernel
theorem dX6_hit_35 : decode cX6_hit 35 = .ok (.iaload, 1) := by decide +kernel
theorem dX6_hit_36 : decode cX6_hit 36 = .ok (.istore 5, 2) := by decide +kernel
theorem dX6_hit_38 : decode cX6_hit 38 = .ok (.aload_n 0, 1) := by decide +kernel
theorem dX6_hit_39 : decode cX6_hit 39 = .ok (.iload 5, 2) := by decide +kernel
theorem dX6_hit_41 : decode cX6_hit 41 = .ok (.iload_n 1, 1) := by decide +kernel
theorem dX6_hit_42 : decode cX6_hit 42 = .ok (.iload_n 2, 1) := by decide +kernel
theorem dX6_hit_43 : decode cX6_hit 43 = .ok (.invokevirtual 214, 3) := by decide +kernel
theorem dX6_hit_46 : decode cX6_hit 46 = .ok (.ifCond .eq 8, 3) := by decide +kernel
theorem dX6_hit_49 : decode cX6_hit 49 = .ok (.iload 5, 2) := by decide +kernel
theorem dX6_hit_51 : decode cX6_hit 51 = .ok (.goto 4, 3) := by decide +kernel
theorem dX6_hit_54 : decode cX6_hit 54 = .ok (.iload_n 3, 1) := by decide +kernel
theorem dX6_hit_55 : decode cX6_hit 55 = .ok (.istore_n 3, 1) := by decide +kernel
theorem dX6_hit_56 : decode cX6_hit 56 = .ok (.aload_n 0, 1) := by decide +kernel
theorem dX6_hit_57 : decode cX6_hit 57 = .ok (.iload 5, 2) := by decide +kernel
theorem dX6_hit_59 : decode cX6_hit 59 = .ok (.invokevirtual 87, 3) := by decide +kernel
theorem dX6_hit_62 : decode cX6_hit 62 = .ok (.aload_n 0, 1) := by decide +kernel
theorem dX6_hit_63 : decode cX6_hit 63 = .ok (.getfield 77, 3) := by decide +kernel
theorem dX6_hit_66 : decode cX6_hit 66 = .ok (.iconst 1, 1) := by decide +kernel
theorem dX6_hit_67 : decode cX6_hit 67 = .ok (.isub, 1) := by decide +kernel
theorem dX6_hit_68 : decode cX6_hit 68 = .ok (.istore 6, 2) := by decide +kernel
theorem dX6_hit_70 : decode cX6_hit 70 = .ok (.iload 6, 2) := by decide +kernel
theorem dX6_hit_72 : decode cX6_hit 72 = .ok (.ifCond .lt 26, 3) := by decide +kernel
theorem dX6_hit_75 : decode cX6_hit 75 = .ok (.aload_n 0, 1) := by decide +kernel
theorem dX6_hit_76 : decode cX6_hit 76 = .ok (.getfield 51, 3) := by decide +kernel
theorem dX6_hit_79 : decode cX6_hit 79 = .ok (.iload 4, 2) := by decide +kernel
theorem dX6_hit_81 : decode cX6_hit 81 = .ok (.aload_n 0, 1) := by decide +kernel
theorem dX6_hit_82 : decode cX6_hit 82 = .ok (.getfield 20, 3) := by decide +kernel
theorem dX6_hit_85 : decode cX6_hit 85 = .ok (.iload 6, 2) := by decide +kernel
theorem dX6_hit_87 : decode cX6_hit 87 = .ok (.iaload, 1) := by decide +kernel
theorem dX6_hit_88 : decode cX6_hit 88 = .ok (.iastore, 1) := by decide +kernel
theorem dX6_hit_89 : decode cX6_hit 89 = .ok (.iinc 4 1, 3) := by decide +kernel
theorem dX6_hit_92 : decode cX6_hit 92 = .ok (.iinc 6 (-1), 3) := by decide +kernel
theorem dX6_hit_95 : decode cX6_hit 95 = .ok (.goto (-25), 3) := by decide +kernel
theorem dX6_hit_98 : decode cX6_hit 98 = .ok (.goto (-77), 3) := by decide +kernel
theorem dX6_hit_101 : decode cX6_hit 101 = .ok (.iload_n 3, 1) := by decide +kernel
theorem dX6_hit_102 : decode cX6_hit 102 = .ok (.ireturn, 1) := by decide +kernel
theorem dX6_widthFor_0 : decode cX6_widthFor 0 = .ok (.aload_n 0, 1) := by decide +kernel
theorem dX6_widthFor_1 : decode cX6_widthFor 1 = .ok (.aload_n 0, 1) := by decide +kernel
theorem dX6_widthFor_2 : decode cX6_widthFor 2 = .ok (.iload_n 1, 1) := by decide +kernel
theorem dX6_widthFor_3 : decode cX6_widthFor 3 = .ok (.invokevirtual 69, 3) := by decide +kernel
theorem dX6_widthFor_6 : decode cX6_widthFor 6 = .ok (.ifCond .ne 7, 3) := by decide +kernel
theorem dX6_widthFor_9 : decode cX6_widthFor 9 = .ok (.iconst 1, 1) := by decide +kernel
theorem dX6_widthFor_10 : decode cX6_widthFor 10 = .ok (.goto 18, 3) := by decide +kernel
theorem dX6_widthFor_13 : decode cX6_widthFor 13 = .ok (.iload_n 2, 1) := by decide +kernel
theorem dX6_widthFor_14 : decode cX6_widthFor 14 = .ok (.iconst 0, 1) := by decide +kernel
theorem dX6_widthFor_15 : decode cX6_widthFor 15 = .ok (.bipush 100, 2) := by decide +kernel
theorem dX6_widthFor_17 : decode cX6_widthFor 17 = .ok (.invokestatic 65, 3) := by decide +kernel
theorem dX6_widthFor_20 : decode cX6_widthFor 20 = .ok (.ifCond .ne 7, 3) := by decide +kernel
theorem dX6_widthFor_23 : decode cX6_widthFor 23 = .ok (.iconst 2, 1) := by decide +kernel
theorem dX6_widthFor_24 : decode cX6_widthFor 24 = .ok (.goto 4, 3) := by decide +kernel
theorem dX6_widthFor_27 : decode cX6_widthFor 27 = .ok (.iconst 0, 1) := by decide +kernel
theorem dX6_widthFor_28 : decode cX6_widthFor 28 = .ok (.putfield 58, 3) := by decide +kernel
theorem dX6_widthFor_31 : decode cX6_widthFor 31 = .ok (.aload_n 0, 1) := by decide +kernel
theorem dX6_widthFor_32 : decode cX6_widthFor 32 = .ok (.getfield 58, 3) := by decide +kernel
theorem dX6_widthFor_35 : decode cX6_widthFor 35 = .ok (.ifCond .ne 25, 3) := by decide +kernel
theorem dX6_widthFor_38 : decode cX6_widthFor 38 = .ok (.aload_n 0, 1) := by decide +kernel
theorem dX6_widthFor_39 : decode cX6_widthFor 39 = .ok (.invokevirtual 190, 3) := by decide +kernel
theorem dX6_widthFor_42 : decode cX6_widthFor 42 = .ok (.aload_n 0, 1) := by decide +kernel
theorem dX6_widthFor_43 : decode cX6_widthFor 43 = .ok (.aload_n 0, 1) := by decide +kernel
theorem dX6_widthFor_44 : decode cX6_widthFor 44 = .ok (.getfield 23, 3) := by decide +kernel
theorem dX6_widthFor_47 : decode cX6_widthFor 47 = .ok (.iload_n 1, 1) := by decide +kernel
theorem dX6_widthFor_48 : decode cX6_widthFor 48 = .ok (.baload, 1) := by decide +kernel
theorem dX6_widthFor_49 : decode cX6_widthFor 49 = .ok (.ifCond .eq 7, 3) := by decide +kernel
theorem dX6_widthFor_52 : decode cX6_widthFor 52 = .ok (.iconst 0, 1) := by decide +kernel
theorem dX6_widthFor_53 : decode cX6_widthFor 53 = .ok (.goto 4, 3) := by decide +kernel
theorem dX6_widthFor_56 : decode cX6_widthFor 56 = .ok (.iconst 3, 1) := by decide +kernel
theorem dX6_widthFor_57 : decode cX6_widthFor 57 = .ok (.putfield 58, 3) := by decide +kernel
theorem dX6_widthFor_60 : decode cX6_widthFor 60 = .ok (.aload_n 0, 1) := by decide +kernel
theorem dX6_widthFor_61 : decode cX6_widthFor 61 = .ok (.getfield 58, 3) := by decide +kernel
theorem dX6_widthFor_64 : decode cX6_widthFor 64 = .ok (.ifCond .eq 5, 3) := by decide +kernel
theorem dX6_widthFor_67 : decode cX6_widthFor 67 = .ok (.iconst 0, 1) := by decide +kernel
theorem dX6_widthFor_68 : decode cX6_widthFor 68 = .ok (.ireturn, 1) := by decide +kernel
theorem dX6_widthFor_69 : decode cX6_widthFor 69 = .ok (.aload_n 0, 1) := by decide +kernel
theorem dX6_widthFor_70 : decode cX6_widthFor 70 = .ok (.getfield 7, 3) := by decide +kernel
theorem dX6_widthFor_73 : decode cX6_widthFor 73 = .ok (.iconst 1, 1) := by decide +kernel
theorem dX6_widthFor_74 : decode cX6_widthFor 74 = .ok (.iaload, 1) := by decide +kernel
theorem dX6_widthFor_75 : decode cX6_widthFor 75 = .ok (.istore_n 3, 1) := by decide +kernel
theorem dX6_widthFor_76 : decode cX6_widthFor 76 = .ok (.iconst (-1), 1) := by decide +kernel
theorem dX6_widthFor_77 : decode cX6_widthFor 77 = .ok (.istore 4, 2) := by decide +kernel
theorem dX6_widthFor_79 : decode cX6_widthFor 79 = .ok (.aload_n 0, 1) := by decide +kernel
theorem dX6_widthFor_80 : decode cX6_widthFor 80 = .ok (.invokevirtual 193, 3) := by decide +kernel
theorem dX6_widthFor_83 : decode cX6_widthFor 83 = .ok (.iconst 0, 1) := by decide +kernel
theorem dX6_widthFor_84 : decode cX6_widthFor 84 = .ok (.istore 5, 2) := by decide +kernel
theorem dX6_widthFor_86 : decode cX6_widthFor 86 = .ok (.iload 5, 2) := by decide +kernel
theorem dX6_widthFor_88 : decode cX6_widthFor 88 = .ok (.sipush 2000, 3) := by decide +kernel
theorem dX6_widthFor_91 : decode cX6_widthFor 91 = .ok (.if_icmp .gt 44, 3) := by decide +kernel
theorem dX6_widthFor_94 : decode cX6_widthFor 94 = .ok (.iload 4, 2) := by decide +kernel
theorem dX6_widthFor_96 : decode cX6_widthFor 96 = .ok (.ifCond .ge 39, 3) := by decide +kernel
theorem dX6_widthFor_99 : decode cX6_widthFor 99 = .ok (.aload_n 0, 1) := by decide +kernel
theorem dX6_widthFor_100 : decode cX6_widthFor 100 = .ok (.getfield 7, 3) := by decide +kernel
theorem dX6_widthFor_103 : decode cX6_widthFor 103 = .ok (.iconst 1, 1) := by decide +kernel
theorem dX6_widthFor_104 : decode cX6_widthFor 104 = .ok (.iload 5, 2) := by decide +kernel
theorem dX6_widthFor_106 : decode cX6_widthFor 106 = .ok (.iastore, 1) := by decide +kernel
theorem dX6_widthFor_107 : decode cX6_widthFor 107 = .ok (.aload_n 0, 1) := by decide +kernel
theorem dX6_widthFor_108 : decode cX6_widthFor 108 = .ok (.invokevirtual 196, 3) := by decide +kernel
theorem dX6_widthFor_111 : decode cX6_widthFor 111 = .ok (.aload_n 0, 1) := by decide +kernel
theorem dX6_widthFor_112 : decode cX6_widthFor 112 = .ok (.getfield 38, 3) := by decide +kernel
theorem dX6_widthFor_115 : decode cX6_widthFor 115 = .ok (.iload_n 1, 1) := by decide +kernel
theorem dX6_widthFor_116 : decode cX6_widthFor 116 = .ok (.iaload, 1) := by decide +kernel
theorem dX6_widthFor_117 : decode cX6_widthFor 117 = .ok (.iload_n 2, 1) := by decide +kernel
theorem dX6_widthFor_118 : decode cX6_widthFor 118 = .ok (.if_icmp .gt 8, 3) := by decide +kernel
theorem dX6_widthFor_121 : decode cX6_widthFor 121 = .ok (.iload 5, 2) := by decide +kernel
theorem dX6_widthFor_123 : decode cX6_widthFor 123 = .ok (.goto 4, 3) := by decide +kernel
theorem dX6_widthFor_126 : decode cX6_widthFor 126 = .ok (.iconst (-1), 1) := by decide +kernel
theorem dX6_widthFor_127 : decode cX6_widthFor 127 = .ok (.istore 4, 2) := by decide +kernel
theorem dX6_widthFor_129 : decode cX6_widthFor 129 = .ok (.iinc 5 1, 3) := by decide +kernel
theorem dX6_widthFor_132 : decode cX6_widthFor 132 = .ok (.goto (-46), 3) := by decide +kernel
theorem dX6_widthFor_135 : decode cX6_widthFor 135 = .ok (.aload_n 0, 1) := by decide +kernel
theorem dX6_widthFor_136 : decode cX6_widthFor 136 = .ok (.getfield 7, 3) := by decide +kernel
theorem dX6_widthFor_139 : decode cX6_widthFor 139 = .ok (.iconst 1, 1) := by decide +kernel
theorem dX6_widthFor_140 : decode cX6_widthFor 140 = .ok (.iload_n 3, 1) := by decide +kernel
theorem dX6_widthFor_141 : decode cX6_widthFor 141 = .ok (.iastore, 1) := by decide +kernel
theorem dX6_widthFor_142 : decode cX6_widthFor 142 = .ok (.iload 4, 2) := by decide +kernel
theorem dX6_widthFor_144 : decode cX6_widthFor 144 = .ok (.ireturn, 1) := by decide +kernel
theorem dX6_save_0 : decode cX6_save 0 = .ok (.aload_n 0, 1) := by decide +kernel
theorem dX6_save_1 : decode cX6_save 1 = .ok (.iload_n 1, 1) := by decide +kernel
theorem dX6_save_2 : decode cX6_save 2 = .ok (.iconst 0, 1) := by decide +kernel
theorem dX6_save_3 : decode cX6_save 3 = .ok (.iconst 1, 1) := by decide +kernel
theorem dX6_save_4 : decode cX6_save 4 = .ok (.invokestatic 65, 3) := by decide +kernel
theorem dX6_save_7 : decode cX6_save 7 = .ok (.ifCond .eq 7, 3) := by decide +kernel
theorem dX6_save_10 : decode cX6_save 10 = .ok (.iconst 0, 1) := by decide +kernel
theorem dX6_save_11 : decode cX6_save 11 = .ok (.goto 4, 3) := by decide +kernel
theorem dX6_save_14 : decode cX6_save 14 = .ok (.iconst 1, 1) := by decide +kernel
theorem dX6_save_15 : decode cX6_save 15 = .ok (.putfield 58, 3) := by decide +kernel
theorem dX6_save_18 : decode cX6_save 18 = .ok (.aload_n 0, 1) := by decide +kernel
theorem dX6_save_19 : decode cX6_save 19 = .ok (.getfield 58, 3) := by decide +kernel
theorem dX6_save_22 : decode cX6_save 22 = .ok (.ifCond .ne 43, 3) := by decide +kernel
theorem dX6_save_25 : decode cX6_save 25 = .ok (.iconst 0, 1) := by decide +kernel
theorem dX6_save_26 : decode cX6_save 26 = .ok (.istore_n 2, 1) := by decide +kernel
theorem dX6_save_27 : decode cX6_save 27 = .ok (.iload_n 2, 1) := by decide +kernel
theorem dX6_save_28 : decode cX6_save 28 = .ok (.sipush 843, 3) := by decide +kernel
theorem dX6_save_31 : decode cX6_save 31 = .ok (.if_icmp .ge 27, 3) := by decide +kernel
theorem dX6_save_34 : decode cX6_save 34 = .ok (.aload_n 0, 1) := by decide +kernel
theorem dX6_save_35 : decode cX6_save 35 = .ok (.getfield 13, 3) := by decide +kernel
theorem dX6_save_38 : decode cX6_save 38 = .ok (.sipush 843, 3) := by decide +kernel
theorem dX6_save_41 : decode cX6_save 41 = .ok (.iload_n 1, 1) := by decide +kernel
theorem dX6_save_42 : decode cX6_save 42 = .ok (.imul, 1) := by decide +kernel
theorem dX6_save_43 : decode cX6_save 43 = .ok (.iload_n 2, 1) := by decide +kernel
theorem dX6_save_44 : decode cX6_save 44 = .ok (.iadd, 1) := by decide +kernel
theorem dX6_save_45 : decode cX6_save 45 = .ok (.aload_n 0, 1) := by decide +kernel
theorem dX6_save_46 : decode cX6_save 46 = .ok (.getfield 7, 3) := by decide +kernel
theorem dX6_save_49 : decode cX6_save 49 = .ok (.iload_n 2, 1) := by decide +kernel
theorem dX6_save_50 : decode cX6_save 50 = .ok (.iaload, 1) := by decide +kernel
theorem dX6_save_51 : decode cX6_save 51 = .ok (.iastore, 1) := by decide +kernel
theorem dX6_save_52 : decode cX6_save 52 = .ok (.iinc 2 1, 3) := by decide +kernel
theorem dX6_save_55 : decode cX6_save 55 = .ok (.goto (-28), 3) := by decide +kernel
theorem dX6_save_58 : decode cX6_save 58 = .ok (.aload_n 0, 1) := by decide +kernel
theorem dX6_save_59 : decode cX6_save 59 = .ok (.getfield 16, 3) := by decide +kernel
theorem dX6_save_62 : decode cX6_save 62 = .ok (.iload_n 1, 1) := by decide +kernel
theorem dX6_save_63 : decode cX6_save 63 = .ok (.iconst 1, 1) := by decide +kernel
theorem dX6_save_64 : decode cX6_save 64 = .ok (.bastore, 1) := by decide +kernel
theorem dX6_save_65 : decode cX6_save 65 = .ok (.return_, 1) := by decide +kernel
theorem dX6_restore_0 : decode cX6_restore 0 = .ok (.aload_n 0, 1) := by decide +kernel
theorem dX6_restore_1 : decode cX6_restore 1 = .ok (.iload_n 1, 1) := by decide +kernel
theorem dX6_restore_2 : decode cX6_restore 2 = .ok (.iconst 0, 1) := by decide +kernel
theorem dX6_restore_3 : decode cX6_restore 3 = .ok (.iconst 1, 1) := by decide +kernel
theorem dX6_restore_4 : decode cX6_restore 4 = .ok (.invokestatic 65, 3) := by decide +kernel
theorem dX6_restore_7 : decode cX6_restore 7 = .ok (.ifCond .ne 7, 3) := by decide +kernel
theorem dX6_restore_10 : decode cX6_restore 10 = .ok (.iconst 1, 1) := by decide +kernel
theorem dX6_restore_11 : decode cX6_restore 11 = .ok (.goto 17, 3) := by decide +kernel
theorem dX6_restore_14 : decode cX6_restore 14 = .ok (.aload_n 0, 1) := by decide +kernel
theorem dX6_restore_15 : decode cX6_restore 15 = .ok (.getfield 16, 3) := by decide +kernel
theorem dX6_restore_18 : decode cX6_restore 18 = .ok (.iload_n 1, 1) := by decide +kernel
theorem dX6_restore_19 : decode cX6_restore 19 = .ok (.baload, 1) := by decide +kernel
theorem dX6_restore_20 : decode cX6_restore 20 = .ok (.ifCond .ne 7, 3) := by decide +kernel
theorem dX6_restore_23 : decode cX6_restore 23 = .ok (.iconst 2, 1) := by decide +kernel
theorem dX6_restore_24 : decode cX6_restore 24 = .ok (.goto 4, 3) := by decide +kernel
theorem dX6_restore_27 : decode cX6_restore 27 = .ok (.iconst 0, 1) := by decide +kernel
theorem dX6_restore_28 : decode cX6_restore 28 = .ok (.putfield 58, 3) := by decide +kernel
theorem dX6_restore_31 : decode cX6_restore 31 = .ok (.aload_n 0, 1) := by decide +kernel
theorem dX6_restore_32 : decode cX6_restore 32 = .ok (.getfield 58, 3) := by decide +kernel
theorem dX6_restore_35 : decode cX6_restore 35 = .ok (.ifCond .ne 36, 3) := by decide +kernel
theorem dX6_restore_38 : decode cX6_restore 38 = .ok (.iconst 0, 1) := by decide +kernel
theorem dX6_restore_39 : decode cX6_restore 39 = .ok (.istore_n 2, 1) := by decide +kernel
theorem dX6_restore_40 : decode cX6_restore 40 = .ok (.iload_n 2, 1) := by decide +kernel
theorem dX6_restore_41 : decode cX6_restore 41 = .ok (.sipush 843, 3) := by decide +kernel
theorem dX6_restore_44 : decode cX6_restore 44 = .ok (.if_icmp .ge 27, 3) := by decide +kernel
theorem dX6_restore_47 : decode cX6_restore 47 = .ok (.aload_n 0, 1) := by decide +kernel
theorem dX6_restore_48 : decode cX6_restore 48 = .ok (.getfield 7, 3) := by decide +kernel
theorem dX6_restore_51 : decode cX6_restore 51 = .ok (.iload_n 2, 1) := by decide +kernel
theorem dX6_restore_52 : decode cX6_restore 52 = .ok (.aload_n 0, 1) := by decide +kernel
theorem dX6_restore_53 : decode cX6_restore 53 = .ok (.getfield 13, 3) := by decide +kernel
theorem dX6_restore_56 : decode cX6_restore 56 = .ok (.sipush 843, 3) := by decide +kernel
theorem dX6_restore_59 : decode cX6_restore 59 = .ok (.iload_n 1, 1) := by decide +kernel
theorem dX6_restore_60 : decode cX6_restore 60 = .ok (.imul, 1) := by decide +kernel
theorem dX6_restore_61 : decode cX6_restore 61 = .ok (.iload_n 2, 1) := by decide +kernel
theorem dX6_restore_62 : decode cX6_restore 62 = .ok (.iadd, 1) := by decide +kernel
theorem dX6_restore_63 : decode cX6_restore 63 = .ok (.iaload, 1) := by decide +kernel
theorem dX6_restore_64 : decode cX6_restore 64 = .ok (.iastore, 1) := by decide +kernel
theorem dX6_restore_65 : decode cX6_restore 65 = .ok (.iinc 2 1, 3) := by decide +kernel
theorem dX6_restore_68 : decode cX6_restore 68 = .ok (.goto (-28), 3) := by decide +kernel
theorem dX6_restore_71 : decode cX6_restore 71 = .ok (.return_, 1) := by decide +kernel
theorem dJ9_max_7cf53_0 : decode cJ9_max_7cf53 0 = .ok (.iload_n 0, 1) := by decide +kernel
theorem dJ9_max_7cf53_1 : decode cJ9_max_7cf53 1 = .ok (.iload_n 1, 1) := by decide +kernel
theorem dJ9_max_7cf53_2 : decode cJ9_max_7cf53 2 = .ok (.if_icmp .lt 7, 3) := by decide +kernel
theorem dJ9_max_7cf53_5 : decode cJ9_max_7cf53 5 = .ok (.iload_n 0, 1) := by decide +kernel
theorem dJ9_max_7cf53_6 : decode cJ9_max_7cf53 6 = .ok (.goto 4, 3) := by decide +kernel
theorem dJ9_max_7cf53_9 : decode cJ9_max_7cf53 9 = .ok (.iload_n 1, 1) := by decide +kernel
theorem dJ9_max_7cf53_10 : decode cJ9_max_7cf53 10 = .ok (.ireturn, 1) := by decide +kernel
theorem dJ9_min_7cf53_0 : decode cJ9_min_7cf53 0 = .ok (.iload_n 0, 1) := by decide +kernel
theorem dJ9_min_7cf53_1 : decode cJ9_min_7cf53 1 = .ok (.iload_n 1, 1) := by decide +kernel
theorem dJ9_min_7cf53_2 : decode cJ9_min_7cf53 2 = .ok (.if_icmp .gt 7, 3) := by decide +kernel
theorem dJ9_min_7cf53_5 : decode cJ9_min_7cf53 5 = .ok (.iload_n 0, 1) := by decide +kernel
theorem dJ9_min_7cf53_6 : decode cJ9_min_7cf53 6 = .ok (.goto 4, 3) := by decide +kernel
theorem dJ9_min_7cf53_9 : decode cJ9_min_7cf53 9 = .ok (.iload_n 1, 1) := by decide +kernel
theorem dJ9_min_7cf53_10 : decode cJ9_min_7cf53 10 = .ok (.ireturn, 1) := by decide +kernel
theorem dL_add_0 : decode cL_add 0 = .ok (.aload_n 2, 1) := by decide +kernel
theorem dL_add_1 : decode cL_add 1 = .ok (.iconst 0, 1) := by decide +kernel
theorem dL_add_2 : decode cL_add 2 = .ok (.aload_n 0, 1) := by decide +kernel
theorem dL_add_3 : decode cL_add 3 = .ok (.iload_n 1, 1) := by decide +kernel
theorem dL_add_4 : decode cL_add 4 = .ok (.invokevirtual 7, 3) := by decide +kernel
theorem dL_add_7 : decode cL_add 7 = .ok (.i2l, 1) := by decide +kernel
theorem dL_add_8 : decode cL_add 8 = .ok (.lastore, 1) := by decide +kernel
theorem dL_add_9 : decode cL_add 9 = .ok (.goto 9, 3) := by decide +kernel
theorem dL_add_12 : decode cL_add 12 = .ok (.astore_n 3, 1) := by decide +kernel
theorem dL_add_13 : decode cL_add 13 = .ok (.iconst 1, 1) := by decide +kernel
theorem dL_add_14 : decode cL_add 14 = .ok (.ireturn, 1) := by decide +kernel
theorem dL_add_15 : decode cL_add 15 = .ok (.astore_n 3, 1) := by decide +kernel
theorem dL_add_16 : decode cL_add 16 = .ok (.iconst 2, 1) := by decide +kernel
theorem dL_add_17 : decode cL_add 17 = .ok (.ireturn, 1) := by decide +kernel
theorem dL_add_18 : decode cL_add 18 = .ok (.iconst 0, 1) := by decide +kernel
theorem dL_add_19 : decode cL_add 19 = .ok (.ireturn, 1) := by decide +kernel
theorem dL_remove_0 : decode cL_remove 0 = .ok (.aload_n 2, 1) := by decide +kernel
theorem dL_remove_1 : decode cL_remove 1 = .ok (.iconst 0, 1) := by decide +kernel
theorem dL_remove_2 : decode cL_remove 2 = .ok (.aload_n 0, 1) := by decide +kernel
theorem dL_remove_3 : decode cL_remove 3 = .ok (.iload_n 1, 1) := by decide +kernel
theorem dL_remove_4 : decode cL_remove 4 = .ok (.invokevirtual 17, 3) := by decide +kernel
theorem dL_remove_7 : decode cL_remove 7 = .ok (.i2l, 1) := by decide +kernel
theorem dL_remove_8 : decode cL_remove 8 = .ok (.lastore, 1) := by decide +kernel
theorem dL_remove_9 : decode cL_remove 9 = .ok (.goto 9, 3) := by decide +kernel
theorem dL_remove_12 : decode cL_remove 12 = .ok (.astore_n 3, 1) := by decide +kernel
theorem dL_remove_13 : decode cL_remove 13 = .ok (.iconst 1, 1) := by decide +kernel
theorem dL_remove_14 : decode cL_remove 14 = .ok (.ireturn, 1) := by decide +kernel
theorem dL_remove_15 : decode cL_remove 15 = .ok (.astore_n 3, 1) := by decide +kernel
theorem dL_remove_16 : decode cL_remove 16 = .ok (.iconst 2, 1) := by decide +kernel
theorem dL_remove_17 : decode cL_remove 17 = .ok (.ireturn, 1) := by decide +kernel
theorem dL_remove_18 : decode cL_remove 18 = .ok (.iconst 0, 1) := by decide +kernel
theorem dL_remove_19 : decode cL_remove 19 = .ok (.ireturn, 1) := by decide +kernel
theorem dL_parent_0 : decode cL_parent 0 = .ok (.aload_n 2, 1) := by decide +kernel
theorem dL_parent_1 : decode cL_parent 1 = .ok (.iconst 0, 1) := by decide +kernel
theorem dL_parent_2 : decode cL_parent 2 = .ok (.aload_n 0, 1) := by decide +kernel
theorem dL_parent_3 : decode cL_parent 3 = .ok (.iload_n 1, 1) := by decide +kernel
theorem dL_parent_4 : decode cL_parent 4 = .ok (.invokevirtual 22, 3) := by decide +kernel
