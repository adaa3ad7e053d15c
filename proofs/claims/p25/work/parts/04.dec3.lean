theorem dX5_lineOf_6 : decode cX5_lineOf 6 = .ok (.invokevirtual 125, 3) := by decide +kernel
theorem dX5_lineOf_9 : decode cX5_lineOf 9 = .ok (.getfield 150, 3) := by decide +kernel
theorem dX5_lineOf_12 : decode cX5_lineOf 12 = .ok (.ireturn, 1) := by decide +kernel
theorem dX5_overflow_0 : decode cX5_overflow 0 = .ok (.aload_n 0, 1) := by decide +kernel
theorem dX5_overflow_1 : decode cX5_overflow 1 = .ok (.aload_n 0, 1) := by decide +kernel
theorem dX5_overflow_2 : decode cX5_overflow 2 = .ok (.iload_n 1, 1) := by decide +kernel
theorem dX5_overflow_3 : decode cX5_overflow 3 = .ok (.invokevirtual 31, 3) := by decide +kernel
theorem dX5_overflow_6 : decode cX5_overflow 6 = .ok (.invokevirtual 125, 3) := by decide +kernel
theorem dX5_overflow_9 : decode cX5_overflow 9 = .ok (.astore_n 2, 1) := by decide +kernel
theorem dX5_overflow_10 : decode cX5_overflow 10 = .ok (.aload_n 2, 1) := by decide +kernel
theorem dX5_overflow_11 : decode cX5_overflow 11 = .ok (.getfield 153, 3) := by decide +kernel
theorem dX5_overflow_14 : decode cX5_overflow 14 = .ok (.ifCond .eq 10, 3) := by decide +kernel
theorem dX5_overflow_17 : decode cX5_overflow 17 = .ok (.aload_n 2, 1) := by decide +kernel
theorem dX5_overflow_18 : decode cX5_overflow 18 = .ok (.invokestatic 156, 3) := by decide +kernel
theorem dX5_overflow_21 : decode cX5_overflow 21 = .ok (.goto 7, 3) := by decide +kernel
theorem dX5_overflow_24 : decode cX5_overflow 24 = .ok (.aload_n 2, 1) := by decide +kernel
theorem dX5_overflow_25 : decode cX5_overflow 25 = .ok (.invokestatic 159, 3) := by decide +kernel
theorem dX5_overflow_28 : decode cX5_overflow 28 = .ok (.ireturn, 1) := by decide +kernel
theorem dX5_hit_0 : decode cX5_hit 0 = .ok (.aload_n 0, 1) := by decide +kernel
theorem dX5_hit_1 : decode cX5_hit 1 = .ok (.getfield 21, 3) := by decide +kernel
theorem dX5_hit_4 : decode cX5_hit 4 = .ok (.invokevirtual 74, 3) := by decide +kernel
theorem dX5_hit_7 : decode cX5_hit 7 = .ok (.aload_n 0, 1) := by decide +kernel
theorem dX5_hit_8 : decode cX5_hit 8 = .ok (.getfield 21, 3) := by decide +kernel
theorem dX5_hit_11 : decode cX5_hit 11 = .ok (.iload_n 1, 1) := by decide +kernel
theorem dX5_hit_12 : decode cX5_hit 12 = .ok (.iload_n 2, 1) := by decide +kernel
theorem dX5_hit_13 : decode cX5_hit 13 = .ok (.invokevirtual 162, 3) := by decide +kernel
theorem dX5_hit_16 : decode cX5_hit 16 = .ok (.ireturn, 1) := by decide +kernel
theorem dX5_widthFor_0 : decode cX5_widthFor 0 = .ok (.aload_n 0, 1) := by decide +kernel
theorem dX5_widthFor_1 : decode cX5_widthFor 1 = .ok (.iload_n 1, 1) := by decide +kernel
theorem dX5_widthFor_2 : decode cX5_widthFor 2 = .ok (.invokevirtual 31, 3) := by decide +kernel
theorem dX5_widthFor_5 : decode cX5_widthFor 5 = .ok (.astore_n 3, 1) := by decide +kernel
theorem dX5_widthFor_6 : decode cX5_widthFor 6 = .ok (.iload_n 2, 1) := by decide +kernel
theorem dX5_widthFor_7 : decode cX5_widthFor 7 = .ok (.ifCond .lt 9, 3) := by decide +kernel
theorem dX5_widthFor_10 : decode cX5_widthFor 10 = .ok (.iload_n 2, 1) := by decide +kernel
theorem dX5_widthFor_11 : decode cX5_widthFor 11 = .ok (.bipush 100, 2) := by decide +kernel
theorem dX5_widthFor_13 : decode cX5_widthFor 13 = .ok (.if_icmp .le 13, 3) := by decide +kernel
theorem dX5_widthFor_16 : decode cX5_widthFor 16 = .ok (.new 59, 3) := by decide +kernel
theorem dX5_widthFor_19 : decode cX5_widthFor 19 = .ok (.dup, 1) := by decide +kernel
theorem dX5_widthFor_20 : decode cX5_widthFor 20 = .ok (.ldc 165, 2) := by decide +kernel
theorem dX5_widthFor_22 : decode cX5_widthFor 22 = .ok (.invokespecial 63, 3) := by decide +kernel
theorem dX5_widthFor_25 : decode cX5_widthFor 25 = .ok (.athrow, 1) := by decide +kernel
theorem dX5_widthFor_26 : decode cX5_widthFor 26 = .ok (.aload_n 0, 1) := by decide +kernel
theorem dX5_widthFor_27 : decode cX5_widthFor 27 = .ok (.aload_n 3, 1) := by decide +kernel
theorem dX5_widthFor_28 : decode cX5_widthFor 28 = .ok (.invokevirtual 125, 3) := by decide +kernel
theorem dX5_widthFor_31 : decode cX5_widthFor 31 = .ok (.pop, 1) := by decide +kernel
theorem dX5_widthFor_32 : decode cX5_widthFor 32 = .ok (.aload_n 0, 1) := by decide +kernel
theorem dX5_widthFor_33 : decode cX5_widthFor 33 = .ok (.getfield 21, 3) := by decide +kernel
theorem dX5_widthFor_36 : decode cX5_widthFor 36 = .ok (.iconst 1, 1) := by decide +kernel
theorem dX5_widthFor_37 : decode cX5_widthFor 37 = .ok (.putfield 46, 3) := by decide +kernel
theorem dX5_widthFor_40 : decode cX5_widthFor 40 = .ok (.aload_n 0, 1) := by decide +kernel
theorem dX5_widthFor_41 : decode cX5_widthFor 41 = .ok (.getfield 21, 3) := by decide +kernel
theorem dX5_widthFor_44 : decode cX5_widthFor 44 = .ok (.aload_n 3, 1) := by decide +kernel
theorem dX5_widthFor_45 : decode cX5_widthFor 45 = .ok (.iload_n 2, 1) := by decide +kernel
theorem dX5_widthFor_46 : decode cX5_widthFor 46 = .ok (.invokevirtual 167, 3) := by decide +kernel
theorem dX5_widthFor_49 : decode cX5_widthFor 49 = .ok (.ireturn, 1) := by decide +kernel
theorem dX5_existing_0 : decode cX5_existing 0 = .ok (.aload_n 0, 1) := by decide +kernel
theorem dX5_existing_1 : decode cX5_existing 1 = .ok (.getfield 10, 3) := by decide +kernel
theorem dX5_existing_4 : decode cX5_existing 4 = .ok (.iload_n 1, 1) := by decide +kernel
theorem dX5_existing_5 : decode cX5_existing 5 = .ok (.invokevirtual 183, 3) := by decide +kernel
theorem dX5_existing_8 : decode cX5_existing 8 = .ok (.astore_n 2, 1) := by decide +kernel
theorem dX5_existing_9 : decode cX5_existing 9 = .ok (.aload_n 2, 1) := by decide +kernel
theorem dX5_existing_10 : decode cX5_existing 10 = .ok (.ifnull 10, 3) := by decide +kernel
theorem dX5_existing_13 : decode cX5_existing 13 = .ok (.aload_n 2, 1) := by decide +kernel
theorem dX5_existing_14 : decode cX5_existing 14 = .ok (.getfield 186, 3) := by decide +kernel
theorem dX5_existing_17 : decode cX5_existing 17 = .ok (.ifCond .ne 13, 3) := by decide +kernel
theorem dX5_existing_20 : decode cX5_existing 20 = .ok (.new 189, 3) := by decide +kernel
theorem dX5_existing_23 : decode cX5_existing 23 = .ok (.dup, 1) := by decide +kernel
theorem dX5_existing_24 : decode cX5_existing 24 = .ok (.ldc 191, 2) := by decide +kernel
theorem dX5_existing_26 : decode cX5_existing 26 = .ok (.invokespecial 193, 3) := by decide +kernel
theorem dX5_existing_29 : decode cX5_existing 29 = .ok (.athrow, 1) := by decide +kernel
theorem dX5_existing_30 : decode cX5_existing 30 = .ok (.aload_n 2, 1) := by decide +kernel
theorem dX5_existing_31 : decode cX5_existing 31 = .ok (.areturn, 1) := by decide +kernel
theorem dX5_laidOut_0 : decode cX5_laidOut 0 = .ok (.aload_n 0, 1) := by decide +kernel
theorem dX5_laidOut_1 : decode cX5_laidOut 1 = .ok (.getfield 21, 3) := by decide +kernel
theorem dX5_laidOut_4 : decode cX5_laidOut 4 = .ok (.invokevirtual 74, 3) := by decide +kernel
theorem dX5_laidOut_7 : decode cX5_laidOut 7 = .ok (.aload_n 1, 1) := by decide +kernel
theorem dX5_laidOut_8 : decode cX5_laidOut 8 = .ok (.getfield 194, 3) := by decide +kernel
theorem dX5_laidOut_11 : decode cX5_laidOut 11 = .ok (.ifCond .ne 13, 3) := by decide +kernel
theorem dX5_laidOut_14 : decode cX5_laidOut 14 = .ok (.new 39, 3) := by decide +kernel
theorem dX5_laidOut_17 : decode cX5_laidOut 17 = .ok (.dup, 1) := by decide +kernel
theorem dX5_laidOut_18 : decode cX5_laidOut 18 = .ok (.ldc 197, 2) := by decide +kernel
theorem dX5_laidOut_20 : decode cX5_laidOut 20 = .ok (.invokespecial 43, 3) := by decide +kernel
theorem dX5_laidOut_23 : decode cX5_laidOut 23 = .ok (.athrow, 1) := by decide +kernel
theorem dX5_laidOut_24 : decode cX5_laidOut 24 = .ok (.aload_n 1, 1) := by decide +kernel
theorem dX5_laidOut_25 : decode cX5_laidOut 25 = .ok (.areturn, 1) := by decide +kernel
theorem dX5_isProperty_0 : decode cX5_isProperty 0 = .ok (.iload_n 0, 1) := by decide +kernel
theorem dX5_isProperty_1 : decode cX5_isProperty 1 = .ok (.ifCond .lt 13, 3) := by decide +kernel
theorem dX5_isProperty_4 : decode cX5_isProperty 4 = .ok (.iload_n 0, 1) := by decide +kernel
theorem dX5_isProperty_5 : decode cX5_isProperty 5 = .ok (.bipush 20, 2) := by decide +kernel
theorem dX5_isProperty_7 : decode cX5_isProperty 7 = .ok (.if_icmp .ge 7, 3) := by decide +kernel
theorem dX5_isProperty_10 : decode cX5_isProperty 10 = .ok (.iconst 1, 1) := by decide +kernel
theorem dX5_isProperty_11 : decode cX5_isProperty 11 = .ok (.goto 4, 3) := by decide +kernel
theorem dX5_isProperty_14 : decode cX5_isProperty 14 = .ok (.iconst 0, 1) := by decide +kernel
theorem dX5_isProperty_15 : decode cX5_isProperty 15 = .ok (.ireturn, 1) := by decide +kernel
theorem dX5_isViewportLength_0 : decode cX5_isViewportLength 0 = .ok (.iload_n 0, 1) := by decide +kernel
theorem dX5_isViewportLength_1 : decode cX5_isViewportLength 1 = .ok (.ifCond .lt 14, 3) := by decide +kernel
theorem dX5_isViewportLength_4 : decode cX5_isViewportLength 4 = .ok (.iload_n 0, 1) := by decide +kernel
theorem dX5_isViewportLength_5 : decode cX5_isViewportLength 5 = .ok (.sipush 2000, 3) := by decide +kernel
theorem dX5_isViewportLength_8 : decode cX5_isViewportLength 8 = .ok (.if_icmp .gt 7, 3) := by decide +kernel
theorem dX5_isViewportLength_11 : decode cX5_isViewportLength 11 = .ok (.iconst 1, 1) := by decide +kernel
theorem dX5_isViewportLength_12 : decode cX5_isViewportLength 12 = .ok (.goto 4, 3) := by decide +kernel
theorem dX5_isViewportLength_15 : decode cX5_isViewportLength 15 = .ok (.iconst 0, 1) := by decide +kernel
theorem dX5_isViewportLength_16 : decode cX5_isViewportLength 16 = .ok (.ireturn, 1) := by decide +kernel
theorem dX5_limited_0 : decode cX5_limited 0 = .ok (.iload_n 0, 1) := by decide +kernel
theorem dX5_limited_1 : decode cX5_limited 1 = .ok (.iload_n 2, 1) := by decide +kernel
theorem dX5_limited_2 : decode cX5_limited 2 = .ok (.if_icmp .ge 7, 3) := by decide +kernel
theorem dX5_limited_5 : decode cX5_limited 5 = .ok (.iload_n 0, 1) := by decide +kernel
theorem dX5_limited_6 : decode cX5_limited 6 = .ok (.goto 4, 3) := by decide +kernel
theorem dX5_limited_9 : decode cX5_limited 9 = .ok (.iload_n 2, 1) := by decide +kernel
theorem dX5_limited_10 : decode cX5_limited 10 = .ok (.istore_n 3, 1) := by decide +kernel
theorem dX5_limited_11 : decode cX5_limited 11 = .ok (.iload_n 3, 1) := by decide +kernel
theorem dX5_limited_12 : decode cX5_limited 12 = .ok (.iload_n 1, 1) := by decide +kernel
theorem dX5_limited_13 : decode cX5_limited 13 = .ok (.if_icmp .le 7, 3) := by decide +kernel
theorem dX5_limited_16 : decode cX5_limited 16 = .ok (.iload_n 3, 1) := by decide +kernel
theorem dX5_limited_17 : decode cX5_limited 17 = .ok (.goto 4, 3) := by decide +kernel
theorem dX5_limited_20 : decode cX5_limited 20 = .ok (.iload_n 1, 1) := by decide +kernel
theorem dX5_limited_21 : decode cX5_limited 21 = .ok (.ireturn, 1) := by decide +kernel
theorem dX5_gaps_0 : decode cX5_gaps 0 = .ok (.iload_n 0, 1) := by decide +kernel
theorem dX5_gaps_1 : decode cX5_gaps 1 = .ok (.iconst 1, 1) := by decide +kernel
theorem dX5_gaps_2 : decode cX5_gaps 2 = .ok (.if_icmp .le 11, 3) := by decide +kernel
theorem dX5_gaps_5 : decode cX5_gaps 5 = .ok (.iload_n 0, 1) := by decide +kernel
theorem dX5_gaps_6 : decode cX5_gaps 6 = .ok (.iconst 1, 1) := by decide +kernel
theorem dX5_gaps_7 : decode cX5_gaps 7 = .ok (.isub, 1) := by decide +kernel
theorem dX5_gaps_8 : decode cX5_gaps 8 = .ok (.iload_n 1, 1) := by decide +kernel
theorem dX5_gaps_9 : decode cX5_gaps 9 = .ok (.imul, 1) := by decide +kernel
theorem dX5_gaps_10 : decode cX5_gaps 10 = .ok (.goto 4, 3) := by decide +kernel
theorem dX5_gaps_13 : decode cX5_gaps 13 = .ok (.iconst 0, 1) := by decide +kernel
theorem dX5_gaps_14 : decode cX5_gaps 14 = .ok (.ireturn, 1) := by decide +kernel
theorem dJ9_max_7cf53_0 : decode cJ9_max_7cf53 0 = .ok (.iload_n 0, 1) := by decide +kernel
theorem dJ9_max_7cf53_1 : decode cJ9_max_7cf53 1 = .ok (.iload_n 1, 1) := by decide +kernel
theorem dJ9_max_7cf53_2 : decode cJ9_max_7cf53 2 = .ok (.if_icmp .lt 7, 3) := by decide +kernel
theorem dJ9_max_7cf53_5 : decode cJ9_max_7cf53 5 = .ok (.iload_n 0, 1) := by decide +kernel
theorem dJ9_max_7cf53_6 : decode cJ9_max_7cf53 6 = .ok (.goto 4, 3) := by decide +kernel
theorem dJ9_max_7cf53_9 : decode cJ9_max_7cf53 9 = .ok (.iload_n 1, 1) := by decide +kernel
theorem dJ9_max_7cf53_10 : decode cJ9_max_7cf53 10 = .ok (.ireturn, 1) := by decide +kernel
theorem dJ9_min_7cf53_0 : decode cJ9_min_7cf53 0 = .ok (.iload_n 0, 1) := by decide +kernel
theorem dJ9_min_7cf53_1 : decode cJ9_min_7cf53 1 = .ok (.iload_n 1, 1) := by decide +kernel
theorem dJ9_min_7cf53_2 : decode cJ9_min_7cf53 2 = .ok (.if_icmp .gt 7, 3) := by decide +kernel
theorem dJ9_min_7cf53_5 : decode cJ9_min_7cf53 5 = .ok (.iload_n 0, 1) := by decide +kernel
theorem dJ9_min_7cf53_6 : decode cJ9_min_7cf53 6 = .ok (.goto 4, 3) := by decide +kernel
theorem dJ9_min_7cf53_9 : decode cJ9_min_7cf53 9 = .ok (.iload_n 1, 1) := by decide +kernel
theorem dJ9_min_7cf53_10 : decode cJ9_min_7cf53 10 = .ok (.ireturn, 1) := by decide +kernel
theorem dL_cell_0 : decode cL_cell 0 = .ok (.aload_n 0, 1) := by decide +kernel
theorem dL_cell_1 : decode cL_cell 1 = .ok (.arraylength, 1) := by decide +kernel
theorem dL_cell_2 : decode cL_cell 2 = .ok (.ifCond .ne 12, 3) := by decide +kernel
theorem dL_cell_5 : decode cL_cell 5 = .ok (.iload_n 1, 1) := by decide +kernel
theorem dL_cell_6 : decode cL_cell 6 = .ok (.bipush 37, 2) := by decide +kernel
theorem dL_cell_8 : decode cL_cell 8 = .ok (.imul, 1) := by decide +kernel
theorem dL_cell_9 : decode cL_cell 9 = .ok (.iconst 5, 1) := by decide +kernel
theorem dL_cell_10 : decode cL_cell 10 = .ok (.iadd, 1) := by decide +kernel
theorem dL_cell_11 : decode cL_cell 11 = .ok (.goto 17, 3) := by decide +kernel
theorem dL_cell_14 : decode cL_cell 14 = .ok (.aload_n 0, 1) := by decide +kernel
theorem dL_cell_15 : decode cL_cell 15 = .ok (.iload_n 1, 1) := by decide +kernel
theorem dL_cell_16 : decode cL_cell 16 = .ok (.aload_n 0, 1) := by decide +kernel
theorem dL_cell_17 : decode cL_cell 17 = .ok (.arraylength, 1) := by decide +kernel
theorem dL_cell_18 : decode cL_cell 18 = .ok (.irem, 1) := by decide +kernel
theorem dL_cell_19 : decode cL_cell 19 = .ok (.iaload, 1) := by decide +kernel
theorem dL_cell_20 : decode cL_cell 20 = .ok (.iload_n 1, 1) := by decide +kernel
theorem dL_cell_21 : decode cL_cell 21 = .ok (.bipush 7, 2) := by decide +kernel
theorem dL_cell_23 : decode cL_cell 23 = .ok (.irem, 1) := by decide +kernel
theorem dL_cell_24 : decode cL_cell 24 = .ok (.ishr, 1) := by decide +kernel
theorem dL_cell_25 : decode cL_cell 25 = .ok (.ldc 7, 2) := by decide +kernel
theorem dL_cell_27 : decode cL_cell 27 = .ok (.iand, 1) := by decide +kernel
theorem dL_cell_28 : decode cL_cell 28 = .ok (.iload_n 2, 1) := by decide +kernel
theorem dL_cell_29 : decode cL_cell 29 = .ok (.irem, 1) := by decide +kernel
theorem dL_cell_30 : decode cL_cell 30 = .ok (.ireturn, 1) := by decide +kernel
theorem dL_limit_0 : decode cL_limit 0 = .ok (.iload_n 0, 1) := by decide +kernel
theorem dL_limit_1 : decode cL_limit 1 = .ok (.iload_n 2, 1) := by decide +kernel
theorem dL_limit_2 : decode cL_limit 2 = .ok (.if_icmp .ge 7, 3) := by decide +kernel
theorem dL_limit_5 : decode cL_limit 5 = .ok (.iload_n 0, 1) := by decide +kernel
theorem dL_limit_6 : decode cL_limit 6 = .ok (.goto 4, 3) := by decide +kernel
theorem dL_limit_9 : decode cL_limit 9 = .ok (.iload_n 2, 1) := by decide +kernel
theorem dL_limit_10 : decode cL_limit 10 = .ok (.istore_n 3, 1) := by decide +kernel
theorem dL_limit_11 : decode cL_limit 11 = .ok (.iload_n 3, 1) := by decide +kernel
theorem dL_limit_12 : decode cL_limit 12 = .ok (.iload_n 1, 1) := by decide +kernel
theorem dL_limit_13 : decode cL_limit 13 = .ok (.if_icmp .le 7, 3) := by decide +kernel
theorem dL_limit_16 : decode cL_limit 16 = .ok (.iload_n 3, 1) := by decide +kernel
theorem dL_limit_17 : decode cL_limit 17 = .ok (.goto 4, 3) := by decide +kernel
theorem dL_limit_20 : decode cL_limit 20 = .ok (.iload_n 1, 1) := by decide +kernel
theorem dL_limit_21 : decode cL_limit 21 = .ok (.ireturn, 1) := by decide +kernel
theorem dL_law_0 : decode cL_law 0 = .ok (.new 8, 3) := by decide +kernel
theorem dL_law_3 : decode cL_law 3 = .ok (.dup, 1) := by decide +kernel
theorem dL_law_4 : decode cL_law 4 = .ok (.invokespecial 10, 3) := by decide +kernel
theorem dL_law_7 : decode cL_law 7 = .ok (.astore_n 1, 1) := by decide +kernel
theorem dL_law_8 : decode cL_law 8 = .ok (.iconst 1, 1) := by decide +kernel
theorem dL_law_9 : decode cL_law 9 = .ok (.aload_n 0, 1) := by decide +kernel
theorem dL_law_10 : decode cL_law 10 = .ok (.iconst 0, 1) := by decide +kernel
theorem dL_law_11 : decode cL_law 11 = .ok (.bipush 6, 2) := by decide +kernel
theorem dL_law_13 : decode cL_law 13 = .ok (.invokestatic 11, 3) := by decide +kernel
theorem dL_law_16 : decode cL_law 16 = .ok (.iadd, 1) := by decide +kernel
theorem dL_law_17 : decode cL_law 17 = .ok (.istore_n 2, 1) := by decide +kernel
theorem dL_law_18 : decode cL_law 18 = .ok (.aload_n 0, 1) := by decide +kernel
theorem dL_law_19 : decode cL_law 19 = .ok (.iconst 1, 1) := by decide +kernel
theorem dL_law_20 : decode cL_law 20 = .ok (.sipush 1200, 3) := by decide +kernel
theorem dL_law_23 : decode cL_law 23 = .ok (.invokestatic 11, 3) := by decide +kernel
theorem dL_law_26 : decode cL_law 26 = .ok (.istore_n 3, 1) := by decide +kernel
theorem dL_law_27 : decode cL_law 27 = .ok (.aload_n 0, 1) := by decide +kernel
theorem dL_law_28 : decode cL_law 28 = .ok (.iconst 2, 1) := by decide +kernel
theorem dL_law_29 : decode cL_law 29 = .ok (.bipush 20, 2) := by decide +kernel
theorem dL_law_31 : decode cL_law 31 = .ok (.invokestatic 11, 3) := by decide +kernel
theorem dL_law_34 : decode cL_law 34 = .ok (.istore 4, 2) := by decide +kernel
theorem dL_law_36 : decode cL_law 36 = .ok (.aload_n 0, 1) := by decide +kernel
theorem dL_law_37 : decode cL_law 37 = .ok (.iconst 3, 1) := by decide +kernel
theorem dL_law_38 : decode cL_law 38 = .ok (.bipush 20, 2) := by decide +kernel
theorem dL_law_40 : decode cL_law 40 = .ok (.invokestatic 11, 3) := by decide +kernel
theorem dL_law_43 : decode cL_law 43 = .ok (.istore 5, 2) := by decide +kernel
theorem dL_law_45 : decode cL_law 45 = .ok (.bipush 6, 2) := by decide +kernel
theorem dL_law_47 : decode cL_law 47 = .ok (.newarray .int, 2) := by decide +kernel
theorem dL_law_49 : decode cL_law 49 = .ok (.astore 6, 2) := by decide +kernel
theorem dL_law_51 : decode cL_law 51 = .ok (.bipush 6, 2) := by decide +kernel
theorem dL_law_53 : decode cL_law 53 = .ok (.newarray .int, 2) := by decide +kernel
theorem dL_law_55 : decode cL_law 55 = .ok (.astore 7, 2) := by decide +kernel
theorem dL_law_57 : decode cL_law 57 = .ok (.bipush 6, 2) := by decide +kernel
theorem dL_law_59 : decode cL_law 59 = .ok (.newarray .int, 2) := by decide +kernel
theorem dL_law_61 : decode cL_law 61 = .ok (.astore 8, 2) := by decide +kernel
theorem dL_law_63 : decode cL_law 63 = .ok (.bipush 6, 2) := by decide +kernel
theorem dL_law_65 : decode cL_law 65 = .ok (.newarray .int, 2) := by decide +kernel
theorem dL_law_67 : decode cL_law 67 = .ok (.astore 9, 2) := by decide +kernel
theorem dL_law_69 : decode cL_law 69 = .ok (.bipush 6, 2) := by decide +kernel
theorem dL_law_71 : decode cL_law 71 = .ok (.newarray .int, 2) := by decide +kernel
theorem dL_law_73 : decode cL_law 73 = .ok (.astore 10, 2) := by decide +kernel
theorem dL_law_75 : decode cL_law 75 = .ok (.aload_n 1, 1) := by decide +kernel
theorem dL_law_76 : decode cL_law 76 = .ok (.iload_n 3, 1) := by decide +kernel
theorem dL_law_77 : decode cL_law 77 = .ok (.sipush 300, 3) := by decide +kernel
theorem dL_law_80 : decode cL_law 80 = .ok (.invokevirtual 17, 3) := by decide +kernel
theorem dL_law_83 : decode cL_law 83 = .ok (.aload_n 1, 1) := by decide +kernel
theorem dL_law_84 : decode cL_law 84 = .ok (.iconst 0, 1) := by decide +kernel
theorem dL_law_85 : decode cL_law 85 = .ok (.iconst 4, 1) := by decide +kernel
theorem dL_law_86 : decode cL_law 86 = .ok (.iload 4, 2) := by decide +kernel
theorem dL_law_88 : decode cL_law 88 = .ok (.invokevirtual 21, 3) := by decide +kernel
theorem dL_law_91 : decode cL_law 91 = .ok (.ifCond .ne 14, 3) := by decide +kernel
theorem dL_law_94 : decode cL_law 94 = .ok (.aload_n 1, 1) := by decide +kernel
theorem dL_law_95 : decode cL_law 95 = .ok (.iconst 0, 1) := by decide +kernel
theorem dL_law_96 : decode cL_law 96 = .ok (.iconst 5, 1) := by decide +kernel
theorem dL_law_97 : decode cL_law 97 = .ok (.iload 5, 2) := by decide +kernel
theorem dL_law_99 : decode cL_law 99 = .ok (.invokevirtual 21, 3) := by decide +kernel
theorem dL_law_102 : decode cL_law 102 = .ok (.ifCond .eq 5, 3) := by decide +kernel
theorem dL_law_105 : decode cL_law 105 = .ok (.iconst 0, 1) := by decide +kernel
theorem dL_law_106 : decode cL_law 106 = .ok (.ireturn, 1) := by decide +kernel
theorem dL_law_107 : decode cL_law 107 = .ok (.iconst 2, 1) := by decide +kernel
theorem dL_law_108 : decode cL_law 108 = .ok (.iload 5, 2) := by decide +kernel
theorem dL_law_110 : decode cL_law 110 = .ok (.imul, 1) := by decide +kernel
theorem dL_law_111 : decode cL_law 111 = .ok (.iload 4, 2) := by decide +kernel
theorem dL_law_113 : decode cL_law 113 = .ok (.iload_n 2, 1) := by decide +kernel
theorem dL_law_114 : decode cL_law 114 = .ok (.iconst 1, 1) := by decide +kernel
theorem dL_law_115 : decode cL_law 115 = .ok (.isub, 1) := by decide +kernel
theorem dL_law_116 : decode cL_law 116 = .ok (.imul, 1) := by decide +kernel
theorem dL_law_117 : decode cL_law 117 = .ok (.iadd, 1) := by decide +kernel
theorem dL_law_118 : decode cL_law 118 = .ok (.istore 11, 2) := by decide +kernel
theorem dL_law_120 : decode cL_law 120 = .ok (.iconst 0, 1) := by decide +kernel
theorem dL_law_121 : decode cL_law 121 = .ok (.istore 12, 2) := by decide +kernel
theorem dL_law_123 : decode cL_law 123 = .ok (.iconst 0, 1) := by decide +kernel
theorem dL_law_124 : decode cL_law 124 = .ok (.istore 13, 2) := by decide +kernel
theorem dL_law_126 : decode cL_law 126 = .ok (.iconst 0, 1) := by decide +kernel
theorem dL_law_127 : decode cL_law 127 = .ok (.istore 14, 2) := by decide +kernel
theorem dL_law_129 : decode cL_law 129 = .ok (.iload 14, 2) := by decide +kernel
theorem dL_law_131 : decode cL_law 131 = .ok (.iload_n 2, 1) := by decide +kernel
theorem dL_law_132 : decode cL_law 132 = .ok (.if_icmp .ge 322, 3) := by decide +kernel
theorem dL_law_135 : decode cL_law 135 = .ok (.aload 6, 2) := by decide +kernel
theorem dL_law_137 : decode cL_law 137 = .ok (.iload 14, 2) := by decide +kernel
theorem dL_law_139 : decode cL_law 139 = .ok (.aload_n 0, 1) := by decide +kernel
theorem dL_law_140 : decode cL_law 140 = .ok (.bipush 7, 2) := by decide +kernel
theorem dL_law_142 : decode cL_law 142 = .ok (.iload 14, 2) := by decide +kernel
theorem dL_law_144 : decode cL_law 144 = .ok (.imul, 1) := by decide +kernel
theorem dL_law_145 : decode cL_law 145 = .ok (.iconst 4, 1) := by decide +kernel
theorem dL_law_146 : decode cL_law 146 = .ok (.iadd, 1) := by decide +kernel
theorem dL_law_147 : decode cL_law 147 = .ok (.iconst 2, 1) := by decide +kernel
theorem dL_law_148 : decode cL_law 148 = .ok (.invokestatic 11, 3) := by decide +kernel
theorem dL_law_151 : decode cL_law 151 = .ok (.ifCond .ne 7, 3) := by decide +kernel
theorem dL_law_154 : decode cL_law 154 = .ok (.iconst 0, 1) := by decide +kernel
theorem dL_law_155 : decode cL_law 155 = .ok (.goto 17, 3) := by decide +kernel
theorem dL_law_158 : decode cL_law 158 = .ok (.aload_n 0, 1) := by decide +kernel
theorem dL_law_159 : decode cL_law 159 = .ok (.bipush 7, 2) := by decide +kernel
theorem dL_law_161 : decode cL_law 161 = .ok (.iload 14, 2) := by decide +kernel
theorem dL_law_163 : decode cL_law 163 = .ok (.imul, 1) := by decide +kernel
theorem dL_law_164 : decode cL_law 164 = .ok (.iconst 5, 1) := by decide +kernel
theorem dL_law_165 : decode cL_law 165 = .ok (.iadd, 1) := by decide +kernel
theorem dL_law_166 : decode cL_law 166 = .ok (.sipush 150, 3) := by decide +kernel
theorem dL_law_169 : decode cL_law 169 = .ok (.invokestatic 11, 3) := by decide +kernel
theorem dL_law_172 : decode cL_law 172 = .ok (.iastore, 1) := by decide +kernel
theorem dL_law_173 : decode cL_law 173 = .ok (.aload 7, 2) := by decide +kernel
theorem dL_law_175 : decode cL_law 175 = .ok (.iload 14, 2) := by decide +kernel
theorem dL_law_177 : decode cL_law 177 = .ok (.aload_n 0, 1) := by decide +kernel
theorem dL_law_178 : decode cL_law 178 = .ok (.bipush 7, 2) := by decide +kernel
theorem dL_law_180 : decode cL_law 180 = .ok (.iload 14, 2) := by decide +kernel
theorem dL_law_182 : decode cL_law 182 = .ok (.imul, 1) := by decide +kernel
theorem dL_law_183 : decode cL_law 183 = .ok (.bipush 6, 2) := by decide +kernel
theorem dL_law_185 : decode cL_law 185 = .ok (.iadd, 1) := by decide +kernel
theorem dL_law_186 : decode cL_law 186 = .ok (.iconst 3, 1) := by decide +kernel
theorem dL_law_187 : decode cL_law 187 = .ok (.invokestatic 11, 3) := by decide +kernel
theorem dL_law_190 : decode cL_law 190 = .ok (.ifCond .ne 21, 3) := by decide +kernel
theorem dL_law_193 : decode cL_law 193 = .ok (.aload_n 0, 1) := by decide +kernel
theorem dL_law_194 : decode cL_law 194 = .ok (.bipush 7, 2) := by decide +kernel
theorem dL_law_196 : decode cL_law 196 = .ok (.iload 14, 2) := by decide +kernel
theorem dL_law_198 : decode cL_law 198 = .ok (.imul, 1) := by decide +kernel
theorem dL_law_199 : decode cL_law 199 = .ok (.bipush 7, 2) := by decide +kernel
theorem dL_law_201 : decode cL_law 201 = .ok (.iadd, 1) := by decide +kernel
theorem dL_law_202 : decode cL_law 202 = .ok (.sipush 400, 3) := by decide +kernel
theorem dL_law_205 : decode cL_law 205 = .ok (.invokestatic 11, 3) := by decide +kernel
theorem dL_law_208 : decode cL_law 208 = .ok (.goto 6, 3) := by decide +kernel
theorem dL_law_211 : decode cL_law 211 = .ok (.sipush 10000, 3) := by decide +kernel
theorem dL_law_214 : decode cL_law 214 = .ok (.iastore, 1) := by decide +kernel
theorem dL_law_215 : decode cL_law 215 = .ok (.aload 8, 2) := by decide +kernel
theorem dL_law_217 : decode cL_law 217 = .ok (.iload 14, 2) := by decide +kernel
theorem dL_law_219 : decode cL_law 219 = .ok (.aload_n 0, 1) := by decide +kernel
theorem dL_law_220 : decode cL_law 220 = .ok (.bipush 7, 2) := by decide +kernel
theorem dL_law_222 : decode cL_law 222 = .ok (.iload 14, 2) := by decide +kernel
theorem dL_law_224 : decode cL_law 224 = .ok (.imul, 1) := by decide +kernel
theorem dL_law_225 : decode cL_law 225 = .ok (.bipush 8, 2) := by decide +kernel
theorem dL_law_227 : decode cL_law 227 = .ok (.iadd, 1) := by decide +kernel
theorem dL_law_228 : decode cL_law 228 = .ok (.iconst 3, 1) := by decide +kernel
theorem dL_law_229 : decode cL_law 229 = .ok (.invokestatic 11, 3) := by decide +kernel
theorem dL_law_232 : decode cL_law 232 = .ok (.ifCond .ne 20, 3) := by decide +kernel
theorem dL_law_235 : decode cL_law 235 = .ok (.aload_n 0, 1) := by decide +kernel
theorem dL_law_236 : decode cL_law 236 = .ok (.bipush 7, 2) := by decide +kernel
theorem dL_law_238 : decode cL_law 238 = .ok (.iload 14, 2) := by decide +kernel
theorem dL_law_240 : decode cL_law 240 = .ok (.imul, 1) := by decide +kernel
theorem dL_law_241 : decode cL_law 241 = .ok (.bipush 9, 2) := by decide +kernel
theorem dL_law_243 : decode cL_law 243 = .ok (.iadd, 1) := by decide +kernel
theorem dL_law_244 : decode cL_law 244 = .ok (.bipush 15, 2) := by decide +kernel
theorem dL_law_246 : decode cL_law 246 = .ok (.invokestatic 11, 3) := by decide +kernel
theorem dL_law_249 : decode cL_law 249 = .ok (.goto 4, 3) := by decide +kernel
theorem dL_law_252 : decode cL_law 252 = .ok (.iconst 0, 1) := by decide +kernel
theorem dL_law_253 : decode cL_law 253 = .ok (.iastore, 1) := by decide +kernel
theorem dL_law_254 : decode cL_law 254 = .ok (.aload 9, 2) := by decide +kernel
theorem dL_law_256 : decode cL_law 256 = .ok (.iload 14, 2) := by decide +kernel
theorem dL_law_258 : decode cL_law 258 = .ok (.aload_n 0, 1) := by decide +kernel
theorem dL_law_259 : decode cL_law 259 = .ok (.bipush 7, 2) := by decide +kernel
theorem dL_law_261 : decode cL_law 261 = .ok (.iload 14, 2) := by decide +kernel
theorem dL_law_263 : decode cL_law 263 = .ok (.imul, 1) := by decide +kernel
theorem dL_law_264 : decode cL_law 264 = .ok (.bipush 10, 2) := by decide +kernel
theorem dL_law_266 : decode cL_law 266 = .ok (.iadd, 1) := by decide +kernel
theorem dL_law_267 : decode cL_law 267 = .ok (.sipush 250, 3) := by decide +kernel
theorem dL_law_270 : decode cL_law 270 = .ok (.invokestatic 11, 3) := by decide +kernel
theorem dL_law_273 : decode cL_law 273 = .ok (.iastore, 1) := by decide +kernel
theorem dL_law_274 : decode cL_law 274 = .ok (.aload 10, 2) := by decide +kernel
theorem dL_law_276 : decode cL_law 276 = .ok (.iload 14, 2) := by decide +kernel
theorem dL_law_278 : decode cL_law 278 = .ok (.aload_n 0, 1) := by decide +kernel
theorem dL_law_279 : decode cL_law 279 = .ok (.bipush 7, 2) := by decide +kernel
theorem dL_law_281 : decode cL_law 281 = .ok (.iload 14, 2) := by decide +kernel
theorem dL_law_283 : decode cL_law 283 = .ok (.imul, 1) := by decide +kernel
theorem dL_law_284 : decode cL_law 284 = .ok (.bipush 11, 2) := by decide +kernel
theorem dL_law_286 : decode cL_law 286 = .ok (.iadd, 1) := by decide +kernel
theorem dL_law_287 : decode cL_law 287 = .ok (.iconst 3, 1) := by decide +kernel
theorem dL_law_288 : decode cL_law 288 = .ok (.invokestatic 11, 3) := by decide +kernel
theorem dL_law_291 : decode cL_law 291 = .ok (.ifCond .ne 7, 3) := by decide +kernel
theorem dL_law_294 : decode cL_law 294 = .ok (.iconst 0, 1) := by decide +kernel
theorem dL_law_295 : decode cL_law 295 = .ok (.goto 19, 3) := by decide +kernel
theorem dL_law_298 : decode cL_law 298 = .ok (.iconst 1, 1) := by decide +kernel
theorem dL_law_299 : decode cL_law 299 = .ok (.aload_n 0, 1) := by decide +kernel
theorem dL_law_300 : decode cL_law 300 = .ok (.bipush 7, 2) := by decide +kernel
theorem dL_law_302 : decode cL_law 302 = .ok (.iload 14, 2) := by decide +kernel
theorem dL_law_304 : decode cL_law 304 = .ok (.imul, 1) := by decide +kernel
theorem dL_law_305 : decode cL_law 305 = .ok (.bipush 12, 2) := by decide +kernel
theorem dL_law_307 : decode cL_law 307 = .ok (.iadd, 1) := by decide +kernel
theorem dL_law_308 : decode cL_law 308 = .ok (.bipush 9, 2) := by decide +kernel
theorem dL_law_310 : decode cL_law 310 = .ok (.invokestatic 11, 3) := by decide +kernel
theorem dL_law_313 : decode cL_law 313 = .ok (.iadd, 1) := by decide +kernel
theorem dL_law_314 : decode cL_law 314 = .ok (.iastore, 1) := by decide +kernel
theorem dL_law_315 : decode cL_law 315 = .ok (.aload_n 1, 1) := by decide +kernel
theorem dL_law_316 : decode cL_law 316 = .ok (.iconst 0, 1) := by decide +kernel
theorem dL_law_317 : decode cL_law 317 = .ok (.invokevirtual 25, 3) := by decide +kernel
theorem dL_law_320 : decode cL_law 320 = .ok (.istore 15, 2) := by decide +kernel
theorem dL_law_322 : decode cL_law 322 = .ok (.iload 15, 2) := by decide +kernel
theorem dL_law_324 : decode cL_law 324 = .ok (.iload 14, 2) := by decide +kernel
theorem dL_law_326 : decode cL_law 326 = .ok (.iconst 1, 1) := by decide +kernel
theorem dL_law_327 : decode cL_law 327 = .ok (.iadd, 1) := by decide +kernel
theorem dL_law_328 : decode cL_law 328 = .ok (.if_icmp .ne 87, 3) := by decide +kernel
theorem dL_law_331 : decode cL_law 331 = .ok (.aload_n 1, 1) := by decide +kernel
theorem dL_law_332 : decode cL_law 332 = .ok (.iload 15, 2) := by decide +kernel
theorem dL_law_334 : decode cL_law 334 = .ok (.bipush 12, 2) := by decide +kernel
theorem dL_law_336 : decode cL_law 336 = .ok (.aload 6, 2) := by decide +kernel
theorem dL_law_338 : decode cL_law 338 = .ok (.iload 14, 2) := by decide +kernel
theorem dL_law_340 : decode cL_law 340 = .ok (.iaload, 1) := by decide +kernel
theorem dL_law_341 : decode cL_law 341 = .ok (.invokevirtual 21, 3) := by decide +kernel
theorem dL_law_344 : decode cL_law 344 = .ok (.ifCond .ne 71, 3) := by decide +kernel
theorem dL_law_347 : decode cL_law 347 = .ok (.aload_n 1, 1) := by decide +kernel
theorem dL_law_348 : decode cL_law 348 = .ok (.iload 15, 2) := by decide +kernel
theorem dL_law_350 : decode cL_law 350 = .ok (.bipush 14, 2) := by decide +kernel
theorem dL_law_352 : decode cL_law 352 = .ok (.aload 7, 2) := by decide +kernel
theorem dL_law_354 : decode cL_law 354 = .ok (.iload 14, 2) := by decide +kernel
theorem dL_law_356 : decode cL_law 356 = .ok (.iaload, 1) := by decide +kernel
theorem dL_law_357 : decode cL_law 357 = .ok (.invokevirtual 21, 3) := by decide +kernel
theorem dL_law_360 : decode cL_law 360 = .ok (.sipush 10000, 3) := by decide +kernel
theorem dL_law_363 : decode cL_law 363 = .ok (.if_icmp .ne 52, 3) := by decide +kernel
theorem dL_law_366 : decode cL_law 366 = .ok (.aload_n 1, 1) := by decide +kernel
theorem dL_law_367 : decode cL_law 367 = .ok (.iload 15, 2) := by decide +kernel
theorem dL_law_369 : decode cL_law 369 = .ok (.bipush 6, 2) := by decide +kernel
theorem dL_law_371 : decode cL_law 371 = .ok (.aload 8, 2) := by decide +kernel
theorem dL_law_373 : decode cL_law 373 = .ok (.iload 14, 2) := by decide +kernel
theorem dL_law_375 : decode cL_law 375 = .ok (.iaload, 1) := by decide +kernel
theorem dL_law_376 : decode cL_law 376 = .ok (.invokevirtual 21, 3) := by decide +kernel
theorem dL_law_379 : decode cL_law 379 = .ok (.ifCond .ne 36, 3) := by decide +kernel
theorem dL_law_382 : decode cL_law 382 = .ok (.aload_n 1, 1) := by decide +kernel
theorem dL_law_383 : decode cL_law 383 = .ok (.iload 15, 2) := by decide +kernel
theorem dL_law_385 : decode cL_law 385 = .ok (.bipush 7, 2) := by decide +kernel
theorem dL_law_387 : decode cL_law 387 = .ok (.aload 9, 2) := by decide +kernel
theorem dL_law_389 : decode cL_law 389 = .ok (.iload 14, 2) := by decide +kernel
theorem dL_law_391 : decode cL_law 391 = .ok (.iaload, 1) := by decide +kernel
theorem dL_law_392 : decode cL_law 392 = .ok (.invokevirtual 21, 3) := by decide +kernel
theorem dL_law_395 : decode cL_law 395 = .ok (.iconst (-1), 1) := by decide +kernel
theorem dL_law_396 : decode cL_law 396 = .ok (.if_icmp .ne 19, 3) := by decide +kernel
theorem dL_law_399 : decode cL_law 399 = .ok (.aload_n 1, 1) := by decide +kernel
theorem dL_law_400 : decode cL_law 400 = .ok (.iload 15, 2) := by decide +kernel
theorem dL_law_402 : decode cL_law 402 = .ok (.bipush 8, 2) := by decide +kernel
theorem dL_law_404 : decode cL_law 404 = .ok (.aload 10, 2) := by decide +kernel
theorem dL_law_406 : decode cL_law 406 = .ok (.iload 14, 2) := by decide +kernel
theorem dL_law_408 : decode cL_law 408 = .ok (.iaload, 1) := by decide +kernel
theorem dL_law_409 : decode cL_law 409 = .ok (.invokevirtual 21, 3) := by decide +kernel
theorem dL_law_412 : decode cL_law 412 = .ok (.ifCond .eq 5, 3) := by decide +kernel
theorem dL_law_415 : decode cL_law 415 = .ok (.iconst 0, 1) := by decide +kernel
theorem dL_law_416 : decode cL_law 416 = .ok (.ireturn, 1) := by decide +kernel
theorem dL_law_417 : decode cL_law 417 = .ok (.iload 11, 2) := by decide +kernel
theorem dL_law_419 : decode cL_law 419 = .ok (.aload 9, 2) := by decide +kernel
theorem dL_law_421 : decode cL_law 421 = .ok (.iload 14, 2) := by decide +kernel
theorem dL_law_423 : decode cL_law 423 = .ok (.iaload, 1) := by decide +kernel
theorem dL_law_424 : decode cL_law 424 = .ok (.aload 6, 2) := by decide +kernel
theorem dL_law_426 : decode cL_law 426 = .ok (.iload 14, 2) := by decide +kernel
theorem dL_law_428 : decode cL_law 428 = .ok (.iaload, 1) := by decide +kernel
theorem dL_law_429 : decode cL_law 429 = .ok (.aload 7, 2) := by decide +kernel
theorem dL_law_431 : decode cL_law 431 = .ok (.iload 14, 2) := by decide +kernel
theorem dL_law_433 : decode cL_law 433 = .ok (.iaload, 1) := by decide +kernel
theorem dL_law_434 : decode cL_law 434 = .ok (.invokestatic 29, 3) := by decide +kernel
theorem dL_law_437 : decode cL_law 437 = .ok (.iconst 2, 1) := by decide +kernel
theorem dL_law_438 : decode cL_law 438 = .ok (.aload 8, 2) := by decide +kernel
theorem dL_law_440 : decode cL_law 440 = .ok (.iload 14, 2) := by decide +kernel
theorem dL_law_442 : decode cL_law 442 = .ok (.iaload, 1) := by decide +kernel
theorem dL_law_443 : decode cL_law 443 = .ok (.imul, 1) := by decide +kernel
theorem dL_law_444 : decode cL_law 444 = .ok (.iadd, 1) := by decide +kernel
theorem dL_law_445 : decode cL_law 445 = .ok (.iadd, 1) := by decide +kernel
theorem dL_law_446 : decode cL_law 446 = .ok (.istore 11, 2) := by decide +kernel
theorem dL_law_448 : decode cL_law 448 = .ok (.iinc 14 1, 3) := by decide +kernel
theorem dL_law_451 : decode cL_law 451 = .ok (.goto (-322), 3) := by decide +kernel
theorem dL_law_454 : decode cL_law 454 = .ok (.iconst 2, 1) := by decide +kernel
theorem dL_law_455 : decode cL_law 455 = .ok (.iload 5, 2) := by decide +kernel
theorem dL_law_457 : decode cL_law 457 = .ok (.imul, 1) := by decide +kernel
theorem dL_law_458 : decode cL_law 458 = .ok (.iload 4, 2) := by decide +kernel
theorem dL_law_460 : decode cL_law 460 = .ok (.iload_n 2, 1) := by decide +kernel
theorem dL_law_461 : decode cL_law 461 = .ok (.iconst 1, 1) := by decide +kernel
theorem dL_law_462 : decode cL_law 462 = .ok (.isub, 1) := by decide +kernel
theorem dL_law_463 : decode cL_law 463 = .ok (.imul, 1) := by decide +kernel
theorem dL_law_464 : decode cL_law 464 = .ok (.iadd, 1) := by decide +kernel
theorem dL_law_465 : decode cL_law 465 = .ok (.istore 14, 2) := by decide +kernel
theorem dL_law_467 : decode cL_law 467 = .ok (.iconst 1, 1) := by decide +kernel
theorem dL_law_468 : decode cL_law 468 = .ok (.istore 15, 2) := by decide +kernel
theorem dL_law_470 : decode cL_law 470 = .ok (.iload 11, 2) := by decide +kernel
theorem dL_law_472 : decode cL_law 472 = .ok (.iload_n 3, 1) := by decide +kernel
theorem dL_law_473 : decode cL_law 473 = .ok (.if_icmp .ge 7, 3) := by decide +kernel
theorem dL_law_476 : decode cL_law 476 = .ok (.iconst 1, 1) := by decide +kernel
theorem dL_law_477 : decode cL_law 477 = .ok (.goto 4, 3) := by decide +kernel
theorem dL_law_480 : decode cL_law 480 = .ok (.iconst 0, 1) := by decide +kernel
theorem dL_law_481 : decode cL_law 481 = .ok (.istore 16, 2) := by decide +kernel
theorem dL_law_483 : decode cL_law 483 = .ok (.iload_n 3, 1) := by decide +kernel
theorem dL_law_484 : decode cL_law 484 = .ok (.iconst 2, 1) := by decide +kernel
theorem dL_law_485 : decode cL_law 485 = .ok (.iload 5, 2) := by decide +kernel
theorem dL_law_487 : decode cL_law 487 = .ok (.imul, 1) := by decide +kernel
theorem dL_law_488 : decode cL_law 488 = .ok (.isub, 1) := by decide +kernel
theorem dL_law_489 : decode cL_law 489 = .ok (.ifCond .ge 7, 3) := by decide +kernel
theorem dL_law_492 : decode cL_law 492 = .ok (.iconst 0, 1) := by decide +kernel
theorem dL_law_493 : decode cL_law 493 = .ok (.goto 9, 3) := by decide +kernel
theorem dL_law_496 : decode cL_law 496 = .ok (.iload_n 3, 1) := by decide +kernel
theorem dL_law_497 : decode cL_law 497 = .ok (.iconst 2, 1) := by decide +kernel
theorem dL_law_498 : decode cL_law 498 = .ok (.iload 5, 2) := by decide +kernel
theorem dL_law_500 : decode cL_law 500 = .ok (.imul, 1) := by decide +kernel
theorem dL_law_501 : decode cL_law 501 = .ok (.isub, 1) := by decide +kernel
theorem dL_law_502 : decode cL_law 502 = .ok (.istore 17, 2) := by decide +kernel
theorem dL_law_504 : decode cL_law 504 = .ok (.iload 5, 2) := by decide +kernel
theorem dL_law_506 : decode cL_law 506 = .ok (.istore 18, 2) := by decide +kernel
theorem dL_law_508 : decode cL_law 508 = .ok (.iconst 0, 1) := by decide +kernel
theorem dL_law_509 : decode cL_law 509 = .ok (.istore 19, 2) := by decide +kernel
theorem dL_law_511 : decode cL_law 511 = .ok (.iload 19, 2) := by decide +kernel
theorem dL_law_513 : decode cL_law 513 = .ok (.iload_n 2, 1) := by decide +kernel
theorem dL_law_514 : decode cL_law 514 = .ok (.if_icmp .ge 284, 3) := by decide +kernel
theorem dL_law_517 : decode cL_law 517 = .ok (.aload_n 1, 1) := by decide +kernel
theorem dL_law_518 : decode cL_law 518 = .ok (.iload 19, 2) := by decide +kernel
theorem dL_law_520 : decode cL_law 520 = .ok (.iconst 1, 1) := by decide +kernel
theorem dL_law_521 : decode cL_law 521 = .ok (.iadd, 1) := by decide +kernel
theorem dL_law_522 : decode cL_law 522 = .ok (.invokevirtual 32, 3) := by decide +kernel
theorem dL_law_525 : decode cL_law 525 = .ok (.istore 20, 2) := by decide +kernel
theorem dL_law_527 : decode cL_law 527 = .ok (.aload 9, 2) := by decide +kernel
theorem dL_law_529 : decode cL_law 529 = .ok (.iload 19, 2) := by decide +kernel
theorem dL_law_531 : decode cL_law 531 = .ok (.iaload, 1) := by decide +kernel
theorem dL_law_532 : decode cL_law 532 = .ok (.aload 6, 2) := by decide +kernel
theorem dL_law_534 : decode cL_law 534 = .ok (.iload 19, 2) := by decide +kernel
theorem dL_law_536 : decode cL_law 536 = .ok (.iaload, 1) := by decide +kernel
theorem dL_law_537 : decode cL_law 537 = .ok (.aload 7, 2) := by decide +kernel
theorem dL_law_539 : decode cL_law 539 = .ok (.iload 19, 2) := by decide +kernel
theorem dL_law_541 : decode cL_law 541 = .ok (.iaload, 1) := by decide +kernel
theorem dL_law_542 : decode cL_law 542 = .ok (.invokestatic 29, 3) := by decide +kernel
theorem dL_law_545 : decode cL_law 545 = .ok (.istore 21, 2) := by decide +kernel
theorem dL_law_547 : decode cL_law 547 = .ok (.iload 20, 2) := by decide +kernel
theorem dL_law_549 : decode cL_law 549 = .ok (.iload 20, 2) := by decide +kernel
theorem dL_law_551 : decode cL_law 551 = .ok (.aload 6, 2) := by decide +kernel
theorem dL_law_553 : decode cL_law 553 = .ok (.iload 19, 2) := by decide +kernel
theorem dL_law_555 : decode cL_law 555 = .ok (.iaload, 1) := by decide +kernel
theorem dL_law_556 : decode cL_law 556 = .ok (.aload 7, 2) := by decide +kernel
theorem dL_law_558 : decode cL_law 558 = .ok (.iload 19, 2) := by decide +kernel
theorem dL_law_560 : decode cL_law 560 = .ok (.iaload, 1) := by decide +kernel
theorem dL_law_561 : decode cL_law 561 = .ok (.invokestatic 29, 3) := by decide +kernel
theorem dL_law_564 : decode cL_law 564 = .ok (.if_icmp .ne 36, 3) := by decide +kernel
theorem dL_law_567 : decode cL_law 567 = .ok (.iload 16, 2) := by decide +kernel
theorem dL_law_569 : decode cL_law 569 = .ok (.ifCond .eq 13, 3) := by decide +kernel
theorem dL_law_572 : decode cL_law 572 = .ok (.iload 20, 2) := by decide +kernel
theorem dL_law_574 : decode cL_law 574 = .ok (.iload 21, 2) := by decide +kernel
theorem dL_law_576 : decode cL_law 576 = .ok (.if_icmp .ge 13, 3) := by decide +kernel
theorem dL_law_579 : decode cL_law 579 = .ok (.goto 21, 3) := by decide +kernel
theorem dL_law_582 : decode cL_law 582 = .ok (.iload 20, 2) := by decide +kernel
theorem dL_law_584 : decode cL_law 584 = .ok (.iload 21, 2) := by decide +kernel
theorem dL_law_586 : decode cL_law 586 = .ok (.if_icmp .gt 14, 3) := by decide +kernel
theorem dL_law_589 : decode cL_law 589 = .ok (.aload_n 1, 1) := by decide +kernel
theorem dL_law_590 : decode cL_law 590 = .ok (.iload 19, 2) := by decide +kernel
theorem dL_law_592 : decode cL_law 592 = .ok (.iconst 1, 1) := by decide +kernel
theorem dL_law_593 : decode cL_law 593 = .ok (.iadd, 1) := by decide +kernel
theorem dL_law_594 : decode cL_law 594 = .ok (.invokevirtual 35, 3) := by decide +kernel
theorem dL_law_597 : decode cL_law 597 = .ok (.ifCond .eq 5, 3) := by decide +kernel
theorem dL_law_600 : decode cL_law 600 = .ok (.iconst 0, 1) := by decide +kernel
theorem dL_law_601 : decode cL_law 601 = .ok (.ireturn, 1) := by decide +kernel
theorem dL_law_602 : decode cL_law 602 = .ok (.iload 14, 2) := by decide +kernel
theorem dL_law_604 : decode cL_law 604 = .ok (.iload 20, 2) := by decide +kernel
theorem dL_law_606 : decode cL_law 606 = .ok (.iconst 2, 1) := by decide +kernel
theorem dL_law_607 : decode cL_law 607 = .ok (.aload 8, 2) := by decide +kernel
theorem dL_law_609 : decode cL_law 609 = .ok (.iload 19, 2) := by decide +kernel
theorem dL_law_611 : decode cL_law 611 = .ok (.iaload, 1) := by decide +kernel
theorem dL_law_612 : decode cL_law 612 = .ok (.imul, 1) := by decide +kernel
theorem dL_law_613 : decode cL_law 613 = .ok (.iadd, 1) := by decide +kernel
theorem dL_law_614 : decode cL_law 614 = .ok (.iadd, 1) := by decide +kernel
theorem dL_law_615 : decode cL_law 615 = .ok (.istore 14, 2) := by decide +kernel
theorem dL_law_617 : decode cL_law 617 = .ok (.iload 16, 2) := by decide +kernel
theorem dL_law_619 : decode cL_law 619 = .ok (.ifCond .eq 55, 3) := by decide +kernel
theorem dL_law_622 : decode cL_law 622 = .ok (.iload 15, 2) := by decide +kernel
theorem dL_law_624 : decode cL_law 624 = .ok (.aload 10, 2) := by decide +kernel
theorem dL_law_626 : decode cL_law 626 = .ok (.iload 19, 2) := by decide +kernel
theorem dL_law_628 : decode cL_law 628 = .ok (.iaload, 1) := by decide +kernel
theorem dL_law_629 : decode cL_law 629 = .ok (.ifCond .eq 34, 3) := by decide +kernel
theorem dL_law_632 : decode cL_law 632 = .ok (.iload 20, 2) := by decide +kernel
theorem dL_law_634 : decode cL_law 634 = .ok (.sipush 10000, 3) := by decide +kernel
theorem dL_law_637 : decode cL_law 637 = .ok (.aload 6, 2) := by decide +kernel
theorem dL_law_639 : decode cL_law 639 = .ok (.iload 19, 2) := by decide +kernel
theorem dL_law_641 : decode cL_law 641 = .ok (.iaload, 1) := by decide +kernel
theorem dL_law_642 : decode cL_law 642 = .ok (.aload 7, 2) := by decide +kernel
theorem dL_law_644 : decode cL_law 644 = .ok (.iload 19, 2) := by decide +kernel
theorem dL_law_646 : decode cL_law 646 = .ok (.iaload, 1) := by decide +kernel
theorem dL_law_647 : decode cL_law 647 = .ok (.invokestatic 29, 3) := by decide +kernel
theorem dL_law_650 : decode cL_law 650 = .ok (.if_icmp .eq 13, 3) := by decide +kernel
theorem dL_law_653 : decode cL_law 653 = .ok (.aload 9, 2) := by decide +kernel
theorem dL_law_655 : decode cL_law 655 = .ok (.iload 19, 2) := by decide +kernel
theorem dL_law_657 : decode cL_law 657 = .ok (.iaload, 1) := by decide +kernel
theorem dL_law_658 : decode cL_law 658 = .ok (.iload 21, 2) := by decide +kernel
theorem dL_law_660 : decode cL_law 660 = .ok (.if_icmp .le 7, 3) := by decide +kernel
theorem dL_law_663 : decode cL_law 663 = .ok (.iconst 1, 1) := by decide +kernel
theorem dL_law_664 : decode cL_law 664 = .ok (.goto 4, 3) := by decide +kernel
theorem dL_law_667 : decode cL_law 667 = .ok (.iconst 0, 1) := by decide +kernel
theorem dL_law_668 : decode cL_law 668 = .ok (.iand, 1) := by decide +kernel
theorem dL_law_669 : decode cL_law 669 = .ok (.istore 15, 2) := by decide +kernel
theorem dL_law_671 : decode cL_law 671 = .ok (.goto 50, 3) := by decide +kernel
theorem dL_law_674 : decode cL_law 674 = .ok (.iload 15, 2) := by decide +kernel
theorem dL_law_676 : decode cL_law 676 = .ok (.iload 20, 2) := by decide +kernel
theorem dL_law_678 : decode cL_law 678 = .ok (.iconst 0, 1) := by decide +kernel
theorem dL_law_679 : decode cL_law 679 = .ok (.aload 6, 2) := by decide +kernel
theorem dL_law_681 : decode cL_law 681 = .ok (.iload 19, 2) := by decide +kernel
theorem dL_law_683 : decode cL_law 683 = .ok (.iaload, 1) := by decide +kernel
theorem dL_law_684 : decode cL_law 684 = .ok (.aload 7, 2) := by decide +kernel
theorem dL_law_686 : decode cL_law 686 = .ok (.iload 19, 2) := by decide +kernel
theorem dL_law_688 : decode cL_law 688 = .ok (.iaload, 1) := by decide +kernel
theorem dL_law_689 : decode cL_law 689 = .ok (.invokestatic 29, 3) := by decide +kernel
theorem dL_law_692 : decode cL_law 692 = .ok (.if_icmp .eq 21, 3) := by decide +kernel
theorem dL_law_695 : decode cL_law 695 = .ok (.aload 9, 2) := by decide +kernel
theorem dL_law_697 : decode cL_law 697 = .ok (.iload 19, 2) := by decide +kernel
theorem dL_law_699 : decode cL_law 699 = .ok (.iaload, 1) := by decide +kernel
theorem dL_law_700 : decode cL_law 700 = .ok (.iload 21, 2) := by decide +kernel
theorem dL_law_702 : decode cL_law 702 = .ok (.if_icmp .lt 11, 3) := by decide +kernel
theorem dL_law_705 : decode cL_law 705 = .ok (.aload 9, 2) := by decide +kernel
theorem dL_law_707 : decode cL_law 707 = .ok (.iload 19, 2) := by decide +kernel
theorem dL_law_709 : decode cL_law 709 = .ok (.iaload, 1) := by decide +kernel
theorem dL_law_710 : decode cL_law 710 = .ok (.ifCond .ne 7, 3) := by decide +kernel
theorem dL_law_713 : decode cL_law 713 = .ok (.iconst 1, 1) := by decide +kernel
theorem dL_law_714 : decode cL_law 714 = .ok (.goto 4, 3) := by decide +kernel
theorem dL_law_717 : decode cL_law 717 = .ok (.iconst 0, 1) := by decide +kernel
theorem dL_law_718 : decode cL_law 718 = .ok (.iand, 1) := by decide +kernel
theorem dL_law_719 : decode cL_law 719 = .ok (.istore 15, 2) := by decide +kernel
theorem dL_law_721 : decode cL_law 721 = .ok (.aload_n 1, 1) := by decide +kernel
theorem dL_law_722 : decode cL_law 722 = .ok (.iload 19, 2) := by decide +kernel
theorem dL_law_724 : decode cL_law 724 = .ok (.iconst 1, 1) := by decide +kernel
theorem dL_law_725 : decode cL_law 725 = .ok (.iadd, 1) := by decide +kernel
theorem dL_law_726 : decode cL_law 726 = .ok (.invokevirtual 38, 3) := by decide +kernel
theorem dL_law_729 : decode cL_law 729 = .ok (.iload 18, 2) := by decide +kernel
theorem dL_law_731 : decode cL_law 731 = .ok (.iload 19, 2) := by decide +kernel
theorem dL_law_733 : decode cL_law 733 = .ok (.ifCond .le 8, 3) := by decide +kernel
theorem dL_law_736 : decode cL_law 736 = .ok (.iload 4, 2) := by decide +kernel
theorem dL_law_738 : decode cL_law 738 = .ok (.goto 4, 3) := by decide +kernel
theorem dL_law_741 : decode cL_law 741 = .ok (.iconst 0, 1) := by decide +kernel
theorem dL_law_742 : decode cL_law 742 = .ok (.iadd, 1) := by decide +kernel
theorem dL_law_743 : decode cL_law 743 = .ok (.aload 8, 2) := by decide +kernel
theorem dL_law_745 : decode cL_law 745 = .ok (.iload 19, 2) := by decide +kernel
theorem dL_law_747 : decode cL_law 747 = .ok (.iaload, 1) := by decide +kernel
theorem dL_law_748 : decode cL_law 748 = .ok (.iadd, 1) := by decide +kernel
theorem dL_law_749 : decode cL_law 749 = .ok (.if_icmp .ne 22, 3) := by decide +kernel
theorem dL_law_752 : decode cL_law 752 = .ok (.aload_n 1, 1) := by decide +kernel
theorem dL_law_753 : decode cL_law 753 = .ok (.iload 19, 2) := by decide +kernel
theorem dL_law_755 : decode cL_law 755 = .ok (.iconst 1, 1) := by decide +kernel
theorem dL_law_756 : decode cL_law 756 = .ok (.iadd, 1) := by decide +kernel
theorem dL_law_757 : decode cL_law 757 = .ok (.invokevirtual 41, 3) := by decide +kernel
theorem dL_law_760 : decode cL_law 760 = .ok (.iload 5, 2) := by decide +kernel
theorem dL_law_762 : decode cL_law 762 = .ok (.aload 8, 2) := by decide +kernel
theorem dL_law_764 : decode cL_law 764 = .ok (.iload 19, 2) := by decide +kernel
theorem dL_law_766 : decode cL_law 766 = .ok (.iaload, 1) := by decide +kernel
theorem dL_law_767 : decode cL_law 767 = .ok (.iadd, 1) := by decide +kernel
theorem dL_law_768 : decode cL_law 768 = .ok (.if_icmp .eq 5, 3) := by decide +kernel
theorem dL_law_771 : decode cL_law 771 = .ok (.iconst 0, 1) := by decide +kernel
theorem dL_law_772 : decode cL_law 772 = .ok (.ireturn, 1) := by decide +kernel
theorem dL_law_773 : decode cL_law 773 = .ok (.aload_n 1, 1) := by decide +kernel
theorem dL_law_774 : decode cL_law 774 = .ok (.iload 19, 2) := by decide +kernel
theorem dL_law_776 : decode cL_law 776 = .ok (.iconst 1, 1) := by decide +kernel
theorem dL_law_777 : decode cL_law 777 = .ok (.iadd, 1) := by decide +kernel
theorem dL_law_778 : decode cL_law 778 = .ok (.invokevirtual 38, 3) := by decide +kernel
theorem dL_law_781 : decode cL_law 781 = .ok (.iload 20, 2) := by decide +kernel
theorem dL_law_783 : decode cL_law 783 = .ok (.iadd, 1) := by decide +kernel
theorem dL_law_784 : decode cL_law 784 = .ok (.aload 8, 2) := by decide +kernel
theorem dL_law_786 : decode cL_law 786 = .ok (.iload 19, 2) := by decide +kernel
theorem dL_law_788 : decode cL_law 788 = .ok (.iaload, 1) := by decide +kernel
theorem dL_law_789 : decode cL_law 789 = .ok (.iadd, 1) := by decide +kernel
theorem dL_law_790 : decode cL_law 790 = .ok (.istore 18, 2) := by decide +kernel
theorem dL_law_792 : decode cL_law 792 = .ok (.iinc 19 1, 3) := by decide +kernel
theorem dL_law_795 : decode cL_law 795 = .ok (.goto (-284), 3) := by decide +kernel
theorem dL_law_798 : decode cL_law 798 = .ok (.iload 16, 2) := by decide +kernel
theorem dL_law_800 : decode cL_law 800 = .ok (.ifCond .eq 23, 3) := by decide +kernel
theorem dL_law_803 : decode cL_law 803 = .ok (.iload 14, 2) := by decide +kernel
theorem dL_law_805 : decode cL_law 805 = .ok (.iload_n 3, 1) := by decide +kernel
theorem dL_law_806 : decode cL_law 806 = .ok (.if_icmp .gt 46, 3) := by decide +kernel
theorem dL_law_809 : decode cL_law 809 = .ok (.iload 14, 2) := by decide +kernel
theorem dL_law_811 : decode cL_law 811 = .ok (.iload_n 3, 1) := by decide +kernel
theorem dL_law_812 : decode cL_law 812 = .ok (.if_icmp .ge 42, 3) := by decide +kernel
theorem dL_law_815 : decode cL_law 815 = .ok (.iload 15, 2) := by decide +kernel
theorem dL_law_817 : decode cL_law 817 = .ok (.ifCond .ne 37, 3) := by decide +kernel
theorem dL_law_820 : decode cL_law 820 = .ok (.goto 32, 3) := by decide +kernel
theorem dL_law_823 : decode cL_law 823 = .ok (.iload 14, 2) := by decide +kernel
theorem dL_law_825 : decode cL_law 825 = .ok (.iload 17, 2) := by decide +kernel
theorem dL_law_827 : decode cL_law 827 = .ok (.iconst 2, 1) := by decide +kernel
theorem dL_law_828 : decode cL_law 828 = .ok (.iload 5, 2) := by decide +kernel
theorem dL_law_830 : decode cL_law 830 = .ok (.imul, 1) := by decide +kernel
theorem dL_law_831 : decode cL_law 831 = .ok (.iadd, 1) := by decide +kernel
theorem dL_law_832 : decode cL_law 832 = .ok (.if_icmp .lt 20, 3) := by decide +kernel
theorem dL_law_835 : decode cL_law 835 = .ok (.iload 14, 2) := by decide +kernel
theorem dL_law_837 : decode cL_law 837 = .ok (.iload 17, 2) := by decide +kernel
theorem dL_law_839 : decode cL_law 839 = .ok (.iconst 2, 1) := by decide +kernel
theorem dL_law_840 : decode cL_law 840 = .ok (.iload 5, 2) := by decide +kernel
theorem dL_law_842 : decode cL_law 842 = .ok (.imul, 1) := by decide +kernel
theorem dL_law_843 : decode cL_law 843 = .ok (.iadd, 1) := by decide +kernel
theorem dL_law_844 : decode cL_law 844 = .ok (.if_icmp .le 10, 3) := by decide +kernel
theorem dL_law_847 : decode cL_law 847 = .ok (.iload 15, 2) := by decide +kernel
theorem dL_law_849 : decode cL_law 849 = .ok (.ifCond .ne 5, 3) := by decide +kernel
theorem dL_law_852 : decode cL_law 852 = .ok (.iconst 0, 1) := by decide +kernel
theorem dL_law_853 : decode cL_law 853 = .ok (.ireturn, 1) := by decide +kernel
theorem dL_law_854 : decode cL_law 854 = .ok (.aload_n 1, 1) := by decide +kernel
theorem dL_law_855 : decode cL_law 855 = .ok (.iconst 0, 1) := by decide +kernel
theorem dL_law_856 : decode cL_law 856 = .ok (.iconst 2, 1) := by decide +kernel
theorem dL_law_857 : decode cL_law 857 = .ok (.iconst 1, 1) := by decide +kernel
theorem dL_law_858 : decode cL_law 858 = .ok (.invokevirtual 21, 3) := by decide +kernel
theorem dL_law_861 : decode cL_law 861 = .ok (.ifCond .eq 5, 3) := by decide +kernel
theorem dL_law_864 : decode cL_law 864 = .ok (.iconst 0, 1) := by decide +kernel
theorem dL_law_865 : decode cL_law 865 = .ok (.ireturn, 1) := by decide +kernel
theorem dL_law_866 : decode cL_law 866 = .ok (.iload 14, 2) := by decide +kernel
theorem dL_law_868 : decode cL_law 868 = .ok (.iload 17, 2) := by decide +kernel
theorem dL_law_870 : decode cL_law 870 = .ok (.iconst 2, 1) := by decide +kernel
theorem dL_law_871 : decode cL_law 871 = .ok (.iload 5, 2) := by decide +kernel
theorem dL_law_873 : decode cL_law 873 = .ok (.imul, 1) := by decide +kernel
theorem dL_law_874 : decode cL_law 874 = .ok (.iadd, 1) := by decide +kernel
theorem dL_law_875 : decode cL_law 875 = .ok (.if_icmp .ge 16, 3) := by decide +kernel
theorem dL_law_878 : decode cL_law 878 = .ok (.iload 17, 2) := by decide +kernel
theorem dL_law_880 : decode cL_law 880 = .ok (.iconst 2, 1) := by decide +kernel
theorem dL_law_881 : decode cL_law 881 = .ok (.iload 5, 2) := by decide +kernel
theorem dL_law_883 : decode cL_law 883 = .ok (.imul, 1) := by decide +kernel
theorem dL_law_884 : decode cL_law 884 = .ok (.iadd, 1) := by decide +kernel
theorem dL_law_885 : decode cL_law 885 = .ok (.iload 14, 2) := by decide +kernel
theorem dL_law_887 : decode cL_law 887 = .ok (.isub, 1) := by decide +kernel
theorem dL_law_888 : decode cL_law 888 = .ok (.goto 4, 3) := by decide +kernel
theorem dL_law_891 : decode cL_law 891 = .ok (.iconst 0, 1) := by decide +kernel
theorem dL_law_892 : decode cL_law 892 = .ok (.istore 19, 2) := by decide +kernel
theorem dL_law_894 : decode cL_law 894 = .ok (.aload_n 1, 1) := by decide +kernel
theorem dL_law_895 : decode cL_law 895 = .ok (.iload_n 2, 1) := by decide +kernel
theorem dL_law_896 : decode cL_law 896 = .ok (.invokevirtual 38, 3) := by decide +kernel
theorem dL_law_899 : decode cL_law 899 = .ok (.aload_n 1, 1) := by decide +kernel
theorem dL_law_900 : decode cL_law 900 = .ok (.iload_n 2, 1) := by decide +kernel
theorem dL_law_901 : decode cL_law 901 = .ok (.invokevirtual 32, 3) := by decide +kernel
theorem dL_law_904 : decode cL_law 904 = .ok (.iadd, 1) := by decide +kernel
theorem dL_law_905 : decode cL_law 905 = .ok (.aload 8, 2) := by decide +kernel
theorem dL_law_907 : decode cL_law 907 = .ok (.iload_n 2, 1) := by decide +kernel
theorem dL_law_908 : decode cL_law 908 = .ok (.iconst 1, 1) := by decide +kernel
theorem dL_law_909 : decode cL_law 909 = .ok (.isub, 1) := by decide +kernel
theorem dL_law_910 : decode cL_law 910 = .ok (.iaload, 1) := by decide +kernel
theorem dL_law_911 : decode cL_law 911 = .ok (.iadd, 1) := by decide +kernel
theorem dL_law_912 : decode cL_law 912 = .ok (.istore 20, 2) := by decide +kernel
theorem dL_law_914 : decode cL_law 914 = .ok (.iload 20, 2) := by decide +kernel
theorem dL_law_916 : decode cL_law 916 = .ok (.iload 18, 2) := by decide +kernel
theorem dL_law_918 : decode cL_law 918 = .ok (.iload 19, 2) := by decide +kernel
theorem dL_law_920 : decode cL_law 920 = .ok (.iadd, 1) := by decide +kernel
theorem dL_law_921 : decode cL_law 921 = .ok (.if_icmp .ne 27, 3) := by decide +kernel
theorem dL_law_924 : decode cL_law 924 = .ok (.aload_n 1, 1) := by decide +kernel
theorem dL_law_925 : decode cL_law 925 = .ok (.iconst 0, 1) := by decide +kernel
theorem dL_law_926 : decode cL_law 926 = .ok (.invokevirtual 44, 3) := by decide +kernel
theorem dL_law_929 : decode cL_law 929 = .ok (.iconst 2, 1) := by decide +kernel
theorem dL_law_930 : decode cL_law 930 = .ok (.irem, 1) := by decide +kernel
theorem dL_law_931 : decode cL_law 931 = .ok (.iload 20, 2) := by decide +kernel
theorem dL_law_933 : decode cL_law 933 = .ok (.iload_n 3, 1) := by decide +kernel
theorem dL_law_934 : decode cL_law 934 = .ok (.iload 5, 2) := by decide +kernel
theorem dL_law_936 : decode cL_law 936 = .ok (.isub, 1) := by decide +kernel
theorem dL_law_937 : decode cL_law 937 = .ok (.if_icmp .le 7, 3) := by decide +kernel
theorem dL_law_940 : decode cL_law 940 = .ok (.iconst 1, 1) := by decide +kernel
theorem dL_law_941 : decode cL_law 941 = .ok (.goto 4, 3) := by decide +kernel
theorem dL_law_944 : decode cL_law 944 = .ok (.iconst 0, 1) := by decide +kernel
theorem dL_law_945 : decode cL_law 945 = .ok (.if_icmp .eq 5, 3) := by decide +kernel
theorem dL_law_948 : decode cL_law 948 = .ok (.iconst 0, 1) := by decide +kernel
theorem dL_law_949 : decode cL_law 949 = .ok (.ireturn, 1) := by decide +kernel
theorem dL_law_950 : decode cL_law 950 = .ok (.aload_n 1, 1) := by decide +kernel
theorem dL_law_951 : decode cL_law 951 = .ok (.iconst 0, 1) := by decide +kernel
theorem dL_law_952 : decode cL_law 952 = .ok (.iconst 1, 1) := by decide +kernel
theorem dL_law_953 : decode cL_law 953 = .ok (.iconst 1, 1) := by decide +kernel
theorem dL_law_954 : decode cL_law 954 = .ok (.invokevirtual 21, 3) := by decide +kernel
theorem dL_law_957 : decode cL_law 957 = .ok (.ifCond .eq 5, 3) := by decide +kernel
theorem dL_law_960 : decode cL_law 960 = .ok (.iconst 0, 1) := by decide +kernel
theorem dL_law_961 : decode cL_law 961 = .ok (.ireturn, 1) := by decide +kernel
theorem dL_law_962 : decode cL_law 962 = .ok (.aload_n 1, 1) := by decide +kernel
theorem dL_law_963 : decode cL_law 963 = .ok (.iconst 0, 1) := by decide +kernel
theorem dL_law_964 : decode cL_law 964 = .ok (.invokevirtual 47, 3) := by decide +kernel
theorem dL_law_967 : decode cL_law 967 = .ok (.istore 21, 2) := by decide +kernel
theorem dL_law_969 : decode cL_law 969 = .ok (.aload_n 1, 1) := by decide +kernel
theorem dL_law_970 : decode cL_law 970 = .ok (.iconst 0, 1) := by decide +kernel
theorem dL_law_971 : decode cL_law 971 = .ok (.iload 21, 2) := by decide +kernel
theorem dL_law_973 : decode cL_law 973 = .ok (.invokevirtual 50, 3) := by decide +kernel
theorem dL_law_976 : decode cL_law 976 = .ok (.istore 22, 2) := by decide +kernel
theorem dL_law_978 : decode cL_law 978 = .ok (.iload 21, 2) := by decide +kernel
theorem dL_law_980 : decode cL_law 980 = .ok (.iconst 1, 1) := by decide +kernel
theorem dL_law_981 : decode cL_law 981 = .ok (.if_icmp .lt 34, 3) := by decide +kernel
theorem dL_law_984 : decode cL_law 984 = .ok (.iload 21, 2) := by decide +kernel
theorem dL_law_986 : decode cL_law 986 = .ok (.iload_n 2, 1) := by decide +kernel
theorem dL_law_987 : decode cL_law 987 = .ok (.if_icmp .gt 28, 3) := by decide +kernel
theorem dL_law_990 : decode cL_law 990 = .ok (.iload 22, 2) := by decide +kernel
theorem dL_law_992 : decode cL_law 992 = .ok (.iload_n 3, 1) := by decide +kernel
theorem dL_law_993 : decode cL_law 993 = .ok (.if_icmp .gt 22, 3) := by decide +kernel
theorem dL_law_996 : decode cL_law 996 = .ok (.aload_n 1, 1) := by decide +kernel
theorem dL_law_997 : decode cL_law 997 = .ok (.iconst 0, 1) := by decide +kernel
theorem dL_law_998 : decode cL_law 998 = .ok (.iload_n 2, 1) := by decide +kernel
theorem dL_law_999 : decode cL_law 999 = .ok (.invokevirtual 50, 3) := by decide +kernel
theorem dL_law_1002 : decode cL_law 1002 = .ok (.ifCond .ne 13, 3) := by decide +kernel
theorem dL_law_1005 : decode cL_law 1005 = .ok (.aload_n 1, 1) := by decide +kernel
theorem dL_law_1006 : decode cL_law 1006 = .ok (.iconst 0, 1) := by decide +kernel
theorem dL_law_1007 : decode cL_law 1007 = .ok (.iconst 0, 1) := by decide +kernel
theorem dL_law_1008 : decode cL_law 1008 = .ok (.invokevirtual 50, 3) := by decide +kernel
theorem dL_law_1011 : decode cL_law 1011 = .ok (.iconst (-1), 1) := by decide +kernel
theorem dL_law_1012 : decode cL_law 1012 = .ok (.if_icmp .eq 5, 3) := by decide +kernel
theorem dL_law_1015 : decode cL_law 1015 = .ok (.iconst 0, 1) := by decide +kernel
theorem dL_law_1016 : decode cL_law 1016 = .ok (.ireturn, 1) := by decide +kernel
theorem dL_law_1017 : decode cL_law 1017 = .ok (.aload_n 1, 1) := by decide +kernel
theorem dL_law_1018 : decode cL_law 1018 = .ok (.aload_n 1, 1) := by decide +kernel
theorem dL_law_1019 : decode cL_law 1019 = .ok (.iconst 1, 1) := by decide +kernel
theorem dL_law_1020 : decode cL_law 1020 = .ok (.invokevirtual 38, 3) := by decide +kernel
theorem dL_law_1023 : decode cL_law 1023 = .ok (.aload_n 1, 1) := by decide +kernel
theorem dL_law_1024 : decode cL_law 1024 = .ok (.iconst 1, 1) := by decide +kernel
theorem dL_law_1025 : decode cL_law 1025 = .ok (.invokevirtual 41, 3) := by decide +kernel
theorem dL_law_1028 : decode cL_law 1028 = .ok (.invokevirtual 54, 3) := by decide +kernel
theorem dL_law_1031 : decode cL_law 1031 = .ok (.istore 23, 2) := by decide +kernel
theorem dL_law_1033 : decode cL_law 1033 = .ok (.aload_n 1, 1) := by decide +kernel
theorem dL_law_1034 : decode cL_law 1034 = .ok (.iconst 1, 1) := by decide +kernel
theorem dL_law_1035 : decode cL_law 1035 = .ok (.invokevirtual 32, 3) := by decide +kernel
theorem dL_law_1038 : decode cL_law 1038 = .ok (.ifCond .le 20, 3) := by decide +kernel
theorem dL_law_1041 : decode cL_law 1041 = .ok (.aload_n 1, 1) := by decide +kernel
theorem dL_law_1042 : decode cL_law 1042 = .ok (.iconst 1, 1) := by decide +kernel
theorem dL_law_1043 : decode cL_law 1043 = .ok (.invokevirtual 57, 3) := by decide +kernel
theorem dL_law_1046 : decode cL_law 1046 = .ok (.ifCond .le 12, 3) := by decide +kernel
theorem dL_law_1049 : decode cL_law 1049 = .ok (.iload 23, 2) := by decide +kernel
theorem dL_law_1051 : decode cL_law 1051 = .ok (.iconst 1, 1) := by decide +kernel
theorem dL_law_1052 : decode cL_law 1052 = .ok (.if_icmp .lt 49, 3) := by decide +kernel
theorem dL_law_1055 : decode cL_law 1055 = .ok (.goto 9, 3) := by decide +kernel
theorem dL_law_1058 : decode cL_law 1058 = .ok (.iload 23, 2) := by decide +kernel
theorem dL_law_1060 : decode cL_law 1060 = .ok (.iconst (-1), 1) := by decide +kernel
theorem dL_law_1061 : decode cL_law 1061 = .ok (.if_icmp .lt 40, 3) := by decide +kernel
theorem dL_law_1064 : decode cL_law 1064 = .ok (.aload_n 1, 1) := by decide +kernel
theorem dL_law_1065 : decode cL_law 1065 = .ok (.iconst 1, 1) := by decide +kernel
theorem dL_law_1066 : decode cL_law 1066 = .ok (.bipush 18, 2) := by decide +kernel
theorem dL_law_1068 : decode cL_law 1068 = .ok (.iconst 1, 1) := by decide +kernel
theorem dL_law_1069 : decode cL_law 1069 = .ok (.invokevirtual 21, 3) := by decide +kernel
theorem dL_law_1072 : decode cL_law 1072 = .ok (.ifCond .ne 29, 3) := by decide +kernel
theorem dL_law_1075 : decode cL_law 1075 = .ok (.aload_n 1, 1) := by decide +kernel
theorem dL_law_1076 : decode cL_law 1076 = .ok (.iconst 0, 1) := by decide +kernel
theorem dL_law_1077 : decode cL_law 1077 = .ok (.iconst (-1), 1) := by decide +kernel
theorem dL_law_1078 : decode cL_law 1078 = .ok (.invokevirtual 60, 3) := by decide +kernel
theorem dL_law_1081 : decode cL_law 1081 = .ok (.iload_n 2, 1) := by decide +kernel
theorem dL_law_1082 : decode cL_law 1082 = .ok (.iconst 1, 1) := by decide +kernel
theorem dL_law_1083 : decode cL_law 1083 = .ok (.isub, 1) := by decide +kernel
theorem dL_law_1084 : decode cL_law 1084 = .ok (.if_icmp .ne 17, 3) := by decide +kernel
theorem dL_law_1087 : decode cL_law 1087 = .ok (.aload_n 1, 1) := by decide +kernel
theorem dL_law_1088 : decode cL_law 1088 = .ok (.iconst 0, 1) := by decide +kernel
theorem dL_law_1089 : decode cL_law 1089 = .ok (.invokevirtual 47, 3) := by decide +kernel
theorem dL_law_1092 : decode cL_law 1092 = .ok (.iload 21, 2) := by decide +kernel
theorem dL_law_1094 : decode cL_law 1094 = .ok (.if_icmp .gt 7, 3) := by decide +kernel
theorem dL_law_1097 : decode cL_law 1097 = .ok (.iconst 1, 1) := by decide +kernel
theorem dL_law_1098 : decode cL_law 1098 = .ok (.goto 4, 3) := by decide +kernel
theorem dL_law_1101 : decode cL_law 1101 = .ok (.iconst 0, 1) := by decide +kernel
theorem dL_law_1102 : decode cL_law 1102 = .ok (.ireturn, 1) := by decide +kernel
