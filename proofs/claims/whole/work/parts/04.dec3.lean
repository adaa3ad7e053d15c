theorem dX4_takeFrom_73 : decode cX4_takeFrom 73 = .ok (.aload_n 3, 1) := by decide +kernel
theorem dX4_takeFrom_74 : decode cX4_takeFrom 74 = .ok (.getfield 84, 3) := by decide +kernel
theorem dX4_takeFrom_77 : decode cX4_takeFrom 77 = .ok (.iconst 0, 1) := by decide +kernel
theorem dX4_takeFrom_78 : decode cX4_takeFrom 78 = .ok (.bipush 20, 2) := by decide +kernel
theorem dX4_takeFrom_80 : decode cX4_takeFrom 80 = .ok (.invokestatic 91, 3) := by decide +kernel
theorem dX4_takeFrom_83 : decode cX4_takeFrom 83 = .ok (.iinc 2 1, 3) := by decide +kernel
theorem dX4_takeFrom_86 : decode cX4_takeFrom 86 = .ok (.goto (-60), 3) := by decide +kernel
theorem dX4_takeFrom_89 : decode cX4_takeFrom 89 = .ok (.return_, 1) := by decide +kernel
theorem dX5_init_0 : decode cX5_init 0 = .ok (.aload_n 0, 1) := by decide +kernel
theorem dX5_init_1 : decode cX5_init 1 = .ok (.invokespecial 1, 3) := by decide +kernel
theorem dX5_init_4 : decode cX5_init 4 = .ok (.aload_n 0, 1) := by decide +kernel
theorem dX5_init_5 : decode cX5_init 5 = .ok (.new 7, 3) := by decide +kernel
theorem dX5_init_8 : decode cX5_init 8 = .ok (.dup, 1) := by decide +kernel
theorem dX5_init_9 : decode cX5_init 9 = .ok (.invokespecial 9, 3) := by decide +kernel
theorem dX5_init_12 : decode cX5_init 12 = .ok (.putfield 10, 3) := by decide +kernel
theorem dX5_init_15 : decode cX5_init 15 = .ok (.aload_n 0, 1) := by decide +kernel
theorem dX5_init_16 : decode cX5_init 16 = .ok (.new 16, 3) := by decide +kernel
theorem dX5_init_19 : decode cX5_init 19 = .ok (.dup, 1) := by decide +kernel
theorem dX5_init_20 : decode cX5_init 20 = .ok (.aload_n 0, 1) := by decide +kernel
theorem dX5_init_21 : decode cX5_init 21 = .ok (.getfield 10, 3) := by decide +kernel
theorem dX5_init_24 : decode cX5_init 24 = .ok (.invokespecial 18, 3) := by decide +kernel
theorem dX5_init_27 : decode cX5_init 27 = .ok (.putfield 21, 3) := by decide +kernel
theorem dX5_init_30 : decode cX5_init 30 = .ok (.aload_n 0, 1) := by decide +kernel
theorem dX5_init_31 : decode cX5_init 31 = .ok (.iconst 2, 1) := by decide +kernel
theorem dX5_init_32 : decode cX5_init 32 = .ok (.anewarray 25, 3) := by decide +kernel
theorem dX5_init_35 : decode cX5_init 35 = .ok (.putfield 27, 3) := by decide +kernel
theorem dX5_init_38 : decode cX5_init 38 = .ok (.return_, 1) := by decide +kernel
theorem dX5_add_0 : decode cX5_add 0 = .ok (.aload_n 0, 1) := by decide +kernel
theorem dX5_add_1 : decode cX5_add 1 = .ok (.iload_n 1, 1) := by decide +kernel
theorem dX5_add_2 : decode cX5_add 2 = .ok (.invokevirtual 31, 3) := by decide +kernel
theorem dX5_add_5 : decode cX5_add 5 = .ok (.astore_n 2, 1) := by decide +kernel
theorem dX5_add_6 : decode cX5_add 6 = .ok (.aload_n 0, 1) := by decide +kernel
theorem dX5_add_7 : decode cX5_add 7 = .ok (.getfield 10, 3) := by decide +kernel
theorem dX5_add_10 : decode cX5_add 10 = .ok (.invokevirtual 35, 3) := by decide +kernel
theorem dX5_add_13 : decode cX5_add 13 = .ok (.ifCond .eq 13, 3) := by decide +kernel
theorem dX5_add_16 : decode cX5_add 16 = .ok (.new 39, 3) := by decide +kernel
theorem dX5_add_19 : decode cX5_add 19 = .ok (.dup, 1) := by decide +kernel
theorem dX5_add_20 : decode cX5_add 20 = .ok (.ldc 41, 2) := by decide +kernel
theorem dX5_add_22 : decode cX5_add 22 = .ok (.invokespecial 43, 3) := by decide +kernel
theorem dX5_add_25 : decode cX5_add 25 = .ok (.athrow, 1) := by decide +kernel
theorem dX5_add_26 : decode cX5_add 26 = .ok (.aload_n 0, 1) := by decide +kernel
theorem dX5_add_27 : decode cX5_add 27 = .ok (.getfield 21, 3) := by decide +kernel
theorem dX5_add_30 : decode cX5_add 30 = .ok (.iconst 1, 1) := by decide +kernel
theorem dX5_add_31 : decode cX5_add 31 = .ok (.putfield 46, 3) := by decide +kernel
theorem dX5_add_34 : decode cX5_add 34 = .ok (.aload_n 0, 1) := by decide +kernel
theorem dX5_add_35 : decode cX5_add 35 = .ok (.getfield 10, 3) := by decide +kernel
theorem dX5_add_38 : decode cX5_add 38 = .ok (.aload_n 2, 1) := by decide +kernel
theorem dX5_add_39 : decode cX5_add 39 = .ok (.invokevirtual 50, 3) := by decide +kernel
theorem dX5_add_42 : decode cX5_add 42 = .ok (.ireturn, 1) := by decide +kernel
theorem dX5_remove_0 : decode cX5_remove 0 = .ok (.aload_n 0, 1) := by decide +kernel
theorem dX5_remove_1 : decode cX5_remove 1 = .ok (.iload_n 1, 1) := by decide +kernel
theorem dX5_remove_2 : decode cX5_remove 2 = .ok (.invokevirtual 31, 3) := by decide +kernel
theorem dX5_remove_5 : decode cX5_remove 5 = .ok (.astore_n 2, 1) := by decide +kernel
theorem dX5_remove_6 : decode cX5_remove 6 = .ok (.aload_n 2, 1) := by decide +kernel
theorem dX5_remove_7 : decode cX5_remove 7 = .ok (.invokevirtual 54, 3) := by decide +kernel
theorem dX5_remove_10 : decode cX5_remove 10 = .ok (.ifCond .eq 13, 3) := by decide +kernel
theorem dX5_remove_13 : decode cX5_remove 13 = .ok (.new 59, 3) := by decide +kernel
theorem dX5_remove_16 : decode cX5_remove 16 = .ok (.dup, 1) := by decide +kernel
theorem dX5_remove_17 : decode cX5_remove 17 = .ok (.ldc 61, 2) := by decide +kernel
theorem dX5_remove_19 : decode cX5_remove 19 = .ok (.invokespecial 63, 3) := by decide +kernel
theorem dX5_remove_22 : decode cX5_remove 22 = .ok (.athrow, 1) := by decide +kernel
theorem dX5_remove_23 : decode cX5_remove 23 = .ok (.aload_n 0, 1) := by decide +kernel
theorem dX5_remove_24 : decode cX5_remove 24 = .ok (.getfield 21, 3) := by decide +kernel
theorem dX5_remove_27 : decode cX5_remove 27 = .ok (.iconst 1, 1) := by decide +kernel
theorem dX5_remove_28 : decode cX5_remove 28 = .ok (.putfield 46, 3) := by decide +kernel
theorem dX5_remove_31 : decode cX5_remove 31 = .ok (.aload_n 0, 1) := by decide +kernel
theorem dX5_remove_32 : decode cX5_remove 32 = .ok (.getfield 10, 3) := by decide +kernel
theorem dX5_remove_35 : decode cX5_remove 35 = .ok (.aload_n 2, 1) := by decide +kernel
theorem dX5_remove_36 : decode cX5_remove 36 = .ok (.invokevirtual 64, 3) := by decide +kernel
theorem dX5_remove_39 : decode cX5_remove 39 = .ok (.ireturn, 1) := by decide +kernel
theorem dX5_boxes_0 : decode cX5_boxes 0 = .ok (.aload_n 0, 1) := by decide +kernel
theorem dX5_boxes_1 : decode cX5_boxes 1 = .ok (.getfield 10, 3) := by decide +kernel
theorem dX5_boxes_4 : decode cX5_boxes 4 = .ok (.invokevirtual 67, 3) := by decide +kernel
theorem dX5_boxes_7 : decode cX5_boxes 7 = .ok (.ireturn, 1) := by decide +kernel
theorem dX5_parent_0 : decode cX5_parent 0 = .ok (.aload_n 0, 1) := by decide +kernel
theorem dX5_parent_1 : decode cX5_parent 1 = .ok (.iload_n 1, 1) := by decide +kernel
theorem dX5_parent_2 : decode cX5_parent 2 = .ok (.invokevirtual 31, 3) := by decide +kernel
theorem dX5_parent_5 : decode cX5_parent 5 = .ok (.invokevirtual 71, 3) := by decide +kernel
theorem dX5_parent_8 : decode cX5_parent 8 = .ok (.ireturn, 1) := by decide +kernel
theorem dX5_child_0 : decode cX5_child 0 = .ok (.aload_n 0, 1) := by decide +kernel
theorem dX5_child_1 : decode cX5_child 1 = .ok (.iload_n 1, 1) := by decide +kernel
theorem dX5_child_2 : decode cX5_child 2 = .ok (.invokevirtual 31, 3) := by decide +kernel
theorem dX5_child_5 : decode cX5_child 5 = .ok (.astore_n 3, 1) := by decide +kernel
theorem dX5_child_6 : decode cX5_child 6 = .ok (.aload_n 0, 1) := by decide +kernel
theorem dX5_child_7 : decode cX5_child 7 = .ok (.getfield 21, 3) := by decide +kernel
theorem dX5_child_10 : decode cX5_child 10 = .ok (.invokevirtual 74, 3) := by decide +kernel
theorem dX5_child_13 : decode cX5_child 13 = .ok (.iload_n 2, 1) := by decide +kernel
theorem dX5_child_14 : decode cX5_child 14 = .ok (.iconst (-1), 1) := by decide +kernel
theorem dX5_child_15 : decode cX5_child 15 = .ok (.if_icmp .ne 8, 3) := by decide +kernel
theorem dX5_child_18 : decode cX5_child 18 = .ok (.aload_n 3, 1) := by decide +kernel
theorem dX5_child_19 : decode cX5_child 19 = .ok (.getfield 77, 3) := by decide +kernel
theorem dX5_child_22 : decode cX5_child 22 = .ok (.ireturn, 1) := by decide +kernel
theorem dX5_child_23 : decode cX5_child 23 = .ok (.iconst 0, 1) := by decide +kernel
theorem dX5_child_24 : decode cX5_child 24 = .ok (.istore 4, 2) := by decide +kernel
theorem dX5_child_26 : decode cX5_child 26 = .ok (.aload_n 3, 1) := by decide +kernel
theorem dX5_child_27 : decode cX5_child 27 = .ok (.getfield 81, 3) := by decide +kernel
theorem dX5_child_30 : decode cX5_child 30 = .ok (.astore 5, 2) := by decide +kernel
theorem dX5_child_32 : decode cX5_child 32 = .ok (.aload 5, 2) := by decide +kernel
theorem dX5_child_34 : decode cX5_child 34 = .ok (.ifnull 28, 3) := by decide +kernel
theorem dX5_child_37 : decode cX5_child 37 = .ok (.iload 4, 2) := by decide +kernel
theorem dX5_child_39 : decode cX5_child 39 = .ok (.iload_n 2, 1) := by decide +kernel
theorem dX5_child_40 : decode cX5_child 40 = .ok (.if_icmp .ne 9, 3) := by decide +kernel
theorem dX5_child_43 : decode cX5_child 43 = .ok (.aload 5, 2) := by decide +kernel
theorem dX5_child_45 : decode cX5_child 45 = .ok (.getfield 85, 3) := by decide +kernel
theorem dX5_child_48 : decode cX5_child 48 = .ok (.ireturn, 1) := by decide +kernel
theorem dX5_child_49 : decode cX5_child 49 = .ok (.iinc 4 1, 3) := by decide +kernel
theorem dX5_child_52 : decode cX5_child 52 = .ok (.aload 5, 2) := by decide +kernel
theorem dX5_child_54 : decode cX5_child 54 = .ok (.getfield 88, 3) := by decide +kernel
theorem dX5_child_57 : decode cX5_child 57 = .ok (.astore 5, 2) := by decide +kernel
theorem dX5_child_59 : decode cX5_child 59 = .ok (.goto (-27), 3) := by decide +kernel
theorem dX5_child_62 : decode cX5_child 62 = .ok (.iconst (-1), 1) := by decide +kernel
theorem dX5_child_63 : decode cX5_child 63 = .ok (.ireturn, 1) := by decide +kernel
theorem dX5_set_0 : decode cX5_set 0 = .ok (.aload_n 0, 1) := by decide +kernel
theorem dX5_set_1 : decode cX5_set 1 = .ok (.iload_n 1, 1) := by decide +kernel
theorem dX5_set_2 : decode cX5_set 2 = .ok (.invokevirtual 31, 3) := by decide +kernel
theorem dX5_set_5 : decode cX5_set 5 = .ok (.astore 4, 2) := by decide +kernel
theorem dX5_set_7 : decode cX5_set 7 = .ok (.iload_n 2, 1) := by decide +kernel
theorem dX5_set_8 : decode cX5_set 8 = .ok (.invokestatic 91, 3) := by decide +kernel
theorem dX5_set_11 : decode cX5_set 11 = .ok (.ifCond .ne 13, 3) := by decide +kernel
theorem dX5_set_14 : decode cX5_set 14 = .ok (.new 59, 3) := by decide +kernel
theorem dX5_set_17 : decode cX5_set 17 = .ok (.dup, 1) := by decide +kernel
theorem dX5_set_18 : decode cX5_set 18 = .ok (.ldc 95, 2) := by decide +kernel
theorem dX5_set_20 : decode cX5_set 20 = .ok (.invokespecial 63, 3) := by decide +kernel
theorem dX5_set_23 : decode cX5_set 23 = .ok (.athrow, 1) := by decide +kernel
theorem dX5_set_24 : decode cX5_set 24 = .ok (.iload_n 3, 1) := by decide +kernel
theorem dX5_set_25 : decode cX5_set 25 = .ok (.getstatic 97, 3) := by decide +kernel
theorem dX5_set_28 : decode cX5_set 28 = .ok (.iload_n 2, 1) := by decide +kernel
theorem dX5_set_29 : decode cX5_set 29 = .ok (.iaload, 1) := by decide +kernel
theorem dX5_set_30 : decode cX5_set 30 = .ok (.if_icmp .lt 12, 3) := by decide +kernel
theorem dX5_set_33 : decode cX5_set 33 = .ok (.iload_n 3, 1) := by decide +kernel
theorem dX5_set_34 : decode cX5_set 34 = .ok (.getstatic 101, 3) := by decide +kernel
theorem dX5_set_37 : decode cX5_set 37 = .ok (.iload_n 2, 1) := by decide +kernel
theorem dX5_set_38 : decode cX5_set 38 = .ok (.iaload, 1) := by decide +kernel
theorem dX5_set_39 : decode cX5_set 39 = .ok (.if_icmp .le 13, 3) := by decide +kernel
theorem dX5_set_42 : decode cX5_set 42 = .ok (.new 59, 3) := by decide +kernel
theorem dX5_set_45 : decode cX5_set 45 = .ok (.dup, 1) := by decide +kernel
theorem dX5_set_46 : decode cX5_set 46 = .ok (.ldc 104, 2) := by decide +kernel
theorem dX5_set_48 : decode cX5_set 48 = .ok (.invokespecial 63, 3) := by decide +kernel
theorem dX5_set_51 : decode cX5_set 51 = .ok (.athrow, 1) := by decide +kernel
theorem dX5_set_52 : decode cX5_set 52 = .ok (.aload_n 0, 1) := by decide +kernel
theorem dX5_set_53 : decode cX5_set 53 = .ok (.getfield 21, 3) := by decide +kernel
theorem dX5_set_56 : decode cX5_set 56 = .ok (.iconst 1, 1) := by decide +kernel
theorem dX5_set_57 : decode cX5_set 57 = .ok (.putfield 46, 3) := by decide +kernel
theorem dX5_set_60 : decode cX5_set 60 = .ok (.aload 4, 2) := by decide +kernel
theorem dX5_set_62 : decode cX5_set 62 = .ok (.iload_n 2, 1) := by decide +kernel
theorem dX5_set_63 : decode cX5_set 63 = .ok (.iload_n 3, 1) := by decide +kernel
theorem dX5_set_64 : decode cX5_set 64 = .ok (.invokevirtual 106, 3) := by decide +kernel
theorem dX5_set_67 : decode cX5_set 67 = .ok (.ireturn, 1) := by decide +kernel
theorem dX5_get_0 : decode cX5_get 0 = .ok (.aload_n 0, 1) := by decide +kernel
theorem dX5_get_1 : decode cX5_get 1 = .ok (.iload_n 1, 1) := by decide +kernel
theorem dX5_get_2 : decode cX5_get 2 = .ok (.invokevirtual 31, 3) := by decide +kernel
theorem dX5_get_5 : decode cX5_get 5 = .ok (.astore_n 3, 1) := by decide +kernel
theorem dX5_get_6 : decode cX5_get 6 = .ok (.iload_n 2, 1) := by decide +kernel
theorem dX5_get_7 : decode cX5_get 7 = .ok (.invokestatic 91, 3) := by decide +kernel
theorem dX5_get_10 : decode cX5_get 10 = .ok (.ifCond .ne 13, 3) := by decide +kernel
theorem dX5_get_13 : decode cX5_get 13 = .ok (.new 59, 3) := by decide +kernel
theorem dX5_get_16 : decode cX5_get 16 = .ok (.dup, 1) := by decide +kernel
theorem dX5_get_17 : decode cX5_get 17 = .ok (.ldc 95, 2) := by decide +kernel
theorem dX5_get_19 : decode cX5_get 19 = .ok (.invokespecial 63, 3) := by decide +kernel
theorem dX5_get_22 : decode cX5_get 22 = .ok (.athrow, 1) := by decide +kernel
theorem dX5_get_23 : decode cX5_get 23 = .ok (.aload_n 3, 1) := by decide +kernel
theorem dX5_get_24 : decode cX5_get 24 = .ok (.iload_n 2, 1) := by decide +kernel
theorem dX5_get_25 : decode cX5_get 25 = .ok (.invokevirtual 110, 3) := by decide +kernel
theorem dX5_get_28 : decode cX5_get 28 = .ok (.ireturn, 1) := by decide +kernel
theorem dX5_copyStyle_0 : decode cX5_copyStyle 0 = .ok (.aload_n 0, 1) := by decide +kernel
theorem dX5_copyStyle_1 : decode cX5_copyStyle 1 = .ok (.iload_n 1, 1) := by decide +kernel
theorem dX5_copyStyle_2 : decode cX5_copyStyle 2 = .ok (.invokevirtual 31, 3) := by decide +kernel
theorem dX5_copyStyle_5 : decode cX5_copyStyle 5 = .ok (.astore_n 3, 1) := by decide +kernel
theorem dX5_copyStyle_6 : decode cX5_copyStyle 6 = .ok (.aload_n 0, 1) := by decide +kernel
theorem dX5_copyStyle_7 : decode cX5_copyStyle 7 = .ok (.iload_n 2, 1) := by decide +kernel
theorem dX5_copyStyle_8 : decode cX5_copyStyle 8 = .ok (.invokevirtual 31, 3) := by decide +kernel
theorem dX5_copyStyle_11 : decode cX5_copyStyle 11 = .ok (.astore 4, 2) := by decide +kernel
theorem dX5_copyStyle_13 : decode cX5_copyStyle 13 = .ok (.aload_n 0, 1) := by decide +kernel
theorem dX5_copyStyle_14 : decode cX5_copyStyle 14 = .ok (.getfield 21, 3) := by decide +kernel
theorem dX5_copyStyle_17 : decode cX5_copyStyle 17 = .ok (.iconst 1, 1) := by decide +kernel
theorem dX5_copyStyle_18 : decode cX5_copyStyle 18 = .ok (.putfield 46, 3) := by decide +kernel
theorem dX5_copyStyle_21 : decode cX5_copyStyle 21 = .ok (.iconst 0, 1) := by decide +kernel
theorem dX5_copyStyle_22 : decode cX5_copyStyle 22 = .ok (.istore 5, 2) := by decide +kernel
theorem dX5_copyStyle_24 : decode cX5_copyStyle 24 = .ok (.iconst 0, 1) := by decide +kernel
theorem dX5_copyStyle_25 : decode cX5_copyStyle 25 = .ok (.istore 6, 2) := by decide +kernel
theorem dX5_copyStyle_27 : decode cX5_copyStyle 27 = .ok (.iload 6, 2) := by decide +kernel
theorem dX5_copyStyle_29 : decode cX5_copyStyle 29 = .ok (.bipush 20, 2) := by decide +kernel
theorem dX5_copyStyle_31 : decode cX5_copyStyle 31 = .ok (.if_icmp .ge 55, 3) := by decide +kernel
theorem dX5_copyStyle_34 : decode cX5_copyStyle 34 = .ok (.iload 6, 2) := by decide +kernel
theorem dX5_copyStyle_36 : decode cX5_copyStyle 36 = .ok (.bipush 17, 2) := by decide +kernel
theorem dX5_copyStyle_38 : decode cX5_copyStyle 38 = .ok (.if_icmp .eq 42, 3) := by decide +kernel
theorem dX5_copyStyle_41 : decode cX5_copyStyle 41 = .ok (.iload 6, 2) := by decide +kernel
theorem dX5_copyStyle_43 : decode cX5_copyStyle 43 = .ok (.bipush 18, 2) := by decide +kernel
theorem dX5_copyStyle_45 : decode cX5_copyStyle 45 = .ok (.if_icmp .eq 35, 3) := by decide +kernel
theorem dX5_copyStyle_48 : decode cX5_copyStyle 48 = .ok (.iload 6, 2) := by decide +kernel
theorem dX5_copyStyle_50 : decode cX5_copyStyle 50 = .ok (.bipush 19, 2) := by decide +kernel
theorem dX5_copyStyle_52 : decode cX5_copyStyle 52 = .ok (.if_icmp .eq 28, 3) := by decide +kernel
theorem dX5_copyStyle_55 : decode cX5_copyStyle 55 = .ok (.aload_n 3, 1) := by decide +kernel
theorem dX5_copyStyle_56 : decode cX5_copyStyle 56 = .ok (.iload 6, 2) := by decide +kernel
theorem dX5_copyStyle_58 : decode cX5_copyStyle 58 = .ok (.invokevirtual 110, 3) := by decide +kernel
theorem dX5_copyStyle_61 : decode cX5_copyStyle 61 = .ok (.istore 7, 2) := by decide +kernel
theorem dX5_copyStyle_63 : decode cX5_copyStyle 63 = .ok (.aload 4, 2) := by decide +kernel
theorem dX5_copyStyle_65 : decode cX5_copyStyle 65 = .ok (.iload 6, 2) := by decide +kernel
theorem dX5_copyStyle_67 : decode cX5_copyStyle 67 = .ok (.iload 7, 2) := by decide +kernel
theorem dX5_copyStyle_69 : decode cX5_copyStyle 69 = .ok (.invokevirtual 106, 3) := by decide +kernel
theorem dX5_copyStyle_72 : decode cX5_copyStyle 72 = .ok (.iload 7, 2) := by decide +kernel
theorem dX5_copyStyle_74 : decode cX5_copyStyle 74 = .ok (.if_icmp .eq 6, 3) := by decide +kernel
theorem dX5_copyStyle_77 : decode cX5_copyStyle 77 = .ok (.iinc 5 1, 3) := by decide +kernel
theorem dX5_copyStyle_80 : decode cX5_copyStyle 80 = .ok (.iinc 6 1, 3) := by decide +kernel
theorem dX5_copyStyle_83 : decode cX5_copyStyle 83 = .ok (.goto (-56), 3) := by decide +kernel
theorem dX5_copyStyle_86 : decode cX5_copyStyle 86 = .ok (.iload 5, 2) := by decide +kernel
theorem dX5_copyStyle_88 : decode cX5_copyStyle 88 = .ok (.ireturn, 1) := by decide +kernel
theorem dX5_viewport_0 : decode cX5_viewport 0 = .ok (.iload_n 1, 1) := by decide +kernel
theorem dX5_viewport_1 : decode cX5_viewport 1 = .ok (.invokestatic 114, 3) := by decide +kernel
theorem dX5_viewport_4 : decode cX5_viewport 4 = .ok (.ifCond .eq 10, 3) := by decide +kernel
theorem dX5_viewport_7 : decode cX5_viewport 7 = .ok (.iload_n 2, 1) := by decide +kernel
theorem dX5_viewport_8 : decode cX5_viewport 8 = .ok (.invokestatic 114, 3) := by decide +kernel
theorem dX5_viewport_11 : decode cX5_viewport 11 = .ok (.ifCond .ne 13, 3) := by decide +kernel
theorem dX5_viewport_14 : decode cX5_viewport 14 = .ok (.new 59, 3) := by decide +kernel
theorem dX5_viewport_17 : decode cX5_viewport 17 = .ok (.dup, 1) := by decide +kernel
theorem dX5_viewport_18 : decode cX5_viewport 18 = .ok (.ldc 117, 2) := by decide +kernel
theorem dX5_viewport_20 : decode cX5_viewport 20 = .ok (.invokespecial 63, 3) := by decide +kernel
theorem dX5_viewport_23 : decode cX5_viewport 23 = .ok (.athrow, 1) := by decide +kernel
theorem dX5_viewport_24 : decode cX5_viewport 24 = .ok (.aload_n 0, 1) := by decide +kernel
theorem dX5_viewport_25 : decode cX5_viewport 25 = .ok (.getfield 21, 3) := by decide +kernel
theorem dX5_viewport_28 : decode cX5_viewport 28 = .ok (.iconst 1, 1) := by decide +kernel
theorem dX5_viewport_29 : decode cX5_viewport 29 = .ok (.putfield 46, 3) := by decide +kernel
theorem dX5_viewport_32 : decode cX5_viewport 32 = .ok (.aload_n 0, 1) := by decide +kernel
theorem dX5_viewport_33 : decode cX5_viewport 33 = .ok (.getfield 10, 3) := by decide +kernel
theorem dX5_viewport_36 : decode cX5_viewport 36 = .ok (.iload_n 1, 1) := by decide +kernel
theorem dX5_viewport_37 : decode cX5_viewport 37 = .ok (.putfield 119, 3) := by decide +kernel
theorem dX5_viewport_40 : decode cX5_viewport 40 = .ok (.aload_n 0, 1) := by decide +kernel
theorem dX5_viewport_41 : decode cX5_viewport 41 = .ok (.getfield 10, 3) := by decide +kernel
theorem dX5_viewport_44 : decode cX5_viewport 44 = .ok (.iload_n 2, 1) := by decide +kernel
theorem dX5_viewport_45 : decode cX5_viewport 45 = .ok (.putfield 122, 3) := by decide +kernel
theorem dX5_viewport_48 : decode cX5_viewport 48 = .ok (.return_, 1) := by decide +kernel
theorem dX5_x_0 : decode cX5_x 0 = .ok (.aload_n 0, 1) := by decide +kernel
theorem dX5_x_1 : decode cX5_x 1 = .ok (.aload_n 0, 1) := by decide +kernel
theorem dX5_x_2 : decode cX5_x 2 = .ok (.iload_n 1, 1) := by decide +kernel
theorem dX5_x_3 : decode cX5_x 3 = .ok (.invokevirtual 31, 3) := by decide +kernel
theorem dX5_x_6 : decode cX5_x 6 = .ok (.invokevirtual 125, 3) := by decide +kernel
theorem dX5_x_9 : decode cX5_x 9 = .ok (.getfield 129, 3) := by decide +kernel
theorem dX5_x_12 : decode cX5_x 12 = .ok (.ireturn, 1) := by decide +kernel
theorem dX5_y_0 : decode cX5_y 0 = .ok (.aload_n 0, 1) := by decide +kernel
theorem dX5_y_1 : decode cX5_y 1 = .ok (.aload_n 0, 1) := by decide +kernel
theorem dX5_y_2 : decode cX5_y 2 = .ok (.iload_n 1, 1) := by decide +kernel
theorem dX5_y_3 : decode cX5_y 3 = .ok (.invokevirtual 31, 3) := by decide +kernel
theorem dX5_y_6 : decode cX5_y 6 = .ok (.invokevirtual 125, 3) := by decide +kernel
theorem dX5_y_9 : decode cX5_y 9 = .ok (.getfield 132, 3) := by decide +kernel
theorem dX5_y_12 : decode cX5_y 12 = .ok (.ireturn, 1) := by decide +kernel
theorem dX5_width_0 : decode cX5_width 0 = .ok (.aload_n 0, 1) := by decide +kernel
theorem dX5_width_1 : decode cX5_width 1 = .ok (.aload_n 0, 1) := by decide +kernel
theorem dX5_width_2 : decode cX5_width 2 = .ok (.iload_n 1, 1) := by decide +kernel
theorem dX5_width_3 : decode cX5_width 3 = .ok (.invokevirtual 31, 3) := by decide +kernel
theorem dX5_width_6 : decode cX5_width 6 = .ok (.invokevirtual 125, 3) := by decide +kernel
theorem dX5_width_9 : decode cX5_width 9 = .ok (.getfield 135, 3) := by decide +kernel
theorem dX5_width_12 : decode cX5_width 12 = .ok (.ireturn, 1) := by decide +kernel
theorem dX5_height_0 : decode cX5_height 0 = .ok (.aload_n 0, 1) := by decide +kernel
theorem dX5_height_1 : decode cX5_height 1 = .ok (.aload_n 0, 1) := by decide +kernel
theorem dX5_height_2 : decode cX5_height 2 = .ok (.iload_n 1, 1) := by decide +kernel
theorem dX5_height_3 : decode cX5_height 3 = .ok (.invokevirtual 31, 3) := by decide +kernel
theorem dX5_height_6 : decode cX5_height 6 = .ok (.invokevirtual 125, 3) := by decide +kernel
theorem dX5_height_9 : decode cX5_height 9 = .ok (.getfield 138, 3) := by decide +kernel
theorem dX5_height_12 : decode cX5_height 12 = .ok (.ireturn, 1) := by decide +kernel
theorem dX5_naturalWidth_0 : decode cX5_naturalWidth 0 = .ok (.aload_n 0, 1) := by decide +kernel
theorem dX5_naturalWidth_1 : decode cX5_naturalWidth 1 = .ok (.aload_n 0, 1) := by decide +kernel
theorem dX5_naturalWidth_2 : decode cX5_naturalWidth 2 = .ok (.iload_n 1, 1) := by decide +kernel
theorem dX5_naturalWidth_3 : decode cX5_naturalWidth 3 = .ok (.invokevirtual 31, 3) := by decide +kernel
theorem dX5_naturalWidth_6 : decode cX5_naturalWidth 6 = .ok (.invokevirtual 125, 3) := by decide +kernel
theorem dX5_naturalWidth_9 : decode cX5_naturalWidth 9 = .ok (.getfield 141, 3) := by decide +kernel
theorem dX5_naturalWidth_12 : decode cX5_naturalWidth 12 = .ok (.ireturn, 1) := by decide +kernel
theorem dX5_naturalHeight_0 : decode cX5_naturalHeight 0 = .ok (.aload_n 0, 1) := by decide +kernel
theorem dX5_naturalHeight_1 : decode cX5_naturalHeight 1 = .ok (.aload_n 0, 1) := by decide +kernel
theorem dX5_naturalHeight_2 : decode cX5_naturalHeight 2 = .ok (.iload_n 1, 1) := by decide +kernel
theorem dX5_naturalHeight_3 : decode cX5_naturalHeight 3 = .ok (.invokevirtual 31, 3) := by decide +kernel
theorem dX5_naturalHeight_6 : decode cX5_naturalHeight 6 = .ok (.invokevirtual 125, 3) := by decide +kernel
theorem dX5_naturalHeight_9 : decode cX5_naturalHeight 9 = .ok (.getfield 144, 3) := by decide +kernel
theorem dX5_naturalHeight_12 : decode cX5_naturalHeight 12 = .ok (.ireturn, 1) := by decide +kernel
theorem dX5_lines_0 : decode cX5_lines 0 = .ok (.aload_n 0, 1) := by decide +kernel
theorem dX5_lines_1 : decode cX5_lines 1 = .ok (.aload_n 0, 1) := by decide +kernel
theorem dX5_lines_2 : decode cX5_lines 2 = .ok (.iload_n 1, 1) := by decide +kernel
theorem dX5_lines_3 : decode cX5_lines 3 = .ok (.invokevirtual 31, 3) := by decide +kernel
theorem dX5_lines_6 : decode cX5_lines 6 = .ok (.invokevirtual 125, 3) := by decide +kernel
theorem dX5_lines_9 : decode cX5_lines 9 = .ok (.getfield 147, 3) := by decide +kernel
theorem dX5_lines_12 : decode cX5_lines 12 = .ok (.ireturn, 1) := by decide +kernel
theorem dX5_lineOf_0 : decode cX5_lineOf 0 = .ok (.aload_n 0, 1) := by decide +kernel
theorem dX5_lineOf_1 : decode cX5_lineOf 1 = .ok (.aload_n 0, 1) := by decide +kernel
theorem dX5_lineOf_2 : decode cX5_lineOf 2 = .ok (.iload_n 1, 1) := by decide +kernel
theorem dX5_lineOf_3 : decode cX5_lineOf 3 = .ok (.invokevirtual 31, 3) := by decide +kernel
theorem dX5_lineOf_6 : decode cX5_lineOf 6 = .ok (.invokevirtual 125, 3) := by decide +kernel
theorem dX5_lineOf_9 : decode cX5_lineOf 9 = .ok (.getfield 150, 3) := by decide +kernel
theorem dX5_lineOf_12 : decode cX5_lineOf 12 = .ok (.ireturn, 1) := by decide +kernel
theorem dX5_overflow_0 : decode cX5_overflow 0 = .ok (.aload_n 0, 1) := by decide +kernel
theorem dX5_overflow_1 : decode cX5_overflow 1 = .ok (.aload_n 0, 1) := by decide +kernel
theorem dX5_overflow_2 : decode cX5_overflow 2 = .ok (.iload_n 1, 1) := by decide +kernel
theorem dX5_overflow_3 : decode cX5_overflow 3 = .ok (.invokevirtual 31, 3) := by decide +kernel
theorem dX5_overflow_6 : decode cX5_overflow 6 = .ok (.invokevirtual 125, 3) := by decide +kernel
theorem dX5_overflow_9 : decode cX5_overflow 9 = .ok (.astore_n 2, 1) := by decide +kernel
theorem dX5_overflow_10 : decode cX5_overflow 10 = .ok (.aload_n 2, 1) := by decide +kernel
theorem dX5_overflow_11 : decode cX5_overflow 11 = .ok (.getfield 153, 3) := by decide +kernel
theorem dX5_overflow_14 : decode cX5_overflow 14 = .ok (.ifCond .eq 10, 3) := by decide +kernel
theorem dX5_overflow_17 : decode cX5_overflow 17 = .ok (.aload_n 2, 1) := by decide +kernel
theorem dX5_overflow_18 : decode cX5_overflow 18 = .ok (.invokestatic 156, 3) := by decide +kernel
theorem dX5_overflow_21 : decode cX5_overflow 21 = .ok (.goto 7, 3) := by decide +kernel
theorem dX5_overflow_24 : decode cX5_overflow 24 = .ok (.aload_n 2, 1) := by decide +kernel
theorem dX5_overflow_25 : decode cX5_overflow 25 = .ok (.invokestatic 159, 3) := by decide +kernel
theorem dX5_overflow_28 : decode cX5_overflow 28 = .ok (.ireturn, 1) := by decide +kernel
theorem dX5_hit_0 : decode cX5_hit 0 = .ok (.aload_n 0, 1) := by decide +kernel
theorem dX5_hit_1 : decode cX5_hit 1 = .ok (.getfield 21, 3) := by decide +kernel
theorem dX5_hit_4 : decode cX5_hit 4 = .ok (.invokevirtual 74, 3) := by decide +kernel
theorem dX5_hit_7 : decode cX5_hit 7 = .ok (.aload_n 0, 1) := by decide +kernel
theorem dX5_hit_8 : decode cX5_hit 8 = .ok (.getfield 21, 3) := by decide +kernel
theorem dX5_hit_11 : decode cX5_hit 11 = .ok (.iload_n 1, 1) := by decide +kernel
theorem dX5_hit_12 : decode cX5_hit 12 = .ok (.iload_n 2, 1) := by decide +kernel
theorem dX5_hit_13 : decode cX5_hit 13 = .ok (.invokevirtual 162, 3) := by decide +kernel
theorem dX5_hit_16 : decode cX5_hit 16 = .ok (.ireturn, 1) := by decide +kernel
theorem dX5_widthFor_0 : decode cX5_widthFor 0 = .ok (.aload_n 0, 1) := by decide +kernel
theorem dX5_widthFor_1 : decode cX5_widthFor 1 = .ok (.iload_n 1, 1) := by decide +kernel
theorem dX5_widthFor_2 : decode cX5_widthFor 2 = .ok (.invokevirtual 31, 3) := by decide +kernel
theorem dX5_widthFor_5 : decode cX5_widthFor 5 = .ok (.astore_n 3, 1) := by decide +kernel
theorem dX5_widthFor_6 : decode cX5_widthFor 6 = .ok (.iload_n 2, 1) := by decide +kernel
theorem dX5_widthFor_7 : decode cX5_widthFor 7 = .ok (.ifCond .lt 9, 3) := by decide +kernel
theorem dX5_widthFor_10 : decode cX5_widthFor 10 = .ok (.iload_n 2, 1) := by decide +kernel
theorem dX5_widthFor_11 : decode cX5_widthFor 11 = .ok (.bipush 100, 2) := by decide +kernel
theorem dX5_widthFor_13 : decode cX5_widthFor 13 = .ok (.if_icmp .le 13, 3) := by decide +kernel
theorem dX5_widthFor_16 : decode cX5_widthFor 16 = .ok (.new 59, 3) := by decide +kernel
theorem dX5_widthFor_19 : decode cX5_widthFor 19 = .ok (.dup, 1) := by decide +kernel
theorem dX5_widthFor_20 : decode cX5_widthFor 20 = .ok (.ldc 165, 2) := by decide +kernel
theorem dX5_widthFor_22 : decode cX5_widthFor 22 = .ok (.invokespecial 63, 3) := by decide +kernel
theorem dX5_widthFor_25 : decode cX5_widthFor 25 = .ok (.athrow, 1) := by decide +kernel
theorem dX5_widthFor_26 : decode cX5_widthFor 26 = .ok (.aload_n 0, 1) := by decide +kernel
theorem dX5_widthFor_27 : decode cX5_widthFor 27 = .ok (.aload_n 3, 1) := by decide +kernel
theorem dX5_widthFor_28 : decode cX5_widthFor 28 = .ok (.invokevirtual 125, 3) := by decide +kernel
theorem dX5_widthFor_31 : decode cX5_widthFor 31 = .ok (.pop, 1) := by decide +kernel
theorem dX5_widthFor_32 : decode cX5_widthFor 32 = .ok (.aload_n 0, 1) := by decide +kernel
theorem dX5_widthFor_33 : decode cX5_widthFor 33 = .ok (.getfield 21, 3) := by decide +kernel
theorem dX5_widthFor_36 : decode cX5_widthFor 36 = .ok (.iconst 1, 1) := by decide +kernel
theorem dX5_widthFor_37 : decode cX5_widthFor 37 = .ok (.putfield 46, 3) := by decide +kernel
theorem dX5_widthFor_40 : decode cX5_widthFor 40 = .ok (.aload_n 0, 1) := by decide +kernel
theorem dX5_widthFor_41 : decode cX5_widthFor 41 = .ok (.getfield 21, 3) := by decide +kernel
theorem dX5_widthFor_44 : decode cX5_widthFor 44 = .ok (.aload_n 3, 1) := by decide +kernel
theorem dX5_widthFor_45 : decode cX5_widthFor 45 = .ok (.iload_n 2, 1) := by decide +kernel
theorem dX5_widthFor_46 : decode cX5_widthFor 46 = .ok (.invokevirtual 167, 3) := by decide +kernel
theorem dX5_widthFor_49 : decode cX5_widthFor 49 = .ok (.ireturn, 1) := by decide +kernel
theorem dX5_save_0 : decode cX5_save 0 = .ok (.iload_n 1, 1) := by decide +kernel
theorem dX5_save_1 : decode cX5_save 1 = .ok (.ifCond .lt 8, 3) := by decide +kernel
theorem dX5_save_4 : decode cX5_save 4 = .ok (.iload_n 1, 1) := by decide +kernel
theorem dX5_save_5 : decode cX5_save 5 = .ok (.iconst 2, 1) := by decide +kernel
theorem dX5_save_6 : decode cX5_save 6 = .ok (.if_icmp .lt 13, 3) := by decide +kernel
theorem dX5_save_9 : decode cX5_save 9 = .ok (.new 59, 3) := by decide +kernel
theorem dX5_save_12 : decode cX5_save 12 = .ok (.dup, 1) := by decide +kernel
theorem dX5_save_13 : decode cX5_save 13 = .ok (.ldc 171, 2) := by decide +kernel
theorem dX5_save_15 : decode cX5_save 15 = .ok (.invokespecial 63, 3) := by decide +kernel
theorem dX5_save_18 : decode cX5_save 18 = .ok (.athrow, 1) := by decide +kernel
theorem dX5_save_19 : decode cX5_save 19 = .ok (.aload_n 0, 1) := by decide +kernel
theorem dX5_save_20 : decode cX5_save 20 = .ok (.getfield 27, 3) := by decide +kernel
theorem dX5_save_23 : decode cX5_save 23 = .ok (.iload_n 1, 1) := by decide +kernel
theorem dX5_save_24 : decode cX5_save 24 = .ok (.aaload, 1) := by decide +kernel
theorem dX5_save_25 : decode cX5_save 25 = .ok (.astore_n 2, 1) := by decide +kernel
theorem dX5_save_26 : decode cX5_save 26 = .ok (.aload_n 2, 1) := by decide +kernel
theorem dX5_save_27 : decode cX5_save 27 = .ok (.ifnonnull 18, 3) := by decide +kernel
theorem dX5_save_30 : decode cX5_save 30 = .ok (.new 25, 3) := by decide +kernel
theorem dX5_save_33 : decode cX5_save 33 = .ok (.dup, 1) := by decide +kernel
theorem dX5_save_34 : decode cX5_save 34 = .ok (.invokespecial 173, 3) := by decide +kernel
theorem dX5_save_37 : decode cX5_save 37 = .ok (.astore_n 2, 1) := by decide +kernel
theorem dX5_save_38 : decode cX5_save 38 = .ok (.aload_n 0, 1) := by decide +kernel
theorem dX5_save_39 : decode cX5_save 39 = .ok (.getfield 27, 3) := by decide +kernel
theorem dX5_save_42 : decode cX5_save 42 = .ok (.iload_n 1, 1) := by decide +kernel
theorem dX5_save_43 : decode cX5_save 43 = .ok (.aload_n 2, 1) := by decide +kernel
theorem dX5_save_44 : decode cX5_save 44 = .ok (.aastore, 1) := by decide +kernel
theorem dX5_save_45 : decode cX5_save 45 = .ok (.aload_n 0, 1) := by decide +kernel
theorem dX5_save_46 : decode cX5_save 46 = .ok (.getfield 10, 3) := by decide +kernel
theorem dX5_save_49 : decode cX5_save 49 = .ok (.aload_n 2, 1) := by decide +kernel
theorem dX5_save_50 : decode cX5_save 50 = .ok (.invokevirtual 174, 3) := by decide +kernel
theorem dX5_save_53 : decode cX5_save 53 = .ok (.return_, 1) := by decide +kernel
theorem dX5_restore_0 : decode cX5_restore 0 = .ok (.iload_n 1, 1) := by decide +kernel
theorem dX5_restore_1 : decode cX5_restore 1 = .ok (.ifCond .lt 8, 3) := by decide +kernel
theorem dX5_restore_4 : decode cX5_restore 4 = .ok (.iload_n 1, 1) := by decide +kernel
theorem dX5_restore_5 : decode cX5_restore 5 = .ok (.iconst 2, 1) := by decide +kernel
theorem dX5_restore_6 : decode cX5_restore 6 = .ok (.if_icmp .lt 13, 3) := by decide +kernel
theorem dX5_restore_9 : decode cX5_restore 9 = .ok (.new 59, 3) := by decide +kernel
theorem dX5_restore_12 : decode cX5_restore 12 = .ok (.dup, 1) := by decide +kernel
theorem dX5_restore_13 : decode cX5_restore 13 = .ok (.ldc 171, 2) := by decide +kernel
theorem dX5_restore_15 : decode cX5_restore 15 = .ok (.invokespecial 63, 3) := by decide +kernel
theorem dX5_restore_18 : decode cX5_restore 18 = .ok (.athrow, 1) := by decide +kernel
theorem dX5_restore_19 : decode cX5_restore 19 = .ok (.aload_n 0, 1) := by decide +kernel
theorem dX5_restore_20 : decode cX5_restore 20 = .ok (.getfield 27, 3) := by decide +kernel
theorem dX5_restore_23 : decode cX5_restore 23 = .ok (.iload_n 1, 1) := by decide +kernel
theorem dX5_restore_24 : decode cX5_restore 24 = .ok (.aaload, 1) := by decide +kernel
theorem dX5_restore_25 : decode cX5_restore 25 = .ok (.astore_n 2, 1) := by decide +kernel
theorem dX5_restore_26 : decode cX5_restore 26 = .ok (.aload_n 2, 1) := by decide +kernel
theorem dX5_restore_27 : decode cX5_restore 27 = .ok (.ifnonnull 13, 3) := by decide +kernel
theorem dX5_restore_30 : decode cX5_restore 30 = .ok (.new 39, 3) := by decide +kernel
theorem dX5_restore_33 : decode cX5_restore 33 = .ok (.dup, 1) := by decide +kernel
theorem dX5_restore_34 : decode cX5_restore 34 = .ok (.ldc 178, 2) := by decide +kernel
theorem dX5_restore_36 : decode cX5_restore 36 = .ok (.invokespecial 43, 3) := by decide +kernel
theorem dX5_restore_39 : decode cX5_restore 39 = .ok (.athrow, 1) := by decide +kernel
theorem dX5_restore_40 : decode cX5_restore 40 = .ok (.aload_n 0, 1) := by decide +kernel
theorem dX5_restore_41 : decode cX5_restore 41 = .ok (.getfield 21, 3) := by decide +kernel
theorem dX5_restore_44 : decode cX5_restore 44 = .ok (.iconst 1, 1) := by decide +kernel
theorem dX5_restore_45 : decode cX5_restore 45 = .ok (.putfield 46, 3) := by decide +kernel
theorem dX5_restore_48 : decode cX5_restore 48 = .ok (.aload_n 0, 1) := by decide +kernel
theorem dX5_restore_49 : decode cX5_restore 49 = .ok (.getfield 10, 3) := by decide +kernel
theorem dX5_restore_52 : decode cX5_restore 52 = .ok (.aload_n 2, 1) := by decide +kernel
theorem dX5_restore_53 : decode cX5_restore 53 = .ok (.invokevirtual 180, 3) := by decide +kernel
theorem dX5_restore_56 : decode cX5_restore 56 = .ok (.return_, 1) := by decide +kernel
theorem dX5_existing_0 : decode cX5_existing 0 = .ok (.aload_n 0, 1) := by decide +kernel
theorem dX5_existing_1 : decode cX5_existing 1 = .ok (.getfield 10, 3) := by decide +kernel
theorem dX5_existing_4 : decode cX5_existing 4 = .ok (.iload_n 1, 1) := by decide +kernel
theorem dX5_existing_5 : decode cX5_existing 5 = .ok (.invokevirtual 183, 3) := by decide +kernel
theorem dX5_existing_8 : decode cX5_existing 8 = .ok (.astore_n 2, 1) := by decide +kernel
theorem dX5_existing_9 : decode cX5_existing 9 = .ok (.aload_n 2, 1) := by decide +kernel
theorem dX5_existing_10 : decode cX5_existing 10 = .ok (.ifnull 10, 3) := by decide +kernel
theorem dX5_existing_13 : decode cX5_existing 13 = .ok (.aload_n 2, 1) := by decide +kernel
theorem dX5_existing_14 : decode cX5_existing 14 = .ok (.getfield 186, 3) := by decide +kernel
theorem dX5_existing_17 : decode cX5_existing 17 = .ok (.ifCond .ne 13, 3) := by decide +kernel
theorem dX5_existing_20 : decode cX5_existing 20 = .ok (.new 189, 3) := by decide +kernel
theorem dX5_existing_23 : decode cX5_existing 23 = .ok (.dup, 1) := by decide +kernel
theorem dX5_existing_24 : decode cX5_existing 24 = .ok (.ldc 191, 2) := by decide +kernel
theorem dX5_existing_26 : decode cX5_existing 26 = .ok (.invokespecial 193, 3) := by decide +kernel
theorem dX5_existing_29 : decode cX5_existing 29 = .ok (.athrow, 1) := by decide +kernel
theorem dX5_existing_30 : decode cX5_existing 30 = .ok (.aload_n 2, 1) := by decide +kernel
theorem dX5_existing_31 : decode cX5_existing 31 = .ok (.areturn, 1) := by decide +kernel
theorem dX5_laidOut_0 : decode cX5_laidOut 0 = .ok (.aload_n 0, 1) := by decide +kernel
theorem dX5_laidOut_1 : decode cX5_laidOut 1 = .ok (.getfield 21, 3) := by decide +kernel
theorem dX5_laidOut_4 : decode cX5_laidOut 4 = .ok (.invokevirtual 74, 3) := by decide +kernel
theorem dX5_laidOut_7 : decode cX5_laidOut 7 = .ok (.aload_n 1, 1) := by decide +kernel
theorem dX5_laidOut_8 : decode cX5_laidOut 8 = .ok (.getfield 194, 3) := by decide +kernel
theorem dX5_laidOut_11 : decode cX5_laidOut 11 = .ok (.ifCond .ne 13, 3) := by decide +kernel
theorem dX5_laidOut_14 : decode cX5_laidOut 14 = .ok (.new 39, 3) := by decide +kernel
theorem dX5_laidOut_17 : decode cX5_laidOut 17 = .ok (.dup, 1) := by decide +kernel
theorem dX5_laidOut_18 : decode cX5_laidOut 18 = .ok (.ldc 197, 2) := by decide +kernel
theorem dX5_laidOut_20 : decode cX5_laidOut 20 = .ok (.invokespecial 43, 3) := by decide +kernel
theorem dX5_laidOut_23 : decode cX5_laidOut 23 = .ok (.athrow, 1) := by decide +kernel
theorem dX5_laidOut_24 : decode cX5_laidOut 24 = .ok (.aload_n 1, 1) := by decide +kernel
theorem dX5_laidOut_25 : decode cX5_laidOut 25 = .ok (.areturn, 1) := by decide +kernel
theorem dX5_isProperty_0 : decode cX5_isProperty 0 = .ok (.iload_n 0, 1) := by decide +kernel
theorem dX5_isProperty_1 : decode cX5_isProperty 1 = .ok (.ifCond .lt 13, 3) := by decide +kernel
theorem dX5_isProperty_4 : decode cX5_isProperty 4 = .ok (.iload_n 0, 1) := by decide +kernel
theorem dX5_isProperty_5 : decode cX5_isProperty 5 = .ok (.bipush 20, 2) := by decide +kernel
theorem dX5_isProperty_7 : decode cX5_isProperty 7 = .ok (.if_icmp .ge 7, 3) := by decide +kernel
theorem dX5_isProperty_10 : decode cX5_isProperty 10 = .ok (.iconst 1, 1) := by decide +kernel
theorem dX5_isProperty_11 : decode cX5_isProperty 11 = .ok (.goto 4, 3) := by decide +kernel
theorem dX5_isProperty_14 : decode cX5_isProperty 14 = .ok (.iconst 0, 1) := by decide +kernel
theorem dX5_isProperty_15 : decode cX5_isProperty 15 = .ok (.ireturn, 1) := by decide +kernel
theorem dX5_isViewportLength_0 : decode cX5_isViewportLength 0 = .ok (.iload_n 0, 1) := by decide +kernel
theorem dX5_isViewportLength_1 : decode cX5_isViewportLength 1 = .ok (.ifCond .lt 14, 3) := by decide +kernel
theorem dX5_isViewportLength_4 : decode cX5_isViewportLength 4 = .ok (.iload_n 0, 1) := by decide +kernel
theorem dX5_isViewportLength_5 : decode cX5_isViewportLength 5 = .ok (.sipush 2000, 3) := by decide +kernel
theorem dX5_isViewportLength_8 : decode cX5_isViewportLength 8 = .ok (.if_icmp .gt 7, 3) := by decide +kernel
theorem dX5_isViewportLength_11 : decode cX5_isViewportLength 11 = .ok (.iconst 1, 1) := by decide +kernel
theorem dX5_isViewportLength_12 : decode cX5_isViewportLength 12 = .ok (.goto 4, 3) := by decide +kernel
theorem dX5_isViewportLength_15 : decode cX5_isViewportLength 15 = .ok (.iconst 0, 1) := by decide +kernel
theorem dX5_isViewportLength_16 : decode cX5_isViewportLength 16 = .ok (.ireturn, 1) := by decide +kernel
theorem dX5_limited_0 : decode cX5_limited 0 = .ok (.iload_n 0, 1) := by decide +kernel
theorem dX5_limited_1 : decode cX5_limited 1 = .ok (.iload_n 2, 1) := by decide +kernel
theorem dX5_limited_2 : decode cX5_limited 2 = .ok (.if_icmp .ge 7, 3) := by decide +kernel
theorem dX5_limited_5 : decode cX5_limited 5 = .ok (.iload_n 0, 1) := by decide +kernel
theorem dX5_limited_6 : decode cX5_limited 6 = .ok (.goto 4, 3) := by decide +kernel
theorem dX5_limited_9 : decode cX5_limited 9 = .ok (.iload_n 2, 1) := by decide +kernel
theorem dX5_limited_10 : decode cX5_limited 10 = .ok (.istore_n 3, 1) := by decide +kernel
theorem dX5_limited_11 : decode cX5_limited 11 = .ok (.iload_n 3, 1) := by decide +kernel
theorem dX5_limited_12 : decode cX5_limited 12 = .ok (.iload_n 1, 1) := by decide +kernel
theorem dX5_limited_13 : decode cX5_limited 13 = .ok (.if_icmp .le 7, 3) := by decide +kernel
theorem dX5_limited_16 : decode cX5_limited 16 = .ok (.iload_n 3, 1) := by decide +kernel
theorem dX5_limited_17 : decode cX5_limited 17 = .ok (.goto 4, 3) := by decide +kernel
theorem dX5_limited_20 : decode cX5_limited 20 = .ok (.iload_n 1, 1) := by decide +kernel
theorem dX5_limited_21 : decode cX5_limited 21 = .ok (.ireturn, 1) := by decide +kernel
theorem dX5_gaps_0 : decode cX5_gaps 0 = .ok (.iload_n 0, 1) := by decide +kernel
theorem dX5_gaps_1 : decode cX5_gaps 1 = .ok (.iconst 1, 1) := by decide +kernel
theorem dX5_gaps_2 : decode cX5_gaps 2 = .ok (.if_icmp .le 11, 3) := by decide +kernel
theorem dX5_gaps_5 : decode cX5_gaps 5 = .ok (.iload_n 0, 1) := by decide +kernel
theorem dX5_gaps_6 : decode cX5_gaps 6 = .ok (.iconst 1, 1) := by decide +kernel
theorem dX5_gaps_7 : decode cX5_gaps 7 = .ok (.isub, 1) := by decide +kernel
theorem dX5_gaps_8 : decode cX5_gaps 8 = .ok (.iload_n 1, 1) := by decide +kernel
theorem dX5_gaps_9 : decode cX5_gaps 9 = .ok (.imul, 1) := by decide +kernel
theorem dX5_gaps_10 : decode cX5_gaps 10 = .ok (.goto 4, 3) := by decide +kernel
theorem dX5_gaps_13 : decode cX5_gaps 13 = .ok (.iconst 0, 1) := by decide +kernel
theorem dX5_gaps_14 : decode cX5_gaps 14 = .ok (.ireturn, 1) := by decide +kernel
theorem dX6_init_0 : decode cX6_init 0 = .ok (.aload_n 0, 1) := by decide +kernel
theorem dX6_init_1 : decode cX6_init 1 = .ok (.invokespecial 1, 3) := by decide +kernel
theorem dX6_init_4 : decode cX6_init 4 = .ok (.aload_n 0, 1) := by decide +kernel
theorem dX6_init_5 : decode cX6_init 5 = .ok (.sipush 843, 3) := by decide +kernel
theorem dX6_init_8 : decode cX6_init 8 = .ok (.newarray .int, 2) := by decide +kernel
theorem dX6_init_10 : decode cX6_init 10 = .ok (.putfield 7, 3) := by decide +kernel
theorem dX6_init_13 : decode cX6_init 13 = .ok (.aload_n 0, 1) := by decide +kernel
theorem dX6_init_14 : decode cX6_init 14 = .ok (.sipush 1686, 3) := by decide +kernel
theorem dX6_init_17 : decode cX6_init 17 = .ok (.newarray .int, 2) := by decide +kernel
theorem dX6_init_19 : decode cX6_init 19 = .ok (.putfield 13, 3) := by decide +kernel
theorem dX6_init_22 : decode cX6_init 22 = .ok (.aload_n 0, 1) := by decide +kernel
theorem dX6_init_23 : decode cX6_init 23 = .ok (.iconst 2, 1) := by decide +kernel
theorem dX6_init_24 : decode cX6_init 24 = .ok (.newarray .boolean, 2) := by decide +kernel
theorem dX6_init_26 : decode cX6_init 26 = .ok (.putfield 16, 3) := by decide +kernel
theorem dX6_init_29 : decode cX6_init 29 = .ok (.aload_n 0, 1) := by decide +kernel
theorem dX6_init_30 : decode cX6_init 30 = .ok (.bipush 40, 2) := by decide +kernel
theorem dX6_init_32 : decode cX6_init 32 = .ok (.newarray .int, 2) := by decide +kernel
theorem dX6_init_34 : decode cX6_init 34 = .ok (.putfield 20, 3) := by decide +kernel
theorem dX6_init_37 : decode cX6_init 37 = .ok (.aload_n 0, 1) := by decide +kernel
theorem dX6_init_38 : decode cX6_init 38 = .ok (.bipush 40, 2) := by decide +kernel
theorem dX6_init_40 : decode cX6_init 40 = .ok (.newarray .boolean, 2) := by decide +kernel
theorem dX6_init_42 : decode cX6_init 42 = .ok (.putfield 23, 3) := by decide +kernel
theorem dX6_init_45 : decode cX6_init 45 = .ok (.aload_n 0, 1) := by decide +kernel
theorem dX6_init_46 : decode cX6_init 46 = .ok (.bipush 80, 2) := by decide +kernel
theorem dX6_init_48 : decode cX6_init 48 = .ok (.newarray .int, 2) := by decide +kernel
theorem dX6_init_50 : decode cX6_init 50 = .ok (.putfield 26, 3) := by decide +kernel
theorem dX6_init_53 : decode cX6_init 53 = .ok (.aload_n 0, 1) := by decide +kernel
theorem dX6_init_54 : decode cX6_init 54 = .ok (.bipush 80, 2) := by decide +kernel
theorem dX6_init_56 : decode cX6_init 56 = .ok (.newarray .int, 2) := by decide +kernel
theorem dX6_init_58 : decode cX6_init 58 = .ok (.putfield 29, 3) := by decide +kernel
theorem dX6_init_61 : decode cX6_init 61 = .ok (.aload_n 0, 1) := by decide +kernel
theorem dX6_init_62 : decode cX6_init 62 = .ok (.bipush 80, 2) := by decide +kernel
theorem dX6_init_64 : decode cX6_init 64 = .ok (.newarray .int, 2) := by decide +kernel
theorem dX6_init_66 : decode cX6_init 66 = .ok (.putfield 32, 3) := by decide +kernel
theorem dX6_init_69 : decode cX6_init 69 = .ok (.aload_n 0, 1) := by decide +kernel
theorem dX6_init_70 : decode cX6_init 70 = .ok (.bipush 40, 2) := by decide +kernel
theorem dX6_init_72 : decode cX6_init 72 = .ok (.newarray .int, 2) := by decide +kernel
theorem dX6_init_74 : decode cX6_init 74 = .ok (.putfield 35, 3) := by decide +kernel
theorem dX6_init_77 : decode cX6_init 77 = .ok (.aload_n 0, 1) := by decide +kernel
theorem dX6_init_78 : decode cX6_init 78 = .ok (.bipush 40, 2) := by decide +kernel
theorem dX6_init_80 : decode cX6_init 80 = .ok (.newarray .int, 2) := by decide +kernel
theorem dX6_init_82 : decode cX6_init 82 = .ok (.putfield 38, 3) := by decide +kernel
theorem dX6_init_85 : decode cX6_init 85 = .ok (.aload_n 0, 1) := by decide +kernel
theorem dX6_init_86 : decode cX6_init 86 = .ok (.bipush 40, 2) := by decide +kernel
theorem dX6_init_88 : decode cX6_init 88 = .ok (.newarray .boolean, 2) := by decide +kernel
theorem dX6_init_90 : decode cX6_init 90 = .ok (.putfield 41, 3) := by decide +kernel
theorem dX6_init_93 : decode cX6_init 93 = .ok (.aload_n 0, 1) := by decide +kernel
theorem dX6_init_94 : decode cX6_init 94 = .ok (.bipush 40, 2) := by decide +kernel
theorem dX6_init_96 : decode cX6_init 96 = .ok (.newarray .long, 2) := by decide +kernel
theorem dX6_init_98 : decode cX6_init 98 = .ok (.putfield 44, 3) := by decide +kernel
theorem dX6_init_101 : decode cX6_init 101 = .ok (.aload_n 0, 1) := by decide +kernel
theorem dX6_init_102 : decode cX6_init 102 = .ok (.bipush 40, 2) := by decide +kernel
theorem dX6_init_104 : decode cX6_init 104 = .ok (.newarray .int, 2) := by decide +kernel
theorem dX6_init_106 : decode cX6_init 106 = .ok (.putfield 48, 3) := by decide +kernel
theorem dX6_init_109 : decode cX6_init 109 = .ok (.aload_n 0, 1) := by decide +kernel
theorem dX6_init_110 : decode cX6_init 110 = .ok (.bipush 41, 2) := by decide +kernel
theorem dX6_init_112 : decode cX6_init 112 = .ok (.newarray .int, 2) := by decide +kernel
theorem dX6_init_114 : decode cX6_init 114 = .ok (.putfield 51, 3) := by decide +kernel
theorem dX6_init_117 : decode cX6_init 117 = .ok (.aload_n 0, 1) := by decide +kernel
theorem dX6_init_118 : decode cX6_init 118 = .ok (.getfield 7, 3) := by decide +kernel
theorem dX6_init_121 : decode cX6_init 121 = .ok (.iconst 1, 1) := by decide +kernel
theorem dX6_init_122 : decode cX6_init 122 = .ok (.sipush 800, 3) := by decide +kernel
theorem dX6_init_125 : decode cX6_init 125 = .ok (.iastore, 1) := by decide +kernel
theorem dX6_init_126 : decode cX6_init 126 = .ok (.aload_n 0, 1) := by decide +kernel
theorem dX6_init_127 : decode cX6_init 127 = .ok (.getfield 7, 3) := by decide +kernel
theorem dX6_init_130 : decode cX6_init 130 = .ok (.iconst 2, 1) := by decide +kernel
theorem dX6_init_131 : decode cX6_init 131 = .ok (.sipush 600, 3) := by decide +kernel
theorem dX6_init_134 : decode cX6_init 134 = .ok (.iastore, 1) := by decide +kernel
theorem dX6_init_135 : decode cX6_init 135 = .ok (.aload_n 0, 1) := by decide +kernel
theorem dX6_init_136 : decode cX6_init 136 = .ok (.iconst (-1), 1) := by decide +kernel
theorem dX6_init_137 : decode cX6_init 137 = .ok (.invokevirtual 54, 3) := by decide +kernel
theorem dX6_init_140 : decode cX6_init 140 = .ok (.pop, 1) := by decide +kernel
theorem dX6_init_141 : decode cX6_init 141 = .ok (.return_, 1) := by decide +kernel
theorem dX6_thrown_0 : decode cX6_thrown 0 = .ok (.aload_n 0, 1) := by decide +kernel
theorem dX6_thrown_1 : decode cX6_thrown 1 = .ok (.getfield 58, 3) := by decide +kernel
theorem dX6_thrown_4 : decode cX6_thrown 4 = .ok (.ireturn, 1) := by decide +kernel
theorem dX6_in_0 : decode cX6_in 0 = .ok (.iload_n 0, 1) := by decide +kernel
theorem dX6_in_1 : decode cX6_in 1 = .ok (.iload_n 1, 1) := by decide +kernel
theorem dX6_in_2 : decode cX6_in 2 = .ok (.if_icmp .lt 12, 3) := by decide +kernel
theorem dX6_in_5 : decode cX6_in 5 = .ok (.iload_n 0, 1) := by decide +kernel
theorem dX6_in_6 : decode cX6_in 6 = .ok (.iload_n 2, 1) := by decide +kernel
theorem dX6_in_7 : decode cX6_in 7 = .ok (.if_icmp .gt 7, 3) := by decide +kernel
theorem dX6_in_10 : decode cX6_in 10 = .ok (.iconst 1, 1) := by decide +kernel
theorem dX6_in_11 : decode cX6_in 11 = .ok (.goto 4, 3) := by decide +kernel
theorem dX6_in_14 : decode cX6_in 14 = .ok (.iconst 0, 1) := by decide +kernel
theorem dX6_in_15 : decode cX6_in 15 = .ok (.ireturn, 1) := by decide +kernel
theorem dX6_low_0 : decode cX6_low 0 = .ok (.iload_n 0, 1) := by decide +kernel
theorem dX6_low_1 : decode cX6_low 1 = .ok (.tableswitch 64 7 17 #[59, 64, 64, 59, 59, 64, 64, 64, 64, 59, 61], 59) := by decide +kernel
theorem dX6_low_60 : decode cX6_low 60 = .ok (.iconst (-1), 1) := by decide +kernel
theorem dX6_low_61 : decode cX6_low 61 = .ok (.ireturn, 1) := by decide +kernel
theorem dX6_low_62 : decode cX6_low 62 = .ok (.bipush (-9), 2) := by decide +kernel
theorem dX6_low_64 : decode cX6_low 64 = .ok (.ireturn, 1) := by decide +kernel
theorem dX6_low_65 : decode cX6_low 65 = .ok (.iconst 0, 1) := by decide +kernel
theorem dX6_low_66 : decode cX6_low 66 = .ok (.ireturn, 1) := by decide +kernel
theorem dX6_high_0 : decode cX6_high 0 = .ok (.iload_n 0, 1) := by decide +kernel
theorem dX6_high_1 : decode cX6_high 1 = .ok (.tableswitch 115 0 19 #[95, 95, 97, 99, 101, 101, 101, 115, 104, 104, 115, 115, 115, 115, 107, 107, 99, 104, 95, 111], 95) := by decide +kernel
theorem dX6_high_96 : decode cX6_high 96 = .ok (.iconst 1, 1) := by decide +kernel
theorem dX6_high_97 : decode cX6_high 97 = .ok (.ireturn, 1) := by decide +kernel
theorem dX6_high_98 : decode cX6_high 98 = .ok (.iconst 4, 1) := by decide +kernel
theorem dX6_high_99 : decode cX6_high 99 = .ok (.ireturn, 1) := by decide +kernel
theorem dX6_high_100 : decode cX6_high 100 = .ok (.iconst 3, 1) := by decide +kernel
theorem dX6_high_101 : decode cX6_high 101 = .ok (.ireturn, 1) := by decide +kernel
theorem dX6_high_102 : decode cX6_high 102 = .ok (.bipush 50, 2) := by decide +kernel
theorem dX6_high_104 : decode cX6_high 104 = .ok (.ireturn, 1) := by decide +kernel
theorem dX6_high_105 : decode cX6_high 105 = .ok (.bipush 9, 2) := by decide +kernel
theorem dX6_high_107 : decode cX6_high 107 = .ok (.ireturn, 1) := by decide +kernel
theorem dX6_high_108 : decode cX6_high 108 = .ok (.sipush 10000, 3) := by decide +kernel
theorem dX6_high_111 : decode cX6_high 111 = .ok (.ireturn, 1) := by decide +kernel
theorem dX6_high_112 : decode cX6_high 112 = .ok (.sipush 500, 3) := by decide +kernel
theorem dX6_high_115 : decode cX6_high 115 = .ok (.ireturn, 1) := by decide +kernel
theorem dX6_high_116 : decode cX6_high 116 = .ok (.sipush 1000, 3) := by decide +kernel
theorem dX6_high_119 : decode cX6_high 119 = .ok (.ireturn, 1) := by decide +kernel
theorem dX6_firstOf_0 : decode cX6_firstOf 0 = .ok (.iload_n 0, 1) := by decide +kernel
theorem dX6_firstOf_1 : decode cX6_firstOf 1 = .ok (.tableswitch 81 3 16 #[71, 81, 81, 81, 73, 81, 75, 73, 73, 81, 81, 77, 77, 73], 71) := by decide +kernel
theorem dX6_firstOf_72 : decode cX6_firstOf 72 = .ok (.iconst 3, 1) := by decide +kernel
theorem dX6_firstOf_73 : decode cX6_firstOf 73 = .ok (.ireturn, 1) := by decide +kernel
theorem dX6_firstOf_74 : decode cX6_firstOf 74 = .ok (.iconst (-1), 1) := by decide +kernel
theorem dX6_firstOf_75 : decode cX6_firstOf 75 = .ok (.ireturn, 1) := by decide +kernel
theorem dX6_firstOf_76 : decode cX6_firstOf 76 = .ok (.iconst 1, 1) := by decide +kernel
theorem dX6_firstOf_77 : decode cX6_firstOf 77 = .ok (.ireturn, 1) := by decide +kernel
theorem dX6_firstOf_78 : decode cX6_firstOf 78 = .ok (.sipush 10000, 3) := by decide +kernel
theorem dX6_firstOf_81 : decode cX6_firstOf 81 = .ok (.ireturn, 1) := by decide +kernel
theorem dX6_firstOf_82 : decode cX6_firstOf 82 = .ok (.iconst 0, 1) := by decide +kernel
theorem dX6_firstOf_83 : decode cX6_firstOf 83 = .ok (.ireturn, 1) := by decide +kernel
theorem dX6_of_0 : decode cX6_of 0 = .ok (.aload_n 0, 1) := by decide +kernel
theorem dX6_of_1 : decode cX6_of 1 = .ok (.getfield 7, 3) := by decide +kernel
theorem dX6_of_4 : decode cX6_of 4 = .ok (.bipush 43, 2) := by decide +kernel
theorem dX6_of_6 : decode cX6_of 6 = .ok (.bipush 20, 2) := by decide +kernel
theorem dX6_of_8 : decode cX6_of 8 = .ok (.iload_n 1, 1) := by decide +kernel
theorem dX6_of_9 : decode cX6_of 9 = .ok (.imul, 1) := by decide +kernel
theorem dX6_of_10 : decode cX6_of 10 = .ok (.iadd, 1) := by decide +kernel
theorem dX6_of_11 : decode cX6_of 11 = .ok (.iload_n 2, 1) := by decide +kernel
theorem dX6_of_12 : decode cX6_of 12 = .ok (.iadd, 1) := by decide +kernel
theorem dX6_of_13 : decode cX6_of 13 = .ok (.iaload, 1) := by decide +kernel
theorem dX6_of_14 : decode cX6_of 14 = .ok (.ireturn, 1) := by decide +kernel
theorem dX6_make_0 : decode cX6_make 0 = .ok (.aload_n 0, 1) := by decide +kernel
theorem dX6_make_1 : decode cX6_make 1 = .ok (.getfield 7, 3) := by decide +kernel
theorem dX6_make_4 : decode cX6_make 4 = .ok (.iconst 0, 1) := by decide +kernel
theorem dX6_make_5 : decode cX6_make 5 = .ok (.iaload, 1) := by decide +kernel
theorem dX6_make_6 : decode cX6_make 6 = .ok (.istore_n 2, 1) := by decide +kernel
theorem dX6_make_7 : decode cX6_make 7 = .ok (.aload_n 0, 1) := by decide +kernel
theorem dX6_make_8 : decode cX6_make 8 = .ok (.getfield 7, 3) := by decide +kernel
theorem dX6_make_11 : decode cX6_make 11 = .ok (.iconst 3, 1) := by decide +kernel
theorem dX6_make_12 : decode cX6_make 12 = .ok (.iload_n 2, 1) := by decide +kernel
theorem dX6_make_13 : decode cX6_make 13 = .ok (.iadd, 1) := by decide +kernel
theorem dX6_make_14 : decode cX6_make 14 = .ok (.iload_n 1, 1) := by decide +kernel
theorem dX6_make_15 : decode cX6_make 15 = .ok (.iastore, 1) := by decide +kernel
theorem dX6_make_16 : decode cX6_make 16 = .ok (.iconst 0, 1) := by decide +kernel
theorem dX6_make_17 : decode cX6_make 17 = .ok (.istore_n 3, 1) := by decide +kernel
theorem dX6_make_18 : decode cX6_make 18 = .ok (.iload_n 3, 1) := by decide +kernel
theorem dX6_make_19 : decode cX6_make 19 = .ok (.bipush 20, 2) := by decide +kernel
theorem dX6_make_21 : decode cX6_make 21 = .ok (.if_icmp .ge 27, 3) := by decide +kernel
theorem dX6_make_24 : decode cX6_make 24 = .ok (.aload_n 0, 1) := by decide +kernel
theorem dX6_make_25 : decode cX6_make 25 = .ok (.getfield 7, 3) := by decide +kernel
theorem dX6_make_28 : decode cX6_make 28 = .ok (.bipush 43, 2) := by decide +kernel
theorem dX6_make_30 : decode cX6_make 30 = .ok (.bipush 20, 2) := by decide +kernel
theorem dX6_make_32 : decode cX6_make 32 = .ok (.iload_n 2, 1) := by decide +kernel
theorem dX6_make_33 : decode cX6_make 33 = .ok (.imul, 1) := by decide +kernel
theorem dX6_make_34 : decode cX6_make 34 = .ok (.iadd, 1) := by decide +kernel
theorem dX6_make_35 : decode cX6_make 35 = .ok (.iload_n 3, 1) := by decide +kernel
theorem dX6_make_36 : decode cX6_make 36 = .ok (.iadd, 1) := by decide +kernel
theorem dX6_make_37 : decode cX6_make 37 = .ok (.iload_n 3, 1) := by decide +kernel
theorem dX6_make_38 : decode cX6_make 38 = .ok (.invokestatic 62, 3) := by decide +kernel
theorem dX6_make_41 : decode cX6_make 41 = .ok (.iastore, 1) := by decide +kernel
theorem dX6_make_42 : decode cX6_make 42 = .ok (.iinc 3 1, 3) := by decide +kernel
theorem dX6_make_45 : decode cX6_make 45 = .ok (.goto (-27), 3) := by decide +kernel
theorem dX6_make_48 : decode cX6_make 48 = .ok (.aload_n 0, 1) := by decide +kernel
theorem dX6_make_49 : decode cX6_make 49 = .ok (.getfield 7, 3) := by decide +kernel
theorem dX6_make_52 : decode cX6_make 52 = .ok (.iconst 0, 1) := by decide +kernel
theorem dX6_make_53 : decode cX6_make 53 = .ok (.dup2, 1) := by decide +kernel
theorem dX6_make_54 : decode cX6_make 54 = .ok (.iaload, 1) := by decide +kernel
theorem dX6_make_55 : decode cX6_make 55 = .ok (.iconst 1, 1) := by decide +kernel
theorem dX6_make_56 : decode cX6_make 56 = .ok (.iadd, 1) := by decide +kernel
theorem dX6_make_57 : decode cX6_make 57 = .ok (.iastore, 1) := by decide +kernel
theorem dX6_make_58 : decode cX6_make 58 = .ok (.iload_n 2, 1) := by decide +kernel
theorem dX6_make_59 : decode cX6_make 59 = .ok (.ireturn, 1) := by decide +kernel
theorem dX6_isBox_0 : decode cX6_isBox 0 = .ok (.iload_n 1, 1) := by decide +kernel
theorem dX6_isBox_1 : decode cX6_isBox 1 = .ok (.iconst 0, 1) := by decide +kernel
theorem dX6_isBox_2 : decode cX6_isBox 2 = .ok (.aload_n 0, 1) := by decide +kernel
theorem dX6_isBox_3 : decode cX6_isBox 3 = .ok (.getfield 7, 3) := by decide +kernel
theorem dX6_isBox_6 : decode cX6_isBox 6 = .ok (.iconst 0, 1) := by decide +kernel
theorem dX6_isBox_7 : decode cX6_isBox 7 = .ok (.iaload, 1) := by decide +kernel
theorem dX6_isBox_8 : decode cX6_isBox 8 = .ok (.iconst 1, 1) := by decide +kernel
theorem dX6_isBox_9 : decode cX6_isBox 9 = .ok (.isub, 1) := by decide +kernel
theorem dX6_isBox_10 : decode cX6_isBox 10 = .ok (.invokestatic 65, 3) := by decide +kernel
theorem dX6_isBox_13 : decode cX6_isBox 13 = .ok (.ifCond .eq 19, 3) := by decide +kernel
theorem dX6_isBox_16 : decode cX6_isBox 16 = .ok (.aload_n 0, 1) := by decide +kernel
theorem dX6_isBox_17 : decode cX6_isBox 17 = .ok (.getfield 7, 3) := by decide +kernel
theorem dX6_isBox_20 : decode cX6_isBox 20 = .ok (.iconst 3, 1) := by decide +kernel
theorem dX6_isBox_21 : decode cX6_isBox 21 = .ok (.iload_n 1, 1) := by decide +kernel
theorem dX6_isBox_22 : decode cX6_isBox 22 = .ok (.iadd, 1) := by decide +kernel
theorem dX6_isBox_23 : decode cX6_isBox 23 = .ok (.iaload, 1) := by decide +kernel
theorem dX6_isBox_24 : decode cX6_isBox 24 = .ok (.iconst (-1), 1) := by decide +kernel
theorem dX6_isBox_25 : decode cX6_isBox 25 = .ok (.if_icmp .lt 7, 3) := by decide +kernel
theorem dX6_isBox_28 : decode cX6_isBox 28 = .ok (.iconst 1, 1) := by decide +kernel
theorem dX6_isBox_29 : decode cX6_isBox 29 = .ok (.goto 4, 3) := by decide +kernel
theorem dX6_isBox_32 : decode cX6_isBox 32 = .ok (.iconst 0, 1) := by decide +kernel
theorem dX6_isBox_33 : decode cX6_isBox 33 = .ok (.ireturn, 1) := by decide +kernel
theorem dX6_add_0 : decode cX6_add 0 = .ok (.aload_n 0, 1) := by decide +kernel
theorem dX6_add_1 : decode cX6_add 1 = .ok (.aload_n 0, 1) := by decide +kernel
theorem dX6_add_2 : decode cX6_add 2 = .ok (.iload_n 1, 1) := by decide +kernel
theorem dX6_add_3 : decode cX6_add 3 = .ok (.invokevirtual 69, 3) := by decide +kernel
theorem dX6_add_6 : decode cX6_add 6 = .ok (.ifCond .ne 7, 3) := by decide +kernel
theorem dX6_add_9 : decode cX6_add 9 = .ok (.iconst 1, 1) := by decide +kernel
theorem dX6_add_10 : decode cX6_add 10 = .ok (.goto 19, 3) := by decide +kernel
theorem dX6_add_13 : decode cX6_add 13 = .ok (.aload_n 0, 1) := by decide +kernel
theorem dX6_add_14 : decode cX6_add 14 = .ok (.getfield 7, 3) := by decide +kernel
theorem dX6_add_17 : decode cX6_add 17 = .ok (.iconst 0, 1) := by decide +kernel
theorem dX6_add_18 : decode cX6_add 18 = .ok (.iaload, 1) := by decide +kernel
theorem dX6_add_19 : decode cX6_add 19 = .ok (.bipush 40, 2) := by decide +kernel
theorem dX6_add_21 : decode cX6_add 21 = .ok (.if_icmp .ne 7, 3) := by decide +kernel
theorem dX6_add_24 : decode cX6_add 24 = .ok (.iconst 2, 1) := by decide +kernel
theorem dX6_add_25 : decode cX6_add 25 = .ok (.goto 4, 3) := by decide +kernel
theorem dX6_add_28 : decode cX6_add 28 = .ok (.iconst 0, 1) := by decide +kernel
theorem dX6_add_29 : decode cX6_add 29 = .ok (.putfield 58, 3) := by decide +kernel
theorem dX6_add_32 : decode cX6_add 32 = .ok (.aload_n 0, 1) := by decide +kernel
theorem dX6_add_33 : decode cX6_add 33 = .ok (.getfield 58, 3) := by decide +kernel
theorem dX6_add_36 : decode cX6_add 36 = .ok (.ifCond .eq 7, 3) := by decide +kernel
theorem dX6_add_39 : decode cX6_add 39 = .ok (.iconst 0, 1) := by decide +kernel
theorem dX6_add_40 : decode cX6_add 40 = .ok (.goto 8, 3) := by decide +kernel
theorem dX6_add_43 : decode cX6_add 43 = .ok (.aload_n 0, 1) := by decide +kernel
theorem dX6_add_44 : decode cX6_add 44 = .ok (.iload_n 1, 1) := by decide +kernel
theorem dX6_add_45 : decode cX6_add 45 = .ok (.invokevirtual 54, 3) := by decide +kernel
theorem dX6_add_48 : decode cX6_add 48 = .ok (.ireturn, 1) := by decide +kernel
theorem dX6_remove_0 : decode cX6_remove 0 = .ok (.aload_n 0, 1) := by decide +kernel
theorem dX6_remove_1 : decode cX6_remove 1 = .ok (.aload_n 0, 1) := by decide +kernel
theorem dX6_remove_2 : decode cX6_remove 2 = .ok (.iload_n 1, 1) := by decide +kernel
theorem dX6_remove_3 : decode cX6_remove 3 = .ok (.invokevirtual 69, 3) := by decide +kernel
theorem dX6_remove_6 : decode cX6_remove 6 = .ok (.ifCond .ne 7, 3) := by decide +kernel
theorem dX6_remove_9 : decode cX6_remove 9 = .ok (.iconst 1, 1) := by decide +kernel
theorem dX6_remove_10 : decode cX6_remove 10 = .ok (.goto 12, 3) := by decide +kernel
theorem dX6_remove_13 : decode cX6_remove 13 = .ok (.iload_n 1, 1) := by decide +kernel
theorem dX6_remove_14 : decode cX6_remove 14 = .ok (.ifCond .ne 7, 3) := by decide +kernel
theorem dX6_remove_17 : decode cX6_remove 17 = .ok (.iconst 2, 1) := by decide +kernel
theorem dX6_remove_18 : decode cX6_remove 18 = .ok (.goto 4, 3) := by decide +kernel
theorem dX6_remove_21 : decode cX6_remove 21 = .ok (.iconst 0, 1) := by decide +kernel
theorem dX6_remove_22 : decode cX6_remove 22 = .ok (.putfield 58, 3) := by decide +kernel
theorem dX6_remove_25 : decode cX6_remove 25 = .ok (.aload_n 0, 1) := by decide +kernel
theorem dX6_remove_26 : decode cX6_remove 26 = .ok (.getfield 58, 3) := by decide +kernel
theorem dX6_remove_29 : decode cX6_remove 29 = .ok (.ifCond .eq 5, 3) := by decide +kernel
theorem dX6_remove_32 : decode cX6_remove 32 = .ok (.iconst 0, 1) := by decide +kernel
theorem dX6_remove_33 : decode cX6_remove 33 = .ok (.ireturn, 1) := by decide +kernel
theorem dX6_remove_34 : decode cX6_remove 34 = .ok (.iconst 1, 1) := by decide +kernel
theorem dX6_remove_35 : decode cX6_remove 35 = .ok (.istore_n 2, 1) := by decide +kernel
theorem dX6_remove_36 : decode cX6_remove 36 = .ok (.aload_n 0, 1) := by decide +kernel
theorem dX6_remove_37 : decode cX6_remove 37 = .ok (.getfield 7, 3) := by decide +kernel
theorem dX6_remove_40 : decode cX6_remove 40 = .ok (.iconst 3, 1) := by decide +kernel
theorem dX6_remove_41 : decode cX6_remove 41 = .ok (.iload_n 1, 1) := by decide +kernel
theorem dX6_remove_42 : decode cX6_remove 42 = .ok (.iadd, 1) := by decide +kernel
theorem dX6_remove_43 : decode cX6_remove 43 = .ok (.bipush (-2), 2) := by decide +kernel
theorem dX6_remove_45 : decode cX6_remove 45 = .ok (.iastore, 1) := by decide +kernel
theorem dX6_remove_46 : decode cX6_remove 46 = .ok (.iload_n 1, 1) := by decide +kernel
theorem dX6_remove_47 : decode cX6_remove 47 = .ok (.iconst 1, 1) := by decide +kernel
theorem dX6_remove_48 : decode cX6_remove 48 = .ok (.iadd, 1) := by decide +kernel
theorem dX6_remove_49 : decode cX6_remove 49 = .ok (.istore_n 3, 1) := by decide +kernel
theorem dX6_remove_50 : decode cX6_remove 50 = .ok (.iload_n 3, 1) := by decide +kernel
theorem dX6_remove_51 : decode cX6_remove 51 = .ok (.aload_n 0, 1) := by decide +kernel
theorem dX6_remove_52 : decode cX6_remove 52 = .ok (.getfield 7, 3) := by decide +kernel
theorem dX6_remove_55 : decode cX6_remove 55 = .ok (.iconst 0, 1) := by decide +kernel
theorem dX6_remove_56 : decode cX6_remove 56 = .ok (.iaload, 1) := by decide +kernel
theorem dX6_remove_57 : decode cX6_remove 57 = .ok (.if_icmp .ge 61, 3) := by decide +kernel
theorem dX6_remove_60 : decode cX6_remove 60 = .ok (.aload_n 0, 1) := by decide +kernel
theorem dX6_remove_61 : decode cX6_remove 61 = .ok (.iload_n 3, 1) := by decide +kernel
theorem dX6_remove_62 : decode cX6_remove 62 = .ok (.invokevirtual 69, 3) := by decide +kernel
theorem dX6_remove_65 : decode cX6_remove 65 = .ok (.ifCond .eq 47, 3) := by decide +kernel
theorem dX6_remove_68 : decode cX6_remove 68 = .ok (.aload_n 0, 1) := by decide +kernel
theorem dX6_remove_69 : decode cX6_remove 69 = .ok (.getfield 7, 3) := by decide +kernel
theorem dX6_remove_72 : decode cX6_remove 72 = .ok (.iconst 3, 1) := by decide +kernel
theorem dX6_remove_73 : decode cX6_remove 73 = .ok (.iload_n 3, 1) := by decide +kernel
theorem dX6_remove_74 : decode cX6_remove 74 = .ok (.iadd, 1) := by decide +kernel
theorem dX6_remove_75 : decode cX6_remove 75 = .ok (.iaload, 1) := by decide +kernel
theorem dX6_remove_76 : decode cX6_remove 76 = .ok (.ifCond .le 36, 3) := by decide +kernel
theorem dX6_remove_79 : decode cX6_remove 79 = .ok (.aload_n 0, 1) := by decide +kernel
theorem dX6_remove_80 : decode cX6_remove 80 = .ok (.getfield 7, 3) := by decide +kernel
theorem dX6_remove_83 : decode cX6_remove 83 = .ok (.iconst 3, 1) := by decide +kernel
theorem dX6_remove_84 : decode cX6_remove 84 = .ok (.aload_n 0, 1) := by decide +kernel
theorem dX6_remove_85 : decode cX6_remove 85 = .ok (.getfield 7, 3) := by decide +kernel
theorem dX6_remove_88 : decode cX6_remove 88 = .ok (.iconst 3, 1) := by decide +kernel
theorem dX6_remove_89 : decode cX6_remove 89 = .ok (.iload_n 3, 1) := by decide +kernel
theorem dX6_remove_90 : decode cX6_remove 90 = .ok (.iadd, 1) := by decide +kernel
theorem dX6_remove_91 : decode cX6_remove 91 = .ok (.iaload, 1) := by decide +kernel
theorem dX6_remove_92 : decode cX6_remove 92 = .ok (.iadd, 1) := by decide +kernel
theorem dX6_remove_93 : decode cX6_remove 93 = .ok (.iaload, 1) := by decide +kernel
theorem dX6_remove_94 : decode cX6_remove 94 = .ok (.bipush (-2), 2) := by decide +kernel
theorem dX6_remove_96 : decode cX6_remove 96 = .ok (.if_icmp .ne 16, 3) := by decide +kernel
theorem dX6_remove_99 : decode cX6_remove 99 = .ok (.aload_n 0, 1) := by decide +kernel
theorem dX6_remove_100 : decode cX6_remove 100 = .ok (.getfield 7, 3) := by decide +kernel
theorem dX6_remove_103 : decode cX6_remove 103 = .ok (.iconst 3, 1) := by decide +kernel
theorem dX6_remove_104 : decode cX6_remove 104 = .ok (.iload_n 3, 1) := by decide +kernel
theorem dX6_remove_105 : decode cX6_remove 105 = .ok (.iadd, 1) := by decide +kernel
theorem dX6_remove_106 : decode cX6_remove 106 = .ok (.bipush (-2), 2) := by decide +kernel
theorem dX6_remove_108 : decode cX6_remove 108 = .ok (.iastore, 1) := by decide +kernel
theorem dX6_remove_109 : decode cX6_remove 109 = .ok (.iinc 2 1, 3) := by decide +kernel
theorem dX6_remove_112 : decode cX6_remove 112 = .ok (.iinc 3 1, 3) := by decide +kernel
theorem dX6_remove_115 : decode cX6_remove 115 = .ok (.goto (-65), 3) := by decide +kernel
theorem dX6_remove_118 : decode cX6_remove 118 = .ok (.iload_n 2, 1) := by decide +kernel
theorem dX6_remove_119 : decode cX6_remove 119 = .ok (.ireturn, 1) := by decide +kernel
theorem dX6_boxes_0 : decode cX6_boxes 0 = .ok (.aload_n 0, 1) := by decide +kernel
theorem dX6_boxes_1 : decode cX6_boxes 1 = .ok (.iconst 0, 1) := by decide +kernel
theorem dX6_boxes_2 : decode cX6_boxes 2 = .ok (.putfield 58, 3) := by decide +kernel
theorem dX6_boxes_5 : decode cX6_boxes 5 = .ok (.iconst 0, 1) := by decide +kernel
theorem dX6_boxes_6 : decode cX6_boxes 6 = .ok (.istore_n 1, 1) := by decide +kernel
theorem dX6_boxes_7 : decode cX6_boxes 7 = .ok (.iconst 0, 1) := by decide +kernel
theorem dX6_boxes_8 : decode cX6_boxes 8 = .ok (.istore_n 2, 1) := by decide +kernel
theorem dX6_boxes_9 : decode cX6_boxes 9 = .ok (.iload_n 2, 1) := by decide +kernel
theorem dX6_boxes_10 : decode cX6_boxes 10 = .ok (.aload_n 0, 1) := by decide +kernel
theorem dX6_boxes_11 : decode cX6_boxes 11 = .ok (.getfield 7, 3) := by decide +kernel
theorem dX6_boxes_14 : decode cX6_boxes 14 = .ok (.iconst 0, 1) := by decide +kernel
theorem dX6_boxes_15 : decode cX6_boxes 15 = .ok (.iaload, 1) := by decide +kernel
theorem dX6_boxes_16 : decode cX6_boxes 16 = .ok (.if_icmp .ge 25, 3) := by decide +kernel
theorem dX6_boxes_19 : decode cX6_boxes 19 = .ok (.iload_n 1, 1) := by decide +kernel
theorem dX6_boxes_20 : decode cX6_boxes 20 = .ok (.aload_n 0, 1) := by decide +kernel
theorem dX6_boxes_21 : decode cX6_boxes 21 = .ok (.iload_n 2, 1) := by decide +kernel
theorem dX6_boxes_22 : decode cX6_boxes 22 = .ok (.invokevirtual 69, 3) := by decide +kernel
theorem dX6_boxes_25 : decode cX6_boxes 25 = .ok (.ifCond .eq 7, 3) := by decide +kernel
theorem dX6_boxes_28 : decode cX6_boxes 28 = .ok (.iconst 1, 1) := by decide +kernel
theorem dX6_boxes_29 : decode cX6_boxes 29 = .ok (.goto 4, 3) := by decide +kernel
theorem dX6_boxes_32 : decode cX6_boxes 32 = .ok (.iconst 0, 1) := by decide +kernel
theorem dX6_boxes_33 : decode cX6_boxes 33 = .ok (.iadd, 1) := by decide +kernel
theorem dX6_boxes_34 : decode cX6_boxes 34 = .ok (.istore_n 1, 1) := by decide +kernel
theorem dX6_boxes_35 : decode cX6_boxes 35 = .ok (.iinc 2 1, 3) := by decide +kernel
theorem dX6_boxes_38 : decode cX6_boxes 38 = .ok (.goto (-29), 3) := by decide +kernel
theorem dX6_boxes_41 : decode cX6_boxes 41 = .ok (.iload_n 1, 1) := by decide +kernel
theorem dX6_boxes_42 : decode cX6_boxes 42 = .ok (.ireturn, 1) := by decide +kernel
theorem dX6_parent_0 : decode cX6_parent 0 = .ok (.aload_n 0, 1) := by decide +kernel
theorem dX6_parent_1 : decode cX6_parent 1 = .ok (.aload_n 0, 1) := by decide +kernel
theorem dX6_parent_2 : decode cX6_parent 2 = .ok (.iload_n 1, 1) := by decide +kernel
theorem dX6_parent_3 : decode cX6_parent 3 = .ok (.invokevirtual 69, 3) := by decide +kernel
theorem dX6_parent_6 : decode cX6_parent 6 = .ok (.ifCond .eq 7, 3) := by decide +kernel
theorem dX6_parent_9 : decode cX6_parent 9 = .ok (.iconst 0, 1) := by decide +kernel
theorem dX6_parent_10 : decode cX6_parent 10 = .ok (.goto 4, 3) := by decide +kernel
theorem dX6_parent_13 : decode cX6_parent 13 = .ok (.iconst 1, 1) := by decide +kernel
theorem dX6_parent_14 : decode cX6_parent 14 = .ok (.putfield 58, 3) := by decide +kernel
theorem dX6_parent_17 : decode cX6_parent 17 = .ok (.aload_n 0, 1) := by decide +kernel
theorem dX6_parent_18 : decode cX6_parent 18 = .ok (.getfield 58, 3) := by decide +kernel
theorem dX6_parent_21 : decode cX6_parent 21 = .ok (.ifCond .eq 7, 3) := by decide +kernel
theorem dX6_parent_24 : decode cX6_parent 24 = .ok (.iconst 0, 1) := by decide +kernel
theorem dX6_parent_25 : decode cX6_parent 25 = .ok (.goto 11, 3) := by decide +kernel
theorem dX6_parent_28 : decode cX6_parent 28 = .ok (.aload_n 0, 1) := by decide +kernel
theorem dX6_parent_29 : decode cX6_parent 29 = .ok (.getfield 7, 3) := by decide +kernel
theorem dX6_parent_32 : decode cX6_parent 32 = .ok (.iconst 3, 1) := by decide +kernel
theorem dX6_parent_33 : decode cX6_parent 33 = .ok (.iload_n 1, 1) := by decide +kernel
theorem dX6_parent_34 : decode cX6_parent 34 = .ok (.iadd, 1) := by decide +kernel
theorem dX6_parent_35 : decode cX6_parent 35 = .ok (.iaload, 1) := by decide +kernel
theorem dX6_parent_36 : decode cX6_parent 36 = .ok (.ireturn, 1) := by decide +kernel
theorem dX6_isChild_0 : decode cX6_isChild 0 = .ok (.aload_n 0, 1) := by decide +kernel
theorem dX6_isChild_1 : decode cX6_isChild 1 = .ok (.iload_n 1, 1) := by decide +kernel
theorem dX6_isChild_2 : decode cX6_isChild 2 = .ok (.invokevirtual 69, 3) := by decide +kernel
theorem dX6_isChild_5 : decode cX6_isChild 5 = .ok (.ifCond .eq 19, 3) := by decide +kernel
theorem dX6_isChild_8 : decode cX6_isChild 8 = .ok (.aload_n 0, 1) := by decide +kernel
theorem dX6_isChild_9 : decode cX6_isChild 9 = .ok (.getfield 7, 3) := by decide +kernel
theorem dX6_isChild_12 : decode cX6_isChild 12 = .ok (.iconst 3, 1) := by decide +kernel
theorem dX6_isChild_13 : decode cX6_isChild 13 = .ok (.iload_n 1, 1) := by decide +kernel
theorem dX6_isChild_14 : decode cX6_isChild 14 = .ok (.iadd, 1) := by decide +kernel
theorem dX6_isChild_15 : decode cX6_isChild 15 = .ok (.iaload, 1) := by decide +kernel
theorem dX6_isChild_16 : decode cX6_isChild 16 = .ok (.iload_n 2, 1) := by decide +kernel
theorem dX6_isChild_17 : decode cX6_isChild 17 = .ok (.if_icmp .ne 7, 3) := by decide +kernel
theorem dX6_isChild_20 : decode cX6_isChild 20 = .ok (.iconst 1, 1) := by decide +kernel
theorem dX6_isChild_21 : decode cX6_isChild 21 = .ok (.goto 4, 3) := by decide +kernel
theorem dX6_isChild_24 : decode cX6_isChild 24 = .ok (.iconst 0, 1) := by decide +kernel
theorem dX6_isChild_25 : decode cX6_isChild 25 = .ok (.ireturn, 1) := by decide +kernel
theorem dX6_isAhead_0 : decode cX6_isAhead 0 = .ok (.aload_n 0, 1) := by decide +kernel
theorem dX6_isAhead_1 : decode cX6_isAhead 1 = .ok (.iload_n 1, 1) := by decide +kernel
theorem dX6_isAhead_2 : decode cX6_isAhead 2 = .ok (.bipush 17, 2) := by decide +kernel
theorem dX6_isAhead_4 : decode cX6_isAhead 4 = .ok (.invokevirtual 73, 3) := by decide +kernel
theorem dX6_isAhead_7 : decode cX6_isAhead 7 = .ok (.aload_n 0, 1) := by decide +kernel
theorem dX6_isAhead_8 : decode cX6_isAhead 8 = .ok (.iload_n 2, 1) := by decide +kernel
theorem dX6_isAhead_9 : decode cX6_isAhead 9 = .ok (.bipush 17, 2) := by decide +kernel
theorem dX6_isAhead_11 : decode cX6_isAhead 11 = .ok (.invokevirtual 73, 3) := by decide +kernel
theorem dX6_isAhead_14 : decode cX6_isAhead 14 = .ok (.isub, 1) := by decide +kernel
theorem dX6_isAhead_15 : decode cX6_isAhead 15 = .ok (.istore_n 3, 1) := by decide +kernel
theorem dX6_isAhead_16 : decode cX6_isAhead 16 = .ok (.iload_n 3, 1) := by decide +kernel
theorem dX6_isAhead_17 : decode cX6_isAhead 17 = .ok (.ifCond .lt 12, 3) := by decide +kernel
theorem dX6_isAhead_20 : decode cX6_isAhead 20 = .ok (.iload_n 3, 1) := by decide +kernel
theorem dX6_isAhead_21 : decode cX6_isAhead 21 = .ok (.ifCond .ne 12, 3) := by decide +kernel
theorem dX6_isAhead_24 : decode cX6_isAhead 24 = .ok (.iload_n 1, 1) := by decide +kernel
theorem dX6_isAhead_25 : decode cX6_isAhead 25 = .ok (.iload_n 2, 1) := by decide +kernel
theorem dX6_isAhead_26 : decode cX6_isAhead 26 = .ok (.if_icmp .ge 7, 3) := by decide +kernel
theorem dX6_isAhead_29 : decode cX6_isAhead 29 = .ok (.iconst 1, 1) := by decide +kernel
theorem dX6_isAhead_30 : decode cX6_isAhead 30 = .ok (.goto 4, 3) := by decide +kernel
theorem dX6_isAhead_33 : decode cX6_isAhead 33 = .ok (.iconst 0, 1) := by decide +kernel
theorem dX6_isAhead_34 : decode cX6_isAhead 34 = .ok (.ireturn, 1) := by decide +kernel
theorem dX6_layKids_0 : decode cX6_layKids 0 = .ok (.aload_n 0, 1) := by decide +kernel
theorem dX6_layKids_1 : decode cX6_layKids 1 = .ok (.iconst 0, 1) := by decide +kernel
theorem dX6_layKids_2 : decode cX6_layKids 2 = .ok (.putfield 77, 3) := by decide +kernel
theorem dX6_layKids_5 : decode cX6_layKids 5 = .ok (.iload_n 1, 1) := by decide +kernel
theorem dX6_layKids_6 : decode cX6_layKids 6 = .ok (.iconst 1, 1) := by decide +kernel
theorem dX6_layKids_7 : decode cX6_layKids 7 = .ok (.iadd, 1) := by decide +kernel
theorem dX6_layKids_8 : decode cX6_layKids 8 = .ok (.istore_n 2, 1) := by decide +kernel
theorem dX6_layKids_9 : decode cX6_layKids 9 = .ok (.iload_n 2, 1) := by decide +kernel
theorem dX6_layKids_10 : decode cX6_layKids 10 = .ok (.aload_n 0, 1) := by decide +kernel
theorem dX6_layKids_11 : decode cX6_layKids 11 = .ok (.getfield 7, 3) := by decide +kernel
theorem dX6_layKids_14 : decode cX6_layKids 14 = .ok (.iconst 0, 1) := by decide +kernel
theorem dX6_layKids_15 : decode cX6_layKids 15 = .ok (.iaload, 1) := by decide +kernel
theorem dX6_layKids_16 : decode cX6_layKids 16 = .ok (.if_icmp .ge 90, 3) := by decide +kernel
theorem dX6_layKids_19 : decode cX6_layKids 19 = .ok (.aload_n 0, 1) := by decide +kernel
theorem dX6_layKids_20 : decode cX6_layKids 20 = .ok (.iload_n 2, 1) := by decide +kernel
theorem dX6_layKids_21 : decode cX6_layKids 21 = .ok (.iload_n 1, 1) := by decide +kernel
theorem dX6_layKids_22 : decode cX6_layKids 22 = .ok (.invokevirtual 80, 3) := by decide +kernel
theorem dX6_layKids_25 : decode cX6_layKids 25 = .ok (.ifCond .eq 75, 3) := by decide +kernel
theorem dX6_layKids_28 : decode cX6_layKids 28 = .ok (.aload_n 0, 1) := by decide +kernel
theorem dX6_layKids_29 : decode cX6_layKids 29 = .ok (.iload_n 2, 1) := by decide +kernel
theorem dX6_layKids_30 : decode cX6_layKids 30 = .ok (.bipush 18, 2) := by decide +kernel
theorem dX6_layKids_32 : decode cX6_layKids 32 = .ok (.invokevirtual 73, 3) := by decide +kernel
theorem dX6_layKids_35 : decode cX6_layKids 35 = .ok (.ifCond .ne 65, 3) := by decide +kernel
theorem dX6_layKids_38 : decode cX6_layKids 38 = .ok (.aload_n 0, 1) := by decide +kernel
theorem dX6_layKids_39 : decode cX6_layKids 39 = .ok (.getfield 77, 3) := by decide +kernel
theorem dX6_layKids_42 : decode cX6_layKids 42 = .ok (.istore_n 3, 1) := by decide +kernel
theorem dX6_layKids_43 : decode cX6_layKids 43 = .ok (.iload_n 3, 1) := by decide +kernel
theorem dX6_layKids_44 : decode cX6_layKids 44 = .ok (.ifCond .le 39, 3) := by decide +kernel
theorem dX6_layKids_47 : decode cX6_layKids 47 = .ok (.aload_n 0, 1) := by decide +kernel
theorem dX6_layKids_48 : decode cX6_layKids 48 = .ok (.iload_n 2, 1) := by decide +kernel
theorem dX6_layKids_49 : decode cX6_layKids 49 = .ok (.aload_n 0, 1) := by decide +kernel
theorem dX6_layKids_50 : decode cX6_layKids 50 = .ok (.getfield 20, 3) := by decide +kernel
theorem dX6_layKids_53 : decode cX6_layKids 53 = .ok (.iload_n 3, 1) := by decide +kernel
theorem dX6_layKids_54 : decode cX6_layKids 54 = .ok (.iconst 1, 1) := by decide +kernel
theorem dX6_layKids_55 : decode cX6_layKids 55 = .ok (.isub, 1) := by decide +kernel
theorem dX6_layKids_56 : decode cX6_layKids 56 = .ok (.iaload, 1) := by decide +kernel
theorem dX6_layKids_57 : decode cX6_layKids 57 = .ok (.invokevirtual 84, 3) := by decide +kernel
theorem dX6_layKids_60 : decode cX6_layKids 60 = .ok (.ifCond .eq 23, 3) := by decide +kernel
theorem dX6_layKids_63 : decode cX6_layKids 63 = .ok (.aload_n 0, 1) := by decide +kernel
theorem dX6_layKids_64 : decode cX6_layKids 64 = .ok (.getfield 20, 3) := by decide +kernel
theorem dX6_layKids_67 : decode cX6_layKids 67 = .ok (.iload_n 3, 1) := by decide +kernel
theorem dX6_layKids_68 : decode cX6_layKids 68 = .ok (.aload_n 0, 1) := by decide +kernel
theorem dX6_layKids_69 : decode cX6_layKids 69 = .ok (.getfield 20, 3) := by decide +kernel
theorem dX6_layKids_72 : decode cX6_layKids 72 = .ok (.iload_n 3, 1) := by decide +kernel
theorem dX6_layKids_73 : decode cX6_layKids 73 = .ok (.iconst 1, 1) := by decide +kernel
theorem dX6_layKids_74 : decode cX6_layKids 74 = .ok (.isub, 1) := by decide +kernel
theorem dX6_layKids_75 : decode cX6_layKids 75 = .ok (.iaload, 1) := by decide +kernel
theorem dX6_layKids_76 : decode cX6_layKids 76 = .ok (.iastore, 1) := by decide +kernel
theorem dX6_layKids_77 : decode cX6_layKids 77 = .ok (.iinc 3 (-1), 3) := by decide +kernel
theorem dX6_layKids_80 : decode cX6_layKids 80 = .ok (.goto (-37), 3) := by decide +kernel
theorem dX6_layKids_83 : decode cX6_layKids 83 = .ok (.aload_n 0, 1) := by decide +kernel
theorem dX6_layKids_84 : decode cX6_layKids 84 = .ok (.getfield 20, 3) := by decide +kernel
theorem dX6_layKids_87 : decode cX6_layKids 87 = .ok (.iload_n 3, 1) := by decide +kernel
theorem dX6_layKids_88 : decode cX6_layKids 88 = .ok (.iload_n 2, 1) := by decide +kernel
theorem dX6_layKids_89 : decode cX6_layKids 89 = .ok (.iastore, 1) := by decide +kernel
theorem dX6_layKids_90 : decode cX6_layKids 90 = .ok (.aload_n 0, 1) := by decide +kernel
theorem dX6_layKids_91 : decode cX6_layKids 91 = .ok (.dup, 1) := by decide +kernel
theorem dX6_layKids_92 : decode cX6_layKids 92 = .ok (.getfield 77, 3) := by decide +kernel
theorem dX6_layKids_95 : decode cX6_layKids 95 = .ok (.iconst 1, 1) := by decide +kernel
theorem dX6_layKids_96 : decode cX6_layKids 96 = .ok (.iadd, 1) := by decide +kernel
theorem dX6_layKids_97 : decode cX6_layKids 97 = .ok (.putfield 77, 3) := by decide +kernel
theorem dX6_layKids_100 : decode cX6_layKids 100 = .ok (.iinc 2 1, 3) := by decide +kernel
theorem dX6_layKids_103 : decode cX6_layKids 103 = .ok (.goto (-94), 3) := by decide +kernel
theorem dX6_layKids_106 : decode cX6_layKids 106 = .ok (.return_, 1) := by decide +kernel
theorem dX6_isLeaf_0 : decode cX6_isLeaf 0 = .ok (.iload_n 1, 1) := by decide +kernel
theorem dX6_isLeaf_1 : decode cX6_isLeaf 1 = .ok (.iconst 1, 1) := by decide +kernel
theorem dX6_isLeaf_2 : decode cX6_isLeaf 2 = .ok (.iadd, 1) := by decide +kernel
theorem dX6_isLeaf_3 : decode cX6_isLeaf 3 = .ok (.istore_n 2, 1) := by decide +kernel
theorem dX6_isLeaf_4 : decode cX6_isLeaf 4 = .ok (.iload_n 2, 1) := by decide +kernel
theorem dX6_isLeaf_5 : decode cX6_isLeaf 5 = .ok (.aload_n 0, 1) := by decide +kernel
theorem dX6_isLeaf_6 : decode cX6_isLeaf 6 = .ok (.getfield 7, 3) := by decide +kernel
theorem dX6_isLeaf_9 : decode cX6_isLeaf 9 = .ok (.iconst 0, 1) := by decide +kernel
theorem dX6_isLeaf_10 : decode cX6_isLeaf 10 = .ok (.iaload, 1) := by decide +kernel
theorem dX6_isLeaf_11 : decode cX6_isLeaf 11 = .ok (.if_icmp .ge 20, 3) := by decide +kernel
theorem dX6_isLeaf_14 : decode cX6_isLeaf 14 = .ok (.aload_n 0, 1) := by decide +kernel
theorem dX6_isLeaf_15 : decode cX6_isLeaf 15 = .ok (.iload_n 2, 1) := by decide +kernel
theorem dX6_isLeaf_16 : decode cX6_isLeaf 16 = .ok (.iload_n 1, 1) := by decide +kernel
theorem dX6_isLeaf_17 : decode cX6_isLeaf 17 = .ok (.invokevirtual 80, 3) := by decide +kernel
theorem dX6_isLeaf_20 : decode cX6_isLeaf 20 = .ok (.ifCond .eq 5, 3) := by decide +kernel
theorem dX6_isLeaf_23 : decode cX6_isLeaf 23 = .ok (.iconst 0, 1) := by decide +kernel
theorem dX6_isLeaf_24 : decode cX6_isLeaf 24 = .ok (.ireturn, 1) := by decide +kernel
theorem dX6_isLeaf_25 : decode cX6_isLeaf 25 = .ok (.iinc 2 1, 3) := by decide +kernel
theorem dX6_isLeaf_28 : decode cX6_isLeaf 28 = .ok (.goto (-24), 3) := by decide +kernel
theorem dX6_isLeaf_31 : decode cX6_isLeaf 31 = .ok (.iconst 1, 1) := by decide +kernel
theorem dX6_isLeaf_32 : decode cX6_isLeaf 32 = .ok (.ireturn, 1) := by decide +kernel
theorem dX6_child_0 : decode cX6_child 0 = .ok (.aload_n 0, 1) := by decide +kernel
theorem dX6_child_1 : decode cX6_child 1 = .ok (.aload_n 0, 1) := by decide +kernel
theorem dX6_child_2 : decode cX6_child 2 = .ok (.iload_n 1, 1) := by decide +kernel
theorem dX6_child_3 : decode cX6_child 3 = .ok (.invokevirtual 69, 3) := by decide +kernel
theorem dX6_child_6 : decode cX6_child 6 = .ok (.ifCond .eq 7, 3) := by decide +kernel
theorem dX6_child_9 : decode cX6_child 9 = .ok (.iconst 0, 1) := by decide +kernel
theorem dX6_child_10 : decode cX6_child 10 = .ok (.goto 4, 3) := by decide +kernel
theorem dX6_child_13 : decode cX6_child 13 = .ok (.iconst 1, 1) := by decide +kernel
theorem dX6_child_14 : decode cX6_child 14 = .ok (.putfield 58, 3) := by decide +kernel
theorem dX6_child_17 : decode cX6_child 17 = .ok (.aload_n 0, 1) := by decide +kernel
theorem dX6_child_18 : decode cX6_child 18 = .ok (.getfield 58, 3) := by decide +kernel
theorem dX6_child_21 : decode cX6_child 21 = .ok (.ifCond .eq 5, 3) := by decide +kernel
theorem dX6_child_24 : decode cX6_child 24 = .ok (.iconst 0, 1) := by decide +kernel
theorem dX6_child_25 : decode cX6_child 25 = .ok (.ireturn, 1) := by decide +kernel
theorem dX6_child_26 : decode cX6_child 26 = .ok (.aload_n 0, 1) := by decide +kernel
theorem dX6_child_27 : decode cX6_child 27 = .ok (.iload_n 1, 1) := by decide +kernel
theorem dX6_child_28 : decode cX6_child 28 = .ok (.invokevirtual 87, 3) := by decide +kernel
theorem dX6_child_31 : decode cX6_child 31 = .ok (.iload_n 2, 1) := by decide +kernel
theorem dX6_child_32 : decode cX6_child 32 = .ok (.iconst (-1), 1) := by decide +kernel
theorem dX6_child_33 : decode cX6_child 33 = .ok (.if_icmp .ne 10, 3) := by decide +kernel
theorem dX6_child_36 : decode cX6_child 36 = .ok (.aload_n 0, 1) := by decide +kernel
theorem dX6_child_37 : decode cX6_child 37 = .ok (.getfield 77, 3) := by decide +kernel
theorem dX6_child_40 : decode cX6_child 40 = .ok (.goto 27, 3) := by decide +kernel
theorem dX6_child_43 : decode cX6_child 43 = .ok (.iload_n 2, 1) := by decide +kernel
theorem dX6_child_44 : decode cX6_child 44 = .ok (.iconst 0, 1) := by decide +kernel
theorem dX6_child_45 : decode cX6_child 45 = .ok (.aload_n 0, 1) := by decide +kernel
theorem dX6_child_46 : decode cX6_child 46 = .ok (.getfield 77, 3) := by decide +kernel
theorem dX6_child_49 : decode cX6_child 49 = .ok (.iconst 1, 1) := by decide +kernel
theorem dX6_child_50 : decode cX6_child 50 = .ok (.isub, 1) := by decide +kernel
theorem dX6_child_51 : decode cX6_child 51 = .ok (.invokestatic 65, 3) := by decide +kernel
theorem dX6_child_54 : decode cX6_child 54 = .ok (.ifCond .eq 12, 3) := by decide +kernel
theorem dX6_child_57 : decode cX6_child 57 = .ok (.aload_n 0, 1) := by decide +kernel
theorem dX6_child_58 : decode cX6_child 58 = .ok (.getfield 20, 3) := by decide +kernel
theorem dX6_child_61 : decode cX6_child 61 = .ok (.iload_n 2, 1) := by decide +kernel
theorem dX6_child_62 : decode cX6_child 62 = .ok (.iaload, 1) := by decide +kernel
theorem dX6_child_63 : decode cX6_child 63 = .ok (.goto 4, 3) := by decide +kernel
theorem dX6_child_66 : decode cX6_child 66 = .ok (.iconst (-1), 1) := by decide +kernel
theorem dX6_child_67 : decode cX6_child 67 = .ok (.ireturn, 1) := by decide +kernel
theorem dX6_set_0 : decode cX6_set 0 = .ok (.aload_n 0, 1) := by decide +kernel
theorem dX6_set_1 : decode cX6_set 1 = .ok (.aload_n 0, 1) := by decide +kernel
theorem dX6_set_2 : decode cX6_set 2 = .ok (.iload_n 1, 1) := by decide +kernel
theorem dX6_set_3 : decode cX6_set 3 = .ok (.invokevirtual 69, 3) := by decide +kernel
theorem dX6_set_6 : decode cX6_set 6 = .ok (.ifCond .ne 7, 3) := by decide +kernel
theorem dX6_set_9 : decode cX6_set 9 = .ok (.iconst 1, 1) := by decide +kernel
theorem dX6_set_10 : decode cX6_set 10 = .ok (.goto 33, 3) := by decide +kernel
theorem dX6_set_13 : decode cX6_set 13 = .ok (.iload_n 2, 1) := by decide +kernel
theorem dX6_set_14 : decode cX6_set 14 = .ok (.iconst 0, 1) := by decide +kernel
theorem dX6_set_15 : decode cX6_set 15 = .ok (.bipush 19, 2) := by decide +kernel
theorem dX6_set_17 : decode cX6_set 17 = .ok (.invokestatic 65, 3) := by decide +kernel
theorem dX6_set_20 : decode cX6_set 20 = .ok (.ifCond .eq 18, 3) := by decide +kernel
theorem dX6_set_23 : decode cX6_set 23 = .ok (.iload_n 3, 1) := by decide +kernel
theorem dX6_set_24 : decode cX6_set 24 = .ok (.iload_n 2, 1) := by decide +kernel
theorem dX6_set_25 : decode cX6_set 25 = .ok (.invokestatic 91, 3) := by decide +kernel
theorem dX6_set_28 : decode cX6_set 28 = .ok (.iload_n 2, 1) := by decide +kernel
theorem dX6_set_29 : decode cX6_set 29 = .ok (.invokestatic 94, 3) := by decide +kernel
theorem dX6_set_32 : decode cX6_set 32 = .ok (.invokestatic 65, 3) := by decide +kernel
theorem dX6_set_35 : decode cX6_set 35 = .ok (.ifCond .ne 7, 3) := by decide +kernel
theorem dX6_set_38 : decode cX6_set 38 = .ok (.iconst 2, 1) := by decide +kernel
theorem dX6_set_39 : decode cX6_set 39 = .ok (.goto 4, 3) := by decide +kernel
theorem dX6_set_42 : decode cX6_set 42 = .ok (.iconst 0, 1) := by decide +kernel
theorem dX6_set_43 : decode cX6_set 43 = .ok (.putfield 58, 3) := by decide +kernel
theorem dX6_set_46 : decode cX6_set 46 = .ok (.aload_n 0, 1) := by decide +kernel
theorem dX6_set_47 : decode cX6_set 47 = .ok (.getfield 58, 3) := by decide +kernel
theorem dX6_set_50 : decode cX6_set 50 = .ok (.ifCond .eq 5, 3) := by decide +kernel
theorem dX6_set_53 : decode cX6_set 53 = .ok (.iconst 0, 1) := by decide +kernel
theorem dX6_set_54 : decode cX6_set 54 = .ok (.ireturn, 1) := by decide +kernel
theorem dX6_set_55 : decode cX6_set 55 = .ok (.aload_n 0, 1) := by decide +kernel
theorem dX6_set_56 : decode cX6_set 56 = .ok (.iload_n 1, 1) := by decide +kernel
theorem dX6_set_57 : decode cX6_set 57 = .ok (.iload_n 2, 1) := by decide +kernel
theorem dX6_set_58 : decode cX6_set 58 = .ok (.invokevirtual 73, 3) := by decide +kernel
theorem dX6_set_61 : decode cX6_set 61 = .ok (.istore 4, 2) := by decide +kernel
theorem dX6_set_63 : decode cX6_set 63 = .ok (.aload_n 0, 1) := by decide +kernel
theorem dX6_set_64 : decode cX6_set 64 = .ok (.getfield 7, 3) := by decide +kernel
theorem dX6_set_67 : decode cX6_set 67 = .ok (.bipush 43, 2) := by decide +kernel
theorem dX6_set_69 : decode cX6_set 69 = .ok (.bipush 20, 2) := by decide +kernel
theorem dX6_set_71 : decode cX6_set 71 = .ok (.iload_n 1, 1) := by decide +kernel
theorem dX6_set_72 : decode cX6_set 72 = .ok (.imul, 1) := by decide +kernel
theorem dX6_set_73 : decode cX6_set 73 = .ok (.iadd, 1) := by decide +kernel
theorem dX6_set_74 : decode cX6_set 74 = .ok (.iload_n 2, 1) := by decide +kernel
theorem dX6_set_75 : decode cX6_set 75 = .ok (.iadd, 1) := by decide +kernel
theorem dX6_set_76 : decode cX6_set 76 = .ok (.iload_n 3, 1) := by decide +kernel
theorem dX6_set_77 : decode cX6_set 77 = .ok (.iastore, 1) := by decide +kernel
theorem dX6_set_78 : decode cX6_set 78 = .ok (.iload 4, 2) := by decide +kernel
theorem dX6_set_80 : decode cX6_set 80 = .ok (.ireturn, 1) := by decide +kernel
theorem dX6_get_0 : decode cX6_get 0 = .ok (.aload_n 0, 1) := by decide +kernel
theorem dX6_get_1 : decode cX6_get 1 = .ok (.aload_n 0, 1) := by decide +kernel
theorem dX6_get_2 : decode cX6_get 2 = .ok (.iload_n 1, 1) := by decide +kernel
theorem dX6_get_3 : decode cX6_get 3 = .ok (.invokevirtual 69, 3) := by decide +kernel
theorem dX6_get_6 : decode cX6_get 6 = .ok (.ifCond .ne 7, 3) := by decide +kernel
theorem dX6_get_9 : decode cX6_get 9 = .ok (.iconst 1, 1) := by decide +kernel
theorem dX6_get_10 : decode cX6_get 10 = .ok (.goto 18, 3) := by decide +kernel
theorem dX6_get_13 : decode cX6_get 13 = .ok (.iload_n 2, 1) := by decide +kernel
theorem dX6_get_14 : decode cX6_get 14 = .ok (.iconst 0, 1) := by decide +kernel
theorem dX6_get_15 : decode cX6_get 15 = .ok (.bipush 19, 2) := by decide +kernel
theorem dX6_get_17 : decode cX6_get 17 = .ok (.invokestatic 65, 3) := by decide +kernel
theorem dX6_get_20 : decode cX6_get 20 = .ok (.ifCond .ne 7, 3) := by decide +kernel
theorem dX6_get_23 : decode cX6_get 23 = .ok (.iconst 2, 1) := by decide +kernel
theorem dX6_get_24 : decode cX6_get 24 = .ok (.goto 4, 3) := by decide +kernel
theorem dX6_get_27 : decode cX6_get 27 = .ok (.iconst 0, 1) := by decide +kernel
theorem dX6_get_28 : decode cX6_get 28 = .ok (.putfield 58, 3) := by decide +kernel
theorem dX6_get_31 : decode cX6_get 31 = .ok (.aload_n 0, 1) := by decide +kernel
theorem dX6_get_32 : decode cX6_get 32 = .ok (.getfield 58, 3) := by decide +kernel
theorem dX6_get_35 : decode cX6_get 35 = .ok (.ifCond .eq 7, 3) := by decide +kernel
theorem dX6_get_38 : decode cX6_get 38 = .ok (.iconst 0, 1) := by decide +kernel
theorem dX6_get_39 : decode cX6_get 39 = .ok (.goto 9, 3) := by decide +kernel
theorem dX6_get_42 : decode cX6_get 42 = .ok (.aload_n 0, 1) := by decide +kernel
theorem dX6_get_43 : decode cX6_get 43 = .ok (.iload_n 1, 1) := by decide +kernel
theorem dX6_get_44 : decode cX6_get 44 = .ok (.iload_n 2, 1) := by decide +kernel
theorem dX6_get_45 : decode cX6_get 45 = .ok (.invokevirtual 73, 3) := by decide +kernel
theorem dX6_get_48 : decode cX6_get 48 = .ok (.ireturn, 1) := by decide +kernel
theorem dX6_copyStyle_0 : decode cX6_copyStyle 0 = .ok (.aload_n 0, 1) := by decide +kernel
theorem dX6_copyStyle_1 : decode cX6_copyStyle 1 = .ok (.aload_n 0, 1) := by decide +kernel
theorem dX6_copyStyle_2 : decode cX6_copyStyle 2 = .ok (.iload_n 1, 1) := by decide +kernel
theorem dX6_copyStyle_3 : decode cX6_copyStyle 3 = .ok (.invokevirtual 69, 3) := by decide +kernel
theorem dX6_copyStyle_6 : decode cX6_copyStyle 6 = .ok (.ifCond .eq 15, 3) := by decide +kernel
theorem dX6_copyStyle_9 : decode cX6_copyStyle 9 = .ok (.aload_n 0, 1) := by decide +kernel
theorem dX6_copyStyle_10 : decode cX6_copyStyle 10 = .ok (.iload_n 2, 1) := by decide +kernel
theorem dX6_copyStyle_11 : decode cX6_copyStyle 11 = .ok (.invokevirtual 69, 3) := by decide +kernel
theorem dX6_copyStyle_14 : decode cX6_copyStyle 14 = .ok (.ifCond .eq 7, 3) := by decide +kernel
theorem dX6_copyStyle_17 : decode cX6_copyStyle 17 = .ok (.iconst 0, 1) := by decide +kernel
theorem dX6_copyStyle_18 : decode cX6_copyStyle 18 = .ok (.goto 4, 3) := by decide +kernel
theorem dX6_copyStyle_21 : decode cX6_copyStyle 21 = .ok (.iconst 1, 1) := by decide +kernel
theorem dX6_copyStyle_22 : decode cX6_copyStyle 22 = .ok (.putfield 58, 3) := by decide +kernel
theorem dX6_copyStyle_25 : decode cX6_copyStyle 25 = .ok (.iconst 0, 1) := by decide +kernel
theorem dX6_copyStyle_26 : decode cX6_copyStyle 26 = .ok (.istore_n 3, 1) := by decide +kernel
theorem dX6_copyStyle_27 : decode cX6_copyStyle 27 = .ok (.iconst 0, 1) := by decide +kernel
theorem dX6_copyStyle_28 : decode cX6_copyStyle 28 = .ok (.istore 4, 2) := by decide +kernel
theorem dX6_copyStyle_30 : decode cX6_copyStyle 30 = .ok (.iload 4, 2) := by decide +kernel
theorem dX6_copyStyle_32 : decode cX6_copyStyle 32 = .ok (.bipush 17, 2) := by decide +kernel
theorem dX6_copyStyle_34 : decode cX6_copyStyle 34 = .ok (.if_icmp .ge 63, 3) := by decide +kernel
theorem dX6_copyStyle_37 : decode cX6_copyStyle 37 = .ok (.aload_n 0, 1) := by decide +kernel
theorem dX6_copyStyle_38 : decode cX6_copyStyle 38 = .ok (.getfield 58, 3) := by decide +kernel
theorem dX6_copyStyle_41 : decode cX6_copyStyle 41 = .ok (.ifCond .ne 56, 3) := by decide +kernel
theorem dX6_copyStyle_44 : decode cX6_copyStyle 44 = .ok (.iload_n 3, 1) := by decide +kernel
theorem dX6_copyStyle_45 : decode cX6_copyStyle 45 = .ok (.aload_n 0, 1) := by decide +kernel
theorem dX6_copyStyle_46 : decode cX6_copyStyle 46 = .ok (.iload_n 1, 1) := by decide +kernel
theorem dX6_copyStyle_47 : decode cX6_copyStyle 47 = .ok (.iload 4, 2) := by decide +kernel
theorem dX6_copyStyle_49 : decode cX6_copyStyle 49 = .ok (.invokevirtual 73, 3) := by decide +kernel
theorem dX6_copyStyle_52 : decode cX6_copyStyle 52 = .ok (.aload_n 0, 1) := by decide +kernel
theorem dX6_copyStyle_53 : decode cX6_copyStyle 53 = .ok (.iload_n 2, 1) := by decide +kernel
theorem dX6_copyStyle_54 : decode cX6_copyStyle 54 = .ok (.iload 4, 2) := by decide +kernel
theorem dX6_copyStyle_56 : decode cX6_copyStyle 56 = .ok (.invokevirtual 73, 3) := by decide +kernel
theorem dX6_copyStyle_59 : decode cX6_copyStyle 59 = .ok (.if_icmp .ne 7, 3) := by decide +kernel
theorem dX6_copyStyle_62 : decode cX6_copyStyle 62 = .ok (.iconst 0, 1) := by decide +kernel
theorem dX6_copyStyle_63 : decode cX6_copyStyle 63 = .ok (.goto 4, 3) := by decide +kernel
theorem dX6_copyStyle_66 : decode cX6_copyStyle 66 = .ok (.iconst 1, 1) := by decide +kernel
theorem dX6_copyStyle_67 : decode cX6_copyStyle 67 = .ok (.iadd, 1) := by decide +kernel
theorem dX6_copyStyle_68 : decode cX6_copyStyle 68 = .ok (.istore_n 3, 1) := by decide +kernel
theorem dX6_copyStyle_69 : decode cX6_copyStyle 69 = .ok (.aload_n 0, 1) := by decide +kernel
theorem dX6_copyStyle_70 : decode cX6_copyStyle 70 = .ok (.getfield 7, 3) := by decide +kernel
theorem dX6_copyStyle_73 : decode cX6_copyStyle 73 = .ok (.bipush 43, 2) := by decide +kernel
theorem dX6_copyStyle_75 : decode cX6_copyStyle 75 = .ok (.bipush 20, 2) := by decide +kernel
theorem dX6_copyStyle_77 : decode cX6_copyStyle 77 = .ok (.iload_n 2, 1) := by decide +kernel
theorem dX6_copyStyle_78 : decode cX6_copyStyle 78 = .ok (.imul, 1) := by decide +kernel
theorem dX6_copyStyle_79 : decode cX6_copyStyle 79 = .ok (.iadd, 1) := by decide +kernel
theorem dX6_copyStyle_80 : decode cX6_copyStyle 80 = .ok (.iload 4, 2) := by decide +kernel
theorem dX6_copyStyle_82 : decode cX6_copyStyle 82 = .ok (.iadd, 1) := by decide +kernel
theorem dX6_copyStyle_83 : decode cX6_copyStyle 83 = .ok (.aload_n 0, 1) := by decide +kernel
theorem dX6_copyStyle_84 : decode cX6_copyStyle 84 = .ok (.iload_n 1, 1) := by decide +kernel
