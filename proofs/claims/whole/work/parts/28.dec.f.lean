theorem d_Mo_isNear_0 : decode c_Mo_isNear 0 = .ok (.aload_n 0, 1) := by decide +kernel
theorem d_Mo_isNear_1 : decode c_Mo_isNear 1 = .ok (.iload_n 1, 1) := by decide +kernel
theorem d_Mo_isNear_2 : decode c_Mo_isNear 2 = .ok (.iload_n 2, 1) := by decide +kernel
theorem d_Mo_isNear_3 : decode c_Mo_isNear 3 = .ok (.invokevirtual 82, 3) := by decide +kernel
theorem d_Mo_isNear_6 : decode c_Mo_isNear 6 = .ok (.aload_n 0, 1) := by decide +kernel
theorem d_Mo_isNear_7 : decode c_Mo_isNear 7 = .ok (.iload_n 2, 1) := by decide +kernel
theorem d_Mo_isNear_8 : decode c_Mo_isNear 8 = .ok (.aload_n 0, 1) := by decide +kernel
theorem d_Mo_isNear_9 : decode c_Mo_isNear 9 = .ok (.getfield 42, 3) := by decide +kernel
theorem d_Mo_isNear_12 : decode c_Mo_isNear 12 = .ok (.iload_n 2, 1) := by decide +kernel
theorem d_Mo_isNear_13 : decode c_Mo_isNear 13 = .ok (.iaload, 1) := by decide +kernel
theorem d_Mo_isNear_14 : decode c_Mo_isNear 14 = .ok (.invokevirtual 82, 3) := by decide +kernel
theorem d_Mo_isNear_17 : decode c_Mo_isNear 17 = .ok (.if_icmp .ge 7, 3) := by decide +kernel
theorem d_Mo_isNear_20 : decode c_Mo_isNear 20 = .ok (.iconst 1, 1) := by decide +kernel
theorem d_Mo_isNear_21 : decode c_Mo_isNear 21 = .ok (.goto 4, 3) := by decide +kernel
theorem d_Mo_isNear_24 : decode c_Mo_isNear 24 = .ok (.iconst 0, 1) := by decide +kernel
theorem d_Mo_isNear_25 : decode c_Mo_isNear 25 = .ok (.ireturn, 1) := by decide +kernel
theorem d_Mo_towards_0 : decode c_Mo_towards 0 = .ok (.iconst 0, 1) := by decide +kernel
theorem d_Mo_towards_1 : decode c_Mo_towards 1 = .ok (.istore_n 3, 1) := by decide +kernel
theorem d_Mo_towards_2 : decode c_Mo_towards 2 = .ok (.iload_n 3, 1) := by decide +kernel
theorem d_Mo_towards_3 : decode c_Mo_towards 3 = .ok (.aload_n 0, 1) := by decide +kernel
theorem d_Mo_towards_4 : decode c_Mo_towards 4 = .ok (.getfield 7, 3) := by decide +kernel
theorem d_Mo_towards_7 : decode c_Mo_towards 7 = .ok (.if_icmp .ge 47, 3) := by decide +kernel
theorem d_Mo_towards_10 : decode c_Mo_towards 10 = .ok (.aload_n 0, 1) := by decide +kernel
theorem d_Mo_towards_11 : decode c_Mo_towards 11 = .ok (.getfield 20, 3) := by decide +kernel
theorem d_Mo_towards_14 : decode c_Mo_towards 14 = .ok (.bipush 40, 2) := by decide +kernel
theorem d_Mo_towards_16 : decode c_Mo_towards 16 = .ok (.iload_n 1, 1) := by decide +kernel
theorem d_Mo_towards_17 : decode c_Mo_towards 17 = .ok (.imul, 1) := by decide +kernel
theorem d_Mo_towards_18 : decode c_Mo_towards 18 = .ok (.iload_n 3, 1) := by decide +kernel
theorem d_Mo_towards_19 : decode c_Mo_towards 19 = .ok (.iadd, 1) := by decide +kernel
theorem d_Mo_towards_20 : decode c_Mo_towards 20 = .ok (.iaload, 1) := by decide +kernel
theorem d_Mo_towards_21 : decode c_Mo_towards 21 = .ok (.istore 4, 2) := by decide +kernel
theorem d_Mo_towards_23 : decode c_Mo_towards 23 = .ok (.iload 4, 2) := by decide +kernel
theorem d_Mo_towards_25 : decode c_Mo_towards 25 = .ok (.ifCond .le 23, 3) := by decide +kernel
theorem d_Mo_towards_28 : decode c_Mo_towards 28 = .ok (.iload 4, 2) := by decide +kernel
theorem d_Mo_towards_30 : decode c_Mo_towards 30 = .ok (.aload_n 0, 1) := by decide +kernel
theorem d_Mo_towards_31 : decode c_Mo_towards 31 = .ok (.iload_n 3, 1) := by decide +kernel
theorem d_Mo_towards_32 : decode c_Mo_towards 32 = .ok (.iload_n 2, 1) := by decide +kernel
theorem d_Mo_towards_33 : decode c_Mo_towards 33 = .ok (.invokevirtual 82, 3) := by decide +kernel
theorem d_Mo_towards_36 : decode c_Mo_towards 36 = .ok (.iadd, 1) := by decide +kernel
theorem d_Mo_towards_37 : decode c_Mo_towards 37 = .ok (.aload_n 0, 1) := by decide +kernel
theorem d_Mo_towards_38 : decode c_Mo_towards 38 = .ok (.iload_n 1, 1) := by decide +kernel
theorem d_Mo_towards_39 : decode c_Mo_towards 39 = .ok (.iload_n 2, 1) := by decide +kernel
theorem d_Mo_towards_40 : decode c_Mo_towards 40 = .ok (.invokevirtual 82, 3) := by decide +kernel
theorem d_Mo_towards_43 : decode c_Mo_towards 43 = .ok (.if_icmp .ne 5, 3) := by decide +kernel
theorem d_Mo_towards_46 : decode c_Mo_towards 46 = .ok (.iload_n 3, 1) := by decide +kernel
theorem d_Mo_towards_47 : decode c_Mo_towards 47 = .ok (.ireturn, 1) := by decide +kernel
theorem d_Mo_towards_48 : decode c_Mo_towards 48 = .ok (.iinc 3 1, 3) := by decide +kernel
theorem d_Mo_towards_51 : decode c_Mo_towards 51 = .ok (.goto (-49), 3) := by decide +kernel
theorem d_Mo_towards_54 : decode c_Mo_towards 54 = .ok (.iconst (-1), 1) := by decide +kernel
theorem d_Mo_towards_55 : decode c_Mo_towards 55 = .ok (.ireturn, 1) := by decide +kernel
theorem d_Mo_marks_0 : decode c_Mo_marks 0 = .ok (.iconst 0, 1) := by decide +kernel
theorem d_Mo_marks_1 : decode c_Mo_marks 1 = .ok (.istore_n 1, 1) := by decide +kernel
theorem d_Mo_marks_2 : decode c_Mo_marks 2 = .ok (.iconst 0, 1) := by decide +kernel
theorem d_Mo_marks_3 : decode c_Mo_marks 3 = .ok (.istore_n 2, 1) := by decide +kernel
theorem d_Mo_marks_4 : decode c_Mo_marks 4 = .ok (.iload_n 2, 1) := by decide +kernel
theorem d_Mo_marks_5 : decode c_Mo_marks 5 = .ok (.aload_n 0, 1) := by decide +kernel
theorem d_Mo_marks_6 : decode c_Mo_marks 6 = .ok (.getfield 7, 3) := by decide +kernel
theorem d_Mo_marks_9 : decode c_Mo_marks 9 = .ok (.if_icmp .ge 26, 3) := by decide +kernel
theorem d_Mo_marks_12 : decode c_Mo_marks 12 = .ok (.iload_n 1, 1) := by decide +kernel
theorem d_Mo_marks_13 : decode c_Mo_marks 13 = .ok (.aload_n 0, 1) := by decide +kernel
theorem d_Mo_marks_14 : decode c_Mo_marks 14 = .ok (.getfield 32, 3) := by decide +kernel
theorem d_Mo_marks_17 : decode c_Mo_marks 17 = .ok (.iload_n 2, 1) := by decide +kernel
theorem d_Mo_marks_18 : decode c_Mo_marks 18 = .ok (.baload, 1) := by decide +kernel
theorem d_Mo_marks_19 : decode c_Mo_marks 19 = .ok (.ifCond .eq 7, 3) := by decide +kernel
theorem d_Mo_marks_22 : decode c_Mo_marks 22 = .ok (.iconst 1, 1) := by decide +kernel
theorem d_Mo_marks_23 : decode c_Mo_marks 23 = .ok (.goto 4, 3) := by decide +kernel
theorem d_Mo_marks_26 : decode c_Mo_marks 26 = .ok (.iconst 0, 1) := by decide +kernel
theorem d_Mo_marks_27 : decode c_Mo_marks 27 = .ok (.iadd, 1) := by decide +kernel
theorem d_Mo_marks_28 : decode c_Mo_marks 28 = .ok (.istore_n 1, 1) := by decide +kernel
theorem d_Mo_marks_29 : decode c_Mo_marks 29 = .ok (.iinc 2 1, 3) := by decide +kernel
theorem d_Mo_marks_32 : decode c_Mo_marks 32 = .ok (.goto (-28), 3) := by decide +kernel
theorem d_Mo_marks_35 : decode c_Mo_marks 35 = .ok (.iload_n 1, 1) := by decide +kernel
theorem d_Mo_marks_36 : decode c_Mo_marks 36 = .ok (.ireturn, 1) := by decide +kernel
theorem d_Mo_landmark_0 : decode c_Mo_landmark 0 = .ok (.aload_n 0, 1) := by decide +kernel
theorem d_Mo_landmark_1 : decode c_Mo_landmark 1 = .ok (.invokevirtual 113, 3) := by decide +kernel
theorem d_Mo_landmark_4 : decode c_Mo_landmark 4 = .ok (.ifCond .ne 5, 3) := by decide +kernel
theorem d_Mo_landmark_7 : decode c_Mo_landmark 7 = .ok (.iconst 0, 1) := by decide +kernel
theorem d_Mo_landmark_8 : decode c_Mo_landmark 8 = .ok (.ireturn, 1) := by decide +kernel
theorem d_Mo_landmark_9 : decode c_Mo_landmark 9 = .ok (.iload_n 1, 1) := by decide +kernel
theorem d_Mo_landmark_10 : decode c_Mo_landmark 10 = .ok (.istore_n 2, 1) := by decide +kernel
theorem d_Mo_landmark_11 : decode c_Mo_landmark 11 = .ok (.iconst 0, 1) := by decide +kernel
theorem d_Mo_landmark_12 : decode c_Mo_landmark 12 = .ok (.istore_n 3, 1) := by decide +kernel
theorem d_Mo_landmark_13 : decode c_Mo_landmark 13 = .ok (.iload_n 3, 1) := by decide +kernel
theorem d_Mo_landmark_14 : decode c_Mo_landmark 14 = .ok (.aload_n 0, 1) := by decide +kernel
theorem d_Mo_landmark_15 : decode c_Mo_landmark 15 = .ok (.getfield 7, 3) := by decide +kernel
theorem d_Mo_landmark_18 : decode c_Mo_landmark 18 = .ok (.if_icmp .ge 34, 3) := by decide +kernel
theorem d_Mo_landmark_21 : decode c_Mo_landmark 21 = .ok (.iload_n 1, 1) := by decide +kernel
theorem d_Mo_landmark_22 : decode c_Mo_landmark 22 = .ok (.ifCond .lt 30, 3) := by decide +kernel
theorem d_Mo_landmark_25 : decode c_Mo_landmark 25 = .ok (.aload_n 0, 1) := by decide +kernel
theorem d_Mo_landmark_26 : decode c_Mo_landmark 26 = .ok (.getfield 32, 3) := by decide +kernel
theorem d_Mo_landmark_29 : decode c_Mo_landmark 29 = .ok (.iload_n 3, 1) := by decide +kernel
theorem d_Mo_landmark_30 : decode c_Mo_landmark 30 = .ok (.baload, 1) := by decide +kernel
theorem d_Mo_landmark_31 : decode c_Mo_landmark 31 = .ok (.ifCond .ne 6, 3) := by decide +kernel
theorem d_Mo_landmark_34 : decode c_Mo_landmark 34 = .ok (.goto 12, 3) := by decide +kernel
theorem d_Mo_landmark_37 : decode c_Mo_landmark 37 = .ok (.iload_n 2, 1) := by decide +kernel
theorem d_Mo_landmark_38 : decode c_Mo_landmark 38 = .ok (.ifCond .ne 5, 3) := by decide +kernel
theorem d_Mo_landmark_41 : decode c_Mo_landmark 41 = .ok (.iload_n 3, 1) := by decide +kernel
theorem d_Mo_landmark_42 : decode c_Mo_landmark 42 = .ok (.ireturn, 1) := by decide +kernel
theorem d_Mo_landmark_43 : decode c_Mo_landmark 43 = .ok (.iinc 2 (-1), 3) := by decide +kernel
theorem d_Mo_landmark_46 : decode c_Mo_landmark 46 = .ok (.iinc 3 1, 3) := by decide +kernel
theorem d_Mo_landmark_49 : decode c_Mo_landmark 49 = .ok (.goto (-36), 3) := by decide +kernel
theorem d_Mo_landmark_52 : decode c_Mo_landmark 52 = .ok (.aload_n 0, 1) := by decide +kernel
theorem d_Mo_landmark_53 : decode c_Mo_landmark 53 = .ok (.iconst 2, 1) := by decide +kernel
theorem d_Mo_landmark_54 : decode c_Mo_landmark 54 = .ok (.putfield 57, 3) := by decide +kernel
theorem d_Mo_landmark_57 : decode c_Mo_landmark 57 = .ok (.iconst 0, 1) := by decide +kernel
theorem d_Mo_landmark_58 : decode c_Mo_landmark 58 = .ok (.ireturn, 1) := by decide +kernel
theorem d_Mo_isBuilt_0 : decode c_Mo_isBuilt 0 = .ok (.aload_n 0, 1) := by decide +kernel
theorem d_Mo_isBuilt_1 : decode c_Mo_isBuilt 1 = .ok (.aload_n 0, 1) := by decide +kernel
theorem d_Mo_isBuilt_2 : decode c_Mo_isBuilt 2 = .ok (.getfield 60, 3) := by decide +kernel
theorem d_Mo_isBuilt_5 : decode c_Mo_isBuilt 5 = .ok (.ifCond .eq 7, 3) := by decide +kernel
theorem d_Mo_isBuilt_8 : decode c_Mo_isBuilt 8 = .ok (.iconst 0, 1) := by decide +kernel
theorem d_Mo_isBuilt_9 : decode c_Mo_isBuilt 9 = .ok (.goto 4, 3) := by decide +kernel
theorem d_Mo_isBuilt_12 : decode c_Mo_isBuilt 12 = .ok (.iconst 1, 1) := by decide +kernel
theorem d_Mo_isBuilt_13 : decode c_Mo_isBuilt 13 = .ok (.putfield 57, 3) := by decide +kernel
theorem d_Mo_isBuilt_16 : decode c_Mo_isBuilt 16 = .ok (.aload_n 0, 1) := by decide +kernel
theorem d_Mo_isBuilt_17 : decode c_Mo_isBuilt 17 = .ok (.getfield 60, 3) := by decide +kernel
theorem d_Mo_isBuilt_20 : decode c_Mo_isBuilt 20 = .ok (.ireturn, 1) := by decide +kernel
theorem d_Mo_table_0 : decode c_Mo_table 0 = .ok (.aload_n 0, 1) := by decide +kernel
theorem d_Mo_table_1 : decode c_Mo_table 1 = .ok (.invokevirtual 113, 3) := by decide +kernel
theorem d_Mo_table_4 : decode c_Mo_table 4 = .ok (.ifCond .ne 5, 3) := by decide +kernel
theorem d_Mo_table_7 : decode c_Mo_table 7 = .ok (.iconst 0, 1) := by decide +kernel
theorem d_Mo_table_8 : decode c_Mo_table 8 = .ok (.ireturn, 1) := by decide +kernel
theorem d_Mo_table_9 : decode c_Mo_table 9 = .ok (.aload_n 0, 1) := by decide +kernel
theorem d_Mo_table_10 : decode c_Mo_table 10 = .ok (.aload_n 0, 1) := by decide +kernel
theorem d_Mo_table_11 : decode c_Mo_table 11 = .ok (.iload_n 1, 1) := by decide +kernel
theorem d_Mo_table_12 : decode c_Mo_table 12 = .ok (.invokevirtual 70, 3) := by decide +kernel
theorem d_Mo_table_15 : decode c_Mo_table 15 = .ok (.ifCond .eq 12, 3) := by decide +kernel
theorem d_Mo_table_18 : decode c_Mo_table 18 = .ok (.iload_n 2, 1) := by decide +kernel
theorem d_Mo_table_19 : decode c_Mo_table 19 = .ok (.ifCond .lt 8, 3) := by decide +kernel
theorem d_Mo_table_22 : decode c_Mo_table 22 = .ok (.iload_n 2, 1) := by decide +kernel
theorem d_Mo_table_23 : decode c_Mo_table 23 = .ok (.iconst 2, 1) := by decide +kernel
theorem d_Mo_table_24 : decode c_Mo_table 24 = .ok (.if_icmp .le 7, 3) := by decide +kernel
theorem d_Mo_table_27 : decode c_Mo_table 27 = .ok (.iconst 2, 1) := by decide +kernel
theorem d_Mo_table_28 : decode c_Mo_table 28 = .ok (.goto 4, 3) := by decide +kernel
theorem d_Mo_table_31 : decode c_Mo_table 31 = .ok (.iconst 0, 1) := by decide +kernel
theorem d_Mo_table_32 : decode c_Mo_table 32 = .ok (.putfield 57, 3) := by decide +kernel
theorem d_Mo_table_35 : decode c_Mo_table 35 = .ok (.aload_n 0, 1) := by decide +kernel
theorem d_Mo_table_36 : decode c_Mo_table 36 = .ok (.getfield 57, 3) := by decide +kernel
theorem d_Mo_table_39 : decode c_Mo_table 39 = .ok (.ifCond .eq 5, 3) := by decide +kernel
theorem d_Mo_table_42 : decode c_Mo_table 42 = .ok (.iconst 0, 1) := by decide +kernel
theorem d_Mo_table_43 : decode c_Mo_table 43 = .ok (.ireturn, 1) := by decide +kernel
theorem d_Mo_table_44 : decode c_Mo_table 44 = .ok (.iload_n 2, 1) := by decide +kernel
theorem d_Mo_table_45 : decode c_Mo_table 45 = .ok (.iconst 2, 1) := by decide +kernel
theorem d_Mo_table_46 : decode c_Mo_table 46 = .ok (.if_icmp .ne 12, 3) := by decide +kernel
theorem d_Mo_table_49 : decode c_Mo_table 49 = .ok (.aload_n 0, 1) := by decide +kernel
theorem d_Mo_table_50 : decode c_Mo_table 50 = .ok (.getfield 42, 3) := by decide +kernel
theorem d_Mo_table_53 : decode c_Mo_table 53 = .ok (.iload_n 1, 1) := by decide +kernel
theorem d_Mo_table_54 : decode c_Mo_table 54 = .ok (.iaload, 1) := by decide +kernel
theorem d_Mo_table_55 : decode c_Mo_table 55 = .ok (.goto 21, 3) := by decide +kernel
theorem d_Mo_table_58 : decode c_Mo_table 58 = .ok (.aload_n 0, 1) := by decide +kernel
theorem d_Mo_table_59 : decode c_Mo_table 59 = .ok (.iload_n 1, 1) := by decide +kernel
theorem d_Mo_table_60 : decode c_Mo_table 60 = .ok (.invokevirtual 103, 3) := by decide +kernel
theorem d_Mo_table_63 : decode c_Mo_table 63 = .ok (.iload_n 2, 1) := by decide +kernel
theorem d_Mo_table_64 : decode c_Mo_table 64 = .ok (.ifCond .ne 10, 3) := by decide +kernel
theorem d_Mo_table_67 : decode c_Mo_table 67 = .ok (.aload_n 0, 1) := by decide +kernel
theorem d_Mo_table_68 : decode c_Mo_table 68 = .ok (.invokevirtual 109, 3) := by decide +kernel
theorem d_Mo_table_71 : decode c_Mo_table 71 = .ok (.goto 4, 3) := by decide +kernel
theorem d_Mo_table_74 : decode c_Mo_table 74 = .ok (.iconst 0, 1) := by decide +kernel
theorem d_Mo_table_75 : decode c_Mo_table 75 = .ok (.iadd, 1) := by decide +kernel
theorem d_Mo_table_76 : decode c_Mo_table 76 = .ok (.ireturn, 1) := by decide +kernel
theorem d_Mo_row_0 : decode c_Mo_row 0 = .ok (.aload_n 0, 1) := by decide +kernel
theorem d_Mo_row_1 : decode c_Mo_row 1 = .ok (.invokevirtual 113, 3) := by decide +kernel
theorem d_Mo_row_4 : decode c_Mo_row 4 = .ok (.ifCond .ne 5, 3) := by decide +kernel
theorem d_Mo_row_7 : decode c_Mo_row 7 = .ok (.iconst 0, 1) := by decide +kernel
theorem d_Mo_row_8 : decode c_Mo_row 8 = .ok (.ireturn, 1) := by decide +kernel
theorem d_Mo_row_9 : decode c_Mo_row 9 = .ok (.aload_n 0, 1) := by decide +kernel
theorem d_Mo_row_10 : decode c_Mo_row 10 = .ok (.aload_n 0, 1) := by decide +kernel
theorem d_Mo_row_11 : decode c_Mo_row 11 = .ok (.iload_n 1, 1) := by decide +kernel
theorem d_Mo_row_12 : decode c_Mo_row 12 = .ok (.invokevirtual 70, 3) := by decide +kernel
theorem d_Mo_row_15 : decode c_Mo_row 15 = .ok (.ifCond .eq 11, 3) := by decide +kernel
theorem d_Mo_row_18 : decode c_Mo_row 18 = .ok (.aload_n 0, 1) := by decide +kernel
theorem d_Mo_row_19 : decode c_Mo_row 19 = .ok (.iload_n 2, 1) := by decide +kernel
theorem d_Mo_row_20 : decode c_Mo_row 20 = .ok (.invokevirtual 70, 3) := by decide +kernel
theorem d_Mo_row_23 : decode c_Mo_row 23 = .ok (.ifCond .ne 7, 3) := by decide +kernel
theorem d_Mo_row_26 : decode c_Mo_row 26 = .ok (.iconst 2, 1) := by decide +kernel
theorem d_Mo_row_27 : decode c_Mo_row 27 = .ok (.goto 26, 3) := by decide +kernel
theorem d_Mo_row_30 : decode c_Mo_row 30 = .ok (.aload_n 0, 1) := by decide +kernel
theorem d_Mo_row_31 : decode c_Mo_row 31 = .ok (.getfield 32, 3) := by decide +kernel
theorem d_Mo_row_34 : decode c_Mo_row 34 = .ok (.iload_n 2, 1) := by decide +kernel
theorem d_Mo_row_35 : decode c_Mo_row 35 = .ok (.baload, 1) := by decide +kernel
theorem d_Mo_row_36 : decode c_Mo_row 36 = .ok (.ifCond .ne 16, 3) := by decide +kernel
theorem d_Mo_row_39 : decode c_Mo_row 39 = .ok (.aload_n 0, 1) := by decide +kernel
theorem d_Mo_row_40 : decode c_Mo_row 40 = .ok (.iload_n 1, 1) := by decide +kernel
theorem d_Mo_row_41 : decode c_Mo_row 41 = .ok (.iload_n 2, 1) := by decide +kernel
theorem d_Mo_row_42 : decode c_Mo_row 42 = .ok (.invokevirtual 93, 3) := by decide +kernel
theorem d_Mo_row_45 : decode c_Mo_row 45 = .ok (.ifCond .ne 7, 3) := by decide +kernel
theorem d_Mo_row_48 : decode c_Mo_row 48 = .ok (.iconst 3, 1) := by decide +kernel
theorem d_Mo_row_49 : decode c_Mo_row 49 = .ok (.goto 4, 3) := by decide +kernel
theorem d_Mo_row_52 : decode c_Mo_row 52 = .ok (.iconst 0, 1) := by decide +kernel
theorem d_Mo_row_53 : decode c_Mo_row 53 = .ok (.putfield 57, 3) := by decide +kernel
theorem d_Mo_row_56 : decode c_Mo_row 56 = .ok (.aload_n 0, 1) := by decide +kernel
theorem d_Mo_row_57 : decode c_Mo_row 57 = .ok (.getfield 57, 3) := by decide +kernel
theorem d_Mo_row_60 : decode c_Mo_row 60 = .ok (.ifCond .eq 5, 3) := by decide +kernel
theorem d_Mo_row_63 : decode c_Mo_row 63 = .ok (.iconst 0, 1) := by decide +kernel
theorem d_Mo_row_64 : decode c_Mo_row 64 = .ok (.ireturn, 1) := by decide +kernel
theorem d_Mo_row_65 : decode c_Mo_row 65 = .ok (.iload_n 1, 1) := by decide +kernel
theorem d_Mo_row_66 : decode c_Mo_row 66 = .ok (.iload_n 2, 1) := by decide +kernel
theorem d_Mo_row_67 : decode c_Mo_row 67 = .ok (.if_icmp .ne 7, 3) := by decide +kernel
theorem d_Mo_row_70 : decode c_Mo_row 70 = .ok (.iconst (-1), 1) := by decide +kernel
theorem d_Mo_row_71 : decode c_Mo_row 71 = .ok (.goto 17, 3) := by decide +kernel
theorem d_Mo_row_74 : decode c_Mo_row 74 = .ok (.aload_n 0, 1) := by decide +kernel
theorem d_Mo_row_75 : decode c_Mo_row 75 = .ok (.getfield 23, 3) := by decide +kernel
theorem d_Mo_row_78 : decode c_Mo_row 78 = .ok (.iload_n 1, 1) := by decide +kernel
theorem d_Mo_row_79 : decode c_Mo_row 79 = .ok (.aload_n 0, 1) := by decide +kernel
theorem d_Mo_row_80 : decode c_Mo_row 80 = .ok (.iload_n 1, 1) := by decide +kernel
theorem d_Mo_row_81 : decode c_Mo_row 81 = .ok (.iload_n 2, 1) := by decide +kernel
theorem d_Mo_row_82 : decode c_Mo_row 82 = .ok (.invokevirtual 106, 3) := by decide +kernel
theorem d_Mo_row_85 : decode c_Mo_row 85 = .ok (.invokestatic 74, 3) := by decide +kernel
theorem d_Mo_row_88 : decode c_Mo_row 88 = .ok (.ireturn, 1) := by decide +kernel
theorem d_Mo_tree_0 : decode c_Mo_tree 0 = .ok (.aload_n 0, 1) := by decide +kernel
theorem d_Mo_tree_1 : decode c_Mo_tree 1 = .ok (.invokevirtual 113, 3) := by decide +kernel
theorem d_Mo_tree_4 : decode c_Mo_tree 4 = .ok (.ifCond .ne 5, 3) := by decide +kernel
theorem d_Mo_tree_7 : decode c_Mo_tree 7 = .ok (.iconst 0, 1) := by decide +kernel
theorem d_Mo_tree_8 : decode c_Mo_tree 8 = .ok (.ireturn, 1) := by decide +kernel
theorem d_Mo_tree_9 : decode c_Mo_tree 9 = .ok (.aload_n 0, 1) := by decide +kernel
theorem d_Mo_tree_10 : decode c_Mo_tree 10 = .ok (.aload_n 0, 1) := by decide +kernel
theorem d_Mo_tree_11 : decode c_Mo_tree 11 = .ok (.iload_n 1, 1) := by decide +kernel
theorem d_Mo_tree_12 : decode c_Mo_tree 12 = .ok (.invokevirtual 70, 3) := by decide +kernel
theorem d_Mo_tree_15 : decode c_Mo_tree 15 = .ok (.ifCond .eq 20, 3) := by decide +kernel
theorem d_Mo_tree_18 : decode c_Mo_tree 18 = .ok (.aload_n 0, 1) := by decide +kernel
theorem d_Mo_tree_19 : decode c_Mo_tree 19 = .ok (.iload_n 2, 1) := by decide +kernel
theorem d_Mo_tree_20 : decode c_Mo_tree 20 = .ok (.invokevirtual 70, 3) := by decide +kernel
theorem d_Mo_tree_23 : decode c_Mo_tree 23 = .ok (.ifCond .eq 12, 3) := by decide +kernel
theorem d_Mo_tree_26 : decode c_Mo_tree 26 = .ok (.iload_n 3, 1) := by decide +kernel
theorem d_Mo_tree_27 : decode c_Mo_tree 27 = .ok (.ifCond .lt 8, 3) := by decide +kernel
theorem d_Mo_tree_30 : decode c_Mo_tree 30 = .ok (.iload_n 3, 1) := by decide +kernel
theorem d_Mo_tree_31 : decode c_Mo_tree 31 = .ok (.iconst 3, 1) := by decide +kernel
theorem d_Mo_tree_32 : decode c_Mo_tree 32 = .ok (.if_icmp .le 7, 3) := by decide +kernel
theorem d_Mo_tree_35 : decode c_Mo_tree 35 = .ok (.iconst 2, 1) := by decide +kernel
theorem d_Mo_tree_36 : decode c_Mo_tree 36 = .ok (.goto 17, 3) := by decide +kernel
theorem d_Mo_tree_39 : decode c_Mo_tree 39 = .ok (.aload_n 0, 1) := by decide +kernel
theorem d_Mo_tree_40 : decode c_Mo_tree 40 = .ok (.getfield 32, 3) := by decide +kernel
theorem d_Mo_tree_43 : decode c_Mo_tree 43 = .ok (.iload_n 1, 1) := by decide +kernel
theorem d_Mo_tree_44 : decode c_Mo_tree 44 = .ok (.baload, 1) := by decide +kernel
theorem d_Mo_tree_45 : decode c_Mo_tree 45 = .ok (.ifCond .ne 7, 3) := by decide +kernel
theorem d_Mo_tree_48 : decode c_Mo_tree 48 = .ok (.iconst 3, 1) := by decide +kernel
theorem d_Mo_tree_49 : decode c_Mo_tree 49 = .ok (.goto 4, 3) := by decide +kernel
theorem d_Mo_tree_52 : decode c_Mo_tree 52 = .ok (.iconst 0, 1) := by decide +kernel
theorem d_Mo_tree_53 : decode c_Mo_tree 53 = .ok (.putfield 57, 3) := by decide +kernel
theorem d_Mo_tree_56 : decode c_Mo_tree 56 = .ok (.aload_n 0, 1) := by decide +kernel
theorem d_Mo_tree_57 : decode c_Mo_tree 57 = .ok (.getfield 57, 3) := by decide +kernel
theorem d_Mo_tree_60 : decode c_Mo_tree 60 = .ok (.ifCond .eq 5, 3) := by decide +kernel
theorem d_Mo_tree_63 : decode c_Mo_tree 63 = .ok (.iconst 0, 1) := by decide +kernel
theorem d_Mo_tree_64 : decode c_Mo_tree 64 = .ok (.ireturn, 1) := by decide +kernel
theorem d_Mo_tree_65 : decode c_Mo_tree 65 = .ok (.iload_n 3, 1) := by decide +kernel
theorem d_Mo_tree_66 : decode c_Mo_tree 66 = .ok (.ifCond .ne 10, 3) := by decide +kernel
theorem d_Mo_tree_69 : decode c_Mo_tree 69 = .ok (.aload_n 0, 1) := by decide +kernel
theorem d_Mo_tree_70 : decode c_Mo_tree 70 = .ok (.iload_n 1, 1) := by decide +kernel
theorem d_Mo_tree_71 : decode c_Mo_tree 71 = .ok (.iload_n 2, 1) := by decide +kernel
theorem d_Mo_tree_72 : decode c_Mo_tree 72 = .ok (.invokevirtual 133, 3) := by decide +kernel
theorem d_Mo_tree_75 : decode c_Mo_tree 75 = .ok (.ireturn, 1) := by decide +kernel
theorem d_Mo_tree_76 : decode c_Mo_tree 76 = .ok (.iload_n 3, 1) := by decide +kernel
theorem d_Mo_tree_77 : decode c_Mo_tree 77 = .ok (.iconst 1, 1) := by decide +kernel
theorem d_Mo_tree_78 : decode c_Mo_tree 78 = .ok (.if_icmp .ne 10, 3) := by decide +kernel
theorem d_Mo_tree_81 : decode c_Mo_tree 81 = .ok (.aload_n 0, 1) := by decide +kernel
theorem d_Mo_tree_82 : decode c_Mo_tree 82 = .ok (.iload_n 1, 1) := by decide +kernel
theorem d_Mo_tree_83 : decode c_Mo_tree 83 = .ok (.iload_n 2, 1) := by decide +kernel
theorem d_Mo_tree_84 : decode c_Mo_tree 84 = .ok (.invokevirtual 121, 3) := by decide +kernel
theorem d_Mo_tree_87 : decode c_Mo_tree 87 = .ok (.ireturn, 1) := by decide +kernel
theorem d_Mo_tree_88 : decode c_Mo_tree 88 = .ok (.iload_n 3, 1) := by decide +kernel
theorem d_Mo_tree_89 : decode c_Mo_tree 89 = .ok (.iconst 2, 1) := by decide +kernel
theorem d_Mo_tree_90 : decode c_Mo_tree 90 = .ok (.if_icmp .ne 12, 3) := by decide +kernel
theorem d_Mo_tree_93 : decode c_Mo_tree 93 = .ok (.aload_n 0, 1) := by decide +kernel
theorem d_Mo_tree_94 : decode c_Mo_tree 94 = .ok (.iload_n 1, 1) := by decide +kernel
theorem d_Mo_tree_95 : decode c_Mo_tree 95 = .ok (.iload_n 2, 1) := by decide +kernel
theorem d_Mo_tree_96 : decode c_Mo_tree 96 = .ok (.invokevirtual 124, 3) := by decide +kernel
theorem d_Mo_tree_99 : decode c_Mo_tree 99 = .ok (.goto 14, 3) := by decide +kernel
theorem d_Mo_tree_102 : decode c_Mo_tree 102 = .ok (.aload_n 0, 1) := by decide +kernel
theorem d_Mo_tree_103 : decode c_Mo_tree 103 = .ok (.getfield 45, 3) := by decide +kernel
theorem d_Mo_tree_106 : decode c_Mo_tree 106 = .ok (.bipush 40, 2) := by decide +kernel
theorem d_Mo_tree_108 : decode c_Mo_tree 108 = .ok (.iload_n 1, 1) := by decide +kernel
theorem d_Mo_tree_109 : decode c_Mo_tree 109 = .ok (.imul, 1) := by decide +kernel
theorem d_Mo_tree_110 : decode c_Mo_tree 110 = .ok (.iload_n 2, 1) := by decide +kernel
theorem d_Mo_tree_111 : decode c_Mo_tree 111 = .ok (.iadd, 1) := by decide +kernel
theorem d_Mo_tree_112 : decode c_Mo_tree 112 = .ok (.iaload, 1) := by decide +kernel
theorem d_Mo_tree_113 : decode c_Mo_tree 113 = .ok (.ireturn, 1) := by decide +kernel
theorem d_Mo_placeOf_0 : decode c_Mo_placeOf 0 = .ok (.iconst 0, 1) := by decide +kernel
theorem d_Mo_placeOf_1 : decode c_Mo_placeOf 1 = .ok (.istore_n 3, 1) := by decide +kernel
theorem d_Mo_placeOf_2 : decode c_Mo_placeOf 2 = .ok (.iload_n 2, 1) := by decide +kernel
theorem d_Mo_placeOf_3 : decode c_Mo_placeOf 3 = .ok (.istore 4, 2) := by decide +kernel
theorem d_Mo_placeOf_5 : decode c_Mo_placeOf 5 = .ok (.iload 4, 2) := by decide +kernel
theorem d_Mo_placeOf_7 : decode c_Mo_placeOf 7 = .ok (.iload_n 1, 1) := by decide +kernel
theorem d_Mo_placeOf_8 : decode c_Mo_placeOf 8 = .ok (.if_icmp .eq 30, 3) := by decide +kernel
theorem d_Mo_placeOf_11 : decode c_Mo_placeOf 11 = .ok (.iload_n 3, 1) := by decide +kernel
theorem d_Mo_placeOf_12 : decode c_Mo_placeOf 12 = .ok (.aload_n 0, 1) := by decide +kernel
theorem d_Mo_placeOf_13 : decode c_Mo_placeOf 13 = .ok (.iload_n 1, 1) := by decide +kernel
theorem d_Mo_placeOf_14 : decode c_Mo_placeOf 14 = .ok (.iload 4, 2) := by decide +kernel
theorem d_Mo_placeOf_16 : decode c_Mo_placeOf 16 = .ok (.invokevirtual 127, 3) := by decide +kernel
theorem d_Mo_placeOf_19 : decode c_Mo_placeOf 19 = .ok (.iadd, 1) := by decide +kernel
theorem d_Mo_placeOf_20 : decode c_Mo_placeOf 20 = .ok (.istore_n 3, 1) := by decide +kernel
theorem d_Mo_placeOf_21 : decode c_Mo_placeOf 21 = .ok (.aload_n 0, 1) := by decide +kernel
theorem d_Mo_placeOf_22 : decode c_Mo_placeOf 22 = .ok (.getfield 45, 3) := by decide +kernel
theorem d_Mo_placeOf_25 : decode c_Mo_placeOf 25 = .ok (.bipush 40, 2) := by decide +kernel
theorem d_Mo_placeOf_27 : decode c_Mo_placeOf 27 = .ok (.iload_n 1, 1) := by decide +kernel
theorem d_Mo_placeOf_28 : decode c_Mo_placeOf 28 = .ok (.imul, 1) := by decide +kernel
theorem d_Mo_placeOf_29 : decode c_Mo_placeOf 29 = .ok (.iload 4, 2) := by decide +kernel
theorem d_Mo_placeOf_31 : decode c_Mo_placeOf 31 = .ok (.iadd, 1) := by decide +kernel
theorem d_Mo_placeOf_32 : decode c_Mo_placeOf 32 = .ok (.iaload, 1) := by decide +kernel
theorem d_Mo_placeOf_33 : decode c_Mo_placeOf 33 = .ok (.istore 4, 2) := by decide +kernel
theorem d_Mo_placeOf_35 : decode c_Mo_placeOf 35 = .ok (.goto (-30), 3) := by decide +kernel
theorem d_Mo_placeOf_38 : decode c_Mo_placeOf 38 = .ok (.iload_n 3, 1) := by decide +kernel
theorem d_Mo_placeOf_39 : decode c_Mo_placeOf 39 = .ok (.ireturn, 1) := by decide +kernel
theorem d_Mo_behind_0 : decode c_Mo_behind 0 = .ok (.aload_n 0, 1) := by decide +kernel
theorem d_Mo_behind_1 : decode c_Mo_behind 1 = .ok (.getfield 45, 3) := by decide +kernel
theorem d_Mo_behind_4 : decode c_Mo_behind 4 = .ok (.bipush 40, 2) := by decide +kernel
theorem d_Mo_behind_6 : decode c_Mo_behind 6 = .ok (.iload_n 1, 1) := by decide +kernel
theorem d_Mo_behind_7 : decode c_Mo_behind 7 = .ok (.imul, 1) := by decide +kernel
theorem d_Mo_behind_8 : decode c_Mo_behind 8 = .ok (.iload_n 2, 1) := by decide +kernel
theorem d_Mo_behind_9 : decode c_Mo_behind 9 = .ok (.iadd, 1) := by decide +kernel
theorem d_Mo_behind_10 : decode c_Mo_behind 10 = .ok (.iaload, 1) := by decide +kernel
theorem d_Mo_behind_11 : decode c_Mo_behind 11 = .ok (.istore_n 3, 1) := by decide +kernel
theorem d_Mo_behind_12 : decode c_Mo_behind 12 = .ok (.aload_n 0, 1) := by decide +kernel
theorem d_Mo_behind_13 : decode c_Mo_behind 13 = .ok (.iload_n 1, 1) := by decide +kernel
theorem d_Mo_behind_14 : decode c_Mo_behind 14 = .ok (.iload_n 3, 1) := by decide +kernel
theorem d_Mo_behind_15 : decode c_Mo_behind 15 = .ok (.invokevirtual 124, 3) := by decide +kernel
theorem d_Mo_behind_18 : decode c_Mo_behind 18 = .ok (.istore 4, 2) := by decide +kernel
theorem d_Mo_behind_20 : decode c_Mo_behind 20 = .ok (.iconst 1, 1) := by decide +kernel
theorem d_Mo_behind_21 : decode c_Mo_behind 21 = .ok (.istore 5, 2) := by decide +kernel
theorem d_Mo_behind_23 : decode c_Mo_behind 23 = .ok (.iconst 0, 1) := by decide +kernel
theorem d_Mo_behind_24 : decode c_Mo_behind 24 = .ok (.istore 6, 2) := by decide +kernel
theorem d_Mo_behind_26 : decode c_Mo_behind 26 = .ok (.iload 6, 2) := by decide +kernel
theorem d_Mo_behind_28 : decode c_Mo_behind 28 = .ok (.aload_n 0, 1) := by decide +kernel
theorem d_Mo_behind_29 : decode c_Mo_behind 29 = .ok (.getfield 7, 3) := by decide +kernel
theorem d_Mo_behind_32 : decode c_Mo_behind 32 = .ok (.if_icmp .ge 56, 3) := by decide +kernel
theorem d_Mo_behind_35 : decode c_Mo_behind 35 = .ok (.iload_n 2, 1) := by decide +kernel
theorem d_Mo_behind_36 : decode c_Mo_behind 36 = .ok (.iload 4, 2) := by decide +kernel
theorem d_Mo_behind_38 : decode c_Mo_behind 38 = .ok (.if_icmp .eq 50, 3) := by decide +kernel
theorem d_Mo_behind_41 : decode c_Mo_behind 41 = .ok (.aload_n 0, 1) := by decide +kernel
theorem d_Mo_behind_42 : decode c_Mo_behind 42 = .ok (.getfield 45, 3) := by decide +kernel
theorem d_Mo_behind_45 : decode c_Mo_behind 45 = .ok (.bipush 40, 2) := by decide +kernel
theorem d_Mo_behind_47 : decode c_Mo_behind 47 = .ok (.iload_n 1, 1) := by decide +kernel
theorem d_Mo_behind_48 : decode c_Mo_behind 48 = .ok (.imul, 1) := by decide +kernel
theorem d_Mo_behind_49 : decode c_Mo_behind 49 = .ok (.iload 6, 2) := by decide +kernel
theorem d_Mo_behind_51 : decode c_Mo_behind 51 = .ok (.iadd, 1) := by decide +kernel
theorem d_Mo_behind_52 : decode c_Mo_behind 52 = .ok (.iaload, 1) := by decide +kernel
theorem d_Mo_behind_53 : decode c_Mo_behind 53 = .ok (.iload_n 3, 1) := by decide +kernel
theorem d_Mo_behind_54 : decode c_Mo_behind 54 = .ok (.if_icmp .ne 28, 3) := by decide +kernel
theorem d_Mo_behind_57 : decode c_Mo_behind 57 = .ok (.iload 6, 2) := by decide +kernel
theorem d_Mo_behind_59 : decode c_Mo_behind 59 = .ok (.iload 4, 2) := by decide +kernel
theorem d_Mo_behind_61 : decode c_Mo_behind 61 = .ok (.if_icmp .eq 9, 3) := by decide +kernel
theorem d_Mo_behind_64 : decode c_Mo_behind 64 = .ok (.iload 6, 2) := by decide +kernel
theorem d_Mo_behind_66 : decode c_Mo_behind 66 = .ok (.iload_n 2, 1) := by decide +kernel
theorem d_Mo_behind_67 : decode c_Mo_behind 67 = .ok (.if_icmp .ge 15, 3) := by decide +kernel
theorem d_Mo_behind_70 : decode c_Mo_behind 70 = .ok (.iload 5, 2) := by decide +kernel
theorem d_Mo_behind_72 : decode c_Mo_behind 72 = .ok (.aload_n 0, 1) := by decide +kernel
theorem d_Mo_behind_73 : decode c_Mo_behind 73 = .ok (.iload_n 1, 1) := by decide +kernel
theorem d_Mo_behind_74 : decode c_Mo_behind 74 = .ok (.iload 6, 2) := by decide +kernel
theorem d_Mo_behind_76 : decode c_Mo_behind 76 = .ok (.invokevirtual 121, 3) := by decide +kernel
theorem d_Mo_behind_79 : decode c_Mo_behind 79 = .ok (.iadd, 1) := by decide +kernel
theorem d_Mo_behind_80 : decode c_Mo_behind 80 = .ok (.istore 5, 2) := by decide +kernel
theorem d_Mo_behind_82 : decode c_Mo_behind 82 = .ok (.iinc 6 1, 3) := by decide +kernel
theorem d_Mo_behind_85 : decode c_Mo_behind 85 = .ok (.goto (-59), 3) := by decide +kernel
theorem d_Mo_behind_88 : decode c_Mo_behind 88 = .ok (.iload 5, 2) := by decide +kernel
theorem d_Mo_behind_90 : decode c_Mo_behind 90 = .ok (.ireturn, 1) := by decide +kernel
theorem d_Mo_heavy_0 : decode c_Mo_heavy 0 = .ok (.iconst (-1), 1) := by decide +kernel
theorem d_Mo_heavy_1 : decode c_Mo_heavy 1 = .ok (.istore_n 3, 1) := by decide +kernel
theorem d_Mo_heavy_2 : decode c_Mo_heavy 2 = .ok (.iconst 0, 1) := by decide +kernel
theorem d_Mo_heavy_3 : decode c_Mo_heavy 3 = .ok (.istore 4, 2) := by decide +kernel
theorem d_Mo_heavy_5 : decode c_Mo_heavy 5 = .ok (.iload 4, 2) := by decide +kernel
theorem d_Mo_heavy_7 : decode c_Mo_heavy 7 = .ok (.aload_n 0, 1) := by decide +kernel
theorem d_Mo_heavy_8 : decode c_Mo_heavy 8 = .ok (.getfield 7, 3) := by decide +kernel
theorem d_Mo_heavy_11 : decode c_Mo_heavy 11 = .ok (.if_icmp .ge 48, 3) := by decide +kernel
theorem d_Mo_heavy_14 : decode c_Mo_heavy 14 = .ok (.aload_n 0, 1) := by decide +kernel
theorem d_Mo_heavy_15 : decode c_Mo_heavy 15 = .ok (.getfield 45, 3) := by decide +kernel
theorem d_Mo_heavy_18 : decode c_Mo_heavy 18 = .ok (.bipush 40, 2) := by decide +kernel
theorem d_Mo_heavy_20 : decode c_Mo_heavy 20 = .ok (.iload_n 1, 1) := by decide +kernel
theorem d_Mo_heavy_21 : decode c_Mo_heavy 21 = .ok (.imul, 1) := by decide +kernel
theorem d_Mo_heavy_22 : decode c_Mo_heavy 22 = .ok (.iload 4, 2) := by decide +kernel
theorem d_Mo_heavy_24 : decode c_Mo_heavy 24 = .ok (.iadd, 1) := by decide +kernel
theorem d_Mo_heavy_25 : decode c_Mo_heavy 25 = .ok (.iaload, 1) := by decide +kernel
theorem d_Mo_heavy_26 : decode c_Mo_heavy 26 = .ok (.iload_n 2, 1) := by decide +kernel
theorem d_Mo_heavy_27 : decode c_Mo_heavy 27 = .ok (.if_icmp .ne 26, 3) := by decide +kernel
theorem d_Mo_heavy_30 : decode c_Mo_heavy 30 = .ok (.iload_n 3, 1) := by decide +kernel
theorem d_Mo_heavy_31 : decode c_Mo_heavy 31 = .ok (.ifCond .lt 19, 3) := by decide +kernel
theorem d_Mo_heavy_34 : decode c_Mo_heavy 34 = .ok (.aload_n 0, 1) := by decide +kernel
theorem d_Mo_heavy_35 : decode c_Mo_heavy 35 = .ok (.iload_n 1, 1) := by decide +kernel
theorem d_Mo_heavy_36 : decode c_Mo_heavy 36 = .ok (.iload 4, 2) := by decide +kernel
theorem d_Mo_heavy_38 : decode c_Mo_heavy 38 = .ok (.invokevirtual 121, 3) := by decide +kernel
theorem d_Mo_heavy_41 : decode c_Mo_heavy 41 = .ok (.aload_n 0, 1) := by decide +kernel
theorem d_Mo_heavy_42 : decode c_Mo_heavy 42 = .ok (.iload_n 1, 1) := by decide +kernel
theorem d_Mo_heavy_43 : decode c_Mo_heavy 43 = .ok (.iload_n 3, 1) := by decide +kernel
theorem d_Mo_heavy_44 : decode c_Mo_heavy 44 = .ok (.invokevirtual 121, 3) := by decide +kernel
theorem d_Mo_heavy_47 : decode c_Mo_heavy 47 = .ok (.if_icmp .le 6, 3) := by decide +kernel
theorem d_Mo_heavy_50 : decode c_Mo_heavy 50 = .ok (.iload 4, 2) := by decide +kernel
theorem d_Mo_heavy_52 : decode c_Mo_heavy 52 = .ok (.istore_n 3, 1) := by decide +kernel
theorem d_Mo_heavy_53 : decode c_Mo_heavy 53 = .ok (.iinc 4 1, 3) := by decide +kernel
theorem d_Mo_heavy_56 : decode c_Mo_heavy 56 = .ok (.goto (-51), 3) := by decide +kernel
theorem d_Mo_heavy_59 : decode c_Mo_heavy 59 = .ok (.iload_n 3, 1) := by decide +kernel
theorem d_Mo_heavy_60 : decode c_Mo_heavy 60 = .ok (.ireturn, 1) := by decide +kernel
theorem d_Mo_sizeOf_0 : decode c_Mo_sizeOf 0 = .ok (.iconst 0, 1) := by decide +kernel
theorem d_Mo_sizeOf_1 : decode c_Mo_sizeOf 1 = .ok (.istore_n 3, 1) := by decide +kernel
theorem d_Mo_sizeOf_2 : decode c_Mo_sizeOf 2 = .ok (.iconst 0, 1) := by decide +kernel
theorem d_Mo_sizeOf_3 : decode c_Mo_sizeOf 3 = .ok (.istore 4, 2) := by decide +kernel
theorem d_Mo_sizeOf_5 : decode c_Mo_sizeOf 5 = .ok (.iload 4, 2) := by decide +kernel
theorem d_Mo_sizeOf_7 : decode c_Mo_sizeOf 7 = .ok (.aload_n 0, 1) := by decide +kernel
theorem d_Mo_sizeOf_8 : decode c_Mo_sizeOf 8 = .ok (.getfield 7, 3) := by decide +kernel
theorem d_Mo_sizeOf_11 : decode c_Mo_sizeOf 11 = .ok (.if_icmp .ge 28, 3) := by decide +kernel
theorem d_Mo_sizeOf_14 : decode c_Mo_sizeOf 14 = .ok (.iload_n 3, 1) := by decide +kernel
theorem d_Mo_sizeOf_15 : decode c_Mo_sizeOf 15 = .ok (.aload_n 0, 1) := by decide +kernel
theorem d_Mo_sizeOf_16 : decode c_Mo_sizeOf 16 = .ok (.iload_n 1, 1) := by decide +kernel
theorem d_Mo_sizeOf_17 : decode c_Mo_sizeOf 17 = .ok (.iload 4, 2) := by decide +kernel
theorem d_Mo_sizeOf_19 : decode c_Mo_sizeOf 19 = .ok (.iload_n 2, 1) := by decide +kernel
theorem d_Mo_sizeOf_20 : decode c_Mo_sizeOf 20 = .ok (.invokevirtual 117, 3) := by decide +kernel
theorem d_Mo_sizeOf_23 : decode c_Mo_sizeOf 23 = .ok (.ifCond .eq 7, 3) := by decide +kernel
theorem d_Mo_sizeOf_26 : decode c_Mo_sizeOf 26 = .ok (.iconst 1, 1) := by decide +kernel
theorem d_Mo_sizeOf_27 : decode c_Mo_sizeOf 27 = .ok (.goto 4, 3) := by decide +kernel
theorem d_Mo_sizeOf_30 : decode c_Mo_sizeOf 30 = .ok (.iconst 0, 1) := by decide +kernel
theorem d_Mo_sizeOf_31 : decode c_Mo_sizeOf 31 = .ok (.iadd, 1) := by decide +kernel
theorem d_Mo_sizeOf_32 : decode c_Mo_sizeOf 32 = .ok (.istore_n 3, 1) := by decide +kernel
theorem d_Mo_sizeOf_33 : decode c_Mo_sizeOf 33 = .ok (.iinc 4 1, 3) := by decide +kernel
theorem d_Mo_sizeOf_36 : decode c_Mo_sizeOf 36 = .ok (.goto (-31), 3) := by decide +kernel
theorem d_Mo_sizeOf_39 : decode c_Mo_sizeOf 39 = .ok (.iload_n 3, 1) := by decide +kernel
theorem d_Mo_sizeOf_40 : decode c_Mo_sizeOf 40 = .ok (.ireturn, 1) := by decide +kernel
theorem d_Mo_isBelow_0 : decode c_Mo_isBelow 0 = .ok (.iload_n 2, 1) := by decide +kernel
theorem d_Mo_isBelow_1 : decode c_Mo_isBelow 1 = .ok (.istore 4, 2) := by decide +kernel
theorem d_Mo_isBelow_3 : decode c_Mo_isBelow 3 = .ok (.iload 4, 2) := by decide +kernel
theorem d_Mo_isBelow_5 : decode c_Mo_isBelow 5 = .ok (.iconst (-1), 1) := by decide +kernel
theorem d_Mo_isBelow_6 : decode c_Mo_isBelow 6 = .ok (.if_icmp .eq 26, 3) := by decide +kernel
theorem d_Mo_isBelow_9 : decode c_Mo_isBelow 9 = .ok (.iload 4, 2) := by decide +kernel
theorem d_Mo_isBelow_11 : decode c_Mo_isBelow 11 = .ok (.iload_n 3, 1) := by decide +kernel
theorem d_Mo_isBelow_12 : decode c_Mo_isBelow 12 = .ok (.if_icmp .eq 20, 3) := by decide +kernel
theorem d_Mo_isBelow_15 : decode c_Mo_isBelow 15 = .ok (.aload_n 0, 1) := by decide +kernel
theorem d_Mo_isBelow_16 : decode c_Mo_isBelow 16 = .ok (.getfield 45, 3) := by decide +kernel
theorem d_Mo_isBelow_19 : decode c_Mo_isBelow 19 = .ok (.bipush 40, 2) := by decide +kernel
theorem d_Mo_isBelow_21 : decode c_Mo_isBelow 21 = .ok (.iload_n 1, 1) := by decide +kernel
theorem d_Mo_isBelow_22 : decode c_Mo_isBelow 22 = .ok (.imul, 1) := by decide +kernel
theorem d_Mo_isBelow_23 : decode c_Mo_isBelow 23 = .ok (.iload 4, 2) := by decide +kernel
theorem d_Mo_isBelow_25 : decode c_Mo_isBelow 25 = .ok (.iadd, 1) := by decide +kernel
theorem d_Mo_isBelow_26 : decode c_Mo_isBelow 26 = .ok (.iaload, 1) := by decide +kernel
theorem d_Mo_isBelow_27 : decode c_Mo_isBelow 27 = .ok (.istore 4, 2) := by decide +kernel
theorem d_Mo_isBelow_29 : decode c_Mo_isBelow 29 = .ok (.goto (-26), 3) := by decide +kernel
theorem d_Mo_isBelow_32 : decode c_Mo_isBelow 32 = .ok (.iload 4, 2) := by decide +kernel
theorem d_Mo_isBelow_34 : decode c_Mo_isBelow 34 = .ok (.iload_n 3, 1) := by decide +kernel
theorem d_Mo_isBelow_35 : decode c_Mo_isBelow 35 = .ok (.if_icmp .ne 7, 3) := by decide +kernel
theorem d_Mo_isBelow_38 : decode c_Mo_isBelow 38 = .ok (.iconst 1, 1) := by decide +kernel
theorem d_Mo_isBelow_39 : decode c_Mo_isBelow 39 = .ok (.goto 4, 3) := by decide +kernel
theorem d_Mo_isBelow_42 : decode c_Mo_isBelow 42 = .ok (.iconst 0, 1) := by decide +kernel
theorem d_Mo_isBelow_43 : decode c_Mo_isBelow 43 = .ok (.ireturn, 1) := by decide +kernel
theorem d_Mo_label_0 : decode c_Mo_label 0 = .ok (.aload_n 0, 1) := by decide +kernel
theorem d_Mo_label_1 : decode c_Mo_label 1 = .ok (.invokevirtual 113, 3) := by decide +kernel
theorem d_Mo_label_4 : decode c_Mo_label 4 = .ok (.ifCond .ne 5, 3) := by decide +kernel
theorem d_Mo_label_7 : decode c_Mo_label 7 = .ok (.iconst 0, 1) := by decide +kernel
theorem d_Mo_label_8 : decode c_Mo_label 8 = .ok (.ireturn, 1) := by decide +kernel
theorem d_Mo_label_9 : decode c_Mo_label 9 = .ok (.aload_n 0, 1) := by decide +kernel
theorem d_Mo_label_10 : decode c_Mo_label 10 = .ok (.aload_n 0, 1) := by decide +kernel
theorem d_Mo_label_11 : decode c_Mo_label 11 = .ok (.iload_n 1, 1) := by decide +kernel
theorem d_Mo_label_12 : decode c_Mo_label 12 = .ok (.invokevirtual 70, 3) := by decide +kernel
theorem d_Mo_label_15 : decode c_Mo_label 15 = .ok (.ifCond .eq 12, 3) := by decide +kernel
theorem d_Mo_label_18 : decode c_Mo_label 18 = .ok (.iload_n 2, 1) := by decide +kernel
theorem d_Mo_label_19 : decode c_Mo_label 19 = .ok (.ifCond .lt 8, 3) := by decide +kernel
theorem d_Mo_label_22 : decode c_Mo_label 22 = .ok (.iload_n 2, 1) := by decide +kernel
theorem d_Mo_label_23 : decode c_Mo_label 23 = .ok (.iconst 4, 1) := by decide +kernel
theorem d_Mo_label_24 : decode c_Mo_label 24 = .ok (.if_icmp .le 7, 3) := by decide +kernel
theorem d_Mo_label_27 : decode c_Mo_label 27 = .ok (.iconst 2, 1) := by decide +kernel
theorem d_Mo_label_28 : decode c_Mo_label 28 = .ok (.goto 4, 3) := by decide +kernel
theorem d_Mo_label_31 : decode c_Mo_label 31 = .ok (.iconst 0, 1) := by decide +kernel
theorem d_Mo_label_32 : decode c_Mo_label 32 = .ok (.putfield 57, 3) := by decide +kernel
theorem d_Mo_label_35 : decode c_Mo_label 35 = .ok (.aload_n 0, 1) := by decide +kernel
theorem d_Mo_label_36 : decode c_Mo_label 36 = .ok (.getfield 57, 3) := by decide +kernel
theorem d_Mo_label_39 : decode c_Mo_label 39 = .ok (.ifCond .eq 7, 3) := by decide +kernel
theorem d_Mo_label_42 : decode c_Mo_label 42 = .ok (.iconst 0, 1) := by decide +kernel
theorem d_Mo_label_43 : decode c_Mo_label 43 = .ok (.goto 9, 3) := by decide +kernel
theorem d_Mo_label_46 : decode c_Mo_label 46 = .ok (.aload_n 0, 1) := by decide +kernel
theorem d_Mo_label_47 : decode c_Mo_label 47 = .ok (.iload_n 1, 1) := by decide +kernel
theorem d_Mo_label_48 : decode c_Mo_label 48 = .ok (.iload_n 2, 1) := by decide +kernel
theorem d_Mo_label_49 : decode c_Mo_label 49 = .ok (.invokevirtual 142, 3) := by decide +kernel
theorem d_Mo_label_52 : decode c_Mo_label 52 = .ok (.ireturn, 1) := by decide +kernel
