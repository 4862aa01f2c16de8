theorem d_La_init_0 : decode c_La_init 0 = .ok (.aload_n 0, 1) := by decide +kernel
theorem d_La_init_1 : decode c_La_init 1 = .ok (.invokespecial 3, 3) := by decide +kernel
theorem d_La_init_4 : decode c_La_init 4 = .ok (.aload_n 0, 1) := by decide +kernel
theorem d_La_init_5 : decode c_La_init 5 = .ok (.bipush 40, 2) := by decide +kernel
theorem d_La_init_7 : decode c_La_init 7 = .ok (.newarray .long, 2) := by decide +kernel
theorem d_La_init_9 : decode c_La_init 9 = .ok (.putfield 9, 3) := by decide +kernel
theorem d_La_init_12 : decode c_La_init 12 = .ok (.aload_n 0, 1) := by decide +kernel
theorem d_La_init_13 : decode c_La_init 13 = .ok (.bipush 40, 2) := by decide +kernel
theorem d_La_init_15 : decode c_La_init 15 = .ok (.newarray .long, 2) := by decide +kernel
theorem d_La_init_17 : decode c_La_init 17 = .ok (.putfield 15, 3) := by decide +kernel
theorem d_La_init_20 : decode c_La_init 20 = .ok (.aload_n 0, 1) := by decide +kernel
theorem d_La_init_21 : decode c_La_init 21 = .ok (.bipush 40, 2) := by decide +kernel
theorem d_La_init_23 : decode c_La_init 23 = .ok (.newarray .int, 2) := by decide +kernel
theorem d_La_init_25 : decode c_La_init 25 = .ok (.putfield 18, 3) := by decide +kernel
theorem d_La_init_28 : decode c_La_init 28 = .ok (.aload_n 0, 1) := by decide +kernel
theorem d_La_init_29 : decode c_La_init 29 = .ok (.bipush 40, 2) := by decide +kernel
theorem d_La_init_31 : decode c_La_init 31 = .ok (.newarray .int, 2) := by decide +kernel
theorem d_La_init_33 : decode c_La_init 33 = .ok (.putfield 22, 3) := by decide +kernel
theorem d_La_init_36 : decode c_La_init 36 = .ok (.aload_n 0, 1) := by decide +kernel
theorem d_La_init_37 : decode c_La_init 37 = .ok (.aload_n 1, 1) := by decide +kernel
theorem d_La_init_38 : decode c_La_init 38 = .ok (.putfield 25, 3) := by decide +kernel
theorem d_La_init_41 : decode c_La_init 41 = .ok (.aload_n 0, 1) := by decide +kernel
theorem d_La_init_42 : decode c_La_init 42 = .ok (.aload_n 2, 1) := by decide +kernel
theorem d_La_init_43 : decode c_La_init 43 = .ok (.putfield 29, 3) := by decide +kernel
theorem d_La_init_46 : decode c_La_init 46 = .ok (.return_, 1) := by decide +kernel
theorem d_Fo_init_0 : decode c_Fo_init 0 = .ok (.aload_n 0, 1) := by decide +kernel
theorem d_Fo_init_1 : decode c_Fo_init 1 = .ok (.invokespecial 3, 3) := by decide +kernel
theorem d_Fo_init_4 : decode c_Fo_init 4 = .ok (.aload_n 0, 1) := by decide +kernel
theorem d_Fo_init_5 : decode c_Fo_init 5 = .ok (.bipush 40, 2) := by decide +kernel
theorem d_Fo_init_7 : decode c_Fo_init 7 = .ok (.bipush 40, 2) := by decide +kernel
theorem d_Fo_init_9 : decode c_Fo_init 9 = .ok (.multianewarray 9 2, 4) := by decide +kernel
theorem d_Fo_init_13 : decode c_Fo_init 13 = .ok (.putfield 11, 3) := by decide +kernel
theorem d_Fo_init_16 : decode c_Fo_init 16 = .ok (.aload_n 0, 1) := by decide +kernel
theorem d_Fo_init_17 : decode c_Fo_init 17 = .ok (.bipush 40, 2) := by decide +kernel
theorem d_Fo_init_19 : decode c_Fo_init 19 = .ok (.bipush 40, 2) := by decide +kernel
theorem d_Fo_init_21 : decode c_Fo_init 21 = .ok (.multianewarray 9 2, 4) := by decide +kernel
theorem d_Fo_init_25 : decode c_Fo_init 25 = .ok (.putfield 16, 3) := by decide +kernel
theorem d_Fo_init_28 : decode c_Fo_init 28 = .ok (.aload_n 0, 1) := by decide +kernel
theorem d_Fo_init_29 : decode c_Fo_init 29 = .ok (.bipush 40, 2) := by decide +kernel
theorem d_Fo_init_31 : decode c_Fo_init 31 = .ok (.bipush 40, 2) := by decide +kernel
theorem d_Fo_init_33 : decode c_Fo_init 33 = .ok (.multianewarray 9 2, 4) := by decide +kernel
theorem d_Fo_init_37 : decode c_Fo_init 37 = .ok (.putfield 19, 3) := by decide +kernel
theorem d_Fo_init_40 : decode c_Fo_init 40 = .ok (.aload_n 0, 1) := by decide +kernel
theorem d_Fo_init_41 : decode c_Fo_init 41 = .ok (.bipush 40, 2) := by decide +kernel
theorem d_Fo_init_43 : decode c_Fo_init 43 = .ok (.bipush 40, 2) := by decide +kernel
theorem d_Fo_init_45 : decode c_Fo_init 45 = .ok (.multianewarray 9 2, 4) := by decide +kernel
theorem d_Fo_init_49 : decode c_Fo_init 49 = .ok (.putfield 22, 3) := by decide +kernel
theorem d_Fo_init_52 : decode c_Fo_init 52 = .ok (.aload_n 0, 1) := by decide +kernel
theorem d_Fo_init_53 : decode c_Fo_init 53 = .ok (.bipush 40, 2) := by decide +kernel
theorem d_Fo_init_55 : decode c_Fo_init 55 = .ok (.newarray .int, 2) := by decide +kernel
theorem d_Fo_init_57 : decode c_Fo_init 57 = .ok (.putfield 25, 3) := by decide +kernel
theorem d_Fo_init_60 : decode c_Fo_init 60 = .ok (.aload_n 0, 1) := by decide +kernel
theorem d_Fo_init_61 : decode c_Fo_init 61 = .ok (.aload_n 1, 1) := by decide +kernel
theorem d_Fo_init_62 : decode c_Fo_init 62 = .ok (.putfield 29, 3) := by decide +kernel
theorem d_Fo_init_65 : decode c_Fo_init 65 = .ok (.aload_n 0, 1) := by decide +kernel
theorem d_Fo_init_66 : decode c_Fo_init 66 = .ok (.aload_n 2, 1) := by decide +kernel
theorem d_Fo_init_67 : decode c_Fo_init 67 = .ok (.putfield 33, 3) := by decide +kernel
theorem d_Fo_init_70 : decode c_Fo_init 70 = .ok (.return_, 1) := by decide +kernel
theorem d_La_choose_0 : decode c_La_choose 0 = .ok (.aload_n 0, 1) := by decide +kernel
theorem d_La_choose_1 : decode c_La_choose 1 = .ok (.lconst 0, 1) := by decide +kernel
theorem d_La_choose_2 : decode c_La_choose 2 = .ok (.putfield 33, 3) := by decide +kernel
theorem d_La_choose_5 : decode c_La_choose 5 = .ok (.aload_n 0, 1) := by decide +kernel
theorem d_La_choose_6 : decode c_La_choose 6 = .ok (.iload_n 1, 1) := by decide +kernel
theorem d_La_choose_7 : decode c_La_choose 7 = .ok (.invokevirtual 37, 3) := by decide +kernel
theorem d_La_choose_10 : decode c_La_choose 10 = .ok (.aload_n 0, 1) := by decide +kernel
theorem d_La_choose_11 : decode c_La_choose 11 = .ok (.invokevirtual 41, 3) := by decide +kernel
theorem d_La_choose_14 : decode c_La_choose 14 = .ok (.aload_n 0, 1) := by decide +kernel
theorem d_La_choose_15 : decode c_La_choose 15 = .ok (.invokevirtual 44, 3) := by decide +kernel
theorem d_La_choose_18 : decode c_La_choose 18 = .ok (.return_, 1) := by decide +kernel
theorem d_La_fillBalls_0 : decode c_La_fillBalls 0 = .ok (.iload_n 1, 1) := by decide +kernel
theorem d_La_fillBalls_1 : decode c_La_fillBalls 1 = .ok (.aload_n 0, 1) := by decide +kernel
theorem d_La_fillBalls_2 : decode c_La_fillBalls 2 = .ok (.getfield 25, 3) := by decide +kernel
theorem d_La_fillBalls_5 : decode c_La_fillBalls 5 = .ok (.invokevirtual 53, 3) := by decide +kernel
theorem d_La_fillBalls_8 : decode c_La_fillBalls 8 = .ok (.invokestatic 67, 3) := by decide +kernel
theorem d_La_fillBalls_11 : decode c_La_fillBalls 11 = .ok (.istore_n 2, 1) := by decide +kernel
theorem d_La_fillBalls_12 : decode c_La_fillBalls 12 = .ok (.iconst 0, 1) := by decide +kernel
theorem d_La_fillBalls_13 : decode c_La_fillBalls 13 = .ok (.istore_n 3, 1) := by decide +kernel
theorem d_La_fillBalls_14 : decode c_La_fillBalls 14 = .ok (.iload_n 3, 1) := by decide +kernel
theorem d_La_fillBalls_15 : decode c_La_fillBalls 15 = .ok (.aload_n 0, 1) := by decide +kernel
theorem d_La_fillBalls_16 : decode c_La_fillBalls 16 = .ok (.getfield 25, 3) := by decide +kernel
theorem d_La_fillBalls_19 : decode c_La_fillBalls 19 = .ok (.invokevirtual 53, 3) := by decide +kernel
theorem d_La_fillBalls_22 : decode c_La_fillBalls 22 = .ok (.if_icmp .ge 52, 3) := by decide +kernel
theorem d_La_fillBalls_25 : decode c_La_fillBalls 25 = .ok (.aload_n 0, 1) := by decide +kernel
theorem d_La_fillBalls_26 : decode c_La_fillBalls 26 = .ok (.getfield 9, 3) := by decide +kernel
theorem d_La_fillBalls_29 : decode c_La_fillBalls 29 = .ok (.iload_n 3, 1) := by decide +kernel
theorem d_La_fillBalls_30 : decode c_La_fillBalls 30 = .ok (.lconst 0, 1) := by decide +kernel
theorem d_La_fillBalls_31 : decode c_La_fillBalls 31 = .ok (.lastore, 1) := by decide +kernel
theorem d_La_fillBalls_32 : decode c_La_fillBalls 32 = .ok (.iconst 0, 1) := by decide +kernel
theorem d_La_fillBalls_33 : decode c_La_fillBalls 33 = .ok (.istore 4, 2) := by decide +kernel
theorem d_La_fillBalls_35 : decode c_La_fillBalls 35 = .ok (.iload 4, 2) := by decide +kernel
theorem d_La_fillBalls_37 : decode c_La_fillBalls 37 = .ok (.iload_n 2, 1) := by decide +kernel
theorem d_La_fillBalls_38 : decode c_La_fillBalls 38 = .ok (.if_icmp .ge 30, 3) := by decide +kernel
theorem d_La_fillBalls_41 : decode c_La_fillBalls 41 = .ok (.aload_n 0, 1) := by decide +kernel
theorem d_La_fillBalls_42 : decode c_La_fillBalls 42 = .ok (.getfield 9, 3) := by decide +kernel
theorem d_La_fillBalls_45 : decode c_La_fillBalls 45 = .ok (.iload_n 3, 1) := by decide +kernel
theorem d_La_fillBalls_46 : decode c_La_fillBalls 46 = .ok (.dup2, 1) := by decide +kernel
theorem d_La_fillBalls_47 : decode c_La_fillBalls 47 = .ok (.laload, 1) := by decide +kernel
theorem d_La_fillBalls_48 : decode c_La_fillBalls 48 = .ok (.lconst 1, 1) := by decide +kernel
theorem d_La_fillBalls_49 : decode c_La_fillBalls 49 = .ok (.aload_n 0, 1) := by decide +kernel
theorem d_La_fillBalls_50 : decode c_La_fillBalls 50 = .ok (.getfield 29, 3) := by decide +kernel
theorem d_La_fillBalls_53 : decode c_La_fillBalls 53 = .ok (.iload_n 3, 1) := by decide +kernel
theorem d_La_fillBalls_54 : decode c_La_fillBalls 54 = .ok (.iload 4, 2) := by decide +kernel
theorem d_La_fillBalls_56 : decode c_La_fillBalls 56 = .ok (.invokevirtual 73, 3) := by decide +kernel
theorem d_La_fillBalls_59 : decode c_La_fillBalls 59 = .ok (.lshl, 1) := by decide +kernel
theorem d_La_fillBalls_60 : decode c_La_fillBalls 60 = .ok (.lor, 1) := by decide +kernel
theorem d_La_fillBalls_61 : decode c_La_fillBalls 61 = .ok (.lastore, 1) := by decide +kernel
theorem d_La_fillBalls_62 : decode c_La_fillBalls 62 = .ok (.iinc 4 1, 3) := by decide +kernel
theorem d_La_fillBalls_65 : decode c_La_fillBalls 65 = .ok (.goto (-30), 3) := by decide +kernel
theorem d_La_fillBalls_68 : decode c_La_fillBalls 68 = .ok (.iinc 3 1, 3) := by decide +kernel
theorem d_La_fillBalls_71 : decode c_La_fillBalls 71 = .ok (.goto (-57), 3) := by decide +kernel
theorem d_La_fillBalls_74 : decode c_La_fillBalls 74 = .ok (.return_, 1) := by decide +kernel
theorem d_La_chooseFirst_0 : decode c_La_chooseFirst 0 = .ok (.iconst 0, 1) := by decide +kernel
theorem d_La_chooseFirst_1 : decode c_La_chooseFirst 1 = .ok (.istore_n 1, 1) := by decide +kernel
theorem d_La_chooseFirst_2 : decode c_La_chooseFirst 2 = .ok (.iload_n 1, 1) := by decide +kernel
theorem d_La_chooseFirst_3 : decode c_La_chooseFirst 3 = .ok (.aload_n 0, 1) := by decide +kernel
theorem d_La_chooseFirst_4 : decode c_La_chooseFirst 4 = .ok (.getfield 25, 3) := by decide +kernel
theorem d_La_chooseFirst_7 : decode c_La_chooseFirst 7 = .ok (.invokevirtual 53, 3) := by decide +kernel
theorem d_La_chooseFirst_10 : decode c_La_chooseFirst 10 = .ok (.if_icmp .ge 32, 3) := by decide +kernel
theorem d_La_chooseFirst_13 : decode c_La_chooseFirst 13 = .ok (.aload_n 0, 1) := by decide +kernel
theorem d_La_chooseFirst_14 : decode c_La_chooseFirst 14 = .ok (.invokevirtual 78, 3) := by decide +kernel
theorem d_La_chooseFirst_17 : decode c_La_chooseFirst 17 = .ok (.istore_n 2, 1) := by decide +kernel
theorem d_La_chooseFirst_18 : decode c_La_chooseFirst 18 = .ok (.iload_n 2, 1) := by decide +kernel
theorem d_La_chooseFirst_19 : decode c_La_chooseFirst 19 = .ok (.iconst (-1), 1) := by decide +kernel
theorem d_La_chooseFirst_20 : decode c_La_chooseFirst 20 = .ok (.if_icmp .ne 4, 3) := by decide +kernel
theorem d_La_chooseFirst_23 : decode c_La_chooseFirst 23 = .ok (.return_, 1) := by decide +kernel
theorem d_La_chooseFirst_24 : decode c_La_chooseFirst 24 = .ok (.aload_n 0, 1) := by decide +kernel
theorem d_La_chooseFirst_25 : decode c_La_chooseFirst 25 = .ok (.dup, 1) := by decide +kernel
theorem d_La_chooseFirst_26 : decode c_La_chooseFirst 26 = .ok (.getfield 33, 3) := by decide +kernel
theorem d_La_chooseFirst_29 : decode c_La_chooseFirst 29 = .ok (.lconst 1, 1) := by decide +kernel
theorem d_La_chooseFirst_30 : decode c_La_chooseFirst 30 = .ok (.iload_n 2, 1) := by decide +kernel
theorem d_La_chooseFirst_31 : decode c_La_chooseFirst 31 = .ok (.lshl, 1) := by decide +kernel
theorem d_La_chooseFirst_32 : decode c_La_chooseFirst 32 = .ok (.lor, 1) := by decide +kernel
theorem d_La_chooseFirst_33 : decode c_La_chooseFirst 33 = .ok (.putfield 33, 3) := by decide +kernel
theorem d_La_chooseFirst_36 : decode c_La_chooseFirst 36 = .ok (.iinc 1 1, 3) := by decide +kernel
theorem d_La_chooseFirst_39 : decode c_La_chooseFirst 39 = .ok (.goto (-37), 3) := by decide +kernel
theorem d_La_chooseFirst_42 : decode c_La_chooseFirst 42 = .ok (.return_, 1) := by decide +kernel
theorem d_La_mostWanted_0 : decode c_La_mostWanted 0 = .ok (.aload_n 0, 1) := by decide +kernel
theorem d_La_mostWanted_1 : decode c_La_mostWanted 1 = .ok (.invokevirtual 81, 3) := by decide +kernel
theorem d_La_mostWanted_4 : decode c_La_mostWanted 4 = .ok (.iconst (-1), 1) := by decide +kernel
theorem d_La_mostWanted_5 : decode c_La_mostWanted 5 = .ok (.istore_n 1, 1) := by decide +kernel
theorem d_La_mostWanted_6 : decode c_La_mostWanted 6 = .ok (.iconst 0, 1) := by decide +kernel
theorem d_La_mostWanted_7 : decode c_La_mostWanted 7 = .ok (.istore_n 2, 1) := by decide +kernel
theorem d_La_mostWanted_8 : decode c_La_mostWanted 8 = .ok (.iconst 0, 1) := by decide +kernel
theorem d_La_mostWanted_9 : decode c_La_mostWanted 9 = .ok (.istore_n 3, 1) := by decide +kernel
theorem d_La_mostWanted_10 : decode c_La_mostWanted 10 = .ok (.iload_n 3, 1) := by decide +kernel
theorem d_La_mostWanted_11 : decode c_La_mostWanted 11 = .ok (.aload_n 0, 1) := by decide +kernel
theorem d_La_mostWanted_12 : decode c_La_mostWanted 12 = .ok (.getfield 25, 3) := by decide +kernel
theorem d_La_mostWanted_15 : decode c_La_mostWanted 15 = .ok (.invokevirtual 53, 3) := by decide +kernel
theorem d_La_mostWanted_18 : decode c_La_mostWanted 18 = .ok (.if_icmp .ge 28, 3) := by decide +kernel
theorem d_La_mostWanted_21 : decode c_La_mostWanted 21 = .ok (.aload_n 0, 1) := by decide +kernel
theorem d_La_mostWanted_22 : decode c_La_mostWanted 22 = .ok (.getfield 22, 3) := by decide +kernel
theorem d_La_mostWanted_25 : decode c_La_mostWanted 25 = .ok (.iload_n 3, 1) := by decide +kernel
theorem d_La_mostWanted_26 : decode c_La_mostWanted 26 = .ok (.iaload, 1) := by decide +kernel
theorem d_La_mostWanted_27 : decode c_La_mostWanted 27 = .ok (.iload_n 2, 1) := by decide +kernel
theorem d_La_mostWanted_28 : decode c_La_mostWanted 28 = .ok (.if_icmp .le 12, 3) := by decide +kernel
theorem d_La_mostWanted_31 : decode c_La_mostWanted 31 = .ok (.aload_n 0, 1) := by decide +kernel
theorem d_La_mostWanted_32 : decode c_La_mostWanted 32 = .ok (.getfield 22, 3) := by decide +kernel
theorem d_La_mostWanted_35 : decode c_La_mostWanted 35 = .ok (.iload_n 3, 1) := by decide +kernel
theorem d_La_mostWanted_36 : decode c_La_mostWanted 36 = .ok (.iaload, 1) := by decide +kernel
theorem d_La_mostWanted_37 : decode c_La_mostWanted 37 = .ok (.istore_n 2, 1) := by decide +kernel
theorem d_La_mostWanted_38 : decode c_La_mostWanted 38 = .ok (.iload_n 3, 1) := by decide +kernel
theorem d_La_mostWanted_39 : decode c_La_mostWanted 39 = .ok (.istore_n 1, 1) := by decide +kernel
theorem d_La_mostWanted_40 : decode c_La_mostWanted 40 = .ok (.iinc 3 1, 3) := by decide +kernel
theorem d_La_mostWanted_43 : decode c_La_mostWanted 43 = .ok (.goto (-33), 3) := by decide +kernel
theorem d_La_mostWanted_46 : decode c_La_mostWanted 46 = .ok (.iload_n 1, 1) := by decide +kernel
theorem d_La_mostWanted_47 : decode c_La_mostWanted 47 = .ok (.ireturn, 1) := by decide +kernel
theorem d_La_countInBalls_0 : decode c_La_countInBalls 0 = .ok (.aload_n 0, 1) := by decide +kernel
theorem d_La_countInBalls_1 : decode c_La_countInBalls 1 = .ok (.getfield 22, 3) := by decide +kernel
theorem d_La_countInBalls_4 : decode c_La_countInBalls 4 = .ok (.iconst 0, 1) := by decide +kernel
theorem d_La_countInBalls_5 : decode c_La_countInBalls 5 = .ok (.invokestatic 84, 3) := by decide +kernel
theorem d_La_countInBalls_8 : decode c_La_countInBalls 8 = .ok (.iconst 0, 1) := by decide +kernel
theorem d_La_countInBalls_9 : decode c_La_countInBalls 9 = .ok (.istore_n 1, 1) := by decide +kernel
theorem d_La_countInBalls_10 : decode c_La_countInBalls 10 = .ok (.iload_n 1, 1) := by decide +kernel
theorem d_La_countInBalls_11 : decode c_La_countInBalls 11 = .ok (.aload_n 0, 1) := by decide +kernel
theorem d_La_countInBalls_12 : decode c_La_countInBalls 12 = .ok (.getfield 25, 3) := by decide +kernel
theorem d_La_countInBalls_15 : decode c_La_countInBalls 15 = .ok (.invokevirtual 53, 3) := by decide +kernel
theorem d_La_countInBalls_18 : decode c_La_countInBalls 18 = .ok (.if_icmp .ge 71, 3) := by decide +kernel
theorem d_La_countInBalls_21 : decode c_La_countInBalls 21 = .ok (.aload_n 0, 1) := by decide +kernel
theorem d_La_countInBalls_22 : decode c_La_countInBalls 22 = .ok (.getfield 9, 3) := by decide +kernel
theorem d_La_countInBalls_25 : decode c_La_countInBalls 25 = .ok (.iload_n 1, 1) := by decide +kernel
theorem d_La_countInBalls_26 : decode c_La_countInBalls 26 = .ok (.laload, 1) := by decide +kernel
theorem d_La_countInBalls_27 : decode c_La_countInBalls 27 = .ok (.aload_n 0, 1) := by decide +kernel
theorem d_La_countInBalls_28 : decode c_La_countInBalls 28 = .ok (.getfield 33, 3) := by decide +kernel
theorem d_La_countInBalls_31 : decode c_La_countInBalls 31 = .ok (.land, 1) := by decide +kernel
theorem d_La_countInBalls_32 : decode c_La_countInBalls 32 = .ok (.lconst 0, 1) := by decide +kernel
theorem d_La_countInBalls_33 : decode c_La_countInBalls 33 = .ok (.lcmp, 1) := by decide +kernel
theorem d_La_countInBalls_34 : decode c_La_countInBalls 34 = .ok (.ifCond .ne 49, 3) := by decide +kernel
theorem d_La_countInBalls_37 : decode c_La_countInBalls 37 = .ok (.iconst 0, 1) := by decide +kernel
theorem d_La_countInBalls_38 : decode c_La_countInBalls 38 = .ok (.istore_n 2, 1) := by decide +kernel
theorem d_La_countInBalls_39 : decode c_La_countInBalls 39 = .ok (.iload_n 2, 1) := by decide +kernel
theorem d_La_countInBalls_40 : decode c_La_countInBalls 40 = .ok (.aload_n 0, 1) := by decide +kernel
theorem d_La_countInBalls_41 : decode c_La_countInBalls 41 = .ok (.getfield 25, 3) := by decide +kernel
theorem d_La_countInBalls_44 : decode c_La_countInBalls 44 = .ok (.invokevirtual 53, 3) := by decide +kernel
theorem d_La_countInBalls_47 : decode c_La_countInBalls 47 = .ok (.if_icmp .ge 36, 3) := by decide +kernel
theorem d_La_countInBalls_50 : decode c_La_countInBalls 50 = .ok (.aload_n 0, 1) := by decide +kernel
theorem d_La_countInBalls_51 : decode c_La_countInBalls 51 = .ok (.getfield 22, 3) := by decide +kernel
theorem d_La_countInBalls_54 : decode c_La_countInBalls 54 = .ok (.iload_n 2, 1) := by decide +kernel
theorem d_La_countInBalls_55 : decode c_La_countInBalls 55 = .ok (.dup2, 1) := by decide +kernel
theorem d_La_countInBalls_56 : decode c_La_countInBalls 56 = .ok (.iaload, 1) := by decide +kernel
theorem d_La_countInBalls_57 : decode c_La_countInBalls 57 = .ok (.aload_n 0, 1) := by decide +kernel
theorem d_La_countInBalls_58 : decode c_La_countInBalls 58 = .ok (.getfield 9, 3) := by decide +kernel
theorem d_La_countInBalls_61 : decode c_La_countInBalls 61 = .ok (.iload_n 1, 1) := by decide +kernel
theorem d_La_countInBalls_62 : decode c_La_countInBalls 62 = .ok (.laload, 1) := by decide +kernel
theorem d_La_countInBalls_63 : decode c_La_countInBalls 63 = .ok (.iload_n 2, 1) := by decide +kernel
theorem d_La_countInBalls_64 : decode c_La_countInBalls 64 = .ok (.invokestatic 63, 3) := by decide +kernel
theorem d_La_countInBalls_67 : decode c_La_countInBalls 67 = .ok (.ifCond .eq 7, 3) := by decide +kernel
theorem d_La_countInBalls_70 : decode c_La_countInBalls 70 = .ok (.iconst 1, 1) := by decide +kernel
theorem d_La_countInBalls_71 : decode c_La_countInBalls 71 = .ok (.goto 4, 3) := by decide +kernel
theorem d_La_countInBalls_74 : decode c_La_countInBalls 74 = .ok (.iconst 0, 1) := by decide +kernel
theorem d_La_countInBalls_75 : decode c_La_countInBalls 75 = .ok (.iadd, 1) := by decide +kernel
theorem d_La_countInBalls_76 : decode c_La_countInBalls 76 = .ok (.iastore, 1) := by decide +kernel
theorem d_La_countInBalls_77 : decode c_La_countInBalls 77 = .ok (.iinc 2 1, 3) := by decide +kernel
theorem d_La_countInBalls_80 : decode c_La_countInBalls 80 = .ok (.goto (-41), 3) := by decide +kernel
theorem d_La_countInBalls_83 : decode c_La_countInBalls 83 = .ok (.iinc 1 1, 3) := by decide +kernel
theorem d_La_countInBalls_86 : decode c_La_countInBalls 86 = .ok (.goto (-76), 3) := by decide +kernel
theorem d_La_countInBalls_89 : decode c_La_countInBalls 89 = .ok (.return_, 1) := by decide +kernel
theorem d_La_has_0 : decode c_La_has 0 = .ok (.lload_n 0, 1) := by decide +kernel
theorem d_La_has_1 : decode c_La_has 1 = .ok (.iload_n 2, 1) := by decide +kernel
theorem d_La_has_2 : decode c_La_has 2 = .ok (.lshr, 1) := by decide +kernel
theorem d_La_has_3 : decode c_La_has 3 = .ok (.lconst 1, 1) := by decide +kernel
theorem d_La_has_4 : decode c_La_has 4 = .ok (.land, 1) := by decide +kernel
theorem d_La_has_5 : decode c_La_has 5 = .ok (.lconst 0, 1) := by decide +kernel
theorem d_La_has_6 : decode c_La_has 6 = .ok (.lcmp, 1) := by decide +kernel
theorem d_La_has_7 : decode c_La_has 7 = .ok (.ifCond .eq 7, 3) := by decide +kernel
theorem d_La_has_10 : decode c_La_has 10 = .ok (.iconst 1, 1) := by decide +kernel
theorem d_La_has_11 : decode c_La_has 11 = .ok (.goto 4, 3) := by decide +kernel
theorem d_La_has_14 : decode c_La_has 14 = .ok (.iconst 0, 1) := by decide +kernel
theorem d_La_has_15 : decode c_La_has 15 = .ok (.ireturn, 1) := by decide +kernel
theorem d_La_chooseMore_0 : decode c_La_chooseMore 0 = .ok (.iconst 1, 1) := by decide +kernel
theorem d_La_chooseMore_1 : decode c_La_chooseMore 1 = .ok (.aload_n 0, 1) := by decide +kernel
theorem d_La_chooseMore_2 : decode c_La_chooseMore 2 = .ok (.invokevirtual 90, 3) := by decide +kernel
theorem d_La_chooseMore_5 : decode c_La_chooseMore 5 = .ok (.invokestatic 93, 3) := by decide +kernel
theorem d_La_chooseMore_8 : decode c_La_chooseMore 8 = .ok (.istore_n 1, 1) := by decide +kernel
theorem d_La_chooseMore_9 : decode c_La_chooseMore 9 = .ok (.iconst 4, 1) := by decide +kernel
theorem d_La_chooseMore_10 : decode c_La_chooseMore 10 = .ok (.aload_n 0, 1) := by decide +kernel
theorem d_La_chooseMore_11 : decode c_La_chooseMore 11 = .ok (.getfield 25, 3) := by decide +kernel
theorem d_La_chooseMore_14 : decode c_La_chooseMore 14 = .ok (.invokevirtual 53, 3) := by decide +kernel
theorem d_La_chooseMore_17 : decode c_La_chooseMore 17 = .ok (.imul, 1) := by decide +kernel
theorem d_La_chooseMore_18 : decode c_La_chooseMore 18 = .ok (.iload_n 1, 1) := by decide +kernel
theorem d_La_chooseMore_19 : decode c_La_chooseMore 19 = .ok (.iadd, 1) := by decide +kernel
theorem d_La_chooseMore_20 : decode c_La_chooseMore 20 = .ok (.iconst 1, 1) := by decide +kernel
theorem d_La_chooseMore_21 : decode c_La_chooseMore 21 = .ok (.isub, 1) := by decide +kernel
theorem d_La_chooseMore_22 : decode c_La_chooseMore 22 = .ok (.iload_n 1, 1) := by decide +kernel
theorem d_La_chooseMore_23 : decode c_La_chooseMore 23 = .ok (.idiv, 1) := by decide +kernel
theorem d_La_chooseMore_24 : decode c_La_chooseMore 24 = .ok (.istore_n 2, 1) := by decide +kernel
theorem d_La_chooseMore_25 : decode c_La_chooseMore 25 = .ok (.iconst 0, 1) := by decide +kernel
theorem d_La_chooseMore_26 : decode c_La_chooseMore 26 = .ok (.istore_n 3, 1) := by decide +kernel
theorem d_La_chooseMore_27 : decode c_La_chooseMore 27 = .ok (.iload_n 3, 1) := by decide +kernel
theorem d_La_chooseMore_28 : decode c_La_chooseMore 28 = .ok (.aload_n 0, 1) := by decide +kernel
theorem d_La_chooseMore_29 : decode c_La_chooseMore 29 = .ok (.getfield 25, 3) := by decide +kernel
theorem d_La_chooseMore_32 : decode c_La_chooseMore 32 = .ok (.invokevirtual 53, 3) := by decide +kernel
theorem d_La_chooseMore_35 : decode c_La_chooseMore 35 = .ok (.if_icmp .ge 44, 3) := by decide +kernel
theorem d_La_chooseMore_38 : decode c_La_chooseMore 38 = .ok (.aload_n 0, 1) := by decide +kernel
theorem d_La_chooseMore_39 : decode c_La_chooseMore 39 = .ok (.invokevirtual 96, 3) := by decide +kernel
theorem d_La_chooseMore_42 : decode c_La_chooseMore 42 = .ok (.aload_n 0, 1) := by decide +kernel
theorem d_La_chooseMore_43 : decode c_La_chooseMore 43 = .ok (.invokevirtual 99, 3) := by decide +kernel
theorem d_La_chooseMore_46 : decode c_La_chooseMore 46 = .ok (.aload_n 0, 1) := by decide +kernel
theorem d_La_chooseMore_47 : decode c_La_chooseMore 47 = .ok (.iload_n 2, 1) := by decide +kernel
theorem d_La_chooseMore_48 : decode c_La_chooseMore 48 = .ok (.invokevirtual 102, 3) := by decide +kernel
theorem d_La_chooseMore_51 : decode c_La_chooseMore 51 = .ok (.istore 4, 2) := by decide +kernel
theorem d_La_chooseMore_53 : decode c_La_chooseMore 53 = .ok (.iload 4, 2) := by decide +kernel
theorem d_La_chooseMore_55 : decode c_La_chooseMore 55 = .ok (.iconst (-1), 1) := by decide +kernel
theorem d_La_chooseMore_56 : decode c_La_chooseMore 56 = .ok (.if_icmp .ne 4, 3) := by decide +kernel
theorem d_La_chooseMore_59 : decode c_La_chooseMore 59 = .ok (.return_, 1) := by decide +kernel
theorem d_La_chooseMore_60 : decode c_La_chooseMore 60 = .ok (.aload_n 0, 1) := by decide +kernel
theorem d_La_chooseMore_61 : decode c_La_chooseMore 61 = .ok (.dup, 1) := by decide +kernel
theorem d_La_chooseMore_62 : decode c_La_chooseMore 62 = .ok (.getfield 33, 3) := by decide +kernel
theorem d_La_chooseMore_65 : decode c_La_chooseMore 65 = .ok (.lconst 1, 1) := by decide +kernel
theorem d_La_chooseMore_66 : decode c_La_chooseMore 66 = .ok (.iload 4, 2) := by decide +kernel
theorem d_La_chooseMore_68 : decode c_La_chooseMore 68 = .ok (.lshl, 1) := by decide +kernel
theorem d_La_chooseMore_69 : decode c_La_chooseMore 69 = .ok (.lor, 1) := by decide +kernel
theorem d_La_chooseMore_70 : decode c_La_chooseMore 70 = .ok (.putfield 33, 3) := by decide +kernel
theorem d_La_chooseMore_73 : decode c_La_chooseMore 73 = .ok (.iinc 3 1, 3) := by decide +kernel
theorem d_La_chooseMore_76 : decode c_La_chooseMore 76 = .ok (.goto (-49), 3) := by decide +kernel
theorem d_La_chooseMore_79 : decode c_La_chooseMore 79 = .ok (.return_, 1) := by decide +kernel
theorem d_La_howMany_0 : decode c_La_howMany 0 = .ok (.aload_n 0, 1) := by decide +kernel
theorem d_La_howMany_1 : decode c_La_howMany 1 = .ok (.getfield 33, 3) := by decide +kernel
theorem d_La_howMany_4 : decode c_La_howMany 4 = .ok (.invokestatic 47, 3) := by decide +kernel
theorem d_La_howMany_7 : decode c_La_howMany 7 = .ok (.ireturn, 1) := by decide +kernel
theorem d_La_findOwn_0 : decode c_La_findOwn 0 = .ok (.iconst 0, 1) := by decide +kernel
theorem d_La_findOwn_1 : decode c_La_findOwn 1 = .ok (.istore_n 1, 1) := by decide +kernel
theorem d_La_findOwn_2 : decode c_La_findOwn 2 = .ok (.iload_n 1, 1) := by decide +kernel
theorem d_La_findOwn_3 : decode c_La_findOwn 3 = .ok (.aload_n 0, 1) := by decide +kernel
theorem d_La_findOwn_4 : decode c_La_findOwn 4 = .ok (.getfield 25, 3) := by decide +kernel
theorem d_La_findOwn_7 : decode c_La_findOwn 7 = .ok (.invokevirtual 53, 3) := by decide +kernel
theorem d_La_findOwn_10 : decode c_La_findOwn 10 = .ok (.if_icmp .ge 20, 3) := by decide +kernel
theorem d_La_findOwn_13 : decode c_La_findOwn 13 = .ok (.aload_n 0, 1) := by decide +kernel
theorem d_La_findOwn_14 : decode c_La_findOwn 14 = .ok (.getfield 18, 3) := by decide +kernel
theorem d_La_findOwn_17 : decode c_La_findOwn 17 = .ok (.iload_n 1, 1) := by decide +kernel
theorem d_La_findOwn_18 : decode c_La_findOwn 18 = .ok (.aload_n 0, 1) := by decide +kernel
theorem d_La_findOwn_19 : decode c_La_findOwn 19 = .ok (.iload_n 1, 1) := by decide +kernel
theorem d_La_findOwn_20 : decode c_La_findOwn 20 = .ok (.invokevirtual 109, 3) := by decide +kernel
theorem d_La_findOwn_23 : decode c_La_findOwn 23 = .ok (.iastore, 1) := by decide +kernel
theorem d_La_findOwn_24 : decode c_La_findOwn 24 = .ok (.iinc 1 1, 3) := by decide +kernel
theorem d_La_findOwn_27 : decode c_La_findOwn 27 = .ok (.goto (-25), 3) := by decide +kernel
theorem d_La_findOwn_30 : decode c_La_findOwn 30 = .ok (.return_, 1) := by decide +kernel
theorem d_La_nearestLandmark_0 : decode c_La_nearestLandmark 0 = .ok (.iconst 0, 1) := by decide +kernel
theorem d_La_nearestLandmark_1 : decode c_La_nearestLandmark 1 = .ok (.istore_n 2, 1) := by decide +kernel
theorem d_La_nearestLandmark_2 : decode c_La_nearestLandmark 2 = .ok (.iload_n 2, 1) := by decide +kernel
theorem d_La_nearestLandmark_3 : decode c_La_nearestLandmark 3 = .ok (.aload_n 0, 1) := by decide +kernel
theorem d_La_nearestLandmark_4 : decode c_La_nearestLandmark 4 = .ok (.getfield 25, 3) := by decide +kernel
theorem d_La_nearestLandmark_7 : decode c_La_nearestLandmark 7 = .ok (.invokevirtual 53, 3) := by decide +kernel
theorem d_La_nearestLandmark_10 : decode c_La_nearestLandmark 10 = .ok (.if_icmp .ge 32, 3) := by decide +kernel
theorem d_La_nearestLandmark_13 : decode c_La_nearestLandmark 13 = .ok (.aload_n 0, 1) := by decide +kernel
theorem d_La_nearestLandmark_14 : decode c_La_nearestLandmark 14 = .ok (.getfield 29, 3) := by decide +kernel
theorem d_La_nearestLandmark_17 : decode c_La_nearestLandmark 17 = .ok (.iload_n 1, 1) := by decide +kernel
theorem d_La_nearestLandmark_18 : decode c_La_nearestLandmark 18 = .ok (.iload_n 2, 1) := by decide +kernel
theorem d_La_nearestLandmark_19 : decode c_La_nearestLandmark 19 = .ok (.invokevirtual 73, 3) := by decide +kernel
theorem d_La_nearestLandmark_22 : decode c_La_nearestLandmark 22 = .ok (.istore_n 3, 1) := by decide +kernel
theorem d_La_nearestLandmark_23 : decode c_La_nearestLandmark 23 = .ok (.aload_n 0, 1) := by decide +kernel
theorem d_La_nearestLandmark_24 : decode c_La_nearestLandmark 24 = .ok (.getfield 33, 3) := by decide +kernel
theorem d_La_nearestLandmark_27 : decode c_La_nearestLandmark 27 = .ok (.iload_n 3, 1) := by decide +kernel
theorem d_La_nearestLandmark_28 : decode c_La_nearestLandmark 28 = .ok (.invokestatic 63, 3) := by decide +kernel
theorem d_La_nearestLandmark_31 : decode c_La_nearestLandmark 31 = .ok (.ifCond .eq 5, 3) := by decide +kernel
theorem d_La_nearestLandmark_34 : decode c_La_nearestLandmark 34 = .ok (.iload_n 3, 1) := by decide +kernel
theorem d_La_nearestLandmark_35 : decode c_La_nearestLandmark 35 = .ok (.ireturn, 1) := by decide +kernel
theorem d_La_nearestLandmark_36 : decode c_La_nearestLandmark 36 = .ok (.iinc 2 1, 3) := by decide +kernel
theorem d_La_nearestLandmark_39 : decode c_La_nearestLandmark 39 = .ok (.goto (-37), 3) := by decide +kernel
theorem d_La_nearestLandmark_42 : decode c_La_nearestLandmark 42 = .ok (.iload_n 1, 1) := by decide +kernel
theorem d_La_nearestLandmark_43 : decode c_La_nearestLandmark 43 = .ok (.ireturn, 1) := by decide +kernel
theorem d_La_fillClusters_0 : decode c_La_fillClusters 0 = .ok (.iconst 0, 1) := by decide +kernel
theorem d_La_fillClusters_1 : decode c_La_fillClusters 1 = .ok (.istore_n 1, 1) := by decide +kernel
theorem d_La_fillClusters_2 : decode c_La_fillClusters 2 = .ok (.iload_n 1, 1) := by decide +kernel
theorem d_La_fillClusters_3 : decode c_La_fillClusters 3 = .ok (.aload_n 0, 1) := by decide +kernel
theorem d_La_fillClusters_4 : decode c_La_fillClusters 4 = .ok (.getfield 25, 3) := by decide +kernel
theorem d_La_fillClusters_7 : decode c_La_fillClusters 7 = .ok (.invokevirtual 53, 3) := by decide +kernel
theorem d_La_fillClusters_10 : decode c_La_fillClusters 10 = .ok (.if_icmp .ge 73, 3) := by decide +kernel
theorem d_La_fillClusters_13 : decode c_La_fillClusters 13 = .ok (.aload_n 0, 1) := by decide +kernel
theorem d_La_fillClusters_14 : decode c_La_fillClusters 14 = .ok (.getfield 15, 3) := by decide +kernel
theorem d_La_fillClusters_17 : decode c_La_fillClusters 17 = .ok (.iload_n 1, 1) := by decide +kernel
theorem d_La_fillClusters_18 : decode c_La_fillClusters 18 = .ok (.lconst 0, 1) := by decide +kernel
theorem d_La_fillClusters_19 : decode c_La_fillClusters 19 = .ok (.lastore, 1) := by decide +kernel
theorem d_La_fillClusters_20 : decode c_La_fillClusters 20 = .ok (.iconst 0, 1) := by decide +kernel
theorem d_La_fillClusters_21 : decode c_La_fillClusters 21 = .ok (.istore_n 2, 1) := by decide +kernel
theorem d_La_fillClusters_22 : decode c_La_fillClusters 22 = .ok (.iload_n 2, 1) := by decide +kernel
theorem d_La_fillClusters_23 : decode c_La_fillClusters 23 = .ok (.aload_n 0, 1) := by decide +kernel
theorem d_La_fillClusters_24 : decode c_La_fillClusters 24 = .ok (.getfield 25, 3) := by decide +kernel
theorem d_La_fillClusters_27 : decode c_La_fillClusters 27 = .ok (.invokevirtual 53, 3) := by decide +kernel
theorem d_La_fillClusters_30 : decode c_La_fillClusters 30 = .ok (.if_icmp .ge 47, 3) := by decide +kernel
theorem d_La_fillClusters_33 : decode c_La_fillClusters 33 = .ok (.aload_n 0, 1) := by decide +kernel
theorem d_La_fillClusters_34 : decode c_La_fillClusters 34 = .ok (.getfield 29, 3) := by decide +kernel
theorem d_La_fillClusters_37 : decode c_La_fillClusters 37 = .ok (.iload_n 1, 1) := by decide +kernel
theorem d_La_fillClusters_38 : decode c_La_fillClusters 38 = .ok (.iload_n 2, 1) := by decide +kernel
theorem d_La_fillClusters_39 : decode c_La_fillClusters 39 = .ok (.invokevirtual 112, 3) := by decide +kernel
theorem d_La_fillClusters_42 : decode c_La_fillClusters 42 = .ok (.aload_n 0, 1) := by decide +kernel
theorem d_La_fillClusters_43 : decode c_La_fillClusters 43 = .ok (.getfield 29, 3) := by decide +kernel
theorem d_La_fillClusters_46 : decode c_La_fillClusters 46 = .ok (.iload_n 2, 1) := by decide +kernel
theorem d_La_fillClusters_47 : decode c_La_fillClusters 47 = .ok (.aload_n 0, 1) := by decide +kernel
theorem d_La_fillClusters_48 : decode c_La_fillClusters 48 = .ok (.getfield 18, 3) := by decide +kernel
theorem d_La_fillClusters_51 : decode c_La_fillClusters 51 = .ok (.iload_n 2, 1) := by decide +kernel
theorem d_La_fillClusters_52 : decode c_La_fillClusters 52 = .ok (.iaload, 1) := by decide +kernel
theorem d_La_fillClusters_53 : decode c_La_fillClusters 53 = .ok (.invokevirtual 112, 3) := by decide +kernel
theorem d_La_fillClusters_56 : decode c_La_fillClusters 56 = .ok (.if_icmp .ge 15, 3) := by decide +kernel
theorem d_La_fillClusters_59 : decode c_La_fillClusters 59 = .ok (.aload_n 0, 1) := by decide +kernel
theorem d_La_fillClusters_60 : decode c_La_fillClusters 60 = .ok (.getfield 15, 3) := by decide +kernel
theorem d_La_fillClusters_63 : decode c_La_fillClusters 63 = .ok (.iload_n 1, 1) := by decide +kernel
theorem d_La_fillClusters_64 : decode c_La_fillClusters 64 = .ok (.dup2, 1) := by decide +kernel
theorem d_La_fillClusters_65 : decode c_La_fillClusters 65 = .ok (.laload, 1) := by decide +kernel
theorem d_La_fillClusters_66 : decode c_La_fillClusters 66 = .ok (.lconst 1, 1) := by decide +kernel
theorem d_La_fillClusters_67 : decode c_La_fillClusters 67 = .ok (.iload_n 2, 1) := by decide +kernel
theorem d_La_fillClusters_68 : decode c_La_fillClusters 68 = .ok (.lshl, 1) := by decide +kernel
theorem d_La_fillClusters_69 : decode c_La_fillClusters 69 = .ok (.lor, 1) := by decide +kernel
theorem d_La_fillClusters_70 : decode c_La_fillClusters 70 = .ok (.lastore, 1) := by decide +kernel
theorem d_La_fillClusters_71 : decode c_La_fillClusters 71 = .ok (.iinc 2 1, 3) := by decide +kernel
theorem d_La_fillClusters_74 : decode c_La_fillClusters 74 = .ok (.goto (-52), 3) := by decide +kernel
theorem d_La_fillClusters_77 : decode c_La_fillClusters 77 = .ok (.iinc 1 1, 3) := by decide +kernel
theorem d_La_fillClusters_80 : decode c_La_fillClusters 80 = .ok (.goto (-78), 3) := by decide +kernel
theorem d_La_fillClusters_83 : decode c_La_fillClusters 83 = .ok (.return_, 1) := by decide +kernel
theorem d_La_lowestCrowded_0 : decode c_La_lowestCrowded 0 = .ok (.iconst 0, 1) := by decide +kernel
theorem d_La_lowestCrowded_1 : decode c_La_lowestCrowded 1 = .ok (.istore_n 2, 1) := by decide +kernel
theorem d_La_lowestCrowded_2 : decode c_La_lowestCrowded 2 = .ok (.iload_n 2, 1) := by decide +kernel
theorem d_La_lowestCrowded_3 : decode c_La_lowestCrowded 3 = .ok (.aload_n 0, 1) := by decide +kernel
theorem d_La_lowestCrowded_4 : decode c_La_lowestCrowded 4 = .ok (.getfield 25, 3) := by decide +kernel
theorem d_La_lowestCrowded_7 : decode c_La_lowestCrowded 7 = .ok (.invokevirtual 53, 3) := by decide +kernel
theorem d_La_lowestCrowded_10 : decode c_La_lowestCrowded 10 = .ok (.if_icmp .ge 20, 3) := by decide +kernel
theorem d_La_lowestCrowded_13 : decode c_La_lowestCrowded 13 = .ok (.aload_n 0, 1) := by decide +kernel
theorem d_La_lowestCrowded_14 : decode c_La_lowestCrowded 14 = .ok (.iload_n 2, 1) := by decide +kernel
theorem d_La_lowestCrowded_15 : decode c_La_lowestCrowded 15 = .ok (.invokevirtual 106, 3) := by decide +kernel
theorem d_La_lowestCrowded_18 : decode c_La_lowestCrowded 18 = .ok (.iload_n 1, 1) := by decide +kernel
theorem d_La_lowestCrowded_19 : decode c_La_lowestCrowded 19 = .ok (.if_icmp .le 5, 3) := by decide +kernel
theorem d_La_lowestCrowded_22 : decode c_La_lowestCrowded 22 = .ok (.iload_n 2, 1) := by decide +kernel
theorem d_La_lowestCrowded_23 : decode c_La_lowestCrowded 23 = .ok (.ireturn, 1) := by decide +kernel
theorem d_La_lowestCrowded_24 : decode c_La_lowestCrowded 24 = .ok (.iinc 2 1, 3) := by decide +kernel
theorem d_La_lowestCrowded_27 : decode c_La_lowestCrowded 27 = .ok (.goto (-25), 3) := by decide +kernel
theorem d_La_lowestCrowded_30 : decode c_La_lowestCrowded 30 = .ok (.iconst (-1), 1) := by decide +kernel
theorem d_La_lowestCrowded_31 : decode c_La_lowestCrowded 31 = .ok (.ireturn, 1) := by decide +kernel
theorem d_La_clusterSize_0 : decode c_La_clusterSize 0 = .ok (.aload_n 0, 1) := by decide +kernel
theorem d_La_clusterSize_1 : decode c_La_clusterSize 1 = .ok (.getfield 15, 3) := by decide +kernel
theorem d_La_clusterSize_4 : decode c_La_clusterSize 4 = .ok (.iload_n 1, 1) := by decide +kernel
theorem d_La_clusterSize_5 : decode c_La_clusterSize 5 = .ok (.laload, 1) := by decide +kernel
theorem d_La_clusterSize_6 : decode c_La_clusterSize 6 = .ok (.invokestatic 47, 3) := by decide +kernel
theorem d_La_clusterSize_9 : decode c_La_clusterSize 9 = .ok (.ireturn, 1) := by decide +kernel
theorem d_La_isLandmark_0 : decode c_La_isLandmark 0 = .ok (.aload_n 0, 1) := by decide +kernel
theorem d_La_isLandmark_1 : decode c_La_isLandmark 1 = .ok (.getfield 33, 3) := by decide +kernel
theorem d_La_isLandmark_4 : decode c_La_isLandmark 4 = .ok (.iload_n 1, 1) := by decide +kernel
theorem d_La_isLandmark_5 : decode c_La_isLandmark 5 = .ok (.invokestatic 63, 3) := by decide +kernel
theorem d_La_isLandmark_8 : decode c_La_isLandmark 8 = .ok (.ireturn, 1) := by decide +kernel
theorem d_Fo_grow_0 : decode c_Fo_grow 0 = .ok (.aload_n 0, 1) := by decide +kernel
theorem d_Fo_grow_1 : decode c_Fo_grow 1 = .ok (.iload_n 1, 1) := by decide +kernel
theorem d_Fo_grow_2 : decode c_Fo_grow 2 = .ok (.invokevirtual 37, 3) := by decide +kernel
theorem d_Fo_grow_5 : decode c_Fo_grow 5 = .ok (.aload_n 0, 1) := by decide +kernel
theorem d_Fo_grow_6 : decode c_Fo_grow 6 = .ok (.iload_n 1, 1) := by decide +kernel
theorem d_Fo_grow_7 : decode c_Fo_grow 7 = .ok (.invokevirtual 41, 3) := by decide +kernel
theorem d_Fo_grow_10 : decode c_Fo_grow 10 = .ok (.aload_n 0, 1) := by decide +kernel
theorem d_Fo_grow_11 : decode c_Fo_grow 11 = .ok (.iload_n 1, 1) := by decide +kernel
theorem d_Fo_grow_12 : decode c_Fo_grow 12 = .ok (.invokevirtual 44, 3) := by decide +kernel
theorem d_Fo_grow_15 : decode c_Fo_grow 15 = .ok (.aload_n 0, 1) := by decide +kernel
theorem d_Fo_grow_16 : decode c_Fo_grow 16 = .ok (.iload_n 1, 1) := by decide +kernel
theorem d_Fo_grow_17 : decode c_Fo_grow 17 = .ok (.invokevirtual 47, 3) := by decide +kernel
theorem d_Fo_grow_20 : decode c_Fo_grow 20 = .ok (.return_, 1) := by decide +kernel
theorem d_Fo_findParents_0 : decode c_Fo_findParents 0 = .ok (.iconst 0, 1) := by decide +kernel
theorem d_Fo_findParents_1 : decode c_Fo_findParents 1 = .ok (.istore_n 2, 1) := by decide +kernel
theorem d_Fo_findParents_2 : decode c_Fo_findParents 2 = .ok (.iload_n 2, 1) := by decide +kernel
theorem d_Fo_findParents_3 : decode c_Fo_findParents 3 = .ok (.aload_n 0, 1) := by decide +kernel
theorem d_Fo_findParents_4 : decode c_Fo_findParents 4 = .ok (.getfield 29, 3) := by decide +kernel
theorem d_Fo_findParents_7 : decode c_Fo_findParents 7 = .ok (.invokevirtual 56, 3) := by decide +kernel
theorem d_Fo_findParents_10 : decode c_Fo_findParents 10 = .ok (.if_icmp .ge 21, 3) := by decide +kernel
theorem d_Fo_findParents_13 : decode c_Fo_findParents 13 = .ok (.aload_n 0, 1) := by decide +kernel
theorem d_Fo_findParents_14 : decode c_Fo_findParents 14 = .ok (.getfield 25, 3) := by decide +kernel
theorem d_Fo_findParents_17 : decode c_Fo_findParents 17 = .ok (.iload_n 2, 1) := by decide +kernel
theorem d_Fo_findParents_18 : decode c_Fo_findParents 18 = .ok (.aload_n 0, 1) := by decide +kernel
theorem d_Fo_findParents_19 : decode c_Fo_findParents 19 = .ok (.iload_n 1, 1) := by decide +kernel
theorem d_Fo_findParents_20 : decode c_Fo_findParents 20 = .ok (.iload_n 2, 1) := by decide +kernel
theorem d_Fo_findParents_21 : decode c_Fo_findParents 21 = .ok (.invokevirtual 62, 3) := by decide +kernel
theorem d_Fo_findParents_24 : decode c_Fo_findParents 24 = .ok (.iastore, 1) := by decide +kernel
theorem d_Fo_findParents_25 : decode c_Fo_findParents 25 = .ok (.iinc 2 1, 3) := by decide +kernel
theorem d_Fo_findParents_28 : decode c_Fo_findParents 28 = .ok (.goto (-26), 3) := by decide +kernel
theorem d_Fo_findParents_31 : decode c_Fo_findParents 31 = .ok (.return_, 1) := by decide +kernel
theorem d_Fo_parentOf_0 : decode c_Fo_parentOf 0 = .ok (.aload_n 0, 1) := by decide +kernel
theorem d_Fo_parentOf_1 : decode c_Fo_parentOf 1 = .ok (.getfield 33, 3) := by decide +kernel
theorem d_Fo_parentOf_4 : decode c_Fo_parentOf 4 = .ok (.iload_n 2, 1) := by decide +kernel
theorem d_Fo_parentOf_5 : decode c_Fo_parentOf 5 = .ok (.iload_n 1, 1) := by decide +kernel
theorem d_Fo_parentOf_6 : decode c_Fo_parentOf 6 = .ok (.invokevirtual 50, 3) := by decide +kernel
theorem d_Fo_parentOf_9 : decode c_Fo_parentOf 9 = .ok (.ireturn, 1) := by decide +kernel
theorem d_Fo_addSizes_0 : decode c_Fo_addSizes 0 = .ok (.aload_n 0, 1) := by decide +kernel
theorem d_Fo_addSizes_1 : decode c_Fo_addSizes 1 = .ok (.getfield 16, 3) := by decide +kernel
theorem d_Fo_addSizes_4 : decode c_Fo_addSizes 4 = .ok (.iload_n 1, 1) := by decide +kernel
theorem d_Fo_addSizes_5 : decode c_Fo_addSizes 5 = .ok (.aaload, 1) := by decide +kernel
theorem d_Fo_addSizes_6 : decode c_Fo_addSizes 6 = .ok (.astore_n 2, 1) := by decide +kernel
theorem d_Fo_addSizes_7 : decode c_Fo_addSizes 7 = .ok (.aload_n 2, 1) := by decide +kernel
theorem d_Fo_addSizes_8 : decode c_Fo_addSizes 8 = .ok (.iconst 1, 1) := by decide +kernel
theorem d_Fo_addSizes_9 : decode c_Fo_addSizes 9 = .ok (.invokestatic 65, 3) := by decide +kernel
theorem d_Fo_addSizes_12 : decode c_Fo_addSizes 12 = .ok (.aload_n 0, 1) := by decide +kernel
theorem d_Fo_addSizes_13 : decode c_Fo_addSizes 13 = .ok (.getfield 29, 3) := by decide +kernel
theorem d_Fo_addSizes_16 : decode c_Fo_addSizes 16 = .ok (.invokevirtual 56, 3) := by decide +kernel
theorem d_Fo_addSizes_19 : decode c_Fo_addSizes 19 = .ok (.iconst 1, 1) := by decide +kernel
theorem d_Fo_addSizes_20 : decode c_Fo_addSizes 20 = .ok (.isub, 1) := by decide +kernel
theorem d_Fo_addSizes_21 : decode c_Fo_addSizes 21 = .ok (.istore_n 3, 1) := by decide +kernel
theorem d_Fo_addSizes_22 : decode c_Fo_addSizes 22 = .ok (.iload_n 3, 1) := by decide +kernel
theorem d_Fo_addSizes_23 : decode c_Fo_addSizes 23 = .ok (.ifCond .le 47, 3) := by decide +kernel
theorem d_Fo_addSizes_26 : decode c_Fo_addSizes 26 = .ok (.aload_n 0, 1) := by decide +kernel
theorem d_Fo_addSizes_27 : decode c_Fo_addSizes 27 = .ok (.getfield 33, 3) := by decide +kernel
theorem d_Fo_addSizes_30 : decode c_Fo_addSizes 30 = .ok (.iload_n 1, 1) := by decide +kernel
theorem d_Fo_addSizes_31 : decode c_Fo_addSizes 31 = .ok (.iload_n 3, 1) := by decide +kernel
theorem d_Fo_addSizes_32 : decode c_Fo_addSizes 32 = .ok (.invokevirtual 71, 3) := by decide +kernel
theorem d_Fo_addSizes_35 : decode c_Fo_addSizes 35 = .ok (.istore 4, 2) := by decide +kernel
theorem d_Fo_addSizes_37 : decode c_Fo_addSizes 37 = .ok (.aload_n 0, 1) := by decide +kernel
theorem d_Fo_addSizes_38 : decode c_Fo_addSizes 38 = .ok (.getfield 25, 3) := by decide +kernel
theorem d_Fo_addSizes_41 : decode c_Fo_addSizes 41 = .ok (.iload 4, 2) := by decide +kernel
theorem d_Fo_addSizes_43 : decode c_Fo_addSizes 43 = .ok (.iaload, 1) := by decide +kernel
theorem d_Fo_addSizes_44 : decode c_Fo_addSizes 44 = .ok (.iconst (-1), 1) := by decide +kernel
theorem d_Fo_addSizes_45 : decode c_Fo_addSizes 45 = .ok (.if_icmp .eq 19, 3) := by decide +kernel
theorem d_Fo_addSizes_48 : decode c_Fo_addSizes 48 = .ok (.aload_n 2, 1) := by decide +kernel
theorem d_Fo_addSizes_49 : decode c_Fo_addSizes 49 = .ok (.aload_n 0, 1) := by decide +kernel
theorem d_Fo_addSizes_50 : decode c_Fo_addSizes 50 = .ok (.getfield 25, 3) := by decide +kernel
theorem d_Fo_addSizes_53 : decode c_Fo_addSizes 53 = .ok (.iload 4, 2) := by decide +kernel
theorem d_Fo_addSizes_55 : decode c_Fo_addSizes 55 = .ok (.iaload, 1) := by decide +kernel
theorem d_Fo_addSizes_56 : decode c_Fo_addSizes 56 = .ok (.dup2, 1) := by decide +kernel
theorem d_Fo_addSizes_57 : decode c_Fo_addSizes 57 = .ok (.iaload, 1) := by decide +kernel
theorem d_Fo_addSizes_58 : decode c_Fo_addSizes 58 = .ok (.aload_n 2, 1) := by decide +kernel
theorem d_Fo_addSizes_59 : decode c_Fo_addSizes 59 = .ok (.iload 4, 2) := by decide +kernel
theorem d_Fo_addSizes_61 : decode c_Fo_addSizes 61 = .ok (.iaload, 1) := by decide +kernel
theorem d_Fo_addSizes_62 : decode c_Fo_addSizes 62 = .ok (.iadd, 1) := by decide +kernel
theorem d_Fo_addSizes_63 : decode c_Fo_addSizes 63 = .ok (.iastore, 1) := by decide +kernel
theorem d_Fo_addSizes_64 : decode c_Fo_addSizes 64 = .ok (.iinc 3 (-1), 3) := by decide +kernel
theorem d_Fo_addSizes_67 : decode c_Fo_addSizes 67 = .ok (.goto (-45), 3) := by decide +kernel
theorem d_Fo_addSizes_70 : decode c_Fo_addSizes 70 = .ok (.return_, 1) := by decide +kernel
theorem d_Fo_findHeavies_0 : decode c_Fo_findHeavies 0 = .ok (.aload_n 0, 1) := by decide +kernel
theorem d_Fo_findHeavies_1 : decode c_Fo_findHeavies 1 = .ok (.getfield 16, 3) := by decide +kernel
theorem d_Fo_findHeavies_4 : decode c_Fo_findHeavies 4 = .ok (.iload_n 1, 1) := by decide +kernel
theorem d_Fo_findHeavies_5 : decode c_Fo_findHeavies 5 = .ok (.aaload, 1) := by decide +kernel
theorem d_Fo_findHeavies_6 : decode c_Fo_findHeavies 6 = .ok (.astore_n 2, 1) := by decide +kernel
theorem d_Fo_findHeavies_7 : decode c_Fo_findHeavies 7 = .ok (.aload_n 0, 1) := by decide +kernel
theorem d_Fo_findHeavies_8 : decode c_Fo_findHeavies 8 = .ok (.getfield 19, 3) := by decide +kernel
theorem d_Fo_findHeavies_11 : decode c_Fo_findHeavies 11 = .ok (.iload_n 1, 1) := by decide +kernel
theorem d_Fo_findHeavies_12 : decode c_Fo_findHeavies 12 = .ok (.aaload, 1) := by decide +kernel
theorem d_Fo_findHeavies_13 : decode c_Fo_findHeavies 13 = .ok (.astore_n 3, 1) := by decide +kernel
theorem d_Fo_findHeavies_14 : decode c_Fo_findHeavies 14 = .ok (.aload_n 3, 1) := by decide +kernel
theorem d_Fo_findHeavies_15 : decode c_Fo_findHeavies 15 = .ok (.iconst (-1), 1) := by decide +kernel
theorem d_Fo_findHeavies_16 : decode c_Fo_findHeavies 16 = .ok (.invokestatic 65, 3) := by decide +kernel
theorem d_Fo_findHeavies_19 : decode c_Fo_findHeavies 19 = .ok (.iconst 0, 1) := by decide +kernel
theorem d_Fo_findHeavies_20 : decode c_Fo_findHeavies 20 = .ok (.istore 4, 2) := by decide +kernel
theorem d_Fo_findHeavies_22 : decode c_Fo_findHeavies 22 = .ok (.iload 4, 2) := by decide +kernel
theorem d_Fo_findHeavies_24 : decode c_Fo_findHeavies 24 = .ok (.aload_n 0, 1) := by decide +kernel
theorem d_Fo_findHeavies_25 : decode c_Fo_findHeavies 25 = .ok (.getfield 29, 3) := by decide +kernel
theorem d_Fo_findHeavies_28 : decode c_Fo_findHeavies 28 = .ok (.invokevirtual 56, 3) := by decide +kernel
theorem d_Fo_findHeavies_31 : decode c_Fo_findHeavies 31 = .ok (.if_icmp .ge 51, 3) := by decide +kernel
theorem d_Fo_findHeavies_34 : decode c_Fo_findHeavies 34 = .ok (.aload_n 0, 1) := by decide +kernel
theorem d_Fo_findHeavies_35 : decode c_Fo_findHeavies 35 = .ok (.getfield 25, 3) := by decide +kernel
theorem d_Fo_findHeavies_38 : decode c_Fo_findHeavies 38 = .ok (.iload 4, 2) := by decide +kernel
theorem d_Fo_findHeavies_40 : decode c_Fo_findHeavies 40 = .ok (.iaload, 1) := by decide +kernel
theorem d_Fo_findHeavies_41 : decode c_Fo_findHeavies 41 = .ok (.istore 5, 2) := by decide +kernel
theorem d_Fo_findHeavies_43 : decode c_Fo_findHeavies 43 = .ok (.iload 5, 2) := by decide +kernel
theorem d_Fo_findHeavies_45 : decode c_Fo_findHeavies 45 = .ok (.iconst (-1), 1) := by decide +kernel
theorem d_Fo_findHeavies_46 : decode c_Fo_findHeavies 46 = .ok (.if_icmp .eq 30, 3) := by decide +kernel
theorem d_Fo_findHeavies_49 : decode c_Fo_findHeavies 49 = .ok (.aload_n 3, 1) := by decide +kernel
theorem d_Fo_findHeavies_50 : decode c_Fo_findHeavies 50 = .ok (.iload 5, 2) := by decide +kernel
theorem d_Fo_findHeavies_52 : decode c_Fo_findHeavies 52 = .ok (.iaload, 1) := by decide +kernel
theorem d_Fo_findHeavies_53 : decode c_Fo_findHeavies 53 = .ok (.iconst (-1), 1) := by decide +kernel
theorem d_Fo_findHeavies_54 : decode c_Fo_findHeavies 54 = .ok (.if_icmp .eq 16, 3) := by decide +kernel
theorem d_Fo_findHeavies_57 : decode c_Fo_findHeavies 57 = .ok (.aload_n 2, 1) := by decide +kernel
theorem d_Fo_findHeavies_58 : decode c_Fo_findHeavies 58 = .ok (.iload 4, 2) := by decide +kernel
theorem d_Fo_findHeavies_60 : decode c_Fo_findHeavies 60 = .ok (.iaload, 1) := by decide +kernel
theorem d_Fo_findHeavies_61 : decode c_Fo_findHeavies 61 = .ok (.aload_n 2, 1) := by decide +kernel
theorem d_Fo_findHeavies_62 : decode c_Fo_findHeavies 62 = .ok (.aload_n 3, 1) := by decide +kernel
theorem d_Fo_findHeavies_63 : decode c_Fo_findHeavies 63 = .ok (.iload 5, 2) := by decide +kernel
theorem d_Fo_findHeavies_65 : decode c_Fo_findHeavies 65 = .ok (.iaload, 1) := by decide +kernel
theorem d_Fo_findHeavies_66 : decode c_Fo_findHeavies 66 = .ok (.iaload, 1) := by decide +kernel
theorem d_Fo_findHeavies_67 : decode c_Fo_findHeavies 67 = .ok (.if_icmp .le 9, 3) := by decide +kernel
theorem d_Fo_findHeavies_70 : decode c_Fo_findHeavies 70 = .ok (.aload_n 3, 1) := by decide +kernel
theorem d_Fo_findHeavies_71 : decode c_Fo_findHeavies 71 = .ok (.iload 5, 2) := by decide +kernel
theorem d_Fo_findHeavies_73 : decode c_Fo_findHeavies 73 = .ok (.iload 4, 2) := by decide +kernel
theorem d_Fo_findHeavies_75 : decode c_Fo_findHeavies 75 = .ok (.iastore, 1) := by decide +kernel
theorem d_Fo_findHeavies_76 : decode c_Fo_findHeavies 76 = .ok (.iinc 4 1, 3) := by decide +kernel
theorem d_Fo_findHeavies_79 : decode c_Fo_findHeavies 79 = .ok (.goto (-57), 3) := by decide +kernel
theorem d_Fo_findHeavies_82 : decode c_Fo_findHeavies 82 = .ok (.return_, 1) := by decide +kernel
theorem d_Fo_givePlaces_0 : decode c_Fo_givePlaces 0 = .ok (.aload_n 0, 1) := by decide +kernel
theorem d_Fo_givePlaces_1 : decode c_Fo_givePlaces 1 = .ok (.getfield 11, 3) := by decide +kernel
theorem d_Fo_givePlaces_4 : decode c_Fo_givePlaces 4 = .ok (.iload_n 1, 1) := by decide +kernel
theorem d_Fo_givePlaces_5 : decode c_Fo_givePlaces 5 = .ok (.aaload, 1) := by decide +kernel
theorem d_Fo_givePlaces_6 : decode c_Fo_givePlaces 6 = .ok (.iload_n 1, 1) := by decide +kernel
theorem d_Fo_givePlaces_7 : decode c_Fo_givePlaces 7 = .ok (.iconst 0, 1) := by decide +kernel
theorem d_Fo_givePlaces_8 : decode c_Fo_givePlaces 8 = .ok (.iastore, 1) := by decide +kernel
theorem d_Fo_givePlaces_9 : decode c_Fo_givePlaces 9 = .ok (.aload_n 0, 1) := by decide +kernel
theorem d_Fo_givePlaces_10 : decode c_Fo_givePlaces 10 = .ok (.getfield 22, 3) := by decide +kernel
theorem d_Fo_givePlaces_13 : decode c_Fo_givePlaces 13 = .ok (.iload_n 1, 1) := by decide +kernel
theorem d_Fo_givePlaces_14 : decode c_Fo_givePlaces 14 = .ok (.aaload, 1) := by decide +kernel
theorem d_Fo_givePlaces_15 : decode c_Fo_givePlaces 15 = .ok (.iload_n 1, 1) := by decide +kernel
theorem d_Fo_givePlaces_16 : decode c_Fo_givePlaces 16 = .ok (.iconst 0, 1) := by decide +kernel
theorem d_Fo_givePlaces_17 : decode c_Fo_givePlaces 17 = .ok (.iastore, 1) := by decide +kernel
theorem d_Fo_givePlaces_18 : decode c_Fo_givePlaces 18 = .ok (.iconst 0, 1) := by decide +kernel
theorem d_Fo_givePlaces_19 : decode c_Fo_givePlaces 19 = .ok (.istore_n 2, 1) := by decide +kernel
theorem d_Fo_givePlaces_20 : decode c_Fo_givePlaces 20 = .ok (.iload_n 2, 1) := by decide +kernel
theorem d_Fo_givePlaces_21 : decode c_Fo_givePlaces 21 = .ok (.aload_n 0, 1) := by decide +kernel
theorem d_Fo_givePlaces_22 : decode c_Fo_givePlaces 22 = .ok (.getfield 29, 3) := by decide +kernel
theorem d_Fo_givePlaces_25 : decode c_Fo_givePlaces 25 = .ok (.invokevirtual 56, 3) := by decide +kernel
theorem d_Fo_givePlaces_28 : decode c_Fo_givePlaces 28 = .ok (.if_icmp .ge 23, 3) := by decide +kernel
theorem d_Fo_givePlaces_31 : decode c_Fo_givePlaces 31 = .ok (.aload_n 0, 1) := by decide +kernel
theorem d_Fo_givePlaces_32 : decode c_Fo_givePlaces 32 = .ok (.iload_n 1, 1) := by decide +kernel
theorem d_Fo_givePlaces_33 : decode c_Fo_givePlaces 33 = .ok (.aload_n 0, 1) := by decide +kernel
theorem d_Fo_givePlaces_34 : decode c_Fo_givePlaces 34 = .ok (.getfield 33, 3) := by decide +kernel
theorem d_Fo_givePlaces_37 : decode c_Fo_givePlaces 37 = .ok (.iload_n 1, 1) := by decide +kernel
theorem d_Fo_givePlaces_38 : decode c_Fo_givePlaces 38 = .ok (.iload_n 2, 1) := by decide +kernel
theorem d_Fo_givePlaces_39 : decode c_Fo_givePlaces 39 = .ok (.invokevirtual 71, 3) := by decide +kernel
theorem d_Fo_givePlaces_42 : decode c_Fo_givePlaces 42 = .ok (.invokevirtual 74, 3) := by decide +kernel
theorem d_Fo_givePlaces_45 : decode c_Fo_givePlaces 45 = .ok (.iinc 2 1, 3) := by decide +kernel
theorem d_Fo_givePlaces_48 : decode c_Fo_givePlaces 48 = .ok (.goto (-28), 3) := by decide +kernel
theorem d_Fo_givePlaces_51 : decode c_Fo_givePlaces 51 = .ok (.return_, 1) := by decide +kernel
theorem d_Fo_placeChildren_0 : decode c_Fo_placeChildren 0 = .ok (.aload_n 0, 1) := by decide +kernel
theorem d_Fo_placeChildren_1 : decode c_Fo_placeChildren 1 = .ok (.getfield 19, 3) := by decide +kernel
theorem d_Fo_placeChildren_4 : decode c_Fo_placeChildren 4 = .ok (.iload_n 1, 1) := by decide +kernel
theorem d_Fo_placeChildren_5 : decode c_Fo_placeChildren 5 = .ok (.aaload, 1) := by decide +kernel
theorem d_Fo_placeChildren_6 : decode c_Fo_placeChildren 6 = .ok (.iload_n 2, 1) := by decide +kernel
theorem d_Fo_placeChildren_7 : decode c_Fo_placeChildren 7 = .ok (.iaload, 1) := by decide +kernel
theorem d_Fo_placeChildren_8 : decode c_Fo_placeChildren 8 = .ok (.istore_n 3, 1) := by decide +kernel
theorem d_Fo_placeChildren_9 : decode c_Fo_placeChildren 9 = .ok (.iload_n 3, 1) := by decide +kernel
theorem d_Fo_placeChildren_10 : decode c_Fo_placeChildren 10 = .ok (.iconst (-1), 1) := by decide +kernel
theorem d_Fo_placeChildren_11 : decode c_Fo_placeChildren 11 = .ok (.if_icmp .ne 4, 3) := by decide +kernel
theorem d_Fo_placeChildren_14 : decode c_Fo_placeChildren 14 = .ok (.return_, 1) := by decide +kernel
theorem d_Fo_placeChildren_15 : decode c_Fo_placeChildren 15 = .ok (.aload_n 0, 1) := by decide +kernel
theorem d_Fo_placeChildren_16 : decode c_Fo_placeChildren 16 = .ok (.getfield 11, 3) := by decide +kernel
theorem d_Fo_placeChildren_19 : decode c_Fo_placeChildren 19 = .ok (.iload_n 1, 1) := by decide +kernel
theorem d_Fo_placeChildren_20 : decode c_Fo_placeChildren 20 = .ok (.aaload, 1) := by decide +kernel
theorem d_Fo_placeChildren_21 : decode c_Fo_placeChildren 21 = .ok (.iload_n 2, 1) := by decide +kernel
theorem d_Fo_placeChildren_22 : decode c_Fo_placeChildren 22 = .ok (.iaload, 1) := by decide +kernel
theorem d_Fo_placeChildren_23 : decode c_Fo_placeChildren 23 = .ok (.iconst 1, 1) := by decide +kernel
theorem d_Fo_placeChildren_24 : decode c_Fo_placeChildren 24 = .ok (.iadd, 1) := by decide +kernel
theorem d_Fo_placeChildren_25 : decode c_Fo_placeChildren 25 = .ok (.istore 4, 2) := by decide +kernel
theorem d_Fo_placeChildren_27 : decode c_Fo_placeChildren 27 = .ok (.aload_n 0, 1) := by decide +kernel
theorem d_Fo_placeChildren_28 : decode c_Fo_placeChildren 28 = .ok (.getfield 11, 3) := by decide +kernel
theorem d_Fo_placeChildren_31 : decode c_Fo_placeChildren 31 = .ok (.iload_n 1, 1) := by decide +kernel
theorem d_Fo_placeChildren_32 : decode c_Fo_placeChildren 32 = .ok (.aaload, 1) := by decide +kernel
theorem d_Fo_placeChildren_33 : decode c_Fo_placeChildren 33 = .ok (.iload_n 3, 1) := by decide +kernel
theorem d_Fo_placeChildren_34 : decode c_Fo_placeChildren 34 = .ok (.iload 4, 2) := by decide +kernel
theorem d_Fo_placeChildren_36 : decode c_Fo_placeChildren 36 = .ok (.iastore, 1) := by decide +kernel
theorem d_Fo_placeChildren_37 : decode c_Fo_placeChildren 37 = .ok (.aload_n 0, 1) := by decide +kernel
theorem d_Fo_placeChildren_38 : decode c_Fo_placeChildren 38 = .ok (.getfield 22, 3) := by decide +kernel
theorem d_Fo_placeChildren_41 : decode c_Fo_placeChildren 41 = .ok (.iload_n 1, 1) := by decide +kernel
theorem d_Fo_placeChildren_42 : decode c_Fo_placeChildren 42 = .ok (.aaload, 1) := by decide +kernel
theorem d_Fo_placeChildren_43 : decode c_Fo_placeChildren 43 = .ok (.iload_n 3, 1) := by decide +kernel
theorem d_Fo_placeChildren_44 : decode c_Fo_placeChildren 44 = .ok (.aload_n 0, 1) := by decide +kernel
theorem d_Fo_placeChildren_45 : decode c_Fo_placeChildren 45 = .ok (.getfield 22, 3) := by decide +kernel
theorem d_Fo_placeChildren_48 : decode c_Fo_placeChildren 48 = .ok (.iload_n 1, 1) := by decide +kernel
theorem d_Fo_placeChildren_49 : decode c_Fo_placeChildren 49 = .ok (.aaload, 1) := by decide +kernel
theorem d_Fo_placeChildren_50 : decode c_Fo_placeChildren 50 = .ok (.iload_n 2, 1) := by decide +kernel
theorem d_Fo_placeChildren_51 : decode c_Fo_placeChildren 51 = .ok (.iaload, 1) := by decide +kernel
theorem d_Fo_placeChildren_52 : decode c_Fo_placeChildren 52 = .ok (.iastore, 1) := by decide +kernel
theorem d_Fo_placeChildren_53 : decode c_Fo_placeChildren 53 = .ok (.iload 4, 2) := by decide +kernel
theorem d_Fo_placeChildren_55 : decode c_Fo_placeChildren 55 = .ok (.aload_n 0, 1) := by decide +kernel
theorem d_Fo_placeChildren_56 : decode c_Fo_placeChildren 56 = .ok (.getfield 16, 3) := by decide +kernel
theorem d_Fo_placeChildren_59 : decode c_Fo_placeChildren 59 = .ok (.iload_n 1, 1) := by decide +kernel
theorem d_Fo_placeChildren_60 : decode c_Fo_placeChildren 60 = .ok (.aaload, 1) := by decide +kernel
theorem d_Fo_placeChildren_61 : decode c_Fo_placeChildren 61 = .ok (.iload_n 3, 1) := by decide +kernel
theorem d_Fo_placeChildren_62 : decode c_Fo_placeChildren 62 = .ok (.iaload, 1) := by decide +kernel
theorem d_Fo_placeChildren_63 : decode c_Fo_placeChildren 63 = .ok (.iadd, 1) := by decide +kernel
theorem d_Fo_placeChildren_64 : decode c_Fo_placeChildren 64 = .ok (.istore 4, 2) := by decide +kernel
theorem d_Fo_placeChildren_66 : decode c_Fo_placeChildren 66 = .ok (.iconst 0, 1) := by decide +kernel
theorem d_Fo_placeChildren_67 : decode c_Fo_placeChildren 67 = .ok (.istore 5, 2) := by decide +kernel
theorem d_Fo_placeChildren_69 : decode c_Fo_placeChildren 69 = .ok (.iload 5, 2) := by decide +kernel
theorem d_Fo_placeChildren_71 : decode c_Fo_placeChildren 71 = .ok (.aload_n 0, 1) := by decide +kernel
theorem d_Fo_placeChildren_72 : decode c_Fo_placeChildren 72 = .ok (.getfield 29, 3) := by decide +kernel
theorem d_Fo_placeChildren_75 : decode c_Fo_placeChildren 75 = .ok (.invokevirtual 56, 3) := by decide +kernel
theorem d_Fo_placeChildren_78 : decode c_Fo_placeChildren 78 = .ok (.if_icmp .ge 70, 3) := by decide +kernel
theorem d_Fo_placeChildren_81 : decode c_Fo_placeChildren 81 = .ok (.aload_n 0, 1) := by decide +kernel
theorem d_Fo_placeChildren_82 : decode c_Fo_placeChildren 82 = .ok (.getfield 25, 3) := by decide +kernel
theorem d_Fo_placeChildren_85 : decode c_Fo_placeChildren 85 = .ok (.iload 5, 2) := by decide +kernel
theorem d_Fo_placeChildren_87 : decode c_Fo_placeChildren 87 = .ok (.iaload, 1) := by decide +kernel
theorem d_Fo_placeChildren_88 : decode c_Fo_placeChildren 88 = .ok (.iload_n 2, 1) := by decide +kernel
theorem d_Fo_placeChildren_89 : decode c_Fo_placeChildren 89 = .ok (.if_icmp .ne 53, 3) := by decide +kernel
theorem d_Fo_placeChildren_92 : decode c_Fo_placeChildren 92 = .ok (.iload 5, 2) := by decide +kernel
theorem d_Fo_placeChildren_94 : decode c_Fo_placeChildren 94 = .ok (.iload_n 3, 1) := by decide +kernel
theorem d_Fo_placeChildren_95 : decode c_Fo_placeChildren 95 = .ok (.if_icmp .eq 47, 3) := by decide +kernel
theorem d_Fo_placeChildren_98 : decode c_Fo_placeChildren 98 = .ok (.aload_n 0, 1) := by decide +kernel
theorem d_Fo_placeChildren_99 : decode c_Fo_placeChildren 99 = .ok (.getfield 11, 3) := by decide +kernel
theorem d_Fo_placeChildren_102 : decode c_Fo_placeChildren 102 = .ok (.iload_n 1, 1) := by decide +kernel
theorem d_Fo_placeChildren_103 : decode c_Fo_placeChildren 103 = .ok (.aaload, 1) := by decide +kernel
theorem d_Fo_placeChildren_104 : decode c_Fo_placeChildren 104 = .ok (.iload 5, 2) := by decide +kernel
theorem d_Fo_placeChildren_106 : decode c_Fo_placeChildren 106 = .ok (.iload 4, 2) := by decide +kernel
theorem d_Fo_placeChildren_108 : decode c_Fo_placeChildren 108 = .ok (.iastore, 1) := by decide +kernel
theorem d_Fo_placeChildren_109 : decode c_Fo_placeChildren 109 = .ok (.aload_n 0, 1) := by decide +kernel
theorem d_Fo_placeChildren_110 : decode c_Fo_placeChildren 110 = .ok (.getfield 22, 3) := by decide +kernel
theorem d_Fo_placeChildren_113 : decode c_Fo_placeChildren 113 = .ok (.iload_n 1, 1) := by decide +kernel
theorem d_Fo_placeChildren_114 : decode c_Fo_placeChildren 114 = .ok (.aaload, 1) := by decide +kernel
theorem d_Fo_placeChildren_115 : decode c_Fo_placeChildren 115 = .ok (.iload 5, 2) := by decide +kernel
theorem d_Fo_placeChildren_117 : decode c_Fo_placeChildren 117 = .ok (.aload_n 0, 1) := by decide +kernel
theorem d_Fo_placeChildren_118 : decode c_Fo_placeChildren 118 = .ok (.getfield 22, 3) := by decide +kernel
theorem d_Fo_placeChildren_121 : decode c_Fo_placeChildren 121 = .ok (.iload_n 1, 1) := by decide +kernel
theorem d_Fo_placeChildren_122 : decode c_Fo_placeChildren 122 = .ok (.aaload, 1) := by decide +kernel
theorem d_Fo_placeChildren_123 : decode c_Fo_placeChildren 123 = .ok (.iload_n 2, 1) := by decide +kernel
theorem d_Fo_placeChildren_124 : decode c_Fo_placeChildren 124 = .ok (.iaload, 1) := by decide +kernel
theorem d_Fo_placeChildren_125 : decode c_Fo_placeChildren 125 = .ok (.iconst 1, 1) := by decide +kernel
theorem d_Fo_placeChildren_126 : decode c_Fo_placeChildren 126 = .ok (.iadd, 1) := by decide +kernel
theorem d_Fo_placeChildren_127 : decode c_Fo_placeChildren 127 = .ok (.iastore, 1) := by decide +kernel
theorem d_Fo_placeChildren_128 : decode c_Fo_placeChildren 128 = .ok (.iload 4, 2) := by decide +kernel
theorem d_Fo_placeChildren_130 : decode c_Fo_placeChildren 130 = .ok (.aload_n 0, 1) := by decide +kernel
theorem d_Fo_placeChildren_131 : decode c_Fo_placeChildren 131 = .ok (.getfield 16, 3) := by decide +kernel
theorem d_Fo_placeChildren_134 : decode c_Fo_placeChildren 134 = .ok (.iload_n 1, 1) := by decide +kernel
theorem d_Fo_placeChildren_135 : decode c_Fo_placeChildren 135 = .ok (.aaload, 1) := by decide +kernel
theorem d_Fo_placeChildren_136 : decode c_Fo_placeChildren 136 = .ok (.iload 5, 2) := by decide +kernel
theorem d_Fo_placeChildren_138 : decode c_Fo_placeChildren 138 = .ok (.iaload, 1) := by decide +kernel
theorem d_Fo_placeChildren_139 : decode c_Fo_placeChildren 139 = .ok (.iadd, 1) := by decide +kernel
theorem d_Fo_placeChildren_140 : decode c_Fo_placeChildren 140 = .ok (.istore 4, 2) := by decide +kernel
theorem d_Fo_placeChildren_142 : decode c_Fo_placeChildren 142 = .ok (.iinc 5 1, 3) := by decide +kernel
theorem d_Fo_placeChildren_145 : decode c_Fo_placeChildren 145 = .ok (.goto (-76), 3) := by decide +kernel
theorem d_Fo_placeChildren_148 : decode c_Fo_placeChildren 148 = .ok (.return_, 1) := by decide +kernel
theorem d_La_ownOf_0 : decode c_La_ownOf 0 = .ok (.aload_n 0, 1) := by decide +kernel
theorem d_La_ownOf_1 : decode c_La_ownOf 1 = .ok (.getfield 18, 3) := by decide +kernel
theorem d_La_ownOf_4 : decode c_La_ownOf 4 = .ok (.iload_n 1, 1) := by decide +kernel
theorem d_La_ownOf_5 : decode c_La_ownOf 5 = .ok (.iaload, 1) := by decide +kernel
theorem d_La_ownOf_6 : decode c_La_ownOf 6 = .ok (.ireturn, 1) := by decide +kernel
theorem d_Fo_placeOf_0 : decode c_Fo_placeOf 0 = .ok (.aload_n 0, 1) := by decide +kernel
theorem d_Fo_placeOf_1 : decode c_Fo_placeOf 1 = .ok (.getfield 11, 3) := by decide +kernel
theorem d_Fo_placeOf_4 : decode c_Fo_placeOf 4 = .ok (.iload_n 1, 1) := by decide +kernel
theorem d_Fo_placeOf_5 : decode c_Fo_placeOf 5 = .ok (.aaload, 1) := by decide +kernel
theorem d_Fo_placeOf_6 : decode c_Fo_placeOf 6 = .ok (.iload_n 2, 1) := by decide +kernel
theorem d_Fo_placeOf_7 : decode c_Fo_placeOf 7 = .ok (.iaload, 1) := by decide +kernel
theorem d_Fo_placeOf_8 : decode c_Fo_placeOf 8 = .ok (.ireturn, 1) := by decide +kernel
theorem d_Fo_lightsAbove_0 : decode c_Fo_lightsAbove 0 = .ok (.aload_n 0, 1) := by decide +kernel
theorem d_Fo_lightsAbove_1 : decode c_Fo_lightsAbove 1 = .ok (.getfield 22, 3) := by decide +kernel
theorem d_Fo_lightsAbove_4 : decode c_Fo_lightsAbove 4 = .ok (.iload_n 1, 1) := by decide +kernel
theorem d_Fo_lightsAbove_5 : decode c_Fo_lightsAbove 5 = .ok (.aaload, 1) := by decide +kernel
theorem d_Fo_lightsAbove_6 : decode c_Fo_lightsAbove 6 = .ok (.iload_n 2, 1) := by decide +kernel
theorem d_Fo_lightsAbove_7 : decode c_Fo_lightsAbove 7 = .ok (.iaload, 1) := by decide +kernel
theorem d_Fo_lightsAbove_8 : decode c_Fo_lightsAbove 8 = .ok (.ireturn, 1) := by decide +kernel
theorem d_Fo_heavyOf_0 : decode c_Fo_heavyOf 0 = .ok (.aload_n 0, 1) := by decide +kernel
theorem d_Fo_heavyOf_1 : decode c_Fo_heavyOf 1 = .ok (.getfield 19, 3) := by decide +kernel
theorem d_Fo_heavyOf_4 : decode c_Fo_heavyOf 4 = .ok (.iload_n 1, 1) := by decide +kernel
theorem d_Fo_heavyOf_5 : decode c_Fo_heavyOf 5 = .ok (.aaload, 1) := by decide +kernel
theorem d_Fo_heavyOf_6 : decode c_Fo_heavyOf 6 = .ok (.iload_n 2, 1) := by decide +kernel
theorem d_Fo_heavyOf_7 : decode c_Fo_heavyOf 7 = .ok (.iaload, 1) := by decide +kernel
theorem d_Fo_heavyOf_8 : decode c_Fo_heavyOf 8 = .ok (.ireturn, 1) := by decide +kernel
theorem d_La_at_0 : decode c_La_at 0 = .ok (.iconst 0, 1) := by decide +kernel
theorem d_La_at_1 : decode c_La_at 1 = .ok (.istore_n 2, 1) := by decide +kernel
theorem d_La_at_2 : decode c_La_at 2 = .ok (.iconst 0, 1) := by decide +kernel
theorem d_La_at_3 : decode c_La_at 3 = .ok (.istore_n 3, 1) := by decide +kernel
theorem d_La_at_4 : decode c_La_at 4 = .ok (.iload_n 3, 1) := by decide +kernel
theorem d_La_at_5 : decode c_La_at 5 = .ok (.aload_n 0, 1) := by decide +kernel
theorem d_La_at_6 : decode c_La_at 6 = .ok (.getfield 25, 3) := by decide +kernel
theorem d_La_at_9 : decode c_La_at 9 = .ok (.invokevirtual 53, 3) := by decide +kernel
theorem d_La_at_12 : decode c_La_at 12 = .ok (.if_icmp .ge 27, 3) := by decide +kernel
theorem d_La_at_15 : decode c_La_at 15 = .ok (.aload_n 0, 1) := by decide +kernel
theorem d_La_at_16 : decode c_La_at 16 = .ok (.iload_n 3, 1) := by decide +kernel
theorem d_La_at_17 : decode c_La_at 17 = .ok (.invokevirtual 59, 3) := by decide +kernel
theorem d_La_at_20 : decode c_La_at 20 = .ok (.ifCond .eq 13, 3) := by decide +kernel
theorem d_La_at_23 : decode c_La_at 23 = .ok (.iload_n 2, 1) := by decide +kernel
theorem d_La_at_24 : decode c_La_at 24 = .ok (.iload_n 1, 1) := by decide +kernel
theorem d_La_at_25 : decode c_La_at 25 = .ok (.if_icmp .ne 5, 3) := by decide +kernel
theorem d_La_at_28 : decode c_La_at 28 = .ok (.iload_n 3, 1) := by decide +kernel
theorem d_La_at_29 : decode c_La_at 29 = .ok (.ireturn, 1) := by decide +kernel
theorem d_La_at_30 : decode c_La_at 30 = .ok (.iinc 2 1, 3) := by decide +kernel
theorem d_La_at_33 : decode c_La_at 33 = .ok (.iinc 3 1, 3) := by decide +kernel
theorem d_La_at_36 : decode c_La_at 36 = .ok (.goto (-32), 3) := by decide +kernel
theorem d_La_at_39 : decode c_La_at 39 = .ok (.iconst (-1), 1) := by decide +kernel
theorem d_La_at_40 : decode c_La_at 40 = .ok (.ireturn, 1) := by decide +kernel
theorem d_La_hasRow_0 : decode c_La_hasRow 0 = .ok (.aload_n 0, 1) := by decide +kernel
theorem d_La_hasRow_1 : decode c_La_hasRow 1 = .ok (.iload_n 2, 1) := by decide +kernel
theorem d_La_hasRow_2 : decode c_La_hasRow 2 = .ok (.invokevirtual 59, 3) := by decide +kernel
theorem d_La_hasRow_5 : decode c_La_hasRow 5 = .ok (.ifCond .ne 16, 3) := by decide +kernel
theorem d_La_hasRow_8 : decode c_La_hasRow 8 = .ok (.aload_n 0, 1) := by decide +kernel
theorem d_La_hasRow_9 : decode c_La_hasRow 9 = .ok (.getfield 15, 3) := by decide +kernel
theorem d_La_hasRow_12 : decode c_La_hasRow 12 = .ok (.iload_n 1, 1) := by decide +kernel
theorem d_La_hasRow_13 : decode c_La_hasRow 13 = .ok (.laload, 1) := by decide +kernel
theorem d_La_hasRow_14 : decode c_La_hasRow 14 = .ok (.iload_n 2, 1) := by decide +kernel
theorem d_La_hasRow_15 : decode c_La_hasRow 15 = .ok (.invokestatic 63, 3) := by decide +kernel
theorem d_La_hasRow_18 : decode c_La_hasRow 18 = .ok (.ifCond .eq 7, 3) := by decide +kernel
theorem d_La_hasRow_21 : decode c_La_hasRow 21 = .ok (.iconst 1, 1) := by decide +kernel
theorem d_La_hasRow_22 : decode c_La_hasRow 22 = .ok (.goto 4, 3) := by decide +kernel
theorem d_La_hasRow_25 : decode c_La_hasRow 25 = .ok (.iconst 0, 1) := by decide +kernel
theorem d_La_hasRow_26 : decode c_La_hasRow 26 = .ok (.ireturn, 1) := by decide +kernel
theorem d_Fo_sizeOf_0 : decode c_Fo_sizeOf 0 = .ok (.aload_n 0, 1) := by decide +kernel
theorem d_Fo_sizeOf_1 : decode c_Fo_sizeOf 1 = .ok (.getfield 16, 3) := by decide +kernel
theorem d_Fo_sizeOf_4 : decode c_Fo_sizeOf 4 = .ok (.iload_n 1, 1) := by decide +kernel
theorem d_Fo_sizeOf_5 : decode c_Fo_sizeOf 5 = .ok (.aaload, 1) := by decide +kernel
theorem d_Fo_sizeOf_6 : decode c_Fo_sizeOf 6 = .ok (.iload_n 2, 1) := by decide +kernel
theorem d_Fo_sizeOf_7 : decode c_Fo_sizeOf 7 = .ok (.iaload, 1) := by decide +kernel
theorem d_Fo_sizeOf_8 : decode c_Fo_sizeOf 8 = .ok (.ireturn, 1) := by decide +kernel
theorem d_Fo_holds_0 : decode c_Fo_holds 0 = .ok (.aload_n 0, 1) := by decide +kernel
theorem d_Fo_holds_1 : decode c_Fo_holds 1 = .ok (.getfield 11, 3) := by decide +kernel
theorem d_Fo_holds_4 : decode c_Fo_holds 4 = .ok (.iload_n 1, 1) := by decide +kernel
theorem d_Fo_holds_5 : decode c_Fo_holds 5 = .ok (.aaload, 1) := by decide +kernel
theorem d_Fo_holds_6 : decode c_Fo_holds 6 = .ok (.iload_n 2, 1) := by decide +kernel
theorem d_Fo_holds_7 : decode c_Fo_holds 7 = .ok (.iaload, 1) := by decide +kernel
theorem d_Fo_holds_8 : decode c_Fo_holds 8 = .ok (.istore 4, 2) := by decide +kernel
theorem d_Fo_holds_10 : decode c_Fo_holds 10 = .ok (.iload_n 3, 1) := by decide +kernel
theorem d_Fo_holds_11 : decode c_Fo_holds 11 = .ok (.iload 4, 2) := by decide +kernel
theorem d_Fo_holds_13 : decode c_Fo_holds 13 = .ok (.if_icmp .lt 22, 3) := by decide +kernel
theorem d_Fo_holds_16 : decode c_Fo_holds 16 = .ok (.iload_n 3, 1) := by decide +kernel
theorem d_Fo_holds_17 : decode c_Fo_holds 17 = .ok (.iload 4, 2) := by decide +kernel
theorem d_Fo_holds_19 : decode c_Fo_holds 19 = .ok (.aload_n 0, 1) := by decide +kernel
theorem d_Fo_holds_20 : decode c_Fo_holds 20 = .ok (.getfield 16, 3) := by decide +kernel
theorem d_Fo_holds_23 : decode c_Fo_holds 23 = .ok (.iload_n 1, 1) := by decide +kernel
theorem d_Fo_holds_24 : decode c_Fo_holds 24 = .ok (.aaload, 1) := by decide +kernel
theorem d_Fo_holds_25 : decode c_Fo_holds 25 = .ok (.iload_n 2, 1) := by decide +kernel
theorem d_Fo_holds_26 : decode c_Fo_holds 26 = .ok (.iaload, 1) := by decide +kernel
theorem d_Fo_holds_27 : decode c_Fo_holds 27 = .ok (.iadd, 1) := by decide +kernel
theorem d_Fo_holds_28 : decode c_Fo_holds 28 = .ok (.if_icmp .ge 7, 3) := by decide +kernel
theorem d_Fo_holds_31 : decode c_Fo_holds 31 = .ok (.iconst 1, 1) := by decide +kernel
theorem d_Fo_holds_32 : decode c_Fo_holds 32 = .ok (.goto 4, 3) := by decide +kernel
theorem d_Fo_holds_35 : decode c_Fo_holds 35 = .ok (.iconst 0, 1) := by decide +kernel
theorem d_Fo_holds_36 : decode c_Fo_holds 36 = .ok (.ireturn, 1) := by decide +kernel
