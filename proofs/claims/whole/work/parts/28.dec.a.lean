theorem d_Ne_init_0 : decode c_Ne_init 0 = .ok (.aload_n 0, 1) := by decide +kernel
theorem d_Ne_init_1 : decode c_Ne_init 1 = .ok (.invokespecial 3, 3) := by decide +kernel
theorem d_Ne_init_4 : decode c_Ne_init 4 = .ok (.aload_n 0, 1) := by decide +kernel
theorem d_Ne_init_5 : decode c_Ne_init 5 = .ok (.bipush 40, 2) := by decide +kernel
theorem d_Ne_init_7 : decode c_Ne_init 7 = .ok (.bipush 16, 2) := by decide +kernel
theorem d_Ne_init_9 : decode c_Ne_init 9 = .ok (.multianewarray 9 2, 4) := by decide +kernel
theorem d_Ne_init_13 : decode c_Ne_init 13 = .ok (.putfield 11, 3) := by decide +kernel
theorem d_Ne_init_16 : decode c_Ne_init 16 = .ok (.aload_n 0, 1) := by decide +kernel
theorem d_Ne_init_17 : decode c_Ne_init 17 = .ok (.bipush 40, 2) := by decide +kernel
theorem d_Ne_init_19 : decode c_Ne_init 19 = .ok (.bipush 16, 2) := by decide +kernel
theorem d_Ne_init_21 : decode c_Ne_init 21 = .ok (.multianewarray 9 2, 4) := by decide +kernel
theorem d_Ne_init_25 : decode c_Ne_init 25 = .ok (.putfield 16, 3) := by decide +kernel
theorem d_Ne_init_28 : decode c_Ne_init 28 = .ok (.aload_n 0, 1) := by decide +kernel
theorem d_Ne_init_29 : decode c_Ne_init 29 = .ok (.iconst 1, 1) := by decide +kernel
theorem d_Ne_init_30 : decode c_Ne_init 30 = .ok (.invokevirtual 19, 3) := by decide +kernel
theorem d_Ne_init_33 : decode c_Ne_init 33 = .ok (.return_, 1) := by decide +kernel
theorem d_Ne_clear_0 : decode c_Ne_clear 0 = .ok (.aload_n 0, 1) := by decide +kernel
theorem d_Ne_clear_1 : decode c_Ne_clear 1 = .ok (.iload_n 1, 1) := by decide +kernel
theorem d_Ne_clear_2 : decode c_Ne_clear 2 = .ok (.putfield 23, 3) := by decide +kernel
theorem d_Ne_clear_5 : decode c_Ne_clear 5 = .ok (.iconst 0, 1) := by decide +kernel
theorem d_Ne_clear_6 : decode c_Ne_clear 6 = .ok (.istore_n 2, 1) := by decide +kernel
theorem d_Ne_clear_7 : decode c_Ne_clear 7 = .ok (.iload_n 2, 1) := by decide +kernel
theorem d_Ne_clear_8 : decode c_Ne_clear 8 = .ok (.bipush 40, 2) := by decide +kernel
theorem d_Ne_clear_10 : decode c_Ne_clear 10 = .ok (.if_icmp .ge 29, 3) := by decide +kernel
theorem d_Ne_clear_13 : decode c_Ne_clear 13 = .ok (.aload_n 0, 1) := by decide +kernel
theorem d_Ne_clear_14 : decode c_Ne_clear 14 = .ok (.getfield 11, 3) := by decide +kernel
theorem d_Ne_clear_17 : decode c_Ne_clear 17 = .ok (.iload_n 2, 1) := by decide +kernel
theorem d_Ne_clear_18 : decode c_Ne_clear 18 = .ok (.aaload, 1) := by decide +kernel
theorem d_Ne_clear_19 : decode c_Ne_clear 19 = .ok (.iconst (-1), 1) := by decide +kernel
theorem d_Ne_clear_20 : decode c_Ne_clear 20 = .ok (.invokestatic 27, 3) := by decide +kernel
theorem d_Ne_clear_23 : decode c_Ne_clear 23 = .ok (.aload_n 0, 1) := by decide +kernel
theorem d_Ne_clear_24 : decode c_Ne_clear 24 = .ok (.getfield 16, 3) := by decide +kernel
theorem d_Ne_clear_27 : decode c_Ne_clear 27 = .ok (.iload_n 2, 1) := by decide +kernel
theorem d_Ne_clear_28 : decode c_Ne_clear 28 = .ok (.aaload, 1) := by decide +kernel
theorem d_Ne_clear_29 : decode c_Ne_clear 29 = .ok (.iconst 0, 1) := by decide +kernel
theorem d_Ne_clear_30 : decode c_Ne_clear 30 = .ok (.invokestatic 27, 3) := by decide +kernel
theorem d_Ne_clear_33 : decode c_Ne_clear 33 = .ok (.iinc 2 1, 3) := by decide +kernel
theorem d_Ne_clear_36 : decode c_Ne_clear 36 = .ok (.goto (-29), 3) := by decide +kernel
theorem d_Ne_clear_39 : decode c_Ne_clear 39 = .ok (.return_, 1) := by decide +kernel
theorem d_Ar_fill_0 : decode c_Ar_fill 0 = .ok (.iconst 0, 1) := by decide +kernel
theorem d_Ar_fill_1 : decode c_Ar_fill 1 = .ok (.istore_n 2, 1) := by decide +kernel
theorem d_Ar_fill_2 : decode c_Ar_fill 2 = .ok (.aload_n 0, 1) := by decide +kernel
theorem d_Ar_fill_3 : decode c_Ar_fill 3 = .ok (.arraylength, 1) := by decide +kernel
theorem d_Ar_fill_4 : decode c_Ar_fill 4 = .ok (.istore_n 3, 1) := by decide +kernel
theorem d_Ar_fill_5 : decode c_Ar_fill 5 = .ok (.iload_n 2, 1) := by decide +kernel
theorem d_Ar_fill_6 : decode c_Ar_fill 6 = .ok (.iload_n 3, 1) := by decide +kernel
theorem d_Ar_fill_7 : decode c_Ar_fill 7 = .ok (.if_icmp .ge 13, 3) := by decide +kernel
theorem d_Ar_fill_10 : decode c_Ar_fill 10 = .ok (.aload_n 0, 1) := by decide +kernel
theorem d_Ar_fill_11 : decode c_Ar_fill 11 = .ok (.iload_n 2, 1) := by decide +kernel
theorem d_Ar_fill_12 : decode c_Ar_fill 12 = .ok (.iload_n 1, 1) := by decide +kernel
theorem d_Ar_fill_13 : decode c_Ar_fill 13 = .ok (.iastore, 1) := by decide +kernel
theorem d_Ar_fill_14 : decode c_Ar_fill 14 = .ok (.iinc 2 1, 3) := by decide +kernel
theorem d_Ar_fill_17 : decode c_Ar_fill 17 = .ok (.goto (-12), 3) := by decide +kernel
theorem d_Ar_fill_20 : decode c_Ar_fill 20 = .ok (.return_, 1) := by decide +kernel
theorem d_Wa_init_0 : decode c_Wa_init 0 = .ok (.aload_n 0, 1) := by decide +kernel
theorem d_Wa_init_1 : decode c_Wa_init 1 = .ok (.invokespecial 3, 3) := by decide +kernel
theorem d_Wa_init_4 : decode c_Wa_init 4 = .ok (.aload_n 0, 1) := by decide +kernel
theorem d_Wa_init_5 : decode c_Wa_init 5 = .ok (.bipush 40, 2) := by decide +kernel
theorem d_Wa_init_7 : decode c_Wa_init 7 = .ok (.bipush 40, 2) := by decide +kernel
theorem d_Wa_init_9 : decode c_Wa_init 9 = .ok (.multianewarray 9 2, 4) := by decide +kernel
theorem d_Wa_init_13 : decode c_Wa_init 13 = .ok (.putfield 11, 3) := by decide +kernel
theorem d_Wa_init_16 : decode c_Wa_init 16 = .ok (.aload_n 0, 1) := by decide +kernel
theorem d_Wa_init_17 : decode c_Wa_init 17 = .ok (.bipush 40, 2) := by decide +kernel
theorem d_Wa_init_19 : decode c_Wa_init 19 = .ok (.bipush 40, 2) := by decide +kernel
theorem d_Wa_init_21 : decode c_Wa_init 21 = .ok (.multianewarray 9 2, 4) := by decide +kernel
theorem d_Wa_init_25 : decode c_Wa_init 25 = .ok (.putfield 16, 3) := by decide +kernel
theorem d_Wa_init_28 : decode c_Wa_init 28 = .ok (.aload_n 0, 1) := by decide +kernel
theorem d_Wa_init_29 : decode c_Wa_init 29 = .ok (.aload_n 1, 1) := by decide +kernel
theorem d_Wa_init_30 : decode c_Wa_init 30 = .ok (.putfield 19, 3) := by decide +kernel
theorem d_Wa_init_33 : decode c_Wa_init 33 = .ok (.return_, 1) := by decide +kernel
theorem d_Pa_init_0 : decode c_Pa_init 0 = .ok (.aload_n 0, 1) := by decide +kernel
theorem d_Pa_init_1 : decode c_Pa_init 1 = .ok (.invokespecial 1, 3) := by decide +kernel
theorem d_Pa_init_4 : decode c_Pa_init 4 = .ok (.aload_n 0, 1) := by decide +kernel
theorem d_Pa_init_5 : decode c_Pa_init 5 = .ok (.bipush 16, 2) := by decide +kernel
theorem d_Pa_init_7 : decode c_Pa_init 7 = .ok (.newarray .int, 2) := by decide +kernel
theorem d_Pa_init_9 : decode c_Pa_init 9 = .ok (.putfield 9, 3) := by decide +kernel
theorem d_Pa_init_12 : decode c_Pa_init 12 = .ok (.aload_n 0, 1) := by decide +kernel
theorem d_Pa_init_13 : decode c_Pa_init 13 = .ok (.bipush 16, 2) := by decide +kernel
theorem d_Pa_init_15 : decode c_Pa_init 15 = .ok (.newarray .int, 2) := by decide +kernel
theorem d_Pa_init_17 : decode c_Pa_init 17 = .ok (.putfield 13, 3) := by decide +kernel
theorem d_Pa_init_20 : decode c_Pa_init 20 = .ok (.aload_n 0, 1) := by decide +kernel
theorem d_Pa_init_21 : decode c_Pa_init 21 = .ok (.bipush 16, 2) := by decide +kernel
theorem d_Pa_init_23 : decode c_Pa_init 23 = .ok (.newarray .int, 2) := by decide +kernel
theorem d_Pa_init_25 : decode c_Pa_init 25 = .ok (.putfield 16, 3) := by decide +kernel
theorem d_Pa_init_28 : decode c_Pa_init 28 = .ok (.return_, 1) := by decide +kernel
theorem d_Pa_clear_0 : decode c_Pa_clear 0 = .ok (.aload_n 0, 1) := by decide +kernel
theorem d_Pa_clear_1 : decode c_Pa_clear 1 = .ok (.iconst 0, 1) := by decide +kernel
theorem d_Pa_clear_2 : decode c_Pa_clear 2 = .ok (.putfield 19, 3) := by decide +kernel
theorem d_Pa_clear_5 : decode c_Pa_clear 5 = .ok (.aload_n 0, 1) := by decide +kernel
theorem d_Pa_clear_6 : decode c_Pa_clear 6 = .ok (.iconst 0, 1) := by decide +kernel
theorem d_Pa_clear_7 : decode c_Pa_clear 7 = .ok (.putfield 23, 3) := by decide +kernel
theorem d_Pa_clear_10 : decode c_Pa_clear 10 = .ok (.return_, 1) := by decide +kernel
theorem d_Ne_size_0 : decode c_Ne_size 0 = .ok (.aload_n 0, 1) := by decide +kernel
theorem d_Ne_size_1 : decode c_Ne_size 1 = .ok (.getfield 23, 3) := by decide +kernel
theorem d_Ne_size_4 : decode c_Ne_size 4 = .ok (.ireturn, 1) := by decide +kernel
theorem d_Ne_portTo_0 : decode c_Ne_portTo 0 = .ok (.iconst 0, 1) := by decide +kernel
theorem d_Ne_portTo_1 : decode c_Ne_portTo 1 = .ok (.istore_n 3, 1) := by decide +kernel
theorem d_Ne_portTo_2 : decode c_Ne_portTo 2 = .ok (.iload_n 3, 1) := by decide +kernel
theorem d_Ne_portTo_3 : decode c_Ne_portTo 3 = .ok (.bipush 16, 2) := by decide +kernel
theorem d_Ne_portTo_5 : decode c_Ne_portTo 5 = .ok (.if_icmp .ge 23, 3) := by decide +kernel
theorem d_Ne_portTo_8 : decode c_Ne_portTo 8 = .ok (.aload_n 0, 1) := by decide +kernel
theorem d_Ne_portTo_9 : decode c_Ne_portTo 9 = .ok (.getfield 11, 3) := by decide +kernel
theorem d_Ne_portTo_12 : decode c_Ne_portTo 12 = .ok (.iload_n 1, 1) := by decide +kernel
theorem d_Ne_portTo_13 : decode c_Ne_portTo 13 = .ok (.aaload, 1) := by decide +kernel
theorem d_Ne_portTo_14 : decode c_Ne_portTo 14 = .ok (.iload_n 3, 1) := by decide +kernel
theorem d_Ne_portTo_15 : decode c_Ne_portTo 15 = .ok (.iaload, 1) := by decide +kernel
theorem d_Ne_portTo_16 : decode c_Ne_portTo 16 = .ok (.iload_n 2, 1) := by decide +kernel
theorem d_Ne_portTo_17 : decode c_Ne_portTo 17 = .ok (.if_icmp .ne 5, 3) := by decide +kernel
theorem d_Ne_portTo_20 : decode c_Ne_portTo 20 = .ok (.iload_n 3, 1) := by decide +kernel
theorem d_Ne_portTo_21 : decode c_Ne_portTo 21 = .ok (.ireturn, 1) := by decide +kernel
theorem d_Ne_portTo_22 : decode c_Ne_portTo 22 = .ok (.iinc 3 1, 3) := by decide +kernel
theorem d_Ne_portTo_25 : decode c_Ne_portTo 25 = .ok (.goto (-23), 3) := by decide +kernel
theorem d_Ne_portTo_28 : decode c_Ne_portTo 28 = .ok (.iconst (-1), 1) := by decide +kernel
theorem d_Ne_portTo_29 : decode c_Ne_portTo 29 = .ok (.ireturn, 1) := by decide +kernel
theorem d_Ne_freePort_0 : decode c_Ne_freePort 0 = .ok (.aload_n 0, 1) := by decide +kernel
theorem d_Ne_freePort_1 : decode c_Ne_freePort 1 = .ok (.iload_n 1, 1) := by decide +kernel
theorem d_Ne_freePort_2 : decode c_Ne_freePort 2 = .ok (.iconst (-1), 1) := by decide +kernel
theorem d_Ne_freePort_3 : decode c_Ne_freePort 3 = .ok (.invokevirtual 39, 3) := by decide +kernel
theorem d_Ne_freePort_6 : decode c_Ne_freePort 6 = .ok (.ireturn, 1) := by decide +kernel
theorem d_Ne_join_0 : decode c_Ne_join 0 = .ok (.aload_n 0, 1) := by decide +kernel
theorem d_Ne_join_1 : decode c_Ne_join 1 = .ok (.iload_n 1, 1) := by decide +kernel
theorem d_Ne_join_2 : decode c_Ne_join 2 = .ok (.aload_n 0, 1) := by decide +kernel
theorem d_Ne_join_3 : decode c_Ne_join 3 = .ok (.iload_n 1, 1) := by decide +kernel
theorem d_Ne_join_4 : decode c_Ne_join 4 = .ok (.invokevirtual 43, 3) := by decide +kernel
theorem d_Ne_join_7 : decode c_Ne_join 7 = .ok (.iload_n 2, 1) := by decide +kernel
theorem d_Ne_join_8 : decode c_Ne_join 8 = .ok (.invokevirtual 47, 3) := by decide +kernel
theorem d_Ne_join_11 : decode c_Ne_join 11 = .ok (.aload_n 0, 1) := by decide +kernel
theorem d_Ne_join_12 : decode c_Ne_join 12 = .ok (.iload_n 2, 1) := by decide +kernel
theorem d_Ne_join_13 : decode c_Ne_join 13 = .ok (.aload_n 0, 1) := by decide +kernel
theorem d_Ne_join_14 : decode c_Ne_join 14 = .ok (.iload_n 2, 1) := by decide +kernel
theorem d_Ne_join_15 : decode c_Ne_join 15 = .ok (.invokevirtual 43, 3) := by decide +kernel
theorem d_Ne_join_18 : decode c_Ne_join 18 = .ok (.iload_n 1, 1) := by decide +kernel
theorem d_Ne_join_19 : decode c_Ne_join 19 = .ok (.invokevirtual 47, 3) := by decide +kernel
theorem d_Ne_join_22 : decode c_Ne_join 22 = .ok (.return_, 1) := by decide +kernel
theorem d_Ne_connect_0 : decode c_Ne_connect 0 = .ok (.iload_n 2, 1) := by decide +kernel
theorem d_Ne_connect_1 : decode c_Ne_connect 1 = .ok (.iconst (-1), 1) := by decide +kernel
theorem d_Ne_connect_2 : decode c_Ne_connect 2 = .ok (.if_icmp .eq 21, 3) := by decide +kernel
theorem d_Ne_connect_5 : decode c_Ne_connect 5 = .ok (.aload_n 0, 1) := by decide +kernel
theorem d_Ne_connect_6 : decode c_Ne_connect 6 = .ok (.getfield 11, 3) := by decide +kernel
theorem d_Ne_connect_9 : decode c_Ne_connect 9 = .ok (.iload_n 1, 1) := by decide +kernel
theorem d_Ne_connect_10 : decode c_Ne_connect 10 = .ok (.aaload, 1) := by decide +kernel
theorem d_Ne_connect_11 : decode c_Ne_connect 11 = .ok (.iload_n 2, 1) := by decide +kernel
theorem d_Ne_connect_12 : decode c_Ne_connect 12 = .ok (.iload_n 3, 1) := by decide +kernel
theorem d_Ne_connect_13 : decode c_Ne_connect 13 = .ok (.iastore, 1) := by decide +kernel
theorem d_Ne_connect_14 : decode c_Ne_connect 14 = .ok (.aload_n 0, 1) := by decide +kernel
theorem d_Ne_connect_15 : decode c_Ne_connect 15 = .ok (.getfield 16, 3) := by decide +kernel
theorem d_Ne_connect_18 : decode c_Ne_connect 18 = .ok (.iload_n 1, 1) := by decide +kernel
theorem d_Ne_connect_19 : decode c_Ne_connect 19 = .ok (.aaload, 1) := by decide +kernel
theorem d_Ne_connect_20 : decode c_Ne_connect 20 = .ok (.iload_n 2, 1) := by decide +kernel
theorem d_Ne_connect_21 : decode c_Ne_connect 21 = .ok (.iconst 0, 1) := by decide +kernel
theorem d_Ne_connect_22 : decode c_Ne_connect 22 = .ok (.iastore, 1) := by decide +kernel
theorem d_Ne_connect_23 : decode c_Ne_connect 23 = .ok (.return_, 1) := by decide +kernel
theorem d_Ne_setWeight_0 : decode c_Ne_setWeight 0 = .ok (.aload_n 0, 1) := by decide +kernel
theorem d_Ne_setWeight_1 : decode c_Ne_setWeight 1 = .ok (.iload_n 1, 1) := by decide +kernel
theorem d_Ne_setWeight_2 : decode c_Ne_setWeight 2 = .ok (.aload_n 0, 1) := by decide +kernel
theorem d_Ne_setWeight_3 : decode c_Ne_setWeight 3 = .ok (.iload_n 1, 1) := by decide +kernel
theorem d_Ne_setWeight_4 : decode c_Ne_setWeight 4 = .ok (.iload_n 2, 1) := by decide +kernel
theorem d_Ne_setWeight_5 : decode c_Ne_setWeight 5 = .ok (.invokevirtual 39, 3) := by decide +kernel
theorem d_Ne_setWeight_8 : decode c_Ne_setWeight 8 = .ok (.iload_n 3, 1) := by decide +kernel
theorem d_Ne_setWeight_9 : decode c_Ne_setWeight 9 = .ok (.invokevirtual 51, 3) := by decide +kernel
theorem d_Ne_setWeight_12 : decode c_Ne_setWeight 12 = .ok (.aload_n 0, 1) := by decide +kernel
theorem d_Ne_setWeight_13 : decode c_Ne_setWeight 13 = .ok (.iload_n 2, 1) := by decide +kernel
theorem d_Ne_setWeight_14 : decode c_Ne_setWeight 14 = .ok (.aload_n 0, 1) := by decide +kernel
theorem d_Ne_setWeight_15 : decode c_Ne_setWeight 15 = .ok (.iload_n 2, 1) := by decide +kernel
theorem d_Ne_setWeight_16 : decode c_Ne_setWeight 16 = .ok (.iload_n 1, 1) := by decide +kernel
theorem d_Ne_setWeight_17 : decode c_Ne_setWeight 17 = .ok (.invokevirtual 39, 3) := by decide +kernel
theorem d_Ne_setWeight_20 : decode c_Ne_setWeight 20 = .ok (.iload_n 3, 1) := by decide +kernel
theorem d_Ne_setWeight_21 : decode c_Ne_setWeight 21 = .ok (.invokevirtual 51, 3) := by decide +kernel
theorem d_Ne_setWeight_24 : decode c_Ne_setWeight 24 = .ok (.return_, 1) := by decide +kernel
theorem d_Ne_weigh_0 : decode c_Ne_weigh 0 = .ok (.iload_n 2, 1) := by decide +kernel
theorem d_Ne_weigh_1 : decode c_Ne_weigh 1 = .ok (.iconst (-1), 1) := by decide +kernel
theorem d_Ne_weigh_2 : decode c_Ne_weigh 2 = .ok (.if_icmp .eq 12, 3) := by decide +kernel
theorem d_Ne_weigh_5 : decode c_Ne_weigh 5 = .ok (.aload_n 0, 1) := by decide +kernel
theorem d_Ne_weigh_6 : decode c_Ne_weigh 6 = .ok (.getfield 16, 3) := by decide +kernel
theorem d_Ne_weigh_9 : decode c_Ne_weigh 9 = .ok (.iload_n 1, 1) := by decide +kernel
theorem d_Ne_weigh_10 : decode c_Ne_weigh 10 = .ok (.aaload, 1) := by decide +kernel
theorem d_Ne_weigh_11 : decode c_Ne_weigh 11 = .ok (.iload_n 2, 1) := by decide +kernel
theorem d_Ne_weigh_12 : decode c_Ne_weigh 12 = .ok (.iload_n 3, 1) := by decide +kernel
theorem d_Ne_weigh_13 : decode c_Ne_weigh 13 = .ok (.iastore, 1) := by decide +kernel
theorem d_Ne_weigh_14 : decode c_Ne_weigh 14 = .ok (.return_, 1) := by decide +kernel
theorem d_Ne_weightTo_0 : decode c_Ne_weightTo 0 = .ok (.aload_n 0, 1) := by decide +kernel
theorem d_Ne_weightTo_1 : decode c_Ne_weightTo 1 = .ok (.iload_n 1, 1) := by decide +kernel
theorem d_Ne_weightTo_2 : decode c_Ne_weightTo 2 = .ok (.iload_n 2, 1) := by decide +kernel
theorem d_Ne_weightTo_3 : decode c_Ne_weightTo 3 = .ok (.invokevirtual 39, 3) := by decide +kernel
theorem d_Ne_weightTo_6 : decode c_Ne_weightTo 6 = .ok (.istore_n 3, 1) := by decide +kernel
theorem d_Ne_weightTo_7 : decode c_Ne_weightTo 7 = .ok (.iload_n 3, 1) := by decide +kernel
theorem d_Ne_weightTo_8 : decode c_Ne_weightTo 8 = .ok (.iconst (-1), 1) := by decide +kernel
theorem d_Ne_weightTo_9 : decode c_Ne_weightTo 9 = .ok (.if_icmp .ne 7, 3) := by decide +kernel
theorem d_Ne_weightTo_12 : decode c_Ne_weightTo 12 = .ok (.iconst 0, 1) := by decide +kernel
theorem d_Ne_weightTo_13 : decode c_Ne_weightTo 13 = .ok (.goto 11, 3) := by decide +kernel
theorem d_Ne_weightTo_16 : decode c_Ne_weightTo 16 = .ok (.aload_n 0, 1) := by decide +kernel
theorem d_Ne_weightTo_17 : decode c_Ne_weightTo 17 = .ok (.getfield 16, 3) := by decide +kernel
theorem d_Ne_weightTo_20 : decode c_Ne_weightTo 20 = .ok (.iload_n 1, 1) := by decide +kernel
theorem d_Ne_weightTo_21 : decode c_Ne_weightTo 21 = .ok (.aaload, 1) := by decide +kernel
theorem d_Ne_weightTo_22 : decode c_Ne_weightTo 22 = .ok (.iload_n 3, 1) := by decide +kernel
theorem d_Ne_weightTo_23 : decode c_Ne_weightTo 23 = .ok (.iaload, 1) := by decide +kernel
theorem d_Ne_weightTo_24 : decode c_Ne_weightTo 24 = .ok (.ireturn, 1) := by decide +kernel
theorem d_Ne_part_0 : decode c_Ne_part 0 = .ok (.aload_n 0, 1) := by decide +kernel
theorem d_Ne_part_1 : decode c_Ne_part 1 = .ok (.iload_n 1, 1) := by decide +kernel
theorem d_Ne_part_2 : decode c_Ne_part 2 = .ok (.aload_n 0, 1) := by decide +kernel
theorem d_Ne_part_3 : decode c_Ne_part 3 = .ok (.iload_n 1, 1) := by decide +kernel
theorem d_Ne_part_4 : decode c_Ne_part 4 = .ok (.iload_n 2, 1) := by decide +kernel
theorem d_Ne_part_5 : decode c_Ne_part 5 = .ok (.invokevirtual 39, 3) := by decide +kernel
theorem d_Ne_part_8 : decode c_Ne_part 8 = .ok (.iconst (-1), 1) := by decide +kernel
theorem d_Ne_part_9 : decode c_Ne_part 9 = .ok (.invokevirtual 47, 3) := by decide +kernel
theorem d_Ne_part_12 : decode c_Ne_part 12 = .ok (.aload_n 0, 1) := by decide +kernel
theorem d_Ne_part_13 : decode c_Ne_part 13 = .ok (.iload_n 2, 1) := by decide +kernel
theorem d_Ne_part_14 : decode c_Ne_part 14 = .ok (.aload_n 0, 1) := by decide +kernel
theorem d_Ne_part_15 : decode c_Ne_part 15 = .ok (.iload_n 2, 1) := by decide +kernel
theorem d_Ne_part_16 : decode c_Ne_part 16 = .ok (.iload_n 1, 1) := by decide +kernel
theorem d_Ne_part_17 : decode c_Ne_part 17 = .ok (.invokevirtual 39, 3) := by decide +kernel
theorem d_Ne_part_20 : decode c_Ne_part 20 = .ok (.iconst (-1), 1) := by decide +kernel
theorem d_Ne_part_21 : decode c_Ne_part 21 = .ok (.invokevirtual 47, 3) := by decide +kernel
theorem d_Ne_part_24 : decode c_Ne_part 24 = .ok (.return_, 1) := by decide +kernel
theorem d_Ne_behindPort_0 : decode c_Ne_behindPort 0 = .ok (.aload_n 0, 1) := by decide +kernel
theorem d_Ne_behindPort_1 : decode c_Ne_behindPort 1 = .ok (.getfield 11, 3) := by decide +kernel
theorem d_Ne_behindPort_4 : decode c_Ne_behindPort 4 = .ok (.iload_n 1, 1) := by decide +kernel
theorem d_Ne_behindPort_5 : decode c_Ne_behindPort 5 = .ok (.aaload, 1) := by decide +kernel
theorem d_Ne_behindPort_6 : decode c_Ne_behindPort 6 = .ok (.iload_n 2, 1) := by decide +kernel
theorem d_Ne_behindPort_7 : decode c_Ne_behindPort 7 = .ok (.iaload, 1) := by decide +kernel
theorem d_Ne_behindPort_8 : decode c_Ne_behindPort 8 = .ok (.ireturn, 1) := by decide +kernel
theorem d_Ne_spread_0 : decode c_Ne_spread 0 = .ok (.aload_n 2, 1) := by decide +kernel
theorem d_Ne_spread_1 : decode c_Ne_spread 1 = .ok (.iconst (-1), 1) := by decide +kernel
theorem d_Ne_spread_2 : decode c_Ne_spread 2 = .ok (.invokestatic 27, 3) := by decide +kernel
theorem d_Ne_spread_5 : decode c_Ne_spread 5 = .ok (.aload_n 2, 1) := by decide +kernel
theorem d_Ne_spread_6 : decode c_Ne_spread 6 = .ok (.iload_n 1, 1) := by decide +kernel
theorem d_Ne_spread_7 : decode c_Ne_spread 7 = .ok (.iconst 0, 1) := by decide +kernel
theorem d_Ne_spread_8 : decode c_Ne_spread 8 = .ok (.iastore, 1) := by decide +kernel
theorem d_Ne_spread_9 : decode c_Ne_spread 9 = .ok (.lconst 0, 1) := by decide +kernel
theorem d_Ne_spread_10 : decode c_Ne_spread 10 = .ok (.lstore 4, 2) := by decide +kernel
theorem d_Ne_spread_12 : decode c_Ne_spread 12 = .ok (.iconst 0, 1) := by decide +kernel
theorem d_Ne_spread_13 : decode c_Ne_spread 13 = .ok (.istore 6, 2) := by decide +kernel
theorem d_Ne_spread_15 : decode c_Ne_spread 15 = .ok (.iload 6, 2) := by decide +kernel
theorem d_Ne_spread_17 : decode c_Ne_spread 17 = .ok (.aload_n 0, 1) := by decide +kernel
theorem d_Ne_spread_18 : decode c_Ne_spread 18 = .ok (.getfield 23, 3) := by decide +kernel
theorem d_Ne_spread_21 : decode c_Ne_spread 21 = .ok (.if_icmp .ge 49, 3) := by decide +kernel
theorem d_Ne_spread_24 : decode c_Ne_spread 24 = .ok (.aload_n 0, 1) := by decide +kernel
theorem d_Ne_spread_25 : decode c_Ne_spread 25 = .ok (.aload_n 2, 1) := by decide +kernel
theorem d_Ne_spread_26 : decode c_Ne_spread 26 = .ok (.lload 4, 2) := by decide +kernel
theorem d_Ne_spread_28 : decode c_Ne_spread 28 = .ok (.invokevirtual 54, 3) := by decide +kernel
theorem d_Ne_spread_31 : decode c_Ne_spread 31 = .ok (.istore 7, 2) := by decide +kernel
theorem d_Ne_spread_33 : decode c_Ne_spread 33 = .ok (.iload 7, 2) := by decide +kernel
theorem d_Ne_spread_35 : decode c_Ne_spread 35 = .ok (.iconst (-1), 1) := by decide +kernel
theorem d_Ne_spread_36 : decode c_Ne_spread 36 = .ok (.if_icmp .ne 6, 3) := by decide +kernel
theorem d_Ne_spread_39 : decode c_Ne_spread 39 = .ok (.iload 6, 2) := by decide +kernel
theorem d_Ne_spread_41 : decode c_Ne_spread 41 = .ok (.ireturn, 1) := by decide +kernel
theorem d_Ne_spread_42 : decode c_Ne_spread 42 = .ok (.aload_n 3, 1) := by decide +kernel
theorem d_Ne_spread_43 : decode c_Ne_spread 43 = .ok (.iload 6, 2) := by decide +kernel
theorem d_Ne_spread_45 : decode c_Ne_spread 45 = .ok (.iload 7, 2) := by decide +kernel
theorem d_Ne_spread_47 : decode c_Ne_spread 47 = .ok (.iastore, 1) := by decide +kernel
theorem d_Ne_spread_48 : decode c_Ne_spread 48 = .ok (.lload 4, 2) := by decide +kernel
theorem d_Ne_spread_50 : decode c_Ne_spread 50 = .ok (.lconst 1, 1) := by decide +kernel
theorem d_Ne_spread_51 : decode c_Ne_spread 51 = .ok (.iload 7, 2) := by decide +kernel
theorem d_Ne_spread_53 : decode c_Ne_spread 53 = .ok (.lshl, 1) := by decide +kernel
theorem d_Ne_spread_54 : decode c_Ne_spread 54 = .ok (.lor, 1) := by decide +kernel
theorem d_Ne_spread_55 : decode c_Ne_spread 55 = .ok (.lstore 4, 2) := by decide +kernel
theorem d_Ne_spread_57 : decode c_Ne_spread 57 = .ok (.aload_n 0, 1) := by decide +kernel
theorem d_Ne_spread_58 : decode c_Ne_spread 58 = .ok (.iload 7, 2) := by decide +kernel
theorem d_Ne_spread_60 : decode c_Ne_spread 60 = .ok (.aload_n 2, 1) := by decide +kernel
theorem d_Ne_spread_61 : decode c_Ne_spread 61 = .ok (.invokevirtual 58, 3) := by decide +kernel
theorem d_Ne_spread_64 : decode c_Ne_spread 64 = .ok (.iinc 6 1, 3) := by decide +kernel
theorem d_Ne_spread_67 : decode c_Ne_spread 67 = .ok (.goto (-52), 3) := by decide +kernel
theorem d_Ne_spread_70 : decode c_Ne_spread 70 = .ok (.aload_n 0, 1) := by decide +kernel
theorem d_Ne_spread_71 : decode c_Ne_spread 71 = .ok (.getfield 23, 3) := by decide +kernel
theorem d_Ne_spread_74 : decode c_Ne_spread 74 = .ok (.ireturn, 1) := by decide +kernel
theorem d_Ne_nearestLeft_0 : decode c_Ne_nearestLeft 0 = .ok (.iconst (-1), 1) := by decide +kernel
theorem d_Ne_nearestLeft_1 : decode c_Ne_nearestLeft 1 = .ok (.istore 4, 2) := by decide +kernel
theorem d_Ne_nearestLeft_3 : decode c_Ne_nearestLeft 3 = .ok (.iconst 0, 1) := by decide +kernel
theorem d_Ne_nearestLeft_4 : decode c_Ne_nearestLeft 4 = .ok (.istore 5, 2) := by decide +kernel
theorem d_Ne_nearestLeft_6 : decode c_Ne_nearestLeft 6 = .ok (.iload 5, 2) := by decide +kernel
theorem d_Ne_nearestLeft_8 : decode c_Ne_nearestLeft 8 = .ok (.aload_n 0, 1) := by decide +kernel
theorem d_Ne_nearestLeft_9 : decode c_Ne_nearestLeft 9 = .ok (.getfield 23, 3) := by decide +kernel
theorem d_Ne_nearestLeft_12 : decode c_Ne_nearestLeft 12 = .ok (.if_icmp .ge 61, 3) := by decide +kernel
theorem d_Ne_nearestLeft_15 : decode c_Ne_nearestLeft 15 = .ok (.aload_n 1, 1) := by decide +kernel
theorem d_Ne_nearestLeft_16 : decode c_Ne_nearestLeft 16 = .ok (.iload 5, 2) := by decide +kernel
theorem d_Ne_nearestLeft_18 : decode c_Ne_nearestLeft 18 = .ok (.iaload, 1) := by decide +kernel
theorem d_Ne_nearestLeft_19 : decode c_Ne_nearestLeft 19 = .ok (.iconst (-1), 1) := by decide +kernel
theorem d_Ne_nearestLeft_20 : decode c_Ne_nearestLeft 20 = .ok (.if_icmp .eq 18, 3) := by decide +kernel
theorem d_Ne_nearestLeft_23 : decode c_Ne_nearestLeft 23 = .ok (.lload_n 2, 1) := by decide +kernel
theorem d_Ne_nearestLeft_24 : decode c_Ne_nearestLeft 24 = .ok (.iload 5, 2) := by decide +kernel
theorem d_Ne_nearestLeft_26 : decode c_Ne_nearestLeft 26 = .ok (.lshr, 1) := by decide +kernel
theorem d_Ne_nearestLeft_27 : decode c_Ne_nearestLeft 27 = .ok (.lconst 1, 1) := by decide +kernel
theorem d_Ne_nearestLeft_28 : decode c_Ne_nearestLeft 28 = .ok (.land, 1) := by decide +kernel
theorem d_Ne_nearestLeft_29 : decode c_Ne_nearestLeft 29 = .ok (.lconst 0, 1) := by decide +kernel
theorem d_Ne_nearestLeft_30 : decode c_Ne_nearestLeft 30 = .ok (.lcmp, 1) := by decide +kernel
theorem d_Ne_nearestLeft_31 : decode c_Ne_nearestLeft 31 = .ok (.ifCond .ne 7, 3) := by decide +kernel
theorem d_Ne_nearestLeft_34 : decode c_Ne_nearestLeft 34 = .ok (.iconst 1, 1) := by decide +kernel
theorem d_Ne_nearestLeft_35 : decode c_Ne_nearestLeft 35 = .ok (.goto 4, 3) := by decide +kernel
theorem d_Ne_nearestLeft_38 : decode c_Ne_nearestLeft 38 = .ok (.iconst 0, 1) := by decide +kernel
theorem d_Ne_nearestLeft_39 : decode c_Ne_nearestLeft 39 = .ok (.istore 6, 2) := by decide +kernel
theorem d_Ne_nearestLeft_41 : decode c_Ne_nearestLeft 41 = .ok (.iload 6, 2) := by decide +kernel
theorem d_Ne_nearestLeft_43 : decode c_Ne_nearestLeft 43 = .ok (.ifCond .eq 24, 3) := by decide +kernel
theorem d_Ne_nearestLeft_46 : decode c_Ne_nearestLeft 46 = .ok (.iload 4, 2) := by decide +kernel
theorem d_Ne_nearestLeft_48 : decode c_Ne_nearestLeft 48 = .ok (.iconst (-1), 1) := by decide +kernel
theorem d_Ne_nearestLeft_49 : decode c_Ne_nearestLeft 49 = .ok (.if_icmp .eq 14, 3) := by decide +kernel
theorem d_Ne_nearestLeft_52 : decode c_Ne_nearestLeft 52 = .ok (.aload_n 1, 1) := by decide +kernel
theorem d_Ne_nearestLeft_53 : decode c_Ne_nearestLeft 53 = .ok (.iload 5, 2) := by decide +kernel
theorem d_Ne_nearestLeft_55 : decode c_Ne_nearestLeft 55 = .ok (.iaload, 1) := by decide +kernel
theorem d_Ne_nearestLeft_56 : decode c_Ne_nearestLeft 56 = .ok (.aload_n 1, 1) := by decide +kernel
theorem d_Ne_nearestLeft_57 : decode c_Ne_nearestLeft 57 = .ok (.iload 4, 2) := by decide +kernel
theorem d_Ne_nearestLeft_59 : decode c_Ne_nearestLeft 59 = .ok (.iaload, 1) := by decide +kernel
theorem d_Ne_nearestLeft_60 : decode c_Ne_nearestLeft 60 = .ok (.if_icmp .ge 7, 3) := by decide +kernel
theorem d_Ne_nearestLeft_63 : decode c_Ne_nearestLeft 63 = .ok (.iload 5, 2) := by decide +kernel
theorem d_Ne_nearestLeft_65 : decode c_Ne_nearestLeft 65 = .ok (.istore 4, 2) := by decide +kernel
theorem d_Ne_nearestLeft_67 : decode c_Ne_nearestLeft 67 = .ok (.iinc 5 1, 3) := by decide +kernel
theorem d_Ne_nearestLeft_70 : decode c_Ne_nearestLeft 70 = .ok (.goto (-64), 3) := by decide +kernel
theorem d_Ne_nearestLeft_73 : decode c_Ne_nearestLeft 73 = .ok (.iload 4, 2) := by decide +kernel
theorem d_Ne_nearestLeft_75 : decode c_Ne_nearestLeft 75 = .ok (.ireturn, 1) := by decide +kernel
theorem d_Ne_reachFrom_0 : decode c_Ne_reachFrom 0 = .ok (.iconst 0, 1) := by decide +kernel
theorem d_Ne_reachFrom_1 : decode c_Ne_reachFrom 1 = .ok (.istore_n 3, 1) := by decide +kernel
theorem d_Ne_reachFrom_2 : decode c_Ne_reachFrom 2 = .ok (.iload_n 3, 1) := by decide +kernel
theorem d_Ne_reachFrom_3 : decode c_Ne_reachFrom 3 = .ok (.bipush 16, 2) := by decide +kernel
theorem d_Ne_reachFrom_5 : decode c_Ne_reachFrom 5 = .ok (.if_icmp .ge 62, 3) := by decide +kernel
theorem d_Ne_reachFrom_8 : decode c_Ne_reachFrom 8 = .ok (.aload_n 0, 1) := by decide +kernel
theorem d_Ne_reachFrom_9 : decode c_Ne_reachFrom 9 = .ok (.getfield 11, 3) := by decide +kernel
theorem d_Ne_reachFrom_12 : decode c_Ne_reachFrom 12 = .ok (.iload_n 1, 1) := by decide +kernel
theorem d_Ne_reachFrom_13 : decode c_Ne_reachFrom 13 = .ok (.aaload, 1) := by decide +kernel
theorem d_Ne_reachFrom_14 : decode c_Ne_reachFrom 14 = .ok (.iload_n 3, 1) := by decide +kernel
theorem d_Ne_reachFrom_15 : decode c_Ne_reachFrom 15 = .ok (.iaload, 1) := by decide +kernel
theorem d_Ne_reachFrom_16 : decode c_Ne_reachFrom 16 = .ok (.istore 4, 2) := by decide +kernel
theorem d_Ne_reachFrom_18 : decode c_Ne_reachFrom 18 = .ok (.iload 4, 2) := by decide +kernel
theorem d_Ne_reachFrom_20 : decode c_Ne_reachFrom 20 = .ok (.iconst (-1), 1) := by decide +kernel
theorem d_Ne_reachFrom_21 : decode c_Ne_reachFrom 21 = .ok (.if_icmp .eq 40, 3) := by decide +kernel
theorem d_Ne_reachFrom_24 : decode c_Ne_reachFrom 24 = .ok (.aload_n 2, 1) := by decide +kernel
theorem d_Ne_reachFrom_25 : decode c_Ne_reachFrom 25 = .ok (.iload_n 1, 1) := by decide +kernel
theorem d_Ne_reachFrom_26 : decode c_Ne_reachFrom 26 = .ok (.iaload, 1) := by decide +kernel
theorem d_Ne_reachFrom_27 : decode c_Ne_reachFrom 27 = .ok (.aload_n 0, 1) := by decide +kernel
theorem d_Ne_reachFrom_28 : decode c_Ne_reachFrom 28 = .ok (.getfield 16, 3) := by decide +kernel
theorem d_Ne_reachFrom_31 : decode c_Ne_reachFrom 31 = .ok (.iload_n 1, 1) := by decide +kernel
theorem d_Ne_reachFrom_32 : decode c_Ne_reachFrom 32 = .ok (.aaload, 1) := by decide +kernel
theorem d_Ne_reachFrom_33 : decode c_Ne_reachFrom 33 = .ok (.iload_n 3, 1) := by decide +kernel
theorem d_Ne_reachFrom_34 : decode c_Ne_reachFrom 34 = .ok (.iaload, 1) := by decide +kernel
theorem d_Ne_reachFrom_35 : decode c_Ne_reachFrom 35 = .ok (.iadd, 1) := by decide +kernel
theorem d_Ne_reachFrom_36 : decode c_Ne_reachFrom 36 = .ok (.istore 5, 2) := by decide +kernel
theorem d_Ne_reachFrom_38 : decode c_Ne_reachFrom 38 = .ok (.aload_n 2, 1) := by decide +kernel
theorem d_Ne_reachFrom_39 : decode c_Ne_reachFrom 39 = .ok (.iload 4, 2) := by decide +kernel
theorem d_Ne_reachFrom_41 : decode c_Ne_reachFrom 41 = .ok (.iaload, 1) := by decide +kernel
theorem d_Ne_reachFrom_42 : decode c_Ne_reachFrom 42 = .ok (.iconst (-1), 1) := by decide +kernel
theorem d_Ne_reachFrom_43 : decode c_Ne_reachFrom 43 = .ok (.if_icmp .eq 12, 3) := by decide +kernel
theorem d_Ne_reachFrom_46 : decode c_Ne_reachFrom 46 = .ok (.iload 5, 2) := by decide +kernel
theorem d_Ne_reachFrom_48 : decode c_Ne_reachFrom 48 = .ok (.aload_n 2, 1) := by decide +kernel
theorem d_Ne_reachFrom_49 : decode c_Ne_reachFrom 49 = .ok (.iload 4, 2) := by decide +kernel
theorem d_Ne_reachFrom_51 : decode c_Ne_reachFrom 51 = .ok (.iaload, 1) := by decide +kernel
theorem d_Ne_reachFrom_52 : decode c_Ne_reachFrom 52 = .ok (.if_icmp .ge 9, 3) := by decide +kernel
theorem d_Ne_reachFrom_55 : decode c_Ne_reachFrom 55 = .ok (.aload_n 2, 1) := by decide +kernel
theorem d_Ne_reachFrom_56 : decode c_Ne_reachFrom 56 = .ok (.iload 4, 2) := by decide +kernel
theorem d_Ne_reachFrom_58 : decode c_Ne_reachFrom 58 = .ok (.iload 5, 2) := by decide +kernel
theorem d_Ne_reachFrom_60 : decode c_Ne_reachFrom 60 = .ok (.iastore, 1) := by decide +kernel
theorem d_Ne_reachFrom_61 : decode c_Ne_reachFrom 61 = .ok (.iinc 3 1, 3) := by decide +kernel
theorem d_Ne_reachFrom_64 : decode c_Ne_reachFrom 64 = .ok (.goto (-62), 3) := by decide +kernel
theorem d_Ne_reachFrom_67 : decode c_Ne_reachFrom 67 = .ok (.return_, 1) := by decide +kernel
theorem d_Ne_copyFrom_0 : decode c_Ne_copyFrom 0 = .ok (.aload_n 0, 1) := by decide +kernel
theorem d_Ne_copyFrom_1 : decode c_Ne_copyFrom 1 = .ok (.aload_n 1, 1) := by decide +kernel
theorem d_Ne_copyFrom_2 : decode c_Ne_copyFrom 2 = .ok (.getfield 23, 3) := by decide +kernel
theorem d_Ne_copyFrom_5 : decode c_Ne_copyFrom 5 = .ok (.putfield 23, 3) := by decide +kernel
theorem d_Ne_copyFrom_8 : decode c_Ne_copyFrom 8 = .ok (.iconst 0, 1) := by decide +kernel
theorem d_Ne_copyFrom_9 : decode c_Ne_copyFrom 9 = .ok (.istore_n 2, 1) := by decide +kernel
theorem d_Ne_copyFrom_10 : decode c_Ne_copyFrom 10 = .ok (.iload_n 2, 1) := by decide +kernel
theorem d_Ne_copyFrom_11 : decode c_Ne_copyFrom 11 = .ok (.bipush 40, 2) := by decide +kernel
theorem d_Ne_copyFrom_13 : decode c_Ne_copyFrom 13 = .ok (.if_icmp .ge 47, 3) := by decide +kernel
theorem d_Ne_copyFrom_16 : decode c_Ne_copyFrom 16 = .ok (.aload_n 1, 1) := by decide +kernel
theorem d_Ne_copyFrom_17 : decode c_Ne_copyFrom 17 = .ok (.getfield 11, 3) := by decide +kernel
theorem d_Ne_copyFrom_20 : decode c_Ne_copyFrom 20 = .ok (.iload_n 2, 1) := by decide +kernel
theorem d_Ne_copyFrom_21 : decode c_Ne_copyFrom 21 = .ok (.aaload, 1) := by decide +kernel
theorem d_Ne_copyFrom_22 : decode c_Ne_copyFrom 22 = .ok (.iconst 0, 1) := by decide +kernel
theorem d_Ne_copyFrom_23 : decode c_Ne_copyFrom 23 = .ok (.aload_n 0, 1) := by decide +kernel
theorem d_Ne_copyFrom_24 : decode c_Ne_copyFrom 24 = .ok (.getfield 11, 3) := by decide +kernel
theorem d_Ne_copyFrom_27 : decode c_Ne_copyFrom 27 = .ok (.iload_n 2, 1) := by decide +kernel
theorem d_Ne_copyFrom_28 : decode c_Ne_copyFrom 28 = .ok (.aaload, 1) := by decide +kernel
theorem d_Ne_copyFrom_29 : decode c_Ne_copyFrom 29 = .ok (.iconst 0, 1) := by decide +kernel
theorem d_Ne_copyFrom_30 : decode c_Ne_copyFrom 30 = .ok (.bipush 16, 2) := by decide +kernel
theorem d_Ne_copyFrom_32 : decode c_Ne_copyFrom 32 = .ok (.invokestatic 33, 3) := by decide +kernel
theorem d_Ne_copyFrom_35 : decode c_Ne_copyFrom 35 = .ok (.aload_n 1, 1) := by decide +kernel
theorem d_Ne_copyFrom_36 : decode c_Ne_copyFrom 36 = .ok (.getfield 16, 3) := by decide +kernel
theorem d_Ne_copyFrom_39 : decode c_Ne_copyFrom 39 = .ok (.iload_n 2, 1) := by decide +kernel
theorem d_Ne_copyFrom_40 : decode c_Ne_copyFrom 40 = .ok (.aaload, 1) := by decide +kernel
theorem d_Ne_copyFrom_41 : decode c_Ne_copyFrom 41 = .ok (.iconst 0, 1) := by decide +kernel
theorem d_Ne_copyFrom_42 : decode c_Ne_copyFrom 42 = .ok (.aload_n 0, 1) := by decide +kernel
theorem d_Ne_copyFrom_43 : decode c_Ne_copyFrom 43 = .ok (.getfield 16, 3) := by decide +kernel
theorem d_Ne_copyFrom_46 : decode c_Ne_copyFrom 46 = .ok (.iload_n 2, 1) := by decide +kernel
theorem d_Ne_copyFrom_47 : decode c_Ne_copyFrom 47 = .ok (.aaload, 1) := by decide +kernel
theorem d_Ne_copyFrom_48 : decode c_Ne_copyFrom 48 = .ok (.iconst 0, 1) := by decide +kernel
theorem d_Ne_copyFrom_49 : decode c_Ne_copyFrom 49 = .ok (.bipush 16, 2) := by decide +kernel
theorem d_Ne_copyFrom_51 : decode c_Ne_copyFrom 51 = .ok (.invokestatic 33, 3) := by decide +kernel
theorem d_Ne_copyFrom_54 : decode c_Ne_copyFrom 54 = .ok (.iinc 2 1, 3) := by decide +kernel
theorem d_Ne_copyFrom_57 : decode c_Ne_copyFrom 57 = .ok (.goto (-47), 3) := by decide +kernel
theorem d_Ne_copyFrom_60 : decode c_Ne_copyFrom 60 = .ok (.return_, 1) := by decide +kernel
theorem d_Wa_measure_0 : decode c_Wa_measure 0 = .ok (.iconst 0, 1) := by decide +kernel
theorem d_Wa_measure_1 : decode c_Wa_measure 1 = .ok (.istore_n 1, 1) := by decide +kernel
theorem d_Wa_measure_2 : decode c_Wa_measure 2 = .ok (.iload_n 1, 1) := by decide +kernel
theorem d_Wa_measure_3 : decode c_Wa_measure 3 = .ok (.aload_n 0, 1) := by decide +kernel
theorem d_Wa_measure_4 : decode c_Wa_measure 4 = .ok (.getfield 19, 3) := by decide +kernel
theorem d_Wa_measure_7 : decode c_Wa_measure 7 = .ok (.invokevirtual 23, 3) := by decide +kernel
theorem d_Wa_measure_10 : decode c_Wa_measure 10 = .ok (.if_icmp .ge 30, 3) := by decide +kernel
theorem d_Wa_measure_13 : decode c_Wa_measure 13 = .ok (.aload_n 0, 1) := by decide +kernel
theorem d_Wa_measure_14 : decode c_Wa_measure 14 = .ok (.getfield 19, 3) := by decide +kernel
theorem d_Wa_measure_17 : decode c_Wa_measure 17 = .ok (.iload_n 1, 1) := by decide +kernel
theorem d_Wa_measure_18 : decode c_Wa_measure 18 = .ok (.aload_n 0, 1) := by decide +kernel
theorem d_Wa_measure_19 : decode c_Wa_measure 19 = .ok (.getfield 11, 3) := by decide +kernel
theorem d_Wa_measure_22 : decode c_Wa_measure 22 = .ok (.iload_n 1, 1) := by decide +kernel
theorem d_Wa_measure_23 : decode c_Wa_measure 23 = .ok (.aaload, 1) := by decide +kernel
theorem d_Wa_measure_24 : decode c_Wa_measure 24 = .ok (.aload_n 0, 1) := by decide +kernel
theorem d_Wa_measure_25 : decode c_Wa_measure 25 = .ok (.getfield 16, 3) := by decide +kernel
theorem d_Wa_measure_28 : decode c_Wa_measure 28 = .ok (.iload_n 1, 1) := by decide +kernel
theorem d_Wa_measure_29 : decode c_Wa_measure 29 = .ok (.aaload, 1) := by decide +kernel
theorem d_Wa_measure_30 : decode c_Wa_measure 30 = .ok (.invokevirtual 29, 3) := by decide +kernel
theorem d_Wa_measure_33 : decode c_Wa_measure 33 = .ok (.pop, 1) := by decide +kernel
theorem d_Wa_measure_34 : decode c_Wa_measure 34 = .ok (.iinc 1 1, 3) := by decide +kernel
theorem d_Wa_measure_37 : decode c_Wa_measure 37 = .ok (.goto (-35), 3) := by decide +kernel
theorem d_Wa_measure_40 : decode c_Wa_measure 40 = .ok (.return_, 1) := by decide +kernel
theorem d_Wa_nearest_0 : decode c_Wa_nearest 0 = .ok (.aload_n 0, 1) := by decide +kernel
theorem d_Wa_nearest_1 : decode c_Wa_nearest 1 = .ok (.getfield 16, 3) := by decide +kernel
theorem d_Wa_nearest_4 : decode c_Wa_nearest 4 = .ok (.iload_n 1, 1) := by decide +kernel
theorem d_Wa_nearest_5 : decode c_Wa_nearest 5 = .ok (.aaload, 1) := by decide +kernel
theorem d_Wa_nearest_6 : decode c_Wa_nearest 6 = .ok (.iload_n 2, 1) := by decide +kernel
theorem d_Wa_nearest_7 : decode c_Wa_nearest 7 = .ok (.iaload, 1) := by decide +kernel
theorem d_Wa_nearest_8 : decode c_Wa_nearest 8 = .ok (.ireturn, 1) := by decide +kernel
theorem d_Lo_bitCount_0 : decode c_Lo_bitCount 0 = .ok (.lload_n 0, 1) := by decide +kernel
theorem d_Lo_bitCount_1 : decode c_Lo_bitCount 1 = .ok (.lload_n 0, 1) := by decide +kernel
theorem d_Lo_bitCount_2 : decode c_Lo_bitCount 2 = .ok (.iconst 1, 1) := by decide +kernel
theorem d_Lo_bitCount_3 : decode c_Lo_bitCount 3 = .ok (.lushr, 1) := by decide +kernel
theorem d_Lo_bitCount_4 : decode c_Lo_bitCount 4 = .ok (.ldc2_w 314, 3) := by decide +kernel
theorem d_Lo_bitCount_7 : decode c_Lo_bitCount 7 = .ok (.land, 1) := by decide +kernel
theorem d_Lo_bitCount_8 : decode c_Lo_bitCount 8 = .ok (.lsub, 1) := by decide +kernel
theorem d_Lo_bitCount_9 : decode c_Lo_bitCount 9 = .ok (.lstore_n 0, 1) := by decide +kernel
theorem d_Lo_bitCount_10 : decode c_Lo_bitCount 10 = .ok (.lload_n 0, 1) := by decide +kernel
theorem d_Lo_bitCount_11 : decode c_Lo_bitCount 11 = .ok (.ldc2_w 316, 3) := by decide +kernel
theorem d_Lo_bitCount_14 : decode c_Lo_bitCount 14 = .ok (.land, 1) := by decide +kernel
theorem d_Lo_bitCount_15 : decode c_Lo_bitCount 15 = .ok (.lload_n 0, 1) := by decide +kernel
theorem d_Lo_bitCount_16 : decode c_Lo_bitCount 16 = .ok (.iconst 2, 1) := by decide +kernel
theorem d_Lo_bitCount_17 : decode c_Lo_bitCount 17 = .ok (.lushr, 1) := by decide +kernel
theorem d_Lo_bitCount_18 : decode c_Lo_bitCount 18 = .ok (.ldc2_w 316, 3) := by decide +kernel
theorem d_Lo_bitCount_21 : decode c_Lo_bitCount 21 = .ok (.land, 1) := by decide +kernel
theorem d_Lo_bitCount_22 : decode c_Lo_bitCount 22 = .ok (.ladd, 1) := by decide +kernel
theorem d_Lo_bitCount_23 : decode c_Lo_bitCount 23 = .ok (.lstore_n 0, 1) := by decide +kernel
theorem d_Lo_bitCount_24 : decode c_Lo_bitCount 24 = .ok (.lload_n 0, 1) := by decide +kernel
theorem d_Lo_bitCount_25 : decode c_Lo_bitCount 25 = .ok (.lload_n 0, 1) := by decide +kernel
theorem d_Lo_bitCount_26 : decode c_Lo_bitCount 26 = .ok (.iconst 4, 1) := by decide +kernel
theorem d_Lo_bitCount_27 : decode c_Lo_bitCount 27 = .ok (.lushr, 1) := by decide +kernel
theorem d_Lo_bitCount_28 : decode c_Lo_bitCount 28 = .ok (.ladd, 1) := by decide +kernel
theorem d_Lo_bitCount_29 : decode c_Lo_bitCount 29 = .ok (.ldc2_w 318, 3) := by decide +kernel
theorem d_Lo_bitCount_32 : decode c_Lo_bitCount 32 = .ok (.land, 1) := by decide +kernel
theorem d_Lo_bitCount_33 : decode c_Lo_bitCount 33 = .ok (.lstore_n 0, 1) := by decide +kernel
theorem d_Lo_bitCount_34 : decode c_Lo_bitCount 34 = .ok (.lload_n 0, 1) := by decide +kernel
theorem d_Lo_bitCount_35 : decode c_Lo_bitCount 35 = .ok (.lload_n 0, 1) := by decide +kernel
theorem d_Lo_bitCount_36 : decode c_Lo_bitCount 36 = .ok (.bipush 8, 2) := by decide +kernel
theorem d_Lo_bitCount_38 : decode c_Lo_bitCount 38 = .ok (.lushr, 1) := by decide +kernel
theorem d_Lo_bitCount_39 : decode c_Lo_bitCount 39 = .ok (.ladd, 1) := by decide +kernel
theorem d_Lo_bitCount_40 : decode c_Lo_bitCount 40 = .ok (.lstore_n 0, 1) := by decide +kernel
theorem d_Lo_bitCount_41 : decode c_Lo_bitCount 41 = .ok (.lload_n 0, 1) := by decide +kernel
theorem d_Lo_bitCount_42 : decode c_Lo_bitCount 42 = .ok (.lload_n 0, 1) := by decide +kernel
theorem d_Lo_bitCount_43 : decode c_Lo_bitCount 43 = .ok (.bipush 16, 2) := by decide +kernel
theorem d_Lo_bitCount_45 : decode c_Lo_bitCount 45 = .ok (.lushr, 1) := by decide +kernel
theorem d_Lo_bitCount_46 : decode c_Lo_bitCount 46 = .ok (.ladd, 1) := by decide +kernel
theorem d_Lo_bitCount_47 : decode c_Lo_bitCount 47 = .ok (.lstore_n 0, 1) := by decide +kernel
theorem d_Lo_bitCount_48 : decode c_Lo_bitCount 48 = .ok (.lload_n 0, 1) := by decide +kernel
theorem d_Lo_bitCount_49 : decode c_Lo_bitCount 49 = .ok (.lload_n 0, 1) := by decide +kernel
theorem d_Lo_bitCount_50 : decode c_Lo_bitCount 50 = .ok (.bipush 32, 2) := by decide +kernel
theorem d_Lo_bitCount_52 : decode c_Lo_bitCount 52 = .ok (.lushr, 1) := by decide +kernel
theorem d_Lo_bitCount_53 : decode c_Lo_bitCount 53 = .ok (.ladd, 1) := by decide +kernel
theorem d_Lo_bitCount_54 : decode c_Lo_bitCount 54 = .ok (.lstore_n 0, 1) := by decide +kernel
theorem d_Lo_bitCount_55 : decode c_Lo_bitCount 55 = .ok (.lload_n 0, 1) := by decide +kernel
theorem d_Lo_bitCount_56 : decode c_Lo_bitCount 56 = .ok (.l2i, 1) := by decide +kernel
theorem d_Lo_bitCount_57 : decode c_Lo_bitCount 57 = .ok (.bipush 127, 2) := by decide +kernel
theorem d_Lo_bitCount_59 : decode c_Lo_bitCount 59 = .ok (.iand, 1) := by decide +kernel
theorem d_Lo_bitCount_60 : decode c_Lo_bitCount 60 = .ok (.ireturn, 1) := by decide +kernel
theorem d_Wa_far_0 : decode c_Wa_far 0 = .ok (.aload_n 0, 1) := by decide +kernel
theorem d_Wa_far_1 : decode c_Wa_far 1 = .ok (.getfield 11, 3) := by decide +kernel
theorem d_Wa_far_4 : decode c_Wa_far 4 = .ok (.iload_n 1, 1) := by decide +kernel
theorem d_Wa_far_5 : decode c_Wa_far 5 = .ok (.aaload, 1) := by decide +kernel
theorem d_Wa_far_6 : decode c_Wa_far 6 = .ok (.iload_n 2, 1) := by decide +kernel
theorem d_Wa_far_7 : decode c_Wa_far 7 = .ok (.iaload, 1) := by decide +kernel
theorem d_Wa_far_8 : decode c_Wa_far 8 = .ok (.ireturn, 1) := by decide +kernel
theorem d_Wa_next_0 : decode c_Wa_next 0 = .ok (.iconst (-1), 1) := by decide +kernel
theorem d_Wa_next_1 : decode c_Wa_next 1 = .ok (.istore_n 3, 1) := by decide +kernel
theorem d_Wa_next_2 : decode c_Wa_next 2 = .ok (.iconst 0, 1) := by decide +kernel
theorem d_Wa_next_3 : decode c_Wa_next 3 = .ok (.istore 4, 2) := by decide +kernel
theorem d_Wa_next_5 : decode c_Wa_next 5 = .ok (.iload 4, 2) := by decide +kernel
theorem d_Wa_next_7 : decode c_Wa_next 7 = .ok (.bipush 16, 2) := by decide +kernel
theorem d_Wa_next_9 : decode c_Wa_next 9 = .ok (.if_icmp .ge 72, 3) := by decide +kernel
theorem d_Wa_next_12 : decode c_Wa_next 12 = .ok (.aload_n 0, 1) := by decide +kernel
theorem d_Wa_next_13 : decode c_Wa_next 13 = .ok (.getfield 19, 3) := by decide +kernel
theorem d_Wa_next_16 : decode c_Wa_next 16 = .ok (.iload_n 1, 1) := by decide +kernel
theorem d_Wa_next_17 : decode c_Wa_next 17 = .ok (.iload 4, 2) := by decide +kernel
theorem d_Wa_next_19 : decode c_Wa_next 19 = .ok (.invokevirtual 33, 3) := by decide +kernel
theorem d_Wa_next_22 : decode c_Wa_next 22 = .ok (.istore 5, 2) := by decide +kernel
theorem d_Wa_next_24 : decode c_Wa_next 24 = .ok (.iload 5, 2) := by decide +kernel
theorem d_Wa_next_26 : decode c_Wa_next 26 = .ok (.iconst (-1), 1) := by decide +kernel
theorem d_Wa_next_27 : decode c_Wa_next 27 = .ok (.if_icmp .eq 48, 3) := by decide +kernel
theorem d_Wa_next_30 : decode c_Wa_next 30 = .ok (.iload_n 3, 1) := by decide +kernel
theorem d_Wa_next_31 : decode c_Wa_next 31 = .ok (.iconst (-1), 1) := by decide +kernel
theorem d_Wa_next_32 : decode c_Wa_next 32 = .ok (.if_icmp .eq 9, 3) := by decide +kernel
theorem d_Wa_next_35 : decode c_Wa_next 35 = .ok (.iload 5, 2) := by decide +kernel
theorem d_Wa_next_37 : decode c_Wa_next 37 = .ok (.iload_n 3, 1) := by decide +kernel
theorem d_Wa_next_38 : decode c_Wa_next 38 = .ok (.if_icmp .ge 37, 3) := by decide +kernel
theorem d_Wa_next_41 : decode c_Wa_next 41 = .ok (.aload_n 0, 1) := by decide +kernel
theorem d_Wa_next_42 : decode c_Wa_next 42 = .ok (.getfield 19, 3) := by decide +kernel
theorem d_Wa_next_45 : decode c_Wa_next 45 = .ok (.iload_n 1, 1) := by decide +kernel
theorem d_Wa_next_46 : decode c_Wa_next 46 = .ok (.iload 4, 2) := by decide +kernel
theorem d_Wa_next_48 : decode c_Wa_next 48 = .ok (.invokevirtual 37, 3) := by decide +kernel
theorem d_Wa_next_51 : decode c_Wa_next 51 = .ok (.aload_n 0, 1) := by decide +kernel
theorem d_Wa_next_52 : decode c_Wa_next 52 = .ok (.getfield 11, 3) := by decide +kernel
theorem d_Wa_next_55 : decode c_Wa_next 55 = .ok (.iload 5, 2) := by decide +kernel
theorem d_Wa_next_57 : decode c_Wa_next 57 = .ok (.aaload, 1) := by decide +kernel
theorem d_Wa_next_58 : decode c_Wa_next 58 = .ok (.iload_n 2, 1) := by decide +kernel
theorem d_Wa_next_59 : decode c_Wa_next 59 = .ok (.iaload, 1) := by decide +kernel
theorem d_Wa_next_60 : decode c_Wa_next 60 = .ok (.iadd, 1) := by decide +kernel
theorem d_Wa_next_61 : decode c_Wa_next 61 = .ok (.aload_n 0, 1) := by decide +kernel
theorem d_Wa_next_62 : decode c_Wa_next 62 = .ok (.getfield 11, 3) := by decide +kernel
theorem d_Wa_next_65 : decode c_Wa_next 65 = .ok (.iload_n 1, 1) := by decide +kernel
theorem d_Wa_next_66 : decode c_Wa_next 66 = .ok (.aaload, 1) := by decide +kernel
theorem d_Wa_next_67 : decode c_Wa_next 67 = .ok (.iload_n 2, 1) := by decide +kernel
theorem d_Wa_next_68 : decode c_Wa_next 68 = .ok (.iaload, 1) := by decide +kernel
theorem d_Wa_next_69 : decode c_Wa_next 69 = .ok (.if_icmp .ne 6, 3) := by decide +kernel
theorem d_Wa_next_72 : decode c_Wa_next 72 = .ok (.iload 5, 2) := by decide +kernel
theorem d_Wa_next_74 : decode c_Wa_next 74 = .ok (.istore_n 3, 1) := by decide +kernel
theorem d_Wa_next_75 : decode c_Wa_next 75 = .ok (.iinc 4 1, 3) := by decide +kernel
theorem d_Wa_next_78 : decode c_Wa_next 78 = .ok (.goto (-73), 3) := by decide +kernel
theorem d_Wa_next_81 : decode c_Wa_next 81 = .ok (.iload_n 3, 1) := by decide +kernel
theorem d_Wa_next_82 : decode c_Wa_next 82 = .ok (.ireturn, 1) := by decide +kernel
theorem d_Ne_portWeight_0 : decode c_Ne_portWeight 0 = .ok (.aload_n 0, 1) := by decide +kernel
theorem d_Ne_portWeight_1 : decode c_Ne_portWeight 1 = .ok (.getfield 16, 3) := by decide +kernel
theorem d_Ne_portWeight_4 : decode c_Ne_portWeight 4 = .ok (.iload_n 1, 1) := by decide +kernel
theorem d_Ne_portWeight_5 : decode c_Ne_portWeight 5 = .ok (.aaload, 1) := by decide +kernel
theorem d_Ne_portWeight_6 : decode c_Ne_portWeight 6 = .ok (.iload_n 2, 1) := by decide +kernel
theorem d_Ne_portWeight_7 : decode c_Ne_portWeight 7 = .ok (.iaload, 1) := by decide +kernel
theorem d_Ne_portWeight_8 : decode c_Ne_portWeight 8 = .ok (.ireturn, 1) := by decide +kernel
theorem d_Pa_add_0 : decode c_Pa_add 0 = .ok (.aload_n 0, 1) := by decide +kernel
theorem d_Pa_add_1 : decode c_Pa_add 1 = .ok (.getfield 19, 3) := by decide +kernel
theorem d_Pa_add_4 : decode c_Pa_add 4 = .ok (.istore_n 3, 1) := by decide +kernel
theorem d_Pa_add_5 : decode c_Pa_add 5 = .ok (.aload_n 0, 1) := by decide +kernel
theorem d_Pa_add_6 : decode c_Pa_add 6 = .ok (.getfield 9, 3) := by decide +kernel
theorem d_Pa_add_9 : decode c_Pa_add 9 = .ok (.iload_n 3, 1) := by decide +kernel
theorem d_Pa_add_10 : decode c_Pa_add 10 = .ok (.iload_n 1, 1) := by decide +kernel
theorem d_Pa_add_11 : decode c_Pa_add 11 = .ok (.iastore, 1) := by decide +kernel
theorem d_Pa_add_12 : decode c_Pa_add 12 = .ok (.aload_n 0, 1) := by decide +kernel
theorem d_Pa_add_13 : decode c_Pa_add 13 = .ok (.getfield 13, 3) := by decide +kernel
theorem d_Pa_add_16 : decode c_Pa_add 16 = .ok (.iload_n 3, 1) := by decide +kernel
theorem d_Pa_add_17 : decode c_Pa_add 17 = .ok (.iload_n 2, 1) := by decide +kernel
theorem d_Pa_add_18 : decode c_Pa_add 18 = .ok (.iastore, 1) := by decide +kernel
theorem d_Pa_add_19 : decode c_Pa_add 19 = .ok (.aload_n 0, 1) := by decide +kernel
theorem d_Pa_add_20 : decode c_Pa_add 20 = .ok (.getfield 16, 3) := by decide +kernel
theorem d_Pa_add_23 : decode c_Pa_add 23 = .ok (.iload_n 3, 1) := by decide +kernel
theorem d_Pa_add_24 : decode c_Pa_add 24 = .ok (.iconst 0, 1) := by decide +kernel
theorem d_Pa_add_25 : decode c_Pa_add 25 = .ok (.iastore, 1) := by decide +kernel
theorem d_Pa_add_26 : decode c_Pa_add 26 = .ok (.aload_n 0, 1) := by decide +kernel
theorem d_Pa_add_27 : decode c_Pa_add 27 = .ok (.aload_n 0, 1) := by decide +kernel
theorem d_Pa_add_28 : decode c_Pa_add 28 = .ok (.getfield 19, 3) := by decide +kernel
theorem d_Pa_add_31 : decode c_Pa_add 31 = .ok (.iconst 1, 1) := by decide +kernel
theorem d_Pa_add_32 : decode c_Pa_add 32 = .ok (.iadd, 1) := by decide +kernel
theorem d_Pa_add_33 : decode c_Pa_add 33 = .ok (.bipush 16, 2) := by decide +kernel
theorem d_Pa_add_35 : decode c_Pa_add 35 = .ok (.irem, 1) := by decide +kernel
theorem d_Pa_add_36 : decode c_Pa_add 36 = .ok (.putfield 19, 3) := by decide +kernel
theorem d_Pa_add_39 : decode c_Pa_add 39 = .ok (.aload_n 0, 1) := by decide +kernel
theorem d_Pa_add_40 : decode c_Pa_add 40 = .ok (.aload_n 0, 1) := by decide +kernel
theorem d_Pa_add_41 : decode c_Pa_add 41 = .ok (.getfield 23, 3) := by decide +kernel
theorem d_Pa_add_44 : decode c_Pa_add 44 = .ok (.iconst 1, 1) := by decide +kernel
theorem d_Pa_add_45 : decode c_Pa_add 45 = .ok (.iadd, 1) := by decide +kernel
theorem d_Pa_add_46 : decode c_Pa_add 46 = .ok (.bipush 16, 2) := by decide +kernel
theorem d_Pa_add_48 : decode c_Pa_add 48 = .ok (.invokestatic 26, 3) := by decide +kernel
theorem d_Pa_add_51 : decode c_Pa_add 51 = .ok (.putfield 23, 3) := by decide +kernel
theorem d_Pa_add_54 : decode c_Pa_add 54 = .ok (.iload_n 3, 1) := by decide +kernel
theorem d_Pa_add_55 : decode c_Pa_add 55 = .ok (.ireturn, 1) := by decide +kernel
theorem d_Pa_has_0 : decode c_Pa_has 0 = .ok (.iload_n 1, 1) := by decide +kernel
theorem d_Pa_has_1 : decode c_Pa_has 1 = .ok (.ifCond .lt 15, 3) := by decide +kernel
theorem d_Pa_has_4 : decode c_Pa_has 4 = .ok (.iload_n 1, 1) := by decide +kernel
theorem d_Pa_has_5 : decode c_Pa_has 5 = .ok (.aload_n 0, 1) := by decide +kernel
theorem d_Pa_has_6 : decode c_Pa_has 6 = .ok (.getfield 23, 3) := by decide +kernel
theorem d_Pa_has_9 : decode c_Pa_has 9 = .ok (.if_icmp .ge 7, 3) := by decide +kernel
theorem d_Pa_has_12 : decode c_Pa_has 12 = .ok (.iconst 1, 1) := by decide +kernel
theorem d_Pa_has_13 : decode c_Pa_has 13 = .ok (.goto 4, 3) := by decide +kernel
theorem d_Pa_has_16 : decode c_Pa_has 16 = .ok (.iconst 0, 1) := by decide +kernel
theorem d_Pa_has_17 : decode c_Pa_has 17 = .ok (.ireturn, 1) := by decide +kernel
theorem d_Pa_placeOf_0 : decode c_Pa_placeOf 0 = .ok (.aload_n 0, 1) := by decide +kernel
theorem d_Pa_placeOf_1 : decode c_Pa_placeOf 1 = .ok (.getfield 9, 3) := by decide +kernel
theorem d_Pa_placeOf_4 : decode c_Pa_placeOf 4 = .ok (.iload_n 1, 1) := by decide +kernel
theorem d_Pa_placeOf_5 : decode c_Pa_placeOf 5 = .ok (.iaload, 1) := by decide +kernel
theorem d_Pa_placeOf_6 : decode c_Pa_placeOf 6 = .ok (.ireturn, 1) := by decide +kernel
theorem d_Pa_aimOf_0 : decode c_Pa_aimOf 0 = .ok (.aload_n 0, 1) := by decide +kernel
theorem d_Pa_aimOf_1 : decode c_Pa_aimOf 1 = .ok (.getfield 13, 3) := by decide +kernel
theorem d_Pa_aimOf_4 : decode c_Pa_aimOf 4 = .ok (.iload_n 1, 1) := by decide +kernel
theorem d_Pa_aimOf_5 : decode c_Pa_aimOf 5 = .ok (.iaload, 1) := by decide +kernel
theorem d_Pa_aimOf_6 : decode c_Pa_aimOf 6 = .ok (.ireturn, 1) := by decide +kernel
theorem d_Pa_move_0 : decode c_Pa_move 0 = .ok (.aload_n 0, 1) := by decide +kernel
theorem d_Pa_move_1 : decode c_Pa_move 1 = .ok (.getfield 9, 3) := by decide +kernel
theorem d_Pa_move_4 : decode c_Pa_move 4 = .ok (.iload_n 1, 1) := by decide +kernel
theorem d_Pa_move_5 : decode c_Pa_move 5 = .ok (.iload_n 2, 1) := by decide +kernel
theorem d_Pa_move_6 : decode c_Pa_move 6 = .ok (.iastore, 1) := by decide +kernel
theorem d_Pa_move_7 : decode c_Pa_move 7 = .ok (.aload_n 0, 1) := by decide +kernel
theorem d_Pa_move_8 : decode c_Pa_move 8 = .ok (.getfield 16, 3) := by decide +kernel
theorem d_Pa_move_11 : decode c_Pa_move 11 = .ok (.iload_n 1, 1) := by decide +kernel
theorem d_Pa_move_12 : decode c_Pa_move 12 = .ok (.dup2, 1) := by decide +kernel
theorem d_Pa_move_13 : decode c_Pa_move 13 = .ok (.iaload, 1) := by decide +kernel
theorem d_Pa_move_14 : decode c_Pa_move 14 = .ok (.iload_n 3, 1) := by decide +kernel
theorem d_Pa_move_15 : decode c_Pa_move 15 = .ok (.iadd, 1) := by decide +kernel
theorem d_Pa_move_16 : decode c_Pa_move 16 = .ok (.iastore, 1) := by decide +kernel
theorem d_Pa_move_17 : decode c_Pa_move 17 = .ok (.return_, 1) := by decide +kernel
theorem d_Pa_weighed_0 : decode c_Pa_weighed 0 = .ok (.aload_n 0, 1) := by decide +kernel
theorem d_Pa_weighed_1 : decode c_Pa_weighed 1 = .ok (.getfield 16, 3) := by decide +kernel
theorem d_Pa_weighed_4 : decode c_Pa_weighed 4 = .ok (.iload_n 1, 1) := by decide +kernel
theorem d_Pa_weighed_5 : decode c_Pa_weighed 5 = .ok (.iaload, 1) := by decide +kernel
theorem d_Pa_weighed_6 : decode c_Pa_weighed 6 = .ok (.ireturn, 1) := by decide +kernel
