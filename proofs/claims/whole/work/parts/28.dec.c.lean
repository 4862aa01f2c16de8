theorem d_LR_init_0 : decode c_LR_init 0 = .ok (.aload_n 0, 1) := by decide +kernel
theorem d_LR_init_1 : decode c_LR_init 1 = .ok (.invokespecial 1, 3) := by decide +kernel
theorem d_LR_init_4 : decode c_LR_init 4 = .ok (.aload_n 0, 1) := by decide +kernel
theorem d_LR_init_5 : decode c_LR_init 5 = .ok (.new 7, 3) := by decide +kernel
theorem d_LR_init_8 : decode c_LR_init 8 = .ok (.dup, 1) := by decide +kernel
theorem d_LR_init_9 : decode c_LR_init 9 = .ok (.invokespecial 9, 3) := by decide +kernel
theorem d_LR_init_12 : decode c_LR_init 12 = .ok (.putfield 10, 3) := by decide +kernel
theorem d_LR_init_15 : decode c_LR_init 15 = .ok (.aload_n 0, 1) := by decide +kernel
theorem d_LR_init_16 : decode c_LR_init 16 = .ok (.new 16, 3) := by decide +kernel
theorem d_LR_init_19 : decode c_LR_init 19 = .ok (.dup, 1) := by decide +kernel
theorem d_LR_init_20 : decode c_LR_init 20 = .ok (.invokespecial 18, 3) := by decide +kernel
theorem d_LR_init_23 : decode c_LR_init 23 = .ok (.putfield 19, 3) := by decide +kernel
theorem d_LR_init_26 : decode c_LR_init 26 = .ok (.aload_n 0, 1) := by decide +kernel
theorem d_LR_init_27 : decode c_LR_init 27 = .ok (.new 23, 3) := by decide +kernel
theorem d_LR_init_30 : decode c_LR_init 30 = .ok (.dup, 1) := by decide +kernel
theorem d_LR_init_31 : decode c_LR_init 31 = .ok (.invokespecial 25, 3) := by decide +kernel
theorem d_LR_init_34 : decode c_LR_init 34 = .ok (.putfield 26, 3) := by decide +kernel
theorem d_LR_init_37 : decode c_LR_init 37 = .ok (.aload_n 0, 1) := by decide +kernel
theorem d_LR_init_38 : decode c_LR_init 38 = .ok (.bipush 40, 2) := by decide +kernel
theorem d_LR_init_40 : decode c_LR_init 40 = .ok (.newarray .int, 2) := by decide +kernel
theorem d_LR_init_42 : decode c_LR_init 42 = .ok (.putfield 30, 3) := by decide +kernel
theorem d_LR_init_45 : decode c_LR_init 45 = .ok (.aload_n 0, 1) := by decide +kernel
theorem d_LR_init_46 : decode c_LR_init 46 = .ok (.bipush 40, 2) := by decide +kernel
theorem d_LR_init_48 : decode c_LR_init 48 = .ok (.newarray .int, 2) := by decide +kernel
theorem d_LR_init_50 : decode c_LR_init 50 = .ok (.putfield 34, 3) := by decide +kernel
theorem d_LR_init_53 : decode c_LR_init 53 = .ok (.aload_n 0, 1) := by decide +kernel
theorem d_LR_init_54 : decode c_LR_init 54 = .ok (.iconst 0, 1) := by decide +kernel
theorem d_LR_init_55 : decode c_LR_init 55 = .ok (.putfield 37, 3) := by decide +kernel
theorem d_LR_init_58 : decode c_LR_init 58 = .ok (.return_, 1) := by decide +kernel
theorem d_Sc_init_0 : decode c_Sc_init 0 = .ok (.aload_n 0, 1) := by decide +kernel
theorem d_Sc_init_1 : decode c_Sc_init 1 = .ok (.invokespecial 3, 3) := by decide +kernel
theorem d_Sc_init_4 : decode c_Sc_init 4 = .ok (.aload_n 0, 1) := by decide +kernel
theorem d_Sc_init_5 : decode c_Sc_init 5 = .ok (.new 9, 3) := by decide +kernel
theorem d_Sc_init_8 : decode c_Sc_init 8 = .ok (.dup, 1) := by decide +kernel
theorem d_Sc_init_9 : decode c_Sc_init 9 = .ok (.invokespecial 11, 3) := by decide +kernel
theorem d_Sc_init_12 : decode c_Sc_init 12 = .ok (.putfield 12, 3) := by decide +kernel
theorem d_Sc_init_15 : decode c_Sc_init 15 = .ok (.aload_n 0, 1) := by decide +kernel
theorem d_Sc_init_16 : decode c_Sc_init 16 = .ok (.new 18, 3) := by decide +kernel
theorem d_Sc_init_19 : decode c_Sc_init 19 = .ok (.dup, 1) := by decide +kernel
theorem d_Sc_init_20 : decode c_Sc_init 20 = .ok (.aload_n 0, 1) := by decide +kernel
theorem d_Sc_init_21 : decode c_Sc_init 21 = .ok (.getfield 12, 3) := by decide +kernel
theorem d_Sc_init_24 : decode c_Sc_init 24 = .ok (.invokespecial 20, 3) := by decide +kernel
theorem d_Sc_init_27 : decode c_Sc_init 27 = .ok (.putfield 23, 3) := by decide +kernel
theorem d_Sc_init_30 : decode c_Sc_init 30 = .ok (.aload_n 0, 1) := by decide +kernel
theorem d_Sc_init_31 : decode c_Sc_init 31 = .ok (.new 27, 3) := by decide +kernel
theorem d_Sc_init_34 : decode c_Sc_init 34 = .ok (.dup, 1) := by decide +kernel
theorem d_Sc_init_35 : decode c_Sc_init 35 = .ok (.aload_n 0, 1) := by decide +kernel
theorem d_Sc_init_36 : decode c_Sc_init 36 = .ok (.getfield 12, 3) := by decide +kernel
theorem d_Sc_init_39 : decode c_Sc_init 39 = .ok (.aload_n 0, 1) := by decide +kernel
theorem d_Sc_init_40 : decode c_Sc_init 40 = .ok (.getfield 23, 3) := by decide +kernel
theorem d_Sc_init_43 : decode c_Sc_init 43 = .ok (.invokespecial 29, 3) := by decide +kernel
theorem d_Sc_init_46 : decode c_Sc_init 46 = .ok (.putfield 32, 3) := by decide +kernel
theorem d_Sc_init_49 : decode c_Sc_init 49 = .ok (.aload_n 0, 1) := by decide +kernel
theorem d_Sc_init_50 : decode c_Sc_init 50 = .ok (.new 36, 3) := by decide +kernel
theorem d_Sc_init_53 : decode c_Sc_init 53 = .ok (.dup, 1) := by decide +kernel
theorem d_Sc_init_54 : decode c_Sc_init 54 = .ok (.aload_n 0, 1) := by decide +kernel
theorem d_Sc_init_55 : decode c_Sc_init 55 = .ok (.getfield 12, 3) := by decide +kernel
theorem d_Sc_init_58 : decode c_Sc_init 58 = .ok (.aload_n 0, 1) := by decide +kernel
theorem d_Sc_init_59 : decode c_Sc_init 59 = .ok (.getfield 23, 3) := by decide +kernel
theorem d_Sc_init_62 : decode c_Sc_init 62 = .ok (.invokespecial 38, 3) := by decide +kernel
theorem d_Sc_init_65 : decode c_Sc_init 65 = .ok (.putfield 39, 3) := by decide +kernel
theorem d_Sc_init_68 : decode c_Sc_init 68 = .ok (.aload_n 0, 1) := by decide +kernel
theorem d_Sc_init_69 : decode c_Sc_init 69 = .ok (.bipush 40, 2) := by decide +kernel
theorem d_Sc_init_71 : decode c_Sc_init 71 = .ok (.iconst 5, 1) := by decide +kernel
theorem d_Sc_init_72 : decode c_Sc_init 72 = .ok (.multianewarray 43 2, 4) := by decide +kernel
theorem d_Sc_init_76 : decode c_Sc_init 76 = .ok (.putfield 45, 3) := by decide +kernel
theorem d_Sc_init_79 : decode c_Sc_init 79 = .ok (.return_, 1) := by decide +kernel
theorem d_LR_nodes_0 : decode c_LR_nodes 0 = .ok (.iload_n 1, 1) := by decide +kernel
theorem d_LR_nodes_1 : decode c_LR_nodes 1 = .ok (.iconst 1, 1) := by decide +kernel
theorem d_LR_nodes_2 : decode c_LR_nodes 2 = .ok (.if_icmp .lt 9, 3) := by decide +kernel
theorem d_LR_nodes_5 : decode c_LR_nodes 5 = .ok (.iload_n 1, 1) := by decide +kernel
theorem d_LR_nodes_6 : decode c_LR_nodes 6 = .ok (.bipush 40, 2) := by decide +kernel
theorem d_LR_nodes_8 : decode c_LR_nodes 8 = .ok (.if_icmp .le 13, 3) := by decide +kernel
theorem d_LR_nodes_11 : decode c_LR_nodes 11 = .ok (.new 41, 3) := by decide +kernel
theorem d_LR_nodes_14 : decode c_LR_nodes 14 = .ok (.dup, 1) := by decide +kernel
theorem d_LR_nodes_15 : decode c_LR_nodes 15 = .ok (.ldc 43, 2) := by decide +kernel
theorem d_LR_nodes_17 : decode c_LR_nodes 17 = .ok (.invokespecial 45, 3) := by decide +kernel
theorem d_LR_nodes_20 : decode c_LR_nodes 20 = .ok (.athrow, 1) := by decide +kernel
theorem d_LR_nodes_21 : decode c_LR_nodes 21 = .ok (.aload_n 0, 1) := by decide +kernel
theorem d_LR_nodes_22 : decode c_LR_nodes 22 = .ok (.getfield 10, 3) := by decide +kernel
theorem d_LR_nodes_25 : decode c_LR_nodes 25 = .ok (.iload_n 1, 1) := by decide +kernel
theorem d_LR_nodes_26 : decode c_LR_nodes 26 = .ok (.invokevirtual 48, 3) := by decide +kernel
theorem d_LR_nodes_29 : decode c_LR_nodes 29 = .ok (.aload_n 0, 1) := by decide +kernel
theorem d_LR_nodes_30 : decode c_LR_nodes 30 = .ok (.getfield 26, 3) := by decide +kernel
theorem d_LR_nodes_33 : decode c_LR_nodes 33 = .ok (.invokevirtual 52, 3) := by decide +kernel
theorem d_LR_nodes_36 : decode c_LR_nodes 36 = .ok (.aload_n 0, 1) := by decide +kernel
theorem d_LR_nodes_37 : decode c_LR_nodes 37 = .ok (.iconst 0, 1) := by decide +kernel
theorem d_LR_nodes_38 : decode c_LR_nodes 38 = .ok (.putfield 37, 3) := by decide +kernel
theorem d_LR_nodes_41 : decode c_LR_nodes 41 = .ok (.return_, 1) := by decide +kernel
theorem d_LR_edge_0 : decode c_LR_edge 0 = .ok (.aload_n 0, 1) := by decide +kernel
theorem d_LR_edge_1 : decode c_LR_edge 1 = .ok (.iload_n 1, 1) := by decide +kernel
theorem d_LR_edge_2 : decode c_LR_edge 2 = .ok (.invokevirtual 54, 3) := by decide +kernel
theorem d_LR_edge_5 : decode c_LR_edge 5 = .ok (.aload_n 0, 1) := by decide +kernel
theorem d_LR_edge_6 : decode c_LR_edge 6 = .ok (.iload_n 2, 1) := by decide +kernel
theorem d_LR_edge_7 : decode c_LR_edge 7 = .ok (.invokevirtual 54, 3) := by decide +kernel
theorem d_LR_edge_10 : decode c_LR_edge 10 = .ok (.iload_n 1, 1) := by decide +kernel
theorem d_LR_edge_11 : decode c_LR_edge 11 = .ok (.iload_n 2, 1) := by decide +kernel
theorem d_LR_edge_12 : decode c_LR_edge 12 = .ok (.if_icmp .eq 15, 3) := by decide +kernel
theorem d_LR_edge_15 : decode c_LR_edge 15 = .ok (.iload_n 3, 1) := by decide +kernel
theorem d_LR_edge_16 : decode c_LR_edge 16 = .ok (.iconst 1, 1) := by decide +kernel
theorem d_LR_edge_17 : decode c_LR_edge 17 = .ok (.if_icmp .lt 10, 3) := by decide +kernel
theorem d_LR_edge_20 : decode c_LR_edge 20 = .ok (.iload_n 3, 1) := by decide +kernel
theorem d_LR_edge_21 : decode c_LR_edge 21 = .ok (.sipush 1000, 3) := by decide +kernel
theorem d_LR_edge_24 : decode c_LR_edge 24 = .ok (.if_icmp .le 13, 3) := by decide +kernel
theorem d_LR_edge_27 : decode c_LR_edge 27 = .ok (.new 41, 3) := by decide +kernel
theorem d_LR_edge_30 : decode c_LR_edge 30 = .ok (.dup, 1) := by decide +kernel
theorem d_LR_edge_31 : decode c_LR_edge 31 = .ok (.ldc 57, 2) := by decide +kernel
theorem d_LR_edge_33 : decode c_LR_edge 33 = .ok (.invokespecial 45, 3) := by decide +kernel
theorem d_LR_edge_36 : decode c_LR_edge 36 = .ok (.athrow, 1) := by decide +kernel
theorem d_LR_edge_37 : decode c_LR_edge 37 = .ok (.aload_n 0, 1) := by decide +kernel
theorem d_LR_edge_38 : decode c_LR_edge 38 = .ok (.getfield 10, 3) := by decide +kernel
theorem d_LR_edge_41 : decode c_LR_edge 41 = .ok (.iload_n 1, 1) := by decide +kernel
theorem d_LR_edge_42 : decode c_LR_edge 42 = .ok (.iload_n 2, 1) := by decide +kernel
theorem d_LR_edge_43 : decode c_LR_edge 43 = .ok (.invokevirtual 59, 3) := by decide +kernel
theorem d_LR_edge_46 : decode c_LR_edge 46 = .ok (.iconst (-1), 1) := by decide +kernel
theorem d_LR_edge_47 : decode c_LR_edge 47 = .ok (.if_icmp .ne 46, 3) := by decide +kernel
theorem d_LR_edge_50 : decode c_LR_edge 50 = .ok (.aload_n 0, 1) := by decide +kernel
theorem d_LR_edge_51 : decode c_LR_edge 51 = .ok (.getfield 10, 3) := by decide +kernel
theorem d_LR_edge_54 : decode c_LR_edge 54 = .ok (.iload_n 1, 1) := by decide +kernel
theorem d_LR_edge_55 : decode c_LR_edge 55 = .ok (.invokevirtual 63, 3) := by decide +kernel
theorem d_LR_edge_58 : decode c_LR_edge 58 = .ok (.iconst (-1), 1) := by decide +kernel
theorem d_LR_edge_59 : decode c_LR_edge 59 = .ok (.if_icmp .eq 15, 3) := by decide +kernel
theorem d_LR_edge_62 : decode c_LR_edge 62 = .ok (.aload_n 0, 1) := by decide +kernel
theorem d_LR_edge_63 : decode c_LR_edge 63 = .ok (.getfield 10, 3) := by decide +kernel
theorem d_LR_edge_66 : decode c_LR_edge 66 = .ok (.iload_n 2, 1) := by decide +kernel
theorem d_LR_edge_67 : decode c_LR_edge 67 = .ok (.invokevirtual 63, 3) := by decide +kernel
theorem d_LR_edge_70 : decode c_LR_edge 70 = .ok (.iconst (-1), 1) := by decide +kernel
theorem d_LR_edge_71 : decode c_LR_edge 71 = .ok (.if_icmp .ne 13, 3) := by decide +kernel
theorem d_LR_edge_74 : decode c_LR_edge 74 = .ok (.new 67, 3) := by decide +kernel
theorem d_LR_edge_77 : decode c_LR_edge 77 = .ok (.dup, 1) := by decide +kernel
theorem d_LR_edge_78 : decode c_LR_edge 78 = .ok (.ldc 69, 2) := by decide +kernel
theorem d_LR_edge_80 : decode c_LR_edge 80 = .ok (.invokespecial 71, 3) := by decide +kernel
theorem d_LR_edge_83 : decode c_LR_edge 83 = .ok (.athrow, 1) := by decide +kernel
theorem d_LR_edge_84 : decode c_LR_edge 84 = .ok (.aload_n 0, 1) := by decide +kernel
theorem d_LR_edge_85 : decode c_LR_edge 85 = .ok (.getfield 10, 3) := by decide +kernel
theorem d_LR_edge_88 : decode c_LR_edge 88 = .ok (.iload_n 1, 1) := by decide +kernel
theorem d_LR_edge_89 : decode c_LR_edge 89 = .ok (.iload_n 2, 1) := by decide +kernel
theorem d_LR_edge_90 : decode c_LR_edge 90 = .ok (.invokevirtual 72, 3) := by decide +kernel
theorem d_LR_edge_93 : decode c_LR_edge 93 = .ok (.aload_n 0, 1) := by decide +kernel
theorem d_LR_edge_94 : decode c_LR_edge 94 = .ok (.getfield 10, 3) := by decide +kernel
theorem d_LR_edge_97 : decode c_LR_edge 97 = .ok (.iload_n 1, 1) := by decide +kernel
theorem d_LR_edge_98 : decode c_LR_edge 98 = .ok (.iload_n 2, 1) := by decide +kernel
theorem d_LR_edge_99 : decode c_LR_edge 99 = .ok (.iload_n 3, 1) := by decide +kernel
theorem d_LR_edge_100 : decode c_LR_edge 100 = .ok (.invokevirtual 76, 3) := by decide +kernel
theorem d_LR_edge_103 : decode c_LR_edge 103 = .ok (.aload_n 0, 1) := by decide +kernel
theorem d_LR_edge_104 : decode c_LR_edge 104 = .ok (.getfield 10, 3) := by decide +kernel
theorem d_LR_edge_107 : decode c_LR_edge 107 = .ok (.iload_n 1, 1) := by decide +kernel
theorem d_LR_edge_108 : decode c_LR_edge 108 = .ok (.iload_n 2, 1) := by decide +kernel
theorem d_LR_edge_109 : decode c_LR_edge 109 = .ok (.invokevirtual 59, 3) := by decide +kernel
theorem d_LR_edge_112 : decode c_LR_edge 112 = .ok (.ireturn, 1) := by decide +kernel
theorem d_LR_needNode_0 : decode c_LR_needNode 0 = .ok (.aload_n 0, 1) := by decide +kernel
theorem d_LR_needNode_1 : decode c_LR_needNode 1 = .ok (.iload_n 1, 1) := by decide +kernel
theorem d_LR_needNode_2 : decode c_LR_needNode 2 = .ok (.aload_n 0, 1) := by decide +kernel
theorem d_LR_needNode_3 : decode c_LR_needNode 3 = .ok (.getfield 10, 3) := by decide +kernel
theorem d_LR_needNode_6 : decode c_LR_needNode 6 = .ok (.invokevirtual 100, 3) := by decide +kernel
theorem d_LR_needNode_9 : decode c_LR_needNode 9 = .ok (.invokevirtual 88, 3) := by decide +kernel
theorem d_LR_needNode_12 : decode c_LR_needNode 12 = .ok (.return_, 1) := by decide +kernel
theorem d_LR_needBelow_0 : decode c_LR_needBelow 0 = .ok (.iload_n 1, 1) := by decide +kernel
theorem d_LR_needBelow_1 : decode c_LR_needBelow 1 = .ok (.ifCond .lt 8, 3) := by decide +kernel
theorem d_LR_needBelow_4 : decode c_LR_needBelow 4 = .ok (.iload_n 1, 1) := by decide +kernel
theorem d_LR_needBelow_5 : decode c_LR_needBelow 5 = .ok (.iload_n 2, 1) := by decide +kernel
theorem d_LR_needBelow_6 : decode c_LR_needBelow 6 = .ok (.if_icmp .lt 13, 3) := by decide +kernel
theorem d_LR_needBelow_9 : decode c_LR_needBelow 9 = .ok (.new 198, 3) := by decide +kernel
theorem d_LR_needBelow_12 : decode c_LR_needBelow 12 = .ok (.dup, 1) := by decide +kernel
theorem d_LR_needBelow_13 : decode c_LR_needBelow 13 = .ok (.ldc 200, 2) := by decide +kernel
theorem d_LR_needBelow_15 : decode c_LR_needBelow 15 = .ok (.invokespecial 202, 3) := by decide +kernel
theorem d_LR_needBelow_18 : decode c_LR_needBelow 18 = .ok (.athrow, 1) := by decide +kernel
theorem d_LR_needBelow_19 : decode c_LR_needBelow 19 = .ok (.return_, 1) := by decide +kernel
theorem d_LR_cut_0 : decode c_LR_cut 0 = .ok (.aload_n 0, 1) := by decide +kernel
theorem d_LR_cut_1 : decode c_LR_cut 1 = .ok (.iload_n 1, 1) := by decide +kernel
theorem d_LR_cut_2 : decode c_LR_cut 2 = .ok (.invokevirtual 54, 3) := by decide +kernel
theorem d_LR_cut_5 : decode c_LR_cut 5 = .ok (.aload_n 0, 1) := by decide +kernel
theorem d_LR_cut_6 : decode c_LR_cut 6 = .ok (.iload_n 2, 1) := by decide +kernel
theorem d_LR_cut_7 : decode c_LR_cut 7 = .ok (.invokevirtual 54, 3) := by decide +kernel
theorem d_LR_cut_10 : decode c_LR_cut 10 = .ok (.aload_n 0, 1) := by decide +kernel
theorem d_LR_cut_11 : decode c_LR_cut 11 = .ok (.getfield 10, 3) := by decide +kernel
theorem d_LR_cut_14 : decode c_LR_cut 14 = .ok (.iload_n 1, 1) := by decide +kernel
theorem d_LR_cut_15 : decode c_LR_cut 15 = .ok (.iload_n 2, 1) := by decide +kernel
theorem d_LR_cut_16 : decode c_LR_cut 16 = .ok (.invokevirtual 59, 3) := by decide +kernel
theorem d_LR_cut_19 : decode c_LR_cut 19 = .ok (.iconst (-1), 1) := by decide +kernel
theorem d_LR_cut_20 : decode c_LR_cut 20 = .ok (.if_icmp .ne 13, 3) := by decide +kernel
theorem d_LR_cut_23 : decode c_LR_cut 23 = .ok (.new 41, 3) := by decide +kernel
theorem d_LR_cut_26 : decode c_LR_cut 26 = .ok (.dup, 1) := by decide +kernel
theorem d_LR_cut_27 : decode c_LR_cut 27 = .ok (.ldc 80, 2) := by decide +kernel
theorem d_LR_cut_29 : decode c_LR_cut 29 = .ok (.invokespecial 45, 3) := by decide +kernel
theorem d_LR_cut_32 : decode c_LR_cut 32 = .ok (.athrow, 1) := by decide +kernel
theorem d_LR_cut_33 : decode c_LR_cut 33 = .ok (.aload_n 0, 1) := by decide +kernel
theorem d_LR_cut_34 : decode c_LR_cut 34 = .ok (.getfield 10, 3) := by decide +kernel
theorem d_LR_cut_37 : decode c_LR_cut 37 = .ok (.iload_n 1, 1) := by decide +kernel
theorem d_LR_cut_38 : decode c_LR_cut 38 = .ok (.iload_n 2, 1) := by decide +kernel
theorem d_LR_cut_39 : decode c_LR_cut 39 = .ok (.invokevirtual 82, 3) := by decide +kernel
theorem d_LR_cut_42 : decode c_LR_cut 42 = .ok (.istore_n 3, 1) := by decide +kernel
theorem d_LR_cut_43 : decode c_LR_cut 43 = .ok (.aload_n 0, 1) := by decide +kernel
theorem d_LR_cut_44 : decode c_LR_cut 44 = .ok (.getfield 10, 3) := by decide +kernel
theorem d_LR_cut_47 : decode c_LR_cut 47 = .ok (.iload_n 1, 1) := by decide +kernel
theorem d_LR_cut_48 : decode c_LR_cut 48 = .ok (.iload_n 2, 1) := by decide +kernel
theorem d_LR_cut_49 : decode c_LR_cut 49 = .ok (.invokevirtual 85, 3) := by decide +kernel
theorem d_LR_cut_52 : decode c_LR_cut 52 = .ok (.iload_n 3, 1) := by decide +kernel
theorem d_LR_cut_53 : decode c_LR_cut 53 = .ok (.ireturn, 1) := by decide +kernel
theorem d_LR_port_0 : decode c_LR_port 0 = .ok (.aload_n 0, 1) := by decide +kernel
theorem d_LR_port_1 : decode c_LR_port 1 = .ok (.iload_n 1, 1) := by decide +kernel
theorem d_LR_port_2 : decode c_LR_port 2 = .ok (.invokevirtual 54, 3) := by decide +kernel
theorem d_LR_port_5 : decode c_LR_port 5 = .ok (.aload_n 0, 1) := by decide +kernel
theorem d_LR_port_6 : decode c_LR_port 6 = .ok (.iload_n 2, 1) := by decide +kernel
theorem d_LR_port_7 : decode c_LR_port 7 = .ok (.bipush 16, 2) := by decide +kernel
theorem d_LR_port_9 : decode c_LR_port 9 = .ok (.invokevirtual 88, 3) := by decide +kernel
theorem d_LR_port_12 : decode c_LR_port 12 = .ok (.aload_n 0, 1) := by decide +kernel
theorem d_LR_port_13 : decode c_LR_port 13 = .ok (.getfield 10, 3) := by decide +kernel
theorem d_LR_port_16 : decode c_LR_port 16 = .ok (.iload_n 1, 1) := by decide +kernel
theorem d_LR_port_17 : decode c_LR_port 17 = .ok (.iload_n 2, 1) := by decide +kernel
theorem d_LR_port_18 : decode c_LR_port 18 = .ok (.invokevirtual 91, 3) := by decide +kernel
theorem d_LR_port_21 : decode c_LR_port 21 = .ok (.ireturn, 1) := by decide +kernel
theorem d_LR_build_0 : decode c_LR_build 0 = .ok (.iload_n 1, 1) := by decide +kernel
theorem d_LR_build_1 : decode c_LR_build 1 = .ok (.iconst 1, 1) := by decide +kernel
theorem d_LR_build_2 : decode c_LR_build 2 = .ok (.if_icmp .lt 9, 3) := by decide +kernel
theorem d_LR_build_5 : decode c_LR_build 5 = .ok (.iload_n 1, 1) := by decide +kernel
theorem d_LR_build_6 : decode c_LR_build 6 = .ok (.bipush 40, 2) := by decide +kernel
theorem d_LR_build_8 : decode c_LR_build 8 = .ok (.if_icmp .le 13, 3) := by decide +kernel
theorem d_LR_build_11 : decode c_LR_build 11 = .ok (.new 41, 3) := by decide +kernel
theorem d_LR_build_14 : decode c_LR_build 14 = .ok (.dup, 1) := by decide +kernel
theorem d_LR_build_15 : decode c_LR_build 15 = .ok (.ldc 94, 2) := by decide +kernel
theorem d_LR_build_17 : decode c_LR_build 17 = .ok (.invokespecial 45, 3) := by decide +kernel
theorem d_LR_build_20 : decode c_LR_build 20 = .ok (.athrow, 1) := by decide +kernel
theorem d_LR_build_21 : decode c_LR_build 21 = .ok (.aload_n 0, 1) := by decide +kernel
theorem d_LR_build_22 : decode c_LR_build 22 = .ok (.getfield 10, 3) := by decide +kernel
theorem d_LR_build_25 : decode c_LR_build 25 = .ok (.iconst 0, 1) := by decide +kernel
theorem d_LR_build_26 : decode c_LR_build 26 = .ok (.aload_n 0, 1) := by decide +kernel
theorem d_LR_build_27 : decode c_LR_build 27 = .ok (.getfield 30, 3) := by decide +kernel
theorem d_LR_build_30 : decode c_LR_build 30 = .ok (.aload_n 0, 1) := by decide +kernel
theorem d_LR_build_31 : decode c_LR_build 31 = .ok (.getfield 34, 3) := by decide +kernel
theorem d_LR_build_34 : decode c_LR_build 34 = .ok (.invokevirtual 96, 3) := by decide +kernel
theorem d_LR_build_37 : decode c_LR_build 37 = .ok (.aload_n 0, 1) := by decide +kernel
theorem d_LR_build_38 : decode c_LR_build 38 = .ok (.getfield 10, 3) := by decide +kernel
theorem d_LR_build_41 : decode c_LR_build 41 = .ok (.invokevirtual 100, 3) := by decide +kernel
theorem d_LR_build_44 : decode c_LR_build 44 = .ok (.if_icmp .ge 13, 3) := by decide +kernel
theorem d_LR_build_47 : decode c_LR_build 47 = .ok (.new 67, 3) := by decide +kernel
theorem d_LR_build_50 : decode c_LR_build 50 = .ok (.dup, 1) := by decide +kernel
theorem d_LR_build_51 : decode c_LR_build 51 = .ok (.ldc 104, 2) := by decide +kernel
theorem d_LR_build_53 : decode c_LR_build 53 = .ok (.invokespecial 71, 3) := by decide +kernel
theorem d_LR_build_56 : decode c_LR_build 56 = .ok (.athrow, 1) := by decide +kernel
theorem d_LR_build_57 : decode c_LR_build 57 = .ok (.aload_n 0, 1) := by decide +kernel
theorem d_LR_build_58 : decode c_LR_build 58 = .ok (.getfield 19, 3) := by decide +kernel
theorem d_LR_build_61 : decode c_LR_build 61 = .ok (.aload_n 0, 1) := by decide +kernel
theorem d_LR_build_62 : decode c_LR_build 62 = .ok (.getfield 10, 3) := by decide +kernel
theorem d_LR_build_65 : decode c_LR_build 65 = .ok (.iload_n 1, 1) := by decide +kernel
theorem d_LR_build_66 : decode c_LR_build 66 = .ok (.invokevirtual 106, 3) := by decide +kernel
theorem d_LR_build_69 : decode c_LR_build 69 = .ok (.aload_n 0, 1) := by decide +kernel
theorem d_LR_build_70 : decode c_LR_build 70 = .ok (.getfield 26, 3) := by decide +kernel
theorem d_LR_build_73 : decode c_LR_build 73 = .ok (.invokevirtual 52, 3) := by decide +kernel
theorem d_LR_build_76 : decode c_LR_build 76 = .ok (.aload_n 0, 1) := by decide +kernel
theorem d_LR_build_77 : decode c_LR_build 77 = .ok (.iconst 1, 1) := by decide +kernel
theorem d_LR_build_78 : decode c_LR_build 78 = .ok (.putfield 37, 3) := by decide +kernel
theorem d_LR_build_81 : decode c_LR_build 81 = .ok (.aload_n 0, 1) := by decide +kernel
theorem d_LR_build_82 : decode c_LR_build 82 = .ok (.getfield 19, 3) := by decide +kernel
theorem d_LR_build_85 : decode c_LR_build 85 = .ok (.getfield 110, 3) := by decide +kernel
theorem d_LR_build_88 : decode c_LR_build 88 = .ok (.invokevirtual 114, 3) := by decide +kernel
theorem d_LR_build_91 : decode c_LR_build 91 = .ok (.ireturn, 1) := by decide +kernel
theorem d_Sc_rebuild_0 : decode c_Sc_rebuild 0 = .ok (.aload_n 0, 1) := by decide +kernel
theorem d_Sc_rebuild_1 : decode c_Sc_rebuild 1 = .ok (.getfield 12, 3) := by decide +kernel
theorem d_Sc_rebuild_4 : decode c_Sc_rebuild 4 = .ok (.aload_n 1, 1) := by decide +kernel
theorem d_Sc_rebuild_5 : decode c_Sc_rebuild 5 = .ok (.invokevirtual 48, 3) := by decide +kernel
theorem d_Sc_rebuild_8 : decode c_Sc_rebuild 8 = .ok (.aload_n 0, 1) := by decide +kernel
theorem d_Sc_rebuild_9 : decode c_Sc_rebuild 9 = .ok (.getfield 23, 3) := by decide +kernel
theorem d_Sc_rebuild_12 : decode c_Sc_rebuild 12 = .ok (.invokevirtual 51, 3) := by decide +kernel
theorem d_Sc_rebuild_15 : decode c_Sc_rebuild 15 = .ok (.aload_n 0, 1) := by decide +kernel
theorem d_Sc_rebuild_16 : decode c_Sc_rebuild 16 = .ok (.getfield 32, 3) := by decide +kernel
theorem d_Sc_rebuild_19 : decode c_Sc_rebuild 19 = .ok (.iload_n 2, 1) := by decide +kernel
theorem d_Sc_rebuild_20 : decode c_Sc_rebuild 20 = .ok (.invokevirtual 54, 3) := by decide +kernel
theorem d_Sc_rebuild_23 : decode c_Sc_rebuild 23 = .ok (.iconst 0, 1) := by decide +kernel
theorem d_Sc_rebuild_24 : decode c_Sc_rebuild 24 = .ok (.istore_n 3, 1) := by decide +kernel
theorem d_Sc_rebuild_25 : decode c_Sc_rebuild 25 = .ok (.iload_n 3, 1) := by decide +kernel
theorem d_Sc_rebuild_26 : decode c_Sc_rebuild 26 = .ok (.aload_n 0, 1) := by decide +kernel
theorem d_Sc_rebuild_27 : decode c_Sc_rebuild 27 = .ok (.getfield 12, 3) := by decide +kernel
theorem d_Sc_rebuild_30 : decode c_Sc_rebuild 30 = .ok (.invokevirtual 58, 3) := by decide +kernel
theorem d_Sc_rebuild_33 : decode c_Sc_rebuild 33 = .ok (.if_icmp .ge 28, 3) := by decide +kernel
theorem d_Sc_rebuild_36 : decode c_Sc_rebuild 36 = .ok (.aload_n 0, 1) := by decide +kernel
theorem d_Sc_rebuild_37 : decode c_Sc_rebuild 37 = .ok (.getfield 32, 3) := by decide +kernel
theorem d_Sc_rebuild_40 : decode c_Sc_rebuild 40 = .ok (.iload_n 3, 1) := by decide +kernel
theorem d_Sc_rebuild_41 : decode c_Sc_rebuild 41 = .ok (.invokevirtual 62, 3) := by decide +kernel
theorem d_Sc_rebuild_44 : decode c_Sc_rebuild 44 = .ok (.ifCond .eq 11, 3) := by decide +kernel
theorem d_Sc_rebuild_47 : decode c_Sc_rebuild 47 = .ok (.aload_n 0, 1) := by decide +kernel
theorem d_Sc_rebuild_48 : decode c_Sc_rebuild 48 = .ok (.getfield 39, 3) := by decide +kernel
theorem d_Sc_rebuild_51 : decode c_Sc_rebuild 51 = .ok (.iload_n 3, 1) := by decide +kernel
theorem d_Sc_rebuild_52 : decode c_Sc_rebuild 52 = .ok (.invokevirtual 66, 3) := by decide +kernel
theorem d_Sc_rebuild_55 : decode c_Sc_rebuild 55 = .ok (.iinc 3 1, 3) := by decide +kernel
theorem d_Sc_rebuild_58 : decode c_Sc_rebuild 58 = .ok (.goto (-33), 3) := by decide +kernel
theorem d_Sc_rebuild_61 : decode c_Sc_rebuild 61 = .ok (.iconst 0, 1) := by decide +kernel
theorem d_Sc_rebuild_62 : decode c_Sc_rebuild 62 = .ok (.istore_n 3, 1) := by decide +kernel
theorem d_Sc_rebuild_63 : decode c_Sc_rebuild 63 = .ok (.iload_n 3, 1) := by decide +kernel
theorem d_Sc_rebuild_64 : decode c_Sc_rebuild 64 = .ok (.aload_n 0, 1) := by decide +kernel
theorem d_Sc_rebuild_65 : decode c_Sc_rebuild 65 = .ok (.getfield 12, 3) := by decide +kernel
theorem d_Sc_rebuild_68 : decode c_Sc_rebuild 68 = .ok (.invokevirtual 58, 3) := by decide +kernel
theorem d_Sc_rebuild_71 : decode c_Sc_rebuild 71 = .ok (.if_icmp .ge 22, 3) := by decide +kernel
theorem d_Sc_rebuild_74 : decode c_Sc_rebuild 74 = .ok (.aload_n 0, 1) := by decide +kernel
theorem d_Sc_rebuild_75 : decode c_Sc_rebuild 75 = .ok (.iload_n 3, 1) := by decide +kernel
theorem d_Sc_rebuild_76 : decode c_Sc_rebuild 76 = .ok (.aload_n 0, 1) := by decide +kernel
theorem d_Sc_rebuild_77 : decode c_Sc_rebuild 77 = .ok (.getfield 32, 3) := by decide +kernel
theorem d_Sc_rebuild_80 : decode c_Sc_rebuild 80 = .ok (.iload_n 3, 1) := by decide +kernel
theorem d_Sc_rebuild_81 : decode c_Sc_rebuild 81 = .ok (.invokevirtual 69, 3) := by decide +kernel
theorem d_Sc_rebuild_84 : decode c_Sc_rebuild 84 = .ok (.invokevirtual 73, 3) := by decide +kernel
theorem d_Sc_rebuild_87 : decode c_Sc_rebuild 87 = .ok (.iinc 3 1, 3) := by decide +kernel
theorem d_Sc_rebuild_90 : decode c_Sc_rebuild 90 = .ok (.goto (-27), 3) := by decide +kernel
theorem d_Sc_rebuild_93 : decode c_Sc_rebuild 93 = .ok (.return_, 1) := by decide +kernel
theorem d_Sc_writeLabel_0 : decode c_Sc_writeLabel 0 = .ok (.aload_n 0, 1) := by decide +kernel
theorem d_Sc_writeLabel_1 : decode c_Sc_writeLabel 1 = .ok (.getfield 45, 3) := by decide +kernel
theorem d_Sc_writeLabel_4 : decode c_Sc_writeLabel 4 = .ok (.iload_n 1, 1) := by decide +kernel
theorem d_Sc_writeLabel_5 : decode c_Sc_writeLabel 5 = .ok (.aaload, 1) := by decide +kernel
theorem d_Sc_writeLabel_6 : decode c_Sc_writeLabel 6 = .ok (.astore_n 3, 1) := by decide +kernel
theorem d_Sc_writeLabel_7 : decode c_Sc_writeLabel 7 = .ok (.aload_n 3, 1) := by decide +kernel
theorem d_Sc_writeLabel_8 : decode c_Sc_writeLabel 8 = .ok (.iconst 0, 1) := by decide +kernel
theorem d_Sc_writeLabel_9 : decode c_Sc_writeLabel 9 = .ok (.iload_n 1, 1) := by decide +kernel
theorem d_Sc_writeLabel_10 : decode c_Sc_writeLabel 10 = .ok (.iastore, 1) := by decide +kernel
theorem d_Sc_writeLabel_11 : decode c_Sc_writeLabel 11 = .ok (.aload_n 3, 1) := by decide +kernel
theorem d_Sc_writeLabel_12 : decode c_Sc_writeLabel 12 = .ok (.iconst 1, 1) := by decide +kernel
theorem d_Sc_writeLabel_13 : decode c_Sc_writeLabel 13 = .ok (.iload_n 2, 1) := by decide +kernel
theorem d_Sc_writeLabel_14 : decode c_Sc_writeLabel 14 = .ok (.iastore, 1) := by decide +kernel
theorem d_Sc_writeLabel_15 : decode c_Sc_writeLabel 15 = .ok (.aload_n 3, 1) := by decide +kernel
theorem d_Sc_writeLabel_16 : decode c_Sc_writeLabel 16 = .ok (.iconst 2, 1) := by decide +kernel
theorem d_Sc_writeLabel_17 : decode c_Sc_writeLabel 17 = .ok (.aload_n 0, 1) := by decide +kernel
theorem d_Sc_writeLabel_18 : decode c_Sc_writeLabel 18 = .ok (.getfield 39, 3) := by decide +kernel
theorem d_Sc_writeLabel_21 : decode c_Sc_writeLabel 21 = .ok (.iload_n 2, 1) := by decide +kernel
theorem d_Sc_writeLabel_22 : decode c_Sc_writeLabel 22 = .ok (.iload_n 1, 1) := by decide +kernel
theorem d_Sc_writeLabel_23 : decode c_Sc_writeLabel 23 = .ok (.invokevirtual 84, 3) := by decide +kernel
theorem d_Sc_writeLabel_26 : decode c_Sc_writeLabel 26 = .ok (.iastore, 1) := by decide +kernel
theorem d_Sc_writeLabel_27 : decode c_Sc_writeLabel 27 = .ok (.aload_n 3, 1) := by decide +kernel
theorem d_Sc_writeLabel_28 : decode c_Sc_writeLabel 28 = .ok (.iconst 3, 1) := by decide +kernel
theorem d_Sc_writeLabel_29 : decode c_Sc_writeLabel 29 = .ok (.aload_n 0, 1) := by decide +kernel
theorem d_Sc_writeLabel_30 : decode c_Sc_writeLabel 30 = .ok (.getfield 39, 3) := by decide +kernel
theorem d_Sc_writeLabel_33 : decode c_Sc_writeLabel 33 = .ok (.iload_n 2, 1) := by decide +kernel
theorem d_Sc_writeLabel_34 : decode c_Sc_writeLabel 34 = .ok (.iload_n 1, 1) := by decide +kernel
theorem d_Sc_writeLabel_35 : decode c_Sc_writeLabel 35 = .ok (.invokevirtual 87, 3) := by decide +kernel
theorem d_Sc_writeLabel_38 : decode c_Sc_writeLabel 38 = .ok (.iastore, 1) := by decide +kernel
theorem d_Sc_writeLabel_39 : decode c_Sc_writeLabel 39 = .ok (.aload_n 3, 1) := by decide +kernel
theorem d_Sc_writeLabel_40 : decode c_Sc_writeLabel 40 = .ok (.iconst 4, 1) := by decide +kernel
theorem d_Sc_writeLabel_41 : decode c_Sc_writeLabel 41 = .ok (.aload_n 0, 1) := by decide +kernel
theorem d_Sc_writeLabel_42 : decode c_Sc_writeLabel 42 = .ok (.iload_n 1, 1) := by decide +kernel
theorem d_Sc_writeLabel_43 : decode c_Sc_writeLabel 43 = .ok (.iload_n 2, 1) := by decide +kernel
theorem d_Sc_writeLabel_44 : decode c_Sc_writeLabel 44 = .ok (.invokevirtual 90, 3) := by decide +kernel
theorem d_Sc_writeLabel_47 : decode c_Sc_writeLabel 47 = .ok (.iastore, 1) := by decide +kernel
theorem d_Sc_writeLabel_48 : decode c_Sc_writeLabel 48 = .ok (.return_, 1) := by decide +kernel
theorem d_Sc_lightPorts_0 : decode c_Sc_lightPorts 0 = .ok (.iconst 0, 1) := by decide +kernel
theorem d_Sc_lightPorts_1 : decode c_Sc_lightPorts 1 = .ok (.istore_n 3, 1) := by decide +kernel
theorem d_Sc_lightPorts_2 : decode c_Sc_lightPorts 2 = .ok (.iload_n 1, 1) := by decide +kernel
theorem d_Sc_lightPorts_3 : decode c_Sc_lightPorts 3 = .ok (.istore 4, 2) := by decide +kernel
theorem d_Sc_lightPorts_5 : decode c_Sc_lightPorts 5 = .ok (.iconst 0, 1) := by decide +kernel
theorem d_Sc_lightPorts_6 : decode c_Sc_lightPorts 6 = .ok (.istore 5, 2) := by decide +kernel
theorem d_Sc_lightPorts_8 : decode c_Sc_lightPorts 8 = .ok (.iload 5, 2) := by decide +kernel
theorem d_Sc_lightPorts_10 : decode c_Sc_lightPorts 10 = .ok (.aload_n 0, 1) := by decide +kernel
theorem d_Sc_lightPorts_11 : decode c_Sc_lightPorts 11 = .ok (.getfield 12, 3) := by decide +kernel
theorem d_Sc_lightPorts_14 : decode c_Sc_lightPorts 14 = .ok (.invokevirtual 58, 3) := by decide +kernel
theorem d_Sc_lightPorts_17 : decode c_Sc_lightPorts 17 = .ok (.if_icmp .ge 70, 3) := by decide +kernel
theorem d_Sc_lightPorts_20 : decode c_Sc_lightPorts 20 = .ok (.iload 4, 2) := by decide +kernel
theorem d_Sc_lightPorts_22 : decode c_Sc_lightPorts 22 = .ok (.iload_n 2, 1) := by decide +kernel
theorem d_Sc_lightPorts_23 : decode c_Sc_lightPorts 23 = .ok (.if_icmp .eq 64, 3) := by decide +kernel
theorem d_Sc_lightPorts_26 : decode c_Sc_lightPorts 26 = .ok (.aload_n 0, 1) := by decide +kernel
theorem d_Sc_lightPorts_27 : decode c_Sc_lightPorts 27 = .ok (.getfield 39, 3) := by decide +kernel
theorem d_Sc_lightPorts_30 : decode c_Sc_lightPorts 30 = .ok (.iload_n 2, 1) := by decide +kernel
theorem d_Sc_lightPorts_31 : decode c_Sc_lightPorts 31 = .ok (.iload 4, 2) := by decide +kernel
theorem d_Sc_lightPorts_33 : decode c_Sc_lightPorts 33 = .ok (.invokevirtual 93, 3) := by decide +kernel
theorem d_Sc_lightPorts_36 : decode c_Sc_lightPorts 36 = .ok (.istore 6, 2) := by decide +kernel
theorem d_Sc_lightPorts_38 : decode c_Sc_lightPorts 38 = .ok (.iload 6, 2) := by decide +kernel
theorem d_Sc_lightPorts_40 : decode c_Sc_lightPorts 40 = .ok (.iconst (-1), 1) := by decide +kernel
theorem d_Sc_lightPorts_41 : decode c_Sc_lightPorts 41 = .ok (.if_icmp .ne 5, 3) := by decide +kernel
theorem d_Sc_lightPorts_44 : decode c_Sc_lightPorts 44 = .ok (.iload_n 3, 1) := by decide +kernel
theorem d_Sc_lightPorts_45 : decode c_Sc_lightPorts 45 = .ok (.ireturn, 1) := by decide +kernel
theorem d_Sc_lightPorts_46 : decode c_Sc_lightPorts 46 = .ok (.aload_n 0, 1) := by decide +kernel
theorem d_Sc_lightPorts_47 : decode c_Sc_lightPorts 47 = .ok (.getfield 39, 3) := by decide +kernel
theorem d_Sc_lightPorts_50 : decode c_Sc_lightPorts 50 = .ok (.iload_n 2, 1) := by decide +kernel
theorem d_Sc_lightPorts_51 : decode c_Sc_lightPorts 51 = .ok (.iload 6, 2) := by decide +kernel
theorem d_Sc_lightPorts_53 : decode c_Sc_lightPorts 53 = .ok (.invokevirtual 96, 3) := by decide +kernel
theorem d_Sc_lightPorts_56 : decode c_Sc_lightPorts 56 = .ok (.iload 4, 2) := by decide +kernel
theorem d_Sc_lightPorts_58 : decode c_Sc_lightPorts 58 = .ok (.if_icmp .eq 19, 3) := by decide +kernel
theorem d_Sc_lightPorts_61 : decode c_Sc_lightPorts 61 = .ok (.iload_n 3, 1) := by decide +kernel
theorem d_Sc_lightPorts_62 : decode c_Sc_lightPorts 62 = .ok (.iconst 4, 1) := by decide +kernel
theorem d_Sc_lightPorts_63 : decode c_Sc_lightPorts 63 = .ok (.ishl, 1) := by decide +kernel
theorem d_Sc_lightPorts_64 : decode c_Sc_lightPorts 64 = .ok (.aload_n 0, 1) := by decide +kernel
theorem d_Sc_lightPorts_65 : decode c_Sc_lightPorts 65 = .ok (.getfield 12, 3) := by decide +kernel
theorem d_Sc_lightPorts_68 : decode c_Sc_lightPorts 68 = .ok (.iload 6, 2) := by decide +kernel
theorem d_Sc_lightPorts_70 : decode c_Sc_lightPorts 70 = .ok (.iload 4, 2) := by decide +kernel
theorem d_Sc_lightPorts_72 : decode c_Sc_lightPorts 72 = .ok (.invokevirtual 81, 3) := by decide +kernel
theorem d_Sc_lightPorts_75 : decode c_Sc_lightPorts 75 = .ok (.ior, 1) := by decide +kernel
theorem d_Sc_lightPorts_76 : decode c_Sc_lightPorts 76 = .ok (.istore_n 3, 1) := by decide +kernel
theorem d_Sc_lightPorts_77 : decode c_Sc_lightPorts 77 = .ok (.iload 6, 2) := by decide +kernel
theorem d_Sc_lightPorts_79 : decode c_Sc_lightPorts 79 = .ok (.istore 4, 2) := by decide +kernel
theorem d_Sc_lightPorts_81 : decode c_Sc_lightPorts 81 = .ok (.iinc 5 1, 3) := by decide +kernel
theorem d_Sc_lightPorts_84 : decode c_Sc_lightPorts 84 = .ok (.goto (-76), 3) := by decide +kernel
theorem d_Sc_lightPorts_87 : decode c_Sc_lightPorts 87 = .ok (.iload_n 3, 1) := by decide +kernel
theorem d_Sc_lightPorts_88 : decode c_Sc_lightPorts 88 = .ok (.ireturn, 1) := by decide +kernel
theorem d_LR_landmark_0 : decode c_LR_landmark 0 = .ok (.aload_n 0, 1) := by decide +kernel
theorem d_LR_landmark_1 : decode c_LR_landmark 1 = .ok (.invokevirtual 119, 3) := by decide +kernel
theorem d_LR_landmark_4 : decode c_LR_landmark 4 = .ok (.aload_n 0, 1) := by decide +kernel
theorem d_LR_landmark_5 : decode c_LR_landmark 5 = .ok (.iload_n 1, 1) := by decide +kernel
theorem d_LR_landmark_6 : decode c_LR_landmark 6 = .ok (.aload_n 0, 1) := by decide +kernel
theorem d_LR_landmark_7 : decode c_LR_landmark 7 = .ok (.getfield 19, 3) := by decide +kernel
theorem d_LR_landmark_10 : decode c_LR_landmark 10 = .ok (.getfield 110, 3) := by decide +kernel
theorem d_LR_landmark_13 : decode c_LR_landmark 13 = .ok (.invokevirtual 114, 3) := by decide +kernel
theorem d_LR_landmark_16 : decode c_LR_landmark 16 = .ok (.invokevirtual 88, 3) := by decide +kernel
theorem d_LR_landmark_19 : decode c_LR_landmark 19 = .ok (.aload_n 0, 1) := by decide +kernel
theorem d_LR_landmark_20 : decode c_LR_landmark 20 = .ok (.getfield 19, 3) := by decide +kernel
theorem d_LR_landmark_23 : decode c_LR_landmark 23 = .ok (.getfield 110, 3) := by decide +kernel
theorem d_LR_landmark_26 : decode c_LR_landmark 26 = .ok (.iload_n 1, 1) := by decide +kernel
theorem d_LR_landmark_27 : decode c_LR_landmark 27 = .ok (.invokevirtual 122, 3) := by decide +kernel
theorem d_LR_landmark_30 : decode c_LR_landmark 30 = .ok (.ireturn, 1) := by decide +kernel
theorem d_LR_needBuilt_0 : decode c_LR_needBuilt 0 = .ok (.aload_n 0, 1) := by decide +kernel
theorem d_LR_needBuilt_1 : decode c_LR_needBuilt 1 = .ok (.getfield 37, 3) := by decide +kernel
theorem d_LR_needBuilt_4 : decode c_LR_needBuilt 4 = .ok (.ifCond .ne 13, 3) := by decide +kernel
theorem d_LR_needBuilt_7 : decode c_LR_needBuilt 7 = .ok (.new 67, 3) := by decide +kernel
theorem d_LR_needBuilt_10 : decode c_LR_needBuilt 10 = .ok (.dup, 1) := by decide +kernel
theorem d_LR_needBuilt_11 : decode c_LR_needBuilt 11 = .ok (.ldc 203, 2) := by decide +kernel
theorem d_LR_needBuilt_13 : decode c_LR_needBuilt 13 = .ok (.invokespecial 71, 3) := by decide +kernel
theorem d_LR_needBuilt_16 : decode c_LR_needBuilt 16 = .ok (.athrow, 1) := by decide +kernel
theorem d_LR_needBuilt_17 : decode c_LR_needBuilt 17 = .ok (.return_, 1) := by decide +kernel
theorem d_LR_table_0 : decode c_LR_table 0 = .ok (.aload_n 0, 1) := by decide +kernel
theorem d_LR_table_1 : decode c_LR_table 1 = .ok (.invokevirtual 119, 3) := by decide +kernel
theorem d_LR_table_4 : decode c_LR_table 4 = .ok (.aload_n 0, 1) := by decide +kernel
theorem d_LR_table_5 : decode c_LR_table 5 = .ok (.iload_n 1, 1) := by decide +kernel
theorem d_LR_table_6 : decode c_LR_table 6 = .ok (.invokevirtual 54, 3) := by decide +kernel
theorem d_LR_table_9 : decode c_LR_table 9 = .ok (.aload_n 0, 1) := by decide +kernel
theorem d_LR_table_10 : decode c_LR_table 10 = .ok (.iload_n 2, 1) := by decide +kernel
theorem d_LR_table_11 : decode c_LR_table 11 = .ok (.iconst 3, 1) := by decide +kernel
theorem d_LR_table_12 : decode c_LR_table 12 = .ok (.invokevirtual 88, 3) := by decide +kernel
theorem d_LR_table_15 : decode c_LR_table 15 = .ok (.aload_n 0, 1) := by decide +kernel
theorem d_LR_table_16 : decode c_LR_table 16 = .ok (.getfield 19, 3) := by decide +kernel
theorem d_LR_table_19 : decode c_LR_table 19 = .ok (.getfield 110, 3) := by decide +kernel
theorem d_LR_table_22 : decode c_LR_table 22 = .ok (.astore_n 3, 1) := by decide +kernel
theorem d_LR_table_23 : decode c_LR_table 23 = .ok (.iload_n 2, 1) := by decide +kernel
theorem d_LR_table_24 : decode c_LR_table 24 = .ok (.lookupswitch 45 #[(0, 28), (1, 39)], 28) := by decide +kernel
theorem d_LR_table_52 : decode c_LR_table 52 = .ok (.aload_n 3, 1) := by decide +kernel
theorem d_LR_table_53 : decode c_LR_table 53 = .ok (.invokevirtual 114, 3) := by decide +kernel
theorem d_LR_table_56 : decode c_LR_table 56 = .ok (.aload_n 3, 1) := by decide +kernel
theorem d_LR_table_57 : decode c_LR_table 57 = .ok (.iload_n 1, 1) := by decide +kernel
theorem d_LR_table_58 : decode c_LR_table 58 = .ok (.invokevirtual 125, 3) := by decide +kernel
theorem d_LR_table_61 : decode c_LR_table 61 = .ok (.iadd, 1) := by decide +kernel
theorem d_LR_table_62 : decode c_LR_table 62 = .ok (.ireturn, 1) := by decide +kernel
theorem d_LR_table_63 : decode c_LR_table 63 = .ok (.aload_n 3, 1) := by decide +kernel
theorem d_LR_table_64 : decode c_LR_table 64 = .ok (.iload_n 1, 1) := by decide +kernel
theorem d_LR_table_65 : decode c_LR_table 65 = .ok (.invokevirtual 125, 3) := by decide +kernel
theorem d_LR_table_68 : decode c_LR_table 68 = .ok (.ireturn, 1) := by decide +kernel
theorem d_LR_table_69 : decode c_LR_table 69 = .ok (.aload_n 3, 1) := by decide +kernel
theorem d_LR_table_70 : decode c_LR_table 70 = .ok (.iload_n 1, 1) := by decide +kernel
theorem d_LR_table_71 : decode c_LR_table 71 = .ok (.invokevirtual 128, 3) := by decide +kernel
theorem d_LR_table_74 : decode c_LR_table 74 = .ok (.ireturn, 1) := by decide +kernel
theorem d_LR_row_0 : decode c_LR_row 0 = .ok (.aload_n 0, 1) := by decide +kernel
theorem d_LR_row_1 : decode c_LR_row 1 = .ok (.invokevirtual 119, 3) := by decide +kernel
theorem d_LR_row_4 : decode c_LR_row 4 = .ok (.aload_n 0, 1) := by decide +kernel
theorem d_LR_row_5 : decode c_LR_row 5 = .ok (.iload_n 1, 1) := by decide +kernel
theorem d_LR_row_6 : decode c_LR_row 6 = .ok (.invokevirtual 54, 3) := by decide +kernel
theorem d_LR_row_9 : decode c_LR_row 9 = .ok (.aload_n 0, 1) := by decide +kernel
theorem d_LR_row_10 : decode c_LR_row 10 = .ok (.iload_n 2, 1) := by decide +kernel
theorem d_LR_row_11 : decode c_LR_row 11 = .ok (.invokevirtual 54, 3) := by decide +kernel
theorem d_LR_row_14 : decode c_LR_row 14 = .ok (.aload_n 0, 1) := by decide +kernel
theorem d_LR_row_15 : decode c_LR_row 15 = .ok (.getfield 19, 3) := by decide +kernel
theorem d_LR_row_18 : decode c_LR_row 18 = .ok (.getfield 110, 3) := by decide +kernel
theorem d_LR_row_21 : decode c_LR_row 21 = .ok (.iload_n 1, 1) := by decide +kernel
theorem d_LR_row_22 : decode c_LR_row 22 = .ok (.iload_n 2, 1) := by decide +kernel
theorem d_LR_row_23 : decode c_LR_row 23 = .ok (.invokevirtual 131, 3) := by decide +kernel
theorem d_LR_row_26 : decode c_LR_row 26 = .ok (.ifCond .ne 13, 3) := by decide +kernel
theorem d_LR_row_29 : decode c_LR_row 29 = .ok (.new 41, 3) := by decide +kernel
theorem d_LR_row_32 : decode c_LR_row 32 = .ok (.dup, 1) := by decide +kernel
theorem d_LR_row_33 : decode c_LR_row 33 = .ok (.ldc 135, 2) := by decide +kernel
theorem d_LR_row_35 : decode c_LR_row 35 = .ok (.invokespecial 45, 3) := by decide +kernel
theorem d_LR_row_38 : decode c_LR_row 38 = .ok (.athrow, 1) := by decide +kernel
theorem d_LR_row_39 : decode c_LR_row 39 = .ok (.aload_n 0, 1) := by decide +kernel
theorem d_LR_row_40 : decode c_LR_row 40 = .ok (.getfield 19, 3) := by decide +kernel
theorem d_LR_row_43 : decode c_LR_row 43 = .ok (.iload_n 1, 1) := by decide +kernel
theorem d_LR_row_44 : decode c_LR_row 44 = .ok (.iload_n 2, 1) := by decide +kernel
theorem d_LR_row_45 : decode c_LR_row 45 = .ok (.invokevirtual 137, 3) := by decide +kernel
theorem d_LR_row_48 : decode c_LR_row 48 = .ok (.ireturn, 1) := by decide +kernel
theorem d_Sc_rowPort_0 : decode c_Sc_rowPort 0 = .ok (.aload_n 0, 1) := by decide +kernel
theorem d_Sc_rowPort_1 : decode c_Sc_rowPort 1 = .ok (.getfield 23, 3) := by decide +kernel
theorem d_Sc_rowPort_4 : decode c_Sc_rowPort 4 = .ok (.iload_n 1, 1) := by decide +kernel
theorem d_Sc_rowPort_5 : decode c_Sc_rowPort 5 = .ok (.iload_n 2, 1) := by decide +kernel
theorem d_Sc_rowPort_6 : decode c_Sc_rowPort 6 = .ok (.invokevirtual 77, 3) := by decide +kernel
theorem d_Sc_rowPort_9 : decode c_Sc_rowPort 9 = .ok (.istore_n 3, 1) := by decide +kernel
theorem d_Sc_rowPort_10 : decode c_Sc_rowPort 10 = .ok (.iload_n 3, 1) := by decide +kernel
theorem d_Sc_rowPort_11 : decode c_Sc_rowPort 11 = .ok (.iconst (-1), 1) := by decide +kernel
theorem d_Sc_rowPort_12 : decode c_Sc_rowPort 12 = .ok (.if_icmp .ne 7, 3) := by decide +kernel
theorem d_Sc_rowPort_15 : decode c_Sc_rowPort 15 = .ok (.iconst (-1), 1) := by decide +kernel
theorem d_Sc_rowPort_16 : decode c_Sc_rowPort 16 = .ok (.goto 12, 3) := by decide +kernel
theorem d_Sc_rowPort_19 : decode c_Sc_rowPort 19 = .ok (.aload_n 0, 1) := by decide +kernel
theorem d_Sc_rowPort_20 : decode c_Sc_rowPort 20 = .ok (.getfield 12, 3) := by decide +kernel
theorem d_Sc_rowPort_23 : decode c_Sc_rowPort 23 = .ok (.iload_n 1, 1) := by decide +kernel
theorem d_Sc_rowPort_24 : decode c_Sc_rowPort 24 = .ok (.iload_n 3, 1) := by decide +kernel
theorem d_Sc_rowPort_25 : decode c_Sc_rowPort 25 = .ok (.invokevirtual 81, 3) := by decide +kernel
theorem d_Sc_rowPort_28 : decode c_Sc_rowPort 28 = .ok (.ireturn, 1) := by decide +kernel
theorem d_LR_label_0 : decode c_LR_label 0 = .ok (.aload_n 0, 1) := by decide +kernel
theorem d_LR_label_1 : decode c_LR_label 1 = .ok (.invokevirtual 119, 3) := by decide +kernel
theorem d_LR_label_4 : decode c_LR_label 4 = .ok (.aload_n 0, 1) := by decide +kernel
theorem d_LR_label_5 : decode c_LR_label 5 = .ok (.iload_n 1, 1) := by decide +kernel
theorem d_LR_label_6 : decode c_LR_label 6 = .ok (.invokevirtual 54, 3) := by decide +kernel
theorem d_LR_label_9 : decode c_LR_label 9 = .ok (.aload_n 0, 1) := by decide +kernel
theorem d_LR_label_10 : decode c_LR_label 10 = .ok (.iload_n 2, 1) := by decide +kernel
theorem d_LR_label_11 : decode c_LR_label 11 = .ok (.iconst 5, 1) := by decide +kernel
theorem d_LR_label_12 : decode c_LR_label 12 = .ok (.invokevirtual 88, 3) := by decide +kernel
theorem d_LR_label_15 : decode c_LR_label 15 = .ok (.aload_n 0, 1) := by decide +kernel
theorem d_LR_label_16 : decode c_LR_label 16 = .ok (.getfield 19, 3) := by decide +kernel
theorem d_LR_label_19 : decode c_LR_label 19 = .ok (.iload_n 1, 1) := by decide +kernel
theorem d_LR_label_20 : decode c_LR_label 20 = .ok (.invokevirtual 140, 3) := by decide +kernel
theorem d_LR_label_23 : decode c_LR_label 23 = .ok (.iload_n 2, 1) := by decide +kernel
theorem d_LR_label_24 : decode c_LR_label 24 = .ok (.iaload, 1) := by decide +kernel
theorem d_LR_label_25 : decode c_LR_label 25 = .ok (.ireturn, 1) := by decide +kernel
theorem d_Sc_labelOf_0 : decode c_Sc_labelOf 0 = .ok (.aload_n 0, 1) := by decide +kernel
theorem d_Sc_labelOf_1 : decode c_Sc_labelOf 1 = .ok (.getfield 45, 3) := by decide +kernel
theorem d_Sc_labelOf_4 : decode c_Sc_labelOf 4 = .ok (.iload_n 1, 1) := by decide +kernel
theorem d_Sc_labelOf_5 : decode c_Sc_labelOf 5 = .ok (.aaload, 1) := by decide +kernel
theorem d_Sc_labelOf_6 : decode c_Sc_labelOf 6 = .ok (.areturn, 1) := by decide +kernel
theorem d_LR_tree_0 : decode c_LR_tree 0 = .ok (.aload_n 0, 1) := by decide +kernel
theorem d_LR_tree_1 : decode c_LR_tree 1 = .ok (.invokevirtual 119, 3) := by decide +kernel
theorem d_LR_tree_4 : decode c_LR_tree 4 = .ok (.aload_n 0, 1) := by decide +kernel
theorem d_LR_tree_5 : decode c_LR_tree 5 = .ok (.iload_n 1, 1) := by decide +kernel
theorem d_LR_tree_6 : decode c_LR_tree 6 = .ok (.invokevirtual 54, 3) := by decide +kernel
theorem d_LR_tree_9 : decode c_LR_tree 9 = .ok (.aload_n 0, 1) := by decide +kernel
theorem d_LR_tree_10 : decode c_LR_tree 10 = .ok (.iload_n 2, 1) := by decide +kernel
theorem d_LR_tree_11 : decode c_LR_tree 11 = .ok (.invokevirtual 54, 3) := by decide +kernel
theorem d_LR_tree_14 : decode c_LR_tree 14 = .ok (.aload_n 0, 1) := by decide +kernel
theorem d_LR_tree_15 : decode c_LR_tree 15 = .ok (.iload_n 3, 1) := by decide +kernel
theorem d_LR_tree_16 : decode c_LR_tree 16 = .ok (.iconst 4, 1) := by decide +kernel
theorem d_LR_tree_17 : decode c_LR_tree 17 = .ok (.invokevirtual 88, 3) := by decide +kernel
theorem d_LR_tree_20 : decode c_LR_tree 20 = .ok (.aload_n 0, 1) := by decide +kernel
theorem d_LR_tree_21 : decode c_LR_tree 21 = .ok (.getfield 19, 3) := by decide +kernel
theorem d_LR_tree_24 : decode c_LR_tree 24 = .ok (.getfield 110, 3) := by decide +kernel
theorem d_LR_tree_27 : decode c_LR_tree 27 = .ok (.iload_n 1, 1) := by decide +kernel
theorem d_LR_tree_28 : decode c_LR_tree 28 = .ok (.invokevirtual 144, 3) := by decide +kernel
theorem d_LR_tree_31 : decode c_LR_tree 31 = .ok (.ifCond .ne 13, 3) := by decide +kernel
theorem d_LR_tree_34 : decode c_LR_tree 34 = .ok (.new 41, 3) := by decide +kernel
theorem d_LR_tree_37 : decode c_LR_tree 37 = .ok (.dup, 1) := by decide +kernel
theorem d_LR_tree_38 : decode c_LR_tree 38 = .ok (.ldc 148, 2) := by decide +kernel
theorem d_LR_tree_40 : decode c_LR_tree 40 = .ok (.invokespecial 45, 3) := by decide +kernel
theorem d_LR_tree_43 : decode c_LR_tree 43 = .ok (.athrow, 1) := by decide +kernel
theorem d_LR_tree_44 : decode c_LR_tree 44 = .ok (.iload_n 3, 1) := by decide +kernel
theorem d_LR_tree_45 : decode c_LR_tree 45 = .ok (.tableswitch 66 0 2 #[27, 40, 53], 27) := by decide +kernel
theorem d_LR_tree_72 : decode c_LR_tree 72 = .ok (.aload_n 0, 1) := by decide +kernel
theorem d_LR_tree_73 : decode c_LR_tree 73 = .ok (.getfield 19, 3) := by decide +kernel
theorem d_LR_tree_76 : decode c_LR_tree 76 = .ok (.getfield 150, 3) := by decide +kernel
theorem d_LR_tree_79 : decode c_LR_tree 79 = .ok (.iload_n 1, 1) := by decide +kernel
theorem d_LR_tree_80 : decode c_LR_tree 80 = .ok (.iload_n 2, 1) := by decide +kernel
theorem d_LR_tree_81 : decode c_LR_tree 81 = .ok (.invokevirtual 154, 3) := by decide +kernel
theorem d_LR_tree_84 : decode c_LR_tree 84 = .ok (.ireturn, 1) := by decide +kernel
theorem d_LR_tree_85 : decode c_LR_tree 85 = .ok (.aload_n 0, 1) := by decide +kernel
theorem d_LR_tree_86 : decode c_LR_tree 86 = .ok (.getfield 19, 3) := by decide +kernel
theorem d_LR_tree_89 : decode c_LR_tree 89 = .ok (.getfield 150, 3) := by decide +kernel
theorem d_LR_tree_92 : decode c_LR_tree 92 = .ok (.iload_n 1, 1) := by decide +kernel
theorem d_LR_tree_93 : decode c_LR_tree 93 = .ok (.iload_n 2, 1) := by decide +kernel
theorem d_LR_tree_94 : decode c_LR_tree 94 = .ok (.invokevirtual 159, 3) := by decide +kernel
theorem d_LR_tree_97 : decode c_LR_tree 97 = .ok (.ireturn, 1) := by decide +kernel
theorem d_LR_tree_98 : decode c_LR_tree 98 = .ok (.aload_n 0, 1) := by decide +kernel
theorem d_LR_tree_99 : decode c_LR_tree 99 = .ok (.getfield 19, 3) := by decide +kernel
theorem d_LR_tree_102 : decode c_LR_tree 102 = .ok (.getfield 150, 3) := by decide +kernel
theorem d_LR_tree_105 : decode c_LR_tree 105 = .ok (.iload_n 1, 1) := by decide +kernel
theorem d_LR_tree_106 : decode c_LR_tree 106 = .ok (.iload_n 2, 1) := by decide +kernel
theorem d_LR_tree_107 : decode c_LR_tree 107 = .ok (.invokevirtual 162, 3) := by decide +kernel
theorem d_LR_tree_110 : decode c_LR_tree 110 = .ok (.ireturn, 1) := by decide +kernel
theorem d_LR_tree_111 : decode c_LR_tree 111 = .ok (.aload_n 0, 1) := by decide +kernel
theorem d_LR_tree_112 : decode c_LR_tree 112 = .ok (.getfield 19, 3) := by decide +kernel
theorem d_LR_tree_115 : decode c_LR_tree 115 = .ok (.getfield 150, 3) := by decide +kernel
theorem d_LR_tree_118 : decode c_LR_tree 118 = .ok (.iload_n 1, 1) := by decide +kernel
theorem d_LR_tree_119 : decode c_LR_tree 119 = .ok (.iload_n 2, 1) := by decide +kernel
theorem d_LR_tree_120 : decode c_LR_tree 120 = .ok (.invokevirtual 165, 3) := by decide +kernel
theorem d_LR_tree_123 : decode c_LR_tree 123 = .ok (.ireturn, 1) := by decide +kernel
theorem d_LR_send_0 : decode c_LR_send 0 = .ok (.aload_n 0, 1) := by decide +kernel
theorem d_LR_send_1 : decode c_LR_send 1 = .ok (.invokevirtual 119, 3) := by decide +kernel
theorem d_LR_send_4 : decode c_LR_send 4 = .ok (.aload_n 0, 1) := by decide +kernel
theorem d_LR_send_5 : decode c_LR_send 5 = .ok (.iload_n 1, 1) := by decide +kernel
theorem d_LR_send_6 : decode c_LR_send 6 = .ok (.invokevirtual 54, 3) := by decide +kernel
theorem d_LR_send_9 : decode c_LR_send 9 = .ok (.aload_n 0, 1) := by decide +kernel
theorem d_LR_send_10 : decode c_LR_send 10 = .ok (.iload_n 2, 1) := by decide +kernel
theorem d_LR_send_11 : decode c_LR_send 11 = .ok (.invokevirtual 54, 3) := by decide +kernel
theorem d_LR_send_14 : decode c_LR_send 14 = .ok (.aload_n 0, 1) := by decide +kernel
theorem d_LR_send_15 : decode c_LR_send 15 = .ok (.getfield 26, 3) := by decide +kernel
theorem d_LR_send_18 : decode c_LR_send 18 = .ok (.iload_n 1, 1) := by decide +kernel
theorem d_LR_send_19 : decode c_LR_send 19 = .ok (.iload_n 2, 1) := by decide +kernel
theorem d_LR_send_20 : decode c_LR_send 20 = .ok (.invokevirtual 168, 3) := by decide +kernel
theorem d_LR_send_23 : decode c_LR_send 23 = .ok (.ireturn, 1) := by decide +kernel
theorem d_LR_hop_0 : decode c_LR_hop 0 = .ok (.aload_n 0, 1) := by decide +kernel
theorem d_LR_hop_1 : decode c_LR_hop 1 = .ok (.iload_n 1, 1) := by decide +kernel
theorem d_LR_hop_2 : decode c_LR_hop 2 = .ok (.invokevirtual 171, 3) := by decide +kernel
theorem d_LR_hop_5 : decode c_LR_hop 5 = .ok (.aload_n 0, 1) := by decide +kernel
theorem d_LR_hop_6 : decode c_LR_hop 6 = .ok (.getfield 26, 3) := by decide +kernel
theorem d_LR_hop_9 : decode c_LR_hop 9 = .ok (.iload_n 1, 1) := by decide +kernel
theorem d_LR_hop_10 : decode c_LR_hop 10 = .ok (.invokevirtual 174, 3) := by decide +kernel
theorem d_LR_hop_13 : decode c_LR_hop 13 = .ok (.istore_n 2, 1) := by decide +kernel
theorem d_LR_hop_14 : decode c_LR_hop 14 = .ok (.aload_n 0, 1) := by decide +kernel
theorem d_LR_hop_15 : decode c_LR_hop 15 = .ok (.getfield 19, 3) := by decide +kernel
theorem d_LR_hop_18 : decode c_LR_hop 18 = .ok (.iload_n 2, 1) := by decide +kernel
theorem d_LR_hop_19 : decode c_LR_hop 19 = .ok (.aload_n 0, 1) := by decide +kernel
theorem d_LR_hop_20 : decode c_LR_hop 20 = .ok (.getfield 26, 3) := by decide +kernel
theorem d_LR_hop_23 : decode c_LR_hop 23 = .ok (.iload_n 1, 1) := by decide +kernel
theorem d_LR_hop_24 : decode c_LR_hop 24 = .ok (.invokevirtual 176, 3) := by decide +kernel
theorem d_LR_hop_27 : decode c_LR_hop 27 = .ok (.invokevirtual 179, 3) := by decide +kernel
theorem d_LR_hop_30 : decode c_LR_hop 30 = .ok (.istore_n 3, 1) := by decide +kernel
theorem d_LR_hop_31 : decode c_LR_hop 31 = .ok (.aload_n 0, 1) := by decide +kernel
theorem d_LR_hop_32 : decode c_LR_hop 32 = .ok (.getfield 26, 3) := by decide +kernel
theorem d_LR_hop_35 : decode c_LR_hop 35 = .ok (.iload_n 1, 1) := by decide +kernel
theorem d_LR_hop_36 : decode c_LR_hop 36 = .ok (.iload_n 3, 1) := by decide +kernel
theorem d_LR_hop_37 : decode c_LR_hop 37 = .ok (.aload_n 0, 1) := by decide +kernel
theorem d_LR_hop_38 : decode c_LR_hop 38 = .ok (.getfield 19, 3) := by decide +kernel
theorem d_LR_hop_41 : decode c_LR_hop 41 = .ok (.iload_n 2, 1) := by decide +kernel
theorem d_LR_hop_42 : decode c_LR_hop 42 = .ok (.iload_n 3, 1) := by decide +kernel
theorem d_LR_hop_43 : decode c_LR_hop 43 = .ok (.invokevirtual 182, 3) := by decide +kernel
theorem d_LR_hop_46 : decode c_LR_hop 46 = .ok (.invokevirtual 185, 3) := by decide +kernel
theorem d_LR_hop_49 : decode c_LR_hop 49 = .ok (.iload_n 3, 1) := by decide +kernel
theorem d_LR_hop_50 : decode c_LR_hop 50 = .ok (.ireturn, 1) := by decide +kernel
theorem d_LR_needPacket_0 : decode c_LR_needPacket 0 = .ok (.aload_n 0, 1) := by decide +kernel
theorem d_LR_needPacket_1 : decode c_LR_needPacket 1 = .ok (.getfield 26, 3) := by decide +kernel
theorem d_LR_needPacket_4 : decode c_LR_needPacket 4 = .ok (.iload_n 1, 1) := by decide +kernel
theorem d_LR_needPacket_5 : decode c_LR_needPacket 5 = .ok (.invokevirtual 205, 3) := by decide +kernel
theorem d_LR_needPacket_8 : decode c_LR_needPacket 8 = .ok (.ifCond .ne 13, 3) := by decide +kernel
theorem d_LR_needPacket_11 : decode c_LR_needPacket 11 = .ok (.new 41, 3) := by decide +kernel
theorem d_LR_needPacket_14 : decode c_LR_needPacket 14 = .ok (.dup, 1) := by decide +kernel
theorem d_LR_needPacket_15 : decode c_LR_needPacket 15 = .ok (.ldc 208, 2) := by decide +kernel
theorem d_LR_needPacket_17 : decode c_LR_needPacket 17 = .ok (.invokespecial 45, 3) := by decide +kernel
theorem d_LR_needPacket_20 : decode c_LR_needPacket 20 = .ok (.athrow, 1) := by decide +kernel
theorem d_LR_needPacket_21 : decode c_LR_needPacket 21 = .ok (.return_, 1) := by decide +kernel
theorem d_Sc_onward_0 : decode c_Sc_onward 0 = .ok (.iload_n 1, 1) := by decide +kernel
theorem d_Sc_onward_1 : decode c_Sc_onward 1 = .ok (.iload_n 2, 1) := by decide +kernel
theorem d_Sc_onward_2 : decode c_Sc_onward 2 = .ok (.if_icmp .ne 5, 3) := by decide +kernel
theorem d_Sc_onward_5 : decode c_Sc_onward 5 = .ok (.iload_n 1, 1) := by decide +kernel
theorem d_Sc_onward_6 : decode c_Sc_onward 6 = .ok (.ireturn, 1) := by decide +kernel
theorem d_Sc_onward_7 : decode c_Sc_onward 7 = .ok (.aload_n 0, 1) := by decide +kernel
theorem d_Sc_onward_8 : decode c_Sc_onward 8 = .ok (.getfield 32, 3) := by decide +kernel
theorem d_Sc_onward_11 : decode c_Sc_onward 11 = .ok (.iload_n 1, 1) := by decide +kernel
theorem d_Sc_onward_12 : decode c_Sc_onward 12 = .ok (.iload_n 2, 1) := by decide +kernel
theorem d_Sc_onward_13 : decode c_Sc_onward 13 = .ok (.invokevirtual 99, 3) := by decide +kernel
theorem d_Sc_onward_16 : decode c_Sc_onward 16 = .ok (.ifCond .eq 15, 3) := by decide +kernel
theorem d_Sc_onward_19 : decode c_Sc_onward 19 = .ok (.aload_n 0, 1) := by decide +kernel
theorem d_Sc_onward_20 : decode c_Sc_onward 20 = .ok (.getfield 23, 3) := by decide +kernel
theorem d_Sc_onward_23 : decode c_Sc_onward 23 = .ok (.iload_n 1, 1) := by decide +kernel
theorem d_Sc_onward_24 : decode c_Sc_onward 24 = .ok (.iload_n 2, 1) := by decide +kernel
theorem d_Sc_onward_25 : decode c_Sc_onward 25 = .ok (.invokevirtual 77, 3) := by decide +kernel
theorem d_Sc_onward_28 : decode c_Sc_onward 28 = .ok (.goto 14, 3) := by decide +kernel
theorem d_Sc_onward_31 : decode c_Sc_onward 31 = .ok (.aload_n 0, 1) := by decide +kernel
theorem d_Sc_onward_32 : decode c_Sc_onward 32 = .ok (.iload_n 1, 1) := by decide +kernel
theorem d_Sc_onward_33 : decode c_Sc_onward 33 = .ok (.aload_n 0, 1) := by decide +kernel
theorem d_Sc_onward_34 : decode c_Sc_onward 34 = .ok (.getfield 45, 3) := by decide +kernel
theorem d_Sc_onward_37 : decode c_Sc_onward 37 = .ok (.iload_n 2, 1) := by decide +kernel
theorem d_Sc_onward_38 : decode c_Sc_onward 38 = .ok (.aaload, 1) := by decide +kernel
theorem d_Sc_onward_39 : decode c_Sc_onward 39 = .ok (.invokevirtual 103, 3) := by decide +kernel
theorem d_Sc_onward_42 : decode c_Sc_onward 42 = .ok (.istore_n 3, 1) := by decide +kernel
theorem d_Sc_onward_43 : decode c_Sc_onward 43 = .ok (.iload_n 3, 1) := by decide +kernel
theorem d_Sc_onward_44 : decode c_Sc_onward 44 = .ok (.iconst (-1), 1) := by decide +kernel
theorem d_Sc_onward_45 : decode c_Sc_onward 45 = .ok (.if_icmp .ne 7, 3) := by decide +kernel
theorem d_Sc_onward_48 : decode c_Sc_onward 48 = .ok (.iload_n 1, 1) := by decide +kernel
theorem d_Sc_onward_49 : decode c_Sc_onward 49 = .ok (.goto 4, 3) := by decide +kernel
theorem d_Sc_onward_52 : decode c_Sc_onward 52 = .ok (.iload_n 3, 1) := by decide +kernel
theorem d_Sc_onward_53 : decode c_Sc_onward 53 = .ok (.ireturn, 1) := by decide +kernel
theorem d_Sc_alongTree_0 : decode c_Sc_alongTree 0 = .ok (.aload_n 2, 1) := by decide +kernel
theorem d_Sc_alongTree_1 : decode c_Sc_alongTree 1 = .ok (.iconst 1, 1) := by decide +kernel
theorem d_Sc_alongTree_2 : decode c_Sc_alongTree 2 = .ok (.iaload, 1) := by decide +kernel
theorem d_Sc_alongTree_3 : decode c_Sc_alongTree 3 = .ok (.istore_n 3, 1) := by decide +kernel
theorem d_Sc_alongTree_4 : decode c_Sc_alongTree 4 = .ok (.aload_n 2, 1) := by decide +kernel
theorem d_Sc_alongTree_5 : decode c_Sc_alongTree 5 = .ok (.iconst 2, 1) := by decide +kernel
theorem d_Sc_alongTree_6 : decode c_Sc_alongTree 6 = .ok (.iaload, 1) := by decide +kernel
theorem d_Sc_alongTree_7 : decode c_Sc_alongTree 7 = .ok (.istore 4, 2) := by decide +kernel
theorem d_Sc_alongTree_9 : decode c_Sc_alongTree 9 = .ok (.aload_n 0, 1) := by decide +kernel
theorem d_Sc_alongTree_10 : decode c_Sc_alongTree 10 = .ok (.getfield 39, 3) := by decide +kernel
theorem d_Sc_alongTree_13 : decode c_Sc_alongTree 13 = .ok (.iload_n 3, 1) := by decide +kernel
theorem d_Sc_alongTree_14 : decode c_Sc_alongTree 14 = .ok (.iload_n 1, 1) := by decide +kernel
theorem d_Sc_alongTree_15 : decode c_Sc_alongTree 15 = .ok (.iload 4, 2) := by decide +kernel
theorem d_Sc_alongTree_17 : decode c_Sc_alongTree 17 = .ok (.invokevirtual 107, 3) := by decide +kernel
theorem d_Sc_alongTree_20 : decode c_Sc_alongTree 20 = .ok (.ifCond .ne 13, 3) := by decide +kernel
theorem d_Sc_alongTree_23 : decode c_Sc_alongTree 23 = .ok (.aload_n 0, 1) := by decide +kernel
theorem d_Sc_alongTree_24 : decode c_Sc_alongTree 24 = .ok (.getfield 23, 3) := by decide +kernel
theorem d_Sc_alongTree_27 : decode c_Sc_alongTree 27 = .ok (.iload_n 1, 1) := by decide +kernel
theorem d_Sc_alongTree_28 : decode c_Sc_alongTree 28 = .ok (.iload_n 3, 1) := by decide +kernel
theorem d_Sc_alongTree_29 : decode c_Sc_alongTree 29 = .ok (.invokevirtual 77, 3) := by decide +kernel
theorem d_Sc_alongTree_32 : decode c_Sc_alongTree 32 = .ok (.ireturn, 1) := by decide +kernel
theorem d_Sc_alongTree_33 : decode c_Sc_alongTree 33 = .ok (.aload_n 0, 1) := by decide +kernel
theorem d_Sc_alongTree_34 : decode c_Sc_alongTree 34 = .ok (.getfield 39, 3) := by decide +kernel
theorem d_Sc_alongTree_37 : decode c_Sc_alongTree 37 = .ok (.iload_n 3, 1) := by decide +kernel
theorem d_Sc_alongTree_38 : decode c_Sc_alongTree 38 = .ok (.iload_n 1, 1) := by decide +kernel
theorem d_Sc_alongTree_39 : decode c_Sc_alongTree 39 = .ok (.invokevirtual 96, 3) := by decide +kernel
theorem d_Sc_alongTree_42 : decode c_Sc_alongTree 42 = .ok (.istore 5, 2) := by decide +kernel
theorem d_Sc_alongTree_44 : decode c_Sc_alongTree 44 = .ok (.iload 5, 2) := by decide +kernel
theorem d_Sc_alongTree_46 : decode c_Sc_alongTree 46 = .ok (.iconst (-1), 1) := by decide +kernel
theorem d_Sc_alongTree_47 : decode c_Sc_alongTree 47 = .ok (.if_icmp .eq 21, 3) := by decide +kernel
theorem d_Sc_alongTree_50 : decode c_Sc_alongTree 50 = .ok (.aload_n 0, 1) := by decide +kernel
theorem d_Sc_alongTree_51 : decode c_Sc_alongTree 51 = .ok (.getfield 39, 3) := by decide +kernel
theorem d_Sc_alongTree_54 : decode c_Sc_alongTree 54 = .ok (.iload_n 3, 1) := by decide +kernel
theorem d_Sc_alongTree_55 : decode c_Sc_alongTree 55 = .ok (.iload 5, 2) := by decide +kernel
theorem d_Sc_alongTree_57 : decode c_Sc_alongTree 57 = .ok (.iload 4, 2) := by decide +kernel
theorem d_Sc_alongTree_59 : decode c_Sc_alongTree 59 = .ok (.invokevirtual 107, 3) := by decide +kernel
theorem d_Sc_alongTree_62 : decode c_Sc_alongTree 62 = .ok (.ifCond .eq 6, 3) := by decide +kernel
theorem d_Sc_alongTree_65 : decode c_Sc_alongTree 65 = .ok (.iload 5, 2) := by decide +kernel
theorem d_Sc_alongTree_67 : decode c_Sc_alongTree 67 = .ok (.ireturn, 1) := by decide +kernel
theorem d_Sc_alongTree_68 : decode c_Sc_alongTree 68 = .ok (.iconst 4, 1) := by decide +kernel
theorem d_Sc_alongTree_69 : decode c_Sc_alongTree 69 = .ok (.aload_n 0, 1) := by decide +kernel
theorem d_Sc_alongTree_70 : decode c_Sc_alongTree 70 = .ok (.getfield 39, 3) := by decide +kernel
theorem d_Sc_alongTree_73 : decode c_Sc_alongTree 73 = .ok (.iload_n 3, 1) := by decide +kernel
theorem d_Sc_alongTree_74 : decode c_Sc_alongTree 74 = .ok (.iload_n 1, 1) := by decide +kernel
theorem d_Sc_alongTree_75 : decode c_Sc_alongTree 75 = .ok (.invokevirtual 87, 3) := by decide +kernel
theorem d_Sc_alongTree_78 : decode c_Sc_alongTree 78 = .ok (.imul, 1) := by decide +kernel
theorem d_Sc_alongTree_79 : decode c_Sc_alongTree 79 = .ok (.istore 6, 2) := by decide +kernel
theorem d_Sc_alongTree_81 : decode c_Sc_alongTree 81 = .ok (.aload_n 0, 1) := by decide +kernel
theorem d_Sc_alongTree_82 : decode c_Sc_alongTree 82 = .ok (.getfield 12, 3) := by decide +kernel
theorem d_Sc_alongTree_85 : decode c_Sc_alongTree 85 = .ok (.iload_n 1, 1) := by decide +kernel
theorem d_Sc_alongTree_86 : decode c_Sc_alongTree 86 = .ok (.aload_n 2, 1) := by decide +kernel
theorem d_Sc_alongTree_87 : decode c_Sc_alongTree 87 = .ok (.iconst 4, 1) := by decide +kernel
theorem d_Sc_alongTree_88 : decode c_Sc_alongTree 88 = .ok (.iaload, 1) := by decide +kernel
theorem d_Sc_alongTree_89 : decode c_Sc_alongTree 89 = .ok (.iload 6, 2) := by decide +kernel
theorem d_Sc_alongTree_91 : decode c_Sc_alongTree 91 = .ok (.ishr, 1) := by decide +kernel
theorem d_Sc_alongTree_92 : decode c_Sc_alongTree 92 = .ok (.bipush 15, 2) := by decide +kernel
theorem d_Sc_alongTree_94 : decode c_Sc_alongTree 94 = .ok (.iand, 1) := by decide +kernel
theorem d_Sc_alongTree_95 : decode c_Sc_alongTree 95 = .ok (.invokevirtual 111, 3) := by decide +kernel
theorem d_Sc_alongTree_98 : decode c_Sc_alongTree 98 = .ok (.ireturn, 1) := by decide +kernel
theorem d_Sc_hopWeight_0 : decode c_Sc_hopWeight 0 = .ok (.iload_n 1, 1) := by decide +kernel
theorem d_Sc_hopWeight_1 : decode c_Sc_hopWeight 1 = .ok (.iload_n 2, 1) := by decide +kernel
theorem d_Sc_hopWeight_2 : decode c_Sc_hopWeight 2 = .ok (.if_icmp .ne 7, 3) := by decide +kernel
theorem d_Sc_hopWeight_5 : decode c_Sc_hopWeight 5 = .ok (.iconst 0, 1) := by decide +kernel
theorem d_Sc_hopWeight_6 : decode c_Sc_hopWeight 6 = .ok (.goto 12, 3) := by decide +kernel
theorem d_Sc_hopWeight_9 : decode c_Sc_hopWeight 9 = .ok (.aload_n 0, 1) := by decide +kernel
theorem d_Sc_hopWeight_10 : decode c_Sc_hopWeight 10 = .ok (.getfield 12, 3) := by decide +kernel
theorem d_Sc_hopWeight_13 : decode c_Sc_hopWeight 13 = .ok (.iload_n 1, 1) := by decide +kernel
theorem d_Sc_hopWeight_14 : decode c_Sc_hopWeight 14 = .ok (.iload_n 2, 1) := by decide +kernel
theorem d_Sc_hopWeight_15 : decode c_Sc_hopWeight 15 = .ok (.invokevirtual 114, 3) := by decide +kernel
theorem d_Sc_hopWeight_18 : decode c_Sc_hopWeight 18 = .ok (.ireturn, 1) := by decide +kernel
theorem d_LR_weight_0 : decode c_LR_weight 0 = .ok (.aload_n 0, 1) := by decide +kernel
theorem d_LR_weight_1 : decode c_LR_weight 1 = .ok (.iload_n 1, 1) := by decide +kernel
theorem d_LR_weight_2 : decode c_LR_weight 2 = .ok (.invokevirtual 171, 3) := by decide +kernel
theorem d_LR_weight_5 : decode c_LR_weight 5 = .ok (.aload_n 0, 1) := by decide +kernel
theorem d_LR_weight_6 : decode c_LR_weight 6 = .ok (.getfield 26, 3) := by decide +kernel
theorem d_LR_weight_9 : decode c_LR_weight 9 = .ok (.iload_n 1, 1) := by decide +kernel
theorem d_LR_weight_10 : decode c_LR_weight 10 = .ok (.invokevirtual 188, 3) := by decide +kernel
theorem d_LR_weight_13 : decode c_LR_weight 13 = .ok (.ireturn, 1) := by decide +kernel
theorem d_LR_distance_0 : decode c_LR_distance 0 = .ok (.aload_n 0, 1) := by decide +kernel
theorem d_LR_distance_1 : decode c_LR_distance 1 = .ok (.iload_n 1, 1) := by decide +kernel
theorem d_LR_distance_2 : decode c_LR_distance 2 = .ok (.invokevirtual 54, 3) := by decide +kernel
theorem d_LR_distance_5 : decode c_LR_distance 5 = .ok (.aload_n 0, 1) := by decide +kernel
theorem d_LR_distance_6 : decode c_LR_distance 6 = .ok (.iload_n 2, 1) := by decide +kernel
theorem d_LR_distance_7 : decode c_LR_distance 7 = .ok (.invokevirtual 54, 3) := by decide +kernel
theorem d_LR_distance_10 : decode c_LR_distance 10 = .ok (.aload_n 0, 1) := by decide +kernel
theorem d_LR_distance_11 : decode c_LR_distance 11 = .ok (.getfield 10, 3) := by decide +kernel
theorem d_LR_distance_14 : decode c_LR_distance 14 = .ok (.iload_n 1, 1) := by decide +kernel
theorem d_LR_distance_15 : decode c_LR_distance 15 = .ok (.aload_n 0, 1) := by decide +kernel
theorem d_LR_distance_16 : decode c_LR_distance 16 = .ok (.getfield 30, 3) := by decide +kernel
theorem d_LR_distance_19 : decode c_LR_distance 19 = .ok (.aload_n 0, 1) := by decide +kernel
theorem d_LR_distance_20 : decode c_LR_distance 20 = .ok (.getfield 34, 3) := by decide +kernel
theorem d_LR_distance_23 : decode c_LR_distance 23 = .ok (.invokevirtual 96, 3) := by decide +kernel
theorem d_LR_distance_26 : decode c_LR_distance 26 = .ok (.pop, 1) := by decide +kernel
theorem d_LR_distance_27 : decode c_LR_distance 27 = .ok (.aload_n 0, 1) := by decide +kernel
theorem d_LR_distance_28 : decode c_LR_distance 28 = .ok (.getfield 30, 3) := by decide +kernel
theorem d_LR_distance_31 : decode c_LR_distance 31 = .ok (.iload_n 2, 1) := by decide +kernel
theorem d_LR_distance_32 : decode c_LR_distance 32 = .ok (.iaload, 1) := by decide +kernel
theorem d_LR_distance_33 : decode c_LR_distance 33 = .ok (.ireturn, 1) := by decide +kernel
theorem d_LR_walk_0 : decode c_LR_walk 0 = .ok (.aload_n 0, 1) := by decide +kernel
theorem d_LR_walk_1 : decode c_LR_walk 1 = .ok (.invokevirtual 119, 3) := by decide +kernel
theorem d_LR_walk_4 : decode c_LR_walk 4 = .ok (.aload_n 0, 1) := by decide +kernel
theorem d_LR_walk_5 : decode c_LR_walk 5 = .ok (.iload_n 1, 1) := by decide +kernel
theorem d_LR_walk_6 : decode c_LR_walk 6 = .ok (.invokevirtual 54, 3) := by decide +kernel
theorem d_LR_walk_9 : decode c_LR_walk 9 = .ok (.aload_n 0, 1) := by decide +kernel
theorem d_LR_walk_10 : decode c_LR_walk 10 = .ok (.iload_n 2, 1) := by decide +kernel
theorem d_LR_walk_11 : decode c_LR_walk 11 = .ok (.invokevirtual 54, 3) := by decide +kernel
theorem d_LR_walk_14 : decode c_LR_walk 14 = .ok (.aload_n 0, 1) := by decide +kernel
theorem d_LR_walk_15 : decode c_LR_walk 15 = .ok (.iload_n 3, 1) := by decide +kernel
theorem d_LR_walk_16 : decode c_LR_walk 16 = .ok (.iconst 3, 1) := by decide +kernel
theorem d_LR_walk_17 : decode c_LR_walk 17 = .ok (.invokevirtual 88, 3) := by decide +kernel
theorem d_LR_walk_20 : decode c_LR_walk 20 = .ok (.iload_n 3, 1) := by decide +kernel
theorem d_LR_walk_21 : decode c_LR_walk 21 = .ok (.lookupswitch 49 #[(0, 27), (1, 38)], 27) := by decide +kernel
theorem d_LR_walk_48 : decode c_LR_walk 48 = .ok (.aload_n 0, 1) := by decide +kernel
theorem d_LR_walk_49 : decode c_LR_walk 49 = .ok (.getfield 19, 3) := by decide +kernel
theorem d_LR_walk_52 : decode c_LR_walk 52 = .ok (.iload_n 1, 1) := by decide +kernel
theorem d_LR_walk_53 : decode c_LR_walk 53 = .ok (.iload_n 2, 1) := by decide +kernel
theorem d_LR_walk_54 : decode c_LR_walk 54 = .ok (.iconst 1, 1) := by decide +kernel
theorem d_LR_walk_55 : decode c_LR_walk 55 = .ok (.invokevirtual 191, 3) := by decide +kernel
theorem d_LR_walk_58 : decode c_LR_walk 58 = .ok (.ireturn, 1) := by decide +kernel
theorem d_LR_walk_59 : decode c_LR_walk 59 = .ok (.aload_n 0, 1) := by decide +kernel
theorem d_LR_walk_60 : decode c_LR_walk 60 = .ok (.getfield 19, 3) := by decide +kernel
theorem d_LR_walk_63 : decode c_LR_walk 63 = .ok (.iload_n 1, 1) := by decide +kernel
theorem d_LR_walk_64 : decode c_LR_walk 64 = .ok (.iload_n 2, 1) := by decide +kernel
theorem d_LR_walk_65 : decode c_LR_walk 65 = .ok (.iconst 0, 1) := by decide +kernel
theorem d_LR_walk_66 : decode c_LR_walk 66 = .ok (.invokevirtual 191, 3) := by decide +kernel
theorem d_LR_walk_69 : decode c_LR_walk 69 = .ok (.ireturn, 1) := by decide +kernel
theorem d_LR_walk_70 : decode c_LR_walk 70 = .ok (.aload_n 0, 1) := by decide +kernel
theorem d_LR_walk_71 : decode c_LR_walk 71 = .ok (.getfield 19, 3) := by decide +kernel
theorem d_LR_walk_74 : decode c_LR_walk 74 = .ok (.iload_n 1, 1) := by decide +kernel
theorem d_LR_walk_75 : decode c_LR_walk 75 = .ok (.iload_n 2, 1) := by decide +kernel
theorem d_LR_walk_76 : decode c_LR_walk 76 = .ok (.invokevirtual 195, 3) := by decide +kernel
theorem d_LR_walk_79 : decode c_LR_walk 79 = .ok (.ireturn, 1) := by decide +kernel
theorem d_Sc_wayTotal_0 : decode c_Sc_wayTotal 0 = .ok (.iconst 0, 1) := by decide +kernel
theorem d_Sc_wayTotal_1 : decode c_Sc_wayTotal 1 = .ok (.istore 4, 2) := by decide +kernel
theorem d_Sc_wayTotal_3 : decode c_Sc_wayTotal 3 = .ok (.iload_n 1, 1) := by decide +kernel
theorem d_Sc_wayTotal_4 : decode c_Sc_wayTotal 4 = .ok (.istore 5, 2) := by decide +kernel
theorem d_Sc_wayTotal_6 : decode c_Sc_wayTotal 6 = .ok (.iconst 0, 1) := by decide +kernel
theorem d_Sc_wayTotal_7 : decode c_Sc_wayTotal 7 = .ok (.istore 6, 2) := by decide +kernel
theorem d_Sc_wayTotal_9 : decode c_Sc_wayTotal 9 = .ok (.iload 6, 2) := by decide +kernel
theorem d_Sc_wayTotal_11 : decode c_Sc_wayTotal 11 = .ok (.bipush 120, 2) := by decide +kernel
theorem d_Sc_wayTotal_13 : decode c_Sc_wayTotal 13 = .ok (.if_icmp .ge 49, 3) := by decide +kernel
theorem d_Sc_wayTotal_16 : decode c_Sc_wayTotal 16 = .ok (.iload 5, 2) := by decide +kernel
theorem d_Sc_wayTotal_18 : decode c_Sc_wayTotal 18 = .ok (.iload_n 2, 1) := by decide +kernel
theorem d_Sc_wayTotal_19 : decode c_Sc_wayTotal 19 = .ok (.if_icmp .eq 43, 3) := by decide +kernel
theorem d_Sc_wayTotal_22 : decode c_Sc_wayTotal 22 = .ok (.aload_n 0, 1) := by decide +kernel
theorem d_Sc_wayTotal_23 : decode c_Sc_wayTotal 23 = .ok (.iload 5, 2) := by decide +kernel
theorem d_Sc_wayTotal_25 : decode c_Sc_wayTotal 25 = .ok (.iload_n 2, 1) := by decide +kernel
theorem d_Sc_wayTotal_26 : decode c_Sc_wayTotal 26 = .ok (.invokevirtual 117, 3) := by decide +kernel
theorem d_Sc_wayTotal_29 : decode c_Sc_wayTotal 29 = .ok (.istore 7, 2) := by decide +kernel
theorem d_Sc_wayTotal_31 : decode c_Sc_wayTotal 31 = .ok (.iload 4, 2) := by decide +kernel
theorem d_Sc_wayTotal_33 : decode c_Sc_wayTotal 33 = .ok (.iload_n 3, 1) := by decide +kernel
theorem d_Sc_wayTotal_34 : decode c_Sc_wayTotal 34 = .ok (.ifCond .eq 14, 3) := by decide +kernel
theorem d_Sc_wayTotal_37 : decode c_Sc_wayTotal 37 = .ok (.aload_n 0, 1) := by decide +kernel
theorem d_Sc_wayTotal_38 : decode c_Sc_wayTotal 38 = .ok (.iload 5, 2) := by decide +kernel
theorem d_Sc_wayTotal_40 : decode c_Sc_wayTotal 40 = .ok (.iload 7, 2) := by decide +kernel
theorem d_Sc_wayTotal_42 : decode c_Sc_wayTotal 42 = .ok (.invokevirtual 120, 3) := by decide +kernel
theorem d_Sc_wayTotal_45 : decode c_Sc_wayTotal 45 = .ok (.goto 4, 3) := by decide +kernel
theorem d_Sc_wayTotal_48 : decode c_Sc_wayTotal 48 = .ok (.iconst 1, 1) := by decide +kernel
theorem d_Sc_wayTotal_49 : decode c_Sc_wayTotal 49 = .ok (.iadd, 1) := by decide +kernel
theorem d_Sc_wayTotal_50 : decode c_Sc_wayTotal 50 = .ok (.istore 4, 2) := by decide +kernel
theorem d_Sc_wayTotal_52 : decode c_Sc_wayTotal 52 = .ok (.iload 7, 2) := by decide +kernel
theorem d_Sc_wayTotal_54 : decode c_Sc_wayTotal 54 = .ok (.istore 5, 2) := by decide +kernel
theorem d_Sc_wayTotal_56 : decode c_Sc_wayTotal 56 = .ok (.iinc 6 1, 3) := by decide +kernel
theorem d_Sc_wayTotal_59 : decode c_Sc_wayTotal 59 = .ok (.goto (-50), 3) := by decide +kernel
theorem d_Sc_wayTotal_62 : decode c_Sc_wayTotal 62 = .ok (.iload 4, 2) := by decide +kernel
theorem d_Sc_wayTotal_64 : decode c_Sc_wayTotal 64 = .ok (.ireturn, 1) := by decide +kernel
theorem d_Sc_wayStretch_0 : decode c_Sc_wayStretch 0 = .ok (.aload_n 0, 1) := by decide +kernel
theorem d_Sc_wayStretch_1 : decode c_Sc_wayStretch 1 = .ok (.getfield 23, 3) := by decide +kernel
theorem d_Sc_wayStretch_4 : decode c_Sc_wayStretch 4 = .ok (.iload_n 1, 1) := by decide +kernel
theorem d_Sc_wayStretch_5 : decode c_Sc_wayStretch 5 = .ok (.iload_n 2, 1) := by decide +kernel
theorem d_Sc_wayStretch_6 : decode c_Sc_wayStretch 6 = .ok (.invokevirtual 123, 3) := by decide +kernel
theorem d_Sc_wayStretch_9 : decode c_Sc_wayStretch 9 = .ok (.istore_n 3, 1) := by decide +kernel
theorem d_Sc_wayStretch_10 : decode c_Sc_wayStretch 10 = .ok (.iload_n 3, 1) := by decide +kernel
theorem d_Sc_wayStretch_11 : decode c_Sc_wayStretch 11 = .ok (.ifCond .gt 7, 3) := by decide +kernel
theorem d_Sc_wayStretch_14 : decode c_Sc_wayStretch 14 = .ok (.sipush 1000, 3) := by decide +kernel
theorem d_Sc_wayStretch_17 : decode c_Sc_wayStretch 17 = .ok (.ireturn, 1) := by decide +kernel
theorem d_Sc_wayStretch_18 : decode c_Sc_wayStretch 18 = .ok (.sipush 1000, 3) := by decide +kernel
theorem d_Sc_wayStretch_21 : decode c_Sc_wayStretch 21 = .ok (.aload_n 0, 1) := by decide +kernel
theorem d_Sc_wayStretch_22 : decode c_Sc_wayStretch 22 = .ok (.iload_n 1, 1) := by decide +kernel
theorem d_Sc_wayStretch_23 : decode c_Sc_wayStretch 23 = .ok (.iload_n 2, 1) := by decide +kernel
theorem d_Sc_wayStretch_24 : decode c_Sc_wayStretch 24 = .ok (.iconst 1, 1) := by decide +kernel
theorem d_Sc_wayStretch_25 : decode c_Sc_wayStretch 25 = .ok (.invokevirtual 126, 3) := by decide +kernel
theorem d_Sc_wayStretch_28 : decode c_Sc_wayStretch 28 = .ok (.imul, 1) := by decide +kernel
theorem d_Sc_wayStretch_29 : decode c_Sc_wayStretch 29 = .ok (.iload_n 3, 1) := by decide +kernel
theorem d_Sc_wayStretch_30 : decode c_Sc_wayStretch 30 = .ok (.iadd, 1) := by decide +kernel
theorem d_Sc_wayStretch_31 : decode c_Sc_wayStretch 31 = .ok (.iconst 1, 1) := by decide +kernel
theorem d_Sc_wayStretch_32 : decode c_Sc_wayStretch 32 = .ok (.isub, 1) := by decide +kernel
theorem d_Sc_wayStretch_33 : decode c_Sc_wayStretch 33 = .ok (.iload_n 3, 1) := by decide +kernel
theorem d_Sc_wayStretch_34 : decode c_Sc_wayStretch 34 = .ok (.idiv, 1) := by decide +kernel
theorem d_Sc_wayStretch_35 : decode c_Sc_wayStretch 35 = .ok (.ireturn, 1) := by decide +kernel
