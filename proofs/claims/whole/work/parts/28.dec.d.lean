theorem d_Mo_init_0 : decode c_Mo_init 0 = .ok (.aload_n 0, 1) := by decide +kernel
theorem d_Mo_init_1 : decode c_Mo_init 1 = .ok (.invokespecial 1, 3) := by decide +kernel
theorem d_Mo_init_4 : decode c_Mo_init 4 = .ok (.aload_n 0, 1) := by decide +kernel
theorem d_Mo_init_5 : decode c_Mo_init 5 = .ok (.iconst 1, 1) := by decide +kernel
theorem d_Mo_init_6 : decode c_Mo_init 6 = .ok (.putfield 7, 3) := by decide +kernel
theorem d_Mo_init_9 : decode c_Mo_init 9 = .ok (.aload_n 0, 1) := by decide +kernel
theorem d_Mo_init_10 : decode c_Mo_init 10 = .ok (.sipush 1600, 3) := by decide +kernel
theorem d_Mo_init_13 : decode c_Mo_init 13 = .ok (.newarray .int, 2) := by decide +kernel
theorem d_Mo_init_15 : decode c_Mo_init 15 = .ok (.putfield 13, 3) := by decide +kernel
theorem d_Mo_init_18 : decode c_Mo_init 18 = .ok (.aload_n 0, 1) := by decide +kernel
theorem d_Mo_init_19 : decode c_Mo_init 19 = .ok (.sipush 640, 3) := by decide +kernel
theorem d_Mo_init_22 : decode c_Mo_init 22 = .ok (.newarray .int, 2) := by decide +kernel
theorem d_Mo_init_24 : decode c_Mo_init 24 = .ok (.putfield 17, 3) := by decide +kernel
theorem d_Mo_init_27 : decode c_Mo_init 27 = .ok (.aload_n 0, 1) := by decide +kernel
theorem d_Mo_init_28 : decode c_Mo_init 28 = .ok (.sipush 1600, 3) := by decide +kernel
theorem d_Mo_init_31 : decode c_Mo_init 31 = .ok (.newarray .int, 2) := by decide +kernel
theorem d_Mo_init_33 : decode c_Mo_init 33 = .ok (.putfield 20, 3) := by decide +kernel
theorem d_Mo_init_36 : decode c_Mo_init 36 = .ok (.aload_n 0, 1) := by decide +kernel
theorem d_Mo_init_37 : decode c_Mo_init 37 = .ok (.sipush 640, 3) := by decide +kernel
theorem d_Mo_init_40 : decode c_Mo_init 40 = .ok (.newarray .int, 2) := by decide +kernel
theorem d_Mo_init_42 : decode c_Mo_init 42 = .ok (.putfield 23, 3) := by decide +kernel
theorem d_Mo_init_45 : decode c_Mo_init 45 = .ok (.aload_n 0, 1) := by decide +kernel
theorem d_Mo_init_46 : decode c_Mo_init 46 = .ok (.sipush 1600, 3) := by decide +kernel
theorem d_Mo_init_49 : decode c_Mo_init 49 = .ok (.newarray .int, 2) := by decide +kernel
theorem d_Mo_init_51 : decode c_Mo_init 51 = .ok (.putfield 26, 3) := by decide +kernel
theorem d_Mo_init_54 : decode c_Mo_init 54 = .ok (.aload_n 0, 1) := by decide +kernel
theorem d_Mo_init_55 : decode c_Mo_init 55 = .ok (.sipush 1600, 3) := by decide +kernel
theorem d_Mo_init_58 : decode c_Mo_init 58 = .ok (.newarray .int, 2) := by decide +kernel
theorem d_Mo_init_60 : decode c_Mo_init 60 = .ok (.putfield 29, 3) := by decide +kernel
theorem d_Mo_init_63 : decode c_Mo_init 63 = .ok (.aload_n 0, 1) := by decide +kernel
theorem d_Mo_init_64 : decode c_Mo_init 64 = .ok (.bipush 40, 2) := by decide +kernel
theorem d_Mo_init_66 : decode c_Mo_init 66 = .ok (.newarray .boolean, 2) := by decide +kernel
theorem d_Mo_init_68 : decode c_Mo_init 68 = .ok (.putfield 32, 3) := by decide +kernel
theorem d_Mo_init_71 : decode c_Mo_init 71 = .ok (.aload_n 0, 1) := by decide +kernel
theorem d_Mo_init_72 : decode c_Mo_init 72 = .ok (.sipush 1600, 3) := by decide +kernel
theorem d_Mo_init_75 : decode c_Mo_init 75 = .ok (.newarray .boolean, 2) := by decide +kernel
theorem d_Mo_init_77 : decode c_Mo_init 77 = .ok (.putfield 36, 3) := by decide +kernel
theorem d_Mo_init_80 : decode c_Mo_init 80 = .ok (.aload_n 0, 1) := by decide +kernel
theorem d_Mo_init_81 : decode c_Mo_init 81 = .ok (.bipush 40, 2) := by decide +kernel
theorem d_Mo_init_83 : decode c_Mo_init 83 = .ok (.newarray .boolean, 2) := by decide +kernel
theorem d_Mo_init_85 : decode c_Mo_init 85 = .ok (.putfield 39, 3) := by decide +kernel
theorem d_Mo_init_88 : decode c_Mo_init 88 = .ok (.aload_n 0, 1) := by decide +kernel
theorem d_Mo_init_89 : decode c_Mo_init 89 = .ok (.bipush 40, 2) := by decide +kernel
theorem d_Mo_init_91 : decode c_Mo_init 91 = .ok (.newarray .int, 2) := by decide +kernel
theorem d_Mo_init_93 : decode c_Mo_init 93 = .ok (.putfield 42, 3) := by decide +kernel
theorem d_Mo_init_96 : decode c_Mo_init 96 = .ok (.aload_n 0, 1) := by decide +kernel
theorem d_Mo_init_97 : decode c_Mo_init 97 = .ok (.sipush 1600, 3) := by decide +kernel
theorem d_Mo_init_100 : decode c_Mo_init 100 = .ok (.newarray .int, 2) := by decide +kernel
theorem d_Mo_init_102 : decode c_Mo_init 102 = .ok (.putfield 45, 3) := by decide +kernel
theorem d_Mo_init_105 : decode c_Mo_init 105 = .ok (.aload_n 0, 1) := by decide +kernel
theorem d_Mo_init_106 : decode c_Mo_init 106 = .ok (.bipush 16, 2) := by decide +kernel
theorem d_Mo_init_108 : decode c_Mo_init 108 = .ok (.newarray .int, 2) := by decide +kernel
theorem d_Mo_init_110 : decode c_Mo_init 110 = .ok (.putfield 48, 3) := by decide +kernel
theorem d_Mo_init_113 : decode c_Mo_init 113 = .ok (.aload_n 0, 1) := by decide +kernel
theorem d_Mo_init_114 : decode c_Mo_init 114 = .ok (.bipush 16, 2) := by decide +kernel
theorem d_Mo_init_116 : decode c_Mo_init 116 = .ok (.newarray .int, 2) := by decide +kernel
theorem d_Mo_init_118 : decode c_Mo_init 118 = .ok (.putfield 51, 3) := by decide +kernel
theorem d_Mo_init_121 : decode c_Mo_init 121 = .ok (.aload_n 0, 1) := by decide +kernel
theorem d_Mo_init_122 : decode c_Mo_init 122 = .ok (.bipush 16, 2) := by decide +kernel
theorem d_Mo_init_124 : decode c_Mo_init 124 = .ok (.newarray .int, 2) := by decide +kernel
theorem d_Mo_init_126 : decode c_Mo_init 126 = .ok (.putfield 54, 3) := by decide +kernel
theorem d_Mo_init_129 : decode c_Mo_init 129 = .ok (.iconst 0, 1) := by decide +kernel
theorem d_Mo_init_130 : decode c_Mo_init 130 = .ok (.istore_n 1, 1) := by decide +kernel
theorem d_Mo_init_131 : decode c_Mo_init 131 = .ok (.iload_n 1, 1) := by decide +kernel
theorem d_Mo_init_132 : decode c_Mo_init 132 = .ok (.sipush 640, 3) := by decide +kernel
theorem d_Mo_init_135 : decode c_Mo_init 135 = .ok (.if_icmp .ge 16, 3) := by decide +kernel
theorem d_Mo_init_138 : decode c_Mo_init 138 = .ok (.aload_n 0, 1) := by decide +kernel
theorem d_Mo_init_139 : decode c_Mo_init 139 = .ok (.getfield 17, 3) := by decide +kernel
theorem d_Mo_init_142 : decode c_Mo_init 142 = .ok (.iload_n 1, 1) := by decide +kernel
theorem d_Mo_init_143 : decode c_Mo_init 143 = .ok (.iconst (-1), 1) := by decide +kernel
theorem d_Mo_init_144 : decode c_Mo_init 144 = .ok (.iastore, 1) := by decide +kernel
theorem d_Mo_init_145 : decode c_Mo_init 145 = .ok (.iinc 1 1, 3) := by decide +kernel
theorem d_Mo_init_148 : decode c_Mo_init 148 = .ok (.goto (-17), 3) := by decide +kernel
theorem d_Mo_init_151 : decode c_Mo_init 151 = .ok (.return_, 1) := by decide +kernel
theorem d_Mo_thrown_0 : decode c_Mo_thrown 0 = .ok (.aload_n 0, 1) := by decide +kernel
theorem d_Mo_thrown_1 : decode c_Mo_thrown 1 = .ok (.getfield 57, 3) := by decide +kernel
theorem d_Mo_thrown_4 : decode c_Mo_thrown 4 = .ok (.ireturn, 1) := by decide +kernel
theorem d_Mo_nodes_0 : decode c_Mo_nodes 0 = .ok (.aload_n 0, 1) := by decide +kernel
theorem d_Mo_nodes_1 : decode c_Mo_nodes 1 = .ok (.iload_n 1, 1) := by decide +kernel
theorem d_Mo_nodes_2 : decode c_Mo_nodes 2 = .ok (.iconst 1, 1) := by decide +kernel
theorem d_Mo_nodes_3 : decode c_Mo_nodes 3 = .ok (.if_icmp .lt 9, 3) := by decide +kernel
theorem d_Mo_nodes_6 : decode c_Mo_nodes 6 = .ok (.iload_n 1, 1) := by decide +kernel
theorem d_Mo_nodes_7 : decode c_Mo_nodes 7 = .ok (.bipush 40, 2) := by decide +kernel
theorem d_Mo_nodes_9 : decode c_Mo_nodes 9 = .ok (.if_icmp .le 7, 3) := by decide +kernel
theorem d_Mo_nodes_12 : decode c_Mo_nodes 12 = .ok (.iconst 1, 1) := by decide +kernel
theorem d_Mo_nodes_13 : decode c_Mo_nodes 13 = .ok (.goto 4, 3) := by decide +kernel
theorem d_Mo_nodes_16 : decode c_Mo_nodes 16 = .ok (.iconst 0, 1) := by decide +kernel
theorem d_Mo_nodes_17 : decode c_Mo_nodes 17 = .ok (.putfield 57, 3) := by decide +kernel
theorem d_Mo_nodes_20 : decode c_Mo_nodes 20 = .ok (.aload_n 0, 1) := by decide +kernel
theorem d_Mo_nodes_21 : decode c_Mo_nodes 21 = .ok (.getfield 57, 3) := by decide +kernel
theorem d_Mo_nodes_24 : decode c_Mo_nodes 24 = .ok (.ifCond .eq 4, 3) := by decide +kernel
theorem d_Mo_nodes_27 : decode c_Mo_nodes 27 = .ok (.return_, 1) := by decide +kernel
theorem d_Mo_nodes_28 : decode c_Mo_nodes 28 = .ok (.aload_n 0, 1) := by decide +kernel
theorem d_Mo_nodes_29 : decode c_Mo_nodes 29 = .ok (.iload_n 1, 1) := by decide +kernel
theorem d_Mo_nodes_30 : decode c_Mo_nodes 30 = .ok (.putfield 7, 3) := by decide +kernel
theorem d_Mo_nodes_33 : decode c_Mo_nodes 33 = .ok (.aload_n 0, 1) := by decide +kernel
theorem d_Mo_nodes_34 : decode c_Mo_nodes 34 = .ok (.iconst 0, 1) := by decide +kernel
theorem d_Mo_nodes_35 : decode c_Mo_nodes 35 = .ok (.putfield 60, 3) := by decide +kernel
theorem d_Mo_nodes_38 : decode c_Mo_nodes 38 = .ok (.iconst 0, 1) := by decide +kernel
theorem d_Mo_nodes_39 : decode c_Mo_nodes 39 = .ok (.istore_n 2, 1) := by decide +kernel
theorem d_Mo_nodes_40 : decode c_Mo_nodes 40 = .ok (.iload_n 2, 1) := by decide +kernel
theorem d_Mo_nodes_41 : decode c_Mo_nodes 41 = .ok (.sipush 1600, 3) := by decide +kernel
theorem d_Mo_nodes_44 : decode c_Mo_nodes 44 = .ok (.if_icmp .ge 16, 3) := by decide +kernel
theorem d_Mo_nodes_47 : decode c_Mo_nodes 47 = .ok (.aload_n 0, 1) := by decide +kernel
theorem d_Mo_nodes_48 : decode c_Mo_nodes 48 = .ok (.getfield 13, 3) := by decide +kernel
theorem d_Mo_nodes_51 : decode c_Mo_nodes 51 = .ok (.iload_n 2, 1) := by decide +kernel
theorem d_Mo_nodes_52 : decode c_Mo_nodes 52 = .ok (.iconst 0, 1) := by decide +kernel
theorem d_Mo_nodes_53 : decode c_Mo_nodes 53 = .ok (.iastore, 1) := by decide +kernel
theorem d_Mo_nodes_54 : decode c_Mo_nodes 54 = .ok (.iinc 2 1, 3) := by decide +kernel
theorem d_Mo_nodes_57 : decode c_Mo_nodes 57 = .ok (.goto (-17), 3) := by decide +kernel
theorem d_Mo_nodes_60 : decode c_Mo_nodes 60 = .ok (.iconst 0, 1) := by decide +kernel
theorem d_Mo_nodes_61 : decode c_Mo_nodes 61 = .ok (.istore_n 2, 1) := by decide +kernel
theorem d_Mo_nodes_62 : decode c_Mo_nodes 62 = .ok (.iload_n 2, 1) := by decide +kernel
theorem d_Mo_nodes_63 : decode c_Mo_nodes 63 = .ok (.sipush 640, 3) := by decide +kernel
theorem d_Mo_nodes_66 : decode c_Mo_nodes 66 = .ok (.if_icmp .ge 16, 3) := by decide +kernel
theorem d_Mo_nodes_69 : decode c_Mo_nodes 69 = .ok (.aload_n 0, 1) := by decide +kernel
theorem d_Mo_nodes_70 : decode c_Mo_nodes 70 = .ok (.getfield 17, 3) := by decide +kernel
theorem d_Mo_nodes_73 : decode c_Mo_nodes 73 = .ok (.iload_n 2, 1) := by decide +kernel
theorem d_Mo_nodes_74 : decode c_Mo_nodes 74 = .ok (.iconst (-1), 1) := by decide +kernel
theorem d_Mo_nodes_75 : decode c_Mo_nodes 75 = .ok (.iastore, 1) := by decide +kernel
theorem d_Mo_nodes_76 : decode c_Mo_nodes 76 = .ok (.iinc 2 1, 3) := by decide +kernel
theorem d_Mo_nodes_79 : decode c_Mo_nodes 79 = .ok (.goto (-17), 3) := by decide +kernel
theorem d_Mo_nodes_82 : decode c_Mo_nodes 82 = .ok (.aload_n 0, 1) := by decide +kernel
theorem d_Mo_nodes_83 : decode c_Mo_nodes 83 = .ok (.iconst 0, 1) := by decide +kernel
theorem d_Mo_nodes_84 : decode c_Mo_nodes 84 = .ok (.putfield 64, 3) := by decide +kernel
theorem d_Mo_nodes_87 : decode c_Mo_nodes 87 = .ok (.aload_n 0, 1) := by decide +kernel
theorem d_Mo_nodes_88 : decode c_Mo_nodes 88 = .ok (.iconst 0, 1) := by decide +kernel
theorem d_Mo_nodes_89 : decode c_Mo_nodes 89 = .ok (.putfield 67, 3) := by decide +kernel
theorem d_Mo_nodes_92 : decode c_Mo_nodes 92 = .ok (.return_, 1) := by decide +kernel
theorem d_Mo_edge_0 : decode c_Mo_edge 0 = .ok (.aload_n 0, 1) := by decide +kernel
theorem d_Mo_edge_1 : decode c_Mo_edge 1 = .ok (.aload_n 0, 1) := by decide +kernel
theorem d_Mo_edge_2 : decode c_Mo_edge 2 = .ok (.iload_n 1, 1) := by decide +kernel
theorem d_Mo_edge_3 : decode c_Mo_edge 3 = .ok (.invokevirtual 70, 3) := by decide +kernel
theorem d_Mo_edge_6 : decode c_Mo_edge 6 = .ok (.ifCond .eq 11, 3) := by decide +kernel
theorem d_Mo_edge_9 : decode c_Mo_edge 9 = .ok (.aload_n 0, 1) := by decide +kernel
theorem d_Mo_edge_10 : decode c_Mo_edge 10 = .ok (.iload_n 2, 1) := by decide +kernel
theorem d_Mo_edge_11 : decode c_Mo_edge 11 = .ok (.invokevirtual 70, 3) := by decide +kernel
theorem d_Mo_edge_14 : decode c_Mo_edge 14 = .ok (.ifCond .ne 7, 3) := by decide +kernel
theorem d_Mo_edge_17 : decode c_Mo_edge 17 = .ok (.iconst 1, 1) := by decide +kernel
theorem d_Mo_edge_18 : decode c_Mo_edge 18 = .ok (.goto 25, 3) := by decide +kernel
theorem d_Mo_edge_21 : decode c_Mo_edge 21 = .ok (.iload_n 1, 1) := by decide +kernel
theorem d_Mo_edge_22 : decode c_Mo_edge 22 = .ok (.iload_n 2, 1) := by decide +kernel
theorem d_Mo_edge_23 : decode c_Mo_edge 23 = .ok (.if_icmp .eq 15, 3) := by decide +kernel
theorem d_Mo_edge_26 : decode c_Mo_edge 26 = .ok (.iload_n 3, 1) := by decide +kernel
theorem d_Mo_edge_27 : decode c_Mo_edge 27 = .ok (.iconst 1, 1) := by decide +kernel
theorem d_Mo_edge_28 : decode c_Mo_edge 28 = .ok (.if_icmp .lt 10, 3) := by decide +kernel
theorem d_Mo_edge_31 : decode c_Mo_edge 31 = .ok (.iload_n 3, 1) := by decide +kernel
theorem d_Mo_edge_32 : decode c_Mo_edge 32 = .ok (.sipush 1000, 3) := by decide +kernel
theorem d_Mo_edge_35 : decode c_Mo_edge 35 = .ok (.if_icmp .le 7, 3) := by decide +kernel
theorem d_Mo_edge_38 : decode c_Mo_edge 38 = .ok (.iconst 2, 1) := by decide +kernel
theorem d_Mo_edge_39 : decode c_Mo_edge 39 = .ok (.goto 4, 3) := by decide +kernel
theorem d_Mo_edge_42 : decode c_Mo_edge 42 = .ok (.iconst 0, 1) := by decide +kernel
theorem d_Mo_edge_43 : decode c_Mo_edge 43 = .ok (.putfield 57, 3) := by decide +kernel
theorem d_Mo_edge_46 : decode c_Mo_edge 46 = .ok (.aload_n 0, 1) := by decide +kernel
theorem d_Mo_edge_47 : decode c_Mo_edge 47 = .ok (.getfield 57, 3) := by decide +kernel
theorem d_Mo_edge_50 : decode c_Mo_edge 50 = .ok (.ifCond .eq 5, 3) := by decide +kernel
theorem d_Mo_edge_53 : decode c_Mo_edge 53 = .ok (.iconst 0, 1) := by decide +kernel
theorem d_Mo_edge_54 : decode c_Mo_edge 54 = .ok (.ireturn, 1) := by decide +kernel
theorem d_Mo_edge_55 : decode c_Mo_edge 55 = .ok (.aload_n 0, 1) := by decide +kernel
theorem d_Mo_edge_56 : decode c_Mo_edge 56 = .ok (.getfield 17, 3) := by decide +kernel
theorem d_Mo_edge_59 : decode c_Mo_edge 59 = .ok (.iload_n 1, 1) := by decide +kernel
theorem d_Mo_edge_60 : decode c_Mo_edge 60 = .ok (.iload_n 2, 1) := by decide +kernel
theorem d_Mo_edge_61 : decode c_Mo_edge 61 = .ok (.invokestatic 74, 3) := by decide +kernel
theorem d_Mo_edge_64 : decode c_Mo_edge 64 = .ok (.istore 4, 2) := by decide +kernel
theorem d_Mo_edge_66 : decode c_Mo_edge 66 = .ok (.aload_n 0, 1) := by decide +kernel
theorem d_Mo_edge_67 : decode c_Mo_edge 67 = .ok (.getfield 17, 3) := by decide +kernel
theorem d_Mo_edge_70 : decode c_Mo_edge 70 = .ok (.iload_n 1, 1) := by decide +kernel
theorem d_Mo_edge_71 : decode c_Mo_edge 71 = .ok (.iconst (-1), 1) := by decide +kernel
theorem d_Mo_edge_72 : decode c_Mo_edge 72 = .ok (.invokestatic 74, 3) := by decide +kernel
theorem d_Mo_edge_75 : decode c_Mo_edge 75 = .ok (.istore 5, 2) := by decide +kernel
theorem d_Mo_edge_77 : decode c_Mo_edge 77 = .ok (.aload_n 0, 1) := by decide +kernel
theorem d_Mo_edge_78 : decode c_Mo_edge 78 = .ok (.getfield 17, 3) := by decide +kernel
theorem d_Mo_edge_81 : decode c_Mo_edge 81 = .ok (.iload_n 2, 1) := by decide +kernel
theorem d_Mo_edge_82 : decode c_Mo_edge 82 = .ok (.iconst (-1), 1) := by decide +kernel
theorem d_Mo_edge_83 : decode c_Mo_edge 83 = .ok (.invokestatic 74, 3) := by decide +kernel
theorem d_Mo_edge_86 : decode c_Mo_edge 86 = .ok (.istore 6, 2) := by decide +kernel
theorem d_Mo_edge_88 : decode c_Mo_edge 88 = .ok (.iload 4, 2) := by decide +kernel
theorem d_Mo_edge_90 : decode c_Mo_edge 90 = .ok (.ifCond .ge 20, 3) := by decide +kernel
theorem d_Mo_edge_93 : decode c_Mo_edge 93 = .ok (.iload 5, 2) := by decide +kernel
theorem d_Mo_edge_95 : decode c_Mo_edge 95 = .ok (.ifCond .lt 8, 3) := by decide +kernel
theorem d_Mo_edge_98 : decode c_Mo_edge 98 = .ok (.iload 6, 2) := by decide +kernel
theorem d_Mo_edge_100 : decode c_Mo_edge 100 = .ok (.ifCond .ge 10, 3) := by decide +kernel
theorem d_Mo_edge_103 : decode c_Mo_edge 103 = .ok (.aload_n 0, 1) := by decide +kernel
theorem d_Mo_edge_104 : decode c_Mo_edge 104 = .ok (.iconst 3, 1) := by decide +kernel
theorem d_Mo_edge_105 : decode c_Mo_edge 105 = .ok (.putfield 57, 3) := by decide +kernel
theorem d_Mo_edge_108 : decode c_Mo_edge 108 = .ok (.iconst 0, 1) := by decide +kernel
theorem d_Mo_edge_109 : decode c_Mo_edge 109 = .ok (.ireturn, 1) := by decide +kernel
theorem d_Mo_edge_110 : decode c_Mo_edge 110 = .ok (.aload_n 0, 1) := by decide +kernel
theorem d_Mo_edge_111 : decode c_Mo_edge 111 = .ok (.getfield 13, 3) := by decide +kernel
theorem d_Mo_edge_114 : decode c_Mo_edge 114 = .ok (.bipush 40, 2) := by decide +kernel
theorem d_Mo_edge_116 : decode c_Mo_edge 116 = .ok (.iload_n 1, 1) := by decide +kernel
theorem d_Mo_edge_117 : decode c_Mo_edge 117 = .ok (.imul, 1) := by decide +kernel
theorem d_Mo_edge_118 : decode c_Mo_edge 118 = .ok (.iload_n 2, 1) := by decide +kernel
theorem d_Mo_edge_119 : decode c_Mo_edge 119 = .ok (.iadd, 1) := by decide +kernel
theorem d_Mo_edge_120 : decode c_Mo_edge 120 = .ok (.iload_n 3, 1) := by decide +kernel
theorem d_Mo_edge_121 : decode c_Mo_edge 121 = .ok (.iastore, 1) := by decide +kernel
theorem d_Mo_edge_122 : decode c_Mo_edge 122 = .ok (.aload_n 0, 1) := by decide +kernel
theorem d_Mo_edge_123 : decode c_Mo_edge 123 = .ok (.getfield 13, 3) := by decide +kernel
theorem d_Mo_edge_126 : decode c_Mo_edge 126 = .ok (.bipush 40, 2) := by decide +kernel
theorem d_Mo_edge_128 : decode c_Mo_edge 128 = .ok (.iload_n 2, 1) := by decide +kernel
theorem d_Mo_edge_129 : decode c_Mo_edge 129 = .ok (.imul, 1) := by decide +kernel
theorem d_Mo_edge_130 : decode c_Mo_edge 130 = .ok (.iload_n 1, 1) := by decide +kernel
theorem d_Mo_edge_131 : decode c_Mo_edge 131 = .ok (.iadd, 1) := by decide +kernel
theorem d_Mo_edge_132 : decode c_Mo_edge 132 = .ok (.iload_n 3, 1) := by decide +kernel
theorem d_Mo_edge_133 : decode c_Mo_edge 133 = .ok (.iastore, 1) := by decide +kernel
theorem d_Mo_edge_134 : decode c_Mo_edge 134 = .ok (.iload 4, 2) := by decide +kernel
theorem d_Mo_edge_136 : decode c_Mo_edge 136 = .ok (.ifCond .lt 6, 3) := by decide +kernel
theorem d_Mo_edge_139 : decode c_Mo_edge 139 = .ok (.iload 4, 2) := by decide +kernel
theorem d_Mo_edge_141 : decode c_Mo_edge 141 = .ok (.ireturn, 1) := by decide +kernel
theorem d_Mo_edge_142 : decode c_Mo_edge 142 = .ok (.aload_n 0, 1) := by decide +kernel
theorem d_Mo_edge_143 : decode c_Mo_edge 143 = .ok (.getfield 17, 3) := by decide +kernel
theorem d_Mo_edge_146 : decode c_Mo_edge 146 = .ok (.bipush 16, 2) := by decide +kernel
theorem d_Mo_edge_148 : decode c_Mo_edge 148 = .ok (.iload_n 1, 1) := by decide +kernel
theorem d_Mo_edge_149 : decode c_Mo_edge 149 = .ok (.imul, 1) := by decide +kernel
theorem d_Mo_edge_150 : decode c_Mo_edge 150 = .ok (.iload 5, 2) := by decide +kernel
theorem d_Mo_edge_152 : decode c_Mo_edge 152 = .ok (.iadd, 1) := by decide +kernel
theorem d_Mo_edge_153 : decode c_Mo_edge 153 = .ok (.iload_n 2, 1) := by decide +kernel
theorem d_Mo_edge_154 : decode c_Mo_edge 154 = .ok (.iastore, 1) := by decide +kernel
theorem d_Mo_edge_155 : decode c_Mo_edge 155 = .ok (.aload_n 0, 1) := by decide +kernel
theorem d_Mo_edge_156 : decode c_Mo_edge 156 = .ok (.getfield 17, 3) := by decide +kernel
theorem d_Mo_edge_159 : decode c_Mo_edge 159 = .ok (.bipush 16, 2) := by decide +kernel
theorem d_Mo_edge_161 : decode c_Mo_edge 161 = .ok (.iload_n 2, 1) := by decide +kernel
theorem d_Mo_edge_162 : decode c_Mo_edge 162 = .ok (.imul, 1) := by decide +kernel
theorem d_Mo_edge_163 : decode c_Mo_edge 163 = .ok (.iload 6, 2) := by decide +kernel
theorem d_Mo_edge_165 : decode c_Mo_edge 165 = .ok (.iadd, 1) := by decide +kernel
theorem d_Mo_edge_166 : decode c_Mo_edge 166 = .ok (.iload_n 1, 1) := by decide +kernel
theorem d_Mo_edge_167 : decode c_Mo_edge 167 = .ok (.iastore, 1) := by decide +kernel
theorem d_Mo_edge_168 : decode c_Mo_edge 168 = .ok (.iload 5, 2) := by decide +kernel
theorem d_Mo_edge_170 : decode c_Mo_edge 170 = .ok (.ireturn, 1) := by decide +kernel
theorem d_Mo_isNode_0 : decode c_Mo_isNode 0 = .ok (.iload_n 1, 1) := by decide +kernel
theorem d_Mo_isNode_1 : decode c_Mo_isNode 1 = .ok (.ifCond .lt 15, 3) := by decide +kernel
theorem d_Mo_isNode_4 : decode c_Mo_isNode 4 = .ok (.iload_n 1, 1) := by decide +kernel
theorem d_Mo_isNode_5 : decode c_Mo_isNode 5 = .ok (.aload_n 0, 1) := by decide +kernel
theorem d_Mo_isNode_6 : decode c_Mo_isNode 6 = .ok (.getfield 7, 3) := by decide +kernel
theorem d_Mo_isNode_9 : decode c_Mo_isNode 9 = .ok (.if_icmp .ge 7, 3) := by decide +kernel
theorem d_Mo_isNode_12 : decode c_Mo_isNode 12 = .ok (.iconst 1, 1) := by decide +kernel
theorem d_Mo_isNode_13 : decode c_Mo_isNode 13 = .ok (.goto 4, 3) := by decide +kernel
theorem d_Mo_isNode_16 : decode c_Mo_isNode 16 = .ok (.iconst 0, 1) := by decide +kernel
theorem d_Mo_isNode_17 : decode c_Mo_isNode 17 = .ok (.ireturn, 1) := by decide +kernel
theorem d_Mo_portOf_0 : decode c_Mo_portOf 0 = .ok (.iconst 0, 1) := by decide +kernel
theorem d_Mo_portOf_1 : decode c_Mo_portOf 1 = .ok (.istore_n 3, 1) := by decide +kernel
theorem d_Mo_portOf_2 : decode c_Mo_portOf 2 = .ok (.iload_n 3, 1) := by decide +kernel
theorem d_Mo_portOf_3 : decode c_Mo_portOf 3 = .ok (.bipush 16, 2) := by decide +kernel
theorem d_Mo_portOf_5 : decode c_Mo_portOf 5 = .ok (.if_icmp .ge 23, 3) := by decide +kernel
theorem d_Mo_portOf_8 : decode c_Mo_portOf 8 = .ok (.aload_n 0, 1) := by decide +kernel
theorem d_Mo_portOf_9 : decode c_Mo_portOf 9 = .ok (.bipush 16, 2) := by decide +kernel
theorem d_Mo_portOf_11 : decode c_Mo_portOf 11 = .ok (.iload_n 1, 1) := by decide +kernel
theorem d_Mo_portOf_12 : decode c_Mo_portOf 12 = .ok (.imul, 1) := by decide +kernel
theorem d_Mo_portOf_13 : decode c_Mo_portOf 13 = .ok (.iload_n 3, 1) := by decide +kernel
theorem d_Mo_portOf_14 : decode c_Mo_portOf 14 = .ok (.iadd, 1) := by decide +kernel
theorem d_Mo_portOf_15 : decode c_Mo_portOf 15 = .ok (.iaload, 1) := by decide +kernel
theorem d_Mo_portOf_16 : decode c_Mo_portOf 16 = .ok (.iload_n 2, 1) := by decide +kernel
theorem d_Mo_portOf_17 : decode c_Mo_portOf 17 = .ok (.if_icmp .ne 5, 3) := by decide +kernel
theorem d_Mo_portOf_20 : decode c_Mo_portOf 20 = .ok (.iload_n 3, 1) := by decide +kernel
theorem d_Mo_portOf_21 : decode c_Mo_portOf 21 = .ok (.ireturn, 1) := by decide +kernel
theorem d_Mo_portOf_22 : decode c_Mo_portOf 22 = .ok (.iinc 3 1, 3) := by decide +kernel
theorem d_Mo_portOf_25 : decode c_Mo_portOf 25 = .ok (.goto (-23), 3) := by decide +kernel
theorem d_Mo_portOf_28 : decode c_Mo_portOf 28 = .ok (.iconst (-1), 1) := by decide +kernel
theorem d_Mo_portOf_29 : decode c_Mo_portOf 29 = .ok (.ireturn, 1) := by decide +kernel
theorem d_Mo_cut_0 : decode c_Mo_cut 0 = .ok (.aload_n 0, 1) := by decide +kernel
theorem d_Mo_cut_1 : decode c_Mo_cut 1 = .ok (.aload_n 0, 1) := by decide +kernel
theorem d_Mo_cut_2 : decode c_Mo_cut 2 = .ok (.iload_n 1, 1) := by decide +kernel
theorem d_Mo_cut_3 : decode c_Mo_cut 3 = .ok (.invokevirtual 70, 3) := by decide +kernel
theorem d_Mo_cut_6 : decode c_Mo_cut 6 = .ok (.ifCond .eq 11, 3) := by decide +kernel
theorem d_Mo_cut_9 : decode c_Mo_cut 9 = .ok (.aload_n 0, 1) := by decide +kernel
theorem d_Mo_cut_10 : decode c_Mo_cut 10 = .ok (.iload_n 2, 1) := by decide +kernel
theorem d_Mo_cut_11 : decode c_Mo_cut 11 = .ok (.invokevirtual 70, 3) := by decide +kernel
theorem d_Mo_cut_14 : decode c_Mo_cut 14 = .ok (.ifCond .ne 7, 3) := by decide +kernel
theorem d_Mo_cut_17 : decode c_Mo_cut 17 = .ok (.iconst 1, 1) := by decide +kernel
theorem d_Mo_cut_18 : decode c_Mo_cut 18 = .ok (.goto 22, 3) := by decide +kernel
theorem d_Mo_cut_21 : decode c_Mo_cut 21 = .ok (.aload_n 0, 1) := by decide +kernel
theorem d_Mo_cut_22 : decode c_Mo_cut 22 = .ok (.getfield 13, 3) := by decide +kernel
theorem d_Mo_cut_25 : decode c_Mo_cut 25 = .ok (.bipush 40, 2) := by decide +kernel
theorem d_Mo_cut_27 : decode c_Mo_cut 27 = .ok (.iload_n 1, 1) := by decide +kernel
theorem d_Mo_cut_28 : decode c_Mo_cut 28 = .ok (.imul, 1) := by decide +kernel
theorem d_Mo_cut_29 : decode c_Mo_cut 29 = .ok (.iload_n 2, 1) := by decide +kernel
theorem d_Mo_cut_30 : decode c_Mo_cut 30 = .ok (.iadd, 1) := by decide +kernel
theorem d_Mo_cut_31 : decode c_Mo_cut 31 = .ok (.iaload, 1) := by decide +kernel
theorem d_Mo_cut_32 : decode c_Mo_cut 32 = .ok (.ifCond .ne 7, 3) := by decide +kernel
theorem d_Mo_cut_35 : decode c_Mo_cut 35 = .ok (.iconst 2, 1) := by decide +kernel
theorem d_Mo_cut_36 : decode c_Mo_cut 36 = .ok (.goto 4, 3) := by decide +kernel
theorem d_Mo_cut_39 : decode c_Mo_cut 39 = .ok (.iconst 0, 1) := by decide +kernel
theorem d_Mo_cut_40 : decode c_Mo_cut 40 = .ok (.putfield 57, 3) := by decide +kernel
theorem d_Mo_cut_43 : decode c_Mo_cut 43 = .ok (.aload_n 0, 1) := by decide +kernel
theorem d_Mo_cut_44 : decode c_Mo_cut 44 = .ok (.getfield 57, 3) := by decide +kernel
theorem d_Mo_cut_47 : decode c_Mo_cut 47 = .ok (.ifCond .eq 5, 3) := by decide +kernel
theorem d_Mo_cut_50 : decode c_Mo_cut 50 = .ok (.iconst 0, 1) := by decide +kernel
theorem d_Mo_cut_51 : decode c_Mo_cut 51 = .ok (.ireturn, 1) := by decide +kernel
theorem d_Mo_cut_52 : decode c_Mo_cut 52 = .ok (.aload_n 0, 1) := by decide +kernel
theorem d_Mo_cut_53 : decode c_Mo_cut 53 = .ok (.getfield 13, 3) := by decide +kernel
theorem d_Mo_cut_56 : decode c_Mo_cut 56 = .ok (.bipush 40, 2) := by decide +kernel
theorem d_Mo_cut_58 : decode c_Mo_cut 58 = .ok (.iload_n 1, 1) := by decide +kernel
theorem d_Mo_cut_59 : decode c_Mo_cut 59 = .ok (.imul, 1) := by decide +kernel
theorem d_Mo_cut_60 : decode c_Mo_cut 60 = .ok (.iload_n 2, 1) := by decide +kernel
theorem d_Mo_cut_61 : decode c_Mo_cut 61 = .ok (.iadd, 1) := by decide +kernel
theorem d_Mo_cut_62 : decode c_Mo_cut 62 = .ok (.iaload, 1) := by decide +kernel
theorem d_Mo_cut_63 : decode c_Mo_cut 63 = .ok (.istore_n 3, 1) := by decide +kernel
theorem d_Mo_cut_64 : decode c_Mo_cut 64 = .ok (.aload_n 0, 1) := by decide +kernel
theorem d_Mo_cut_65 : decode c_Mo_cut 65 = .ok (.getfield 13, 3) := by decide +kernel
theorem d_Mo_cut_68 : decode c_Mo_cut 68 = .ok (.bipush 40, 2) := by decide +kernel
theorem d_Mo_cut_70 : decode c_Mo_cut 70 = .ok (.iload_n 1, 1) := by decide +kernel
theorem d_Mo_cut_71 : decode c_Mo_cut 71 = .ok (.imul, 1) := by decide +kernel
theorem d_Mo_cut_72 : decode c_Mo_cut 72 = .ok (.iload_n 2, 1) := by decide +kernel
theorem d_Mo_cut_73 : decode c_Mo_cut 73 = .ok (.iadd, 1) := by decide +kernel
theorem d_Mo_cut_74 : decode c_Mo_cut 74 = .ok (.iconst 0, 1) := by decide +kernel
theorem d_Mo_cut_75 : decode c_Mo_cut 75 = .ok (.iastore, 1) := by decide +kernel
theorem d_Mo_cut_76 : decode c_Mo_cut 76 = .ok (.aload_n 0, 1) := by decide +kernel
theorem d_Mo_cut_77 : decode c_Mo_cut 77 = .ok (.getfield 13, 3) := by decide +kernel
theorem d_Mo_cut_80 : decode c_Mo_cut 80 = .ok (.bipush 40, 2) := by decide +kernel
theorem d_Mo_cut_82 : decode c_Mo_cut 82 = .ok (.iload_n 2, 1) := by decide +kernel
theorem d_Mo_cut_83 : decode c_Mo_cut 83 = .ok (.imul, 1) := by decide +kernel
theorem d_Mo_cut_84 : decode c_Mo_cut 84 = .ok (.iload_n 1, 1) := by decide +kernel
theorem d_Mo_cut_85 : decode c_Mo_cut 85 = .ok (.iadd, 1) := by decide +kernel
theorem d_Mo_cut_86 : decode c_Mo_cut 86 = .ok (.iconst 0, 1) := by decide +kernel
theorem d_Mo_cut_87 : decode c_Mo_cut 87 = .ok (.iastore, 1) := by decide +kernel
theorem d_Mo_cut_88 : decode c_Mo_cut 88 = .ok (.aload_n 0, 1) := by decide +kernel
theorem d_Mo_cut_89 : decode c_Mo_cut 89 = .ok (.getfield 17, 3) := by decide +kernel
theorem d_Mo_cut_92 : decode c_Mo_cut 92 = .ok (.bipush 16, 2) := by decide +kernel
theorem d_Mo_cut_94 : decode c_Mo_cut 94 = .ok (.iload_n 1, 1) := by decide +kernel
theorem d_Mo_cut_95 : decode c_Mo_cut 95 = .ok (.imul, 1) := by decide +kernel
theorem d_Mo_cut_96 : decode c_Mo_cut 96 = .ok (.aload_n 0, 1) := by decide +kernel
theorem d_Mo_cut_97 : decode c_Mo_cut 97 = .ok (.getfield 17, 3) := by decide +kernel
theorem d_Mo_cut_100 : decode c_Mo_cut 100 = .ok (.iload_n 1, 1) := by decide +kernel
theorem d_Mo_cut_101 : decode c_Mo_cut 101 = .ok (.iload_n 2, 1) := by decide +kernel
theorem d_Mo_cut_102 : decode c_Mo_cut 102 = .ok (.invokestatic 74, 3) := by decide +kernel
theorem d_Mo_cut_105 : decode c_Mo_cut 105 = .ok (.iadd, 1) := by decide +kernel
theorem d_Mo_cut_106 : decode c_Mo_cut 106 = .ok (.iconst (-1), 1) := by decide +kernel
theorem d_Mo_cut_107 : decode c_Mo_cut 107 = .ok (.iastore, 1) := by decide +kernel
theorem d_Mo_cut_108 : decode c_Mo_cut 108 = .ok (.aload_n 0, 1) := by decide +kernel
theorem d_Mo_cut_109 : decode c_Mo_cut 109 = .ok (.getfield 17, 3) := by decide +kernel
theorem d_Mo_cut_112 : decode c_Mo_cut 112 = .ok (.bipush 16, 2) := by decide +kernel
theorem d_Mo_cut_114 : decode c_Mo_cut 114 = .ok (.iload_n 2, 1) := by decide +kernel
theorem d_Mo_cut_115 : decode c_Mo_cut 115 = .ok (.imul, 1) := by decide +kernel
theorem d_Mo_cut_116 : decode c_Mo_cut 116 = .ok (.aload_n 0, 1) := by decide +kernel
theorem d_Mo_cut_117 : decode c_Mo_cut 117 = .ok (.getfield 17, 3) := by decide +kernel
theorem d_Mo_cut_120 : decode c_Mo_cut 120 = .ok (.iload_n 2, 1) := by decide +kernel
theorem d_Mo_cut_121 : decode c_Mo_cut 121 = .ok (.iload_n 1, 1) := by decide +kernel
theorem d_Mo_cut_122 : decode c_Mo_cut 122 = .ok (.invokestatic 74, 3) := by decide +kernel
theorem d_Mo_cut_125 : decode c_Mo_cut 125 = .ok (.iadd, 1) := by decide +kernel
theorem d_Mo_cut_126 : decode c_Mo_cut 126 = .ok (.iconst (-1), 1) := by decide +kernel
theorem d_Mo_cut_127 : decode c_Mo_cut 127 = .ok (.iastore, 1) := by decide +kernel
theorem d_Mo_cut_128 : decode c_Mo_cut 128 = .ok (.iload_n 3, 1) := by decide +kernel
theorem d_Mo_cut_129 : decode c_Mo_cut 129 = .ok (.ireturn, 1) := by decide +kernel
theorem d_Mo_port_0 : decode c_Mo_port 0 = .ok (.aload_n 0, 1) := by decide +kernel
theorem d_Mo_port_1 : decode c_Mo_port 1 = .ok (.aload_n 0, 1) := by decide +kernel
theorem d_Mo_port_2 : decode c_Mo_port 2 = .ok (.iload_n 1, 1) := by decide +kernel
theorem d_Mo_port_3 : decode c_Mo_port 3 = .ok (.invokevirtual 70, 3) := by decide +kernel
theorem d_Mo_port_6 : decode c_Mo_port 6 = .ok (.ifCond .eq 13, 3) := by decide +kernel
theorem d_Mo_port_9 : decode c_Mo_port 9 = .ok (.iload_n 2, 1) := by decide +kernel
theorem d_Mo_port_10 : decode c_Mo_port 10 = .ok (.ifCond .lt 9, 3) := by decide +kernel
theorem d_Mo_port_13 : decode c_Mo_port 13 = .ok (.iload_n 2, 1) := by decide +kernel
theorem d_Mo_port_14 : decode c_Mo_port 14 = .ok (.bipush 15, 2) := by decide +kernel
theorem d_Mo_port_16 : decode c_Mo_port 16 = .ok (.if_icmp .le 7, 3) := by decide +kernel
theorem d_Mo_port_19 : decode c_Mo_port 19 = .ok (.iconst 1, 1) := by decide +kernel
theorem d_Mo_port_20 : decode c_Mo_port 20 = .ok (.goto 4, 3) := by decide +kernel
theorem d_Mo_port_23 : decode c_Mo_port 23 = .ok (.iconst 0, 1) := by decide +kernel
theorem d_Mo_port_24 : decode c_Mo_port 24 = .ok (.putfield 57, 3) := by decide +kernel
theorem d_Mo_port_27 : decode c_Mo_port 27 = .ok (.aload_n 0, 1) := by decide +kernel
theorem d_Mo_port_28 : decode c_Mo_port 28 = .ok (.getfield 57, 3) := by decide +kernel
theorem d_Mo_port_31 : decode c_Mo_port 31 = .ok (.ifCond .eq 7, 3) := by decide +kernel
theorem d_Mo_port_34 : decode c_Mo_port 34 = .ok (.iconst 0, 1) := by decide +kernel
theorem d_Mo_port_35 : decode c_Mo_port 35 = .ok (.goto 14, 3) := by decide +kernel
theorem d_Mo_port_38 : decode c_Mo_port 38 = .ok (.aload_n 0, 1) := by decide +kernel
theorem d_Mo_port_39 : decode c_Mo_port 39 = .ok (.getfield 17, 3) := by decide +kernel
theorem d_Mo_port_42 : decode c_Mo_port 42 = .ok (.bipush 16, 2) := by decide +kernel
theorem d_Mo_port_44 : decode c_Mo_port 44 = .ok (.iload_n 1, 1) := by decide +kernel
theorem d_Mo_port_45 : decode c_Mo_port 45 = .ok (.imul, 1) := by decide +kernel
theorem d_Mo_port_46 : decode c_Mo_port 46 = .ok (.iload_n 2, 1) := by decide +kernel
theorem d_Mo_port_47 : decode c_Mo_port 47 = .ok (.iadd, 1) := by decide +kernel
theorem d_Mo_port_48 : decode c_Mo_port 48 = .ok (.iaload, 1) := by decide +kernel
theorem d_Mo_port_49 : decode c_Mo_port 49 = .ok (.ireturn, 1) := by decide +kernel
theorem d_Mo_distance_0 : decode c_Mo_distance 0 = .ok (.aload_n 0, 1) := by decide +kernel
theorem d_Mo_distance_1 : decode c_Mo_distance 1 = .ok (.aload_n 0, 1) := by decide +kernel
theorem d_Mo_distance_2 : decode c_Mo_distance 2 = .ok (.iload_n 1, 1) := by decide +kernel
theorem d_Mo_distance_3 : decode c_Mo_distance 3 = .ok (.invokevirtual 70, 3) := by decide +kernel
theorem d_Mo_distance_6 : decode c_Mo_distance 6 = .ok (.ifCond .eq 11, 3) := by decide +kernel
theorem d_Mo_distance_9 : decode c_Mo_distance 9 = .ok (.aload_n 0, 1) := by decide +kernel
theorem d_Mo_distance_10 : decode c_Mo_distance 10 = .ok (.iload_n 2, 1) := by decide +kernel
theorem d_Mo_distance_11 : decode c_Mo_distance 11 = .ok (.invokevirtual 70, 3) := by decide +kernel
theorem d_Mo_distance_14 : decode c_Mo_distance 14 = .ok (.ifCond .ne 7, 3) := by decide +kernel
theorem d_Mo_distance_17 : decode c_Mo_distance 17 = .ok (.iconst 1, 1) := by decide +kernel
theorem d_Mo_distance_18 : decode c_Mo_distance 18 = .ok (.goto 4, 3) := by decide +kernel
theorem d_Mo_distance_21 : decode c_Mo_distance 21 = .ok (.iconst 0, 1) := by decide +kernel
theorem d_Mo_distance_22 : decode c_Mo_distance 22 = .ok (.putfield 57, 3) := by decide +kernel
theorem d_Mo_distance_25 : decode c_Mo_distance 25 = .ok (.aload_n 0, 1) := by decide +kernel
theorem d_Mo_distance_26 : decode c_Mo_distance 26 = .ok (.getfield 57, 3) := by decide +kernel
theorem d_Mo_distance_29 : decode c_Mo_distance 29 = .ok (.ifCond .eq 5, 3) := by decide +kernel
theorem d_Mo_distance_32 : decode c_Mo_distance 32 = .ok (.iconst 0, 1) := by decide +kernel
theorem d_Mo_distance_33 : decode c_Mo_distance 33 = .ok (.ireturn, 1) := by decide +kernel
theorem d_Mo_distance_34 : decode c_Mo_distance 34 = .ok (.aload_n 0, 1) := by decide +kernel
theorem d_Mo_distance_35 : decode c_Mo_distance 35 = .ok (.invokevirtual 79, 3) := by decide +kernel
theorem d_Mo_distance_38 : decode c_Mo_distance 38 = .ok (.aload_n 0, 1) := by decide +kernel
theorem d_Mo_distance_39 : decode c_Mo_distance 39 = .ok (.getfield 26, 3) := by decide +kernel
theorem d_Mo_distance_42 : decode c_Mo_distance 42 = .ok (.bipush 40, 2) := by decide +kernel
theorem d_Mo_distance_44 : decode c_Mo_distance 44 = .ok (.iload_n 1, 1) := by decide +kernel
theorem d_Mo_distance_45 : decode c_Mo_distance 45 = .ok (.imul, 1) := by decide +kernel
theorem d_Mo_distance_46 : decode c_Mo_distance 46 = .ok (.iload_n 2, 1) := by decide +kernel
theorem d_Mo_distance_47 : decode c_Mo_distance 47 = .ok (.iadd, 1) := by decide +kernel
theorem d_Mo_distance_48 : decode c_Mo_distance 48 = .ok (.iaload, 1) := by decide +kernel
theorem d_Mo_distance_49 : decode c_Mo_distance 49 = .ok (.ldc 78, 2) := by decide +kernel
theorem d_Mo_distance_51 : decode c_Mo_distance 51 = .ok (.if_icmp .lt 7, 3) := by decide +kernel
theorem d_Mo_distance_54 : decode c_Mo_distance 54 = .ok (.iconst (-1), 1) := by decide +kernel
theorem d_Mo_distance_55 : decode c_Mo_distance 55 = .ok (.goto 14, 3) := by decide +kernel
theorem d_Mo_distance_58 : decode c_Mo_distance 58 = .ok (.aload_n 0, 1) := by decide +kernel
theorem d_Mo_distance_59 : decode c_Mo_distance 59 = .ok (.getfield 26, 3) := by decide +kernel
theorem d_Mo_distance_62 : decode c_Mo_distance 62 = .ok (.bipush 40, 2) := by decide +kernel
theorem d_Mo_distance_64 : decode c_Mo_distance 64 = .ok (.iload_n 1, 1) := by decide +kernel
theorem d_Mo_distance_65 : decode c_Mo_distance 65 = .ok (.imul, 1) := by decide +kernel
theorem d_Mo_distance_66 : decode c_Mo_distance 66 = .ok (.iload_n 2, 1) := by decide +kernel
theorem d_Mo_distance_67 : decode c_Mo_distance 67 = .ok (.iadd, 1) := by decide +kernel
theorem d_Mo_distance_68 : decode c_Mo_distance 68 = .ok (.iaload, 1) := by decide +kernel
theorem d_Mo_distance_69 : decode c_Mo_distance 69 = .ok (.ireturn, 1) := by decide +kernel
theorem d_Mo_measure_0 : decode c_Mo_measure 0 = .ok (.iconst 0, 1) := by decide +kernel
theorem d_Mo_measure_1 : decode c_Mo_measure 1 = .ok (.istore_n 1, 1) := by decide +kernel
theorem d_Mo_measure_2 : decode c_Mo_measure 2 = .ok (.iload_n 1, 1) := by decide +kernel
theorem d_Mo_measure_3 : decode c_Mo_measure 3 = .ok (.aload_n 0, 1) := by decide +kernel
theorem d_Mo_measure_4 : decode c_Mo_measure 4 = .ok (.getfield 7, 3) := by decide +kernel
theorem d_Mo_measure_7 : decode c_Mo_measure 7 = .ok (.if_icmp .ge 75, 3) := by decide +kernel
theorem d_Mo_measure_10 : decode c_Mo_measure 10 = .ok (.iconst 0, 1) := by decide +kernel
theorem d_Mo_measure_11 : decode c_Mo_measure 11 = .ok (.istore_n 2, 1) := by decide +kernel
theorem d_Mo_measure_12 : decode c_Mo_measure 12 = .ok (.iload_n 2, 1) := by decide +kernel
theorem d_Mo_measure_13 : decode c_Mo_measure 13 = .ok (.aload_n 0, 1) := by decide +kernel
theorem d_Mo_measure_14 : decode c_Mo_measure 14 = .ok (.getfield 7, 3) := by decide +kernel
theorem d_Mo_measure_17 : decode c_Mo_measure 17 = .ok (.if_icmp .ge 59, 3) := by decide +kernel
theorem d_Mo_measure_20 : decode c_Mo_measure 20 = .ok (.aload_n 0, 1) := by decide +kernel
theorem d_Mo_measure_21 : decode c_Mo_measure 21 = .ok (.getfield 26, 3) := by decide +kernel
theorem d_Mo_measure_24 : decode c_Mo_measure 24 = .ok (.bipush 40, 2) := by decide +kernel
theorem d_Mo_measure_26 : decode c_Mo_measure 26 = .ok (.iload_n 1, 1) := by decide +kernel
theorem d_Mo_measure_27 : decode c_Mo_measure 27 = .ok (.imul, 1) := by decide +kernel
theorem d_Mo_measure_28 : decode c_Mo_measure 28 = .ok (.iload_n 2, 1) := by decide +kernel
theorem d_Mo_measure_29 : decode c_Mo_measure 29 = .ok (.iadd, 1) := by decide +kernel
theorem d_Mo_measure_30 : decode c_Mo_measure 30 = .ok (.iload_n 1, 1) := by decide +kernel
theorem d_Mo_measure_31 : decode c_Mo_measure 31 = .ok (.iload_n 2, 1) := by decide +kernel
theorem d_Mo_measure_32 : decode c_Mo_measure 32 = .ok (.if_icmp .ne 7, 3) := by decide +kernel
theorem d_Mo_measure_35 : decode c_Mo_measure 35 = .ok (.iconst 0, 1) := by decide +kernel
theorem d_Mo_measure_36 : decode c_Mo_measure 36 = .ok (.goto 33, 3) := by decide +kernel
theorem d_Mo_measure_39 : decode c_Mo_measure 39 = .ok (.aload_n 0, 1) := by decide +kernel
theorem d_Mo_measure_40 : decode c_Mo_measure 40 = .ok (.getfield 13, 3) := by decide +kernel
theorem d_Mo_measure_43 : decode c_Mo_measure 43 = .ok (.bipush 40, 2) := by decide +kernel
theorem d_Mo_measure_45 : decode c_Mo_measure 45 = .ok (.iload_n 1, 1) := by decide +kernel
theorem d_Mo_measure_46 : decode c_Mo_measure 46 = .ok (.imul, 1) := by decide +kernel
theorem d_Mo_measure_47 : decode c_Mo_measure 47 = .ok (.iload_n 2, 1) := by decide +kernel
theorem d_Mo_measure_48 : decode c_Mo_measure 48 = .ok (.iadd, 1) := by decide +kernel
theorem d_Mo_measure_49 : decode c_Mo_measure 49 = .ok (.iaload, 1) := by decide +kernel
theorem d_Mo_measure_50 : decode c_Mo_measure 50 = .ok (.ifCond .le 17, 3) := by decide +kernel
theorem d_Mo_measure_53 : decode c_Mo_measure 53 = .ok (.aload_n 0, 1) := by decide +kernel
theorem d_Mo_measure_54 : decode c_Mo_measure 54 = .ok (.getfield 13, 3) := by decide +kernel
theorem d_Mo_measure_57 : decode c_Mo_measure 57 = .ok (.bipush 40, 2) := by decide +kernel
theorem d_Mo_measure_59 : decode c_Mo_measure 59 = .ok (.iload_n 1, 1) := by decide +kernel
theorem d_Mo_measure_60 : decode c_Mo_measure 60 = .ok (.imul, 1) := by decide +kernel
theorem d_Mo_measure_61 : decode c_Mo_measure 61 = .ok (.iload_n 2, 1) := by decide +kernel
theorem d_Mo_measure_62 : decode c_Mo_measure 62 = .ok (.iadd, 1) := by decide +kernel
theorem d_Mo_measure_63 : decode c_Mo_measure 63 = .ok (.iaload, 1) := by decide +kernel
theorem d_Mo_measure_64 : decode c_Mo_measure 64 = .ok (.goto 5, 3) := by decide +kernel
theorem d_Mo_measure_67 : decode c_Mo_measure 67 = .ok (.ldc 78, 2) := by decide +kernel
theorem d_Mo_measure_69 : decode c_Mo_measure 69 = .ok (.iastore, 1) := by decide +kernel
theorem d_Mo_measure_70 : decode c_Mo_measure 70 = .ok (.iinc 2 1, 3) := by decide +kernel
theorem d_Mo_measure_73 : decode c_Mo_measure 73 = .ok (.goto (-61), 3) := by decide +kernel
theorem d_Mo_measure_76 : decode c_Mo_measure 76 = .ok (.iinc 1 1, 3) := by decide +kernel
theorem d_Mo_measure_79 : decode c_Mo_measure 79 = .ok (.goto (-77), 3) := by decide +kernel
theorem d_Mo_measure_82 : decode c_Mo_measure 82 = .ok (.iconst 0, 1) := by decide +kernel
theorem d_Mo_measure_83 : decode c_Mo_measure 83 = .ok (.istore_n 1, 1) := by decide +kernel
theorem d_Mo_measure_84 : decode c_Mo_measure 84 = .ok (.iload_n 1, 1) := by decide +kernel
theorem d_Mo_measure_85 : decode c_Mo_measure 85 = .ok (.aload_n 0, 1) := by decide +kernel
theorem d_Mo_measure_86 : decode c_Mo_measure 86 = .ok (.getfield 7, 3) := by decide +kernel
theorem d_Mo_measure_89 : decode c_Mo_measure 89 = .ok (.if_icmp .ge 109, 3) := by decide +kernel
theorem d_Mo_measure_92 : decode c_Mo_measure 92 = .ok (.iconst 0, 1) := by decide +kernel
theorem d_Mo_measure_93 : decode c_Mo_measure 93 = .ok (.istore_n 2, 1) := by decide +kernel
theorem d_Mo_measure_94 : decode c_Mo_measure 94 = .ok (.iload_n 2, 1) := by decide +kernel
theorem d_Mo_measure_95 : decode c_Mo_measure 95 = .ok (.aload_n 0, 1) := by decide +kernel
theorem d_Mo_measure_96 : decode c_Mo_measure 96 = .ok (.getfield 7, 3) := by decide +kernel
theorem d_Mo_measure_99 : decode c_Mo_measure 99 = .ok (.if_icmp .ge 93, 3) := by decide +kernel
theorem d_Mo_measure_102 : decode c_Mo_measure 102 = .ok (.iconst 0, 1) := by decide +kernel
theorem d_Mo_measure_103 : decode c_Mo_measure 103 = .ok (.istore_n 3, 1) := by decide +kernel
theorem d_Mo_measure_104 : decode c_Mo_measure 104 = .ok (.iload_n 3, 1) := by decide +kernel
theorem d_Mo_measure_105 : decode c_Mo_measure 105 = .ok (.aload_n 0, 1) := by decide +kernel
theorem d_Mo_measure_106 : decode c_Mo_measure 106 = .ok (.getfield 7, 3) := by decide +kernel
theorem d_Mo_measure_109 : decode c_Mo_measure 109 = .ok (.if_icmp .ge 77, 3) := by decide +kernel
theorem d_Mo_measure_112 : decode c_Mo_measure 112 = .ok (.aload_n 0, 1) := by decide +kernel
theorem d_Mo_measure_113 : decode c_Mo_measure 113 = .ok (.getfield 26, 3) := by decide +kernel
theorem d_Mo_measure_116 : decode c_Mo_measure 116 = .ok (.bipush 40, 2) := by decide +kernel
theorem d_Mo_measure_118 : decode c_Mo_measure 118 = .ok (.iload_n 2, 1) := by decide +kernel
theorem d_Mo_measure_119 : decode c_Mo_measure 119 = .ok (.imul, 1) := by decide +kernel
theorem d_Mo_measure_120 : decode c_Mo_measure 120 = .ok (.iload_n 1, 1) := by decide +kernel
theorem d_Mo_measure_121 : decode c_Mo_measure 121 = .ok (.iadd, 1) := by decide +kernel
theorem d_Mo_measure_122 : decode c_Mo_measure 122 = .ok (.iaload, 1) := by decide +kernel
theorem d_Mo_measure_123 : decode c_Mo_measure 123 = .ok (.aload_n 0, 1) := by decide +kernel
theorem d_Mo_measure_124 : decode c_Mo_measure 124 = .ok (.getfield 26, 3) := by decide +kernel
theorem d_Mo_measure_127 : decode c_Mo_measure 127 = .ok (.bipush 40, 2) := by decide +kernel
theorem d_Mo_measure_129 : decode c_Mo_measure 129 = .ok (.iload_n 1, 1) := by decide +kernel
theorem d_Mo_measure_130 : decode c_Mo_measure 130 = .ok (.imul, 1) := by decide +kernel
theorem d_Mo_measure_131 : decode c_Mo_measure 131 = .ok (.iload_n 3, 1) := by decide +kernel
theorem d_Mo_measure_132 : decode c_Mo_measure 132 = .ok (.iadd, 1) := by decide +kernel
theorem d_Mo_measure_133 : decode c_Mo_measure 133 = .ok (.iaload, 1) := by decide +kernel
theorem d_Mo_measure_134 : decode c_Mo_measure 134 = .ok (.iadd, 1) := by decide +kernel
theorem d_Mo_measure_135 : decode c_Mo_measure 135 = .ok (.istore 4, 2) := by decide +kernel
theorem d_Mo_measure_137 : decode c_Mo_measure 137 = .ok (.aload_n 0, 1) := by decide +kernel
theorem d_Mo_measure_138 : decode c_Mo_measure 138 = .ok (.getfield 26, 3) := by decide +kernel
theorem d_Mo_measure_141 : decode c_Mo_measure 141 = .ok (.bipush 40, 2) := by decide +kernel
theorem d_Mo_measure_143 : decode c_Mo_measure 143 = .ok (.iload_n 2, 1) := by decide +kernel
theorem d_Mo_measure_144 : decode c_Mo_measure 144 = .ok (.imul, 1) := by decide +kernel
theorem d_Mo_measure_145 : decode c_Mo_measure 145 = .ok (.iload_n 3, 1) := by decide +kernel
theorem d_Mo_measure_146 : decode c_Mo_measure 146 = .ok (.iadd, 1) := by decide +kernel
theorem d_Mo_measure_147 : decode c_Mo_measure 147 = .ok (.iload 4, 2) := by decide +kernel
theorem d_Mo_measure_149 : decode c_Mo_measure 149 = .ok (.aload_n 0, 1) := by decide +kernel
theorem d_Mo_measure_150 : decode c_Mo_measure 150 = .ok (.getfield 26, 3) := by decide +kernel
theorem d_Mo_measure_153 : decode c_Mo_measure 153 = .ok (.bipush 40, 2) := by decide +kernel
theorem d_Mo_measure_155 : decode c_Mo_measure 155 = .ok (.iload_n 2, 1) := by decide +kernel
theorem d_Mo_measure_156 : decode c_Mo_measure 156 = .ok (.imul, 1) := by decide +kernel
theorem d_Mo_measure_157 : decode c_Mo_measure 157 = .ok (.iload_n 3, 1) := by decide +kernel
theorem d_Mo_measure_158 : decode c_Mo_measure 158 = .ok (.iadd, 1) := by decide +kernel
theorem d_Mo_measure_159 : decode c_Mo_measure 159 = .ok (.iaload, 1) := by decide +kernel
theorem d_Mo_measure_160 : decode c_Mo_measure 160 = .ok (.if_icmp .ge 8, 3) := by decide +kernel
theorem d_Mo_measure_163 : decode c_Mo_measure 163 = .ok (.iload 4, 2) := by decide +kernel
theorem d_Mo_measure_165 : decode c_Mo_measure 165 = .ok (.goto 14, 3) := by decide +kernel
theorem d_Mo_measure_168 : decode c_Mo_measure 168 = .ok (.aload_n 0, 1) := by decide +kernel
theorem d_Mo_measure_169 : decode c_Mo_measure 169 = .ok (.getfield 26, 3) := by decide +kernel
theorem d_Mo_measure_172 : decode c_Mo_measure 172 = .ok (.bipush 40, 2) := by decide +kernel
theorem d_Mo_measure_174 : decode c_Mo_measure 174 = .ok (.iload_n 2, 1) := by decide +kernel
theorem d_Mo_measure_175 : decode c_Mo_measure 175 = .ok (.imul, 1) := by decide +kernel
theorem d_Mo_measure_176 : decode c_Mo_measure 176 = .ok (.iload_n 3, 1) := by decide +kernel
theorem d_Mo_measure_177 : decode c_Mo_measure 177 = .ok (.iadd, 1) := by decide +kernel
theorem d_Mo_measure_178 : decode c_Mo_measure 178 = .ok (.iaload, 1) := by decide +kernel
theorem d_Mo_measure_179 : decode c_Mo_measure 179 = .ok (.iastore, 1) := by decide +kernel
theorem d_Mo_measure_180 : decode c_Mo_measure 180 = .ok (.iinc 3 1, 3) := by decide +kernel
theorem d_Mo_measure_183 : decode c_Mo_measure 183 = .ok (.goto (-79), 3) := by decide +kernel
theorem d_Mo_measure_186 : decode c_Mo_measure 186 = .ok (.iinc 2 1, 3) := by decide +kernel
theorem d_Mo_measure_189 : decode c_Mo_measure 189 = .ok (.goto (-95), 3) := by decide +kernel
theorem d_Mo_measure_192 : decode c_Mo_measure 192 = .ok (.iinc 1 1, 3) := by decide +kernel
theorem d_Mo_measure_195 : decode c_Mo_measure 195 = .ok (.goto (-111), 3) := by decide +kernel
theorem d_Mo_measure_198 : decode c_Mo_measure 198 = .ok (.return_, 1) := by decide +kernel
