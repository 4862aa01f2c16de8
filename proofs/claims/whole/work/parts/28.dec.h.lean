theorem d_Lw_nodes_0 : decode c_Lw_nodes 0 = .ok (.aload_n 0, 1) := by decide +kernel
theorem d_Lw_nodes_1 : decode c_Lw_nodes 1 = .ok (.iload_n 1, 1) := by decide +kernel
theorem d_Lw_nodes_2 : decode c_Lw_nodes 2 = .ok (.invokevirtual 7, 3) := by decide +kernel
theorem d_Lw_nodes_5 : decode c_Lw_nodes 5 = .ok (.goto 6, 3) := by decide +kernel
theorem d_Lw_nodes_8 : decode c_Lw_nodes 8 = .ok (.astore_n 2, 1) := by decide +kernel
theorem d_Lw_nodes_9 : decode c_Lw_nodes 9 = .ok (.iconst 1, 1) := by decide +kernel
theorem d_Lw_nodes_10 : decode c_Lw_nodes 10 = .ok (.ireturn, 1) := by decide +kernel
theorem d_Lw_nodes_11 : decode c_Lw_nodes 11 = .ok (.iconst 0, 1) := by decide +kernel
theorem d_Lw_nodes_12 : decode c_Lw_nodes 12 = .ok (.ireturn, 1) := by decide +kernel
theorem d_Lw_edge_0 : decode c_Lw_edge 0 = .ok (.aload 4, 2) := by decide +kernel
theorem d_Lw_edge_2 : decode c_Lw_edge 2 = .ok (.iconst 0, 1) := by decide +kernel
theorem d_Lw_edge_3 : decode c_Lw_edge 3 = .ok (.aload_n 0, 1) := by decide +kernel
theorem d_Lw_edge_4 : decode c_Lw_edge 4 = .ok (.iload_n 1, 1) := by decide +kernel
theorem d_Lw_edge_5 : decode c_Lw_edge 5 = .ok (.iload_n 2, 1) := by decide +kernel
theorem d_Lw_edge_6 : decode c_Lw_edge 6 = .ok (.iload_n 3, 1) := by decide +kernel
theorem d_Lw_edge_7 : decode c_Lw_edge 7 = .ok (.invokevirtual 15, 3) := by decide +kernel
theorem d_Lw_edge_10 : decode c_Lw_edge 10 = .ok (.i2l, 1) := by decide +kernel
theorem d_Lw_edge_11 : decode c_Lw_edge 11 = .ok (.lastore, 1) := by decide +kernel
theorem d_Lw_edge_12 : decode c_Lw_edge 12 = .ok (.goto 15, 3) := by decide +kernel
theorem d_Lw_edge_15 : decode c_Lw_edge 15 = .ok (.astore 5, 2) := by decide +kernel
theorem d_Lw_edge_17 : decode c_Lw_edge 17 = .ok (.iconst 1, 1) := by decide +kernel
theorem d_Lw_edge_18 : decode c_Lw_edge 18 = .ok (.ireturn, 1) := by decide +kernel
theorem d_Lw_edge_19 : decode c_Lw_edge 19 = .ok (.astore 5, 2) := by decide +kernel
theorem d_Lw_edge_21 : decode c_Lw_edge 21 = .ok (.iconst 2, 1) := by decide +kernel
theorem d_Lw_edge_22 : decode c_Lw_edge 22 = .ok (.ireturn, 1) := by decide +kernel
theorem d_Lw_edge_23 : decode c_Lw_edge 23 = .ok (.astore 5, 2) := by decide +kernel
theorem d_Lw_edge_25 : decode c_Lw_edge 25 = .ok (.iconst 3, 1) := by decide +kernel
theorem d_Lw_edge_26 : decode c_Lw_edge 26 = .ok (.ireturn, 1) := by decide +kernel
theorem d_Lw_edge_27 : decode c_Lw_edge 27 = .ok (.iconst 0, 1) := by decide +kernel
theorem d_Lw_edge_28 : decode c_Lw_edge 28 = .ok (.ireturn, 1) := by decide +kernel
theorem d_Lw_cut_0 : decode c_Lw_cut 0 = .ok (.aload_n 3, 1) := by decide +kernel
theorem d_Lw_cut_1 : decode c_Lw_cut 1 = .ok (.iconst 0, 1) := by decide +kernel
theorem d_Lw_cut_2 : decode c_Lw_cut 2 = .ok (.aload_n 0, 1) := by decide +kernel
theorem d_Lw_cut_3 : decode c_Lw_cut 3 = .ok (.iload_n 1, 1) := by decide +kernel
theorem d_Lw_cut_4 : decode c_Lw_cut 4 = .ok (.iload_n 2, 1) := by decide +kernel
theorem d_Lw_cut_5 : decode c_Lw_cut 5 = .ok (.invokevirtual 23, 3) := by decide +kernel
theorem d_Lw_cut_8 : decode c_Lw_cut 8 = .ok (.i2l, 1) := by decide +kernel
theorem d_Lw_cut_9 : decode c_Lw_cut 9 = .ok (.lastore, 1) := by decide +kernel
theorem d_Lw_cut_10 : decode c_Lw_cut 10 = .ok (.goto 11, 3) := by decide +kernel
theorem d_Lw_cut_13 : decode c_Lw_cut 13 = .ok (.astore 4, 2) := by decide +kernel
theorem d_Lw_cut_15 : decode c_Lw_cut 15 = .ok (.iconst 1, 1) := by decide +kernel
theorem d_Lw_cut_16 : decode c_Lw_cut 16 = .ok (.ireturn, 1) := by decide +kernel
theorem d_Lw_cut_17 : decode c_Lw_cut 17 = .ok (.astore 4, 2) := by decide +kernel
theorem d_Lw_cut_19 : decode c_Lw_cut 19 = .ok (.iconst 2, 1) := by decide +kernel
theorem d_Lw_cut_20 : decode c_Lw_cut 20 = .ok (.ireturn, 1) := by decide +kernel
theorem d_Lw_cut_21 : decode c_Lw_cut 21 = .ok (.iconst 0, 1) := by decide +kernel
theorem d_Lw_cut_22 : decode c_Lw_cut 22 = .ok (.ireturn, 1) := by decide +kernel
theorem d_Lw_port_0 : decode c_Lw_port 0 = .ok (.aload_n 3, 1) := by decide +kernel
theorem d_Lw_port_1 : decode c_Lw_port 1 = .ok (.iconst 0, 1) := by decide +kernel
theorem d_Lw_port_2 : decode c_Lw_port 2 = .ok (.aload_n 0, 1) := by decide +kernel
theorem d_Lw_port_3 : decode c_Lw_port 3 = .ok (.iload_n 1, 1) := by decide +kernel
theorem d_Lw_port_4 : decode c_Lw_port 4 = .ok (.iload_n 2, 1) := by decide +kernel
theorem d_Lw_port_5 : decode c_Lw_port 5 = .ok (.invokevirtual 27, 3) := by decide +kernel
theorem d_Lw_port_8 : decode c_Lw_port 8 = .ok (.i2l, 1) := by decide +kernel
theorem d_Lw_port_9 : decode c_Lw_port 9 = .ok (.lastore, 1) := by decide +kernel
theorem d_Lw_port_10 : decode c_Lw_port 10 = .ok (.goto 7, 3) := by decide +kernel
theorem d_Lw_port_13 : decode c_Lw_port 13 = .ok (.astore 4, 2) := by decide +kernel
theorem d_Lw_port_15 : decode c_Lw_port 15 = .ok (.iconst 1, 1) := by decide +kernel
theorem d_Lw_port_16 : decode c_Lw_port 16 = .ok (.ireturn, 1) := by decide +kernel
theorem d_Lw_port_17 : decode c_Lw_port 17 = .ok (.iconst 0, 1) := by decide +kernel
theorem d_Lw_port_18 : decode c_Lw_port 18 = .ok (.ireturn, 1) := by decide +kernel
theorem d_Lw_build_0 : decode c_Lw_build 0 = .ok (.aload_n 2, 1) := by decide +kernel
theorem d_Lw_build_1 : decode c_Lw_build 1 = .ok (.iconst 0, 1) := by decide +kernel
theorem d_Lw_build_2 : decode c_Lw_build 2 = .ok (.aload_n 0, 1) := by decide +kernel
theorem d_Lw_build_3 : decode c_Lw_build 3 = .ok (.iload_n 1, 1) := by decide +kernel
theorem d_Lw_build_4 : decode c_Lw_build 4 = .ok (.invokevirtual 30, 3) := by decide +kernel
theorem d_Lw_build_7 : decode c_Lw_build 7 = .ok (.i2l, 1) := by decide +kernel
theorem d_Lw_build_8 : decode c_Lw_build 8 = .ok (.lastore, 1) := by decide +kernel
theorem d_Lw_build_9 : decode c_Lw_build 9 = .ok (.goto 9, 3) := by decide +kernel
theorem d_Lw_build_12 : decode c_Lw_build 12 = .ok (.astore_n 3, 1) := by decide +kernel
theorem d_Lw_build_13 : decode c_Lw_build 13 = .ok (.iconst 1, 1) := by decide +kernel
theorem d_Lw_build_14 : decode c_Lw_build 14 = .ok (.ireturn, 1) := by decide +kernel
theorem d_Lw_build_15 : decode c_Lw_build 15 = .ok (.astore_n 3, 1) := by decide +kernel
theorem d_Lw_build_16 : decode c_Lw_build 16 = .ok (.iconst 2, 1) := by decide +kernel
theorem d_Lw_build_17 : decode c_Lw_build 17 = .ok (.ireturn, 1) := by decide +kernel
theorem d_Lw_build_18 : decode c_Lw_build 18 = .ok (.iconst 0, 1) := by decide +kernel
theorem d_Lw_build_19 : decode c_Lw_build 19 = .ok (.ireturn, 1) := by decide +kernel
theorem d_Lw_landmark_0 : decode c_Lw_landmark 0 = .ok (.aload_n 2, 1) := by decide +kernel
theorem d_Lw_landmark_1 : decode c_Lw_landmark 1 = .ok (.iconst 0, 1) := by decide +kernel
theorem d_Lw_landmark_2 : decode c_Lw_landmark 2 = .ok (.aload_n 0, 1) := by decide +kernel
theorem d_Lw_landmark_3 : decode c_Lw_landmark 3 = .ok (.iload_n 1, 1) := by decide +kernel
theorem d_Lw_landmark_4 : decode c_Lw_landmark 4 = .ok (.invokevirtual 34, 3) := by decide +kernel
theorem d_Lw_landmark_7 : decode c_Lw_landmark 7 = .ok (.i2l, 1) := by decide +kernel
theorem d_Lw_landmark_8 : decode c_Lw_landmark 8 = .ok (.lastore, 1) := by decide +kernel
theorem d_Lw_landmark_9 : decode c_Lw_landmark 9 = .ok (.goto 9, 3) := by decide +kernel
theorem d_Lw_landmark_12 : decode c_Lw_landmark 12 = .ok (.astore_n 3, 1) := by decide +kernel
theorem d_Lw_landmark_13 : decode c_Lw_landmark 13 = .ok (.iconst 1, 1) := by decide +kernel
theorem d_Lw_landmark_14 : decode c_Lw_landmark 14 = .ok (.ireturn, 1) := by decide +kernel
theorem d_Lw_landmark_15 : decode c_Lw_landmark 15 = .ok (.astore_n 3, 1) := by decide +kernel
theorem d_Lw_landmark_16 : decode c_Lw_landmark 16 = .ok (.iconst 2, 1) := by decide +kernel
theorem d_Lw_landmark_17 : decode c_Lw_landmark 17 = .ok (.ireturn, 1) := by decide +kernel
theorem d_Lw_landmark_18 : decode c_Lw_landmark 18 = .ok (.iconst 0, 1) := by decide +kernel
theorem d_Lw_landmark_19 : decode c_Lw_landmark 19 = .ok (.ireturn, 1) := by decide +kernel
theorem d_Lw_table_0 : decode c_Lw_table 0 = .ok (.aload_n 3, 1) := by decide +kernel
theorem d_Lw_table_1 : decode c_Lw_table 1 = .ok (.iconst 0, 1) := by decide +kernel
theorem d_Lw_table_2 : decode c_Lw_table 2 = .ok (.aload_n 0, 1) := by decide +kernel
theorem d_Lw_table_3 : decode c_Lw_table 3 = .ok (.iload_n 1, 1) := by decide +kernel
theorem d_Lw_table_4 : decode c_Lw_table 4 = .ok (.iload_n 2, 1) := by decide +kernel
theorem d_Lw_table_5 : decode c_Lw_table 5 = .ok (.invokevirtual 37, 3) := by decide +kernel
theorem d_Lw_table_8 : decode c_Lw_table 8 = .ok (.i2l, 1) := by decide +kernel
theorem d_Lw_table_9 : decode c_Lw_table 9 = .ok (.lastore, 1) := by decide +kernel
theorem d_Lw_table_10 : decode c_Lw_table 10 = .ok (.goto 11, 3) := by decide +kernel
theorem d_Lw_table_13 : decode c_Lw_table 13 = .ok (.astore 4, 2) := by decide +kernel
theorem d_Lw_table_15 : decode c_Lw_table 15 = .ok (.iconst 1, 1) := by decide +kernel
theorem d_Lw_table_16 : decode c_Lw_table 16 = .ok (.ireturn, 1) := by decide +kernel
theorem d_Lw_table_17 : decode c_Lw_table 17 = .ok (.astore 4, 2) := by decide +kernel
theorem d_Lw_table_19 : decode c_Lw_table 19 = .ok (.iconst 2, 1) := by decide +kernel
theorem d_Lw_table_20 : decode c_Lw_table 20 = .ok (.ireturn, 1) := by decide +kernel
theorem d_Lw_table_21 : decode c_Lw_table 21 = .ok (.iconst 0, 1) := by decide +kernel
theorem d_Lw_table_22 : decode c_Lw_table 22 = .ok (.ireturn, 1) := by decide +kernel
theorem d_Lw_row_0 : decode c_Lw_row 0 = .ok (.aload_n 3, 1) := by decide +kernel
theorem d_Lw_row_1 : decode c_Lw_row 1 = .ok (.iconst 0, 1) := by decide +kernel
theorem d_Lw_row_2 : decode c_Lw_row 2 = .ok (.aload_n 0, 1) := by decide +kernel
theorem d_Lw_row_3 : decode c_Lw_row 3 = .ok (.iload_n 1, 1) := by decide +kernel
theorem d_Lw_row_4 : decode c_Lw_row 4 = .ok (.iload_n 2, 1) := by decide +kernel
theorem d_Lw_row_5 : decode c_Lw_row 5 = .ok (.invokevirtual 40, 3) := by decide +kernel
theorem d_Lw_row_8 : decode c_Lw_row 8 = .ok (.i2l, 1) := by decide +kernel
theorem d_Lw_row_9 : decode c_Lw_row 9 = .ok (.lastore, 1) := by decide +kernel
theorem d_Lw_row_10 : decode c_Lw_row 10 = .ok (.goto 15, 3) := by decide +kernel
theorem d_Lw_row_13 : decode c_Lw_row 13 = .ok (.astore 4, 2) := by decide +kernel
theorem d_Lw_row_15 : decode c_Lw_row 15 = .ok (.iconst 1, 1) := by decide +kernel
theorem d_Lw_row_16 : decode c_Lw_row 16 = .ok (.ireturn, 1) := by decide +kernel
theorem d_Lw_row_17 : decode c_Lw_row 17 = .ok (.astore 4, 2) := by decide +kernel
theorem d_Lw_row_19 : decode c_Lw_row 19 = .ok (.iconst 2, 1) := by decide +kernel
theorem d_Lw_row_20 : decode c_Lw_row 20 = .ok (.ireturn, 1) := by decide +kernel
theorem d_Lw_row_21 : decode c_Lw_row 21 = .ok (.astore 4, 2) := by decide +kernel
theorem d_Lw_row_23 : decode c_Lw_row 23 = .ok (.iconst 3, 1) := by decide +kernel
theorem d_Lw_row_24 : decode c_Lw_row 24 = .ok (.ireturn, 1) := by decide +kernel
theorem d_Lw_row_25 : decode c_Lw_row 25 = .ok (.iconst 0, 1) := by decide +kernel
theorem d_Lw_row_26 : decode c_Lw_row 26 = .ok (.ireturn, 1) := by decide +kernel
theorem d_Lw_label_0 : decode c_Lw_label 0 = .ok (.aload_n 3, 1) := by decide +kernel
theorem d_Lw_label_1 : decode c_Lw_label 1 = .ok (.iconst 0, 1) := by decide +kernel
theorem d_Lw_label_2 : decode c_Lw_label 2 = .ok (.aload_n 0, 1) := by decide +kernel
theorem d_Lw_label_3 : decode c_Lw_label 3 = .ok (.iload_n 1, 1) := by decide +kernel
theorem d_Lw_label_4 : decode c_Lw_label 4 = .ok (.iload_n 2, 1) := by decide +kernel
theorem d_Lw_label_5 : decode c_Lw_label 5 = .ok (.invokevirtual 43, 3) := by decide +kernel
theorem d_Lw_label_8 : decode c_Lw_label 8 = .ok (.i2l, 1) := by decide +kernel
theorem d_Lw_label_9 : decode c_Lw_label 9 = .ok (.lastore, 1) := by decide +kernel
theorem d_Lw_label_10 : decode c_Lw_label 10 = .ok (.goto 11, 3) := by decide +kernel
theorem d_Lw_label_13 : decode c_Lw_label 13 = .ok (.astore 4, 2) := by decide +kernel
theorem d_Lw_label_15 : decode c_Lw_label 15 = .ok (.iconst 1, 1) := by decide +kernel
theorem d_Lw_label_16 : decode c_Lw_label 16 = .ok (.ireturn, 1) := by decide +kernel
theorem d_Lw_label_17 : decode c_Lw_label 17 = .ok (.astore 4, 2) := by decide +kernel
theorem d_Lw_label_19 : decode c_Lw_label 19 = .ok (.iconst 2, 1) := by decide +kernel
theorem d_Lw_label_20 : decode c_Lw_label 20 = .ok (.ireturn, 1) := by decide +kernel
theorem d_Lw_label_21 : decode c_Lw_label 21 = .ok (.iconst 0, 1) := by decide +kernel
theorem d_Lw_label_22 : decode c_Lw_label 22 = .ok (.ireturn, 1) := by decide +kernel
theorem d_Lw_tree_0 : decode c_Lw_tree 0 = .ok (.aload 4, 2) := by decide +kernel
theorem d_Lw_tree_2 : decode c_Lw_tree 2 = .ok (.iconst 0, 1) := by decide +kernel
theorem d_Lw_tree_3 : decode c_Lw_tree 3 = .ok (.aload_n 0, 1) := by decide +kernel
theorem d_Lw_tree_4 : decode c_Lw_tree 4 = .ok (.iload_n 1, 1) := by decide +kernel
theorem d_Lw_tree_5 : decode c_Lw_tree 5 = .ok (.iload_n 2, 1) := by decide +kernel
theorem d_Lw_tree_6 : decode c_Lw_tree 6 = .ok (.iload_n 3, 1) := by decide +kernel
theorem d_Lw_tree_7 : decode c_Lw_tree 7 = .ok (.invokevirtual 46, 3) := by decide +kernel
theorem d_Lw_tree_10 : decode c_Lw_tree 10 = .ok (.i2l, 1) := by decide +kernel
theorem d_Lw_tree_11 : decode c_Lw_tree 11 = .ok (.lastore, 1) := by decide +kernel
theorem d_Lw_tree_12 : decode c_Lw_tree 12 = .ok (.goto 15, 3) := by decide +kernel
theorem d_Lw_tree_15 : decode c_Lw_tree 15 = .ok (.astore 5, 2) := by decide +kernel
theorem d_Lw_tree_17 : decode c_Lw_tree 17 = .ok (.iconst 1, 1) := by decide +kernel
theorem d_Lw_tree_18 : decode c_Lw_tree 18 = .ok (.ireturn, 1) := by decide +kernel
theorem d_Lw_tree_19 : decode c_Lw_tree 19 = .ok (.astore 5, 2) := by decide +kernel
theorem d_Lw_tree_21 : decode c_Lw_tree 21 = .ok (.iconst 2, 1) := by decide +kernel
theorem d_Lw_tree_22 : decode c_Lw_tree 22 = .ok (.ireturn, 1) := by decide +kernel
theorem d_Lw_tree_23 : decode c_Lw_tree 23 = .ok (.astore 5, 2) := by decide +kernel
theorem d_Lw_tree_25 : decode c_Lw_tree 25 = .ok (.iconst 3, 1) := by decide +kernel
theorem d_Lw_tree_26 : decode c_Lw_tree 26 = .ok (.ireturn, 1) := by decide +kernel
theorem d_Lw_tree_27 : decode c_Lw_tree 27 = .ok (.iconst 0, 1) := by decide +kernel
theorem d_Lw_tree_28 : decode c_Lw_tree 28 = .ok (.ireturn, 1) := by decide +kernel
theorem d_Lw_send_0 : decode c_Lw_send 0 = .ok (.aload_n 3, 1) := by decide +kernel
theorem d_Lw_send_1 : decode c_Lw_send 1 = .ok (.iconst 0, 1) := by decide +kernel
theorem d_Lw_send_2 : decode c_Lw_send 2 = .ok (.aload_n 0, 1) := by decide +kernel
theorem d_Lw_send_3 : decode c_Lw_send 3 = .ok (.iload_n 1, 1) := by decide +kernel
theorem d_Lw_send_4 : decode c_Lw_send 4 = .ok (.iload_n 2, 1) := by decide +kernel
theorem d_Lw_send_5 : decode c_Lw_send 5 = .ok (.invokevirtual 49, 3) := by decide +kernel
theorem d_Lw_send_8 : decode c_Lw_send 8 = .ok (.i2l, 1) := by decide +kernel
theorem d_Lw_send_9 : decode c_Lw_send 9 = .ok (.lastore, 1) := by decide +kernel
theorem d_Lw_send_10 : decode c_Lw_send 10 = .ok (.goto 11, 3) := by decide +kernel
theorem d_Lw_send_13 : decode c_Lw_send 13 = .ok (.astore 4, 2) := by decide +kernel
theorem d_Lw_send_15 : decode c_Lw_send 15 = .ok (.iconst 1, 1) := by decide +kernel
theorem d_Lw_send_16 : decode c_Lw_send 16 = .ok (.ireturn, 1) := by decide +kernel
theorem d_Lw_send_17 : decode c_Lw_send 17 = .ok (.astore 4, 2) := by decide +kernel
theorem d_Lw_send_19 : decode c_Lw_send 19 = .ok (.iconst 2, 1) := by decide +kernel
theorem d_Lw_send_20 : decode c_Lw_send 20 = .ok (.ireturn, 1) := by decide +kernel
theorem d_Lw_send_21 : decode c_Lw_send 21 = .ok (.iconst 0, 1) := by decide +kernel
theorem d_Lw_send_22 : decode c_Lw_send 22 = .ok (.ireturn, 1) := by decide +kernel
theorem d_Lw_hop_0 : decode c_Lw_hop 0 = .ok (.aload_n 2, 1) := by decide +kernel
theorem d_Lw_hop_1 : decode c_Lw_hop 1 = .ok (.iconst 0, 1) := by decide +kernel
theorem d_Lw_hop_2 : decode c_Lw_hop 2 = .ok (.aload_n 0, 1) := by decide +kernel
theorem d_Lw_hop_3 : decode c_Lw_hop 3 = .ok (.iload_n 1, 1) := by decide +kernel
theorem d_Lw_hop_4 : decode c_Lw_hop 4 = .ok (.invokevirtual 52, 3) := by decide +kernel
theorem d_Lw_hop_7 : decode c_Lw_hop 7 = .ok (.i2l, 1) := by decide +kernel
theorem d_Lw_hop_8 : decode c_Lw_hop 8 = .ok (.lastore, 1) := by decide +kernel
theorem d_Lw_hop_9 : decode c_Lw_hop 9 = .ok (.goto 6, 3) := by decide +kernel
theorem d_Lw_hop_12 : decode c_Lw_hop 12 = .ok (.astore_n 3, 1) := by decide +kernel
theorem d_Lw_hop_13 : decode c_Lw_hop 13 = .ok (.iconst 1, 1) := by decide +kernel
theorem d_Lw_hop_14 : decode c_Lw_hop 14 = .ok (.ireturn, 1) := by decide +kernel
theorem d_Lw_hop_15 : decode c_Lw_hop 15 = .ok (.iconst 0, 1) := by decide +kernel
theorem d_Lw_hop_16 : decode c_Lw_hop 16 = .ok (.ireturn, 1) := by decide +kernel
theorem d_Lw_weight_0 : decode c_Lw_weight 0 = .ok (.aload_n 2, 1) := by decide +kernel
theorem d_Lw_weight_1 : decode c_Lw_weight 1 = .ok (.iconst 0, 1) := by decide +kernel
theorem d_Lw_weight_2 : decode c_Lw_weight 2 = .ok (.aload_n 0, 1) := by decide +kernel
theorem d_Lw_weight_3 : decode c_Lw_weight 3 = .ok (.iload_n 1, 1) := by decide +kernel
theorem d_Lw_weight_4 : decode c_Lw_weight 4 = .ok (.invokevirtual 55, 3) := by decide +kernel
theorem d_Lw_weight_7 : decode c_Lw_weight 7 = .ok (.i2l, 1) := by decide +kernel
theorem d_Lw_weight_8 : decode c_Lw_weight 8 = .ok (.lastore, 1) := by decide +kernel
theorem d_Lw_weight_9 : decode c_Lw_weight 9 = .ok (.goto 6, 3) := by decide +kernel
theorem d_Lw_weight_12 : decode c_Lw_weight 12 = .ok (.astore_n 3, 1) := by decide +kernel
theorem d_Lw_weight_13 : decode c_Lw_weight 13 = .ok (.iconst 1, 1) := by decide +kernel
theorem d_Lw_weight_14 : decode c_Lw_weight 14 = .ok (.ireturn, 1) := by decide +kernel
theorem d_Lw_weight_15 : decode c_Lw_weight 15 = .ok (.iconst 0, 1) := by decide +kernel
theorem d_Lw_weight_16 : decode c_Lw_weight 16 = .ok (.ireturn, 1) := by decide +kernel
theorem d_Lw_distance_0 : decode c_Lw_distance 0 = .ok (.aload_n 3, 1) := by decide +kernel
theorem d_Lw_distance_1 : decode c_Lw_distance 1 = .ok (.iconst 0, 1) := by decide +kernel
theorem d_Lw_distance_2 : decode c_Lw_distance 2 = .ok (.aload_n 0, 1) := by decide +kernel
theorem d_Lw_distance_3 : decode c_Lw_distance 3 = .ok (.iload_n 1, 1) := by decide +kernel
theorem d_Lw_distance_4 : decode c_Lw_distance 4 = .ok (.iload_n 2, 1) := by decide +kernel
theorem d_Lw_distance_5 : decode c_Lw_distance 5 = .ok (.invokevirtual 58, 3) := by decide +kernel
theorem d_Lw_distance_8 : decode c_Lw_distance 8 = .ok (.i2l, 1) := by decide +kernel
theorem d_Lw_distance_9 : decode c_Lw_distance 9 = .ok (.lastore, 1) := by decide +kernel
theorem d_Lw_distance_10 : decode c_Lw_distance 10 = .ok (.goto 7, 3) := by decide +kernel
theorem d_Lw_distance_13 : decode c_Lw_distance 13 = .ok (.astore 4, 2) := by decide +kernel
theorem d_Lw_distance_15 : decode c_Lw_distance 15 = .ok (.iconst 1, 1) := by decide +kernel
theorem d_Lw_distance_16 : decode c_Lw_distance 16 = .ok (.ireturn, 1) := by decide +kernel
theorem d_Lw_distance_17 : decode c_Lw_distance 17 = .ok (.iconst 0, 1) := by decide +kernel
theorem d_Lw_distance_18 : decode c_Lw_distance 18 = .ok (.ireturn, 1) := by decide +kernel
theorem d_Lw_walk_0 : decode c_Lw_walk 0 = .ok (.aload 4, 2) := by decide +kernel
theorem d_Lw_walk_2 : decode c_Lw_walk 2 = .ok (.iconst 0, 1) := by decide +kernel
theorem d_Lw_walk_3 : decode c_Lw_walk 3 = .ok (.aload_n 0, 1) := by decide +kernel
theorem d_Lw_walk_4 : decode c_Lw_walk 4 = .ok (.iload_n 1, 1) := by decide +kernel
theorem d_Lw_walk_5 : decode c_Lw_walk 5 = .ok (.iload_n 2, 1) := by decide +kernel
theorem d_Lw_walk_6 : decode c_Lw_walk 6 = .ok (.iload_n 3, 1) := by decide +kernel
theorem d_Lw_walk_7 : decode c_Lw_walk 7 = .ok (.invokevirtual 61, 3) := by decide +kernel
theorem d_Lw_walk_10 : decode c_Lw_walk 10 = .ok (.i2l, 1) := by decide +kernel
theorem d_Lw_walk_11 : decode c_Lw_walk 11 = .ok (.lastore, 1) := by decide +kernel
theorem d_Lw_walk_12 : decode c_Lw_walk 12 = .ok (.goto 11, 3) := by decide +kernel
theorem d_Lw_walk_15 : decode c_Lw_walk 15 = .ok (.astore 5, 2) := by decide +kernel
theorem d_Lw_walk_17 : decode c_Lw_walk 17 = .ok (.iconst 1, 1) := by decide +kernel
theorem d_Lw_walk_18 : decode c_Lw_walk 18 = .ok (.ireturn, 1) := by decide +kernel
theorem d_Lw_walk_19 : decode c_Lw_walk 19 = .ok (.astore 5, 2) := by decide +kernel
theorem d_Lw_walk_21 : decode c_Lw_walk 21 = .ok (.iconst 2, 1) := by decide +kernel
theorem d_Lw_walk_22 : decode c_Lw_walk 22 = .ok (.ireturn, 1) := by decide +kernel
theorem d_Lw_walk_23 : decode c_Lw_walk 23 = .ok (.iconst 0, 1) := by decide +kernel
theorem d_Lw_walk_24 : decode c_Lw_walk 24 = .ok (.ireturn, 1) := by decide +kernel
