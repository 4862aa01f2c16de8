theorem d_Mo_word_0 : decode c_Mo_word 0 = .ok (.aload_n 0, 1) := by decide +kernel
theorem d_Mo_word_1 : decode c_Mo_word 1 = .ok (.getfield 42, 3) := by decide +kernel
theorem d_Mo_word_4 : decode c_Mo_word 4 = .ok (.iload_n 1, 1) := by decide +kernel
theorem d_Mo_word_5 : decode c_Mo_word 5 = .ok (.iaload, 1) := by decide +kernel
theorem d_Mo_word_6 : decode c_Mo_word 6 = .ok (.istore_n 3, 1) := by decide +kernel
theorem d_Mo_word_7 : decode c_Mo_word 7 = .ok (.iload_n 2, 1) := by decide +kernel
theorem d_Mo_word_8 : decode c_Mo_word 8 = .ok (.ifCond .ne 5, 3) := by decide +kernel
theorem d_Mo_word_11 : decode c_Mo_word 11 = .ok (.iload_n 1, 1) := by decide +kernel
theorem d_Mo_word_12 : decode c_Mo_word 12 = .ok (.ireturn, 1) := by decide +kernel
theorem d_Mo_word_13 : decode c_Mo_word 13 = .ok (.iload_n 2, 1) := by decide +kernel
theorem d_Mo_word_14 : decode c_Mo_word 14 = .ok (.iconst 1, 1) := by decide +kernel
theorem d_Mo_word_15 : decode c_Mo_word 15 = .ok (.if_icmp .ne 5, 3) := by decide +kernel
theorem d_Mo_word_18 : decode c_Mo_word 18 = .ok (.iload_n 3, 1) := by decide +kernel
theorem d_Mo_word_19 : decode c_Mo_word 19 = .ok (.ireturn, 1) := by decide +kernel
theorem d_Mo_word_20 : decode c_Mo_word 20 = .ok (.iload_n 2, 1) := by decide +kernel
theorem d_Mo_word_21 : decode c_Mo_word 21 = .ok (.iconst 2, 1) := by decide +kernel
theorem d_Mo_word_22 : decode c_Mo_word 22 = .ok (.if_icmp .ne 10, 3) := by decide +kernel
theorem d_Mo_word_25 : decode c_Mo_word 25 = .ok (.aload_n 0, 1) := by decide +kernel
theorem d_Mo_word_26 : decode c_Mo_word 26 = .ok (.iload_n 3, 1) := by decide +kernel
theorem d_Mo_word_27 : decode c_Mo_word 27 = .ok (.iload_n 1, 1) := by decide +kernel
theorem d_Mo_word_28 : decode c_Mo_word 28 = .ok (.invokevirtual 133, 3) := by decide +kernel
theorem d_Mo_word_31 : decode c_Mo_word 31 = .ok (.ireturn, 1) := by decide +kernel
theorem d_Mo_word_32 : decode c_Mo_word 32 = .ok (.iload_n 2, 1) := by decide +kernel
theorem d_Mo_word_33 : decode c_Mo_word 33 = .ok (.iconst 3, 1) := by decide +kernel
theorem d_Mo_word_34 : decode c_Mo_word 34 = .ok (.if_icmp .ne 12, 3) := by decide +kernel
theorem d_Mo_word_37 : decode c_Mo_word 37 = .ok (.aload_n 0, 1) := by decide +kernel
theorem d_Mo_word_38 : decode c_Mo_word 38 = .ok (.iload_n 3, 1) := by decide +kernel
theorem d_Mo_word_39 : decode c_Mo_word 39 = .ok (.iload_n 1, 1) := by decide +kernel
theorem d_Mo_word_40 : decode c_Mo_word 40 = .ok (.invokevirtual 136, 3) := by decide +kernel
theorem d_Mo_word_43 : decode c_Mo_word 43 = .ok (.goto 9, 3) := by decide +kernel
theorem d_Mo_word_46 : decode c_Mo_word 46 = .ok (.aload_n 0, 1) := by decide +kernel
theorem d_Mo_word_47 : decode c_Mo_word 47 = .ok (.iload_n 3, 1) := by decide +kernel
theorem d_Mo_word_48 : decode c_Mo_word 48 = .ok (.iload_n 1, 1) := by decide +kernel
theorem d_Mo_word_49 : decode c_Mo_word 49 = .ok (.invokevirtual 139, 3) := by decide +kernel
theorem d_Mo_word_52 : decode c_Mo_word 52 = .ok (.ireturn, 1) := by decide +kernel
theorem d_Mo_lights_0 : decode c_Mo_lights 0 = .ok (.iconst 0, 1) := by decide +kernel
theorem d_Mo_lights_1 : decode c_Mo_lights 1 = .ok (.istore_n 3, 1) := by decide +kernel
theorem d_Mo_lights_2 : decode c_Mo_lights 2 = .ok (.iload_n 2, 1) := by decide +kernel
theorem d_Mo_lights_3 : decode c_Mo_lights 3 = .ok (.istore 4, 2) := by decide +kernel
theorem d_Mo_lights_5 : decode c_Mo_lights 5 = .ok (.iload 4, 2) := by decide +kernel
theorem d_Mo_lights_7 : decode c_Mo_lights 7 = .ok (.iload_n 1, 1) := by decide +kernel
theorem d_Mo_lights_8 : decode c_Mo_lights 8 = .ok (.if_icmp .eq 38, 3) := by decide +kernel
theorem d_Mo_lights_11 : decode c_Mo_lights 11 = .ok (.iload_n 3, 1) := by decide +kernel
theorem d_Mo_lights_12 : decode c_Mo_lights 12 = .ok (.aload_n 0, 1) := by decide +kernel
theorem d_Mo_lights_13 : decode c_Mo_lights 13 = .ok (.iload_n 1, 1) := by decide +kernel
theorem d_Mo_lights_14 : decode c_Mo_lights 14 = .ok (.iload 4, 2) := by decide +kernel
theorem d_Mo_lights_16 : decode c_Mo_lights 16 = .ok (.invokevirtual 130, 3) := by decide +kernel
theorem d_Mo_lights_19 : decode c_Mo_lights 19 = .ok (.ifCond .eq 7, 3) := by decide +kernel
theorem d_Mo_lights_22 : decode c_Mo_lights 22 = .ok (.iconst 1, 1) := by decide +kernel
theorem d_Mo_lights_23 : decode c_Mo_lights 23 = .ok (.goto 4, 3) := by decide +kernel
theorem d_Mo_lights_26 : decode c_Mo_lights 26 = .ok (.iconst 0, 1) := by decide +kernel
theorem d_Mo_lights_27 : decode c_Mo_lights 27 = .ok (.iadd, 1) := by decide +kernel
theorem d_Mo_lights_28 : decode c_Mo_lights 28 = .ok (.istore_n 3, 1) := by decide +kernel
theorem d_Mo_lights_29 : decode c_Mo_lights 29 = .ok (.aload_n 0, 1) := by decide +kernel
theorem d_Mo_lights_30 : decode c_Mo_lights 30 = .ok (.getfield 45, 3) := by decide +kernel
theorem d_Mo_lights_33 : decode c_Mo_lights 33 = .ok (.bipush 40, 2) := by decide +kernel
theorem d_Mo_lights_35 : decode c_Mo_lights 35 = .ok (.iload_n 1, 1) := by decide +kernel
theorem d_Mo_lights_36 : decode c_Mo_lights 36 = .ok (.imul, 1) := by decide +kernel
theorem d_Mo_lights_37 : decode c_Mo_lights 37 = .ok (.iload 4, 2) := by decide +kernel
theorem d_Mo_lights_39 : decode c_Mo_lights 39 = .ok (.iadd, 1) := by decide +kernel
theorem d_Mo_lights_40 : decode c_Mo_lights 40 = .ok (.iaload, 1) := by decide +kernel
theorem d_Mo_lights_41 : decode c_Mo_lights 41 = .ok (.istore 4, 2) := by decide +kernel
theorem d_Mo_lights_43 : decode c_Mo_lights 43 = .ok (.goto (-38), 3) := by decide +kernel
theorem d_Mo_lights_46 : decode c_Mo_lights 46 = .ok (.iload_n 3, 1) := by decide +kernel
theorem d_Mo_lights_47 : decode c_Mo_lights 47 = .ok (.ireturn, 1) := by decide +kernel
theorem d_Mo_isLight_0 : decode c_Mo_isLight 0 = .ok (.aload_n 0, 1) := by decide +kernel
theorem d_Mo_isLight_1 : decode c_Mo_isLight 1 = .ok (.getfield 45, 3) := by decide +kernel
theorem d_Mo_isLight_4 : decode c_Mo_isLight 4 = .ok (.bipush 40, 2) := by decide +kernel
theorem d_Mo_isLight_6 : decode c_Mo_isLight 6 = .ok (.iload_n 1, 1) := by decide +kernel
theorem d_Mo_isLight_7 : decode c_Mo_isLight 7 = .ok (.imul, 1) := by decide +kernel
theorem d_Mo_isLight_8 : decode c_Mo_isLight 8 = .ok (.iload_n 2, 1) := by decide +kernel
theorem d_Mo_isLight_9 : decode c_Mo_isLight 9 = .ok (.iadd, 1) := by decide +kernel
theorem d_Mo_isLight_10 : decode c_Mo_isLight 10 = .ok (.iaload, 1) := by decide +kernel
theorem d_Mo_isLight_11 : decode c_Mo_isLight 11 = .ok (.istore_n 3, 1) := by decide +kernel
theorem d_Mo_isLight_12 : decode c_Mo_isLight 12 = .ok (.iload_n 3, 1) := by decide +kernel
theorem d_Mo_isLight_13 : decode c_Mo_isLight 13 = .ok (.ifCond .lt 17, 3) := by decide +kernel
theorem d_Mo_isLight_16 : decode c_Mo_isLight 16 = .ok (.aload_n 0, 1) := by decide +kernel
theorem d_Mo_isLight_17 : decode c_Mo_isLight 17 = .ok (.iload_n 1, 1) := by decide +kernel
theorem d_Mo_isLight_18 : decode c_Mo_isLight 18 = .ok (.iload_n 3, 1) := by decide +kernel
theorem d_Mo_isLight_19 : decode c_Mo_isLight 19 = .ok (.invokevirtual 124, 3) := by decide +kernel
theorem d_Mo_isLight_22 : decode c_Mo_isLight 22 = .ok (.iload_n 2, 1) := by decide +kernel
theorem d_Mo_isLight_23 : decode c_Mo_isLight 23 = .ok (.if_icmp .eq 7, 3) := by decide +kernel
theorem d_Mo_isLight_26 : decode c_Mo_isLight 26 = .ok (.iconst 1, 1) := by decide +kernel
theorem d_Mo_isLight_27 : decode c_Mo_isLight 27 = .ok (.goto 4, 3) := by decide +kernel
theorem d_Mo_isLight_30 : decode c_Mo_isLight 30 = .ok (.iconst 0, 1) := by decide +kernel
theorem d_Mo_isLight_31 : decode c_Mo_isLight 31 = .ok (.ireturn, 1) := by decide +kernel
theorem d_Mo_lightPorts_0 : decode c_Mo_lightPorts 0 = .ok (.iconst 0, 1) := by decide +kernel
theorem d_Mo_lightPorts_1 : decode c_Mo_lightPorts 1 = .ok (.istore_n 3, 1) := by decide +kernel
theorem d_Mo_lightPorts_2 : decode c_Mo_lightPorts 2 = .ok (.iload_n 2, 1) := by decide +kernel
theorem d_Mo_lightPorts_3 : decode c_Mo_lightPorts 3 = .ok (.istore 4, 2) := by decide +kernel
theorem d_Mo_lightPorts_5 : decode c_Mo_lightPorts 5 = .ok (.iload 4, 2) := by decide +kernel
theorem d_Mo_lightPorts_7 : decode c_Mo_lightPorts 7 = .ok (.iload_n 1, 1) := by decide +kernel
theorem d_Mo_lightPorts_8 : decode c_Mo_lightPorts 8 = .ok (.if_icmp .eq 57, 3) := by decide +kernel
theorem d_Mo_lightPorts_11 : decode c_Mo_lightPorts 11 = .ok (.aload_n 0, 1) := by decide +kernel
theorem d_Mo_lightPorts_12 : decode c_Mo_lightPorts 12 = .ok (.iload_n 1, 1) := by decide +kernel
theorem d_Mo_lightPorts_13 : decode c_Mo_lightPorts 13 = .ok (.iload 4, 2) := by decide +kernel
theorem d_Mo_lightPorts_15 : decode c_Mo_lightPorts 15 = .ok (.invokevirtual 130, 3) := by decide +kernel
theorem d_Mo_lightPorts_18 : decode c_Mo_lightPorts 18 = .ok (.ifCond .eq 30, 3) := by decide +kernel
theorem d_Mo_lightPorts_21 : decode c_Mo_lightPorts 21 = .ok (.iload_n 3, 1) := by decide +kernel
theorem d_Mo_lightPorts_22 : decode c_Mo_lightPorts 22 = .ok (.bipush 16, 2) := by decide +kernel
theorem d_Mo_lightPorts_24 : decode c_Mo_lightPorts 24 = .ok (.imul, 1) := by decide +kernel
theorem d_Mo_lightPorts_25 : decode c_Mo_lightPorts 25 = .ok (.aload_n 0, 1) := by decide +kernel
theorem d_Mo_lightPorts_26 : decode c_Mo_lightPorts 26 = .ok (.getfield 23, 3) := by decide +kernel
theorem d_Mo_lightPorts_29 : decode c_Mo_lightPorts 29 = .ok (.aload_n 0, 1) := by decide +kernel
theorem d_Mo_lightPorts_30 : decode c_Mo_lightPorts 30 = .ok (.getfield 45, 3) := by decide +kernel
theorem d_Mo_lightPorts_33 : decode c_Mo_lightPorts 33 = .ok (.bipush 40, 2) := by decide +kernel
theorem d_Mo_lightPorts_35 : decode c_Mo_lightPorts 35 = .ok (.iload_n 1, 1) := by decide +kernel
theorem d_Mo_lightPorts_36 : decode c_Mo_lightPorts 36 = .ok (.imul, 1) := by decide +kernel
theorem d_Mo_lightPorts_37 : decode c_Mo_lightPorts 37 = .ok (.iload 4, 2) := by decide +kernel
theorem d_Mo_lightPorts_39 : decode c_Mo_lightPorts 39 = .ok (.iadd, 1) := by decide +kernel
theorem d_Mo_lightPorts_40 : decode c_Mo_lightPorts 40 = .ok (.iaload, 1) := by decide +kernel
theorem d_Mo_lightPorts_41 : decode c_Mo_lightPorts 41 = .ok (.iload 4, 2) := by decide +kernel
theorem d_Mo_lightPorts_43 : decode c_Mo_lightPorts 43 = .ok (.invokestatic 74, 3) := by decide +kernel
theorem d_Mo_lightPorts_46 : decode c_Mo_lightPorts 46 = .ok (.iadd, 1) := by decide +kernel
theorem d_Mo_lightPorts_47 : decode c_Mo_lightPorts 47 = .ok (.istore_n 3, 1) := by decide +kernel
theorem d_Mo_lightPorts_48 : decode c_Mo_lightPorts 48 = .ok (.aload_n 0, 1) := by decide +kernel
theorem d_Mo_lightPorts_49 : decode c_Mo_lightPorts 49 = .ok (.getfield 45, 3) := by decide +kernel
theorem d_Mo_lightPorts_52 : decode c_Mo_lightPorts 52 = .ok (.bipush 40, 2) := by decide +kernel
theorem d_Mo_lightPorts_54 : decode c_Mo_lightPorts 54 = .ok (.iload_n 1, 1) := by decide +kernel
theorem d_Mo_lightPorts_55 : decode c_Mo_lightPorts 55 = .ok (.imul, 1) := by decide +kernel
theorem d_Mo_lightPorts_56 : decode c_Mo_lightPorts 56 = .ok (.iload 4, 2) := by decide +kernel
theorem d_Mo_lightPorts_58 : decode c_Mo_lightPorts 58 = .ok (.iadd, 1) := by decide +kernel
theorem d_Mo_lightPorts_59 : decode c_Mo_lightPorts 59 = .ok (.iaload, 1) := by decide +kernel
theorem d_Mo_lightPorts_60 : decode c_Mo_lightPorts 60 = .ok (.istore 4, 2) := by decide +kernel
theorem d_Mo_lightPorts_62 : decode c_Mo_lightPorts 62 = .ok (.goto (-57), 3) := by decide +kernel
theorem d_Mo_lightPorts_65 : decode c_Mo_lightPorts 65 = .ok (.iload_n 3, 1) := by decide +kernel
theorem d_Mo_lightPorts_66 : decode c_Mo_lightPorts 66 = .ok (.ireturn, 1) := by decide +kernel
theorem d_Mo_send_0 : decode c_Mo_send 0 = .ok (.aload_n 0, 1) := by decide +kernel
theorem d_Mo_send_1 : decode c_Mo_send 1 = .ok (.invokevirtual 113, 3) := by decide +kernel
theorem d_Mo_send_4 : decode c_Mo_send 4 = .ok (.ifCond .ne 5, 3) := by decide +kernel
theorem d_Mo_send_7 : decode c_Mo_send 7 = .ok (.iconst 0, 1) := by decide +kernel
theorem d_Mo_send_8 : decode c_Mo_send 8 = .ok (.ireturn, 1) := by decide +kernel
theorem d_Mo_send_9 : decode c_Mo_send 9 = .ok (.aload_n 0, 1) := by decide +kernel
theorem d_Mo_send_10 : decode c_Mo_send 10 = .ok (.aload_n 0, 1) := by decide +kernel
theorem d_Mo_send_11 : decode c_Mo_send 11 = .ok (.iload_n 1, 1) := by decide +kernel
theorem d_Mo_send_12 : decode c_Mo_send 12 = .ok (.invokevirtual 70, 3) := by decide +kernel
theorem d_Mo_send_15 : decode c_Mo_send 15 = .ok (.ifCond .eq 11, 3) := by decide +kernel
theorem d_Mo_send_18 : decode c_Mo_send 18 = .ok (.aload_n 0, 1) := by decide +kernel
theorem d_Mo_send_19 : decode c_Mo_send 19 = .ok (.iload_n 2, 1) := by decide +kernel
theorem d_Mo_send_20 : decode c_Mo_send 20 = .ok (.invokevirtual 70, 3) := by decide +kernel
theorem d_Mo_send_23 : decode c_Mo_send 23 = .ok (.ifCond .ne 7, 3) := by decide +kernel
theorem d_Mo_send_26 : decode c_Mo_send 26 = .ok (.iconst 2, 1) := by decide +kernel
theorem d_Mo_send_27 : decode c_Mo_send 27 = .ok (.goto 4, 3) := by decide +kernel
theorem d_Mo_send_30 : decode c_Mo_send 30 = .ok (.iconst 0, 1) := by decide +kernel
theorem d_Mo_send_31 : decode c_Mo_send 31 = .ok (.putfield 57, 3) := by decide +kernel
theorem d_Mo_send_34 : decode c_Mo_send 34 = .ok (.aload_n 0, 1) := by decide +kernel
theorem d_Mo_send_35 : decode c_Mo_send 35 = .ok (.getfield 57, 3) := by decide +kernel
theorem d_Mo_send_38 : decode c_Mo_send 38 = .ok (.ifCond .eq 5, 3) := by decide +kernel
theorem d_Mo_send_41 : decode c_Mo_send 41 = .ok (.iconst 0, 1) := by decide +kernel
theorem d_Mo_send_42 : decode c_Mo_send 42 = .ok (.ireturn, 1) := by decide +kernel
theorem d_Mo_send_43 : decode c_Mo_send 43 = .ok (.aload_n 0, 1) := by decide +kernel
theorem d_Mo_send_44 : decode c_Mo_send 44 = .ok (.getfield 64, 3) := by decide +kernel
theorem d_Mo_send_47 : decode c_Mo_send 47 = .ok (.bipush 16, 2) := by decide +kernel
theorem d_Mo_send_49 : decode c_Mo_send 49 = .ok (.irem, 1) := by decide +kernel
theorem d_Mo_send_50 : decode c_Mo_send 50 = .ok (.istore_n 3, 1) := by decide +kernel
theorem d_Mo_send_51 : decode c_Mo_send 51 = .ok (.aload_n 0, 1) := by decide +kernel
theorem d_Mo_send_52 : decode c_Mo_send 52 = .ok (.dup, 1) := by decide +kernel
theorem d_Mo_send_53 : decode c_Mo_send 53 = .ok (.getfield 64, 3) := by decide +kernel
theorem d_Mo_send_56 : decode c_Mo_send 56 = .ok (.iconst 1, 1) := by decide +kernel
theorem d_Mo_send_57 : decode c_Mo_send 57 = .ok (.iadd, 1) := by decide +kernel
theorem d_Mo_send_58 : decode c_Mo_send 58 = .ok (.putfield 64, 3) := by decide +kernel
theorem d_Mo_send_61 : decode c_Mo_send 61 = .ok (.aload_n 0, 1) := by decide +kernel
theorem d_Mo_send_62 : decode c_Mo_send 62 = .ok (.aload_n 0, 1) := by decide +kernel
theorem d_Mo_send_63 : decode c_Mo_send 63 = .ok (.getfield 67, 3) := by decide +kernel
theorem d_Mo_send_66 : decode c_Mo_send 66 = .ok (.bipush 16, 2) := by decide +kernel
theorem d_Mo_send_68 : decode c_Mo_send 68 = .ok (.if_icmp .ge 12, 3) := by decide +kernel
theorem d_Mo_send_71 : decode c_Mo_send 71 = .ok (.aload_n 0, 1) := by decide +kernel
theorem d_Mo_send_72 : decode c_Mo_send 72 = .ok (.getfield 67, 3) := by decide +kernel
theorem d_Mo_send_75 : decode c_Mo_send 75 = .ok (.iconst 1, 1) := by decide +kernel
theorem d_Mo_send_76 : decode c_Mo_send 76 = .ok (.iadd, 1) := by decide +kernel
theorem d_Mo_send_77 : decode c_Mo_send 77 = .ok (.goto 5, 3) := by decide +kernel
theorem d_Mo_send_80 : decode c_Mo_send 80 = .ok (.bipush 16, 2) := by decide +kernel
theorem d_Mo_send_82 : decode c_Mo_send 82 = .ok (.putfield 67, 3) := by decide +kernel
theorem d_Mo_send_85 : decode c_Mo_send 85 = .ok (.aload_n 0, 1) := by decide +kernel
theorem d_Mo_send_86 : decode c_Mo_send 86 = .ok (.getfield 48, 3) := by decide +kernel
theorem d_Mo_send_89 : decode c_Mo_send 89 = .ok (.iload_n 3, 1) := by decide +kernel
theorem d_Mo_send_90 : decode c_Mo_send 90 = .ok (.iload_n 1, 1) := by decide +kernel
theorem d_Mo_send_91 : decode c_Mo_send 91 = .ok (.iastore, 1) := by decide +kernel
theorem d_Mo_send_92 : decode c_Mo_send 92 = .ok (.aload_n 0, 1) := by decide +kernel
theorem d_Mo_send_93 : decode c_Mo_send 93 = .ok (.getfield 51, 3) := by decide +kernel
theorem d_Mo_send_96 : decode c_Mo_send 96 = .ok (.iload_n 3, 1) := by decide +kernel
theorem d_Mo_send_97 : decode c_Mo_send 97 = .ok (.iload_n 2, 1) := by decide +kernel
theorem d_Mo_send_98 : decode c_Mo_send 98 = .ok (.iastore, 1) := by decide +kernel
theorem d_Mo_send_99 : decode c_Mo_send 99 = .ok (.aload_n 0, 1) := by decide +kernel
theorem d_Mo_send_100 : decode c_Mo_send 100 = .ok (.getfield 54, 3) := by decide +kernel
theorem d_Mo_send_103 : decode c_Mo_send 103 = .ok (.iload_n 3, 1) := by decide +kernel
theorem d_Mo_send_104 : decode c_Mo_send 104 = .ok (.iconst 0, 1) := by decide +kernel
theorem d_Mo_send_105 : decode c_Mo_send 105 = .ok (.iastore, 1) := by decide +kernel
theorem d_Mo_send_106 : decode c_Mo_send 106 = .ok (.iload_n 3, 1) := by decide +kernel
theorem d_Mo_send_107 : decode c_Mo_send 107 = .ok (.ireturn, 1) := by decide +kernel
theorem d_Mo_hop_0 : decode c_Mo_hop 0 = .ok (.aload_n 0, 1) := by decide +kernel
theorem d_Mo_hop_1 : decode c_Mo_hop 1 = .ok (.iload_n 1, 1) := by decide +kernel
theorem d_Mo_hop_2 : decode c_Mo_hop 2 = .ok (.invokevirtual 145, 3) := by decide +kernel
theorem d_Mo_hop_5 : decode c_Mo_hop 5 = .ok (.ifCond .ne 5, 3) := by decide +kernel
theorem d_Mo_hop_8 : decode c_Mo_hop 8 = .ok (.iconst 0, 1) := by decide +kernel
theorem d_Mo_hop_9 : decode c_Mo_hop 9 = .ok (.ireturn, 1) := by decide +kernel
theorem d_Mo_hop_10 : decode c_Mo_hop 10 = .ok (.aload_n 0, 1) := by decide +kernel
theorem d_Mo_hop_11 : decode c_Mo_hop 11 = .ok (.aload_n 0, 1) := by decide +kernel
theorem d_Mo_hop_12 : decode c_Mo_hop 12 = .ok (.getfield 48, 3) := by decide +kernel
theorem d_Mo_hop_15 : decode c_Mo_hop 15 = .ok (.iload_n 1, 1) := by decide +kernel
theorem d_Mo_hop_16 : decode c_Mo_hop 16 = .ok (.iaload, 1) := by decide +kernel
theorem d_Mo_hop_17 : decode c_Mo_hop 17 = .ok (.aload_n 0, 1) := by decide +kernel
theorem d_Mo_hop_18 : decode c_Mo_hop 18 = .ok (.getfield 51, 3) := by decide +kernel
theorem d_Mo_hop_21 : decode c_Mo_hop 21 = .ok (.iload_n 1, 1) := by decide +kernel
theorem d_Mo_hop_22 : decode c_Mo_hop 22 = .ok (.iaload, 1) := by decide +kernel
theorem d_Mo_hop_23 : decode c_Mo_hop 23 = .ok (.invokevirtual 148, 3) := by decide +kernel
theorem d_Mo_hop_26 : decode c_Mo_hop 26 = .ok (.istore_n 2, 1) := by decide +kernel
theorem d_Mo_hop_27 : decode c_Mo_hop 27 = .ok (.aload_n 0, 1) := by decide +kernel
theorem d_Mo_hop_28 : decode c_Mo_hop 28 = .ok (.getfield 54, 3) := by decide +kernel
theorem d_Mo_hop_31 : decode c_Mo_hop 31 = .ok (.iload_n 1, 1) := by decide +kernel
theorem d_Mo_hop_32 : decode c_Mo_hop 32 = .ok (.dup2, 1) := by decide +kernel
theorem d_Mo_hop_33 : decode c_Mo_hop 33 = .ok (.iaload, 1) := by decide +kernel
theorem d_Mo_hop_34 : decode c_Mo_hop 34 = .ok (.iload_n 2, 1) := by decide +kernel
theorem d_Mo_hop_35 : decode c_Mo_hop 35 = .ok (.aload_n 0, 1) := by decide +kernel
theorem d_Mo_hop_36 : decode c_Mo_hop 36 = .ok (.getfield 48, 3) := by decide +kernel
theorem d_Mo_hop_39 : decode c_Mo_hop 39 = .ok (.iload_n 1, 1) := by decide +kernel
theorem d_Mo_hop_40 : decode c_Mo_hop 40 = .ok (.iaload, 1) := by decide +kernel
theorem d_Mo_hop_41 : decode c_Mo_hop 41 = .ok (.if_icmp .ne 7, 3) := by decide +kernel
theorem d_Mo_hop_44 : decode c_Mo_hop 44 = .ok (.iconst 0, 1) := by decide +kernel
theorem d_Mo_hop_45 : decode c_Mo_hop 45 = .ok (.goto 19, 3) := by decide +kernel
theorem d_Mo_hop_48 : decode c_Mo_hop 48 = .ok (.aload_n 0, 1) := by decide +kernel
theorem d_Mo_hop_49 : decode c_Mo_hop 49 = .ok (.getfield 20, 3) := by decide +kernel
theorem d_Mo_hop_52 : decode c_Mo_hop 52 = .ok (.bipush 40, 2) := by decide +kernel
theorem d_Mo_hop_54 : decode c_Mo_hop 54 = .ok (.aload_n 0, 1) := by decide +kernel
theorem d_Mo_hop_55 : decode c_Mo_hop 55 = .ok (.getfield 48, 3) := by decide +kernel
theorem d_Mo_hop_58 : decode c_Mo_hop 58 = .ok (.iload_n 1, 1) := by decide +kernel
theorem d_Mo_hop_59 : decode c_Mo_hop 59 = .ok (.iaload, 1) := by decide +kernel
theorem d_Mo_hop_60 : decode c_Mo_hop 60 = .ok (.imul, 1) := by decide +kernel
theorem d_Mo_hop_61 : decode c_Mo_hop 61 = .ok (.iload_n 2, 1) := by decide +kernel
theorem d_Mo_hop_62 : decode c_Mo_hop 62 = .ok (.iadd, 1) := by decide +kernel
theorem d_Mo_hop_63 : decode c_Mo_hop 63 = .ok (.iaload, 1) := by decide +kernel
theorem d_Mo_hop_64 : decode c_Mo_hop 64 = .ok (.iadd, 1) := by decide +kernel
theorem d_Mo_hop_65 : decode c_Mo_hop 65 = .ok (.iastore, 1) := by decide +kernel
theorem d_Mo_hop_66 : decode c_Mo_hop 66 = .ok (.aload_n 0, 1) := by decide +kernel
theorem d_Mo_hop_67 : decode c_Mo_hop 67 = .ok (.getfield 48, 3) := by decide +kernel
theorem d_Mo_hop_70 : decode c_Mo_hop 70 = .ok (.iload_n 1, 1) := by decide +kernel
theorem d_Mo_hop_71 : decode c_Mo_hop 71 = .ok (.iload_n 2, 1) := by decide +kernel
theorem d_Mo_hop_72 : decode c_Mo_hop 72 = .ok (.iastore, 1) := by decide +kernel
theorem d_Mo_hop_73 : decode c_Mo_hop 73 = .ok (.iload_n 2, 1) := by decide +kernel
theorem d_Mo_hop_74 : decode c_Mo_hop 74 = .ok (.ireturn, 1) := by decide +kernel
theorem d_Mo_isPacket_0 : decode c_Mo_isPacket 0 = .ok (.aload_n 0, 1) := by decide +kernel
theorem d_Mo_isPacket_1 : decode c_Mo_isPacket 1 = .ok (.iload_n 1, 1) := by decide +kernel
theorem d_Mo_isPacket_2 : decode c_Mo_isPacket 2 = .ok (.ifCond .lt 11, 3) := by decide +kernel
theorem d_Mo_isPacket_5 : decode c_Mo_isPacket 5 = .ok (.iload_n 1, 1) := by decide +kernel
theorem d_Mo_isPacket_6 : decode c_Mo_isPacket 6 = .ok (.aload_n 0, 1) := by decide +kernel
theorem d_Mo_isPacket_7 : decode c_Mo_isPacket 7 = .ok (.getfield 67, 3) := by decide +kernel
theorem d_Mo_isPacket_10 : decode c_Mo_isPacket 10 = .ok (.if_icmp .lt 7, 3) := by decide +kernel
theorem d_Mo_isPacket_13 : decode c_Mo_isPacket 13 = .ok (.iconst 1, 1) := by decide +kernel
theorem d_Mo_isPacket_14 : decode c_Mo_isPacket 14 = .ok (.goto 4, 3) := by decide +kernel
theorem d_Mo_isPacket_17 : decode c_Mo_isPacket 17 = .ok (.iconst 0, 1) := by decide +kernel
theorem d_Mo_isPacket_18 : decode c_Mo_isPacket 18 = .ok (.putfield 57, 3) := by decide +kernel
theorem d_Mo_isPacket_21 : decode c_Mo_isPacket 21 = .ok (.aload_n 0, 1) := by decide +kernel
theorem d_Mo_isPacket_22 : decode c_Mo_isPacket 22 = .ok (.getfield 57, 3) := by decide +kernel
theorem d_Mo_isPacket_25 : decode c_Mo_isPacket 25 = .ok (.ifCond .ne 7, 3) := by decide +kernel
theorem d_Mo_isPacket_28 : decode c_Mo_isPacket 28 = .ok (.iconst 1, 1) := by decide +kernel
theorem d_Mo_isPacket_29 : decode c_Mo_isPacket 29 = .ok (.goto 4, 3) := by decide +kernel
theorem d_Mo_isPacket_32 : decode c_Mo_isPacket 32 = .ok (.iconst 0, 1) := by decide +kernel
theorem d_Mo_isPacket_33 : decode c_Mo_isPacket 33 = .ok (.ireturn, 1) := by decide +kernel
theorem d_Mo_hops_0 : decode c_Mo_hops 0 = .ok (.iload_n 1, 1) := by decide +kernel
theorem d_Mo_hops_1 : decode c_Mo_hops 1 = .ok (.iload_n 2, 1) := by decide +kernel
theorem d_Mo_hops_2 : decode c_Mo_hops 2 = .ok (.if_icmp .ne 5, 3) := by decide +kernel
theorem d_Mo_hops_5 : decode c_Mo_hops 5 = .ok (.iload_n 1, 1) := by decide +kernel
theorem d_Mo_hops_6 : decode c_Mo_hops 6 = .ok (.ireturn, 1) := by decide +kernel
theorem d_Mo_hops_7 : decode c_Mo_hops 7 = .ok (.aload_n 0, 1) := by decide +kernel
theorem d_Mo_hops_8 : decode c_Mo_hops 8 = .ok (.getfield 32, 3) := by decide +kernel
theorem d_Mo_hops_11 : decode c_Mo_hops 11 = .ok (.iload_n 2, 1) := by decide +kernel
theorem d_Mo_hops_12 : decode c_Mo_hops 12 = .ok (.baload, 1) := by decide +kernel
theorem d_Mo_hops_13 : decode c_Mo_hops 13 = .ok (.ifCond .ne 12, 3) := by decide +kernel
theorem d_Mo_hops_16 : decode c_Mo_hops 16 = .ok (.aload_n 0, 1) := by decide +kernel
theorem d_Mo_hops_17 : decode c_Mo_hops 17 = .ok (.iload_n 1, 1) := by decide +kernel
theorem d_Mo_hops_18 : decode c_Mo_hops 18 = .ok (.iload_n 2, 1) := by decide +kernel
theorem d_Mo_hops_19 : decode c_Mo_hops 19 = .ok (.invokevirtual 93, 3) := by decide +kernel
theorem d_Mo_hops_22 : decode c_Mo_hops 22 = .ok (.ifCond .eq 10, 3) := by decide +kernel
theorem d_Mo_hops_25 : decode c_Mo_hops 25 = .ok (.aload_n 0, 1) := by decide +kernel
theorem d_Mo_hops_26 : decode c_Mo_hops 26 = .ok (.iload_n 1, 1) := by decide +kernel
theorem d_Mo_hops_27 : decode c_Mo_hops 27 = .ok (.iload_n 2, 1) := by decide +kernel
theorem d_Mo_hops_28 : decode c_Mo_hops 28 = .ok (.invokevirtual 106, 3) := by decide +kernel
theorem d_Mo_hops_31 : decode c_Mo_hops 31 = .ok (.ireturn, 1) := by decide +kernel
theorem d_Mo_hops_32 : decode c_Mo_hops 32 = .ok (.aload_n 0, 1) := by decide +kernel
theorem d_Mo_hops_33 : decode c_Mo_hops 33 = .ok (.iload_n 2, 1) := by decide +kernel
theorem d_Mo_hops_34 : decode c_Mo_hops 34 = .ok (.iconst 1, 1) := by decide +kernel
theorem d_Mo_hops_35 : decode c_Mo_hops 35 = .ok (.invokevirtual 142, 3) := by decide +kernel
theorem d_Mo_hops_38 : decode c_Mo_hops 38 = .ok (.istore_n 3, 1) := by decide +kernel
theorem d_Mo_hops_39 : decode c_Mo_hops 39 = .ok (.aload_n 0, 1) := by decide +kernel
theorem d_Mo_hops_40 : decode c_Mo_hops 40 = .ok (.iload_n 2, 1) := by decide +kernel
theorem d_Mo_hops_41 : decode c_Mo_hops 41 = .ok (.iconst 2, 1) := by decide +kernel
theorem d_Mo_hops_42 : decode c_Mo_hops 42 = .ok (.invokevirtual 142, 3) := by decide +kernel
theorem d_Mo_hops_45 : decode c_Mo_hops 45 = .ok (.istore 4, 2) := by decide +kernel
theorem d_Mo_hops_47 : decode c_Mo_hops 47 = .ok (.aload_n 0, 1) := by decide +kernel
theorem d_Mo_hops_48 : decode c_Mo_hops 48 = .ok (.iload_n 3, 1) := by decide +kernel
theorem d_Mo_hops_49 : decode c_Mo_hops 49 = .ok (.iload_n 1, 1) := by decide +kernel
theorem d_Mo_hops_50 : decode c_Mo_hops 50 = .ok (.invokevirtual 133, 3) := by decide +kernel
theorem d_Mo_hops_53 : decode c_Mo_hops 53 = .ok (.istore 5, 2) := by decide +kernel
theorem d_Mo_hops_55 : decode c_Mo_hops 55 = .ok (.iload 4, 2) := by decide +kernel
theorem d_Mo_hops_57 : decode c_Mo_hops 57 = .ok (.iload 5, 2) := by decide +kernel
theorem d_Mo_hops_59 : decode c_Mo_hops 59 = .ok (.if_icmp .lt 17, 3) := by decide +kernel
theorem d_Mo_hops_62 : decode c_Mo_hops 62 = .ok (.iload 4, 2) := by decide +kernel
theorem d_Mo_hops_64 : decode c_Mo_hops 64 = .ok (.iload 5, 2) := by decide +kernel
theorem d_Mo_hops_66 : decode c_Mo_hops 66 = .ok (.aload_n 0, 1) := by decide +kernel
theorem d_Mo_hops_67 : decode c_Mo_hops 67 = .ok (.iload_n 3, 1) := by decide +kernel
theorem d_Mo_hops_68 : decode c_Mo_hops 68 = .ok (.iload_n 1, 1) := by decide +kernel
theorem d_Mo_hops_69 : decode c_Mo_hops 69 = .ok (.invokevirtual 121, 3) := by decide +kernel
theorem d_Mo_hops_72 : decode c_Mo_hops 72 = .ok (.iadd, 1) := by decide +kernel
theorem d_Mo_hops_73 : decode c_Mo_hops 73 = .ok (.if_icmp .lt 15, 3) := by decide +kernel
theorem d_Mo_hops_76 : decode c_Mo_hops 76 = .ok (.aload_n 0, 1) := by decide +kernel
theorem d_Mo_hops_77 : decode c_Mo_hops 77 = .ok (.getfield 45, 3) := by decide +kernel
theorem d_Mo_hops_80 : decode c_Mo_hops 80 = .ok (.bipush 40, 2) := by decide +kernel
theorem d_Mo_hops_82 : decode c_Mo_hops 82 = .ok (.iload_n 3, 1) := by decide +kernel
theorem d_Mo_hops_83 : decode c_Mo_hops 83 = .ok (.imul, 1) := by decide +kernel
theorem d_Mo_hops_84 : decode c_Mo_hops 84 = .ok (.iload_n 1, 1) := by decide +kernel
theorem d_Mo_hops_85 : decode c_Mo_hops 85 = .ok (.iadd, 1) := by decide +kernel
theorem d_Mo_hops_86 : decode c_Mo_hops 86 = .ok (.iaload, 1) := by decide +kernel
theorem d_Mo_hops_87 : decode c_Mo_hops 87 = .ok (.ireturn, 1) := by decide +kernel
theorem d_Mo_hops_88 : decode c_Mo_hops 88 = .ok (.aload_n 0, 1) := by decide +kernel
theorem d_Mo_hops_89 : decode c_Mo_hops 89 = .ok (.iload_n 3, 1) := by decide +kernel
theorem d_Mo_hops_90 : decode c_Mo_hops 90 = .ok (.iload_n 1, 1) := by decide +kernel
theorem d_Mo_hops_91 : decode c_Mo_hops 91 = .ok (.invokevirtual 124, 3) := by decide +kernel
theorem d_Mo_hops_94 : decode c_Mo_hops 94 = .ok (.istore 6, 2) := by decide +kernel
theorem d_Mo_hops_96 : decode c_Mo_hops 96 = .ok (.aload_n 0, 1) := by decide +kernel
theorem d_Mo_hops_97 : decode c_Mo_hops 97 = .ok (.iload_n 3, 1) := by decide +kernel
theorem d_Mo_hops_98 : decode c_Mo_hops 98 = .ok (.iload 6, 2) := by decide +kernel
theorem d_Mo_hops_100 : decode c_Mo_hops 100 = .ok (.invokevirtual 133, 3) := by decide +kernel
theorem d_Mo_hops_103 : decode c_Mo_hops 103 = .ok (.istore 7, 2) := by decide +kernel
theorem d_Mo_hops_105 : decode c_Mo_hops 105 = .ok (.iload 4, 2) := by decide +kernel
theorem d_Mo_hops_107 : decode c_Mo_hops 107 = .ok (.iload 7, 2) := by decide +kernel
theorem d_Mo_hops_109 : decode c_Mo_hops 109 = .ok (.if_icmp .lt 21, 3) := by decide +kernel
theorem d_Mo_hops_112 : decode c_Mo_hops 112 = .ok (.iload 4, 2) := by decide +kernel
theorem d_Mo_hops_114 : decode c_Mo_hops 114 = .ok (.iload 7, 2) := by decide +kernel
theorem d_Mo_hops_116 : decode c_Mo_hops 116 = .ok (.aload_n 0, 1) := by decide +kernel
theorem d_Mo_hops_117 : decode c_Mo_hops 117 = .ok (.iload_n 3, 1) := by decide +kernel
theorem d_Mo_hops_118 : decode c_Mo_hops 118 = .ok (.iload 6, 2) := by decide +kernel
theorem d_Mo_hops_120 : decode c_Mo_hops 120 = .ok (.invokevirtual 121, 3) := by decide +kernel
theorem d_Mo_hops_123 : decode c_Mo_hops 123 = .ok (.iadd, 1) := by decide +kernel
theorem d_Mo_hops_124 : decode c_Mo_hops 124 = .ok (.if_icmp .ge 6, 3) := by decide +kernel
theorem d_Mo_hops_127 : decode c_Mo_hops 127 = .ok (.iload 6, 2) := by decide +kernel
theorem d_Mo_hops_129 : decode c_Mo_hops 129 = .ok (.ireturn, 1) := by decide +kernel
theorem d_Mo_hops_130 : decode c_Mo_hops 130 = .ok (.aload_n 0, 1) := by decide +kernel
theorem d_Mo_hops_131 : decode c_Mo_hops 131 = .ok (.getfield 23, 3) := by decide +kernel
theorem d_Mo_hops_134 : decode c_Mo_hops 134 = .ok (.bipush 16, 2) := by decide +kernel
theorem d_Mo_hops_136 : decode c_Mo_hops 136 = .ok (.iload_n 1, 1) := by decide +kernel
theorem d_Mo_hops_137 : decode c_Mo_hops 137 = .ok (.imul, 1) := by decide +kernel
theorem d_Mo_hops_138 : decode c_Mo_hops 138 = .ok (.aload_n 0, 1) := by decide +kernel
theorem d_Mo_hops_139 : decode c_Mo_hops 139 = .ok (.iload_n 2, 1) := by decide +kernel
theorem d_Mo_hops_140 : decode c_Mo_hops 140 = .ok (.iconst 4, 1) := by decide +kernel
theorem d_Mo_hops_141 : decode c_Mo_hops 141 = .ok (.invokevirtual 142, 3) := by decide +kernel
theorem d_Mo_hops_144 : decode c_Mo_hops 144 = .ok (.iconst 4, 1) := by decide +kernel
theorem d_Mo_hops_145 : decode c_Mo_hops 145 = .ok (.aload_n 0, 1) := by decide +kernel
theorem d_Mo_hops_146 : decode c_Mo_hops 146 = .ok (.iload_n 3, 1) := by decide +kernel
theorem d_Mo_hops_147 : decode c_Mo_hops 147 = .ok (.iload_n 1, 1) := by decide +kernel
theorem d_Mo_hops_148 : decode c_Mo_hops 148 = .ok (.invokevirtual 136, 3) := by decide +kernel
theorem d_Mo_hops_151 : decode c_Mo_hops 151 = .ok (.imul, 1) := by decide +kernel
theorem d_Mo_hops_152 : decode c_Mo_hops 152 = .ok (.ishr, 1) := by decide +kernel
theorem d_Mo_hops_153 : decode c_Mo_hops 153 = .ok (.bipush 15, 2) := by decide +kernel
theorem d_Mo_hops_155 : decode c_Mo_hops 155 = .ok (.iand, 1) := by decide +kernel
theorem d_Mo_hops_156 : decode c_Mo_hops 156 = .ok (.iadd, 1) := by decide +kernel
theorem d_Mo_hops_157 : decode c_Mo_hops 157 = .ok (.iaload, 1) := by decide +kernel
theorem d_Mo_hops_158 : decode c_Mo_hops 158 = .ok (.ireturn, 1) := by decide +kernel
theorem d_Mo_weight_0 : decode c_Mo_weight 0 = .ok (.aload_n 0, 1) := by decide +kernel
theorem d_Mo_weight_1 : decode c_Mo_weight 1 = .ok (.iload_n 1, 1) := by decide +kernel
theorem d_Mo_weight_2 : decode c_Mo_weight 2 = .ok (.invokevirtual 145, 3) := by decide +kernel
theorem d_Mo_weight_5 : decode c_Mo_weight 5 = .ok (.ifCond .eq 12, 3) := by decide +kernel
theorem d_Mo_weight_8 : decode c_Mo_weight 8 = .ok (.aload_n 0, 1) := by decide +kernel
theorem d_Mo_weight_9 : decode c_Mo_weight 9 = .ok (.getfield 54, 3) := by decide +kernel
theorem d_Mo_weight_12 : decode c_Mo_weight 12 = .ok (.iload_n 1, 1) := by decide +kernel
theorem d_Mo_weight_13 : decode c_Mo_weight 13 = .ok (.iaload, 1) := by decide +kernel
theorem d_Mo_weight_14 : decode c_Mo_weight 14 = .ok (.goto 4, 3) := by decide +kernel
theorem d_Mo_weight_17 : decode c_Mo_weight 17 = .ok (.iconst 0, 1) := by decide +kernel
theorem d_Mo_weight_18 : decode c_Mo_weight 18 = .ok (.ireturn, 1) := by decide +kernel
theorem d_Mo_walk_0 : decode c_Mo_walk 0 = .ok (.aload_n 0, 1) := by decide +kernel
theorem d_Mo_walk_1 : decode c_Mo_walk 1 = .ok (.invokevirtual 113, 3) := by decide +kernel
theorem d_Mo_walk_4 : decode c_Mo_walk 4 = .ok (.ifCond .ne 5, 3) := by decide +kernel
theorem d_Mo_walk_7 : decode c_Mo_walk 7 = .ok (.iconst 0, 1) := by decide +kernel
theorem d_Mo_walk_8 : decode c_Mo_walk 8 = .ok (.ireturn, 1) := by decide +kernel
theorem d_Mo_walk_9 : decode c_Mo_walk 9 = .ok (.aload_n 0, 1) := by decide +kernel
theorem d_Mo_walk_10 : decode c_Mo_walk 10 = .ok (.aload_n 0, 1) := by decide +kernel
theorem d_Mo_walk_11 : decode c_Mo_walk 11 = .ok (.iload_n 1, 1) := by decide +kernel
theorem d_Mo_walk_12 : decode c_Mo_walk 12 = .ok (.invokevirtual 70, 3) := by decide +kernel
theorem d_Mo_walk_15 : decode c_Mo_walk 15 = .ok (.ifCond .eq 20, 3) := by decide +kernel
theorem d_Mo_walk_18 : decode c_Mo_walk 18 = .ok (.aload_n 0, 1) := by decide +kernel
theorem d_Mo_walk_19 : decode c_Mo_walk 19 = .ok (.iload_n 2, 1) := by decide +kernel
theorem d_Mo_walk_20 : decode c_Mo_walk 20 = .ok (.invokevirtual 70, 3) := by decide +kernel
theorem d_Mo_walk_23 : decode c_Mo_walk 23 = .ok (.ifCond .eq 12, 3) := by decide +kernel
theorem d_Mo_walk_26 : decode c_Mo_walk 26 = .ok (.iload_n 3, 1) := by decide +kernel
theorem d_Mo_walk_27 : decode c_Mo_walk 27 = .ok (.ifCond .lt 8, 3) := by decide +kernel
theorem d_Mo_walk_30 : decode c_Mo_walk 30 = .ok (.iload_n 3, 1) := by decide +kernel
theorem d_Mo_walk_31 : decode c_Mo_walk 31 = .ok (.iconst 2, 1) := by decide +kernel
theorem d_Mo_walk_32 : decode c_Mo_walk 32 = .ok (.if_icmp .le 7, 3) := by decide +kernel
theorem d_Mo_walk_35 : decode c_Mo_walk 35 = .ok (.iconst 2, 1) := by decide +kernel
theorem d_Mo_walk_36 : decode c_Mo_walk 36 = .ok (.goto 4, 3) := by decide +kernel
theorem d_Mo_walk_39 : decode c_Mo_walk 39 = .ok (.iconst 0, 1) := by decide +kernel
theorem d_Mo_walk_40 : decode c_Mo_walk 40 = .ok (.putfield 57, 3) := by decide +kernel
theorem d_Mo_walk_43 : decode c_Mo_walk 43 = .ok (.aload_n 0, 1) := by decide +kernel
theorem d_Mo_walk_44 : decode c_Mo_walk 44 = .ok (.getfield 57, 3) := by decide +kernel
theorem d_Mo_walk_47 : decode c_Mo_walk 47 = .ok (.ifCond .eq 5, 3) := by decide +kernel
theorem d_Mo_walk_50 : decode c_Mo_walk 50 = .ok (.iconst 0, 1) := by decide +kernel
theorem d_Mo_walk_51 : decode c_Mo_walk 51 = .ok (.ireturn, 1) := by decide +kernel
theorem d_Mo_walk_52 : decode c_Mo_walk 52 = .ok (.iconst 0, 1) := by decide +kernel
theorem d_Mo_walk_53 : decode c_Mo_walk 53 = .ok (.istore 4, 2) := by decide +kernel
theorem d_Mo_walk_55 : decode c_Mo_walk 55 = .ok (.iconst 0, 1) := by decide +kernel
theorem d_Mo_walk_56 : decode c_Mo_walk 56 = .ok (.istore 5, 2) := by decide +kernel
theorem d_Mo_walk_58 : decode c_Mo_walk 58 = .ok (.iload_n 1, 1) := by decide +kernel
theorem d_Mo_walk_59 : decode c_Mo_walk 59 = .ok (.istore 6, 2) := by decide +kernel
theorem d_Mo_walk_61 : decode c_Mo_walk 61 = .ok (.iload 6, 2) := by decide +kernel
theorem d_Mo_walk_63 : decode c_Mo_walk 63 = .ok (.iload_n 2, 1) := by decide +kernel
theorem d_Mo_walk_64 : decode c_Mo_walk 64 = .ok (.if_icmp .eq 48, 3) := by decide +kernel
theorem d_Mo_walk_67 : decode c_Mo_walk 67 = .ok (.iload 5, 2) := by decide +kernel
theorem d_Mo_walk_69 : decode c_Mo_walk 69 = .ok (.sipush 400, 3) := by decide +kernel
theorem d_Mo_walk_72 : decode c_Mo_walk 72 = .ok (.if_icmp .ge 40, 3) := by decide +kernel
theorem d_Mo_walk_75 : decode c_Mo_walk 75 = .ok (.aload_n 0, 1) := by decide +kernel
theorem d_Mo_walk_76 : decode c_Mo_walk 76 = .ok (.iload 6, 2) := by decide +kernel
theorem d_Mo_walk_78 : decode c_Mo_walk 78 = .ok (.iload_n 2, 1) := by decide +kernel
theorem d_Mo_walk_79 : decode c_Mo_walk 79 = .ok (.invokevirtual 148, 3) := by decide +kernel
theorem d_Mo_walk_82 : decode c_Mo_walk 82 = .ok (.istore 7, 2) := by decide +kernel
theorem d_Mo_walk_84 : decode c_Mo_walk 84 = .ok (.iload 4, 2) := by decide +kernel
theorem d_Mo_walk_86 : decode c_Mo_walk 86 = .ok (.aload_n 0, 1) := by decide +kernel
theorem d_Mo_walk_87 : decode c_Mo_walk 87 = .ok (.getfield 20, 3) := by decide +kernel
theorem d_Mo_walk_90 : decode c_Mo_walk 90 = .ok (.bipush 40, 2) := by decide +kernel
theorem d_Mo_walk_92 : decode c_Mo_walk 92 = .ok (.iload 6, 2) := by decide +kernel
theorem d_Mo_walk_94 : decode c_Mo_walk 94 = .ok (.imul, 1) := by decide +kernel
theorem d_Mo_walk_95 : decode c_Mo_walk 95 = .ok (.iload 7, 2) := by decide +kernel
theorem d_Mo_walk_97 : decode c_Mo_walk 97 = .ok (.iadd, 1) := by decide +kernel
theorem d_Mo_walk_98 : decode c_Mo_walk 98 = .ok (.iaload, 1) := by decide +kernel
theorem d_Mo_walk_99 : decode c_Mo_walk 99 = .ok (.iadd, 1) := by decide +kernel
theorem d_Mo_walk_100 : decode c_Mo_walk 100 = .ok (.istore 4, 2) := by decide +kernel
theorem d_Mo_walk_102 : decode c_Mo_walk 102 = .ok (.iload 7, 2) := by decide +kernel
theorem d_Mo_walk_104 : decode c_Mo_walk 104 = .ok (.istore 6, 2) := by decide +kernel
theorem d_Mo_walk_106 : decode c_Mo_walk 106 = .ok (.iinc 5 1, 3) := by decide +kernel
theorem d_Mo_walk_109 : decode c_Mo_walk 109 = .ok (.goto (-48), 3) := by decide +kernel
theorem d_Mo_walk_112 : decode c_Mo_walk 112 = .ok (.iload_n 3, 1) := by decide +kernel
theorem d_Mo_walk_113 : decode c_Mo_walk 113 = .ok (.iconst 2, 1) := by decide +kernel
theorem d_Mo_walk_114 : decode c_Mo_walk 114 = .ok (.if_icmp .ge 15, 3) := by decide +kernel
theorem d_Mo_walk_117 : decode c_Mo_walk 117 = .ok (.iload_n 3, 1) := by decide +kernel
theorem d_Mo_walk_118 : decode c_Mo_walk 118 = .ok (.ifCond .ne 8, 3) := by decide +kernel
theorem d_Mo_walk_121 : decode c_Mo_walk 121 = .ok (.iload 4, 2) := by decide +kernel
theorem d_Mo_walk_123 : decode c_Mo_walk 123 = .ok (.goto 5, 3) := by decide +kernel
theorem d_Mo_walk_126 : decode c_Mo_walk 126 = .ok (.iload 5, 2) := by decide +kernel
theorem d_Mo_walk_128 : decode c_Mo_walk 128 = .ok (.ireturn, 1) := by decide +kernel
theorem d_Mo_walk_129 : decode c_Mo_walk 129 = .ok (.iload_n 1, 1) := by decide +kernel
theorem d_Mo_walk_130 : decode c_Mo_walk 130 = .ok (.iload_n 2, 1) := by decide +kernel
theorem d_Mo_walk_131 : decode c_Mo_walk 131 = .ok (.if_icmp .ne 9, 3) := by decide +kernel
theorem d_Mo_walk_134 : decode c_Mo_walk 134 = .ok (.sipush 1000, 3) := by decide +kernel
theorem d_Mo_walk_137 : decode c_Mo_walk 137 = .ok (.goto 25, 3) := by decide +kernel
theorem d_Mo_walk_140 : decode c_Mo_walk 140 = .ok (.sipush 1000, 3) := by decide +kernel
theorem d_Mo_walk_143 : decode c_Mo_walk 143 = .ok (.iload 4, 2) := by decide +kernel
theorem d_Mo_walk_145 : decode c_Mo_walk 145 = .ok (.imul, 1) := by decide +kernel
theorem d_Mo_walk_146 : decode c_Mo_walk 146 = .ok (.aload_n 0, 1) := by decide +kernel
theorem d_Mo_walk_147 : decode c_Mo_walk 147 = .ok (.iload_n 1, 1) := by decide +kernel
theorem d_Mo_walk_148 : decode c_Mo_walk 148 = .ok (.iload_n 2, 1) := by decide +kernel
theorem d_Mo_walk_149 : decode c_Mo_walk 149 = .ok (.invokevirtual 82, 3) := by decide +kernel
theorem d_Mo_walk_152 : decode c_Mo_walk 152 = .ok (.iadd, 1) := by decide +kernel
theorem d_Mo_walk_153 : decode c_Mo_walk 153 = .ok (.iconst 1, 1) := by decide +kernel
theorem d_Mo_walk_154 : decode c_Mo_walk 154 = .ok (.isub, 1) := by decide +kernel
theorem d_Mo_walk_155 : decode c_Mo_walk 155 = .ok (.aload_n 0, 1) := by decide +kernel
theorem d_Mo_walk_156 : decode c_Mo_walk 156 = .ok (.iload_n 1, 1) := by decide +kernel
theorem d_Mo_walk_157 : decode c_Mo_walk 157 = .ok (.iload_n 2, 1) := by decide +kernel
theorem d_Mo_walk_158 : decode c_Mo_walk 158 = .ok (.invokevirtual 82, 3) := by decide +kernel
theorem d_Mo_walk_161 : decode c_Mo_walk 161 = .ok (.idiv, 1) := by decide +kernel
theorem d_Mo_walk_162 : decode c_Mo_walk 162 = .ok (.ireturn, 1) := by decide +kernel
