theorem d_CW_init_0 : decode Y_CW_init.2.1 0 = .ok (.aload_n 0, 1) := by decide +kernel
theorem d_CW_init_1 : decode Y_CW_init.2.1 1 = .ok (.invokespecial 1, 3) := by decide +kernel
theorem d_CW_init_4 : decode Y_CW_init.2.1 4 = .ok (.aload_n 0, 1) := by decide +kernel
theorem d_CW_init_5 : decode Y_CW_init.2.1 5 = .ok (.new 7, 3) := by decide +kernel
theorem d_CW_init_8 : decode Y_CW_init.2.1 8 = .ok (.dup, 1) := by decide +kernel
theorem d_CW_init_9 : decode Y_CW_init.2.1 9 = .ok (.invokespecial 9, 3) := by decide +kernel
theorem d_CW_init_12 : decode Y_CW_init.2.1 12 = .ok (.putfield 10, 3) := by decide +kernel
theorem d_CW_init_15 : decode Y_CW_init.2.1 15 = .ok (.new 16, 3) := by decide +kernel
theorem d_CW_init_18 : decode Y_CW_init.2.1 18 = .ok (.dup, 1) := by decide +kernel
theorem d_CW_init_19 : decode Y_CW_init.2.1 19 = .ok (.aload_n 0, 1) := by decide +kernel
theorem d_CW_init_20 : decode Y_CW_init.2.1 20 = .ok (.getfield 10, 3) := by decide +kernel
theorem d_CW_init_23 : decode Y_CW_init.2.1 23 = .ok (.invokespecial 18, 3) := by decide +kernel
theorem d_CW_init_26 : decode Y_CW_init.2.1 26 = .ok (.astore_n 1, 1) := by decide +kernel
theorem d_CW_init_27 : decode Y_CW_init.2.1 27 = .ok (.aload_n 0, 1) := by decide +kernel
theorem d_CW_init_28 : decode Y_CW_init.2.1 28 = .ok (.new 21, 3) := by decide +kernel
theorem d_CW_init_31 : decode Y_CW_init.2.1 31 = .ok (.dup, 1) := by decide +kernel
theorem d_CW_init_32 : decode Y_CW_init.2.1 32 = .ok (.aload_n 0, 1) := by decide +kernel
theorem d_CW_init_33 : decode Y_CW_init.2.1 33 = .ok (.getfield 10, 3) := by decide +kernel
theorem d_CW_init_36 : decode Y_CW_init.2.1 36 = .ok (.aload_n 1, 1) := by decide +kernel
theorem d_CW_init_37 : decode Y_CW_init.2.1 37 = .ok (.invokespecial 23, 3) := by decide +kernel
theorem d_CW_init_40 : decode Y_CW_init.2.1 40 = .ok (.putfield 26, 3) := by decide +kernel
theorem d_CW_init_43 : decode Y_CW_init.2.1 43 = .ok (.aload_n 0, 1) := by decide +kernel
theorem d_CW_init_44 : decode Y_CW_init.2.1 44 = .ok (.new 30, 3) := by decide +kernel
theorem d_CW_init_47 : decode Y_CW_init.2.1 47 = .ok (.dup, 1) := by decide +kernel
theorem d_CW_init_48 : decode Y_CW_init.2.1 48 = .ok (.aload_n 0, 1) := by decide +kernel
theorem d_CW_init_49 : decode Y_CW_init.2.1 49 = .ok (.getfield 10, 3) := by decide +kernel
theorem d_CW_init_52 : decode Y_CW_init.2.1 52 = .ok (.aload_n 1, 1) := by decide +kernel
theorem d_CW_init_53 : decode Y_CW_init.2.1 53 = .ok (.aload_n 0, 1) := by decide +kernel
theorem d_CW_init_54 : decode Y_CW_init.2.1 54 = .ok (.getfield 26, 3) := by decide +kernel
theorem d_CW_init_57 : decode Y_CW_init.2.1 57 = .ok (.invokespecial 32, 3) := by decide +kernel
theorem d_CW_init_60 : decode Y_CW_init.2.1 60 = .ok (.putfield 35, 3) := by decide +kernel
theorem d_CW_init_63 : decode Y_CW_init.2.1 63 = .ok (.aload_n 0, 1) := by decide +kernel
theorem d_CW_init_64 : decode Y_CW_init.2.1 64 = .ok (.new 39, 3) := by decide +kernel
theorem d_CW_init_67 : decode Y_CW_init.2.1 67 = .ok (.dup, 1) := by decide +kernel
theorem d_CW_init_68 : decode Y_CW_init.2.1 68 = .ok (.aload_n 0, 1) := by decide +kernel
theorem d_CW_init_69 : decode Y_CW_init.2.1 69 = .ok (.getfield 10, 3) := by decide +kernel
theorem d_CW_init_72 : decode Y_CW_init.2.1 72 = .ok (.aload_n 0, 1) := by decide +kernel
theorem d_CW_init_73 : decode Y_CW_init.2.1 73 = .ok (.getfield 26, 3) := by decide +kernel
theorem d_CW_init_76 : decode Y_CW_init.2.1 76 = .ok (.aload_n 0, 1) := by decide +kernel
theorem d_CW_init_77 : decode Y_CW_init.2.1 77 = .ok (.getfield 35, 3) := by decide +kernel
theorem d_CW_init_80 : decode Y_CW_init.2.1 80 = .ok (.invokespecial 41, 3) := by decide +kernel
theorem d_CW_init_83 : decode Y_CW_init.2.1 83 = .ok (.putfield 44, 3) := by decide +kernel
theorem d_CW_init_86 : decode Y_CW_init.2.1 86 = .ok (.aload_n 0, 1) := by decide +kernel
theorem d_CW_init_87 : decode Y_CW_init.2.1 87 = .ok (.new 48, 3) := by decide +kernel
theorem d_CW_init_90 : decode Y_CW_init.2.1 90 = .ok (.dup, 1) := by decide +kernel
theorem d_CW_init_91 : decode Y_CW_init.2.1 91 = .ok (.aload_n 0, 1) := by decide +kernel
theorem d_CW_init_92 : decode Y_CW_init.2.1 92 = .ok (.getfield 10, 3) := by decide +kernel
theorem d_CW_init_95 : decode Y_CW_init.2.1 95 = .ok (.invokespecial 50, 3) := by decide +kernel
theorem d_CW_init_98 : decode Y_CW_init.2.1 98 = .ok (.putfield 51, 3) := by decide +kernel
theorem d_CW_init_101 : decode Y_CW_init.2.1 101 = .ok (.aload_n 0, 1) := by decide +kernel
theorem d_CW_init_102 : decode Y_CW_init.2.1 102 = .ok (.new 55, 3) := by decide +kernel
theorem d_CW_init_105 : decode Y_CW_init.2.1 105 = .ok (.dup, 1) := by decide +kernel
theorem d_CW_init_106 : decode Y_CW_init.2.1 106 = .ok (.aload_n 0, 1) := by decide +kernel
theorem d_CW_init_107 : decode Y_CW_init.2.1 107 = .ok (.getfield 10, 3) := by decide +kernel
theorem d_CW_init_110 : decode Y_CW_init.2.1 110 = .ok (.invokespecial 57, 3) := by decide +kernel
theorem d_CW_init_113 : decode Y_CW_init.2.1 113 = .ok (.putfield 58, 3) := by decide +kernel
theorem d_CW_init_116 : decode Y_CW_init.2.1 116 = .ok (.aload_n 0, 1) := by decide +kernel
theorem d_CW_init_117 : decode Y_CW_init.2.1 117 = .ok (.new 62, 3) := by decide +kernel
theorem d_CW_init_120 : decode Y_CW_init.2.1 120 = .ok (.dup, 1) := by decide +kernel
theorem d_CW_init_121 : decode Y_CW_init.2.1 121 = .ok (.aload_n 0, 1) := by decide +kernel
theorem d_CW_init_122 : decode Y_CW_init.2.1 122 = .ok (.getfield 10, 3) := by decide +kernel
theorem d_CW_init_125 : decode Y_CW_init.2.1 125 = .ok (.invokespecial 64, 3) := by decide +kernel
theorem d_CW_init_128 : decode Y_CW_init.2.1 128 = .ok (.putfield 65, 3) := by decide +kernel
theorem d_CW_init_131 : decode Y_CW_init.2.1 131 = .ok (.aload_n 0, 1) := by decide +kernel
theorem d_CW_init_132 : decode Y_CW_init.2.1 132 = .ok (.new 69, 3) := by decide +kernel
theorem d_CW_init_135 : decode Y_CW_init.2.1 135 = .ok (.dup, 1) := by decide +kernel
theorem d_CW_init_136 : decode Y_CW_init.2.1 136 = .ok (.aload_n 0, 1) := by decide +kernel
theorem d_CW_init_137 : decode Y_CW_init.2.1 137 = .ok (.getfield 10, 3) := by decide +kernel
theorem d_CW_init_140 : decode Y_CW_init.2.1 140 = .ok (.invokespecial 71, 3) := by decide +kernel
theorem d_CW_init_143 : decode Y_CW_init.2.1 143 = .ok (.putfield 72, 3) := by decide +kernel
theorem d_CW_init_146 : decode Y_CW_init.2.1 146 = .ok (.aload_n 0, 1) := by decide +kernel
theorem d_CW_init_147 : decode Y_CW_init.2.1 147 = .ok (.new 76, 3) := by decide +kernel
theorem d_CW_init_150 : decode Y_CW_init.2.1 150 = .ok (.dup, 1) := by decide +kernel
theorem d_CW_init_151 : decode Y_CW_init.2.1 151 = .ok (.aload_n 0, 1) := by decide +kernel
theorem d_CW_init_152 : decode Y_CW_init.2.1 152 = .ok (.getfield 10, 3) := by decide +kernel
theorem d_CW_init_155 : decode Y_CW_init.2.1 155 = .ok (.invokespecial 78, 3) := by decide +kernel
theorem d_CW_init_158 : decode Y_CW_init.2.1 158 = .ok (.putfield 79, 3) := by decide +kernel
theorem d_CW_init_161 : decode Y_CW_init.2.1 161 = .ok (.return_, 1) := by decide +kernel
theorem d_CW_node_0 : decode Y_CW_node.2.1 0 = .ok (.iload_n 1, 1) := by decide +kernel
theorem d_CW_node_1 : decode Y_CW_node.2.1 1 = .ok (.ifCond .lt 9, 3) := by decide +kernel
theorem d_CW_node_4 : decode Y_CW_node.2.1 4 = .ok (.iload_n 1, 1) := by decide +kernel
theorem d_CW_node_5 : decode Y_CW_node.2.1 5 = .ok (.bipush 100, 2) := by decide +kernel
theorem d_CW_node_7 : decode Y_CW_node.2.1 7 = .ok (.if_icmp .le 6, 3) := by decide +kernel
theorem d_CW_node_10 : decode Y_CW_node.2.1 10 = .ok (.ldc 83, 2) := by decide +kernel
theorem d_CW_node_12 : decode Y_CW_node.2.1 12 = .ok (.ireturn, 1) := by decide +kernel
theorem d_CW_node_13 : decode Y_CW_node.2.1 13 = .ok (.aload_n 0, 1) := by decide +kernel
theorem d_CW_node_14 : decode Y_CW_node.2.1 14 = .ok (.getfield 10, 3) := by decide +kernel
theorem d_CW_node_17 : decode Y_CW_node.2.1 17 = .ok (.getfield 84, 3) := by decide +kernel
theorem d_CW_node_20 : decode Y_CW_node.2.1 20 = .ok (.bipush 9, 2) := by decide +kernel
theorem d_CW_node_22 : decode Y_CW_node.2.1 22 = .ok (.if_icmp .lt 6, 3) := by decide +kernel
theorem d_CW_node_25 : decode Y_CW_node.2.1 25 = .ok (.ldc 88, 2) := by decide +kernel
theorem d_CW_node_27 : decode Y_CW_node.2.1 27 = .ok (.ireturn, 1) := by decide +kernel
theorem d_CW_node_28 : decode Y_CW_node.2.1 28 = .ok (.aload_n 0, 1) := by decide +kernel
theorem d_CW_node_29 : decode Y_CW_node.2.1 29 = .ok (.getfield 10, 3) := by decide +kernel
theorem d_CW_node_32 : decode Y_CW_node.2.1 32 = .ok (.iload_n 1, 1) := by decide +kernel
theorem d_CW_node_33 : decode Y_CW_node.2.1 33 = .ok (.invokevirtual 89, 3) := by decide +kernel
theorem d_CW_node_36 : decode Y_CW_node.2.1 36 = .ok (.ireturn, 1) := by decide +kernel
theorem d_CW_arc_0 : decode Y_CW_arc.2.1 0 = .ok (.aload_n 0, 1) := by decide +kernel
theorem d_CW_arc_1 : decode Y_CW_arc.2.1 1 = .ok (.getfield 10, 3) := by decide +kernel
theorem d_CW_arc_4 : decode Y_CW_arc.2.1 4 = .ok (.iload_n 1, 1) := by decide +kernel
theorem d_CW_arc_5 : decode Y_CW_arc.2.1 5 = .ok (.iload_n 2, 1) := by decide +kernel
theorem d_CW_arc_6 : decode Y_CW_arc.2.1 6 = .ok (.invokevirtual 93, 3) := by decide +kernel
theorem d_CW_arc_9 : decode Y_CW_arc.2.1 9 = .ok (.ifCond .eq 17, 3) := by decide +kernel
theorem d_CW_arc_12 : decode Y_CW_arc.2.1 12 = .ok (.iload_n 3, 1) := by decide +kernel
theorem d_CW_arc_13 : decode Y_CW_arc.2.1 13 = .ok (.sipush (-1000), 3) := by decide +kernel
theorem d_CW_arc_16 : decode Y_CW_arc.2.1 16 = .ok (.if_icmp .lt 10, 3) := by decide +kernel
theorem d_CW_arc_19 : decode Y_CW_arc.2.1 19 = .ok (.iload_n 3, 1) := by decide +kernel
theorem d_CW_arc_20 : decode Y_CW_arc.2.1 20 = .ok (.sipush 1000, 3) := by decide +kernel
theorem d_CW_arc_23 : decode Y_CW_arc.2.1 23 = .ok (.if_icmp .le 6, 3) := by decide +kernel
theorem d_CW_arc_26 : decode Y_CW_arc.2.1 26 = .ok (.ldc 83, 2) := by decide +kernel
theorem d_CW_arc_28 : decode Y_CW_arc.2.1 28 = .ok (.ireturn, 1) := by decide +kernel
theorem d_CW_arc_29 : decode Y_CW_arc.2.1 29 = .ok (.aload_n 0, 1) := by decide +kernel
theorem d_CW_arc_30 : decode Y_CW_arc.2.1 30 = .ok (.getfield 10, 3) := by decide +kernel
theorem d_CW_arc_33 : decode Y_CW_arc.2.1 33 = .ok (.iload_n 1, 1) := by decide +kernel
theorem d_CW_arc_34 : decode Y_CW_arc.2.1 34 = .ok (.iload_n 2, 1) := by decide +kernel
theorem d_CW_arc_35 : decode Y_CW_arc.2.1 35 = .ok (.iload_n 3, 1) := by decide +kernel
theorem d_CW_arc_36 : decode Y_CW_arc.2.1 36 = .ok (.invokevirtual 97, 3) := by decide +kernel
theorem d_CW_arc_39 : decode Y_CW_arc.2.1 39 = .ok (.invokestatic 101, 3) := by decide +kernel
theorem d_CW_arc_42 : decode Y_CW_arc.2.1 42 = .ok (.ireturn, 1) := by decide +kernel
theorem d_CW_orNone_0 : decode Y_CW_orNone.2.1 0 = .ok (.iload_n 0, 1) := by decide +kernel
theorem d_CW_orNone_1 : decode Y_CW_orNone.2.1 1 = .ok (.ldc 104, 2) := by decide +kernel
theorem d_CW_orNone_3 : decode Y_CW_orNone.2.1 3 = .ok (.if_icmp .ne 8, 3) := by decide +kernel
theorem d_CW_orNone_6 : decode Y_CW_orNone.2.1 6 = .ok (.ldc 136, 2) := by decide +kernel
theorem d_CW_orNone_8 : decode Y_CW_orNone.2.1 8 = .ok (.goto 4, 3) := by decide +kernel
theorem d_CW_orNone_11 : decode Y_CW_orNone.2.1 11 = .ok (.iload_n 0, 1) := by decide +kernel
theorem d_CW_orNone_12 : decode Y_CW_orNone.2.1 12 = .ok (.ireturn, 1) := by decide +kernel
theorem d_CW_lose_0 : decode Y_CW_lose.2.1 0 = .ok (.aload_n 0, 1) := by decide +kernel
theorem d_CW_lose_1 : decode Y_CW_lose.2.1 1 = .ok (.getfield 10, 3) := by decide +kernel
theorem d_CW_lose_4 : decode Y_CW_lose.2.1 4 = .ok (.iload_n 1, 1) := by decide +kernel
theorem d_CW_lose_5 : decode Y_CW_lose.2.1 5 = .ok (.iload_n 2, 1) := by decide +kernel
theorem d_CW_lose_6 : decode Y_CW_lose.2.1 6 = .ok (.invokevirtual 93, 3) := by decide +kernel
theorem d_CW_lose_9 : decode Y_CW_lose.2.1 9 = .ok (.ifCond .ne 6, 3) := by decide +kernel
theorem d_CW_lose_12 : decode Y_CW_lose.2.1 12 = .ok (.ldc 83, 2) := by decide +kernel
theorem d_CW_lose_14 : decode Y_CW_lose.2.1 14 = .ok (.ireturn, 1) := by decide +kernel
theorem d_CW_lose_15 : decode Y_CW_lose.2.1 15 = .ok (.aload_n 0, 1) := by decide +kernel
theorem d_CW_lose_16 : decode Y_CW_lose.2.1 16 = .ok (.getfield 10, 3) := by decide +kernel
theorem d_CW_lose_19 : decode Y_CW_lose.2.1 19 = .ok (.iload_n 1, 1) := by decide +kernel
theorem d_CW_lose_20 : decode Y_CW_lose.2.1 20 = .ok (.iload_n 2, 1) := by decide +kernel
theorem d_CW_lose_21 : decode Y_CW_lose.2.1 21 = .ok (.ldc 104, 2) := by decide +kernel
theorem d_CW_lose_23 : decode Y_CW_lose.2.1 23 = .ok (.invokevirtual 97, 3) := by decide +kernel
theorem d_CW_lose_26 : decode Y_CW_lose.2.1 26 = .ok (.invokestatic 101, 3) := by decide +kernel
theorem d_CW_lose_29 : decode Y_CW_lose.2.1 29 = .ok (.ireturn, 1) := by decide +kernel
theorem d_CW_price_0 : decode Y_CW_price.2.1 0 = .ok (.aload_n 0, 1) := by decide +kernel
theorem d_CW_price_1 : decode Y_CW_price.2.1 1 = .ok (.getfield 10, 3) := by decide +kernel
theorem d_CW_price_4 : decode Y_CW_price.2.1 4 = .ok (.iload_n 1, 1) := by decide +kernel
theorem d_CW_price_5 : decode Y_CW_price.2.1 5 = .ok (.invokevirtual 105, 3) := by decide +kernel
theorem d_CW_price_8 : decode Y_CW_price.2.1 8 = .ok (.ifCond .eq 15, 3) := by decide +kernel
theorem d_CW_price_11 : decode Y_CW_price.2.1 11 = .ok (.iload_n 2, 1) := by decide +kernel
theorem d_CW_price_12 : decode Y_CW_price.2.1 12 = .ok (.iconst (-1), 1) := by decide +kernel
theorem d_CW_price_13 : decode Y_CW_price.2.1 13 = .ok (.if_icmp .lt 10, 3) := by decide +kernel
theorem d_CW_price_16 : decode Y_CW_price.2.1 16 = .ok (.iload_n 2, 1) := by decide +kernel
theorem d_CW_price_17 : decode Y_CW_price.2.1 17 = .ok (.sipush 2000, 3) := by decide +kernel
theorem d_CW_price_20 : decode Y_CW_price.2.1 20 = .ok (.if_icmp .le 6, 3) := by decide +kernel
theorem d_CW_price_23 : decode Y_CW_price.2.1 23 = .ok (.ldc 83, 2) := by decide +kernel
theorem d_CW_price_25 : decode Y_CW_price.2.1 25 = .ok (.ireturn, 1) := by decide +kernel
theorem d_CW_price_26 : decode Y_CW_price.2.1 26 = .ok (.aload_n 0, 1) := by decide +kernel
theorem d_CW_price_27 : decode Y_CW_price.2.1 27 = .ok (.getfield 10, 3) := by decide +kernel
theorem d_CW_price_30 : decode Y_CW_price.2.1 30 = .ok (.iload_n 1, 1) := by decide +kernel
theorem d_CW_price_31 : decode Y_CW_price.2.1 31 = .ok (.iload_n 2, 1) := by decide +kernel
theorem d_CW_price_32 : decode Y_CW_price.2.1 32 = .ok (.invokevirtual 109, 3) := by decide +kernel
theorem d_CW_price_35 : decode Y_CW_price.2.1 35 = .ok (.ireturn, 1) := by decide +kernel
theorem d_CW_ahead_0 : decode Y_CW_ahead.2.1 0 = .ok (.aload_n 0, 1) := by decide +kernel
theorem d_CW_ahead_1 : decode Y_CW_ahead.2.1 1 = .ok (.getfield 10, 3) := by decide +kernel
theorem d_CW_ahead_4 : decode Y_CW_ahead.2.1 4 = .ok (.iload_n 1, 1) := by decide +kernel
theorem d_CW_ahead_5 : decode Y_CW_ahead.2.1 5 = .ok (.iload_n 2, 1) := by decide +kernel
theorem d_CW_ahead_6 : decode Y_CW_ahead.2.1 6 = .ok (.invokevirtual 93, 3) := by decide +kernel
theorem d_CW_ahead_9 : decode Y_CW_ahead.2.1 9 = .ok (.ifCond .eq 11, 3) := by decide +kernel
theorem d_CW_ahead_12 : decode Y_CW_ahead.2.1 12 = .ok (.iload_n 1, 1) := by decide +kernel
theorem d_CW_ahead_13 : decode Y_CW_ahead.2.1 13 = .ok (.ifCond .eq 7, 3) := by decide +kernel
theorem d_CW_ahead_16 : decode Y_CW_ahead.2.1 16 = .ok (.iload_n 2, 1) := by decide +kernel
theorem d_CW_ahead_17 : decode Y_CW_ahead.2.1 17 = .ok (.ifCond .ne 6, 3) := by decide +kernel
theorem d_CW_ahead_20 : decode Y_CW_ahead.2.1 20 = .ok (.ldc 83, 2) := by decide +kernel
theorem d_CW_ahead_22 : decode Y_CW_ahead.2.1 22 = .ok (.ireturn, 1) := by decide +kernel
theorem d_CW_ahead_23 : decode Y_CW_ahead.2.1 23 = .ok (.aload_n 0, 1) := by decide +kernel
theorem d_CW_ahead_24 : decode Y_CW_ahead.2.1 24 = .ok (.getfield 10, 3) := by decide +kernel
theorem d_CW_ahead_27 : decode Y_CW_ahead.2.1 27 = .ok (.iload_n 1, 1) := by decide +kernel
theorem d_CW_ahead_28 : decode Y_CW_ahead.2.1 28 = .ok (.iload_n 2, 1) := by decide +kernel
theorem d_CW_ahead_29 : decode Y_CW_ahead.2.1 29 = .ok (.iload_n 3, 1) := by decide +kernel
theorem d_CW_ahead_30 : decode Y_CW_ahead.2.1 30 = .ok (.invokevirtual 113, 3) := by decide +kernel
theorem d_CW_ahead_33 : decode Y_CW_ahead.2.1 33 = .ok (.ireturn, 1) := by decide +kernel
theorem d_CW_bit_0 : decode Y_CW_bit.2.1 0 = .ok (.iconst 1, 1) := by decide +kernel
theorem d_CW_bit_1 : decode Y_CW_bit.2.1 1 = .ok (.iload_n 0, 1) := by decide +kernel
theorem d_CW_bit_2 : decode Y_CW_bit.2.1 2 = .ok (.iconst 1, 1) := by decide +kernel
theorem d_CW_bit_3 : decode Y_CW_bit.2.1 3 = .ok (.isub, 1) := by decide +kernel
theorem d_CW_bit_4 : decode Y_CW_bit.2.1 4 = .ok (.ishl, 1) := by decide +kernel
theorem d_CW_bit_5 : decode Y_CW_bit.2.1 5 = .ok (.ireturn, 1) := by decide +kernel
theorem d_CW_rule_0 : decode Y_CW_rule.2.1 0 = .ok (.iload_n 1, 1) := by decide +kernel
theorem d_CW_rule_1 : decode Y_CW_rule.2.1 1 = .ok (.tableswitch 100 0 2 #[27, 52, 77], 27) := by decide +kernel
theorem d_CW_rule_28 : decode Y_CW_rule.2.1 28 = .ok (.iload_n 2, 1) := by decide +kernel
theorem d_CW_rule_29 : decode Y_CW_rule.2.1 29 = .ok (.iconst 1, 1) := by decide +kernel
theorem d_CW_rule_30 : decode Y_CW_rule.2.1 30 = .ok (.if_icmp .lt 9, 3) := by decide +kernel
theorem d_CW_rule_33 : decode Y_CW_rule.2.1 33 = .ok (.iload_n 2, 1) := by decide +kernel
theorem d_CW_rule_34 : decode Y_CW_rule.2.1 34 = .ok (.bipush 8, 2) := by decide +kernel
theorem d_CW_rule_36 : decode Y_CW_rule.2.1 36 = .ok (.if_icmp .le 8, 3) := by decide +kernel
theorem d_CW_rule_39 : decode Y_CW_rule.2.1 39 = .ok (.ldc 83, 2) := by decide +kernel
theorem d_CW_rule_41 : decode Y_CW_rule.2.1 41 = .ok (.goto 11, 3) := by decide +kernel
theorem d_CW_rule_44 : decode Y_CW_rule.2.1 44 = .ok (.aload_n 0, 1) := by decide +kernel
theorem d_CW_rule_45 : decode Y_CW_rule.2.1 45 = .ok (.getfield 10, 3) := by decide +kernel
theorem d_CW_rule_48 : decode Y_CW_rule.2.1 48 = .ok (.iload_n 2, 1) := by decide +kernel
theorem d_CW_rule_49 : decode Y_CW_rule.2.1 49 = .ok (.invokevirtual 117, 3) := by decide +kernel
theorem d_CW_rule_52 : decode Y_CW_rule.2.1 52 = .ok (.ireturn, 1) := by decide +kernel
theorem d_CW_rule_53 : decode Y_CW_rule.2.1 53 = .ok (.iload_n 2, 1) := by decide +kernel
theorem d_CW_rule_54 : decode Y_CW_rule.2.1 54 = .ok (.ifCond .lt 10, 3) := by decide +kernel
theorem d_CW_rule_57 : decode Y_CW_rule.2.1 57 = .ok (.iload_n 2, 1) := by decide +kernel
theorem d_CW_rule_58 : decode Y_CW_rule.2.1 58 = .ok (.sipush 1000, 3) := by decide +kernel
theorem d_CW_rule_61 : decode Y_CW_rule.2.1 61 = .ok (.if_icmp .le 8, 3) := by decide +kernel
theorem d_CW_rule_64 : decode Y_CW_rule.2.1 64 = .ok (.ldc 83, 2) := by decide +kernel
theorem d_CW_rule_66 : decode Y_CW_rule.2.1 66 = .ok (.goto 11, 3) := by decide +kernel
theorem d_CW_rule_69 : decode Y_CW_rule.2.1 69 = .ok (.aload_n 0, 1) := by decide +kernel
theorem d_CW_rule_70 : decode Y_CW_rule.2.1 70 = .ok (.getfield 10, 3) := by decide +kernel
theorem d_CW_rule_73 : decode Y_CW_rule.2.1 73 = .ok (.iload_n 2, 1) := by decide +kernel
theorem d_CW_rule_74 : decode Y_CW_rule.2.1 74 = .ok (.invokevirtual 120, 3) := by decide +kernel
theorem d_CW_rule_77 : decode Y_CW_rule.2.1 77 = .ok (.ireturn, 1) := by decide +kernel
theorem d_CW_rule_78 : decode Y_CW_rule.2.1 78 = .ok (.iload_n 2, 1) := by decide +kernel
theorem d_CW_rule_79 : decode Y_CW_rule.2.1 79 = .ok (.ifCond .lt 8, 3) := by decide +kernel
theorem d_CW_rule_82 : decode Y_CW_rule.2.1 82 = .ok (.iload_n 2, 1) := by decide +kernel
theorem d_CW_rule_83 : decode Y_CW_rule.2.1 83 = .ok (.iconst 1, 1) := by decide +kernel
theorem d_CW_rule_84 : decode Y_CW_rule.2.1 84 = .ok (.if_icmp .le 8, 3) := by decide +kernel
theorem d_CW_rule_87 : decode Y_CW_rule.2.1 87 = .ok (.ldc 83, 2) := by decide +kernel
theorem d_CW_rule_89 : decode Y_CW_rule.2.1 89 = .ok (.goto 11, 3) := by decide +kernel
theorem d_CW_rule_92 : decode Y_CW_rule.2.1 92 = .ok (.aload_n 0, 1) := by decide +kernel
theorem d_CW_rule_93 : decode Y_CW_rule.2.1 93 = .ok (.getfield 10, 3) := by decide +kernel
theorem d_CW_rule_96 : decode Y_CW_rule.2.1 96 = .ok (.iload_n 2, 1) := by decide +kernel
theorem d_CW_rule_97 : decode Y_CW_rule.2.1 97 = .ok (.invokevirtual 123, 3) := by decide +kernel
theorem d_CW_rule_100 : decode Y_CW_rule.2.1 100 = .ok (.ireturn, 1) := by decide +kernel
theorem d_CW_rule_101 : decode Y_CW_rule.2.1 101 = .ok (.ldc 83, 2) := by decide +kernel
theorem d_CW_rule_103 : decode Y_CW_rule.2.1 103 = .ok (.ireturn, 1) := by decide +kernel
theorem d_CW_best_0 : decode Y_CW_best.2.1 0 = .ok (.aload_n 0, 1) := by decide +kernel
theorem d_CW_best_1 : decode Y_CW_best.2.1 1 = .ok (.getfield 26, 3) := by decide +kernel
theorem d_CW_best_4 : decode Y_CW_best.2.1 4 = .ok (.invokevirtual 126, 3) := by decide +kernel
theorem d_CW_best_7 : decode Y_CW_best.2.1 7 = .ok (.aload_n 0, 1) := by decide +kernel
theorem d_CW_best_8 : decode Y_CW_best.2.1 8 = .ok (.getfield 26, 3) := by decide +kernel
theorem d_CW_best_11 : decode Y_CW_best.2.1 11 = .ok (.invokevirtual 129, 3) := by decide +kernel
theorem d_CW_best_14 : decode Y_CW_best.2.1 14 = .ok (.invokestatic 101, 3) := by decide +kernel
theorem d_CW_best_17 : decode Y_CW_best.2.1 17 = .ok (.ireturn, 1) := by decide +kernel
theorem d_CW_sum_0 : decode Y_CW_sum.2.1 0 = .ok (.iload_n 0, 1) := by decide +kernel
theorem d_CW_sum_1 : decode Y_CW_sum.2.1 1 = .ok (.ldc 104, 2) := by decide +kernel
theorem d_CW_sum_3 : decode Y_CW_sum.2.1 3 = .ok (.if_icmp .eq 9, 3) := by decide +kernel
theorem d_CW_sum_6 : decode Y_CW_sum.2.1 6 = .ok (.iload_n 1, 1) := by decide +kernel
theorem d_CW_sum_7 : decode Y_CW_sum.2.1 7 = .ok (.ldc 104, 2) := by decide +kernel
theorem d_CW_sum_9 : decode Y_CW_sum.2.1 9 = .ok (.if_icmp .ne 8, 3) := by decide +kernel
theorem d_CW_sum_12 : decode Y_CW_sum.2.1 12 = .ok (.ldc 104, 2) := by decide +kernel
theorem d_CW_sum_14 : decode Y_CW_sum.2.1 14 = .ok (.goto 6, 3) := by decide +kernel
theorem d_CW_sum_17 : decode Y_CW_sum.2.1 17 = .ok (.iload_n 0, 1) := by decide +kernel
theorem d_CW_sum_18 : decode Y_CW_sum.2.1 18 = .ok (.iload_n 1, 1) := by decide +kernel
theorem d_CW_sum_19 : decode Y_CW_sum.2.1 19 = .ok (.iadd, 1) := by decide +kernel
theorem d_CW_sum_20 : decode Y_CW_sum.2.1 20 = .ok (.ireturn, 1) := by decide +kernel
theorem d_CW_many_0 : decode Y_CW_many.2.1 0 = .ok (.aload_n 0, 1) := by decide +kernel
theorem d_CW_many_1 : decode Y_CW_many.2.1 1 = .ok (.getfield 26, 3) := by decide +kernel
theorem d_CW_many_4 : decode Y_CW_many.2.1 4 = .ok (.invokevirtual 126, 3) := by decide +kernel
theorem d_CW_many_7 : decode Y_CW_many.2.1 7 = .ok (.aload_n 0, 1) := by decide +kernel
theorem d_CW_many_8 : decode Y_CW_many.2.1 8 = .ok (.getfield 26, 3) := by decide +kernel
theorem d_CW_many_11 : decode Y_CW_many.2.1 11 = .ok (.invokevirtual 133, 3) := by decide +kernel
theorem d_CW_many_14 : decode Y_CW_many.2.1 14 = .ok (.ireturn, 1) := by decide +kernel
theorem d_CW_first_0 : decode Y_CW_first.2.1 0 = .ok (.aload_n 0, 1) := by decide +kernel
theorem d_CW_first_1 : decode Y_CW_first.2.1 1 = .ok (.getfield 26, 3) := by decide +kernel
theorem d_CW_first_4 : decode Y_CW_first.2.1 4 = .ok (.invokevirtual 126, 3) := by decide +kernel
theorem d_CW_first_7 : decode Y_CW_first.2.1 7 = .ok (.aload_n 0, 1) := by decide +kernel
theorem d_CW_first_8 : decode Y_CW_first.2.1 8 = .ok (.getfield 26, 3) := by decide +kernel
theorem d_CW_first_11 : decode Y_CW_first.2.1 11 = .ok (.invokevirtual 129, 3) := by decide +kernel
theorem d_CW_first_14 : decode Y_CW_first.2.1 14 = .ok (.ldc 104, 2) := by decide +kernel
theorem d_CW_first_16 : decode Y_CW_first.2.1 16 = .ok (.if_icmp .ne 6, 3) := by decide +kernel
theorem d_CW_first_19 : decode Y_CW_first.2.1 19 = .ok (.ldc 136, 2) := by decide +kernel
theorem d_CW_first_21 : decode Y_CW_first.2.1 21 = .ok (.ireturn, 1) := by decide +kernel
theorem d_CW_first_22 : decode Y_CW_first.2.1 22 = .ok (.aload_n 0, 1) := by decide +kernel
theorem d_CW_first_23 : decode Y_CW_first.2.1 23 = .ok (.getfield 44, 3) := by decide +kernel
theorem d_CW_first_26 : decode Y_CW_first.2.1 26 = .ok (.invokevirtual 137, 3) := by decide +kernel
theorem d_CW_first_29 : decode Y_CW_first.2.1 29 = .ok (.iload_n 1, 1) := by decide +kernel
theorem d_CW_first_30 : decode Y_CW_first.2.1 30 = .ok (.iconst (-1), 1) := by decide +kernel
theorem d_CW_first_31 : decode Y_CW_first.2.1 31 = .ok (.if_icmp .ne 11, 3) := by decide +kernel
theorem d_CW_first_34 : decode Y_CW_first.2.1 34 = .ok (.aload_n 0, 1) := by decide +kernel
theorem d_CW_first_35 : decode Y_CW_first.2.1 35 = .ok (.getfield 44, 3) := by decide +kernel
theorem d_CW_first_38 : decode Y_CW_first.2.1 38 = .ok (.getfield 138, 3) := by decide +kernel
theorem d_CW_first_41 : decode Y_CW_first.2.1 41 = .ok (.ireturn, 1) := by decide +kernel
theorem d_CW_first_42 : decode Y_CW_first.2.1 42 = .ok (.iload_n 1, 1) := by decide +kernel
theorem d_CW_first_43 : decode Y_CW_first.2.1 43 = .ok (.ifCond .lt 14, 3) := by decide +kernel
theorem d_CW_first_46 : decode Y_CW_first.2.1 46 = .ok (.iload_n 1, 1) := by decide +kernel
theorem d_CW_first_47 : decode Y_CW_first.2.1 47 = .ok (.aload_n 0, 1) := by decide +kernel
theorem d_CW_first_48 : decode Y_CW_first.2.1 48 = .ok (.getfield 44, 3) := by decide +kernel
theorem d_CW_first_51 : decode Y_CW_first.2.1 51 = .ok (.getfield 138, 3) := by decide +kernel
theorem d_CW_first_54 : decode Y_CW_first.2.1 54 = .ok (.if_icmp .lt 8, 3) := by decide +kernel
theorem d_CW_first_57 : decode Y_CW_first.2.1 57 = .ok (.ldc 83, 2) := by decide +kernel
theorem d_CW_first_59 : decode Y_CW_first.2.1 59 = .ok (.goto 12, 3) := by decide +kernel
theorem d_CW_first_62 : decode Y_CW_first.2.1 62 = .ok (.aload_n 0, 1) := by decide +kernel
theorem d_CW_first_63 : decode Y_CW_first.2.1 63 = .ok (.getfield 44, 3) := by decide +kernel
theorem d_CW_first_66 : decode Y_CW_first.2.1 66 = .ok (.getfield 141, 3) := by decide +kernel
theorem d_CW_first_69 : decode Y_CW_first.2.1 69 = .ok (.iload_n 1, 1) := by decide +kernel
theorem d_CW_first_70 : decode Y_CW_first.2.1 70 = .ok (.iaload, 1) := by decide +kernel
theorem d_CW_first_71 : decode Y_CW_first.2.1 71 = .ok (.ireturn, 1) := by decide +kernel
theorem d_CW_with_0 : decode Y_CW_with.2.1 0 = .ok (.aload_n 0, 1) := by decide +kernel
theorem d_CW_with_1 : decode Y_CW_with.2.1 1 = .ok (.getfield 10, 3) := by decide +kernel
theorem d_CW_with_4 : decode Y_CW_with.2.1 4 = .ok (.iload_n 1, 1) := by decide +kernel
theorem d_CW_with_5 : decode Y_CW_with.2.1 5 = .ok (.iload_n 2, 1) := by decide +kernel
theorem d_CW_with_6 : decode Y_CW_with.2.1 6 = .ok (.invokevirtual 93, 3) := by decide +kernel
theorem d_CW_with_9 : decode Y_CW_with.2.1 9 = .ok (.ifCond .ne 6, 3) := by decide +kernel
theorem d_CW_with_12 : decode Y_CW_with.2.1 12 = .ok (.ldc 83, 2) := by decide +kernel
theorem d_CW_with_14 : decode Y_CW_with.2.1 14 = .ok (.ireturn, 1) := by decide +kernel
theorem d_CW_with_15 : decode Y_CW_with.2.1 15 = .ok (.aload_n 0, 1) := by decide +kernel
theorem d_CW_with_16 : decode Y_CW_with.2.1 16 = .ok (.getfield 26, 3) := by decide +kernel
theorem d_CW_with_19 : decode Y_CW_with.2.1 19 = .ok (.invokevirtual 126, 3) := by decide +kernel
theorem d_CW_with_22 : decode Y_CW_with.2.1 22 = .ok (.aload_n 0, 1) := by decide +kernel
theorem d_CW_with_23 : decode Y_CW_with.2.1 23 = .ok (.getfield 35, 3) := by decide +kernel
theorem d_CW_with_26 : decode Y_CW_with.2.1 26 = .ok (.aload_n 0, 1) := by decide +kernel
theorem d_CW_with_27 : decode Y_CW_with.2.1 27 = .ok (.getfield 10, 3) := by decide +kernel
theorem d_CW_with_30 : decode Y_CW_with.2.1 30 = .ok (.invokevirtual 145, 3) := by decide +kernel
theorem d_CW_with_33 : decode Y_CW_with.2.1 33 = .ok (.aload_n 0, 1) := by decide +kernel
theorem d_CW_with_34 : decode Y_CW_with.2.1 34 = .ok (.getfield 10, 3) := by decide +kernel
theorem d_CW_with_37 : decode Y_CW_with.2.1 37 = .ok (.getfield 148, 3) := by decide +kernel
theorem d_CW_with_40 : decode Y_CW_with.2.1 40 = .ok (.invokevirtual 151, 3) := by decide +kernel
theorem d_CW_with_43 : decode Y_CW_with.2.1 43 = .ok (.aload_n 0, 1) := by decide +kernel
theorem d_CW_with_44 : decode Y_CW_with.2.1 44 = .ok (.getfield 35, 3) := by decide +kernel
theorem d_CW_with_47 : decode Y_CW_with.2.1 47 = .ok (.iload_n 1, 1) := by decide +kernel
theorem d_CW_with_48 : decode Y_CW_with.2.1 48 = .ok (.iload_n 2, 1) := by decide +kernel
theorem d_CW_with_49 : decode Y_CW_with.2.1 49 = .ok (.ldc 155, 2) := by decide +kernel
theorem d_CW_with_51 : decode Y_CW_with.2.1 51 = .ok (.invokevirtual 156, 3) := by decide +kernel
theorem d_CW_with_54 : decode Y_CW_with.2.1 54 = .ok (.invokestatic 101, 3) := by decide +kernel
theorem d_CW_with_57 : decode Y_CW_with.2.1 57 = .ok (.ireturn, 1) := by decide +kernel
theorem d_CW_without_0 : decode Y_CW_without.2.1 0 = .ok (.aload_n 0, 1) := by decide +kernel
theorem d_CW_without_1 : decode Y_CW_without.2.1 1 = .ok (.getfield 10, 3) := by decide +kernel
theorem d_CW_without_4 : decode Y_CW_without.2.1 4 = .ok (.iload_n 1, 1) := by decide +kernel
theorem d_CW_without_5 : decode Y_CW_without.2.1 5 = .ok (.invokevirtual 105, 3) := by decide +kernel
theorem d_CW_without_8 : decode Y_CW_without.2.1 8 = .ok (.ifCond .ne 6, 3) := by decide +kernel
theorem d_CW_without_11 : decode Y_CW_without.2.1 11 = .ok (.ldc 83, 2) := by decide +kernel
theorem d_CW_without_13 : decode Y_CW_without.2.1 13 = .ok (.ireturn, 1) := by decide +kernel
theorem d_CW_without_14 : decode Y_CW_without.2.1 14 = .ok (.aload_n 0, 1) := by decide +kernel
theorem d_CW_without_15 : decode Y_CW_without.2.1 15 = .ok (.getfield 26, 3) := by decide +kernel
theorem d_CW_without_18 : decode Y_CW_without.2.1 18 = .ok (.invokevirtual 126, 3) := by decide +kernel
theorem d_CW_without_21 : decode Y_CW_without.2.1 21 = .ok (.aload_n 0, 1) := by decide +kernel
theorem d_CW_without_22 : decode Y_CW_without.2.1 22 = .ok (.getfield 26, 3) := by decide +kernel
theorem d_CW_without_25 : decode Y_CW_without.2.1 25 = .ok (.iload_n 1, 1) := by decide +kernel
theorem d_CW_without_26 : decode Y_CW_without.2.1 26 = .ok (.invokevirtual 159, 3) := by decide +kernel
theorem d_CW_without_29 : decode Y_CW_without.2.1 29 = .ok (.invokestatic 101, 3) := by decide +kernel
theorem d_CW_without_32 : decode Y_CW_without.2.1 32 = .ok (.ireturn, 1) := by decide +kernel
theorem d_CW_filter_0 : decode Y_CW_filter.2.1 0 = .ok (.aload_n 0, 1) := by decide +kernel
theorem d_CW_filter_1 : decode Y_CW_filter.2.1 1 = .ok (.getfield 26, 3) := by decide +kernel
theorem d_CW_filter_4 : decode Y_CW_filter.2.1 4 = .ok (.invokevirtual 126, 3) := by decide +kernel
theorem d_CW_filter_7 : decode Y_CW_filter.2.1 7 = .ok (.aload_n 0, 1) := by decide +kernel
theorem d_CW_filter_8 : decode Y_CW_filter.2.1 8 = .ok (.getfield 35, 3) := by decide +kernel
theorem d_CW_filter_11 : decode Y_CW_filter.2.1 11 = .ok (.aload_n 0, 1) := by decide +kernel
theorem d_CW_filter_12 : decode Y_CW_filter.2.1 12 = .ok (.getfield 10, 3) := by decide +kernel
theorem d_CW_filter_15 : decode Y_CW_filter.2.1 15 = .ok (.invokevirtual 145, 3) := by decide +kernel
theorem d_CW_filter_18 : decode Y_CW_filter.2.1 18 = .ok (.aload_n 0, 1) := by decide +kernel
theorem d_CW_filter_19 : decode Y_CW_filter.2.1 19 = .ok (.getfield 10, 3) := by decide +kernel
theorem d_CW_filter_22 : decode Y_CW_filter.2.1 22 = .ok (.getfield 148, 3) := by decide +kernel
theorem d_CW_filter_25 : decode Y_CW_filter.2.1 25 = .ok (.invokevirtual 151, 3) := by decide +kernel
theorem d_CW_filter_28 : decode Y_CW_filter.2.1 28 = .ok (.aload_n 0, 1) := by decide +kernel
theorem d_CW_filter_29 : decode Y_CW_filter.2.1 29 = .ok (.getfield 35, 3) := by decide +kernel
theorem d_CW_filter_32 : decode Y_CW_filter.2.1 32 = .ok (.iload_n 1, 1) := by decide +kernel
theorem d_CW_filter_33 : decode Y_CW_filter.2.1 33 = .ok (.invokevirtual 162, 3) := by decide +kernel
theorem d_CW_filter_36 : decode Y_CW_filter.2.1 36 = .ok (.ireturn, 1) := by decide +kernel
theorem d_CW_weight_0 : decode Y_CW_weight.2.1 0 = .ok (.aload_n 0, 1) := by decide +kernel
theorem d_CW_weight_1 : decode Y_CW_weight.2.1 1 = .ok (.getfield 10, 3) := by decide +kernel
theorem d_CW_weight_4 : decode Y_CW_weight.2.1 4 = .ok (.iload_n 1, 1) := by decide +kernel
theorem d_CW_weight_5 : decode Y_CW_weight.2.1 5 = .ok (.invokevirtual 165, 3) := by decide +kernel
theorem d_CW_weight_8 : decode Y_CW_weight.2.1 8 = .ok (.ifCond .eq 17, 3) := by decide +kernel
theorem d_CW_weight_11 : decode Y_CW_weight.2.1 11 = .ok (.iload_n 2, 1) := by decide +kernel
theorem d_CW_weight_12 : decode Y_CW_weight.2.1 12 = .ok (.sipush (-1000), 3) := by decide +kernel
theorem d_CW_weight_15 : decode Y_CW_weight.2.1 15 = .ok (.if_icmp .lt 10, 3) := by decide +kernel
theorem d_CW_weight_18 : decode Y_CW_weight.2.1 18 = .ok (.iload_n 2, 1) := by decide +kernel
theorem d_CW_weight_19 : decode Y_CW_weight.2.1 19 = .ok (.sipush 1000, 3) := by decide +kernel
theorem d_CW_weight_22 : decode Y_CW_weight.2.1 22 = .ok (.if_icmp .le 6, 3) := by decide +kernel
theorem d_CW_weight_25 : decode Y_CW_weight.2.1 25 = .ok (.ldc 83, 2) := by decide +kernel
theorem d_CW_weight_27 : decode Y_CW_weight.2.1 27 = .ok (.ireturn, 1) := by decide +kernel
theorem d_CW_weight_28 : decode Y_CW_weight.2.1 28 = .ok (.aload_n 0, 1) := by decide +kernel
theorem d_CW_weight_29 : decode Y_CW_weight.2.1 29 = .ok (.getfield 51, 3) := by decide +kernel
theorem d_CW_weight_32 : decode Y_CW_weight.2.1 32 = .ok (.iload_n 1, 1) := by decide +kernel
theorem d_CW_weight_33 : decode Y_CW_weight.2.1 33 = .ok (.iload_n 2, 1) := by decide +kernel
theorem d_CW_weight_34 : decode Y_CW_weight.2.1 34 = .ok (.invokevirtual 168, 3) := by decide +kernel
theorem d_CW_weight_37 : decode Y_CW_weight.2.1 37 = .ok (.ireturn, 1) := by decide +kernel
theorem d_CW_bound_0 : decode Y_CW_bound.2.1 0 = .ok (.aload_n 0, 1) := by decide +kernel
theorem d_CW_bound_1 : decode Y_CW_bound.2.1 1 = .ok (.getfield 51, 3) := by decide +kernel
theorem d_CW_bound_4 : decode Y_CW_bound.2.1 4 = .ok (.invokevirtual 171, 3) := by decide +kernel
theorem d_CW_bound_7 : decode Y_CW_bound.2.1 7 = .ok (.ifCond .eq 13, 3) := by decide +kernel
theorem d_CW_bound_10 : decode Y_CW_bound.2.1 10 = .ok (.aload_n 0, 1) := by decide +kernel
theorem d_CW_bound_11 : decode Y_CW_bound.2.1 11 = .ok (.getfield 51, 3) := by decide +kernel
theorem d_CW_bound_14 : decode Y_CW_bound.2.1 14 = .ok (.invokevirtual 175, 3) := by decide +kernel
theorem d_CW_bound_17 : decode Y_CW_bound.2.1 17 = .ok (.goto 5, 3) := by decide +kernel
theorem d_CW_bound_20 : decode Y_CW_bound.2.1 20 = .ok (.ldc 136, 2) := by decide +kernel
theorem d_CW_bound_22 : decode Y_CW_bound.2.1 22 = .ok (.ireturn, 1) := by decide +kernel
theorem d_CW_edge_0 : decode Y_CW_edge.2.1 0 = .ok (.aload_n 0, 1) := by decide +kernel
theorem d_CW_edge_1 : decode Y_CW_edge.2.1 1 = .ok (.getfield 51, 3) := by decide +kernel
theorem d_CW_edge_4 : decode Y_CW_edge.2.1 4 = .ok (.invokevirtual 171, 3) := by decide +kernel
theorem d_CW_edge_7 : decode Y_CW_edge.2.1 7 = .ok (.ifCond .ne 6, 3) := by decide +kernel
theorem d_CW_edge_10 : decode Y_CW_edge.2.1 10 = .ok (.ldc 136, 2) := by decide +kernel
theorem d_CW_edge_12 : decode Y_CW_edge.2.1 12 = .ok (.ireturn, 1) := by decide +kernel
theorem d_CW_edge_13 : decode Y_CW_edge.2.1 13 = .ok (.iload_n 1, 1) := by decide +kernel
theorem d_CW_edge_14 : decode Y_CW_edge.2.1 14 = .ok (.ifCond .lt 23, 3) := by decide +kernel
theorem d_CW_edge_17 : decode Y_CW_edge.2.1 17 = .ok (.iload_n 1, 1) := by decide +kernel
theorem d_CW_edge_18 : decode Y_CW_edge.2.1 18 = .ok (.aload_n 0, 1) := by decide +kernel
theorem d_CW_edge_19 : decode Y_CW_edge.2.1 19 = .ok (.getfield 51, 3) := by decide +kernel
theorem d_CW_edge_22 : decode Y_CW_edge.2.1 22 = .ok (.getfield 178, 3) := by decide +kernel
theorem d_CW_edge_25 : decode Y_CW_edge.2.1 25 = .ok (.if_icmp .ge 12, 3) := by decide +kernel
theorem d_CW_edge_28 : decode Y_CW_edge.2.1 28 = .ok (.iload_n 2, 1) := by decide +kernel
theorem d_CW_edge_29 : decode Y_CW_edge.2.1 29 = .ok (.ifCond .lt 8, 3) := by decide +kernel
theorem d_CW_edge_32 : decode Y_CW_edge.2.1 32 = .ok (.iload_n 2, 1) := by decide +kernel
theorem d_CW_edge_33 : decode Y_CW_edge.2.1 33 = .ok (.iconst 1, 1) := by decide +kernel
theorem d_CW_edge_34 : decode Y_CW_edge.2.1 34 = .ok (.if_icmp .le 6, 3) := by decide +kernel
theorem d_CW_edge_37 : decode Y_CW_edge.2.1 37 = .ok (.ldc 83, 2) := by decide +kernel
theorem d_CW_edge_39 : decode Y_CW_edge.2.1 39 = .ok (.ireturn, 1) := by decide +kernel
theorem d_CW_edge_40 : decode Y_CW_edge.2.1 40 = .ok (.iload_n 2, 1) := by decide +kernel
theorem d_CW_edge_41 : decode Y_CW_edge.2.1 41 = .ok (.ifCond .ne 15, 3) := by decide +kernel
theorem d_CW_edge_44 : decode Y_CW_edge.2.1 44 = .ok (.aload_n 0, 1) := by decide +kernel
theorem d_CW_edge_45 : decode Y_CW_edge.2.1 45 = .ok (.getfield 51, 3) := by decide +kernel
theorem d_CW_edge_48 : decode Y_CW_edge.2.1 48 = .ok (.getfield 181, 3) := by decide +kernel
theorem d_CW_edge_51 : decode Y_CW_edge.2.1 51 = .ok (.iload_n 1, 1) := by decide +kernel
theorem d_CW_edge_52 : decode Y_CW_edge.2.1 52 = .ok (.iaload, 1) := by decide +kernel
theorem d_CW_edge_53 : decode Y_CW_edge.2.1 53 = .ok (.goto 12, 3) := by decide +kernel
theorem d_CW_edge_56 : decode Y_CW_edge.2.1 56 = .ok (.aload_n 0, 1) := by decide +kernel
theorem d_CW_edge_57 : decode Y_CW_edge.2.1 57 = .ok (.getfield 51, 3) := by decide +kernel
theorem d_CW_edge_60 : decode Y_CW_edge.2.1 60 = .ok (.getfield 184, 3) := by decide +kernel
theorem d_CW_edge_63 : decode Y_CW_edge.2.1 63 = .ok (.iload_n 1, 1) := by decide +kernel
theorem d_CW_edge_64 : decode Y_CW_edge.2.1 64 = .ok (.iaload, 1) := by decide +kernel
theorem d_CW_edge_65 : decode Y_CW_edge.2.1 65 = .ok (.ireturn, 1) := by decide +kernel
theorem d_CW_degree_0 : decode Y_CW_degree.2.1 0 = .ok (.aload_n 0, 1) := by decide +kernel
theorem d_CW_degree_1 : decode Y_CW_degree.2.1 1 = .ok (.getfield 10, 3) := by decide +kernel
theorem d_CW_degree_4 : decode Y_CW_degree.2.1 4 = .ok (.iload_n 1, 1) := by decide +kernel
theorem d_CW_degree_5 : decode Y_CW_degree.2.1 5 = .ok (.invokevirtual 165, 3) := by decide +kernel
theorem d_CW_degree_8 : decode Y_CW_degree.2.1 8 = .ok (.ifCond .ne 6, 3) := by decide +kernel
theorem d_CW_degree_11 : decode Y_CW_degree.2.1 11 = .ok (.ldc 83, 2) := by decide +kernel
theorem d_CW_degree_13 : decode Y_CW_degree.2.1 13 = .ok (.ireturn, 1) := by decide +kernel
theorem d_CW_degree_14 : decode Y_CW_degree.2.1 14 = .ok (.aload_n 0, 1) := by decide +kernel
theorem d_CW_degree_15 : decode Y_CW_degree.2.1 15 = .ok (.getfield 51, 3) := by decide +kernel
theorem d_CW_degree_18 : decode Y_CW_degree.2.1 18 = .ok (.invokevirtual 171, 3) := by decide +kernel
theorem d_CW_degree_21 : decode Y_CW_degree.2.1 21 = .ok (.ifCond .eq 14, 3) := by decide +kernel
theorem d_CW_degree_24 : decode Y_CW_degree.2.1 24 = .ok (.aload_n 0, 1) := by decide +kernel
theorem d_CW_degree_25 : decode Y_CW_degree.2.1 25 = .ok (.getfield 51, 3) := by decide +kernel
theorem d_CW_degree_28 : decode Y_CW_degree.2.1 28 = .ok (.iload_n 1, 1) := by decide +kernel
theorem d_CW_degree_29 : decode Y_CW_degree.2.1 29 = .ok (.invokevirtual 187, 3) := by decide +kernel
theorem d_CW_degree_32 : decode Y_CW_degree.2.1 32 = .ok (.goto 5, 3) := by decide +kernel
theorem d_CW_degree_35 : decode Y_CW_degree.2.1 35 = .ok (.ldc 136, 2) := by decide +kernel
theorem d_CW_degree_37 : decode Y_CW_degree.2.1 37 = .ok (.ireturn, 1) := by decide +kernel
theorem d_CW_pairing_0 : decode Y_CW_pairing.2.1 0 = .ok (.aload_n 0, 1) := by decide +kernel
theorem d_CW_pairing_1 : decode Y_CW_pairing.2.1 1 = .ok (.getfield 58, 3) := by decide +kernel
theorem d_CW_pairing_4 : decode Y_CW_pairing.2.1 4 = .ok (.invokevirtual 190, 3) := by decide +kernel
theorem d_CW_pairing_7 : decode Y_CW_pairing.2.1 7 = .ok (.invokestatic 101, 3) := by decide +kernel
theorem d_CW_pairing_10 : decode Y_CW_pairing.2.1 10 = .ok (.ireturn, 1) := by decide +kernel
theorem d_CW_next_0 : decode Y_CW_next.2.1 0 = .ok (.aload_n 0, 1) := by decide +kernel
theorem d_CW_next_1 : decode Y_CW_next.2.1 1 = .ok (.getfield 10, 3) := by decide +kernel
theorem d_CW_next_4 : decode Y_CW_next.2.1 4 = .ok (.iload_n 1, 1) := by decide +kernel
theorem d_CW_next_5 : decode Y_CW_next.2.1 5 = .ok (.invokevirtual 165, 3) := by decide +kernel
theorem d_CW_next_8 : decode Y_CW_next.2.1 8 = .ok (.ifCond .eq 24, 3) := by decide +kernel
theorem d_CW_next_11 : decode Y_CW_next.2.1 11 = .ok (.iload_n 1, 1) := by decide +kernel
theorem d_CW_next_12 : decode Y_CW_next.2.1 12 = .ok (.iload_n 2, 1) := by decide +kernel
theorem d_CW_next_13 : decode Y_CW_next.2.1 13 = .ok (.if_icmp .eq 19, 3) := by decide +kernel
theorem d_CW_next_16 : decode Y_CW_next.2.1 16 = .ok (.iload_n 2, 1) := by decide +kernel
theorem d_CW_next_17 : decode Y_CW_next.2.1 17 = .ok (.iconst (-1), 1) := by decide +kernel
theorem d_CW_next_18 : decode Y_CW_next.2.1 18 = .ok (.if_icmp .eq 17, 3) := by decide +kernel
theorem d_CW_next_21 : decode Y_CW_next.2.1 21 = .ok (.aload_n 0, 1) := by decide +kernel
theorem d_CW_next_22 : decode Y_CW_next.2.1 22 = .ok (.getfield 10, 3) := by decide +kernel
theorem d_CW_next_25 : decode Y_CW_next.2.1 25 = .ok (.iload_n 2, 1) := by decide +kernel
theorem d_CW_next_26 : decode Y_CW_next.2.1 26 = .ok (.invokevirtual 165, 3) := by decide +kernel
theorem d_CW_next_29 : decode Y_CW_next.2.1 29 = .ok (.ifCond .ne 6, 3) := by decide +kernel
theorem d_CW_next_32 : decode Y_CW_next.2.1 32 = .ok (.ldc 83, 2) := by decide +kernel
theorem d_CW_next_34 : decode Y_CW_next.2.1 34 = .ok (.ireturn, 1) := by decide +kernel
theorem d_CW_next_35 : decode Y_CW_next.2.1 35 = .ok (.aload_n 0, 1) := by decide +kernel
theorem d_CW_next_36 : decode Y_CW_next.2.1 36 = .ok (.getfield 65, 3) := by decide +kernel
theorem d_CW_next_39 : decode Y_CW_next.2.1 39 = .ok (.iload_n 1, 1) := by decide +kernel
theorem d_CW_next_40 : decode Y_CW_next.2.1 40 = .ok (.iload_n 2, 1) := by decide +kernel
theorem d_CW_next_41 : decode Y_CW_next.2.1 41 = .ok (.invokevirtual 191, 3) := by decide +kernel
theorem d_CW_next_44 : decode Y_CW_next.2.1 44 = .ok (.ireturn, 1) := by decide +kernel
theorem d_CW_circle_0 : decode Y_CW_circle.2.1 0 = .ok (.aload_n 0, 1) := by decide +kernel
theorem d_CW_circle_1 : decode Y_CW_circle.2.1 1 = .ok (.getfield 65, 3) := by decide +kernel
theorem d_CW_circle_4 : decode Y_CW_circle.2.1 4 = .ok (.invokevirtual 194, 3) := by decide +kernel
theorem d_CW_circle_7 : decode Y_CW_circle.2.1 7 = .ok (.istore_n 2, 1) := by decide +kernel
theorem d_CW_circle_8 : decode Y_CW_circle.2.1 8 = .ok (.iload_n 1, 1) := by decide +kernel
theorem d_CW_circle_9 : decode Y_CW_circle.2.1 9 = .ok (.iconst (-1), 1) := by decide +kernel
theorem d_CW_circle_10 : decode Y_CW_circle.2.1 10 = .ok (.if_icmp .ne 5, 3) := by decide +kernel
theorem d_CW_circle_13 : decode Y_CW_circle.2.1 13 = .ok (.iload_n 2, 1) := by decide +kernel
theorem d_CW_circle_14 : decode Y_CW_circle.2.1 14 = .ok (.ireturn, 1) := by decide +kernel
theorem d_CW_circle_15 : decode Y_CW_circle.2.1 15 = .ok (.iload_n 1, 1) := by decide +kernel
theorem d_CW_circle_16 : decode Y_CW_circle.2.1 16 = .ok (.ifCond .lt 8, 3) := by decide +kernel
theorem d_CW_circle_19 : decode Y_CW_circle.2.1 19 = .ok (.iload_n 1, 1) := by decide +kernel
theorem d_CW_circle_20 : decode Y_CW_circle.2.1 20 = .ok (.iload_n 2, 1) := by decide +kernel
theorem d_CW_circle_21 : decode Y_CW_circle.2.1 21 = .ok (.if_icmp .lt 8, 3) := by decide +kernel
theorem d_CW_circle_24 : decode Y_CW_circle.2.1 24 = .ok (.ldc 83, 2) := by decide +kernel
theorem d_CW_circle_26 : decode Y_CW_circle.2.1 26 = .ok (.goto 12, 3) := by decide +kernel
theorem d_CW_circle_29 : decode Y_CW_circle.2.1 29 = .ok (.aload_n 0, 1) := by decide +kernel
theorem d_CW_circle_30 : decode Y_CW_circle.2.1 30 = .ok (.getfield 65, 3) := by decide +kernel
theorem d_CW_circle_33 : decode Y_CW_circle.2.1 33 = .ok (.getfield 197, 3) := by decide +kernel
theorem d_CW_circle_36 : decode Y_CW_circle.2.1 36 = .ok (.iload_n 1, 1) := by decide +kernel
theorem d_CW_circle_37 : decode Y_CW_circle.2.1 37 = .ok (.iaload, 1) := by decide +kernel
theorem d_CW_circle_38 : decode Y_CW_circle.2.1 38 = .ok (.ireturn, 1) := by decide +kernel
theorem d_CW_nearest_0 : decode Y_CW_nearest.2.1 0 = .ok (.aload_n 0, 1) := by decide +kernel
theorem d_CW_nearest_1 : decode Y_CW_nearest.2.1 1 = .ok (.getfield 10, 3) := by decide +kernel
theorem d_CW_nearest_4 : decode Y_CW_nearest.2.1 4 = .ok (.iload_n 1, 1) := by decide +kernel
theorem d_CW_nearest_5 : decode Y_CW_nearest.2.1 5 = .ok (.invokevirtual 165, 3) := by decide +kernel
theorem d_CW_nearest_8 : decode Y_CW_nearest.2.1 8 = .ok (.ifCond .ne 6, 3) := by decide +kernel
theorem d_CW_nearest_11 : decode Y_CW_nearest.2.1 11 = .ok (.ldc 83, 2) := by decide +kernel
theorem d_CW_nearest_13 : decode Y_CW_nearest.2.1 13 = .ok (.ireturn, 1) := by decide +kernel
theorem d_CW_nearest_14 : decode Y_CW_nearest.2.1 14 = .ok (.aload_n 0, 1) := by decide +kernel
theorem d_CW_nearest_15 : decode Y_CW_nearest.2.1 15 = .ok (.getfield 72, 3) := by decide +kernel
theorem d_CW_nearest_18 : decode Y_CW_nearest.2.1 18 = .ok (.iload_n 1, 1) := by decide +kernel
theorem d_CW_nearest_19 : decode Y_CW_nearest.2.1 19 = .ok (.invokevirtual 200, 3) := by decide +kernel
theorem d_CW_nearest_22 : decode Y_CW_nearest.2.1 22 = .ok (.ireturn, 1) := by decide +kernel
theorem d_CW_put_0 : decode Y_CW_put.2.1 0 = .ok (.aload_n 0, 1) := by decide +kernel
theorem d_CW_put_1 : decode Y_CW_put.2.1 1 = .ok (.getfield 10, 3) := by decide +kernel
theorem d_CW_put_4 : decode Y_CW_put.2.1 4 = .ok (.iload_n 1, 1) := by decide +kernel
theorem d_CW_put_5 : decode Y_CW_put.2.1 5 = .ok (.invokevirtual 165, 3) := by decide +kernel
theorem d_CW_put_8 : decode Y_CW_put.2.1 8 = .ok (.ifCond .ne 6, 3) := by decide +kernel
theorem d_CW_put_11 : decode Y_CW_put.2.1 11 = .ok (.ldc 83, 2) := by decide +kernel
theorem d_CW_put_13 : decode Y_CW_put.2.1 13 = .ok (.ireturn, 1) := by decide +kernel
theorem d_CW_put_14 : decode Y_CW_put.2.1 14 = .ok (.aload_n 0, 1) := by decide +kernel
theorem d_CW_put_15 : decode Y_CW_put.2.1 15 = .ok (.getfield 79, 3) := by decide +kernel
theorem d_CW_put_18 : decode Y_CW_put.2.1 18 = .ok (.getfield 203, 3) := by decide +kernel
theorem d_CW_put_21 : decode Y_CW_put.2.1 21 = .ok (.bipush 20, 2) := by decide +kernel
theorem d_CW_put_23 : decode Y_CW_put.2.1 23 = .ok (.if_icmp .lt 8, 3) := by decide +kernel
theorem d_CW_put_26 : decode Y_CW_put.2.1 26 = .ok (.ldc 88, 2) := by decide +kernel
theorem d_CW_put_28 : decode Y_CW_put.2.1 28 = .ok (.goto 11, 3) := by decide +kernel
theorem d_CW_put_31 : decode Y_CW_put.2.1 31 = .ok (.aload_n 0, 1) := by decide +kernel
theorem d_CW_put_32 : decode Y_CW_put.2.1 32 = .ok (.getfield 79, 3) := by decide +kernel
theorem d_CW_put_35 : decode Y_CW_put.2.1 35 = .ok (.iload_n 1, 1) := by decide +kernel
theorem d_CW_put_36 : decode Y_CW_put.2.1 36 = .ok (.invokevirtual 204, 3) := by decide +kernel
theorem d_CW_put_39 : decode Y_CW_put.2.1 39 = .ok (.ireturn, 1) := by decide +kernel
theorem d_CW_keep_0 : decode Y_CW_keep.2.1 0 = .ok (.iload_n 1, 1) := by decide +kernel
theorem d_CW_keep_1 : decode Y_CW_keep.2.1 1 = .ok (.ifCond .lt 14, 3) := by decide +kernel
theorem d_CW_keep_4 : decode Y_CW_keep.2.1 4 = .ok (.iload_n 1, 1) := by decide +kernel
theorem d_CW_keep_5 : decode Y_CW_keep.2.1 5 = .ok (.aload_n 0, 1) := by decide +kernel
theorem d_CW_keep_6 : decode Y_CW_keep.2.1 6 = .ok (.getfield 79, 3) := by decide +kernel
theorem d_CW_keep_9 : decode Y_CW_keep.2.1 9 = .ok (.getfield 203, 3) := by decide +kernel
theorem d_CW_keep_12 : decode Y_CW_keep.2.1 12 = .ok (.if_icmp .le 6, 3) := by decide +kernel
theorem d_CW_keep_15 : decode Y_CW_keep.2.1 15 = .ok (.ldc 83, 2) := by decide +kernel
theorem d_CW_keep_17 : decode Y_CW_keep.2.1 17 = .ok (.ireturn, 1) := by decide +kernel
theorem d_CW_keep_18 : decode Y_CW_keep.2.1 18 = .ok (.aload_n 0, 1) := by decide +kernel
theorem d_CW_keep_19 : decode Y_CW_keep.2.1 19 = .ok (.getfield 79, 3) := by decide +kernel
theorem d_CW_keep_22 : decode Y_CW_keep.2.1 22 = .ok (.iload_n 1, 1) := by decide +kernel
theorem d_CW_keep_23 : decode Y_CW_keep.2.1 23 = .ok (.invokevirtual 207, 3) := by decide +kernel
theorem d_CW_keep_26 : decode Y_CW_keep.2.1 26 = .ok (.ireturn, 1) := by decide +kernel
theorem d_CW_check_0 : decode Y_CW_check.2.1 0 = .ok (.aload_n 0, 1) := by decide +kernel
theorem d_CW_check_1 : decode Y_CW_check.2.1 1 = .ok (.getfield 79, 3) := by decide +kernel
theorem d_CW_check_4 : decode Y_CW_check.2.1 4 = .ok (.invokevirtual 210, 3) := by decide +kernel
theorem d_CW_check_7 : decode Y_CW_check.2.1 7 = .ok (.invokestatic 101, 3) := by decide +kernel
theorem d_CW_check_10 : decode Y_CW_check.2.1 10 = .ok (.ireturn, 1) := by decide +kernel
theorem d_CW_insert_0 : decode Y_CW_insert.2.1 0 = .ok (.aload_n 0, 1) := by decide +kernel
theorem d_CW_insert_1 : decode Y_CW_insert.2.1 1 = .ok (.getfield 10, 3) := by decide +kernel
theorem d_CW_insert_4 : decode Y_CW_insert.2.1 4 = .ok (.iload_n 1, 1) := by decide +kernel
theorem d_CW_insert_5 : decode Y_CW_insert.2.1 5 = .ok (.invokevirtual 105, 3) := by decide +kernel
theorem d_CW_insert_8 : decode Y_CW_insert.2.1 8 = .ok (.ifCond .ne 6, 3) := by decide +kernel
theorem d_CW_insert_11 : decode Y_CW_insert.2.1 11 = .ok (.ldc 83, 2) := by decide +kernel
theorem d_CW_insert_13 : decode Y_CW_insert.2.1 13 = .ok (.ireturn, 1) := by decide +kernel
theorem d_CW_insert_14 : decode Y_CW_insert.2.1 14 = .ok (.aload_n 0, 1) := by decide +kernel
theorem d_CW_insert_15 : decode Y_CW_insert.2.1 15 = .ok (.getfield 79, 3) := by decide +kernel
theorem d_CW_insert_18 : decode Y_CW_insert.2.1 18 = .ok (.getfield 203, 3) := by decide +kernel
theorem d_CW_insert_21 : decode Y_CW_insert.2.1 21 = .ok (.bipush 20, 2) := by decide +kernel
theorem d_CW_insert_23 : decode Y_CW_insert.2.1 23 = .ok (.if_icmp .lt 8, 3) := by decide +kernel
theorem d_CW_insert_26 : decode Y_CW_insert.2.1 26 = .ok (.ldc 88, 2) := by decide +kernel
theorem d_CW_insert_28 : decode Y_CW_insert.2.1 28 = .ok (.goto 11, 3) := by decide +kernel
theorem d_CW_insert_31 : decode Y_CW_insert.2.1 31 = .ok (.aload_n 0, 1) := by decide +kernel
theorem d_CW_insert_32 : decode Y_CW_insert.2.1 32 = .ok (.getfield 79, 3) := by decide +kernel
theorem d_CW_insert_35 : decode Y_CW_insert.2.1 35 = .ok (.iload_n 1, 1) := by decide +kernel
theorem d_CW_insert_36 : decode Y_CW_insert.2.1 36 = .ok (.invokevirtual 213, 3) := by decide +kernel
theorem d_CW_insert_39 : decode Y_CW_insert.2.1 39 = .ok (.ireturn, 1) := by decide +kernel
theorem d_CW_count_0 : decode Y_CW_count.2.1 0 = .ok (.iload_n 1, 1) := by decide +kernel
theorem d_CW_count_1 : decode Y_CW_count.2.1 1 = .ok (.tableswitch 99 0 6 #[43, 51, 59, 67, 75, 83, 91], 43) := by decide +kernel
theorem d_CW_count_44 : decode Y_CW_count.2.1 44 = .ok (.aload_n 0, 1) := by decide +kernel
theorem d_CW_count_45 : decode Y_CW_count.2.1 45 = .ok (.getfield 10, 3) := by decide +kernel
theorem d_CW_count_48 : decode Y_CW_count.2.1 48 = .ok (.getfield 84, 3) := by decide +kernel
theorem d_CW_count_51 : decode Y_CW_count.2.1 51 = .ok (.ireturn, 1) := by decide +kernel
theorem d_CW_count_52 : decode Y_CW_count.2.1 52 = .ok (.aload_n 0, 1) := by decide +kernel
theorem d_CW_count_53 : decode Y_CW_count.2.1 53 = .ok (.getfield 10, 3) := by decide +kernel
theorem d_CW_count_56 : decode Y_CW_count.2.1 56 = .ok (.invokevirtual 216, 3) := by decide +kernel
theorem d_CW_count_59 : decode Y_CW_count.2.1 59 = .ok (.ireturn, 1) := by decide +kernel
theorem d_CW_count_60 : decode Y_CW_count.2.1 60 = .ok (.aload_n 0, 1) := by decide +kernel
theorem d_CW_count_61 : decode Y_CW_count.2.1 61 = .ok (.getfield 10, 3) := by decide +kernel
theorem d_CW_count_64 : decode Y_CW_count.2.1 64 = .ok (.invokevirtual 219, 3) := by decide +kernel
theorem d_CW_count_67 : decode Y_CW_count.2.1 67 = .ok (.ireturn, 1) := by decide +kernel
theorem d_CW_count_68 : decode Y_CW_count.2.1 68 = .ok (.aload_n 0, 1) := by decide +kernel
theorem d_CW_count_69 : decode Y_CW_count.2.1 69 = .ok (.getfield 10, 3) := by decide +kernel
theorem d_CW_count_72 : decode Y_CW_count.2.1 72 = .ok (.getfield 148, 3) := by decide +kernel
theorem d_CW_count_75 : decode Y_CW_count.2.1 75 = .ok (.ireturn, 1) := by decide +kernel
theorem d_CW_count_76 : decode Y_CW_count.2.1 76 = .ok (.aload_n 0, 1) := by decide +kernel
theorem d_CW_count_77 : decode Y_CW_count.2.1 77 = .ok (.getfield 10, 3) := by decide +kernel
theorem d_CW_count_80 : decode Y_CW_count.2.1 80 = .ok (.getfield 222, 3) := by decide +kernel
theorem d_CW_count_83 : decode Y_CW_count.2.1 83 = .ok (.ireturn, 1) := by decide +kernel
theorem d_CW_count_84 : decode Y_CW_count.2.1 84 = .ok (.aload_n 0, 1) := by decide +kernel
theorem d_CW_count_85 : decode Y_CW_count.2.1 85 = .ok (.getfield 10, 3) := by decide +kernel
theorem d_CW_count_88 : decode Y_CW_count.2.1 88 = .ok (.getfield 225, 3) := by decide +kernel
theorem d_CW_count_91 : decode Y_CW_count.2.1 91 = .ok (.ireturn, 1) := by decide +kernel
theorem d_CW_count_92 : decode Y_CW_count.2.1 92 = .ok (.aload_n 0, 1) := by decide +kernel
theorem d_CW_count_93 : decode Y_CW_count.2.1 93 = .ok (.getfield 79, 3) := by decide +kernel
theorem d_CW_count_96 : decode Y_CW_count.2.1 96 = .ok (.getfield 203, 3) := by decide +kernel
theorem d_CW_count_99 : decode Y_CW_count.2.1 99 = .ok (.ireturn, 1) := by decide +kernel
theorem d_CW_count_100 : decode Y_CW_count.2.1 100 = .ok (.ldc 83, 2) := by decide +kernel
theorem d_CW_count_102 : decode Y_CW_count.2.1 102 = .ok (.ireturn, 1) := by decide +kernel
