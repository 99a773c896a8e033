theorem d_Mo_init_0 : decode Y_Mo_init.2.1 0 = .ok (.aload_n 0, 1) := by decide +kernel
theorem d_Mo_init_1 : decode Y_Mo_init.2.1 1 = .ok (.invokespecial 7, 3) := by decide +kernel
theorem d_Mo_init_4 : decode Y_Mo_init.2.1 4 = .ok (.aload_n 0, 1) := by decide +kernel
theorem d_Mo_init_5 : decode Y_Mo_init.2.1 5 = .ok (.iconst 1, 1) := by decide +kernel
theorem d_Mo_init_6 : decode Y_Mo_init.2.1 6 = .ok (.putfield 13, 3) := by decide +kernel
theorem d_Mo_init_9 : decode Y_Mo_init.2.1 9 = .ok (.aload_n 0, 1) := by decide +kernel
theorem d_Mo_init_10 : decode Y_Mo_init.2.1 10 = .ok (.bipush 9, 2) := by decide +kernel
theorem d_Mo_init_12 : decode Y_Mo_init.2.1 12 = .ok (.newarray .int, 2) := by decide +kernel
theorem d_Mo_init_14 : decode Y_Mo_init.2.1 14 = .ok (.putfield 16, 3) := by decide +kernel
theorem d_Mo_init_17 : decode Y_Mo_init.2.1 17 = .ok (.aload_n 0, 1) := by decide +kernel
theorem d_Mo_init_18 : decode Y_Mo_init.2.1 18 = .ok (.bipush 81, 2) := by decide +kernel
theorem d_Mo_init_20 : decode Y_Mo_init.2.1 20 = .ok (.newarray .int, 2) := by decide +kernel
theorem d_Mo_init_22 : decode Y_Mo_init.2.1 22 = .ok (.putfield 20, 3) := by decide +kernel
theorem d_Mo_init_25 : decode Y_Mo_init.2.1 25 = .ok (.aload_n 0, 1) := by decide +kernel
theorem d_Mo_init_26 : decode Y_Mo_init.2.1 26 = .ok (.bipush 9, 2) := by decide +kernel
theorem d_Mo_init_28 : decode Y_Mo_init.2.1 28 = .ok (.newarray .int, 2) := by decide +kernel
theorem d_Mo_init_30 : decode Y_Mo_init.2.1 30 = .ok (.putfield 23, 3) := by decide +kernel
theorem d_Mo_init_33 : decode Y_Mo_init.2.1 33 = .ok (.aload_n 0, 1) := by decide +kernel
theorem d_Mo_init_34 : decode Y_Mo_init.2.1 34 = .ok (.bipush 81, 2) := by decide +kernel
theorem d_Mo_init_36 : decode Y_Mo_init.2.1 36 = .ok (.newarray .boolean, 2) := by decide +kernel
theorem d_Mo_init_38 : decode Y_Mo_init.2.1 38 = .ok (.putfield 26, 3) := by decide +kernel
theorem d_Mo_init_41 : decode Y_Mo_init.2.1 41 = .ok (.aload_n 0, 1) := by decide +kernel
theorem d_Mo_init_42 : decode Y_Mo_init.2.1 42 = .ok (.iconst 1, 1) := by decide +kernel
theorem d_Mo_init_43 : decode Y_Mo_init.2.1 43 = .ok (.putfield 30, 3) := by decide +kernel
theorem d_Mo_init_46 : decode Y_Mo_init.2.1 46 = .ok (.aload_n 0, 1) := by decide +kernel
theorem d_Mo_init_47 : decode Y_Mo_init.2.1 47 = .ok (.sipush 1000, 3) := by decide +kernel
theorem d_Mo_init_50 : decode Y_Mo_init.2.1 50 = .ok (.putfield 33, 3) := by decide +kernel
theorem d_Mo_init_53 : decode Y_Mo_init.2.1 53 = .ok (.aload_n 0, 1) := by decide +kernel
theorem d_Mo_init_54 : decode Y_Mo_init.2.1 54 = .ok (.bipush 9, 2) := by decide +kernel
theorem d_Mo_init_56 : decode Y_Mo_init.2.1 56 = .ok (.newarray .int, 2) := by decide +kernel
theorem d_Mo_init_58 : decode Y_Mo_init.2.1 58 = .ok (.putfield 36, 3) := by decide +kernel
theorem d_Mo_init_61 : decode Y_Mo_init.2.1 61 = .ok (.aload_n 0, 1) := by decide +kernel
theorem d_Mo_init_62 : decode Y_Mo_init.2.1 62 = .ok (.bipush 9, 2) := by decide +kernel
theorem d_Mo_init_64 : decode Y_Mo_init.2.1 64 = .ok (.newarray .int, 2) := by decide +kernel
theorem d_Mo_init_66 : decode Y_Mo_init.2.1 66 = .ok (.putfield 39, 3) := by decide +kernel
theorem d_Mo_init_69 : decode Y_Mo_init.2.1 69 = .ok (.aload_n 0, 1) := by decide +kernel
theorem d_Mo_init_70 : decode Y_Mo_init.2.1 70 = .ok (.bipush 21, 2) := by decide +kernel
theorem d_Mo_init_72 : decode Y_Mo_init.2.1 72 = .ok (.newarray .int, 2) := by decide +kernel
theorem d_Mo_init_74 : decode Y_Mo_init.2.1 74 = .ok (.putfield 42, 3) := by decide +kernel
theorem d_Mo_init_77 : decode Y_Mo_init.2.1 77 = .ok (.aload_n 0, 1) := by decide +kernel
theorem d_Mo_init_78 : decode Y_Mo_init.2.1 78 = .ok (.bipush 81, 2) := by decide +kernel
theorem d_Mo_init_80 : decode Y_Mo_init.2.1 80 = .ok (.newarray .int, 2) := by decide +kernel
theorem d_Mo_init_82 : decode Y_Mo_init.2.1 82 = .ok (.putfield 45, 3) := by decide +kernel
theorem d_Mo_init_85 : decode Y_Mo_init.2.1 85 = .ok (.aload_n 0, 1) := by decide +kernel
theorem d_Mo_init_86 : decode Y_Mo_init.2.1 86 = .ok (.bipush 9, 2) := by decide +kernel
theorem d_Mo_init_88 : decode Y_Mo_init.2.1 88 = .ok (.newarray .int, 2) := by decide +kernel
theorem d_Mo_init_90 : decode Y_Mo_init.2.1 90 = .ok (.putfield 48, 3) := by decide +kernel
theorem d_Mo_init_93 : decode Y_Mo_init.2.1 93 = .ok (.aload_n 0, 1) := by decide +kernel
theorem d_Mo_init_94 : decode Y_Mo_init.2.1 94 = .ok (.bipush 20, 2) := by decide +kernel
theorem d_Mo_init_96 : decode Y_Mo_init.2.1 96 = .ok (.newarray .int, 2) := by decide +kernel
theorem d_Mo_init_98 : decode Y_Mo_init.2.1 98 = .ok (.putfield 51, 3) := by decide +kernel
theorem d_Mo_init_101 : decode Y_Mo_init.2.1 101 = .ok (.aload_n 0, 1) := by decide +kernel
theorem d_Mo_init_102 : decode Y_Mo_init.2.1 102 = .ok (.bipush 20, 2) := by decide +kernel
theorem d_Mo_init_104 : decode Y_Mo_init.2.1 104 = .ok (.newarray .int, 2) := by decide +kernel
theorem d_Mo_init_106 : decode Y_Mo_init.2.1 106 = .ok (.putfield 54, 3) := by decide +kernel
theorem d_Mo_init_109 : decode Y_Mo_init.2.1 109 = .ok (.aload_n 0, 1) := by decide +kernel
theorem d_Mo_init_110 : decode Y_Mo_init.2.1 110 = .ok (.bipush 10, 2) := by decide +kernel
theorem d_Mo_init_112 : decode Y_Mo_init.2.1 112 = .ok (.newarray .int, 2) := by decide +kernel
theorem d_Mo_init_114 : decode Y_Mo_init.2.1 114 = .ok (.putfield 57, 3) := by decide +kernel
theorem d_Mo_init_117 : decode Y_Mo_init.2.1 117 = .ok (.aload_n 0, 1) := by decide +kernel
theorem d_Mo_init_118 : decode Y_Mo_init.2.1 118 = .ok (.bipush 10, 2) := by decide +kernel
theorem d_Mo_init_120 : decode Y_Mo_init.2.1 120 = .ok (.newarray .int, 2) := by decide +kernel
theorem d_Mo_init_122 : decode Y_Mo_init.2.1 122 = .ok (.putfield 60, 3) := by decide +kernel
theorem d_Mo_init_125 : decode Y_Mo_init.2.1 125 = .ok (.aload_n 0, 1) := by decide +kernel
theorem d_Mo_init_126 : decode Y_Mo_init.2.1 126 = .ok (.bipush 9, 2) := by decide +kernel
theorem d_Mo_init_128 : decode Y_Mo_init.2.1 128 = .ok (.newarray .int, 2) := by decide +kernel
theorem d_Mo_init_130 : decode Y_Mo_init.2.1 130 = .ok (.putfield 63, 3) := by decide +kernel
theorem d_Mo_init_133 : decode Y_Mo_init.2.1 133 = .ok (.aload_n 0, 1) := by decide +kernel
theorem d_Mo_init_134 : decode Y_Mo_init.2.1 134 = .ok (.sipush 512, 3) := by decide +kernel
theorem d_Mo_init_137 : decode Y_Mo_init.2.1 137 = .ok (.newarray .int, 2) := by decide +kernel
theorem d_Mo_init_139 : decode Y_Mo_init.2.1 139 = .ok (.putfield 66, 3) := by decide +kernel
theorem d_Mo_init_142 : decode Y_Mo_init.2.1 142 = .ok (.aload_n 0, 1) := by decide +kernel
theorem d_Mo_init_143 : decode Y_Mo_init.2.1 143 = .ok (.iconst 0, 1) := by decide +kernel
theorem d_Mo_init_144 : decode Y_Mo_init.2.1 144 = .ok (.putfield 1, 3) := by decide +kernel
theorem d_Mo_init_147 : decode Y_Mo_init.2.1 147 = .ok (.iconst 0, 1) := by decide +kernel
theorem d_Mo_init_148 : decode Y_Mo_init.2.1 148 = .ok (.istore_n 1, 1) := by decide +kernel
theorem d_Mo_init_149 : decode Y_Mo_init.2.1 149 = .ok (.iload_n 1, 1) := by decide +kernel
theorem d_Mo_init_150 : decode Y_Mo_init.2.1 150 = .ok (.bipush 81, 2) := by decide +kernel
theorem d_Mo_init_152 : decode Y_Mo_init.2.1 152 = .ok (.if_icmp .ge 17, 3) := by decide +kernel
theorem d_Mo_init_155 : decode Y_Mo_init.2.1 155 = .ok (.aload_n 0, 1) := by decide +kernel
theorem d_Mo_init_156 : decode Y_Mo_init.2.1 156 = .ok (.getfield 20, 3) := by decide +kernel
theorem d_Mo_init_159 : decode Y_Mo_init.2.1 159 = .ok (.iload_n 1, 1) := by decide +kernel
theorem d_Mo_init_160 : decode Y_Mo_init.2.1 160 = .ok (.ldc 69, 2) := by decide +kernel
theorem d_Mo_init_162 : decode Y_Mo_init.2.1 162 = .ok (.iastore, 1) := by decide +kernel
theorem d_Mo_init_163 : decode Y_Mo_init.2.1 163 = .ok (.iinc 1 1, 3) := by decide +kernel
theorem d_Mo_init_166 : decode Y_Mo_init.2.1 166 = .ok (.goto (-17), 3) := by decide +kernel
theorem d_Mo_init_169 : decode Y_Mo_init.2.1 169 = .ok (.iconst 0, 1) := by decide +kernel
theorem d_Mo_init_170 : decode Y_Mo_init.2.1 170 = .ok (.istore_n 1, 1) := by decide +kernel
theorem d_Mo_init_171 : decode Y_Mo_init.2.1 171 = .ok (.iload_n 1, 1) := by decide +kernel
theorem d_Mo_init_172 : decode Y_Mo_init.2.1 172 = .ok (.bipush 9, 2) := by decide +kernel
theorem d_Mo_init_174 : decode Y_Mo_init.2.1 174 = .ok (.if_icmp .ge 23, 3) := by decide +kernel
theorem d_Mo_init_177 : decode Y_Mo_init.2.1 177 = .ok (.aload_n 0, 1) := by decide +kernel
theorem d_Mo_init_178 : decode Y_Mo_init.2.1 178 = .ok (.getfield 23, 3) := by decide +kernel
theorem d_Mo_init_181 : decode Y_Mo_init.2.1 181 = .ok (.iload_n 1, 1) := by decide +kernel
theorem d_Mo_init_182 : decode Y_Mo_init.2.1 182 = .ok (.iconst (-1), 1) := by decide +kernel
theorem d_Mo_init_183 : decode Y_Mo_init.2.1 183 = .ok (.iastore, 1) := by decide +kernel
theorem d_Mo_init_184 : decode Y_Mo_init.2.1 184 = .ok (.aload_n 0, 1) := by decide +kernel
theorem d_Mo_init_185 : decode Y_Mo_init.2.1 185 = .ok (.getfield 39, 3) := by decide +kernel
theorem d_Mo_init_188 : decode Y_Mo_init.2.1 188 = .ok (.iload_n 1, 1) := by decide +kernel
theorem d_Mo_init_189 : decode Y_Mo_init.2.1 189 = .ok (.iconst (-1), 1) := by decide +kernel
theorem d_Mo_init_190 : decode Y_Mo_init.2.1 190 = .ok (.iastore, 1) := by decide +kernel
theorem d_Mo_init_191 : decode Y_Mo_init.2.1 191 = .ok (.iinc 1 1, 3) := by decide +kernel
theorem d_Mo_init_194 : decode Y_Mo_init.2.1 194 = .ok (.goto (-23), 3) := by decide +kernel
theorem d_Mo_init_197 : decode Y_Mo_init.2.1 197 = .ok (.return_, 1) := by decide +kernel
theorem d_Mo_node_0 : decode Y_Mo_node.2.1 0 = .ok (.aload_n 0, 1) := by decide +kernel
theorem d_Mo_node_1 : decode Y_Mo_node.2.1 1 = .ok (.iconst 0, 1) := by decide +kernel
theorem d_Mo_node_2 : decode Y_Mo_node.2.1 2 = .ok (.putfield 1, 3) := by decide +kernel
theorem d_Mo_node_5 : decode Y_Mo_node.2.1 5 = .ok (.iload_n 1, 1) := by decide +kernel
theorem d_Mo_node_6 : decode Y_Mo_node.2.1 6 = .ok (.iconst 0, 1) := by decide +kernel
theorem d_Mo_node_7 : decode Y_Mo_node.2.1 7 = .ok (.bipush 100, 2) := by decide +kernel
theorem d_Mo_node_9 : decode Y_Mo_node.2.1 9 = .ok (.invokestatic 70, 3) := by decide +kernel
theorem d_Mo_node_12 : decode Y_Mo_node.2.1 12 = .ok (.ifCond .ne 6, 3) := by decide +kernel
theorem d_Mo_node_15 : decode Y_Mo_node.2.1 15 = .ok (.ldc 78, 2) := by decide +kernel
theorem d_Mo_node_17 : decode Y_Mo_node.2.1 17 = .ok (.ireturn, 1) := by decide +kernel
theorem d_Mo_node_18 : decode Y_Mo_node.2.1 18 = .ok (.aload_n 0, 1) := by decide +kernel
theorem d_Mo_node_19 : decode Y_Mo_node.2.1 19 = .ok (.getfield 13, 3) := by decide +kernel
theorem d_Mo_node_22 : decode Y_Mo_node.2.1 22 = .ok (.bipush 9, 2) := by decide +kernel
theorem d_Mo_node_24 : decode Y_Mo_node.2.1 24 = .ok (.if_icmp .ne 6, 3) := by decide +kernel
theorem d_Mo_node_27 : decode Y_Mo_node.2.1 27 = .ok (.ldc 79, 2) := by decide +kernel
theorem d_Mo_node_29 : decode Y_Mo_node.2.1 29 = .ok (.ireturn, 1) := by decide +kernel
theorem d_Mo_node_30 : decode Y_Mo_node.2.1 30 = .ok (.aload_n 0, 1) := by decide +kernel
theorem d_Mo_node_31 : decode Y_Mo_node.2.1 31 = .ok (.getfield 16, 3) := by decide +kernel
theorem d_Mo_node_34 : decode Y_Mo_node.2.1 34 = .ok (.aload_n 0, 1) := by decide +kernel
theorem d_Mo_node_35 : decode Y_Mo_node.2.1 35 = .ok (.getfield 13, 3) := by decide +kernel
theorem d_Mo_node_38 : decode Y_Mo_node.2.1 38 = .ok (.iload_n 1, 1) := by decide +kernel
theorem d_Mo_node_39 : decode Y_Mo_node.2.1 39 = .ok (.iastore, 1) := by decide +kernel
theorem d_Mo_node_40 : decode Y_Mo_node.2.1 40 = .ok (.aload_n 0, 1) := by decide +kernel
theorem d_Mo_node_41 : decode Y_Mo_node.2.1 41 = .ok (.dup, 1) := by decide +kernel
theorem d_Mo_node_42 : decode Y_Mo_node.2.1 42 = .ok (.getfield 13, 3) := by decide +kernel
theorem d_Mo_node_45 : decode Y_Mo_node.2.1 45 = .ok (.iconst 1, 1) := by decide +kernel
theorem d_Mo_node_46 : decode Y_Mo_node.2.1 46 = .ok (.iadd, 1) := by decide +kernel
theorem d_Mo_node_47 : decode Y_Mo_node.2.1 47 = .ok (.putfield 13, 3) := by decide +kernel
theorem d_Mo_node_50 : decode Y_Mo_node.2.1 50 = .ok (.aload_n 0, 1) := by decide +kernel
theorem d_Mo_node_51 : decode Y_Mo_node.2.1 51 = .ok (.iconst 0, 1) := by decide +kernel
theorem d_Mo_node_52 : decode Y_Mo_node.2.1 52 = .ok (.putfield 80, 3) := by decide +kernel
theorem d_Mo_node_55 : decode Y_Mo_node.2.1 55 = .ok (.aload_n 0, 1) := by decide +kernel
theorem d_Mo_node_56 : decode Y_Mo_node.2.1 56 = .ok (.getfield 13, 3) := by decide +kernel
theorem d_Mo_node_59 : decode Y_Mo_node.2.1 59 = .ok (.iconst 1, 1) := by decide +kernel
theorem d_Mo_node_60 : decode Y_Mo_node.2.1 60 = .ok (.isub, 1) := by decide +kernel
theorem d_Mo_node_61 : decode Y_Mo_node.2.1 61 = .ok (.ireturn, 1) := by decide +kernel
theorem d_Mo_in_0 : decode Y_Mo_in.2.1 0 = .ok (.iload_n 0, 1) := by decide +kernel
theorem d_Mo_in_1 : decode Y_Mo_in.2.1 1 = .ok (.iload_n 1, 1) := by decide +kernel
theorem d_Mo_in_2 : decode Y_Mo_in.2.1 2 = .ok (.if_icmp .lt 12, 3) := by decide +kernel
theorem d_Mo_in_5 : decode Y_Mo_in.2.1 5 = .ok (.iload_n 0, 1) := by decide +kernel
theorem d_Mo_in_6 : decode Y_Mo_in.2.1 6 = .ok (.iload_n 2, 1) := by decide +kernel
theorem d_Mo_in_7 : decode Y_Mo_in.2.1 7 = .ok (.if_icmp .gt 7, 3) := by decide +kernel
theorem d_Mo_in_10 : decode Y_Mo_in.2.1 10 = .ok (.iconst 1, 1) := by decide +kernel
theorem d_Mo_in_11 : decode Y_Mo_in.2.1 11 = .ok (.goto 4, 3) := by decide +kernel
theorem d_Mo_in_14 : decode Y_Mo_in.2.1 14 = .ok (.iconst 0, 1) := by decide +kernel
theorem d_Mo_in_15 : decode Y_Mo_in.2.1 15 = .ok (.ireturn, 1) := by decide +kernel
theorem d_Mo_arc_0 : decode Y_Mo_arc.2.1 0 = .ok (.aload_n 0, 1) := by decide +kernel
theorem d_Mo_arc_1 : decode Y_Mo_arc.2.1 1 = .ok (.iconst 0, 1) := by decide +kernel
theorem d_Mo_arc_2 : decode Y_Mo_arc.2.1 2 = .ok (.putfield 1, 3) := by decide +kernel
theorem d_Mo_arc_5 : decode Y_Mo_arc.2.1 5 = .ok (.aload_n 0, 1) := by decide +kernel
theorem d_Mo_arc_6 : decode Y_Mo_arc.2.1 6 = .ok (.iload_n 1, 1) := by decide +kernel
theorem d_Mo_arc_7 : decode Y_Mo_arc.2.1 7 = .ok (.iload_n 2, 1) := by decide +kernel
theorem d_Mo_arc_8 : decode Y_Mo_arc.2.1 8 = .ok (.invokevirtual 84, 3) := by decide +kernel
theorem d_Mo_arc_11 : decode Y_Mo_arc.2.1 11 = .ok (.ifCond .ne 16, 3) := by decide +kernel
theorem d_Mo_arc_14 : decode Y_Mo_arc.2.1 14 = .ok (.iload_n 3, 1) := by decide +kernel
theorem d_Mo_arc_15 : decode Y_Mo_arc.2.1 15 = .ok (.sipush (-1000), 3) := by decide +kernel
theorem d_Mo_arc_18 : decode Y_Mo_arc.2.1 18 = .ok (.sipush 1000, 3) := by decide +kernel
theorem d_Mo_arc_21 : decode Y_Mo_arc.2.1 21 = .ok (.invokestatic 70, 3) := by decide +kernel
theorem d_Mo_arc_24 : decode Y_Mo_arc.2.1 24 = .ok (.ifCond .ne 6, 3) := by decide +kernel
theorem d_Mo_arc_27 : decode Y_Mo_arc.2.1 27 = .ok (.ldc 78, 2) := by decide +kernel
theorem d_Mo_arc_29 : decode Y_Mo_arc.2.1 29 = .ok (.ireturn, 1) := by decide +kernel
theorem d_Mo_arc_30 : decode Y_Mo_arc.2.1 30 = .ok (.aload_n 0, 1) := by decide +kernel
theorem d_Mo_arc_31 : decode Y_Mo_arc.2.1 31 = .ok (.getfield 20, 3) := by decide +kernel
theorem d_Mo_arc_34 : decode Y_Mo_arc.2.1 34 = .ok (.bipush 9, 2) := by decide +kernel
theorem d_Mo_arc_36 : decode Y_Mo_arc.2.1 36 = .ok (.iload_n 1, 1) := by decide +kernel
theorem d_Mo_arc_37 : decode Y_Mo_arc.2.1 37 = .ok (.imul, 1) := by decide +kernel
theorem d_Mo_arc_38 : decode Y_Mo_arc.2.1 38 = .ok (.iload_n 2, 1) := by decide +kernel
theorem d_Mo_arc_39 : decode Y_Mo_arc.2.1 39 = .ok (.iadd, 1) := by decide +kernel
theorem d_Mo_arc_40 : decode Y_Mo_arc.2.1 40 = .ok (.iaload, 1) := by decide +kernel
theorem d_Mo_arc_41 : decode Y_Mo_arc.2.1 41 = .ok (.istore 4, 2) := by decide +kernel
theorem d_Mo_arc_43 : decode Y_Mo_arc.2.1 43 = .ok (.aload_n 0, 1) := by decide +kernel
theorem d_Mo_arc_44 : decode Y_Mo_arc.2.1 44 = .ok (.getfield 20, 3) := by decide +kernel
theorem d_Mo_arc_47 : decode Y_Mo_arc.2.1 47 = .ok (.bipush 9, 2) := by decide +kernel
theorem d_Mo_arc_49 : decode Y_Mo_arc.2.1 49 = .ok (.iload_n 1, 1) := by decide +kernel
theorem d_Mo_arc_50 : decode Y_Mo_arc.2.1 50 = .ok (.imul, 1) := by decide +kernel
theorem d_Mo_arc_51 : decode Y_Mo_arc.2.1 51 = .ok (.iload_n 2, 1) := by decide +kernel
theorem d_Mo_arc_52 : decode Y_Mo_arc.2.1 52 = .ok (.iadd, 1) := by decide +kernel
theorem d_Mo_arc_53 : decode Y_Mo_arc.2.1 53 = .ok (.iload_n 3, 1) := by decide +kernel
theorem d_Mo_arc_54 : decode Y_Mo_arc.2.1 54 = .ok (.iastore, 1) := by decide +kernel
theorem d_Mo_arc_55 : decode Y_Mo_arc.2.1 55 = .ok (.aload_n 0, 1) := by decide +kernel
theorem d_Mo_arc_56 : decode Y_Mo_arc.2.1 56 = .ok (.iconst 0, 1) := by decide +kernel
theorem d_Mo_arc_57 : decode Y_Mo_arc.2.1 57 = .ok (.putfield 80, 3) := by decide +kernel
theorem d_Mo_arc_60 : decode Y_Mo_arc.2.1 60 = .ok (.iload 4, 2) := by decide +kernel
theorem d_Mo_arc_62 : decode Y_Mo_arc.2.1 62 = .ok (.ldc 69, 2) := by decide +kernel
theorem d_Mo_arc_64 : decode Y_Mo_arc.2.1 64 = .ok (.if_icmp .ne 8, 3) := by decide +kernel
theorem d_Mo_arc_67 : decode Y_Mo_arc.2.1 67 = .ok (.ldc 88, 2) := by decide +kernel
theorem d_Mo_arc_69 : decode Y_Mo_arc.2.1 69 = .ok (.goto 5, 3) := by decide +kernel
theorem d_Mo_arc_72 : decode Y_Mo_arc.2.1 72 = .ok (.iload 4, 2) := by decide +kernel
theorem d_Mo_arc_74 : decode Y_Mo_arc.2.1 74 = .ok (.ireturn, 1) := by decide +kernel
theorem d_Mo_noTwo_0 : decode Y_Mo_noTwo.2.1 0 = .ok (.aload_n 0, 1) := by decide +kernel
theorem d_Mo_noTwo_1 : decode Y_Mo_noTwo.2.1 1 = .ok (.iload_n 1, 1) := by decide +kernel
theorem d_Mo_noTwo_2 : decode Y_Mo_noTwo.2.1 2 = .ok (.invokevirtual 74, 3) := by decide +kernel
theorem d_Mo_noTwo_5 : decode Y_Mo_noTwo.2.1 5 = .ok (.ifCond .ne 16, 3) := by decide +kernel
theorem d_Mo_noTwo_8 : decode Y_Mo_noTwo.2.1 8 = .ok (.aload_n 0, 1) := by decide +kernel
theorem d_Mo_noTwo_9 : decode Y_Mo_noTwo.2.1 9 = .ok (.iload_n 2, 1) := by decide +kernel
theorem d_Mo_noTwo_10 : decode Y_Mo_noTwo.2.1 10 = .ok (.invokevirtual 74, 3) := by decide +kernel
theorem d_Mo_noTwo_13 : decode Y_Mo_noTwo.2.1 13 = .ok (.ifCond .ne 8, 3) := by decide +kernel
theorem d_Mo_noTwo_16 : decode Y_Mo_noTwo.2.1 16 = .ok (.iload_n 1, 1) := by decide +kernel
theorem d_Mo_noTwo_17 : decode Y_Mo_noTwo.2.1 17 = .ok (.iload_n 2, 1) := by decide +kernel
theorem d_Mo_noTwo_18 : decode Y_Mo_noTwo.2.1 18 = .ok (.if_icmp .ne 7, 3) := by decide +kernel
theorem d_Mo_noTwo_21 : decode Y_Mo_noTwo.2.1 21 = .ok (.iconst 1, 1) := by decide +kernel
theorem d_Mo_noTwo_22 : decode Y_Mo_noTwo.2.1 22 = .ok (.goto 4, 3) := by decide +kernel
theorem d_Mo_noTwo_25 : decode Y_Mo_noTwo.2.1 25 = .ok (.iconst 0, 1) := by decide +kernel
theorem d_Mo_noTwo_26 : decode Y_Mo_noTwo.2.1 26 = .ok (.ireturn, 1) := by decide +kernel
theorem d_Mo_noNode_0 : decode Y_Mo_noNode.2.1 0 = .ok (.iload_n 1, 1) := by decide +kernel
theorem d_Mo_noNode_1 : decode Y_Mo_noNode.2.1 1 = .ok (.iconst 0, 1) := by decide +kernel
theorem d_Mo_noNode_2 : decode Y_Mo_noNode.2.1 2 = .ok (.aload_n 0, 1) := by decide +kernel
theorem d_Mo_noNode_3 : decode Y_Mo_noNode.2.1 3 = .ok (.getfield 13, 3) := by decide +kernel
theorem d_Mo_noNode_6 : decode Y_Mo_noNode.2.1 6 = .ok (.iconst 1, 1) := by decide +kernel
theorem d_Mo_noNode_7 : decode Y_Mo_noNode.2.1 7 = .ok (.isub, 1) := by decide +kernel
theorem d_Mo_noNode_8 : decode Y_Mo_noNode.2.1 8 = .ok (.invokestatic 70, 3) := by decide +kernel
theorem d_Mo_noNode_11 : decode Y_Mo_noNode.2.1 11 = .ok (.ifCond .ne 7, 3) := by decide +kernel
theorem d_Mo_noNode_14 : decode Y_Mo_noNode.2.1 14 = .ok (.iconst 1, 1) := by decide +kernel
theorem d_Mo_noNode_15 : decode Y_Mo_noNode.2.1 15 = .ok (.goto 4, 3) := by decide +kernel
theorem d_Mo_noNode_18 : decode Y_Mo_noNode.2.1 18 = .ok (.iconst 0, 1) := by decide +kernel
theorem d_Mo_noNode_19 : decode Y_Mo_noNode.2.1 19 = .ok (.ireturn, 1) := by decide +kernel
theorem d_Mo_lose_0 : decode Y_Mo_lose.2.1 0 = .ok (.aload_n 0, 1) := by decide +kernel
theorem d_Mo_lose_1 : decode Y_Mo_lose.2.1 1 = .ok (.iconst 0, 1) := by decide +kernel
theorem d_Mo_lose_2 : decode Y_Mo_lose.2.1 2 = .ok (.putfield 1, 3) := by decide +kernel
theorem d_Mo_lose_5 : decode Y_Mo_lose.2.1 5 = .ok (.aload_n 0, 1) := by decide +kernel
theorem d_Mo_lose_6 : decode Y_Mo_lose.2.1 6 = .ok (.iload_n 1, 1) := by decide +kernel
theorem d_Mo_lose_7 : decode Y_Mo_lose.2.1 7 = .ok (.iload_n 2, 1) := by decide +kernel
theorem d_Mo_lose_8 : decode Y_Mo_lose.2.1 8 = .ok (.invokevirtual 84, 3) := by decide +kernel
theorem d_Mo_lose_11 : decode Y_Mo_lose.2.1 11 = .ok (.ifCond .eq 6, 3) := by decide +kernel
theorem d_Mo_lose_14 : decode Y_Mo_lose.2.1 14 = .ok (.ldc 78, 2) := by decide +kernel
theorem d_Mo_lose_16 : decode Y_Mo_lose.2.1 16 = .ok (.ireturn, 1) := by decide +kernel
theorem d_Mo_lose_17 : decode Y_Mo_lose.2.1 17 = .ok (.aload_n 0, 1) := by decide +kernel
theorem d_Mo_lose_18 : decode Y_Mo_lose.2.1 18 = .ok (.getfield 20, 3) := by decide +kernel
theorem d_Mo_lose_21 : decode Y_Mo_lose.2.1 21 = .ok (.bipush 9, 2) := by decide +kernel
theorem d_Mo_lose_23 : decode Y_Mo_lose.2.1 23 = .ok (.iload_n 1, 1) := by decide +kernel
theorem d_Mo_lose_24 : decode Y_Mo_lose.2.1 24 = .ok (.imul, 1) := by decide +kernel
theorem d_Mo_lose_25 : decode Y_Mo_lose.2.1 25 = .ok (.iload_n 2, 1) := by decide +kernel
theorem d_Mo_lose_26 : decode Y_Mo_lose.2.1 26 = .ok (.iadd, 1) := by decide +kernel
theorem d_Mo_lose_27 : decode Y_Mo_lose.2.1 27 = .ok (.iaload, 1) := by decide +kernel
theorem d_Mo_lose_28 : decode Y_Mo_lose.2.1 28 = .ok (.istore_n 3, 1) := by decide +kernel
theorem d_Mo_lose_29 : decode Y_Mo_lose.2.1 29 = .ok (.aload_n 0, 1) := by decide +kernel
theorem d_Mo_lose_30 : decode Y_Mo_lose.2.1 30 = .ok (.getfield 20, 3) := by decide +kernel
theorem d_Mo_lose_33 : decode Y_Mo_lose.2.1 33 = .ok (.bipush 9, 2) := by decide +kernel
theorem d_Mo_lose_35 : decode Y_Mo_lose.2.1 35 = .ok (.iload_n 1, 1) := by decide +kernel
theorem d_Mo_lose_36 : decode Y_Mo_lose.2.1 36 = .ok (.imul, 1) := by decide +kernel
theorem d_Mo_lose_37 : decode Y_Mo_lose.2.1 37 = .ok (.iload_n 2, 1) := by decide +kernel
theorem d_Mo_lose_38 : decode Y_Mo_lose.2.1 38 = .ok (.iadd, 1) := by decide +kernel
theorem d_Mo_lose_39 : decode Y_Mo_lose.2.1 39 = .ok (.ldc 69, 2) := by decide +kernel
theorem d_Mo_lose_41 : decode Y_Mo_lose.2.1 41 = .ok (.iastore, 1) := by decide +kernel
theorem d_Mo_lose_42 : decode Y_Mo_lose.2.1 42 = .ok (.aload_n 0, 1) := by decide +kernel
theorem d_Mo_lose_43 : decode Y_Mo_lose.2.1 43 = .ok (.iconst 0, 1) := by decide +kernel
theorem d_Mo_lose_44 : decode Y_Mo_lose.2.1 44 = .ok (.putfield 80, 3) := by decide +kernel
theorem d_Mo_lose_47 : decode Y_Mo_lose.2.1 47 = .ok (.iload_n 3, 1) := by decide +kernel
theorem d_Mo_lose_48 : decode Y_Mo_lose.2.1 48 = .ok (.ldc 69, 2) := by decide +kernel
theorem d_Mo_lose_50 : decode Y_Mo_lose.2.1 50 = .ok (.if_icmp .ne 8, 3) := by decide +kernel
theorem d_Mo_lose_53 : decode Y_Mo_lose.2.1 53 = .ok (.ldc 88, 2) := by decide +kernel
theorem d_Mo_lose_55 : decode Y_Mo_lose.2.1 55 = .ok (.goto 4, 3) := by decide +kernel
theorem d_Mo_lose_58 : decode Y_Mo_lose.2.1 58 = .ok (.iload_n 3, 1) := by decide +kernel
theorem d_Mo_lose_59 : decode Y_Mo_lose.2.1 59 = .ok (.ireturn, 1) := by decide +kernel
theorem d_Mo_price_0 : decode Y_Mo_price.2.1 0 = .ok (.aload_n 0, 1) := by decide +kernel
theorem d_Mo_price_1 : decode Y_Mo_price.2.1 1 = .ok (.iconst 0, 1) := by decide +kernel
theorem d_Mo_price_2 : decode Y_Mo_price.2.1 2 = .ok (.putfield 1, 3) := by decide +kernel
theorem d_Mo_price_5 : decode Y_Mo_price.2.1 5 = .ok (.aload_n 0, 1) := by decide +kernel
theorem d_Mo_price_6 : decode Y_Mo_price.2.1 6 = .ok (.iload_n 1, 1) := by decide +kernel
theorem d_Mo_price_7 : decode Y_Mo_price.2.1 7 = .ok (.invokevirtual 74, 3) := by decide +kernel
theorem d_Mo_price_10 : decode Y_Mo_price.2.1 10 = .ok (.ifCond .ne 18, 3) := by decide +kernel
theorem d_Mo_price_13 : decode Y_Mo_price.2.1 13 = .ok (.iload_n 1, 1) := by decide +kernel
theorem d_Mo_price_14 : decode Y_Mo_price.2.1 14 = .ok (.ifCond .eq 14, 3) := by decide +kernel
theorem d_Mo_price_17 : decode Y_Mo_price.2.1 17 = .ok (.iload_n 2, 1) := by decide +kernel
theorem d_Mo_price_18 : decode Y_Mo_price.2.1 18 = .ok (.iconst (-1), 1) := by decide +kernel
theorem d_Mo_price_19 : decode Y_Mo_price.2.1 19 = .ok (.sipush 2000, 3) := by decide +kernel
theorem d_Mo_price_22 : decode Y_Mo_price.2.1 22 = .ok (.invokestatic 70, 3) := by decide +kernel
theorem d_Mo_price_25 : decode Y_Mo_price.2.1 25 = .ok (.ifCond .ne 6, 3) := by decide +kernel
theorem d_Mo_price_28 : decode Y_Mo_price.2.1 28 = .ok (.ldc 78, 2) := by decide +kernel
theorem d_Mo_price_30 : decode Y_Mo_price.2.1 30 = .ok (.ireturn, 1) := by decide +kernel
theorem d_Mo_price_31 : decode Y_Mo_price.2.1 31 = .ok (.aload_n 0, 1) := by decide +kernel
theorem d_Mo_price_32 : decode Y_Mo_price.2.1 32 = .ok (.getfield 23, 3) := by decide +kernel
theorem d_Mo_price_35 : decode Y_Mo_price.2.1 35 = .ok (.iload_n 1, 1) := by decide +kernel
theorem d_Mo_price_36 : decode Y_Mo_price.2.1 36 = .ok (.iaload, 1) := by decide +kernel
theorem d_Mo_price_37 : decode Y_Mo_price.2.1 37 = .ok (.istore_n 3, 1) := by decide +kernel
theorem d_Mo_price_38 : decode Y_Mo_price.2.1 38 = .ok (.aload_n 0, 1) := by decide +kernel
theorem d_Mo_price_39 : decode Y_Mo_price.2.1 39 = .ok (.getfield 23, 3) := by decide +kernel
theorem d_Mo_price_42 : decode Y_Mo_price.2.1 42 = .ok (.iload_n 1, 1) := by decide +kernel
theorem d_Mo_price_43 : decode Y_Mo_price.2.1 43 = .ok (.iload_n 2, 1) := by decide +kernel
theorem d_Mo_price_44 : decode Y_Mo_price.2.1 44 = .ok (.iastore, 1) := by decide +kernel
theorem d_Mo_price_45 : decode Y_Mo_price.2.1 45 = .ok (.aload_n 0, 1) := by decide +kernel
theorem d_Mo_price_46 : decode Y_Mo_price.2.1 46 = .ok (.iconst 0, 1) := by decide +kernel
theorem d_Mo_price_47 : decode Y_Mo_price.2.1 47 = .ok (.putfield 80, 3) := by decide +kernel
theorem d_Mo_price_50 : decode Y_Mo_price.2.1 50 = .ok (.iload_n 3, 1) := by decide +kernel
theorem d_Mo_price_51 : decode Y_Mo_price.2.1 51 = .ok (.ireturn, 1) := by decide +kernel
theorem d_Mo_ahead_0 : decode Y_Mo_ahead.2.1 0 = .ok (.aload_n 0, 1) := by decide +kernel
theorem d_Mo_ahead_1 : decode Y_Mo_ahead.2.1 1 = .ok (.iconst 0, 1) := by decide +kernel
theorem d_Mo_ahead_2 : decode Y_Mo_ahead.2.1 2 = .ok (.putfield 1, 3) := by decide +kernel
theorem d_Mo_ahead_5 : decode Y_Mo_ahead.2.1 5 = .ok (.aload_n 0, 1) := by decide +kernel
theorem d_Mo_ahead_6 : decode Y_Mo_ahead.2.1 6 = .ok (.iload_n 1, 1) := by decide +kernel
theorem d_Mo_ahead_7 : decode Y_Mo_ahead.2.1 7 = .ok (.iload_n 2, 1) := by decide +kernel
theorem d_Mo_ahead_8 : decode Y_Mo_ahead.2.1 8 = .ok (.invokevirtual 84, 3) := by decide +kernel
theorem d_Mo_ahead_11 : decode Y_Mo_ahead.2.1 11 = .ok (.ifCond .ne 11, 3) := by decide +kernel
theorem d_Mo_ahead_14 : decode Y_Mo_ahead.2.1 14 = .ok (.iload_n 1, 1) := by decide +kernel
theorem d_Mo_ahead_15 : decode Y_Mo_ahead.2.1 15 = .ok (.ifCond .eq 7, 3) := by decide +kernel
theorem d_Mo_ahead_18 : decode Y_Mo_ahead.2.1 18 = .ok (.iload_n 2, 1) := by decide +kernel
theorem d_Mo_ahead_19 : decode Y_Mo_ahead.2.1 19 = .ok (.ifCond .ne 6, 3) := by decide +kernel
theorem d_Mo_ahead_22 : decode Y_Mo_ahead.2.1 22 = .ok (.ldc 78, 2) := by decide +kernel
theorem d_Mo_ahead_24 : decode Y_Mo_ahead.2.1 24 = .ok (.ireturn, 1) := by decide +kernel
theorem d_Mo_ahead_25 : decode Y_Mo_ahead.2.1 25 = .ok (.aload_n 0, 1) := by decide +kernel
theorem d_Mo_ahead_26 : decode Y_Mo_ahead.2.1 26 = .ok (.getfield 26, 3) := by decide +kernel
theorem d_Mo_ahead_29 : decode Y_Mo_ahead.2.1 29 = .ok (.bipush 9, 2) := by decide +kernel
theorem d_Mo_ahead_31 : decode Y_Mo_ahead.2.1 31 = .ok (.iload_n 1, 1) := by decide +kernel
theorem d_Mo_ahead_32 : decode Y_Mo_ahead.2.1 32 = .ok (.imul, 1) := by decide +kernel
theorem d_Mo_ahead_33 : decode Y_Mo_ahead.2.1 33 = .ok (.iload_n 2, 1) := by decide +kernel
theorem d_Mo_ahead_34 : decode Y_Mo_ahead.2.1 34 = .ok (.iadd, 1) := by decide +kernel
theorem d_Mo_ahead_35 : decode Y_Mo_ahead.2.1 35 = .ok (.baload, 1) := by decide +kernel
theorem d_Mo_ahead_36 : decode Y_Mo_ahead.2.1 36 = .ok (.istore 4, 2) := by decide +kernel
theorem d_Mo_ahead_38 : decode Y_Mo_ahead.2.1 38 = .ok (.aload_n 0, 1) := by decide +kernel
theorem d_Mo_ahead_39 : decode Y_Mo_ahead.2.1 39 = .ok (.getfield 26, 3) := by decide +kernel
theorem d_Mo_ahead_42 : decode Y_Mo_ahead.2.1 42 = .ok (.bipush 9, 2) := by decide +kernel
theorem d_Mo_ahead_44 : decode Y_Mo_ahead.2.1 44 = .ok (.iload_n 1, 1) := by decide +kernel
theorem d_Mo_ahead_45 : decode Y_Mo_ahead.2.1 45 = .ok (.imul, 1) := by decide +kernel
theorem d_Mo_ahead_46 : decode Y_Mo_ahead.2.1 46 = .ok (.iload_n 2, 1) := by decide +kernel
theorem d_Mo_ahead_47 : decode Y_Mo_ahead.2.1 47 = .ok (.iadd, 1) := by decide +kernel
theorem d_Mo_ahead_48 : decode Y_Mo_ahead.2.1 48 = .ok (.iload_n 3, 1) := by decide +kernel
theorem d_Mo_ahead_49 : decode Y_Mo_ahead.2.1 49 = .ok (.bastore, 1) := by decide +kernel
theorem d_Mo_ahead_50 : decode Y_Mo_ahead.2.1 50 = .ok (.aload_n 0, 1) := by decide +kernel
theorem d_Mo_ahead_51 : decode Y_Mo_ahead.2.1 51 = .ok (.iconst 0, 1) := by decide +kernel
theorem d_Mo_ahead_52 : decode Y_Mo_ahead.2.1 52 = .ok (.putfield 80, 3) := by decide +kernel
theorem d_Mo_ahead_55 : decode Y_Mo_ahead.2.1 55 = .ok (.iload 4, 2) := by decide +kernel
theorem d_Mo_ahead_57 : decode Y_Mo_ahead.2.1 57 = .ok (.ifCond .eq 7, 3) := by decide +kernel
theorem d_Mo_ahead_60 : decode Y_Mo_ahead.2.1 60 = .ok (.iconst 1, 1) := by decide +kernel
theorem d_Mo_ahead_61 : decode Y_Mo_ahead.2.1 61 = .ok (.goto 4, 3) := by decide +kernel
theorem d_Mo_ahead_64 : decode Y_Mo_ahead.2.1 64 = .ok (.iconst 0, 1) := by decide +kernel
theorem d_Mo_ahead_65 : decode Y_Mo_ahead.2.1 65 = .ok (.ireturn, 1) := by decide +kernel
theorem d_Mo_rule_0 : decode Y_Mo_rule.2.1 0 = .ok (.aload_n 0, 1) := by decide +kernel
theorem d_Mo_rule_1 : decode Y_Mo_rule.2.1 1 = .ok (.iconst 0, 1) := by decide +kernel
theorem d_Mo_rule_2 : decode Y_Mo_rule.2.1 2 = .ok (.putfield 1, 3) := by decide +kernel
theorem d_Mo_rule_5 : decode Y_Mo_rule.2.1 5 = .ok (.iload_n 1, 1) := by decide +kernel
theorem d_Mo_rule_6 : decode Y_Mo_rule.2.1 6 = .ok (.ifCond .ne 13, 3) := by decide +kernel
theorem d_Mo_rule_9 : decode Y_Mo_rule.2.1 9 = .ok (.iload_n 2, 1) := by decide +kernel
theorem d_Mo_rule_10 : decode Y_Mo_rule.2.1 10 = .ok (.iconst 1, 1) := by decide +kernel
theorem d_Mo_rule_11 : decode Y_Mo_rule.2.1 11 = .ok (.bipush 8, 2) := by decide +kernel
theorem d_Mo_rule_13 : decode Y_Mo_rule.2.1 13 = .ok (.invokestatic 70, 3) := by decide +kernel
theorem d_Mo_rule_16 : decode Y_Mo_rule.2.1 16 = .ok (.goto 38, 3) := by decide +kernel
theorem d_Mo_rule_19 : decode Y_Mo_rule.2.1 19 = .ok (.iload_n 1, 1) := by decide +kernel
theorem d_Mo_rule_20 : decode Y_Mo_rule.2.1 20 = .ok (.iconst 1, 1) := by decide +kernel
theorem d_Mo_rule_21 : decode Y_Mo_rule.2.1 21 = .ok (.if_icmp .ne 14, 3) := by decide +kernel
theorem d_Mo_rule_24 : decode Y_Mo_rule.2.1 24 = .ok (.iload_n 2, 1) := by decide +kernel
theorem d_Mo_rule_25 : decode Y_Mo_rule.2.1 25 = .ok (.iconst 0, 1) := by decide +kernel
theorem d_Mo_rule_26 : decode Y_Mo_rule.2.1 26 = .ok (.sipush 1000, 3) := by decide +kernel
theorem d_Mo_rule_29 : decode Y_Mo_rule.2.1 29 = .ok (.invokestatic 70, 3) := by decide +kernel
theorem d_Mo_rule_32 : decode Y_Mo_rule.2.1 32 = .ok (.goto 22, 3) := by decide +kernel
theorem d_Mo_rule_35 : decode Y_Mo_rule.2.1 35 = .ok (.iload_n 1, 1) := by decide +kernel
theorem d_Mo_rule_36 : decode Y_Mo_rule.2.1 36 = .ok (.iconst 2, 1) := by decide +kernel
theorem d_Mo_rule_37 : decode Y_Mo_rule.2.1 37 = .ok (.if_icmp .ne 16, 3) := by decide +kernel
theorem d_Mo_rule_40 : decode Y_Mo_rule.2.1 40 = .ok (.iload_n 2, 1) := by decide +kernel
theorem d_Mo_rule_41 : decode Y_Mo_rule.2.1 41 = .ok (.iconst 0, 1) := by decide +kernel
theorem d_Mo_rule_42 : decode Y_Mo_rule.2.1 42 = .ok (.iconst 1, 1) := by decide +kernel
theorem d_Mo_rule_43 : decode Y_Mo_rule.2.1 43 = .ok (.invokestatic 70, 3) := by decide +kernel
theorem d_Mo_rule_46 : decode Y_Mo_rule.2.1 46 = .ok (.ifCond .eq 7, 3) := by decide +kernel
theorem d_Mo_rule_49 : decode Y_Mo_rule.2.1 49 = .ok (.iconst 1, 1) := by decide +kernel
theorem d_Mo_rule_50 : decode Y_Mo_rule.2.1 50 = .ok (.goto 4, 3) := by decide +kernel
theorem d_Mo_rule_53 : decode Y_Mo_rule.2.1 53 = .ok (.iconst 0, 1) := by decide +kernel
theorem d_Mo_rule_54 : decode Y_Mo_rule.2.1 54 = .ok (.istore_n 3, 1) := by decide +kernel
theorem d_Mo_rule_55 : decode Y_Mo_rule.2.1 55 = .ok (.iload_n 3, 1) := by decide +kernel
theorem d_Mo_rule_56 : decode Y_Mo_rule.2.1 56 = .ok (.ifCond .ne 6, 3) := by decide +kernel
theorem d_Mo_rule_59 : decode Y_Mo_rule.2.1 59 = .ok (.ldc 78, 2) := by decide +kernel
theorem d_Mo_rule_61 : decode Y_Mo_rule.2.1 61 = .ok (.ireturn, 1) := by decide +kernel
theorem d_Mo_rule_62 : decode Y_Mo_rule.2.1 62 = .ok (.iload_n 1, 1) := by decide +kernel
theorem d_Mo_rule_63 : decode Y_Mo_rule.2.1 63 = .ok (.ifCond .ne 10, 3) := by decide +kernel
theorem d_Mo_rule_66 : decode Y_Mo_rule.2.1 66 = .ok (.aload_n 0, 1) := by decide +kernel
theorem d_Mo_rule_67 : decode Y_Mo_rule.2.1 67 = .ok (.getfield 30, 3) := by decide +kernel
theorem d_Mo_rule_70 : decode Y_Mo_rule.2.1 70 = .ok (.goto 19, 3) := by decide +kernel
theorem d_Mo_rule_73 : decode Y_Mo_rule.2.1 73 = .ok (.iload_n 1, 1) := by decide +kernel
theorem d_Mo_rule_74 : decode Y_Mo_rule.2.1 74 = .ok (.iconst 1, 1) := by decide +kernel
theorem d_Mo_rule_75 : decode Y_Mo_rule.2.1 75 = .ok (.if_icmp .ne 10, 3) := by decide +kernel
theorem d_Mo_rule_78 : decode Y_Mo_rule.2.1 78 = .ok (.aload_n 0, 1) := by decide +kernel
theorem d_Mo_rule_79 : decode Y_Mo_rule.2.1 79 = .ok (.getfield 33, 3) := by decide +kernel
theorem d_Mo_rule_82 : decode Y_Mo_rule.2.1 82 = .ok (.goto 7, 3) := by decide +kernel
theorem d_Mo_rule_85 : decode Y_Mo_rule.2.1 85 = .ok (.aload_n 0, 1) := by decide +kernel
theorem d_Mo_rule_86 : decode Y_Mo_rule.2.1 86 = .ok (.getfield 89, 3) := by decide +kernel
theorem d_Mo_rule_89 : decode Y_Mo_rule.2.1 89 = .ok (.istore 4, 2) := by decide +kernel
theorem d_Mo_rule_91 : decode Y_Mo_rule.2.1 91 = .ok (.aload_n 0, 1) := by decide +kernel
theorem d_Mo_rule_92 : decode Y_Mo_rule.2.1 92 = .ok (.iload_n 1, 1) := by decide +kernel
theorem d_Mo_rule_93 : decode Y_Mo_rule.2.1 93 = .ok (.ifCond .ne 7, 3) := by decide +kernel
theorem d_Mo_rule_96 : decode Y_Mo_rule.2.1 96 = .ok (.iload_n 2, 1) := by decide +kernel
theorem d_Mo_rule_97 : decode Y_Mo_rule.2.1 97 = .ok (.goto 7, 3) := by decide +kernel
theorem d_Mo_rule_100 : decode Y_Mo_rule.2.1 100 = .ok (.aload_n 0, 1) := by decide +kernel
theorem d_Mo_rule_101 : decode Y_Mo_rule.2.1 101 = .ok (.getfield 30, 3) := by decide +kernel
theorem d_Mo_rule_104 : decode Y_Mo_rule.2.1 104 = .ok (.putfield 30, 3) := by decide +kernel
theorem d_Mo_rule_107 : decode Y_Mo_rule.2.1 107 = .ok (.aload_n 0, 1) := by decide +kernel
theorem d_Mo_rule_108 : decode Y_Mo_rule.2.1 108 = .ok (.iload_n 1, 1) := by decide +kernel
theorem d_Mo_rule_109 : decode Y_Mo_rule.2.1 109 = .ok (.iconst 1, 1) := by decide +kernel
theorem d_Mo_rule_110 : decode Y_Mo_rule.2.1 110 = .ok (.if_icmp .ne 7, 3) := by decide +kernel
theorem d_Mo_rule_113 : decode Y_Mo_rule.2.1 113 = .ok (.iload_n 2, 1) := by decide +kernel
theorem d_Mo_rule_114 : decode Y_Mo_rule.2.1 114 = .ok (.goto 7, 3) := by decide +kernel
theorem d_Mo_rule_117 : decode Y_Mo_rule.2.1 117 = .ok (.aload_n 0, 1) := by decide +kernel
theorem d_Mo_rule_118 : decode Y_Mo_rule.2.1 118 = .ok (.getfield 33, 3) := by decide +kernel
theorem d_Mo_rule_121 : decode Y_Mo_rule.2.1 121 = .ok (.putfield 33, 3) := by decide +kernel
theorem d_Mo_rule_124 : decode Y_Mo_rule.2.1 124 = .ok (.aload_n 0, 1) := by decide +kernel
theorem d_Mo_rule_125 : decode Y_Mo_rule.2.1 125 = .ok (.iload_n 1, 1) := by decide +kernel
theorem d_Mo_rule_126 : decode Y_Mo_rule.2.1 126 = .ok (.iconst 2, 1) := by decide +kernel
theorem d_Mo_rule_127 : decode Y_Mo_rule.2.1 127 = .ok (.if_icmp .ne 7, 3) := by decide +kernel
theorem d_Mo_rule_130 : decode Y_Mo_rule.2.1 130 = .ok (.iload_n 2, 1) := by decide +kernel
theorem d_Mo_rule_131 : decode Y_Mo_rule.2.1 131 = .ok (.goto 7, 3) := by decide +kernel
theorem d_Mo_rule_134 : decode Y_Mo_rule.2.1 134 = .ok (.aload_n 0, 1) := by decide +kernel
theorem d_Mo_rule_135 : decode Y_Mo_rule.2.1 135 = .ok (.getfield 89, 3) := by decide +kernel
theorem d_Mo_rule_138 : decode Y_Mo_rule.2.1 138 = .ok (.putfield 89, 3) := by decide +kernel
theorem d_Mo_rule_141 : decode Y_Mo_rule.2.1 141 = .ok (.aload_n 0, 1) := by decide +kernel
theorem d_Mo_rule_142 : decode Y_Mo_rule.2.1 142 = .ok (.iconst 0, 1) := by decide +kernel
theorem d_Mo_rule_143 : decode Y_Mo_rule.2.1 143 = .ok (.putfield 80, 3) := by decide +kernel
theorem d_Mo_rule_146 : decode Y_Mo_rule.2.1 146 = .ok (.iload 4, 2) := by decide +kernel
theorem d_Mo_rule_148 : decode Y_Mo_rule.2.1 148 = .ok (.ireturn, 1) := by decide +kernel
theorem d_Mo_best_0 : decode Y_Mo_best.2.1 0 = .ok (.aload_n 0, 1) := by decide +kernel
theorem d_Mo_best_1 : decode Y_Mo_best.2.1 1 = .ok (.iconst 0, 1) := by decide +kernel
theorem d_Mo_best_2 : decode Y_Mo_best.2.1 2 = .ok (.putfield 1, 3) := by decide +kernel
theorem d_Mo_best_5 : decode Y_Mo_best.2.1 5 = .ok (.aload_n 0, 1) := by decide +kernel
theorem d_Mo_best_6 : decode Y_Mo_best.2.1 6 = .ok (.invokevirtual 144, 3) := by decide +kernel
theorem d_Mo_best_9 : decode Y_Mo_best.2.1 9 = .ok (.aload_n 0, 1) := by decide +kernel
theorem d_Mo_best_10 : decode Y_Mo_best.2.1 10 = .ok (.getfield 105, 3) := by decide +kernel
theorem d_Mo_best_13 : decode Y_Mo_best.2.1 13 = .ok (.ifCond .ne 8, 3) := by decide +kernel
theorem d_Mo_best_16 : decode Y_Mo_best.2.1 16 = .ok (.ldc 88, 2) := by decide +kernel
theorem d_Mo_best_18 : decode Y_Mo_best.2.1 18 = .ok (.goto 7, 3) := by decide +kernel
theorem d_Mo_best_21 : decode Y_Mo_best.2.1 21 = .ok (.aload_n 0, 1) := by decide +kernel
theorem d_Mo_best_22 : decode Y_Mo_best.2.1 22 = .ok (.getfield 102, 3) := by decide +kernel
theorem d_Mo_best_25 : decode Y_Mo_best.2.1 25 = .ok (.ireturn, 1) := by decide +kernel
theorem d_Mo_know_0 : decode Y_Mo_know.2.1 0 = .ok (.aload_n 0, 1) := by decide +kernel
theorem d_Mo_know_1 : decode Y_Mo_know.2.1 1 = .ok (.getfield 80, 3) := by decide +kernel
theorem d_Mo_know_4 : decode Y_Mo_know.2.1 4 = .ok (.ifCond .eq 4, 3) := by decide +kernel
theorem d_Mo_know_7 : decode Y_Mo_know.2.1 7 = .ok (.return_, 1) := by decide +kernel
theorem d_Mo_know_8 : decode Y_Mo_know.2.1 8 = .ok (.aload_n 0, 1) := by decide +kernel
theorem d_Mo_know_9 : decode Y_Mo_know.2.1 9 = .ok (.iconst 1, 1) := by decide +kernel
theorem d_Mo_know_10 : decode Y_Mo_know.2.1 10 = .ok (.putfield 80, 3) := by decide +kernel
theorem d_Mo_know_13 : decode Y_Mo_know.2.1 13 = .ok (.aload_n 0, 1) := by decide +kernel
theorem d_Mo_know_14 : decode Y_Mo_know.2.1 14 = .ok (.ldc 101, 2) := by decide +kernel
theorem d_Mo_know_16 : decode Y_Mo_know.2.1 16 = .ok (.putfield 102, 3) := by decide +kernel
theorem d_Mo_know_19 : decode Y_Mo_know.2.1 19 = .ok (.aload_n 0, 1) := by decide +kernel
theorem d_Mo_know_20 : decode Y_Mo_know.2.1 20 = .ok (.iconst 0, 1) := by decide +kernel
theorem d_Mo_know_21 : decode Y_Mo_know.2.1 21 = .ok (.putfield 105, 3) := by decide +kernel
theorem d_Mo_know_24 : decode Y_Mo_know.2.1 24 = .ok (.aload_n 0, 1) := by decide +kernel
theorem d_Mo_know_25 : decode Y_Mo_know.2.1 25 = .ok (.iconst (-1), 1) := by decide +kernel
theorem d_Mo_know_26 : decode Y_Mo_know.2.1 26 = .ok (.putfield 108, 3) := by decide +kernel
theorem d_Mo_know_29 : decode Y_Mo_know.2.1 29 = .ok (.iconst 0, 1) := by decide +kernel
theorem d_Mo_know_30 : decode Y_Mo_know.2.1 30 = .ok (.istore_n 1, 1) := by decide +kernel
theorem d_Mo_know_31 : decode Y_Mo_know.2.1 31 = .ok (.iload_n 1, 1) := by decide +kernel
theorem d_Mo_know_32 : decode Y_Mo_know.2.1 32 = .ok (.bipush 81, 2) := by decide +kernel
theorem d_Mo_know_34 : decode Y_Mo_know.2.1 34 = .ok (.if_icmp .ge 17, 3) := by decide +kernel
theorem d_Mo_know_37 : decode Y_Mo_know.2.1 37 = .ok (.aload_n 0, 1) := by decide +kernel
theorem d_Mo_know_38 : decode Y_Mo_know.2.1 38 = .ok (.getfield 45, 3) := by decide +kernel
theorem d_Mo_know_41 : decode Y_Mo_know.2.1 41 = .ok (.iload_n 1, 1) := by decide +kernel
theorem d_Mo_know_42 : decode Y_Mo_know.2.1 42 = .ok (.ldc 101, 2) := by decide +kernel
theorem d_Mo_know_44 : decode Y_Mo_know.2.1 44 = .ok (.iastore, 1) := by decide +kernel
theorem d_Mo_know_45 : decode Y_Mo_know.2.1 45 = .ok (.iinc 1 1, 3) := by decide +kernel
theorem d_Mo_know_48 : decode Y_Mo_know.2.1 48 = .ok (.goto (-17), 3) := by decide +kernel
theorem d_Mo_know_51 : decode Y_Mo_know.2.1 51 = .ok (.iconst 0, 1) := by decide +kernel
theorem d_Mo_know_52 : decode Y_Mo_know.2.1 52 = .ok (.istore_n 1, 1) := by decide +kernel
theorem d_Mo_know_53 : decode Y_Mo_know.2.1 53 = .ok (.iload_n 1, 1) := by decide +kernel
theorem d_Mo_know_54 : decode Y_Mo_know.2.1 54 = .ok (.bipush 9, 2) := by decide +kernel
theorem d_Mo_know_56 : decode Y_Mo_know.2.1 56 = .ok (.if_icmp .ge 17, 3) := by decide +kernel
theorem d_Mo_know_59 : decode Y_Mo_know.2.1 59 = .ok (.aload_n 0, 1) := by decide +kernel
theorem d_Mo_know_60 : decode Y_Mo_know.2.1 60 = .ok (.getfield 48, 3) := by decide +kernel
theorem d_Mo_know_63 : decode Y_Mo_know.2.1 63 = .ok (.iload_n 1, 1) := by decide +kernel
theorem d_Mo_know_64 : decode Y_Mo_know.2.1 64 = .ok (.ldc 101, 2) := by decide +kernel
theorem d_Mo_know_66 : decode Y_Mo_know.2.1 66 = .ok (.iastore, 1) := by decide +kernel
theorem d_Mo_know_67 : decode Y_Mo_know.2.1 67 = .ok (.iinc 1 1, 3) := by decide +kernel
theorem d_Mo_know_70 : decode Y_Mo_know.2.1 70 = .ok (.goto (-17), 3) := by decide +kernel
theorem d_Mo_know_73 : decode Y_Mo_know.2.1 73 = .ok (.aload_n 0, 1) := by decide +kernel
theorem d_Mo_know_74 : decode Y_Mo_know.2.1 74 = .ok (.iconst 0, 1) := by decide +kernel
theorem d_Mo_know_75 : decode Y_Mo_know.2.1 75 = .ok (.putfield 92, 3) := by decide +kernel
theorem d_Mo_know_78 : decode Y_Mo_know.2.1 78 = .ok (.aload_n 0, 1) := by decide +kernel
theorem d_Mo_know_79 : decode Y_Mo_know.2.1 79 = .ok (.iconst 0, 1) := by decide +kernel
theorem d_Mo_know_80 : decode Y_Mo_know.2.1 80 = .ok (.putfield 98, 3) := by decide +kernel
theorem d_Mo_know_83 : decode Y_Mo_know.2.1 83 = .ok (.aload_n 0, 1) := by decide +kernel
theorem d_Mo_know_84 : decode Y_Mo_know.2.1 84 = .ok (.iconst 0, 1) := by decide +kernel
theorem d_Mo_know_85 : decode Y_Mo_know.2.1 85 = .ok (.putfield 95, 3) := by decide +kernel
theorem d_Mo_know_88 : decode Y_Mo_know.2.1 88 = .ok (.aload_n 0, 1) := by decide +kernel
theorem d_Mo_know_89 : decode Y_Mo_know.2.1 89 = .ok (.iconst 0, 1) := by decide +kernel
theorem d_Mo_know_90 : decode Y_Mo_know.2.1 90 = .ok (.putfield 122, 3) := by decide +kernel
theorem d_Mo_know_93 : decode Y_Mo_know.2.1 93 = .ok (.aload_n 0, 1) := by decide +kernel
theorem d_Mo_know_94 : decode Y_Mo_know.2.1 94 = .ok (.iconst 0, 1) := by decide +kernel
theorem d_Mo_know_95 : decode Y_Mo_know.2.1 95 = .ok (.putfield 115, 3) := by decide +kernel
theorem d_Mo_know_98 : decode Y_Mo_know.2.1 98 = .ok (.aload_n 0, 1) := by decide +kernel
theorem d_Mo_know_99 : decode Y_Mo_know.2.1 99 = .ok (.iconst 0, 1) := by decide +kernel
theorem d_Mo_know_100 : decode Y_Mo_know.2.1 100 = .ok (.iconst 0, 1) := by decide +kernel
theorem d_Mo_know_101 : decode Y_Mo_know.2.1 101 = .ok (.invokestatic 136, 3) := by decide +kernel
theorem d_Mo_know_104 : decode Y_Mo_know.2.1 104 = .ok (.istore_n 1, 1) := by decide +kernel
theorem d_Mo_know_105 : decode Y_Mo_know.2.1 105 = .ok (.return_, 1) := by decide +kernel
theorem d_Mo_atHouse_0 : decode Y_Mo_atHouse.2.1 0 = .ok (.aload_n 0, 1) := by decide +kernel
theorem d_Mo_atHouse_1 : decode Y_Mo_atHouse.2.1 1 = .ok (.iload_n 2, 1) := by decide +kernel
theorem d_Mo_atHouse_2 : decode Y_Mo_atHouse.2.1 2 = .ok (.invokevirtual 118, 3) := by decide +kernel
theorem d_Mo_atHouse_5 : decode Y_Mo_atHouse.2.1 5 = .ok (.istore_n 3, 1) := by decide +kernel
theorem d_Mo_atHouse_6 : decode Y_Mo_atHouse.2.1 6 = .ok (.aload_n 0, 1) := by decide +kernel
theorem d_Mo_atHouse_7 : decode Y_Mo_atHouse.2.1 7 = .ok (.getfield 122, 3) := by decide +kernel
theorem d_Mo_atHouse_10 : decode Y_Mo_atHouse.2.1 10 = .ok (.aload_n 0, 1) := by decide +kernel
theorem d_Mo_atHouse_11 : decode Y_Mo_atHouse.2.1 11 = .ok (.getfield 30, 3) := by decide +kernel
theorem d_Mo_atHouse_14 : decode Y_Mo_atHouse.2.1 14 = .ok (.if_icmp .ne 5, 3) := by decide +kernel
theorem d_Mo_atHouse_17 : decode Y_Mo_atHouse.2.1 17 = .ok (.iload_n 3, 1) := by decide +kernel
theorem d_Mo_atHouse_18 : decode Y_Mo_atHouse.2.1 18 = .ok (.ireturn, 1) := by decide +kernel
theorem d_Mo_atHouse_19 : decode Y_Mo_atHouse.2.1 19 = .ok (.aload_n 0, 1) := by decide +kernel
theorem d_Mo_atHouse_20 : decode Y_Mo_atHouse.2.1 20 = .ok (.getfield 115, 3) := by decide +kernel
theorem d_Mo_atHouse_23 : decode Y_Mo_atHouse.2.1 23 = .ok (.istore 4, 2) := by decide +kernel
theorem d_Mo_atHouse_25 : decode Y_Mo_atHouse.2.1 25 = .ok (.iload_n 1, 1) := by decide +kernel
theorem d_Mo_atHouse_26 : decode Y_Mo_atHouse.2.1 26 = .ok (.iconst 1, 1) := by decide +kernel
theorem d_Mo_atHouse_27 : decode Y_Mo_atHouse.2.1 27 = .ok (.iadd, 1) := by decide +kernel
theorem d_Mo_atHouse_28 : decode Y_Mo_atHouse.2.1 28 = .ok (.istore 5, 2) := by decide +kernel
theorem d_Mo_atHouse_30 : decode Y_Mo_atHouse.2.1 30 = .ok (.iload 5, 2) := by decide +kernel
theorem d_Mo_atHouse_32 : decode Y_Mo_atHouse.2.1 32 = .ok (.aload_n 0, 1) := by decide +kernel
theorem d_Mo_atHouse_33 : decode Y_Mo_atHouse.2.1 33 = .ok (.getfield 13, 3) := by decide +kernel
theorem d_Mo_atHouse_36 : decode Y_Mo_atHouse.2.1 36 = .ok (.if_icmp .ge 90, 3) := by decide +kernel
theorem d_Mo_atHouse_39 : decode Y_Mo_atHouse.2.1 39 = .ok (.aload_n 0, 1) := by decide +kernel
theorem d_Mo_atHouse_40 : decode Y_Mo_atHouse.2.1 40 = .ok (.iconst 0, 1) := by decide +kernel
theorem d_Mo_atHouse_41 : decode Y_Mo_atHouse.2.1 41 = .ok (.putfield 98, 3) := by decide +kernel
theorem d_Mo_atHouse_44 : decode Y_Mo_atHouse.2.1 44 = .ok (.aload_n 0, 1) := by decide +kernel
theorem d_Mo_atHouse_45 : decode Y_Mo_atHouse.2.1 45 = .ok (.iconst 0, 1) := by decide +kernel
theorem d_Mo_atHouse_46 : decode Y_Mo_atHouse.2.1 46 = .ok (.putfield 95, 3) := by decide +kernel
theorem d_Mo_atHouse_49 : decode Y_Mo_atHouse.2.1 49 = .ok (.aload_n 0, 1) := by decide +kernel
theorem d_Mo_atHouse_50 : decode Y_Mo_atHouse.2.1 50 = .ok (.iconst 0, 1) := by decide +kernel
theorem d_Mo_atHouse_51 : decode Y_Mo_atHouse.2.1 51 = .ok (.iload 5, 2) := by decide +kernel
theorem d_Mo_atHouse_53 : decode Y_Mo_atHouse.2.1 53 = .ok (.invokevirtual 125, 3) := by decide +kernel
theorem d_Mo_atHouse_56 : decode Y_Mo_atHouse.2.1 56 = .ok (.ifCond .eq 64, 3) := by decide +kernel
theorem d_Mo_atHouse_59 : decode Y_Mo_atHouse.2.1 59 = .ok (.iload 4, 2) := by decide +kernel
theorem d_Mo_atHouse_61 : decode Y_Mo_atHouse.2.1 61 = .ok (.ifCond .le 8, 3) := by decide +kernel
theorem d_Mo_atHouse_64 : decode Y_Mo_atHouse.2.1 64 = .ok (.aload_n 0, 1) := by decide +kernel
theorem d_Mo_atHouse_65 : decode Y_Mo_atHouse.2.1 65 = .ok (.iconst 0, 1) := by decide +kernel
theorem d_Mo_atHouse_66 : decode Y_Mo_atHouse.2.1 66 = .ok (.invokevirtual 128, 3) := by decide +kernel
theorem d_Mo_atHouse_69 : decode Y_Mo_atHouse.2.1 69 = .ok (.aload_n 0, 1) := by decide +kernel
theorem d_Mo_atHouse_70 : decode Y_Mo_atHouse.2.1 70 = .ok (.dup, 1) := by decide +kernel
theorem d_Mo_atHouse_71 : decode Y_Mo_atHouse.2.1 71 = .ok (.getfield 122, 3) := by decide +kernel
theorem d_Mo_atHouse_74 : decode Y_Mo_atHouse.2.1 74 = .ok (.iconst 1, 1) := by decide +kernel
theorem d_Mo_atHouse_75 : decode Y_Mo_atHouse.2.1 75 = .ok (.iadd, 1) := by decide +kernel
theorem d_Mo_atHouse_76 : decode Y_Mo_atHouse.2.1 76 = .ok (.putfield 122, 3) := by decide +kernel
theorem d_Mo_atHouse_79 : decode Y_Mo_atHouse.2.1 79 = .ok (.aload_n 0, 1) := by decide +kernel
theorem d_Mo_atHouse_80 : decode Y_Mo_atHouse.2.1 80 = .ok (.iconst 0, 1) := by decide +kernel
theorem d_Mo_atHouse_81 : decode Y_Mo_atHouse.2.1 81 = .ok (.iload 5, 2) := by decide +kernel
theorem d_Mo_atHouse_83 : decode Y_Mo_atHouse.2.1 83 = .ok (.iload 5, 2) := by decide +kernel
theorem d_Mo_atHouse_85 : decode Y_Mo_atHouse.2.1 85 = .ok (.iload_n 2, 1) := by decide +kernel
theorem d_Mo_atHouse_86 : decode Y_Mo_atHouse.2.1 86 = .ok (.invokestatic 132, 3) := by decide +kernel
theorem d_Mo_atHouse_89 : decode Y_Mo_atHouse.2.1 89 = .ok (.istore 6, 2) := by decide +kernel
theorem d_Mo_atHouse_91 : decode Y_Mo_atHouse.2.1 91 = .ok (.aload_n 0, 1) := by decide +kernel
theorem d_Mo_atHouse_92 : decode Y_Mo_atHouse.2.1 92 = .ok (.dup, 1) := by decide +kernel
theorem d_Mo_atHouse_93 : decode Y_Mo_atHouse.2.1 93 = .ok (.getfield 122, 3) := by decide +kernel
theorem d_Mo_atHouse_96 : decode Y_Mo_atHouse.2.1 96 = .ok (.iconst 1, 1) := by decide +kernel
theorem d_Mo_atHouse_97 : decode Y_Mo_atHouse.2.1 97 = .ok (.isub, 1) := by decide +kernel
theorem d_Mo_atHouse_98 : decode Y_Mo_atHouse.2.1 98 = .ok (.putfield 122, 3) := by decide +kernel
theorem d_Mo_atHouse_101 : decode Y_Mo_atHouse.2.1 101 = .ok (.aload_n 0, 1) := by decide +kernel
theorem d_Mo_atHouse_102 : decode Y_Mo_atHouse.2.1 102 = .ok (.iload 4, 2) := by decide +kernel
theorem d_Mo_atHouse_104 : decode Y_Mo_atHouse.2.1 104 = .ok (.putfield 115, 3) := by decide +kernel
theorem d_Mo_atHouse_107 : decode Y_Mo_atHouse.2.1 107 = .ok (.iload 6, 2) := by decide +kernel
theorem d_Mo_atHouse_109 : decode Y_Mo_atHouse.2.1 109 = .ok (.iload_n 3, 1) := by decide +kernel
theorem d_Mo_atHouse_110 : decode Y_Mo_atHouse.2.1 110 = .ok (.if_icmp .ge 8, 3) := by decide +kernel
theorem d_Mo_atHouse_113 : decode Y_Mo_atHouse.2.1 113 = .ok (.iload 6, 2) := by decide +kernel
theorem d_Mo_atHouse_115 : decode Y_Mo_atHouse.2.1 115 = .ok (.goto 4, 3) := by decide +kernel
theorem d_Mo_atHouse_118 : decode Y_Mo_atHouse.2.1 118 = .ok (.iload_n 3, 1) := by decide +kernel
theorem d_Mo_atHouse_119 : decode Y_Mo_atHouse.2.1 119 = .ok (.istore_n 3, 1) := by decide +kernel
theorem d_Mo_atHouse_120 : decode Y_Mo_atHouse.2.1 120 = .ok (.iinc 5 1, 3) := by decide +kernel
theorem d_Mo_atHouse_123 : decode Y_Mo_atHouse.2.1 123 = .ok (.goto (-93), 3) := by decide +kernel
theorem d_Mo_atHouse_126 : decode Y_Mo_atHouse.2.1 126 = .ok (.iload_n 3, 1) := by decide +kernel
theorem d_Mo_atHouse_127 : decode Y_Mo_atHouse.2.1 127 = .ok (.ireturn, 1) := by decide +kernel
theorem d_Mo_whole_0 : decode Y_Mo_whole.2.1 0 = .ok (.iload_n 1, 1) := by decide +kernel
theorem d_Mo_whole_1 : decode Y_Mo_whole.2.1 1 = .ok (.istore_n 2, 1) := by decide +kernel
theorem d_Mo_whole_2 : decode Y_Mo_whole.2.1 2 = .ok (.iconst 1, 1) := by decide +kernel
theorem d_Mo_whole_3 : decode Y_Mo_whole.2.1 3 = .ok (.istore_n 3, 1) := by decide +kernel
theorem d_Mo_whole_4 : decode Y_Mo_whole.2.1 4 = .ok (.iload_n 3, 1) := by decide +kernel
theorem d_Mo_whole_5 : decode Y_Mo_whole.2.1 5 = .ok (.aload_n 0, 1) := by decide +kernel
theorem d_Mo_whole_6 : decode Y_Mo_whole.2.1 6 = .ok (.getfield 13, 3) := by decide +kernel
theorem d_Mo_whole_9 : decode Y_Mo_whole.2.1 9 = .ok (.if_icmp .ge 41, 3) := by decide +kernel
theorem d_Mo_whole_12 : decode Y_Mo_whole.2.1 12 = .ok (.aload_n 0, 1) := by decide +kernel
theorem d_Mo_whole_13 : decode Y_Mo_whole.2.1 13 = .ok (.getfield 92, 3) := by decide +kernel
theorem d_Mo_whole_16 : decode Y_Mo_whole.2.1 16 = .ok (.iload_n 3, 1) := by decide +kernel
theorem d_Mo_whole_17 : decode Y_Mo_whole.2.1 17 = .ok (.ishr, 1) := by decide +kernel
theorem d_Mo_whole_18 : decode Y_Mo_whole.2.1 18 = .ok (.iconst 1, 1) := by decide +kernel
theorem d_Mo_whole_19 : decode Y_Mo_whole.2.1 19 = .ok (.iand, 1) := by decide +kernel
theorem d_Mo_whole_20 : decode Y_Mo_whole.2.1 20 = .ok (.ifCond .ne 24, 3) := by decide +kernel
theorem d_Mo_whole_23 : decode Y_Mo_whole.2.1 23 = .ok (.aload_n 0, 1) := by decide +kernel
theorem d_Mo_whole_24 : decode Y_Mo_whole.2.1 24 = .ok (.getfield 23, 3) := by decide +kernel
theorem d_Mo_whole_27 : decode Y_Mo_whole.2.1 27 = .ok (.iload_n 3, 1) := by decide +kernel
theorem d_Mo_whole_28 : decode Y_Mo_whole.2.1 28 = .ok (.iaload, 1) := by decide +kernel
theorem d_Mo_whole_29 : decode Y_Mo_whole.2.1 29 = .ok (.ifCond .ge 6, 3) := by decide +kernel
theorem d_Mo_whole_32 : decode Y_Mo_whole.2.1 32 = .ok (.ldc 101, 2) := by decide +kernel
theorem d_Mo_whole_34 : decode Y_Mo_whole.2.1 34 = .ok (.ireturn, 1) := by decide +kernel
theorem d_Mo_whole_35 : decode Y_Mo_whole.2.1 35 = .ok (.iload_n 2, 1) := by decide +kernel
theorem d_Mo_whole_36 : decode Y_Mo_whole.2.1 36 = .ok (.aload_n 0, 1) := by decide +kernel
theorem d_Mo_whole_37 : decode Y_Mo_whole.2.1 37 = .ok (.getfield 23, 3) := by decide +kernel
theorem d_Mo_whole_40 : decode Y_Mo_whole.2.1 40 = .ok (.iload_n 3, 1) := by decide +kernel
theorem d_Mo_whole_41 : decode Y_Mo_whole.2.1 41 = .ok (.iaload, 1) := by decide +kernel
theorem d_Mo_whole_42 : decode Y_Mo_whole.2.1 42 = .ok (.iadd, 1) := by decide +kernel
theorem d_Mo_whole_43 : decode Y_Mo_whole.2.1 43 = .ok (.istore_n 2, 1) := by decide +kernel
theorem d_Mo_whole_44 : decode Y_Mo_whole.2.1 44 = .ok (.iinc 3 1, 3) := by decide +kernel
theorem d_Mo_whole_47 : decode Y_Mo_whole.2.1 47 = .ok (.goto (-43), 3) := by decide +kernel
theorem d_Mo_whole_50 : decode Y_Mo_whole.2.1 50 = .ok (.iconst 1, 1) := by decide +kernel
theorem d_Mo_whole_51 : decode Y_Mo_whole.2.1 51 = .ok (.istore_n 3, 1) := by decide +kernel
theorem d_Mo_whole_52 : decode Y_Mo_whole.2.1 52 = .ok (.iload_n 3, 1) := by decide +kernel
theorem d_Mo_whole_53 : decode Y_Mo_whole.2.1 53 = .ok (.aload_n 0, 1) := by decide +kernel
theorem d_Mo_whole_54 : decode Y_Mo_whole.2.1 54 = .ok (.getfield 13, 3) := by decide +kernel
theorem d_Mo_whole_57 : decode Y_Mo_whole.2.1 57 = .ok (.if_icmp .ge 37, 3) := by decide +kernel
theorem d_Mo_whole_60 : decode Y_Mo_whole.2.1 60 = .ok (.aload_n 0, 1) := by decide +kernel
theorem d_Mo_whole_61 : decode Y_Mo_whole.2.1 61 = .ok (.getfield 92, 3) := by decide +kernel
theorem d_Mo_whole_64 : decode Y_Mo_whole.2.1 64 = .ok (.iload_n 3, 1) := by decide +kernel
theorem d_Mo_whole_65 : decode Y_Mo_whole.2.1 65 = .ok (.ishr, 1) := by decide +kernel
theorem d_Mo_whole_66 : decode Y_Mo_whole.2.1 66 = .ok (.iconst 1, 1) := by decide +kernel
theorem d_Mo_whole_67 : decode Y_Mo_whole.2.1 67 = .ok (.iand, 1) := by decide +kernel
theorem d_Mo_whole_68 : decode Y_Mo_whole.2.1 68 = .ok (.ifCond .ne 20, 3) := by decide +kernel
theorem d_Mo_whole_71 : decode Y_Mo_whole.2.1 71 = .ok (.iload_n 2, 1) := by decide +kernel
theorem d_Mo_whole_72 : decode Y_Mo_whole.2.1 72 = .ok (.aload_n 0, 1) := by decide +kernel
theorem d_Mo_whole_73 : decode Y_Mo_whole.2.1 73 = .ok (.getfield 48, 3) := by decide +kernel
theorem d_Mo_whole_76 : decode Y_Mo_whole.2.1 76 = .ok (.iload_n 3, 1) := by decide +kernel
theorem d_Mo_whole_77 : decode Y_Mo_whole.2.1 77 = .ok (.iaload, 1) := by decide +kernel
theorem d_Mo_whole_78 : decode Y_Mo_whole.2.1 78 = .ok (.if_icmp .ge 10, 3) := by decide +kernel
theorem d_Mo_whole_81 : decode Y_Mo_whole.2.1 81 = .ok (.aload_n 0, 1) := by decide +kernel
theorem d_Mo_whole_82 : decode Y_Mo_whole.2.1 82 = .ok (.getfield 48, 3) := by decide +kernel
theorem d_Mo_whole_85 : decode Y_Mo_whole.2.1 85 = .ok (.iload_n 3, 1) := by decide +kernel
theorem d_Mo_whole_86 : decode Y_Mo_whole.2.1 86 = .ok (.iload_n 2, 1) := by decide +kernel
theorem d_Mo_whole_87 : decode Y_Mo_whole.2.1 87 = .ok (.iastore, 1) := by decide +kernel
theorem d_Mo_whole_88 : decode Y_Mo_whole.2.1 88 = .ok (.iinc 3 1, 3) := by decide +kernel
theorem d_Mo_whole_91 : decode Y_Mo_whole.2.1 91 = .ok (.goto (-39), 3) := by decide +kernel
theorem d_Mo_whole_94 : decode Y_Mo_whole.2.1 94 = .ok (.iload_n 2, 1) := by decide +kernel
theorem d_Mo_whole_95 : decode Y_Mo_whole.2.1 95 = .ok (.aload_n 0, 1) := by decide +kernel
theorem d_Mo_whole_96 : decode Y_Mo_whole.2.1 96 = .ok (.getfield 102, 3) := by decide +kernel
theorem d_Mo_whole_99 : decode Y_Mo_whole.2.1 99 = .ok (.if_icmp .ge 18, 3) := by decide +kernel
theorem d_Mo_whole_102 : decode Y_Mo_whole.2.1 102 = .ok (.aload_n 0, 1) := by decide +kernel
theorem d_Mo_whole_103 : decode Y_Mo_whole.2.1 103 = .ok (.iload_n 2, 1) := by decide +kernel
theorem d_Mo_whole_104 : decode Y_Mo_whole.2.1 104 = .ok (.putfield 102, 3) := by decide +kernel
theorem d_Mo_whole_107 : decode Y_Mo_whole.2.1 107 = .ok (.aload_n 0, 1) := by decide +kernel
theorem d_Mo_whole_108 : decode Y_Mo_whole.2.1 108 = .ok (.iconst 0, 1) := by decide +kernel
theorem d_Mo_whole_109 : decode Y_Mo_whole.2.1 109 = .ok (.putfield 105, 3) := by decide +kernel
theorem d_Mo_whole_112 : decode Y_Mo_whole.2.1 112 = .ok (.aload_n 0, 1) := by decide +kernel
theorem d_Mo_whole_113 : decode Y_Mo_whole.2.1 113 = .ok (.iconst (-1), 1) := by decide +kernel
theorem d_Mo_whole_114 : decode Y_Mo_whole.2.1 114 = .ok (.putfield 108, 3) := by decide +kernel
theorem d_Mo_whole_117 : decode Y_Mo_whole.2.1 117 = .ok (.iload_n 2, 1) := by decide +kernel
theorem d_Mo_whole_118 : decode Y_Mo_whole.2.1 118 = .ok (.aload_n 0, 1) := by decide +kernel
theorem d_Mo_whole_119 : decode Y_Mo_whole.2.1 119 = .ok (.getfield 102, 3) := by decide +kernel
theorem d_Mo_whole_122 : decode Y_Mo_whole.2.1 122 = .ok (.if_icmp .ne 63, 3) := by decide +kernel
theorem d_Mo_whole_125 : decode Y_Mo_whole.2.1 125 = .ok (.aload_n 0, 1) := by decide +kernel
theorem d_Mo_whole_126 : decode Y_Mo_whole.2.1 126 = .ok (.dup, 1) := by decide +kernel
theorem d_Mo_whole_127 : decode Y_Mo_whole.2.1 127 = .ok (.getfield 105, 3) := by decide +kernel
theorem d_Mo_whole_130 : decode Y_Mo_whole.2.1 130 = .ok (.iconst 1, 1) := by decide +kernel
theorem d_Mo_whole_131 : decode Y_Mo_whole.2.1 131 = .ok (.iadd, 1) := by decide +kernel
theorem d_Mo_whole_132 : decode Y_Mo_whole.2.1 132 = .ok (.putfield 105, 3) := by decide +kernel
theorem d_Mo_whole_135 : decode Y_Mo_whole.2.1 135 = .ok (.aload_n 0, 1) := by decide +kernel
theorem d_Mo_whole_136 : decode Y_Mo_whole.2.1 136 = .ok (.getfield 108, 3) := by decide +kernel
theorem d_Mo_whole_139 : decode Y_Mo_whole.2.1 139 = .ok (.ifCond .lt 10, 3) := by decide +kernel
theorem d_Mo_whole_142 : decode Y_Mo_whole.2.1 142 = .ok (.aload_n 0, 1) := by decide +kernel
theorem d_Mo_whole_143 : decode Y_Mo_whole.2.1 143 = .ok (.invokevirtual 111, 3) := by decide +kernel
theorem d_Mo_whole_146 : decode Y_Mo_whole.2.1 146 = .ok (.ifCond .eq 39, 3) := by decide +kernel
theorem d_Mo_whole_149 : decode Y_Mo_whole.2.1 149 = .ok (.aload_n 0, 1) := by decide +kernel
theorem d_Mo_whole_150 : decode Y_Mo_whole.2.1 150 = .ok (.aload_n 0, 1) := by decide +kernel
theorem d_Mo_whole_151 : decode Y_Mo_whole.2.1 151 = .ok (.getfield 115, 3) := by decide +kernel
theorem d_Mo_whole_154 : decode Y_Mo_whole.2.1 154 = .ok (.putfield 108, 3) := by decide +kernel
theorem d_Mo_whole_157 : decode Y_Mo_whole.2.1 157 = .ok (.iconst 0, 1) := by decide +kernel
theorem d_Mo_whole_158 : decode Y_Mo_whole.2.1 158 = .ok (.istore_n 3, 1) := by decide +kernel
theorem d_Mo_whole_159 : decode Y_Mo_whole.2.1 159 = .ok (.iload_n 3, 1) := by decide +kernel
theorem d_Mo_whole_160 : decode Y_Mo_whole.2.1 160 = .ok (.aload_n 0, 1) := by decide +kernel
theorem d_Mo_whole_161 : decode Y_Mo_whole.2.1 161 = .ok (.getfield 115, 3) := by decide +kernel
theorem d_Mo_whole_164 : decode Y_Mo_whole.2.1 164 = .ok (.if_icmp .ge 21, 3) := by decide +kernel
theorem d_Mo_whole_167 : decode Y_Mo_whole.2.1 167 = .ok (.aload_n 0, 1) := by decide +kernel
theorem d_Mo_whole_168 : decode Y_Mo_whole.2.1 168 = .ok (.getfield 51, 3) := by decide +kernel
theorem d_Mo_whole_171 : decode Y_Mo_whole.2.1 171 = .ok (.iload_n 3, 1) := by decide +kernel
theorem d_Mo_whole_172 : decode Y_Mo_whole.2.1 172 = .ok (.aload_n 0, 1) := by decide +kernel
theorem d_Mo_whole_173 : decode Y_Mo_whole.2.1 173 = .ok (.getfield 54, 3) := by decide +kernel
theorem d_Mo_whole_176 : decode Y_Mo_whole.2.1 176 = .ok (.iload_n 3, 1) := by decide +kernel
theorem d_Mo_whole_177 : decode Y_Mo_whole.2.1 177 = .ok (.iaload, 1) := by decide +kernel
theorem d_Mo_whole_178 : decode Y_Mo_whole.2.1 178 = .ok (.iastore, 1) := by decide +kernel
theorem d_Mo_whole_179 : decode Y_Mo_whole.2.1 179 = .ok (.iinc 3 1, 3) := by decide +kernel
theorem d_Mo_whole_182 : decode Y_Mo_whole.2.1 182 = .ok (.goto (-23), 3) := by decide +kernel
theorem d_Mo_whole_185 : decode Y_Mo_whole.2.1 185 = .ok (.iload_n 2, 1) := by decide +kernel
theorem d_Mo_whole_186 : decode Y_Mo_whole.2.1 186 = .ok (.ireturn, 1) := by decide +kernel
theorem d_Mo_isBeforeFirst_0 : decode Y_Mo_isBeforeFirst.2.1 0 = .ok (.iconst 0, 1) := by decide +kernel
theorem d_Mo_isBeforeFirst_1 : decode Y_Mo_isBeforeFirst.2.1 1 = .ok (.istore_n 1, 1) := by decide +kernel
theorem d_Mo_isBeforeFirst_2 : decode Y_Mo_isBeforeFirst.2.1 2 = .ok (.iload_n 1, 1) := by decide +kernel
theorem d_Mo_isBeforeFirst_3 : decode Y_Mo_isBeforeFirst.2.1 3 = .ok (.aload_n 0, 1) := by decide +kernel
theorem d_Mo_isBeforeFirst_4 : decode Y_Mo_isBeforeFirst.2.1 4 = .ok (.getfield 115, 3) := by decide +kernel
theorem d_Mo_isBeforeFirst_7 : decode Y_Mo_isBeforeFirst.2.1 7 = .ok (.if_icmp .ge 53, 3) := by decide +kernel
theorem d_Mo_isBeforeFirst_10 : decode Y_Mo_isBeforeFirst.2.1 10 = .ok (.iload_n 1, 1) := by decide +kernel
theorem d_Mo_isBeforeFirst_11 : decode Y_Mo_isBeforeFirst.2.1 11 = .ok (.aload_n 0, 1) := by decide +kernel
theorem d_Mo_isBeforeFirst_12 : decode Y_Mo_isBeforeFirst.2.1 12 = .ok (.getfield 108, 3) := by decide +kernel
theorem d_Mo_isBeforeFirst_15 : decode Y_Mo_isBeforeFirst.2.1 15 = .ok (.if_icmp .ge 45, 3) := by decide +kernel
theorem d_Mo_isBeforeFirst_18 : decode Y_Mo_isBeforeFirst.2.1 18 = .ok (.aload_n 0, 1) := by decide +kernel
theorem d_Mo_isBeforeFirst_19 : decode Y_Mo_isBeforeFirst.2.1 19 = .ok (.getfield 54, 3) := by decide +kernel
theorem d_Mo_isBeforeFirst_22 : decode Y_Mo_isBeforeFirst.2.1 22 = .ok (.iload_n 1, 1) := by decide +kernel
theorem d_Mo_isBeforeFirst_23 : decode Y_Mo_isBeforeFirst.2.1 23 = .ok (.iaload, 1) := by decide +kernel
theorem d_Mo_isBeforeFirst_24 : decode Y_Mo_isBeforeFirst.2.1 24 = .ok (.aload_n 0, 1) := by decide +kernel
theorem d_Mo_isBeforeFirst_25 : decode Y_Mo_isBeforeFirst.2.1 25 = .ok (.getfield 51, 3) := by decide +kernel
theorem d_Mo_isBeforeFirst_28 : decode Y_Mo_isBeforeFirst.2.1 28 = .ok (.iload_n 1, 1) := by decide +kernel
theorem d_Mo_isBeforeFirst_29 : decode Y_Mo_isBeforeFirst.2.1 29 = .ok (.iaload, 1) := by decide +kernel
theorem d_Mo_isBeforeFirst_30 : decode Y_Mo_isBeforeFirst.2.1 30 = .ok (.if_icmp .eq 24, 3) := by decide +kernel
theorem d_Mo_isBeforeFirst_33 : decode Y_Mo_isBeforeFirst.2.1 33 = .ok (.aload_n 0, 1) := by decide +kernel
theorem d_Mo_isBeforeFirst_34 : decode Y_Mo_isBeforeFirst.2.1 34 = .ok (.getfield 54, 3) := by decide +kernel
theorem d_Mo_isBeforeFirst_37 : decode Y_Mo_isBeforeFirst.2.1 37 = .ok (.iload_n 1, 1) := by decide +kernel
theorem d_Mo_isBeforeFirst_38 : decode Y_Mo_isBeforeFirst.2.1 38 = .ok (.iaload, 1) := by decide +kernel
theorem d_Mo_isBeforeFirst_39 : decode Y_Mo_isBeforeFirst.2.1 39 = .ok (.aload_n 0, 1) := by decide +kernel
theorem d_Mo_isBeforeFirst_40 : decode Y_Mo_isBeforeFirst.2.1 40 = .ok (.getfield 51, 3) := by decide +kernel
theorem d_Mo_isBeforeFirst_43 : decode Y_Mo_isBeforeFirst.2.1 43 = .ok (.iload_n 1, 1) := by decide +kernel
theorem d_Mo_isBeforeFirst_44 : decode Y_Mo_isBeforeFirst.2.1 44 = .ok (.iaload, 1) := by decide +kernel
theorem d_Mo_isBeforeFirst_45 : decode Y_Mo_isBeforeFirst.2.1 45 = .ok (.if_icmp .ge 7, 3) := by decide +kernel
theorem d_Mo_isBeforeFirst_48 : decode Y_Mo_isBeforeFirst.2.1 48 = .ok (.iconst 1, 1) := by decide +kernel
theorem d_Mo_isBeforeFirst_49 : decode Y_Mo_isBeforeFirst.2.1 49 = .ok (.goto 4, 3) := by decide +kernel
theorem d_Mo_isBeforeFirst_52 : decode Y_Mo_isBeforeFirst.2.1 52 = .ok (.iconst 0, 1) := by decide +kernel
theorem d_Mo_isBeforeFirst_53 : decode Y_Mo_isBeforeFirst.2.1 53 = .ok (.ireturn, 1) := by decide +kernel
theorem d_Mo_isBeforeFirst_54 : decode Y_Mo_isBeforeFirst.2.1 54 = .ok (.iinc 1 1, 3) := by decide +kernel
theorem d_Mo_isBeforeFirst_57 : decode Y_Mo_isBeforeFirst.2.1 57 = .ok (.goto (-55), 3) := by decide +kernel
theorem d_Mo_isBeforeFirst_60 : decode Y_Mo_isBeforeFirst.2.1 60 = .ok (.aload_n 0, 1) := by decide +kernel
theorem d_Mo_isBeforeFirst_61 : decode Y_Mo_isBeforeFirst.2.1 61 = .ok (.getfield 115, 3) := by decide +kernel
theorem d_Mo_isBeforeFirst_64 : decode Y_Mo_isBeforeFirst.2.1 64 = .ok (.aload_n 0, 1) := by decide +kernel
theorem d_Mo_isBeforeFirst_65 : decode Y_Mo_isBeforeFirst.2.1 65 = .ok (.getfield 108, 3) := by decide +kernel
theorem d_Mo_isBeforeFirst_68 : decode Y_Mo_isBeforeFirst.2.1 68 = .ok (.if_icmp .ge 7, 3) := by decide +kernel
theorem d_Mo_isBeforeFirst_71 : decode Y_Mo_isBeforeFirst.2.1 71 = .ok (.iconst 1, 1) := by decide +kernel
theorem d_Mo_isBeforeFirst_72 : decode Y_Mo_isBeforeFirst.2.1 72 = .ok (.goto 4, 3) := by decide +kernel
theorem d_Mo_isBeforeFirst_75 : decode Y_Mo_isBeforeFirst.2.1 75 = .ok (.iconst 0, 1) := by decide +kernel
theorem d_Mo_isBeforeFirst_76 : decode Y_Mo_isBeforeFirst.2.1 76 = .ok (.ireturn, 1) := by decide +kernel
theorem d_Mo_mayCome_0 : decode Y_Mo_mayCome.2.1 0 = .ok (.aload_n 0, 1) := by decide +kernel
theorem d_Mo_mayCome_1 : decode Y_Mo_mayCome.2.1 1 = .ok (.getfield 20, 3) := by decide +kernel
theorem d_Mo_mayCome_4 : decode Y_Mo_mayCome.2.1 4 = .ok (.bipush 9, 2) := by decide +kernel
theorem d_Mo_mayCome_6 : decode Y_Mo_mayCome.2.1 6 = .ok (.iload_n 1, 1) := by decide +kernel
theorem d_Mo_mayCome_7 : decode Y_Mo_mayCome.2.1 7 = .ok (.imul, 1) := by decide +kernel
theorem d_Mo_mayCome_8 : decode Y_Mo_mayCome.2.1 8 = .ok (.iload_n 2, 1) := by decide +kernel
theorem d_Mo_mayCome_9 : decode Y_Mo_mayCome.2.1 9 = .ok (.iadd, 1) := by decide +kernel
theorem d_Mo_mayCome_10 : decode Y_Mo_mayCome.2.1 10 = .ok (.iaload, 1) := by decide +kernel
theorem d_Mo_mayCome_11 : decode Y_Mo_mayCome.2.1 11 = .ok (.ldc 69, 2) := by decide +kernel
theorem d_Mo_mayCome_13 : decode Y_Mo_mayCome.2.1 13 = .ok (.if_icmp .eq 36, 3) := by decide +kernel
theorem d_Mo_mayCome_16 : decode Y_Mo_mayCome.2.1 16 = .ok (.aload_n 0, 1) := by decide +kernel
theorem d_Mo_mayCome_17 : decode Y_Mo_mayCome.2.1 17 = .ok (.getfield 92, 3) := by decide +kernel
theorem d_Mo_mayCome_20 : decode Y_Mo_mayCome.2.1 20 = .ok (.iload_n 2, 1) := by decide +kernel
theorem d_Mo_mayCome_21 : decode Y_Mo_mayCome.2.1 21 = .ok (.ishr, 1) := by decide +kernel
theorem d_Mo_mayCome_22 : decode Y_Mo_mayCome.2.1 22 = .ok (.iconst 1, 1) := by decide +kernel
theorem d_Mo_mayCome_23 : decode Y_Mo_mayCome.2.1 23 = .ok (.iand, 1) := by decide +kernel
theorem d_Mo_mayCome_24 : decode Y_Mo_mayCome.2.1 24 = .ok (.ifCond .ne 25, 3) := by decide +kernel
theorem d_Mo_mayCome_27 : decode Y_Mo_mayCome.2.1 27 = .ok (.aload_n 0, 1) := by decide +kernel
theorem d_Mo_mayCome_28 : decode Y_Mo_mayCome.2.1 28 = .ok (.getfield 95, 3) := by decide +kernel
theorem d_Mo_mayCome_31 : decode Y_Mo_mayCome.2.1 31 = .ok (.aload_n 0, 1) := by decide +kernel
theorem d_Mo_mayCome_32 : decode Y_Mo_mayCome.2.1 32 = .ok (.getfield 16, 3) := by decide +kernel
theorem d_Mo_mayCome_35 : decode Y_Mo_mayCome.2.1 35 = .ok (.iload_n 2, 1) := by decide +kernel
theorem d_Mo_mayCome_36 : decode Y_Mo_mayCome.2.1 36 = .ok (.iaload, 1) := by decide +kernel
theorem d_Mo_mayCome_37 : decode Y_Mo_mayCome.2.1 37 = .ok (.iadd, 1) := by decide +kernel
theorem d_Mo_mayCome_38 : decode Y_Mo_mayCome.2.1 38 = .ok (.aload_n 0, 1) := by decide +kernel
theorem d_Mo_mayCome_39 : decode Y_Mo_mayCome.2.1 39 = .ok (.getfield 33, 3) := by decide +kernel
theorem d_Mo_mayCome_42 : decode Y_Mo_mayCome.2.1 42 = .ok (.if_icmp .gt 7, 3) := by decide +kernel
theorem d_Mo_mayCome_45 : decode Y_Mo_mayCome.2.1 45 = .ok (.iconst 1, 1) := by decide +kernel
theorem d_Mo_mayCome_46 : decode Y_Mo_mayCome.2.1 46 = .ok (.goto 4, 3) := by decide +kernel
theorem d_Mo_mayCome_49 : decode Y_Mo_mayCome.2.1 49 = .ok (.iconst 0, 1) := by decide +kernel
theorem d_Mo_mayCome_50 : decode Y_Mo_mayCome.2.1 50 = .ok (.istore_n 3, 1) := by decide +kernel
theorem d_Mo_mayCome_51 : decode Y_Mo_mayCome.2.1 51 = .ok (.iconst 1, 1) := by decide +kernel
theorem d_Mo_mayCome_52 : decode Y_Mo_mayCome.2.1 52 = .ok (.istore 4, 2) := by decide +kernel
theorem d_Mo_mayCome_54 : decode Y_Mo_mayCome.2.1 54 = .ok (.iload 4, 2) := by decide +kernel
theorem d_Mo_mayCome_56 : decode Y_Mo_mayCome.2.1 56 = .ok (.aload_n 0, 1) := by decide +kernel
theorem d_Mo_mayCome_57 : decode Y_Mo_mayCome.2.1 57 = .ok (.getfield 13, 3) := by decide +kernel
theorem d_Mo_mayCome_60 : decode Y_Mo_mayCome.2.1 60 = .ok (.if_icmp .ge 47, 3) := by decide +kernel
theorem d_Mo_mayCome_63 : decode Y_Mo_mayCome.2.1 63 = .ok (.iload_n 3, 1) := by decide +kernel
theorem d_Mo_mayCome_64 : decode Y_Mo_mayCome.2.1 64 = .ok (.ifCond .eq 43, 3) := by decide +kernel
theorem d_Mo_mayCome_67 : decode Y_Mo_mayCome.2.1 67 = .ok (.aload_n 0, 1) := by decide +kernel
theorem d_Mo_mayCome_68 : decode Y_Mo_mayCome.2.1 68 = .ok (.getfield 26, 3) := by decide +kernel
theorem d_Mo_mayCome_71 : decode Y_Mo_mayCome.2.1 71 = .ok (.bipush 9, 2) := by decide +kernel
theorem d_Mo_mayCome_73 : decode Y_Mo_mayCome.2.1 73 = .ok (.iload 4, 2) := by decide +kernel
theorem d_Mo_mayCome_75 : decode Y_Mo_mayCome.2.1 75 = .ok (.imul, 1) := by decide +kernel
theorem d_Mo_mayCome_76 : decode Y_Mo_mayCome.2.1 76 = .ok (.iload_n 2, 1) := by decide +kernel
theorem d_Mo_mayCome_77 : decode Y_Mo_mayCome.2.1 77 = .ok (.iadd, 1) := by decide +kernel
theorem d_Mo_mayCome_78 : decode Y_Mo_mayCome.2.1 78 = .ok (.baload, 1) := by decide +kernel
theorem d_Mo_mayCome_79 : decode Y_Mo_mayCome.2.1 79 = .ok (.ifCond .eq 16, 3) := by decide +kernel
theorem d_Mo_mayCome_82 : decode Y_Mo_mayCome.2.1 82 = .ok (.aload_n 0, 1) := by decide +kernel
theorem d_Mo_mayCome_83 : decode Y_Mo_mayCome.2.1 83 = .ok (.getfield 98, 3) := by decide +kernel
theorem d_Mo_mayCome_86 : decode Y_Mo_mayCome.2.1 86 = .ok (.iload 4, 2) := by decide +kernel
theorem d_Mo_mayCome_88 : decode Y_Mo_mayCome.2.1 88 = .ok (.ishr, 1) := by decide +kernel
theorem d_Mo_mayCome_89 : decode Y_Mo_mayCome.2.1 89 = .ok (.iconst 1, 1) := by decide +kernel
theorem d_Mo_mayCome_90 : decode Y_Mo_mayCome.2.1 90 = .ok (.iand, 1) := by decide +kernel
theorem d_Mo_mayCome_91 : decode Y_Mo_mayCome.2.1 91 = .ok (.iconst 1, 1) := by decide +kernel
theorem d_Mo_mayCome_92 : decode Y_Mo_mayCome.2.1 92 = .ok (.if_icmp .ne 7, 3) := by decide +kernel
theorem d_Mo_mayCome_95 : decode Y_Mo_mayCome.2.1 95 = .ok (.iconst 1, 1) := by decide +kernel
theorem d_Mo_mayCome_96 : decode Y_Mo_mayCome.2.1 96 = .ok (.goto 4, 3) := by decide +kernel
theorem d_Mo_mayCome_99 : decode Y_Mo_mayCome.2.1 99 = .ok (.iconst 0, 1) := by decide +kernel
theorem d_Mo_mayCome_100 : decode Y_Mo_mayCome.2.1 100 = .ok (.istore_n 3, 1) := by decide +kernel
theorem d_Mo_mayCome_101 : decode Y_Mo_mayCome.2.1 101 = .ok (.iinc 4 1, 3) := by decide +kernel
theorem d_Mo_mayCome_104 : decode Y_Mo_mayCome.2.1 104 = .ok (.goto (-50), 3) := by decide +kernel
theorem d_Mo_mayCome_107 : decode Y_Mo_mayCome.2.1 107 = .ok (.iload_n 3, 1) := by decide +kernel
theorem d_Mo_mayCome_108 : decode Y_Mo_mayCome.2.1 108 = .ok (.ireturn, 1) := by decide +kernel
theorem d_Mo_write_0 : decode Y_Mo_write.2.1 0 = .ok (.aload_n 0, 1) := by decide +kernel
theorem d_Mo_write_1 : decode Y_Mo_write.2.1 1 = .ok (.getfield 54, 3) := by decide +kernel
theorem d_Mo_write_4 : decode Y_Mo_write.2.1 4 = .ok (.aload_n 0, 1) := by decide +kernel
theorem d_Mo_write_5 : decode Y_Mo_write.2.1 5 = .ok (.getfield 115, 3) := by decide +kernel
theorem d_Mo_write_8 : decode Y_Mo_write.2.1 8 = .ok (.iload_n 1, 1) := by decide +kernel
theorem d_Mo_write_9 : decode Y_Mo_write.2.1 9 = .ok (.iastore, 1) := by decide +kernel
theorem d_Mo_write_10 : decode Y_Mo_write.2.1 10 = .ok (.aload_n 0, 1) := by decide +kernel
theorem d_Mo_write_11 : decode Y_Mo_write.2.1 11 = .ok (.dup, 1) := by decide +kernel
theorem d_Mo_write_12 : decode Y_Mo_write.2.1 12 = .ok (.getfield 115, 3) := by decide +kernel
theorem d_Mo_write_15 : decode Y_Mo_write.2.1 15 = .ok (.iconst 1, 1) := by decide +kernel
theorem d_Mo_write_16 : decode Y_Mo_write.2.1 16 = .ok (.iadd, 1) := by decide +kernel
theorem d_Mo_write_17 : decode Y_Mo_write.2.1 17 = .ok (.putfield 115, 3) := by decide +kernel
theorem d_Mo_write_20 : decode Y_Mo_write.2.1 20 = .ok (.return_, 1) := by decide +kernel
theorem d_Mo_atNode_0 : decode Y_Mo_atNode.2.1 0 = .ok (.iload 4, 2) := by decide +kernel
theorem d_Mo_atNode_2 : decode Y_Mo_atNode.2.1 2 = .ok (.aload_n 0, 1) := by decide +kernel
theorem d_Mo_atNode_3 : decode Y_Mo_atNode.2.1 3 = .ok (.getfield 20, 3) := by decide +kernel
theorem d_Mo_atNode_6 : decode Y_Mo_atNode.2.1 6 = .ok (.bipush 9, 2) := by decide +kernel
theorem d_Mo_atNode_8 : decode Y_Mo_atNode.2.1 8 = .ok (.iload_n 1, 1) := by decide +kernel
theorem d_Mo_atNode_9 : decode Y_Mo_atNode.2.1 9 = .ok (.imul, 1) := by decide +kernel
theorem d_Mo_atNode_10 : decode Y_Mo_atNode.2.1 10 = .ok (.iload_n 2, 1) := by decide +kernel
theorem d_Mo_atNode_11 : decode Y_Mo_atNode.2.1 11 = .ok (.iadd, 1) := by decide +kernel
theorem d_Mo_atNode_12 : decode Y_Mo_atNode.2.1 12 = .ok (.iaload, 1) := by decide +kernel
theorem d_Mo_atNode_13 : decode Y_Mo_atNode.2.1 13 = .ok (.iadd, 1) := by decide +kernel
theorem d_Mo_atNode_14 : decode Y_Mo_atNode.2.1 14 = .ok (.istore 5, 2) := by decide +kernel
theorem d_Mo_atNode_16 : decode Y_Mo_atNode.2.1 16 = .ok (.aload_n 0, 1) := by decide +kernel
theorem d_Mo_atNode_17 : decode Y_Mo_atNode.2.1 17 = .ok (.getfield 98, 3) := by decide +kernel
theorem d_Mo_atNode_20 : decode Y_Mo_atNode.2.1 20 = .ok (.istore 6, 2) := by decide +kernel
theorem d_Mo_atNode_22 : decode Y_Mo_atNode.2.1 22 = .ok (.aload_n 0, 1) := by decide +kernel
theorem d_Mo_atNode_23 : decode Y_Mo_atNode.2.1 23 = .ok (.getfield 95, 3) := by decide +kernel
theorem d_Mo_atNode_26 : decode Y_Mo_atNode.2.1 26 = .ok (.istore 7, 2) := by decide +kernel
theorem d_Mo_atNode_28 : decode Y_Mo_atNode.2.1 28 = .ok (.aload_n 0, 1) := by decide +kernel
theorem d_Mo_atNode_29 : decode Y_Mo_atNode.2.1 29 = .ok (.getfield 115, 3) := by decide +kernel
theorem d_Mo_atNode_32 : decode Y_Mo_atNode.2.1 32 = .ok (.istore 8, 2) := by decide +kernel
theorem d_Mo_atNode_34 : decode Y_Mo_atNode.2.1 34 = .ok (.aload_n 0, 1) := by decide +kernel
theorem d_Mo_atNode_35 : decode Y_Mo_atNode.2.1 35 = .ok (.iload_n 2, 1) := by decide +kernel
theorem d_Mo_atNode_36 : decode Y_Mo_atNode.2.1 36 = .ok (.invokevirtual 128, 3) := by decide +kernel
theorem d_Mo_atNode_39 : decode Y_Mo_atNode.2.1 39 = .ok (.aload_n 0, 1) := by decide +kernel
theorem d_Mo_atNode_40 : decode Y_Mo_atNode.2.1 40 = .ok (.aload_n 0, 1) := by decide +kernel
theorem d_Mo_atNode_41 : decode Y_Mo_atNode.2.1 41 = .ok (.getfield 92, 3) := by decide +kernel
theorem d_Mo_atNode_44 : decode Y_Mo_atNode.2.1 44 = .ok (.iconst 1, 1) := by decide +kernel
theorem d_Mo_atNode_45 : decode Y_Mo_atNode.2.1 45 = .ok (.iload_n 2, 1) := by decide +kernel
theorem d_Mo_atNode_46 : decode Y_Mo_atNode.2.1 46 = .ok (.ishl, 1) := by decide +kernel
theorem d_Mo_atNode_47 : decode Y_Mo_atNode.2.1 47 = .ok (.ior, 1) := by decide +kernel
theorem d_Mo_atNode_48 : decode Y_Mo_atNode.2.1 48 = .ok (.putfield 92, 3) := by decide +kernel
theorem d_Mo_atNode_51 : decode Y_Mo_atNode.2.1 51 = .ok (.aload_n 0, 1) := by decide +kernel
theorem d_Mo_atNode_52 : decode Y_Mo_atNode.2.1 52 = .ok (.iload 6, 2) := by decide +kernel
theorem d_Mo_atNode_54 : decode Y_Mo_atNode.2.1 54 = .ok (.iconst 1, 1) := by decide +kernel
theorem d_Mo_atNode_55 : decode Y_Mo_atNode.2.1 55 = .ok (.iload_n 2, 1) := by decide +kernel
theorem d_Mo_atNode_56 : decode Y_Mo_atNode.2.1 56 = .ok (.ishl, 1) := by decide +kernel
theorem d_Mo_atNode_57 : decode Y_Mo_atNode.2.1 57 = .ok (.ior, 1) := by decide +kernel
theorem d_Mo_atNode_58 : decode Y_Mo_atNode.2.1 58 = .ok (.putfield 98, 3) := by decide +kernel
theorem d_Mo_atNode_61 : decode Y_Mo_atNode.2.1 61 = .ok (.aload_n 0, 1) := by decide +kernel
theorem d_Mo_atNode_62 : decode Y_Mo_atNode.2.1 62 = .ok (.iload 7, 2) := by decide +kernel
theorem d_Mo_atNode_64 : decode Y_Mo_atNode.2.1 64 = .ok (.aload_n 0, 1) := by decide +kernel
theorem d_Mo_atNode_65 : decode Y_Mo_atNode.2.1 65 = .ok (.getfield 16, 3) := by decide +kernel
theorem d_Mo_atNode_68 : decode Y_Mo_atNode.2.1 68 = .ok (.iload_n 2, 1) := by decide +kernel
theorem d_Mo_atNode_69 : decode Y_Mo_atNode.2.1 69 = .ok (.iaload, 1) := by decide +kernel
theorem d_Mo_atNode_70 : decode Y_Mo_atNode.2.1 70 = .ok (.iadd, 1) := by decide +kernel
theorem d_Mo_atNode_71 : decode Y_Mo_atNode.2.1 71 = .ok (.putfield 95, 3) := by decide +kernel
theorem d_Mo_atNode_74 : decode Y_Mo_atNode.2.1 74 = .ok (.ldc 101, 2) := by decide +kernel
theorem d_Mo_atNode_76 : decode Y_Mo_atNode.2.1 76 = .ok (.istore 9, 2) := by decide +kernel
theorem d_Mo_atNode_78 : decode Y_Mo_atNode.2.1 78 = .ok (.iconst 1, 1) := by decide +kernel
theorem d_Mo_atNode_79 : decode Y_Mo_atNode.2.1 79 = .ok (.istore 10, 2) := by decide +kernel
theorem d_Mo_atNode_81 : decode Y_Mo_atNode.2.1 81 = .ok (.iload 10, 2) := by decide +kernel
theorem d_Mo_atNode_83 : decode Y_Mo_atNode.2.1 83 = .ok (.aload_n 0, 1) := by decide +kernel
theorem d_Mo_atNode_84 : decode Y_Mo_atNode.2.1 84 = .ok (.getfield 13, 3) := by decide +kernel
theorem d_Mo_atNode_87 : decode Y_Mo_atNode.2.1 87 = .ok (.if_icmp .ge 47, 3) := by decide +kernel
theorem d_Mo_atNode_90 : decode Y_Mo_atNode.2.1 90 = .ok (.aload_n 0, 1) := by decide +kernel
theorem d_Mo_atNode_91 : decode Y_Mo_atNode.2.1 91 = .ok (.iload_n 2, 1) := by decide +kernel
theorem d_Mo_atNode_92 : decode Y_Mo_atNode.2.1 92 = .ok (.iload 10, 2) := by decide +kernel
theorem d_Mo_atNode_94 : decode Y_Mo_atNode.2.1 94 = .ok (.invokevirtual 125, 3) := by decide +kernel
theorem d_Mo_atNode_97 : decode Y_Mo_atNode.2.1 97 = .ok (.ifCond .eq 31, 3) := by decide +kernel
theorem d_Mo_atNode_100 : decode Y_Mo_atNode.2.1 100 = .ok (.aload_n 0, 1) := by decide +kernel
theorem d_Mo_atNode_101 : decode Y_Mo_atNode.2.1 101 = .ok (.iload_n 2, 1) := by decide +kernel
theorem d_Mo_atNode_102 : decode Y_Mo_atNode.2.1 102 = .ok (.iload 10, 2) := by decide +kernel
theorem d_Mo_atNode_104 : decode Y_Mo_atNode.2.1 104 = .ok (.iload_n 3, 1) := by decide +kernel
theorem d_Mo_atNode_105 : decode Y_Mo_atNode.2.1 105 = .ok (.iload 5, 2) := by decide +kernel
theorem d_Mo_atNode_107 : decode Y_Mo_atNode.2.1 107 = .ok (.invokestatic 132, 3) := by decide +kernel
theorem d_Mo_atNode_110 : decode Y_Mo_atNode.2.1 110 = .ok (.istore 11, 2) := by decide +kernel
theorem d_Mo_atNode_112 : decode Y_Mo_atNode.2.1 112 = .ok (.iload 11, 2) := by decide +kernel
theorem d_Mo_atNode_114 : decode Y_Mo_atNode.2.1 114 = .ok (.iload 9, 2) := by decide +kernel
theorem d_Mo_atNode_116 : decode Y_Mo_atNode.2.1 116 = .ok (.if_icmp .ge 8, 3) := by decide +kernel
theorem d_Mo_atNode_119 : decode Y_Mo_atNode.2.1 119 = .ok (.iload 11, 2) := by decide +kernel
theorem d_Mo_atNode_121 : decode Y_Mo_atNode.2.1 121 = .ok (.goto 5, 3) := by decide +kernel
theorem d_Mo_atNode_124 : decode Y_Mo_atNode.2.1 124 = .ok (.iload 9, 2) := by decide +kernel
theorem d_Mo_atNode_126 : decode Y_Mo_atNode.2.1 126 = .ok (.istore 9, 2) := by decide +kernel
theorem d_Mo_atNode_128 : decode Y_Mo_atNode.2.1 128 = .ok (.iinc 10 1, 3) := by decide +kernel
theorem d_Mo_atNode_131 : decode Y_Mo_atNode.2.1 131 = .ok (.goto (-50), 3) := by decide +kernel
theorem d_Mo_atNode_134 : decode Y_Mo_atNode.2.1 134 = .ok (.aload_n 0, 1) := by decide +kernel
theorem d_Mo_atNode_135 : decode Y_Mo_atNode.2.1 135 = .ok (.getfield 98, 3) := by decide +kernel
theorem d_Mo_atNode_138 : decode Y_Mo_atNode.2.1 138 = .ok (.istore 10, 2) := by decide +kernel
theorem d_Mo_atNode_140 : decode Y_Mo_atNode.2.1 140 = .ok (.aload_n 0, 1) := by decide +kernel
theorem d_Mo_atNode_141 : decode Y_Mo_atNode.2.1 141 = .ok (.getfield 95, 3) := by decide +kernel
theorem d_Mo_atNode_144 : decode Y_Mo_atNode.2.1 144 = .ok (.istore 11, 2) := by decide +kernel
theorem d_Mo_atNode_146 : decode Y_Mo_atNode.2.1 146 = .ok (.aload_n 0, 1) := by decide +kernel
theorem d_Mo_atNode_147 : decode Y_Mo_atNode.2.1 147 = .ok (.getfield 89, 3) := by decide +kernel
theorem d_Mo_atNode_150 : decode Y_Mo_atNode.2.1 150 = .ok (.iconst 1, 1) := by decide +kernel
theorem d_Mo_atNode_151 : decode Y_Mo_atNode.2.1 151 = .ok (.if_icmp .ne 31, 3) := by decide +kernel
theorem d_Mo_atNode_154 : decode Y_Mo_atNode.2.1 154 = .ok (.aload_n 0, 1) := by decide +kernel
theorem d_Mo_atNode_155 : decode Y_Mo_atNode.2.1 155 = .ok (.iload_n 3, 1) := by decide +kernel
theorem d_Mo_atNode_156 : decode Y_Mo_atNode.2.1 156 = .ok (.iload 5, 2) := by decide +kernel
theorem d_Mo_atNode_158 : decode Y_Mo_atNode.2.1 158 = .ok (.invokestatic 136, 3) := by decide +kernel
theorem d_Mo_atNode_161 : decode Y_Mo_atNode.2.1 161 = .ok (.istore 12, 2) := by decide +kernel
theorem d_Mo_atNode_163 : decode Y_Mo_atNode.2.1 163 = .ok (.iload 12, 2) := by decide +kernel
theorem d_Mo_atNode_165 : decode Y_Mo_atNode.2.1 165 = .ok (.iload 9, 2) := by decide +kernel
theorem d_Mo_atNode_167 : decode Y_Mo_atNode.2.1 167 = .ok (.if_icmp .ge 8, 3) := by decide +kernel
theorem d_Mo_atNode_170 : decode Y_Mo_atNode.2.1 170 = .ok (.iload 12, 2) := by decide +kernel
theorem d_Mo_atNode_172 : decode Y_Mo_atNode.2.1 172 = .ok (.goto 5, 3) := by decide +kernel
theorem d_Mo_atNode_175 : decode Y_Mo_atNode.2.1 175 = .ok (.iload 9, 2) := by decide +kernel
theorem d_Mo_atNode_177 : decode Y_Mo_atNode.2.1 177 = .ok (.istore 9, 2) := by decide +kernel
theorem d_Mo_atNode_179 : decode Y_Mo_atNode.2.1 179 = .ok (.goto 60, 3) := by decide +kernel
theorem d_Mo_atNode_182 : decode Y_Mo_atNode.2.1 182 = .ok (.aload_n 0, 1) := by decide +kernel
theorem d_Mo_atNode_183 : decode Y_Mo_atNode.2.1 183 = .ok (.getfield 20, 3) := by decide +kernel
theorem d_Mo_atNode_186 : decode Y_Mo_atNode.2.1 186 = .ok (.bipush 9, 2) := by decide +kernel
theorem d_Mo_atNode_188 : decode Y_Mo_atNode.2.1 188 = .ok (.iload_n 2, 1) := by decide +kernel
theorem d_Mo_atNode_189 : decode Y_Mo_atNode.2.1 189 = .ok (.imul, 1) := by decide +kernel
theorem d_Mo_atNode_190 : decode Y_Mo_atNode.2.1 190 = .ok (.iaload, 1) := by decide +kernel
theorem d_Mo_atNode_191 : decode Y_Mo_atNode.2.1 191 = .ok (.ldc 69, 2) := by decide +kernel
theorem d_Mo_atNode_193 : decode Y_Mo_atNode.2.1 193 = .ok (.if_icmp .eq 46, 3) := by decide +kernel
theorem d_Mo_atNode_196 : decode Y_Mo_atNode.2.1 196 = .ok (.aload_n 0, 1) := by decide +kernel
theorem d_Mo_atNode_197 : decode Y_Mo_atNode.2.1 197 = .ok (.iload_n 3, 1) := by decide +kernel
theorem d_Mo_atNode_198 : decode Y_Mo_atNode.2.1 198 = .ok (.iload 5, 2) := by decide +kernel
theorem d_Mo_atNode_200 : decode Y_Mo_atNode.2.1 200 = .ok (.aload_n 0, 1) := by decide +kernel
theorem d_Mo_atNode_201 : decode Y_Mo_atNode.2.1 201 = .ok (.getfield 20, 3) := by decide +kernel
theorem d_Mo_atNode_204 : decode Y_Mo_atNode.2.1 204 = .ok (.bipush 9, 2) := by decide +kernel
theorem d_Mo_atNode_206 : decode Y_Mo_atNode.2.1 206 = .ok (.iload_n 2, 1) := by decide +kernel
theorem d_Mo_atNode_207 : decode Y_Mo_atNode.2.1 207 = .ok (.imul, 1) := by decide +kernel
theorem d_Mo_atNode_208 : decode Y_Mo_atNode.2.1 208 = .ok (.iaload, 1) := by decide +kernel
theorem d_Mo_atNode_209 : decode Y_Mo_atNode.2.1 209 = .ok (.iadd, 1) := by decide +kernel
theorem d_Mo_atNode_210 : decode Y_Mo_atNode.2.1 210 = .ok (.invokestatic 136, 3) := by decide +kernel
theorem d_Mo_atNode_213 : decode Y_Mo_atNode.2.1 213 = .ok (.istore 12, 2) := by decide +kernel
