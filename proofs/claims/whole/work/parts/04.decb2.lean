theorem d_Tre_chooseJoining_51 : decode Y_Tre_chooseJoining.2.1 51 = .ok (.iload 5, 2) := by decide +kernel
theorem d_Tre_chooseJoining_53 : decode Y_Tre_chooseJoining.2.1 53 = .ok (.iaload, 1) := by decide +kernel
theorem d_Tre_chooseJoining_54 : decode Y_Tre_chooseJoining.2.1 54 = .ok (.if_icmp .eq 30, 3) := by decide +kernel
theorem d_Tre_chooseJoining_57 : decode Y_Tre_chooseJoining.2.1 57 = .ok (.aload_n 0, 1) := by decide +kernel
theorem d_Tre_chooseJoining_58 : decode Y_Tre_chooseJoining.2.1 58 = .ok (.iload 4, 2) := by decide +kernel
theorem d_Tre_chooseJoining_60 : decode Y_Tre_chooseJoining.2.1 60 = .ok (.iload 5, 2) := by decide +kernel
theorem d_Tre_chooseJoining_62 : decode Y_Tre_chooseJoining.2.1 62 = .ok (.invokevirtual 61, 3) := by decide +kernel
theorem d_Tre_chooseJoining_65 : decode Y_Tre_chooseJoining.2.1 65 = .ok (.iload_n 1, 1) := by decide +kernel
theorem d_Tre_chooseJoining_66 : decode Y_Tre_chooseJoining.2.1 66 = .ok (.if_icmp .ge 18, 3) := by decide +kernel
theorem d_Tre_chooseJoining_69 : decode Y_Tre_chooseJoining.2.1 69 = .ok (.aload_n 0, 1) := by decide +kernel
theorem d_Tre_chooseJoining_70 : decode Y_Tre_chooseJoining.2.1 70 = .ok (.iload 4, 2) := by decide +kernel
theorem d_Tre_chooseJoining_72 : decode Y_Tre_chooseJoining.2.1 72 = .ok (.iload 5, 2) := by decide +kernel
theorem d_Tre_chooseJoining_74 : decode Y_Tre_chooseJoining.2.1 74 = .ok (.invokevirtual 61, 3) := by decide +kernel
theorem d_Tre_chooseJoining_77 : decode Y_Tre_chooseJoining.2.1 77 = .ok (.istore_n 1, 1) := by decide +kernel
theorem d_Tre_chooseJoining_78 : decode Y_Tre_chooseJoining.2.1 78 = .ok (.iload 4, 2) := by decide +kernel
theorem d_Tre_chooseJoining_80 : decode Y_Tre_chooseJoining.2.1 80 = .ok (.istore_n 2, 1) := by decide +kernel
theorem d_Tre_chooseJoining_81 : decode Y_Tre_chooseJoining.2.1 81 = .ok (.iload 5, 2) := by decide +kernel
theorem d_Tre_chooseJoining_83 : decode Y_Tre_chooseJoining.2.1 83 = .ok (.istore_n 3, 1) := by decide +kernel
theorem d_Tre_chooseJoining_84 : decode Y_Tre_chooseJoining.2.1 84 = .ok (.iinc 5 1, 3) := by decide +kernel
theorem d_Tre_chooseJoining_87 : decode Y_Tre_chooseJoining.2.1 87 = .ok (.goto (-59), 3) := by decide +kernel
theorem d_Tre_chooseJoining_90 : decode Y_Tre_chooseJoining.2.1 90 = .ok (.iinc 4 1, 3) := by decide +kernel
theorem d_Tre_chooseJoining_93 : decode Y_Tre_chooseJoining.2.1 93 = .ok (.goto (-83), 3) := by decide +kernel
theorem d_Tre_chooseJoining_96 : decode Y_Tre_chooseJoining.2.1 96 = .ok (.iload_n 1, 1) := by decide +kernel
theorem d_Tre_chooseJoining_97 : decode Y_Tre_chooseJoining.2.1 97 = .ok (.ldc 60, 2) := by decide +kernel
theorem d_Tre_chooseJoining_99 : decode Y_Tre_chooseJoining.2.1 99 = .ok (.if_icmp .eq 16, 3) := by decide +kernel
theorem d_Tre_chooseJoining_102 : decode Y_Tre_chooseJoining.2.1 102 = .ok (.aload_n 0, 1) := by decide +kernel
theorem d_Tre_chooseJoining_103 : decode Y_Tre_chooseJoining.2.1 103 = .ok (.iload_n 2, 1) := by decide +kernel
theorem d_Tre_chooseJoining_104 : decode Y_Tre_chooseJoining.2.1 104 = .ok (.iload_n 3, 1) := by decide +kernel
theorem d_Tre_chooseJoining_105 : decode Y_Tre_chooseJoining.2.1 105 = .ok (.invokevirtual 64, 3) := by decide +kernel
theorem d_Tre_chooseJoining_108 : decode Y_Tre_chooseJoining.2.1 108 = .ok (.ifCond .eq 7, 3) := by decide +kernel
theorem d_Tre_chooseJoining_111 : decode Y_Tre_chooseJoining.2.1 111 = .ok (.iconst 1, 1) := by decide +kernel
theorem d_Tre_chooseJoining_112 : decode Y_Tre_chooseJoining.2.1 112 = .ok (.goto 4, 3) := by decide +kernel
theorem d_Tre_chooseJoining_115 : decode Y_Tre_chooseJoining.2.1 115 = .ok (.iconst 0, 1) := by decide +kernel
theorem d_Tre_chooseJoining_116 : decode Y_Tre_chooseJoining.2.1 116 = .ok (.ireturn, 1) := by decide +kernel
theorem d_Tre_edgeCost_0 : decode Y_Tre_edgeCost.2.1 0 = .ok (.aload_n 0, 1) := by decide +kernel
theorem d_Tre_edgeCost_1 : decode Y_Tre_edgeCost.2.1 1 = .ok (.getfield 31, 3) := by decide +kernel
theorem d_Tre_edgeCost_4 : decode Y_Tre_edgeCost.2.1 4 = .ok (.getfield 48, 3) := by decide +kernel
theorem d_Tre_edgeCost_7 : decode Y_Tre_edgeCost.2.1 7 = .ok (.iload_n 1, 1) := by decide +kernel
theorem d_Tre_edgeCost_8 : decode Y_Tre_edgeCost.2.1 8 = .ok (.bipush 9, 2) := by decide +kernel
theorem d_Tre_edgeCost_10 : decode Y_Tre_edgeCost.2.1 10 = .ok (.imul, 1) := by decide +kernel
theorem d_Tre_edgeCost_11 : decode Y_Tre_edgeCost.2.1 11 = .ok (.iload_n 2, 1) := by decide +kernel
theorem d_Tre_edgeCost_12 : decode Y_Tre_edgeCost.2.1 12 = .ok (.iadd, 1) := by decide +kernel
theorem d_Tre_edgeCost_13 : decode Y_Tre_edgeCost.2.1 13 = .ok (.iaload, 1) := by decide +kernel
theorem d_Tre_edgeCost_14 : decode Y_Tre_edgeCost.2.1 14 = .ok (.aload_n 0, 1) := by decide +kernel
theorem d_Tre_edgeCost_15 : decode Y_Tre_edgeCost.2.1 15 = .ok (.getfield 31, 3) := by decide +kernel
theorem d_Tre_edgeCost_18 : decode Y_Tre_edgeCost.2.1 18 = .ok (.getfield 48, 3) := by decide +kernel
theorem d_Tre_edgeCost_21 : decode Y_Tre_edgeCost.2.1 21 = .ok (.iload_n 2, 1) := by decide +kernel
theorem d_Tre_edgeCost_22 : decode Y_Tre_edgeCost.2.1 22 = .ok (.bipush 9, 2) := by decide +kernel
theorem d_Tre_edgeCost_24 : decode Y_Tre_edgeCost.2.1 24 = .ok (.imul, 1) := by decide +kernel
theorem d_Tre_edgeCost_25 : decode Y_Tre_edgeCost.2.1 25 = .ok (.iload_n 1, 1) := by decide +kernel
theorem d_Tre_edgeCost_26 : decode Y_Tre_edgeCost.2.1 26 = .ok (.iadd, 1) := by decide +kernel
theorem d_Tre_edgeCost_27 : decode Y_Tre_edgeCost.2.1 27 = .ok (.iaload, 1) := by decide +kernel
theorem d_Tre_edgeCost_28 : decode Y_Tre_edgeCost.2.1 28 = .ok (.invokestatic 51, 3) := by decide +kernel
theorem d_Tre_edgeCost_31 : decode Y_Tre_edgeCost.2.1 31 = .ok (.istore_n 3, 1) := by decide +kernel
theorem d_Tre_edgeCost_32 : decode Y_Tre_edgeCost.2.1 32 = .ok (.iload_n 3, 1) := by decide +kernel
theorem d_Tre_edgeCost_33 : decode Y_Tre_edgeCost.2.1 33 = .ok (.aload_n 0, 1) := by decide +kernel
theorem d_Tre_edgeCost_34 : decode Y_Tre_edgeCost.2.1 34 = .ok (.getfield 9, 3) := by decide +kernel
theorem d_Tre_edgeCost_37 : decode Y_Tre_edgeCost.2.1 37 = .ok (.iload_n 1, 1) := by decide +kernel
theorem d_Tre_edgeCost_38 : decode Y_Tre_edgeCost.2.1 38 = .ok (.iaload, 1) := by decide +kernel
theorem d_Tre_edgeCost_39 : decode Y_Tre_edgeCost.2.1 39 = .ok (.aload_n 0, 1) := by decide +kernel
theorem d_Tre_edgeCost_40 : decode Y_Tre_edgeCost.2.1 40 = .ok (.getfield 9, 3) := by decide +kernel
theorem d_Tre_edgeCost_43 : decode Y_Tre_edgeCost.2.1 43 = .ok (.iload_n 2, 1) := by decide +kernel
theorem d_Tre_edgeCost_44 : decode Y_Tre_edgeCost.2.1 44 = .ok (.iaload, 1) := by decide +kernel
theorem d_Tre_edgeCost_45 : decode Y_Tre_edgeCost.2.1 45 = .ok (.iadd, 1) := by decide +kernel
theorem d_Tre_edgeCost_46 : decode Y_Tre_edgeCost.2.1 46 = .ok (.invokestatic 57, 3) := by decide +kernel
theorem d_Tre_edgeCost_49 : decode Y_Tre_edgeCost.2.1 49 = .ok (.ireturn, 1) := by decide +kernel
theorem d_Tre_choose_0 : decode Y_Tre_choose.2.1 0 = .ok (.aload_n 0, 1) := by decide +kernel
theorem d_Tre_choose_1 : decode Y_Tre_choose.2.1 1 = .ok (.getfield 24, 3) := by decide +kernel
theorem d_Tre_choose_4 : decode Y_Tre_choose.2.1 4 = .ok (.bipush 9, 2) := by decide +kernel
theorem d_Tre_choose_6 : decode Y_Tre_choose.2.1 6 = .ok (.if_icmp .lt 5, 3) := by decide +kernel
theorem d_Tre_choose_9 : decode Y_Tre_choose.2.1 9 = .ok (.iconst 0, 1) := by decide +kernel
theorem d_Tre_choose_10 : decode Y_Tre_choose.2.1 10 = .ok (.ireturn, 1) := by decide +kernel
theorem d_Tre_choose_11 : decode Y_Tre_choose.2.1 11 = .ok (.aload_n 0, 1) := by decide +kernel
theorem d_Tre_choose_12 : decode Y_Tre_choose.2.1 12 = .ok (.getfield 18, 3) := by decide +kernel
theorem d_Tre_choose_15 : decode Y_Tre_choose.2.1 15 = .ok (.aload_n 0, 1) := by decide +kernel
theorem d_Tre_choose_16 : decode Y_Tre_choose.2.1 16 = .ok (.getfield 24, 3) := by decide +kernel
theorem d_Tre_choose_19 : decode Y_Tre_choose.2.1 19 = .ok (.iload_n 1, 1) := by decide +kernel
theorem d_Tre_choose_20 : decode Y_Tre_choose.2.1 20 = .ok (.iastore, 1) := by decide +kernel
theorem d_Tre_choose_21 : decode Y_Tre_choose.2.1 21 = .ok (.aload_n 0, 1) := by decide +kernel
theorem d_Tre_choose_22 : decode Y_Tre_choose.2.1 22 = .ok (.getfield 21, 3) := by decide +kernel
theorem d_Tre_choose_25 : decode Y_Tre_choose.2.1 25 = .ok (.aload_n 0, 1) := by decide +kernel
theorem d_Tre_choose_26 : decode Y_Tre_choose.2.1 26 = .ok (.getfield 24, 3) := by decide +kernel
theorem d_Tre_choose_29 : decode Y_Tre_choose.2.1 29 = .ok (.iload_n 2, 1) := by decide +kernel
theorem d_Tre_choose_30 : decode Y_Tre_choose.2.1 30 = .ok (.iastore, 1) := by decide +kernel
theorem d_Tre_choose_31 : decode Y_Tre_choose.2.1 31 = .ok (.aload_n 0, 1) := by decide +kernel
theorem d_Tre_choose_32 : decode Y_Tre_choose.2.1 32 = .ok (.dup, 1) := by decide +kernel
theorem d_Tre_choose_33 : decode Y_Tre_choose.2.1 33 = .ok (.getfield 24, 3) := by decide +kernel
theorem d_Tre_choose_36 : decode Y_Tre_choose.2.1 36 = .ok (.iconst 1, 1) := by decide +kernel
theorem d_Tre_choose_37 : decode Y_Tre_choose.2.1 37 = .ok (.iadd, 1) := by decide +kernel
theorem d_Tre_choose_38 : decode Y_Tre_choose.2.1 38 = .ok (.putfield 24, 3) := by decide +kernel
theorem d_Tre_choose_41 : decode Y_Tre_choose.2.1 41 = .ok (.aload_n 0, 1) := by decide +kernel
theorem d_Tre_choose_42 : decode Y_Tre_choose.2.1 42 = .ok (.dup, 1) := by decide +kernel
theorem d_Tre_choose_43 : decode Y_Tre_choose.2.1 43 = .ok (.getfield 28, 3) := by decide +kernel
theorem d_Tre_choose_46 : decode Y_Tre_choose.2.1 46 = .ok (.aload_n 0, 1) := by decide +kernel
theorem d_Tre_choose_47 : decode Y_Tre_choose.2.1 47 = .ok (.iload_n 1, 1) := by decide +kernel
theorem d_Tre_choose_48 : decode Y_Tre_choose.2.1 48 = .ok (.iload_n 2, 1) := by decide +kernel
theorem d_Tre_choose_49 : decode Y_Tre_choose.2.1 49 = .ok (.invokevirtual 61, 3) := by decide +kernel
theorem d_Tre_choose_52 : decode Y_Tre_choose.2.1 52 = .ok (.iadd, 1) := by decide +kernel
theorem d_Tre_choose_53 : decode Y_Tre_choose.2.1 53 = .ok (.putfield 28, 3) := by decide +kernel
theorem d_Tre_choose_56 : decode Y_Tre_choose.2.1 56 = .ok (.aload_n 0, 1) := by decide +kernel
theorem d_Tre_choose_57 : decode Y_Tre_choose.2.1 57 = .ok (.getfield 15, 3) := by decide +kernel
theorem d_Tre_choose_60 : decode Y_Tre_choose.2.1 60 = .ok (.iload_n 2, 1) := by decide +kernel
theorem d_Tre_choose_61 : decode Y_Tre_choose.2.1 61 = .ok (.iaload, 1) := by decide +kernel
theorem d_Tre_choose_62 : decode Y_Tre_choose.2.1 62 = .ok (.istore_n 3, 1) := by decide +kernel
theorem d_Tre_choose_63 : decode Y_Tre_choose.2.1 63 = .ok (.iconst 0, 1) := by decide +kernel
theorem d_Tre_choose_64 : decode Y_Tre_choose.2.1 64 = .ok (.istore 4, 2) := by decide +kernel
theorem d_Tre_choose_66 : decode Y_Tre_choose.2.1 66 = .ok (.iload 4, 2) := by decide +kernel
theorem d_Tre_choose_68 : decode Y_Tre_choose.2.1 68 = .ok (.aload_n 0, 1) := by decide +kernel
theorem d_Tre_choose_69 : decode Y_Tre_choose.2.1 69 = .ok (.getfield 31, 3) := by decide +kernel
theorem d_Tre_choose_72 : decode Y_Tre_choose.2.1 72 = .ok (.getfield 35, 3) := by decide +kernel
theorem d_Tre_choose_75 : decode Y_Tre_choose.2.1 75 = .ok (.if_icmp .ge 33, 3) := by decide +kernel
theorem d_Tre_choose_78 : decode Y_Tre_choose.2.1 78 = .ok (.aload_n 0, 1) := by decide +kernel
theorem d_Tre_choose_79 : decode Y_Tre_choose.2.1 79 = .ok (.getfield 15, 3) := by decide +kernel
theorem d_Tre_choose_82 : decode Y_Tre_choose.2.1 82 = .ok (.iload 4, 2) := by decide +kernel
theorem d_Tre_choose_84 : decode Y_Tre_choose.2.1 84 = .ok (.iaload, 1) := by decide +kernel
theorem d_Tre_choose_85 : decode Y_Tre_choose.2.1 85 = .ok (.iload_n 3, 1) := by decide +kernel
theorem d_Tre_choose_86 : decode Y_Tre_choose.2.1 86 = .ok (.if_icmp .ne 16, 3) := by decide +kernel
theorem d_Tre_choose_89 : decode Y_Tre_choose.2.1 89 = .ok (.aload_n 0, 1) := by decide +kernel
theorem d_Tre_choose_90 : decode Y_Tre_choose.2.1 90 = .ok (.getfield 15, 3) := by decide +kernel
theorem d_Tre_choose_93 : decode Y_Tre_choose.2.1 93 = .ok (.iload 4, 2) := by decide +kernel
theorem d_Tre_choose_95 : decode Y_Tre_choose.2.1 95 = .ok (.aload_n 0, 1) := by decide +kernel
theorem d_Tre_choose_96 : decode Y_Tre_choose.2.1 96 = .ok (.getfield 15, 3) := by decide +kernel
theorem d_Tre_choose_99 : decode Y_Tre_choose.2.1 99 = .ok (.iload_n 1, 1) := by decide +kernel
theorem d_Tre_choose_100 : decode Y_Tre_choose.2.1 100 = .ok (.iaload, 1) := by decide +kernel
theorem d_Tre_choose_101 : decode Y_Tre_choose.2.1 101 = .ok (.iastore, 1) := by decide +kernel
theorem d_Tre_choose_102 : decode Y_Tre_choose.2.1 102 = .ok (.iinc 4 1, 3) := by decide +kernel
theorem d_Tre_choose_105 : decode Y_Tre_choose.2.1 105 = .ok (.goto (-39), 3) := by decide +kernel
theorem d_Tre_choose_108 : decode Y_Tre_choose.2.1 108 = .ok (.iconst 1, 1) := by decide +kernel
theorem d_Tre_choose_109 : decode Y_Tre_choose.2.1 109 = .ok (.ireturn, 1) := by decide +kernel
theorem d_Tre_chooseAtHouse_0 : decode Y_Tre_chooseAtHouse.2.1 0 = .ok (.ldc 60, 2) := by decide +kernel
theorem d_Tre_chooseAtHouse_2 : decode Y_Tre_chooseAtHouse.2.1 2 = .ok (.istore_n 2, 1) := by decide +kernel
theorem d_Tre_chooseAtHouse_3 : decode Y_Tre_chooseAtHouse.2.1 3 = .ok (.iconst 0, 1) := by decide +kernel
theorem d_Tre_chooseAtHouse_4 : decode Y_Tre_chooseAtHouse.2.1 4 = .ok (.istore_n 3, 1) := by decide +kernel
theorem d_Tre_chooseAtHouse_5 : decode Y_Tre_chooseAtHouse.2.1 5 = .ok (.iconst 1, 1) := by decide +kernel
theorem d_Tre_chooseAtHouse_6 : decode Y_Tre_chooseAtHouse.2.1 6 = .ok (.istore 4, 2) := by decide +kernel
theorem d_Tre_chooseAtHouse_8 : decode Y_Tre_chooseAtHouse.2.1 8 = .ok (.iload 4, 2) := by decide +kernel
theorem d_Tre_chooseAtHouse_10 : decode Y_Tre_chooseAtHouse.2.1 10 = .ok (.aload_n 0, 1) := by decide +kernel
theorem d_Tre_chooseAtHouse_11 : decode Y_Tre_chooseAtHouse.2.1 11 = .ok (.getfield 31, 3) := by decide +kernel
theorem d_Tre_chooseAtHouse_14 : decode Y_Tre_chooseAtHouse.2.1 14 = .ok (.getfield 35, 3) := by decide +kernel
theorem d_Tre_chooseAtHouse_17 : decode Y_Tre_chooseAtHouse.2.1 17 = .ok (.if_icmp .ge 37, 3) := by decide +kernel
theorem d_Tre_chooseAtHouse_20 : decode Y_Tre_chooseAtHouse.2.1 20 = .ok (.iload 4, 2) := by decide +kernel
theorem d_Tre_chooseAtHouse_22 : decode Y_Tre_chooseAtHouse.2.1 22 = .ok (.iload_n 1, 1) := by decide +kernel
theorem d_Tre_chooseAtHouse_23 : decode Y_Tre_chooseAtHouse.2.1 23 = .ok (.if_icmp .eq 25, 3) := by decide +kernel
theorem d_Tre_chooseAtHouse_26 : decode Y_Tre_chooseAtHouse.2.1 26 = .ok (.aload_n 0, 1) := by decide +kernel
theorem d_Tre_chooseAtHouse_27 : decode Y_Tre_chooseAtHouse.2.1 27 = .ok (.iconst 0, 1) := by decide +kernel
theorem d_Tre_chooseAtHouse_28 : decode Y_Tre_chooseAtHouse.2.1 28 = .ok (.iload 4, 2) := by decide +kernel
theorem d_Tre_chooseAtHouse_30 : decode Y_Tre_chooseAtHouse.2.1 30 = .ok (.invokevirtual 61, 3) := by decide +kernel
theorem d_Tre_chooseAtHouse_33 : decode Y_Tre_chooseAtHouse.2.1 33 = .ok (.iload_n 2, 1) := by decide +kernel
theorem d_Tre_chooseAtHouse_34 : decode Y_Tre_chooseAtHouse.2.1 34 = .ok (.if_icmp .ge 14, 3) := by decide +kernel
theorem d_Tre_chooseAtHouse_37 : decode Y_Tre_chooseAtHouse.2.1 37 = .ok (.aload_n 0, 1) := by decide +kernel
theorem d_Tre_chooseAtHouse_38 : decode Y_Tre_chooseAtHouse.2.1 38 = .ok (.iconst 0, 1) := by decide +kernel
theorem d_Tre_chooseAtHouse_39 : decode Y_Tre_chooseAtHouse.2.1 39 = .ok (.iload 4, 2) := by decide +kernel
theorem d_Tre_chooseAtHouse_41 : decode Y_Tre_chooseAtHouse.2.1 41 = .ok (.invokevirtual 61, 3) := by decide +kernel
theorem d_Tre_chooseAtHouse_44 : decode Y_Tre_chooseAtHouse.2.1 44 = .ok (.istore_n 2, 1) := by decide +kernel
theorem d_Tre_chooseAtHouse_45 : decode Y_Tre_chooseAtHouse.2.1 45 = .ok (.iload 4, 2) := by decide +kernel
theorem d_Tre_chooseAtHouse_47 : decode Y_Tre_chooseAtHouse.2.1 47 = .ok (.istore_n 3, 1) := by decide +kernel
theorem d_Tre_chooseAtHouse_48 : decode Y_Tre_chooseAtHouse.2.1 48 = .ok (.iinc 4 1, 3) := by decide +kernel
theorem d_Tre_chooseAtHouse_51 : decode Y_Tre_chooseAtHouse.2.1 51 = .ok (.goto (-43), 3) := by decide +kernel
theorem d_Tre_chooseAtHouse_54 : decode Y_Tre_chooseAtHouse.2.1 54 = .ok (.iload_n 2, 1) := by decide +kernel
theorem d_Tre_chooseAtHouse_55 : decode Y_Tre_chooseAtHouse.2.1 55 = .ok (.ldc 60, 2) := by decide +kernel
theorem d_Tre_chooseAtHouse_57 : decode Y_Tre_chooseAtHouse.2.1 57 = .ok (.if_icmp .eq 16, 3) := by decide +kernel
theorem d_Tre_chooseAtHouse_60 : decode Y_Tre_chooseAtHouse.2.1 60 = .ok (.aload_n 0, 1) := by decide +kernel
theorem d_Tre_chooseAtHouse_61 : decode Y_Tre_chooseAtHouse.2.1 61 = .ok (.iconst 0, 1) := by decide +kernel
theorem d_Tre_chooseAtHouse_62 : decode Y_Tre_chooseAtHouse.2.1 62 = .ok (.iload_n 3, 1) := by decide +kernel
theorem d_Tre_chooseAtHouse_63 : decode Y_Tre_chooseAtHouse.2.1 63 = .ok (.invokevirtual 64, 3) := by decide +kernel
theorem d_Tre_chooseAtHouse_66 : decode Y_Tre_chooseAtHouse.2.1 66 = .ok (.ifCond .eq 7, 3) := by decide +kernel
theorem d_Tre_chooseAtHouse_69 : decode Y_Tre_chooseAtHouse.2.1 69 = .ok (.iconst 1, 1) := by decide +kernel
theorem d_Tre_chooseAtHouse_70 : decode Y_Tre_chooseAtHouse.2.1 70 = .ok (.goto 4, 3) := by decide +kernel
theorem d_Tre_chooseAtHouse_73 : decode Y_Tre_chooseAtHouse.2.1 73 = .ok (.iconst 0, 1) := by decide +kernel
theorem d_Tre_chooseAtHouse_74 : decode Y_Tre_chooseAtHouse.2.1 74 = .ok (.ireturn, 1) := by decide +kernel
theorem d_Tre_lowerBound_0 : decode Y_Tre_lowerBound.2.1 0 = .ok (.iconst 0, 1) := by decide +kernel
theorem d_Tre_lowerBound_1 : decode Y_Tre_lowerBound.2.1 1 = .ok (.istore_n 1, 1) := by decide +kernel
theorem d_Tre_lowerBound_2 : decode Y_Tre_lowerBound.2.1 2 = .ok (.iconst 0, 1) := by decide +kernel
theorem d_Tre_lowerBound_3 : decode Y_Tre_lowerBound.2.1 3 = .ok (.istore_n 2, 1) := by decide +kernel
theorem d_Tre_lowerBound_4 : decode Y_Tre_lowerBound.2.1 4 = .ok (.iload_n 2, 1) := by decide +kernel
theorem d_Tre_lowerBound_5 : decode Y_Tre_lowerBound.2.1 5 = .ok (.aload_n 0, 1) := by decide +kernel
theorem d_Tre_lowerBound_6 : decode Y_Tre_lowerBound.2.1 6 = .ok (.getfield 31, 3) := by decide +kernel
theorem d_Tre_lowerBound_9 : decode Y_Tre_lowerBound.2.1 9 = .ok (.getfield 35, 3) := by decide +kernel
theorem d_Tre_lowerBound_12 : decode Y_Tre_lowerBound.2.1 12 = .ok (.if_icmp .ge 18, 3) := by decide +kernel
theorem d_Tre_lowerBound_15 : decode Y_Tre_lowerBound.2.1 15 = .ok (.iload_n 1, 1) := by decide +kernel
theorem d_Tre_lowerBound_16 : decode Y_Tre_lowerBound.2.1 16 = .ok (.aload_n 0, 1) := by decide +kernel
theorem d_Tre_lowerBound_17 : decode Y_Tre_lowerBound.2.1 17 = .ok (.getfield 9, 3) := by decide +kernel
theorem d_Tre_lowerBound_20 : decode Y_Tre_lowerBound.2.1 20 = .ok (.iload_n 2, 1) := by decide +kernel
theorem d_Tre_lowerBound_21 : decode Y_Tre_lowerBound.2.1 21 = .ok (.iaload, 1) := by decide +kernel
theorem d_Tre_lowerBound_22 : decode Y_Tre_lowerBound.2.1 22 = .ok (.iadd, 1) := by decide +kernel
theorem d_Tre_lowerBound_23 : decode Y_Tre_lowerBound.2.1 23 = .ok (.istore_n 1, 1) := by decide +kernel
theorem d_Tre_lowerBound_24 : decode Y_Tre_lowerBound.2.1 24 = .ok (.iinc 2 1, 3) := by decide +kernel
theorem d_Tre_lowerBound_27 : decode Y_Tre_lowerBound.2.1 27 = .ok (.goto (-23), 3) := by decide +kernel
theorem d_Tre_lowerBound_30 : decode Y_Tre_lowerBound.2.1 30 = .ok (.aload_n 0, 1) := by decide +kernel
theorem d_Tre_lowerBound_31 : decode Y_Tre_lowerBound.2.1 31 = .ok (.getfield 28, 3) := by decide +kernel
theorem d_Tre_lowerBound_34 : decode Y_Tre_lowerBound.2.1 34 = .ok (.iconst 2, 1) := by decide +kernel
theorem d_Tre_lowerBound_35 : decode Y_Tre_lowerBound.2.1 35 = .ok (.iload_n 1, 1) := by decide +kernel
theorem d_Tre_lowerBound_36 : decode Y_Tre_lowerBound.2.1 36 = .ok (.imul, 1) := by decide +kernel
theorem d_Tre_lowerBound_37 : decode Y_Tre_lowerBound.2.1 37 = .ok (.isub, 1) := by decide +kernel
theorem d_Tre_lowerBound_38 : decode Y_Tre_lowerBound.2.1 38 = .ok (.ireturn, 1) := by decide +kernel
theorem d_Tre_edgesAt_0 : decode Y_Tre_edgesAt.2.1 0 = .ok (.iconst 0, 1) := by decide +kernel
theorem d_Tre_edgesAt_1 : decode Y_Tre_edgesAt.2.1 1 = .ok (.istore_n 2, 1) := by decide +kernel
theorem d_Tre_edgesAt_2 : decode Y_Tre_edgesAt.2.1 2 = .ok (.iconst 0, 1) := by decide +kernel
theorem d_Tre_edgesAt_3 : decode Y_Tre_edgesAt.2.1 3 = .ok (.istore_n 3, 1) := by decide +kernel
theorem d_Tre_edgesAt_4 : decode Y_Tre_edgesAt.2.1 4 = .ok (.iload_n 3, 1) := by decide +kernel
theorem d_Tre_edgesAt_5 : decode Y_Tre_edgesAt.2.1 5 = .ok (.aload_n 0, 1) := by decide +kernel
theorem d_Tre_edgesAt_6 : decode Y_Tre_edgesAt.2.1 6 = .ok (.getfield 24, 3) := by decide +kernel
theorem d_Tre_edgesAt_9 : decode Y_Tre_edgesAt.2.1 9 = .ok (.if_icmp .ge 32, 3) := by decide +kernel
theorem d_Tre_edgesAt_12 : decode Y_Tre_edgesAt.2.1 12 = .ok (.aload_n 0, 1) := by decide +kernel
theorem d_Tre_edgesAt_13 : decode Y_Tre_edgesAt.2.1 13 = .ok (.getfield 18, 3) := by decide +kernel
theorem d_Tre_edgesAt_16 : decode Y_Tre_edgesAt.2.1 16 = .ok (.iload_n 3, 1) := by decide +kernel
theorem d_Tre_edgesAt_17 : decode Y_Tre_edgesAt.2.1 17 = .ok (.iaload, 1) := by decide +kernel
theorem d_Tre_edgesAt_18 : decode Y_Tre_edgesAt.2.1 18 = .ok (.iload_n 1, 1) := by decide +kernel
theorem d_Tre_edgesAt_19 : decode Y_Tre_edgesAt.2.1 19 = .ok (.if_icmp .eq 13, 3) := by decide +kernel
theorem d_Tre_edgesAt_22 : decode Y_Tre_edgesAt.2.1 22 = .ok (.aload_n 0, 1) := by decide +kernel
theorem d_Tre_edgesAt_23 : decode Y_Tre_edgesAt.2.1 23 = .ok (.getfield 21, 3) := by decide +kernel
theorem d_Tre_edgesAt_26 : decode Y_Tre_edgesAt.2.1 26 = .ok (.iload_n 3, 1) := by decide +kernel
theorem d_Tre_edgesAt_27 : decode Y_Tre_edgesAt.2.1 27 = .ok (.iaload, 1) := by decide +kernel
theorem d_Tre_edgesAt_28 : decode Y_Tre_edgesAt.2.1 28 = .ok (.iload_n 1, 1) := by decide +kernel
theorem d_Tre_edgesAt_29 : decode Y_Tre_edgesAt.2.1 29 = .ok (.if_icmp .ne 6, 3) := by decide +kernel
theorem d_Tre_edgesAt_32 : decode Y_Tre_edgesAt.2.1 32 = .ok (.iinc 2 1, 3) := by decide +kernel
theorem d_Tre_edgesAt_35 : decode Y_Tre_edgesAt.2.1 35 = .ok (.iinc 3 1, 3) := by decide +kernel
theorem d_Tre_edgesAt_38 : decode Y_Tre_edgesAt.2.1 38 = .ok (.goto (-34), 3) := by decide +kernel
theorem d_Tre_edgesAt_41 : decode Y_Tre_edgesAt.2.1 41 = .ok (.iload_n 2, 1) := by decide +kernel
theorem d_Tre_edgesAt_42 : decode Y_Tre_edgesAt.2.1 42 = .ok (.ireturn, 1) := by decide +kernel
theorem d_Pai_leastCost_0 : decode Y_Pai_leastCost.2.1 0 = .ok (.iconst 1, 1) := by decide +kernel
theorem d_Pai_leastCost_1 : decode Y_Pai_leastCost.2.1 1 = .ok (.aload_n 0, 1) := by decide +kernel
theorem d_Pai_leastCost_2 : decode Y_Pai_leastCost.2.1 2 = .ok (.getfield 15, 3) := by decide +kernel
theorem d_Pai_leastCost_5 : decode Y_Pai_leastCost.2.1 5 = .ok (.getfield 19, 3) := by decide +kernel
theorem d_Pai_leastCost_8 : decode Y_Pai_leastCost.2.1 8 = .ok (.ishl, 1) := by decide +kernel
theorem d_Pai_leastCost_9 : decode Y_Pai_leastCost.2.1 9 = .ok (.iconst 1, 1) := by decide +kernel
theorem d_Pai_leastCost_10 : decode Y_Pai_leastCost.2.1 10 = .ok (.isub, 1) := by decide +kernel
theorem d_Pai_leastCost_11 : decode Y_Pai_leastCost.2.1 11 = .ok (.istore_n 1, 1) := by decide +kernel
theorem d_Pai_leastCost_12 : decode Y_Pai_leastCost.2.1 12 = .ok (.aload_n 0, 1) := by decide +kernel
theorem d_Pai_leastCost_13 : decode Y_Pai_leastCost.2.1 13 = .ok (.getfield 9, 3) := by decide +kernel
theorem d_Pai_leastCost_16 : decode Y_Pai_leastCost.2.1 16 = .ok (.iconst 0, 1) := by decide +kernel
theorem d_Pai_leastCost_17 : decode Y_Pai_leastCost.2.1 17 = .ok (.iconst 0, 1) := by decide +kernel
theorem d_Pai_leastCost_18 : decode Y_Pai_leastCost.2.1 18 = .ok (.iastore, 1) := by decide +kernel
theorem d_Pai_leastCost_19 : decode Y_Pai_leastCost.2.1 19 = .ok (.iconst 1, 1) := by decide +kernel
theorem d_Pai_leastCost_20 : decode Y_Pai_leastCost.2.1 20 = .ok (.istore_n 2, 1) := by decide +kernel
theorem d_Pai_leastCost_21 : decode Y_Pai_leastCost.2.1 21 = .ok (.iload_n 2, 1) := by decide +kernel
theorem d_Pai_leastCost_22 : decode Y_Pai_leastCost.2.1 22 = .ok (.iload_n 1, 1) := by decide +kernel
theorem d_Pai_leastCost_23 : decode Y_Pai_leastCost.2.1 23 = .ok (.if_icmp .gt 96, 3) := by decide +kernel
theorem d_Pai_leastCost_26 : decode Y_Pai_leastCost.2.1 26 = .ok (.iload_n 2, 1) := by decide +kernel
theorem d_Pai_leastCost_27 : decode Y_Pai_leastCost.2.1 27 = .ok (.invokestatic 25, 3) := by decide +kernel
theorem d_Pai_leastCost_30 : decode Y_Pai_leastCost.2.1 30 = .ok (.iconst 1, 1) := by decide +kernel
theorem d_Pai_leastCost_31 : decode Y_Pai_leastCost.2.1 31 = .ok (.isub, 1) := by decide +kernel
theorem d_Pai_leastCost_32 : decode Y_Pai_leastCost.2.1 32 = .ok (.istore_n 3, 1) := by decide +kernel
theorem d_Pai_leastCost_33 : decode Y_Pai_leastCost.2.1 33 = .ok (.ldc 31, 2) := by decide +kernel
theorem d_Pai_leastCost_35 : decode Y_Pai_leastCost.2.1 35 = .ok (.istore 4, 2) := by decide +kernel
theorem d_Pai_leastCost_37 : decode Y_Pai_leastCost.2.1 37 = .ok (.iconst 0, 1) := by decide +kernel
theorem d_Pai_leastCost_38 : decode Y_Pai_leastCost.2.1 38 = .ok (.istore 5, 2) := by decide +kernel
theorem d_Pai_leastCost_40 : decode Y_Pai_leastCost.2.1 40 = .ok (.iload 5, 2) := by decide +kernel
theorem d_Pai_leastCost_42 : decode Y_Pai_leastCost.2.1 42 = .ok (.aload_n 0, 1) := by decide +kernel
theorem d_Pai_leastCost_43 : decode Y_Pai_leastCost.2.1 43 = .ok (.getfield 15, 3) := by decide +kernel
theorem d_Pai_leastCost_46 : decode Y_Pai_leastCost.2.1 46 = .ok (.getfield 19, 3) := by decide +kernel
theorem d_Pai_leastCost_49 : decode Y_Pai_leastCost.2.1 49 = .ok (.if_icmp .ge 56, 3) := by decide +kernel
theorem d_Pai_leastCost_52 : decode Y_Pai_leastCost.2.1 52 = .ok (.iload_n 2, 1) := by decide +kernel
theorem d_Pai_leastCost_53 : decode Y_Pai_leastCost.2.1 53 = .ok (.iconst 1, 1) := by decide +kernel
theorem d_Pai_leastCost_54 : decode Y_Pai_leastCost.2.1 54 = .ok (.iload 5, 2) := by decide +kernel
theorem d_Pai_leastCost_56 : decode Y_Pai_leastCost.2.1 56 = .ok (.ishl, 1) := by decide +kernel
theorem d_Pai_leastCost_57 : decode Y_Pai_leastCost.2.1 57 = .ok (.iand, 1) := by decide +kernel
theorem d_Pai_leastCost_58 : decode Y_Pai_leastCost.2.1 58 = .ok (.ifCond .eq 41, 3) := by decide +kernel
theorem d_Pai_leastCost_61 : decode Y_Pai_leastCost.2.1 61 = .ok (.iload 4, 2) := by decide +kernel
theorem d_Pai_leastCost_63 : decode Y_Pai_leastCost.2.1 63 = .ok (.aload_n 0, 1) := by decide +kernel
theorem d_Pai_leastCost_64 : decode Y_Pai_leastCost.2.1 64 = .ok (.getfield 9, 3) := by decide +kernel
theorem d_Pai_leastCost_67 : decode Y_Pai_leastCost.2.1 67 = .ok (.iload_n 2, 1) := by decide +kernel
theorem d_Pai_leastCost_68 : decode Y_Pai_leastCost.2.1 68 = .ok (.iconst 1, 1) := by decide +kernel
theorem d_Pai_leastCost_69 : decode Y_Pai_leastCost.2.1 69 = .ok (.iload 5, 2) := by decide +kernel
theorem d_Pai_leastCost_71 : decode Y_Pai_leastCost.2.1 71 = .ok (.ishl, 1) := by decide +kernel
theorem d_Pai_leastCost_72 : decode Y_Pai_leastCost.2.1 72 = .ok (.iconst (-1), 1) := by decide +kernel
theorem d_Pai_leastCost_73 : decode Y_Pai_leastCost.2.1 73 = .ok (.ixor, 1) := by decide +kernel
theorem d_Pai_leastCost_74 : decode Y_Pai_leastCost.2.1 74 = .ok (.iand, 1) := by decide +kernel
theorem d_Pai_leastCost_75 : decode Y_Pai_leastCost.2.1 75 = .ok (.iaload, 1) := by decide +kernel
theorem d_Pai_leastCost_76 : decode Y_Pai_leastCost.2.1 76 = .ok (.aload_n 0, 1) := by decide +kernel
theorem d_Pai_leastCost_77 : decode Y_Pai_leastCost.2.1 77 = .ok (.getfield 15, 3) := by decide +kernel
theorem d_Pai_leastCost_80 : decode Y_Pai_leastCost.2.1 80 = .ok (.getfield 32, 3) := by decide +kernel
theorem d_Pai_leastCost_83 : decode Y_Pai_leastCost.2.1 83 = .ok (.iload_n 3, 1) := by decide +kernel
theorem d_Pai_leastCost_84 : decode Y_Pai_leastCost.2.1 84 = .ok (.bipush 9, 2) := by decide +kernel
theorem d_Pai_leastCost_86 : decode Y_Pai_leastCost.2.1 86 = .ok (.imul, 1) := by decide +kernel
theorem d_Pai_leastCost_87 : decode Y_Pai_leastCost.2.1 87 = .ok (.iload 5, 2) := by decide +kernel
theorem d_Pai_leastCost_89 : decode Y_Pai_leastCost.2.1 89 = .ok (.iadd, 1) := by decide +kernel
theorem d_Pai_leastCost_90 : decode Y_Pai_leastCost.2.1 90 = .ok (.iaload, 1) := by decide +kernel
theorem d_Pai_leastCost_91 : decode Y_Pai_leastCost.2.1 91 = .ok (.invokestatic 35, 3) := by decide +kernel
theorem d_Pai_leastCost_94 : decode Y_Pai_leastCost.2.1 94 = .ok (.invokestatic 39, 3) := by decide +kernel
theorem d_Pai_leastCost_97 : decode Y_Pai_leastCost.2.1 97 = .ok (.istore 4, 2) := by decide +kernel
theorem d_Pai_leastCost_99 : decode Y_Pai_leastCost.2.1 99 = .ok (.iinc 5 1, 3) := by decide +kernel
theorem d_Pai_leastCost_102 : decode Y_Pai_leastCost.2.1 102 = .ok (.goto (-62), 3) := by decide +kernel
theorem d_Pai_leastCost_105 : decode Y_Pai_leastCost.2.1 105 = .ok (.aload_n 0, 1) := by decide +kernel
theorem d_Pai_leastCost_106 : decode Y_Pai_leastCost.2.1 106 = .ok (.getfield 9, 3) := by decide +kernel
theorem d_Pai_leastCost_109 : decode Y_Pai_leastCost.2.1 109 = .ok (.iload_n 2, 1) := by decide +kernel
theorem d_Pai_leastCost_110 : decode Y_Pai_leastCost.2.1 110 = .ok (.iload 4, 2) := by decide +kernel
theorem d_Pai_leastCost_112 : decode Y_Pai_leastCost.2.1 112 = .ok (.iastore, 1) := by decide +kernel
theorem d_Pai_leastCost_113 : decode Y_Pai_leastCost.2.1 113 = .ok (.iinc 2 1, 3) := by decide +kernel
theorem d_Pai_leastCost_116 : decode Y_Pai_leastCost.2.1 116 = .ok (.goto (-95), 3) := by decide +kernel
theorem d_Pai_leastCost_119 : decode Y_Pai_leastCost.2.1 119 = .ok (.aload_n 0, 1) := by decide +kernel
theorem d_Pai_leastCost_120 : decode Y_Pai_leastCost.2.1 120 = .ok (.getfield 9, 3) := by decide +kernel
theorem d_Pai_leastCost_123 : decode Y_Pai_leastCost.2.1 123 = .ok (.iload_n 1, 1) := by decide +kernel
theorem d_Pai_leastCost_124 : decode Y_Pai_leastCost.2.1 124 = .ok (.iaload, 1) := by decide +kernel
theorem d_Pai_leastCost_125 : decode Y_Pai_leastCost.2.1 125 = .ok (.ireturn, 1) := by decide +kernel
theorem d_Cir_changeFollower_0 : decode Y_Cir_changeFollower.2.1 0 = .ok (.aload_n 0, 1) := by decide +kernel
theorem d_Cir_changeFollower_1 : decode Y_Cir_changeFollower.2.1 1 = .ok (.getfield 9, 3) := by decide +kernel
theorem d_Cir_changeFollower_4 : decode Y_Cir_changeFollower.2.1 4 = .ok (.iload_n 1, 1) := by decide +kernel
theorem d_Cir_changeFollower_5 : decode Y_Cir_changeFollower.2.1 5 = .ok (.iaload, 1) := by decide +kernel
theorem d_Cir_changeFollower_6 : decode Y_Cir_changeFollower.2.1 6 = .ok (.istore_n 3, 1) := by decide +kernel
theorem d_Cir_changeFollower_7 : decode Y_Cir_changeFollower.2.1 7 = .ok (.aload_n 0, 1) := by decide +kernel
theorem d_Cir_changeFollower_8 : decode Y_Cir_changeFollower.2.1 8 = .ok (.getfield 9, 3) := by decide +kernel
theorem d_Cir_changeFollower_11 : decode Y_Cir_changeFollower.2.1 11 = .ok (.iload_n 1, 1) := by decide +kernel
theorem d_Cir_changeFollower_12 : decode Y_Cir_changeFollower.2.1 12 = .ok (.iload_n 2, 1) := by decide +kernel
theorem d_Cir_changeFollower_13 : decode Y_Cir_changeFollower.2.1 13 = .ok (.iastore, 1) := by decide +kernel
theorem d_Cir_changeFollower_14 : decode Y_Cir_changeFollower.2.1 14 = .ok (.iload_n 3, 1) := by decide +kernel
theorem d_Cir_changeFollower_15 : decode Y_Cir_changeFollower.2.1 15 = .ok (.ireturn, 1) := by decide +kernel
theorem d_Cir_find_0 : decode Y_Cir_find.2.1 0 = .ok (.iconst 0, 1) := by decide +kernel
theorem d_Cir_find_1 : decode Y_Cir_find.2.1 1 = .ok (.istore_n 1, 1) := by decide +kernel
theorem d_Cir_find_2 : decode Y_Cir_find.2.1 2 = .ok (.iconst 0, 1) := by decide +kernel
theorem d_Cir_find_3 : decode Y_Cir_find.2.1 3 = .ok (.istore_n 2, 1) := by decide +kernel
theorem d_Cir_find_4 : decode Y_Cir_find.2.1 4 = .ok (.iload_n 2, 1) := by decide +kernel
theorem d_Cir_find_5 : decode Y_Cir_find.2.1 5 = .ok (.aload_n 0, 1) := by decide +kernel
theorem d_Cir_find_6 : decode Y_Cir_find.2.1 6 = .ok (.getfield 18, 3) := by decide +kernel
theorem d_Cir_find_9 : decode Y_Cir_find.2.1 9 = .ok (.getfield 22, 3) := by decide +kernel
theorem d_Cir_find_12 : decode Y_Cir_find.2.1 12 = .ok (.if_icmp .ge 29, 3) := by decide +kernel
theorem d_Cir_find_15 : decode Y_Cir_find.2.1 15 = .ok (.aload_n 0, 1) := by decide +kernel
theorem d_Cir_find_16 : decode Y_Cir_find.2.1 16 = .ok (.iload_n 2, 1) := by decide +kernel
theorem d_Cir_find_17 : decode Y_Cir_find.2.1 17 = .ok (.invokevirtual 28, 3) := by decide +kernel
theorem d_Cir_find_20 : decode Y_Cir_find.2.1 20 = .ok (.istore_n 3, 1) := by decide +kernel
theorem d_Cir_find_21 : decode Y_Cir_find.2.1 21 = .ok (.iload_n 3, 1) := by decide +kernel
theorem d_Cir_find_22 : decode Y_Cir_find.2.1 22 = .ok (.ifCond .eq 13, 3) := by decide +kernel
theorem d_Cir_find_25 : decode Y_Cir_find.2.1 25 = .ok (.aload_n 0, 1) := by decide +kernel
theorem d_Cir_find_26 : decode Y_Cir_find.2.1 26 = .ok (.getfield 15, 3) := by decide +kernel
theorem d_Cir_find_29 : decode Y_Cir_find.2.1 29 = .ok (.iload_n 1, 1) := by decide +kernel
theorem d_Cir_find_30 : decode Y_Cir_find.2.1 30 = .ok (.iload_n 3, 1) := by decide +kernel
theorem d_Cir_find_31 : decode Y_Cir_find.2.1 31 = .ok (.iastore, 1) := by decide +kernel
theorem d_Cir_find_32 : decode Y_Cir_find.2.1 32 = .ok (.iinc 1 1, 3) := by decide +kernel
theorem d_Cir_find_35 : decode Y_Cir_find.2.1 35 = .ok (.iinc 2 1, 3) := by decide +kernel
theorem d_Cir_find_38 : decode Y_Cir_find.2.1 38 = .ok (.goto (-34), 3) := by decide +kernel
theorem d_Cir_find_41 : decode Y_Cir_find.2.1 41 = .ok (.iload_n 1, 1) := by decide +kernel
theorem d_Cir_find_42 : decode Y_Cir_find.2.1 42 = .ok (.ireturn, 1) := by decide +kernel
theorem d_Cir_circleFrom_0 : decode Y_Cir_circleFrom.2.1 0 = .ok (.iconst 0, 1) := by decide +kernel
theorem d_Cir_circleFrom_1 : decode Y_Cir_circleFrom.2.1 1 = .ok (.istore_n 2, 1) := by decide +kernel
theorem d_Cir_circleFrom_2 : decode Y_Cir_circleFrom.2.1 2 = .ok (.iload_n 1, 1) := by decide +kernel
theorem d_Cir_circleFrom_3 : decode Y_Cir_circleFrom.2.1 3 = .ok (.istore_n 3, 1) := by decide +kernel
theorem d_Cir_circleFrom_4 : decode Y_Cir_circleFrom.2.1 4 = .ok (.iconst 0, 1) := by decide +kernel
theorem d_Cir_circleFrom_5 : decode Y_Cir_circleFrom.2.1 5 = .ok (.istore 4, 2) := by decide +kernel
theorem d_Cir_circleFrom_7 : decode Y_Cir_circleFrom.2.1 7 = .ok (.iload 4, 2) := by decide +kernel
theorem d_Cir_circleFrom_9 : decode Y_Cir_circleFrom.2.1 9 = .ok (.aload_n 0, 1) := by decide +kernel
theorem d_Cir_circleFrom_10 : decode Y_Cir_circleFrom.2.1 10 = .ok (.getfield 18, 3) := by decide +kernel
theorem d_Cir_circleFrom_13 : decode Y_Cir_circleFrom.2.1 13 = .ok (.getfield 22, 3) := by decide +kernel
theorem d_Cir_circleFrom_16 : decode Y_Cir_circleFrom.2.1 16 = .ok (.if_icmp .ge 36, 3) := by decide +kernel
theorem d_Cir_circleFrom_19 : decode Y_Cir_circleFrom.2.1 19 = .ok (.aload_n 0, 1) := by decide +kernel
theorem d_Cir_circleFrom_20 : decode Y_Cir_circleFrom.2.1 20 = .ok (.getfield 9, 3) := by decide +kernel
theorem d_Cir_circleFrom_23 : decode Y_Cir_circleFrom.2.1 23 = .ok (.iload_n 3, 1) := by decide +kernel
theorem d_Cir_circleFrom_24 : decode Y_Cir_circleFrom.2.1 24 = .ok (.iaload, 1) := by decide +kernel
theorem d_Cir_circleFrom_25 : decode Y_Cir_circleFrom.2.1 25 = .ok (.istore_n 3, 1) := by decide +kernel
theorem d_Cir_circleFrom_26 : decode Y_Cir_circleFrom.2.1 26 = .ok (.iload_n 3, 1) := by decide +kernel
theorem d_Cir_circleFrom_27 : decode Y_Cir_circleFrom.2.1 27 = .ok (.iload_n 1, 1) := by decide +kernel
theorem d_Cir_circleFrom_28 : decode Y_Cir_circleFrom.2.1 28 = .ok (.if_icmp .ge 5, 3) := by decide +kernel
theorem d_Cir_circleFrom_31 : decode Y_Cir_circleFrom.2.1 31 = .ok (.iconst 0, 1) := by decide +kernel
theorem d_Cir_circleFrom_32 : decode Y_Cir_circleFrom.2.1 32 = .ok (.ireturn, 1) := by decide +kernel
theorem d_Cir_circleFrom_33 : decode Y_Cir_circleFrom.2.1 33 = .ok (.iload_n 2, 1) := by decide +kernel
theorem d_Cir_circleFrom_34 : decode Y_Cir_circleFrom.2.1 34 = .ok (.iconst 1, 1) := by decide +kernel
theorem d_Cir_circleFrom_35 : decode Y_Cir_circleFrom.2.1 35 = .ok (.iload_n 3, 1) := by decide +kernel
theorem d_Cir_circleFrom_36 : decode Y_Cir_circleFrom.2.1 36 = .ok (.ishl, 1) := by decide +kernel
theorem d_Cir_circleFrom_37 : decode Y_Cir_circleFrom.2.1 37 = .ok (.ior, 1) := by decide +kernel
theorem d_Cir_circleFrom_38 : decode Y_Cir_circleFrom.2.1 38 = .ok (.istore_n 2, 1) := by decide +kernel
theorem d_Cir_circleFrom_39 : decode Y_Cir_circleFrom.2.1 39 = .ok (.iload_n 3, 1) := by decide +kernel
theorem d_Cir_circleFrom_40 : decode Y_Cir_circleFrom.2.1 40 = .ok (.iload_n 1, 1) := by decide +kernel
theorem d_Cir_circleFrom_41 : decode Y_Cir_circleFrom.2.1 41 = .ok (.if_icmp .ne 5, 3) := by decide +kernel
theorem d_Cir_circleFrom_44 : decode Y_Cir_circleFrom.2.1 44 = .ok (.iload_n 2, 1) := by decide +kernel
theorem d_Cir_circleFrom_45 : decode Y_Cir_circleFrom.2.1 45 = .ok (.ireturn, 1) := by decide +kernel
theorem d_Cir_circleFrom_46 : decode Y_Cir_circleFrom.2.1 46 = .ok (.iinc 4 1, 3) := by decide +kernel
theorem d_Cir_circleFrom_49 : decode Y_Cir_circleFrom.2.1 49 = .ok (.goto (-42), 3) := by decide +kernel
theorem d_Cir_circleFrom_52 : decode Y_Cir_circleFrom.2.1 52 = .ok (.iconst 0, 1) := by decide +kernel
theorem d_Cir_circleFrom_53 : decode Y_Cir_circleFrom.2.1 53 = .ok (.ireturn, 1) := by decide +kernel
theorem d_Way_nearestLeading_0 : decode Y_Way_nearestLeading.2.1 0 = .ok (.iload_n 1, 1) := by decide +kernel
theorem d_Way_nearestLeading_1 : decode Y_Way_nearestLeading.2.1 1 = .ok (.ifCond .eq 15, 3) := by decide +kernel
theorem d_Way_nearestLeading_4 : decode Y_Way_nearestLeading.2.1 4 = .ok (.aload_n 0, 1) := by decide +kernel
theorem d_Way_nearestLeading_5 : decode Y_Way_nearestLeading.2.1 5 = .ok (.iconst (-1), 1) := by decide +kernel
theorem d_Way_nearestLeading_6 : decode Y_Way_nearestLeading.2.1 6 = .ok (.invokevirtual 19, 3) := by decide +kernel
theorem d_Way_nearestLeading_9 : decode Y_Way_nearestLeading.2.1 9 = .ok (.iconst 1, 1) := by decide +kernel
theorem d_Way_nearestLeading_10 : decode Y_Way_nearestLeading.2.1 10 = .ok (.iload_n 1, 1) := by decide +kernel
theorem d_Way_nearestLeading_11 : decode Y_Way_nearestLeading.2.1 11 = .ok (.ishl, 1) := by decide +kernel
theorem d_Way_nearestLeading_12 : decode Y_Way_nearestLeading.2.1 12 = .ok (.iand, 1) := by decide +kernel
theorem d_Way_nearestLeading_13 : decode Y_Way_nearestLeading.2.1 13 = .ok (.ifCond .ne 6, 3) := by decide +kernel
theorem d_Way_nearestLeading_16 : decode Y_Way_nearestLeading.2.1 16 = .ok (.ldc 23, 2) := by decide +kernel
theorem d_Way_nearestLeading_18 : decode Y_Way_nearestLeading.2.1 18 = .ok (.ireturn, 1) := by decide +kernel
theorem d_Way_nearestLeading_19 : decode Y_Way_nearestLeading.2.1 19 = .ok (.iconst 0, 1) := by decide +kernel
theorem d_Way_nearestLeading_20 : decode Y_Way_nearestLeading.2.1 20 = .ok (.istore_n 2, 1) := by decide +kernel
theorem d_Way_nearestLeading_21 : decode Y_Way_nearestLeading.2.1 21 = .ok (.iload_n 2, 1) := by decide +kernel
theorem d_Way_nearestLeading_22 : decode Y_Way_nearestLeading.2.1 22 = .ok (.aload_n 0, 1) := by decide +kernel
theorem d_Way_nearestLeading_23 : decode Y_Way_nearestLeading.2.1 23 = .ok (.getfield 15, 3) := by decide +kernel
theorem d_Way_nearestLeading_26 : decode Y_Way_nearestLeading.2.1 26 = .ok (.getfield 24, 3) := by decide +kernel
theorem d_Way_nearestLeading_29 : decode Y_Way_nearestLeading.2.1 29 = .ok (.if_icmp .ge 20, 3) := by decide +kernel
theorem d_Way_nearestLeading_32 : decode Y_Way_nearestLeading.2.1 32 = .ok (.aload_n 0, 1) := by decide +kernel
theorem d_Way_nearestLeading_33 : decode Y_Way_nearestLeading.2.1 33 = .ok (.getfield 9, 3) := by decide +kernel
theorem d_Way_nearestLeading_36 : decode Y_Way_nearestLeading.2.1 36 = .ok (.iload_n 2, 1) := by decide +kernel
theorem d_Way_nearestLeading_37 : decode Y_Way_nearestLeading.2.1 37 = .ok (.aload_n 0, 1) := by decide +kernel
theorem d_Way_nearestLeading_38 : decode Y_Way_nearestLeading.2.1 38 = .ok (.iload_n 2, 1) := by decide +kernel
theorem d_Way_nearestLeading_39 : decode Y_Way_nearestLeading.2.1 39 = .ok (.invokevirtual 19, 3) := by decide +kernel
theorem d_Way_nearestLeading_42 : decode Y_Way_nearestLeading.2.1 42 = .ok (.iastore, 1) := by decide +kernel
theorem d_Way_nearestLeading_43 : decode Y_Way_nearestLeading.2.1 43 = .ok (.iinc 2 1, 3) := by decide +kernel
theorem d_Way_nearestLeading_46 : decode Y_Way_nearestLeading.2.1 46 = .ok (.goto (-25), 3) := by decide +kernel
theorem d_Way_nearestLeading_49 : decode Y_Way_nearestLeading.2.1 49 = .ok (.iconst 0, 1) := by decide +kernel
theorem d_Way_nearestLeading_50 : decode Y_Way_nearestLeading.2.1 50 = .ok (.istore_n 2, 1) := by decide +kernel
theorem d_Way_nearestLeading_51 : decode Y_Way_nearestLeading.2.1 51 = .ok (.iload_n 2, 1) := by decide +kernel
theorem d_Way_nearestLeading_52 : decode Y_Way_nearestLeading.2.1 52 = .ok (.aload_n 0, 1) := by decide +kernel
theorem d_Way_nearestLeading_53 : decode Y_Way_nearestLeading.2.1 53 = .ok (.getfield 15, 3) := by decide +kernel
theorem d_Way_nearestLeading_56 : decode Y_Way_nearestLeading.2.1 56 = .ok (.getfield 24, 3) := by decide +kernel
theorem d_Way_nearestLeading_59 : decode Y_Way_nearestLeading.2.1 59 = .ok (.if_icmp .ge 29, 3) := by decide +kernel
theorem d_Way_nearestLeading_62 : decode Y_Way_nearestLeading.2.1 62 = .ok (.aload_n 0, 1) := by decide +kernel
theorem d_Way_nearestLeading_63 : decode Y_Way_nearestLeading.2.1 63 = .ok (.iload_n 2, 1) := by decide +kernel
theorem d_Way_nearestLeading_64 : decode Y_Way_nearestLeading.2.1 64 = .ok (.iload_n 1, 1) := by decide +kernel
theorem d_Way_nearestLeading_65 : decode Y_Way_nearestLeading.2.1 65 = .ok (.invokevirtual 30, 3) := by decide +kernel
theorem d_Way_nearestLeading_68 : decode Y_Way_nearestLeading.2.1 68 = .ok (.ifCond .eq 14, 3) := by decide +kernel
theorem d_Way_nearestLeading_71 : decode Y_Way_nearestLeading.2.1 71 = .ok (.aload_n 0, 1) := by decide +kernel
theorem d_Way_nearestLeading_72 : decode Y_Way_nearestLeading.2.1 72 = .ok (.iload_n 2, 1) := by decide +kernel
theorem d_Way_nearestLeading_73 : decode Y_Way_nearestLeading.2.1 73 = .ok (.iload_n 1, 1) := by decide +kernel
theorem d_Way_nearestLeading_74 : decode Y_Way_nearestLeading.2.1 74 = .ok (.invokevirtual 34, 3) := by decide +kernel
theorem d_Way_nearestLeading_77 : decode Y_Way_nearestLeading.2.1 77 = .ok (.ifCond .eq 5, 3) := by decide +kernel
theorem d_Way_nearestLeading_80 : decode Y_Way_nearestLeading.2.1 80 = .ok (.iload_n 2, 1) := by decide +kernel
theorem d_Way_nearestLeading_81 : decode Y_Way_nearestLeading.2.1 81 = .ok (.ireturn, 1) := by decide +kernel
theorem d_Way_nearestLeading_82 : decode Y_Way_nearestLeading.2.1 82 = .ok (.iinc 2 1, 3) := by decide +kernel
theorem d_Way_nearestLeading_85 : decode Y_Way_nearestLeading.2.1 85 = .ok (.goto (-34), 3) := by decide +kernel
theorem d_Way_nearestLeading_88 : decode Y_Way_nearestLeading.2.1 88 = .ok (.ldc 23, 2) := by decide +kernel
theorem d_Way_nearestLeading_90 : decode Y_Way_nearestLeading.2.1 90 = .ok (.ireturn, 1) := by decide +kernel
theorem d_Way_reached_0 : decode Y_Way_reached.2.1 0 = .ok (.iload_n 1, 1) := by decide +kernel
theorem d_Way_reached_1 : decode Y_Way_reached.2.1 1 = .ok (.ifCond .ne 5, 3) := by decide +kernel
theorem d_Way_reached_4 : decode Y_Way_reached.2.1 4 = .ok (.iconst 0, 1) := by decide +kernel
theorem d_Way_reached_5 : decode Y_Way_reached.2.1 5 = .ok (.ireturn, 1) := by decide +kernel
theorem d_Way_reached_6 : decode Y_Way_reached.2.1 6 = .ok (.iconst 1, 1) := by decide +kernel
theorem d_Way_reached_7 : decode Y_Way_reached.2.1 7 = .ok (.istore_n 2, 1) := by decide +kernel
theorem d_Way_reached_8 : decode Y_Way_reached.2.1 8 = .ok (.iconst 1, 1) := by decide +kernel
theorem d_Way_reached_9 : decode Y_Way_reached.2.1 9 = .ok (.istore_n 3, 1) := by decide +kernel
theorem d_Way_reached_10 : decode Y_Way_reached.2.1 10 = .ok (.iload_n 3, 1) := by decide +kernel
theorem d_Way_reached_11 : decode Y_Way_reached.2.1 11 = .ok (.aload_n 0, 1) := by decide +kernel
theorem d_Way_reached_12 : decode Y_Way_reached.2.1 12 = .ok (.getfield 15, 3) := by decide +kernel
theorem d_Way_reached_15 : decode Y_Way_reached.2.1 15 = .ok (.getfield 24, 3) := by decide +kernel
theorem d_Way_reached_18 : decode Y_Way_reached.2.1 18 = .ok (.if_icmp .ge 49, 3) := by decide +kernel
theorem d_Way_reached_21 : decode Y_Way_reached.2.1 21 = .ok (.iconst 0, 1) := by decide +kernel
theorem d_Way_reached_22 : decode Y_Way_reached.2.1 22 = .ok (.istore 4, 2) := by decide +kernel
theorem d_Way_reached_24 : decode Y_Way_reached.2.1 24 = .ok (.iload 4, 2) := by decide +kernel
theorem d_Way_reached_26 : decode Y_Way_reached.2.1 26 = .ok (.aload_n 0, 1) := by decide +kernel
theorem d_Way_reached_27 : decode Y_Way_reached.2.1 27 = .ok (.getfield 15, 3) := by decide +kernel
theorem d_Way_reached_30 : decode Y_Way_reached.2.1 30 = .ok (.getfield 24, 3) := by decide +kernel
theorem d_Way_reached_33 : decode Y_Way_reached.2.1 33 = .ok (.if_icmp .ge 28, 3) := by decide +kernel
theorem d_Way_reached_36 : decode Y_Way_reached.2.1 36 = .ok (.iload_n 2, 1) := by decide +kernel
theorem d_Way_reached_37 : decode Y_Way_reached.2.1 37 = .ok (.iconst 1, 1) := by decide +kernel
theorem d_Way_reached_38 : decode Y_Way_reached.2.1 38 = .ok (.iload 4, 2) := by decide +kernel
theorem d_Way_reached_40 : decode Y_Way_reached.2.1 40 = .ok (.ishl, 1) := by decide +kernel
theorem d_Way_reached_41 : decode Y_Way_reached.2.1 41 = .ok (.iand, 1) := by decide +kernel
theorem d_Way_reached_42 : decode Y_Way_reached.2.1 42 = .ok (.ifCond .eq 13, 3) := by decide +kernel
theorem d_Way_reached_45 : decode Y_Way_reached.2.1 45 = .ok (.iload_n 2, 1) := by decide +kernel
theorem d_Way_reached_46 : decode Y_Way_reached.2.1 46 = .ok (.aload_n 0, 1) := by decide +kernel
theorem d_Way_reached_47 : decode Y_Way_reached.2.1 47 = .ok (.iload 4, 2) := by decide +kernel
theorem d_Way_reached_49 : decode Y_Way_reached.2.1 49 = .ok (.iload_n 1, 1) := by decide +kernel
theorem d_Way_reached_50 : decode Y_Way_reached.2.1 50 = .ok (.invokevirtual 37, 3) := by decide +kernel
theorem d_Way_reached_53 : decode Y_Way_reached.2.1 53 = .ok (.ior, 1) := by decide +kernel
theorem d_Way_reached_54 : decode Y_Way_reached.2.1 54 = .ok (.istore_n 2, 1) := by decide +kernel
theorem d_Way_reached_55 : decode Y_Way_reached.2.1 55 = .ok (.iinc 4 1, 3) := by decide +kernel
theorem d_Way_reached_58 : decode Y_Way_reached.2.1 58 = .ok (.goto (-34), 3) := by decide +kernel
theorem d_Way_reached_61 : decode Y_Way_reached.2.1 61 = .ok (.iinc 3 1, 3) := by decide +kernel
theorem d_Way_reached_64 : decode Y_Way_reached.2.1 64 = .ok (.goto (-54), 3) := by decide +kernel
theorem d_Way_reached_67 : decode Y_Way_reached.2.1 67 = .ok (.iload_n 2, 1) := by decide +kernel
theorem d_Way_reached_68 : decode Y_Way_reached.2.1 68 = .ok (.ireturn, 1) := by decide +kernel
theorem d_Way_stepFrom_0 : decode Y_Way_stepFrom.2.1 0 = .ok (.iconst 0, 1) := by decide +kernel
theorem d_Way_stepFrom_1 : decode Y_Way_stepFrom.2.1 1 = .ok (.istore_n 3, 1) := by decide +kernel
theorem d_Way_stepFrom_2 : decode Y_Way_stepFrom.2.1 2 = .ok (.iconst 0, 1) := by decide +kernel
theorem d_Way_stepFrom_3 : decode Y_Way_stepFrom.2.1 3 = .ok (.istore 4, 2) := by decide +kernel
theorem d_Way_stepFrom_5 : decode Y_Way_stepFrom.2.1 5 = .ok (.iload 4, 2) := by decide +kernel
theorem d_Way_stepFrom_7 : decode Y_Way_stepFrom.2.1 7 = .ok (.aload_n 0, 1) := by decide +kernel
theorem d_Way_stepFrom_8 : decode Y_Way_stepFrom.2.1 8 = .ok (.getfield 15, 3) := by decide +kernel
theorem d_Way_stepFrom_11 : decode Y_Way_stepFrom.2.1 11 = .ok (.getfield 24, 3) := by decide +kernel
theorem d_Way_stepFrom_14 : decode Y_Way_stepFrom.2.1 14 = .ok (.if_icmp .ge 42, 3) := by decide +kernel
theorem d_Way_stepFrom_17 : decode Y_Way_stepFrom.2.1 17 = .ok (.iload 4, 2) := by decide +kernel
theorem d_Way_stepFrom_19 : decode Y_Way_stepFrom.2.1 19 = .ok (.iload_n 2, 1) := by decide +kernel
theorem d_Way_stepFrom_20 : decode Y_Way_stepFrom.2.1 20 = .ok (.if_icmp .eq 30, 3) := by decide +kernel
theorem d_Way_stepFrom_23 : decode Y_Way_stepFrom.2.1 23 = .ok (.aload_n 0, 1) := by decide +kernel
theorem d_Way_stepFrom_24 : decode Y_Way_stepFrom.2.1 24 = .ok (.getfield 15, 3) := by decide +kernel
theorem d_Way_stepFrom_27 : decode Y_Way_stepFrom.2.1 27 = .ok (.getfield 41, 3) := by decide +kernel
theorem d_Way_stepFrom_30 : decode Y_Way_stepFrom.2.1 30 = .ok (.iload_n 1, 1) := by decide +kernel
theorem d_Way_stepFrom_31 : decode Y_Way_stepFrom.2.1 31 = .ok (.bipush 9, 2) := by decide +kernel
theorem d_Way_stepFrom_33 : decode Y_Way_stepFrom.2.1 33 = .ok (.imul, 1) := by decide +kernel
theorem d_Way_stepFrom_34 : decode Y_Way_stepFrom.2.1 34 = .ok (.iload 4, 2) := by decide +kernel
theorem d_Way_stepFrom_36 : decode Y_Way_stepFrom.2.1 36 = .ok (.iadd, 1) := by decide +kernel
theorem d_Way_stepFrom_37 : decode Y_Way_stepFrom.2.1 37 = .ok (.iaload, 1) := by decide +kernel
theorem d_Way_stepFrom_38 : decode Y_Way_stepFrom.2.1 38 = .ok (.ldc 44, 2) := by decide +kernel
theorem d_Way_stepFrom_40 : decode Y_Way_stepFrom.2.1 40 = .ok (.if_icmp .eq 10, 3) := by decide +kernel
theorem d_Way_stepFrom_43 : decode Y_Way_stepFrom.2.1 43 = .ok (.iload_n 3, 1) := by decide +kernel
theorem d_Way_stepFrom_44 : decode Y_Way_stepFrom.2.1 44 = .ok (.iconst 1, 1) := by decide +kernel
theorem d_Way_stepFrom_45 : decode Y_Way_stepFrom.2.1 45 = .ok (.iload 4, 2) := by decide +kernel
theorem d_Way_stepFrom_47 : decode Y_Way_stepFrom.2.1 47 = .ok (.ishl, 1) := by decide +kernel
theorem d_Way_stepFrom_48 : decode Y_Way_stepFrom.2.1 48 = .ok (.ior, 1) := by decide +kernel
theorem d_Way_stepFrom_49 : decode Y_Way_stepFrom.2.1 49 = .ok (.istore_n 3, 1) := by decide +kernel
theorem d_Way_stepFrom_50 : decode Y_Way_stepFrom.2.1 50 = .ok (.iinc 4 1, 3) := by decide +kernel
theorem d_Way_stepFrom_53 : decode Y_Way_stepFrom.2.1 53 = .ok (.goto (-48), 3) := by decide +kernel
theorem d_Way_stepFrom_56 : decode Y_Way_stepFrom.2.1 56 = .ok (.iload_n 3, 1) := by decide +kernel
theorem d_Way_stepFrom_57 : decode Y_Way_stepFrom.2.1 57 = .ok (.ireturn, 1) := by decide +kernel
theorem d_Way_leads_0 : decode Y_Way_leads.2.1 0 = .ok (.iload_n 1, 1) := by decide +kernel
theorem d_Way_leads_1 : decode Y_Way_leads.2.1 1 = .ok (.iload_n 2, 1) := by decide +kernel
theorem d_Way_leads_2 : decode Y_Way_leads.2.1 2 = .ok (.if_icmp .eq 24, 3) := by decide +kernel
theorem d_Way_leads_5 : decode Y_Way_leads.2.1 5 = .ok (.iload_n 2, 1) := by decide +kernel
theorem d_Way_leads_6 : decode Y_Way_leads.2.1 6 = .ok (.ifCond .eq 20, 3) := by decide +kernel
theorem d_Way_leads_9 : decode Y_Way_leads.2.1 9 = .ok (.aload_n 0, 1) := by decide +kernel
theorem d_Way_leads_10 : decode Y_Way_leads.2.1 10 = .ok (.getfield 9, 3) := by decide +kernel
theorem d_Way_leads_13 : decode Y_Way_leads.2.1 13 = .ok (.iload_n 1, 1) := by decide +kernel
theorem d_Way_leads_14 : decode Y_Way_leads.2.1 14 = .ok (.iaload, 1) := by decide +kernel
theorem d_Way_leads_15 : decode Y_Way_leads.2.1 15 = .ok (.iconst 1, 1) := by decide +kernel
theorem d_Way_leads_16 : decode Y_Way_leads.2.1 16 = .ok (.iload_n 2, 1) := by decide +kernel
theorem d_Way_leads_17 : decode Y_Way_leads.2.1 17 = .ok (.ishl, 1) := by decide +kernel
theorem d_Way_leads_18 : decode Y_Way_leads.2.1 18 = .ok (.iand, 1) := by decide +kernel
theorem d_Way_leads_19 : decode Y_Way_leads.2.1 19 = .ok (.ifCond .ne 7, 3) := by decide +kernel
theorem d_Way_leads_22 : decode Y_Way_leads.2.1 22 = .ok (.iconst 1, 1) := by decide +kernel
theorem d_Way_leads_23 : decode Y_Way_leads.2.1 23 = .ok (.goto 4, 3) := by decide +kernel
theorem d_Way_leads_26 : decode Y_Way_leads.2.1 26 = .ok (.iconst 0, 1) := by decide +kernel
theorem d_Way_leads_27 : decode Y_Way_leads.2.1 27 = .ok (.ireturn, 1) := by decide +kernel
theorem d_Way_isNearest_0 : decode Y_Way_isNearest.2.1 0 = .ok (.iconst 0, 1) := by decide +kernel
theorem d_Way_isNearest_1 : decode Y_Way_isNearest.2.1 1 = .ok (.istore_n 3, 1) := by decide +kernel
theorem d_Way_isNearest_2 : decode Y_Way_isNearest.2.1 2 = .ok (.iload_n 3, 1) := by decide +kernel
theorem d_Way_isNearest_3 : decode Y_Way_isNearest.2.1 3 = .ok (.aload_n 0, 1) := by decide +kernel
theorem d_Way_isNearest_4 : decode Y_Way_isNearest.2.1 4 = .ok (.getfield 15, 3) := by decide +kernel
theorem d_Way_isNearest_7 : decode Y_Way_isNearest.2.1 7 = .ok (.getfield 24, 3) := by decide +kernel
theorem d_Way_isNearest_10 : decode Y_Way_isNearest.2.1 10 = .ok (.if_icmp .ge 34, 3) := by decide +kernel
theorem d_Way_isNearest_13 : decode Y_Way_isNearest.2.1 13 = .ok (.iload_n 3, 1) := by decide +kernel
theorem d_Way_isNearest_14 : decode Y_Way_isNearest.2.1 14 = .ok (.iload_n 1, 1) := by decide +kernel
theorem d_Way_isNearest_15 : decode Y_Way_isNearest.2.1 15 = .ok (.if_icmp .eq 23, 3) := by decide +kernel
theorem d_Way_isNearest_18 : decode Y_Way_isNearest.2.1 18 = .ok (.aload_n 0, 1) := by decide +kernel
theorem d_Way_isNearest_19 : decode Y_Way_isNearest.2.1 19 = .ok (.iload_n 3, 1) := by decide +kernel
theorem d_Way_isNearest_20 : decode Y_Way_isNearest.2.1 20 = .ok (.iload_n 2, 1) := by decide +kernel
theorem d_Way_isNearest_21 : decode Y_Way_isNearest.2.1 21 = .ok (.invokevirtual 30, 3) := by decide +kernel
theorem d_Way_isNearest_24 : decode Y_Way_isNearest.2.1 24 = .ok (.ifCond .eq 14, 3) := by decide +kernel
theorem d_Way_isNearest_27 : decode Y_Way_isNearest.2.1 27 = .ok (.aload_n 0, 1) := by decide +kernel
theorem d_Way_isNearest_28 : decode Y_Way_isNearest.2.1 28 = .ok (.iload_n 3, 1) := by decide +kernel
theorem d_Way_isNearest_29 : decode Y_Way_isNearest.2.1 29 = .ok (.iload_n 1, 1) := by decide +kernel
theorem d_Way_isNearest_30 : decode Y_Way_isNearest.2.1 30 = .ok (.invokevirtual 30, 3) := by decide +kernel
theorem d_Way_isNearest_33 : decode Y_Way_isNearest.2.1 33 = .ok (.ifCond .ne 5, 3) := by decide +kernel
theorem d_Way_isNearest_36 : decode Y_Way_isNearest.2.1 36 = .ok (.iconst 0, 1) := by decide +kernel
theorem d_Way_isNearest_37 : decode Y_Way_isNearest.2.1 37 = .ok (.ireturn, 1) := by decide +kernel
theorem d_Way_isNearest_38 : decode Y_Way_isNearest.2.1 38 = .ok (.iinc 3 1, 3) := by decide +kernel
theorem d_Way_isNearest_41 : decode Y_Way_isNearest.2.1 41 = .ok (.goto (-39), 3) := by decide +kernel
theorem d_Way_isNearest_44 : decode Y_Way_isNearest.2.1 44 = .ok (.iconst 1, 1) := by decide +kernel
theorem d_Way_isNearest_45 : decode Y_Way_isNearest.2.1 45 = .ok (.ireturn, 1) := by decide +kernel
theorem d_Row_append_0 : decode Y_Row_append.2.1 0 = .ok (.aload_n 0, 1) := by decide +kernel
theorem d_Row_append_1 : decode Y_Row_append.2.1 1 = .ok (.getfield 9, 3) := by decide +kernel
theorem d_Row_append_4 : decode Y_Row_append.2.1 4 = .ok (.aload_n 0, 1) := by decide +kernel
theorem d_Row_append_5 : decode Y_Row_append.2.1 5 = .ok (.getfield 18, 3) := by decide +kernel
theorem d_Row_append_8 : decode Y_Row_append.2.1 8 = .ok (.iload_n 1, 1) := by decide +kernel
theorem d_Row_append_9 : decode Y_Row_append.2.1 9 = .ok (.iastore, 1) := by decide +kernel
theorem d_Row_append_10 : decode Y_Row_append.2.1 10 = .ok (.aload_n 0, 1) := by decide +kernel
theorem d_Row_append_11 : decode Y_Row_append.2.1 11 = .ok (.dup, 1) := by decide +kernel
theorem d_Row_append_12 : decode Y_Row_append.2.1 12 = .ok (.getfield 18, 3) := by decide +kernel
theorem d_Row_append_15 : decode Y_Row_append.2.1 15 = .ok (.iconst 1, 1) := by decide +kernel
theorem d_Row_append_16 : decode Y_Row_append.2.1 16 = .ok (.iadd, 1) := by decide +kernel
theorem d_Row_append_17 : decode Y_Row_append.2.1 17 = .ok (.putfield 18, 3) := by decide +kernel
theorem d_Row_append_20 : decode Y_Row_append.2.1 20 = .ok (.aload_n 0, 1) := by decide +kernel
theorem d_Row_append_21 : decode Y_Row_append.2.1 21 = .ok (.getfield 18, 3) := by decide +kernel
theorem d_Row_append_24 : decode Y_Row_append.2.1 24 = .ok (.ireturn, 1) := by decide +kernel
theorem d_Row_cut_0 : decode Y_Row_cut.2.1 0 = .ok (.aload_n 0, 1) := by decide +kernel
theorem d_Row_cut_1 : decode Y_Row_cut.2.1 1 = .ok (.getfield 18, 3) := by decide +kernel
theorem d_Row_cut_4 : decode Y_Row_cut.2.1 4 = .ok (.istore_n 2, 1) := by decide +kernel
theorem d_Row_cut_5 : decode Y_Row_cut.2.1 5 = .ok (.aload_n 0, 1) := by decide +kernel
theorem d_Row_cut_6 : decode Y_Row_cut.2.1 6 = .ok (.iload_n 1, 1) := by decide +kernel
theorem d_Row_cut_7 : decode Y_Row_cut.2.1 7 = .ok (.putfield 18, 3) := by decide +kernel
theorem d_Row_cut_10 : decode Y_Row_cut.2.1 10 = .ok (.iload_n 2, 1) := by decide +kernel
theorem d_Row_cut_11 : decode Y_Row_cut.2.1 11 = .ok (.ireturn, 1) := by decide +kernel
theorem d_Row_cost_0 : decode Y_Row_cost.2.1 0 = .ok (.aload_n 0, 1) := by decide +kernel
theorem d_Row_cost_1 : decode Y_Row_cost.2.1 1 = .ok (.aload_n 0, 1) := by decide +kernel
theorem d_Row_cost_2 : decode Y_Row_cost.2.1 2 = .ok (.getfield 9, 3) := by decide +kernel
theorem d_Row_cost_5 : decode Y_Row_cost.2.1 5 = .ok (.aload_n 0, 1) := by decide +kernel
theorem d_Row_cost_6 : decode Y_Row_cost.2.1 6 = .ok (.getfield 18, 3) := by decide +kernel
theorem d_Row_cost_9 : decode Y_Row_cost.2.1 9 = .ok (.invokevirtual 26, 3) := by decide +kernel
theorem d_Row_cost_12 : decode Y_Row_cost.2.1 12 = .ok (.ireturn, 1) := by decide +kernel
theorem d_Row_planCost_0 : decode Y_Row_planCost.2.1 0 = .ok (.iconst 0, 1) := by decide +kernel
theorem d_Row_planCost_1 : decode Y_Row_planCost.2.1 1 = .ok (.istore_n 3, 1) := by decide +kernel
theorem d_Row_planCost_2 : decode Y_Row_planCost.2.1 2 = .ok (.iconst 0, 1) := by decide +kernel
theorem d_Row_planCost_3 : decode Y_Row_planCost.2.1 3 = .ok (.istore 4, 2) := by decide +kernel
theorem d_Row_planCost_5 : decode Y_Row_planCost.2.1 5 = .ok (.iconst 0, 1) := by decide +kernel
theorem d_Row_planCost_6 : decode Y_Row_planCost.2.1 6 = .ok (.istore 5, 2) := by decide +kernel
theorem d_Row_planCost_8 : decode Y_Row_planCost.2.1 8 = .ok (.iconst 0, 1) := by decide +kernel
theorem d_Row_planCost_9 : decode Y_Row_planCost.2.1 9 = .ok (.istore 6, 2) := by decide +kernel
theorem d_Row_planCost_11 : decode Y_Row_planCost.2.1 11 = .ok (.iconst 0, 1) := by decide +kernel
theorem d_Row_planCost_12 : decode Y_Row_planCost.2.1 12 = .ok (.istore 7, 2) := by decide +kernel
theorem d_Row_planCost_14 : decode Y_Row_planCost.2.1 14 = .ok (.iload 7, 2) := by decide +kernel
theorem d_Row_planCost_16 : decode Y_Row_planCost.2.1 16 = .ok (.iload_n 2, 1) := by decide +kernel
theorem d_Row_planCost_17 : decode Y_Row_planCost.2.1 17 = .ok (.if_icmp .ge 77, 3) := by decide +kernel
theorem d_Row_planCost_20 : decode Y_Row_planCost.2.1 20 = .ok (.aload_n 1, 1) := by decide +kernel
theorem d_Row_planCost_21 : decode Y_Row_planCost.2.1 21 = .ok (.iload 7, 2) := by decide +kernel
theorem d_Row_planCost_23 : decode Y_Row_planCost.2.1 23 = .ok (.iaload, 1) := by decide +kernel
theorem d_Row_planCost_24 : decode Y_Row_planCost.2.1 24 = .ok (.ifCond .eq 19, 3) := by decide +kernel
theorem d_Row_planCost_27 : decode Y_Row_planCost.2.1 27 = .ok (.iload 4, 2) := by decide +kernel
theorem d_Row_planCost_29 : decode Y_Row_planCost.2.1 29 = .ok (.aload_n 1, 1) := by decide +kernel
theorem d_Row_planCost_30 : decode Y_Row_planCost.2.1 30 = .ok (.iload 7, 2) := by decide +kernel
theorem d_Row_planCost_32 : decode Y_Row_planCost.2.1 32 = .ok (.iaload, 1) := by decide +kernel
theorem d_Row_planCost_33 : decode Y_Row_planCost.2.1 33 = .ok (.invokestatic 32, 3) := by decide +kernel
theorem d_Row_planCost_36 : decode Y_Row_planCost.2.1 36 = .ok (.iand, 1) := by decide +kernel
theorem d_Row_planCost_37 : decode Y_Row_planCost.2.1 37 = .ok (.ifCond .eq 6, 3) := by decide +kernel
theorem d_Row_planCost_40 : decode Y_Row_planCost.2.1 40 = .ok (.ldc 30, 2) := by decide +kernel
theorem d_Row_planCost_42 : decode Y_Row_planCost.2.1 42 = .ok (.ireturn, 1) := by decide +kernel
theorem d_Row_planCost_43 : decode Y_Row_planCost.2.1 43 = .ok (.aload_n 1, 1) := by decide +kernel
theorem d_Row_planCost_44 : decode Y_Row_planCost.2.1 44 = .ok (.iload 7, 2) := by decide +kernel
theorem d_Row_planCost_46 : decode Y_Row_planCost.2.1 46 = .ok (.iaload, 1) := by decide +kernel
theorem d_Row_planCost_47 : decode Y_Row_planCost.2.1 47 = .ok (.ifCond .eq 18, 3) := by decide +kernel
theorem d_Row_planCost_50 : decode Y_Row_planCost.2.1 50 = .ok (.iload 4, 2) := by decide +kernel
theorem d_Row_planCost_52 : decode Y_Row_planCost.2.1 52 = .ok (.aload_n 1, 1) := by decide +kernel
theorem d_Row_planCost_53 : decode Y_Row_planCost.2.1 53 = .ok (.iload 7, 2) := by decide +kernel
theorem d_Row_planCost_55 : decode Y_Row_planCost.2.1 55 = .ok (.iaload, 1) := by decide +kernel
theorem d_Row_planCost_56 : decode Y_Row_planCost.2.1 56 = .ok (.invokestatic 32, 3) := by decide +kernel
theorem d_Row_planCost_59 : decode Y_Row_planCost.2.1 59 = .ok (.ior, 1) := by decide +kernel
theorem d_Row_planCost_60 : decode Y_Row_planCost.2.1 60 = .ok (.istore 4, 2) := by decide +kernel
theorem d_Row_planCost_62 : decode Y_Row_planCost.2.1 62 = .ok (.goto 26, 3) := by decide +kernel
theorem d_Row_planCost_65 : decode Y_Row_planCost.2.1 65 = .ok (.iload_n 3, 1) := by decide +kernel
theorem d_Row_planCost_66 : decode Y_Row_planCost.2.1 66 = .ok (.aload_n 0, 1) := by decide +kernel
theorem d_Row_planCost_67 : decode Y_Row_planCost.2.1 67 = .ok (.aload_n 1, 1) := by decide +kernel
theorem d_Row_planCost_68 : decode Y_Row_planCost.2.1 68 = .ok (.iload 6, 2) := by decide +kernel
theorem d_Row_planCost_70 : decode Y_Row_planCost.2.1 70 = .ok (.iload 7, 2) := by decide +kernel
theorem d_Row_planCost_72 : decode Y_Row_planCost.2.1 72 = .ok (.invokevirtual 36, 3) := by decide +kernel
theorem d_Row_planCost_75 : decode Y_Row_planCost.2.1 75 = .ok (.invokestatic 40, 3) := by decide +kernel
theorem d_Row_planCost_78 : decode Y_Row_planCost.2.1 78 = .ok (.istore_n 3, 1) := by decide +kernel
theorem d_Row_planCost_79 : decode Y_Row_planCost.2.1 79 = .ok (.iinc 5 1, 3) := by decide +kernel
theorem d_Row_planCost_82 : decode Y_Row_planCost.2.1 82 = .ok (.iload 7, 2) := by decide +kernel
theorem d_Row_planCost_84 : decode Y_Row_planCost.2.1 84 = .ok (.iconst 1, 1) := by decide +kernel
theorem d_Row_planCost_85 : decode Y_Row_planCost.2.1 85 = .ok (.iadd, 1) := by decide +kernel
theorem d_Row_planCost_86 : decode Y_Row_planCost.2.1 86 = .ok (.istore 6, 2) := by decide +kernel
theorem d_Row_planCost_88 : decode Y_Row_planCost.2.1 88 = .ok (.iinc 7 1, 3) := by decide +kernel
theorem d_Row_planCost_91 : decode Y_Row_planCost.2.1 91 = .ok (.goto (-77), 3) := by decide +kernel
theorem d_Row_planCost_94 : decode Y_Row_planCost.2.1 94 = .ok (.iload_n 2, 1) := by decide +kernel
theorem d_Row_planCost_95 : decode Y_Row_planCost.2.1 95 = .ok (.ifCond .le 19, 3) := by decide +kernel
theorem d_Row_planCost_98 : decode Y_Row_planCost.2.1 98 = .ok (.iload_n 3, 1) := by decide +kernel
theorem d_Row_planCost_99 : decode Y_Row_planCost.2.1 99 = .ok (.aload_n 0, 1) := by decide +kernel
theorem d_Row_planCost_100 : decode Y_Row_planCost.2.1 100 = .ok (.aload_n 1, 1) := by decide +kernel
theorem d_Row_planCost_101 : decode Y_Row_planCost.2.1 101 = .ok (.iload 6, 2) := by decide +kernel
theorem d_Row_planCost_103 : decode Y_Row_planCost.2.1 103 = .ok (.iload_n 2, 1) := by decide +kernel
theorem d_Row_planCost_104 : decode Y_Row_planCost.2.1 104 = .ok (.invokevirtual 36, 3) := by decide +kernel
theorem d_Row_planCost_107 : decode Y_Row_planCost.2.1 107 = .ok (.invokestatic 40, 3) := by decide +kernel
theorem d_Row_planCost_110 : decode Y_Row_planCost.2.1 110 = .ok (.istore_n 3, 1) := by decide +kernel
theorem d_Row_planCost_111 : decode Y_Row_planCost.2.1 111 = .ok (.iinc 5 1, 3) := by decide +kernel
theorem d_Row_planCost_114 : decode Y_Row_planCost.2.1 114 = .ok (.iload 5, 2) := by decide +kernel
theorem d_Row_planCost_116 : decode Y_Row_planCost.2.1 116 = .ok (.aload_n 0, 1) := by decide +kernel
theorem d_Row_planCost_117 : decode Y_Row_planCost.2.1 117 = .ok (.getfield 22, 3) := by decide +kernel
theorem d_Row_planCost_120 : decode Y_Row_planCost.2.1 120 = .ok (.getfield 44, 3) := by decide +kernel
theorem d_Row_planCost_123 : decode Y_Row_planCost.2.1 123 = .ok (.if_icmp .le 8, 3) := by decide +kernel
theorem d_Row_planCost_126 : decode Y_Row_planCost.2.1 126 = .ok (.ldc 30, 2) := by decide +kernel
theorem d_Row_planCost_128 : decode Y_Row_planCost.2.1 128 = .ok (.goto 26, 3) := by decide +kernel
theorem d_Row_planCost_131 : decode Y_Row_planCost.2.1 131 = .ok (.iload_n 3, 1) := by decide +kernel
theorem d_Row_planCost_132 : decode Y_Row_planCost.2.1 132 = .ok (.aload_n 0, 1) := by decide +kernel
theorem d_Row_planCost_133 : decode Y_Row_planCost.2.1 133 = .ok (.getfield 22, 3) := by decide +kernel
theorem d_Row_planCost_136 : decode Y_Row_planCost.2.1 136 = .ok (.aload_n 0, 1) := by decide +kernel
theorem d_Row_planCost_137 : decode Y_Row_planCost.2.1 137 = .ok (.getfield 22, 3) := by decide +kernel
theorem d_Row_planCost_140 : decode Y_Row_planCost.2.1 140 = .ok (.invokevirtual 49, 3) := by decide +kernel
theorem d_Row_planCost_143 : decode Y_Row_planCost.2.1 143 = .ok (.iload 4, 2) := by decide +kernel
theorem d_Row_planCost_145 : decode Y_Row_planCost.2.1 145 = .ok (.iconst (-1), 1) := by decide +kernel
theorem d_Row_planCost_146 : decode Y_Row_planCost.2.1 146 = .ok (.ixor, 1) := by decide +kernel
theorem d_Row_planCost_147 : decode Y_Row_planCost.2.1 147 = .ok (.iand, 1) := by decide +kernel
theorem d_Row_planCost_148 : decode Y_Row_planCost.2.1 148 = .ok (.invokevirtual 53, 3) := by decide +kernel
theorem d_Row_planCost_151 : decode Y_Row_planCost.2.1 151 = .ok (.invokestatic 40, 3) := by decide +kernel
theorem d_Row_planCost_154 : decode Y_Row_planCost.2.1 154 = .ok (.ireturn, 1) := by decide +kernel
theorem d_Row_roundCost_0 : decode Y_Row_roundCost.2.1 0 = .ok (.iconst 0, 1) := by decide +kernel
theorem d_Row_roundCost_1 : decode Y_Row_roundCost.2.1 1 = .ok (.istore 4, 2) := by decide +kernel
theorem d_Row_roundCost_3 : decode Y_Row_roundCost.2.1 3 = .ok (.iconst 0, 1) := by decide +kernel
theorem d_Row_roundCost_4 : decode Y_Row_roundCost.2.1 4 = .ok (.istore 5, 2) := by decide +kernel
theorem d_Row_roundCost_6 : decode Y_Row_roundCost.2.1 6 = .ok (.iconst 0, 1) := by decide +kernel
theorem d_Row_roundCost_7 : decode Y_Row_roundCost.2.1 7 = .ok (.istore 6, 2) := by decide +kernel
theorem d_Row_roundCost_9 : decode Y_Row_roundCost.2.1 9 = .ok (.iconst 0, 1) := by decide +kernel
theorem d_Row_roundCost_10 : decode Y_Row_roundCost.2.1 10 = .ok (.istore 7, 2) := by decide +kernel
theorem d_Row_roundCost_12 : decode Y_Row_roundCost.2.1 12 = .ok (.iload_n 2, 1) := by decide +kernel
theorem d_Row_roundCost_13 : decode Y_Row_roundCost.2.1 13 = .ok (.istore 8, 2) := by decide +kernel
theorem d_Row_roundCost_15 : decode Y_Row_roundCost.2.1 15 = .ok (.iload 8, 2) := by decide +kernel
theorem d_Row_roundCost_17 : decode Y_Row_roundCost.2.1 17 = .ok (.iload_n 3, 1) := by decide +kernel
theorem d_Row_roundCost_18 : decode Y_Row_roundCost.2.1 18 = .ok (.if_icmp .ge 88, 3) := by decide +kernel
theorem d_Row_roundCost_21 : decode Y_Row_roundCost.2.1 21 = .ok (.aload_n 1, 1) := by decide +kernel
theorem d_Row_roundCost_22 : decode Y_Row_roundCost.2.1 22 = .ok (.iload 8, 2) := by decide +kernel
theorem d_Row_roundCost_24 : decode Y_Row_roundCost.2.1 24 = .ok (.iaload, 1) := by decide +kernel
theorem d_Row_roundCost_25 : decode Y_Row_roundCost.2.1 25 = .ok (.istore 9, 2) := by decide +kernel
theorem d_Row_roundCost_27 : decode Y_Row_roundCost.2.1 27 = .ok (.aload_n 0, 1) := by decide +kernel
theorem d_Row_roundCost_28 : decode Y_Row_roundCost.2.1 28 = .ok (.getfield 22, 3) := by decide +kernel
theorem d_Row_roundCost_31 : decode Y_Row_roundCost.2.1 31 = .ok (.getfield 56, 3) := by decide +kernel
theorem d_Row_roundCost_34 : decode Y_Row_roundCost.2.1 34 = .ok (.iload 9, 2) := by decide +kernel
theorem d_Row_roundCost_36 : decode Y_Row_roundCost.2.1 36 = .ok (.iaload, 1) := by decide +kernel
theorem d_Row_roundCost_37 : decode Y_Row_roundCost.2.1 37 = .ok (.iload 5, 2) := by decide +kernel
theorem d_Row_roundCost_39 : decode Y_Row_roundCost.2.1 39 = .ok (.iconst (-1), 1) := by decide +kernel
theorem d_Row_roundCost_40 : decode Y_Row_roundCost.2.1 40 = .ok (.ixor, 1) := by decide +kernel
theorem d_Row_roundCost_41 : decode Y_Row_roundCost.2.1 41 = .ok (.iand, 1) := by decide +kernel
theorem d_Row_roundCost_42 : decode Y_Row_roundCost.2.1 42 = .ok (.ifCond .eq 6, 3) := by decide +kernel
theorem d_Row_roundCost_45 : decode Y_Row_roundCost.2.1 45 = .ok (.ldc 30, 2) := by decide +kernel
theorem d_Row_roundCost_47 : decode Y_Row_roundCost.2.1 47 = .ok (.ireturn, 1) := by decide +kernel
theorem d_Row_roundCost_48 : decode Y_Row_roundCost.2.1 48 = .ok (.iload 4, 2) := by decide +kernel
theorem d_Row_roundCost_50 : decode Y_Row_roundCost.2.1 50 = .ok (.aload_n 0, 1) := by decide +kernel
theorem d_Row_roundCost_51 : decode Y_Row_roundCost.2.1 51 = .ok (.getfield 22, 3) := by decide +kernel
theorem d_Row_roundCost_54 : decode Y_Row_roundCost.2.1 54 = .ok (.getfield 59, 3) := by decide +kernel
theorem d_Row_roundCost_57 : decode Y_Row_roundCost.2.1 57 = .ok (.iload 7, 2) := by decide +kernel
theorem d_Row_roundCost_59 : decode Y_Row_roundCost.2.1 59 = .ok (.bipush 9, 2) := by decide +kernel
theorem d_Row_roundCost_61 : decode Y_Row_roundCost.2.1 61 = .ok (.imul, 1) := by decide +kernel
theorem d_Row_roundCost_62 : decode Y_Row_roundCost.2.1 62 = .ok (.iload 9, 2) := by decide +kernel
theorem d_Row_roundCost_64 : decode Y_Row_roundCost.2.1 64 = .ok (.iadd, 1) := by decide +kernel
theorem d_Row_roundCost_65 : decode Y_Row_roundCost.2.1 65 = .ok (.iaload, 1) := by decide +kernel
theorem d_Row_roundCost_66 : decode Y_Row_roundCost.2.1 66 = .ok (.invokestatic 40, 3) := by decide +kernel
theorem d_Row_roundCost_69 : decode Y_Row_roundCost.2.1 69 = .ok (.istore 4, 2) := by decide +kernel
theorem d_Row_roundCost_71 : decode Y_Row_roundCost.2.1 71 = .ok (.iload 5, 2) := by decide +kernel
theorem d_Row_roundCost_73 : decode Y_Row_roundCost.2.1 73 = .ok (.iload 9, 2) := by decide +kernel
theorem d_Row_roundCost_75 : decode Y_Row_roundCost.2.1 75 = .ok (.invokestatic 32, 3) := by decide +kernel
theorem d_Row_roundCost_78 : decode Y_Row_roundCost.2.1 78 = .ok (.ior, 1) := by decide +kernel
theorem d_Row_roundCost_79 : decode Y_Row_roundCost.2.1 79 = .ok (.istore 5, 2) := by decide +kernel
theorem d_Row_roundCost_81 : decode Y_Row_roundCost.2.1 81 = .ok (.iload 6, 2) := by decide +kernel
theorem d_Row_roundCost_83 : decode Y_Row_roundCost.2.1 83 = .ok (.aload_n 0, 1) := by decide +kernel
theorem d_Row_roundCost_84 : decode Y_Row_roundCost.2.1 84 = .ok (.getfield 22, 3) := by decide +kernel
theorem d_Row_roundCost_87 : decode Y_Row_roundCost.2.1 87 = .ok (.getfield 62, 3) := by decide +kernel
theorem d_Row_roundCost_90 : decode Y_Row_roundCost.2.1 90 = .ok (.iload 9, 2) := by decide +kernel
theorem d_Row_roundCost_92 : decode Y_Row_roundCost.2.1 92 = .ok (.iaload, 1) := by decide +kernel
theorem d_Row_roundCost_93 : decode Y_Row_roundCost.2.1 93 = .ok (.iadd, 1) := by decide +kernel
theorem d_Row_roundCost_94 : decode Y_Row_roundCost.2.1 94 = .ok (.istore 6, 2) := by decide +kernel
theorem d_Row_roundCost_96 : decode Y_Row_roundCost.2.1 96 = .ok (.iload 9, 2) := by decide +kernel
theorem d_Row_roundCost_98 : decode Y_Row_roundCost.2.1 98 = .ok (.istore 7, 2) := by decide +kernel
theorem d_Row_roundCost_100 : decode Y_Row_roundCost.2.1 100 = .ok (.iinc 8 1, 3) := by decide +kernel
theorem d_Row_roundCost_103 : decode Y_Row_roundCost.2.1 103 = .ok (.goto (-88), 3) := by decide +kernel
theorem d_Row_roundCost_106 : decode Y_Row_roundCost.2.1 106 = .ok (.iload 5, 2) := by decide +kernel
theorem d_Row_roundCost_108 : decode Y_Row_roundCost.2.1 108 = .ok (.ifCond .eq 15, 3) := by decide +kernel
theorem d_Row_roundCost_111 : decode Y_Row_roundCost.2.1 111 = .ok (.iload 6, 2) := by decide +kernel
theorem d_Row_roundCost_113 : decode Y_Row_roundCost.2.1 113 = .ok (.aload_n 0, 1) := by decide +kernel
theorem d_Row_roundCost_114 : decode Y_Row_roundCost.2.1 114 = .ok (.getfield 22, 3) := by decide +kernel
theorem d_Row_roundCost_117 : decode Y_Row_roundCost.2.1 117 = .ok (.getfield 65, 3) := by decide +kernel
theorem d_Row_roundCost_120 : decode Y_Row_roundCost.2.1 120 = .ok (.if_icmp .le 8, 3) := by decide +kernel
theorem d_Row_roundCost_123 : decode Y_Row_roundCost.2.1 123 = .ok (.ldc 30, 2) := by decide +kernel
theorem d_Row_roundCost_125 : decode Y_Row_roundCost.2.1 125 = .ok (.goto 17, 3) := by decide +kernel
theorem d_Row_roundCost_128 : decode Y_Row_roundCost.2.1 128 = .ok (.iload 4, 2) := by decide +kernel
theorem d_Row_roundCost_130 : decode Y_Row_roundCost.2.1 130 = .ok (.aload_n 0, 1) := by decide +kernel
theorem d_Row_roundCost_131 : decode Y_Row_roundCost.2.1 131 = .ok (.getfield 22, 3) := by decide +kernel
theorem d_Row_roundCost_134 : decode Y_Row_roundCost.2.1 134 = .ok (.iload 7, 2) := by decide +kernel
theorem d_Row_roundCost_136 : decode Y_Row_roundCost.2.1 136 = .ok (.invokevirtual 68, 3) := by decide +kernel
theorem d_Row_roundCost_139 : decode Y_Row_roundCost.2.1 139 = .ok (.invokestatic 40, 3) := by decide +kernel
theorem d_Row_roundCost_142 : decode Y_Row_roundCost.2.1 142 = .ok (.ireturn, 1) := by decide +kernel
theorem d_Row_cheapestPlace_0 : decode Y_Row_cheapestPlace.2.1 0 = .ok (.ldc 30, 2) := by decide +kernel
theorem d_Row_cheapestPlace_2 : decode Y_Row_cheapestPlace.2.1 2 = .ok (.istore_n 2, 1) := by decide +kernel
theorem d_Row_cheapestPlace_3 : decode Y_Row_cheapestPlace.2.1 3 = .ok (.ldc 31, 2) := by decide +kernel
theorem d_Row_cheapestPlace_5 : decode Y_Row_cheapestPlace.2.1 5 = .ok (.istore_n 3, 1) := by decide +kernel
theorem d_Row_cheapestPlace_6 : decode Y_Row_cheapestPlace.2.1 6 = .ok (.iconst 0, 1) := by decide +kernel
theorem d_Row_cheapestPlace_7 : decode Y_Row_cheapestPlace.2.1 7 = .ok (.istore 4, 2) := by decide +kernel
theorem d_Row_cheapestPlace_9 : decode Y_Row_cheapestPlace.2.1 9 = .ok (.iload 4, 2) := by decide +kernel
theorem d_Row_cheapestPlace_11 : decode Y_Row_cheapestPlace.2.1 11 = .ok (.aload_n 0, 1) := by decide +kernel
theorem d_Row_cheapestPlace_12 : decode Y_Row_cheapestPlace.2.1 12 = .ok (.getfield 18, 3) := by decide +kernel
theorem d_Row_cheapestPlace_15 : decode Y_Row_cheapestPlace.2.1 15 = .ok (.if_icmp .gt 91, 3) := by decide +kernel
theorem d_Row_cheapestPlace_18 : decode Y_Row_cheapestPlace.2.1 18 = .ok (.iconst 0, 1) := by decide +kernel
theorem d_Row_cheapestPlace_19 : decode Y_Row_cheapestPlace.2.1 19 = .ok (.istore 5, 2) := by decide +kernel
theorem d_Row_cheapestPlace_21 : decode Y_Row_cheapestPlace.2.1 21 = .ok (.iload 5, 2) := by decide +kernel
theorem d_Row_cheapestPlace_23 : decode Y_Row_cheapestPlace.2.1 23 = .ok (.aload_n 0, 1) := by decide +kernel
theorem d_Row_cheapestPlace_24 : decode Y_Row_cheapestPlace.2.1 24 = .ok (.getfield 18, 3) := by decide +kernel
theorem d_Row_cheapestPlace_27 : decode Y_Row_cheapestPlace.2.1 27 = .ok (.if_icmp .ge 37, 3) := by decide +kernel
theorem d_Row_cheapestPlace_30 : decode Y_Row_cheapestPlace.2.1 30 = .ok (.aload_n 0, 1) := by decide +kernel
theorem d_Row_cheapestPlace_31 : decode Y_Row_cheapestPlace.2.1 31 = .ok (.getfield 15, 3) := by decide +kernel
theorem d_Row_cheapestPlace_34 : decode Y_Row_cheapestPlace.2.1 34 = .ok (.iload 5, 2) := by decide +kernel
theorem d_Row_cheapestPlace_36 : decode Y_Row_cheapestPlace.2.1 36 = .ok (.iload 4, 2) := by decide +kernel
theorem d_Row_cheapestPlace_38 : decode Y_Row_cheapestPlace.2.1 38 = .ok (.if_icmp .ge 8, 3) := by decide +kernel
theorem d_Row_cheapestPlace_41 : decode Y_Row_cheapestPlace.2.1 41 = .ok (.iload 5, 2) := by decide +kernel
theorem d_Row_cheapestPlace_43 : decode Y_Row_cheapestPlace.2.1 43 = .ok (.goto 7, 3) := by decide +kernel
theorem d_Row_cheapestPlace_46 : decode Y_Row_cheapestPlace.2.1 46 = .ok (.iload 5, 2) := by decide +kernel
theorem d_Row_cheapestPlace_48 : decode Y_Row_cheapestPlace.2.1 48 = .ok (.iconst 1, 1) := by decide +kernel
theorem d_Row_cheapestPlace_49 : decode Y_Row_cheapestPlace.2.1 49 = .ok (.iadd, 1) := by decide +kernel
theorem d_Row_cheapestPlace_50 : decode Y_Row_cheapestPlace.2.1 50 = .ok (.aload_n 0, 1) := by decide +kernel
theorem d_Row_cheapestPlace_51 : decode Y_Row_cheapestPlace.2.1 51 = .ok (.getfield 9, 3) := by decide +kernel
theorem d_Row_cheapestPlace_54 : decode Y_Row_cheapestPlace.2.1 54 = .ok (.iload 5, 2) := by decide +kernel
theorem d_Row_cheapestPlace_56 : decode Y_Row_cheapestPlace.2.1 56 = .ok (.iaload, 1) := by decide +kernel
theorem d_Row_cheapestPlace_57 : decode Y_Row_cheapestPlace.2.1 57 = .ok (.iastore, 1) := by decide +kernel
theorem d_Row_cheapestPlace_58 : decode Y_Row_cheapestPlace.2.1 58 = .ok (.iinc 5 1, 3) := by decide +kernel
theorem d_Row_cheapestPlace_61 : decode Y_Row_cheapestPlace.2.1 61 = .ok (.goto (-40), 3) := by decide +kernel
theorem d_Row_cheapestPlace_64 : decode Y_Row_cheapestPlace.2.1 64 = .ok (.aload_n 0, 1) := by decide +kernel
theorem d_Row_cheapestPlace_65 : decode Y_Row_cheapestPlace.2.1 65 = .ok (.getfield 15, 3) := by decide +kernel
theorem d_Row_cheapestPlace_68 : decode Y_Row_cheapestPlace.2.1 68 = .ok (.iload 4, 2) := by decide +kernel
theorem d_Row_cheapestPlace_70 : decode Y_Row_cheapestPlace.2.1 70 = .ok (.iload_n 1, 1) := by decide +kernel
theorem d_Row_cheapestPlace_71 : decode Y_Row_cheapestPlace.2.1 71 = .ok (.iastore, 1) := by decide +kernel
theorem d_Row_cheapestPlace_72 : decode Y_Row_cheapestPlace.2.1 72 = .ok (.aload_n 0, 1) := by decide +kernel
theorem d_Row_cheapestPlace_73 : decode Y_Row_cheapestPlace.2.1 73 = .ok (.aload_n 0, 1) := by decide +kernel
theorem d_Row_cheapestPlace_74 : decode Y_Row_cheapestPlace.2.1 74 = .ok (.getfield 15, 3) := by decide +kernel
theorem d_Row_cheapestPlace_77 : decode Y_Row_cheapestPlace.2.1 77 = .ok (.aload_n 0, 1) := by decide +kernel
theorem d_Row_cheapestPlace_78 : decode Y_Row_cheapestPlace.2.1 78 = .ok (.getfield 18, 3) := by decide +kernel
theorem d_Row_cheapestPlace_81 : decode Y_Row_cheapestPlace.2.1 81 = .ok (.iconst 1, 1) := by decide +kernel
theorem d_Row_cheapestPlace_82 : decode Y_Row_cheapestPlace.2.1 82 = .ok (.iadd, 1) := by decide +kernel
theorem d_Row_cheapestPlace_83 : decode Y_Row_cheapestPlace.2.1 83 = .ok (.invokevirtual 26, 3) := by decide +kernel
theorem d_Row_cheapestPlace_86 : decode Y_Row_cheapestPlace.2.1 86 = .ok (.istore 5, 2) := by decide +kernel
theorem d_Row_cheapestPlace_88 : decode Y_Row_cheapestPlace.2.1 88 = .ok (.iload 5, 2) := by decide +kernel
theorem d_Row_cheapestPlace_90 : decode Y_Row_cheapestPlace.2.1 90 = .ok (.iload_n 2, 1) := by decide +kernel
theorem d_Row_cheapestPlace_91 : decode Y_Row_cheapestPlace.2.1 91 = .ok (.if_icmp .ge 9, 3) := by decide +kernel
theorem d_Row_cheapestPlace_94 : decode Y_Row_cheapestPlace.2.1 94 = .ok (.iload 5, 2) := by decide +kernel
theorem d_Row_cheapestPlace_96 : decode Y_Row_cheapestPlace.2.1 96 = .ok (.istore_n 2, 1) := by decide +kernel
theorem d_Row_cheapestPlace_97 : decode Y_Row_cheapestPlace.2.1 97 = .ok (.iload 4, 2) := by decide +kernel
theorem d_Row_cheapestPlace_99 : decode Y_Row_cheapestPlace.2.1 99 = .ok (.istore_n 3, 1) := by decide +kernel
theorem d_Row_cheapestPlace_100 : decode Y_Row_cheapestPlace.2.1 100 = .ok (.iinc 4 1, 3) := by decide +kernel
theorem d_Row_cheapestPlace_103 : decode Y_Row_cheapestPlace.2.1 103 = .ok (.goto (-94), 3) := by decide +kernel
theorem d_Row_cheapestPlace_106 : decode Y_Row_cheapestPlace.2.1 106 = .ok (.iload_n 3, 1) := by decide +kernel
theorem d_Row_cheapestPlace_107 : decode Y_Row_cheapestPlace.2.1 107 = .ok (.ireturn, 1) := by decide +kernel
theorem d_Net_arcs_0 : decode Y_Net_arcs.2.1 0 = .ok (.iconst 0, 1) := by decide +kernel
theorem d_Net_arcs_1 : decode Y_Net_arcs.2.1 1 = .ok (.istore_n 1, 1) := by decide +kernel
theorem d_Net_arcs_2 : decode Y_Net_arcs.2.1 2 = .ok (.iconst 0, 1) := by decide +kernel
theorem d_Net_arcs_3 : decode Y_Net_arcs.2.1 3 = .ok (.istore_n 2, 1) := by decide +kernel
theorem d_Net_arcs_4 : decode Y_Net_arcs.2.1 4 = .ok (.iload_n 2, 1) := by decide +kernel
theorem d_Net_arcs_5 : decode Y_Net_arcs.2.1 5 = .ok (.aload_n 0, 1) := by decide +kernel
theorem d_Net_arcs_6 : decode Y_Net_arcs.2.1 6 = .ok (.getfield 15, 3) := by decide +kernel
theorem d_Net_arcs_9 : decode Y_Net_arcs.2.1 9 = .ok (.arraylength, 1) := by decide +kernel
theorem d_Net_arcs_10 : decode Y_Net_arcs.2.1 10 = .ok (.if_icmp .ge 23, 3) := by decide +kernel
theorem d_Net_arcs_13 : decode Y_Net_arcs.2.1 13 = .ok (.aload_n 0, 1) := by decide +kernel
theorem d_Net_arcs_14 : decode Y_Net_arcs.2.1 14 = .ok (.getfield 15, 3) := by decide +kernel
theorem d_Net_arcs_17 : decode Y_Net_arcs.2.1 17 = .ok (.iload_n 2, 1) := by decide +kernel
theorem d_Net_arcs_18 : decode Y_Net_arcs.2.1 18 = .ok (.iaload, 1) := by decide +kernel
theorem d_Net_arcs_19 : decode Y_Net_arcs.2.1 19 = .ok (.ldc 40, 2) := by decide +kernel
theorem d_Net_arcs_21 : decode Y_Net_arcs.2.1 21 = .ok (.if_icmp .eq 6, 3) := by decide +kernel
theorem d_Net_arcs_24 : decode Y_Net_arcs.2.1 24 = .ok (.iinc 1 1, 3) := by decide +kernel
theorem d_Net_arcs_27 : decode Y_Net_arcs.2.1 27 = .ok (.iinc 2 1, 3) := by decide +kernel
theorem d_Net_arcs_30 : decode Y_Net_arcs.2.1 30 = .ok (.goto (-26), 3) := by decide +kernel
theorem d_Net_arcs_33 : decode Y_Net_arcs.2.1 33 = .ok (.iload_n 1, 1) := by decide +kernel
theorem d_Net_arcs_34 : decode Y_Net_arcs.2.1 34 = .ok (.ireturn, 1) := by decide +kernel
theorem d_Net_pairsAhead_0 : decode Y_Net_pairsAhead.2.1 0 = .ok (.iconst 0, 1) := by decide +kernel
theorem d_Net_pairsAhead_1 : decode Y_Net_pairsAhead.2.1 1 = .ok (.istore_n 1, 1) := by decide +kernel
theorem d_Net_pairsAhead_2 : decode Y_Net_pairsAhead.2.1 2 = .ok (.iconst 1, 1) := by decide +kernel
theorem d_Net_pairsAhead_3 : decode Y_Net_pairsAhead.2.1 3 = .ok (.istore_n 2, 1) := by decide +kernel
theorem d_Net_pairsAhead_4 : decode Y_Net_pairsAhead.2.1 4 = .ok (.iload_n 2, 1) := by decide +kernel
theorem d_Net_pairsAhead_5 : decode Y_Net_pairsAhead.2.1 5 = .ok (.aload_n 0, 1) := by decide +kernel
theorem d_Net_pairsAhead_6 : decode Y_Net_pairsAhead.2.1 6 = .ok (.getfield 24, 3) := by decide +kernel
theorem d_Net_pairsAhead_9 : decode Y_Net_pairsAhead.2.1 9 = .ok (.if_icmp .ge 21, 3) := by decide +kernel
theorem d_Net_pairsAhead_12 : decode Y_Net_pairsAhead.2.1 12 = .ok (.iload_n 1, 1) := by decide +kernel
theorem d_Net_pairsAhead_13 : decode Y_Net_pairsAhead.2.1 13 = .ok (.aload_n 0, 1) := by decide +kernel
theorem d_Net_pairsAhead_14 : decode Y_Net_pairsAhead.2.1 14 = .ok (.getfield 21, 3) := by decide +kernel
theorem d_Net_pairsAhead_17 : decode Y_Net_pairsAhead.2.1 17 = .ok (.iload_n 2, 1) := by decide +kernel
theorem d_Net_pairsAhead_18 : decode Y_Net_pairsAhead.2.1 18 = .ok (.iaload, 1) := by decide +kernel
theorem d_Net_pairsAhead_19 : decode Y_Net_pairsAhead.2.1 19 = .ok (.invokestatic 49, 3) := by decide +kernel
theorem d_Net_pairsAhead_22 : decode Y_Net_pairsAhead.2.1 22 = .ok (.iadd, 1) := by decide +kernel
theorem d_Net_pairsAhead_23 : decode Y_Net_pairsAhead.2.1 23 = .ok (.istore_n 1, 1) := by decide +kernel
theorem d_Net_pairsAhead_24 : decode Y_Net_pairsAhead.2.1 24 = .ok (.iinc 2 1, 3) := by decide +kernel
theorem d_Net_pairsAhead_27 : decode Y_Net_pairsAhead.2.1 27 = .ok (.goto (-23), 3) := by decide +kernel
theorem d_Net_pairsAhead_30 : decode Y_Net_pairsAhead.2.1 30 = .ok (.iload_n 1, 1) := by decide +kernel
theorem d_Net_pairsAhead_31 : decode Y_Net_pairsAhead.2.1 31 = .ok (.ireturn, 1) := by decide +kernel
