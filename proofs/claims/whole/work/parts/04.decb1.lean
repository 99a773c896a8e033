theorem d_Net_costBack_9 : decode Y_Net_costBack.2.1 9 = .ok (.goto 12, 3) := by decide +kernel
theorem d_Net_costBack_12 : decode Y_Net_costBack.2.1 12 = .ok (.aload_n 0, 1) := by decide +kernel
theorem d_Net_costBack_13 : decode Y_Net_costBack.2.1 13 = .ok (.getfield 15, 3) := by decide +kernel
theorem d_Net_costBack_16 : decode Y_Net_costBack.2.1 16 = .ok (.iload_n 1, 1) := by decide +kernel
theorem d_Net_costBack_17 : decode Y_Net_costBack.2.1 17 = .ok (.bipush 9, 2) := by decide +kernel
theorem d_Net_costBack_19 : decode Y_Net_costBack.2.1 19 = .ok (.imul, 1) := by decide +kernel
theorem d_Net_costBack_20 : decode Y_Net_costBack.2.1 20 = .ok (.iaload, 1) := by decide +kernel
theorem d_Net_costBack_21 : decode Y_Net_costBack.2.1 21 = .ok (.ireturn, 1) := by decide +kernel
theorem d_Net_costOut_0 : decode Y_Net_costOut.2.1 0 = .ok (.iconst 0, 1) := by decide +kernel
theorem d_Net_costOut_1 : decode Y_Net_costOut.2.1 1 = .ok (.istore_n 2, 1) := by decide +kernel
theorem d_Net_costOut_2 : decode Y_Net_costOut.2.1 2 = .ok (.iconst 1, 1) := by decide +kernel
theorem d_Net_costOut_3 : decode Y_Net_costOut.2.1 3 = .ok (.istore_n 3, 1) := by decide +kernel
theorem d_Net_costOut_4 : decode Y_Net_costOut.2.1 4 = .ok (.iload_n 3, 1) := by decide +kernel
theorem d_Net_costOut_5 : decode Y_Net_costOut.2.1 5 = .ok (.aload_n 0, 1) := by decide +kernel
theorem d_Net_costOut_6 : decode Y_Net_costOut.2.1 6 = .ok (.getfield 24, 3) := by decide +kernel
theorem d_Net_costOut_9 : decode Y_Net_costOut.2.1 9 = .ok (.if_icmp .ge 43, 3) := by decide +kernel
theorem d_Net_costOut_12 : decode Y_Net_costOut.2.1 12 = .ok (.iload_n 1, 1) := by decide +kernel
theorem d_Net_costOut_13 : decode Y_Net_costOut.2.1 13 = .ok (.iload_n 3, 1) := by decide +kernel
theorem d_Net_costOut_14 : decode Y_Net_costOut.2.1 14 = .ok (.invokestatic 45, 3) := by decide +kernel
theorem d_Net_costOut_17 : decode Y_Net_costOut.2.1 17 = .ok (.iand, 1) := by decide +kernel
theorem d_Net_costOut_18 : decode Y_Net_costOut.2.1 18 = .ok (.ifCond .eq 28, 3) := by decide +kernel
theorem d_Net_costOut_21 : decode Y_Net_costOut.2.1 21 = .ok (.iload_n 2, 1) := by decide +kernel
theorem d_Net_costOut_22 : decode Y_Net_costOut.2.1 22 = .ok (.aload_n 0, 1) := by decide +kernel
theorem d_Net_costOut_23 : decode Y_Net_costOut.2.1 23 = .ok (.getfield 18, 3) := by decide +kernel
theorem d_Net_costOut_26 : decode Y_Net_costOut.2.1 26 = .ok (.iload_n 3, 1) := by decide +kernel
theorem d_Net_costOut_27 : decode Y_Net_costOut.2.1 27 = .ok (.iaload, 1) := by decide +kernel
theorem d_Net_costOut_28 : decode Y_Net_costOut.2.1 28 = .ok (.ifCond .ge 8, 3) := by decide +kernel
theorem d_Net_costOut_31 : decode Y_Net_costOut.2.1 31 = .ok (.ldc 40, 2) := by decide +kernel
theorem d_Net_costOut_33 : decode Y_Net_costOut.2.1 33 = .ok (.goto 9, 3) := by decide +kernel
theorem d_Net_costOut_36 : decode Y_Net_costOut.2.1 36 = .ok (.aload_n 0, 1) := by decide +kernel
theorem d_Net_costOut_37 : decode Y_Net_costOut.2.1 37 = .ok (.getfield 18, 3) := by decide +kernel
theorem d_Net_costOut_40 : decode Y_Net_costOut.2.1 40 = .ok (.iload_n 3, 1) := by decide +kernel
theorem d_Net_costOut_41 : decode Y_Net_costOut.2.1 41 = .ok (.iaload, 1) := by decide +kernel
theorem d_Net_costOut_42 : decode Y_Net_costOut.2.1 42 = .ok (.invokestatic 54, 3) := by decide +kernel
theorem d_Net_costOut_45 : decode Y_Net_costOut.2.1 45 = .ok (.istore_n 2, 1) := by decide +kernel
theorem d_Net_costOut_46 : decode Y_Net_costOut.2.1 46 = .ok (.iinc 3 1, 3) := by decide +kernel
theorem d_Net_costOut_49 : decode Y_Net_costOut.2.1 49 = .ok (.goto (-45), 3) := by decide +kernel
theorem d_Net_costOut_52 : decode Y_Net_costOut.2.1 52 = .ok (.iload_n 2, 1) := by decide +kernel
theorem d_Net_costOut_53 : decode Y_Net_costOut.2.1 53 = .ok (.ireturn, 1) := by decide +kernel
theorem d_JI_bitCount_0 : decode Y_JI_bitCount.2.1 0 = .ok (.iload_n 0, 1) := by decide +kernel
theorem d_JI_bitCount_1 : decode Y_JI_bitCount.2.1 1 = .ok (.iload_n 0, 1) := by decide +kernel
theorem d_JI_bitCount_2 : decode Y_JI_bitCount.2.1 2 = .ok (.iconst 1, 1) := by decide +kernel
theorem d_JI_bitCount_3 : decode Y_JI_bitCount.2.1 3 = .ok (.iushr, 1) := by decide +kernel
theorem d_JI_bitCount_4 : decode Y_JI_bitCount.2.1 4 = .ok (.ldc_w 265, 3) := by decide +kernel
theorem d_JI_bitCount_7 : decode Y_JI_bitCount.2.1 7 = .ok (.iand, 1) := by decide +kernel
theorem d_JI_bitCount_8 : decode Y_JI_bitCount.2.1 8 = .ok (.isub, 1) := by decide +kernel
theorem d_JI_bitCount_9 : decode Y_JI_bitCount.2.1 9 = .ok (.istore_n 0, 1) := by decide +kernel
theorem d_JI_bitCount_10 : decode Y_JI_bitCount.2.1 10 = .ok (.iload_n 0, 1) := by decide +kernel
theorem d_JI_bitCount_11 : decode Y_JI_bitCount.2.1 11 = .ok (.ldc_w 266, 3) := by decide +kernel
theorem d_JI_bitCount_14 : decode Y_JI_bitCount.2.1 14 = .ok (.iand, 1) := by decide +kernel
theorem d_JI_bitCount_15 : decode Y_JI_bitCount.2.1 15 = .ok (.iload_n 0, 1) := by decide +kernel
theorem d_JI_bitCount_16 : decode Y_JI_bitCount.2.1 16 = .ok (.iconst 2, 1) := by decide +kernel
theorem d_JI_bitCount_17 : decode Y_JI_bitCount.2.1 17 = .ok (.iushr, 1) := by decide +kernel
theorem d_JI_bitCount_18 : decode Y_JI_bitCount.2.1 18 = .ok (.ldc_w 266, 3) := by decide +kernel
theorem d_JI_bitCount_21 : decode Y_JI_bitCount.2.1 21 = .ok (.iand, 1) := by decide +kernel
theorem d_JI_bitCount_22 : decode Y_JI_bitCount.2.1 22 = .ok (.iadd, 1) := by decide +kernel
theorem d_JI_bitCount_23 : decode Y_JI_bitCount.2.1 23 = .ok (.istore_n 0, 1) := by decide +kernel
theorem d_JI_bitCount_24 : decode Y_JI_bitCount.2.1 24 = .ok (.iload_n 0, 1) := by decide +kernel
theorem d_JI_bitCount_25 : decode Y_JI_bitCount.2.1 25 = .ok (.iload_n 0, 1) := by decide +kernel
theorem d_JI_bitCount_26 : decode Y_JI_bitCount.2.1 26 = .ok (.iconst 4, 1) := by decide +kernel
theorem d_JI_bitCount_27 : decode Y_JI_bitCount.2.1 27 = .ok (.iushr, 1) := by decide +kernel
theorem d_JI_bitCount_28 : decode Y_JI_bitCount.2.1 28 = .ok (.iadd, 1) := by decide +kernel
theorem d_JI_bitCount_29 : decode Y_JI_bitCount.2.1 29 = .ok (.ldc_w 267, 3) := by decide +kernel
theorem d_JI_bitCount_32 : decode Y_JI_bitCount.2.1 32 = .ok (.iand, 1) := by decide +kernel
theorem d_JI_bitCount_33 : decode Y_JI_bitCount.2.1 33 = .ok (.istore_n 0, 1) := by decide +kernel
theorem d_JI_bitCount_34 : decode Y_JI_bitCount.2.1 34 = .ok (.iload_n 0, 1) := by decide +kernel
theorem d_JI_bitCount_35 : decode Y_JI_bitCount.2.1 35 = .ok (.iload_n 0, 1) := by decide +kernel
theorem d_JI_bitCount_36 : decode Y_JI_bitCount.2.1 36 = .ok (.bipush 8, 2) := by decide +kernel
theorem d_JI_bitCount_38 : decode Y_JI_bitCount.2.1 38 = .ok (.iushr, 1) := by decide +kernel
theorem d_JI_bitCount_39 : decode Y_JI_bitCount.2.1 39 = .ok (.iadd, 1) := by decide +kernel
theorem d_JI_bitCount_40 : decode Y_JI_bitCount.2.1 40 = .ok (.istore_n 0, 1) := by decide +kernel
theorem d_JI_bitCount_41 : decode Y_JI_bitCount.2.1 41 = .ok (.iload_n 0, 1) := by decide +kernel
theorem d_JI_bitCount_42 : decode Y_JI_bitCount.2.1 42 = .ok (.iload_n 0, 1) := by decide +kernel
theorem d_JI_bitCount_43 : decode Y_JI_bitCount.2.1 43 = .ok (.bipush 16, 2) := by decide +kernel
theorem d_JI_bitCount_45 : decode Y_JI_bitCount.2.1 45 = .ok (.iushr, 1) := by decide +kernel
theorem d_JI_bitCount_46 : decode Y_JI_bitCount.2.1 46 = .ok (.iadd, 1) := by decide +kernel
theorem d_JI_bitCount_47 : decode Y_JI_bitCount.2.1 47 = .ok (.istore_n 0, 1) := by decide +kernel
theorem d_JI_bitCount_48 : decode Y_JI_bitCount.2.1 48 = .ok (.iload_n 0, 1) := by decide +kernel
theorem d_JI_bitCount_49 : decode Y_JI_bitCount.2.1 49 = .ok (.bipush 63, 2) := by decide +kernel
theorem d_JI_bitCount_51 : decode Y_JI_bitCount.2.1 51 = .ok (.iand, 1) := by decide +kernel
theorem d_JI_bitCount_52 : decode Y_JI_bitCount.2.1 52 = .ok (.ireturn, 1) := by decide +kernel
theorem d_Sha_copyShare_0 : decode Y_Sha_copyShare.2.1 0 = .ok (.aload_n 0, 1) := by decide +kernel
theorem d_Sha_copyShare_1 : decode Y_Sha_copyShare.2.1 1 = .ok (.getfield 9, 3) := by decide +kernel
theorem d_Sha_copyShare_4 : decode Y_Sha_copyShare.2.1 4 = .ok (.iload_n 1, 1) := by decide +kernel
theorem d_Sha_copyShare_5 : decode Y_Sha_copyShare.2.1 5 = .ok (.sipush 256, 3) := by decide +kernel
theorem d_Sha_copyShare_8 : decode Y_Sha_copyShare.2.1 8 = .ok (.imul, 1) := by decide +kernel
theorem d_Sha_copyShare_9 : decode Y_Sha_copyShare.2.1 9 = .ok (.iload_n 2, 1) := by decide +kernel
theorem d_Sha_copyShare_10 : decode Y_Sha_copyShare.2.1 10 = .ok (.iadd, 1) := by decide +kernel
theorem d_Sha_copyShare_11 : decode Y_Sha_copyShare.2.1 11 = .ok (.aload_n 0, 1) := by decide +kernel
theorem d_Sha_copyShare_12 : decode Y_Sha_copyShare.2.1 12 = .ok (.getfield 9, 3) := by decide +kernel
theorem d_Sha_copyShare_15 : decode Y_Sha_copyShare.2.1 15 = .ok (.iload_n 1, 1) := by decide +kernel
theorem d_Sha_copyShare_16 : decode Y_Sha_copyShare.2.1 16 = .ok (.iconst 1, 1) := by decide +kernel
theorem d_Sha_copyShare_17 : decode Y_Sha_copyShare.2.1 17 = .ok (.isub, 1) := by decide +kernel
theorem d_Sha_copyShare_18 : decode Y_Sha_copyShare.2.1 18 = .ok (.sipush 256, 3) := by decide +kernel
theorem d_Sha_copyShare_21 : decode Y_Sha_copyShare.2.1 21 = .ok (.imul, 1) := by decide +kernel
theorem d_Sha_copyShare_22 : decode Y_Sha_copyShare.2.1 22 = .ok (.iload_n 2, 1) := by decide +kernel
theorem d_Sha_copyShare_23 : decode Y_Sha_copyShare.2.1 23 = .ok (.iadd, 1) := by decide +kernel
theorem d_Sha_copyShare_24 : decode Y_Sha_copyShare.2.1 24 = .ok (.iaload, 1) := by decide +kernel
theorem d_Sha_copyShare_25 : decode Y_Sha_copyShare.2.1 25 = .ok (.iastore, 1) := by decide +kernel
theorem d_Sha_copyShare_26 : decode Y_Sha_copyShare.2.1 26 = .ok (.aload_n 0, 1) := by decide +kernel
theorem d_Sha_copyShare_27 : decode Y_Sha_copyShare.2.1 27 = .ok (.getfield 15, 3) := by decide +kernel
theorem d_Sha_copyShare_30 : decode Y_Sha_copyShare.2.1 30 = .ok (.iload_n 1, 1) := by decide +kernel
theorem d_Sha_copyShare_31 : decode Y_Sha_copyShare.2.1 31 = .ok (.sipush 256, 3) := by decide +kernel
theorem d_Sha_copyShare_34 : decode Y_Sha_copyShare.2.1 34 = .ok (.imul, 1) := by decide +kernel
theorem d_Sha_copyShare_35 : decode Y_Sha_copyShare.2.1 35 = .ok (.iload_n 2, 1) := by decide +kernel
theorem d_Sha_copyShare_36 : decode Y_Sha_copyShare.2.1 36 = .ok (.iadd, 1) := by decide +kernel
theorem d_Sha_copyShare_37 : decode Y_Sha_copyShare.2.1 37 = .ok (.aload_n 0, 1) := by decide +kernel
theorem d_Sha_copyShare_38 : decode Y_Sha_copyShare.2.1 38 = .ok (.getfield 15, 3) := by decide +kernel
theorem d_Sha_copyShare_41 : decode Y_Sha_copyShare.2.1 41 = .ok (.iload_n 1, 1) := by decide +kernel
theorem d_Sha_copyShare_42 : decode Y_Sha_copyShare.2.1 42 = .ok (.iconst 1, 1) := by decide +kernel
theorem d_Sha_copyShare_43 : decode Y_Sha_copyShare.2.1 43 = .ok (.isub, 1) := by decide +kernel
theorem d_Sha_copyShare_44 : decode Y_Sha_copyShare.2.1 44 = .ok (.sipush 256, 3) := by decide +kernel
theorem d_Sha_copyShare_47 : decode Y_Sha_copyShare.2.1 47 = .ok (.imul, 1) := by decide +kernel
theorem d_Sha_copyShare_48 : decode Y_Sha_copyShare.2.1 48 = .ok (.iload_n 2, 1) := by decide +kernel
theorem d_Sha_copyShare_49 : decode Y_Sha_copyShare.2.1 49 = .ok (.iadd, 1) := by decide +kernel
theorem d_Sha_copyShare_50 : decode Y_Sha_copyShare.2.1 50 = .ok (.iaload, 1) := by decide +kernel
theorem d_Sha_copyShare_51 : decode Y_Sha_copyShare.2.1 51 = .ok (.iastore, 1) := by decide +kernel
theorem d_Sha_copyShare_52 : decode Y_Sha_copyShare.2.1 52 = .ok (.return_, 1) := by decide +kernel
theorem d_Sha_share_0 : decode Y_Sha_share.2.1 0 = .ok (.iload_n 2, 1) := by decide +kernel
theorem d_Sha_share_1 : decode Y_Sha_share.2.1 1 = .ok (.iload_n 2, 1) := by decide +kernel
theorem d_Sha_share_2 : decode Y_Sha_share.2.1 2 = .ok (.ineg, 1) := by decide +kernel
theorem d_Sha_share_3 : decode Y_Sha_share.2.1 3 = .ok (.iand, 1) := by decide +kernel
theorem d_Sha_share_4 : decode Y_Sha_share.2.1 4 = .ok (.istore_n 3, 1) := by decide +kernel
theorem d_Sha_share_5 : decode Y_Sha_share.2.1 5 = .ok (.iload_n 2, 1) := by decide +kernel
theorem d_Sha_share_6 : decode Y_Sha_share.2.1 6 = .ok (.iload_n 3, 1) := by decide +kernel
theorem d_Sha_share_7 : decode Y_Sha_share.2.1 7 = .ok (.iconst (-1), 1) := by decide +kernel
theorem d_Sha_share_8 : decode Y_Sha_share.2.1 8 = .ok (.ixor, 1) := by decide +kernel
theorem d_Sha_share_9 : decode Y_Sha_share.2.1 9 = .ok (.iand, 1) := by decide +kernel
theorem d_Sha_share_10 : decode Y_Sha_share.2.1 10 = .ok (.istore 4, 2) := by decide +kernel
theorem d_Sha_share_12 : decode Y_Sha_share.2.1 12 = .ok (.aload_n 0, 1) := by decide +kernel
theorem d_Sha_share_13 : decode Y_Sha_share.2.1 13 = .ok (.aload_n 0, 1) := by decide +kernel
theorem d_Sha_share_14 : decode Y_Sha_share.2.1 14 = .ok (.getfield 9, 3) := by decide +kernel
theorem d_Sha_share_17 : decode Y_Sha_share.2.1 17 = .ok (.iload_n 3, 1) := by decide +kernel
theorem d_Sha_share_18 : decode Y_Sha_share.2.1 18 = .ok (.iaload, 1) := by decide +kernel
theorem d_Sha_share_19 : decode Y_Sha_share.2.1 19 = .ok (.aload_n 0, 1) := by decide +kernel
theorem d_Sha_share_20 : decode Y_Sha_share.2.1 20 = .ok (.getfield 9, 3) := by decide +kernel
theorem d_Sha_share_23 : decode Y_Sha_share.2.1 23 = .ok (.iload_n 1, 1) := by decide +kernel
theorem d_Sha_share_24 : decode Y_Sha_share.2.1 24 = .ok (.sipush 256, 3) := by decide +kernel
theorem d_Sha_share_27 : decode Y_Sha_share.2.1 27 = .ok (.imul, 1) := by decide +kernel
theorem d_Sha_share_28 : decode Y_Sha_share.2.1 28 = .ok (.iload 4, 2) := by decide +kernel
theorem d_Sha_share_30 : decode Y_Sha_share.2.1 30 = .ok (.iadd, 1) := by decide +kernel
theorem d_Sha_share_31 : decode Y_Sha_share.2.1 31 = .ok (.iaload, 1) := by decide +kernel
theorem d_Sha_share_32 : decode Y_Sha_share.2.1 32 = .ok (.invokestatic 73, 3) := by decide +kernel
theorem d_Sha_share_35 : decode Y_Sha_share.2.1 35 = .ok (.putfield 19, 3) := by decide +kernel
theorem d_Sha_share_38 : decode Y_Sha_share.2.1 38 = .ok (.aload_n 0, 1) := by decide +kernel
theorem d_Sha_share_39 : decode Y_Sha_share.2.1 39 = .ok (.aload_n 0, 1) := by decide +kernel
theorem d_Sha_share_40 : decode Y_Sha_share.2.1 40 = .ok (.getfield 19, 3) := by decide +kernel
theorem d_Sha_share_43 : decode Y_Sha_share.2.1 43 = .ok (.ldc 18, 2) := by decide +kernel
theorem d_Sha_share_45 : decode Y_Sha_share.2.1 45 = .ok (.if_icmp .ne 7, 3) := by decide +kernel
theorem d_Sha_share_48 : decode Y_Sha_share.2.1 48 = .ok (.iconst 0, 1) := by decide +kernel
theorem d_Sha_share_49 : decode Y_Sha_share.2.1 49 = .ok (.goto 16, 3) := by decide +kernel
theorem d_Sha_share_52 : decode Y_Sha_share.2.1 52 = .ok (.aload_n 0, 1) := by decide +kernel
theorem d_Sha_share_53 : decode Y_Sha_share.2.1 53 = .ok (.getfield 15, 3) := by decide +kernel
theorem d_Sha_share_56 : decode Y_Sha_share.2.1 56 = .ok (.iload_n 1, 1) := by decide +kernel
theorem d_Sha_share_57 : decode Y_Sha_share.2.1 57 = .ok (.sipush 256, 3) := by decide +kernel
theorem d_Sha_share_60 : decode Y_Sha_share.2.1 60 = .ok (.imul, 1) := by decide +kernel
theorem d_Sha_share_61 : decode Y_Sha_share.2.1 61 = .ok (.iload 4, 2) := by decide +kernel
theorem d_Sha_share_63 : decode Y_Sha_share.2.1 63 = .ok (.iadd, 1) := by decide +kernel
theorem d_Sha_share_64 : decode Y_Sha_share.2.1 64 = .ok (.iaload, 1) := by decide +kernel
theorem d_Sha_share_65 : decode Y_Sha_share.2.1 65 = .ok (.putfield 23, 3) := by decide +kernel
theorem d_Sha_share_68 : decode Y_Sha_share.2.1 68 = .ok (.aload_n 0, 1) := by decide +kernel
theorem d_Sha_share_69 : decode Y_Sha_share.2.1 69 = .ok (.iload_n 3, 1) := by decide +kernel
theorem d_Sha_share_70 : decode Y_Sha_share.2.1 70 = .ok (.iload_n 1, 1) := by decide +kernel
theorem d_Sha_share_71 : decode Y_Sha_share.2.1 71 = .ok (.iconst 1, 1) := by decide +kernel
theorem d_Sha_share_72 : decode Y_Sha_share.2.1 72 = .ok (.isub, 1) := by decide +kernel
theorem d_Sha_share_73 : decode Y_Sha_share.2.1 73 = .ok (.sipush 256, 3) := by decide +kernel
theorem d_Sha_share_76 : decode Y_Sha_share.2.1 76 = .ok (.imul, 1) := by decide +kernel
theorem d_Sha_share_77 : decode Y_Sha_share.2.1 77 = .ok (.iload 4, 2) := by decide +kernel
theorem d_Sha_share_79 : decode Y_Sha_share.2.1 79 = .ok (.iadd, 1) := by decide +kernel
theorem d_Sha_share_80 : decode Y_Sha_share.2.1 80 = .ok (.invokevirtual 77, 3) := by decide +kernel
theorem d_Sha_share_83 : decode Y_Sha_share.2.1 83 = .ok (.iload 4, 2) := by decide +kernel
theorem d_Sha_share_85 : decode Y_Sha_share.2.1 85 = .ok (.istore 5, 2) := by decide +kernel
theorem d_Sha_share_87 : decode Y_Sha_share.2.1 87 = .ok (.iload 5, 2) := by decide +kernel
theorem d_Sha_share_89 : decode Y_Sha_share.2.1 89 = .ok (.ifCond .le 38, 3) := by decide +kernel
theorem d_Sha_share_92 : decode Y_Sha_share.2.1 92 = .ok (.aload_n 0, 1) := by decide +kernel
theorem d_Sha_share_93 : decode Y_Sha_share.2.1 93 = .ok (.iload 5, 2) := by decide +kernel
theorem d_Sha_share_95 : decode Y_Sha_share.2.1 95 = .ok (.iload_n 3, 1) := by decide +kernel
theorem d_Sha_share_96 : decode Y_Sha_share.2.1 96 = .ok (.ior, 1) := by decide +kernel
theorem d_Sha_share_97 : decode Y_Sha_share.2.1 97 = .ok (.iload_n 1, 1) := by decide +kernel
theorem d_Sha_share_98 : decode Y_Sha_share.2.1 98 = .ok (.iconst 1, 1) := by decide +kernel
theorem d_Sha_share_99 : decode Y_Sha_share.2.1 99 = .ok (.isub, 1) := by decide +kernel
theorem d_Sha_share_100 : decode Y_Sha_share.2.1 100 = .ok (.sipush 256, 3) := by decide +kernel
theorem d_Sha_share_103 : decode Y_Sha_share.2.1 103 = .ok (.imul, 1) := by decide +kernel
theorem d_Sha_share_104 : decode Y_Sha_share.2.1 104 = .ok (.iload 4, 2) := by decide +kernel
theorem d_Sha_share_106 : decode Y_Sha_share.2.1 106 = .ok (.iload 5, 2) := by decide +kernel
theorem d_Sha_share_108 : decode Y_Sha_share.2.1 108 = .ok (.iconst (-1), 1) := by decide +kernel
theorem d_Sha_share_109 : decode Y_Sha_share.2.1 109 = .ok (.ixor, 1) := by decide +kernel
theorem d_Sha_share_110 : decode Y_Sha_share.2.1 110 = .ok (.iand, 1) := by decide +kernel
theorem d_Sha_share_111 : decode Y_Sha_share.2.1 111 = .ok (.iadd, 1) := by decide +kernel
theorem d_Sha_share_112 : decode Y_Sha_share.2.1 112 = .ok (.invokevirtual 77, 3) := by decide +kernel
theorem d_Sha_share_115 : decode Y_Sha_share.2.1 115 = .ok (.iload 5, 2) := by decide +kernel
theorem d_Sha_share_117 : decode Y_Sha_share.2.1 117 = .ok (.iconst 1, 1) := by decide +kernel
theorem d_Sha_share_118 : decode Y_Sha_share.2.1 118 = .ok (.isub, 1) := by decide +kernel
theorem d_Sha_share_119 : decode Y_Sha_share.2.1 119 = .ok (.iload 4, 2) := by decide +kernel
theorem d_Sha_share_121 : decode Y_Sha_share.2.1 121 = .ok (.iand, 1) := by decide +kernel
theorem d_Sha_share_122 : decode Y_Sha_share.2.1 122 = .ok (.istore 5, 2) := by decide +kernel
theorem d_Sha_share_124 : decode Y_Sha_share.2.1 124 = .ok (.goto (-37), 3) := by decide +kernel
theorem d_Sha_share_127 : decode Y_Sha_share.2.1 127 = .ok (.aload_n 0, 1) := by decide +kernel
theorem d_Sha_share_128 : decode Y_Sha_share.2.1 128 = .ok (.getfield 9, 3) := by decide +kernel
theorem d_Sha_share_131 : decode Y_Sha_share.2.1 131 = .ok (.iload_n 1, 1) := by decide +kernel
theorem d_Sha_share_132 : decode Y_Sha_share.2.1 132 = .ok (.sipush 256, 3) := by decide +kernel
theorem d_Sha_share_135 : decode Y_Sha_share.2.1 135 = .ok (.imul, 1) := by decide +kernel
theorem d_Sha_share_136 : decode Y_Sha_share.2.1 136 = .ok (.iload_n 2, 1) := by decide +kernel
theorem d_Sha_share_137 : decode Y_Sha_share.2.1 137 = .ok (.iadd, 1) := by decide +kernel
theorem d_Sha_share_138 : decode Y_Sha_share.2.1 138 = .ok (.aload_n 0, 1) := by decide +kernel
theorem d_Sha_share_139 : decode Y_Sha_share.2.1 139 = .ok (.getfield 19, 3) := by decide +kernel
theorem d_Sha_share_142 : decode Y_Sha_share.2.1 142 = .ok (.iastore, 1) := by decide +kernel
theorem d_Sha_share_143 : decode Y_Sha_share.2.1 143 = .ok (.aload_n 0, 1) := by decide +kernel
theorem d_Sha_share_144 : decode Y_Sha_share.2.1 144 = .ok (.getfield 15, 3) := by decide +kernel
theorem d_Sha_share_147 : decode Y_Sha_share.2.1 147 = .ok (.iload_n 1, 1) := by decide +kernel
theorem d_Sha_share_148 : decode Y_Sha_share.2.1 148 = .ok (.sipush 256, 3) := by decide +kernel
theorem d_Sha_share_151 : decode Y_Sha_share.2.1 151 = .ok (.imul, 1) := by decide +kernel
theorem d_Sha_share_152 : decode Y_Sha_share.2.1 152 = .ok (.iload_n 2, 1) := by decide +kernel
theorem d_Sha_share_153 : decode Y_Sha_share.2.1 153 = .ok (.iadd, 1) := by decide +kernel
theorem d_Sha_share_154 : decode Y_Sha_share.2.1 154 = .ok (.aload_n 0, 1) := by decide +kernel
theorem d_Sha_share_155 : decode Y_Sha_share.2.1 155 = .ok (.getfield 23, 3) := by decide +kernel
theorem d_Sha_share_158 : decode Y_Sha_share.2.1 158 = .ok (.iastore, 1) := by decide +kernel
theorem d_Sha_share_159 : decode Y_Sha_share.2.1 159 = .ok (.return_, 1) := by decide +kernel
theorem d_Sha_offer_0 : decode Y_Sha_offer.2.1 0 = .ok (.aload_n 0, 1) := by decide +kernel
theorem d_Sha_offer_1 : decode Y_Sha_offer.2.1 1 = .ok (.getfield 33, 3) := by decide +kernel
theorem d_Sha_offer_4 : decode Y_Sha_offer.2.1 4 = .ok (.getfield 80, 3) := by decide +kernel
theorem d_Sha_offer_7 : decode Y_Sha_offer.2.1 7 = .ok (.iload_n 1, 1) := by decide +kernel
theorem d_Sha_offer_8 : decode Y_Sha_offer.2.1 8 = .ok (.iaload, 1) := by decide +kernel
theorem d_Sha_offer_9 : decode Y_Sha_offer.2.1 9 = .ok (.aload_n 0, 1) := by decide +kernel
theorem d_Sha_offer_10 : decode Y_Sha_offer.2.1 10 = .ok (.getfield 9, 3) := by decide +kernel
theorem d_Sha_offer_13 : decode Y_Sha_offer.2.1 13 = .ok (.iload_n 2, 1) := by decide +kernel
theorem d_Sha_offer_14 : decode Y_Sha_offer.2.1 14 = .ok (.iaload, 1) := by decide +kernel
theorem d_Sha_offer_15 : decode Y_Sha_offer.2.1 15 = .ok (.invokestatic 73, 3) := by decide +kernel
theorem d_Sha_offer_18 : decode Y_Sha_offer.2.1 18 = .ok (.istore_n 3, 1) := by decide +kernel
theorem d_Sha_offer_19 : decode Y_Sha_offer.2.1 19 = .ok (.iload_n 3, 1) := by decide +kernel
theorem d_Sha_offer_20 : decode Y_Sha_offer.2.1 20 = .ok (.ldc 18, 2) := by decide +kernel
theorem d_Sha_offer_22 : decode Y_Sha_offer.2.1 22 = .ok (.if_icmp .eq 11, 3) := by decide +kernel
theorem d_Sha_offer_25 : decode Y_Sha_offer.2.1 25 = .ok (.iload_n 3, 1) := by decide +kernel
theorem d_Sha_offer_26 : decode Y_Sha_offer.2.1 26 = .ok (.aload_n 0, 1) := by decide +kernel
theorem d_Sha_offer_27 : decode Y_Sha_offer.2.1 27 = .ok (.getfield 19, 3) := by decide +kernel
theorem d_Sha_offer_30 : decode Y_Sha_offer.2.1 30 = .ok (.if_icmp .le 4, 3) := by decide +kernel
theorem d_Sha_offer_33 : decode Y_Sha_offer.2.1 33 = .ok (.return_, 1) := by decide +kernel
theorem d_Sha_offer_34 : decode Y_Sha_offer.2.1 34 = .ok (.aload_n 0, 1) := by decide +kernel
theorem d_Sha_offer_35 : decode Y_Sha_offer.2.1 35 = .ok (.getfield 33, 3) := by decide +kernel
theorem d_Sha_offer_38 : decode Y_Sha_offer.2.1 38 = .ok (.getfield 83, 3) := by decide +kernel
theorem d_Sha_offer_41 : decode Y_Sha_offer.2.1 41 = .ok (.iload_n 1, 1) := by decide +kernel
theorem d_Sha_offer_42 : decode Y_Sha_offer.2.1 42 = .ok (.iaload, 1) := by decide +kernel
theorem d_Sha_offer_43 : decode Y_Sha_offer.2.1 43 = .ok (.aload_n 0, 1) := by decide +kernel
theorem d_Sha_offer_44 : decode Y_Sha_offer.2.1 44 = .ok (.getfield 15, 3) := by decide +kernel
theorem d_Sha_offer_47 : decode Y_Sha_offer.2.1 47 = .ok (.iload_n 2, 1) := by decide +kernel
theorem d_Sha_offer_48 : decode Y_Sha_offer.2.1 48 = .ok (.iaload, 1) := by decide +kernel
theorem d_Sha_offer_49 : decode Y_Sha_offer.2.1 49 = .ok (.imul, 1) := by decide +kernel
theorem d_Sha_offer_50 : decode Y_Sha_offer.2.1 50 = .ok (.istore 4, 2) := by decide +kernel
theorem d_Sha_offer_52 : decode Y_Sha_offer.2.1 52 = .ok (.aload_n 0, 1) := by decide +kernel
theorem d_Sha_offer_53 : decode Y_Sha_offer.2.1 53 = .ok (.iload_n 3, 1) := by decide +kernel
theorem d_Sha_offer_54 : decode Y_Sha_offer.2.1 54 = .ok (.aload_n 0, 1) := by decide +kernel
theorem d_Sha_offer_55 : decode Y_Sha_offer.2.1 55 = .ok (.getfield 19, 3) := by decide +kernel
theorem d_Sha_offer_58 : decode Y_Sha_offer.2.1 58 = .ok (.if_icmp .ge 8, 3) := by decide +kernel
theorem d_Sha_offer_61 : decode Y_Sha_offer.2.1 61 = .ok (.iload 4, 2) := by decide +kernel
theorem d_Sha_offer_63 : decode Y_Sha_offer.2.1 63 = .ok (.goto 10, 3) := by decide +kernel
theorem d_Sha_offer_66 : decode Y_Sha_offer.2.1 66 = .ok (.aload_n 0, 1) := by decide +kernel
theorem d_Sha_offer_67 : decode Y_Sha_offer.2.1 67 = .ok (.getfield 23, 3) := by decide +kernel
theorem d_Sha_offer_70 : decode Y_Sha_offer.2.1 70 = .ok (.iload 4, 2) := by decide +kernel
theorem d_Sha_offer_72 : decode Y_Sha_offer.2.1 72 = .ok (.iadd, 1) := by decide +kernel
theorem d_Sha_offer_73 : decode Y_Sha_offer.2.1 73 = .ok (.putfield 23, 3) := by decide +kernel
theorem d_Sha_offer_76 : decode Y_Sha_offer.2.1 76 = .ok (.aload_n 0, 1) := by decide +kernel
theorem d_Sha_offer_77 : decode Y_Sha_offer.2.1 77 = .ok (.iload_n 3, 1) := by decide +kernel
theorem d_Sha_offer_78 : decode Y_Sha_offer.2.1 78 = .ok (.putfield 19, 3) := by decide +kernel
theorem d_Sha_offer_81 : decode Y_Sha_offer.2.1 81 = .ok (.return_, 1) := by decide +kernel
theorem d_Sha_leastCost_0 : decode Y_Sha_leastCost.2.1 0 = .ok (.aload_n 0, 1) := by decide +kernel
theorem d_Sha_leastCost_1 : decode Y_Sha_leastCost.2.1 1 = .ok (.getfield 9, 3) := by decide +kernel
theorem d_Sha_leastCost_4 : decode Y_Sha_leastCost.2.1 4 = .ok (.aload_n 0, 1) := by decide +kernel
theorem d_Sha_leastCost_5 : decode Y_Sha_leastCost.2.1 5 = .ok (.getfield 29, 3) := by decide +kernel
theorem d_Sha_leastCost_8 : decode Y_Sha_leastCost.2.1 8 = .ok (.getfield 55, 3) := by decide +kernel
theorem d_Sha_leastCost_11 : decode Y_Sha_leastCost.2.1 11 = .ok (.sipush 256, 3) := by decide +kernel
theorem d_Sha_leastCost_14 : decode Y_Sha_leastCost.2.1 14 = .ok (.imul, 1) := by decide +kernel
theorem d_Sha_leastCost_15 : decode Y_Sha_leastCost.2.1 15 = .ok (.aload_n 0, 1) := by decide +kernel
theorem d_Sha_leastCost_16 : decode Y_Sha_leastCost.2.1 16 = .ok (.getfield 29, 3) := by decide +kernel
theorem d_Sha_leastCost_19 : decode Y_Sha_leastCost.2.1 19 = .ok (.invokevirtual 47, 3) := by decide +kernel
theorem d_Sha_leastCost_22 : decode Y_Sha_leastCost.2.1 22 = .ok (.iadd, 1) := by decide +kernel
theorem d_Sha_leastCost_23 : decode Y_Sha_leastCost.2.1 23 = .ok (.iaload, 1) := by decide +kernel
theorem d_Sha_leastCost_24 : decode Y_Sha_leastCost.2.1 24 = .ok (.ireturn, 1) := by decide +kernel
theorem d_Sha_leastWays_0 : decode Y_Sha_leastWays.2.1 0 = .ok (.aload_n 0, 1) := by decide +kernel
theorem d_Sha_leastWays_1 : decode Y_Sha_leastWays.2.1 1 = .ok (.getfield 15, 3) := by decide +kernel
theorem d_Sha_leastWays_4 : decode Y_Sha_leastWays.2.1 4 = .ok (.aload_n 0, 1) := by decide +kernel
theorem d_Sha_leastWays_5 : decode Y_Sha_leastWays.2.1 5 = .ok (.getfield 29, 3) := by decide +kernel
theorem d_Sha_leastWays_8 : decode Y_Sha_leastWays.2.1 8 = .ok (.getfield 55, 3) := by decide +kernel
theorem d_Sha_leastWays_11 : decode Y_Sha_leastWays.2.1 11 = .ok (.sipush 256, 3) := by decide +kernel
theorem d_Sha_leastWays_14 : decode Y_Sha_leastWays.2.1 14 = .ok (.imul, 1) := by decide +kernel
theorem d_Sha_leastWays_15 : decode Y_Sha_leastWays.2.1 15 = .ok (.aload_n 0, 1) := by decide +kernel
theorem d_Sha_leastWays_16 : decode Y_Sha_leastWays.2.1 16 = .ok (.getfield 29, 3) := by decide +kernel
theorem d_Sha_leastWays_19 : decode Y_Sha_leastWays.2.1 19 = .ok (.invokevirtual 47, 3) := by decide +kernel
theorem d_Sha_leastWays_22 : decode Y_Sha_leastWays.2.1 22 = .ok (.iadd, 1) := by decide +kernel
theorem d_Sha_leastWays_23 : decode Y_Sha_leastWays.2.1 23 = .ok (.iaload, 1) := by decide +kernel
theorem d_Sha_leastWays_24 : decode Y_Sha_leastWays.2.1 24 = .ok (.ireturn, 1) := by decide +kernel
theorem d_Fir_refresh_0 : decode Y_Fir_refresh.2.1 0 = .ok (.aload_n 0, 1) := by decide +kernel
theorem d_Fir_refresh_1 : decode Y_Fir_refresh.2.1 1 = .ok (.getfield 19, 3) := by decide +kernel
theorem d_Fir_refresh_4 : decode Y_Fir_refresh.2.1 4 = .ok (.aload_n 0, 1) := by decide +kernel
theorem d_Fir_refresh_5 : decode Y_Fir_refresh.2.1 5 = .ok (.getfield 28, 3) := by decide +kernel
theorem d_Fir_refresh_8 : decode Y_Fir_refresh.2.1 8 = .ok (.getfield 40, 3) := by decide +kernel
theorem d_Fir_refresh_11 : decode Y_Fir_refresh.2.1 11 = .ok (.if_icmp .ne 4, 3) := by decide +kernel
theorem d_Fir_refresh_14 : decode Y_Fir_refresh.2.1 14 = .ok (.return_, 1) := by decide +kernel
theorem d_Fir_refresh_15 : decode Y_Fir_refresh.2.1 15 = .ok (.aload_n 0, 1) := by decide +kernel
theorem d_Fir_refresh_16 : decode Y_Fir_refresh.2.1 16 = .ok (.aload_n 0, 1) := by decide +kernel
theorem d_Fir_refresh_17 : decode Y_Fir_refresh.2.1 17 = .ok (.getfield 28, 3) := by decide +kernel
theorem d_Fir_refresh_20 : decode Y_Fir_refresh.2.1 20 = .ok (.getfield 40, 3) := by decide +kernel
theorem d_Fir_refresh_23 : decode Y_Fir_refresh.2.1 23 = .ok (.putfield 19, 3) := by decide +kernel
theorem d_Fir_refresh_26 : decode Y_Fir_refresh.2.1 26 = .ok (.aload_n 0, 1) := by decide +kernel
theorem d_Fir_refresh_27 : decode Y_Fir_refresh.2.1 27 = .ok (.iconst 0, 1) := by decide +kernel
theorem d_Fir_refresh_28 : decode Y_Fir_refresh.2.1 28 = .ok (.putfield 15, 3) := by decide +kernel
theorem d_Fir_refresh_31 : decode Y_Fir_refresh.2.1 31 = .ok (.aload_n 0, 1) := by decide +kernel
theorem d_Fir_refresh_32 : decode Y_Fir_refresh.2.1 32 = .ok (.aload_n 0, 1) := by decide +kernel
theorem d_Fir_refresh_33 : decode Y_Fir_refresh.2.1 33 = .ok (.getfield 32, 3) := by decide +kernel
theorem d_Fir_refresh_36 : decode Y_Fir_refresh.2.1 36 = .ok (.invokevirtual 45, 3) := by decide +kernel
theorem d_Fir_refresh_39 : decode Y_Fir_refresh.2.1 39 = .ok (.putfield 22, 3) := by decide +kernel
theorem d_Fir_refresh_42 : decode Y_Fir_refresh.2.1 42 = .ok (.aload_n 0, 1) := by decide +kernel
theorem d_Fir_refresh_43 : decode Y_Fir_refresh.2.1 43 = .ok (.aload_n 0, 1) := by decide +kernel
theorem d_Fir_refresh_44 : decode Y_Fir_refresh.2.1 44 = .ok (.getfield 28, 3) := by decide +kernel
theorem d_Fir_refresh_47 : decode Y_Fir_refresh.2.1 47 = .ok (.invokevirtual 51, 3) := by decide +kernel
theorem d_Fir_refresh_50 : decode Y_Fir_refresh.2.1 50 = .ok (.putfield 25, 3) := by decide +kernel
theorem d_Fir_refresh_53 : decode Y_Fir_refresh.2.1 53 = .ok (.aload_n 0, 1) := by decide +kernel
theorem d_Fir_refresh_54 : decode Y_Fir_refresh.2.1 54 = .ok (.getfield 28, 3) := by decide +kernel
theorem d_Fir_refresh_57 : decode Y_Fir_refresh.2.1 57 = .ok (.getfield 54, 3) := by decide +kernel
theorem d_Fir_refresh_60 : decode Y_Fir_refresh.2.1 60 = .ok (.istore_n 1, 1) := by decide +kernel
theorem d_Fir_refresh_61 : decode Y_Fir_refresh.2.1 61 = .ok (.iload_n 1, 1) := by decide +kernel
theorem d_Fir_refresh_62 : decode Y_Fir_refresh.2.1 62 = .ok (.ifCond .le 56, 3) := by decide +kernel
theorem d_Fir_refresh_65 : decode Y_Fir_refresh.2.1 65 = .ok (.aload_n 0, 1) := by decide +kernel
theorem d_Fir_refresh_66 : decode Y_Fir_refresh.2.1 66 = .ok (.getfield 32, 3) := by decide +kernel
theorem d_Fir_refresh_69 : decode Y_Fir_refresh.2.1 69 = .ok (.getfield 57, 3) := by decide +kernel
theorem d_Fir_refresh_72 : decode Y_Fir_refresh.2.1 72 = .ok (.aload_n 0, 1) := by decide +kernel
theorem d_Fir_refresh_73 : decode Y_Fir_refresh.2.1 73 = .ok (.getfield 25, 3) := by decide +kernel
theorem d_Fir_refresh_76 : decode Y_Fir_refresh.2.1 76 = .ok (.iaload, 1) := by decide +kernel
theorem d_Fir_refresh_77 : decode Y_Fir_refresh.2.1 77 = .ok (.aload_n 0, 1) := by decide +kernel
theorem d_Fir_refresh_78 : decode Y_Fir_refresh.2.1 78 = .ok (.getfield 22, 3) := by decide +kernel
theorem d_Fir_refresh_81 : decode Y_Fir_refresh.2.1 81 = .ok (.if_icmp .eq 37, 3) := by decide +kernel
theorem d_Fir_refresh_84 : decode Y_Fir_refresh.2.1 84 = .ok (.aload_n 0, 1) := by decide +kernel
theorem d_Fir_refresh_85 : decode Y_Fir_refresh.2.1 85 = .ok (.getfield 15, 3) := by decide +kernel
theorem d_Fir_refresh_88 : decode Y_Fir_refresh.2.1 88 = .ok (.ifCond .le 8, 3) := by decide +kernel
theorem d_Fir_refresh_91 : decode Y_Fir_refresh.2.1 91 = .ok (.aload_n 0, 1) := by decide +kernel
theorem d_Fir_refresh_92 : decode Y_Fir_refresh.2.1 92 = .ok (.iconst 0, 1) := by decide +kernel
theorem d_Fir_refresh_93 : decode Y_Fir_refresh.2.1 93 = .ok (.invokevirtual 60, 3) := by decide +kernel
theorem d_Fir_refresh_96 : decode Y_Fir_refresh.2.1 96 = .ok (.aload_n 0, 1) := by decide +kernel
theorem d_Fir_refresh_97 : decode Y_Fir_refresh.2.1 97 = .ok (.getfield 36, 3) := by decide +kernel
theorem d_Fir_refresh_100 : decode Y_Fir_refresh.2.1 100 = .ok (.aload_n 0, 1) := by decide +kernel
theorem d_Fir_refresh_101 : decode Y_Fir_refresh.2.1 101 = .ok (.getfield 25, 3) := by decide +kernel
theorem d_Fir_refresh_104 : decode Y_Fir_refresh.2.1 104 = .ok (.iload_n 1, 1) := by decide +kernel
theorem d_Fir_refresh_105 : decode Y_Fir_refresh.2.1 105 = .ok (.invokevirtual 64, 3) := by decide +kernel
theorem d_Fir_refresh_108 : decode Y_Fir_refresh.2.1 108 = .ok (.aload_n 0, 1) := by decide +kernel
theorem d_Fir_refresh_109 : decode Y_Fir_refresh.2.1 109 = .ok (.invokevirtual 70, 3) := by decide +kernel
theorem d_Fir_refresh_112 : decode Y_Fir_refresh.2.1 112 = .ok (.iinc 1 (-1), 3) := by decide +kernel
theorem d_Fir_refresh_115 : decode Y_Fir_refresh.2.1 115 = .ok (.goto (-54), 3) := by decide +kernel
theorem d_Fir_refresh_118 : decode Y_Fir_refresh.2.1 118 = .ok (.return_, 1) := by decide +kernel
theorem d_Fir_write_0 : decode Y_Fir_write.2.1 0 = .ok (.aload_n 0, 1) := by decide +kernel
theorem d_Fir_write_1 : decode Y_Fir_write.2.1 1 = .ok (.getfield 15, 3) := by decide +kernel
theorem d_Fir_write_4 : decode Y_Fir_write.2.1 4 = .ok (.aload_n 0, 1) := by decide +kernel
theorem d_Fir_write_5 : decode Y_Fir_write.2.1 5 = .ok (.getfield 9, 3) := by decide +kernel
theorem d_Fir_write_8 : decode Y_Fir_write.2.1 8 = .ok (.arraylength, 1) := by decide +kernel
theorem d_Fir_write_9 : decode Y_Fir_write.2.1 9 = .ok (.if_icmp .ge 23, 3) := by decide +kernel
theorem d_Fir_write_12 : decode Y_Fir_write.2.1 12 = .ok (.aload_n 0, 1) := by decide +kernel
theorem d_Fir_write_13 : decode Y_Fir_write.2.1 13 = .ok (.getfield 9, 3) := by decide +kernel
theorem d_Fir_write_16 : decode Y_Fir_write.2.1 16 = .ok (.aload_n 0, 1) := by decide +kernel
theorem d_Fir_write_17 : decode Y_Fir_write.2.1 17 = .ok (.getfield 15, 3) := by decide +kernel
theorem d_Fir_write_20 : decode Y_Fir_write.2.1 20 = .ok (.iload_n 1, 1) := by decide +kernel
theorem d_Fir_write_21 : decode Y_Fir_write.2.1 21 = .ok (.iastore, 1) := by decide +kernel
theorem d_Fir_write_22 : decode Y_Fir_write.2.1 22 = .ok (.aload_n 0, 1) := by decide +kernel
theorem d_Fir_write_23 : decode Y_Fir_write.2.1 23 = .ok (.dup, 1) := by decide +kernel
theorem d_Fir_write_24 : decode Y_Fir_write.2.1 24 = .ok (.getfield 15, 3) := by decide +kernel
theorem d_Fir_write_27 : decode Y_Fir_write.2.1 27 = .ok (.iconst 1, 1) := by decide +kernel
theorem d_Fir_write_28 : decode Y_Fir_write.2.1 28 = .ok (.iadd, 1) := by decide +kernel
theorem d_Fir_write_29 : decode Y_Fir_write.2.1 29 = .ok (.putfield 15, 3) := by decide +kernel
theorem d_Fir_write_32 : decode Y_Fir_write.2.1 32 = .ok (.return_, 1) := by decide +kernel
theorem d_Tai_fill_0 : decode Y_Tai_fill.2.1 0 = .ok (.aload_n 0, 1) := by decide +kernel
theorem d_Tai_fill_1 : decode Y_Tai_fill.2.1 1 = .ok (.getfield 19, 3) := by decide +kernel
theorem d_Tai_fill_4 : decode Y_Tai_fill.2.1 4 = .ok (.aload_n 0, 1) := by decide +kernel
theorem d_Tai_fill_5 : decode Y_Tai_fill.2.1 5 = .ok (.getfield 29, 3) := by decide +kernel
theorem d_Tai_fill_8 : decode Y_Tai_fill.2.1 8 = .ok (.getfield 41, 3) := by decide +kernel
theorem d_Tai_fill_11 : decode Y_Tai_fill.2.1 11 = .ok (.if_icmp .ne 20, 3) := by decide +kernel
theorem d_Tai_fill_14 : decode Y_Tai_fill.2.1 14 = .ok (.aload_n 0, 1) := by decide +kernel
theorem d_Tai_fill_15 : decode Y_Tai_fill.2.1 15 = .ok (.getfield 23, 3) := by decide +kernel
theorem d_Tai_fill_18 : decode Y_Tai_fill.2.1 18 = .ok (.iload_n 1, 1) := by decide +kernel
theorem d_Tai_fill_19 : decode Y_Tai_fill.2.1 19 = .ok (.if_icmp .ne 12, 3) := by decide +kernel
theorem d_Tai_fill_22 : decode Y_Tai_fill.2.1 22 = .ok (.aload_n 0, 1) := by decide +kernel
theorem d_Tai_fill_23 : decode Y_Tai_fill.2.1 23 = .ok (.getfield 26, 3) := by decide +kernel
theorem d_Tai_fill_26 : decode Y_Tai_fill.2.1 26 = .ok (.iload_n 2, 1) := by decide +kernel
theorem d_Tai_fill_27 : decode Y_Tai_fill.2.1 27 = .ok (.if_icmp .ne 4, 3) := by decide +kernel
theorem d_Tai_fill_30 : decode Y_Tai_fill.2.1 30 = .ok (.return_, 1) := by decide +kernel
theorem d_Tai_fill_31 : decode Y_Tai_fill.2.1 31 = .ok (.aload_n 0, 1) := by decide +kernel
theorem d_Tai_fill_32 : decode Y_Tai_fill.2.1 32 = .ok (.aload_n 0, 1) := by decide +kernel
theorem d_Tai_fill_33 : decode Y_Tai_fill.2.1 33 = .ok (.getfield 29, 3) := by decide +kernel
theorem d_Tai_fill_36 : decode Y_Tai_fill.2.1 36 = .ok (.getfield 41, 3) := by decide +kernel
theorem d_Tai_fill_39 : decode Y_Tai_fill.2.1 39 = .ok (.putfield 19, 3) := by decide +kernel
theorem d_Tai_fill_42 : decode Y_Tai_fill.2.1 42 = .ok (.aload_n 0, 1) := by decide +kernel
theorem d_Tai_fill_43 : decode Y_Tai_fill.2.1 43 = .ok (.iload_n 1, 1) := by decide +kernel
theorem d_Tai_fill_44 : decode Y_Tai_fill.2.1 44 = .ok (.putfield 23, 3) := by decide +kernel
theorem d_Tai_fill_47 : decode Y_Tai_fill.2.1 47 = .ok (.aload_n 0, 1) := by decide +kernel
theorem d_Tai_fill_48 : decode Y_Tai_fill.2.1 48 = .ok (.iload_n 2, 1) := by decide +kernel
theorem d_Tai_fill_49 : decode Y_Tai_fill.2.1 49 = .ok (.putfield 26, 3) := by decide +kernel
theorem d_Tai_fill_52 : decode Y_Tai_fill.2.1 52 = .ok (.aload_n 0, 1) := by decide +kernel
theorem d_Tai_fill_53 : decode Y_Tai_fill.2.1 53 = .ok (.getfield 23, 3) := by decide +kernel
theorem d_Tai_fill_56 : decode Y_Tai_fill.2.1 56 = .ok (.istore_n 3, 1) := by decide +kernel
theorem d_Tai_fill_57 : decode Y_Tai_fill.2.1 57 = .ok (.iload_n 3, 1) := by decide +kernel
theorem d_Tai_fill_58 : decode Y_Tai_fill.2.1 58 = .ok (.ifCond .le 65, 3) := by decide +kernel
theorem d_Tai_fill_61 : decode Y_Tai_fill.2.1 61 = .ok (.iconst 1, 1) := by decide +kernel
theorem d_Tai_fill_62 : decode Y_Tai_fill.2.1 62 = .ok (.istore 4, 2) := by decide +kernel
theorem d_Tai_fill_64 : decode Y_Tai_fill.2.1 64 = .ok (.iload 4, 2) := by decide +kernel
theorem d_Tai_fill_66 : decode Y_Tai_fill.2.1 66 = .ok (.aload_n 0, 1) := by decide +kernel
theorem d_Tai_fill_67 : decode Y_Tai_fill.2.1 67 = .ok (.getfield 29, 3) := by decide +kernel
theorem d_Tai_fill_70 : decode Y_Tai_fill.2.1 70 = .ok (.getfield 46, 3) := by decide +kernel
theorem d_Tai_fill_73 : decode Y_Tai_fill.2.1 73 = .ok (.if_icmp .ge 38, 3) := by decide +kernel
theorem d_Tai_fill_76 : decode Y_Tai_fill.2.1 76 = .ok (.iload_n 3, 1) := by decide +kernel
theorem d_Tai_fill_77 : decode Y_Tai_fill.2.1 77 = .ok (.iload 4, 2) := by decide +kernel
theorem d_Tai_fill_79 : decode Y_Tai_fill.2.1 79 = .ok (.invokestatic 49, 3) := by decide +kernel
theorem d_Tai_fill_82 : decode Y_Tai_fill.2.1 82 = .ok (.iand, 1) := by decide +kernel
theorem d_Tai_fill_83 : decode Y_Tai_fill.2.1 83 = .ok (.ifCond .eq 22, 3) := by decide +kernel
theorem d_Tai_fill_86 : decode Y_Tai_fill.2.1 86 = .ok (.aload_n 0, 1) := by decide +kernel
theorem d_Tai_fill_87 : decode Y_Tai_fill.2.1 87 = .ok (.getfield 9, 3) := by decide +kernel
theorem d_Tai_fill_90 : decode Y_Tai_fill.2.1 90 = .ok (.iload_n 3, 1) := by decide +kernel
theorem d_Tai_fill_91 : decode Y_Tai_fill.2.1 91 = .ok (.bipush 9, 2) := by decide +kernel
theorem d_Tai_fill_93 : decode Y_Tai_fill.2.1 93 = .ok (.imul, 1) := by decide +kernel
theorem d_Tai_fill_94 : decode Y_Tai_fill.2.1 94 = .ok (.iload 4, 2) := by decide +kernel
theorem d_Tai_fill_96 : decode Y_Tai_fill.2.1 96 = .ok (.iadd, 1) := by decide +kernel
theorem d_Tai_fill_97 : decode Y_Tai_fill.2.1 97 = .ok (.aload_n 0, 1) := by decide +kernel
theorem d_Tai_fill_98 : decode Y_Tai_fill.2.1 98 = .ok (.iload_n 3, 1) := by decide +kernel
theorem d_Tai_fill_99 : decode Y_Tai_fill.2.1 99 = .ok (.iload 4, 2) := by decide +kernel
theorem d_Tai_fill_101 : decode Y_Tai_fill.2.1 101 = .ok (.invokevirtual 53, 3) := by decide +kernel
theorem d_Tai_fill_104 : decode Y_Tai_fill.2.1 104 = .ok (.iastore, 1) := by decide +kernel
theorem d_Tai_fill_105 : decode Y_Tai_fill.2.1 105 = .ok (.iinc 4 1, 3) := by decide +kernel
theorem d_Tai_fill_108 : decode Y_Tai_fill.2.1 108 = .ok (.goto (-44), 3) := by decide +kernel
theorem d_Tai_fill_111 : decode Y_Tai_fill.2.1 111 = .ok (.iload_n 3, 1) := by decide +kernel
theorem d_Tai_fill_112 : decode Y_Tai_fill.2.1 112 = .ok (.iconst 1, 1) := by decide +kernel
theorem d_Tai_fill_113 : decode Y_Tai_fill.2.1 113 = .ok (.isub, 1) := by decide +kernel
theorem d_Tai_fill_114 : decode Y_Tai_fill.2.1 114 = .ok (.aload_n 0, 1) := by decide +kernel
theorem d_Tai_fill_115 : decode Y_Tai_fill.2.1 115 = .ok (.getfield 23, 3) := by decide +kernel
theorem d_Tai_fill_118 : decode Y_Tai_fill.2.1 118 = .ok (.iand, 1) := by decide +kernel
theorem d_Tai_fill_119 : decode Y_Tai_fill.2.1 119 = .ok (.istore_n 3, 1) := by decide +kernel
theorem d_Tai_fill_120 : decode Y_Tai_fill.2.1 120 = .ok (.goto (-63), 3) := by decide +kernel
theorem d_Tai_fill_123 : decode Y_Tai_fill.2.1 123 = .ok (.return_, 1) := by decide +kernel
theorem d_Tai_leastBehind_0 : decode Y_Tai_leastBehind.2.1 0 = .ok (.aload_n 0, 1) := by decide +kernel
theorem d_Tai_leastBehind_1 : decode Y_Tai_leastBehind.2.1 1 = .ok (.iload_n 1, 1) := by decide +kernel
theorem d_Tai_leastBehind_2 : decode Y_Tai_leastBehind.2.1 2 = .ok (.iload_n 2, 1) := by decide +kernel
theorem d_Tai_leastBehind_3 : decode Y_Tai_leastBehind.2.1 3 = .ok (.invokevirtual 75, 3) := by decide +kernel
theorem d_Tai_leastBehind_6 : decode Y_Tai_leastBehind.2.1 6 = .ok (.istore_n 3, 1) := by decide +kernel
theorem d_Tai_leastBehind_7 : decode Y_Tai_leastBehind.2.1 7 = .ok (.aload_n 0, 1) := by decide +kernel
theorem d_Tai_leastBehind_8 : decode Y_Tai_leastBehind.2.1 8 = .ok (.getfield 33, 3) := by decide +kernel
theorem d_Tai_leastBehind_11 : decode Y_Tai_leastBehind.2.1 11 = .ok (.getfield 57, 3) := by decide +kernel
theorem d_Tai_leastBehind_14 : decode Y_Tai_leastBehind.2.1 14 = .ok (.iload_n 1, 1) := by decide +kernel
theorem d_Tai_leastBehind_15 : decode Y_Tai_leastBehind.2.1 15 = .ok (.iaload, 1) := by decide +kernel
theorem d_Tai_leastBehind_16 : decode Y_Tai_leastBehind.2.1 16 = .ok (.aload_n 0, 1) := by decide +kernel
theorem d_Tai_leastBehind_17 : decode Y_Tai_leastBehind.2.1 17 = .ok (.getfield 23, 3) := by decide +kernel
theorem d_Tai_leastBehind_20 : decode Y_Tai_leastBehind.2.1 20 = .ok (.iand, 1) := by decide +kernel
theorem d_Tai_leastBehind_21 : decode Y_Tai_leastBehind.2.1 21 = .ok (.istore 4, 2) := by decide +kernel
theorem d_Tai_leastBehind_23 : decode Y_Tai_leastBehind.2.1 23 = .ok (.iconst 1, 1) := by decide +kernel
theorem d_Tai_leastBehind_24 : decode Y_Tai_leastBehind.2.1 24 = .ok (.istore 5, 2) := by decide +kernel
theorem d_Tai_leastBehind_26 : decode Y_Tai_leastBehind.2.1 26 = .ok (.iload 5, 2) := by decide +kernel
theorem d_Tai_leastBehind_28 : decode Y_Tai_leastBehind.2.1 28 = .ok (.aload_n 0, 1) := by decide +kernel
theorem d_Tai_leastBehind_29 : decode Y_Tai_leastBehind.2.1 29 = .ok (.getfield 29, 3) := by decide +kernel
theorem d_Tai_leastBehind_32 : decode Y_Tai_leastBehind.2.1 32 = .ok (.getfield 46, 3) := by decide +kernel
theorem d_Tai_leastBehind_35 : decode Y_Tai_leastBehind.2.1 35 = .ok (.if_icmp .ge 33, 3) := by decide +kernel
theorem d_Tai_leastBehind_38 : decode Y_Tai_leastBehind.2.1 38 = .ok (.iload 4, 2) := by decide +kernel
theorem d_Tai_leastBehind_40 : decode Y_Tai_leastBehind.2.1 40 = .ok (.iload 5, 2) := by decide +kernel
theorem d_Tai_leastBehind_42 : decode Y_Tai_leastBehind.2.1 42 = .ok (.invokestatic 49, 3) := by decide +kernel
theorem d_Tai_leastBehind_45 : decode Y_Tai_leastBehind.2.1 45 = .ok (.iand, 1) := by decide +kernel
theorem d_Tai_leastBehind_46 : decode Y_Tai_leastBehind.2.1 46 = .ok (.ifCond .eq 16, 3) := by decide +kernel
theorem d_Tai_leastBehind_49 : decode Y_Tai_leastBehind.2.1 49 = .ok (.iload_n 3, 1) := by decide +kernel
theorem d_Tai_leastBehind_50 : decode Y_Tai_leastBehind.2.1 50 = .ok (.aload_n 0, 1) := by decide +kernel
theorem d_Tai_leastBehind_51 : decode Y_Tai_leastBehind.2.1 51 = .ok (.iload_n 1, 1) := by decide +kernel
theorem d_Tai_leastBehind_52 : decode Y_Tai_leastBehind.2.1 52 = .ok (.iload_n 2, 1) := by decide +kernel
theorem d_Tai_leastBehind_53 : decode Y_Tai_leastBehind.2.1 53 = .ok (.iload 5, 2) := by decide +kernel
theorem d_Tai_leastBehind_55 : decode Y_Tai_leastBehind.2.1 55 = .ok (.invokevirtual 78, 3) := by decide +kernel
theorem d_Tai_leastBehind_58 : decode Y_Tai_leastBehind.2.1 58 = .ok (.invokestatic 82, 3) := by decide +kernel
theorem d_Tai_leastBehind_61 : decode Y_Tai_leastBehind.2.1 61 = .ok (.istore_n 3, 1) := by decide +kernel
theorem d_Tai_leastBehind_62 : decode Y_Tai_leastBehind.2.1 62 = .ok (.iinc 5 1, 3) := by decide +kernel
theorem d_Tai_leastBehind_65 : decode Y_Tai_leastBehind.2.1 65 = .ok (.goto (-39), 3) := by decide +kernel
theorem d_Tai_leastBehind_68 : decode Y_Tai_leastBehind.2.1 68 = .ok (.iload_n 3, 1) := by decide +kernel
theorem d_Tai_leastBehind_69 : decode Y_Tai_leastBehind.2.1 69 = .ok (.ireturn, 1) := by decide +kernel
theorem d_Tai_costClosing_0 : decode Y_Tai_costClosing.2.1 0 = .ok (.aload_n 0, 1) := by decide +kernel
theorem d_Tai_costClosing_1 : decode Y_Tai_costClosing.2.1 1 = .ok (.getfield 29, 3) := by decide +kernel
theorem d_Tai_costClosing_4 : decode Y_Tai_costClosing.2.1 4 = .ok (.iload_n 2, 1) := by decide +kernel
theorem d_Tai_costClosing_5 : decode Y_Tai_costClosing.2.1 5 = .ok (.invokevirtual 69, 3) := by decide +kernel
theorem d_Tai_costClosing_8 : decode Y_Tai_costClosing.2.1 8 = .ok (.aload_n 0, 1) := by decide +kernel
theorem d_Tai_costClosing_9 : decode Y_Tai_costClosing.2.1 9 = .ok (.getfield 37, 3) := by decide +kernel
theorem d_Tai_costClosing_12 : decode Y_Tai_costClosing.2.1 12 = .ok (.getfield 72, 3) := by decide +kernel
theorem d_Tai_costClosing_15 : decode Y_Tai_costClosing.2.1 15 = .ok (.aload_n 0, 1) := by decide +kernel
theorem d_Tai_costClosing_16 : decode Y_Tai_costClosing.2.1 16 = .ok (.getfield 26, 3) := by decide +kernel
theorem d_Tai_costClosing_19 : decode Y_Tai_costClosing.2.1 19 = .ok (.iconst 1, 1) := by decide +kernel
theorem d_Tai_costClosing_20 : decode Y_Tai_costClosing.2.1 20 = .ok (.isub, 1) := by decide +kernel
theorem d_Tai_costClosing_21 : decode Y_Tai_costClosing.2.1 21 = .ok (.sipush 256, 3) := by decide +kernel
theorem d_Tai_costClosing_24 : decode Y_Tai_costClosing.2.1 24 = .ok (.imul, 1) := by decide +kernel
theorem d_Tai_costClosing_25 : decode Y_Tai_costClosing.2.1 25 = .ok (.aload_n 0, 1) := by decide +kernel
theorem d_Tai_costClosing_26 : decode Y_Tai_costClosing.2.1 26 = .ok (.getfield 23, 3) := by decide +kernel
theorem d_Tai_costClosing_29 : decode Y_Tai_costClosing.2.1 29 = .ok (.iload_n 1, 1) := by decide +kernel
theorem d_Tai_costClosing_30 : decode Y_Tai_costClosing.2.1 30 = .ok (.iconst (-1), 1) := by decide +kernel
theorem d_Tai_costClosing_31 : decode Y_Tai_costClosing.2.1 31 = .ok (.ixor, 1) := by decide +kernel
theorem d_Tai_costClosing_32 : decode Y_Tai_costClosing.2.1 32 = .ok (.iand, 1) := by decide +kernel
theorem d_Tai_costClosing_33 : decode Y_Tai_costClosing.2.1 33 = .ok (.iadd, 1) := by decide +kernel
theorem d_Tai_costClosing_34 : decode Y_Tai_costClosing.2.1 34 = .ok (.iaload, 1) := by decide +kernel
theorem d_Tai_costClosing_35 : decode Y_Tai_costClosing.2.1 35 = .ok (.invokestatic 66, 3) := by decide +kernel
theorem d_Tai_costClosing_38 : decode Y_Tai_costClosing.2.1 38 = .ok (.ireturn, 1) := by decide +kernel
theorem d_Tai_costOver_0 : decode Y_Tai_costOver.2.1 0 = .ok (.aload_n 0, 1) := by decide +kernel
theorem d_Tai_costOver_1 : decode Y_Tai_costOver.2.1 1 = .ok (.getfield 33, 3) := by decide +kernel
theorem d_Tai_costOver_4 : decode Y_Tai_costOver.2.1 4 = .ok (.getfield 57, 3) := by decide +kernel
theorem d_Tai_costOver_7 : decode Y_Tai_costOver.2.1 7 = .ok (.iload_n 1, 1) := by decide +kernel
theorem d_Tai_costOver_8 : decode Y_Tai_costOver.2.1 8 = .ok (.iaload, 1) := by decide +kernel
theorem d_Tai_costOver_9 : decode Y_Tai_costOver.2.1 9 = .ok (.aload_n 0, 1) := by decide +kernel
theorem d_Tai_costOver_10 : decode Y_Tai_costOver.2.1 10 = .ok (.getfield 23, 3) := by decide +kernel
theorem d_Tai_costOver_13 : decode Y_Tai_costOver.2.1 13 = .ok (.iand, 1) := by decide +kernel
theorem d_Tai_costOver_14 : decode Y_Tai_costOver.2.1 14 = .ok (.iload_n 3, 1) := by decide +kernel
theorem d_Tai_costOver_15 : decode Y_Tai_costOver.2.1 15 = .ok (.invokestatic 49, 3) := by decide +kernel
theorem d_Tai_costOver_18 : decode Y_Tai_costOver.2.1 18 = .ok (.iand, 1) := by decide +kernel
theorem d_Tai_costOver_19 : decode Y_Tai_costOver.2.1 19 = .ok (.ifCond .ne 6, 3) := by decide +kernel
theorem d_Tai_costOver_22 : decode Y_Tai_costOver.2.1 22 = .ok (.ldc 62, 2) := by decide +kernel
theorem d_Tai_costOver_24 : decode Y_Tai_costOver.2.1 24 = .ok (.ireturn, 1) := by decide +kernel
theorem d_Tai_costOver_25 : decode Y_Tai_costOver.2.1 25 = .ok (.aload_n 0, 1) := by decide +kernel
theorem d_Tai_costOver_26 : decode Y_Tai_costOver.2.1 26 = .ok (.getfield 29, 3) := by decide +kernel
theorem d_Tai_costOver_29 : decode Y_Tai_costOver.2.1 29 = .ok (.getfield 63, 3) := by decide +kernel
theorem d_Tai_costOver_32 : decode Y_Tai_costOver.2.1 32 = .ok (.iload_n 2, 1) := by decide +kernel
theorem d_Tai_costOver_33 : decode Y_Tai_costOver.2.1 33 = .ok (.bipush 9, 2) := by decide +kernel
theorem d_Tai_costOver_35 : decode Y_Tai_costOver.2.1 35 = .ok (.imul, 1) := by decide +kernel
theorem d_Tai_costOver_36 : decode Y_Tai_costOver.2.1 36 = .ok (.iload_n 3, 1) := by decide +kernel
theorem d_Tai_costOver_37 : decode Y_Tai_costOver.2.1 37 = .ok (.iadd, 1) := by decide +kernel
theorem d_Tai_costOver_38 : decode Y_Tai_costOver.2.1 38 = .ok (.iaload, 1) := by decide +kernel
theorem d_Tai_costOver_39 : decode Y_Tai_costOver.2.1 39 = .ok (.aload_n 0, 1) := by decide +kernel
theorem d_Tai_costOver_40 : decode Y_Tai_costOver.2.1 40 = .ok (.getfield 9, 3) := by decide +kernel
theorem d_Tai_costOver_43 : decode Y_Tai_costOver.2.1 43 = .ok (.iload_n 1, 1) := by decide +kernel
theorem d_Tai_costOver_44 : decode Y_Tai_costOver.2.1 44 = .ok (.iload_n 3, 1) := by decide +kernel
theorem d_Tai_costOver_45 : decode Y_Tai_costOver.2.1 45 = .ok (.invokestatic 49, 3) := by decide +kernel
theorem d_Tai_costOver_48 : decode Y_Tai_costOver.2.1 48 = .ok (.ior, 1) := by decide +kernel
theorem d_Tai_costOver_49 : decode Y_Tai_costOver.2.1 49 = .ok (.bipush 9, 2) := by decide +kernel
theorem d_Tai_costOver_51 : decode Y_Tai_costOver.2.1 51 = .ok (.imul, 1) := by decide +kernel
theorem d_Tai_costOver_52 : decode Y_Tai_costOver.2.1 52 = .ok (.iload_n 3, 1) := by decide +kernel
theorem d_Tai_costOver_53 : decode Y_Tai_costOver.2.1 53 = .ok (.iadd, 1) := by decide +kernel
theorem d_Tai_costOver_54 : decode Y_Tai_costOver.2.1 54 = .ok (.iaload, 1) := by decide +kernel
theorem d_Tai_costOver_55 : decode Y_Tai_costOver.2.1 55 = .ok (.invokestatic 66, 3) := by decide +kernel
theorem d_Tai_costOver_58 : decode Y_Tai_costOver.2.1 58 = .ok (.ireturn, 1) := by decide +kernel
theorem d_Fir_writeRound_0 : decode Y_Fir_writeRound.2.1 0 = .ok (.iconst 0, 1) := by decide +kernel
theorem d_Fir_writeRound_1 : decode Y_Fir_writeRound.2.1 1 = .ok (.istore_n 1, 1) := by decide +kernel
theorem d_Fir_writeRound_2 : decode Y_Fir_writeRound.2.1 2 = .ok (.iconst 0, 1) := by decide +kernel
theorem d_Fir_writeRound_3 : decode Y_Fir_writeRound.2.1 3 = .ok (.istore_n 2, 1) := by decide +kernel
theorem d_Fir_writeRound_4 : decode Y_Fir_writeRound.2.1 4 = .ok (.iconst 0, 1) := by decide +kernel
theorem d_Fir_writeRound_5 : decode Y_Fir_writeRound.2.1 5 = .ok (.istore_n 3, 1) := by decide +kernel
theorem d_Fir_writeRound_6 : decode Y_Fir_writeRound.2.1 6 = .ok (.iload_n 3, 1) := by decide +kernel
theorem d_Fir_writeRound_7 : decode Y_Fir_writeRound.2.1 7 = .ok (.bipush 9, 2) := by decide +kernel
theorem d_Fir_writeRound_9 : decode Y_Fir_writeRound.2.1 9 = .ok (.if_icmp .ge 89, 3) := by decide +kernel
theorem d_Fir_writeRound_12 : decode Y_Fir_writeRound.2.1 12 = .ok (.iload_n 1, 1) := by decide +kernel
theorem d_Fir_writeRound_13 : decode Y_Fir_writeRound.2.1 13 = .ok (.ifCond .eq 22, 3) := by decide +kernel
theorem d_Fir_writeRound_16 : decode Y_Fir_writeRound.2.1 16 = .ok (.aload_n 0, 1) := by decide +kernel
theorem d_Fir_writeRound_17 : decode Y_Fir_writeRound.2.1 17 = .ok (.getfield 36, 3) := by decide +kernel
theorem d_Fir_writeRound_20 : decode Y_Fir_writeRound.2.1 20 = .ok (.iload_n 1, 1) := by decide +kernel
theorem d_Fir_writeRound_21 : decode Y_Fir_writeRound.2.1 21 = .ok (.iload_n 2, 1) := by decide +kernel
theorem d_Fir_writeRound_22 : decode Y_Fir_writeRound.2.1 22 = .ok (.invokevirtual 73, 3) := by decide +kernel
theorem d_Fir_writeRound_25 : decode Y_Fir_writeRound.2.1 25 = .ok (.aload_n 0, 1) := by decide +kernel
theorem d_Fir_writeRound_26 : decode Y_Fir_writeRound.2.1 26 = .ok (.getfield 22, 3) := by decide +kernel
theorem d_Fir_writeRound_29 : decode Y_Fir_writeRound.2.1 29 = .ok (.if_icmp .ne 6, 3) := by decide +kernel
theorem d_Fir_writeRound_32 : decode Y_Fir_writeRound.2.1 32 = .ok (.goto 66, 3) := by decide +kernel
theorem d_Fir_writeRound_35 : decode Y_Fir_writeRound.2.1 35 = .ok (.aload_n 0, 1) := by decide +kernel
theorem d_Fir_writeRound_36 : decode Y_Fir_writeRound.2.1 36 = .ok (.iload_n 1, 1) := by decide +kernel
theorem d_Fir_writeRound_37 : decode Y_Fir_writeRound.2.1 37 = .ok (.iload_n 2, 1) := by decide +kernel
theorem d_Fir_writeRound_38 : decode Y_Fir_writeRound.2.1 38 = .ok (.invokevirtual 77, 3) := by decide +kernel
theorem d_Fir_writeRound_41 : decode Y_Fir_writeRound.2.1 41 = .ok (.istore 4, 2) := by decide +kernel
theorem d_Fir_writeRound_43 : decode Y_Fir_writeRound.2.1 43 = .ok (.iload 4, 2) := by decide +kernel
theorem d_Fir_writeRound_45 : decode Y_Fir_writeRound.2.1 45 = .ok (.ifCond .ne 6, 3) := by decide +kernel
theorem d_Fir_writeRound_48 : decode Y_Fir_writeRound.2.1 48 = .ok (.goto 50, 3) := by decide +kernel
theorem d_Fir_writeRound_51 : decode Y_Fir_writeRound.2.1 51 = .ok (.aload_n 0, 1) := by decide +kernel
theorem d_Fir_writeRound_52 : decode Y_Fir_writeRound.2.1 52 = .ok (.iload 4, 2) := by decide +kernel
theorem d_Fir_writeRound_54 : decode Y_Fir_writeRound.2.1 54 = .ok (.invokevirtual 60, 3) := by decide +kernel
theorem d_Fir_writeRound_57 : decode Y_Fir_writeRound.2.1 57 = .ok (.aload_n 0, 1) := by decide +kernel
theorem d_Fir_writeRound_58 : decode Y_Fir_writeRound.2.1 58 = .ok (.dup, 1) := by decide +kernel
theorem d_Fir_writeRound_59 : decode Y_Fir_writeRound.2.1 59 = .ok (.getfield 22, 3) := by decide +kernel
theorem d_Fir_writeRound_62 : decode Y_Fir_writeRound.2.1 62 = .ok (.aload_n 0, 1) := by decide +kernel
theorem d_Fir_writeRound_63 : decode Y_Fir_writeRound.2.1 63 = .ok (.getfield 28, 3) := by decide +kernel
theorem d_Fir_writeRound_66 : decode Y_Fir_writeRound.2.1 66 = .ok (.getfield 80, 3) := by decide +kernel
theorem d_Fir_writeRound_69 : decode Y_Fir_writeRound.2.1 69 = .ok (.iload_n 2, 1) := by decide +kernel
theorem d_Fir_writeRound_70 : decode Y_Fir_writeRound.2.1 70 = .ok (.bipush 9, 2) := by decide +kernel
theorem d_Fir_writeRound_72 : decode Y_Fir_writeRound.2.1 72 = .ok (.imul, 1) := by decide +kernel
theorem d_Fir_writeRound_73 : decode Y_Fir_writeRound.2.1 73 = .ok (.iload 4, 2) := by decide +kernel
theorem d_Fir_writeRound_75 : decode Y_Fir_writeRound.2.1 75 = .ok (.iadd, 1) := by decide +kernel
theorem d_Fir_writeRound_76 : decode Y_Fir_writeRound.2.1 76 = .ok (.iaload, 1) := by decide +kernel
theorem d_Fir_writeRound_77 : decode Y_Fir_writeRound.2.1 77 = .ok (.isub, 1) := by decide +kernel
theorem d_Fir_writeRound_78 : decode Y_Fir_writeRound.2.1 78 = .ok (.putfield 22, 3) := by decide +kernel
theorem d_Fir_writeRound_81 : decode Y_Fir_writeRound.2.1 81 = .ok (.iload_n 1, 1) := by decide +kernel
theorem d_Fir_writeRound_82 : decode Y_Fir_writeRound.2.1 82 = .ok (.iload 4, 2) := by decide +kernel
theorem d_Fir_writeRound_84 : decode Y_Fir_writeRound.2.1 84 = .ok (.invokestatic 83, 3) := by decide +kernel
theorem d_Fir_writeRound_87 : decode Y_Fir_writeRound.2.1 87 = .ok (.ior, 1) := by decide +kernel
theorem d_Fir_writeRound_88 : decode Y_Fir_writeRound.2.1 88 = .ok (.istore_n 1, 1) := by decide +kernel
theorem d_Fir_writeRound_89 : decode Y_Fir_writeRound.2.1 89 = .ok (.iload 4, 2) := by decide +kernel
theorem d_Fir_writeRound_91 : decode Y_Fir_writeRound.2.1 91 = .ok (.istore_n 2, 1) := by decide +kernel
theorem d_Fir_writeRound_92 : decode Y_Fir_writeRound.2.1 92 = .ok (.iinc 3 1, 3) := by decide +kernel
theorem d_Fir_writeRound_95 : decode Y_Fir_writeRound.2.1 95 = .ok (.goto (-89), 3) := by decide +kernel
theorem d_Fir_writeRound_98 : decode Y_Fir_writeRound.2.1 98 = .ok (.aload_n 0, 1) := by decide +kernel
theorem d_Fir_writeRound_99 : decode Y_Fir_writeRound.2.1 99 = .ok (.dup, 1) := by decide +kernel
theorem d_Fir_writeRound_100 : decode Y_Fir_writeRound.2.1 100 = .ok (.getfield 22, 3) := by decide +kernel
theorem d_Fir_writeRound_103 : decode Y_Fir_writeRound.2.1 103 = .ok (.aload_n 0, 1) := by decide +kernel
theorem d_Fir_writeRound_104 : decode Y_Fir_writeRound.2.1 104 = .ok (.getfield 28, 3) := by decide +kernel
theorem d_Fir_writeRound_107 : decode Y_Fir_writeRound.2.1 107 = .ok (.iload_n 2, 1) := by decide +kernel
theorem d_Fir_writeRound_108 : decode Y_Fir_writeRound.2.1 108 = .ok (.invokevirtual 87, 3) := by decide +kernel
theorem d_Fir_writeRound_111 : decode Y_Fir_writeRound.2.1 111 = .ok (.isub, 1) := by decide +kernel
theorem d_Fir_writeRound_112 : decode Y_Fir_writeRound.2.1 112 = .ok (.putfield 22, 3) := by decide +kernel
theorem d_Fir_writeRound_115 : decode Y_Fir_writeRound.2.1 115 = .ok (.aload_n 0, 1) := by decide +kernel
theorem d_Fir_writeRound_116 : decode Y_Fir_writeRound.2.1 116 = .ok (.dup, 1) := by decide +kernel
theorem d_Fir_writeRound_117 : decode Y_Fir_writeRound.2.1 117 = .ok (.getfield 25, 3) := by decide +kernel
theorem d_Fir_writeRound_120 : decode Y_Fir_writeRound.2.1 120 = .ok (.iload_n 1, 1) := by decide +kernel
theorem d_Fir_writeRound_121 : decode Y_Fir_writeRound.2.1 121 = .ok (.iconst (-1), 1) := by decide +kernel
theorem d_Fir_writeRound_122 : decode Y_Fir_writeRound.2.1 122 = .ok (.ixor, 1) := by decide +kernel
theorem d_Fir_writeRound_123 : decode Y_Fir_writeRound.2.1 123 = .ok (.iand, 1) := by decide +kernel
theorem d_Fir_writeRound_124 : decode Y_Fir_writeRound.2.1 124 = .ok (.putfield 25, 3) := by decide +kernel
theorem d_Fir_writeRound_127 : decode Y_Fir_writeRound.2.1 127 = .ok (.return_, 1) := by decide +kernel
theorem d_Fir_followerDue_0 : decode Y_Fir_followerDue.2.1 0 = .ok (.iconst 1, 1) := by decide +kernel
theorem d_Fir_followerDue_1 : decode Y_Fir_followerDue.2.1 1 = .ok (.istore_n 3, 1) := by decide +kernel
theorem d_Fir_followerDue_2 : decode Y_Fir_followerDue.2.1 2 = .ok (.iload_n 3, 1) := by decide +kernel
theorem d_Fir_followerDue_3 : decode Y_Fir_followerDue.2.1 3 = .ok (.aload_n 0, 1) := by decide +kernel
theorem d_Fir_followerDue_4 : decode Y_Fir_followerDue.2.1 4 = .ok (.getfield 28, 3) := by decide +kernel
theorem d_Fir_followerDue_7 : decode Y_Fir_followerDue.2.1 7 = .ok (.getfield 90, 3) := by decide +kernel
theorem d_Fir_followerDue_10 : decode Y_Fir_followerDue.2.1 10 = .ok (.if_icmp .ge 28, 3) := by decide +kernel
theorem d_Fir_followerDue_13 : decode Y_Fir_followerDue.2.1 13 = .ok (.aload_n 0, 1) := by decide +kernel
theorem d_Fir_followerDue_14 : decode Y_Fir_followerDue.2.1 14 = .ok (.getfield 36, 3) := by decide +kernel
theorem d_Fir_followerDue_17 : decode Y_Fir_followerDue.2.1 17 = .ok (.iload_n 1, 1) := by decide +kernel
theorem d_Fir_followerDue_18 : decode Y_Fir_followerDue.2.1 18 = .ok (.iload_n 2, 1) := by decide +kernel
theorem d_Fir_followerDue_19 : decode Y_Fir_followerDue.2.1 19 = .ok (.iload_n 3, 1) := by decide +kernel
theorem d_Fir_followerDue_20 : decode Y_Fir_followerDue.2.1 20 = .ok (.invokevirtual 93, 3) := by decide +kernel
theorem d_Fir_followerDue_23 : decode Y_Fir_followerDue.2.1 23 = .ok (.aload_n 0, 1) := by decide +kernel
theorem d_Fir_followerDue_24 : decode Y_Fir_followerDue.2.1 24 = .ok (.getfield 22, 3) := by decide +kernel
theorem d_Fir_followerDue_27 : decode Y_Fir_followerDue.2.1 27 = .ok (.if_icmp .ne 5, 3) := by decide +kernel
theorem d_Fir_followerDue_30 : decode Y_Fir_followerDue.2.1 30 = .ok (.iload_n 3, 1) := by decide +kernel
theorem d_Fir_followerDue_31 : decode Y_Fir_followerDue.2.1 31 = .ok (.ireturn, 1) := by decide +kernel
theorem d_Fir_followerDue_32 : decode Y_Fir_followerDue.2.1 32 = .ok (.iinc 3 1, 3) := by decide +kernel
theorem d_Fir_followerDue_35 : decode Y_Fir_followerDue.2.1 35 = .ok (.goto (-33), 3) := by decide +kernel
theorem d_Fir_followerDue_38 : decode Y_Fir_followerDue.2.1 38 = .ok (.iconst 0, 1) := by decide +kernel
theorem d_Fir_followerDue_39 : decode Y_Fir_followerDue.2.1 39 = .ok (.ireturn, 1) := by decide +kernel
theorem d_Tai_leastThrough_0 : decode Y_Tai_leastThrough.2.1 0 = .ok (.aload_n 0, 1) := by decide +kernel
theorem d_Tai_leastThrough_1 : decode Y_Tai_leastThrough.2.1 1 = .ok (.getfield 29, 3) := by decide +kernel
theorem d_Tai_leastThrough_4 : decode Y_Tai_leastThrough.2.1 4 = .ok (.getfield 63, 3) := by decide +kernel
theorem d_Tai_leastThrough_7 : decode Y_Tai_leastThrough.2.1 7 = .ok (.iload_n 1, 1) := by decide +kernel
theorem d_Tai_leastThrough_8 : decode Y_Tai_leastThrough.2.1 8 = .ok (.bipush 9, 2) := by decide +kernel
theorem d_Tai_leastThrough_10 : decode Y_Tai_leastThrough.2.1 10 = .ok (.imul, 1) := by decide +kernel
theorem d_Tai_leastThrough_11 : decode Y_Tai_leastThrough.2.1 11 = .ok (.iload_n 2, 1) := by decide +kernel
theorem d_Tai_leastThrough_12 : decode Y_Tai_leastThrough.2.1 12 = .ok (.iadd, 1) := by decide +kernel
theorem d_Tai_leastThrough_13 : decode Y_Tai_leastThrough.2.1 13 = .ok (.iaload, 1) := by decide +kernel
theorem d_Tai_leastThrough_14 : decode Y_Tai_leastThrough.2.1 14 = .ok (.ldc 62, 2) := by decide +kernel
theorem d_Tai_leastThrough_16 : decode Y_Tai_leastThrough.2.1 16 = .ok (.if_icmp .eq 18, 3) := by decide +kernel
theorem d_Tai_leastThrough_19 : decode Y_Tai_leastThrough.2.1 19 = .ok (.iload_n 2, 1) := by decide +kernel
theorem d_Tai_leastThrough_20 : decode Y_Tai_leastThrough.2.1 20 = .ok (.ifCond .ne 17, 3) := by decide +kernel
theorem d_Tai_leastThrough_23 : decode Y_Tai_leastThrough.2.1 23 = .ok (.aload_n 0, 1) := by decide +kernel
theorem d_Tai_leastThrough_24 : decode Y_Tai_leastThrough.2.1 24 = .ok (.getfield 29, 3) := by decide +kernel
theorem d_Tai_leastThrough_27 : decode Y_Tai_leastThrough.2.1 27 = .ok (.getfield 87, 3) := by decide +kernel
theorem d_Tai_leastThrough_30 : decode Y_Tai_leastThrough.2.1 30 = .ok (.iconst 1, 1) := by decide +kernel
theorem d_Tai_leastThrough_31 : decode Y_Tai_leastThrough.2.1 31 = .ok (.if_icmp .ne 6, 3) := by decide +kernel
theorem d_Tai_leastThrough_34 : decode Y_Tai_leastThrough.2.1 34 = .ok (.ldc 62, 2) := by decide +kernel
theorem d_Tai_leastThrough_36 : decode Y_Tai_leastThrough.2.1 36 = .ok (.ireturn, 1) := by decide +kernel
theorem d_Tai_leastThrough_37 : decode Y_Tai_leastThrough.2.1 37 = .ok (.ldc 62, 2) := by decide +kernel
theorem d_Tai_leastThrough_39 : decode Y_Tai_leastThrough.2.1 39 = .ok (.istore 4, 2) := by decide +kernel
theorem d_Tai_leastThrough_41 : decode Y_Tai_leastThrough.2.1 41 = .ok (.aload_n 0, 1) := by decide +kernel
theorem d_Tai_leastThrough_42 : decode Y_Tai_leastThrough.2.1 42 = .ok (.getfield 29, 3) := by decide +kernel
theorem d_Tai_leastThrough_45 : decode Y_Tai_leastThrough.2.1 45 = .ok (.invokevirtual 90, 3) := by decide +kernel
theorem d_Tai_leastThrough_48 : decode Y_Tai_leastThrough.2.1 48 = .ok (.istore 5, 2) := by decide +kernel
theorem d_Tai_leastThrough_50 : decode Y_Tai_leastThrough.2.1 50 = .ok (.iconst 0, 1) := by decide +kernel
theorem d_Tai_leastThrough_51 : decode Y_Tai_leastThrough.2.1 51 = .ok (.istore 6, 2) := by decide +kernel
theorem d_Tai_leastThrough_53 : decode Y_Tai_leastThrough.2.1 53 = .ok (.iload 6, 2) := by decide +kernel
theorem d_Tai_leastThrough_55 : decode Y_Tai_leastThrough.2.1 55 = .ok (.iload 5, 2) := by decide +kernel
theorem d_Tai_leastThrough_57 : decode Y_Tai_leastThrough.2.1 57 = .ok (.if_icmp .gt 84, 3) := by decide +kernel
theorem d_Tai_leastThrough_60 : decode Y_Tai_leastThrough.2.1 60 = .ok (.iload 4, 2) := by decide +kernel
theorem d_Tai_leastThrough_62 : decode Y_Tai_leastThrough.2.1 62 = .ok (.iload_n 3, 1) := by decide +kernel
theorem d_Tai_leastThrough_63 : decode Y_Tai_leastThrough.2.1 63 = .ok (.if_icmp .gt 10, 3) := by decide +kernel
theorem d_Tai_leastThrough_66 : decode Y_Tai_leastThrough.2.1 66 = .ok (.iload 4, 2) := by decide +kernel
theorem d_Tai_leastThrough_68 : decode Y_Tai_leastThrough.2.1 68 = .ok (.ldc 62, 2) := by decide +kernel
theorem d_Tai_leastThrough_70 : decode Y_Tai_leastThrough.2.1 70 = .ok (.if_icmp .ne 71, 3) := by decide +kernel
theorem d_Tai_leastThrough_73 : decode Y_Tai_leastThrough.2.1 73 = .ok (.aload_n 0, 1) := by decide +kernel
theorem d_Tai_leastThrough_74 : decode Y_Tai_leastThrough.2.1 74 = .ok (.getfield 33, 3) := by decide +kernel
theorem d_Tai_leastThrough_77 : decode Y_Tai_leastThrough.2.1 77 = .ok (.getfield 94, 3) := by decide +kernel
theorem d_Tai_leastThrough_80 : decode Y_Tai_leastThrough.2.1 80 = .ok (.iload 6, 2) := by decide +kernel
theorem d_Tai_leastThrough_82 : decode Y_Tai_leastThrough.2.1 82 = .ok (.bipush 9, 2) := by decide +kernel
theorem d_Tai_leastThrough_84 : decode Y_Tai_leastThrough.2.1 84 = .ok (.imul, 1) := by decide +kernel
theorem d_Tai_leastThrough_85 : decode Y_Tai_leastThrough.2.1 85 = .ok (.iload_n 1, 1) := by decide +kernel
theorem d_Tai_leastThrough_86 : decode Y_Tai_leastThrough.2.1 86 = .ok (.iadd, 1) := by decide +kernel
theorem d_Tai_leastThrough_87 : decode Y_Tai_leastThrough.2.1 87 = .ok (.iaload, 1) := by decide +kernel
theorem d_Tai_leastThrough_88 : decode Y_Tai_leastThrough.2.1 88 = .ok (.istore 7, 2) := by decide +kernel
theorem d_Tai_leastThrough_90 : decode Y_Tai_leastThrough.2.1 90 = .ok (.iload 7, 2) := by decide +kernel
theorem d_Tai_leastThrough_92 : decode Y_Tai_leastThrough.2.1 92 = .ok (.ldc 62, 2) := by decide +kernel
theorem d_Tai_leastThrough_94 : decode Y_Tai_leastThrough.2.1 94 = .ok (.if_icmp .eq 41, 3) := by decide +kernel
theorem d_Tai_leastThrough_97 : decode Y_Tai_leastThrough.2.1 97 = .ok (.iload_n 2, 1) := by decide +kernel
theorem d_Tai_leastThrough_98 : decode Y_Tai_leastThrough.2.1 98 = .ok (.ifCond .ne 13, 3) := by decide +kernel
theorem d_Tai_leastThrough_101 : decode Y_Tai_leastThrough.2.1 101 = .ok (.aload_n 0, 1) := by decide +kernel
theorem d_Tai_leastThrough_102 : decode Y_Tai_leastThrough.2.1 102 = .ok (.iload 6, 2) := by decide +kernel
theorem d_Tai_leastThrough_104 : decode Y_Tai_leastThrough.2.1 104 = .ok (.iload_n 1, 1) := by decide +kernel
theorem d_Tai_leastThrough_105 : decode Y_Tai_leastThrough.2.1 105 = .ok (.invokevirtual 75, 3) := by decide +kernel
theorem d_Tai_leastThrough_108 : decode Y_Tai_leastThrough.2.1 108 = .ok (.goto 11, 3) := by decide +kernel
theorem d_Tai_leastThrough_111 : decode Y_Tai_leastThrough.2.1 111 = .ok (.aload_n 0, 1) := by decide +kernel
theorem d_Tai_leastThrough_112 : decode Y_Tai_leastThrough.2.1 112 = .ok (.iload 6, 2) := by decide +kernel
theorem d_Tai_leastThrough_114 : decode Y_Tai_leastThrough.2.1 114 = .ok (.iload_n 1, 1) := by decide +kernel
theorem d_Tai_leastThrough_115 : decode Y_Tai_leastThrough.2.1 115 = .ok (.iload_n 2, 1) := by decide +kernel
theorem d_Tai_leastThrough_116 : decode Y_Tai_leastThrough.2.1 116 = .ok (.invokevirtual 78, 3) := by decide +kernel
theorem d_Tai_leastThrough_119 : decode Y_Tai_leastThrough.2.1 119 = .ok (.istore 8, 2) := by decide +kernel
theorem d_Tai_leastThrough_121 : decode Y_Tai_leastThrough.2.1 121 = .ok (.iload 4, 2) := by decide +kernel
theorem d_Tai_leastThrough_123 : decode Y_Tai_leastThrough.2.1 123 = .ok (.iload 7, 2) := by decide +kernel
theorem d_Tai_leastThrough_125 : decode Y_Tai_leastThrough.2.1 125 = .ok (.iload 8, 2) := by decide +kernel
theorem d_Tai_leastThrough_127 : decode Y_Tai_leastThrough.2.1 127 = .ok (.invokestatic 66, 3) := by decide +kernel
theorem d_Tai_leastThrough_130 : decode Y_Tai_leastThrough.2.1 130 = .ok (.invokestatic 82, 3) := by decide +kernel
theorem d_Tai_leastThrough_133 : decode Y_Tai_leastThrough.2.1 133 = .ok (.istore 4, 2) := by decide +kernel
theorem d_Tai_leastThrough_135 : decode Y_Tai_leastThrough.2.1 135 = .ok (.iinc 6 1, 3) := by decide +kernel
theorem d_Tai_leastThrough_138 : decode Y_Tai_leastThrough.2.1 138 = .ok (.goto (-85), 3) := by decide +kernel
theorem d_Tai_leastThrough_141 : decode Y_Tai_leastThrough.2.1 141 = .ok (.iload 4, 2) := by decide +kernel
theorem d_Tai_leastThrough_143 : decode Y_Tai_leastThrough.2.1 143 = .ok (.ireturn, 1) := by decide +kernel
theorem d_Sha_leastLeavingOut_0 : decode Y_Sha_leastLeavingOut.2.1 0 = .ok (.aload_n 0, 1) := by decide +kernel
theorem d_Sha_leastLeavingOut_1 : decode Y_Sha_leastLeavingOut.2.1 1 = .ok (.getfield 9, 3) := by decide +kernel
theorem d_Sha_leastLeavingOut_4 : decode Y_Sha_leastLeavingOut.2.1 4 = .ok (.iload_n 1, 1) := by decide +kernel
theorem d_Sha_leastLeavingOut_5 : decode Y_Sha_leastLeavingOut.2.1 5 = .ok (.invokestatic 70, 3) := by decide +kernel
theorem d_Sha_leastLeavingOut_8 : decode Y_Sha_leastLeavingOut.2.1 8 = .ok (.iaload, 1) := by decide +kernel
theorem d_Sha_leastLeavingOut_9 : decode Y_Sha_leastLeavingOut.2.1 9 = .ok (.aload_n 0, 1) := by decide +kernel
theorem d_Sha_leastLeavingOut_10 : decode Y_Sha_leastLeavingOut.2.1 10 = .ok (.getfield 9, 3) := by decide +kernel
theorem d_Sha_leastLeavingOut_13 : decode Y_Sha_leastLeavingOut.2.1 13 = .ok (.aload_n 0, 1) := by decide +kernel
theorem d_Sha_leastLeavingOut_14 : decode Y_Sha_leastLeavingOut.2.1 14 = .ok (.getfield 29, 3) := by decide +kernel
theorem d_Sha_leastLeavingOut_17 : decode Y_Sha_leastLeavingOut.2.1 17 = .ok (.getfield 55, 3) := by decide +kernel
theorem d_Sha_leastLeavingOut_20 : decode Y_Sha_leastLeavingOut.2.1 20 = .ok (.sipush 256, 3) := by decide +kernel
theorem d_Sha_leastLeavingOut_23 : decode Y_Sha_leastLeavingOut.2.1 23 = .ok (.imul, 1) := by decide +kernel
theorem d_Sha_leastLeavingOut_24 : decode Y_Sha_leastLeavingOut.2.1 24 = .ok (.aload_n 0, 1) := by decide +kernel
theorem d_Sha_leastLeavingOut_25 : decode Y_Sha_leastLeavingOut.2.1 25 = .ok (.getfield 29, 3) := by decide +kernel
theorem d_Sha_leastLeavingOut_28 : decode Y_Sha_leastLeavingOut.2.1 28 = .ok (.invokevirtual 47, 3) := by decide +kernel
theorem d_Sha_leastLeavingOut_31 : decode Y_Sha_leastLeavingOut.2.1 31 = .ok (.iload_n 1, 1) := by decide +kernel
theorem d_Sha_leastLeavingOut_32 : decode Y_Sha_leastLeavingOut.2.1 32 = .ok (.invokestatic 70, 3) := by decide +kernel
theorem d_Sha_leastLeavingOut_35 : decode Y_Sha_leastLeavingOut.2.1 35 = .ok (.iconst (-1), 1) := by decide +kernel
theorem d_Sha_leastLeavingOut_36 : decode Y_Sha_leastLeavingOut.2.1 36 = .ok (.ixor, 1) := by decide +kernel
theorem d_Sha_leastLeavingOut_37 : decode Y_Sha_leastLeavingOut.2.1 37 = .ok (.iand, 1) := by decide +kernel
theorem d_Sha_leastLeavingOut_38 : decode Y_Sha_leastLeavingOut.2.1 38 = .ok (.iadd, 1) := by decide +kernel
theorem d_Sha_leastLeavingOut_39 : decode Y_Sha_leastLeavingOut.2.1 39 = .ok (.iaload, 1) := by decide +kernel
theorem d_Sha_leastLeavingOut_40 : decode Y_Sha_leastLeavingOut.2.1 40 = .ok (.invokestatic 73, 3) := by decide +kernel
theorem d_Sha_leastLeavingOut_43 : decode Y_Sha_leastLeavingOut.2.1 43 = .ok (.ireturn, 1) := by decide +kernel
theorem d_Tai_dropArcsAbove_0 : decode Y_Tai_dropArcsAbove.2.1 0 = .ok (.iconst 0, 1) := by decide +kernel
theorem d_Tai_dropArcsAbove_1 : decode Y_Tai_dropArcsAbove.2.1 1 = .ok (.istore_n 2, 1) := by decide +kernel
theorem d_Tai_dropArcsAbove_2 : decode Y_Tai_dropArcsAbove.2.1 2 = .ok (.iload_n 2, 1) := by decide +kernel
theorem d_Tai_dropArcsAbove_3 : decode Y_Tai_dropArcsAbove.2.1 3 = .ok (.aload_n 0, 1) := by decide +kernel
theorem d_Tai_dropArcsAbove_4 : decode Y_Tai_dropArcsAbove.2.1 4 = .ok (.getfield 29, 3) := by decide +kernel
theorem d_Tai_dropArcsAbove_7 : decode Y_Tai_dropArcsAbove.2.1 7 = .ok (.getfield 46, 3) := by decide +kernel
theorem d_Tai_dropArcsAbove_10 : decode Y_Tai_dropArcsAbove.2.1 10 = .ok (.if_icmp .ge 66, 3) := by decide +kernel
theorem d_Tai_dropArcsAbove_13 : decode Y_Tai_dropArcsAbove.2.1 13 = .ok (.iconst 0, 1) := by decide +kernel
theorem d_Tai_dropArcsAbove_14 : decode Y_Tai_dropArcsAbove.2.1 14 = .ok (.istore_n 3, 1) := by decide +kernel
theorem d_Tai_dropArcsAbove_15 : decode Y_Tai_dropArcsAbove.2.1 15 = .ok (.iload_n 3, 1) := by decide +kernel
theorem d_Tai_dropArcsAbove_16 : decode Y_Tai_dropArcsAbove.2.1 16 = .ok (.aload_n 0, 1) := by decide +kernel
theorem d_Tai_dropArcsAbove_17 : decode Y_Tai_dropArcsAbove.2.1 17 = .ok (.getfield 29, 3) := by decide +kernel
theorem d_Tai_dropArcsAbove_20 : decode Y_Tai_dropArcsAbove.2.1 20 = .ok (.getfield 46, 3) := by decide +kernel
theorem d_Tai_dropArcsAbove_23 : decode Y_Tai_dropArcsAbove.2.1 23 = .ok (.if_icmp .ge 47, 3) := by decide +kernel
theorem d_Tai_dropArcsAbove_26 : decode Y_Tai_dropArcsAbove.2.1 26 = .ok (.aload_n 0, 1) := by decide +kernel
theorem d_Tai_dropArcsAbove_27 : decode Y_Tai_dropArcsAbove.2.1 27 = .ok (.iload_n 2, 1) := by decide +kernel
theorem d_Tai_dropArcsAbove_28 : decode Y_Tai_dropArcsAbove.2.1 28 = .ok (.iload_n 3, 1) := by decide +kernel
theorem d_Tai_dropArcsAbove_29 : decode Y_Tai_dropArcsAbove.2.1 29 = .ok (.iload_n 1, 1) := by decide +kernel
theorem d_Tai_dropArcsAbove_30 : decode Y_Tai_dropArcsAbove.2.1 30 = .ok (.invokevirtual 97, 3) := by decide +kernel
theorem d_Tai_dropArcsAbove_33 : decode Y_Tai_dropArcsAbove.2.1 33 = .ok (.istore 4, 2) := by decide +kernel
theorem d_Tai_dropArcsAbove_35 : decode Y_Tai_dropArcsAbove.2.1 35 = .ok (.aload_n 0, 1) := by decide +kernel
theorem d_Tai_dropArcsAbove_36 : decode Y_Tai_dropArcsAbove.2.1 36 = .ok (.getfield 15, 3) := by decide +kernel
theorem d_Tai_dropArcsAbove_39 : decode Y_Tai_dropArcsAbove.2.1 39 = .ok (.iload_n 2, 1) := by decide +kernel
theorem d_Tai_dropArcsAbove_40 : decode Y_Tai_dropArcsAbove.2.1 40 = .ok (.bipush 9, 2) := by decide +kernel
theorem d_Tai_dropArcsAbove_42 : decode Y_Tai_dropArcsAbove.2.1 42 = .ok (.imul, 1) := by decide +kernel
theorem d_Tai_dropArcsAbove_43 : decode Y_Tai_dropArcsAbove.2.1 43 = .ok (.iload_n 3, 1) := by decide +kernel
theorem d_Tai_dropArcsAbove_44 : decode Y_Tai_dropArcsAbove.2.1 44 = .ok (.iadd, 1) := by decide +kernel
theorem d_Tai_dropArcsAbove_45 : decode Y_Tai_dropArcsAbove.2.1 45 = .ok (.iload 4, 2) := by decide +kernel
theorem d_Tai_dropArcsAbove_47 : decode Y_Tai_dropArcsAbove.2.1 47 = .ok (.ldc 62, 2) := by decide +kernel
theorem d_Tai_dropArcsAbove_49 : decode Y_Tai_dropArcsAbove.2.1 49 = .ok (.if_icmp .eq 9, 3) := by decide +kernel
theorem d_Tai_dropArcsAbove_52 : decode Y_Tai_dropArcsAbove.2.1 52 = .ok (.iload 4, 2) := by decide +kernel
theorem d_Tai_dropArcsAbove_54 : decode Y_Tai_dropArcsAbove.2.1 54 = .ok (.iload_n 1, 1) := by decide +kernel
theorem d_Tai_dropArcsAbove_55 : decode Y_Tai_dropArcsAbove.2.1 55 = .ok (.if_icmp .le 7, 3) := by decide +kernel
theorem d_Tai_dropArcsAbove_58 : decode Y_Tai_dropArcsAbove.2.1 58 = .ok (.iconst 1, 1) := by decide +kernel
theorem d_Tai_dropArcsAbove_59 : decode Y_Tai_dropArcsAbove.2.1 59 = .ok (.goto 4, 3) := by decide +kernel
theorem d_Tai_dropArcsAbove_62 : decode Y_Tai_dropArcsAbove.2.1 62 = .ok (.iconst 0, 1) := by decide +kernel
theorem d_Tai_dropArcsAbove_63 : decode Y_Tai_dropArcsAbove.2.1 63 = .ok (.bastore, 1) := by decide +kernel
theorem d_Tai_dropArcsAbove_64 : decode Y_Tai_dropArcsAbove.2.1 64 = .ok (.iinc 3 1, 3) := by decide +kernel
theorem d_Tai_dropArcsAbove_67 : decode Y_Tai_dropArcsAbove.2.1 67 = .ok (.goto (-52), 3) := by decide +kernel
theorem d_Tai_dropArcsAbove_70 : decode Y_Tai_dropArcsAbove.2.1 70 = .ok (.iinc 2 1, 3) := by decide +kernel
theorem d_Tai_dropArcsAbove_73 : decode Y_Tai_dropArcsAbove.2.1 73 = .ok (.goto (-71), 3) := by decide +kernel
theorem d_Tai_dropArcsAbove_76 : decode Y_Tai_dropArcsAbove.2.1 76 = .ok (.iconst 0, 1) := by decide +kernel
theorem d_Tai_dropArcsAbove_77 : decode Y_Tai_dropArcsAbove.2.1 77 = .ok (.istore_n 2, 1) := by decide +kernel
theorem d_Tai_dropArcsAbove_78 : decode Y_Tai_dropArcsAbove.2.1 78 = .ok (.iconst 0, 1) := by decide +kernel
theorem d_Tai_dropArcsAbove_79 : decode Y_Tai_dropArcsAbove.2.1 79 = .ok (.istore_n 3, 1) := by decide +kernel
theorem d_Tai_dropArcsAbove_80 : decode Y_Tai_dropArcsAbove.2.1 80 = .ok (.iload_n 3, 1) := by decide +kernel
theorem d_Tai_dropArcsAbove_81 : decode Y_Tai_dropArcsAbove.2.1 81 = .ok (.aload_n 0, 1) := by decide +kernel
theorem d_Tai_dropArcsAbove_82 : decode Y_Tai_dropArcsAbove.2.1 82 = .ok (.getfield 29, 3) := by decide +kernel
theorem d_Tai_dropArcsAbove_85 : decode Y_Tai_dropArcsAbove.2.1 85 = .ok (.getfield 46, 3) := by decide +kernel
theorem d_Tai_dropArcsAbove_88 : decode Y_Tai_dropArcsAbove.2.1 88 = .ok (.if_icmp .ge 65, 3) := by decide +kernel
theorem d_Tai_dropArcsAbove_91 : decode Y_Tai_dropArcsAbove.2.1 91 = .ok (.iconst 0, 1) := by decide +kernel
theorem d_Tai_dropArcsAbove_92 : decode Y_Tai_dropArcsAbove.2.1 92 = .ok (.istore 4, 2) := by decide +kernel
theorem d_Tai_dropArcsAbove_94 : decode Y_Tai_dropArcsAbove.2.1 94 = .ok (.iload 4, 2) := by decide +kernel
theorem d_Tai_dropArcsAbove_96 : decode Y_Tai_dropArcsAbove.2.1 96 = .ok (.aload_n 0, 1) := by decide +kernel
theorem d_Tai_dropArcsAbove_97 : decode Y_Tai_dropArcsAbove.2.1 97 = .ok (.getfield 29, 3) := by decide +kernel
theorem d_Tai_dropArcsAbove_100 : decode Y_Tai_dropArcsAbove.2.1 100 = .ok (.getfield 46, 3) := by decide +kernel
theorem d_Tai_dropArcsAbove_103 : decode Y_Tai_dropArcsAbove.2.1 103 = .ok (.if_icmp .ge 44, 3) := by decide +kernel
theorem d_Tai_dropArcsAbove_106 : decode Y_Tai_dropArcsAbove.2.1 106 = .ok (.aload_n 0, 1) := by decide +kernel
theorem d_Tai_dropArcsAbove_107 : decode Y_Tai_dropArcsAbove.2.1 107 = .ok (.getfield 15, 3) := by decide +kernel
theorem d_Tai_dropArcsAbove_110 : decode Y_Tai_dropArcsAbove.2.1 110 = .ok (.iload_n 3, 1) := by decide +kernel
theorem d_Tai_dropArcsAbove_111 : decode Y_Tai_dropArcsAbove.2.1 111 = .ok (.bipush 9, 2) := by decide +kernel
theorem d_Tai_dropArcsAbove_113 : decode Y_Tai_dropArcsAbove.2.1 113 = .ok (.imul, 1) := by decide +kernel
theorem d_Tai_dropArcsAbove_114 : decode Y_Tai_dropArcsAbove.2.1 114 = .ok (.iload 4, 2) := by decide +kernel
theorem d_Tai_dropArcsAbove_116 : decode Y_Tai_dropArcsAbove.2.1 116 = .ok (.iadd, 1) := by decide +kernel
theorem d_Tai_dropArcsAbove_117 : decode Y_Tai_dropArcsAbove.2.1 117 = .ok (.baload, 1) := by decide +kernel
theorem d_Tai_dropArcsAbove_118 : decode Y_Tai_dropArcsAbove.2.1 118 = .ok (.ifCond .eq 23, 3) := by decide +kernel
theorem d_Tai_dropArcsAbove_121 : decode Y_Tai_dropArcsAbove.2.1 121 = .ok (.aload_n 0, 1) := by decide +kernel
theorem d_Tai_dropArcsAbove_122 : decode Y_Tai_dropArcsAbove.2.1 122 = .ok (.getfield 29, 3) := by decide +kernel
theorem d_Tai_dropArcsAbove_125 : decode Y_Tai_dropArcsAbove.2.1 125 = .ok (.iload_n 3, 1) := by decide +kernel
theorem d_Tai_dropArcsAbove_126 : decode Y_Tai_dropArcsAbove.2.1 126 = .ok (.iload 4, 2) := by decide +kernel
theorem d_Tai_dropArcsAbove_128 : decode Y_Tai_dropArcsAbove.2.1 128 = .ok (.ldc 62, 2) := by decide +kernel
theorem d_Tai_dropArcsAbove_130 : decode Y_Tai_dropArcsAbove.2.1 130 = .ok (.invokevirtual 100, 3) := by decide +kernel
theorem d_Tai_dropArcsAbove_133 : decode Y_Tai_dropArcsAbove.2.1 133 = .ok (.ldc 62, 2) := by decide +kernel
theorem d_Tai_dropArcsAbove_135 : decode Y_Tai_dropArcsAbove.2.1 135 = .ok (.if_icmp .eq 6, 3) := by decide +kernel
theorem d_Tai_dropArcsAbove_138 : decode Y_Tai_dropArcsAbove.2.1 138 = .ok (.iinc 2 1, 3) := by decide +kernel
theorem d_Tai_dropArcsAbove_141 : decode Y_Tai_dropArcsAbove.2.1 141 = .ok (.iinc 4 1, 3) := by decide +kernel
theorem d_Tai_dropArcsAbove_144 : decode Y_Tai_dropArcsAbove.2.1 144 = .ok (.goto (-50), 3) := by decide +kernel
theorem d_Tai_dropArcsAbove_147 : decode Y_Tai_dropArcsAbove.2.1 147 = .ok (.iinc 3 1, 3) := by decide +kernel
theorem d_Tai_dropArcsAbove_150 : decode Y_Tai_dropArcsAbove.2.1 150 = .ok (.goto (-70), 3) := by decide +kernel
theorem d_Tai_dropArcsAbove_153 : decode Y_Tai_dropArcsAbove.2.1 153 = .ok (.iload_n 2, 1) := by decide +kernel
theorem d_Tai_dropArcsAbove_154 : decode Y_Tai_dropArcsAbove.2.1 154 = .ok (.ireturn, 1) := by decide +kernel
theorem d_Tre_changeWeight_0 : decode Y_Tre_changeWeight.2.1 0 = .ok (.aload_n 0, 1) := by decide +kernel
theorem d_Tre_changeWeight_1 : decode Y_Tre_changeWeight.2.1 1 = .ok (.getfield 9, 3) := by decide +kernel
theorem d_Tre_changeWeight_4 : decode Y_Tre_changeWeight.2.1 4 = .ok (.iload_n 1, 1) := by decide +kernel
theorem d_Tre_changeWeight_5 : decode Y_Tre_changeWeight.2.1 5 = .ok (.iaload, 1) := by decide +kernel
theorem d_Tre_changeWeight_6 : decode Y_Tre_changeWeight.2.1 6 = .ok (.istore_n 3, 1) := by decide +kernel
theorem d_Tre_changeWeight_7 : decode Y_Tre_changeWeight.2.1 7 = .ok (.aload_n 0, 1) := by decide +kernel
theorem d_Tre_changeWeight_8 : decode Y_Tre_changeWeight.2.1 8 = .ok (.getfield 9, 3) := by decide +kernel
theorem d_Tre_changeWeight_11 : decode Y_Tre_changeWeight.2.1 11 = .ok (.iload_n 1, 1) := by decide +kernel
theorem d_Tre_changeWeight_12 : decode Y_Tre_changeWeight.2.1 12 = .ok (.iload_n 2, 1) := by decide +kernel
theorem d_Tre_changeWeight_13 : decode Y_Tre_changeWeight.2.1 13 = .ok (.iastore, 1) := by decide +kernel
theorem d_Tre_changeWeight_14 : decode Y_Tre_changeWeight.2.1 14 = .ok (.iload_n 3, 1) := by decide +kernel
theorem d_Tre_changeWeight_15 : decode Y_Tre_changeWeight.2.1 15 = .ok (.ireturn, 1) := by decide +kernel
theorem d_Tre_grow_0 : decode Y_Tre_grow.2.1 0 = .ok (.aload_n 0, 1) := by decide +kernel
theorem d_Tre_grow_1 : decode Y_Tre_grow.2.1 1 = .ok (.iconst 0, 1) := by decide +kernel
theorem d_Tre_grow_2 : decode Y_Tre_grow.2.1 2 = .ok (.putfield 24, 3) := by decide +kernel
theorem d_Tre_grow_5 : decode Y_Tre_grow.2.1 5 = .ok (.aload_n 0, 1) := by decide +kernel
theorem d_Tre_grow_6 : decode Y_Tre_grow.2.1 6 = .ok (.iconst 0, 1) := by decide +kernel
theorem d_Tre_grow_7 : decode Y_Tre_grow.2.1 7 = .ok (.putfield 28, 3) := by decide +kernel
theorem d_Tre_grow_10 : decode Y_Tre_grow.2.1 10 = .ok (.aload_n 0, 1) := by decide +kernel
theorem d_Tre_grow_11 : decode Y_Tre_grow.2.1 11 = .ok (.getfield 31, 3) := by decide +kernel
theorem d_Tre_grow_14 : decode Y_Tre_grow.2.1 14 = .ok (.getfield 35, 3) := by decide +kernel
theorem d_Tre_grow_17 : decode Y_Tre_grow.2.1 17 = .ok (.iconst 3, 1) := by decide +kernel
theorem d_Tre_grow_18 : decode Y_Tre_grow.2.1 18 = .ok (.if_icmp .ge 5, 3) := by decide +kernel
theorem d_Tre_grow_21 : decode Y_Tre_grow.2.1 21 = .ok (.iconst 0, 1) := by decide +kernel
theorem d_Tre_grow_22 : decode Y_Tre_grow.2.1 22 = .ok (.ireturn, 1) := by decide +kernel
theorem d_Tre_grow_23 : decode Y_Tre_grow.2.1 23 = .ok (.iconst 0, 1) := by decide +kernel
theorem d_Tre_grow_24 : decode Y_Tre_grow.2.1 24 = .ok (.istore_n 1, 1) := by decide +kernel
theorem d_Tre_grow_25 : decode Y_Tre_grow.2.1 25 = .ok (.iload_n 1, 1) := by decide +kernel
theorem d_Tre_grow_26 : decode Y_Tre_grow.2.1 26 = .ok (.aload_n 0, 1) := by decide +kernel
theorem d_Tre_grow_27 : decode Y_Tre_grow.2.1 27 = .ok (.getfield 31, 3) := by decide +kernel
theorem d_Tre_grow_30 : decode Y_Tre_grow.2.1 30 = .ok (.getfield 35, 3) := by decide +kernel
theorem d_Tre_grow_33 : decode Y_Tre_grow.2.1 33 = .ok (.if_icmp .ge 16, 3) := by decide +kernel
theorem d_Tre_grow_36 : decode Y_Tre_grow.2.1 36 = .ok (.aload_n 0, 1) := by decide +kernel
theorem d_Tre_grow_37 : decode Y_Tre_grow.2.1 37 = .ok (.getfield 15, 3) := by decide +kernel
theorem d_Tre_grow_40 : decode Y_Tre_grow.2.1 40 = .ok (.iload_n 1, 1) := by decide +kernel
theorem d_Tre_grow_41 : decode Y_Tre_grow.2.1 41 = .ok (.iload_n 1, 1) := by decide +kernel
theorem d_Tre_grow_42 : decode Y_Tre_grow.2.1 42 = .ok (.iastore, 1) := by decide +kernel
theorem d_Tre_grow_43 : decode Y_Tre_grow.2.1 43 = .ok (.iinc 1 1, 3) := by decide +kernel
theorem d_Tre_grow_46 : decode Y_Tre_grow.2.1 46 = .ok (.goto (-21), 3) := by decide +kernel
theorem d_Tre_grow_49 : decode Y_Tre_grow.2.1 49 = .ok (.iconst 2, 1) := by decide +kernel
theorem d_Tre_grow_50 : decode Y_Tre_grow.2.1 50 = .ok (.istore_n 1, 1) := by decide +kernel
theorem d_Tre_grow_51 : decode Y_Tre_grow.2.1 51 = .ok (.iload_n 1, 1) := by decide +kernel
theorem d_Tre_grow_52 : decode Y_Tre_grow.2.1 52 = .ok (.aload_n 0, 1) := by decide +kernel
theorem d_Tre_grow_53 : decode Y_Tre_grow.2.1 53 = .ok (.getfield 31, 3) := by decide +kernel
theorem d_Tre_grow_56 : decode Y_Tre_grow.2.1 56 = .ok (.getfield 35, 3) := by decide +kernel
theorem d_Tre_grow_59 : decode Y_Tre_grow.2.1 59 = .ok (.if_icmp .ge 18, 3) := by decide +kernel
theorem d_Tre_grow_62 : decode Y_Tre_grow.2.1 62 = .ok (.aload_n 0, 1) := by decide +kernel
theorem d_Tre_grow_63 : decode Y_Tre_grow.2.1 63 = .ok (.invokevirtual 40, 3) := by decide +kernel
theorem d_Tre_grow_66 : decode Y_Tre_grow.2.1 66 = .ok (.ifCond .ne 5, 3) := by decide +kernel
theorem d_Tre_grow_69 : decode Y_Tre_grow.2.1 69 = .ok (.iconst 0, 1) := by decide +kernel
theorem d_Tre_grow_70 : decode Y_Tre_grow.2.1 70 = .ok (.ireturn, 1) := by decide +kernel
theorem d_Tre_grow_71 : decode Y_Tre_grow.2.1 71 = .ok (.iinc 1 1, 3) := by decide +kernel
theorem d_Tre_grow_74 : decode Y_Tre_grow.2.1 74 = .ok (.goto (-23), 3) := by decide +kernel
theorem d_Tre_grow_77 : decode Y_Tre_grow.2.1 77 = .ok (.aload_n 0, 1) := by decide +kernel
theorem d_Tre_grow_78 : decode Y_Tre_grow.2.1 78 = .ok (.iconst 0, 1) := by decide +kernel
theorem d_Tre_grow_79 : decode Y_Tre_grow.2.1 79 = .ok (.invokevirtual 44, 3) := by decide +kernel
theorem d_Tre_grow_82 : decode Y_Tre_grow.2.1 82 = .ok (.ifCond .eq 25, 3) := by decide +kernel
theorem d_Tre_grow_85 : decode Y_Tre_grow.2.1 85 = .ok (.aload_n 0, 1) := by decide +kernel
theorem d_Tre_grow_86 : decode Y_Tre_grow.2.1 86 = .ok (.aload_n 0, 1) := by decide +kernel
theorem d_Tre_grow_87 : decode Y_Tre_grow.2.1 87 = .ok (.getfield 21, 3) := by decide +kernel
theorem d_Tre_grow_90 : decode Y_Tre_grow.2.1 90 = .ok (.aload_n 0, 1) := by decide +kernel
theorem d_Tre_grow_91 : decode Y_Tre_grow.2.1 91 = .ok (.getfield 24, 3) := by decide +kernel
theorem d_Tre_grow_94 : decode Y_Tre_grow.2.1 94 = .ok (.iconst 1, 1) := by decide +kernel
theorem d_Tre_grow_95 : decode Y_Tre_grow.2.1 95 = .ok (.isub, 1) := by decide +kernel
theorem d_Tre_grow_96 : decode Y_Tre_grow.2.1 96 = .ok (.iaload, 1) := by decide +kernel
theorem d_Tre_grow_97 : decode Y_Tre_grow.2.1 97 = .ok (.invokevirtual 44, 3) := by decide +kernel
theorem d_Tre_grow_100 : decode Y_Tre_grow.2.1 100 = .ok (.ifCond .eq 7, 3) := by decide +kernel
theorem d_Tre_grow_103 : decode Y_Tre_grow.2.1 103 = .ok (.iconst 1, 1) := by decide +kernel
theorem d_Tre_grow_104 : decode Y_Tre_grow.2.1 104 = .ok (.goto 4, 3) := by decide +kernel
theorem d_Tre_grow_107 : decode Y_Tre_grow.2.1 107 = .ok (.iconst 0, 1) := by decide +kernel
theorem d_Tre_grow_108 : decode Y_Tre_grow.2.1 108 = .ok (.ireturn, 1) := by decide +kernel
theorem d_Tre_chooseJoining_0 : decode Y_Tre_chooseJoining.2.1 0 = .ok (.ldc 60, 2) := by decide +kernel
theorem d_Tre_chooseJoining_2 : decode Y_Tre_chooseJoining.2.1 2 = .ok (.istore_n 1, 1) := by decide +kernel
theorem d_Tre_chooseJoining_3 : decode Y_Tre_chooseJoining.2.1 3 = .ok (.iconst 0, 1) := by decide +kernel
theorem d_Tre_chooseJoining_4 : decode Y_Tre_chooseJoining.2.1 4 = .ok (.istore_n 2, 1) := by decide +kernel
theorem d_Tre_chooseJoining_5 : decode Y_Tre_chooseJoining.2.1 5 = .ok (.iconst 0, 1) := by decide +kernel
theorem d_Tre_chooseJoining_6 : decode Y_Tre_chooseJoining.2.1 6 = .ok (.istore_n 3, 1) := by decide +kernel
theorem d_Tre_chooseJoining_7 : decode Y_Tre_chooseJoining.2.1 7 = .ok (.iconst 1, 1) := by decide +kernel
theorem d_Tre_chooseJoining_8 : decode Y_Tre_chooseJoining.2.1 8 = .ok (.istore 4, 2) := by decide +kernel
theorem d_Tre_chooseJoining_10 : decode Y_Tre_chooseJoining.2.1 10 = .ok (.iload 4, 2) := by decide +kernel
theorem d_Tre_chooseJoining_12 : decode Y_Tre_chooseJoining.2.1 12 = .ok (.aload_n 0, 1) := by decide +kernel
theorem d_Tre_chooseJoining_13 : decode Y_Tre_chooseJoining.2.1 13 = .ok (.getfield 31, 3) := by decide +kernel
theorem d_Tre_chooseJoining_16 : decode Y_Tre_chooseJoining.2.1 16 = .ok (.getfield 35, 3) := by decide +kernel
theorem d_Tre_chooseJoining_19 : decode Y_Tre_chooseJoining.2.1 19 = .ok (.if_icmp .ge 77, 3) := by decide +kernel
theorem d_Tre_chooseJoining_22 : decode Y_Tre_chooseJoining.2.1 22 = .ok (.iload 4, 2) := by decide +kernel
theorem d_Tre_chooseJoining_24 : decode Y_Tre_chooseJoining.2.1 24 = .ok (.iconst 1, 1) := by decide +kernel
theorem d_Tre_chooseJoining_25 : decode Y_Tre_chooseJoining.2.1 25 = .ok (.iadd, 1) := by decide +kernel
theorem d_Tre_chooseJoining_26 : decode Y_Tre_chooseJoining.2.1 26 = .ok (.istore 5, 2) := by decide +kernel
theorem d_Tre_chooseJoining_28 : decode Y_Tre_chooseJoining.2.1 28 = .ok (.iload 5, 2) := by decide +kernel
theorem d_Tre_chooseJoining_30 : decode Y_Tre_chooseJoining.2.1 30 = .ok (.aload_n 0, 1) := by decide +kernel
theorem d_Tre_chooseJoining_31 : decode Y_Tre_chooseJoining.2.1 31 = .ok (.getfield 31, 3) := by decide +kernel
theorem d_Tre_chooseJoining_34 : decode Y_Tre_chooseJoining.2.1 34 = .ok (.getfield 35, 3) := by decide +kernel
theorem d_Tre_chooseJoining_37 : decode Y_Tre_chooseJoining.2.1 37 = .ok (.if_icmp .ge 53, 3) := by decide +kernel
theorem d_Tre_chooseJoining_40 : decode Y_Tre_chooseJoining.2.1 40 = .ok (.aload_n 0, 1) := by decide +kernel
theorem d_Tre_chooseJoining_41 : decode Y_Tre_chooseJoining.2.1 41 = .ok (.getfield 15, 3) := by decide +kernel
theorem d_Tre_chooseJoining_44 : decode Y_Tre_chooseJoining.2.1 44 = .ok (.iload 4, 2) := by decide +kernel
theorem d_Tre_chooseJoining_46 : decode Y_Tre_chooseJoining.2.1 46 = .ok (.iaload, 1) := by decide +kernel
theorem d_Tre_chooseJoining_47 : decode Y_Tre_chooseJoining.2.1 47 = .ok (.aload_n 0, 1) := by decide +kernel
theorem d_Tre_chooseJoining_48 : decode Y_Tre_chooseJoining.2.1 48 = .ok (.getfield 15, 3) := by decide +kernel
