theorem d_Net_init_0 : decode Y_Net_init.2.1 0 = .ok (.aload_n 0, 1) := by decide +kernel
theorem d_Net_init_1 : decode Y_Net_init.2.1 1 = .ok (.invokespecial 3, 3) := by decide +kernel
theorem d_Net_init_4 : decode Y_Net_init.2.1 4 = .ok (.aload_n 0, 1) := by decide +kernel
theorem d_Net_init_5 : decode Y_Net_init.2.1 5 = .ok (.bipush 9, 2) := by decide +kernel
theorem d_Net_init_7 : decode Y_Net_init.2.1 7 = .ok (.newarray .int, 2) := by decide +kernel
theorem d_Net_init_9 : decode Y_Net_init.2.1 9 = .ok (.putfield 9, 3) := by decide +kernel
theorem d_Net_init_12 : decode Y_Net_init.2.1 12 = .ok (.aload_n 0, 1) := by decide +kernel
theorem d_Net_init_13 : decode Y_Net_init.2.1 13 = .ok (.bipush 81, 2) := by decide +kernel
theorem d_Net_init_15 : decode Y_Net_init.2.1 15 = .ok (.newarray .int, 2) := by decide +kernel
theorem d_Net_init_17 : decode Y_Net_init.2.1 17 = .ok (.putfield 15, 3) := by decide +kernel
theorem d_Net_init_20 : decode Y_Net_init.2.1 20 = .ok (.aload_n 0, 1) := by decide +kernel
theorem d_Net_init_21 : decode Y_Net_init.2.1 21 = .ok (.bipush 9, 2) := by decide +kernel
theorem d_Net_init_23 : decode Y_Net_init.2.1 23 = .ok (.newarray .int, 2) := by decide +kernel
theorem d_Net_init_25 : decode Y_Net_init.2.1 25 = .ok (.putfield 18, 3) := by decide +kernel
theorem d_Net_init_28 : decode Y_Net_init.2.1 28 = .ok (.aload_n 0, 1) := by decide +kernel
theorem d_Net_init_29 : decode Y_Net_init.2.1 29 = .ok (.bipush 9, 2) := by decide +kernel
theorem d_Net_init_31 : decode Y_Net_init.2.1 31 = .ok (.newarray .int, 2) := by decide +kernel
theorem d_Net_init_33 : decode Y_Net_init.2.1 33 = .ok (.putfield 21, 3) := by decide +kernel
theorem d_Net_init_36 : decode Y_Net_init.2.1 36 = .ok (.aload_n 0, 1) := by decide +kernel
theorem d_Net_init_37 : decode Y_Net_init.2.1 37 = .ok (.iconst 1, 1) := by decide +kernel
theorem d_Net_init_38 : decode Y_Net_init.2.1 38 = .ok (.putfield 24, 3) := by decide +kernel
theorem d_Net_init_41 : decode Y_Net_init.2.1 41 = .ok (.aload_n 0, 1) := by decide +kernel
theorem d_Net_init_42 : decode Y_Net_init.2.1 42 = .ok (.iconst 1, 1) := by decide +kernel
theorem d_Net_init_43 : decode Y_Net_init.2.1 43 = .ok (.putfield 28, 3) := by decide +kernel
theorem d_Net_init_46 : decode Y_Net_init.2.1 46 = .ok (.aload_n 0, 1) := by decide +kernel
theorem d_Net_init_47 : decode Y_Net_init.2.1 47 = .ok (.sipush 1000, 3) := by decide +kernel
theorem d_Net_init_50 : decode Y_Net_init.2.1 50 = .ok (.putfield 31, 3) := by decide +kernel
theorem d_Net_init_53 : decode Y_Net_init.2.1 53 = .ok (.aload_n 0, 1) := by decide +kernel
theorem d_Net_init_54 : decode Y_Net_init.2.1 54 = .ok (.iconst 0, 1) := by decide +kernel
theorem d_Net_init_55 : decode Y_Net_init.2.1 55 = .ok (.putfield 34, 3) := by decide +kernel
theorem d_Net_init_58 : decode Y_Net_init.2.1 58 = .ok (.aload_n 0, 1) := by decide +kernel
theorem d_Net_init_59 : decode Y_Net_init.2.1 59 = .ok (.iconst 0, 1) := by decide +kernel
theorem d_Net_init_60 : decode Y_Net_init.2.1 60 = .ok (.putfield 37, 3) := by decide +kernel
theorem d_Net_init_63 : decode Y_Net_init.2.1 63 = .ok (.iconst 0, 1) := by decide +kernel
theorem d_Net_init_64 : decode Y_Net_init.2.1 64 = .ok (.istore_n 1, 1) := by decide +kernel
theorem d_Net_init_65 : decode Y_Net_init.2.1 65 = .ok (.iload_n 1, 1) := by decide +kernel
theorem d_Net_init_66 : decode Y_Net_init.2.1 66 = .ok (.aload_n 0, 1) := by decide +kernel
theorem d_Net_init_67 : decode Y_Net_init.2.1 67 = .ok (.getfield 15, 3) := by decide +kernel
theorem d_Net_init_70 : decode Y_Net_init.2.1 70 = .ok (.arraylength, 1) := by decide +kernel
theorem d_Net_init_71 : decode Y_Net_init.2.1 71 = .ok (.if_icmp .ge 17, 3) := by decide +kernel
theorem d_Net_init_74 : decode Y_Net_init.2.1 74 = .ok (.aload_n 0, 1) := by decide +kernel
theorem d_Net_init_75 : decode Y_Net_init.2.1 75 = .ok (.getfield 15, 3) := by decide +kernel
theorem d_Net_init_78 : decode Y_Net_init.2.1 78 = .ok (.iload_n 1, 1) := by decide +kernel
theorem d_Net_init_79 : decode Y_Net_init.2.1 79 = .ok (.ldc 40, 2) := by decide +kernel
theorem d_Net_init_81 : decode Y_Net_init.2.1 81 = .ok (.iastore, 1) := by decide +kernel
theorem d_Net_init_82 : decode Y_Net_init.2.1 82 = .ok (.iinc 1 1, 3) := by decide +kernel
theorem d_Net_init_85 : decode Y_Net_init.2.1 85 = .ok (.goto (-20), 3) := by decide +kernel
theorem d_Net_init_88 : decode Y_Net_init.2.1 88 = .ok (.iconst 0, 1) := by decide +kernel
theorem d_Net_init_89 : decode Y_Net_init.2.1 89 = .ok (.istore_n 1, 1) := by decide +kernel
theorem d_Net_init_90 : decode Y_Net_init.2.1 90 = .ok (.iload_n 1, 1) := by decide +kernel
theorem d_Net_init_91 : decode Y_Net_init.2.1 91 = .ok (.aload_n 0, 1) := by decide +kernel
theorem d_Net_init_92 : decode Y_Net_init.2.1 92 = .ok (.getfield 18, 3) := by decide +kernel
theorem d_Net_init_95 : decode Y_Net_init.2.1 95 = .ok (.arraylength, 1) := by decide +kernel
theorem d_Net_init_96 : decode Y_Net_init.2.1 96 = .ok (.if_icmp .ge 16, 3) := by decide +kernel
theorem d_Net_init_99 : decode Y_Net_init.2.1 99 = .ok (.aload_n 0, 1) := by decide +kernel
theorem d_Net_init_100 : decode Y_Net_init.2.1 100 = .ok (.getfield 18, 3) := by decide +kernel
theorem d_Net_init_103 : decode Y_Net_init.2.1 103 = .ok (.iload_n 1, 1) := by decide +kernel
theorem d_Net_init_104 : decode Y_Net_init.2.1 104 = .ok (.iconst (-1), 1) := by decide +kernel
theorem d_Net_init_105 : decode Y_Net_init.2.1 105 = .ok (.iastore, 1) := by decide +kernel
theorem d_Net_init_106 : decode Y_Net_init.2.1 106 = .ok (.iinc 1 1, 3) := by decide +kernel
theorem d_Net_init_109 : decode Y_Net_init.2.1 109 = .ok (.goto (-19), 3) := by decide +kernel
theorem d_Net_init_112 : decode Y_Net_init.2.1 112 = .ok (.return_, 1) := by decide +kernel
theorem d_Pat_init_0 : decode Y_Pat_init.2.1 0 = .ok (.aload_n 0, 1) := by decide +kernel
theorem d_Pat_init_1 : decode Y_Pat_init.2.1 1 = .ok (.invokespecial 3, 3) := by decide +kernel
theorem d_Pat_init_4 : decode Y_Pat_init.2.1 4 = .ok (.aload_n 0, 1) := by decide +kernel
theorem d_Pat_init_5 : decode Y_Pat_init.2.1 5 = .ok (.sipush 256, 3) := by decide +kernel
theorem d_Pat_init_8 : decode Y_Pat_init.2.1 8 = .ok (.newarray .int, 2) := by decide +kernel
theorem d_Pat_init_10 : decode Y_Pat_init.2.1 10 = .ok (.putfield 9, 3) := by decide +kernel
theorem d_Pat_init_13 : decode Y_Pat_init.2.1 13 = .ok (.aload_n 0, 1) := by decide +kernel
theorem d_Pat_init_14 : decode Y_Pat_init.2.1 14 = .ok (.sipush 256, 3) := by decide +kernel
theorem d_Pat_init_17 : decode Y_Pat_init.2.1 17 = .ok (.newarray .int, 2) := by decide +kernel
theorem d_Pat_init_19 : decode Y_Pat_init.2.1 19 = .ok (.putfield 15, 3) := by decide +kernel
theorem d_Pat_init_22 : decode Y_Pat_init.2.1 22 = .ok (.aload_n 0, 1) := by decide +kernel
theorem d_Pat_init_23 : decode Y_Pat_init.2.1 23 = .ok (.sipush 2304, 3) := by decide +kernel
theorem d_Pat_init_26 : decode Y_Pat_init.2.1 26 = .ok (.newarray .int, 2) := by decide +kernel
theorem d_Pat_init_28 : decode Y_Pat_init.2.1 28 = .ok (.putfield 18, 3) := by decide +kernel
theorem d_Pat_init_31 : decode Y_Pat_init.2.1 31 = .ok (.aload_n 0, 1) := by decide +kernel
theorem d_Pat_init_32 : decode Y_Pat_init.2.1 32 = .ok (.sipush 2304, 3) := by decide +kernel
theorem d_Pat_init_35 : decode Y_Pat_init.2.1 35 = .ok (.newarray .int, 2) := by decide +kernel
theorem d_Pat_init_37 : decode Y_Pat_init.2.1 37 = .ok (.putfield 21, 3) := by decide +kernel
theorem d_Pat_init_40 : decode Y_Pat_init.2.1 40 = .ok (.aload_n 0, 1) := by decide +kernel
theorem d_Pat_init_41 : decode Y_Pat_init.2.1 41 = .ok (.sipush 256, 3) := by decide +kernel
theorem d_Pat_init_44 : decode Y_Pat_init.2.1 44 = .ok (.newarray .int, 2) := by decide +kernel
theorem d_Pat_init_46 : decode Y_Pat_init.2.1 46 = .ok (.putfield 24, 3) := by decide +kernel
theorem d_Pat_init_49 : decode Y_Pat_init.2.1 49 = .ok (.aload_n 0, 1) := by decide +kernel
theorem d_Pat_init_50 : decode Y_Pat_init.2.1 50 = .ok (.sipush 256, 3) := by decide +kernel
theorem d_Pat_init_53 : decode Y_Pat_init.2.1 53 = .ok (.newarray .int, 2) := by decide +kernel
theorem d_Pat_init_55 : decode Y_Pat_init.2.1 55 = .ok (.putfield 27, 3) := by decide +kernel
theorem d_Pat_init_58 : decode Y_Pat_init.2.1 58 = .ok (.aload_n 0, 1) := by decide +kernel
theorem d_Pat_init_59 : decode Y_Pat_init.2.1 59 = .ok (.aload_n 1, 1) := by decide +kernel
theorem d_Pat_init_60 : decode Y_Pat_init.2.1 60 = .ok (.putfield 30, 3) := by decide +kernel
theorem d_Pat_init_63 : decode Y_Pat_init.2.1 63 = .ok (.return_, 1) := by decide +kernel
theorem d_Sha_init_0 : decode Y_Sha_init.2.1 0 = .ok (.aload_n 0, 1) := by decide +kernel
theorem d_Sha_init_1 : decode Y_Sha_init.2.1 1 = .ok (.invokespecial 3, 3) := by decide +kernel
theorem d_Sha_init_4 : decode Y_Sha_init.2.1 4 = .ok (.aload_n 0, 1) := by decide +kernel
theorem d_Sha_init_5 : decode Y_Sha_init.2.1 5 = .ok (.sipush 2304, 3) := by decide +kernel
theorem d_Sha_init_8 : decode Y_Sha_init.2.1 8 = .ok (.newarray .int, 2) := by decide +kernel
theorem d_Sha_init_10 : decode Y_Sha_init.2.1 10 = .ok (.putfield 9, 3) := by decide +kernel
theorem d_Sha_init_13 : decode Y_Sha_init.2.1 13 = .ok (.aload_n 0, 1) := by decide +kernel
theorem d_Sha_init_14 : decode Y_Sha_init.2.1 14 = .ok (.sipush 2304, 3) := by decide +kernel
theorem d_Sha_init_17 : decode Y_Sha_init.2.1 17 = .ok (.newarray .int, 2) := by decide +kernel
theorem d_Sha_init_19 : decode Y_Sha_init.2.1 19 = .ok (.putfield 15, 3) := by decide +kernel
theorem d_Sha_init_22 : decode Y_Sha_init.2.1 22 = .ok (.aload_n 0, 1) := by decide +kernel
theorem d_Sha_init_23 : decode Y_Sha_init.2.1 23 = .ok (.ldc 18, 2) := by decide +kernel
theorem d_Sha_init_25 : decode Y_Sha_init.2.1 25 = .ok (.putfield 19, 3) := by decide +kernel
theorem d_Sha_init_28 : decode Y_Sha_init.2.1 28 = .ok (.aload_n 0, 1) := by decide +kernel
theorem d_Sha_init_29 : decode Y_Sha_init.2.1 29 = .ok (.iconst 0, 1) := by decide +kernel
theorem d_Sha_init_30 : decode Y_Sha_init.2.1 30 = .ok (.putfield 23, 3) := by decide +kernel
theorem d_Sha_init_33 : decode Y_Sha_init.2.1 33 = .ok (.aload_n 0, 1) := by decide +kernel
theorem d_Sha_init_34 : decode Y_Sha_init.2.1 34 = .ok (.iconst (-1), 1) := by decide +kernel
theorem d_Sha_init_35 : decode Y_Sha_init.2.1 35 = .ok (.putfield 26, 3) := by decide +kernel
theorem d_Sha_init_38 : decode Y_Sha_init.2.1 38 = .ok (.aload_n 0, 1) := by decide +kernel
theorem d_Sha_init_39 : decode Y_Sha_init.2.1 39 = .ok (.aload_n 1, 1) := by decide +kernel
theorem d_Sha_init_40 : decode Y_Sha_init.2.1 40 = .ok (.putfield 29, 3) := by decide +kernel
theorem d_Sha_init_43 : decode Y_Sha_init.2.1 43 = .ok (.aload_n 0, 1) := by decide +kernel
theorem d_Sha_init_44 : decode Y_Sha_init.2.1 44 = .ok (.aload_n 2, 1) := by decide +kernel
theorem d_Sha_init_45 : decode Y_Sha_init.2.1 45 = .ok (.putfield 33, 3) := by decide +kernel
theorem d_Sha_init_48 : decode Y_Sha_init.2.1 48 = .ok (.return_, 1) := by decide +kernel
theorem d_Tai_init_0 : decode Y_Tai_init.2.1 0 = .ok (.aload_n 0, 1) := by decide +kernel
theorem d_Tai_init_1 : decode Y_Tai_init.2.1 1 = .ok (.invokespecial 3, 3) := by decide +kernel
theorem d_Tai_init_4 : decode Y_Tai_init.2.1 4 = .ok (.aload_n 0, 1) := by decide +kernel
theorem d_Tai_init_5 : decode Y_Tai_init.2.1 5 = .ok (.sipush 2304, 3) := by decide +kernel
theorem d_Tai_init_8 : decode Y_Tai_init.2.1 8 = .ok (.newarray .int, 2) := by decide +kernel
theorem d_Tai_init_10 : decode Y_Tai_init.2.1 10 = .ok (.putfield 9, 3) := by decide +kernel
theorem d_Tai_init_13 : decode Y_Tai_init.2.1 13 = .ok (.aload_n 0, 1) := by decide +kernel
theorem d_Tai_init_14 : decode Y_Tai_init.2.1 14 = .ok (.bipush 81, 2) := by decide +kernel
theorem d_Tai_init_16 : decode Y_Tai_init.2.1 16 = .ok (.newarray .boolean, 2) := by decide +kernel
theorem d_Tai_init_18 : decode Y_Tai_init.2.1 18 = .ok (.putfield 15, 3) := by decide +kernel
theorem d_Tai_init_21 : decode Y_Tai_init.2.1 21 = .ok (.aload_n 0, 1) := by decide +kernel
theorem d_Tai_init_22 : decode Y_Tai_init.2.1 22 = .ok (.iconst (-1), 1) := by decide +kernel
theorem d_Tai_init_23 : decode Y_Tai_init.2.1 23 = .ok (.putfield 19, 3) := by decide +kernel
theorem d_Tai_init_26 : decode Y_Tai_init.2.1 26 = .ok (.aload_n 0, 1) := by decide +kernel
theorem d_Tai_init_27 : decode Y_Tai_init.2.1 27 = .ok (.iconst 0, 1) := by decide +kernel
theorem d_Tai_init_28 : decode Y_Tai_init.2.1 28 = .ok (.putfield 23, 3) := by decide +kernel
theorem d_Tai_init_31 : decode Y_Tai_init.2.1 31 = .ok (.aload_n 0, 1) := by decide +kernel
theorem d_Tai_init_32 : decode Y_Tai_init.2.1 32 = .ok (.iconst 0, 1) := by decide +kernel
theorem d_Tai_init_33 : decode Y_Tai_init.2.1 33 = .ok (.putfield 26, 3) := by decide +kernel
theorem d_Tai_init_36 : decode Y_Tai_init.2.1 36 = .ok (.aload_n 0, 1) := by decide +kernel
theorem d_Tai_init_37 : decode Y_Tai_init.2.1 37 = .ok (.aload_n 1, 1) := by decide +kernel
theorem d_Tai_init_38 : decode Y_Tai_init.2.1 38 = .ok (.putfield 29, 3) := by decide +kernel
theorem d_Tai_init_41 : decode Y_Tai_init.2.1 41 = .ok (.aload_n 0, 1) := by decide +kernel
theorem d_Tai_init_42 : decode Y_Tai_init.2.1 42 = .ok (.aload_n 2, 1) := by decide +kernel
theorem d_Tai_init_43 : decode Y_Tai_init.2.1 43 = .ok (.putfield 33, 3) := by decide +kernel
theorem d_Tai_init_46 : decode Y_Tai_init.2.1 46 = .ok (.aload_n 0, 1) := by decide +kernel
theorem d_Tai_init_47 : decode Y_Tai_init.2.1 47 = .ok (.aload_n 3, 1) := by decide +kernel
theorem d_Tai_init_48 : decode Y_Tai_init.2.1 48 = .ok (.putfield 37, 3) := by decide +kernel
theorem d_Tai_init_51 : decode Y_Tai_init.2.1 51 = .ok (.return_, 1) := by decide +kernel
theorem d_Fir_init_0 : decode Y_Fir_init.2.1 0 = .ok (.aload_n 0, 1) := by decide +kernel
theorem d_Fir_init_1 : decode Y_Fir_init.2.1 1 = .ok (.invokespecial 3, 3) := by decide +kernel
theorem d_Fir_init_4 : decode Y_Fir_init.2.1 4 = .ok (.aload_n 0, 1) := by decide +kernel
theorem d_Fir_init_5 : decode Y_Fir_init.2.1 5 = .ok (.bipush 18, 2) := by decide +kernel
theorem d_Fir_init_7 : decode Y_Fir_init.2.1 7 = .ok (.newarray .int, 2) := by decide +kernel
theorem d_Fir_init_9 : decode Y_Fir_init.2.1 9 = .ok (.putfield 9, 3) := by decide +kernel
theorem d_Fir_init_12 : decode Y_Fir_init.2.1 12 = .ok (.aload_n 0, 1) := by decide +kernel
theorem d_Fir_init_13 : decode Y_Fir_init.2.1 13 = .ok (.iconst 0, 1) := by decide +kernel
theorem d_Fir_init_14 : decode Y_Fir_init.2.1 14 = .ok (.putfield 15, 3) := by decide +kernel
theorem d_Fir_init_17 : decode Y_Fir_init.2.1 17 = .ok (.aload_n 0, 1) := by decide +kernel
theorem d_Fir_init_18 : decode Y_Fir_init.2.1 18 = .ok (.iconst (-1), 1) := by decide +kernel
theorem d_Fir_init_19 : decode Y_Fir_init.2.1 19 = .ok (.putfield 19, 3) := by decide +kernel
theorem d_Fir_init_22 : decode Y_Fir_init.2.1 22 = .ok (.aload_n 0, 1) := by decide +kernel
theorem d_Fir_init_23 : decode Y_Fir_init.2.1 23 = .ok (.iconst 0, 1) := by decide +kernel
theorem d_Fir_init_24 : decode Y_Fir_init.2.1 24 = .ok (.putfield 22, 3) := by decide +kernel
theorem d_Fir_init_27 : decode Y_Fir_init.2.1 27 = .ok (.aload_n 0, 1) := by decide +kernel
theorem d_Fir_init_28 : decode Y_Fir_init.2.1 28 = .ok (.iconst 0, 1) := by decide +kernel
theorem d_Fir_init_29 : decode Y_Fir_init.2.1 29 = .ok (.putfield 25, 3) := by decide +kernel
theorem d_Fir_init_32 : decode Y_Fir_init.2.1 32 = .ok (.aload_n 0, 1) := by decide +kernel
theorem d_Fir_init_33 : decode Y_Fir_init.2.1 33 = .ok (.aload_n 1, 1) := by decide +kernel
theorem d_Fir_init_34 : decode Y_Fir_init.2.1 34 = .ok (.putfield 28, 3) := by decide +kernel
theorem d_Fir_init_37 : decode Y_Fir_init.2.1 37 = .ok (.aload_n 0, 1) := by decide +kernel
theorem d_Fir_init_38 : decode Y_Fir_init.2.1 38 = .ok (.aload_n 2, 1) := by decide +kernel
theorem d_Fir_init_39 : decode Y_Fir_init.2.1 39 = .ok (.putfield 32, 3) := by decide +kernel
theorem d_Fir_init_42 : decode Y_Fir_init.2.1 42 = .ok (.aload_n 0, 1) := by decide +kernel
theorem d_Fir_init_43 : decode Y_Fir_init.2.1 43 = .ok (.aload_n 3, 1) := by decide +kernel
theorem d_Fir_init_44 : decode Y_Fir_init.2.1 44 = .ok (.putfield 36, 3) := by decide +kernel
theorem d_Fir_init_47 : decode Y_Fir_init.2.1 47 = .ok (.return_, 1) := by decide +kernel
theorem d_Tre_init_0 : decode Y_Tre_init.2.1 0 = .ok (.aload_n 0, 1) := by decide +kernel
theorem d_Tre_init_1 : decode Y_Tre_init.2.1 1 = .ok (.invokespecial 3, 3) := by decide +kernel
theorem d_Tre_init_4 : decode Y_Tre_init.2.1 4 = .ok (.aload_n 0, 1) := by decide +kernel
theorem d_Tre_init_5 : decode Y_Tre_init.2.1 5 = .ok (.bipush 9, 2) := by decide +kernel
theorem d_Tre_init_7 : decode Y_Tre_init.2.1 7 = .ok (.newarray .int, 2) := by decide +kernel
theorem d_Tre_init_9 : decode Y_Tre_init.2.1 9 = .ok (.putfield 9, 3) := by decide +kernel
theorem d_Tre_init_12 : decode Y_Tre_init.2.1 12 = .ok (.aload_n 0, 1) := by decide +kernel
theorem d_Tre_init_13 : decode Y_Tre_init.2.1 13 = .ok (.bipush 9, 2) := by decide +kernel
theorem d_Tre_init_15 : decode Y_Tre_init.2.1 15 = .ok (.newarray .int, 2) := by decide +kernel
theorem d_Tre_init_17 : decode Y_Tre_init.2.1 17 = .ok (.putfield 15, 3) := by decide +kernel
theorem d_Tre_init_20 : decode Y_Tre_init.2.1 20 = .ok (.aload_n 0, 1) := by decide +kernel
theorem d_Tre_init_21 : decode Y_Tre_init.2.1 21 = .ok (.bipush 9, 2) := by decide +kernel
theorem d_Tre_init_23 : decode Y_Tre_init.2.1 23 = .ok (.newarray .int, 2) := by decide +kernel
theorem d_Tre_init_25 : decode Y_Tre_init.2.1 25 = .ok (.putfield 18, 3) := by decide +kernel
theorem d_Tre_init_28 : decode Y_Tre_init.2.1 28 = .ok (.aload_n 0, 1) := by decide +kernel
theorem d_Tre_init_29 : decode Y_Tre_init.2.1 29 = .ok (.bipush 9, 2) := by decide +kernel
theorem d_Tre_init_31 : decode Y_Tre_init.2.1 31 = .ok (.newarray .int, 2) := by decide +kernel
theorem d_Tre_init_33 : decode Y_Tre_init.2.1 33 = .ok (.putfield 21, 3) := by decide +kernel
theorem d_Tre_init_36 : decode Y_Tre_init.2.1 36 = .ok (.aload_n 0, 1) := by decide +kernel
theorem d_Tre_init_37 : decode Y_Tre_init.2.1 37 = .ok (.iconst 0, 1) := by decide +kernel
theorem d_Tre_init_38 : decode Y_Tre_init.2.1 38 = .ok (.putfield 24, 3) := by decide +kernel
theorem d_Tre_init_41 : decode Y_Tre_init.2.1 41 = .ok (.aload_n 0, 1) := by decide +kernel
theorem d_Tre_init_42 : decode Y_Tre_init.2.1 42 = .ok (.iconst 0, 1) := by decide +kernel
theorem d_Tre_init_43 : decode Y_Tre_init.2.1 43 = .ok (.putfield 28, 3) := by decide +kernel
theorem d_Tre_init_46 : decode Y_Tre_init.2.1 46 = .ok (.aload_n 0, 1) := by decide +kernel
theorem d_Tre_init_47 : decode Y_Tre_init.2.1 47 = .ok (.aload_n 1, 1) := by decide +kernel
theorem d_Tre_init_48 : decode Y_Tre_init.2.1 48 = .ok (.putfield 31, 3) := by decide +kernel
theorem d_Tre_init_51 : decode Y_Tre_init.2.1 51 = .ok (.return_, 1) := by decide +kernel
theorem d_Pai_init_0 : decode Y_Pai_init.2.1 0 = .ok (.aload_n 0, 1) := by decide +kernel
theorem d_Pai_init_1 : decode Y_Pai_init.2.1 1 = .ok (.invokespecial 3, 3) := by decide +kernel
theorem d_Pai_init_4 : decode Y_Pai_init.2.1 4 = .ok (.aload_n 0, 1) := by decide +kernel
theorem d_Pai_init_5 : decode Y_Pai_init.2.1 5 = .ok (.sipush 512, 3) := by decide +kernel
theorem d_Pai_init_8 : decode Y_Pai_init.2.1 8 = .ok (.newarray .int, 2) := by decide +kernel
theorem d_Pai_init_10 : decode Y_Pai_init.2.1 10 = .ok (.putfield 9, 3) := by decide +kernel
theorem d_Pai_init_13 : decode Y_Pai_init.2.1 13 = .ok (.aload_n 0, 1) := by decide +kernel
theorem d_Pai_init_14 : decode Y_Pai_init.2.1 14 = .ok (.aload_n 1, 1) := by decide +kernel
theorem d_Pai_init_15 : decode Y_Pai_init.2.1 15 = .ok (.putfield 15, 3) := by decide +kernel
theorem d_Pai_init_18 : decode Y_Pai_init.2.1 18 = .ok (.return_, 1) := by decide +kernel
theorem d_Cir_init_0 : decode Y_Cir_init.2.1 0 = .ok (.aload_n 0, 1) := by decide +kernel
theorem d_Cir_init_1 : decode Y_Cir_init.2.1 1 = .ok (.invokespecial 3, 3) := by decide +kernel
theorem d_Cir_init_4 : decode Y_Cir_init.2.1 4 = .ok (.aload_n 0, 1) := by decide +kernel
theorem d_Cir_init_5 : decode Y_Cir_init.2.1 5 = .ok (.bipush 9, 2) := by decide +kernel
theorem d_Cir_init_7 : decode Y_Cir_init.2.1 7 = .ok (.newarray .int, 2) := by decide +kernel
theorem d_Cir_init_9 : decode Y_Cir_init.2.1 9 = .ok (.putfield 9, 3) := by decide +kernel
theorem d_Cir_init_12 : decode Y_Cir_init.2.1 12 = .ok (.aload_n 0, 1) := by decide +kernel
theorem d_Cir_init_13 : decode Y_Cir_init.2.1 13 = .ok (.bipush 9, 2) := by decide +kernel
theorem d_Cir_init_15 : decode Y_Cir_init.2.1 15 = .ok (.newarray .int, 2) := by decide +kernel
theorem d_Cir_init_17 : decode Y_Cir_init.2.1 17 = .ok (.putfield 15, 3) := by decide +kernel
theorem d_Cir_init_20 : decode Y_Cir_init.2.1 20 = .ok (.aload_n 0, 1) := by decide +kernel
theorem d_Cir_init_21 : decode Y_Cir_init.2.1 21 = .ok (.aload_n 1, 1) := by decide +kernel
theorem d_Cir_init_22 : decode Y_Cir_init.2.1 22 = .ok (.putfield 18, 3) := by decide +kernel
theorem d_Cir_init_25 : decode Y_Cir_init.2.1 25 = .ok (.iconst 0, 1) := by decide +kernel
theorem d_Cir_init_26 : decode Y_Cir_init.2.1 26 = .ok (.istore_n 2, 1) := by decide +kernel
theorem d_Cir_init_27 : decode Y_Cir_init.2.1 27 = .ok (.iload_n 2, 1) := by decide +kernel
theorem d_Cir_init_28 : decode Y_Cir_init.2.1 28 = .ok (.bipush 9, 2) := by decide +kernel
theorem d_Cir_init_30 : decode Y_Cir_init.2.1 30 = .ok (.if_icmp .ge 16, 3) := by decide +kernel
theorem d_Cir_init_33 : decode Y_Cir_init.2.1 33 = .ok (.aload_n 0, 1) := by decide +kernel
theorem d_Cir_init_34 : decode Y_Cir_init.2.1 34 = .ok (.getfield 9, 3) := by decide +kernel
theorem d_Cir_init_37 : decode Y_Cir_init.2.1 37 = .ok (.iload_n 2, 1) := by decide +kernel
theorem d_Cir_init_38 : decode Y_Cir_init.2.1 38 = .ok (.iconst (-1), 1) := by decide +kernel
theorem d_Cir_init_39 : decode Y_Cir_init.2.1 39 = .ok (.iastore, 1) := by decide +kernel
theorem d_Cir_init_40 : decode Y_Cir_init.2.1 40 = .ok (.iinc 2 1, 3) := by decide +kernel
theorem d_Cir_init_43 : decode Y_Cir_init.2.1 43 = .ok (.goto (-16), 3) := by decide +kernel
theorem d_Cir_init_46 : decode Y_Cir_init.2.1 46 = .ok (.return_, 1) := by decide +kernel
theorem d_Way_init_0 : decode Y_Way_init.2.1 0 = .ok (.aload_n 0, 1) := by decide +kernel
theorem d_Way_init_1 : decode Y_Way_init.2.1 1 = .ok (.invokespecial 3, 3) := by decide +kernel
theorem d_Way_init_4 : decode Y_Way_init.2.1 4 = .ok (.aload_n 0, 1) := by decide +kernel
theorem d_Way_init_5 : decode Y_Way_init.2.1 5 = .ok (.bipush 9, 2) := by decide +kernel
theorem d_Way_init_7 : decode Y_Way_init.2.1 7 = .ok (.newarray .int, 2) := by decide +kernel
theorem d_Way_init_9 : decode Y_Way_init.2.1 9 = .ok (.putfield 9, 3) := by decide +kernel
theorem d_Way_init_12 : decode Y_Way_init.2.1 12 = .ok (.aload_n 0, 1) := by decide +kernel
theorem d_Way_init_13 : decode Y_Way_init.2.1 13 = .ok (.aload_n 1, 1) := by decide +kernel
theorem d_Way_init_14 : decode Y_Way_init.2.1 14 = .ok (.putfield 15, 3) := by decide +kernel
theorem d_Way_init_17 : decode Y_Way_init.2.1 17 = .ok (.return_, 1) := by decide +kernel
theorem d_Row_init_0 : decode Y_Row_init.2.1 0 = .ok (.aload_n 0, 1) := by decide +kernel
theorem d_Row_init_1 : decode Y_Row_init.2.1 1 = .ok (.invokespecial 3, 3) := by decide +kernel
theorem d_Row_init_4 : decode Y_Row_init.2.1 4 = .ok (.aload_n 0, 1) := by decide +kernel
theorem d_Row_init_5 : decode Y_Row_init.2.1 5 = .ok (.bipush 20, 2) := by decide +kernel
theorem d_Row_init_7 : decode Y_Row_init.2.1 7 = .ok (.newarray .int, 2) := by decide +kernel
theorem d_Row_init_9 : decode Y_Row_init.2.1 9 = .ok (.putfield 9, 3) := by decide +kernel
theorem d_Row_init_12 : decode Y_Row_init.2.1 12 = .ok (.aload_n 0, 1) := by decide +kernel
theorem d_Row_init_13 : decode Y_Row_init.2.1 13 = .ok (.bipush 20, 2) := by decide +kernel
theorem d_Row_init_15 : decode Y_Row_init.2.1 15 = .ok (.newarray .int, 2) := by decide +kernel
theorem d_Row_init_17 : decode Y_Row_init.2.1 17 = .ok (.putfield 15, 3) := by decide +kernel
theorem d_Row_init_20 : decode Y_Row_init.2.1 20 = .ok (.aload_n 0, 1) := by decide +kernel
theorem d_Row_init_21 : decode Y_Row_init.2.1 21 = .ok (.iconst 0, 1) := by decide +kernel
theorem d_Row_init_22 : decode Y_Row_init.2.1 22 = .ok (.putfield 18, 3) := by decide +kernel
theorem d_Row_init_25 : decode Y_Row_init.2.1 25 = .ok (.aload_n 0, 1) := by decide +kernel
theorem d_Row_init_26 : decode Y_Row_init.2.1 26 = .ok (.aload_n 1, 1) := by decide +kernel
theorem d_Row_init_27 : decode Y_Row_init.2.1 27 = .ok (.putfield 22, 3) := by decide +kernel
theorem d_Row_init_30 : decode Y_Row_init.2.1 30 = .ok (.return_, 1) := by decide +kernel
theorem d_Net_addNode_0 : decode Y_Net_addNode.2.1 0 = .ok (.aload_n 0, 1) := by decide +kernel
theorem d_Net_addNode_1 : decode Y_Net_addNode.2.1 1 = .ok (.getfield 24, 3) := by decide +kernel
theorem d_Net_addNode_4 : decode Y_Net_addNode.2.1 4 = .ok (.istore_n 2, 1) := by decide +kernel
theorem d_Net_addNode_5 : decode Y_Net_addNode.2.1 5 = .ok (.aload_n 0, 1) := by decide +kernel
theorem d_Net_addNode_6 : decode Y_Net_addNode.2.1 6 = .ok (.getfield 9, 3) := by decide +kernel
theorem d_Net_addNode_9 : decode Y_Net_addNode.2.1 9 = .ok (.iload_n 2, 1) := by decide +kernel
theorem d_Net_addNode_10 : decode Y_Net_addNode.2.1 10 = .ok (.iload_n 1, 1) := by decide +kernel
theorem d_Net_addNode_11 : decode Y_Net_addNode.2.1 11 = .ok (.iastore, 1) := by decide +kernel
theorem d_Net_addNode_12 : decode Y_Net_addNode.2.1 12 = .ok (.aload_n 0, 1) := by decide +kernel
theorem d_Net_addNode_13 : decode Y_Net_addNode.2.1 13 = .ok (.dup, 1) := by decide +kernel
theorem d_Net_addNode_14 : decode Y_Net_addNode.2.1 14 = .ok (.getfield 24, 3) := by decide +kernel
theorem d_Net_addNode_17 : decode Y_Net_addNode.2.1 17 = .ok (.iconst 1, 1) := by decide +kernel
theorem d_Net_addNode_18 : decode Y_Net_addNode.2.1 18 = .ok (.iadd, 1) := by decide +kernel
theorem d_Net_addNode_19 : decode Y_Net_addNode.2.1 19 = .ok (.putfield 24, 3) := by decide +kernel
theorem d_Net_addNode_22 : decode Y_Net_addNode.2.1 22 = .ok (.aload_n 0, 1) := by decide +kernel
theorem d_Net_addNode_23 : decode Y_Net_addNode.2.1 23 = .ok (.dup, 1) := by decide +kernel
theorem d_Net_addNode_24 : decode Y_Net_addNode.2.1 24 = .ok (.getfield 37, 3) := by decide +kernel
theorem d_Net_addNode_27 : decode Y_Net_addNode.2.1 27 = .ok (.iconst 1, 1) := by decide +kernel
theorem d_Net_addNode_28 : decode Y_Net_addNode.2.1 28 = .ok (.iadd, 1) := by decide +kernel
theorem d_Net_addNode_29 : decode Y_Net_addNode.2.1 29 = .ok (.putfield 37, 3) := by decide +kernel
theorem d_Net_addNode_32 : decode Y_Net_addNode.2.1 32 = .ok (.iload_n 2, 1) := by decide +kernel
theorem d_Net_addNode_33 : decode Y_Net_addNode.2.1 33 = .ok (.ireturn, 1) := by decide +kernel
theorem d_Net_areTwo_0 : decode Y_Net_areTwo.2.1 0 = .ok (.aload_n 0, 1) := by decide +kernel
theorem d_Net_areTwo_1 : decode Y_Net_areTwo.2.1 1 = .ok (.iload_n 1, 1) := by decide +kernel
theorem d_Net_areTwo_2 : decode Y_Net_areTwo.2.1 2 = .ok (.invokevirtual 41, 3) := by decide +kernel
theorem d_Net_areTwo_5 : decode Y_Net_areTwo.2.1 5 = .ok (.ifCond .eq 20, 3) := by decide +kernel
theorem d_Net_areTwo_8 : decode Y_Net_areTwo.2.1 8 = .ok (.aload_n 0, 1) := by decide +kernel
theorem d_Net_areTwo_9 : decode Y_Net_areTwo.2.1 9 = .ok (.iload_n 2, 1) := by decide +kernel
theorem d_Net_areTwo_10 : decode Y_Net_areTwo.2.1 10 = .ok (.invokevirtual 41, 3) := by decide +kernel
theorem d_Net_areTwo_13 : decode Y_Net_areTwo.2.1 13 = .ok (.ifCond .eq 12, 3) := by decide +kernel
theorem d_Net_areTwo_16 : decode Y_Net_areTwo.2.1 16 = .ok (.iload_n 1, 1) := by decide +kernel
theorem d_Net_areTwo_17 : decode Y_Net_areTwo.2.1 17 = .ok (.iload_n 2, 1) := by decide +kernel
theorem d_Net_areTwo_18 : decode Y_Net_areTwo.2.1 18 = .ok (.if_icmp .eq 7, 3) := by decide +kernel
theorem d_Net_areTwo_21 : decode Y_Net_areTwo.2.1 21 = .ok (.iconst 1, 1) := by decide +kernel
theorem d_Net_areTwo_22 : decode Y_Net_areTwo.2.1 22 = .ok (.goto 4, 3) := by decide +kernel
theorem d_Net_areTwo_25 : decode Y_Net_areTwo.2.1 25 = .ok (.iconst 0, 1) := by decide +kernel
theorem d_Net_areTwo_26 : decode Y_Net_areTwo.2.1 26 = .ok (.ireturn, 1) := by decide +kernel
theorem d_Net_isNode_0 : decode Y_Net_isNode.2.1 0 = .ok (.iload_n 1, 1) := by decide +kernel
theorem d_Net_isNode_1 : decode Y_Net_isNode.2.1 1 = .ok (.ifCond .lt 15, 3) := by decide +kernel
theorem d_Net_isNode_4 : decode Y_Net_isNode.2.1 4 = .ok (.iload_n 1, 1) := by decide +kernel
theorem d_Net_isNode_5 : decode Y_Net_isNode.2.1 5 = .ok (.aload_n 0, 1) := by decide +kernel
theorem d_Net_isNode_6 : decode Y_Net_isNode.2.1 6 = .ok (.getfield 24, 3) := by decide +kernel
theorem d_Net_isNode_9 : decode Y_Net_isNode.2.1 9 = .ok (.if_icmp .ge 7, 3) := by decide +kernel
theorem d_Net_isNode_12 : decode Y_Net_isNode.2.1 12 = .ok (.iconst 1, 1) := by decide +kernel
theorem d_Net_isNode_13 : decode Y_Net_isNode.2.1 13 = .ok (.goto 4, 3) := by decide +kernel
theorem d_Net_isNode_16 : decode Y_Net_isNode.2.1 16 = .ok (.iconst 0, 1) := by decide +kernel
theorem d_Net_isNode_17 : decode Y_Net_isNode.2.1 17 = .ok (.ireturn, 1) := by decide +kernel
theorem d_Net_changeCost_0 : decode Y_Net_changeCost.2.1 0 = .ok (.aload_n 0, 1) := by decide +kernel
theorem d_Net_changeCost_1 : decode Y_Net_changeCost.2.1 1 = .ok (.getfield 15, 3) := by decide +kernel
theorem d_Net_changeCost_4 : decode Y_Net_changeCost.2.1 4 = .ok (.iload_n 1, 1) := by decide +kernel
theorem d_Net_changeCost_5 : decode Y_Net_changeCost.2.1 5 = .ok (.bipush 9, 2) := by decide +kernel
theorem d_Net_changeCost_7 : decode Y_Net_changeCost.2.1 7 = .ok (.imul, 1) := by decide +kernel
theorem d_Net_changeCost_8 : decode Y_Net_changeCost.2.1 8 = .ok (.iload_n 2, 1) := by decide +kernel
theorem d_Net_changeCost_9 : decode Y_Net_changeCost.2.1 9 = .ok (.iadd, 1) := by decide +kernel
theorem d_Net_changeCost_10 : decode Y_Net_changeCost.2.1 10 = .ok (.iaload, 1) := by decide +kernel
theorem d_Net_changeCost_11 : decode Y_Net_changeCost.2.1 11 = .ok (.istore 4, 2) := by decide +kernel
theorem d_Net_changeCost_13 : decode Y_Net_changeCost.2.1 13 = .ok (.aload_n 0, 1) := by decide +kernel
theorem d_Net_changeCost_14 : decode Y_Net_changeCost.2.1 14 = .ok (.getfield 15, 3) := by decide +kernel
theorem d_Net_changeCost_17 : decode Y_Net_changeCost.2.1 17 = .ok (.iload_n 1, 1) := by decide +kernel
theorem d_Net_changeCost_18 : decode Y_Net_changeCost.2.1 18 = .ok (.bipush 9, 2) := by decide +kernel
theorem d_Net_changeCost_20 : decode Y_Net_changeCost.2.1 20 = .ok (.imul, 1) := by decide +kernel
theorem d_Net_changeCost_21 : decode Y_Net_changeCost.2.1 21 = .ok (.iload_n 2, 1) := by decide +kernel
theorem d_Net_changeCost_22 : decode Y_Net_changeCost.2.1 22 = .ok (.iadd, 1) := by decide +kernel
theorem d_Net_changeCost_23 : decode Y_Net_changeCost.2.1 23 = .ok (.iload_n 3, 1) := by decide +kernel
theorem d_Net_changeCost_24 : decode Y_Net_changeCost.2.1 24 = .ok (.iastore, 1) := by decide +kernel
theorem d_Net_changeCost_25 : decode Y_Net_changeCost.2.1 25 = .ok (.iload_n 3, 1) := by decide +kernel
theorem d_Net_changeCost_26 : decode Y_Net_changeCost.2.1 26 = .ok (.iload 4, 2) := by decide +kernel
theorem d_Net_changeCost_28 : decode Y_Net_changeCost.2.1 28 = .ok (.if_icmp .eq 13, 3) := by decide +kernel
theorem d_Net_changeCost_31 : decode Y_Net_changeCost.2.1 31 = .ok (.aload_n 0, 1) := by decide +kernel
theorem d_Net_changeCost_32 : decode Y_Net_changeCost.2.1 32 = .ok (.dup, 1) := by decide +kernel
theorem d_Net_changeCost_33 : decode Y_Net_changeCost.2.1 33 = .ok (.getfield 37, 3) := by decide +kernel
theorem d_Net_changeCost_36 : decode Y_Net_changeCost.2.1 36 = .ok (.iconst 1, 1) := by decide +kernel
theorem d_Net_changeCost_37 : decode Y_Net_changeCost.2.1 37 = .ok (.iadd, 1) := by decide +kernel
theorem d_Net_changeCost_38 : decode Y_Net_changeCost.2.1 38 = .ok (.putfield 37, 3) := by decide +kernel
theorem d_Net_changeCost_41 : decode Y_Net_changeCost.2.1 41 = .ok (.iload 4, 2) := by decide +kernel
theorem d_Net_changeCost_43 : decode Y_Net_changeCost.2.1 43 = .ok (.ireturn, 1) := by decide +kernel
theorem d_Net_isPlace_0 : decode Y_Net_isPlace.2.1 0 = .ok (.iload_n 1, 1) := by decide +kernel
theorem d_Net_isPlace_1 : decode Y_Net_isPlace.2.1 1 = .ok (.ifCond .le 15, 3) := by decide +kernel
theorem d_Net_isPlace_4 : decode Y_Net_isPlace.2.1 4 = .ok (.iload_n 1, 1) := by decide +kernel
theorem d_Net_isPlace_5 : decode Y_Net_isPlace.2.1 5 = .ok (.aload_n 0, 1) := by decide +kernel
theorem d_Net_isPlace_6 : decode Y_Net_isPlace.2.1 6 = .ok (.getfield 24, 3) := by decide +kernel
theorem d_Net_isPlace_9 : decode Y_Net_isPlace.2.1 9 = .ok (.if_icmp .ge 7, 3) := by decide +kernel
theorem d_Net_isPlace_12 : decode Y_Net_isPlace.2.1 12 = .ok (.iconst 1, 1) := by decide +kernel
theorem d_Net_isPlace_13 : decode Y_Net_isPlace.2.1 13 = .ok (.goto 4, 3) := by decide +kernel
theorem d_Net_isPlace_16 : decode Y_Net_isPlace.2.1 16 = .ok (.iconst 0, 1) := by decide +kernel
theorem d_Net_isPlace_17 : decode Y_Net_isPlace.2.1 17 = .ok (.ireturn, 1) := by decide +kernel
theorem d_Net_changePrice_0 : decode Y_Net_changePrice.2.1 0 = .ok (.aload_n 0, 1) := by decide +kernel
theorem d_Net_changePrice_1 : decode Y_Net_changePrice.2.1 1 = .ok (.getfield 18, 3) := by decide +kernel
theorem d_Net_changePrice_4 : decode Y_Net_changePrice.2.1 4 = .ok (.iload_n 1, 1) := by decide +kernel
theorem d_Net_changePrice_5 : decode Y_Net_changePrice.2.1 5 = .ok (.iaload, 1) := by decide +kernel
theorem d_Net_changePrice_6 : decode Y_Net_changePrice.2.1 6 = .ok (.istore_n 3, 1) := by decide +kernel
theorem d_Net_changePrice_7 : decode Y_Net_changePrice.2.1 7 = .ok (.aload_n 0, 1) := by decide +kernel
theorem d_Net_changePrice_8 : decode Y_Net_changePrice.2.1 8 = .ok (.getfield 18, 3) := by decide +kernel
theorem d_Net_changePrice_11 : decode Y_Net_changePrice.2.1 11 = .ok (.iload_n 1, 1) := by decide +kernel
theorem d_Net_changePrice_12 : decode Y_Net_changePrice.2.1 12 = .ok (.iload_n 2, 1) := by decide +kernel
theorem d_Net_changePrice_13 : decode Y_Net_changePrice.2.1 13 = .ok (.iastore, 1) := by decide +kernel
theorem d_Net_changePrice_14 : decode Y_Net_changePrice.2.1 14 = .ok (.aload_n 0, 1) := by decide +kernel
theorem d_Net_changePrice_15 : decode Y_Net_changePrice.2.1 15 = .ok (.dup, 1) := by decide +kernel
theorem d_Net_changePrice_16 : decode Y_Net_changePrice.2.1 16 = .ok (.getfield 37, 3) := by decide +kernel
theorem d_Net_changePrice_19 : decode Y_Net_changePrice.2.1 19 = .ok (.iconst 1, 1) := by decide +kernel
theorem d_Net_changePrice_20 : decode Y_Net_changePrice.2.1 20 = .ok (.iadd, 1) := by decide +kernel
theorem d_Net_changePrice_21 : decode Y_Net_changePrice.2.1 21 = .ok (.putfield 37, 3) := by decide +kernel
theorem d_Net_changePrice_24 : decode Y_Net_changePrice.2.1 24 = .ok (.iload_n 3, 1) := by decide +kernel
theorem d_Net_changePrice_25 : decode Y_Net_changePrice.2.1 25 = .ok (.ireturn, 1) := by decide +kernel
theorem d_Net_changeEarlier_0 : decode Y_Net_changeEarlier.2.1 0 = .ok (.aload_n 0, 1) := by decide +kernel
theorem d_Net_changeEarlier_1 : decode Y_Net_changeEarlier.2.1 1 = .ok (.getfield 21, 3) := by decide +kernel
theorem d_Net_changeEarlier_4 : decode Y_Net_changeEarlier.2.1 4 = .ok (.iload_n 2, 1) := by decide +kernel
theorem d_Net_changeEarlier_5 : decode Y_Net_changeEarlier.2.1 5 = .ok (.iaload, 1) := by decide +kernel
theorem d_Net_changeEarlier_6 : decode Y_Net_changeEarlier.2.1 6 = .ok (.iload_n 1, 1) := by decide +kernel
theorem d_Net_changeEarlier_7 : decode Y_Net_changeEarlier.2.1 7 = .ok (.invokestatic 45, 3) := by decide +kernel
theorem d_Net_changeEarlier_10 : decode Y_Net_changeEarlier.2.1 10 = .ok (.iand, 1) := by decide +kernel
theorem d_Net_changeEarlier_11 : decode Y_Net_changeEarlier.2.1 11 = .ok (.ifCond .ne 7, 3) := by decide +kernel
theorem d_Net_changeEarlier_14 : decode Y_Net_changeEarlier.2.1 14 = .ok (.iconst 0, 1) := by decide +kernel
theorem d_Net_changeEarlier_15 : decode Y_Net_changeEarlier.2.1 15 = .ok (.goto 4, 3) := by decide +kernel
theorem d_Net_changeEarlier_18 : decode Y_Net_changeEarlier.2.1 18 = .ok (.iconst 1, 1) := by decide +kernel
theorem d_Net_changeEarlier_19 : decode Y_Net_changeEarlier.2.1 19 = .ok (.istore 4, 2) := by decide +kernel
theorem d_Net_changeEarlier_21 : decode Y_Net_changeEarlier.2.1 21 = .ok (.aload_n 0, 1) := by decide +kernel
theorem d_Net_changeEarlier_22 : decode Y_Net_changeEarlier.2.1 22 = .ok (.getfield 21, 3) := by decide +kernel
theorem d_Net_changeEarlier_25 : decode Y_Net_changeEarlier.2.1 25 = .ok (.iload_n 2, 1) := by decide +kernel
theorem d_Net_changeEarlier_26 : decode Y_Net_changeEarlier.2.1 26 = .ok (.iload_n 3, 1) := by decide +kernel
theorem d_Net_changeEarlier_27 : decode Y_Net_changeEarlier.2.1 27 = .ok (.ifCond .eq 17, 3) := by decide +kernel
theorem d_Net_changeEarlier_30 : decode Y_Net_changeEarlier.2.1 30 = .ok (.aload_n 0, 1) := by decide +kernel
theorem d_Net_changeEarlier_31 : decode Y_Net_changeEarlier.2.1 31 = .ok (.getfield 21, 3) := by decide +kernel
theorem d_Net_changeEarlier_34 : decode Y_Net_changeEarlier.2.1 34 = .ok (.iload_n 2, 1) := by decide +kernel
theorem d_Net_changeEarlier_35 : decode Y_Net_changeEarlier.2.1 35 = .ok (.iaload, 1) := by decide +kernel
theorem d_Net_changeEarlier_36 : decode Y_Net_changeEarlier.2.1 36 = .ok (.iload_n 1, 1) := by decide +kernel
theorem d_Net_changeEarlier_37 : decode Y_Net_changeEarlier.2.1 37 = .ok (.invokestatic 45, 3) := by decide +kernel
theorem d_Net_changeEarlier_40 : decode Y_Net_changeEarlier.2.1 40 = .ok (.ior, 1) := by decide +kernel
theorem d_Net_changeEarlier_41 : decode Y_Net_changeEarlier.2.1 41 = .ok (.goto 16, 3) := by decide +kernel
theorem d_Net_changeEarlier_44 : decode Y_Net_changeEarlier.2.1 44 = .ok (.aload_n 0, 1) := by decide +kernel
theorem d_Net_changeEarlier_45 : decode Y_Net_changeEarlier.2.1 45 = .ok (.getfield 21, 3) := by decide +kernel
theorem d_Net_changeEarlier_48 : decode Y_Net_changeEarlier.2.1 48 = .ok (.iload_n 2, 1) := by decide +kernel
theorem d_Net_changeEarlier_49 : decode Y_Net_changeEarlier.2.1 49 = .ok (.iaload, 1) := by decide +kernel
theorem d_Net_changeEarlier_50 : decode Y_Net_changeEarlier.2.1 50 = .ok (.iload_n 1, 1) := by decide +kernel
theorem d_Net_changeEarlier_51 : decode Y_Net_changeEarlier.2.1 51 = .ok (.invokestatic 45, 3) := by decide +kernel
theorem d_Net_changeEarlier_54 : decode Y_Net_changeEarlier.2.1 54 = .ok (.iconst (-1), 1) := by decide +kernel
theorem d_Net_changeEarlier_55 : decode Y_Net_changeEarlier.2.1 55 = .ok (.ixor, 1) := by decide +kernel
theorem d_Net_changeEarlier_56 : decode Y_Net_changeEarlier.2.1 56 = .ok (.iand, 1) := by decide +kernel
theorem d_Net_changeEarlier_57 : decode Y_Net_changeEarlier.2.1 57 = .ok (.iastore, 1) := by decide +kernel
theorem d_Net_changeEarlier_58 : decode Y_Net_changeEarlier.2.1 58 = .ok (.aload_n 0, 1) := by decide +kernel
theorem d_Net_changeEarlier_59 : decode Y_Net_changeEarlier.2.1 59 = .ok (.dup, 1) := by decide +kernel
theorem d_Net_changeEarlier_60 : decode Y_Net_changeEarlier.2.1 60 = .ok (.getfield 37, 3) := by decide +kernel
theorem d_Net_changeEarlier_63 : decode Y_Net_changeEarlier.2.1 63 = .ok (.iconst 1, 1) := by decide +kernel
theorem d_Net_changeEarlier_64 : decode Y_Net_changeEarlier.2.1 64 = .ok (.iadd, 1) := by decide +kernel
theorem d_Net_changeEarlier_65 : decode Y_Net_changeEarlier.2.1 65 = .ok (.putfield 37, 3) := by decide +kernel
theorem d_Net_changeEarlier_68 : decode Y_Net_changeEarlier.2.1 68 = .ok (.iload 4, 2) := by decide +kernel
theorem d_Net_changeEarlier_70 : decode Y_Net_changeEarlier.2.1 70 = .ok (.ireturn, 1) := by decide +kernel
theorem d_Net_changeMost_0 : decode Y_Net_changeMost.2.1 0 = .ok (.aload_n 0, 1) := by decide +kernel
theorem d_Net_changeMost_1 : decode Y_Net_changeMost.2.1 1 = .ok (.getfield 28, 3) := by decide +kernel
theorem d_Net_changeMost_4 : decode Y_Net_changeMost.2.1 4 = .ok (.istore_n 2, 1) := by decide +kernel
theorem d_Net_changeMost_5 : decode Y_Net_changeMost.2.1 5 = .ok (.aload_n 0, 1) := by decide +kernel
theorem d_Net_changeMost_6 : decode Y_Net_changeMost.2.1 6 = .ok (.iload_n 1, 1) := by decide +kernel
theorem d_Net_changeMost_7 : decode Y_Net_changeMost.2.1 7 = .ok (.putfield 28, 3) := by decide +kernel
theorem d_Net_changeMost_10 : decode Y_Net_changeMost.2.1 10 = .ok (.aload_n 0, 1) := by decide +kernel
theorem d_Net_changeMost_11 : decode Y_Net_changeMost.2.1 11 = .ok (.dup, 1) := by decide +kernel
theorem d_Net_changeMost_12 : decode Y_Net_changeMost.2.1 12 = .ok (.getfield 37, 3) := by decide +kernel
theorem d_Net_changeMost_15 : decode Y_Net_changeMost.2.1 15 = .ok (.iconst 1, 1) := by decide +kernel
theorem d_Net_changeMost_16 : decode Y_Net_changeMost.2.1 16 = .ok (.iadd, 1) := by decide +kernel
theorem d_Net_changeMost_17 : decode Y_Net_changeMost.2.1 17 = .ok (.putfield 37, 3) := by decide +kernel
theorem d_Net_changeMost_20 : decode Y_Net_changeMost.2.1 20 = .ok (.iload_n 2, 1) := by decide +kernel
theorem d_Net_changeMost_21 : decode Y_Net_changeMost.2.1 21 = .ok (.ireturn, 1) := by decide +kernel
theorem d_Net_changeRoom_0 : decode Y_Net_changeRoom.2.1 0 = .ok (.aload_n 0, 1) := by decide +kernel
theorem d_Net_changeRoom_1 : decode Y_Net_changeRoom.2.1 1 = .ok (.getfield 31, 3) := by decide +kernel
theorem d_Net_changeRoom_4 : decode Y_Net_changeRoom.2.1 4 = .ok (.istore_n 2, 1) := by decide +kernel
theorem d_Net_changeRoom_5 : decode Y_Net_changeRoom.2.1 5 = .ok (.aload_n 0, 1) := by decide +kernel
theorem d_Net_changeRoom_6 : decode Y_Net_changeRoom.2.1 6 = .ok (.iload_n 1, 1) := by decide +kernel
theorem d_Net_changeRoom_7 : decode Y_Net_changeRoom.2.1 7 = .ok (.putfield 31, 3) := by decide +kernel
theorem d_Net_changeRoom_10 : decode Y_Net_changeRoom.2.1 10 = .ok (.aload_n 0, 1) := by decide +kernel
theorem d_Net_changeRoom_11 : decode Y_Net_changeRoom.2.1 11 = .ok (.dup, 1) := by decide +kernel
theorem d_Net_changeRoom_12 : decode Y_Net_changeRoom.2.1 12 = .ok (.getfield 37, 3) := by decide +kernel
theorem d_Net_changeRoom_15 : decode Y_Net_changeRoom.2.1 15 = .ok (.iconst 1, 1) := by decide +kernel
theorem d_Net_changeRoom_16 : decode Y_Net_changeRoom.2.1 16 = .ok (.iadd, 1) := by decide +kernel
theorem d_Net_changeRoom_17 : decode Y_Net_changeRoom.2.1 17 = .ok (.putfield 37, 3) := by decide +kernel
theorem d_Net_changeRoom_20 : decode Y_Net_changeRoom.2.1 20 = .ok (.iload_n 2, 1) := by decide +kernel
theorem d_Net_changeRoom_21 : decode Y_Net_changeRoom.2.1 21 = .ok (.ireturn, 1) := by decide +kernel
theorem d_Net_changeOpen_0 : decode Y_Net_changeOpen.2.1 0 = .ok (.aload_n 0, 1) := by decide +kernel
theorem d_Net_changeOpen_1 : decode Y_Net_changeOpen.2.1 1 = .ok (.getfield 34, 3) := by decide +kernel
theorem d_Net_changeOpen_4 : decode Y_Net_changeOpen.2.1 4 = .ok (.istore_n 2, 1) := by decide +kernel
theorem d_Net_changeOpen_5 : decode Y_Net_changeOpen.2.1 5 = .ok (.aload_n 0, 1) := by decide +kernel
theorem d_Net_changeOpen_6 : decode Y_Net_changeOpen.2.1 6 = .ok (.iload_n 1, 1) := by decide +kernel
theorem d_Net_changeOpen_7 : decode Y_Net_changeOpen.2.1 7 = .ok (.putfield 34, 3) := by decide +kernel
theorem d_Net_changeOpen_10 : decode Y_Net_changeOpen.2.1 10 = .ok (.aload_n 0, 1) := by decide +kernel
theorem d_Net_changeOpen_11 : decode Y_Net_changeOpen.2.1 11 = .ok (.dup, 1) := by decide +kernel
theorem d_Net_changeOpen_12 : decode Y_Net_changeOpen.2.1 12 = .ok (.getfield 37, 3) := by decide +kernel
theorem d_Net_changeOpen_15 : decode Y_Net_changeOpen.2.1 15 = .ok (.iconst 1, 1) := by decide +kernel
theorem d_Net_changeOpen_16 : decode Y_Net_changeOpen.2.1 16 = .ok (.iadd, 1) := by decide +kernel
theorem d_Net_changeOpen_17 : decode Y_Net_changeOpen.2.1 17 = .ok (.putfield 37, 3) := by decide +kernel
theorem d_Net_changeOpen_20 : decode Y_Net_changeOpen.2.1 20 = .ok (.iload_n 2, 1) := by decide +kernel
theorem d_Net_changeOpen_21 : decode Y_Net_changeOpen.2.1 21 = .ok (.ireturn, 1) := by decide +kernel
theorem d_Sha_refresh_0 : decode Y_Sha_refresh.2.1 0 = .ok (.aload_n 0, 1) := by decide +kernel
theorem d_Sha_refresh_1 : decode Y_Sha_refresh.2.1 1 = .ok (.getfield 26, 3) := by decide +kernel
theorem d_Sha_refresh_4 : decode Y_Sha_refresh.2.1 4 = .ok (.aload_n 0, 1) := by decide +kernel
theorem d_Sha_refresh_5 : decode Y_Sha_refresh.2.1 5 = .ok (.getfield 29, 3) := by decide +kernel
theorem d_Sha_refresh_8 : decode Y_Sha_refresh.2.1 8 = .ok (.getfield 37, 3) := by decide +kernel
theorem d_Sha_refresh_11 : decode Y_Sha_refresh.2.1 11 = .ok (.if_icmp .ne 4, 3) := by decide +kernel
theorem d_Sha_refresh_14 : decode Y_Sha_refresh.2.1 14 = .ok (.return_, 1) := by decide +kernel
theorem d_Sha_refresh_15 : decode Y_Sha_refresh.2.1 15 = .ok (.aload_n 0, 1) := by decide +kernel
theorem d_Sha_refresh_16 : decode Y_Sha_refresh.2.1 16 = .ok (.aload_n 0, 1) := by decide +kernel
theorem d_Sha_refresh_17 : decode Y_Sha_refresh.2.1 17 = .ok (.getfield 29, 3) := by decide +kernel
theorem d_Sha_refresh_20 : decode Y_Sha_refresh.2.1 20 = .ok (.getfield 37, 3) := by decide +kernel
theorem d_Sha_refresh_23 : decode Y_Sha_refresh.2.1 23 = .ok (.putfield 26, 3) := by decide +kernel
theorem d_Sha_refresh_26 : decode Y_Sha_refresh.2.1 26 = .ok (.aload_n 0, 1) := by decide +kernel
theorem d_Sha_refresh_27 : decode Y_Sha_refresh.2.1 27 = .ok (.getfield 33, 3) := by decide +kernel
theorem d_Sha_refresh_30 : decode Y_Sha_refresh.2.1 30 = .ok (.invokevirtual 42, 3) := by decide +kernel
theorem d_Sha_refresh_33 : decode Y_Sha_refresh.2.1 33 = .ok (.aload_n 0, 1) := by decide +kernel
theorem d_Sha_refresh_34 : decode Y_Sha_refresh.2.1 34 = .ok (.getfield 29, 3) := by decide +kernel
theorem d_Sha_refresh_37 : decode Y_Sha_refresh.2.1 37 = .ok (.invokevirtual 47, 3) := by decide +kernel
theorem d_Sha_refresh_40 : decode Y_Sha_refresh.2.1 40 = .ok (.istore_n 1, 1) := by decide +kernel
theorem d_Sha_refresh_41 : decode Y_Sha_refresh.2.1 41 = .ok (.iconst 0, 1) := by decide +kernel
theorem d_Sha_refresh_42 : decode Y_Sha_refresh.2.1 42 = .ok (.istore_n 2, 1) := by decide +kernel
theorem d_Sha_refresh_43 : decode Y_Sha_refresh.2.1 43 = .ok (.iload_n 2, 1) := by decide +kernel
theorem d_Sha_refresh_44 : decode Y_Sha_refresh.2.1 44 = .ok (.iload_n 1, 1) := by decide +kernel
theorem d_Sha_refresh_45 : decode Y_Sha_refresh.2.1 45 = .ok (.if_icmp .gt 42, 3) := by decide +kernel
theorem d_Sha_refresh_48 : decode Y_Sha_refresh.2.1 48 = .ok (.aload_n 0, 1) := by decide +kernel
theorem d_Sha_refresh_49 : decode Y_Sha_refresh.2.1 49 = .ok (.getfield 29, 3) := by decide +kernel
theorem d_Sha_refresh_52 : decode Y_Sha_refresh.2.1 52 = .ok (.iload_n 2, 1) := by decide +kernel
theorem d_Sha_refresh_53 : decode Y_Sha_refresh.2.1 53 = .ok (.invokevirtual 51, 3) := by decide +kernel
theorem d_Sha_refresh_56 : decode Y_Sha_refresh.2.1 56 = .ok (.istore_n 3, 1) := by decide +kernel
theorem d_Sha_refresh_57 : decode Y_Sha_refresh.2.1 57 = .ok (.aload_n 0, 1) := by decide +kernel
theorem d_Sha_refresh_58 : decode Y_Sha_refresh.2.1 58 = .ok (.getfield 9, 3) := by decide +kernel
theorem d_Sha_refresh_61 : decode Y_Sha_refresh.2.1 61 = .ok (.iload_n 2, 1) := by decide +kernel
theorem d_Sha_refresh_62 : decode Y_Sha_refresh.2.1 62 = .ok (.iload_n 3, 1) := by decide +kernel
theorem d_Sha_refresh_63 : decode Y_Sha_refresh.2.1 63 = .ok (.iastore, 1) := by decide +kernel
theorem d_Sha_refresh_64 : decode Y_Sha_refresh.2.1 64 = .ok (.aload_n 0, 1) := by decide +kernel
theorem d_Sha_refresh_65 : decode Y_Sha_refresh.2.1 65 = .ok (.getfield 15, 3) := by decide +kernel
theorem d_Sha_refresh_68 : decode Y_Sha_refresh.2.1 68 = .ok (.iload_n 2, 1) := by decide +kernel
theorem d_Sha_refresh_69 : decode Y_Sha_refresh.2.1 69 = .ok (.iload_n 3, 1) := by decide +kernel
theorem d_Sha_refresh_70 : decode Y_Sha_refresh.2.1 70 = .ok (.ldc 18, 2) := by decide +kernel
theorem d_Sha_refresh_72 : decode Y_Sha_refresh.2.1 72 = .ok (.if_icmp .ne 7, 3) := by decide +kernel
theorem d_Sha_refresh_75 : decode Y_Sha_refresh.2.1 75 = .ok (.iconst 0, 1) := by decide +kernel
theorem d_Sha_refresh_76 : decode Y_Sha_refresh.2.1 76 = .ok (.goto 4, 3) := by decide +kernel
theorem d_Sha_refresh_79 : decode Y_Sha_refresh.2.1 79 = .ok (.iconst 1, 1) := by decide +kernel
theorem d_Sha_refresh_80 : decode Y_Sha_refresh.2.1 80 = .ok (.iastore, 1) := by decide +kernel
theorem d_Sha_refresh_81 : decode Y_Sha_refresh.2.1 81 = .ok (.iinc 2 1, 3) := by decide +kernel
theorem d_Sha_refresh_84 : decode Y_Sha_refresh.2.1 84 = .ok (.goto (-41), 3) := by decide +kernel
theorem d_Sha_refresh_87 : decode Y_Sha_refresh.2.1 87 = .ok (.iconst 1, 1) := by decide +kernel
theorem d_Sha_refresh_88 : decode Y_Sha_refresh.2.1 88 = .ok (.istore_n 2, 1) := by decide +kernel
theorem d_Sha_refresh_89 : decode Y_Sha_refresh.2.1 89 = .ok (.iload_n 2, 1) := by decide +kernel
theorem d_Sha_refresh_90 : decode Y_Sha_refresh.2.1 90 = .ok (.aload_n 0, 1) := by decide +kernel
theorem d_Sha_refresh_91 : decode Y_Sha_refresh.2.1 91 = .ok (.getfield 29, 3) := by decide +kernel
theorem d_Sha_refresh_94 : decode Y_Sha_refresh.2.1 94 = .ok (.getfield 55, 3) := by decide +kernel
theorem d_Sha_refresh_97 : decode Y_Sha_refresh.2.1 97 = .ok (.if_icmp .gt 67, 3) := by decide +kernel
theorem d_Sha_refresh_100 : decode Y_Sha_refresh.2.1 100 = .ok (.aload_n 0, 1) := by decide +kernel
theorem d_Sha_refresh_101 : decode Y_Sha_refresh.2.1 101 = .ok (.getfield 9, 3) := by decide +kernel
theorem d_Sha_refresh_104 : decode Y_Sha_refresh.2.1 104 = .ok (.iload_n 2, 1) := by decide +kernel
theorem d_Sha_refresh_105 : decode Y_Sha_refresh.2.1 105 = .ok (.sipush 256, 3) := by decide +kernel
theorem d_Sha_refresh_108 : decode Y_Sha_refresh.2.1 108 = .ok (.imul, 1) := by decide +kernel
theorem d_Sha_refresh_109 : decode Y_Sha_refresh.2.1 109 = .ok (.iconst 0, 1) := by decide +kernel
theorem d_Sha_refresh_110 : decode Y_Sha_refresh.2.1 110 = .ok (.iastore, 1) := by decide +kernel
theorem d_Sha_refresh_111 : decode Y_Sha_refresh.2.1 111 = .ok (.aload_n 0, 1) := by decide +kernel
theorem d_Sha_refresh_112 : decode Y_Sha_refresh.2.1 112 = .ok (.getfield 15, 3) := by decide +kernel
theorem d_Sha_refresh_115 : decode Y_Sha_refresh.2.1 115 = .ok (.iload_n 2, 1) := by decide +kernel
theorem d_Sha_refresh_116 : decode Y_Sha_refresh.2.1 116 = .ok (.sipush 256, 3) := by decide +kernel
theorem d_Sha_refresh_119 : decode Y_Sha_refresh.2.1 119 = .ok (.imul, 1) := by decide +kernel
theorem d_Sha_refresh_120 : decode Y_Sha_refresh.2.1 120 = .ok (.iconst 1, 1) := by decide +kernel
theorem d_Sha_refresh_121 : decode Y_Sha_refresh.2.1 121 = .ok (.iastore, 1) := by decide +kernel
theorem d_Sha_refresh_122 : decode Y_Sha_refresh.2.1 122 = .ok (.iconst 1, 1) := by decide +kernel
theorem d_Sha_refresh_123 : decode Y_Sha_refresh.2.1 123 = .ok (.istore_n 3, 1) := by decide +kernel
theorem d_Sha_refresh_124 : decode Y_Sha_refresh.2.1 124 = .ok (.iload_n 3, 1) := by decide +kernel
theorem d_Sha_refresh_125 : decode Y_Sha_refresh.2.1 125 = .ok (.iload_n 1, 1) := by decide +kernel
theorem d_Sha_refresh_126 : decode Y_Sha_refresh.2.1 126 = .ok (.if_icmp .gt 32, 3) := by decide +kernel
theorem d_Sha_refresh_129 : decode Y_Sha_refresh.2.1 129 = .ok (.iload_n 3, 1) := by decide +kernel
theorem d_Sha_refresh_130 : decode Y_Sha_refresh.2.1 130 = .ok (.invokestatic 58, 3) := by decide +kernel
theorem d_Sha_refresh_133 : decode Y_Sha_refresh.2.1 133 = .ok (.iload_n 2, 1) := by decide +kernel
theorem d_Sha_refresh_134 : decode Y_Sha_refresh.2.1 134 = .ok (.if_icmp .ge 12, 3) := by decide +kernel
theorem d_Sha_refresh_137 : decode Y_Sha_refresh.2.1 137 = .ok (.aload_n 0, 1) := by decide +kernel
theorem d_Sha_refresh_138 : decode Y_Sha_refresh.2.1 138 = .ok (.iload_n 2, 1) := by decide +kernel
theorem d_Sha_refresh_139 : decode Y_Sha_refresh.2.1 139 = .ok (.iload_n 3, 1) := by decide +kernel
theorem d_Sha_refresh_140 : decode Y_Sha_refresh.2.1 140 = .ok (.invokevirtual 63, 3) := by decide +kernel
theorem d_Sha_refresh_143 : decode Y_Sha_refresh.2.1 143 = .ok (.goto 9, 3) := by decide +kernel
theorem d_Sha_refresh_146 : decode Y_Sha_refresh.2.1 146 = .ok (.aload_n 0, 1) := by decide +kernel
theorem d_Sha_refresh_147 : decode Y_Sha_refresh.2.1 147 = .ok (.iload_n 2, 1) := by decide +kernel
theorem d_Sha_refresh_148 : decode Y_Sha_refresh.2.1 148 = .ok (.iload_n 3, 1) := by decide +kernel
theorem d_Sha_refresh_149 : decode Y_Sha_refresh.2.1 149 = .ok (.invokevirtual 67, 3) := by decide +kernel
theorem d_Sha_refresh_152 : decode Y_Sha_refresh.2.1 152 = .ok (.iinc 3 1, 3) := by decide +kernel
theorem d_Sha_refresh_155 : decode Y_Sha_refresh.2.1 155 = .ok (.goto (-31), 3) := by decide +kernel
theorem d_Sha_refresh_158 : decode Y_Sha_refresh.2.1 158 = .ok (.iinc 2 1, 3) := by decide +kernel
theorem d_Sha_refresh_161 : decode Y_Sha_refresh.2.1 161 = .ok (.goto (-72), 3) := by decide +kernel
theorem d_Sha_refresh_164 : decode Y_Sha_refresh.2.1 164 = .ok (.return_, 1) := by decide +kernel
theorem d_Pat_compute_0 : decode Y_Pat_compute.2.1 0 = .ok (.aload_n 0, 1) := by decide +kernel
theorem d_Pat_compute_1 : decode Y_Pat_compute.2.1 1 = .ok (.invokevirtual 34, 3) := by decide +kernel
theorem d_Pat_compute_4 : decode Y_Pat_compute.2.1 4 = .ok (.aload_n 0, 1) := by decide +kernel
theorem d_Pat_compute_5 : decode Y_Pat_compute.2.1 5 = .ok (.invokevirtual 37, 3) := by decide +kernel
theorem d_Pat_compute_8 : decode Y_Pat_compute.2.1 8 = .ok (.aload_n 0, 1) := by decide +kernel
theorem d_Pat_compute_9 : decode Y_Pat_compute.2.1 9 = .ok (.getfield 30, 3) := by decide +kernel
theorem d_Pat_compute_12 : decode Y_Pat_compute.2.1 12 = .ok (.invokevirtual 40, 3) := by decide +kernel
theorem d_Pat_compute_15 : decode Y_Pat_compute.2.1 15 = .ok (.istore_n 1, 1) := by decide +kernel
theorem d_Pat_compute_16 : decode Y_Pat_compute.2.1 16 = .ok (.iconst 0, 1) := by decide +kernel
theorem d_Pat_compute_17 : decode Y_Pat_compute.2.1 17 = .ok (.istore_n 2, 1) := by decide +kernel
theorem d_Pat_compute_18 : decode Y_Pat_compute.2.1 18 = .ok (.iload_n 2, 1) := by decide +kernel
theorem d_Pat_compute_19 : decode Y_Pat_compute.2.1 19 = .ok (.iload_n 1, 1) := by decide +kernel
theorem d_Pat_compute_20 : decode Y_Pat_compute.2.1 20 = .ok (.if_icmp .gt 61, 3) := by decide +kernel
theorem d_Pat_compute_23 : decode Y_Pat_compute.2.1 23 = .ok (.aload_n 0, 1) := by decide +kernel
theorem d_Pat_compute_24 : decode Y_Pat_compute.2.1 24 = .ok (.getfield 15, 3) := by decide +kernel
theorem d_Pat_compute_27 : decode Y_Pat_compute.2.1 27 = .ok (.iload_n 2, 1) := by decide +kernel
theorem d_Pat_compute_28 : decode Y_Pat_compute.2.1 28 = .ok (.aload_n 0, 1) := by decide +kernel
theorem d_Pat_compute_29 : decode Y_Pat_compute.2.1 29 = .ok (.iload_n 2, 1) := by decide +kernel
theorem d_Pat_compute_30 : decode Y_Pat_compute.2.1 30 = .ok (.invokevirtual 46, 3) := by decide +kernel
theorem d_Pat_compute_33 : decode Y_Pat_compute.2.1 33 = .ok (.iastore, 1) := by decide +kernel
theorem d_Pat_compute_34 : decode Y_Pat_compute.2.1 34 = .ok (.iconst 0, 1) := by decide +kernel
theorem d_Pat_compute_35 : decode Y_Pat_compute.2.1 35 = .ok (.istore_n 3, 1) := by decide +kernel
theorem d_Pat_compute_36 : decode Y_Pat_compute.2.1 36 = .ok (.iload_n 3, 1) := by decide +kernel
theorem d_Pat_compute_37 : decode Y_Pat_compute.2.1 37 = .ok (.aload_n 0, 1) := by decide +kernel
theorem d_Pat_compute_38 : decode Y_Pat_compute.2.1 38 = .ok (.getfield 30, 3) := by decide +kernel
theorem d_Pat_compute_41 : decode Y_Pat_compute.2.1 41 = .ok (.getfield 50, 3) := by decide +kernel
theorem d_Pat_compute_44 : decode Y_Pat_compute.2.1 44 = .ok (.if_icmp .ge 31, 3) := by decide +kernel
theorem d_Pat_compute_47 : decode Y_Pat_compute.2.1 47 = .ok (.aload_n 0, 1) := by decide +kernel
theorem d_Pat_compute_48 : decode Y_Pat_compute.2.1 48 = .ok (.getfield 18, 3) := by decide +kernel
theorem d_Pat_compute_51 : decode Y_Pat_compute.2.1 51 = .ok (.iload_n 2, 1) := by decide +kernel
theorem d_Pat_compute_52 : decode Y_Pat_compute.2.1 52 = .ok (.bipush 9, 2) := by decide +kernel
theorem d_Pat_compute_54 : decode Y_Pat_compute.2.1 54 = .ok (.imul, 1) := by decide +kernel
theorem d_Pat_compute_55 : decode Y_Pat_compute.2.1 55 = .ok (.iload_n 3, 1) := by decide +kernel
theorem d_Pat_compute_56 : decode Y_Pat_compute.2.1 56 = .ok (.iadd, 1) := by decide +kernel
theorem d_Pat_compute_57 : decode Y_Pat_compute.2.1 57 = .ok (.iaload, 1) := by decide +kernel
theorem d_Pat_compute_58 : decode Y_Pat_compute.2.1 58 = .ok (.ldc 54, 2) := by decide +kernel
theorem d_Pat_compute_60 : decode Y_Pat_compute.2.1 60 = .ok (.if_icmp .eq 9, 3) := by decide +kernel
theorem d_Pat_compute_63 : decode Y_Pat_compute.2.1 63 = .ok (.aload_n 0, 1) := by decide +kernel
theorem d_Pat_compute_64 : decode Y_Pat_compute.2.1 64 = .ok (.iload_n 2, 1) := by decide +kernel
theorem d_Pat_compute_65 : decode Y_Pat_compute.2.1 65 = .ok (.iload_n 3, 1) := by decide +kernel
theorem d_Pat_compute_66 : decode Y_Pat_compute.2.1 66 = .ok (.invokevirtual 55, 3) := by decide +kernel
theorem d_Pat_compute_69 : decode Y_Pat_compute.2.1 69 = .ok (.iinc 3 1, 3) := by decide +kernel
theorem d_Pat_compute_72 : decode Y_Pat_compute.2.1 72 = .ok (.goto (-36), 3) := by decide +kernel
theorem d_Pat_compute_75 : decode Y_Pat_compute.2.1 75 = .ok (.iinc 2 1, 3) := by decide +kernel
theorem d_Pat_compute_78 : decode Y_Pat_compute.2.1 78 = .ok (.goto (-60), 3) := by decide +kernel
theorem d_Pat_compute_81 : decode Y_Pat_compute.2.1 81 = .ok (.iconst 1, 1) := by decide +kernel
theorem d_Pat_compute_82 : decode Y_Pat_compute.2.1 82 = .ok (.istore_n 2, 1) := by decide +kernel
theorem d_Pat_compute_83 : decode Y_Pat_compute.2.1 83 = .ok (.iload_n 2, 1) := by decide +kernel
theorem d_Pat_compute_84 : decode Y_Pat_compute.2.1 84 = .ok (.iload_n 1, 1) := by decide +kernel
theorem d_Pat_compute_85 : decode Y_Pat_compute.2.1 85 = .ok (.if_icmp .gt 14, 3) := by decide +kernel
theorem d_Pat_compute_88 : decode Y_Pat_compute.2.1 88 = .ok (.aload_n 0, 1) := by decide +kernel
theorem d_Pat_compute_89 : decode Y_Pat_compute.2.1 89 = .ok (.iload_n 2, 1) := by decide +kernel
theorem d_Pat_compute_90 : decode Y_Pat_compute.2.1 90 = .ok (.invokevirtual 59, 3) := by decide +kernel
theorem d_Pat_compute_93 : decode Y_Pat_compute.2.1 93 = .ok (.iinc 2 1, 3) := by decide +kernel
theorem d_Pat_compute_96 : decode Y_Pat_compute.2.1 96 = .ok (.goto (-13), 3) := by decide +kernel
theorem d_Pat_compute_99 : decode Y_Pat_compute.2.1 99 = .ok (.return_, 1) := by decide +kernel
theorem d_Pat_addLoads_0 : decode Y_Pat_addLoads.2.1 0 = .ok (.iconst 1, 1) := by decide +kernel
theorem d_Pat_addLoads_1 : decode Y_Pat_addLoads.2.1 1 = .ok (.istore_n 1, 1) := by decide +kernel
theorem d_Pat_addLoads_2 : decode Y_Pat_addLoads.2.1 2 = .ok (.iload_n 1, 1) := by decide +kernel
theorem d_Pat_addLoads_3 : decode Y_Pat_addLoads.2.1 3 = .ok (.aload_n 0, 1) := by decide +kernel
theorem d_Pat_addLoads_4 : decode Y_Pat_addLoads.2.1 4 = .ok (.getfield 30, 3) := by decide +kernel
theorem d_Pat_addLoads_7 : decode Y_Pat_addLoads.2.1 7 = .ok (.getfield 50, 3) := by decide +kernel
theorem d_Pat_addLoads_10 : decode Y_Pat_addLoads.2.1 10 = .ok (.if_icmp .ge 52, 3) := by decide +kernel
theorem d_Pat_addLoads_13 : decode Y_Pat_addLoads.2.1 13 = .ok (.iconst 0, 1) := by decide +kernel
theorem d_Pat_addLoads_14 : decode Y_Pat_addLoads.2.1 14 = .ok (.istore_n 2, 1) := by decide +kernel
theorem d_Pat_addLoads_15 : decode Y_Pat_addLoads.2.1 15 = .ok (.iload_n 2, 1) := by decide +kernel
theorem d_Pat_addLoads_16 : decode Y_Pat_addLoads.2.1 16 = .ok (.iload_n 1, 1) := by decide +kernel
theorem d_Pat_addLoads_17 : decode Y_Pat_addLoads.2.1 17 = .ok (.invokestatic 69, 3) := by decide +kernel
theorem d_Pat_addLoads_20 : decode Y_Pat_addLoads.2.1 20 = .ok (.if_icmp .ge 36, 3) := by decide +kernel
theorem d_Pat_addLoads_23 : decode Y_Pat_addLoads.2.1 23 = .ok (.aload_n 0, 1) := by decide +kernel
theorem d_Pat_addLoads_24 : decode Y_Pat_addLoads.2.1 24 = .ok (.getfield 9, 3) := by decide +kernel
theorem d_Pat_addLoads_27 : decode Y_Pat_addLoads.2.1 27 = .ok (.iload_n 2, 1) := by decide +kernel
theorem d_Pat_addLoads_28 : decode Y_Pat_addLoads.2.1 28 = .ok (.iload_n 1, 1) := by decide +kernel
theorem d_Pat_addLoads_29 : decode Y_Pat_addLoads.2.1 29 = .ok (.invokestatic 69, 3) := by decide +kernel
theorem d_Pat_addLoads_32 : decode Y_Pat_addLoads.2.1 32 = .ok (.ior, 1) := by decide +kernel
theorem d_Pat_addLoads_33 : decode Y_Pat_addLoads.2.1 33 = .ok (.aload_n 0, 1) := by decide +kernel
theorem d_Pat_addLoads_34 : decode Y_Pat_addLoads.2.1 34 = .ok (.getfield 9, 3) := by decide +kernel
theorem d_Pat_addLoads_37 : decode Y_Pat_addLoads.2.1 37 = .ok (.iload_n 2, 1) := by decide +kernel
theorem d_Pat_addLoads_38 : decode Y_Pat_addLoads.2.1 38 = .ok (.iaload, 1) := by decide +kernel
theorem d_Pat_addLoads_39 : decode Y_Pat_addLoads.2.1 39 = .ok (.aload_n 0, 1) := by decide +kernel
theorem d_Pat_addLoads_40 : decode Y_Pat_addLoads.2.1 40 = .ok (.getfield 30, 3) := by decide +kernel
theorem d_Pat_addLoads_43 : decode Y_Pat_addLoads.2.1 43 = .ok (.getfield 63, 3) := by decide +kernel
theorem d_Pat_addLoads_46 : decode Y_Pat_addLoads.2.1 46 = .ok (.iload_n 1, 1) := by decide +kernel
theorem d_Pat_addLoads_47 : decode Y_Pat_addLoads.2.1 47 = .ok (.iaload, 1) := by decide +kernel
theorem d_Pat_addLoads_48 : decode Y_Pat_addLoads.2.1 48 = .ok (.iadd, 1) := by decide +kernel
theorem d_Pat_addLoads_49 : decode Y_Pat_addLoads.2.1 49 = .ok (.iastore, 1) := by decide +kernel
theorem d_Pat_addLoads_50 : decode Y_Pat_addLoads.2.1 50 = .ok (.iinc 2 1, 3) := by decide +kernel
theorem d_Pat_addLoads_53 : decode Y_Pat_addLoads.2.1 53 = .ok (.goto (-38), 3) := by decide +kernel
theorem d_Pat_addLoads_56 : decode Y_Pat_addLoads.2.1 56 = .ok (.iinc 1 1, 3) := by decide +kernel
theorem d_Pat_addLoads_59 : decode Y_Pat_addLoads.2.1 59 = .ok (.goto (-57), 3) := by decide +kernel
theorem d_Pat_addLoads_62 : decode Y_Pat_addLoads.2.1 62 = .ok (.return_, 1) := by decide +kernel
theorem d_Pat_clearPaths_0 : decode Y_Pat_clearPaths.2.1 0 = .ok (.aload_n 0, 1) := by decide +kernel
theorem d_Pat_clearPaths_1 : decode Y_Pat_clearPaths.2.1 1 = .ok (.getfield 30, 3) := by decide +kernel
theorem d_Pat_clearPaths_4 : decode Y_Pat_clearPaths.2.1 4 = .ok (.invokevirtual 40, 3) := by decide +kernel
theorem d_Pat_clearPaths_7 : decode Y_Pat_clearPaths.2.1 7 = .ok (.iconst 1, 1) := by decide +kernel
theorem d_Pat_clearPaths_8 : decode Y_Pat_clearPaths.2.1 8 = .ok (.iadd, 1) := by decide +kernel
theorem d_Pat_clearPaths_9 : decode Y_Pat_clearPaths.2.1 9 = .ok (.bipush 9, 2) := by decide +kernel
theorem d_Pat_clearPaths_11 : decode Y_Pat_clearPaths.2.1 11 = .ok (.imul, 1) := by decide +kernel
theorem d_Pat_clearPaths_12 : decode Y_Pat_clearPaths.2.1 12 = .ok (.istore_n 1, 1) := by decide +kernel
theorem d_Pat_clearPaths_13 : decode Y_Pat_clearPaths.2.1 13 = .ok (.iconst 0, 1) := by decide +kernel
theorem d_Pat_clearPaths_14 : decode Y_Pat_clearPaths.2.1 14 = .ok (.istore_n 2, 1) := by decide +kernel
theorem d_Pat_clearPaths_15 : decode Y_Pat_clearPaths.2.1 15 = .ok (.iload_n 2, 1) := by decide +kernel
theorem d_Pat_clearPaths_16 : decode Y_Pat_clearPaths.2.1 16 = .ok (.iload_n 1, 1) := by decide +kernel
theorem d_Pat_clearPaths_17 : decode Y_Pat_clearPaths.2.1 17 = .ok (.if_icmp .ge 24, 3) := by decide +kernel
theorem d_Pat_clearPaths_20 : decode Y_Pat_clearPaths.2.1 20 = .ok (.aload_n 0, 1) := by decide +kernel
theorem d_Pat_clearPaths_21 : decode Y_Pat_clearPaths.2.1 21 = .ok (.getfield 18, 3) := by decide +kernel
theorem d_Pat_clearPaths_24 : decode Y_Pat_clearPaths.2.1 24 = .ok (.iload_n 2, 1) := by decide +kernel
theorem d_Pat_clearPaths_25 : decode Y_Pat_clearPaths.2.1 25 = .ok (.ldc 54, 2) := by decide +kernel
theorem d_Pat_clearPaths_27 : decode Y_Pat_clearPaths.2.1 27 = .ok (.iastore, 1) := by decide +kernel
theorem d_Pat_clearPaths_28 : decode Y_Pat_clearPaths.2.1 28 = .ok (.aload_n 0, 1) := by decide +kernel
theorem d_Pat_clearPaths_29 : decode Y_Pat_clearPaths.2.1 29 = .ok (.getfield 21, 3) := by decide +kernel
theorem d_Pat_clearPaths_32 : decode Y_Pat_clearPaths.2.1 32 = .ok (.iload_n 2, 1) := by decide +kernel
theorem d_Pat_clearPaths_33 : decode Y_Pat_clearPaths.2.1 33 = .ok (.iconst 0, 1) := by decide +kernel
theorem d_Pat_clearPaths_34 : decode Y_Pat_clearPaths.2.1 34 = .ok (.iastore, 1) := by decide +kernel
theorem d_Pat_clearPaths_35 : decode Y_Pat_clearPaths.2.1 35 = .ok (.iinc 2 1, 3) := by decide +kernel
theorem d_Pat_clearPaths_38 : decode Y_Pat_clearPaths.2.1 38 = .ok (.goto (-23), 3) := by decide +kernel
theorem d_Pat_clearPaths_41 : decode Y_Pat_clearPaths.2.1 41 = .ok (.aload_n 0, 1) := by decide +kernel
theorem d_Pat_clearPaths_42 : decode Y_Pat_clearPaths.2.1 42 = .ok (.getfield 18, 3) := by decide +kernel
theorem d_Pat_clearPaths_45 : decode Y_Pat_clearPaths.2.1 45 = .ok (.iconst 0, 1) := by decide +kernel
theorem d_Pat_clearPaths_46 : decode Y_Pat_clearPaths.2.1 46 = .ok (.iconst 0, 1) := by decide +kernel
theorem d_Pat_clearPaths_47 : decode Y_Pat_clearPaths.2.1 47 = .ok (.iastore, 1) := by decide +kernel
theorem d_Pat_clearPaths_48 : decode Y_Pat_clearPaths.2.1 48 = .ok (.aload_n 0, 1) := by decide +kernel
theorem d_Pat_clearPaths_49 : decode Y_Pat_clearPaths.2.1 49 = .ok (.getfield 21, 3) := by decide +kernel
theorem d_Pat_clearPaths_52 : decode Y_Pat_clearPaths.2.1 52 = .ok (.iconst 0, 1) := by decide +kernel
theorem d_Pat_clearPaths_53 : decode Y_Pat_clearPaths.2.1 53 = .ok (.iconst 1, 1) := by decide +kernel
theorem d_Pat_clearPaths_54 : decode Y_Pat_clearPaths.2.1 54 = .ok (.iastore, 1) := by decide +kernel
theorem d_Pat_clearPaths_55 : decode Y_Pat_clearPaths.2.1 55 = .ok (.return_, 1) := by decide +kernel
theorem d_Net_allPlaces_0 : decode Y_Net_allPlaces.2.1 0 = .ok (.iconst 1, 1) := by decide +kernel
theorem d_Net_allPlaces_1 : decode Y_Net_allPlaces.2.1 1 = .ok (.aload_n 0, 1) := by decide +kernel
theorem d_Net_allPlaces_2 : decode Y_Net_allPlaces.2.1 2 = .ok (.getfield 24, 3) := by decide +kernel
theorem d_Net_allPlaces_5 : decode Y_Net_allPlaces.2.1 5 = .ok (.iconst 1, 1) := by decide +kernel
theorem d_Net_allPlaces_6 : decode Y_Net_allPlaces.2.1 6 = .ok (.isub, 1) := by decide +kernel
theorem d_Net_allPlaces_7 : decode Y_Net_allPlaces.2.1 7 = .ok (.ishl, 1) := by decide +kernel
theorem d_Net_allPlaces_8 : decode Y_Net_allPlaces.2.1 8 = .ok (.iconst 1, 1) := by decide +kernel
theorem d_Net_allPlaces_9 : decode Y_Net_allPlaces.2.1 9 = .ok (.isub, 1) := by decide +kernel
theorem d_Net_allPlaces_10 : decode Y_Net_allPlaces.2.1 10 = .ok (.ireturn, 1) := by decide +kernel
theorem d_Pat_followersOf_0 : decode Y_Pat_followersOf.2.1 0 = .ok (.iconst 0, 1) := by decide +kernel
theorem d_Pat_followersOf_1 : decode Y_Pat_followersOf.2.1 1 = .ok (.istore_n 2, 1) := by decide +kernel
theorem d_Pat_followersOf_2 : decode Y_Pat_followersOf.2.1 2 = .ok (.iconst 1, 1) := by decide +kernel
theorem d_Pat_followersOf_3 : decode Y_Pat_followersOf.2.1 3 = .ok (.istore_n 3, 1) := by decide +kernel
theorem d_Pat_followersOf_4 : decode Y_Pat_followersOf.2.1 4 = .ok (.iload_n 3, 1) := by decide +kernel
theorem d_Pat_followersOf_5 : decode Y_Pat_followersOf.2.1 5 = .ok (.aload_n 0, 1) := by decide +kernel
theorem d_Pat_followersOf_6 : decode Y_Pat_followersOf.2.1 6 = .ok (.getfield 30, 3) := by decide +kernel
theorem d_Pat_followersOf_9 : decode Y_Pat_followersOf.2.1 9 = .ok (.getfield 50, 3) := by decide +kernel
theorem d_Pat_followersOf_12 : decode Y_Pat_followersOf.2.1 12 = .ok (.if_icmp .ge 79, 3) := by decide +kernel
theorem d_Pat_followersOf_15 : decode Y_Pat_followersOf.2.1 15 = .ok (.aload_n 0, 1) := by decide +kernel
theorem d_Pat_followersOf_16 : decode Y_Pat_followersOf.2.1 16 = .ok (.getfield 9, 3) := by decide +kernel
theorem d_Pat_followersOf_19 : decode Y_Pat_followersOf.2.1 19 = .ok (.iload_n 1, 1) := by decide +kernel
theorem d_Pat_followersOf_20 : decode Y_Pat_followersOf.2.1 20 = .ok (.iaload, 1) := by decide +kernel
theorem d_Pat_followersOf_21 : decode Y_Pat_followersOf.2.1 21 = .ok (.aload_n 0, 1) := by decide +kernel
theorem d_Pat_followersOf_22 : decode Y_Pat_followersOf.2.1 22 = .ok (.getfield 30, 3) := by decide +kernel
theorem d_Pat_followersOf_25 : decode Y_Pat_followersOf.2.1 25 = .ok (.getfield 63, 3) := by decide +kernel
theorem d_Pat_followersOf_28 : decode Y_Pat_followersOf.2.1 28 = .ok (.iload_n 3, 1) := by decide +kernel
theorem d_Pat_followersOf_29 : decode Y_Pat_followersOf.2.1 29 = .ok (.iaload, 1) := by decide +kernel
theorem d_Pat_followersOf_30 : decode Y_Pat_followersOf.2.1 30 = .ok (.iadd, 1) := by decide +kernel
theorem d_Pat_followersOf_31 : decode Y_Pat_followersOf.2.1 31 = .ok (.aload_n 0, 1) := by decide +kernel
theorem d_Pat_followersOf_32 : decode Y_Pat_followersOf.2.1 32 = .ok (.getfield 30, 3) := by decide +kernel
theorem d_Pat_followersOf_35 : decode Y_Pat_followersOf.2.1 35 = .ok (.getfield 66, 3) := by decide +kernel
theorem d_Pat_followersOf_38 : decode Y_Pat_followersOf.2.1 38 = .ok (.if_icmp .gt 7, 3) := by decide +kernel
theorem d_Pat_followersOf_41 : decode Y_Pat_followersOf.2.1 41 = .ok (.iconst 1, 1) := by decide +kernel
theorem d_Pat_followersOf_42 : decode Y_Pat_followersOf.2.1 42 = .ok (.goto 4, 3) := by decide +kernel
theorem d_Pat_followersOf_45 : decode Y_Pat_followersOf.2.1 45 = .ok (.iconst 0, 1) := by decide +kernel
theorem d_Pat_followersOf_46 : decode Y_Pat_followersOf.2.1 46 = .ok (.istore 4, 2) := by decide +kernel
theorem d_Pat_followersOf_48 : decode Y_Pat_followersOf.2.1 48 = .ok (.iload 4, 2) := by decide +kernel
theorem d_Pat_followersOf_50 : decode Y_Pat_followersOf.2.1 50 = .ok (.ifCond .eq 35, 3) := by decide +kernel
theorem d_Pat_followersOf_53 : decode Y_Pat_followersOf.2.1 53 = .ok (.iload_n 1, 1) := by decide +kernel
theorem d_Pat_followersOf_54 : decode Y_Pat_followersOf.2.1 54 = .ok (.iload_n 3, 1) := by decide +kernel
theorem d_Pat_followersOf_55 : decode Y_Pat_followersOf.2.1 55 = .ok (.invokestatic 69, 3) := by decide +kernel
theorem d_Pat_followersOf_58 : decode Y_Pat_followersOf.2.1 58 = .ok (.iand, 1) := by decide +kernel
theorem d_Pat_followersOf_59 : decode Y_Pat_followersOf.2.1 59 = .ok (.ifCond .ne 26, 3) := by decide +kernel
theorem d_Pat_followersOf_62 : decode Y_Pat_followersOf.2.1 62 = .ok (.aload_n 0, 1) := by decide +kernel
theorem d_Pat_followersOf_63 : decode Y_Pat_followersOf.2.1 63 = .ok (.getfield 30, 3) := by decide +kernel
theorem d_Pat_followersOf_66 : decode Y_Pat_followersOf.2.1 66 = .ok (.getfield 72, 3) := by decide +kernel
theorem d_Pat_followersOf_69 : decode Y_Pat_followersOf.2.1 69 = .ok (.iload_n 3, 1) := by decide +kernel
theorem d_Pat_followersOf_70 : decode Y_Pat_followersOf.2.1 70 = .ok (.iaload, 1) := by decide +kernel
theorem d_Pat_followersOf_71 : decode Y_Pat_followersOf.2.1 71 = .ok (.iload_n 1, 1) := by decide +kernel
theorem d_Pat_followersOf_72 : decode Y_Pat_followersOf.2.1 72 = .ok (.iconst (-1), 1) := by decide +kernel
theorem d_Pat_followersOf_73 : decode Y_Pat_followersOf.2.1 73 = .ok (.ixor, 1) := by decide +kernel
theorem d_Pat_followersOf_74 : decode Y_Pat_followersOf.2.1 74 = .ok (.iand, 1) := by decide +kernel
theorem d_Pat_followersOf_75 : decode Y_Pat_followersOf.2.1 75 = .ok (.ifCond .ne 10, 3) := by decide +kernel
theorem d_Pat_followersOf_78 : decode Y_Pat_followersOf.2.1 78 = .ok (.iload_n 2, 1) := by decide +kernel
theorem d_Pat_followersOf_79 : decode Y_Pat_followersOf.2.1 79 = .ok (.iload_n 3, 1) := by decide +kernel
theorem d_Pat_followersOf_80 : decode Y_Pat_followersOf.2.1 80 = .ok (.invokestatic 69, 3) := by decide +kernel
theorem d_Pat_followersOf_83 : decode Y_Pat_followersOf.2.1 83 = .ok (.ior, 1) := by decide +kernel
theorem d_Pat_followersOf_84 : decode Y_Pat_followersOf.2.1 84 = .ok (.istore_n 2, 1) := by decide +kernel
theorem d_Pat_followersOf_85 : decode Y_Pat_followersOf.2.1 85 = .ok (.iinc 3 1, 3) := by decide +kernel
theorem d_Pat_followersOf_88 : decode Y_Pat_followersOf.2.1 88 = .ok (.goto (-84), 3) := by decide +kernel
theorem d_Pat_followersOf_91 : decode Y_Pat_followersOf.2.1 91 = .ok (.iload_n 2, 1) := by decide +kernel
theorem d_Pat_followersOf_92 : decode Y_Pat_followersOf.2.1 92 = .ok (.ireturn, 1) := by decide +kernel
theorem d_Pat_extend_0 : decode Y_Pat_extend.2.1 0 = .ok (.iload_n 1, 1) := by decide +kernel
theorem d_Pat_extend_1 : decode Y_Pat_extend.2.1 1 = .ok (.bipush 9, 2) := by decide +kernel
theorem d_Pat_extend_3 : decode Y_Pat_extend.2.1 3 = .ok (.imul, 1) := by decide +kernel
theorem d_Pat_extend_4 : decode Y_Pat_extend.2.1 4 = .ok (.iload_n 2, 1) := by decide +kernel
theorem d_Pat_extend_5 : decode Y_Pat_extend.2.1 5 = .ok (.iadd, 1) := by decide +kernel
theorem d_Pat_extend_6 : decode Y_Pat_extend.2.1 6 = .ok (.istore_n 3, 1) := by decide +kernel
theorem d_Pat_extend_7 : decode Y_Pat_extend.2.1 7 = .ok (.iconst 1, 1) := by decide +kernel
theorem d_Pat_extend_8 : decode Y_Pat_extend.2.1 8 = .ok (.istore 4, 2) := by decide +kernel
theorem d_Pat_extend_10 : decode Y_Pat_extend.2.1 10 = .ok (.iload 4, 2) := by decide +kernel
theorem d_Pat_extend_12 : decode Y_Pat_extend.2.1 12 = .ok (.aload_n 0, 1) := by decide +kernel
theorem d_Pat_extend_13 : decode Y_Pat_extend.2.1 13 = .ok (.getfield 30, 3) := by decide +kernel
theorem d_Pat_extend_16 : decode Y_Pat_extend.2.1 16 = .ok (.getfield 50, 3) := by decide +kernel
theorem d_Pat_extend_19 : decode Y_Pat_extend.2.1 19 = .ok (.if_icmp .ge 142, 3) := by decide +kernel
theorem d_Pat_extend_22 : decode Y_Pat_extend.2.1 22 = .ok (.aload_n 0, 1) := by decide +kernel
theorem d_Pat_extend_23 : decode Y_Pat_extend.2.1 23 = .ok (.getfield 30, 3) := by decide +kernel
theorem d_Pat_extend_26 : decode Y_Pat_extend.2.1 26 = .ok (.getfield 75, 3) := by decide +kernel
theorem d_Pat_extend_29 : decode Y_Pat_extend.2.1 29 = .ok (.iload_n 2, 1) := by decide +kernel
theorem d_Pat_extend_30 : decode Y_Pat_extend.2.1 30 = .ok (.bipush 9, 2) := by decide +kernel
theorem d_Pat_extend_32 : decode Y_Pat_extend.2.1 32 = .ok (.imul, 1) := by decide +kernel
theorem d_Pat_extend_33 : decode Y_Pat_extend.2.1 33 = .ok (.iload 4, 2) := by decide +kernel
theorem d_Pat_extend_35 : decode Y_Pat_extend.2.1 35 = .ok (.iadd, 1) := by decide +kernel
theorem d_Pat_extend_36 : decode Y_Pat_extend.2.1 36 = .ok (.iaload, 1) := by decide +kernel
theorem d_Pat_extend_37 : decode Y_Pat_extend.2.1 37 = .ok (.istore 5, 2) := by decide +kernel
theorem d_Pat_extend_39 : decode Y_Pat_extend.2.1 39 = .ok (.iload 5, 2) := by decide +kernel
theorem d_Pat_extend_41 : decode Y_Pat_extend.2.1 41 = .ok (.ldc 54, 2) := by decide +kernel
theorem d_Pat_extend_43 : decode Y_Pat_extend.2.1 43 = .ok (.if_icmp .eq 112, 3) := by decide +kernel
theorem d_Pat_extend_46 : decode Y_Pat_extend.2.1 46 = .ok (.aload_n 0, 1) := by decide +kernel
theorem d_Pat_extend_47 : decode Y_Pat_extend.2.1 47 = .ok (.getfield 15, 3) := by decide +kernel
theorem d_Pat_extend_50 : decode Y_Pat_extend.2.1 50 = .ok (.iload_n 1, 1) := by decide +kernel
theorem d_Pat_extend_51 : decode Y_Pat_extend.2.1 51 = .ok (.iaload, 1) := by decide +kernel
theorem d_Pat_extend_52 : decode Y_Pat_extend.2.1 52 = .ok (.iload 4, 2) := by decide +kernel
theorem d_Pat_extend_54 : decode Y_Pat_extend.2.1 54 = .ok (.invokestatic 69, 3) := by decide +kernel
theorem d_Pat_extend_57 : decode Y_Pat_extend.2.1 57 = .ok (.iand, 1) := by decide +kernel
theorem d_Pat_extend_58 : decode Y_Pat_extend.2.1 58 = .ok (.ifCond .ne 6, 3) := by decide +kernel
theorem d_Pat_extend_61 : decode Y_Pat_extend.2.1 61 = .ok (.goto 94, 3) := by decide +kernel
theorem d_Pat_extend_64 : decode Y_Pat_extend.2.1 64 = .ok (.iload_n 1, 1) := by decide +kernel
theorem d_Pat_extend_65 : decode Y_Pat_extend.2.1 65 = .ok (.iload 4, 2) := by decide +kernel
theorem d_Pat_extend_67 : decode Y_Pat_extend.2.1 67 = .ok (.invokestatic 69, 3) := by decide +kernel
theorem d_Pat_extend_70 : decode Y_Pat_extend.2.1 70 = .ok (.ior, 1) := by decide +kernel
theorem d_Pat_extend_71 : decode Y_Pat_extend.2.1 71 = .ok (.bipush 9, 2) := by decide +kernel
theorem d_Pat_extend_73 : decode Y_Pat_extend.2.1 73 = .ok (.imul, 1) := by decide +kernel
theorem d_Pat_extend_74 : decode Y_Pat_extend.2.1 74 = .ok (.iload 4, 2) := by decide +kernel
theorem d_Pat_extend_76 : decode Y_Pat_extend.2.1 76 = .ok (.iadd, 1) := by decide +kernel
theorem d_Pat_extend_77 : decode Y_Pat_extend.2.1 77 = .ok (.istore 6, 2) := by decide +kernel
theorem d_Pat_extend_79 : decode Y_Pat_extend.2.1 79 = .ok (.aload_n 0, 1) := by decide +kernel
theorem d_Pat_extend_80 : decode Y_Pat_extend.2.1 80 = .ok (.getfield 18, 3) := by decide +kernel
theorem d_Pat_extend_83 : decode Y_Pat_extend.2.1 83 = .ok (.iload_n 3, 1) := by decide +kernel
theorem d_Pat_extend_84 : decode Y_Pat_extend.2.1 84 = .ok (.iaload, 1) := by decide +kernel
theorem d_Pat_extend_85 : decode Y_Pat_extend.2.1 85 = .ok (.iload 5, 2) := by decide +kernel
theorem d_Pat_extend_87 : decode Y_Pat_extend.2.1 87 = .ok (.iadd, 1) := by decide +kernel
theorem d_Pat_extend_88 : decode Y_Pat_extend.2.1 88 = .ok (.istore 7, 2) := by decide +kernel
theorem d_Pat_extend_90 : decode Y_Pat_extend.2.1 90 = .ok (.iload 7, 2) := by decide +kernel
theorem d_Pat_extend_92 : decode Y_Pat_extend.2.1 92 = .ok (.aload_n 0, 1) := by decide +kernel
theorem d_Pat_extend_93 : decode Y_Pat_extend.2.1 93 = .ok (.getfield 18, 3) := by decide +kernel
theorem d_Pat_extend_96 : decode Y_Pat_extend.2.1 96 = .ok (.iload 6, 2) := by decide +kernel
theorem d_Pat_extend_98 : decode Y_Pat_extend.2.1 98 = .ok (.iaload, 1) := by decide +kernel
theorem d_Pat_extend_99 : decode Y_Pat_extend.2.1 99 = .ok (.if_icmp .ge 28, 3) := by decide +kernel
theorem d_Pat_extend_102 : decode Y_Pat_extend.2.1 102 = .ok (.aload_n 0, 1) := by decide +kernel
theorem d_Pat_extend_103 : decode Y_Pat_extend.2.1 103 = .ok (.getfield 18, 3) := by decide +kernel
theorem d_Pat_extend_106 : decode Y_Pat_extend.2.1 106 = .ok (.iload 6, 2) := by decide +kernel
theorem d_Pat_extend_108 : decode Y_Pat_extend.2.1 108 = .ok (.iload 7, 2) := by decide +kernel
theorem d_Pat_extend_110 : decode Y_Pat_extend.2.1 110 = .ok (.iastore, 1) := by decide +kernel
theorem d_Pat_extend_111 : decode Y_Pat_extend.2.1 111 = .ok (.aload_n 0, 1) := by decide +kernel
theorem d_Pat_extend_112 : decode Y_Pat_extend.2.1 112 = .ok (.getfield 21, 3) := by decide +kernel
theorem d_Pat_extend_115 : decode Y_Pat_extend.2.1 115 = .ok (.iload 6, 2) := by decide +kernel
theorem d_Pat_extend_117 : decode Y_Pat_extend.2.1 117 = .ok (.aload_n 0, 1) := by decide +kernel
theorem d_Pat_extend_118 : decode Y_Pat_extend.2.1 118 = .ok (.getfield 21, 3) := by decide +kernel
theorem d_Pat_extend_121 : decode Y_Pat_extend.2.1 121 = .ok (.iload_n 3, 1) := by decide +kernel
theorem d_Pat_extend_122 : decode Y_Pat_extend.2.1 122 = .ok (.iaload, 1) := by decide +kernel
theorem d_Pat_extend_123 : decode Y_Pat_extend.2.1 123 = .ok (.iastore, 1) := by decide +kernel
theorem d_Pat_extend_124 : decode Y_Pat_extend.2.1 124 = .ok (.goto 31, 3) := by decide +kernel
theorem d_Pat_extend_127 : decode Y_Pat_extend.2.1 127 = .ok (.iload 7, 2) := by decide +kernel
theorem d_Pat_extend_129 : decode Y_Pat_extend.2.1 129 = .ok (.aload_n 0, 1) := by decide +kernel
theorem d_Pat_extend_130 : decode Y_Pat_extend.2.1 130 = .ok (.getfield 18, 3) := by decide +kernel
theorem d_Pat_extend_133 : decode Y_Pat_extend.2.1 133 = .ok (.iload 6, 2) := by decide +kernel
theorem d_Pat_extend_135 : decode Y_Pat_extend.2.1 135 = .ok (.iaload, 1) := by decide +kernel
theorem d_Pat_extend_136 : decode Y_Pat_extend.2.1 136 = .ok (.if_icmp .ne 19, 3) := by decide +kernel
theorem d_Pat_extend_139 : decode Y_Pat_extend.2.1 139 = .ok (.aload_n 0, 1) := by decide +kernel
theorem d_Pat_extend_140 : decode Y_Pat_extend.2.1 140 = .ok (.getfield 21, 3) := by decide +kernel
theorem d_Pat_extend_143 : decode Y_Pat_extend.2.1 143 = .ok (.iload 6, 2) := by decide +kernel
theorem d_Pat_extend_145 : decode Y_Pat_extend.2.1 145 = .ok (.dup2, 1) := by decide +kernel
theorem d_Pat_extend_146 : decode Y_Pat_extend.2.1 146 = .ok (.iaload, 1) := by decide +kernel
theorem d_Pat_extend_147 : decode Y_Pat_extend.2.1 147 = .ok (.aload_n 0, 1) := by decide +kernel
theorem d_Pat_extend_148 : decode Y_Pat_extend.2.1 148 = .ok (.getfield 21, 3) := by decide +kernel
theorem d_Pat_extend_151 : decode Y_Pat_extend.2.1 151 = .ok (.iload_n 3, 1) := by decide +kernel
theorem d_Pat_extend_152 : decode Y_Pat_extend.2.1 152 = .ok (.iaload, 1) := by decide +kernel
theorem d_Pat_extend_153 : decode Y_Pat_extend.2.1 153 = .ok (.iadd, 1) := by decide +kernel
theorem d_Pat_extend_154 : decode Y_Pat_extend.2.1 154 = .ok (.iastore, 1) := by decide +kernel
theorem d_Pat_extend_155 : decode Y_Pat_extend.2.1 155 = .ok (.iinc 4 1, 3) := by decide +kernel
theorem d_Pat_extend_158 : decode Y_Pat_extend.2.1 158 = .ok (.goto (-148), 3) := by decide +kernel
theorem d_Pat_extend_161 : decode Y_Pat_extend.2.1 161 = .ok (.return_, 1) := by decide +kernel
theorem d_Pat_closeRound_0 : decode Y_Pat_closeRound.2.1 0 = .ok (.ldc 54, 2) := by decide +kernel
theorem d_Pat_closeRound_2 : decode Y_Pat_closeRound.2.1 2 = .ok (.istore_n 2, 1) := by decide +kernel
theorem d_Pat_closeRound_3 : decode Y_Pat_closeRound.2.1 3 = .ok (.iconst 0, 1) := by decide +kernel
theorem d_Pat_closeRound_4 : decode Y_Pat_closeRound.2.1 4 = .ok (.istore_n 3, 1) := by decide +kernel
theorem d_Pat_closeRound_5 : decode Y_Pat_closeRound.2.1 5 = .ok (.iconst 1, 1) := by decide +kernel
theorem d_Pat_closeRound_6 : decode Y_Pat_closeRound.2.1 6 = .ok (.istore 4, 2) := by decide +kernel
theorem d_Pat_closeRound_8 : decode Y_Pat_closeRound.2.1 8 = .ok (.iload 4, 2) := by decide +kernel
theorem d_Pat_closeRound_10 : decode Y_Pat_closeRound.2.1 10 = .ok (.aload_n 0, 1) := by decide +kernel
theorem d_Pat_closeRound_11 : decode Y_Pat_closeRound.2.1 11 = .ok (.getfield 30, 3) := by decide +kernel
theorem d_Pat_closeRound_14 : decode Y_Pat_closeRound.2.1 14 = .ok (.getfield 50, 3) := by decide +kernel
theorem d_Pat_closeRound_17 : decode Y_Pat_closeRound.2.1 17 = .ok (.if_icmp .ge 88, 3) := by decide +kernel
theorem d_Pat_closeRound_20 : decode Y_Pat_closeRound.2.1 20 = .ok (.aload_n 0, 1) := by decide +kernel
theorem d_Pat_closeRound_21 : decode Y_Pat_closeRound.2.1 21 = .ok (.getfield 18, 3) := by decide +kernel
theorem d_Pat_closeRound_24 : decode Y_Pat_closeRound.2.1 24 = .ok (.iload_n 1, 1) := by decide +kernel
theorem d_Pat_closeRound_25 : decode Y_Pat_closeRound.2.1 25 = .ok (.bipush 9, 2) := by decide +kernel
theorem d_Pat_closeRound_27 : decode Y_Pat_closeRound.2.1 27 = .ok (.imul, 1) := by decide +kernel
theorem d_Pat_closeRound_28 : decode Y_Pat_closeRound.2.1 28 = .ok (.iload 4, 2) := by decide +kernel
theorem d_Pat_closeRound_30 : decode Y_Pat_closeRound.2.1 30 = .ok (.iadd, 1) := by decide +kernel
theorem d_Pat_closeRound_31 : decode Y_Pat_closeRound.2.1 31 = .ok (.iaload, 1) := by decide +kernel
theorem d_Pat_closeRound_32 : decode Y_Pat_closeRound.2.1 32 = .ok (.aload_n 0, 1) := by decide +kernel
theorem d_Pat_closeRound_33 : decode Y_Pat_closeRound.2.1 33 = .ok (.getfield 30, 3) := by decide +kernel
theorem d_Pat_closeRound_36 : decode Y_Pat_closeRound.2.1 36 = .ok (.iload 4, 2) := by decide +kernel
theorem d_Pat_closeRound_38 : decode Y_Pat_closeRound.2.1 38 = .ok (.invokevirtual 78, 3) := by decide +kernel
theorem d_Pat_closeRound_41 : decode Y_Pat_closeRound.2.1 41 = .ok (.invokestatic 81, 3) := by decide +kernel
theorem d_Pat_closeRound_44 : decode Y_Pat_closeRound.2.1 44 = .ok (.istore 5, 2) := by decide +kernel
theorem d_Pat_closeRound_46 : decode Y_Pat_closeRound.2.1 46 = .ok (.iload 5, 2) := by decide +kernel
theorem d_Pat_closeRound_48 : decode Y_Pat_closeRound.2.1 48 = .ok (.iload_n 2, 1) := by decide +kernel
theorem d_Pat_closeRound_49 : decode Y_Pat_closeRound.2.1 49 = .ok (.if_icmp .ge 22, 3) := by decide +kernel
theorem d_Pat_closeRound_52 : decode Y_Pat_closeRound.2.1 52 = .ok (.iload 5, 2) := by decide +kernel
theorem d_Pat_closeRound_54 : decode Y_Pat_closeRound.2.1 54 = .ok (.istore_n 2, 1) := by decide +kernel
theorem d_Pat_closeRound_55 : decode Y_Pat_closeRound.2.1 55 = .ok (.aload_n 0, 1) := by decide +kernel
theorem d_Pat_closeRound_56 : decode Y_Pat_closeRound.2.1 56 = .ok (.getfield 21, 3) := by decide +kernel
theorem d_Pat_closeRound_59 : decode Y_Pat_closeRound.2.1 59 = .ok (.iload_n 1, 1) := by decide +kernel
theorem d_Pat_closeRound_60 : decode Y_Pat_closeRound.2.1 60 = .ok (.bipush 9, 2) := by decide +kernel
theorem d_Pat_closeRound_62 : decode Y_Pat_closeRound.2.1 62 = .ok (.imul, 1) := by decide +kernel
theorem d_Pat_closeRound_63 : decode Y_Pat_closeRound.2.1 63 = .ok (.iload 4, 2) := by decide +kernel
theorem d_Pat_closeRound_65 : decode Y_Pat_closeRound.2.1 65 = .ok (.iadd, 1) := by decide +kernel
theorem d_Pat_closeRound_66 : decode Y_Pat_closeRound.2.1 66 = .ok (.iaload, 1) := by decide +kernel
theorem d_Pat_closeRound_67 : decode Y_Pat_closeRound.2.1 67 = .ok (.istore_n 3, 1) := by decide +kernel
theorem d_Pat_closeRound_68 : decode Y_Pat_closeRound.2.1 68 = .ok (.goto 31, 3) := by decide +kernel
theorem d_Pat_closeRound_71 : decode Y_Pat_closeRound.2.1 71 = .ok (.iload 5, 2) := by decide +kernel
theorem d_Pat_closeRound_73 : decode Y_Pat_closeRound.2.1 73 = .ok (.iload_n 2, 1) := by decide +kernel
theorem d_Pat_closeRound_74 : decode Y_Pat_closeRound.2.1 74 = .ok (.if_icmp .ne 25, 3) := by decide +kernel
theorem d_Pat_closeRound_77 : decode Y_Pat_closeRound.2.1 77 = .ok (.iload 5, 2) := by decide +kernel
theorem d_Pat_closeRound_79 : decode Y_Pat_closeRound.2.1 79 = .ok (.ldc 54, 2) := by decide +kernel
theorem d_Pat_closeRound_81 : decode Y_Pat_closeRound.2.1 81 = .ok (.if_icmp .eq 18, 3) := by decide +kernel
theorem d_Pat_closeRound_84 : decode Y_Pat_closeRound.2.1 84 = .ok (.iload_n 3, 1) := by decide +kernel
theorem d_Pat_closeRound_85 : decode Y_Pat_closeRound.2.1 85 = .ok (.aload_n 0, 1) := by decide +kernel
theorem d_Pat_closeRound_86 : decode Y_Pat_closeRound.2.1 86 = .ok (.getfield 21, 3) := by decide +kernel
theorem d_Pat_closeRound_89 : decode Y_Pat_closeRound.2.1 89 = .ok (.iload_n 1, 1) := by decide +kernel
theorem d_Pat_closeRound_90 : decode Y_Pat_closeRound.2.1 90 = .ok (.bipush 9, 2) := by decide +kernel
theorem d_Pat_closeRound_92 : decode Y_Pat_closeRound.2.1 92 = .ok (.imul, 1) := by decide +kernel
theorem d_Pat_closeRound_93 : decode Y_Pat_closeRound.2.1 93 = .ok (.iload 4, 2) := by decide +kernel
theorem d_Pat_closeRound_95 : decode Y_Pat_closeRound.2.1 95 = .ok (.iadd, 1) := by decide +kernel
theorem d_Pat_closeRound_96 : decode Y_Pat_closeRound.2.1 96 = .ok (.iaload, 1) := by decide +kernel
theorem d_Pat_closeRound_97 : decode Y_Pat_closeRound.2.1 97 = .ok (.iadd, 1) := by decide +kernel
theorem d_Pat_closeRound_98 : decode Y_Pat_closeRound.2.1 98 = .ok (.istore_n 3, 1) := by decide +kernel
theorem d_Pat_closeRound_99 : decode Y_Pat_closeRound.2.1 99 = .ok (.iinc 4 1, 3) := by decide +kernel
theorem d_Pat_closeRound_102 : decode Y_Pat_closeRound.2.1 102 = .ok (.goto (-94), 3) := by decide +kernel
theorem d_Pat_closeRound_105 : decode Y_Pat_closeRound.2.1 105 = .ok (.aload_n 0, 1) := by decide +kernel
theorem d_Pat_closeRound_106 : decode Y_Pat_closeRound.2.1 106 = .ok (.getfield 24, 3) := by decide +kernel
theorem d_Pat_closeRound_109 : decode Y_Pat_closeRound.2.1 109 = .ok (.iload_n 1, 1) := by decide +kernel
theorem d_Pat_closeRound_110 : decode Y_Pat_closeRound.2.1 110 = .ok (.iload_n 2, 1) := by decide +kernel
theorem d_Pat_closeRound_111 : decode Y_Pat_closeRound.2.1 111 = .ok (.iastore, 1) := by decide +kernel
theorem d_Pat_closeRound_112 : decode Y_Pat_closeRound.2.1 112 = .ok (.aload_n 0, 1) := by decide +kernel
theorem d_Pat_closeRound_113 : decode Y_Pat_closeRound.2.1 113 = .ok (.getfield 27, 3) := by decide +kernel
theorem d_Pat_closeRound_116 : decode Y_Pat_closeRound.2.1 116 = .ok (.iload_n 1, 1) := by decide +kernel
theorem d_Pat_closeRound_117 : decode Y_Pat_closeRound.2.1 117 = .ok (.iload_n 3, 1) := by decide +kernel
theorem d_Pat_closeRound_118 : decode Y_Pat_closeRound.2.1 118 = .ok (.iastore, 1) := by decide +kernel
theorem d_Pat_closeRound_119 : decode Y_Pat_closeRound.2.1 119 = .ok (.return_, 1) := by decide +kernel
theorem d_Net_costBack_0 : decode Y_Net_costBack.2.1 0 = .ok (.aload_n 0, 1) := by decide +kernel
theorem d_Net_costBack_1 : decode Y_Net_costBack.2.1 1 = .ok (.getfield 34, 3) := by decide +kernel
theorem d_Net_costBack_4 : decode Y_Net_costBack.2.1 4 = .ok (.iconst 1, 1) := by decide +kernel
theorem d_Net_costBack_5 : decode Y_Net_costBack.2.1 5 = .ok (.if_icmp .ne 7, 3) := by decide +kernel
theorem d_Net_costBack_8 : decode Y_Net_costBack.2.1 8 = .ok (.iconst 0, 1) := by decide +kernel
