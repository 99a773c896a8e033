theorem d_Mo_leads_19 : decode Y_Mo_leads.2.1 19 = .ok (.if_icmp .ne 19, 3) := by decide +kernel
theorem d_Mo_leads_22 : decode Y_Mo_leads.2.1 22 = .ok (.aload_n 0, 1) := by decide +kernel
theorem d_Mo_leads_23 : decode Y_Mo_leads.2.1 23 = .ok (.iload_n 1, 1) := by decide +kernel
theorem d_Mo_leads_24 : decode Y_Mo_leads.2.1 24 = .ok (.invokevirtual 175, 3) := by decide +kernel
theorem d_Mo_leads_27 : decode Y_Mo_leads.2.1 27 = .ok (.iload_n 2, 1) := by decide +kernel
theorem d_Mo_leads_28 : decode Y_Mo_leads.2.1 28 = .ok (.ishr, 1) := by decide +kernel
theorem d_Mo_leads_29 : decode Y_Mo_leads.2.1 29 = .ok (.iconst 1, 1) := by decide +kernel
theorem d_Mo_leads_30 : decode Y_Mo_leads.2.1 30 = .ok (.iand, 1) := by decide +kernel
theorem d_Mo_leads_31 : decode Y_Mo_leads.2.1 31 = .ok (.ifCond .ne 7, 3) := by decide +kernel
theorem d_Mo_leads_34 : decode Y_Mo_leads.2.1 34 = .ok (.iconst 1, 1) := by decide +kernel
theorem d_Mo_leads_35 : decode Y_Mo_leads.2.1 35 = .ok (.goto 4, 3) := by decide +kernel
theorem d_Mo_leads_38 : decode Y_Mo_leads.2.1 38 = .ok (.iconst 0, 1) := by decide +kernel
theorem d_Mo_leads_39 : decode Y_Mo_leads.2.1 39 = .ok (.ireturn, 1) := by decide +kernel
theorem d_Mo_reached_0 : decode Y_Mo_reached.2.1 0 = .ok (.iload_n 1, 1) := by decide +kernel
theorem d_Mo_reached_1 : decode Y_Mo_reached.2.1 1 = .ok (.ifCond .ne 7, 3) := by decide +kernel
theorem d_Mo_reached_4 : decode Y_Mo_reached.2.1 4 = .ok (.iconst 0, 1) := by decide +kernel
theorem d_Mo_reached_5 : decode Y_Mo_reached.2.1 5 = .ok (.goto 4, 3) := by decide +kernel
theorem d_Mo_reached_8 : decode Y_Mo_reached.2.1 8 = .ok (.iconst 1, 1) := by decide +kernel
theorem d_Mo_reached_9 : decode Y_Mo_reached.2.1 9 = .ok (.istore_n 2, 1) := by decide +kernel
theorem d_Mo_reached_10 : decode Y_Mo_reached.2.1 10 = .ok (.iconst 1, 1) := by decide +kernel
theorem d_Mo_reached_11 : decode Y_Mo_reached.2.1 11 = .ok (.istore_n 3, 1) := by decide +kernel
theorem d_Mo_reached_12 : decode Y_Mo_reached.2.1 12 = .ok (.iload_n 3, 1) := by decide +kernel
theorem d_Mo_reached_13 : decode Y_Mo_reached.2.1 13 = .ok (.ifCond .eq 98, 3) := by decide +kernel
theorem d_Mo_reached_16 : decode Y_Mo_reached.2.1 16 = .ok (.iload_n 2, 1) := by decide +kernel
theorem d_Mo_reached_17 : decode Y_Mo_reached.2.1 17 = .ok (.istore 4, 2) := by decide +kernel
theorem d_Mo_reached_19 : decode Y_Mo_reached.2.1 19 = .ok (.iconst 0, 1) := by decide +kernel
theorem d_Mo_reached_20 : decode Y_Mo_reached.2.1 20 = .ok (.istore 5, 2) := by decide +kernel
theorem d_Mo_reached_22 : decode Y_Mo_reached.2.1 22 = .ok (.iload 5, 2) := by decide +kernel
theorem d_Mo_reached_24 : decode Y_Mo_reached.2.1 24 = .ok (.aload_n 0, 1) := by decide +kernel
theorem d_Mo_reached_25 : decode Y_Mo_reached.2.1 25 = .ok (.getfield 13, 3) := by decide +kernel
theorem d_Mo_reached_28 : decode Y_Mo_reached.2.1 28 = .ok (.if_icmp .ge 68, 3) := by decide +kernel
theorem d_Mo_reached_31 : decode Y_Mo_reached.2.1 31 = .ok (.iconst 0, 1) := by decide +kernel
theorem d_Mo_reached_32 : decode Y_Mo_reached.2.1 32 = .ok (.istore 6, 2) := by decide +kernel
theorem d_Mo_reached_34 : decode Y_Mo_reached.2.1 34 = .ok (.iload 6, 2) := by decide +kernel
theorem d_Mo_reached_36 : decode Y_Mo_reached.2.1 36 = .ok (.aload_n 0, 1) := by decide +kernel
theorem d_Mo_reached_37 : decode Y_Mo_reached.2.1 37 = .ok (.getfield 13, 3) := by decide +kernel
theorem d_Mo_reached_40 : decode Y_Mo_reached.2.1 40 = .ok (.if_icmp .ge 50, 3) := by decide +kernel
theorem d_Mo_reached_43 : decode Y_Mo_reached.2.1 43 = .ok (.iload_n 2, 1) := by decide +kernel
theorem d_Mo_reached_44 : decode Y_Mo_reached.2.1 44 = .ok (.iload 5, 2) := by decide +kernel
theorem d_Mo_reached_46 : decode Y_Mo_reached.2.1 46 = .ok (.ishr, 1) := by decide +kernel
theorem d_Mo_reached_47 : decode Y_Mo_reached.2.1 47 = .ok (.iconst 1, 1) := by decide +kernel
theorem d_Mo_reached_48 : decode Y_Mo_reached.2.1 48 = .ok (.iand, 1) := by decide +kernel
theorem d_Mo_reached_49 : decode Y_Mo_reached.2.1 49 = .ok (.iconst 1, 1) := by decide +kernel
theorem d_Mo_reached_50 : decode Y_Mo_reached.2.1 50 = .ok (.if_icmp .ne 34, 3) := by decide +kernel
theorem d_Mo_reached_53 : decode Y_Mo_reached.2.1 53 = .ok (.iload 6, 2) := by decide +kernel
theorem d_Mo_reached_55 : decode Y_Mo_reached.2.1 55 = .ok (.iload_n 1, 1) := by decide +kernel
theorem d_Mo_reached_56 : decode Y_Mo_reached.2.1 56 = .ok (.if_icmp .eq 28, 3) := by decide +kernel
theorem d_Mo_reached_59 : decode Y_Mo_reached.2.1 59 = .ok (.aload_n 0, 1) := by decide +kernel
theorem d_Mo_reached_60 : decode Y_Mo_reached.2.1 60 = .ok (.getfield 20, 3) := by decide +kernel
theorem d_Mo_reached_63 : decode Y_Mo_reached.2.1 63 = .ok (.bipush 9, 2) := by decide +kernel
theorem d_Mo_reached_65 : decode Y_Mo_reached.2.1 65 = .ok (.iload 5, 2) := by decide +kernel
theorem d_Mo_reached_67 : decode Y_Mo_reached.2.1 67 = .ok (.imul, 1) := by decide +kernel
theorem d_Mo_reached_68 : decode Y_Mo_reached.2.1 68 = .ok (.iload 6, 2) := by decide +kernel
theorem d_Mo_reached_70 : decode Y_Mo_reached.2.1 70 = .ok (.iadd, 1) := by decide +kernel
theorem d_Mo_reached_71 : decode Y_Mo_reached.2.1 71 = .ok (.iaload, 1) := by decide +kernel
theorem d_Mo_reached_72 : decode Y_Mo_reached.2.1 72 = .ok (.ldc 69, 2) := by decide +kernel
theorem d_Mo_reached_74 : decode Y_Mo_reached.2.1 74 = .ok (.if_icmp .eq 10, 3) := by decide +kernel
theorem d_Mo_reached_77 : decode Y_Mo_reached.2.1 77 = .ok (.iload_n 2, 1) := by decide +kernel
theorem d_Mo_reached_78 : decode Y_Mo_reached.2.1 78 = .ok (.iconst 1, 1) := by decide +kernel
theorem d_Mo_reached_79 : decode Y_Mo_reached.2.1 79 = .ok (.iload 6, 2) := by decide +kernel
theorem d_Mo_reached_81 : decode Y_Mo_reached.2.1 81 = .ok (.ishl, 1) := by decide +kernel
theorem d_Mo_reached_82 : decode Y_Mo_reached.2.1 82 = .ok (.ior, 1) := by decide +kernel
theorem d_Mo_reached_83 : decode Y_Mo_reached.2.1 83 = .ok (.istore_n 2, 1) := by decide +kernel
theorem d_Mo_reached_84 : decode Y_Mo_reached.2.1 84 = .ok (.iinc 6 1, 3) := by decide +kernel
theorem d_Mo_reached_87 : decode Y_Mo_reached.2.1 87 = .ok (.goto (-53), 3) := by decide +kernel
theorem d_Mo_reached_90 : decode Y_Mo_reached.2.1 90 = .ok (.iinc 5 1, 3) := by decide +kernel
theorem d_Mo_reached_93 : decode Y_Mo_reached.2.1 93 = .ok (.goto (-71), 3) := by decide +kernel
theorem d_Mo_reached_96 : decode Y_Mo_reached.2.1 96 = .ok (.iload_n 2, 1) := by decide +kernel
theorem d_Mo_reached_97 : decode Y_Mo_reached.2.1 97 = .ok (.iload 4, 2) := by decide +kernel
theorem d_Mo_reached_99 : decode Y_Mo_reached.2.1 99 = .ok (.if_icmp .eq 7, 3) := by decide +kernel
theorem d_Mo_reached_102 : decode Y_Mo_reached.2.1 102 = .ok (.iconst 1, 1) := by decide +kernel
theorem d_Mo_reached_103 : decode Y_Mo_reached.2.1 103 = .ok (.goto 4, 3) := by decide +kernel
theorem d_Mo_reached_106 : decode Y_Mo_reached.2.1 106 = .ok (.iconst 0, 1) := by decide +kernel
theorem d_Mo_reached_107 : decode Y_Mo_reached.2.1 107 = .ok (.istore_n 3, 1) := by decide +kernel
theorem d_Mo_reached_108 : decode Y_Mo_reached.2.1 108 = .ok (.goto (-96), 3) := by decide +kernel
theorem d_Mo_reached_111 : decode Y_Mo_reached.2.1 111 = .ok (.iload_n 2, 1) := by decide +kernel
theorem d_Mo_reached_112 : decode Y_Mo_reached.2.1 112 = .ok (.ireturn, 1) := by decide +kernel
theorem d_Mo_put_0 : decode Y_Mo_put.2.1 0 = .ok (.aload_n 0, 1) := by decide +kernel
theorem d_Mo_put_1 : decode Y_Mo_put.2.1 1 = .ok (.iconst 0, 1) := by decide +kernel
theorem d_Mo_put_2 : decode Y_Mo_put.2.1 2 = .ok (.putfield 1, 3) := by decide +kernel
theorem d_Mo_put_5 : decode Y_Mo_put.2.1 5 = .ok (.aload_n 0, 1) := by decide +kernel
theorem d_Mo_put_6 : decode Y_Mo_put.2.1 6 = .ok (.iload_n 1, 1) := by decide +kernel
theorem d_Mo_put_7 : decode Y_Mo_put.2.1 7 = .ok (.invokevirtual 74, 3) := by decide +kernel
theorem d_Mo_put_10 : decode Y_Mo_put.2.1 10 = .ok (.ifCond .eq 6, 3) := by decide +kernel
theorem d_Mo_put_13 : decode Y_Mo_put.2.1 13 = .ok (.ldc 78, 2) := by decide +kernel
theorem d_Mo_put_15 : decode Y_Mo_put.2.1 15 = .ok (.ireturn, 1) := by decide +kernel
theorem d_Mo_put_16 : decode Y_Mo_put.2.1 16 = .ok (.aload_n 0, 1) := by decide +kernel
theorem d_Mo_put_17 : decode Y_Mo_put.2.1 17 = .ok (.getfield 181, 3) := by decide +kernel
theorem d_Mo_put_20 : decode Y_Mo_put.2.1 20 = .ok (.bipush 20, 2) := by decide +kernel
theorem d_Mo_put_22 : decode Y_Mo_put.2.1 22 = .ok (.if_icmp .ne 6, 3) := by decide +kernel
theorem d_Mo_put_25 : decode Y_Mo_put.2.1 25 = .ok (.ldc 79, 2) := by decide +kernel
theorem d_Mo_put_27 : decode Y_Mo_put.2.1 27 = .ok (.ireturn, 1) := by decide +kernel
theorem d_Mo_put_28 : decode Y_Mo_put.2.1 28 = .ok (.aload_n 0, 1) := by decide +kernel
theorem d_Mo_put_29 : decode Y_Mo_put.2.1 29 = .ok (.getfield 42, 3) := by decide +kernel
theorem d_Mo_put_32 : decode Y_Mo_put.2.1 32 = .ok (.aload_n 0, 1) := by decide +kernel
theorem d_Mo_put_33 : decode Y_Mo_put.2.1 33 = .ok (.getfield 181, 3) := by decide +kernel
theorem d_Mo_put_36 : decode Y_Mo_put.2.1 36 = .ok (.iload_n 1, 1) := by decide +kernel
theorem d_Mo_put_37 : decode Y_Mo_put.2.1 37 = .ok (.iastore, 1) := by decide +kernel
theorem d_Mo_put_38 : decode Y_Mo_put.2.1 38 = .ok (.aload_n 0, 1) := by decide +kernel
theorem d_Mo_put_39 : decode Y_Mo_put.2.1 39 = .ok (.dup, 1) := by decide +kernel
theorem d_Mo_put_40 : decode Y_Mo_put.2.1 40 = .ok (.getfield 181, 3) := by decide +kernel
theorem d_Mo_put_43 : decode Y_Mo_put.2.1 43 = .ok (.iconst 1, 1) := by decide +kernel
theorem d_Mo_put_44 : decode Y_Mo_put.2.1 44 = .ok (.iadd, 1) := by decide +kernel
theorem d_Mo_put_45 : decode Y_Mo_put.2.1 45 = .ok (.putfield 181, 3) := by decide +kernel
theorem d_Mo_put_48 : decode Y_Mo_put.2.1 48 = .ok (.aload_n 0, 1) := by decide +kernel
theorem d_Mo_put_49 : decode Y_Mo_put.2.1 49 = .ok (.getfield 181, 3) := by decide +kernel
theorem d_Mo_put_52 : decode Y_Mo_put.2.1 52 = .ok (.ireturn, 1) := by decide +kernel
theorem d_Mo_keep_0 : decode Y_Mo_keep.2.1 0 = .ok (.aload_n 0, 1) := by decide +kernel
theorem d_Mo_keep_1 : decode Y_Mo_keep.2.1 1 = .ok (.iconst 0, 1) := by decide +kernel
theorem d_Mo_keep_2 : decode Y_Mo_keep.2.1 2 = .ok (.putfield 1, 3) := by decide +kernel
theorem d_Mo_keep_5 : decode Y_Mo_keep.2.1 5 = .ok (.iload_n 1, 1) := by decide +kernel
theorem d_Mo_keep_6 : decode Y_Mo_keep.2.1 6 = .ok (.iconst 0, 1) := by decide +kernel
theorem d_Mo_keep_7 : decode Y_Mo_keep.2.1 7 = .ok (.aload_n 0, 1) := by decide +kernel
theorem d_Mo_keep_8 : decode Y_Mo_keep.2.1 8 = .ok (.getfield 181, 3) := by decide +kernel
theorem d_Mo_keep_11 : decode Y_Mo_keep.2.1 11 = .ok (.invokestatic 70, 3) := by decide +kernel
theorem d_Mo_keep_14 : decode Y_Mo_keep.2.1 14 = .ok (.ifCond .ne 6, 3) := by decide +kernel
theorem d_Mo_keep_17 : decode Y_Mo_keep.2.1 17 = .ok (.ldc 78, 2) := by decide +kernel
theorem d_Mo_keep_19 : decode Y_Mo_keep.2.1 19 = .ok (.ireturn, 1) := by decide +kernel
theorem d_Mo_keep_20 : decode Y_Mo_keep.2.1 20 = .ok (.aload_n 0, 1) := by decide +kernel
theorem d_Mo_keep_21 : decode Y_Mo_keep.2.1 21 = .ok (.getfield 181, 3) := by decide +kernel
theorem d_Mo_keep_24 : decode Y_Mo_keep.2.1 24 = .ok (.istore_n 2, 1) := by decide +kernel
theorem d_Mo_keep_25 : decode Y_Mo_keep.2.1 25 = .ok (.aload_n 0, 1) := by decide +kernel
theorem d_Mo_keep_26 : decode Y_Mo_keep.2.1 26 = .ok (.iload_n 1, 1) := by decide +kernel
theorem d_Mo_keep_27 : decode Y_Mo_keep.2.1 27 = .ok (.putfield 181, 3) := by decide +kernel
theorem d_Mo_keep_30 : decode Y_Mo_keep.2.1 30 = .ok (.iload_n 2, 1) := by decide +kernel
theorem d_Mo_keep_31 : decode Y_Mo_keep.2.1 31 = .ok (.ireturn, 1) := by decide +kernel
theorem d_Mo_check_0 : decode Y_Mo_check.2.1 0 = .ok (.aload_n 0, 1) := by decide +kernel
theorem d_Mo_check_1 : decode Y_Mo_check.2.1 1 = .ok (.iconst 0, 1) := by decide +kernel
theorem d_Mo_check_2 : decode Y_Mo_check.2.1 2 = .ok (.putfield 1, 3) := by decide +kernel
theorem d_Mo_check_5 : decode Y_Mo_check.2.1 5 = .ok (.aload_n 0, 1) := by decide +kernel
theorem d_Mo_check_6 : decode Y_Mo_check.2.1 6 = .ok (.iconst 0, 1) := by decide +kernel
theorem d_Mo_check_7 : decode Y_Mo_check.2.1 7 = .ok (.iconst (-1), 1) := by decide +kernel
theorem d_Mo_check_8 : decode Y_Mo_check.2.1 8 = .ok (.invokevirtual 184, 3) := by decide +kernel
theorem d_Mo_check_11 : decode Y_Mo_check.2.1 11 = .ok (.invokestatic 147, 3) := by decide +kernel
theorem d_Mo_check_14 : decode Y_Mo_check.2.1 14 = .ok (.ireturn, 1) := by decide +kernel
theorem d_Mo_costOf_0 : decode Y_Mo_costOf.2.1 0 = .ok (.iload_n 2, 1) := by decide +kernel
theorem d_Mo_costOf_1 : decode Y_Mo_costOf.2.1 1 = .ok (.ifCond .ge 10, 3) := by decide +kernel
theorem d_Mo_costOf_4 : decode Y_Mo_costOf.2.1 4 = .ok (.aload_n 0, 1) := by decide +kernel
theorem d_Mo_costOf_5 : decode Y_Mo_costOf.2.1 5 = .ok (.getfield 181, 3) := by decide +kernel
theorem d_Mo_costOf_8 : decode Y_Mo_costOf.2.1 8 = .ok (.goto 9, 3) := by decide +kernel
theorem d_Mo_costOf_11 : decode Y_Mo_costOf.2.1 11 = .ok (.aload_n 0, 1) := by decide +kernel
theorem d_Mo_costOf_12 : decode Y_Mo_costOf.2.1 12 = .ok (.getfield 181, 3) := by decide +kernel
theorem d_Mo_costOf_15 : decode Y_Mo_costOf.2.1 15 = .ok (.iconst 1, 1) := by decide +kernel
theorem d_Mo_costOf_16 : decode Y_Mo_costOf.2.1 16 = .ok (.iadd, 1) := by decide +kernel
theorem d_Mo_costOf_17 : decode Y_Mo_costOf.2.1 17 = .ok (.istore_n 3, 1) := by decide +kernel
theorem d_Mo_costOf_18 : decode Y_Mo_costOf.2.1 18 = .ok (.iconst 0, 1) := by decide +kernel
theorem d_Mo_costOf_19 : decode Y_Mo_costOf.2.1 19 = .ok (.istore 4, 2) := by decide +kernel
theorem d_Mo_costOf_21 : decode Y_Mo_costOf.2.1 21 = .ok (.iconst 0, 1) := by decide +kernel
theorem d_Mo_costOf_22 : decode Y_Mo_costOf.2.1 22 = .ok (.istore 5, 2) := by decide +kernel
theorem d_Mo_costOf_24 : decode Y_Mo_costOf.2.1 24 = .ok (.iconst 0, 1) := by decide +kernel
theorem d_Mo_costOf_25 : decode Y_Mo_costOf.2.1 25 = .ok (.istore 6, 2) := by decide +kernel
theorem d_Mo_costOf_27 : decode Y_Mo_costOf.2.1 27 = .ok (.aload_n 0, 1) := by decide +kernel
theorem d_Mo_costOf_28 : decode Y_Mo_costOf.2.1 28 = .ok (.iconst 0, 1) := by decide +kernel
theorem d_Mo_costOf_29 : decode Y_Mo_costOf.2.1 29 = .ok (.putfield 92, 3) := by decide +kernel
theorem d_Mo_costOf_32 : decode Y_Mo_costOf.2.1 32 = .ok (.aload_n 0, 1) := by decide +kernel
theorem d_Mo_costOf_33 : decode Y_Mo_costOf.2.1 33 = .ok (.iconst 0, 1) := by decide +kernel
theorem d_Mo_costOf_34 : decode Y_Mo_costOf.2.1 34 = .ok (.putfield 98, 3) := by decide +kernel
theorem d_Mo_costOf_37 : decode Y_Mo_costOf.2.1 37 = .ok (.aload_n 0, 1) := by decide +kernel
theorem d_Mo_costOf_38 : decode Y_Mo_costOf.2.1 38 = .ok (.iconst 0, 1) := by decide +kernel
theorem d_Mo_costOf_39 : decode Y_Mo_costOf.2.1 39 = .ok (.putfield 95, 3) := by decide +kernel
theorem d_Mo_costOf_42 : decode Y_Mo_costOf.2.1 42 = .ok (.iconst 0, 1) := by decide +kernel
theorem d_Mo_costOf_43 : decode Y_Mo_costOf.2.1 43 = .ok (.istore 7, 2) := by decide +kernel
theorem d_Mo_costOf_45 : decode Y_Mo_costOf.2.1 45 = .ok (.iload 7, 2) := by decide +kernel
theorem d_Mo_costOf_47 : decode Y_Mo_costOf.2.1 47 = .ok (.iload_n 3, 1) := by decide +kernel
theorem d_Mo_costOf_48 : decode Y_Mo_costOf.2.1 48 = .ok (.if_icmp .ge 230, 3) := by decide +kernel
theorem d_Mo_costOf_51 : decode Y_Mo_costOf.2.1 51 = .ok (.iload_n 2, 1) := by decide +kernel
theorem d_Mo_costOf_52 : decode Y_Mo_costOf.2.1 52 = .ok (.ifCond .lt 9, 3) := by decide +kernel
theorem d_Mo_costOf_55 : decode Y_Mo_costOf.2.1 55 = .ok (.iload 7, 2) := by decide +kernel
theorem d_Mo_costOf_57 : decode Y_Mo_costOf.2.1 57 = .ok (.iload_n 2, 1) := by decide +kernel
theorem d_Mo_costOf_58 : decode Y_Mo_costOf.2.1 58 = .ok (.if_icmp .ge 13, 3) := by decide +kernel
theorem d_Mo_costOf_61 : decode Y_Mo_costOf.2.1 61 = .ok (.aload_n 0, 1) := by decide +kernel
theorem d_Mo_costOf_62 : decode Y_Mo_costOf.2.1 62 = .ok (.getfield 42, 3) := by decide +kernel
theorem d_Mo_costOf_65 : decode Y_Mo_costOf.2.1 65 = .ok (.iload 7, 2) := by decide +kernel
theorem d_Mo_costOf_67 : decode Y_Mo_costOf.2.1 67 = .ok (.iaload, 1) := by decide +kernel
theorem d_Mo_costOf_68 : decode Y_Mo_costOf.2.1 68 = .ok (.goto 22, 3) := by decide +kernel
theorem d_Mo_costOf_71 : decode Y_Mo_costOf.2.1 71 = .ok (.iload 7, 2) := by decide +kernel
theorem d_Mo_costOf_73 : decode Y_Mo_costOf.2.1 73 = .ok (.iload_n 2, 1) := by decide +kernel
theorem d_Mo_costOf_74 : decode Y_Mo_costOf.2.1 74 = .ok (.if_icmp .ne 7, 3) := by decide +kernel
theorem d_Mo_costOf_77 : decode Y_Mo_costOf.2.1 77 = .ok (.iload_n 1, 1) := by decide +kernel
theorem d_Mo_costOf_78 : decode Y_Mo_costOf.2.1 78 = .ok (.goto 12, 3) := by decide +kernel
theorem d_Mo_costOf_81 : decode Y_Mo_costOf.2.1 81 = .ok (.aload_n 0, 1) := by decide +kernel
theorem d_Mo_costOf_82 : decode Y_Mo_costOf.2.1 82 = .ok (.getfield 42, 3) := by decide +kernel
theorem d_Mo_costOf_85 : decode Y_Mo_costOf.2.1 85 = .ok (.iload 7, 2) := by decide +kernel
theorem d_Mo_costOf_87 : decode Y_Mo_costOf.2.1 87 = .ok (.iconst 1, 1) := by decide +kernel
theorem d_Mo_costOf_88 : decode Y_Mo_costOf.2.1 88 = .ok (.isub, 1) := by decide +kernel
theorem d_Mo_costOf_89 : decode Y_Mo_costOf.2.1 89 = .ok (.iaload, 1) := by decide +kernel
theorem d_Mo_costOf_90 : decode Y_Mo_costOf.2.1 90 = .ok (.istore 8, 2) := by decide +kernel
theorem d_Mo_costOf_92 : decode Y_Mo_costOf.2.1 92 = .ok (.iload 8, 2) := by decide +kernel
theorem d_Mo_costOf_94 : decode Y_Mo_costOf.2.1 94 = .ok (.ifCond .ne 84, 3) := by decide +kernel
theorem d_Mo_costOf_97 : decode Y_Mo_costOf.2.1 97 = .ok (.iload 5, 2) := by decide +kernel
theorem d_Mo_costOf_99 : decode Y_Mo_costOf.2.1 99 = .ok (.ifCond .eq 33, 3) := by decide +kernel
theorem d_Mo_costOf_102 : decode Y_Mo_costOf.2.1 102 = .ok (.iload 7, 2) := by decide +kernel
theorem d_Mo_costOf_104 : decode Y_Mo_costOf.2.1 104 = .ok (.iload_n 3, 1) := by decide +kernel
theorem d_Mo_costOf_105 : decode Y_Mo_costOf.2.1 105 = .ok (.iconst 1, 1) := by decide +kernel
theorem d_Mo_costOf_106 : decode Y_Mo_costOf.2.1 106 = .ok (.isub, 1) := by decide +kernel
theorem d_Mo_costOf_107 : decode Y_Mo_costOf.2.1 107 = .ok (.if_icmp .eq 25, 3) := by decide +kernel
theorem d_Mo_costOf_110 : decode Y_Mo_costOf.2.1 110 = .ok (.aload_n 0, 1) := by decide +kernel
theorem d_Mo_costOf_111 : decode Y_Mo_costOf.2.1 111 = .ok (.getfield 89, 3) := by decide +kernel
theorem d_Mo_costOf_114 : decode Y_Mo_costOf.2.1 114 = .ok (.ifCond .ne 21, 3) := by decide +kernel
theorem d_Mo_costOf_117 : decode Y_Mo_costOf.2.1 117 = .ok (.aload_n 0, 1) := by decide +kernel
theorem d_Mo_costOf_118 : decode Y_Mo_costOf.2.1 118 = .ok (.getfield 20, 3) := by decide +kernel
theorem d_Mo_costOf_121 : decode Y_Mo_costOf.2.1 121 = .ok (.bipush 9, 2) := by decide +kernel
theorem d_Mo_costOf_123 : decode Y_Mo_costOf.2.1 123 = .ok (.iload 5, 2) := by decide +kernel
theorem d_Mo_costOf_125 : decode Y_Mo_costOf.2.1 125 = .ok (.imul, 1) := by decide +kernel
theorem d_Mo_costOf_126 : decode Y_Mo_costOf.2.1 126 = .ok (.iaload, 1) := by decide +kernel
theorem d_Mo_costOf_127 : decode Y_Mo_costOf.2.1 127 = .ok (.ldc 69, 2) := by decide +kernel
theorem d_Mo_costOf_129 : decode Y_Mo_costOf.2.1 129 = .ok (.if_icmp .ne 6, 3) := by decide +kernel
theorem d_Mo_costOf_132 : decode Y_Mo_costOf.2.1 132 = .ok (.ldc 101, 2) := by decide +kernel
theorem d_Mo_costOf_134 : decode Y_Mo_costOf.2.1 134 = .ok (.ireturn, 1) := by decide +kernel
theorem d_Mo_costOf_135 : decode Y_Mo_costOf.2.1 135 = .ok (.iload 4, 2) := by decide +kernel
theorem d_Mo_costOf_137 : decode Y_Mo_costOf.2.1 137 = .ok (.aload_n 0, 1) := by decide +kernel
theorem d_Mo_costOf_138 : decode Y_Mo_costOf.2.1 138 = .ok (.getfield 89, 3) := by decide +kernel
theorem d_Mo_costOf_141 : decode Y_Mo_costOf.2.1 141 = .ok (.iconst 1, 1) := by decide +kernel
theorem d_Mo_costOf_142 : decode Y_Mo_costOf.2.1 142 = .ok (.if_icmp .ne 7, 3) := by decide +kernel
theorem d_Mo_costOf_145 : decode Y_Mo_costOf.2.1 145 = .ok (.iconst 0, 1) := by decide +kernel
theorem d_Mo_costOf_146 : decode Y_Mo_costOf.2.1 146 = .ok (.goto 13, 3) := by decide +kernel
theorem d_Mo_costOf_149 : decode Y_Mo_costOf.2.1 149 = .ok (.aload_n 0, 1) := by decide +kernel
theorem d_Mo_costOf_150 : decode Y_Mo_costOf.2.1 150 = .ok (.getfield 20, 3) := by decide +kernel
theorem d_Mo_costOf_153 : decode Y_Mo_costOf.2.1 153 = .ok (.bipush 9, 2) := by decide +kernel
theorem d_Mo_costOf_155 : decode Y_Mo_costOf.2.1 155 = .ok (.iload 5, 2) := by decide +kernel
theorem d_Mo_costOf_157 : decode Y_Mo_costOf.2.1 157 = .ok (.imul, 1) := by decide +kernel
theorem d_Mo_costOf_158 : decode Y_Mo_costOf.2.1 158 = .ok (.iaload, 1) := by decide +kernel
theorem d_Mo_costOf_159 : decode Y_Mo_costOf.2.1 159 = .ok (.iadd, 1) := by decide +kernel
theorem d_Mo_costOf_160 : decode Y_Mo_costOf.2.1 160 = .ok (.istore 4, 2) := by decide +kernel
theorem d_Mo_costOf_162 : decode Y_Mo_costOf.2.1 162 = .ok (.iconst 0, 1) := by decide +kernel
theorem d_Mo_costOf_163 : decode Y_Mo_costOf.2.1 163 = .ok (.istore 5, 2) := by decide +kernel
theorem d_Mo_costOf_165 : decode Y_Mo_costOf.2.1 165 = .ok (.aload_n 0, 1) := by decide +kernel
theorem d_Mo_costOf_166 : decode Y_Mo_costOf.2.1 166 = .ok (.iconst 0, 1) := by decide +kernel
theorem d_Mo_costOf_167 : decode Y_Mo_costOf.2.1 167 = .ok (.putfield 98, 3) := by decide +kernel
theorem d_Mo_costOf_170 : decode Y_Mo_costOf.2.1 170 = .ok (.aload_n 0, 1) := by decide +kernel
theorem d_Mo_costOf_171 : decode Y_Mo_costOf.2.1 171 = .ok (.iconst 0, 1) := by decide +kernel
theorem d_Mo_costOf_172 : decode Y_Mo_costOf.2.1 172 = .ok (.putfield 95, 3) := by decide +kernel
theorem d_Mo_costOf_175 : decode Y_Mo_costOf.2.1 175 = .ok (.goto 97, 3) := by decide +kernel
theorem d_Mo_costOf_178 : decode Y_Mo_costOf.2.1 178 = .ok (.aload_n 0, 1) := by decide +kernel
theorem d_Mo_costOf_179 : decode Y_Mo_costOf.2.1 179 = .ok (.iload 5, 2) := by decide +kernel
theorem d_Mo_costOf_181 : decode Y_Mo_costOf.2.1 181 = .ok (.iload 8, 2) := by decide +kernel
theorem d_Mo_costOf_183 : decode Y_Mo_costOf.2.1 183 = .ok (.invokevirtual 125, 3) := by decide +kernel
theorem d_Mo_costOf_186 : decode Y_Mo_costOf.2.1 186 = .ok (.ifCond .ne 6, 3) := by decide +kernel
theorem d_Mo_costOf_189 : decode Y_Mo_costOf.2.1 189 = .ok (.ldc 101, 2) := by decide +kernel
theorem d_Mo_costOf_191 : decode Y_Mo_costOf.2.1 191 = .ok (.ireturn, 1) := by decide +kernel
theorem d_Mo_costOf_192 : decode Y_Mo_costOf.2.1 192 = .ok (.iload 5, 2) := by decide +kernel
theorem d_Mo_costOf_194 : decode Y_Mo_costOf.2.1 194 = .ok (.ifCond .ne 10, 3) := by decide +kernel
theorem d_Mo_costOf_197 : decode Y_Mo_costOf.2.1 197 = .ok (.iload 6, 2) := by decide +kernel
theorem d_Mo_costOf_199 : decode Y_Mo_costOf.2.1 199 = .ok (.iconst 1, 1) := by decide +kernel
theorem d_Mo_costOf_200 : decode Y_Mo_costOf.2.1 200 = .ok (.iadd, 1) := by decide +kernel
theorem d_Mo_costOf_201 : decode Y_Mo_costOf.2.1 201 = .ok (.goto 5, 3) := by decide +kernel
theorem d_Mo_costOf_204 : decode Y_Mo_costOf.2.1 204 = .ok (.iload 6, 2) := by decide +kernel
theorem d_Mo_costOf_206 : decode Y_Mo_costOf.2.1 206 = .ok (.istore 6, 2) := by decide +kernel
theorem d_Mo_costOf_208 : decode Y_Mo_costOf.2.1 208 = .ok (.iload 4, 2) := by decide +kernel
theorem d_Mo_costOf_210 : decode Y_Mo_costOf.2.1 210 = .ok (.aload_n 0, 1) := by decide +kernel
theorem d_Mo_costOf_211 : decode Y_Mo_costOf.2.1 211 = .ok (.getfield 20, 3) := by decide +kernel
theorem d_Mo_costOf_214 : decode Y_Mo_costOf.2.1 214 = .ok (.bipush 9, 2) := by decide +kernel
theorem d_Mo_costOf_216 : decode Y_Mo_costOf.2.1 216 = .ok (.iload 5, 2) := by decide +kernel
theorem d_Mo_costOf_218 : decode Y_Mo_costOf.2.1 218 = .ok (.imul, 1) := by decide +kernel
theorem d_Mo_costOf_219 : decode Y_Mo_costOf.2.1 219 = .ok (.iload 8, 2) := by decide +kernel
theorem d_Mo_costOf_221 : decode Y_Mo_costOf.2.1 221 = .ok (.iadd, 1) := by decide +kernel
theorem d_Mo_costOf_222 : decode Y_Mo_costOf.2.1 222 = .ok (.iaload, 1) := by decide +kernel
theorem d_Mo_costOf_223 : decode Y_Mo_costOf.2.1 223 = .ok (.iadd, 1) := by decide +kernel
theorem d_Mo_costOf_224 : decode Y_Mo_costOf.2.1 224 = .ok (.istore 4, 2) := by decide +kernel
theorem d_Mo_costOf_226 : decode Y_Mo_costOf.2.1 226 = .ok (.aload_n 0, 1) := by decide +kernel
theorem d_Mo_costOf_227 : decode Y_Mo_costOf.2.1 227 = .ok (.aload_n 0, 1) := by decide +kernel
theorem d_Mo_costOf_228 : decode Y_Mo_costOf.2.1 228 = .ok (.getfield 92, 3) := by decide +kernel
theorem d_Mo_costOf_231 : decode Y_Mo_costOf.2.1 231 = .ok (.iconst 1, 1) := by decide +kernel
theorem d_Mo_costOf_232 : decode Y_Mo_costOf.2.1 232 = .ok (.iload 8, 2) := by decide +kernel
theorem d_Mo_costOf_234 : decode Y_Mo_costOf.2.1 234 = .ok (.ishl, 1) := by decide +kernel
theorem d_Mo_costOf_235 : decode Y_Mo_costOf.2.1 235 = .ok (.ior, 1) := by decide +kernel
theorem d_Mo_costOf_236 : decode Y_Mo_costOf.2.1 236 = .ok (.putfield 92, 3) := by decide +kernel
theorem d_Mo_costOf_239 : decode Y_Mo_costOf.2.1 239 = .ok (.aload_n 0, 1) := by decide +kernel
theorem d_Mo_costOf_240 : decode Y_Mo_costOf.2.1 240 = .ok (.aload_n 0, 1) := by decide +kernel
theorem d_Mo_costOf_241 : decode Y_Mo_costOf.2.1 241 = .ok (.getfield 98, 3) := by decide +kernel
theorem d_Mo_costOf_244 : decode Y_Mo_costOf.2.1 244 = .ok (.iconst 1, 1) := by decide +kernel
theorem d_Mo_costOf_245 : decode Y_Mo_costOf.2.1 245 = .ok (.iload 8, 2) := by decide +kernel
theorem d_Mo_costOf_247 : decode Y_Mo_costOf.2.1 247 = .ok (.ishl, 1) := by decide +kernel
theorem d_Mo_costOf_248 : decode Y_Mo_costOf.2.1 248 = .ok (.ior, 1) := by decide +kernel
theorem d_Mo_costOf_249 : decode Y_Mo_costOf.2.1 249 = .ok (.putfield 98, 3) := by decide +kernel
theorem d_Mo_costOf_252 : decode Y_Mo_costOf.2.1 252 = .ok (.aload_n 0, 1) := by decide +kernel
theorem d_Mo_costOf_253 : decode Y_Mo_costOf.2.1 253 = .ok (.aload_n 0, 1) := by decide +kernel
theorem d_Mo_costOf_254 : decode Y_Mo_costOf.2.1 254 = .ok (.getfield 95, 3) := by decide +kernel
theorem d_Mo_costOf_257 : decode Y_Mo_costOf.2.1 257 = .ok (.aload_n 0, 1) := by decide +kernel
theorem d_Mo_costOf_258 : decode Y_Mo_costOf.2.1 258 = .ok (.getfield 16, 3) := by decide +kernel
theorem d_Mo_costOf_261 : decode Y_Mo_costOf.2.1 261 = .ok (.iload 8, 2) := by decide +kernel
theorem d_Mo_costOf_263 : decode Y_Mo_costOf.2.1 263 = .ok (.iaload, 1) := by decide +kernel
theorem d_Mo_costOf_264 : decode Y_Mo_costOf.2.1 264 = .ok (.iadd, 1) := by decide +kernel
theorem d_Mo_costOf_265 : decode Y_Mo_costOf.2.1 265 = .ok (.putfield 95, 3) := by decide +kernel
theorem d_Mo_costOf_268 : decode Y_Mo_costOf.2.1 268 = .ok (.iload 8, 2) := by decide +kernel
theorem d_Mo_costOf_270 : decode Y_Mo_costOf.2.1 270 = .ok (.istore 5, 2) := by decide +kernel
theorem d_Mo_costOf_272 : decode Y_Mo_costOf.2.1 272 = .ok (.iinc 7 1, 3) := by decide +kernel
theorem d_Mo_costOf_275 : decode Y_Mo_costOf.2.1 275 = .ok (.goto (-230), 3) := by decide +kernel
theorem d_Mo_costOf_278 : decode Y_Mo_costOf.2.1 278 = .ok (.iload 6, 2) := by decide +kernel
theorem d_Mo_costOf_280 : decode Y_Mo_costOf.2.1 280 = .ok (.aload_n 0, 1) := by decide +kernel
theorem d_Mo_costOf_281 : decode Y_Mo_costOf.2.1 281 = .ok (.getfield 30, 3) := by decide +kernel
theorem d_Mo_costOf_284 : decode Y_Mo_costOf.2.1 284 = .ok (.if_icmp .gt 30, 3) := by decide +kernel
theorem d_Mo_costOf_287 : decode Y_Mo_costOf.2.1 287 = .ok (.iload 5, 2) := by decide +kernel
theorem d_Mo_costOf_289 : decode Y_Mo_costOf.2.1 289 = .ok (.ifCond .le 28, 3) := by decide +kernel
theorem d_Mo_costOf_292 : decode Y_Mo_costOf.2.1 292 = .ok (.aload_n 0, 1) := by decide +kernel
theorem d_Mo_costOf_293 : decode Y_Mo_costOf.2.1 293 = .ok (.getfield 89, 3) := by decide +kernel
theorem d_Mo_costOf_296 : decode Y_Mo_costOf.2.1 296 = .ok (.ifCond .ne 21, 3) := by decide +kernel
theorem d_Mo_costOf_299 : decode Y_Mo_costOf.2.1 299 = .ok (.aload_n 0, 1) := by decide +kernel
theorem d_Mo_costOf_300 : decode Y_Mo_costOf.2.1 300 = .ok (.getfield 20, 3) := by decide +kernel
theorem d_Mo_costOf_303 : decode Y_Mo_costOf.2.1 303 = .ok (.bipush 9, 2) := by decide +kernel
theorem d_Mo_costOf_305 : decode Y_Mo_costOf.2.1 305 = .ok (.iload 5, 2) := by decide +kernel
theorem d_Mo_costOf_307 : decode Y_Mo_costOf.2.1 307 = .ok (.imul, 1) := by decide +kernel
theorem d_Mo_costOf_308 : decode Y_Mo_costOf.2.1 308 = .ok (.iaload, 1) := by decide +kernel
theorem d_Mo_costOf_309 : decode Y_Mo_costOf.2.1 309 = .ok (.ldc 69, 2) := by decide +kernel
theorem d_Mo_costOf_311 : decode Y_Mo_costOf.2.1 311 = .ok (.if_icmp .ne 6, 3) := by decide +kernel
theorem d_Mo_costOf_314 : decode Y_Mo_costOf.2.1 314 = .ok (.ldc 101, 2) := by decide +kernel
theorem d_Mo_costOf_316 : decode Y_Mo_costOf.2.1 316 = .ok (.ireturn, 1) := by decide +kernel
theorem d_Mo_costOf_317 : decode Y_Mo_costOf.2.1 317 = .ok (.iload 5, 2) := by decide +kernel
theorem d_Mo_costOf_319 : decode Y_Mo_costOf.2.1 319 = .ok (.ifCond .le 26, 3) := by decide +kernel
theorem d_Mo_costOf_322 : decode Y_Mo_costOf.2.1 322 = .ok (.aload_n 0, 1) := by decide +kernel
theorem d_Mo_costOf_323 : decode Y_Mo_costOf.2.1 323 = .ok (.getfield 89, 3) := by decide +kernel
theorem d_Mo_costOf_326 : decode Y_Mo_costOf.2.1 326 = .ok (.ifCond .ne 19, 3) := by decide +kernel
theorem d_Mo_costOf_329 : decode Y_Mo_costOf.2.1 329 = .ok (.iload 4, 2) := by decide +kernel
theorem d_Mo_costOf_331 : decode Y_Mo_costOf.2.1 331 = .ok (.aload_n 0, 1) := by decide +kernel
theorem d_Mo_costOf_332 : decode Y_Mo_costOf.2.1 332 = .ok (.getfield 20, 3) := by decide +kernel
theorem d_Mo_costOf_335 : decode Y_Mo_costOf.2.1 335 = .ok (.bipush 9, 2) := by decide +kernel
theorem d_Mo_costOf_337 : decode Y_Mo_costOf.2.1 337 = .ok (.iload 5, 2) := by decide +kernel
theorem d_Mo_costOf_339 : decode Y_Mo_costOf.2.1 339 = .ok (.imul, 1) := by decide +kernel
theorem d_Mo_costOf_340 : decode Y_Mo_costOf.2.1 340 = .ok (.iaload, 1) := by decide +kernel
theorem d_Mo_costOf_341 : decode Y_Mo_costOf.2.1 341 = .ok (.iadd, 1) := by decide +kernel
theorem d_Mo_costOf_342 : decode Y_Mo_costOf.2.1 342 = .ok (.goto 5, 3) := by decide +kernel
theorem d_Mo_costOf_345 : decode Y_Mo_costOf.2.1 345 = .ok (.iload 4, 2) := by decide +kernel
theorem d_Mo_costOf_347 : decode Y_Mo_costOf.2.1 347 = .ok (.istore 4, 2) := by decide +kernel
theorem d_Mo_costOf_349 : decode Y_Mo_costOf.2.1 349 = .ok (.iconst 1, 1) := by decide +kernel
theorem d_Mo_costOf_350 : decode Y_Mo_costOf.2.1 350 = .ok (.istore 7, 2) := by decide +kernel
theorem d_Mo_costOf_352 : decode Y_Mo_costOf.2.1 352 = .ok (.iload 7, 2) := by decide +kernel
theorem d_Mo_costOf_354 : decode Y_Mo_costOf.2.1 354 = .ok (.aload_n 0, 1) := by decide +kernel
theorem d_Mo_costOf_355 : decode Y_Mo_costOf.2.1 355 = .ok (.getfield 13, 3) := by decide +kernel
theorem d_Mo_costOf_358 : decode Y_Mo_costOf.2.1 358 = .ok (.if_icmp .ge 46, 3) := by decide +kernel
theorem d_Mo_costOf_361 : decode Y_Mo_costOf.2.1 361 = .ok (.aload_n 0, 1) := by decide +kernel
theorem d_Mo_costOf_362 : decode Y_Mo_costOf.2.1 362 = .ok (.getfield 92, 3) := by decide +kernel
theorem d_Mo_costOf_365 : decode Y_Mo_costOf.2.1 365 = .ok (.iload 7, 2) := by decide +kernel
theorem d_Mo_costOf_367 : decode Y_Mo_costOf.2.1 367 = .ok (.ishr, 1) := by decide +kernel
theorem d_Mo_costOf_368 : decode Y_Mo_costOf.2.1 368 = .ok (.iconst 1, 1) := by decide +kernel
theorem d_Mo_costOf_369 : decode Y_Mo_costOf.2.1 369 = .ok (.iand, 1) := by decide +kernel
theorem d_Mo_costOf_370 : decode Y_Mo_costOf.2.1 370 = .ok (.ifCond .ne 28, 3) := by decide +kernel
theorem d_Mo_costOf_373 : decode Y_Mo_costOf.2.1 373 = .ok (.aload_n 0, 1) := by decide +kernel
theorem d_Mo_costOf_374 : decode Y_Mo_costOf.2.1 374 = .ok (.getfield 23, 3) := by decide +kernel
theorem d_Mo_costOf_377 : decode Y_Mo_costOf.2.1 377 = .ok (.iload 7, 2) := by decide +kernel
theorem d_Mo_costOf_379 : decode Y_Mo_costOf.2.1 379 = .ok (.iaload, 1) := by decide +kernel
theorem d_Mo_costOf_380 : decode Y_Mo_costOf.2.1 380 = .ok (.ifCond .ge 6, 3) := by decide +kernel
theorem d_Mo_costOf_383 : decode Y_Mo_costOf.2.1 383 = .ok (.ldc 101, 2) := by decide +kernel
theorem d_Mo_costOf_385 : decode Y_Mo_costOf.2.1 385 = .ok (.ireturn, 1) := by decide +kernel
theorem d_Mo_costOf_386 : decode Y_Mo_costOf.2.1 386 = .ok (.iload 4, 2) := by decide +kernel
theorem d_Mo_costOf_388 : decode Y_Mo_costOf.2.1 388 = .ok (.aload_n 0, 1) := by decide +kernel
theorem d_Mo_costOf_389 : decode Y_Mo_costOf.2.1 389 = .ok (.getfield 23, 3) := by decide +kernel
theorem d_Mo_costOf_392 : decode Y_Mo_costOf.2.1 392 = .ok (.iload 7, 2) := by decide +kernel
theorem d_Mo_costOf_394 : decode Y_Mo_costOf.2.1 394 = .ok (.iaload, 1) := by decide +kernel
theorem d_Mo_costOf_395 : decode Y_Mo_costOf.2.1 395 = .ok (.iadd, 1) := by decide +kernel
theorem d_Mo_costOf_396 : decode Y_Mo_costOf.2.1 396 = .ok (.istore 4, 2) := by decide +kernel
theorem d_Mo_costOf_398 : decode Y_Mo_costOf.2.1 398 = .ok (.iinc 7 1, 3) := by decide +kernel
theorem d_Mo_costOf_401 : decode Y_Mo_costOf.2.1 401 = .ok (.goto (-49), 3) := by decide +kernel
theorem d_Mo_costOf_404 : decode Y_Mo_costOf.2.1 404 = .ok (.iload 4, 2) := by decide +kernel
theorem d_Mo_costOf_406 : decode Y_Mo_costOf.2.1 406 = .ok (.ireturn, 1) := by decide +kernel
theorem d_Mo_insert_0 : decode Y_Mo_insert.2.1 0 = .ok (.aload_n 0, 1) := by decide +kernel
theorem d_Mo_insert_1 : decode Y_Mo_insert.2.1 1 = .ok (.iconst 0, 1) := by decide +kernel
theorem d_Mo_insert_2 : decode Y_Mo_insert.2.1 2 = .ok (.putfield 1, 3) := by decide +kernel
theorem d_Mo_insert_5 : decode Y_Mo_insert.2.1 5 = .ok (.aload_n 0, 1) := by decide +kernel
theorem d_Mo_insert_6 : decode Y_Mo_insert.2.1 6 = .ok (.iload_n 1, 1) := by decide +kernel
theorem d_Mo_insert_7 : decode Y_Mo_insert.2.1 7 = .ok (.invokevirtual 74, 3) := by decide +kernel
theorem d_Mo_insert_10 : decode Y_Mo_insert.2.1 10 = .ok (.ifCond .ne 7, 3) := by decide +kernel
theorem d_Mo_insert_13 : decode Y_Mo_insert.2.1 13 = .ok (.iload_n 1, 1) := by decide +kernel
theorem d_Mo_insert_14 : decode Y_Mo_insert.2.1 14 = .ok (.ifCond .ne 6, 3) := by decide +kernel
theorem d_Mo_insert_17 : decode Y_Mo_insert.2.1 17 = .ok (.ldc 78, 2) := by decide +kernel
theorem d_Mo_insert_19 : decode Y_Mo_insert.2.1 19 = .ok (.ireturn, 1) := by decide +kernel
theorem d_Mo_insert_20 : decode Y_Mo_insert.2.1 20 = .ok (.aload_n 0, 1) := by decide +kernel
theorem d_Mo_insert_21 : decode Y_Mo_insert.2.1 21 = .ok (.getfield 181, 3) := by decide +kernel
theorem d_Mo_insert_24 : decode Y_Mo_insert.2.1 24 = .ok (.bipush 20, 2) := by decide +kernel
theorem d_Mo_insert_26 : decode Y_Mo_insert.2.1 26 = .ok (.if_icmp .ne 6, 3) := by decide +kernel
theorem d_Mo_insert_29 : decode Y_Mo_insert.2.1 29 = .ok (.ldc 79, 2) := by decide +kernel
theorem d_Mo_insert_31 : decode Y_Mo_insert.2.1 31 = .ok (.ireturn, 1) := by decide +kernel
theorem d_Mo_insert_32 : decode Y_Mo_insert.2.1 32 = .ok (.ldc 88, 2) := by decide +kernel
theorem d_Mo_insert_34 : decode Y_Mo_insert.2.1 34 = .ok (.istore_n 2, 1) := by decide +kernel
theorem d_Mo_insert_35 : decode Y_Mo_insert.2.1 35 = .ok (.ldc 101, 2) := by decide +kernel
theorem d_Mo_insert_37 : decode Y_Mo_insert.2.1 37 = .ok (.istore_n 3, 1) := by decide +kernel
theorem d_Mo_insert_38 : decode Y_Mo_insert.2.1 38 = .ok (.iconst 0, 1) := by decide +kernel
theorem d_Mo_insert_39 : decode Y_Mo_insert.2.1 39 = .ok (.istore 4, 2) := by decide +kernel
theorem d_Mo_insert_41 : decode Y_Mo_insert.2.1 41 = .ok (.iload 4, 2) := by decide +kernel
theorem d_Mo_insert_43 : decode Y_Mo_insert.2.1 43 = .ok (.aload_n 0, 1) := by decide +kernel
theorem d_Mo_insert_44 : decode Y_Mo_insert.2.1 44 = .ok (.getfield 181, 3) := by decide +kernel
theorem d_Mo_insert_47 : decode Y_Mo_insert.2.1 47 = .ok (.if_icmp .gt 30, 3) := by decide +kernel
theorem d_Mo_insert_50 : decode Y_Mo_insert.2.1 50 = .ok (.aload_n 0, 1) := by decide +kernel
theorem d_Mo_insert_51 : decode Y_Mo_insert.2.1 51 = .ok (.iload_n 1, 1) := by decide +kernel
theorem d_Mo_insert_52 : decode Y_Mo_insert.2.1 52 = .ok (.iload 4, 2) := by decide +kernel
theorem d_Mo_insert_54 : decode Y_Mo_insert.2.1 54 = .ok (.invokevirtual 184, 3) := by decide +kernel
theorem d_Mo_insert_57 : decode Y_Mo_insert.2.1 57 = .ok (.istore 5, 2) := by decide +kernel
theorem d_Mo_insert_59 : decode Y_Mo_insert.2.1 59 = .ok (.iload 5, 2) := by decide +kernel
theorem d_Mo_insert_61 : decode Y_Mo_insert.2.1 61 = .ok (.iload_n 3, 1) := by decide +kernel
theorem d_Mo_insert_62 : decode Y_Mo_insert.2.1 62 = .ok (.if_icmp .ge 9, 3) := by decide +kernel
theorem d_Mo_insert_65 : decode Y_Mo_insert.2.1 65 = .ok (.iload 5, 2) := by decide +kernel
theorem d_Mo_insert_67 : decode Y_Mo_insert.2.1 67 = .ok (.istore_n 3, 1) := by decide +kernel
theorem d_Mo_insert_68 : decode Y_Mo_insert.2.1 68 = .ok (.iload 4, 2) := by decide +kernel
theorem d_Mo_insert_70 : decode Y_Mo_insert.2.1 70 = .ok (.istore_n 2, 1) := by decide +kernel
theorem d_Mo_insert_71 : decode Y_Mo_insert.2.1 71 = .ok (.iinc 4 1, 3) := by decide +kernel
theorem d_Mo_insert_74 : decode Y_Mo_insert.2.1 74 = .ok (.goto (-33), 3) := by decide +kernel
theorem d_Mo_insert_77 : decode Y_Mo_insert.2.1 77 = .ok (.iload_n 2, 1) := by decide +kernel
theorem d_Mo_insert_78 : decode Y_Mo_insert.2.1 78 = .ok (.ireturn, 1) := by decide +kernel
theorem d_Mo_count_0 : decode Y_Mo_count.2.1 0 = .ok (.aload_n 0, 1) := by decide +kernel
theorem d_Mo_count_1 : decode Y_Mo_count.2.1 1 = .ok (.iconst 0, 1) := by decide +kernel
theorem d_Mo_count_2 : decode Y_Mo_count.2.1 2 = .ok (.putfield 1, 3) := by decide +kernel
theorem d_Mo_count_5 : decode Y_Mo_count.2.1 5 = .ok (.iconst 0, 1) := by decide +kernel
theorem d_Mo_count_6 : decode Y_Mo_count.2.1 6 = .ok (.istore_n 2, 1) := by decide +kernel
theorem d_Mo_count_7 : decode Y_Mo_count.2.1 7 = .ok (.iload_n 1, 1) := by decide +kernel
theorem d_Mo_count_8 : decode Y_Mo_count.2.1 8 = .ok (.tableswitch 137 0 6 #[44, 49, 84, 117, 122, 127, 132], 44) := by decide +kernel
theorem d_Mo_count_52 : decode Y_Mo_count.2.1 52 = .ok (.aload_n 0, 1) := by decide +kernel
theorem d_Mo_count_53 : decode Y_Mo_count.2.1 53 = .ok (.getfield 13, 3) := by decide +kernel
theorem d_Mo_count_56 : decode Y_Mo_count.2.1 56 = .ok (.ireturn, 1) := by decide +kernel
theorem d_Mo_count_57 : decode Y_Mo_count.2.1 57 = .ok (.iconst 0, 1) := by decide +kernel
theorem d_Mo_count_58 : decode Y_Mo_count.2.1 58 = .ok (.istore_n 3, 1) := by decide +kernel
theorem d_Mo_count_59 : decode Y_Mo_count.2.1 59 = .ok (.iload_n 3, 1) := by decide +kernel
theorem d_Mo_count_60 : decode Y_Mo_count.2.1 60 = .ok (.bipush 81, 2) := by decide +kernel
theorem d_Mo_count_62 : decode Y_Mo_count.2.1 62 = .ok (.if_icmp .ge 28, 3) := by decide +kernel
theorem d_Mo_count_65 : decode Y_Mo_count.2.1 65 = .ok (.aload_n 0, 1) := by decide +kernel
theorem d_Mo_count_66 : decode Y_Mo_count.2.1 66 = .ok (.getfield 20, 3) := by decide +kernel
theorem d_Mo_count_69 : decode Y_Mo_count.2.1 69 = .ok (.iload_n 3, 1) := by decide +kernel
theorem d_Mo_count_70 : decode Y_Mo_count.2.1 70 = .ok (.iaload, 1) := by decide +kernel
theorem d_Mo_count_71 : decode Y_Mo_count.2.1 71 = .ok (.ldc 69, 2) := by decide +kernel
theorem d_Mo_count_73 : decode Y_Mo_count.2.1 73 = .ok (.if_icmp .eq 9, 3) := by decide +kernel
theorem d_Mo_count_76 : decode Y_Mo_count.2.1 76 = .ok (.iload_n 2, 1) := by decide +kernel
theorem d_Mo_count_77 : decode Y_Mo_count.2.1 77 = .ok (.iconst 1, 1) := by decide +kernel
theorem d_Mo_count_78 : decode Y_Mo_count.2.1 78 = .ok (.iadd, 1) := by decide +kernel
theorem d_Mo_count_79 : decode Y_Mo_count.2.1 79 = .ok (.goto 4, 3) := by decide +kernel
theorem d_Mo_count_82 : decode Y_Mo_count.2.1 82 = .ok (.iload_n 2, 1) := by decide +kernel
theorem d_Mo_count_83 : decode Y_Mo_count.2.1 83 = .ok (.istore_n 2, 1) := by decide +kernel
theorem d_Mo_count_84 : decode Y_Mo_count.2.1 84 = .ok (.iinc 3 1, 3) := by decide +kernel
theorem d_Mo_count_87 : decode Y_Mo_count.2.1 87 = .ok (.goto (-28), 3) := by decide +kernel
theorem d_Mo_count_90 : decode Y_Mo_count.2.1 90 = .ok (.iload_n 2, 1) := by decide +kernel
theorem d_Mo_count_91 : decode Y_Mo_count.2.1 91 = .ok (.ireturn, 1) := by decide +kernel
theorem d_Mo_count_92 : decode Y_Mo_count.2.1 92 = .ok (.iconst 0, 1) := by decide +kernel
theorem d_Mo_count_93 : decode Y_Mo_count.2.1 93 = .ok (.istore_n 3, 1) := by decide +kernel
theorem d_Mo_count_94 : decode Y_Mo_count.2.1 94 = .ok (.iload_n 3, 1) := by decide +kernel
theorem d_Mo_count_95 : decode Y_Mo_count.2.1 95 = .ok (.bipush 81, 2) := by decide +kernel
theorem d_Mo_count_97 : decode Y_Mo_count.2.1 97 = .ok (.if_icmp .ge 26, 3) := by decide +kernel
theorem d_Mo_count_100 : decode Y_Mo_count.2.1 100 = .ok (.aload_n 0, 1) := by decide +kernel
theorem d_Mo_count_101 : decode Y_Mo_count.2.1 101 = .ok (.getfield 26, 3) := by decide +kernel
theorem d_Mo_count_104 : decode Y_Mo_count.2.1 104 = .ok (.iload_n 3, 1) := by decide +kernel
theorem d_Mo_count_105 : decode Y_Mo_count.2.1 105 = .ok (.baload, 1) := by decide +kernel
theorem d_Mo_count_106 : decode Y_Mo_count.2.1 106 = .ok (.ifCond .eq 9, 3) := by decide +kernel
theorem d_Mo_count_109 : decode Y_Mo_count.2.1 109 = .ok (.iload_n 2, 1) := by decide +kernel
theorem d_Mo_count_110 : decode Y_Mo_count.2.1 110 = .ok (.iconst 1, 1) := by decide +kernel
theorem d_Mo_count_111 : decode Y_Mo_count.2.1 111 = .ok (.iadd, 1) := by decide +kernel
theorem d_Mo_count_112 : decode Y_Mo_count.2.1 112 = .ok (.goto 4, 3) := by decide +kernel
theorem d_Mo_count_115 : decode Y_Mo_count.2.1 115 = .ok (.iload_n 2, 1) := by decide +kernel
theorem d_Mo_count_116 : decode Y_Mo_count.2.1 116 = .ok (.istore_n 2, 1) := by decide +kernel
theorem d_Mo_count_117 : decode Y_Mo_count.2.1 117 = .ok (.iinc 3 1, 3) := by decide +kernel
theorem d_Mo_count_120 : decode Y_Mo_count.2.1 120 = .ok (.goto (-26), 3) := by decide +kernel
theorem d_Mo_count_123 : decode Y_Mo_count.2.1 123 = .ok (.iload_n 2, 1) := by decide +kernel
theorem d_Mo_count_124 : decode Y_Mo_count.2.1 124 = .ok (.ireturn, 1) := by decide +kernel
theorem d_Mo_count_125 : decode Y_Mo_count.2.1 125 = .ok (.aload_n 0, 1) := by decide +kernel
theorem d_Mo_count_126 : decode Y_Mo_count.2.1 126 = .ok (.getfield 30, 3) := by decide +kernel
theorem d_Mo_count_129 : decode Y_Mo_count.2.1 129 = .ok (.ireturn, 1) := by decide +kernel
theorem d_Mo_count_130 : decode Y_Mo_count.2.1 130 = .ok (.aload_n 0, 1) := by decide +kernel
theorem d_Mo_count_131 : decode Y_Mo_count.2.1 131 = .ok (.getfield 33, 3) := by decide +kernel
theorem d_Mo_count_134 : decode Y_Mo_count.2.1 134 = .ok (.ireturn, 1) := by decide +kernel
theorem d_Mo_count_135 : decode Y_Mo_count.2.1 135 = .ok (.aload_n 0, 1) := by decide +kernel
theorem d_Mo_count_136 : decode Y_Mo_count.2.1 136 = .ok (.getfield 89, 3) := by decide +kernel
theorem d_Mo_count_139 : decode Y_Mo_count.2.1 139 = .ok (.ireturn, 1) := by decide +kernel
theorem d_Mo_count_140 : decode Y_Mo_count.2.1 140 = .ok (.aload_n 0, 1) := by decide +kernel
theorem d_Mo_count_141 : decode Y_Mo_count.2.1 141 = .ok (.getfield 181, 3) := by decide +kernel
theorem d_Mo_count_144 : decode Y_Mo_count.2.1 144 = .ok (.ireturn, 1) := by decide +kernel
theorem d_Mo_count_145 : decode Y_Mo_count.2.1 145 = .ok (.ldc 78, 2) := by decide +kernel
theorem d_Mo_count_147 : decode Y_Mo_count.2.1 147 = .ok (.ireturn, 1) := by decide +kernel
