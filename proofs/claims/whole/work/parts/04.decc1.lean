theorem d_Mo_atNode_215 : decode Y_Mo_atNode.2.1 215 = .ok (.aload_n 0, 1) := by decide +kernel
theorem d_Mo_atNode_216 : decode Y_Mo_atNode.2.1 216 = .ok (.iload_n 2, 1) := by decide +kernel
theorem d_Mo_atNode_217 : decode Y_Mo_atNode.2.1 217 = .ok (.iconst 0, 1) := by decide +kernel
theorem d_Mo_atNode_218 : decode Y_Mo_atNode.2.1 218 = .ok (.iload 12, 2) := by decide +kernel
theorem d_Mo_atNode_220 : decode Y_Mo_atNode.2.1 220 = .ok (.invokevirtual 140, 3) := by decide +kernel
theorem d_Mo_atNode_223 : decode Y_Mo_atNode.2.1 223 = .ok (.iload 12, 2) := by decide +kernel
theorem d_Mo_atNode_225 : decode Y_Mo_atNode.2.1 225 = .ok (.iload 9, 2) := by decide +kernel
theorem d_Mo_atNode_227 : decode Y_Mo_atNode.2.1 227 = .ok (.if_icmp .ge 8, 3) := by decide +kernel
theorem d_Mo_atNode_230 : decode Y_Mo_atNode.2.1 230 = .ok (.iload 12, 2) := by decide +kernel
theorem d_Mo_atNode_232 : decode Y_Mo_atNode.2.1 232 = .ok (.goto 5, 3) := by decide +kernel
theorem d_Mo_atNode_235 : decode Y_Mo_atNode.2.1 235 = .ok (.iload 9, 2) := by decide +kernel
theorem d_Mo_atNode_237 : decode Y_Mo_atNode.2.1 237 = .ok (.istore 9, 2) := by decide +kernel
theorem d_Mo_atNode_239 : decode Y_Mo_atNode.2.1 239 = .ok (.aload_n 0, 1) := by decide +kernel
theorem d_Mo_atNode_240 : decode Y_Mo_atNode.2.1 240 = .ok (.iload 10, 2) := by decide +kernel
theorem d_Mo_atNode_242 : decode Y_Mo_atNode.2.1 242 = .ok (.putfield 98, 3) := by decide +kernel
theorem d_Mo_atNode_245 : decode Y_Mo_atNode.2.1 245 = .ok (.aload_n 0, 1) := by decide +kernel
theorem d_Mo_atNode_246 : decode Y_Mo_atNode.2.1 246 = .ok (.iload 11, 2) := by decide +kernel
theorem d_Mo_atNode_248 : decode Y_Mo_atNode.2.1 248 = .ok (.putfield 95, 3) := by decide +kernel
theorem d_Mo_atNode_251 : decode Y_Mo_atNode.2.1 251 = .ok (.aload_n 0, 1) := by decide +kernel
theorem d_Mo_atNode_252 : decode Y_Mo_atNode.2.1 252 = .ok (.iload_n 1, 1) := by decide +kernel
theorem d_Mo_atNode_253 : decode Y_Mo_atNode.2.1 253 = .ok (.iload_n 2, 1) := by decide +kernel
theorem d_Mo_atNode_254 : decode Y_Mo_atNode.2.1 254 = .ok (.iload 9, 2) := by decide +kernel
theorem d_Mo_atNode_256 : decode Y_Mo_atNode.2.1 256 = .ok (.invokevirtual 140, 3) := by decide +kernel
theorem d_Mo_atNode_259 : decode Y_Mo_atNode.2.1 259 = .ok (.aload_n 0, 1) := by decide +kernel
theorem d_Mo_atNode_260 : decode Y_Mo_atNode.2.1 260 = .ok (.aload_n 0, 1) := by decide +kernel
theorem d_Mo_atNode_261 : decode Y_Mo_atNode.2.1 261 = .ok (.getfield 92, 3) := by decide +kernel
theorem d_Mo_atNode_264 : decode Y_Mo_atNode.2.1 264 = .ok (.iconst 1, 1) := by decide +kernel
theorem d_Mo_atNode_265 : decode Y_Mo_atNode.2.1 265 = .ok (.iload_n 2, 1) := by decide +kernel
theorem d_Mo_atNode_266 : decode Y_Mo_atNode.2.1 266 = .ok (.ishl, 1) := by decide +kernel
theorem d_Mo_atNode_267 : decode Y_Mo_atNode.2.1 267 = .ok (.iconst (-1), 1) := by decide +kernel
theorem d_Mo_atNode_268 : decode Y_Mo_atNode.2.1 268 = .ok (.ixor, 1) := by decide +kernel
theorem d_Mo_atNode_269 : decode Y_Mo_atNode.2.1 269 = .ok (.iand, 1) := by decide +kernel
theorem d_Mo_atNode_270 : decode Y_Mo_atNode.2.1 270 = .ok (.putfield 92, 3) := by decide +kernel
theorem d_Mo_atNode_273 : decode Y_Mo_atNode.2.1 273 = .ok (.aload_n 0, 1) := by decide +kernel
theorem d_Mo_atNode_274 : decode Y_Mo_atNode.2.1 274 = .ok (.iload 6, 2) := by decide +kernel
theorem d_Mo_atNode_276 : decode Y_Mo_atNode.2.1 276 = .ok (.putfield 98, 3) := by decide +kernel
theorem d_Mo_atNode_279 : decode Y_Mo_atNode.2.1 279 = .ok (.aload_n 0, 1) := by decide +kernel
theorem d_Mo_atNode_280 : decode Y_Mo_atNode.2.1 280 = .ok (.iload 7, 2) := by decide +kernel
theorem d_Mo_atNode_282 : decode Y_Mo_atNode.2.1 282 = .ok (.putfield 95, 3) := by decide +kernel
theorem d_Mo_atNode_285 : decode Y_Mo_atNode.2.1 285 = .ok (.aload_n 0, 1) := by decide +kernel
theorem d_Mo_atNode_286 : decode Y_Mo_atNode.2.1 286 = .ok (.iload 8, 2) := by decide +kernel
theorem d_Mo_atNode_288 : decode Y_Mo_atNode.2.1 288 = .ok (.putfield 115, 3) := by decide +kernel
theorem d_Mo_atNode_291 : decode Y_Mo_atNode.2.1 291 = .ok (.iload 9, 2) := by decide +kernel
theorem d_Mo_atNode_293 : decode Y_Mo_atNode.2.1 293 = .ok (.ireturn, 1) := by decide +kernel
theorem d_Mo_note_0 : decode Y_Mo_note.2.1 0 = .ok (.aload_n 0, 1) := by decide +kernel
theorem d_Mo_note_1 : decode Y_Mo_note.2.1 1 = .ok (.getfield 45, 3) := by decide +kernel
theorem d_Mo_note_4 : decode Y_Mo_note.2.1 4 = .ok (.bipush 9, 2) := by decide +kernel
theorem d_Mo_note_6 : decode Y_Mo_note.2.1 6 = .ok (.iload_n 1, 1) := by decide +kernel
theorem d_Mo_note_7 : decode Y_Mo_note.2.1 7 = .ok (.imul, 1) := by decide +kernel
theorem d_Mo_note_8 : decode Y_Mo_note.2.1 8 = .ok (.iload_n 2, 1) := by decide +kernel
theorem d_Mo_note_9 : decode Y_Mo_note.2.1 9 = .ok (.iadd, 1) := by decide +kernel
theorem d_Mo_note_10 : decode Y_Mo_note.2.1 10 = .ok (.iload_n 3, 1) := by decide +kernel
theorem d_Mo_note_11 : decode Y_Mo_note.2.1 11 = .ok (.aload_n 0, 1) := by decide +kernel
theorem d_Mo_note_12 : decode Y_Mo_note.2.1 12 = .ok (.getfield 45, 3) := by decide +kernel
theorem d_Mo_note_15 : decode Y_Mo_note.2.1 15 = .ok (.bipush 9, 2) := by decide +kernel
theorem d_Mo_note_17 : decode Y_Mo_note.2.1 17 = .ok (.iload_n 1, 1) := by decide +kernel
theorem d_Mo_note_18 : decode Y_Mo_note.2.1 18 = .ok (.imul, 1) := by decide +kernel
theorem d_Mo_note_19 : decode Y_Mo_note.2.1 19 = .ok (.iload_n 2, 1) := by decide +kernel
theorem d_Mo_note_20 : decode Y_Mo_note.2.1 20 = .ok (.iadd, 1) := by decide +kernel
theorem d_Mo_note_21 : decode Y_Mo_note.2.1 21 = .ok (.iaload, 1) := by decide +kernel
theorem d_Mo_note_22 : decode Y_Mo_note.2.1 22 = .ok (.if_icmp .ge 7, 3) := by decide +kernel
theorem d_Mo_note_25 : decode Y_Mo_note.2.1 25 = .ok (.iload_n 3, 1) := by decide +kernel
theorem d_Mo_note_26 : decode Y_Mo_note.2.1 26 = .ok (.goto 14, 3) := by decide +kernel
theorem d_Mo_note_29 : decode Y_Mo_note.2.1 29 = .ok (.aload_n 0, 1) := by decide +kernel
theorem d_Mo_note_30 : decode Y_Mo_note.2.1 30 = .ok (.getfield 45, 3) := by decide +kernel
theorem d_Mo_note_33 : decode Y_Mo_note.2.1 33 = .ok (.bipush 9, 2) := by decide +kernel
theorem d_Mo_note_35 : decode Y_Mo_note.2.1 35 = .ok (.iload_n 1, 1) := by decide +kernel
theorem d_Mo_note_36 : decode Y_Mo_note.2.1 36 = .ok (.imul, 1) := by decide +kernel
theorem d_Mo_note_37 : decode Y_Mo_note.2.1 37 = .ok (.iload_n 2, 1) := by decide +kernel
theorem d_Mo_note_38 : decode Y_Mo_note.2.1 38 = .ok (.iadd, 1) := by decide +kernel
theorem d_Mo_note_39 : decode Y_Mo_note.2.1 39 = .ok (.iaload, 1) := by decide +kernel
theorem d_Mo_note_40 : decode Y_Mo_note.2.1 40 = .ok (.iastore, 1) := by decide +kernel
theorem d_Mo_note_41 : decode Y_Mo_note.2.1 41 = .ok (.return_, 1) := by decide +kernel
theorem d_Mo_many_0 : decode Y_Mo_many.2.1 0 = .ok (.aload_n 0, 1) := by decide +kernel
theorem d_Mo_many_1 : decode Y_Mo_many.2.1 1 = .ok (.iconst 0, 1) := by decide +kernel
theorem d_Mo_many_2 : decode Y_Mo_many.2.1 2 = .ok (.putfield 1, 3) := by decide +kernel
theorem d_Mo_many_5 : decode Y_Mo_many.2.1 5 = .ok (.aload_n 0, 1) := by decide +kernel
theorem d_Mo_many_6 : decode Y_Mo_many.2.1 6 = .ok (.invokevirtual 144, 3) := by decide +kernel
theorem d_Mo_many_9 : decode Y_Mo_many.2.1 9 = .ok (.aload_n 0, 1) := by decide +kernel
theorem d_Mo_many_10 : decode Y_Mo_many.2.1 10 = .ok (.getfield 105, 3) := by decide +kernel
theorem d_Mo_many_13 : decode Y_Mo_many.2.1 13 = .ok (.ireturn, 1) := by decide +kernel
theorem d_Mo_first_0 : decode Y_Mo_first.2.1 0 = .ok (.aload_n 0, 1) := by decide +kernel
theorem d_Mo_first_1 : decode Y_Mo_first.2.1 1 = .ok (.iconst 0, 1) := by decide +kernel
theorem d_Mo_first_2 : decode Y_Mo_first.2.1 2 = .ok (.putfield 1, 3) := by decide +kernel
theorem d_Mo_first_5 : decode Y_Mo_first.2.1 5 = .ok (.aload_n 0, 1) := by decide +kernel
theorem d_Mo_first_6 : decode Y_Mo_first.2.1 6 = .ok (.invokevirtual 144, 3) := by decide +kernel
theorem d_Mo_first_9 : decode Y_Mo_first.2.1 9 = .ok (.aload_n 0, 1) := by decide +kernel
theorem d_Mo_first_10 : decode Y_Mo_first.2.1 10 = .ok (.getfield 105, 3) := by decide +kernel
theorem d_Mo_first_13 : decode Y_Mo_first.2.1 13 = .ok (.ifCond .ne 6, 3) := by decide +kernel
theorem d_Mo_first_16 : decode Y_Mo_first.2.1 16 = .ok (.ldc 88, 2) := by decide +kernel
theorem d_Mo_first_18 : decode Y_Mo_first.2.1 18 = .ok (.ireturn, 1) := by decide +kernel
theorem d_Mo_first_19 : decode Y_Mo_first.2.1 19 = .ok (.iload_n 1, 1) := by decide +kernel
theorem d_Mo_first_20 : decode Y_Mo_first.2.1 20 = .ok (.iconst (-1), 1) := by decide +kernel
theorem d_Mo_first_21 : decode Y_Mo_first.2.1 21 = .ok (.aload_n 0, 1) := by decide +kernel
theorem d_Mo_first_22 : decode Y_Mo_first.2.1 22 = .ok (.getfield 108, 3) := by decide +kernel
theorem d_Mo_first_25 : decode Y_Mo_first.2.1 25 = .ok (.iconst 1, 1) := by decide +kernel
theorem d_Mo_first_26 : decode Y_Mo_first.2.1 26 = .ok (.isub, 1) := by decide +kernel
theorem d_Mo_first_27 : decode Y_Mo_first.2.1 27 = .ok (.invokestatic 70, 3) := by decide +kernel
theorem d_Mo_first_30 : decode Y_Mo_first.2.1 30 = .ok (.ifCond .ne 8, 3) := by decide +kernel
theorem d_Mo_first_33 : decode Y_Mo_first.2.1 33 = .ok (.ldc 78, 2) := by decide +kernel
theorem d_Mo_first_35 : decode Y_Mo_first.2.1 35 = .ok (.goto 20, 3) := by decide +kernel
theorem d_Mo_first_38 : decode Y_Mo_first.2.1 38 = .ok (.iload_n 1, 1) := by decide +kernel
theorem d_Mo_first_39 : decode Y_Mo_first.2.1 39 = .ok (.ifCond .ge 10, 3) := by decide +kernel
theorem d_Mo_first_42 : decode Y_Mo_first.2.1 42 = .ok (.aload_n 0, 1) := by decide +kernel
theorem d_Mo_first_43 : decode Y_Mo_first.2.1 43 = .ok (.getfield 108, 3) := by decide +kernel
theorem d_Mo_first_46 : decode Y_Mo_first.2.1 46 = .ok (.goto 9, 3) := by decide +kernel
theorem d_Mo_first_49 : decode Y_Mo_first.2.1 49 = .ok (.aload_n 0, 1) := by decide +kernel
theorem d_Mo_first_50 : decode Y_Mo_first.2.1 50 = .ok (.getfield 51, 3) := by decide +kernel
theorem d_Mo_first_53 : decode Y_Mo_first.2.1 53 = .ok (.iload_n 1, 1) := by decide +kernel
theorem d_Mo_first_54 : decode Y_Mo_first.2.1 54 = .ok (.iaload, 1) := by decide +kernel
theorem d_Mo_first_55 : decode Y_Mo_first.2.1 55 = .ok (.ireturn, 1) := by decide +kernel
theorem d_Mo_with_0 : decode Y_Mo_with.2.1 0 = .ok (.aload_n 0, 1) := by decide +kernel
theorem d_Mo_with_1 : decode Y_Mo_with.2.1 1 = .ok (.iconst 0, 1) := by decide +kernel
theorem d_Mo_with_2 : decode Y_Mo_with.2.1 2 = .ok (.putfield 1, 3) := by decide +kernel
theorem d_Mo_with_5 : decode Y_Mo_with.2.1 5 = .ok (.aload_n 0, 1) := by decide +kernel
theorem d_Mo_with_6 : decode Y_Mo_with.2.1 6 = .ok (.iload_n 1, 1) := by decide +kernel
theorem d_Mo_with_7 : decode Y_Mo_with.2.1 7 = .ok (.iload_n 2, 1) := by decide +kernel
theorem d_Mo_with_8 : decode Y_Mo_with.2.1 8 = .ok (.invokevirtual 84, 3) := by decide +kernel
theorem d_Mo_with_11 : decode Y_Mo_with.2.1 11 = .ok (.ifCond .eq 6, 3) := by decide +kernel
theorem d_Mo_with_14 : decode Y_Mo_with.2.1 14 = .ok (.ldc 78, 2) := by decide +kernel
theorem d_Mo_with_16 : decode Y_Mo_with.2.1 16 = .ok (.ireturn, 1) := by decide +kernel
theorem d_Mo_with_17 : decode Y_Mo_with.2.1 17 = .ok (.aload_n 0, 1) := by decide +kernel
theorem d_Mo_with_18 : decode Y_Mo_with.2.1 18 = .ok (.invokevirtual 144, 3) := by decide +kernel
theorem d_Mo_with_21 : decode Y_Mo_with.2.1 21 = .ok (.aload_n 0, 1) := by decide +kernel
theorem d_Mo_with_22 : decode Y_Mo_with.2.1 22 = .ok (.getfield 45, 3) := by decide +kernel
theorem d_Mo_with_25 : decode Y_Mo_with.2.1 25 = .ok (.bipush 9, 2) := by decide +kernel
theorem d_Mo_with_27 : decode Y_Mo_with.2.1 27 = .ok (.iload_n 1, 1) := by decide +kernel
theorem d_Mo_with_28 : decode Y_Mo_with.2.1 28 = .ok (.imul, 1) := by decide +kernel
theorem d_Mo_with_29 : decode Y_Mo_with.2.1 29 = .ok (.iload_n 2, 1) := by decide +kernel
theorem d_Mo_with_30 : decode Y_Mo_with.2.1 30 = .ok (.iadd, 1) := by decide +kernel
theorem d_Mo_with_31 : decode Y_Mo_with.2.1 31 = .ok (.iaload, 1) := by decide +kernel
theorem d_Mo_with_32 : decode Y_Mo_with.2.1 32 = .ok (.invokestatic 147, 3) := by decide +kernel
theorem d_Mo_with_35 : decode Y_Mo_with.2.1 35 = .ok (.ireturn, 1) := by decide +kernel
theorem d_Mo_told_0 : decode Y_Mo_told.2.1 0 = .ok (.iload_n 0, 1) := by decide +kernel
theorem d_Mo_told_1 : decode Y_Mo_told.2.1 1 = .ok (.ldc 101, 2) := by decide +kernel
theorem d_Mo_told_3 : decode Y_Mo_told.2.1 3 = .ok (.if_icmp .ne 8, 3) := by decide +kernel
theorem d_Mo_told_6 : decode Y_Mo_told.2.1 6 = .ok (.ldc 88, 2) := by decide +kernel
theorem d_Mo_told_8 : decode Y_Mo_told.2.1 8 = .ok (.goto 4, 3) := by decide +kernel
theorem d_Mo_told_11 : decode Y_Mo_told.2.1 11 = .ok (.iload_n 0, 1) := by decide +kernel
theorem d_Mo_told_12 : decode Y_Mo_told.2.1 12 = .ok (.ireturn, 1) := by decide +kernel
theorem d_Mo_without_0 : decode Y_Mo_without.2.1 0 = .ok (.aload_n 0, 1) := by decide +kernel
theorem d_Mo_without_1 : decode Y_Mo_without.2.1 1 = .ok (.iconst 0, 1) := by decide +kernel
theorem d_Mo_without_2 : decode Y_Mo_without.2.1 2 = .ok (.putfield 1, 3) := by decide +kernel
theorem d_Mo_without_5 : decode Y_Mo_without.2.1 5 = .ok (.aload_n 0, 1) := by decide +kernel
theorem d_Mo_without_6 : decode Y_Mo_without.2.1 6 = .ok (.iload_n 1, 1) := by decide +kernel
theorem d_Mo_without_7 : decode Y_Mo_without.2.1 7 = .ok (.invokevirtual 74, 3) := by decide +kernel
theorem d_Mo_without_10 : decode Y_Mo_without.2.1 10 = .ok (.ifCond .ne 7, 3) := by decide +kernel
theorem d_Mo_without_13 : decode Y_Mo_without.2.1 13 = .ok (.iload_n 1, 1) := by decide +kernel
theorem d_Mo_without_14 : decode Y_Mo_without.2.1 14 = .ok (.ifCond .ne 6, 3) := by decide +kernel
theorem d_Mo_without_17 : decode Y_Mo_without.2.1 17 = .ok (.ldc 78, 2) := by decide +kernel
theorem d_Mo_without_19 : decode Y_Mo_without.2.1 19 = .ok (.ireturn, 1) := by decide +kernel
theorem d_Mo_without_20 : decode Y_Mo_without.2.1 20 = .ok (.aload_n 0, 1) := by decide +kernel
theorem d_Mo_without_21 : decode Y_Mo_without.2.1 21 = .ok (.invokevirtual 144, 3) := by decide +kernel
theorem d_Mo_without_24 : decode Y_Mo_without.2.1 24 = .ok (.aload_n 0, 1) := by decide +kernel
theorem d_Mo_without_25 : decode Y_Mo_without.2.1 25 = .ok (.getfield 48, 3) := by decide +kernel
theorem d_Mo_without_28 : decode Y_Mo_without.2.1 28 = .ok (.iload_n 1, 1) := by decide +kernel
theorem d_Mo_without_29 : decode Y_Mo_without.2.1 29 = .ok (.iaload, 1) := by decide +kernel
theorem d_Mo_without_30 : decode Y_Mo_without.2.1 30 = .ok (.invokestatic 147, 3) := by decide +kernel
theorem d_Mo_without_33 : decode Y_Mo_without.2.1 33 = .ok (.ireturn, 1) := by decide +kernel
theorem d_Mo_filter_0 : decode Y_Mo_filter.2.1 0 = .ok (.aload_n 0, 1) := by decide +kernel
theorem d_Mo_filter_1 : decode Y_Mo_filter.2.1 1 = .ok (.iconst 0, 1) := by decide +kernel
theorem d_Mo_filter_2 : decode Y_Mo_filter.2.1 2 = .ok (.putfield 1, 3) := by decide +kernel
theorem d_Mo_filter_5 : decode Y_Mo_filter.2.1 5 = .ok (.aload_n 0, 1) := by decide +kernel
theorem d_Mo_filter_6 : decode Y_Mo_filter.2.1 6 = .ok (.invokevirtual 144, 3) := by decide +kernel
theorem d_Mo_filter_9 : decode Y_Mo_filter.2.1 9 = .ok (.iconst 0, 1) := by decide +kernel
theorem d_Mo_filter_10 : decode Y_Mo_filter.2.1 10 = .ok (.istore_n 2, 1) := by decide +kernel
theorem d_Mo_filter_11 : decode Y_Mo_filter.2.1 11 = .ok (.iconst 0, 1) := by decide +kernel
theorem d_Mo_filter_12 : decode Y_Mo_filter.2.1 12 = .ok (.istore_n 3, 1) := by decide +kernel
theorem d_Mo_filter_13 : decode Y_Mo_filter.2.1 13 = .ok (.iload_n 3, 1) := by decide +kernel
theorem d_Mo_filter_14 : decode Y_Mo_filter.2.1 14 = .ok (.bipush 81, 2) := by decide +kernel
theorem d_Mo_filter_16 : decode Y_Mo_filter.2.1 16 = .ok (.if_icmp .ge 52, 3) := by decide +kernel
theorem d_Mo_filter_19 : decode Y_Mo_filter.2.1 19 = .ok (.aload_n 0, 1) := by decide +kernel
theorem d_Mo_filter_20 : decode Y_Mo_filter.2.1 20 = .ok (.getfield 20, 3) := by decide +kernel
theorem d_Mo_filter_23 : decode Y_Mo_filter.2.1 23 = .ok (.iload_n 3, 1) := by decide +kernel
theorem d_Mo_filter_24 : decode Y_Mo_filter.2.1 24 = .ok (.iaload, 1) := by decide +kernel
theorem d_Mo_filter_25 : decode Y_Mo_filter.2.1 25 = .ok (.ldc 69, 2) := by decide +kernel
theorem d_Mo_filter_27 : decode Y_Mo_filter.2.1 27 = .ok (.if_icmp .eq 35, 3) := by decide +kernel
theorem d_Mo_filter_30 : decode Y_Mo_filter.2.1 30 = .ok (.aload_n 0, 1) := by decide +kernel
theorem d_Mo_filter_31 : decode Y_Mo_filter.2.1 31 = .ok (.getfield 45, 3) := by decide +kernel
theorem d_Mo_filter_34 : decode Y_Mo_filter.2.1 34 = .ok (.iload_n 3, 1) := by decide +kernel
theorem d_Mo_filter_35 : decode Y_Mo_filter.2.1 35 = .ok (.iaload, 1) := by decide +kernel
theorem d_Mo_filter_36 : decode Y_Mo_filter.2.1 36 = .ok (.ldc 101, 2) := by decide +kernel
theorem d_Mo_filter_38 : decode Y_Mo_filter.2.1 38 = .ok (.if_icmp .eq 13, 3) := by decide +kernel
theorem d_Mo_filter_41 : decode Y_Mo_filter.2.1 41 = .ok (.aload_n 0, 1) := by decide +kernel
theorem d_Mo_filter_42 : decode Y_Mo_filter.2.1 42 = .ok (.getfield 45, 3) := by decide +kernel
theorem d_Mo_filter_45 : decode Y_Mo_filter.2.1 45 = .ok (.iload_n 3, 1) := by decide +kernel
theorem d_Mo_filter_46 : decode Y_Mo_filter.2.1 46 = .ok (.iaload, 1) := by decide +kernel
theorem d_Mo_filter_47 : decode Y_Mo_filter.2.1 47 = .ok (.iload_n 1, 1) := by decide +kernel
theorem d_Mo_filter_48 : decode Y_Mo_filter.2.1 48 = .ok (.if_icmp .le 14, 3) := by decide +kernel
theorem d_Mo_filter_51 : decode Y_Mo_filter.2.1 51 = .ok (.aload_n 0, 1) := by decide +kernel
theorem d_Mo_filter_52 : decode Y_Mo_filter.2.1 52 = .ok (.getfield 20, 3) := by decide +kernel
theorem d_Mo_filter_55 : decode Y_Mo_filter.2.1 55 = .ok (.iload_n 3, 1) := by decide +kernel
theorem d_Mo_filter_56 : decode Y_Mo_filter.2.1 56 = .ok (.ldc 69, 2) := by decide +kernel
theorem d_Mo_filter_58 : decode Y_Mo_filter.2.1 58 = .ok (.iastore, 1) := by decide +kernel
theorem d_Mo_filter_59 : decode Y_Mo_filter.2.1 59 = .ok (.iinc 2 1, 3) := by decide +kernel
theorem d_Mo_filter_62 : decode Y_Mo_filter.2.1 62 = .ok (.iinc 3 1, 3) := by decide +kernel
theorem d_Mo_filter_65 : decode Y_Mo_filter.2.1 65 = .ok (.goto (-52), 3) := by decide +kernel
theorem d_Mo_filter_68 : decode Y_Mo_filter.2.1 68 = .ok (.aload_n 0, 1) := by decide +kernel
theorem d_Mo_filter_69 : decode Y_Mo_filter.2.1 69 = .ok (.iconst 0, 1) := by decide +kernel
theorem d_Mo_filter_70 : decode Y_Mo_filter.2.1 70 = .ok (.putfield 80, 3) := by decide +kernel
theorem d_Mo_filter_73 : decode Y_Mo_filter.2.1 73 = .ok (.iload_n 2, 1) := by decide +kernel
theorem d_Mo_filter_74 : decode Y_Mo_filter.2.1 74 = .ok (.ireturn, 1) := by decide +kernel
theorem d_Mo_weight_0 : decode Y_Mo_weight.2.1 0 = .ok (.aload_n 0, 1) := by decide +kernel
theorem d_Mo_weight_1 : decode Y_Mo_weight.2.1 1 = .ok (.iconst 0, 1) := by decide +kernel
theorem d_Mo_weight_2 : decode Y_Mo_weight.2.1 2 = .ok (.putfield 1, 3) := by decide +kernel
theorem d_Mo_weight_5 : decode Y_Mo_weight.2.1 5 = .ok (.aload_n 0, 1) := by decide +kernel
theorem d_Mo_weight_6 : decode Y_Mo_weight.2.1 6 = .ok (.iload_n 1, 1) := by decide +kernel
theorem d_Mo_weight_7 : decode Y_Mo_weight.2.1 7 = .ok (.invokevirtual 74, 3) := by decide +kernel
theorem d_Mo_weight_10 : decode Y_Mo_weight.2.1 10 = .ok (.ifCond .ne 16, 3) := by decide +kernel
theorem d_Mo_weight_13 : decode Y_Mo_weight.2.1 13 = .ok (.iload_n 2, 1) := by decide +kernel
theorem d_Mo_weight_14 : decode Y_Mo_weight.2.1 14 = .ok (.sipush (-1000), 3) := by decide +kernel
theorem d_Mo_weight_17 : decode Y_Mo_weight.2.1 17 = .ok (.sipush 1000, 3) := by decide +kernel
theorem d_Mo_weight_20 : decode Y_Mo_weight.2.1 20 = .ok (.invokestatic 70, 3) := by decide +kernel
theorem d_Mo_weight_23 : decode Y_Mo_weight.2.1 23 = .ok (.ifCond .ne 6, 3) := by decide +kernel
theorem d_Mo_weight_26 : decode Y_Mo_weight.2.1 26 = .ok (.ldc 78, 2) := by decide +kernel
theorem d_Mo_weight_28 : decode Y_Mo_weight.2.1 28 = .ok (.ireturn, 1) := by decide +kernel
theorem d_Mo_weight_29 : decode Y_Mo_weight.2.1 29 = .ok (.aload_n 0, 1) := by decide +kernel
theorem d_Mo_weight_30 : decode Y_Mo_weight.2.1 30 = .ok (.getfield 36, 3) := by decide +kernel
theorem d_Mo_weight_33 : decode Y_Mo_weight.2.1 33 = .ok (.iload_n 1, 1) := by decide +kernel
theorem d_Mo_weight_34 : decode Y_Mo_weight.2.1 34 = .ok (.iaload, 1) := by decide +kernel
theorem d_Mo_weight_35 : decode Y_Mo_weight.2.1 35 = .ok (.istore_n 3, 1) := by decide +kernel
theorem d_Mo_weight_36 : decode Y_Mo_weight.2.1 36 = .ok (.aload_n 0, 1) := by decide +kernel
theorem d_Mo_weight_37 : decode Y_Mo_weight.2.1 37 = .ok (.getfield 36, 3) := by decide +kernel
theorem d_Mo_weight_40 : decode Y_Mo_weight.2.1 40 = .ok (.iload_n 1, 1) := by decide +kernel
theorem d_Mo_weight_41 : decode Y_Mo_weight.2.1 41 = .ok (.iload_n 2, 1) := by decide +kernel
theorem d_Mo_weight_42 : decode Y_Mo_weight.2.1 42 = .ok (.iastore, 1) := by decide +kernel
theorem d_Mo_weight_43 : decode Y_Mo_weight.2.1 43 = .ok (.iload_n 3, 1) := by decide +kernel
theorem d_Mo_weight_44 : decode Y_Mo_weight.2.1 44 = .ok (.ireturn, 1) := by decide +kernel
theorem d_Mo_bound_0 : decode Y_Mo_bound.2.1 0 = .ok (.aload_n 0, 1) := by decide +kernel
theorem d_Mo_bound_1 : decode Y_Mo_bound.2.1 1 = .ok (.iconst 0, 1) := by decide +kernel
theorem d_Mo_bound_2 : decode Y_Mo_bound.2.1 2 = .ok (.putfield 1, 3) := by decide +kernel
theorem d_Mo_bound_5 : decode Y_Mo_bound.2.1 5 = .ok (.aload_n 0, 1) := by decide +kernel
theorem d_Mo_bound_6 : decode Y_Mo_bound.2.1 6 = .ok (.invokevirtual 164, 3) := by decide +kernel
theorem d_Mo_bound_9 : decode Y_Mo_bound.2.1 9 = .ok (.ifCond .ne 6, 3) := by decide +kernel
theorem d_Mo_bound_12 : decode Y_Mo_bound.2.1 12 = .ok (.ldc 88, 2) := by decide +kernel
theorem d_Mo_bound_14 : decode Y_Mo_bound.2.1 14 = .ok (.ireturn, 1) := by decide +kernel
theorem d_Mo_bound_15 : decode Y_Mo_bound.2.1 15 = .ok (.iconst 0, 1) := by decide +kernel
theorem d_Mo_bound_16 : decode Y_Mo_bound.2.1 16 = .ok (.istore_n 1, 1) := by decide +kernel
theorem d_Mo_bound_17 : decode Y_Mo_bound.2.1 17 = .ok (.iconst 0, 1) := by decide +kernel
theorem d_Mo_bound_18 : decode Y_Mo_bound.2.1 18 = .ok (.istore_n 2, 1) := by decide +kernel
theorem d_Mo_bound_19 : decode Y_Mo_bound.2.1 19 = .ok (.iload_n 2, 1) := by decide +kernel
theorem d_Mo_bound_20 : decode Y_Mo_bound.2.1 20 = .ok (.aload_n 0, 1) := by decide +kernel
theorem d_Mo_bound_21 : decode Y_Mo_bound.2.1 21 = .ok (.getfield 150, 3) := by decide +kernel
theorem d_Mo_bound_24 : decode Y_Mo_bound.2.1 24 = .ok (.if_icmp .ge 28, 3) := by decide +kernel
theorem d_Mo_bound_27 : decode Y_Mo_bound.2.1 27 = .ok (.iload_n 1, 1) := by decide +kernel
theorem d_Mo_bound_28 : decode Y_Mo_bound.2.1 28 = .ok (.aload_n 0, 1) := by decide +kernel
theorem d_Mo_bound_29 : decode Y_Mo_bound.2.1 29 = .ok (.aload_n 0, 1) := by decide +kernel
theorem d_Mo_bound_30 : decode Y_Mo_bound.2.1 30 = .ok (.getfield 57, 3) := by decide +kernel
theorem d_Mo_bound_33 : decode Y_Mo_bound.2.1 33 = .ok (.iload_n 2, 1) := by decide +kernel
theorem d_Mo_bound_34 : decode Y_Mo_bound.2.1 34 = .ok (.iaload, 1) := by decide +kernel
theorem d_Mo_bound_35 : decode Y_Mo_bound.2.1 35 = .ok (.aload_n 0, 1) := by decide +kernel
theorem d_Mo_bound_36 : decode Y_Mo_bound.2.1 36 = .ok (.getfield 60, 3) := by decide +kernel
theorem d_Mo_bound_39 : decode Y_Mo_bound.2.1 39 = .ok (.iload_n 2, 1) := by decide +kernel
theorem d_Mo_bound_40 : decode Y_Mo_bound.2.1 40 = .ok (.iaload, 1) := by decide +kernel
theorem d_Mo_bound_41 : decode Y_Mo_bound.2.1 41 = .ok (.invokevirtual 153, 3) := by decide +kernel
theorem d_Mo_bound_44 : decode Y_Mo_bound.2.1 44 = .ok (.iadd, 1) := by decide +kernel
theorem d_Mo_bound_45 : decode Y_Mo_bound.2.1 45 = .ok (.istore_n 1, 1) := by decide +kernel
theorem d_Mo_bound_46 : decode Y_Mo_bound.2.1 46 = .ok (.iinc 2 1, 3) := by decide +kernel
theorem d_Mo_bound_49 : decode Y_Mo_bound.2.1 49 = .ok (.goto (-30), 3) := by decide +kernel
theorem d_Mo_bound_52 : decode Y_Mo_bound.2.1 52 = .ok (.iconst 0, 1) := by decide +kernel
theorem d_Mo_bound_53 : decode Y_Mo_bound.2.1 53 = .ok (.istore_n 2, 1) := by decide +kernel
theorem d_Mo_bound_54 : decode Y_Mo_bound.2.1 54 = .ok (.iload_n 2, 1) := by decide +kernel
theorem d_Mo_bound_55 : decode Y_Mo_bound.2.1 55 = .ok (.aload_n 0, 1) := by decide +kernel
theorem d_Mo_bound_56 : decode Y_Mo_bound.2.1 56 = .ok (.getfield 13, 3) := by decide +kernel
theorem d_Mo_bound_59 : decode Y_Mo_bound.2.1 59 = .ok (.if_icmp .ge 20, 3) := by decide +kernel
theorem d_Mo_bound_62 : decode Y_Mo_bound.2.1 62 = .ok (.iload_n 1, 1) := by decide +kernel
theorem d_Mo_bound_63 : decode Y_Mo_bound.2.1 63 = .ok (.iconst 2, 1) := by decide +kernel
theorem d_Mo_bound_64 : decode Y_Mo_bound.2.1 64 = .ok (.aload_n 0, 1) := by decide +kernel
theorem d_Mo_bound_65 : decode Y_Mo_bound.2.1 65 = .ok (.getfield 36, 3) := by decide +kernel
theorem d_Mo_bound_68 : decode Y_Mo_bound.2.1 68 = .ok (.iload_n 2, 1) := by decide +kernel
theorem d_Mo_bound_69 : decode Y_Mo_bound.2.1 69 = .ok (.iaload, 1) := by decide +kernel
theorem d_Mo_bound_70 : decode Y_Mo_bound.2.1 70 = .ok (.imul, 1) := by decide +kernel
theorem d_Mo_bound_71 : decode Y_Mo_bound.2.1 71 = .ok (.isub, 1) := by decide +kernel
theorem d_Mo_bound_72 : decode Y_Mo_bound.2.1 72 = .ok (.istore_n 1, 1) := by decide +kernel
theorem d_Mo_bound_73 : decode Y_Mo_bound.2.1 73 = .ok (.iinc 2 1, 3) := by decide +kernel
theorem d_Mo_bound_76 : decode Y_Mo_bound.2.1 76 = .ok (.goto (-22), 3) := by decide +kernel
theorem d_Mo_bound_79 : decode Y_Mo_bound.2.1 79 = .ok (.iload_n 1, 1) := by decide +kernel
theorem d_Mo_bound_80 : decode Y_Mo_bound.2.1 80 = .ok (.ireturn, 1) := by decide +kernel
theorem d_Mo_makeTree_0 : decode Y_Mo_makeTree.2.1 0 = .ok (.aload_n 0, 1) := by decide +kernel
theorem d_Mo_makeTree_1 : decode Y_Mo_makeTree.2.1 1 = .ok (.iconst 0, 1) := by decide +kernel
theorem d_Mo_makeTree_2 : decode Y_Mo_makeTree.2.1 2 = .ok (.putfield 150, 3) := by decide +kernel
theorem d_Mo_makeTree_5 : decode Y_Mo_makeTree.2.1 5 = .ok (.iconst 0, 1) := by decide +kernel
theorem d_Mo_makeTree_6 : decode Y_Mo_makeTree.2.1 6 = .ok (.istore_n 1, 1) := by decide +kernel
theorem d_Mo_makeTree_7 : decode Y_Mo_makeTree.2.1 7 = .ok (.iload_n 1, 1) := by decide +kernel
theorem d_Mo_makeTree_8 : decode Y_Mo_makeTree.2.1 8 = .ok (.bipush 9, 2) := by decide +kernel
theorem d_Mo_makeTree_10 : decode Y_Mo_makeTree.2.1 10 = .ok (.if_icmp .ge 16, 3) := by decide +kernel
theorem d_Mo_makeTree_13 : decode Y_Mo_makeTree.2.1 13 = .ok (.aload_n 0, 1) := by decide +kernel
theorem d_Mo_makeTree_14 : decode Y_Mo_makeTree.2.1 14 = .ok (.getfield 63, 3) := by decide +kernel
theorem d_Mo_makeTree_17 : decode Y_Mo_makeTree.2.1 17 = .ok (.iload_n 1, 1) := by decide +kernel
theorem d_Mo_makeTree_18 : decode Y_Mo_makeTree.2.1 18 = .ok (.iload_n 1, 1) := by decide +kernel
theorem d_Mo_makeTree_19 : decode Y_Mo_makeTree.2.1 19 = .ok (.iastore, 1) := by decide +kernel
theorem d_Mo_makeTree_20 : decode Y_Mo_makeTree.2.1 20 = .ok (.iinc 1 1, 3) := by decide +kernel
theorem d_Mo_makeTree_23 : decode Y_Mo_makeTree.2.1 23 = .ok (.goto (-16), 3) := by decide +kernel
theorem d_Mo_makeTree_26 : decode Y_Mo_makeTree.2.1 26 = .ok (.aload_n 0, 1) := by decide +kernel
theorem d_Mo_makeTree_27 : decode Y_Mo_makeTree.2.1 27 = .ok (.getfield 13, 3) := by decide +kernel
theorem d_Mo_makeTree_30 : decode Y_Mo_makeTree.2.1 30 = .ok (.iconst 3, 1) := by decide +kernel
theorem d_Mo_makeTree_31 : decode Y_Mo_makeTree.2.1 31 = .ok (.if_icmp .lt 7, 3) := by decide +kernel
theorem d_Mo_makeTree_34 : decode Y_Mo_makeTree.2.1 34 = .ok (.iconst 1, 1) := by decide +kernel
theorem d_Mo_makeTree_35 : decode Y_Mo_makeTree.2.1 35 = .ok (.goto 4, 3) := by decide +kernel
theorem d_Mo_makeTree_38 : decode Y_Mo_makeTree.2.1 38 = .ok (.iconst 0, 1) := by decide +kernel
theorem d_Mo_makeTree_39 : decode Y_Mo_makeTree.2.1 39 = .ok (.istore_n 1, 1) := by decide +kernel
theorem d_Mo_makeTree_40 : decode Y_Mo_makeTree.2.1 40 = .ok (.iconst 0, 1) := by decide +kernel
theorem d_Mo_makeTree_41 : decode Y_Mo_makeTree.2.1 41 = .ok (.istore_n 2, 1) := by decide +kernel
theorem d_Mo_makeTree_42 : decode Y_Mo_makeTree.2.1 42 = .ok (.iload_n 2, 1) := by decide +kernel
theorem d_Mo_makeTree_43 : decode Y_Mo_makeTree.2.1 43 = .ok (.aload_n 0, 1) := by decide +kernel
theorem d_Mo_makeTree_44 : decode Y_Mo_makeTree.2.1 44 = .ok (.getfield 13, 3) := by decide +kernel
theorem d_Mo_makeTree_47 : decode Y_Mo_makeTree.2.1 47 = .ok (.iconst 2, 1) := by decide +kernel
theorem d_Mo_makeTree_48 : decode Y_Mo_makeTree.2.1 48 = .ok (.isub, 1) := by decide +kernel
theorem d_Mo_makeTree_49 : decode Y_Mo_makeTree.2.1 49 = .ok (.if_icmp .ge 19, 3) := by decide +kernel
theorem d_Mo_makeTree_52 : decode Y_Mo_makeTree.2.1 52 = .ok (.iload_n 1, 1) := by decide +kernel
theorem d_Mo_makeTree_53 : decode Y_Mo_makeTree.2.1 53 = .ok (.ifCond .eq 15, 3) := by decide +kernel
theorem d_Mo_makeTree_56 : decode Y_Mo_makeTree.2.1 56 = .ok (.aload_n 0, 1) := by decide +kernel
theorem d_Mo_makeTree_57 : decode Y_Mo_makeTree.2.1 57 = .ok (.iconst 0, 1) := by decide +kernel
theorem d_Mo_makeTree_58 : decode Y_Mo_makeTree.2.1 58 = .ok (.invokevirtual 160, 3) := by decide +kernel
theorem d_Mo_makeTree_61 : decode Y_Mo_makeTree.2.1 61 = .ok (.istore_n 1, 1) := by decide +kernel
theorem d_Mo_makeTree_62 : decode Y_Mo_makeTree.2.1 62 = .ok (.iinc 2 1, 3) := by decide +kernel
theorem d_Mo_makeTree_65 : decode Y_Mo_makeTree.2.1 65 = .ok (.goto (-23), 3) := by decide +kernel
theorem d_Mo_makeTree_68 : decode Y_Mo_makeTree.2.1 68 = .ok (.iload_n 1, 1) := by decide +kernel
theorem d_Mo_makeTree_69 : decode Y_Mo_makeTree.2.1 69 = .ok (.ifCond .eq 23, 3) := by decide +kernel
theorem d_Mo_makeTree_72 : decode Y_Mo_makeTree.2.1 72 = .ok (.aload_n 0, 1) := by decide +kernel
theorem d_Mo_makeTree_73 : decode Y_Mo_makeTree.2.1 73 = .ok (.iconst 1, 1) := by decide +kernel
theorem d_Mo_makeTree_74 : decode Y_Mo_makeTree.2.1 74 = .ok (.invokevirtual 160, 3) := by decide +kernel
theorem d_Mo_makeTree_77 : decode Y_Mo_makeTree.2.1 77 = .ok (.ifCond .eq 15, 3) := by decide +kernel
theorem d_Mo_makeTree_80 : decode Y_Mo_makeTree.2.1 80 = .ok (.aload_n 0, 1) := by decide +kernel
theorem d_Mo_makeTree_81 : decode Y_Mo_makeTree.2.1 81 = .ok (.iconst 1, 1) := by decide +kernel
theorem d_Mo_makeTree_82 : decode Y_Mo_makeTree.2.1 82 = .ok (.invokevirtual 160, 3) := by decide +kernel
theorem d_Mo_makeTree_85 : decode Y_Mo_makeTree.2.1 85 = .ok (.ifCond .eq 7, 3) := by decide +kernel
theorem d_Mo_makeTree_88 : decode Y_Mo_makeTree.2.1 88 = .ok (.iconst 1, 1) := by decide +kernel
theorem d_Mo_makeTree_89 : decode Y_Mo_makeTree.2.1 89 = .ok (.goto 4, 3) := by decide +kernel
theorem d_Mo_makeTree_92 : decode Y_Mo_makeTree.2.1 92 = .ok (.iconst 0, 1) := by decide +kernel
theorem d_Mo_makeTree_93 : decode Y_Mo_makeTree.2.1 93 = .ok (.ireturn, 1) := by decide +kernel
theorem d_Mo_choose_0 : decode Y_Mo_choose.2.1 0 = .ok (.iconst (-1), 1) := by decide +kernel
theorem d_Mo_choose_1 : decode Y_Mo_choose.2.1 1 = .ok (.istore_n 2, 1) := by decide +kernel
theorem d_Mo_choose_2 : decode Y_Mo_choose.2.1 2 = .ok (.iconst (-1), 1) := by decide +kernel
theorem d_Mo_choose_3 : decode Y_Mo_choose.2.1 3 = .ok (.istore_n 3, 1) := by decide +kernel
theorem d_Mo_choose_4 : decode Y_Mo_choose.2.1 4 = .ok (.iload_n 1, 1) := by decide +kernel
theorem d_Mo_choose_5 : decode Y_Mo_choose.2.1 5 = .ok (.ifCond .eq 7, 3) := by decide +kernel
theorem d_Mo_choose_8 : decode Y_Mo_choose.2.1 8 = .ok (.iconst 0, 1) := by decide +kernel
theorem d_Mo_choose_9 : decode Y_Mo_choose.2.1 9 = .ok (.goto 4, 3) := by decide +kernel
theorem d_Mo_choose_12 : decode Y_Mo_choose.2.1 12 = .ok (.iconst 1, 1) := by decide +kernel
theorem d_Mo_choose_13 : decode Y_Mo_choose.2.1 13 = .ok (.istore 4, 2) := by decide +kernel
theorem d_Mo_choose_15 : decode Y_Mo_choose.2.1 15 = .ok (.iload 4, 2) := by decide +kernel
theorem d_Mo_choose_17 : decode Y_Mo_choose.2.1 17 = .ok (.iload_n 1, 1) := by decide +kernel
theorem d_Mo_choose_18 : decode Y_Mo_choose.2.1 18 = .ok (.ifCond .eq 7, 3) := by decide +kernel
theorem d_Mo_choose_21 : decode Y_Mo_choose.2.1 21 = .ok (.iconst 1, 1) := by decide +kernel
theorem d_Mo_choose_22 : decode Y_Mo_choose.2.1 22 = .ok (.goto 7, 3) := by decide +kernel
theorem d_Mo_choose_25 : decode Y_Mo_choose.2.1 25 = .ok (.aload_n 0, 1) := by decide +kernel
theorem d_Mo_choose_26 : decode Y_Mo_choose.2.1 26 = .ok (.getfield 13, 3) := by decide +kernel
theorem d_Mo_choose_29 : decode Y_Mo_choose.2.1 29 = .ok (.if_icmp .ge 114, 3) := by decide +kernel
theorem d_Mo_choose_32 : decode Y_Mo_choose.2.1 32 = .ok (.iload 4, 2) := by decide +kernel
theorem d_Mo_choose_34 : decode Y_Mo_choose.2.1 34 = .ok (.iconst 1, 1) := by decide +kernel
theorem d_Mo_choose_35 : decode Y_Mo_choose.2.1 35 = .ok (.iadd, 1) := by decide +kernel
theorem d_Mo_choose_36 : decode Y_Mo_choose.2.1 36 = .ok (.istore 5, 2) := by decide +kernel
theorem d_Mo_choose_38 : decode Y_Mo_choose.2.1 38 = .ok (.iload 5, 2) := by decide +kernel
theorem d_Mo_choose_40 : decode Y_Mo_choose.2.1 40 = .ok (.aload_n 0, 1) := by decide +kernel
theorem d_Mo_choose_41 : decode Y_Mo_choose.2.1 41 = .ok (.getfield 13, 3) := by decide +kernel
theorem d_Mo_choose_44 : decode Y_Mo_choose.2.1 44 = .ok (.if_icmp .ge 93, 3) := by decide +kernel
theorem d_Mo_choose_47 : decode Y_Mo_choose.2.1 47 = .ok (.aload_n 0, 1) := by decide +kernel
theorem d_Mo_choose_48 : decode Y_Mo_choose.2.1 48 = .ok (.iload 4, 2) := by decide +kernel
theorem d_Mo_choose_50 : decode Y_Mo_choose.2.1 50 = .ok (.iload 5, 2) := by decide +kernel
theorem d_Mo_choose_52 : decode Y_Mo_choose.2.1 52 = .ok (.invokevirtual 153, 3) := by decide +kernel
theorem d_Mo_choose_55 : decode Y_Mo_choose.2.1 55 = .ok (.ldc 101, 2) := by decide +kernel
theorem d_Mo_choose_57 : decode Y_Mo_choose.2.1 57 = .ok (.if_icmp .eq 39, 3) := by decide +kernel
theorem d_Mo_choose_60 : decode Y_Mo_choose.2.1 60 = .ok (.aload_n 0, 1) := by decide +kernel
theorem d_Mo_choose_61 : decode Y_Mo_choose.2.1 61 = .ok (.iload 4, 2) := by decide +kernel
theorem d_Mo_choose_63 : decode Y_Mo_choose.2.1 63 = .ok (.iload 5, 2) := by decide +kernel
theorem d_Mo_choose_65 : decode Y_Mo_choose.2.1 65 = .ok (.invokevirtual 157, 3) := by decide +kernel
theorem d_Mo_choose_68 : decode Y_Mo_choose.2.1 68 = .ok (.ifCond .ne 28, 3) := by decide +kernel
theorem d_Mo_choose_71 : decode Y_Mo_choose.2.1 71 = .ok (.iload_n 1, 1) := by decide +kernel
theorem d_Mo_choose_72 : decode Y_Mo_choose.2.1 72 = .ok (.ifCond .ne 20, 3) := by decide +kernel
theorem d_Mo_choose_75 : decode Y_Mo_choose.2.1 75 = .ok (.aload_n 0, 1) := by decide +kernel
theorem d_Mo_choose_76 : decode Y_Mo_choose.2.1 76 = .ok (.getfield 63, 3) := by decide +kernel
theorem d_Mo_choose_79 : decode Y_Mo_choose.2.1 79 = .ok (.iload 4, 2) := by decide +kernel
theorem d_Mo_choose_81 : decode Y_Mo_choose.2.1 81 = .ok (.iaload, 1) := by decide +kernel
theorem d_Mo_choose_82 : decode Y_Mo_choose.2.1 82 = .ok (.aload_n 0, 1) := by decide +kernel
theorem d_Mo_choose_83 : decode Y_Mo_choose.2.1 83 = .ok (.getfield 63, 3) := by decide +kernel
theorem d_Mo_choose_86 : decode Y_Mo_choose.2.1 86 = .ok (.iload 5, 2) := by decide +kernel
theorem d_Mo_choose_88 : decode Y_Mo_choose.2.1 88 = .ok (.iaload, 1) := by decide +kernel
theorem d_Mo_choose_89 : decode Y_Mo_choose.2.1 89 = .ok (.if_icmp .eq 7, 3) := by decide +kernel
theorem d_Mo_choose_92 : decode Y_Mo_choose.2.1 92 = .ok (.iconst 1, 1) := by decide +kernel
theorem d_Mo_choose_93 : decode Y_Mo_choose.2.1 93 = .ok (.goto 4, 3) := by decide +kernel
theorem d_Mo_choose_96 : decode Y_Mo_choose.2.1 96 = .ok (.iconst 0, 1) := by decide +kernel
theorem d_Mo_choose_97 : decode Y_Mo_choose.2.1 97 = .ok (.istore 6, 2) := by decide +kernel
theorem d_Mo_choose_99 : decode Y_Mo_choose.2.1 99 = .ok (.iload 6, 2) := by decide +kernel
theorem d_Mo_choose_101 : decode Y_Mo_choose.2.1 101 = .ok (.ifCond .eq 30, 3) := by decide +kernel
theorem d_Mo_choose_104 : decode Y_Mo_choose.2.1 104 = .ok (.iload_n 2, 1) := by decide +kernel
theorem d_Mo_choose_105 : decode Y_Mo_choose.2.1 105 = .ok (.ifCond .lt 20, 3) := by decide +kernel
theorem d_Mo_choose_108 : decode Y_Mo_choose.2.1 108 = .ok (.aload_n 0, 1) := by decide +kernel
theorem d_Mo_choose_109 : decode Y_Mo_choose.2.1 109 = .ok (.iload 4, 2) := by decide +kernel
theorem d_Mo_choose_111 : decode Y_Mo_choose.2.1 111 = .ok (.iload 5, 2) := by decide +kernel
theorem d_Mo_choose_113 : decode Y_Mo_choose.2.1 113 = .ok (.invokevirtual 153, 3) := by decide +kernel
theorem d_Mo_choose_116 : decode Y_Mo_choose.2.1 116 = .ok (.aload_n 0, 1) := by decide +kernel
theorem d_Mo_choose_117 : decode Y_Mo_choose.2.1 117 = .ok (.iload_n 2, 1) := by decide +kernel
theorem d_Mo_choose_118 : decode Y_Mo_choose.2.1 118 = .ok (.iload_n 3, 1) := by decide +kernel
theorem d_Mo_choose_119 : decode Y_Mo_choose.2.1 119 = .ok (.invokevirtual 153, 3) := by decide +kernel
theorem d_Mo_choose_122 : decode Y_Mo_choose.2.1 122 = .ok (.if_icmp .ge 9, 3) := by decide +kernel
theorem d_Mo_choose_125 : decode Y_Mo_choose.2.1 125 = .ok (.iload 4, 2) := by decide +kernel
theorem d_Mo_choose_127 : decode Y_Mo_choose.2.1 127 = .ok (.istore_n 2, 1) := by decide +kernel
theorem d_Mo_choose_128 : decode Y_Mo_choose.2.1 128 = .ok (.iload 5, 2) := by decide +kernel
theorem d_Mo_choose_130 : decode Y_Mo_choose.2.1 130 = .ok (.istore_n 3, 1) := by decide +kernel
theorem d_Mo_choose_131 : decode Y_Mo_choose.2.1 131 = .ok (.iinc 5 1, 3) := by decide +kernel
theorem d_Mo_choose_134 : decode Y_Mo_choose.2.1 134 = .ok (.goto (-96), 3) := by decide +kernel
theorem d_Mo_choose_137 : decode Y_Mo_choose.2.1 137 = .ok (.iinc 4 1, 3) := by decide +kernel
theorem d_Mo_choose_140 : decode Y_Mo_choose.2.1 140 = .ok (.goto (-125), 3) := by decide +kernel
theorem d_Mo_choose_143 : decode Y_Mo_choose.2.1 143 = .ok (.iload_n 2, 1) := by decide +kernel
theorem d_Mo_choose_144 : decode Y_Mo_choose.2.1 144 = .ok (.ifCond .ge 5, 3) := by decide +kernel
theorem d_Mo_choose_147 : decode Y_Mo_choose.2.1 147 = .ok (.iconst 0, 1) := by decide +kernel
theorem d_Mo_choose_148 : decode Y_Mo_choose.2.1 148 = .ok (.ireturn, 1) := by decide +kernel
theorem d_Mo_choose_149 : decode Y_Mo_choose.2.1 149 = .ok (.aload_n 0, 1) := by decide +kernel
theorem d_Mo_choose_150 : decode Y_Mo_choose.2.1 150 = .ok (.getfield 57, 3) := by decide +kernel
theorem d_Mo_choose_153 : decode Y_Mo_choose.2.1 153 = .ok (.aload_n 0, 1) := by decide +kernel
theorem d_Mo_choose_154 : decode Y_Mo_choose.2.1 154 = .ok (.getfield 150, 3) := by decide +kernel
theorem d_Mo_choose_157 : decode Y_Mo_choose.2.1 157 = .ok (.iload_n 2, 1) := by decide +kernel
theorem d_Mo_choose_158 : decode Y_Mo_choose.2.1 158 = .ok (.iastore, 1) := by decide +kernel
theorem d_Mo_choose_159 : decode Y_Mo_choose.2.1 159 = .ok (.aload_n 0, 1) := by decide +kernel
theorem d_Mo_choose_160 : decode Y_Mo_choose.2.1 160 = .ok (.getfield 60, 3) := by decide +kernel
theorem d_Mo_choose_163 : decode Y_Mo_choose.2.1 163 = .ok (.aload_n 0, 1) := by decide +kernel
theorem d_Mo_choose_164 : decode Y_Mo_choose.2.1 164 = .ok (.getfield 150, 3) := by decide +kernel
theorem d_Mo_choose_167 : decode Y_Mo_choose.2.1 167 = .ok (.iload_n 3, 1) := by decide +kernel
theorem d_Mo_choose_168 : decode Y_Mo_choose.2.1 168 = .ok (.iastore, 1) := by decide +kernel
theorem d_Mo_choose_169 : decode Y_Mo_choose.2.1 169 = .ok (.aload_n 0, 1) := by decide +kernel
theorem d_Mo_choose_170 : decode Y_Mo_choose.2.1 170 = .ok (.dup, 1) := by decide +kernel
theorem d_Mo_choose_171 : decode Y_Mo_choose.2.1 171 = .ok (.getfield 150, 3) := by decide +kernel
theorem d_Mo_choose_174 : decode Y_Mo_choose.2.1 174 = .ok (.iconst 1, 1) := by decide +kernel
theorem d_Mo_choose_175 : decode Y_Mo_choose.2.1 175 = .ok (.iadd, 1) := by decide +kernel
theorem d_Mo_choose_176 : decode Y_Mo_choose.2.1 176 = .ok (.putfield 150, 3) := by decide +kernel
theorem d_Mo_choose_179 : decode Y_Mo_choose.2.1 179 = .ok (.aload_n 0, 1) := by decide +kernel
theorem d_Mo_choose_180 : decode Y_Mo_choose.2.1 180 = .ok (.getfield 63, 3) := by decide +kernel
theorem d_Mo_choose_183 : decode Y_Mo_choose.2.1 183 = .ok (.iload_n 3, 1) := by decide +kernel
theorem d_Mo_choose_184 : decode Y_Mo_choose.2.1 184 = .ok (.iaload, 1) := by decide +kernel
theorem d_Mo_choose_185 : decode Y_Mo_choose.2.1 185 = .ok (.istore 4, 2) := by decide +kernel
theorem d_Mo_choose_187 : decode Y_Mo_choose.2.1 187 = .ok (.iconst 1, 1) := by decide +kernel
theorem d_Mo_choose_188 : decode Y_Mo_choose.2.1 188 = .ok (.istore 5, 2) := by decide +kernel
theorem d_Mo_choose_190 : decode Y_Mo_choose.2.1 190 = .ok (.iload 5, 2) := by decide +kernel
theorem d_Mo_choose_192 : decode Y_Mo_choose.2.1 192 = .ok (.aload_n 0, 1) := by decide +kernel
theorem d_Mo_choose_193 : decode Y_Mo_choose.2.1 193 = .ok (.getfield 13, 3) := by decide +kernel
theorem d_Mo_choose_196 : decode Y_Mo_choose.2.1 196 = .ok (.if_icmp .ge 48, 3) := by decide +kernel
theorem d_Mo_choose_199 : decode Y_Mo_choose.2.1 199 = .ok (.iload_n 1, 1) := by decide +kernel
theorem d_Mo_choose_200 : decode Y_Mo_choose.2.1 200 = .ok (.ifCond .ne 44, 3) := by decide +kernel
theorem d_Mo_choose_203 : decode Y_Mo_choose.2.1 203 = .ok (.aload_n 0, 1) := by decide +kernel
theorem d_Mo_choose_204 : decode Y_Mo_choose.2.1 204 = .ok (.getfield 63, 3) := by decide +kernel
theorem d_Mo_choose_207 : decode Y_Mo_choose.2.1 207 = .ok (.iload 5, 2) := by decide +kernel
theorem d_Mo_choose_209 : decode Y_Mo_choose.2.1 209 = .ok (.aload_n 0, 1) := by decide +kernel
theorem d_Mo_choose_210 : decode Y_Mo_choose.2.1 210 = .ok (.getfield 63, 3) := by decide +kernel
theorem d_Mo_choose_213 : decode Y_Mo_choose.2.1 213 = .ok (.iload 5, 2) := by decide +kernel
theorem d_Mo_choose_215 : decode Y_Mo_choose.2.1 215 = .ok (.iaload, 1) := by decide +kernel
theorem d_Mo_choose_216 : decode Y_Mo_choose.2.1 216 = .ok (.iload 4, 2) := by decide +kernel
theorem d_Mo_choose_218 : decode Y_Mo_choose.2.1 218 = .ok (.if_icmp .ne 12, 3) := by decide +kernel
theorem d_Mo_choose_221 : decode Y_Mo_choose.2.1 221 = .ok (.aload_n 0, 1) := by decide +kernel
theorem d_Mo_choose_222 : decode Y_Mo_choose.2.1 222 = .ok (.getfield 63, 3) := by decide +kernel
theorem d_Mo_choose_225 : decode Y_Mo_choose.2.1 225 = .ok (.iload_n 2, 1) := by decide +kernel
theorem d_Mo_choose_226 : decode Y_Mo_choose.2.1 226 = .ok (.iaload, 1) := by decide +kernel
theorem d_Mo_choose_227 : decode Y_Mo_choose.2.1 227 = .ok (.goto 10, 3) := by decide +kernel
theorem d_Mo_choose_230 : decode Y_Mo_choose.2.1 230 = .ok (.aload_n 0, 1) := by decide +kernel
theorem d_Mo_choose_231 : decode Y_Mo_choose.2.1 231 = .ok (.getfield 63, 3) := by decide +kernel
theorem d_Mo_choose_234 : decode Y_Mo_choose.2.1 234 = .ok (.iload 5, 2) := by decide +kernel
theorem d_Mo_choose_236 : decode Y_Mo_choose.2.1 236 = .ok (.iaload, 1) := by decide +kernel
theorem d_Mo_choose_237 : decode Y_Mo_choose.2.1 237 = .ok (.iastore, 1) := by decide +kernel
theorem d_Mo_choose_238 : decode Y_Mo_choose.2.1 238 = .ok (.iinc 5 1, 3) := by decide +kernel
theorem d_Mo_choose_241 : decode Y_Mo_choose.2.1 241 = .ok (.goto (-51), 3) := by decide +kernel
theorem d_Mo_choose_244 : decode Y_Mo_choose.2.1 244 = .ok (.iconst 1, 1) := by decide +kernel
theorem d_Mo_choose_245 : decode Y_Mo_choose.2.1 245 = .ok (.ireturn, 1) := by decide +kernel
theorem d_Mo_edgeCost_0 : decode Y_Mo_edgeCost.2.1 0 = .ok (.aload_n 0, 1) := by decide +kernel
theorem d_Mo_edgeCost_1 : decode Y_Mo_edgeCost.2.1 1 = .ok (.getfield 20, 3) := by decide +kernel
theorem d_Mo_edgeCost_4 : decode Y_Mo_edgeCost.2.1 4 = .ok (.bipush 9, 2) := by decide +kernel
theorem d_Mo_edgeCost_6 : decode Y_Mo_edgeCost.2.1 6 = .ok (.iload_n 1, 1) := by decide +kernel
theorem d_Mo_edgeCost_7 : decode Y_Mo_edgeCost.2.1 7 = .ok (.imul, 1) := by decide +kernel
theorem d_Mo_edgeCost_8 : decode Y_Mo_edgeCost.2.1 8 = .ok (.iload_n 2, 1) := by decide +kernel
theorem d_Mo_edgeCost_9 : decode Y_Mo_edgeCost.2.1 9 = .ok (.iadd, 1) := by decide +kernel
theorem d_Mo_edgeCost_10 : decode Y_Mo_edgeCost.2.1 10 = .ok (.iaload, 1) := by decide +kernel
theorem d_Mo_edgeCost_11 : decode Y_Mo_edgeCost.2.1 11 = .ok (.aload_n 0, 1) := by decide +kernel
theorem d_Mo_edgeCost_12 : decode Y_Mo_edgeCost.2.1 12 = .ok (.getfield 20, 3) := by decide +kernel
theorem d_Mo_edgeCost_15 : decode Y_Mo_edgeCost.2.1 15 = .ok (.bipush 9, 2) := by decide +kernel
theorem d_Mo_edgeCost_17 : decode Y_Mo_edgeCost.2.1 17 = .ok (.iload_n 2, 1) := by decide +kernel
theorem d_Mo_edgeCost_18 : decode Y_Mo_edgeCost.2.1 18 = .ok (.imul, 1) := by decide +kernel
theorem d_Mo_edgeCost_19 : decode Y_Mo_edgeCost.2.1 19 = .ok (.iload_n 1, 1) := by decide +kernel
theorem d_Mo_edgeCost_20 : decode Y_Mo_edgeCost.2.1 20 = .ok (.iadd, 1) := by decide +kernel
theorem d_Mo_edgeCost_21 : decode Y_Mo_edgeCost.2.1 21 = .ok (.iaload, 1) := by decide +kernel
theorem d_Mo_edgeCost_22 : decode Y_Mo_edgeCost.2.1 22 = .ok (.if_icmp .ge 17, 3) := by decide +kernel
theorem d_Mo_edgeCost_25 : decode Y_Mo_edgeCost.2.1 25 = .ok (.aload_n 0, 1) := by decide +kernel
theorem d_Mo_edgeCost_26 : decode Y_Mo_edgeCost.2.1 26 = .ok (.getfield 20, 3) := by decide +kernel
theorem d_Mo_edgeCost_29 : decode Y_Mo_edgeCost.2.1 29 = .ok (.bipush 9, 2) := by decide +kernel
theorem d_Mo_edgeCost_31 : decode Y_Mo_edgeCost.2.1 31 = .ok (.iload_n 1, 1) := by decide +kernel
theorem d_Mo_edgeCost_32 : decode Y_Mo_edgeCost.2.1 32 = .ok (.imul, 1) := by decide +kernel
theorem d_Mo_edgeCost_33 : decode Y_Mo_edgeCost.2.1 33 = .ok (.iload_n 2, 1) := by decide +kernel
theorem d_Mo_edgeCost_34 : decode Y_Mo_edgeCost.2.1 34 = .ok (.iadd, 1) := by decide +kernel
theorem d_Mo_edgeCost_35 : decode Y_Mo_edgeCost.2.1 35 = .ok (.iaload, 1) := by decide +kernel
theorem d_Mo_edgeCost_36 : decode Y_Mo_edgeCost.2.1 36 = .ok (.goto 14, 3) := by decide +kernel
theorem d_Mo_edgeCost_39 : decode Y_Mo_edgeCost.2.1 39 = .ok (.aload_n 0, 1) := by decide +kernel
theorem d_Mo_edgeCost_40 : decode Y_Mo_edgeCost.2.1 40 = .ok (.getfield 20, 3) := by decide +kernel
theorem d_Mo_edgeCost_43 : decode Y_Mo_edgeCost.2.1 43 = .ok (.bipush 9, 2) := by decide +kernel
theorem d_Mo_edgeCost_45 : decode Y_Mo_edgeCost.2.1 45 = .ok (.iload_n 2, 1) := by decide +kernel
theorem d_Mo_edgeCost_46 : decode Y_Mo_edgeCost.2.1 46 = .ok (.imul, 1) := by decide +kernel
theorem d_Mo_edgeCost_47 : decode Y_Mo_edgeCost.2.1 47 = .ok (.iload_n 1, 1) := by decide +kernel
theorem d_Mo_edgeCost_48 : decode Y_Mo_edgeCost.2.1 48 = .ok (.iadd, 1) := by decide +kernel
theorem d_Mo_edgeCost_49 : decode Y_Mo_edgeCost.2.1 49 = .ok (.iaload, 1) := by decide +kernel
theorem d_Mo_edgeCost_50 : decode Y_Mo_edgeCost.2.1 50 = .ok (.istore_n 3, 1) := by decide +kernel
theorem d_Mo_edgeCost_51 : decode Y_Mo_edgeCost.2.1 51 = .ok (.iload_n 3, 1) := by decide +kernel
theorem d_Mo_edgeCost_52 : decode Y_Mo_edgeCost.2.1 52 = .ok (.ldc 69, 2) := by decide +kernel
theorem d_Mo_edgeCost_54 : decode Y_Mo_edgeCost.2.1 54 = .ok (.if_icmp .ne 8, 3) := by decide +kernel
theorem d_Mo_edgeCost_57 : decode Y_Mo_edgeCost.2.1 57 = .ok (.ldc 101, 2) := by decide +kernel
theorem d_Mo_edgeCost_59 : decode Y_Mo_edgeCost.2.1 59 = .ok (.goto 18, 3) := by decide +kernel
theorem d_Mo_edgeCost_62 : decode Y_Mo_edgeCost.2.1 62 = .ok (.iload_n 3, 1) := by decide +kernel
theorem d_Mo_edgeCost_63 : decode Y_Mo_edgeCost.2.1 63 = .ok (.aload_n 0, 1) := by decide +kernel
theorem d_Mo_edgeCost_64 : decode Y_Mo_edgeCost.2.1 64 = .ok (.getfield 36, 3) := by decide +kernel
theorem d_Mo_edgeCost_67 : decode Y_Mo_edgeCost.2.1 67 = .ok (.iload_n 1, 1) := by decide +kernel
theorem d_Mo_edgeCost_68 : decode Y_Mo_edgeCost.2.1 68 = .ok (.iaload, 1) := by decide +kernel
theorem d_Mo_edgeCost_69 : decode Y_Mo_edgeCost.2.1 69 = .ok (.iadd, 1) := by decide +kernel
theorem d_Mo_edgeCost_70 : decode Y_Mo_edgeCost.2.1 70 = .ok (.aload_n 0, 1) := by decide +kernel
theorem d_Mo_edgeCost_71 : decode Y_Mo_edgeCost.2.1 71 = .ok (.getfield 36, 3) := by decide +kernel
theorem d_Mo_edgeCost_74 : decode Y_Mo_edgeCost.2.1 74 = .ok (.iload_n 2, 1) := by decide +kernel
theorem d_Mo_edgeCost_75 : decode Y_Mo_edgeCost.2.1 75 = .ok (.iaload, 1) := by decide +kernel
theorem d_Mo_edgeCost_76 : decode Y_Mo_edgeCost.2.1 76 = .ok (.iadd, 1) := by decide +kernel
theorem d_Mo_edgeCost_77 : decode Y_Mo_edgeCost.2.1 77 = .ok (.ireturn, 1) := by decide +kernel
theorem d_Mo_hasEdge_0 : decode Y_Mo_hasEdge.2.1 0 = .ok (.iconst 0, 1) := by decide +kernel
theorem d_Mo_hasEdge_1 : decode Y_Mo_hasEdge.2.1 1 = .ok (.istore_n 3, 1) := by decide +kernel
theorem d_Mo_hasEdge_2 : decode Y_Mo_hasEdge.2.1 2 = .ok (.iconst 0, 1) := by decide +kernel
theorem d_Mo_hasEdge_3 : decode Y_Mo_hasEdge.2.1 3 = .ok (.istore 4, 2) := by decide +kernel
theorem d_Mo_hasEdge_5 : decode Y_Mo_hasEdge.2.1 5 = .ok (.iload 4, 2) := by decide +kernel
theorem d_Mo_hasEdge_7 : decode Y_Mo_hasEdge.2.1 7 = .ok (.aload_n 0, 1) := by decide +kernel
theorem d_Mo_hasEdge_8 : decode Y_Mo_hasEdge.2.1 8 = .ok (.getfield 150, 3) := by decide +kernel
theorem d_Mo_hasEdge_11 : decode Y_Mo_hasEdge.2.1 11 = .ok (.if_icmp .ge 41, 3) := by decide +kernel
theorem d_Mo_hasEdge_14 : decode Y_Mo_hasEdge.2.1 14 = .ok (.iload_n 3, 1) := by decide +kernel
theorem d_Mo_hasEdge_15 : decode Y_Mo_hasEdge.2.1 15 = .ok (.ifCond .ne 25, 3) := by decide +kernel
theorem d_Mo_hasEdge_18 : decode Y_Mo_hasEdge.2.1 18 = .ok (.aload_n 0, 1) := by decide +kernel
theorem d_Mo_hasEdge_19 : decode Y_Mo_hasEdge.2.1 19 = .ok (.getfield 57, 3) := by decide +kernel
theorem d_Mo_hasEdge_22 : decode Y_Mo_hasEdge.2.1 22 = .ok (.iload 4, 2) := by decide +kernel
theorem d_Mo_hasEdge_24 : decode Y_Mo_hasEdge.2.1 24 = .ok (.iaload, 1) := by decide +kernel
theorem d_Mo_hasEdge_25 : decode Y_Mo_hasEdge.2.1 25 = .ok (.iload_n 1, 1) := by decide +kernel
theorem d_Mo_hasEdge_26 : decode Y_Mo_hasEdge.2.1 26 = .ok (.if_icmp .ne 18, 3) := by decide +kernel
theorem d_Mo_hasEdge_29 : decode Y_Mo_hasEdge.2.1 29 = .ok (.aload_n 0, 1) := by decide +kernel
theorem d_Mo_hasEdge_30 : decode Y_Mo_hasEdge.2.1 30 = .ok (.getfield 60, 3) := by decide +kernel
theorem d_Mo_hasEdge_33 : decode Y_Mo_hasEdge.2.1 33 = .ok (.iload 4, 2) := by decide +kernel
theorem d_Mo_hasEdge_35 : decode Y_Mo_hasEdge.2.1 35 = .ok (.iaload, 1) := by decide +kernel
theorem d_Mo_hasEdge_36 : decode Y_Mo_hasEdge.2.1 36 = .ok (.iload_n 2, 1) := by decide +kernel
theorem d_Mo_hasEdge_37 : decode Y_Mo_hasEdge.2.1 37 = .ok (.if_icmp .ne 7, 3) := by decide +kernel
theorem d_Mo_hasEdge_40 : decode Y_Mo_hasEdge.2.1 40 = .ok (.iconst 1, 1) := by decide +kernel
theorem d_Mo_hasEdge_41 : decode Y_Mo_hasEdge.2.1 41 = .ok (.goto 4, 3) := by decide +kernel
theorem d_Mo_hasEdge_44 : decode Y_Mo_hasEdge.2.1 44 = .ok (.iconst 0, 1) := by decide +kernel
theorem d_Mo_hasEdge_45 : decode Y_Mo_hasEdge.2.1 45 = .ok (.istore_n 3, 1) := by decide +kernel
theorem d_Mo_hasEdge_46 : decode Y_Mo_hasEdge.2.1 46 = .ok (.iinc 4 1, 3) := by decide +kernel
theorem d_Mo_hasEdge_49 : decode Y_Mo_hasEdge.2.1 49 = .ok (.goto (-44), 3) := by decide +kernel
theorem d_Mo_hasEdge_52 : decode Y_Mo_hasEdge.2.1 52 = .ok (.iload_n 3, 1) := by decide +kernel
theorem d_Mo_hasEdge_53 : decode Y_Mo_hasEdge.2.1 53 = .ok (.ireturn, 1) := by decide +kernel
theorem d_Mo_edge_0 : decode Y_Mo_edge.2.1 0 = .ok (.aload_n 0, 1) := by decide +kernel
theorem d_Mo_edge_1 : decode Y_Mo_edge.2.1 1 = .ok (.iconst 0, 1) := by decide +kernel
theorem d_Mo_edge_2 : decode Y_Mo_edge.2.1 2 = .ok (.putfield 1, 3) := by decide +kernel
theorem d_Mo_edge_5 : decode Y_Mo_edge.2.1 5 = .ok (.aload_n 0, 1) := by decide +kernel
theorem d_Mo_edge_6 : decode Y_Mo_edge.2.1 6 = .ok (.invokevirtual 164, 3) := by decide +kernel
theorem d_Mo_edge_9 : decode Y_Mo_edge.2.1 9 = .ok (.ifCond .ne 6, 3) := by decide +kernel
theorem d_Mo_edge_12 : decode Y_Mo_edge.2.1 12 = .ok (.ldc 88, 2) := by decide +kernel
theorem d_Mo_edge_14 : decode Y_Mo_edge.2.1 14 = .ok (.ireturn, 1) := by decide +kernel
theorem d_Mo_edge_15 : decode Y_Mo_edge.2.1 15 = .ok (.iload_n 1, 1) := by decide +kernel
theorem d_Mo_edge_16 : decode Y_Mo_edge.2.1 16 = .ok (.iconst 0, 1) := by decide +kernel
theorem d_Mo_edge_17 : decode Y_Mo_edge.2.1 17 = .ok (.aload_n 0, 1) := by decide +kernel
theorem d_Mo_edge_18 : decode Y_Mo_edge.2.1 18 = .ok (.getfield 150, 3) := by decide +kernel
theorem d_Mo_edge_21 : decode Y_Mo_edge.2.1 21 = .ok (.iconst 1, 1) := by decide +kernel
theorem d_Mo_edge_22 : decode Y_Mo_edge.2.1 22 = .ok (.isub, 1) := by decide +kernel
theorem d_Mo_edge_23 : decode Y_Mo_edge.2.1 23 = .ok (.invokestatic 70, 3) := by decide +kernel
theorem d_Mo_edge_26 : decode Y_Mo_edge.2.1 26 = .ok (.ifCond .eq 12, 3) := by decide +kernel
theorem d_Mo_edge_29 : decode Y_Mo_edge.2.1 29 = .ok (.iload_n 2, 1) := by decide +kernel
theorem d_Mo_edge_30 : decode Y_Mo_edge.2.1 30 = .ok (.iconst 0, 1) := by decide +kernel
theorem d_Mo_edge_31 : decode Y_Mo_edge.2.1 31 = .ok (.iconst 1, 1) := by decide +kernel
theorem d_Mo_edge_32 : decode Y_Mo_edge.2.1 32 = .ok (.invokestatic 70, 3) := by decide +kernel
theorem d_Mo_edge_35 : decode Y_Mo_edge.2.1 35 = .ok (.ifCond .ne 8, 3) := by decide +kernel
theorem d_Mo_edge_38 : decode Y_Mo_edge.2.1 38 = .ok (.ldc 78, 2) := by decide +kernel
theorem d_Mo_edge_40 : decode Y_Mo_edge.2.1 40 = .ok (.goto 22, 3) := by decide +kernel
theorem d_Mo_edge_43 : decode Y_Mo_edge.2.1 43 = .ok (.iload_n 2, 1) := by decide +kernel
theorem d_Mo_edge_44 : decode Y_Mo_edge.2.1 44 = .ok (.ifCond .ne 12, 3) := by decide +kernel
theorem d_Mo_edge_47 : decode Y_Mo_edge.2.1 47 = .ok (.aload_n 0, 1) := by decide +kernel
theorem d_Mo_edge_48 : decode Y_Mo_edge.2.1 48 = .ok (.getfield 57, 3) := by decide +kernel
theorem d_Mo_edge_51 : decode Y_Mo_edge.2.1 51 = .ok (.iload_n 1, 1) := by decide +kernel
theorem d_Mo_edge_52 : decode Y_Mo_edge.2.1 52 = .ok (.iaload, 1) := by decide +kernel
theorem d_Mo_edge_53 : decode Y_Mo_edge.2.1 53 = .ok (.goto 9, 3) := by decide +kernel
theorem d_Mo_edge_56 : decode Y_Mo_edge.2.1 56 = .ok (.aload_n 0, 1) := by decide +kernel
theorem d_Mo_edge_57 : decode Y_Mo_edge.2.1 57 = .ok (.getfield 60, 3) := by decide +kernel
theorem d_Mo_edge_60 : decode Y_Mo_edge.2.1 60 = .ok (.iload_n 1, 1) := by decide +kernel
theorem d_Mo_edge_61 : decode Y_Mo_edge.2.1 61 = .ok (.iaload, 1) := by decide +kernel
theorem d_Mo_edge_62 : decode Y_Mo_edge.2.1 62 = .ok (.ireturn, 1) := by decide +kernel
theorem d_Mo_degree_0 : decode Y_Mo_degree.2.1 0 = .ok (.aload_n 0, 1) := by decide +kernel
theorem d_Mo_degree_1 : decode Y_Mo_degree.2.1 1 = .ok (.iconst 0, 1) := by decide +kernel
theorem d_Mo_degree_2 : decode Y_Mo_degree.2.1 2 = .ok (.putfield 1, 3) := by decide +kernel
theorem d_Mo_degree_5 : decode Y_Mo_degree.2.1 5 = .ok (.aload_n 0, 1) := by decide +kernel
theorem d_Mo_degree_6 : decode Y_Mo_degree.2.1 6 = .ok (.iload_n 1, 1) := by decide +kernel
theorem d_Mo_degree_7 : decode Y_Mo_degree.2.1 7 = .ok (.invokevirtual 74, 3) := by decide +kernel
theorem d_Mo_degree_10 : decode Y_Mo_degree.2.1 10 = .ok (.ifCond .eq 6, 3) := by decide +kernel
theorem d_Mo_degree_13 : decode Y_Mo_degree.2.1 13 = .ok (.ldc 78, 2) := by decide +kernel
theorem d_Mo_degree_15 : decode Y_Mo_degree.2.1 15 = .ok (.ireturn, 1) := by decide +kernel
theorem d_Mo_degree_16 : decode Y_Mo_degree.2.1 16 = .ok (.aload_n 0, 1) := by decide +kernel
theorem d_Mo_degree_17 : decode Y_Mo_degree.2.1 17 = .ok (.invokevirtual 164, 3) := by decide +kernel
theorem d_Mo_degree_20 : decode Y_Mo_degree.2.1 20 = .ok (.ifCond .ne 6, 3) := by decide +kernel
theorem d_Mo_degree_23 : decode Y_Mo_degree.2.1 23 = .ok (.ldc 88, 2) := by decide +kernel
theorem d_Mo_degree_25 : decode Y_Mo_degree.2.1 25 = .ok (.ireturn, 1) := by decide +kernel
theorem d_Mo_degree_26 : decode Y_Mo_degree.2.1 26 = .ok (.iconst 0, 1) := by decide +kernel
theorem d_Mo_degree_27 : decode Y_Mo_degree.2.1 27 = .ok (.istore_n 2, 1) := by decide +kernel
theorem d_Mo_degree_28 : decode Y_Mo_degree.2.1 28 = .ok (.iconst 0, 1) := by decide +kernel
theorem d_Mo_degree_29 : decode Y_Mo_degree.2.1 29 = .ok (.istore_n 3, 1) := by decide +kernel
theorem d_Mo_degree_30 : decode Y_Mo_degree.2.1 30 = .ok (.iload_n 3, 1) := by decide +kernel
theorem d_Mo_degree_31 : decode Y_Mo_degree.2.1 31 = .ok (.aload_n 0, 1) := by decide +kernel
theorem d_Mo_degree_32 : decode Y_Mo_degree.2.1 32 = .ok (.getfield 150, 3) := by decide +kernel
theorem d_Mo_degree_35 : decode Y_Mo_degree.2.1 35 = .ok (.if_icmp .ge 37, 3) := by decide +kernel
theorem d_Mo_degree_38 : decode Y_Mo_degree.2.1 38 = .ok (.aload_n 0, 1) := by decide +kernel
theorem d_Mo_degree_39 : decode Y_Mo_degree.2.1 39 = .ok (.getfield 57, 3) := by decide +kernel
theorem d_Mo_degree_42 : decode Y_Mo_degree.2.1 42 = .ok (.iload_n 3, 1) := by decide +kernel
theorem d_Mo_degree_43 : decode Y_Mo_degree.2.1 43 = .ok (.iaload, 1) := by decide +kernel
theorem d_Mo_degree_44 : decode Y_Mo_degree.2.1 44 = .ok (.iload_n 1, 1) := by decide +kernel
theorem d_Mo_degree_45 : decode Y_Mo_degree.2.1 45 = .ok (.if_icmp .eq 13, 3) := by decide +kernel
theorem d_Mo_degree_48 : decode Y_Mo_degree.2.1 48 = .ok (.aload_n 0, 1) := by decide +kernel
theorem d_Mo_degree_49 : decode Y_Mo_degree.2.1 49 = .ok (.getfield 60, 3) := by decide +kernel
theorem d_Mo_degree_52 : decode Y_Mo_degree.2.1 52 = .ok (.iload_n 3, 1) := by decide +kernel
theorem d_Mo_degree_53 : decode Y_Mo_degree.2.1 53 = .ok (.iaload, 1) := by decide +kernel
theorem d_Mo_degree_54 : decode Y_Mo_degree.2.1 54 = .ok (.iload_n 1, 1) := by decide +kernel
theorem d_Mo_degree_55 : decode Y_Mo_degree.2.1 55 = .ok (.if_icmp .ne 9, 3) := by decide +kernel
theorem d_Mo_degree_58 : decode Y_Mo_degree.2.1 58 = .ok (.iload_n 2, 1) := by decide +kernel
theorem d_Mo_degree_59 : decode Y_Mo_degree.2.1 59 = .ok (.iconst 1, 1) := by decide +kernel
theorem d_Mo_degree_60 : decode Y_Mo_degree.2.1 60 = .ok (.iadd, 1) := by decide +kernel
theorem d_Mo_degree_61 : decode Y_Mo_degree.2.1 61 = .ok (.goto 4, 3) := by decide +kernel
theorem d_Mo_degree_64 : decode Y_Mo_degree.2.1 64 = .ok (.iload_n 2, 1) := by decide +kernel
theorem d_Mo_degree_65 : decode Y_Mo_degree.2.1 65 = .ok (.istore_n 2, 1) := by decide +kernel
theorem d_Mo_degree_66 : decode Y_Mo_degree.2.1 66 = .ok (.iinc 3 1, 3) := by decide +kernel
theorem d_Mo_degree_69 : decode Y_Mo_degree.2.1 69 = .ok (.goto (-39), 3) := by decide +kernel
theorem d_Mo_degree_72 : decode Y_Mo_degree.2.1 72 = .ok (.iload_n 2, 1) := by decide +kernel
theorem d_Mo_degree_73 : decode Y_Mo_degree.2.1 73 = .ok (.ireturn, 1) := by decide +kernel
theorem d_Mo_pairing_0 : decode Y_Mo_pairing.2.1 0 = .ok (.aload_n 0, 1) := by decide +kernel
theorem d_Mo_pairing_1 : decode Y_Mo_pairing.2.1 1 = .ok (.iconst 0, 1) := by decide +kernel
theorem d_Mo_pairing_2 : decode Y_Mo_pairing.2.1 2 = .ok (.putfield 1, 3) := by decide +kernel
theorem d_Mo_pairing_5 : decode Y_Mo_pairing.2.1 5 = .ok (.iconst 0, 1) := by decide +kernel
theorem d_Mo_pairing_6 : decode Y_Mo_pairing.2.1 6 = .ok (.istore_n 1, 1) := by decide +kernel
theorem d_Mo_pairing_7 : decode Y_Mo_pairing.2.1 7 = .ok (.iload_n 1, 1) := by decide +kernel
theorem d_Mo_pairing_8 : decode Y_Mo_pairing.2.1 8 = .ok (.iconst 1, 1) := by decide +kernel
theorem d_Mo_pairing_9 : decode Y_Mo_pairing.2.1 9 = .ok (.aload_n 0, 1) := by decide +kernel
theorem d_Mo_pairing_10 : decode Y_Mo_pairing.2.1 10 = .ok (.getfield 13, 3) := by decide +kernel
theorem d_Mo_pairing_13 : decode Y_Mo_pairing.2.1 13 = .ok (.ishl, 1) := by decide +kernel
theorem d_Mo_pairing_14 : decode Y_Mo_pairing.2.1 14 = .ok (.if_icmp .ge 149, 3) := by decide +kernel
theorem d_Mo_pairing_17 : decode Y_Mo_pairing.2.1 17 = .ok (.iload_n 1, 1) := by decide +kernel
theorem d_Mo_pairing_18 : decode Y_Mo_pairing.2.1 18 = .ok (.invokestatic 167, 3) := by decide +kernel
theorem d_Mo_pairing_21 : decode Y_Mo_pairing.2.1 21 = .ok (.iconst 1, 1) := by decide +kernel
theorem d_Mo_pairing_22 : decode Y_Mo_pairing.2.1 22 = .ok (.isub, 1) := by decide +kernel
theorem d_Mo_pairing_23 : decode Y_Mo_pairing.2.1 23 = .ok (.istore_n 2, 1) := by decide +kernel
theorem d_Mo_pairing_24 : decode Y_Mo_pairing.2.1 24 = .ok (.aload_n 0, 1) := by decide +kernel
theorem d_Mo_pairing_25 : decode Y_Mo_pairing.2.1 25 = .ok (.getfield 66, 3) := by decide +kernel
theorem d_Mo_pairing_28 : decode Y_Mo_pairing.2.1 28 = .ok (.iload_n 1, 1) := by decide +kernel
theorem d_Mo_pairing_29 : decode Y_Mo_pairing.2.1 29 = .ok (.iload_n 1, 1) := by decide +kernel
theorem d_Mo_pairing_30 : decode Y_Mo_pairing.2.1 30 = .ok (.ifCond .ne 7, 3) := by decide +kernel
theorem d_Mo_pairing_33 : decode Y_Mo_pairing.2.1 33 = .ok (.iconst 0, 1) := by decide +kernel
theorem d_Mo_pairing_34 : decode Y_Mo_pairing.2.1 34 = .ok (.goto 5, 3) := by decide +kernel
theorem d_Mo_pairing_37 : decode Y_Mo_pairing.2.1 37 = .ok (.ldc 101, 2) := by decide +kernel
theorem d_Mo_pairing_39 : decode Y_Mo_pairing.2.1 39 = .ok (.iastore, 1) := by decide +kernel
theorem d_Mo_pairing_40 : decode Y_Mo_pairing.2.1 40 = .ok (.iconst 0, 1) := by decide +kernel
theorem d_Mo_pairing_41 : decode Y_Mo_pairing.2.1 41 = .ok (.istore_n 3, 1) := by decide +kernel
theorem d_Mo_pairing_42 : decode Y_Mo_pairing.2.1 42 = .ok (.iload_n 3, 1) := by decide +kernel
theorem d_Mo_pairing_43 : decode Y_Mo_pairing.2.1 43 = .ok (.aload_n 0, 1) := by decide +kernel
theorem d_Mo_pairing_44 : decode Y_Mo_pairing.2.1 44 = .ok (.getfield 13, 3) := by decide +kernel
theorem d_Mo_pairing_47 : decode Y_Mo_pairing.2.1 47 = .ok (.if_icmp .ge 110, 3) := by decide +kernel
theorem d_Mo_pairing_50 : decode Y_Mo_pairing.2.1 50 = .ok (.iload_n 1, 1) := by decide +kernel
theorem d_Mo_pairing_51 : decode Y_Mo_pairing.2.1 51 = .ok (.iload_n 3, 1) := by decide +kernel
theorem d_Mo_pairing_52 : decode Y_Mo_pairing.2.1 52 = .ok (.ishr, 1) := by decide +kernel
theorem d_Mo_pairing_53 : decode Y_Mo_pairing.2.1 53 = .ok (.iconst 1, 1) := by decide +kernel
theorem d_Mo_pairing_54 : decode Y_Mo_pairing.2.1 54 = .ok (.iand, 1) := by decide +kernel
theorem d_Mo_pairing_55 : decode Y_Mo_pairing.2.1 55 = .ok (.iconst 1, 1) := by decide +kernel
theorem d_Mo_pairing_56 : decode Y_Mo_pairing.2.1 56 = .ok (.if_icmp .ne 95, 3) := by decide +kernel
theorem d_Mo_pairing_59 : decode Y_Mo_pairing.2.1 59 = .ok (.iload_n 2, 1) := by decide +kernel
theorem d_Mo_pairing_60 : decode Y_Mo_pairing.2.1 60 = .ok (.iload_n 3, 1) := by decide +kernel
theorem d_Mo_pairing_61 : decode Y_Mo_pairing.2.1 61 = .ok (.if_icmp .eq 90, 3) := by decide +kernel
theorem d_Mo_pairing_64 : decode Y_Mo_pairing.2.1 64 = .ok (.aload_n 0, 1) := by decide +kernel
theorem d_Mo_pairing_65 : decode Y_Mo_pairing.2.1 65 = .ok (.getfield 20, 3) := by decide +kernel
theorem d_Mo_pairing_68 : decode Y_Mo_pairing.2.1 68 = .ok (.bipush 9, 2) := by decide +kernel
theorem d_Mo_pairing_70 : decode Y_Mo_pairing.2.1 70 = .ok (.iload_n 2, 1) := by decide +kernel
theorem d_Mo_pairing_71 : decode Y_Mo_pairing.2.1 71 = .ok (.imul, 1) := by decide +kernel
theorem d_Mo_pairing_72 : decode Y_Mo_pairing.2.1 72 = .ok (.iload_n 3, 1) := by decide +kernel
theorem d_Mo_pairing_73 : decode Y_Mo_pairing.2.1 73 = .ok (.iadd, 1) := by decide +kernel
theorem d_Mo_pairing_74 : decode Y_Mo_pairing.2.1 74 = .ok (.iaload, 1) := by decide +kernel
theorem d_Mo_pairing_75 : decode Y_Mo_pairing.2.1 75 = .ok (.ldc 69, 2) := by decide +kernel
theorem d_Mo_pairing_77 : decode Y_Mo_pairing.2.1 77 = .ok (.if_icmp .eq 74, 3) := by decide +kernel
theorem d_Mo_pairing_80 : decode Y_Mo_pairing.2.1 80 = .ok (.aload_n 0, 1) := by decide +kernel
theorem d_Mo_pairing_81 : decode Y_Mo_pairing.2.1 81 = .ok (.getfield 66, 3) := by decide +kernel
theorem d_Mo_pairing_84 : decode Y_Mo_pairing.2.1 84 = .ok (.iload_n 1, 1) := by decide +kernel
theorem d_Mo_pairing_85 : decode Y_Mo_pairing.2.1 85 = .ok (.iconst 1, 1) := by decide +kernel
theorem d_Mo_pairing_86 : decode Y_Mo_pairing.2.1 86 = .ok (.iload_n 3, 1) := by decide +kernel
theorem d_Mo_pairing_87 : decode Y_Mo_pairing.2.1 87 = .ok (.ishl, 1) := by decide +kernel
theorem d_Mo_pairing_88 : decode Y_Mo_pairing.2.1 88 = .ok (.iconst (-1), 1) := by decide +kernel
theorem d_Mo_pairing_89 : decode Y_Mo_pairing.2.1 89 = .ok (.ixor, 1) := by decide +kernel
theorem d_Mo_pairing_90 : decode Y_Mo_pairing.2.1 90 = .ok (.iand, 1) := by decide +kernel
theorem d_Mo_pairing_91 : decode Y_Mo_pairing.2.1 91 = .ok (.iaload, 1) := by decide +kernel
theorem d_Mo_pairing_92 : decode Y_Mo_pairing.2.1 92 = .ok (.ldc 101, 2) := by decide +kernel
theorem d_Mo_pairing_94 : decode Y_Mo_pairing.2.1 94 = .ok (.if_icmp .eq 57, 3) := by decide +kernel
theorem d_Mo_pairing_97 : decode Y_Mo_pairing.2.1 97 = .ok (.aload_n 0, 1) := by decide +kernel
theorem d_Mo_pairing_98 : decode Y_Mo_pairing.2.1 98 = .ok (.getfield 66, 3) := by decide +kernel
theorem d_Mo_pairing_101 : decode Y_Mo_pairing.2.1 101 = .ok (.iload_n 1, 1) := by decide +kernel
theorem d_Mo_pairing_102 : decode Y_Mo_pairing.2.1 102 = .ok (.iconst 1, 1) := by decide +kernel
theorem d_Mo_pairing_103 : decode Y_Mo_pairing.2.1 103 = .ok (.iload_n 3, 1) := by decide +kernel
theorem d_Mo_pairing_104 : decode Y_Mo_pairing.2.1 104 = .ok (.ishl, 1) := by decide +kernel
theorem d_Mo_pairing_105 : decode Y_Mo_pairing.2.1 105 = .ok (.iconst (-1), 1) := by decide +kernel
theorem d_Mo_pairing_106 : decode Y_Mo_pairing.2.1 106 = .ok (.ixor, 1) := by decide +kernel
theorem d_Mo_pairing_107 : decode Y_Mo_pairing.2.1 107 = .ok (.iand, 1) := by decide +kernel
theorem d_Mo_pairing_108 : decode Y_Mo_pairing.2.1 108 = .ok (.iaload, 1) := by decide +kernel
theorem d_Mo_pairing_109 : decode Y_Mo_pairing.2.1 109 = .ok (.aload_n 0, 1) := by decide +kernel
theorem d_Mo_pairing_110 : decode Y_Mo_pairing.2.1 110 = .ok (.getfield 20, 3) := by decide +kernel
theorem d_Mo_pairing_113 : decode Y_Mo_pairing.2.1 113 = .ok (.bipush 9, 2) := by decide +kernel
theorem d_Mo_pairing_115 : decode Y_Mo_pairing.2.1 115 = .ok (.iload_n 2, 1) := by decide +kernel
theorem d_Mo_pairing_116 : decode Y_Mo_pairing.2.1 116 = .ok (.imul, 1) := by decide +kernel
theorem d_Mo_pairing_117 : decode Y_Mo_pairing.2.1 117 = .ok (.iload_n 3, 1) := by decide +kernel
theorem d_Mo_pairing_118 : decode Y_Mo_pairing.2.1 118 = .ok (.iadd, 1) := by decide +kernel
theorem d_Mo_pairing_119 : decode Y_Mo_pairing.2.1 119 = .ok (.iaload, 1) := by decide +kernel
theorem d_Mo_pairing_120 : decode Y_Mo_pairing.2.1 120 = .ok (.iadd, 1) := by decide +kernel
theorem d_Mo_pairing_121 : decode Y_Mo_pairing.2.1 121 = .ok (.istore 4, 2) := by decide +kernel
theorem d_Mo_pairing_123 : decode Y_Mo_pairing.2.1 123 = .ok (.aload_n 0, 1) := by decide +kernel
theorem d_Mo_pairing_124 : decode Y_Mo_pairing.2.1 124 = .ok (.getfield 66, 3) := by decide +kernel
theorem d_Mo_pairing_127 : decode Y_Mo_pairing.2.1 127 = .ok (.iload_n 1, 1) := by decide +kernel
theorem d_Mo_pairing_128 : decode Y_Mo_pairing.2.1 128 = .ok (.iload 4, 2) := by decide +kernel
theorem d_Mo_pairing_130 : decode Y_Mo_pairing.2.1 130 = .ok (.aload_n 0, 1) := by decide +kernel
theorem d_Mo_pairing_131 : decode Y_Mo_pairing.2.1 131 = .ok (.getfield 66, 3) := by decide +kernel
theorem d_Mo_pairing_134 : decode Y_Mo_pairing.2.1 134 = .ok (.iload_n 1, 1) := by decide +kernel
theorem d_Mo_pairing_135 : decode Y_Mo_pairing.2.1 135 = .ok (.iaload, 1) := by decide +kernel
theorem d_Mo_pairing_136 : decode Y_Mo_pairing.2.1 136 = .ok (.if_icmp .ge 8, 3) := by decide +kernel
theorem d_Mo_pairing_139 : decode Y_Mo_pairing.2.1 139 = .ok (.iload 4, 2) := by decide +kernel
theorem d_Mo_pairing_141 : decode Y_Mo_pairing.2.1 141 = .ok (.goto 9, 3) := by decide +kernel
theorem d_Mo_pairing_144 : decode Y_Mo_pairing.2.1 144 = .ok (.aload_n 0, 1) := by decide +kernel
theorem d_Mo_pairing_145 : decode Y_Mo_pairing.2.1 145 = .ok (.getfield 66, 3) := by decide +kernel
theorem d_Mo_pairing_148 : decode Y_Mo_pairing.2.1 148 = .ok (.iload_n 1, 1) := by decide +kernel
theorem d_Mo_pairing_149 : decode Y_Mo_pairing.2.1 149 = .ok (.iaload, 1) := by decide +kernel
theorem d_Mo_pairing_150 : decode Y_Mo_pairing.2.1 150 = .ok (.iastore, 1) := by decide +kernel
theorem d_Mo_pairing_151 : decode Y_Mo_pairing.2.1 151 = .ok (.iinc 3 1, 3) := by decide +kernel
theorem d_Mo_pairing_154 : decode Y_Mo_pairing.2.1 154 = .ok (.goto (-112), 3) := by decide +kernel
theorem d_Mo_pairing_157 : decode Y_Mo_pairing.2.1 157 = .ok (.iinc 1 1, 3) := by decide +kernel
theorem d_Mo_pairing_160 : decode Y_Mo_pairing.2.1 160 = .ok (.goto (-153), 3) := by decide +kernel
theorem d_Mo_pairing_163 : decode Y_Mo_pairing.2.1 163 = .ok (.aload_n 0, 1) := by decide +kernel
theorem d_Mo_pairing_164 : decode Y_Mo_pairing.2.1 164 = .ok (.getfield 66, 3) := by decide +kernel
theorem d_Mo_pairing_167 : decode Y_Mo_pairing.2.1 167 = .ok (.iconst 1, 1) := by decide +kernel
theorem d_Mo_pairing_168 : decode Y_Mo_pairing.2.1 168 = .ok (.aload_n 0, 1) := by decide +kernel
theorem d_Mo_pairing_169 : decode Y_Mo_pairing.2.1 169 = .ok (.getfield 13, 3) := by decide +kernel
theorem d_Mo_pairing_172 : decode Y_Mo_pairing.2.1 172 = .ok (.ishl, 1) := by decide +kernel
theorem d_Mo_pairing_173 : decode Y_Mo_pairing.2.1 173 = .ok (.iconst 1, 1) := by decide +kernel
theorem d_Mo_pairing_174 : decode Y_Mo_pairing.2.1 174 = .ok (.isub, 1) := by decide +kernel
theorem d_Mo_pairing_175 : decode Y_Mo_pairing.2.1 175 = .ok (.iaload, 1) := by decide +kernel
theorem d_Mo_pairing_176 : decode Y_Mo_pairing.2.1 176 = .ok (.invokestatic 147, 3) := by decide +kernel
theorem d_Mo_pairing_179 : decode Y_Mo_pairing.2.1 179 = .ok (.ireturn, 1) := by decide +kernel
theorem d_Mo_next_0 : decode Y_Mo_next.2.1 0 = .ok (.aload_n 0, 1) := by decide +kernel
theorem d_Mo_next_1 : decode Y_Mo_next.2.1 1 = .ok (.iconst 0, 1) := by decide +kernel
theorem d_Mo_next_2 : decode Y_Mo_next.2.1 2 = .ok (.putfield 1, 3) := by decide +kernel
theorem d_Mo_next_5 : decode Y_Mo_next.2.1 5 = .ok (.aload_n 0, 1) := by decide +kernel
theorem d_Mo_next_6 : decode Y_Mo_next.2.1 6 = .ok (.iload_n 1, 1) := by decide +kernel
theorem d_Mo_next_7 : decode Y_Mo_next.2.1 7 = .ok (.invokevirtual 74, 3) := by decide +kernel
theorem d_Mo_next_10 : decode Y_Mo_next.2.1 10 = .ok (.ifCond .ne 21, 3) := by decide +kernel
theorem d_Mo_next_13 : decode Y_Mo_next.2.1 13 = .ok (.iload_n 2, 1) := by decide +kernel
theorem d_Mo_next_14 : decode Y_Mo_next.2.1 14 = .ok (.iconst (-1), 1) := by decide +kernel
theorem d_Mo_next_15 : decode Y_Mo_next.2.1 15 = .ok (.if_icmp .eq 11, 3) := by decide +kernel
theorem d_Mo_next_18 : decode Y_Mo_next.2.1 18 = .ok (.aload_n 0, 1) := by decide +kernel
theorem d_Mo_next_19 : decode Y_Mo_next.2.1 19 = .ok (.iload_n 2, 1) := by decide +kernel
theorem d_Mo_next_20 : decode Y_Mo_next.2.1 20 = .ok (.invokevirtual 74, 3) := by decide +kernel
theorem d_Mo_next_23 : decode Y_Mo_next.2.1 23 = .ok (.ifCond .ne 8, 3) := by decide +kernel
theorem d_Mo_next_26 : decode Y_Mo_next.2.1 26 = .ok (.iload_n 1, 1) := by decide +kernel
theorem d_Mo_next_27 : decode Y_Mo_next.2.1 27 = .ok (.iload_n 2, 1) := by decide +kernel
theorem d_Mo_next_28 : decode Y_Mo_next.2.1 28 = .ok (.if_icmp .ne 6, 3) := by decide +kernel
theorem d_Mo_next_31 : decode Y_Mo_next.2.1 31 = .ok (.ldc 78, 2) := by decide +kernel
theorem d_Mo_next_33 : decode Y_Mo_next.2.1 33 = .ok (.ireturn, 1) := by decide +kernel
theorem d_Mo_next_34 : decode Y_Mo_next.2.1 34 = .ok (.aload_n 0, 1) := by decide +kernel
theorem d_Mo_next_35 : decode Y_Mo_next.2.1 35 = .ok (.getfield 39, 3) := by decide +kernel
theorem d_Mo_next_38 : decode Y_Mo_next.2.1 38 = .ok (.iload_n 1, 1) := by decide +kernel
theorem d_Mo_next_39 : decode Y_Mo_next.2.1 39 = .ok (.iaload, 1) := by decide +kernel
theorem d_Mo_next_40 : decode Y_Mo_next.2.1 40 = .ok (.istore_n 3, 1) := by decide +kernel
theorem d_Mo_next_41 : decode Y_Mo_next.2.1 41 = .ok (.aload_n 0, 1) := by decide +kernel
theorem d_Mo_next_42 : decode Y_Mo_next.2.1 42 = .ok (.getfield 39, 3) := by decide +kernel
theorem d_Mo_next_45 : decode Y_Mo_next.2.1 45 = .ok (.iload_n 1, 1) := by decide +kernel
theorem d_Mo_next_46 : decode Y_Mo_next.2.1 46 = .ok (.iload_n 2, 1) := by decide +kernel
theorem d_Mo_next_47 : decode Y_Mo_next.2.1 47 = .ok (.iastore, 1) := by decide +kernel
theorem d_Mo_next_48 : decode Y_Mo_next.2.1 48 = .ok (.iload_n 3, 1) := by decide +kernel
theorem d_Mo_next_49 : decode Y_Mo_next.2.1 49 = .ok (.ireturn, 1) := by decide +kernel
theorem d_Mo_circle_0 : decode Y_Mo_circle.2.1 0 = .ok (.aload_n 0, 1) := by decide +kernel
theorem d_Mo_circle_1 : decode Y_Mo_circle.2.1 1 = .ok (.iconst 0, 1) := by decide +kernel
theorem d_Mo_circle_2 : decode Y_Mo_circle.2.1 2 = .ok (.putfield 1, 3) := by decide +kernel
theorem d_Mo_circle_5 : decode Y_Mo_circle.2.1 5 = .ok (.iconst 0, 1) := by decide +kernel
theorem d_Mo_circle_6 : decode Y_Mo_circle.2.1 6 = .ok (.istore_n 2, 1) := by decide +kernel
theorem d_Mo_circle_7 : decode Y_Mo_circle.2.1 7 = .ok (.iconst 0, 1) := by decide +kernel
theorem d_Mo_circle_8 : decode Y_Mo_circle.2.1 8 = .ok (.istore_n 3, 1) := by decide +kernel
theorem d_Mo_circle_9 : decode Y_Mo_circle.2.1 9 = .ok (.iload_n 3, 1) := by decide +kernel
theorem d_Mo_circle_10 : decode Y_Mo_circle.2.1 10 = .ok (.aload_n 0, 1) := by decide +kernel
theorem d_Mo_circle_11 : decode Y_Mo_circle.2.1 11 = .ok (.getfield 13, 3) := by decide +kernel
theorem d_Mo_circle_14 : decode Y_Mo_circle.2.1 14 = .ok (.if_icmp .ge 32, 3) := by decide +kernel
theorem d_Mo_circle_17 : decode Y_Mo_circle.2.1 17 = .ok (.aload_n 0, 1) := by decide +kernel
theorem d_Mo_circle_18 : decode Y_Mo_circle.2.1 18 = .ok (.iload_n 3, 1) := by decide +kernel
theorem d_Mo_circle_19 : decode Y_Mo_circle.2.1 19 = .ok (.invokevirtual 172, 3) := by decide +kernel
theorem d_Mo_circle_22 : decode Y_Mo_circle.2.1 22 = .ok (.istore 4, 2) := by decide +kernel
theorem d_Mo_circle_24 : decode Y_Mo_circle.2.1 24 = .ok (.iload 4, 2) := by decide +kernel
theorem d_Mo_circle_26 : decode Y_Mo_circle.2.1 26 = .ok (.ifCond .eq 14, 3) := by decide +kernel
theorem d_Mo_circle_29 : decode Y_Mo_circle.2.1 29 = .ok (.iload_n 2, 1) := by decide +kernel
theorem d_Mo_circle_30 : decode Y_Mo_circle.2.1 30 = .ok (.iload_n 1, 1) := by decide +kernel
theorem d_Mo_circle_31 : decode Y_Mo_circle.2.1 31 = .ok (.if_icmp .ne 6, 3) := by decide +kernel
theorem d_Mo_circle_34 : decode Y_Mo_circle.2.1 34 = .ok (.iload 4, 2) := by decide +kernel
theorem d_Mo_circle_36 : decode Y_Mo_circle.2.1 36 = .ok (.ireturn, 1) := by decide +kernel
theorem d_Mo_circle_37 : decode Y_Mo_circle.2.1 37 = .ok (.iinc 2 1, 3) := by decide +kernel
theorem d_Mo_circle_40 : decode Y_Mo_circle.2.1 40 = .ok (.iinc 3 1, 3) := by decide +kernel
theorem d_Mo_circle_43 : decode Y_Mo_circle.2.1 43 = .ok (.goto (-34), 3) := by decide +kernel
theorem d_Mo_circle_46 : decode Y_Mo_circle.2.1 46 = .ok (.iload_n 1, 1) := by decide +kernel
theorem d_Mo_circle_47 : decode Y_Mo_circle.2.1 47 = .ok (.iconst (-1), 1) := by decide +kernel
theorem d_Mo_circle_48 : decode Y_Mo_circle.2.1 48 = .ok (.if_icmp .ne 7, 3) := by decide +kernel
theorem d_Mo_circle_51 : decode Y_Mo_circle.2.1 51 = .ok (.iload_n 2, 1) := by decide +kernel
theorem d_Mo_circle_52 : decode Y_Mo_circle.2.1 52 = .ok (.goto 5, 3) := by decide +kernel
theorem d_Mo_circle_55 : decode Y_Mo_circle.2.1 55 = .ok (.ldc 78, 2) := by decide +kernel
theorem d_Mo_circle_57 : decode Y_Mo_circle.2.1 57 = .ok (.ireturn, 1) := by decide +kernel
theorem d_Mo_circleOf_0 : decode Y_Mo_circleOf.2.1 0 = .ok (.iconst 0, 1) := by decide +kernel
theorem d_Mo_circleOf_1 : decode Y_Mo_circleOf.2.1 1 = .ok (.istore_n 2, 1) := by decide +kernel
theorem d_Mo_circleOf_2 : decode Y_Mo_circleOf.2.1 2 = .ok (.iload_n 1, 1) := by decide +kernel
theorem d_Mo_circleOf_3 : decode Y_Mo_circleOf.2.1 3 = .ok (.istore_n 3, 1) := by decide +kernel
theorem d_Mo_circleOf_4 : decode Y_Mo_circleOf.2.1 4 = .ok (.iconst 0, 1) := by decide +kernel
theorem d_Mo_circleOf_5 : decode Y_Mo_circleOf.2.1 5 = .ok (.istore 4, 2) := by decide +kernel
theorem d_Mo_circleOf_7 : decode Y_Mo_circleOf.2.1 7 = .ok (.iload 4, 2) := by decide +kernel
theorem d_Mo_circleOf_9 : decode Y_Mo_circleOf.2.1 9 = .ok (.bipush 9, 2) := by decide +kernel
theorem d_Mo_circleOf_11 : decode Y_Mo_circleOf.2.1 11 = .ok (.if_icmp .ge 34, 3) := by decide +kernel
theorem d_Mo_circleOf_14 : decode Y_Mo_circleOf.2.1 14 = .ok (.iload_n 3, 1) := by decide +kernel
theorem d_Mo_circleOf_15 : decode Y_Mo_circleOf.2.1 15 = .ok (.iload_n 1, 1) := by decide +kernel
theorem d_Mo_circleOf_16 : decode Y_Mo_circleOf.2.1 16 = .ok (.if_icmp .lt 29, 3) := by decide +kernel
theorem d_Mo_circleOf_19 : decode Y_Mo_circleOf.2.1 19 = .ok (.iload_n 2, 1) := by decide +kernel
theorem d_Mo_circleOf_20 : decode Y_Mo_circleOf.2.1 20 = .ok (.iconst 1, 1) := by decide +kernel
theorem d_Mo_circleOf_21 : decode Y_Mo_circleOf.2.1 21 = .ok (.iload_n 3, 1) := by decide +kernel
theorem d_Mo_circleOf_22 : decode Y_Mo_circleOf.2.1 22 = .ok (.ishl, 1) := by decide +kernel
theorem d_Mo_circleOf_23 : decode Y_Mo_circleOf.2.1 23 = .ok (.ior, 1) := by decide +kernel
theorem d_Mo_circleOf_24 : decode Y_Mo_circleOf.2.1 24 = .ok (.istore_n 2, 1) := by decide +kernel
theorem d_Mo_circleOf_25 : decode Y_Mo_circleOf.2.1 25 = .ok (.aload_n 0, 1) := by decide +kernel
theorem d_Mo_circleOf_26 : decode Y_Mo_circleOf.2.1 26 = .ok (.getfield 39, 3) := by decide +kernel
theorem d_Mo_circleOf_29 : decode Y_Mo_circleOf.2.1 29 = .ok (.iload_n 3, 1) := by decide +kernel
theorem d_Mo_circleOf_30 : decode Y_Mo_circleOf.2.1 30 = .ok (.iaload, 1) := by decide +kernel
theorem d_Mo_circleOf_31 : decode Y_Mo_circleOf.2.1 31 = .ok (.istore_n 3, 1) := by decide +kernel
theorem d_Mo_circleOf_32 : decode Y_Mo_circleOf.2.1 32 = .ok (.iload_n 3, 1) := by decide +kernel
theorem d_Mo_circleOf_33 : decode Y_Mo_circleOf.2.1 33 = .ok (.iload_n 1, 1) := by decide +kernel
theorem d_Mo_circleOf_34 : decode Y_Mo_circleOf.2.1 34 = .ok (.if_icmp .ne 5, 3) := by decide +kernel
theorem d_Mo_circleOf_37 : decode Y_Mo_circleOf.2.1 37 = .ok (.iload_n 2, 1) := by decide +kernel
theorem d_Mo_circleOf_38 : decode Y_Mo_circleOf.2.1 38 = .ok (.ireturn, 1) := by decide +kernel
theorem d_Mo_circleOf_39 : decode Y_Mo_circleOf.2.1 39 = .ok (.iinc 4 1, 3) := by decide +kernel
theorem d_Mo_circleOf_42 : decode Y_Mo_circleOf.2.1 42 = .ok (.goto (-35), 3) := by decide +kernel
theorem d_Mo_circleOf_45 : decode Y_Mo_circleOf.2.1 45 = .ok (.iconst 0, 1) := by decide +kernel
theorem d_Mo_circleOf_46 : decode Y_Mo_circleOf.2.1 46 = .ok (.ireturn, 1) := by decide +kernel
theorem d_Mo_nearest_0 : decode Y_Mo_nearest.2.1 0 = .ok (.aload_n 0, 1) := by decide +kernel
theorem d_Mo_nearest_1 : decode Y_Mo_nearest.2.1 1 = .ok (.iconst 0, 1) := by decide +kernel
theorem d_Mo_nearest_2 : decode Y_Mo_nearest.2.1 2 = .ok (.putfield 1, 3) := by decide +kernel
theorem d_Mo_nearest_5 : decode Y_Mo_nearest.2.1 5 = .ok (.aload_n 0, 1) := by decide +kernel
theorem d_Mo_nearest_6 : decode Y_Mo_nearest.2.1 6 = .ok (.iload_n 1, 1) := by decide +kernel
theorem d_Mo_nearest_7 : decode Y_Mo_nearest.2.1 7 = .ok (.invokevirtual 74, 3) := by decide +kernel
theorem d_Mo_nearest_10 : decode Y_Mo_nearest.2.1 10 = .ok (.ifCond .eq 6, 3) := by decide +kernel
theorem d_Mo_nearest_13 : decode Y_Mo_nearest.2.1 13 = .ok (.ldc 78, 2) := by decide +kernel
theorem d_Mo_nearest_15 : decode Y_Mo_nearest.2.1 15 = .ok (.ireturn, 1) := by decide +kernel
theorem d_Mo_nearest_16 : decode Y_Mo_nearest.2.1 16 = .ok (.iconst 0, 1) := by decide +kernel
theorem d_Mo_nearest_17 : decode Y_Mo_nearest.2.1 17 = .ok (.istore_n 2, 1) := by decide +kernel
theorem d_Mo_nearest_18 : decode Y_Mo_nearest.2.1 18 = .ok (.iload_n 2, 1) := by decide +kernel
theorem d_Mo_nearest_19 : decode Y_Mo_nearest.2.1 19 = .ok (.aload_n 0, 1) := by decide +kernel
theorem d_Mo_nearest_20 : decode Y_Mo_nearest.2.1 20 = .ok (.getfield 13, 3) := by decide +kernel
theorem d_Mo_nearest_23 : decode Y_Mo_nearest.2.1 23 = .ok (.if_icmp .ge 76, 3) := by decide +kernel
theorem d_Mo_nearest_26 : decode Y_Mo_nearest.2.1 26 = .ok (.aload_n 0, 1) := by decide +kernel
theorem d_Mo_nearest_27 : decode Y_Mo_nearest.2.1 27 = .ok (.iload_n 2, 1) := by decide +kernel
theorem d_Mo_nearest_28 : decode Y_Mo_nearest.2.1 28 = .ok (.iload_n 1, 1) := by decide +kernel
theorem d_Mo_nearest_29 : decode Y_Mo_nearest.2.1 29 = .ok (.invokevirtual 178, 3) := by decide +kernel
theorem d_Mo_nearest_32 : decode Y_Mo_nearest.2.1 32 = .ok (.istore_n 3, 1) := by decide +kernel
theorem d_Mo_nearest_33 : decode Y_Mo_nearest.2.1 33 = .ok (.iconst 0, 1) := by decide +kernel
theorem d_Mo_nearest_34 : decode Y_Mo_nearest.2.1 34 = .ok (.istore 4, 2) := by decide +kernel
theorem d_Mo_nearest_36 : decode Y_Mo_nearest.2.1 36 = .ok (.iload 4, 2) := by decide +kernel
theorem d_Mo_nearest_38 : decode Y_Mo_nearest.2.1 38 = .ok (.aload_n 0, 1) := by decide +kernel
theorem d_Mo_nearest_39 : decode Y_Mo_nearest.2.1 39 = .ok (.getfield 13, 3) := by decide +kernel
theorem d_Mo_nearest_42 : decode Y_Mo_nearest.2.1 42 = .ok (.if_icmp .ge 45, 3) := by decide +kernel
theorem d_Mo_nearest_45 : decode Y_Mo_nearest.2.1 45 = .ok (.iload_n 3, 1) := by decide +kernel
theorem d_Mo_nearest_46 : decode Y_Mo_nearest.2.1 46 = .ok (.ifCond .eq 41, 3) := by decide +kernel
theorem d_Mo_nearest_49 : decode Y_Mo_nearest.2.1 49 = .ok (.iload 4, 2) := by decide +kernel
theorem d_Mo_nearest_51 : decode Y_Mo_nearest.2.1 51 = .ok (.iload_n 2, 1) := by decide +kernel
theorem d_Mo_nearest_52 : decode Y_Mo_nearest.2.1 52 = .ok (.if_icmp .eq 23, 3) := by decide +kernel
theorem d_Mo_nearest_55 : decode Y_Mo_nearest.2.1 55 = .ok (.aload_n 0, 1) := by decide +kernel
theorem d_Mo_nearest_56 : decode Y_Mo_nearest.2.1 56 = .ok (.iload 4, 2) := by decide +kernel
theorem d_Mo_nearest_58 : decode Y_Mo_nearest.2.1 58 = .ok (.iload_n 1, 1) := by decide +kernel
theorem d_Mo_nearest_59 : decode Y_Mo_nearest.2.1 59 = .ok (.invokevirtual 178, 3) := by decide +kernel
theorem d_Mo_nearest_62 : decode Y_Mo_nearest.2.1 62 = .ok (.ifCond .eq 13, 3) := by decide +kernel
theorem d_Mo_nearest_65 : decode Y_Mo_nearest.2.1 65 = .ok (.aload_n 0, 1) := by decide +kernel
theorem d_Mo_nearest_66 : decode Y_Mo_nearest.2.1 66 = .ok (.iload 4, 2) := by decide +kernel
theorem d_Mo_nearest_68 : decode Y_Mo_nearest.2.1 68 = .ok (.iload_n 2, 1) := by decide +kernel
theorem d_Mo_nearest_69 : decode Y_Mo_nearest.2.1 69 = .ok (.invokevirtual 178, 3) := by decide +kernel
theorem d_Mo_nearest_72 : decode Y_Mo_nearest.2.1 72 = .ok (.ifCond .eq 7, 3) := by decide +kernel
theorem d_Mo_nearest_75 : decode Y_Mo_nearest.2.1 75 = .ok (.iconst 1, 1) := by decide +kernel
theorem d_Mo_nearest_76 : decode Y_Mo_nearest.2.1 76 = .ok (.goto 4, 3) := by decide +kernel
theorem d_Mo_nearest_79 : decode Y_Mo_nearest.2.1 79 = .ok (.iconst 0, 1) := by decide +kernel
theorem d_Mo_nearest_80 : decode Y_Mo_nearest.2.1 80 = .ok (.istore_n 3, 1) := by decide +kernel
theorem d_Mo_nearest_81 : decode Y_Mo_nearest.2.1 81 = .ok (.iinc 4 1, 3) := by decide +kernel
theorem d_Mo_nearest_84 : decode Y_Mo_nearest.2.1 84 = .ok (.goto (-48), 3) := by decide +kernel
theorem d_Mo_nearest_87 : decode Y_Mo_nearest.2.1 87 = .ok (.iload_n 3, 1) := by decide +kernel
theorem d_Mo_nearest_88 : decode Y_Mo_nearest.2.1 88 = .ok (.ifCond .eq 5, 3) := by decide +kernel
theorem d_Mo_nearest_91 : decode Y_Mo_nearest.2.1 91 = .ok (.iload_n 2, 1) := by decide +kernel
theorem d_Mo_nearest_92 : decode Y_Mo_nearest.2.1 92 = .ok (.ireturn, 1) := by decide +kernel
theorem d_Mo_nearest_93 : decode Y_Mo_nearest.2.1 93 = .ok (.iinc 2 1, 3) := by decide +kernel
theorem d_Mo_nearest_96 : decode Y_Mo_nearest.2.1 96 = .ok (.goto (-78), 3) := by decide +kernel
theorem d_Mo_nearest_99 : decode Y_Mo_nearest.2.1 99 = .ok (.ldc 88, 2) := by decide +kernel
theorem d_Mo_nearest_101 : decode Y_Mo_nearest.2.1 101 = .ok (.ireturn, 1) := by decide +kernel
theorem d_Mo_leads_0 : decode Y_Mo_leads.2.1 0 = .ok (.iload_n 1, 1) := by decide +kernel
theorem d_Mo_leads_1 : decode Y_Mo_leads.2.1 1 = .ok (.iload_n 2, 1) := by decide +kernel
theorem d_Mo_leads_2 : decode Y_Mo_leads.2.1 2 = .ok (.if_icmp .eq 36, 3) := by decide +kernel
theorem d_Mo_leads_5 : decode Y_Mo_leads.2.1 5 = .ok (.iload_n 2, 1) := by decide +kernel
theorem d_Mo_leads_6 : decode Y_Mo_leads.2.1 6 = .ok (.ifCond .eq 32, 3) := by decide +kernel
theorem d_Mo_leads_9 : decode Y_Mo_leads.2.1 9 = .ok (.aload_n 0, 1) := by decide +kernel
theorem d_Mo_leads_10 : decode Y_Mo_leads.2.1 10 = .ok (.iconst (-1), 1) := by decide +kernel
theorem d_Mo_leads_11 : decode Y_Mo_leads.2.1 11 = .ok (.invokevirtual 175, 3) := by decide +kernel
theorem d_Mo_leads_14 : decode Y_Mo_leads.2.1 14 = .ok (.iload_n 2, 1) := by decide +kernel
theorem d_Mo_leads_15 : decode Y_Mo_leads.2.1 15 = .ok (.ishr, 1) := by decide +kernel
theorem d_Mo_leads_16 : decode Y_Mo_leads.2.1 16 = .ok (.iconst 1, 1) := by decide +kernel
theorem d_Mo_leads_17 : decode Y_Mo_leads.2.1 17 = .ok (.iand, 1) := by decide +kernel
theorem d_Mo_leads_18 : decode Y_Mo_leads.2.1 18 = .ok (.iconst 1, 1) := by decide +kernel
