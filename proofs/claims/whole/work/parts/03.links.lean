abbrev zY : Type := MethodName × ByteArray × Nat × Option FieldType × String
def zWm (Y : zY) : Prop := Cond.code Y.1 Y.2.1 Y.2.2.1 Y.2.2.2.1 ∈ zt ∧ Cond.initialized Y.1.cls ∈ zt ∧ (Y.1.cls ≠ "java/lang/invoke/MethodHandle" ∧ Y.1.cls ≠ "java/lang/invoke/VarHandle") ∧ plainName Y.1.cls = true
def zWv (Y : zY) : Prop := zWm Y ∧ Cond.instanceMethod Y.1 ∈ zt ∧ Cond.selects Y.1.cls Y.1 Y.1 ∈ zt
def zWs (Y : zY) : Prop := zWm Y ∧ Cond.static Y.1 ∈ zt
def zWi (Y : zY) : Prop := zWm Y ∧ Cond.instanceMethod Y.1 ∈ zt ∧ Y.1.name = "<init>"
abbrev Y_La_law : zY := (⟨"CircuitWaysLaw", "law", "([I)Z"⟩, code, 4, some .boolean, "CircuitWaysLaw")
abbrev Y_CW_init : zY := (⟨"CircuitWays", "<init>", "()V"⟩, prog_1_method_1_code, 2, none, "CircuitWays")
set_option maxRecDepth 20000 in
theorem k_CW_init : zWi Y_CW_init := ⟨⟨zt_mem (List.mem_of_getElem? (i := 58) rfl) rfl, zt_mem (List.mem_of_getElem? (i := 40) (by decide +kernel)) rfl, by decide +kernel, by decide +kernel⟩, zt_mem (List.mem_of_getElem? (i := 57) (by decide +kernel)) rfl, rfl⟩
abbrev Y_Net_init : zY := (⟨"CircuitWays$Net", "<init>", "()V"⟩, prog_4_method_1_code, 2, none, "CircuitWays$Net")
set_option maxRecDepth 20000 in
theorem k_Net_init : zWi Y_Net_init := ⟨⟨zt_mem (List.mem_of_getElem? (i := 66) rfl) rfl, zt_mem (List.mem_of_getElem? (i := 41) (by decide +kernel)) rfl, by decide +kernel, by decide +kernel⟩, zt_mem (List.mem_of_getElem? (i := 65) (by decide +kernel)) rfl, rfl⟩
abbrev Y_Pat_init : zY := (⟨"CircuitWays$Paths", "<init>", "(LCircuitWays$Net;)V"⟩, prog_6_method_1_code, 2, none, "CircuitWays$Paths")
set_option maxRecDepth 20000 in
theorem k_Pat_init : zWi Y_Pat_init := ⟨⟨zt_mem (List.mem_of_getElem? (i := 133) rfl) rfl, zt_mem (List.mem_of_getElem? (i := 42) (by decide +kernel)) rfl, by decide +kernel, by decide +kernel⟩, zt_mem (List.mem_of_getElem? (i := 132) (by decide +kernel)) rfl, rfl⟩
abbrev Y_Sha_init : zY := (⟨"CircuitWays$Shares", "<init>", "(LCircuitWays$Net;LCircuitWays$Paths;)V"⟩, prog_8_method_1_code, 3, none, "CircuitWays$Shares")
set_option maxRecDepth 20000 in
theorem k_Sha_init : zWi Y_Sha_init := ⟨⟨zt_mem (List.mem_of_getElem? (i := 165) rfl) rfl, zt_mem (List.mem_of_getElem? (i := 43) (by decide +kernel)) rfl, by decide +kernel, by decide +kernel⟩, zt_mem (List.mem_of_getElem? (i := 164) (by decide +kernel)) rfl, rfl⟩
abbrev Y_Tai_init : zY := (⟨"CircuitWays$Tails", "<init>", "(LCircuitWays$Net;LCircuitWays$Paths;LCircuitWays$Shares;)V"⟩, prog_9_method_1_code, 4, none, "CircuitWays$Tails")
set_option maxRecDepth 20000 in
theorem k_Tai_init : zWi Y_Tai_init := ⟨⟨zt_mem (List.mem_of_getElem? (i := 196) rfl) rfl, zt_mem (List.mem_of_getElem? (i := 44) (by decide +kernel)) rfl, by decide +kernel, by decide +kernel⟩, zt_mem (List.mem_of_getElem? (i := 195) (by decide +kernel)) rfl, rfl⟩
abbrev Y_Fir_init : zY := (⟨"CircuitWays$FirstPlan", "<init>", "(LCircuitWays$Net;LCircuitWays$Shares;LCircuitWays$Tails;)V"⟩, prog_3_method_1_code, 4, none, "CircuitWays$FirstPlan")
set_option maxRecDepth 20000 in
theorem k_Fir_init : zWi Y_Fir_init := ⟨⟨zt_mem (List.mem_of_getElem? (i := 228) rfl) rfl, zt_mem (List.mem_of_getElem? (i := 45) (by decide +kernel)) rfl, by decide +kernel, by decide +kernel⟩, zt_mem (List.mem_of_getElem? (i := 227) (by decide +kernel)) rfl, rfl⟩
abbrev Y_Tre_init : zY := (⟨"CircuitWays$Tree", "<init>", "(LCircuitWays$Net;)V"⟩, prog_10_method_1_code, 2, none, "CircuitWays$Tree")
set_option maxRecDepth 20000 in
theorem k_Tre_init : zWi Y_Tre_init := ⟨⟨zt_mem (List.mem_of_getElem? (i := 261) rfl) rfl, zt_mem (List.mem_of_getElem? (i := 46) (by decide +kernel)) rfl, by decide +kernel, by decide +kernel⟩, zt_mem (List.mem_of_getElem? (i := 260) (by decide +kernel)) rfl, rfl⟩
abbrev Y_Pai_init : zY := (⟨"CircuitWays$Pairs", "<init>", "(LCircuitWays$Net;)V"⟩, prog_5_method_1_code, 2, none, "CircuitWays$Pairs")
set_option maxRecDepth 20000 in
theorem k_Pai_init : zWi Y_Pai_init := ⟨⟨zt_mem (List.mem_of_getElem? (i := 292) rfl) rfl, zt_mem (List.mem_of_getElem? (i := 47) (by decide +kernel)) rfl, by decide +kernel, by decide +kernel⟩, zt_mem (List.mem_of_getElem? (i := 291) (by decide +kernel)) rfl, rfl⟩
abbrev Y_Cir_init : zY := (⟨"CircuitWays$Circles", "<init>", "(LCircuitWays$Net;)V"⟩, prog_2_method_1_code, 3, none, "CircuitWays$Circles")
set_option maxRecDepth 20000 in
theorem k_Cir_init : zWi Y_Cir_init := ⟨⟨zt_mem (List.mem_of_getElem? (i := 305) rfl) rfl, zt_mem (List.mem_of_getElem? (i := 48) (by decide +kernel)) rfl, by decide +kernel, by decide +kernel⟩, zt_mem (List.mem_of_getElem? (i := 304) (by decide +kernel)) rfl, rfl⟩
abbrev Y_Way_init : zY := (⟨"CircuitWays$Ways", "<init>", "(LCircuitWays$Net;)V"⟩, prog_11_method_1_code, 2, none, "CircuitWays$Ways")
set_option maxRecDepth 20000 in
theorem k_Way_init : zWi Y_Way_init := ⟨⟨zt_mem (List.mem_of_getElem? (i := 322) rfl) rfl, zt_mem (List.mem_of_getElem? (i := 49) (by decide +kernel)) rfl, by decide +kernel, by decide +kernel⟩, zt_mem (List.mem_of_getElem? (i := 321) (by decide +kernel)) rfl, rfl⟩
abbrev Y_Row_init : zY := (⟨"CircuitWays$Row", "<init>", "(LCircuitWays$Net;)V"⟩, prog_7_method_1_code, 2, none, "CircuitWays$Row")
set_option maxRecDepth 20000 in
theorem k_Row_init : zWi Y_Row_init := ⟨⟨zt_mem (List.mem_of_getElem? (i := 335) rfl) rfl, zt_mem (List.mem_of_getElem? (i := 50) (by decide +kernel)) rfl, by decide +kernel, by decide +kernel⟩, zt_mem (List.mem_of_getElem? (i := 334) (by decide +kernel)) rfl, rfl⟩
abbrev Y_CW_node : zY := (⟨"CircuitWays", "node", "(I)I"⟩, prog_1_method_2_code, 2, (some .int), "CircuitWays")
set_option maxRecDepth 20000 in
theorem k_CW_node : zWv Y_CW_node := ⟨⟨zt_mem (List.mem_of_getElem? (i := 382) rfl) rfl, zt_mem (List.mem_of_getElem? (i := 40) (by decide +kernel)) rfl, by decide +kernel, by decide +kernel⟩, zt_mem (List.mem_of_getElem? (i := 380) (by decide +kernel)) rfl, zt_mem (List.mem_of_getElem? (i := 381) (by decide +kernel)) rfl⟩
abbrev Y_Net_addNode : zY := (⟨"CircuitWays$Net", "addNode", "(I)I"⟩, prog_4_method_6_code, 3, (some .int), "CircuitWays$Net")
set_option maxRecDepth 20000 in
theorem k_Net_addNode : zWv Y_Net_addNode := ⟨⟨zt_mem (List.mem_of_getElem? (i := 388) rfl) rfl, zt_mem (List.mem_of_getElem? (i := 41) (by decide +kernel)) rfl, by decide +kernel, by decide +kernel⟩, zt_mem (List.mem_of_getElem? (i := 386) (by decide +kernel)) rfl, zt_mem (List.mem_of_getElem? (i := 387) (by decide +kernel)) rfl⟩
abbrev Y_CW_arc : zY := (⟨"CircuitWays", "arc", "(III)I"⟩, prog_1_method_3_code, 4, (some .int), "CircuitWays")
set_option maxRecDepth 20000 in
theorem k_CW_arc : zWv Y_CW_arc := ⟨⟨zt_mem (List.mem_of_getElem? (i := 392) rfl) rfl, zt_mem (List.mem_of_getElem? (i := 40) (by decide +kernel)) rfl, by decide +kernel, by decide +kernel⟩, zt_mem (List.mem_of_getElem? (i := 390) (by decide +kernel)) rfl, zt_mem (List.mem_of_getElem? (i := 391) (by decide +kernel)) rfl⟩
abbrev Y_Net_areTwo : zY := (⟨"CircuitWays$Net", "areTwo", "(II)Z"⟩, prog_4_method_4_code, 3, (some .boolean), "CircuitWays$Net")
set_option maxRecDepth 20000 in
theorem k_Net_areTwo : zWv Y_Net_areTwo := ⟨⟨zt_mem (List.mem_of_getElem? (i := 396) rfl) rfl, zt_mem (List.mem_of_getElem? (i := 41) (by decide +kernel)) rfl, by decide +kernel, by decide +kernel⟩, zt_mem (List.mem_of_getElem? (i := 394) (by decide +kernel)) rfl, zt_mem (List.mem_of_getElem? (i := 395) (by decide +kernel)) rfl⟩
abbrev Y_Net_isNode : zY := (⟨"CircuitWays$Net", "isNode", "(I)Z"⟩, prog_4_method_2_code, 2, (some .boolean), "CircuitWays$Net")
set_option maxRecDepth 20000 in
theorem k_Net_isNode : zWv Y_Net_isNode := ⟨⟨zt_mem (List.mem_of_getElem? (i := 400) rfl) rfl, zt_mem (List.mem_of_getElem? (i := 41) (by decide +kernel)) rfl, by decide +kernel, by decide +kernel⟩, zt_mem (List.mem_of_getElem? (i := 398) (by decide +kernel)) rfl, zt_mem (List.mem_of_getElem? (i := 399) (by decide +kernel)) rfl⟩
abbrev Y_Net_changeCost : zY := (⟨"CircuitWays$Net", "changeCost", "(III)I"⟩, prog_4_method_7_code, 5, (some .int), "CircuitWays$Net")
set_option maxRecDepth 20000 in
theorem k_Net_changeCost : zWv Y_Net_changeCost := ⟨⟨zt_mem (List.mem_of_getElem? (i := 404) rfl) rfl, zt_mem (List.mem_of_getElem? (i := 41) (by decide +kernel)) rfl, by decide +kernel, by decide +kernel⟩, zt_mem (List.mem_of_getElem? (i := 402) (by decide +kernel)) rfl, zt_mem (List.mem_of_getElem? (i := 403) (by decide +kernel)) rfl⟩
abbrev Y_CW_orNone : zY := (⟨"CircuitWays", "orNone", "(I)I"⟩, prog_1_method_27_code, 1, (some .int), "CircuitWays")
set_option maxRecDepth 20000 in
theorem k_CW_orNone : zWs Y_CW_orNone := ⟨⟨zt_mem (List.mem_of_getElem? (i := 407) rfl) rfl, zt_mem (List.mem_of_getElem? (i := 40) (by decide +kernel)) rfl, by decide +kernel, by decide +kernel⟩, zt_mem (List.mem_of_getElem? (i := 406) (by decide +kernel)) rfl⟩
abbrev Y_CW_lose : zY := (⟨"CircuitWays", "lose", "(II)I"⟩, prog_1_method_4_code, 3, (some .int), "CircuitWays")
set_option maxRecDepth 20000 in
theorem k_CW_lose : zWv Y_CW_lose := ⟨⟨zt_mem (List.mem_of_getElem? (i := 413) rfl) rfl, zt_mem (List.mem_of_getElem? (i := 40) (by decide +kernel)) rfl, by decide +kernel, by decide +kernel⟩, zt_mem (List.mem_of_getElem? (i := 411) (by decide +kernel)) rfl, zt_mem (List.mem_of_getElem? (i := 412) (by decide +kernel)) rfl⟩
abbrev Y_CW_price : zY := (⟨"CircuitWays", "price", "(II)I"⟩, prog_1_method_5_code, 3, (some .int), "CircuitWays")
set_option maxRecDepth 20000 in
theorem k_CW_price : zWv Y_CW_price := ⟨⟨zt_mem (List.mem_of_getElem? (i := 417) rfl) rfl, zt_mem (List.mem_of_getElem? (i := 40) (by decide +kernel)) rfl, by decide +kernel, by decide +kernel⟩, zt_mem (List.mem_of_getElem? (i := 415) (by decide +kernel)) rfl, zt_mem (List.mem_of_getElem? (i := 416) (by decide +kernel)) rfl⟩
abbrev Y_Net_isPlace : zY := (⟨"CircuitWays$Net", "isPlace", "(I)Z"⟩, prog_4_method_3_code, 2, (some .boolean), "CircuitWays$Net")
set_option maxRecDepth 20000 in
theorem k_Net_isPlace : zWv Y_Net_isPlace := ⟨⟨zt_mem (List.mem_of_getElem? (i := 421) rfl) rfl, zt_mem (List.mem_of_getElem? (i := 41) (by decide +kernel)) rfl, by decide +kernel, by decide +kernel⟩, zt_mem (List.mem_of_getElem? (i := 419) (by decide +kernel)) rfl, zt_mem (List.mem_of_getElem? (i := 420) (by decide +kernel)) rfl⟩
abbrev Y_Net_changePrice : zY := (⟨"CircuitWays$Net", "changePrice", "(II)I"⟩, prog_4_method_8_code, 4, (some .int), "CircuitWays$Net")
set_option maxRecDepth 20000 in
theorem k_Net_changePrice : zWv Y_Net_changePrice := ⟨⟨zt_mem (List.mem_of_getElem? (i := 425) rfl) rfl, zt_mem (List.mem_of_getElem? (i := 41) (by decide +kernel)) rfl, by decide +kernel, by decide +kernel⟩, zt_mem (List.mem_of_getElem? (i := 423) (by decide +kernel)) rfl, zt_mem (List.mem_of_getElem? (i := 424) (by decide +kernel)) rfl⟩
abbrev Y_CW_ahead : zY := (⟨"CircuitWays", "ahead", "(IIZ)I"⟩, prog_1_method_6_code, 4, (some .int), "CircuitWays")
set_option maxRecDepth 20000 in
theorem k_CW_ahead : zWv Y_CW_ahead := ⟨⟨zt_mem (List.mem_of_getElem? (i := 429) rfl) rfl, zt_mem (List.mem_of_getElem? (i := 40) (by decide +kernel)) rfl, by decide +kernel, by decide +kernel⟩, zt_mem (List.mem_of_getElem? (i := 427) (by decide +kernel)) rfl, zt_mem (List.mem_of_getElem? (i := 428) (by decide +kernel)) rfl⟩
abbrev Y_Net_changeEarlier : zY := (⟨"CircuitWays$Net", "changeEarlier", "(IIZ)I"⟩, prog_4_method_9_code, 5, (some .int), "CircuitWays$Net")
set_option maxRecDepth 20000 in
theorem k_Net_changeEarlier : zWv Y_Net_changeEarlier := ⟨⟨zt_mem (List.mem_of_getElem? (i := 433) rfl) rfl, zt_mem (List.mem_of_getElem? (i := 41) (by decide +kernel)) rfl, by decide +kernel, by decide +kernel⟩, zt_mem (List.mem_of_getElem? (i := 431) (by decide +kernel)) rfl, zt_mem (List.mem_of_getElem? (i := 432) (by decide +kernel)) rfl⟩
abbrev Y_CW_bit : zY := (⟨"CircuitWays", "bit", "(I)I"⟩, prog_1_method_29_code, 1, (some .int), "CircuitWays")
set_option maxRecDepth 20000 in
theorem k_CW_bit : zWs Y_CW_bit := ⟨⟨zt_mem (List.mem_of_getElem? (i := 436) rfl) rfl, zt_mem (List.mem_of_getElem? (i := 40) (by decide +kernel)) rfl, by decide +kernel, by decide +kernel⟩, zt_mem (List.mem_of_getElem? (i := 435) (by decide +kernel)) rfl⟩
abbrev Y_CW_rule : zY := (⟨"CircuitWays", "rule", "(II)I"⟩, prog_1_method_7_code, 3, (some .int), "CircuitWays")
set_option maxRecDepth 20000 in
theorem k_CW_rule : zWv Y_CW_rule := ⟨⟨zt_mem (List.mem_of_getElem? (i := 440) rfl) rfl, zt_mem (List.mem_of_getElem? (i := 40) (by decide +kernel)) rfl, by decide +kernel, by decide +kernel⟩, zt_mem (List.mem_of_getElem? (i := 438) (by decide +kernel)) rfl, zt_mem (List.mem_of_getElem? (i := 439) (by decide +kernel)) rfl⟩
abbrev Y_Net_changeMost : zY := (⟨"CircuitWays$Net", "changeMost", "(I)I"⟩, prog_4_method_10_code, 3, (some .int), "CircuitWays$Net")
set_option maxRecDepth 20000 in
theorem k_Net_changeMost : zWv Y_Net_changeMost := ⟨⟨zt_mem (List.mem_of_getElem? (i := 444) rfl) rfl, zt_mem (List.mem_of_getElem? (i := 41) (by decide +kernel)) rfl, by decide +kernel, by decide +kernel⟩, zt_mem (List.mem_of_getElem? (i := 442) (by decide +kernel)) rfl, zt_mem (List.mem_of_getElem? (i := 443) (by decide +kernel)) rfl⟩
abbrev Y_Net_changeRoom : zY := (⟨"CircuitWays$Net", "changeRoom", "(I)I"⟩, prog_4_method_11_code, 3, (some .int), "CircuitWays$Net")
set_option maxRecDepth 20000 in
theorem k_Net_changeRoom : zWv Y_Net_changeRoom := ⟨⟨zt_mem (List.mem_of_getElem? (i := 448) rfl) rfl, zt_mem (List.mem_of_getElem? (i := 41) (by decide +kernel)) rfl, by decide +kernel, by decide +kernel⟩, zt_mem (List.mem_of_getElem? (i := 446) (by decide +kernel)) rfl, zt_mem (List.mem_of_getElem? (i := 447) (by decide +kernel)) rfl⟩
abbrev Y_Net_changeOpen : zY := (⟨"CircuitWays$Net", "changeOpen", "(I)I"⟩, prog_4_method_12_code, 3, (some .int), "CircuitWays$Net")
set_option maxRecDepth 20000 in
theorem k_Net_changeOpen : zWv Y_Net_changeOpen := ⟨⟨zt_mem (List.mem_of_getElem? (i := 452) rfl) rfl, zt_mem (List.mem_of_getElem? (i := 41) (by decide +kernel)) rfl, by decide +kernel, by decide +kernel⟩, zt_mem (List.mem_of_getElem? (i := 450) (by decide +kernel)) rfl, zt_mem (List.mem_of_getElem? (i := 451) (by decide +kernel)) rfl⟩
abbrev Y_CW_best : zY := (⟨"CircuitWays", "best", "()I"⟩, prog_1_method_8_code, 1, (some .int), "CircuitWays")
set_option maxRecDepth 20000 in
theorem k_CW_best : zWv Y_CW_best := ⟨⟨zt_mem (List.mem_of_getElem? (i := 456) rfl) rfl, zt_mem (List.mem_of_getElem? (i := 40) (by decide +kernel)) rfl, by decide +kernel, by decide +kernel⟩, zt_mem (List.mem_of_getElem? (i := 454) (by decide +kernel)) rfl, zt_mem (List.mem_of_getElem? (i := 455) (by decide +kernel)) rfl⟩
abbrev Y_Sha_refresh : zY := (⟨"CircuitWays$Shares", "refresh", "()V"⟩, prog_8_method_2_code, 4, none, "CircuitWays$Shares")
set_option maxRecDepth 20000 in
theorem k_Sha_refresh : zWv Y_Sha_refresh := ⟨⟨zt_mem (List.mem_of_getElem? (i := 460) rfl) rfl, zt_mem (List.mem_of_getElem? (i := 43) (by decide +kernel)) rfl, by decide +kernel, by decide +kernel⟩, zt_mem (List.mem_of_getElem? (i := 458) (by decide +kernel)) rfl, zt_mem (List.mem_of_getElem? (i := 459) (by decide +kernel)) rfl⟩
abbrev Y_Pat_compute : zY := (⟨"CircuitWays$Paths", "compute", "()V"⟩, prog_6_method_2_code, 4, none, "CircuitWays$Paths")
set_option maxRecDepth 20000 in
theorem k_Pat_compute : zWv Y_Pat_compute := ⟨⟨zt_mem (List.mem_of_getElem? (i := 464) rfl) rfl, zt_mem (List.mem_of_getElem? (i := 42) (by decide +kernel)) rfl, by decide +kernel, by decide +kernel⟩, zt_mem (List.mem_of_getElem? (i := 462) (by decide +kernel)) rfl, zt_mem (List.mem_of_getElem? (i := 463) (by decide +kernel)) rfl⟩
abbrev Y_Pat_addLoads : zY := (⟨"CircuitWays$Paths", "addLoads", "()V"⟩, prog_6_method_4_code, 3, none, "CircuitWays$Paths")
set_option maxRecDepth 20000 in
theorem k_Pat_addLoads : zWv Y_Pat_addLoads := ⟨⟨zt_mem (List.mem_of_getElem? (i := 468) rfl) rfl, zt_mem (List.mem_of_getElem? (i := 42) (by decide +kernel)) rfl, by decide +kernel, by decide +kernel⟩, zt_mem (List.mem_of_getElem? (i := 467) (by decide +kernel)) rfl, zt_mem (List.mem_of_getElem? (i := 0) (by decide +kernel)) rfl⟩
abbrev Y_Pat_clearPaths : zY := (⟨"CircuitWays$Paths", "clearPaths", "()V"⟩, prog_6_method_5_code, 3, none, "CircuitWays$Paths")
set_option maxRecDepth 20000 in
theorem k_Pat_clearPaths : zWv Y_Pat_clearPaths := ⟨⟨zt_mem (List.mem_of_getElem? (i := 473) rfl) rfl, zt_mem (List.mem_of_getElem? (i := 42) (by decide +kernel)) rfl, by decide +kernel, by decide +kernel⟩, zt_mem (List.mem_of_getElem? (i := 472) (by decide +kernel)) rfl, zt_mem (List.mem_of_getElem? (i := 1) (by decide +kernel)) rfl⟩
abbrev Y_Net_allPlaces : zY := (⟨"CircuitWays$Net", "allPlaces", "()I"⟩, prog_4_method_5_code, 1, (some .int), "CircuitWays$Net")
set_option maxRecDepth 20000 in
theorem k_Net_allPlaces : zWv Y_Net_allPlaces := ⟨⟨zt_mem (List.mem_of_getElem? (i := 477) rfl) rfl, zt_mem (List.mem_of_getElem? (i := 41) (by decide +kernel)) rfl, by decide +kernel, by decide +kernel⟩, zt_mem (List.mem_of_getElem? (i := 475) (by decide +kernel)) rfl, zt_mem (List.mem_of_getElem? (i := 476) (by decide +kernel)) rfl⟩
abbrev Y_Pat_followersOf : zY := (⟨"CircuitWays$Paths", "followersOf", "(I)I"⟩, prog_6_method_3_code, 5, (some .int), "CircuitWays$Paths")
set_option maxRecDepth 20000 in
theorem k_Pat_followersOf : zWv Y_Pat_followersOf := ⟨⟨zt_mem (List.mem_of_getElem? (i := 482) rfl) rfl, zt_mem (List.mem_of_getElem? (i := 42) (by decide +kernel)) rfl, by decide +kernel, by decide +kernel⟩, zt_mem (List.mem_of_getElem? (i := 481) (by decide +kernel)) rfl, zt_mem (List.mem_of_getElem? (i := 2) (by decide +kernel)) rfl⟩
abbrev Y_Pat_extend : zY := (⟨"CircuitWays$Paths", "extend", "(II)V"⟩, prog_6_method_6_code, 8, none, "CircuitWays$Paths")
set_option maxRecDepth 20000 in
theorem k_Pat_extend : zWv Y_Pat_extend := ⟨⟨zt_mem (List.mem_of_getElem? (i := 486) rfl) rfl, zt_mem (List.mem_of_getElem? (i := 42) (by decide +kernel)) rfl, by decide +kernel, by decide +kernel⟩, zt_mem (List.mem_of_getElem? (i := 485) (by decide +kernel)) rfl, zt_mem (List.mem_of_getElem? (i := 3) (by decide +kernel)) rfl⟩
abbrev Y_Pat_closeRound : zY := (⟨"CircuitWays$Paths", "closeRound", "(I)V"⟩, prog_6_method_7_code, 6, none, "CircuitWays$Paths")
set_option maxRecDepth 20000 in
theorem k_Pat_closeRound : zWv Y_Pat_closeRound := ⟨⟨zt_mem (List.mem_of_getElem? (i := 490) rfl) rfl, zt_mem (List.mem_of_getElem? (i := 42) (by decide +kernel)) rfl, by decide +kernel, by decide +kernel⟩, zt_mem (List.mem_of_getElem? (i := 489) (by decide +kernel)) rfl, zt_mem (List.mem_of_getElem? (i := 4) (by decide +kernel)) rfl⟩
abbrev Y_Net_costBack : zY := (⟨"CircuitWays$Net", "costBack", "(I)I"⟩, prog_4_method_15_code, 2, (some .int), "CircuitWays$Net")
set_option maxRecDepth 20000 in
theorem k_Net_costBack : zWv Y_Net_costBack := ⟨⟨zt_mem (List.mem_of_getElem? (i := 494) rfl) rfl, zt_mem (List.mem_of_getElem? (i := 41) (by decide +kernel)) rfl, by decide +kernel, by decide +kernel⟩, zt_mem (List.mem_of_getElem? (i := 492) (by decide +kernel)) rfl, zt_mem (List.mem_of_getElem? (i := 493) (by decide +kernel)) rfl⟩
abbrev Y_CW_sum : zY := (⟨"CircuitWays", "sum", "(II)I"⟩, prog_1_method_28_code, 2, (some .int), "CircuitWays")
set_option maxRecDepth 20000 in
theorem k_CW_sum : zWs Y_CW_sum := ⟨⟨zt_mem (List.mem_of_getElem? (i := 497) rfl) rfl, zt_mem (List.mem_of_getElem? (i := 40) (by decide +kernel)) rfl, by decide +kernel, by decide +kernel⟩, zt_mem (List.mem_of_getElem? (i := 496) (by decide +kernel)) rfl⟩
abbrev Y_Net_costOut : zY := (⟨"CircuitWays$Net", "costOut", "(I)I"⟩, prog_4_method_16_code, 4, (some .int), "CircuitWays$Net")
set_option maxRecDepth 20000 in
theorem k_Net_costOut : zWv Y_Net_costOut := ⟨⟨zt_mem (List.mem_of_getElem? (i := 502) rfl) rfl, zt_mem (List.mem_of_getElem? (i := 41) (by decide +kernel)) rfl, by decide +kernel, by decide +kernel⟩, zt_mem (List.mem_of_getElem? (i := 500) (by decide +kernel)) rfl, zt_mem (List.mem_of_getElem? (i := 501) (by decide +kernel)) rfl⟩
abbrev Y_JI_bitCount : zY := (⟨"java/lang/Integer", "bitCount", "(I)I"⟩, prog_14_method_49_code, 1, (some .int), "java/lang/Integer")
set_option maxRecDepth 20000 in
theorem k_JI_bitCount : zWs Y_JI_bitCount := ⟨⟨zt_mem (List.mem_of_getElem? (i := 506) rfl) rfl, zt_mem (List.mem_of_getElem? (i := 52) (by decide +kernel)) rfl, by decide +kernel, by decide +kernel⟩, zt_mem (List.mem_of_getElem? (i := 505) (by decide +kernel)) rfl⟩
abbrev Y_Sha_copyShare : zY := (⟨"CircuitWays$Shares", "copyShare", "(II)V"⟩, prog_8_method_7_code, 3, none, "CircuitWays$Shares")
set_option maxRecDepth 20000 in
theorem k_Sha_copyShare : zWv Y_Sha_copyShare := ⟨⟨zt_mem (List.mem_of_getElem? (i := 513) rfl) rfl, zt_mem (List.mem_of_getElem? (i := 43) (by decide +kernel)) rfl, by decide +kernel, by decide +kernel⟩, zt_mem (List.mem_of_getElem? (i := 512) (by decide +kernel)) rfl, zt_mem (List.mem_of_getElem? (i := 5) (by decide +kernel)) rfl⟩
abbrev Y_Sha_share : zY := (⟨"CircuitWays$Shares", "share", "(II)V"⟩, prog_8_method_6_code, 6, none, "CircuitWays$Shares")
set_option maxRecDepth 20000 in
theorem k_Sha_share : zWv Y_Sha_share := ⟨⟨zt_mem (List.mem_of_getElem? (i := 517) rfl) rfl, zt_mem (List.mem_of_getElem? (i := 43) (by decide +kernel)) rfl, by decide +kernel, by decide +kernel⟩, zt_mem (List.mem_of_getElem? (i := 516) (by decide +kernel)) rfl, zt_mem (List.mem_of_getElem? (i := 6) (by decide +kernel)) rfl⟩
abbrev Y_Sha_offer : zY := (⟨"CircuitWays$Shares", "offer", "(II)V"⟩, prog_8_method_8_code, 5, none, "CircuitWays$Shares")
set_option maxRecDepth 20000 in
theorem k_Sha_offer : zWv Y_Sha_offer := ⟨⟨zt_mem (List.mem_of_getElem? (i := 522) rfl) rfl, zt_mem (List.mem_of_getElem? (i := 43) (by decide +kernel)) rfl, by decide +kernel, by decide +kernel⟩, zt_mem (List.mem_of_getElem? (i := 521) (by decide +kernel)) rfl, zt_mem (List.mem_of_getElem? (i := 7) (by decide +kernel)) rfl⟩
abbrev Y_Sha_leastCost : zY := (⟨"CircuitWays$Shares", "leastCost", "()I"⟩, prog_8_method_3_code, 1, (some .int), "CircuitWays$Shares")
set_option maxRecDepth 20000 in
theorem k_Sha_leastCost : zWv Y_Sha_leastCost := ⟨⟨zt_mem (List.mem_of_getElem? (i := 526) rfl) rfl, zt_mem (List.mem_of_getElem? (i := 43) (by decide +kernel)) rfl, by decide +kernel, by decide +kernel⟩, zt_mem (List.mem_of_getElem? (i := 524) (by decide +kernel)) rfl, zt_mem (List.mem_of_getElem? (i := 525) (by decide +kernel)) rfl⟩
abbrev Y_CW_many : zY := (⟨"CircuitWays", "many", "()I"⟩, prog_1_method_9_code, 1, (some .int), "CircuitWays")
set_option maxRecDepth 20000 in
theorem k_CW_many : zWv Y_CW_many := ⟨⟨zt_mem (List.mem_of_getElem? (i := 530) rfl) rfl, zt_mem (List.mem_of_getElem? (i := 40) (by decide +kernel)) rfl, by decide +kernel, by decide +kernel⟩, zt_mem (List.mem_of_getElem? (i := 528) (by decide +kernel)) rfl, zt_mem (List.mem_of_getElem? (i := 529) (by decide +kernel)) rfl⟩
abbrev Y_Sha_leastWays : zY := (⟨"CircuitWays$Shares", "leastWays", "()I"⟩, prog_8_method_4_code, 1, (some .int), "CircuitWays$Shares")
set_option maxRecDepth 20000 in
theorem k_Sha_leastWays : zWv Y_Sha_leastWays := ⟨⟨zt_mem (List.mem_of_getElem? (i := 534) rfl) rfl, zt_mem (List.mem_of_getElem? (i := 43) (by decide +kernel)) rfl, by decide +kernel, by decide +kernel⟩, zt_mem (List.mem_of_getElem? (i := 532) (by decide +kernel)) rfl, zt_mem (List.mem_of_getElem? (i := 533) (by decide +kernel)) rfl⟩
abbrev Y_CW_first : zY := (⟨"CircuitWays", "first", "(I)I"⟩, prog_1_method_10_code, 2, (some .int), "CircuitWays")
set_option maxRecDepth 20000 in
theorem k_CW_first : zWv Y_CW_first := ⟨⟨zt_mem (List.mem_of_getElem? (i := 538) rfl) rfl, zt_mem (List.mem_of_getElem? (i := 40) (by decide +kernel)) rfl, by decide +kernel, by decide +kernel⟩, zt_mem (List.mem_of_getElem? (i := 536) (by decide +kernel)) rfl, zt_mem (List.mem_of_getElem? (i := 537) (by decide +kernel)) rfl⟩
abbrev Y_Fir_refresh : zY := (⟨"CircuitWays$FirstPlan", "refresh", "()V"⟩, prog_3_method_2_code, 2, none, "CircuitWays$FirstPlan")
set_option maxRecDepth 20000 in
theorem k_Fir_refresh : zWv Y_Fir_refresh := ⟨⟨zt_mem (List.mem_of_getElem? (i := 542) rfl) rfl, zt_mem (List.mem_of_getElem? (i := 45) (by decide +kernel)) rfl, by decide +kernel, by decide +kernel⟩, zt_mem (List.mem_of_getElem? (i := 540) (by decide +kernel)) rfl, zt_mem (List.mem_of_getElem? (i := 541) (by decide +kernel)) rfl⟩
abbrev Y_Fir_write : zY := (⟨"CircuitWays$FirstPlan", "write", "(I)V"⟩, prog_3_method_5_code, 2, none, "CircuitWays$FirstPlan")
set_option maxRecDepth 20000 in
theorem k_Fir_write : zWv Y_Fir_write := ⟨⟨zt_mem (List.mem_of_getElem? (i := 548) rfl) rfl, zt_mem (List.mem_of_getElem? (i := 45) (by decide +kernel)) rfl, by decide +kernel, by decide +kernel⟩, zt_mem (List.mem_of_getElem? (i := 547) (by decide +kernel)) rfl, zt_mem (List.mem_of_getElem? (i := 8) (by decide +kernel)) rfl⟩
abbrev Y_Tai_fill : zY := (⟨"CircuitWays$Tails", "fill", "(II)V"⟩, prog_9_method_2_code, 5, none, "CircuitWays$Tails")
set_option maxRecDepth 20000 in
theorem k_Tai_fill : zWv Y_Tai_fill := ⟨⟨zt_mem (List.mem_of_getElem? (i := 552) rfl) rfl, zt_mem (List.mem_of_getElem? (i := 44) (by decide +kernel)) rfl, by decide +kernel, by decide +kernel⟩, zt_mem (List.mem_of_getElem? (i := 550) (by decide +kernel)) rfl, zt_mem (List.mem_of_getElem? (i := 551) (by decide +kernel)) rfl⟩
abbrev Y_Tai_leastBehind : zY := (⟨"CircuitWays$Tails", "leastBehind", "(II)I"⟩, prog_9_method_5_code, 6, (some .int), "CircuitWays$Tails")
set_option maxRecDepth 20000 in
theorem k_Tai_leastBehind : zWv Y_Tai_leastBehind := ⟨⟨zt_mem (List.mem_of_getElem? (i := 557) rfl) rfl, zt_mem (List.mem_of_getElem? (i := 44) (by decide +kernel)) rfl, by decide +kernel, by decide +kernel⟩, zt_mem (List.mem_of_getElem? (i := 556) (by decide +kernel)) rfl, zt_mem (List.mem_of_getElem? (i := 9) (by decide +kernel)) rfl⟩
abbrev Y_Tai_costClosing : zY := (⟨"CircuitWays$Tails", "costClosing", "(II)I"⟩, prog_9_method_4_code, 3, (some .int), "CircuitWays$Tails")
set_option maxRecDepth 20000 in
theorem k_Tai_costClosing : zWv Y_Tai_costClosing := ⟨⟨zt_mem (List.mem_of_getElem? (i := 561) rfl) rfl, zt_mem (List.mem_of_getElem? (i := 44) (by decide +kernel)) rfl, by decide +kernel, by decide +kernel⟩, zt_mem (List.mem_of_getElem? (i := 559) (by decide +kernel)) rfl, zt_mem (List.mem_of_getElem? (i := 560) (by decide +kernel)) rfl⟩
abbrev Y_Tai_costOver : zY := (⟨"CircuitWays$Tails", "costOver", "(III)I"⟩, prog_9_method_3_code, 4, (some .int), "CircuitWays$Tails")
set_option maxRecDepth 20000 in
theorem k_Tai_costOver : zWv Y_Tai_costOver := ⟨⟨zt_mem (List.mem_of_getElem? (i := 567) rfl) rfl, zt_mem (List.mem_of_getElem? (i := 44) (by decide +kernel)) rfl, by decide +kernel, by decide +kernel⟩, zt_mem (List.mem_of_getElem? (i := 565) (by decide +kernel)) rfl, zt_mem (List.mem_of_getElem? (i := 566) (by decide +kernel)) rfl⟩
abbrev Y_Fir_writeRound : zY := (⟨"CircuitWays$FirstPlan", "writeRound", "()V"⟩, prog_3_method_3_code, 5, none, "CircuitWays$FirstPlan")
set_option maxRecDepth 20000 in
theorem k_Fir_writeRound : zWv Y_Fir_writeRound := ⟨⟨zt_mem (List.mem_of_getElem? (i := 575) rfl) rfl, zt_mem (List.mem_of_getElem? (i := 45) (by decide +kernel)) rfl, by decide +kernel, by decide +kernel⟩, zt_mem (List.mem_of_getElem? (i := 574) (by decide +kernel)) rfl, zt_mem (List.mem_of_getElem? (i := 10) (by decide +kernel)) rfl⟩
abbrev Y_Fir_followerDue : zY := (⟨"CircuitWays$FirstPlan", "followerDue", "(II)I"⟩, prog_3_method_4_code, 4, (some .int), "CircuitWays$FirstPlan")
set_option maxRecDepth 20000 in
theorem k_Fir_followerDue : zWv Y_Fir_followerDue := ⟨⟨zt_mem (List.mem_of_getElem? (i := 580) rfl) rfl, zt_mem (List.mem_of_getElem? (i := 45) (by decide +kernel)) rfl, by decide +kernel, by decide +kernel⟩, zt_mem (List.mem_of_getElem? (i := 579) (by decide +kernel)) rfl, zt_mem (List.mem_of_getElem? (i := 11) (by decide +kernel)) rfl⟩
abbrev Y_CW_with : zY := (⟨"CircuitWays", "with", "(II)I"⟩, prog_1_method_11_code, 3, (some .int), "CircuitWays")
set_option maxRecDepth 20000 in
theorem k_CW_with : zWv Y_CW_with := ⟨⟨zt_mem (List.mem_of_getElem? (i := 587) rfl) rfl, zt_mem (List.mem_of_getElem? (i := 40) (by decide +kernel)) rfl, by decide +kernel, by decide +kernel⟩, zt_mem (List.mem_of_getElem? (i := 585) (by decide +kernel)) rfl, zt_mem (List.mem_of_getElem? (i := 586) (by decide +kernel)) rfl⟩
abbrev Y_Tai_leastThrough : zY := (⟨"CircuitWays$Tails", "leastThrough", "(III)I"⟩, prog_9_method_6_code, 9, (some .int), "CircuitWays$Tails")
set_option maxRecDepth 20000 in
theorem k_Tai_leastThrough : zWv Y_Tai_leastThrough := ⟨⟨zt_mem (List.mem_of_getElem? (i := 594) rfl) rfl, zt_mem (List.mem_of_getElem? (i := 44) (by decide +kernel)) rfl, by decide +kernel, by decide +kernel⟩, zt_mem (List.mem_of_getElem? (i := 592) (by decide +kernel)) rfl, zt_mem (List.mem_of_getElem? (i := 593) (by decide +kernel)) rfl⟩
abbrev Y_CW_without : zY := (⟨"CircuitWays", "without", "(I)I"⟩, prog_1_method_12_code, 2, (some .int), "CircuitWays")
set_option maxRecDepth 20000 in
theorem k_CW_without : zWv Y_CW_without := ⟨⟨zt_mem (List.mem_of_getElem? (i := 599) rfl) rfl, zt_mem (List.mem_of_getElem? (i := 40) (by decide +kernel)) rfl, by decide +kernel, by decide +kernel⟩, zt_mem (List.mem_of_getElem? (i := 597) (by decide +kernel)) rfl, zt_mem (List.mem_of_getElem? (i := 598) (by decide +kernel)) rfl⟩
abbrev Y_Sha_leastLeavingOut : zY := (⟨"CircuitWays$Shares", "leastLeavingOut", "(I)I"⟩, prog_8_method_5_code, 2, (some .int), "CircuitWays$Shares")
set_option maxRecDepth 20000 in
theorem k_Sha_leastLeavingOut : zWv Y_Sha_leastLeavingOut := ⟨⟨zt_mem (List.mem_of_getElem? (i := 603) rfl) rfl, zt_mem (List.mem_of_getElem? (i := 43) (by decide +kernel)) rfl, by decide +kernel, by decide +kernel⟩, zt_mem (List.mem_of_getElem? (i := 601) (by decide +kernel)) rfl, zt_mem (List.mem_of_getElem? (i := 602) (by decide +kernel)) rfl⟩
abbrev Y_CW_filter : zY := (⟨"CircuitWays", "filter", "(I)I"⟩, prog_1_method_13_code, 2, (some .int), "CircuitWays")
set_option maxRecDepth 20000 in
theorem k_CW_filter : zWv Y_CW_filter := ⟨⟨zt_mem (List.mem_of_getElem? (i := 608) rfl) rfl, zt_mem (List.mem_of_getElem? (i := 40) (by decide +kernel)) rfl, by decide +kernel, by decide +kernel⟩, zt_mem (List.mem_of_getElem? (i := 606) (by decide +kernel)) rfl, zt_mem (List.mem_of_getElem? (i := 607) (by decide +kernel)) rfl⟩
abbrev Y_Tai_dropArcsAbove : zY := (⟨"CircuitWays$Tails", "dropArcsAbove", "(I)I"⟩, prog_9_method_7_code, 5, (some .int), "CircuitWays$Tails")
set_option maxRecDepth 20000 in
theorem k_Tai_dropArcsAbove : zWv Y_Tai_dropArcsAbove := ⟨⟨zt_mem (List.mem_of_getElem? (i := 612) rfl) rfl, zt_mem (List.mem_of_getElem? (i := 44) (by decide +kernel)) rfl, by decide +kernel, by decide +kernel⟩, zt_mem (List.mem_of_getElem? (i := 610) (by decide +kernel)) rfl, zt_mem (List.mem_of_getElem? (i := 611) (by decide +kernel)) rfl⟩
abbrev Y_CW_weight : zY := (⟨"CircuitWays", "weight", "(II)I"⟩, prog_1_method_14_code, 3, (some .int), "CircuitWays")
set_option maxRecDepth 20000 in
theorem k_CW_weight : zWv Y_CW_weight := ⟨⟨zt_mem (List.mem_of_getElem? (i := 618) rfl) rfl, zt_mem (List.mem_of_getElem? (i := 40) (by decide +kernel)) rfl, by decide +kernel, by decide +kernel⟩, zt_mem (List.mem_of_getElem? (i := 616) (by decide +kernel)) rfl, zt_mem (List.mem_of_getElem? (i := 617) (by decide +kernel)) rfl⟩
abbrev Y_Tre_changeWeight : zY := (⟨"CircuitWays$Tree", "changeWeight", "(II)I"⟩, prog_10_method_2_code, 4, (some .int), "CircuitWays$Tree")
set_option maxRecDepth 20000 in
theorem k_Tre_changeWeight : zWv Y_Tre_changeWeight := ⟨⟨zt_mem (List.mem_of_getElem? (i := 623) rfl) rfl, zt_mem (List.mem_of_getElem? (i := 46) (by decide +kernel)) rfl, by decide +kernel, by decide +kernel⟩, zt_mem (List.mem_of_getElem? (i := 621) (by decide +kernel)) rfl, zt_mem (List.mem_of_getElem? (i := 622) (by decide +kernel)) rfl⟩
abbrev Y_CW_bound : zY := (⟨"CircuitWays", "bound", "()I"⟩, prog_1_method_15_code, 1, (some .int), "CircuitWays")
set_option maxRecDepth 20000 in
theorem k_CW_bound : zWv Y_CW_bound := ⟨⟨zt_mem (List.mem_of_getElem? (i := 627) rfl) rfl, zt_mem (List.mem_of_getElem? (i := 40) (by decide +kernel)) rfl, by decide +kernel, by decide +kernel⟩, zt_mem (List.mem_of_getElem? (i := 625) (by decide +kernel)) rfl, zt_mem (List.mem_of_getElem? (i := 626) (by decide +kernel)) rfl⟩
abbrev Y_Tre_grow : zY := (⟨"CircuitWays$Tree", "grow", "()Z"⟩, prog_10_method_3_code, 2, (some .boolean), "CircuitWays$Tree")
set_option maxRecDepth 20000 in
theorem k_Tre_grow : zWv Y_Tre_grow := ⟨⟨zt_mem (List.mem_of_getElem? (i := 631) rfl) rfl, zt_mem (List.mem_of_getElem? (i := 46) (by decide +kernel)) rfl, by decide +kernel, by decide +kernel⟩, zt_mem (List.mem_of_getElem? (i := 629) (by decide +kernel)) rfl, zt_mem (List.mem_of_getElem? (i := 630) (by decide +kernel)) rfl⟩
abbrev Y_Tre_chooseJoining : zY := (⟨"CircuitWays$Tree", "chooseJoining", "()Z"⟩, prog_10_method_7_code, 6, (some .boolean), "CircuitWays$Tree")
set_option maxRecDepth 20000 in
theorem k_Tre_chooseJoining : zWv Y_Tre_chooseJoining := ⟨⟨zt_mem (List.mem_of_getElem? (i := 635) rfl) rfl, zt_mem (List.mem_of_getElem? (i := 46) (by decide +kernel)) rfl, by decide +kernel, by decide +kernel⟩, zt_mem (List.mem_of_getElem? (i := 634) (by decide +kernel)) rfl, zt_mem (List.mem_of_getElem? (i := 12) (by decide +kernel)) rfl⟩
abbrev Y_Tre_edgeCost : zY := (⟨"CircuitWays$Tree", "edgeCost", "(II)I"⟩, prog_10_method_6_code, 4, (some .int), "CircuitWays$Tree")
set_option maxRecDepth 20000 in
theorem k_Tre_edgeCost : zWv Y_Tre_edgeCost := ⟨⟨zt_mem (List.mem_of_getElem? (i := 640) rfl) rfl, zt_mem (List.mem_of_getElem? (i := 46) (by decide +kernel)) rfl, by decide +kernel, by decide +kernel⟩, zt_mem (List.mem_of_getElem? (i := 639) (by decide +kernel)) rfl, zt_mem (List.mem_of_getElem? (i := 13) (by decide +kernel)) rfl⟩
abbrev Y_Tre_choose : zY := (⟨"CircuitWays$Tree", "choose", "(II)Z"⟩, prog_10_method_9_code, 5, (some .boolean), "CircuitWays$Tree")
set_option maxRecDepth 20000 in
theorem k_Tre_choose : zWv Y_Tre_choose := ⟨⟨zt_mem (List.mem_of_getElem? (i := 646) rfl) rfl, zt_mem (List.mem_of_getElem? (i := 46) (by decide +kernel)) rfl, by decide +kernel, by decide +kernel⟩, zt_mem (List.mem_of_getElem? (i := 645) (by decide +kernel)) rfl, zt_mem (List.mem_of_getElem? (i := 14) (by decide +kernel)) rfl⟩
abbrev Y_Tre_chooseAtHouse : zY := (⟨"CircuitWays$Tree", "chooseAtHouse", "(I)Z"⟩, prog_10_method_8_code, 5, (some .boolean), "CircuitWays$Tree")
set_option maxRecDepth 20000 in
theorem k_Tre_chooseAtHouse : zWv Y_Tre_chooseAtHouse := ⟨⟨zt_mem (List.mem_of_getElem? (i := 650) rfl) rfl, zt_mem (List.mem_of_getElem? (i := 46) (by decide +kernel)) rfl, by decide +kernel, by decide +kernel⟩, zt_mem (List.mem_of_getElem? (i := 649) (by decide +kernel)) rfl, zt_mem (List.mem_of_getElem? (i := 15) (by decide +kernel)) rfl⟩
abbrev Y_Tre_lowerBound : zY := (⟨"CircuitWays$Tree", "lowerBound", "()I"⟩, prog_10_method_4_code, 3, (some .int), "CircuitWays$Tree")
set_option maxRecDepth 20000 in
theorem k_Tre_lowerBound : zWv Y_Tre_lowerBound := ⟨⟨zt_mem (List.mem_of_getElem? (i := 654) rfl) rfl, zt_mem (List.mem_of_getElem? (i := 46) (by decide +kernel)) rfl, by decide +kernel, by decide +kernel⟩, zt_mem (List.mem_of_getElem? (i := 652) (by decide +kernel)) rfl, zt_mem (List.mem_of_getElem? (i := 653) (by decide +kernel)) rfl⟩
abbrev Y_CW_edge : zY := (⟨"CircuitWays", "edge", "(II)I"⟩, prog_1_method_16_code, 3, (some .int), "CircuitWays")
set_option maxRecDepth 20000 in
theorem k_CW_edge : zWv Y_CW_edge := ⟨⟨zt_mem (List.mem_of_getElem? (i := 658) rfl) rfl, zt_mem (List.mem_of_getElem? (i := 40) (by decide +kernel)) rfl, by decide +kernel, by decide +kernel⟩, zt_mem (List.mem_of_getElem? (i := 656) (by decide +kernel)) rfl, zt_mem (List.mem_of_getElem? (i := 657) (by decide +kernel)) rfl⟩
abbrev Y_CW_degree : zY := (⟨"CircuitWays", "degree", "(I)I"⟩, prog_1_method_17_code, 2, (some .int), "CircuitWays")
set_option maxRecDepth 20000 in
theorem k_CW_degree : zWv Y_CW_degree := ⟨⟨zt_mem (List.mem_of_getElem? (i := 662) rfl) rfl, zt_mem (List.mem_of_getElem? (i := 40) (by decide +kernel)) rfl, by decide +kernel, by decide +kernel⟩, zt_mem (List.mem_of_getElem? (i := 660) (by decide +kernel)) rfl, zt_mem (List.mem_of_getElem? (i := 661) (by decide +kernel)) rfl⟩
abbrev Y_Tre_edgesAt : zY := (⟨"CircuitWays$Tree", "edgesAt", "(I)I"⟩, prog_10_method_5_code, 4, (some .int), "CircuitWays$Tree")
set_option maxRecDepth 20000 in
theorem k_Tre_edgesAt : zWv Y_Tre_edgesAt := ⟨⟨zt_mem (List.mem_of_getElem? (i := 666) rfl) rfl, zt_mem (List.mem_of_getElem? (i := 46) (by decide +kernel)) rfl, by decide +kernel, by decide +kernel⟩, zt_mem (List.mem_of_getElem? (i := 664) (by decide +kernel)) rfl, zt_mem (List.mem_of_getElem? (i := 665) (by decide +kernel)) rfl⟩
abbrev Y_CW_pairing : zY := (⟨"CircuitWays", "pairing", "()I"⟩, prog_1_method_18_code, 1, (some .int), "CircuitWays")
set_option maxRecDepth 20000 in
theorem k_CW_pairing : zWv Y_CW_pairing := ⟨⟨zt_mem (List.mem_of_getElem? (i := 670) rfl) rfl, zt_mem (List.mem_of_getElem? (i := 40) (by decide +kernel)) rfl, by decide +kernel, by decide +kernel⟩, zt_mem (List.mem_of_getElem? (i := 668) (by decide +kernel)) rfl, zt_mem (List.mem_of_getElem? (i := 669) (by decide +kernel)) rfl⟩
abbrev Y_Pai_leastCost : zY := (⟨"CircuitWays$Pairs", "leastCost", "()I"⟩, prog_5_method_2_code, 6, (some .int), "CircuitWays$Pairs")
set_option maxRecDepth 20000 in
theorem k_Pai_leastCost : zWv Y_Pai_leastCost := ⟨⟨zt_mem (List.mem_of_getElem? (i := 674) rfl) rfl, zt_mem (List.mem_of_getElem? (i := 47) (by decide +kernel)) rfl, by decide +kernel, by decide +kernel⟩, zt_mem (List.mem_of_getElem? (i := 672) (by decide +kernel)) rfl, zt_mem (List.mem_of_getElem? (i := 673) (by decide +kernel)) rfl⟩
abbrev Y_CW_next : zY := (⟨"CircuitWays", "next", "(II)I"⟩, prog_1_method_19_code, 3, (some .int), "CircuitWays")
set_option maxRecDepth 20000 in
theorem k_CW_next : zWv Y_CW_next := ⟨⟨zt_mem (List.mem_of_getElem? (i := 682) rfl) rfl, zt_mem (List.mem_of_getElem? (i := 40) (by decide +kernel)) rfl, by decide +kernel, by decide +kernel⟩, zt_mem (List.mem_of_getElem? (i := 680) (by decide +kernel)) rfl, zt_mem (List.mem_of_getElem? (i := 681) (by decide +kernel)) rfl⟩
abbrev Y_Cir_changeFollower : zY := (⟨"CircuitWays$Circles", "changeFollower", "(II)I"⟩, prog_2_method_2_code, 4, (some .int), "CircuitWays$Circles")
set_option maxRecDepth 20000 in
theorem k_Cir_changeFollower : zWv Y_Cir_changeFollower := ⟨⟨zt_mem (List.mem_of_getElem? (i := 686) rfl) rfl, zt_mem (List.mem_of_getElem? (i := 48) (by decide +kernel)) rfl, by decide +kernel, by decide +kernel⟩, zt_mem (List.mem_of_getElem? (i := 684) (by decide +kernel)) rfl, zt_mem (List.mem_of_getElem? (i := 685) (by decide +kernel)) rfl⟩
abbrev Y_CW_circle : zY := (⟨"CircuitWays", "circle", "(I)I"⟩, prog_1_method_20_code, 3, (some .int), "CircuitWays")
set_option maxRecDepth 20000 in
theorem k_CW_circle : zWv Y_CW_circle := ⟨⟨zt_mem (List.mem_of_getElem? (i := 690) rfl) rfl, zt_mem (List.mem_of_getElem? (i := 40) (by decide +kernel)) rfl, by decide +kernel, by decide +kernel⟩, zt_mem (List.mem_of_getElem? (i := 688) (by decide +kernel)) rfl, zt_mem (List.mem_of_getElem? (i := 689) (by decide +kernel)) rfl⟩
abbrev Y_Cir_find : zY := (⟨"CircuitWays$Circles", "find", "()I"⟩, prog_2_method_3_code, 4, (some .int), "CircuitWays$Circles")
set_option maxRecDepth 20000 in
theorem k_Cir_find : zWv Y_Cir_find := ⟨⟨zt_mem (List.mem_of_getElem? (i := 694) rfl) rfl, zt_mem (List.mem_of_getElem? (i := 48) (by decide +kernel)) rfl, by decide +kernel, by decide +kernel⟩, zt_mem (List.mem_of_getElem? (i := 692) (by decide +kernel)) rfl, zt_mem (List.mem_of_getElem? (i := 693) (by decide +kernel)) rfl⟩
abbrev Y_Cir_circleFrom : zY := (⟨"CircuitWays$Circles", "circleFrom", "(I)I"⟩, prog_2_method_4_code, 5, (some .int), "CircuitWays$Circles")
set_option maxRecDepth 20000 in
theorem k_Cir_circleFrom : zWv Y_Cir_circleFrom := ⟨⟨zt_mem (List.mem_of_getElem? (i := 698) rfl) rfl, zt_mem (List.mem_of_getElem? (i := 48) (by decide +kernel)) rfl, by decide +kernel, by decide +kernel⟩, zt_mem (List.mem_of_getElem? (i := 697) (by decide +kernel)) rfl, zt_mem (List.mem_of_getElem? (i := 16) (by decide +kernel)) rfl⟩
abbrev Y_CW_nearest : zY := (⟨"CircuitWays", "nearest", "(I)I"⟩, prog_1_method_21_code, 2, (some .int), "CircuitWays")
set_option maxRecDepth 20000 in
theorem k_CW_nearest : zWv Y_CW_nearest := ⟨⟨zt_mem (List.mem_of_getElem? (i := 702) rfl) rfl, zt_mem (List.mem_of_getElem? (i := 40) (by decide +kernel)) rfl, by decide +kernel, by decide +kernel⟩, zt_mem (List.mem_of_getElem? (i := 700) (by decide +kernel)) rfl, zt_mem (List.mem_of_getElem? (i := 701) (by decide +kernel)) rfl⟩
abbrev Y_Way_nearestLeading : zY := (⟨"CircuitWays$Ways", "nearestLeading", "(I)I"⟩, prog_11_method_2_code, 3, (some .int), "CircuitWays$Ways")
set_option maxRecDepth 20000 in
theorem k_Way_nearestLeading : zWv Y_Way_nearestLeading := ⟨⟨zt_mem (List.mem_of_getElem? (i := 706) rfl) rfl, zt_mem (List.mem_of_getElem? (i := 49) (by decide +kernel)) rfl, by decide +kernel, by decide +kernel⟩, zt_mem (List.mem_of_getElem? (i := 704) (by decide +kernel)) rfl, zt_mem (List.mem_of_getElem? (i := 705) (by decide +kernel)) rfl⟩
abbrev Y_Way_reached : zY := (⟨"CircuitWays$Ways", "reached", "(I)I"⟩, prog_11_method_5_code, 5, (some .int), "CircuitWays$Ways")
set_option maxRecDepth 20000 in
theorem k_Way_reached : zWv Y_Way_reached := ⟨⟨zt_mem (List.mem_of_getElem? (i := 710) rfl) rfl, zt_mem (List.mem_of_getElem? (i := 49) (by decide +kernel)) rfl, by decide +kernel, by decide +kernel⟩, zt_mem (List.mem_of_getElem? (i := 709) (by decide +kernel)) rfl, zt_mem (List.mem_of_getElem? (i := 17) (by decide +kernel)) rfl⟩
abbrev Y_Way_stepFrom : zY := (⟨"CircuitWays$Ways", "stepFrom", "(II)I"⟩, prog_11_method_6_code, 5, (some .int), "CircuitWays$Ways")
set_option maxRecDepth 20000 in
theorem k_Way_stepFrom : zWv Y_Way_stepFrom := ⟨⟨zt_mem (List.mem_of_getElem? (i := 714) rfl) rfl, zt_mem (List.mem_of_getElem? (i := 49) (by decide +kernel)) rfl, by decide +kernel, by decide +kernel⟩, zt_mem (List.mem_of_getElem? (i := 713) (by decide +kernel)) rfl, zt_mem (List.mem_of_getElem? (i := 18) (by decide +kernel)) rfl⟩
abbrev Y_Way_leads : zY := (⟨"CircuitWays$Ways", "leads", "(II)Z"⟩, prog_11_method_4_code, 3, (some .boolean), "CircuitWays$Ways")
set_option maxRecDepth 20000 in
theorem k_Way_leads : zWv Y_Way_leads := ⟨⟨zt_mem (List.mem_of_getElem? (i := 720) rfl) rfl, zt_mem (List.mem_of_getElem? (i := 49) (by decide +kernel)) rfl, by decide +kernel, by decide +kernel⟩, zt_mem (List.mem_of_getElem? (i := 719) (by decide +kernel)) rfl, zt_mem (List.mem_of_getElem? (i := 19) (by decide +kernel)) rfl⟩
abbrev Y_Way_isNearest : zY := (⟨"CircuitWays$Ways", "isNearest", "(II)Z"⟩, prog_11_method_3_code, 4, (some .boolean), "CircuitWays$Ways")
set_option maxRecDepth 20000 in
theorem k_Way_isNearest : zWv Y_Way_isNearest := ⟨⟨zt_mem (List.mem_of_getElem? (i := 724) rfl) rfl, zt_mem (List.mem_of_getElem? (i := 49) (by decide +kernel)) rfl, by decide +kernel, by decide +kernel⟩, zt_mem (List.mem_of_getElem? (i := 723) (by decide +kernel)) rfl, zt_mem (List.mem_of_getElem? (i := 20) (by decide +kernel)) rfl⟩
abbrev Y_CW_put : zY := (⟨"CircuitWays", "put", "(I)I"⟩, prog_1_method_22_code, 2, (some .int), "CircuitWays")
set_option maxRecDepth 20000 in
theorem k_CW_put : zWv Y_CW_put := ⟨⟨zt_mem (List.mem_of_getElem? (i := 728) rfl) rfl, zt_mem (List.mem_of_getElem? (i := 40) (by decide +kernel)) rfl, by decide +kernel, by decide +kernel⟩, zt_mem (List.mem_of_getElem? (i := 726) (by decide +kernel)) rfl, zt_mem (List.mem_of_getElem? (i := 727) (by decide +kernel)) rfl⟩
abbrev Y_Row_append : zY := (⟨"CircuitWays$Row", "append", "(I)I"⟩, prog_7_method_2_code, 2, (some .int), "CircuitWays$Row")
set_option maxRecDepth 20000 in
theorem k_Row_append : zWv Y_Row_append := ⟨⟨zt_mem (List.mem_of_getElem? (i := 732) rfl) rfl, zt_mem (List.mem_of_getElem? (i := 50) (by decide +kernel)) rfl, by decide +kernel, by decide +kernel⟩, zt_mem (List.mem_of_getElem? (i := 730) (by decide +kernel)) rfl, zt_mem (List.mem_of_getElem? (i := 731) (by decide +kernel)) rfl⟩
abbrev Y_CW_keep : zY := (⟨"CircuitWays", "keep", "(I)I"⟩, prog_1_method_23_code, 2, (some .int), "CircuitWays")
set_option maxRecDepth 20000 in
theorem k_CW_keep : zWv Y_CW_keep := ⟨⟨zt_mem (List.mem_of_getElem? (i := 736) rfl) rfl, zt_mem (List.mem_of_getElem? (i := 40) (by decide +kernel)) rfl, by decide +kernel, by decide +kernel⟩, zt_mem (List.mem_of_getElem? (i := 734) (by decide +kernel)) rfl, zt_mem (List.mem_of_getElem? (i := 735) (by decide +kernel)) rfl⟩
abbrev Y_Row_cut : zY := (⟨"CircuitWays$Row", "cut", "(I)I"⟩, prog_7_method_3_code, 3, (some .int), "CircuitWays$Row")
set_option maxRecDepth 20000 in
theorem k_Row_cut : zWv Y_Row_cut := ⟨⟨zt_mem (List.mem_of_getElem? (i := 740) rfl) rfl, zt_mem (List.mem_of_getElem? (i := 50) (by decide +kernel)) rfl, by decide +kernel, by decide +kernel⟩, zt_mem (List.mem_of_getElem? (i := 738) (by decide +kernel)) rfl, zt_mem (List.mem_of_getElem? (i := 739) (by decide +kernel)) rfl⟩
abbrev Y_CW_check : zY := (⟨"CircuitWays", "check", "()I"⟩, prog_1_method_24_code, 1, (some .int), "CircuitWays")
set_option maxRecDepth 20000 in
theorem k_CW_check : zWv Y_CW_check := ⟨⟨zt_mem (List.mem_of_getElem? (i := 744) rfl) rfl, zt_mem (List.mem_of_getElem? (i := 40) (by decide +kernel)) rfl, by decide +kernel, by decide +kernel⟩, zt_mem (List.mem_of_getElem? (i := 742) (by decide +kernel)) rfl, zt_mem (List.mem_of_getElem? (i := 743) (by decide +kernel)) rfl⟩
abbrev Y_Row_cost : zY := (⟨"CircuitWays$Row", "cost", "()I"⟩, prog_7_method_4_code, 1, (some .int), "CircuitWays$Row")
set_option maxRecDepth 20000 in
theorem k_Row_cost : zWv Y_Row_cost := ⟨⟨zt_mem (List.mem_of_getElem? (i := 748) rfl) rfl, zt_mem (List.mem_of_getElem? (i := 50) (by decide +kernel)) rfl, by decide +kernel, by decide +kernel⟩, zt_mem (List.mem_of_getElem? (i := 746) (by decide +kernel)) rfl, zt_mem (List.mem_of_getElem? (i := 747) (by decide +kernel)) rfl⟩
abbrev Y_Row_planCost : zY := (⟨"CircuitWays$Row", "planCost", "([II)I"⟩, prog_7_method_6_code, 8, (some .int), "CircuitWays$Row")
set_option maxRecDepth 20000 in
theorem k_Row_planCost : zWv Y_Row_planCost := ⟨⟨zt_mem (List.mem_of_getElem? (i := 752) rfl) rfl, zt_mem (List.mem_of_getElem? (i := 50) (by decide +kernel)) rfl, by decide +kernel, by decide +kernel⟩, zt_mem (List.mem_of_getElem? (i := 751) (by decide +kernel)) rfl, zt_mem (List.mem_of_getElem? (i := 21) (by decide +kernel)) rfl⟩
abbrev Y_Row_roundCost : zY := (⟨"CircuitWays$Row", "roundCost", "([III)I"⟩, prog_7_method_7_code, 10, (some .int), "CircuitWays$Row")
set_option maxRecDepth 20000 in
theorem k_Row_roundCost : zWv Y_Row_roundCost := ⟨⟨zt_mem (List.mem_of_getElem? (i := 758) rfl) rfl, zt_mem (List.mem_of_getElem? (i := 50) (by decide +kernel)) rfl, by decide +kernel, by decide +kernel⟩, zt_mem (List.mem_of_getElem? (i := 757) (by decide +kernel)) rfl, zt_mem (List.mem_of_getElem? (i := 22) (by decide +kernel)) rfl⟩
abbrev Y_CW_insert : zY := (⟨"CircuitWays", "insert", "(I)I"⟩, prog_1_method_25_code, 2, (some .int), "CircuitWays")
set_option maxRecDepth 20000 in
theorem k_CW_insert : zWv Y_CW_insert := ⟨⟨zt_mem (List.mem_of_getElem? (i := 766) rfl) rfl, zt_mem (List.mem_of_getElem? (i := 40) (by decide +kernel)) rfl, by decide +kernel, by decide +kernel⟩, zt_mem (List.mem_of_getElem? (i := 764) (by decide +kernel)) rfl, zt_mem (List.mem_of_getElem? (i := 765) (by decide +kernel)) rfl⟩
abbrev Y_Row_cheapestPlace : zY := (⟨"CircuitWays$Row", "cheapestPlace", "(I)I"⟩, prog_7_method_5_code, 6, (some .int), "CircuitWays$Row")
set_option maxRecDepth 20000 in
theorem k_Row_cheapestPlace : zWv Y_Row_cheapestPlace := ⟨⟨zt_mem (List.mem_of_getElem? (i := 770) rfl) rfl, zt_mem (List.mem_of_getElem? (i := 50) (by decide +kernel)) rfl, by decide +kernel, by decide +kernel⟩, zt_mem (List.mem_of_getElem? (i := 768) (by decide +kernel)) rfl, zt_mem (List.mem_of_getElem? (i := 769) (by decide +kernel)) rfl⟩
abbrev Y_CW_count : zY := (⟨"CircuitWays", "count", "(I)I"⟩, prog_1_method_26_code, 2, (some .int), "CircuitWays")
set_option maxRecDepth 20000 in
theorem k_CW_count : zWv Y_CW_count := ⟨⟨zt_mem (List.mem_of_getElem? (i := 775) rfl) rfl, zt_mem (List.mem_of_getElem? (i := 40) (by decide +kernel)) rfl, by decide +kernel, by decide +kernel⟩, zt_mem (List.mem_of_getElem? (i := 773) (by decide +kernel)) rfl, zt_mem (List.mem_of_getElem? (i := 774) (by decide +kernel)) rfl⟩
abbrev Y_Net_arcs : zY := (⟨"CircuitWays$Net", "arcs", "()I"⟩, prog_4_method_13_code, 3, (some .int), "CircuitWays$Net")
set_option maxRecDepth 20000 in
theorem k_Net_arcs : zWv Y_Net_arcs := ⟨⟨zt_mem (List.mem_of_getElem? (i := 779) rfl) rfl, zt_mem (List.mem_of_getElem? (i := 41) (by decide +kernel)) rfl, by decide +kernel, by decide +kernel⟩, zt_mem (List.mem_of_getElem? (i := 777) (by decide +kernel)) rfl, zt_mem (List.mem_of_getElem? (i := 778) (by decide +kernel)) rfl⟩
abbrev Y_Net_pairsAhead : zY := (⟨"CircuitWays$Net", "pairsAhead", "()I"⟩, prog_4_method_14_code, 3, (some .int), "CircuitWays$Net")
set_option maxRecDepth 20000 in
theorem k_Net_pairsAhead : zWv Y_Net_pairsAhead := ⟨⟨zt_mem (List.mem_of_getElem? (i := 783) rfl) rfl, zt_mem (List.mem_of_getElem? (i := 41) (by decide +kernel)) rfl, by decide +kernel, by decide +kernel⟩, zt_mem (List.mem_of_getElem? (i := 781) (by decide +kernel)) rfl, zt_mem (List.mem_of_getElem? (i := 782) (by decide +kernel)) rfl⟩
abbrev Y_Mo_init : zY := (⟨"CircuitWaysModel", "<init>", "()V"⟩, prog_13_method_3_code, 2, none, "CircuitWaysModel")
set_option maxRecDepth 20000 in
theorem k_Mo_init : zWi Y_Mo_init := ⟨⟨zt_mem (List.mem_of_getElem? (i := 789) rfl) rfl, zt_mem (List.mem_of_getElem? (i := 51) (by decide +kernel)) rfl, by decide +kernel, by decide +kernel⟩, zt_mem (List.mem_of_getElem? (i := 788) (by decide +kernel)) rfl, rfl⟩
abbrev Y_Mo_node : zY := (⟨"CircuitWaysModel", "node", "(I)I"⟩, prog_13_method_6_code, 2, (some .int), "CircuitWaysModel")
set_option maxRecDepth 20000 in
theorem k_Mo_node : zWv Y_Mo_node := ⟨⟨zt_mem (List.mem_of_getElem? (i := 889) rfl) rfl, zt_mem (List.mem_of_getElem? (i := 51) (by decide +kernel)) rfl, by decide +kernel, by decide +kernel⟩, zt_mem (List.mem_of_getElem? (i := 887) (by decide +kernel)) rfl, zt_mem (List.mem_of_getElem? (i := 888) (by decide +kernel)) rfl⟩
abbrev Y_Mo_in : zY := (⟨"CircuitWaysModel", "in", "(III)Z"⟩, prog_13_method_2_code, 3, (some .boolean), "CircuitWaysModel")
set_option maxRecDepth 20000 in
theorem k_Mo_in : zWs Y_Mo_in := ⟨⟨zt_mem (List.mem_of_getElem? (i := 892) rfl) rfl, zt_mem (List.mem_of_getElem? (i := 51) (by decide +kernel)) rfl, by decide +kernel, by decide +kernel⟩, zt_mem (List.mem_of_getElem? (i := 891) (by decide +kernel)) rfl⟩
abbrev Y_Mo_arc : zY := (⟨"CircuitWaysModel", "arc", "(III)I"⟩, prog_13_method_7_code, 5, (some .int), "CircuitWaysModel")
set_option maxRecDepth 20000 in
theorem k_Mo_arc : zWv Y_Mo_arc := ⟨⟨zt_mem (List.mem_of_getElem? (i := 898) rfl) rfl, zt_mem (List.mem_of_getElem? (i := 51) (by decide +kernel)) rfl, by decide +kernel, by decide +kernel⟩, zt_mem (List.mem_of_getElem? (i := 896) (by decide +kernel)) rfl, zt_mem (List.mem_of_getElem? (i := 897) (by decide +kernel)) rfl⟩
abbrev Y_Mo_noTwo : zY := (⟨"CircuitWaysModel", "noTwo", "(II)Z"⟩, prog_13_method_5_code, 3, (some .boolean), "CircuitWaysModel")
set_option maxRecDepth 20000 in
theorem k_Mo_noTwo : zWv Y_Mo_noTwo := ⟨⟨zt_mem (List.mem_of_getElem? (i := 902) rfl) rfl, zt_mem (List.mem_of_getElem? (i := 51) (by decide +kernel)) rfl, by decide +kernel, by decide +kernel⟩, zt_mem (List.mem_of_getElem? (i := 901) (by decide +kernel)) rfl, zt_mem (List.mem_of_getElem? (i := 23) (by decide +kernel)) rfl⟩
abbrev Y_Mo_noNode : zY := (⟨"CircuitWaysModel", "noNode", "(I)Z"⟩, prog_13_method_4_code, 2, (some .boolean), "CircuitWaysModel")
set_option maxRecDepth 20000 in
theorem k_Mo_noNode : zWv Y_Mo_noNode := ⟨⟨zt_mem (List.mem_of_getElem? (i := 906) rfl) rfl, zt_mem (List.mem_of_getElem? (i := 51) (by decide +kernel)) rfl, by decide +kernel, by decide +kernel⟩, zt_mem (List.mem_of_getElem? (i := 905) (by decide +kernel)) rfl, zt_mem (List.mem_of_getElem? (i := 24) (by decide +kernel)) rfl⟩
abbrev Y_Mo_lose : zY := (⟨"CircuitWaysModel", "lose", "(II)I"⟩, prog_13_method_8_code, 4, (some .int), "CircuitWaysModel")
set_option maxRecDepth 20000 in
theorem k_Mo_lose : zWv Y_Mo_lose := ⟨⟨zt_mem (List.mem_of_getElem? (i := 911) rfl) rfl, zt_mem (List.mem_of_getElem? (i := 51) (by decide +kernel)) rfl, by decide +kernel, by decide +kernel⟩, zt_mem (List.mem_of_getElem? (i := 909) (by decide +kernel)) rfl, zt_mem (List.mem_of_getElem? (i := 910) (by decide +kernel)) rfl⟩
abbrev Y_Mo_price : zY := (⟨"CircuitWaysModel", "price", "(II)I"⟩, prog_13_method_9_code, 4, (some .int), "CircuitWaysModel")
set_option maxRecDepth 20000 in
theorem k_Mo_price : zWv Y_Mo_price := ⟨⟨zt_mem (List.mem_of_getElem? (i := 915) rfl) rfl, zt_mem (List.mem_of_getElem? (i := 51) (by decide +kernel)) rfl, by decide +kernel, by decide +kernel⟩, zt_mem (List.mem_of_getElem? (i := 913) (by decide +kernel)) rfl, zt_mem (List.mem_of_getElem? (i := 914) (by decide +kernel)) rfl⟩
abbrev Y_Mo_ahead : zY := (⟨"CircuitWaysModel", "ahead", "(IIZ)I"⟩, prog_13_method_10_code, 5, (some .int), "CircuitWaysModel")
set_option maxRecDepth 20000 in
theorem k_Mo_ahead : zWv Y_Mo_ahead := ⟨⟨zt_mem (List.mem_of_getElem? (i := 919) rfl) rfl, zt_mem (List.mem_of_getElem? (i := 51) (by decide +kernel)) rfl, by decide +kernel, by decide +kernel⟩, zt_mem (List.mem_of_getElem? (i := 917) (by decide +kernel)) rfl, zt_mem (List.mem_of_getElem? (i := 918) (by decide +kernel)) rfl⟩
abbrev Y_Mo_rule : zY := (⟨"CircuitWaysModel", "rule", "(II)I"⟩, prog_13_method_11_code, 5, (some .int), "CircuitWaysModel")
set_option maxRecDepth 20000 in
theorem k_Mo_rule : zWv Y_Mo_rule := ⟨⟨zt_mem (List.mem_of_getElem? (i := 923) rfl) rfl, zt_mem (List.mem_of_getElem? (i := 51) (by decide +kernel)) rfl, by decide +kernel, by decide +kernel⟩, zt_mem (List.mem_of_getElem? (i := 921) (by decide +kernel)) rfl, zt_mem (List.mem_of_getElem? (i := 922) (by decide +kernel)) rfl⟩
abbrev Y_Mo_best : zY := (⟨"CircuitWaysModel", "best", "()I"⟩, prog_13_method_21_code, 1, (some .int), "CircuitWaysModel")
set_option maxRecDepth 20000 in
theorem k_Mo_best : zWv Y_Mo_best := ⟨⟨zt_mem (List.mem_of_getElem? (i := 927) rfl) rfl, zt_mem (List.mem_of_getElem? (i := 51) (by decide +kernel)) rfl, by decide +kernel, by decide +kernel⟩, zt_mem (List.mem_of_getElem? (i := 925) (by decide +kernel)) rfl, zt_mem (List.mem_of_getElem? (i := 926) (by decide +kernel)) rfl⟩
abbrev Y_Mo_know : zY := (⟨"CircuitWaysModel", "know", "()V"⟩, prog_13_method_19_code, 2, none, "CircuitWaysModel")
set_option maxRecDepth 20000 in
theorem k_Mo_know : zWv Y_Mo_know := ⟨⟨zt_mem (List.mem_of_getElem? (i := 931) rfl) rfl, zt_mem (List.mem_of_getElem? (i := 51) (by decide +kernel)) rfl, by decide +kernel, by decide +kernel⟩, zt_mem (List.mem_of_getElem? (i := 930) (by decide +kernel)) rfl, zt_mem (List.mem_of_getElem? (i := 25) (by decide +kernel)) rfl⟩
abbrev Y_Mo_atHouse : zY := (⟨"CircuitWaysModel", "atHouse", "(LCircuitWaysModel;II)I"⟩, prog_13_method_17_code, 7, (some .int), "CircuitWaysModel")
set_option maxRecDepth 20000 in
theorem k_Mo_atHouse : zWs Y_Mo_atHouse := ⟨⟨zt_mem (List.mem_of_getElem? (i := 935) rfl) rfl, zt_mem (List.mem_of_getElem? (i := 51) (by decide +kernel)) rfl, by decide +kernel, by decide +kernel⟩, zt_mem (List.mem_of_getElem? (i := 934) (by decide +kernel)) rfl⟩
abbrev Y_Mo_whole : zY := (⟨"CircuitWaysModel", "whole", "(I)I"⟩, prog_13_method_13_code, 4, (some .int), "CircuitWaysModel")
set_option maxRecDepth 20000 in
theorem k_Mo_whole : zWv Y_Mo_whole := ⟨⟨zt_mem (List.mem_of_getElem? (i := 939) rfl) rfl, zt_mem (List.mem_of_getElem? (i := 51) (by decide +kernel)) rfl, by decide +kernel, by decide +kernel⟩, zt_mem (List.mem_of_getElem? (i := 938) (by decide +kernel)) rfl, zt_mem (List.mem_of_getElem? (i := 26) (by decide +kernel)) rfl⟩
abbrev Y_Mo_isBeforeFirst : zY := (⟨"CircuitWaysModel", "isBeforeFirst", "()Z"⟩, prog_13_method_14_code, 2, (some .boolean), "CircuitWaysModel")
set_option maxRecDepth 20000 in
theorem k_Mo_isBeforeFirst : zWv Y_Mo_isBeforeFirst := ⟨⟨zt_mem (List.mem_of_getElem? (i := 943) rfl) rfl, zt_mem (List.mem_of_getElem? (i := 51) (by decide +kernel)) rfl, by decide +kernel, by decide +kernel⟩, zt_mem (List.mem_of_getElem? (i := 942) (by decide +kernel)) rfl, zt_mem (List.mem_of_getElem? (i := 27) (by decide +kernel)) rfl⟩
abbrev Y_Mo_mayCome : zY := (⟨"CircuitWaysModel", "mayCome", "(II)Z"⟩, prog_13_method_12_code, 5, (some .boolean), "CircuitWaysModel")
set_option maxRecDepth 20000 in
theorem k_Mo_mayCome : zWv Y_Mo_mayCome := ⟨⟨zt_mem (List.mem_of_getElem? (i := 947) rfl) rfl, zt_mem (List.mem_of_getElem? (i := 51) (by decide +kernel)) rfl, by decide +kernel, by decide +kernel⟩, zt_mem (List.mem_of_getElem? (i := 946) (by decide +kernel)) rfl, zt_mem (List.mem_of_getElem? (i := 28) (by decide +kernel)) rfl⟩
abbrev Y_Mo_write : zY := (⟨"CircuitWaysModel", "write", "(I)V"⟩, prog_13_method_16_code, 2, none, "CircuitWaysModel")
set_option maxRecDepth 20000 in
theorem k_Mo_write : zWv Y_Mo_write := ⟨⟨zt_mem (List.mem_of_getElem? (i := 951) rfl) rfl, zt_mem (List.mem_of_getElem? (i := 51) (by decide +kernel)) rfl, by decide +kernel, by decide +kernel⟩, zt_mem (List.mem_of_getElem? (i := 950) (by decide +kernel)) rfl, zt_mem (List.mem_of_getElem? (i := 29) (by decide +kernel)) rfl⟩
abbrev Y_Mo_atNode : zY := (⟨"CircuitWaysModel", "atNode", "(LCircuitWaysModel;IIII)I"⟩, prog_13_method_18_code, 13, (some .int), "CircuitWaysModel")
set_option maxRecDepth 20000 in
theorem k_Mo_atNode : zWs Y_Mo_atNode := ⟨⟨zt_mem (List.mem_of_getElem? (i := 954) rfl) rfl, zt_mem (List.mem_of_getElem? (i := 51) (by decide +kernel)) rfl, by decide +kernel, by decide +kernel⟩, zt_mem (List.mem_of_getElem? (i := 953) (by decide +kernel)) rfl⟩
abbrev Y_Mo_note : zY := (⟨"CircuitWaysModel", "note", "(III)V"⟩, prog_13_method_15_code, 4, none, "CircuitWaysModel")
set_option maxRecDepth 20000 in
theorem k_Mo_note : zWv Y_Mo_note := ⟨⟨zt_mem (List.mem_of_getElem? (i := 958) rfl) rfl, zt_mem (List.mem_of_getElem? (i := 51) (by decide +kernel)) rfl, by decide +kernel, by decide +kernel⟩, zt_mem (List.mem_of_getElem? (i := 957) (by decide +kernel)) rfl, zt_mem (List.mem_of_getElem? (i := 30) (by decide +kernel)) rfl⟩
abbrev Y_Mo_many : zY := (⟨"CircuitWaysModel", "many", "()I"⟩, prog_13_method_22_code, 1, (some .int), "CircuitWaysModel")
set_option maxRecDepth 20000 in
theorem k_Mo_many : zWv Y_Mo_many := ⟨⟨zt_mem (List.mem_of_getElem? (i := 962) rfl) rfl, zt_mem (List.mem_of_getElem? (i := 51) (by decide +kernel)) rfl, by decide +kernel, by decide +kernel⟩, zt_mem (List.mem_of_getElem? (i := 960) (by decide +kernel)) rfl, zt_mem (List.mem_of_getElem? (i := 961) (by decide +kernel)) rfl⟩
abbrev Y_Mo_first : zY := (⟨"CircuitWaysModel", "first", "(I)I"⟩, prog_13_method_23_code, 2, (some .int), "CircuitWaysModel")
set_option maxRecDepth 20000 in
theorem k_Mo_first : zWv Y_Mo_first := ⟨⟨zt_mem (List.mem_of_getElem? (i := 966) rfl) rfl, zt_mem (List.mem_of_getElem? (i := 51) (by decide +kernel)) rfl, by decide +kernel, by decide +kernel⟩, zt_mem (List.mem_of_getElem? (i := 964) (by decide +kernel)) rfl, zt_mem (List.mem_of_getElem? (i := 965) (by decide +kernel)) rfl⟩
abbrev Y_Mo_with : zY := (⟨"CircuitWaysModel", "with", "(II)I"⟩, prog_13_method_24_code, 3, (some .int), "CircuitWaysModel")
set_option maxRecDepth 20000 in
theorem k_Mo_with : zWv Y_Mo_with := ⟨⟨zt_mem (List.mem_of_getElem? (i := 970) rfl) rfl, zt_mem (List.mem_of_getElem? (i := 51) (by decide +kernel)) rfl, by decide +kernel, by decide +kernel⟩, zt_mem (List.mem_of_getElem? (i := 968) (by decide +kernel)) rfl, zt_mem (List.mem_of_getElem? (i := 969) (by decide +kernel)) rfl⟩
abbrev Y_Mo_told : zY := (⟨"CircuitWaysModel", "told", "(I)I"⟩, prog_13_method_20_code, 1, (some .int), "CircuitWaysModel")
set_option maxRecDepth 20000 in
theorem k_Mo_told : zWs Y_Mo_told := ⟨⟨zt_mem (List.mem_of_getElem? (i := 973) rfl) rfl, zt_mem (List.mem_of_getElem? (i := 51) (by decide +kernel)) rfl, by decide +kernel, by decide +kernel⟩, zt_mem (List.mem_of_getElem? (i := 972) (by decide +kernel)) rfl⟩
abbrev Y_Mo_without : zY := (⟨"CircuitWaysModel", "without", "(I)I"⟩, prog_13_method_25_code, 2, (some .int), "CircuitWaysModel")
set_option maxRecDepth 20000 in
theorem k_Mo_without : zWv Y_Mo_without := ⟨⟨zt_mem (List.mem_of_getElem? (i := 977) rfl) rfl, zt_mem (List.mem_of_getElem? (i := 51) (by decide +kernel)) rfl, by decide +kernel, by decide +kernel⟩, zt_mem (List.mem_of_getElem? (i := 975) (by decide +kernel)) rfl, zt_mem (List.mem_of_getElem? (i := 976) (by decide +kernel)) rfl⟩
abbrev Y_Mo_filter : zY := (⟨"CircuitWaysModel", "filter", "(I)I"⟩, prog_13_method_26_code, 4, (some .int), "CircuitWaysModel")
set_option maxRecDepth 20000 in
theorem k_Mo_filter : zWv Y_Mo_filter := ⟨⟨zt_mem (List.mem_of_getElem? (i := 981) rfl) rfl, zt_mem (List.mem_of_getElem? (i := 51) (by decide +kernel)) rfl, by decide +kernel, by decide +kernel⟩, zt_mem (List.mem_of_getElem? (i := 979) (by decide +kernel)) rfl, zt_mem (List.mem_of_getElem? (i := 980) (by decide +kernel)) rfl⟩
abbrev Y_Mo_weight : zY := (⟨"CircuitWaysModel", "weight", "(II)I"⟩, prog_13_method_27_code, 4, (some .int), "CircuitWaysModel")
set_option maxRecDepth 20000 in
theorem k_Mo_weight : zWv Y_Mo_weight := ⟨⟨zt_mem (List.mem_of_getElem? (i := 985) rfl) rfl, zt_mem (List.mem_of_getElem? (i := 51) (by decide +kernel)) rfl, by decide +kernel, by decide +kernel⟩, zt_mem (List.mem_of_getElem? (i := 983) (by decide +kernel)) rfl, zt_mem (List.mem_of_getElem? (i := 984) (by decide +kernel)) rfl⟩
abbrev Y_Mo_bound : zY := (⟨"CircuitWaysModel", "bound", "()I"⟩, prog_13_method_32_code, 3, (some .int), "CircuitWaysModel")
set_option maxRecDepth 20000 in
theorem k_Mo_bound : zWv Y_Mo_bound := ⟨⟨zt_mem (List.mem_of_getElem? (i := 989) rfl) rfl, zt_mem (List.mem_of_getElem? (i := 51) (by decide +kernel)) rfl, by decide +kernel, by decide +kernel⟩, zt_mem (List.mem_of_getElem? (i := 987) (by decide +kernel)) rfl, zt_mem (List.mem_of_getElem? (i := 988) (by decide +kernel)) rfl⟩
abbrev Y_Mo_makeTree : zY := (⟨"CircuitWaysModel", "makeTree", "()Z"⟩, prog_13_method_31_code, 3, (some .boolean), "CircuitWaysModel")
set_option maxRecDepth 20000 in
theorem k_Mo_makeTree : zWv Y_Mo_makeTree := ⟨⟨zt_mem (List.mem_of_getElem? (i := 993) rfl) rfl, zt_mem (List.mem_of_getElem? (i := 51) (by decide +kernel)) rfl, by decide +kernel, by decide +kernel⟩, zt_mem (List.mem_of_getElem? (i := 992) (by decide +kernel)) rfl, zt_mem (List.mem_of_getElem? (i := 31) (by decide +kernel)) rfl⟩
abbrev Y_Mo_choose : zY := (⟨"CircuitWaysModel", "choose", "(Z)Z"⟩, prog_13_method_30_code, 7, (some .boolean), "CircuitWaysModel")
set_option maxRecDepth 20000 in
theorem k_Mo_choose : zWv Y_Mo_choose := ⟨⟨zt_mem (List.mem_of_getElem? (i := 997) rfl) rfl, zt_mem (List.mem_of_getElem? (i := 51) (by decide +kernel)) rfl, by decide +kernel, by decide +kernel⟩, zt_mem (List.mem_of_getElem? (i := 996) (by decide +kernel)) rfl, zt_mem (List.mem_of_getElem? (i := 32) (by decide +kernel)) rfl⟩
abbrev Y_Mo_edgeCost : zY := (⟨"CircuitWaysModel", "edgeCost", "(II)I"⟩, prog_13_method_28_code, 4, (some .int), "CircuitWaysModel")
set_option maxRecDepth 20000 in
theorem k_Mo_edgeCost : zWv Y_Mo_edgeCost := ⟨⟨zt_mem (List.mem_of_getElem? (i := 1001) rfl) rfl, zt_mem (List.mem_of_getElem? (i := 51) (by decide +kernel)) rfl, by decide +kernel, by decide +kernel⟩, zt_mem (List.mem_of_getElem? (i := 1000) (by decide +kernel)) rfl, zt_mem (List.mem_of_getElem? (i := 33) (by decide +kernel)) rfl⟩
abbrev Y_Mo_hasEdge : zY := (⟨"CircuitWaysModel", "hasEdge", "(II)Z"⟩, prog_13_method_29_code, 5, (some .boolean), "CircuitWaysModel")
set_option maxRecDepth 20000 in
theorem k_Mo_hasEdge : zWv Y_Mo_hasEdge := ⟨⟨zt_mem (List.mem_of_getElem? (i := 1005) rfl) rfl, zt_mem (List.mem_of_getElem? (i := 51) (by decide +kernel)) rfl, by decide +kernel, by decide +kernel⟩, zt_mem (List.mem_of_getElem? (i := 1004) (by decide +kernel)) rfl, zt_mem (List.mem_of_getElem? (i := 34) (by decide +kernel)) rfl⟩
abbrev Y_Mo_edge : zY := (⟨"CircuitWaysModel", "edge", "(II)I"⟩, prog_13_method_33_code, 3, (some .int), "CircuitWaysModel")
set_option maxRecDepth 20000 in
theorem k_Mo_edge : zWv Y_Mo_edge := ⟨⟨zt_mem (List.mem_of_getElem? (i := 1009) rfl) rfl, zt_mem (List.mem_of_getElem? (i := 51) (by decide +kernel)) rfl, by decide +kernel, by decide +kernel⟩, zt_mem (List.mem_of_getElem? (i := 1007) (by decide +kernel)) rfl, zt_mem (List.mem_of_getElem? (i := 1008) (by decide +kernel)) rfl⟩
abbrev Y_Mo_degree : zY := (⟨"CircuitWaysModel", "degree", "(I)I"⟩, prog_13_method_34_code, 4, (some .int), "CircuitWaysModel")
set_option maxRecDepth 20000 in
theorem k_Mo_degree : zWv Y_Mo_degree := ⟨⟨zt_mem (List.mem_of_getElem? (i := 1013) rfl) rfl, zt_mem (List.mem_of_getElem? (i := 51) (by decide +kernel)) rfl, by decide +kernel, by decide +kernel⟩, zt_mem (List.mem_of_getElem? (i := 1011) (by decide +kernel)) rfl, zt_mem (List.mem_of_getElem? (i := 1012) (by decide +kernel)) rfl⟩
abbrev Y_Mo_pairing : zY := (⟨"CircuitWaysModel", "pairing", "()I"⟩, prog_13_method_35_code, 5, (some .int), "CircuitWaysModel")
set_option maxRecDepth 20000 in
theorem k_Mo_pairing : zWv Y_Mo_pairing := ⟨⟨zt_mem (List.mem_of_getElem? (i := 1017) rfl) rfl, zt_mem (List.mem_of_getElem? (i := 51) (by decide +kernel)) rfl, by decide +kernel, by decide +kernel⟩, zt_mem (List.mem_of_getElem? (i := 1015) (by decide +kernel)) rfl, zt_mem (List.mem_of_getElem? (i := 1016) (by decide +kernel)) rfl⟩
abbrev Y_Mo_next : zY := (⟨"CircuitWaysModel", "next", "(II)I"⟩, prog_13_method_36_code, 4, (some .int), "CircuitWaysModel")
set_option maxRecDepth 20000 in
theorem k_Mo_next : zWv Y_Mo_next := ⟨⟨zt_mem (List.mem_of_getElem? (i := 1022) rfl) rfl, zt_mem (List.mem_of_getElem? (i := 51) (by decide +kernel)) rfl, by decide +kernel, by decide +kernel⟩, zt_mem (List.mem_of_getElem? (i := 1020) (by decide +kernel)) rfl, zt_mem (List.mem_of_getElem? (i := 1021) (by decide +kernel)) rfl⟩
abbrev Y_Mo_circle : zY := (⟨"CircuitWaysModel", "circle", "(I)I"⟩, prog_13_method_38_code, 5, (some .int), "CircuitWaysModel")
set_option maxRecDepth 20000 in
theorem k_Mo_circle : zWv Y_Mo_circle := ⟨⟨zt_mem (List.mem_of_getElem? (i := 1026) rfl) rfl, zt_mem (List.mem_of_getElem? (i := 51) (by decide +kernel)) rfl, by decide +kernel, by decide +kernel⟩, zt_mem (List.mem_of_getElem? (i := 1024) (by decide +kernel)) rfl, zt_mem (List.mem_of_getElem? (i := 1025) (by decide +kernel)) rfl⟩
abbrev Y_Mo_circleOf : zY := (⟨"CircuitWaysModel", "circleOf", "(I)I"⟩, prog_13_method_37_code, 5, (some .int), "CircuitWaysModel")
set_option maxRecDepth 20000 in
theorem k_Mo_circleOf : zWv Y_Mo_circleOf := ⟨⟨zt_mem (List.mem_of_getElem? (i := 1030) rfl) rfl, zt_mem (List.mem_of_getElem? (i := 51) (by decide +kernel)) rfl, by decide +kernel, by decide +kernel⟩, zt_mem (List.mem_of_getElem? (i := 1029) (by decide +kernel)) rfl, zt_mem (List.mem_of_getElem? (i := 35) (by decide +kernel)) rfl⟩
abbrev Y_Mo_nearest : zY := (⟨"CircuitWaysModel", "nearest", "(I)I"⟩, prog_13_method_41_code, 5, (some .int), "CircuitWaysModel")
set_option maxRecDepth 20000 in
theorem k_Mo_nearest : zWv Y_Mo_nearest := ⟨⟨zt_mem (List.mem_of_getElem? (i := 1034) rfl) rfl, zt_mem (List.mem_of_getElem? (i := 51) (by decide +kernel)) rfl, by decide +kernel, by decide +kernel⟩, zt_mem (List.mem_of_getElem? (i := 1032) (by decide +kernel)) rfl, zt_mem (List.mem_of_getElem? (i := 1033) (by decide +kernel)) rfl⟩
abbrev Y_Mo_leads : zY := (⟨"CircuitWaysModel", "leads", "(II)Z"⟩, prog_13_method_40_code, 3, (some .boolean), "CircuitWaysModel")
set_option maxRecDepth 20000 in
theorem k_Mo_leads : zWv Y_Mo_leads := ⟨⟨zt_mem (List.mem_of_getElem? (i := 1038) rfl) rfl, zt_mem (List.mem_of_getElem? (i := 51) (by decide +kernel)) rfl, by decide +kernel, by decide +kernel⟩, zt_mem (List.mem_of_getElem? (i := 1037) (by decide +kernel)) rfl, zt_mem (List.mem_of_getElem? (i := 36) (by decide +kernel)) rfl⟩
abbrev Y_Mo_reached : zY := (⟨"CircuitWaysModel", "reached", "(I)I"⟩, prog_13_method_39_code, 7, (some .int), "CircuitWaysModel")
set_option maxRecDepth 20000 in
theorem k_Mo_reached : zWv Y_Mo_reached := ⟨⟨zt_mem (List.mem_of_getElem? (i := 1042) rfl) rfl, zt_mem (List.mem_of_getElem? (i := 51) (by decide +kernel)) rfl, by decide +kernel, by decide +kernel⟩, zt_mem (List.mem_of_getElem? (i := 1041) (by decide +kernel)) rfl, zt_mem (List.mem_of_getElem? (i := 37) (by decide +kernel)) rfl⟩
abbrev Y_Mo_put : zY := (⟨"CircuitWaysModel", "put", "(I)I"⟩, prog_13_method_42_code, 2, (some .int), "CircuitWaysModel")
set_option maxRecDepth 20000 in
theorem k_Mo_put : zWv Y_Mo_put := ⟨⟨zt_mem (List.mem_of_getElem? (i := 1046) rfl) rfl, zt_mem (List.mem_of_getElem? (i := 51) (by decide +kernel)) rfl, by decide +kernel, by decide +kernel⟩, zt_mem (List.mem_of_getElem? (i := 1044) (by decide +kernel)) rfl, zt_mem (List.mem_of_getElem? (i := 1045) (by decide +kernel)) rfl⟩
abbrev Y_Mo_keep : zY := (⟨"CircuitWaysModel", "keep", "(I)I"⟩, prog_13_method_43_code, 3, (some .int), "CircuitWaysModel")
set_option maxRecDepth 20000 in
theorem k_Mo_keep : zWv Y_Mo_keep := ⟨⟨zt_mem (List.mem_of_getElem? (i := 1050) rfl) rfl, zt_mem (List.mem_of_getElem? (i := 51) (by decide +kernel)) rfl, by decide +kernel, by decide +kernel⟩, zt_mem (List.mem_of_getElem? (i := 1048) (by decide +kernel)) rfl, zt_mem (List.mem_of_getElem? (i := 1049) (by decide +kernel)) rfl⟩
abbrev Y_Mo_check : zY := (⟨"CircuitWaysModel", "check", "()I"⟩, prog_13_method_45_code, 1, (some .int), "CircuitWaysModel")
set_option maxRecDepth 20000 in
theorem k_Mo_check : zWv Y_Mo_check := ⟨⟨zt_mem (List.mem_of_getElem? (i := 1054) rfl) rfl, zt_mem (List.mem_of_getElem? (i := 51) (by decide +kernel)) rfl, by decide +kernel, by decide +kernel⟩, zt_mem (List.mem_of_getElem? (i := 1052) (by decide +kernel)) rfl, zt_mem (List.mem_of_getElem? (i := 1053) (by decide +kernel)) rfl⟩
abbrev Y_Mo_costOf : zY := (⟨"CircuitWaysModel", "costOf", "(II)I"⟩, prog_13_method_44_code, 9, (some .int), "CircuitWaysModel")
set_option maxRecDepth 20000 in
theorem k_Mo_costOf : zWv Y_Mo_costOf := ⟨⟨zt_mem (List.mem_of_getElem? (i := 1058) rfl) rfl, zt_mem (List.mem_of_getElem? (i := 51) (by decide +kernel)) rfl, by decide +kernel, by decide +kernel⟩, zt_mem (List.mem_of_getElem? (i := 1057) (by decide +kernel)) rfl, zt_mem (List.mem_of_getElem? (i := 38) (by decide +kernel)) rfl⟩
abbrev Y_Mo_insert : zY := (⟨"CircuitWaysModel", "insert", "(I)I"⟩, prog_13_method_46_code, 6, (some .int), "CircuitWaysModel")
set_option maxRecDepth 20000 in
theorem k_Mo_insert : zWv Y_Mo_insert := ⟨⟨zt_mem (List.mem_of_getElem? (i := 1062) rfl) rfl, zt_mem (List.mem_of_getElem? (i := 51) (by decide +kernel)) rfl, by decide +kernel, by decide +kernel⟩, zt_mem (List.mem_of_getElem? (i := 1060) (by decide +kernel)) rfl, zt_mem (List.mem_of_getElem? (i := 1061) (by decide +kernel)) rfl⟩
abbrev Y_Mo_count : zY := (⟨"CircuitWaysModel", "count", "(I)I"⟩, prog_13_method_47_code, 4, (some .int), "CircuitWaysModel")
set_option maxRecDepth 20000 in
theorem k_Mo_count : zWv Y_Mo_count := ⟨⟨zt_mem (List.mem_of_getElem? (i := 1066) rfl) rfl, zt_mem (List.mem_of_getElem? (i := 51) (by decide +kernel)) rfl, by decide +kernel, by decide +kernel⟩, zt_mem (List.mem_of_getElem? (i := 1064) (by decide +kernel)) rfl, zt_mem (List.mem_of_getElem? (i := 1065) (by decide +kernel)) rfl⟩
theorem f_Net_9 : Cond.fieldLink "CircuitWays$Net" 9 "CircuitWays$Net" "loads" "[I" ∈ zt := zt_mem (List.mem_of_getElem? (i := 69) (by decide +kernel)) rfl
theorem f_Pat_63 : Cond.fieldLink "CircuitWays$Paths" 63 "CircuitWays$Net" "loads" "[I" ∈ zt := zt_mem (List.mem_of_getElem? (i := 70) (by decide +kernel)) rfl
theorem f_Row_62 : Cond.fieldLink "CircuitWays$Row" 62 "CircuitWays$Net" "loads" "[I" ∈ zt := zt_mem (List.mem_of_getElem? (i := 71) (by decide +kernel)) rfl
theorem f_Net_15 : Cond.fieldLink "CircuitWays$Net" 15 "CircuitWays$Net" "costs" "[I" ∈ zt := zt_mem (List.mem_of_getElem? (i := 72) (by decide +kernel)) rfl
theorem f_Pai_32 : Cond.fieldLink "CircuitWays$Pairs" 32 "CircuitWays$Net" "costs" "[I" ∈ zt := zt_mem (List.mem_of_getElem? (i := 73) (by decide +kernel)) rfl
theorem f_Tai_63 : Cond.fieldLink "CircuitWays$Tails" 63 "CircuitWays$Net" "costs" "[I" ∈ zt := zt_mem (List.mem_of_getElem? (i := 74) (by decide +kernel)) rfl
theorem f_Fir_80 : Cond.fieldLink "CircuitWays$FirstPlan" 80 "CircuitWays$Net" "costs" "[I" ∈ zt := zt_mem (List.mem_of_getElem? (i := 75) (by decide +kernel)) rfl
theorem f_Tre_48 : Cond.fieldLink "CircuitWays$Tree" 48 "CircuitWays$Net" "costs" "[I" ∈ zt := zt_mem (List.mem_of_getElem? (i := 76) (by decide +kernel)) rfl
theorem f_Pat_75 : Cond.fieldLink "CircuitWays$Paths" 75 "CircuitWays$Net" "costs" "[I" ∈ zt := zt_mem (List.mem_of_getElem? (i := 77) (by decide +kernel)) rfl
theorem f_Way_41 : Cond.fieldLink "CircuitWays$Ways" 41 "CircuitWays$Net" "costs" "[I" ∈ zt := zt_mem (List.mem_of_getElem? (i := 78) (by decide +kernel)) rfl
theorem f_Row_59 : Cond.fieldLink "CircuitWays$Row" 59 "CircuitWays$Net" "costs" "[I" ∈ zt := zt_mem (List.mem_of_getElem? (i := 79) (by decide +kernel)) rfl
theorem f_Net_18 : Cond.fieldLink "CircuitWays$Net" 18 "CircuitWays$Net" "prices" "[I" ∈ zt := zt_mem (List.mem_of_getElem? (i := 80) (by decide +kernel)) rfl
theorem f_Net_21 : Cond.fieldLink "CircuitWays$Net" 21 "CircuitWays$Net" "earlier" "[I" ∈ zt := zt_mem (List.mem_of_getElem? (i := 81) (by decide +kernel)) rfl
theorem f_Pat_72 : Cond.fieldLink "CircuitWays$Paths" 72 "CircuitWays$Net" "earlier" "[I" ∈ zt := zt_mem (List.mem_of_getElem? (i := 82) (by decide +kernel)) rfl
theorem f_Row_56 : Cond.fieldLink "CircuitWays$Row" 56 "CircuitWays$Net" "earlier" "[I" ∈ zt := zt_mem (List.mem_of_getElem? (i := 83) (by decide +kernel)) rfl
theorem f_Net_24 : Cond.fieldLink "CircuitWays$Net" 24 "CircuitWays$Net" "size" "I" ∈ zt := zt_mem (List.mem_of_getElem? (i := 84) (by decide +kernel)) rfl
theorem f_Pai_19 : Cond.fieldLink "CircuitWays$Pairs" 19 "CircuitWays$Net" "size" "I" ∈ zt := zt_mem (List.mem_of_getElem? (i := 85) (by decide +kernel)) rfl
theorem f_CW_84 : Cond.fieldLink "CircuitWays" 84 "CircuitWays$Net" "size" "I" ∈ zt := zt_mem (List.mem_of_getElem? (i := 86) (by decide +kernel)) rfl
theorem f_Way_24 : Cond.fieldLink "CircuitWays$Ways" 24 "CircuitWays$Net" "size" "I" ∈ zt := zt_mem (List.mem_of_getElem? (i := 87) (by decide +kernel)) rfl
theorem f_Pat_50 : Cond.fieldLink "CircuitWays$Paths" 50 "CircuitWays$Net" "size" "I" ∈ zt := zt_mem (List.mem_of_getElem? (i := 88) (by decide +kernel)) rfl
theorem f_Tai_46 : Cond.fieldLink "CircuitWays$Tails" 46 "CircuitWays$Net" "size" "I" ∈ zt := zt_mem (List.mem_of_getElem? (i := 89) (by decide +kernel)) rfl
theorem f_Cir_22 : Cond.fieldLink "CircuitWays$Circles" 22 "CircuitWays$Net" "size" "I" ∈ zt := zt_mem (List.mem_of_getElem? (i := 90) (by decide +kernel)) rfl
theorem f_Tre_35 : Cond.fieldLink "CircuitWays$Tree" 35 "CircuitWays$Net" "size" "I" ∈ zt := zt_mem (List.mem_of_getElem? (i := 91) (by decide +kernel)) rfl
theorem f_Fir_90 : Cond.fieldLink "CircuitWays$FirstPlan" 90 "CircuitWays$Net" "size" "I" ∈ zt := zt_mem (List.mem_of_getElem? (i := 92) (by decide +kernel)) rfl
theorem f_Net_28 : Cond.fieldLink "CircuitWays$Net" 28 "CircuitWays$Net" "most" "I" ∈ zt := zt_mem (List.mem_of_getElem? (i := 93) (by decide +kernel)) rfl
theorem f_Fir_54 : Cond.fieldLink "CircuitWays$FirstPlan" 54 "CircuitWays$Net" "most" "I" ∈ zt := zt_mem (List.mem_of_getElem? (i := 94) (by decide +kernel)) rfl
theorem f_Sha_55 : Cond.fieldLink "CircuitWays$Shares" 55 "CircuitWays$Net" "most" "I" ∈ zt := zt_mem (List.mem_of_getElem? (i := 95) (by decide +kernel)) rfl
theorem f_Row_44 : Cond.fieldLink "CircuitWays$Row" 44 "CircuitWays$Net" "most" "I" ∈ zt := zt_mem (List.mem_of_getElem? (i := 96) (by decide +kernel)) rfl
theorem f_CW_148 : Cond.fieldLink "CircuitWays" 148 "CircuitWays$Net" "most" "I" ∈ zt := zt_mem (List.mem_of_getElem? (i := 97) (by decide +kernel)) rfl
theorem f_Net_31 : Cond.fieldLink "CircuitWays$Net" 31 "CircuitWays$Net" "room" "I" ∈ zt := zt_mem (List.mem_of_getElem? (i := 98) (by decide +kernel)) rfl
theorem f_Pat_66 : Cond.fieldLink "CircuitWays$Paths" 66 "CircuitWays$Net" "room" "I" ∈ zt := zt_mem (List.mem_of_getElem? (i := 99) (by decide +kernel)) rfl
theorem f_Row_65 : Cond.fieldLink "CircuitWays$Row" 65 "CircuitWays$Net" "room" "I" ∈ zt := zt_mem (List.mem_of_getElem? (i := 100) (by decide +kernel)) rfl
theorem f_CW_222 : Cond.fieldLink "CircuitWays" 222 "CircuitWays$Net" "room" "I" ∈ zt := zt_mem (List.mem_of_getElem? (i := 101) (by decide +kernel)) rfl
theorem f_Net_34 : Cond.fieldLink "CircuitWays$Net" 34 "CircuitWays$Net" "open" "I" ∈ zt := zt_mem (List.mem_of_getElem? (i := 102) (by decide +kernel)) rfl
theorem f_Tai_87 : Cond.fieldLink "CircuitWays$Tails" 87 "CircuitWays$Net" "open" "I" ∈ zt := zt_mem (List.mem_of_getElem? (i := 103) (by decide +kernel)) rfl
theorem f_CW_225 : Cond.fieldLink "CircuitWays" 225 "CircuitWays$Net" "open" "I" ∈ zt := zt_mem (List.mem_of_getElem? (i := 104) (by decide +kernel)) rfl
theorem f_Net_37 : Cond.fieldLink "CircuitWays$Net" 37 "CircuitWays$Net" "changes" "I" ∈ zt := zt_mem (List.mem_of_getElem? (i := 105) (by decide +kernel)) rfl
theorem f_Sha_37 : Cond.fieldLink "CircuitWays$Shares" 37 "CircuitWays$Net" "changes" "I" ∈ zt := zt_mem (List.mem_of_getElem? (i := 106) (by decide +kernel)) rfl
theorem f_Fir_40 : Cond.fieldLink "CircuitWays$FirstPlan" 40 "CircuitWays$Net" "changes" "I" ∈ zt := zt_mem (List.mem_of_getElem? (i := 107) (by decide +kernel)) rfl
theorem f_Tai_41 : Cond.fieldLink "CircuitWays$Tails" 41 "CircuitWays$Net" "changes" "I" ∈ zt := zt_mem (List.mem_of_getElem? (i := 108) (by decide +kernel)) rfl
theorem f_Pat_30 : Cond.fieldLink "CircuitWays$Paths" 30 "CircuitWays$Paths" "net" "LCircuitWays$Net;" ∈ zt := zt_mem (List.mem_of_getElem? (i := 135) (by decide +kernel)) rfl
theorem f_Pat_9 : Cond.fieldLink "CircuitWays$Paths" 9 "CircuitWays$Paths" "setLoad" "[I" ∈ zt := zt_mem (List.mem_of_getElem? (i := 136) (by decide +kernel)) rfl
theorem f_Pat_15 : Cond.fieldLink "CircuitWays$Paths" 15 "CircuitWays$Paths" "followers" "[I" ∈ zt := zt_mem (List.mem_of_getElem? (i := 137) (by decide +kernel)) rfl
theorem f_Tai_57 : Cond.fieldLink "CircuitWays$Tails" 57 "CircuitWays$Paths" "followers" "[I" ∈ zt := zt_mem (List.mem_of_getElem? (i := 138) (by decide +kernel)) rfl
theorem f_Pat_18 : Cond.fieldLink "CircuitWays$Paths" 18 "CircuitWays$Paths" "pathCost" "[I" ∈ zt := zt_mem (List.mem_of_getElem? (i := 139) (by decide +kernel)) rfl
theorem f_Tai_94 : Cond.fieldLink "CircuitWays$Tails" 94 "CircuitWays$Paths" "pathCost" "[I" ∈ zt := zt_mem (List.mem_of_getElem? (i := 140) (by decide +kernel)) rfl
theorem f_Pat_21 : Cond.fieldLink "CircuitWays$Paths" 21 "CircuitWays$Paths" "pathWays" "[I" ∈ zt := zt_mem (List.mem_of_getElem? (i := 141) (by decide +kernel)) rfl
theorem f_Pat_24 : Cond.fieldLink "CircuitWays$Paths" 24 "CircuitWays$Paths" "roundCost" "[I" ∈ zt := zt_mem (List.mem_of_getElem? (i := 142) (by decide +kernel)) rfl
theorem f_Sha_80 : Cond.fieldLink "CircuitWays$Shares" 80 "CircuitWays$Paths" "roundCost" "[I" ∈ zt := zt_mem (List.mem_of_getElem? (i := 143) (by decide +kernel)) rfl
theorem f_Pat_27 : Cond.fieldLink "CircuitWays$Paths" 27 "CircuitWays$Paths" "roundWays" "[I" ∈ zt := zt_mem (List.mem_of_getElem? (i := 144) (by decide +kernel)) rfl
theorem f_Sha_83 : Cond.fieldLink "CircuitWays$Shares" 83 "CircuitWays$Paths" "roundWays" "[I" ∈ zt := zt_mem (List.mem_of_getElem? (i := 145) (by decide +kernel)) rfl
theorem f_Sha_29 : Cond.fieldLink "CircuitWays$Shares" 29 "CircuitWays$Shares" "net" "LCircuitWays$Net;" ∈ zt := zt_mem (List.mem_of_getElem? (i := 168) (by decide +kernel)) rfl
theorem f_Sha_33 : Cond.fieldLink "CircuitWays$Shares" 33 "CircuitWays$Shares" "paths" "LCircuitWays$Paths;" ∈ zt := zt_mem (List.mem_of_getElem? (i := 169) (by decide +kernel)) rfl
theorem f_Sha_9 : Cond.fieldLink "CircuitWays$Shares" 9 "CircuitWays$Shares" "cost" "[I" ∈ zt := zt_mem (List.mem_of_getElem? (i := 170) (by decide +kernel)) rfl
theorem f_Fir_57 : Cond.fieldLink "CircuitWays$FirstPlan" 57 "CircuitWays$Shares" "cost" "[I" ∈ zt := zt_mem (List.mem_of_getElem? (i := 171) (by decide +kernel)) rfl
theorem f_Tai_72 : Cond.fieldLink "CircuitWays$Tails" 72 "CircuitWays$Shares" "cost" "[I" ∈ zt := zt_mem (List.mem_of_getElem? (i := 172) (by decide +kernel)) rfl
theorem f_Sha_15 : Cond.fieldLink "CircuitWays$Shares" 15 "CircuitWays$Shares" "waysOf" "[I" ∈ zt := zt_mem (List.mem_of_getElem? (i := 173) (by decide +kernel)) rfl
theorem f_Sha_19 : Cond.fieldLink "CircuitWays$Shares" 19 "CircuitWays$Shares" "least" "I" ∈ zt := zt_mem (List.mem_of_getElem? (i := 174) (by decide +kernel)) rfl
theorem f_Sha_23 : Cond.fieldLink "CircuitWays$Shares" 23 "CircuitWays$Shares" "leastCount" "I" ∈ zt := zt_mem (List.mem_of_getElem? (i := 175) (by decide +kernel)) rfl
theorem f_Sha_26 : Cond.fieldLink "CircuitWays$Shares" 26 "CircuitWays$Shares" "seen" "I" ∈ zt := zt_mem (List.mem_of_getElem? (i := 176) (by decide +kernel)) rfl
theorem f_Tai_29 : Cond.fieldLink "CircuitWays$Tails" 29 "CircuitWays$Tails" "net" "LCircuitWays$Net;" ∈ zt := zt_mem (List.mem_of_getElem? (i := 198) (by decide +kernel)) rfl
theorem f_Tai_33 : Cond.fieldLink "CircuitWays$Tails" 33 "CircuitWays$Tails" "paths" "LCircuitWays$Paths;" ∈ zt := zt_mem (List.mem_of_getElem? (i := 199) (by decide +kernel)) rfl
theorem f_Tai_37 : Cond.fieldLink "CircuitWays$Tails" 37 "CircuitWays$Tails" "shares" "LCircuitWays$Shares;" ∈ zt := zt_mem (List.mem_of_getElem? (i := 200) (by decide +kernel)) rfl
theorem f_Tai_9 : Cond.fieldLink "CircuitWays$Tails" 9 "CircuitWays$Tails" "cost" "[I" ∈ zt := zt_mem (List.mem_of_getElem? (i := 201) (by decide +kernel)) rfl
theorem f_Tai_15 : Cond.fieldLink "CircuitWays$Tails" 15 "CircuitWays$Tails" "above" "[Z" ∈ zt := zt_mem (List.mem_of_getElem? (i := 202) (by decide +kernel)) rfl
theorem f_Tai_19 : Cond.fieldLink "CircuitWays$Tails" 19 "CircuitWays$Tails" "seen" "I" ∈ zt := zt_mem (List.mem_of_getElem? (i := 203) (by decide +kernel)) rfl
theorem f_Tai_23 : Cond.fieldLink "CircuitWays$Tails" 23 "CircuitWays$Tails" "free" "I" ∈ zt := zt_mem (List.mem_of_getElem? (i := 204) (by decide +kernel)) rfl
theorem f_Tai_26 : Cond.fieldLink "CircuitWays$Tails" 26 "CircuitWays$Tails" "rounds" "I" ∈ zt := zt_mem (List.mem_of_getElem? (i := 205) (by decide +kernel)) rfl
theorem f_Fir_28 : Cond.fieldLink "CircuitWays$FirstPlan" 28 "CircuitWays$FirstPlan" "net" "LCircuitWays$Net;" ∈ zt := zt_mem (List.mem_of_getElem? (i := 230) (by decide +kernel)) rfl
theorem f_Fir_32 : Cond.fieldLink "CircuitWays$FirstPlan" 32 "CircuitWays$FirstPlan" "shares" "LCircuitWays$Shares;" ∈ zt := zt_mem (List.mem_of_getElem? (i := 231) (by decide +kernel)) rfl
theorem f_Fir_36 : Cond.fieldLink "CircuitWays$FirstPlan" 36 "CircuitWays$FirstPlan" "tails" "LCircuitWays$Tails;" ∈ zt := zt_mem (List.mem_of_getElem? (i := 232) (by decide +kernel)) rfl
theorem f_Fir_9 : Cond.fieldLink "CircuitWays$FirstPlan" 9 "CircuitWays$FirstPlan" "written" "[I" ∈ zt := zt_mem (List.mem_of_getElem? (i := 233) (by decide +kernel)) rfl
theorem f_CW_141 : Cond.fieldLink "CircuitWays" 141 "CircuitWays$FirstPlan" "written" "[I" ∈ zt := zt_mem (List.mem_of_getElem? (i := 234) (by decide +kernel)) rfl
theorem f_Fir_15 : Cond.fieldLink "CircuitWays$FirstPlan" 15 "CircuitWays$FirstPlan" "length" "I" ∈ zt := zt_mem (List.mem_of_getElem? (i := 235) (by decide +kernel)) rfl
theorem f_CW_138 : Cond.fieldLink "CircuitWays" 138 "CircuitWays$FirstPlan" "length" "I" ∈ zt := zt_mem (List.mem_of_getElem? (i := 236) (by decide +kernel)) rfl
theorem f_Fir_19 : Cond.fieldLink "CircuitWays$FirstPlan" 19 "CircuitWays$FirstPlan" "seen" "I" ∈ zt := zt_mem (List.mem_of_getElem? (i := 237) (by decide +kernel)) rfl
theorem f_Fir_22 : Cond.fieldLink "CircuitWays$FirstPlan" 22 "CircuitWays$FirstPlan" "due" "I" ∈ zt := zt_mem (List.mem_of_getElem? (i := 238) (by decide +kernel)) rfl
theorem f_Fir_25 : Cond.fieldLink "CircuitWays$FirstPlan" 25 "CircuitWays$FirstPlan" "free" "I" ∈ zt := zt_mem (List.mem_of_getElem? (i := 239) (by decide +kernel)) rfl
theorem f_Tre_31 : Cond.fieldLink "CircuitWays$Tree" 31 "CircuitWays$Tree" "net" "LCircuitWays$Net;" ∈ zt := zt_mem (List.mem_of_getElem? (i := 263) (by decide +kernel)) rfl
theorem f_Tre_9 : Cond.fieldLink "CircuitWays$Tree" 9 "CircuitWays$Tree" "weights" "[I" ∈ zt := zt_mem (List.mem_of_getElem? (i := 264) (by decide +kernel)) rfl
theorem f_Tre_15 : Cond.fieldLink "CircuitWays$Tree" 15 "CircuitWays$Tree" "part" "[I" ∈ zt := zt_mem (List.mem_of_getElem? (i := 265) (by decide +kernel)) rfl
theorem f_Tre_18 : Cond.fieldLink "CircuitWays$Tree" 18 "CircuitWays$Tree" "lesser" "[I" ∈ zt := zt_mem (List.mem_of_getElem? (i := 266) (by decide +kernel)) rfl
theorem f_CW_181 : Cond.fieldLink "CircuitWays" 181 "CircuitWays$Tree" "lesser" "[I" ∈ zt := zt_mem (List.mem_of_getElem? (i := 267) (by decide +kernel)) rfl
theorem f_Tre_21 : Cond.fieldLink "CircuitWays$Tree" 21 "CircuitWays$Tree" "other" "[I" ∈ zt := zt_mem (List.mem_of_getElem? (i := 268) (by decide +kernel)) rfl
theorem f_CW_184 : Cond.fieldLink "CircuitWays" 184 "CircuitWays$Tree" "other" "[I" ∈ zt := zt_mem (List.mem_of_getElem? (i := 269) (by decide +kernel)) rfl
theorem f_Tre_24 : Cond.fieldLink "CircuitWays$Tree" 24 "CircuitWays$Tree" "chosen" "I" ∈ zt := zt_mem (List.mem_of_getElem? (i := 270) (by decide +kernel)) rfl
theorem f_CW_178 : Cond.fieldLink "CircuitWays" 178 "CircuitWays$Tree" "chosen" "I" ∈ zt := zt_mem (List.mem_of_getElem? (i := 271) (by decide +kernel)) rfl
theorem f_Tre_28 : Cond.fieldLink "CircuitWays$Tree" 28 "CircuitWays$Tree" "cost" "I" ∈ zt := zt_mem (List.mem_of_getElem? (i := 272) (by decide +kernel)) rfl
theorem f_Pai_15 : Cond.fieldLink "CircuitWays$Pairs" 15 "CircuitWays$Pairs" "net" "LCircuitWays$Net;" ∈ zt := zt_mem (List.mem_of_getElem? (i := 294) (by decide +kernel)) rfl
theorem f_Pai_9 : Cond.fieldLink "CircuitWays$Pairs" 9 "CircuitWays$Pairs" "cost" "[I" ∈ zt := zt_mem (List.mem_of_getElem? (i := 295) (by decide +kernel)) rfl
theorem f_Cir_18 : Cond.fieldLink "CircuitWays$Circles" 18 "CircuitWays$Circles" "net" "LCircuitWays$Net;" ∈ zt := zt_mem (List.mem_of_getElem? (i := 307) (by decide +kernel)) rfl
theorem f_Cir_9 : Cond.fieldLink "CircuitWays$Circles" 9 "CircuitWays$Circles" "follower" "[I" ∈ zt := zt_mem (List.mem_of_getElem? (i := 308) (by decide +kernel)) rfl
theorem f_Cir_15 : Cond.fieldLink "CircuitWays$Circles" 15 "CircuitWays$Circles" "members" "[I" ∈ zt := zt_mem (List.mem_of_getElem? (i := 309) (by decide +kernel)) rfl
theorem f_CW_197 : Cond.fieldLink "CircuitWays" 197 "CircuitWays$Circles" "members" "[I" ∈ zt := zt_mem (List.mem_of_getElem? (i := 310) (by decide +kernel)) rfl
theorem f_Way_15 : Cond.fieldLink "CircuitWays$Ways" 15 "CircuitWays$Ways" "net" "LCircuitWays$Net;" ∈ zt := zt_mem (List.mem_of_getElem? (i := 324) (by decide +kernel)) rfl
theorem f_Way_9 : Cond.fieldLink "CircuitWays$Ways" 9 "CircuitWays$Ways" "reachedWithout" "[I" ∈ zt := zt_mem (List.mem_of_getElem? (i := 325) (by decide +kernel)) rfl
theorem f_Row_22 : Cond.fieldLink "CircuitWays$Row" 22 "CircuitWays$Row" "net" "LCircuitWays$Net;" ∈ zt := zt_mem (List.mem_of_getElem? (i := 337) (by decide +kernel)) rfl
theorem f_Row_9 : Cond.fieldLink "CircuitWays$Row" 9 "CircuitWays$Row" "numbers" "[I" ∈ zt := zt_mem (List.mem_of_getElem? (i := 338) (by decide +kernel)) rfl
theorem f_Row_15 : Cond.fieldLink "CircuitWays$Row" 15 "CircuitWays$Row" "trial" "[I" ∈ zt := zt_mem (List.mem_of_getElem? (i := 339) (by decide +kernel)) rfl
theorem f_Row_18 : Cond.fieldLink "CircuitWays$Row" 18 "CircuitWays$Row" "size" "I" ∈ zt := zt_mem (List.mem_of_getElem? (i := 340) (by decide +kernel)) rfl
theorem f_CW_203 : Cond.fieldLink "CircuitWays" 203 "CircuitWays$Row" "size" "I" ∈ zt := zt_mem (List.mem_of_getElem? (i := 341) (by decide +kernel)) rfl
theorem f_CW_10 : Cond.fieldLink "CircuitWays" 10 "CircuitWays" "net" "LCircuitWays$Net;" ∈ zt := zt_mem (List.mem_of_getElem? (i := 351) (by decide +kernel)) rfl
theorem f_CW_26 : Cond.fieldLink "CircuitWays" 26 "CircuitWays" "shares" "LCircuitWays$Shares;" ∈ zt := zt_mem (List.mem_of_getElem? (i := 352) (by decide +kernel)) rfl
theorem f_CW_35 : Cond.fieldLink "CircuitWays" 35 "CircuitWays" "tails" "LCircuitWays$Tails;" ∈ zt := zt_mem (List.mem_of_getElem? (i := 353) (by decide +kernel)) rfl
theorem f_CW_44 : Cond.fieldLink "CircuitWays" 44 "CircuitWays" "firstPlan" "LCircuitWays$FirstPlan;" ∈ zt := zt_mem (List.mem_of_getElem? (i := 354) (by decide +kernel)) rfl
theorem f_CW_51 : Cond.fieldLink "CircuitWays" 51 "CircuitWays" "tree" "LCircuitWays$Tree;" ∈ zt := zt_mem (List.mem_of_getElem? (i := 355) (by decide +kernel)) rfl
theorem f_CW_58 : Cond.fieldLink "CircuitWays" 58 "CircuitWays" "pairs" "LCircuitWays$Pairs;" ∈ zt := zt_mem (List.mem_of_getElem? (i := 356) (by decide +kernel)) rfl
theorem f_CW_65 : Cond.fieldLink "CircuitWays" 65 "CircuitWays" "circles" "LCircuitWays$Circles;" ∈ zt := zt_mem (List.mem_of_getElem? (i := 357) (by decide +kernel)) rfl
theorem f_CW_72 : Cond.fieldLink "CircuitWays" 72 "CircuitWays" "ways" "LCircuitWays$Ways;" ∈ zt := zt_mem (List.mem_of_getElem? (i := 358) (by decide +kernel)) rfl
theorem f_CW_79 : Cond.fieldLink "CircuitWays" 79 "CircuitWays" "row" "LCircuitWays$Row;" ∈ zt := zt_mem (List.mem_of_getElem? (i := 359) (by decide +kernel)) rfl
theorem f_Mo_1 : Cond.fieldLink "CircuitWaysModel" 1 "CircuitWaysModel" "thrown" "I" ∈ zt := zt_mem (List.mem_of_getElem? (i := 792) (by decide +kernel)) rfl
theorem f_Mo_13 : Cond.fieldLink "CircuitWaysModel" 13 "CircuitWaysModel" "nodes" "I" ∈ zt := zt_mem (List.mem_of_getElem? (i := 793) (by decide +kernel)) rfl
theorem f_Mo_16 : Cond.fieldLink "CircuitWaysModel" 16 "CircuitWaysModel" "load" "[I" ∈ zt := zt_mem (List.mem_of_getElem? (i := 794) (by decide +kernel)) rfl
theorem f_Mo_20 : Cond.fieldLink "CircuitWaysModel" 20 "CircuitWaysModel" "arc" "[I" ∈ zt := zt_mem (List.mem_of_getElem? (i := 795) (by decide +kernel)) rfl
theorem f_Mo_23 : Cond.fieldLink "CircuitWaysModel" 23 "CircuitWaysModel" "price" "[I" ∈ zt := zt_mem (List.mem_of_getElem? (i := 796) (by decide +kernel)) rfl
theorem f_Mo_26 : Cond.fieldLink "CircuitWaysModel" 26 "CircuitWaysModel" "isAhead" "[Z" ∈ zt := zt_mem (List.mem_of_getElem? (i := 797) (by decide +kernel)) rfl
theorem f_Mo_30 : Cond.fieldLink "CircuitWaysModel" 30 "CircuitWaysModel" "most" "I" ∈ zt := zt_mem (List.mem_of_getElem? (i := 798) (by decide +kernel)) rfl
theorem f_Mo_33 : Cond.fieldLink "CircuitWaysModel" 33 "CircuitWaysModel" "room" "I" ∈ zt := zt_mem (List.mem_of_getElem? (i := 799) (by decide +kernel)) rfl
theorem f_Mo_89 : Cond.fieldLink "CircuitWaysModel" 89 "CircuitWaysModel" "open" "I" ∈ zt := zt_mem (List.mem_of_getElem? (i := 800) (by decide +kernel)) rfl
theorem f_Mo_36 : Cond.fieldLink "CircuitWaysModel" 36 "CircuitWaysModel" "weight" "[I" ∈ zt := zt_mem (List.mem_of_getElem? (i := 801) (by decide +kernel)) rfl
theorem f_Mo_39 : Cond.fieldLink "CircuitWaysModel" 39 "CircuitWaysModel" "next" "[I" ∈ zt := zt_mem (List.mem_of_getElem? (i := 802) (by decide +kernel)) rfl
theorem f_Mo_42 : Cond.fieldLink "CircuitWaysModel" 42 "CircuitWaysModel" "row" "[I" ∈ zt := zt_mem (List.mem_of_getElem? (i := 803) (by decide +kernel)) rfl
theorem f_Mo_181 : Cond.fieldLink "CircuitWaysModel" 181 "CircuitWaysModel" "rowSize" "I" ∈ zt := zt_mem (List.mem_of_getElem? (i := 804) (by decide +kernel)) rfl
theorem f_Mo_80 : Cond.fieldLink "CircuitWaysModel" 80 "CircuitWaysModel" "isKnown" "Z" ∈ zt := zt_mem (List.mem_of_getElem? (i := 805) (by decide +kernel)) rfl
theorem f_Mo_102 : Cond.fieldLink "CircuitWaysModel" 102 "CircuitWaysModel" "best" "I" ∈ zt := zt_mem (List.mem_of_getElem? (i := 806) (by decide +kernel)) rfl
theorem f_Mo_105 : Cond.fieldLink "CircuitWaysModel" 105 "CircuitWaysModel" "many" "I" ∈ zt := zt_mem (List.mem_of_getElem? (i := 807) (by decide +kernel)) rfl
theorem f_Mo_45 : Cond.fieldLink "CircuitWaysModel" 45 "CircuitWaysModel" "with" "[I" ∈ zt := zt_mem (List.mem_of_getElem? (i := 808) (by decide +kernel)) rfl
theorem f_Mo_48 : Cond.fieldLink "CircuitWaysModel" 48 "CircuitWaysModel" "without" "[I" ∈ zt := zt_mem (List.mem_of_getElem? (i := 809) (by decide +kernel)) rfl
theorem f_Mo_51 : Cond.fieldLink "CircuitWaysModel" 51 "CircuitWaysModel" "first" "[I" ∈ zt := zt_mem (List.mem_of_getElem? (i := 810) (by decide +kernel)) rfl
theorem f_Mo_108 : Cond.fieldLink "CircuitWaysModel" 108 "CircuitWaysModel" "firstSize" "I" ∈ zt := zt_mem (List.mem_of_getElem? (i := 811) (by decide +kernel)) rfl
theorem f_Mo_54 : Cond.fieldLink "CircuitWaysModel" 54 "CircuitWaysModel" "written" "[I" ∈ zt := zt_mem (List.mem_of_getElem? (i := 812) (by decide +kernel)) rfl
theorem f_Mo_115 : Cond.fieldLink "CircuitWaysModel" 115 "CircuitWaysModel" "writtenSize" "I" ∈ zt := zt_mem (List.mem_of_getElem? (i := 813) (by decide +kernel)) rfl
theorem f_Mo_92 : Cond.fieldLink "CircuitWaysModel" 92 "CircuitWaysModel" "used" "I" ∈ zt := zt_mem (List.mem_of_getElem? (i := 814) (by decide +kernel)) rfl
theorem f_Mo_98 : Cond.fieldLink "CircuitWaysModel" 98 "CircuitWaysModel" "here" "I" ∈ zt := zt_mem (List.mem_of_getElem? (i := 815) (by decide +kernel)) rfl
theorem f_Mo_95 : Cond.fieldLink "CircuitWaysModel" 95 "CircuitWaysModel" "hereLoad" "I" ∈ zt := zt_mem (List.mem_of_getElem? (i := 816) (by decide +kernel)) rfl
theorem f_Mo_122 : Cond.fieldLink "CircuitWaysModel" 122 "CircuitWaysModel" "rounds" "I" ∈ zt := zt_mem (List.mem_of_getElem? (i := 817) (by decide +kernel)) rfl
theorem f_Mo_57 : Cond.fieldLink "CircuitWaysModel" 57 "CircuitWaysModel" "edgeA" "[I" ∈ zt := zt_mem (List.mem_of_getElem? (i := 818) (by decide +kernel)) rfl
theorem f_Mo_60 : Cond.fieldLink "CircuitWaysModel" 60 "CircuitWaysModel" "edgeB" "[I" ∈ zt := zt_mem (List.mem_of_getElem? (i := 819) (by decide +kernel)) rfl
theorem f_Mo_150 : Cond.fieldLink "CircuitWaysModel" 150 "CircuitWaysModel" "edges" "I" ∈ zt := zt_mem (List.mem_of_getElem? (i := 820) (by decide +kernel)) rfl
theorem f_Mo_63 : Cond.fieldLink "CircuitWaysModel" 63 "CircuitWaysModel" "part" "[I" ∈ zt := zt_mem (List.mem_of_getElem? (i := 821) (by decide +kernel)) rfl
theorem f_Mo_66 : Cond.fieldLink "CircuitWaysModel" 66 "CircuitWaysModel" "paired" "[I" ∈ zt := zt_mem (List.mem_of_getElem? (i := 822) (by decide +kernel)) rfl
theorem m_La_9 : Cond.methodLink "CircuitWaysLaw" 9 (⟨"CircuitWays", "<init>", "()V"⟩ : MethodName) ∈ zt := zt_mem (List.mem_of_getElem? (i := 56) (by decide +kernel)) rfl
theorem m_CW_1 : Cond.methodLink "CircuitWays" 1 (⟨"java/lang/Object", "<init>", "()V"⟩ : MethodName) ∈ zt := zt_mem (List.mem_of_getElem? (i := 59) (by decide +kernel)) rfl
theorem m_CW_9 : Cond.methodLink "CircuitWays" 9 (⟨"CircuitWays$Net", "<init>", "()V"⟩ : MethodName) ∈ zt := zt_mem (List.mem_of_getElem? (i := 64) (by decide +kernel)) rfl
theorem m_Net_3 : Cond.methodLink "CircuitWays$Net" 3 (⟨"java/lang/Object", "<init>", "()V"⟩ : MethodName) ∈ zt := zt_mem (List.mem_of_getElem? (i := 67) (by decide +kernel)) rfl
theorem m_CW_18 : Cond.methodLink "CircuitWays" 18 (⟨"CircuitWays$Paths", "<init>", "(LCircuitWays$Net;)V"⟩ : MethodName) ∈ zt := zt_mem (List.mem_of_getElem? (i := 131) (by decide +kernel)) rfl
theorem m_Pat_3 : Cond.methodLink "CircuitWays$Paths" 3 (⟨"java/lang/Object", "<init>", "()V"⟩ : MethodName) ∈ zt := zt_mem (List.mem_of_getElem? (i := 134) (by decide +kernel)) rfl
theorem m_CW_23 : Cond.methodLink "CircuitWays" 23 (⟨"CircuitWays$Shares", "<init>", "(LCircuitWays$Net;LCircuitWays$Paths;)V"⟩ : MethodName) ∈ zt := zt_mem (List.mem_of_getElem? (i := 163) (by decide +kernel)) rfl
theorem m_Sha_3 : Cond.methodLink "CircuitWays$Shares" 3 (⟨"java/lang/Object", "<init>", "()V"⟩ : MethodName) ∈ zt := zt_mem (List.mem_of_getElem? (i := 166) (by decide +kernel)) rfl
theorem m_CW_32 : Cond.methodLink "CircuitWays" 32 (⟨"CircuitWays$Tails", "<init>", "(LCircuitWays$Net;LCircuitWays$Paths;LCircuitWays$Shares;)V"⟩ : MethodName) ∈ zt := zt_mem (List.mem_of_getElem? (i := 194) (by decide +kernel)) rfl
theorem m_Tai_3 : Cond.methodLink "CircuitWays$Tails" 3 (⟨"java/lang/Object", "<init>", "()V"⟩ : MethodName) ∈ zt := zt_mem (List.mem_of_getElem? (i := 197) (by decide +kernel)) rfl
theorem m_CW_41 : Cond.methodLink "CircuitWays" 41 (⟨"CircuitWays$FirstPlan", "<init>", "(LCircuitWays$Net;LCircuitWays$Shares;LCircuitWays$Tails;)V"⟩ : MethodName) ∈ zt := zt_mem (List.mem_of_getElem? (i := 226) (by decide +kernel)) rfl
theorem m_Fir_3 : Cond.methodLink "CircuitWays$FirstPlan" 3 (⟨"java/lang/Object", "<init>", "()V"⟩ : MethodName) ∈ zt := zt_mem (List.mem_of_getElem? (i := 229) (by decide +kernel)) rfl
theorem m_CW_50 : Cond.methodLink "CircuitWays" 50 (⟨"CircuitWays$Tree", "<init>", "(LCircuitWays$Net;)V"⟩ : MethodName) ∈ zt := zt_mem (List.mem_of_getElem? (i := 259) (by decide +kernel)) rfl
theorem m_Tre_3 : Cond.methodLink "CircuitWays$Tree" 3 (⟨"java/lang/Object", "<init>", "()V"⟩ : MethodName) ∈ zt := zt_mem (List.mem_of_getElem? (i := 262) (by decide +kernel)) rfl
theorem m_CW_57 : Cond.methodLink "CircuitWays" 57 (⟨"CircuitWays$Pairs", "<init>", "(LCircuitWays$Net;)V"⟩ : MethodName) ∈ zt := zt_mem (List.mem_of_getElem? (i := 290) (by decide +kernel)) rfl
theorem m_Pai_3 : Cond.methodLink "CircuitWays$Pairs" 3 (⟨"java/lang/Object", "<init>", "()V"⟩ : MethodName) ∈ zt := zt_mem (List.mem_of_getElem? (i := 293) (by decide +kernel)) rfl
theorem m_CW_64 : Cond.methodLink "CircuitWays" 64 (⟨"CircuitWays$Circles", "<init>", "(LCircuitWays$Net;)V"⟩ : MethodName) ∈ zt := zt_mem (List.mem_of_getElem? (i := 303) (by decide +kernel)) rfl
theorem m_Cir_3 : Cond.methodLink "CircuitWays$Circles" 3 (⟨"java/lang/Object", "<init>", "()V"⟩ : MethodName) ∈ zt := zt_mem (List.mem_of_getElem? (i := 306) (by decide +kernel)) rfl
theorem m_CW_71 : Cond.methodLink "CircuitWays" 71 (⟨"CircuitWays$Ways", "<init>", "(LCircuitWays$Net;)V"⟩ : MethodName) ∈ zt := zt_mem (List.mem_of_getElem? (i := 320) (by decide +kernel)) rfl
theorem m_Way_3 : Cond.methodLink "CircuitWays$Ways" 3 (⟨"java/lang/Object", "<init>", "()V"⟩ : MethodName) ∈ zt := zt_mem (List.mem_of_getElem? (i := 323) (by decide +kernel)) rfl
theorem m_CW_78 : Cond.methodLink "CircuitWays" 78 (⟨"CircuitWays$Row", "<init>", "(LCircuitWays$Net;)V"⟩ : MethodName) ∈ zt := zt_mem (List.mem_of_getElem? (i := 333) (by decide +kernel)) rfl
theorem m_Row_3 : Cond.methodLink "CircuitWays$Row" 3 (⟨"java/lang/Object", "<init>", "()V"⟩ : MethodName) ∈ zt := zt_mem (List.mem_of_getElem? (i := 336) (by decide +kernel)) rfl
theorem m_La_13 : Cond.methodLink "CircuitWaysLaw" 13 (⟨"CircuitWays", "node", "(I)I"⟩ : MethodName) ∈ zt := zt_mem (List.mem_of_getElem? (i := 379) (by decide +kernel)) rfl
theorem m_CW_89 : Cond.methodLink "CircuitWays" 89 (⟨"CircuitWays$Net", "addNode", "(I)I"⟩ : MethodName) ∈ zt := zt_mem (List.mem_of_getElem? (i := 385) (by decide +kernel)) rfl
theorem m_La_18 : Cond.methodLink "CircuitWaysLaw" 18 (⟨"CircuitWays", "arc", "(III)I"⟩ : MethodName) ∈ zt := zt_mem (List.mem_of_getElem? (i := 389) (by decide +kernel)) rfl
theorem m_CW_93 : Cond.methodLink "CircuitWays" 93 (⟨"CircuitWays$Net", "areTwo", "(II)Z"⟩ : MethodName) ∈ zt := zt_mem (List.mem_of_getElem? (i := 393) (by decide +kernel)) rfl
theorem m_Net_41 : Cond.methodLink "CircuitWays$Net" 41 (⟨"CircuitWays$Net", "isNode", "(I)Z"⟩ : MethodName) ∈ zt := zt_mem (List.mem_of_getElem? (i := 397) (by decide +kernel)) rfl
theorem m_CW_97 : Cond.methodLink "CircuitWays" 97 (⟨"CircuitWays$Net", "changeCost", "(III)I"⟩ : MethodName) ∈ zt := zt_mem (List.mem_of_getElem? (i := 401) (by decide +kernel)) rfl
theorem m_CW_101 : Cond.methodLink "CircuitWays" 101 (⟨"CircuitWays", "orNone", "(I)I"⟩ : MethodName) ∈ zt := zt_mem (List.mem_of_getElem? (i := 405) (by decide +kernel)) rfl
theorem m_La_23 : Cond.methodLink "CircuitWaysLaw" 23 (⟨"CircuitWays", "lose", "(II)I"⟩ : MethodName) ∈ zt := zt_mem (List.mem_of_getElem? (i := 410) (by decide +kernel)) rfl
theorem m_La_28 : Cond.methodLink "CircuitWaysLaw" 28 (⟨"CircuitWays", "price", "(II)I"⟩ : MethodName) ∈ zt := zt_mem (List.mem_of_getElem? (i := 414) (by decide +kernel)) rfl
theorem m_CW_105 : Cond.methodLink "CircuitWays" 105 (⟨"CircuitWays$Net", "isPlace", "(I)Z"⟩ : MethodName) ∈ zt := zt_mem (List.mem_of_getElem? (i := 418) (by decide +kernel)) rfl
theorem m_CW_109 : Cond.methodLink "CircuitWays" 109 (⟨"CircuitWays$Net", "changePrice", "(II)I"⟩ : MethodName) ∈ zt := zt_mem (List.mem_of_getElem? (i := 422) (by decide +kernel)) rfl
theorem m_La_32 : Cond.methodLink "CircuitWaysLaw" 32 (⟨"CircuitWays", "ahead", "(IIZ)I"⟩ : MethodName) ∈ zt := zt_mem (List.mem_of_getElem? (i := 426) (by decide +kernel)) rfl
theorem m_CW_113 : Cond.methodLink "CircuitWays" 113 (⟨"CircuitWays$Net", "changeEarlier", "(IIZ)I"⟩ : MethodName) ∈ zt := zt_mem (List.mem_of_getElem? (i := 430) (by decide +kernel)) rfl
theorem m_La_37 : Cond.methodLink "CircuitWaysLaw" 37 (⟨"CircuitWays", "rule", "(II)I"⟩ : MethodName) ∈ zt := zt_mem (List.mem_of_getElem? (i := 437) (by decide +kernel)) rfl
theorem m_CW_117 : Cond.methodLink "CircuitWays" 117 (⟨"CircuitWays$Net", "changeMost", "(I)I"⟩ : MethodName) ∈ zt := zt_mem (List.mem_of_getElem? (i := 441) (by decide +kernel)) rfl
theorem m_CW_120 : Cond.methodLink "CircuitWays" 120 (⟨"CircuitWays$Net", "changeRoom", "(I)I"⟩ : MethodName) ∈ zt := zt_mem (List.mem_of_getElem? (i := 445) (by decide +kernel)) rfl
theorem m_CW_123 : Cond.methodLink "CircuitWays" 123 (⟨"CircuitWays$Net", "changeOpen", "(I)I"⟩ : MethodName) ∈ zt := zt_mem (List.mem_of_getElem? (i := 449) (by decide +kernel)) rfl
theorem m_La_41 : Cond.methodLink "CircuitWaysLaw" 41 (⟨"CircuitWays", "best", "()I"⟩ : MethodName) ∈ zt := zt_mem (List.mem_of_getElem? (i := 453) (by decide +kernel)) rfl
theorem m_CW_126 : Cond.methodLink "CircuitWays" 126 (⟨"CircuitWays$Shares", "refresh", "()V"⟩ : MethodName) ∈ zt := zt_mem (List.mem_of_getElem? (i := 457) (by decide +kernel)) rfl
theorem m_Sha_42 : Cond.methodLink "CircuitWays$Shares" 42 (⟨"CircuitWays$Paths", "compute", "()V"⟩ : MethodName) ∈ zt := zt_mem (List.mem_of_getElem? (i := 461) (by decide +kernel)) rfl
theorem m_Pat_34 : Cond.methodLink "CircuitWays$Paths" 34 (⟨"CircuitWays$Paths", "addLoads", "()V"⟩ : MethodName) ∈ zt := zt_mem (List.mem_of_getElem? (i := 465) (by decide +kernel)) rfl
theorem m_Pat_37 : Cond.methodLink "CircuitWays$Paths" 37 (⟨"CircuitWays$Paths", "clearPaths", "()V"⟩ : MethodName) ∈ zt := zt_mem (List.mem_of_getElem? (i := 470) (by decide +kernel)) rfl
theorem m_Pat_40 : Cond.methodLink "CircuitWays$Paths" 40 (⟨"CircuitWays$Net", "allPlaces", "()I"⟩ : MethodName) ∈ zt := zt_mem (List.mem_of_getElem? (i := 474) (by decide +kernel)) rfl
theorem m_Pat_46 : Cond.methodLink "CircuitWays$Paths" 46 (⟨"CircuitWays$Paths", "followersOf", "(I)I"⟩ : MethodName) ∈ zt := zt_mem (List.mem_of_getElem? (i := 479) (by decide +kernel)) rfl
theorem m_Pat_55 : Cond.methodLink "CircuitWays$Paths" 55 (⟨"CircuitWays$Paths", "extend", "(II)V"⟩ : MethodName) ∈ zt := zt_mem (List.mem_of_getElem? (i := 483) (by decide +kernel)) rfl
theorem m_Pat_59 : Cond.methodLink "CircuitWays$Paths" 59 (⟨"CircuitWays$Paths", "closeRound", "(I)V"⟩ : MethodName) ∈ zt := zt_mem (List.mem_of_getElem? (i := 487) (by decide +kernel)) rfl
theorem m_Pat_78 : Cond.methodLink "CircuitWays$Paths" 78 (⟨"CircuitWays$Net", "costBack", "(I)I"⟩ : MethodName) ∈ zt := zt_mem (List.mem_of_getElem? (i := 491) (by decide +kernel)) rfl
theorem m_Sha_47 : Cond.methodLink "CircuitWays$Shares" 47 (⟨"CircuitWays$Net", "allPlaces", "()I"⟩ : MethodName) ∈ zt := zt_mem (List.mem_of_getElem? (i := 498) (by decide +kernel)) rfl
theorem m_Sha_51 : Cond.methodLink "CircuitWays$Shares" 51 (⟨"CircuitWays$Net", "costOut", "(I)I"⟩ : MethodName) ∈ zt := zt_mem (List.mem_of_getElem? (i := 499) (by decide +kernel)) rfl
theorem m_Sha_58 : Cond.methodLink "CircuitWays$Shares" 58 (⟨"java/lang/Integer", "bitCount", "(I)I"⟩ : MethodName) ∈ zt := zt_mem (List.mem_of_getElem? (i := 504) (by decide +kernel)) rfl
theorem m_Sha_63 : Cond.methodLink "CircuitWays$Shares" 63 (⟨"CircuitWays$Shares", "copyShare", "(II)V"⟩ : MethodName) ∈ zt := zt_mem (List.mem_of_getElem? (i := 510) (by decide +kernel)) rfl
theorem m_Sha_67 : Cond.methodLink "CircuitWays$Shares" 67 (⟨"CircuitWays$Shares", "share", "(II)V"⟩ : MethodName) ∈ zt := zt_mem (List.mem_of_getElem? (i := 514) (by decide +kernel)) rfl
theorem m_Sha_77 : Cond.methodLink "CircuitWays$Shares" 77 (⟨"CircuitWays$Shares", "offer", "(II)V"⟩ : MethodName) ∈ zt := zt_mem (List.mem_of_getElem? (i := 519) (by decide +kernel)) rfl
theorem m_CW_129 : Cond.methodLink "CircuitWays" 129 (⟨"CircuitWays$Shares", "leastCost", "()I"⟩ : MethodName) ∈ zt := zt_mem (List.mem_of_getElem? (i := 523) (by decide +kernel)) rfl
theorem m_La_46 : Cond.methodLink "CircuitWaysLaw" 46 (⟨"CircuitWays", "many", "()I"⟩ : MethodName) ∈ zt := zt_mem (List.mem_of_getElem? (i := 527) (by decide +kernel)) rfl
theorem m_CW_133 : Cond.methodLink "CircuitWays" 133 (⟨"CircuitWays$Shares", "leastWays", "()I"⟩ : MethodName) ∈ zt := zt_mem (List.mem_of_getElem? (i := 531) (by decide +kernel)) rfl
theorem m_La_50 : Cond.methodLink "CircuitWaysLaw" 50 (⟨"CircuitWays", "first", "(I)I"⟩ : MethodName) ∈ zt := zt_mem (List.mem_of_getElem? (i := 535) (by decide +kernel)) rfl
theorem m_CW_137 : Cond.methodLink "CircuitWays" 137 (⟨"CircuitWays$FirstPlan", "refresh", "()V"⟩ : MethodName) ∈ zt := zt_mem (List.mem_of_getElem? (i := 539) (by decide +kernel)) rfl
theorem m_Fir_45 : Cond.methodLink "CircuitWays$FirstPlan" 45 (⟨"CircuitWays$Shares", "leastCost", "()I"⟩ : MethodName) ∈ zt := zt_mem (List.mem_of_getElem? (i := 543) (by decide +kernel)) rfl
theorem m_Fir_51 : Cond.methodLink "CircuitWays$FirstPlan" 51 (⟨"CircuitWays$Net", "allPlaces", "()I"⟩ : MethodName) ∈ zt := zt_mem (List.mem_of_getElem? (i := 544) (by decide +kernel)) rfl
theorem m_Fir_60 : Cond.methodLink "CircuitWays$FirstPlan" 60 (⟨"CircuitWays$FirstPlan", "write", "(I)V"⟩ : MethodName) ∈ zt := zt_mem (List.mem_of_getElem? (i := 545) (by decide +kernel)) rfl
theorem m_Fir_64 : Cond.methodLink "CircuitWays$FirstPlan" 64 (⟨"CircuitWays$Tails", "fill", "(II)V"⟩ : MethodName) ∈ zt := zt_mem (List.mem_of_getElem? (i := 549) (by decide +kernel)) rfl
theorem m_Tai_53 : Cond.methodLink "CircuitWays$Tails" 53 (⟨"CircuitWays$Tails", "leastBehind", "(II)I"⟩ : MethodName) ∈ zt := zt_mem (List.mem_of_getElem? (i := 554) (by decide +kernel)) rfl
theorem m_Tai_75 : Cond.methodLink "CircuitWays$Tails" 75 (⟨"CircuitWays$Tails", "costClosing", "(II)I"⟩ : MethodName) ∈ zt := zt_mem (List.mem_of_getElem? (i := 558) (by decide +kernel)) rfl
theorem m_Tai_69 : Cond.methodLink "CircuitWays$Tails" 69 (⟨"CircuitWays$Net", "costBack", "(I)I"⟩ : MethodName) ∈ zt := zt_mem (List.mem_of_getElem? (i := 562) (by decide +kernel)) rfl
theorem m_Tai_78 : Cond.methodLink "CircuitWays$Tails" 78 (⟨"CircuitWays$Tails", "costOver", "(III)I"⟩ : MethodName) ∈ zt := zt_mem (List.mem_of_getElem? (i := 564) (by decide +kernel)) rfl
theorem m_Tai_82 : Cond.methodLink "CircuitWays$Tails" 82 (⟨"java/lang/Math", "min", "(II)I"⟩ : MethodName) ∈ zt := zt_mem (List.mem_of_getElem? (i := 569) (by decide +kernel)) rfl
theorem m_Fir_70 : Cond.methodLink "CircuitWays$FirstPlan" 70 (⟨"CircuitWays$FirstPlan", "writeRound", "()V"⟩ : MethodName) ∈ zt := zt_mem (List.mem_of_getElem? (i := 572) (by decide +kernel)) rfl
theorem m_Fir_73 : Cond.methodLink "CircuitWays$FirstPlan" 73 (⟨"CircuitWays$Tails", "costClosing", "(II)I"⟩ : MethodName) ∈ zt := zt_mem (List.mem_of_getElem? (i := 576) (by decide +kernel)) rfl
theorem m_Fir_77 : Cond.methodLink "CircuitWays$FirstPlan" 77 (⟨"CircuitWays$FirstPlan", "followerDue", "(II)I"⟩ : MethodName) ∈ zt := zt_mem (List.mem_of_getElem? (i := 577) (by decide +kernel)) rfl
theorem m_Fir_93 : Cond.methodLink "CircuitWays$FirstPlan" 93 (⟨"CircuitWays$Tails", "costOver", "(III)I"⟩ : MethodName) ∈ zt := zt_mem (List.mem_of_getElem? (i := 581) (by decide +kernel)) rfl
theorem m_Fir_87 : Cond.methodLink "CircuitWays$FirstPlan" 87 (⟨"CircuitWays$Net", "costBack", "(I)I"⟩ : MethodName) ∈ zt := zt_mem (List.mem_of_getElem? (i := 583) (by decide +kernel)) rfl
theorem m_La_54 : Cond.methodLink "CircuitWaysLaw" 54 (⟨"CircuitWays", "with", "(II)I"⟩ : MethodName) ∈ zt := zt_mem (List.mem_of_getElem? (i := 584) (by decide +kernel)) rfl
theorem m_CW_145 : Cond.methodLink "CircuitWays" 145 (⟨"CircuitWays$Net", "allPlaces", "()I"⟩ : MethodName) ∈ zt := zt_mem (List.mem_of_getElem? (i := 588) (by decide +kernel)) rfl
theorem m_CW_151 : Cond.methodLink "CircuitWays" 151 (⟨"CircuitWays$Tails", "fill", "(II)V"⟩ : MethodName) ∈ zt := zt_mem (List.mem_of_getElem? (i := 589) (by decide +kernel)) rfl
theorem m_CW_156 : Cond.methodLink "CircuitWays" 156 (⟨"CircuitWays$Tails", "leastThrough", "(III)I"⟩ : MethodName) ∈ zt := zt_mem (List.mem_of_getElem? (i := 591) (by decide +kernel)) rfl
theorem m_Tai_90 : Cond.methodLink "CircuitWays$Tails" 90 (⟨"CircuitWays$Net", "allPlaces", "()I"⟩ : MethodName) ∈ zt := zt_mem (List.mem_of_getElem? (i := 595) (by decide +kernel)) rfl
theorem m_La_58 : Cond.methodLink "CircuitWaysLaw" 58 (⟨"CircuitWays", "without", "(I)I"⟩ : MethodName) ∈ zt := zt_mem (List.mem_of_getElem? (i := 596) (by decide +kernel)) rfl
theorem m_CW_159 : Cond.methodLink "CircuitWays" 159 (⟨"CircuitWays$Shares", "leastLeavingOut", "(I)I"⟩ : MethodName) ∈ zt := zt_mem (List.mem_of_getElem? (i := 600) (by decide +kernel)) rfl
theorem m_La_62 : Cond.methodLink "CircuitWaysLaw" 62 (⟨"CircuitWays", "filter", "(I)I"⟩ : MethodName) ∈ zt := zt_mem (List.mem_of_getElem? (i := 605) (by decide +kernel)) rfl
theorem m_CW_162 : Cond.methodLink "CircuitWays" 162 (⟨"CircuitWays$Tails", "dropArcsAbove", "(I)I"⟩ : MethodName) ∈ zt := zt_mem (List.mem_of_getElem? (i := 609) (by decide +kernel)) rfl
theorem m_Tai_97 : Cond.methodLink "CircuitWays$Tails" 97 (⟨"CircuitWays$Tails", "leastThrough", "(III)I"⟩ : MethodName) ∈ zt := zt_mem (List.mem_of_getElem? (i := 613) (by decide +kernel)) rfl
theorem m_Tai_100 : Cond.methodLink "CircuitWays$Tails" 100 (⟨"CircuitWays$Net", "changeCost", "(III)I"⟩ : MethodName) ∈ zt := zt_mem (List.mem_of_getElem? (i := 614) (by decide +kernel)) rfl
theorem m_La_66 : Cond.methodLink "CircuitWaysLaw" 66 (⟨"CircuitWays", "weight", "(II)I"⟩ : MethodName) ∈ zt := zt_mem (List.mem_of_getElem? (i := 615) (by decide +kernel)) rfl
theorem m_CW_165 : Cond.methodLink "CircuitWays" 165 (⟨"CircuitWays$Net", "isNode", "(I)Z"⟩ : MethodName) ∈ zt := zt_mem (List.mem_of_getElem? (i := 619) (by decide +kernel)) rfl
theorem m_CW_168 : Cond.methodLink "CircuitWays" 168 (⟨"CircuitWays$Tree", "changeWeight", "(II)I"⟩ : MethodName) ∈ zt := zt_mem (List.mem_of_getElem? (i := 620) (by decide +kernel)) rfl
theorem m_La_70 : Cond.methodLink "CircuitWaysLaw" 70 (⟨"CircuitWays", "bound", "()I"⟩ : MethodName) ∈ zt := zt_mem (List.mem_of_getElem? (i := 624) (by decide +kernel)) rfl
theorem m_CW_171 : Cond.methodLink "CircuitWays" 171 (⟨"CircuitWays$Tree", "grow", "()Z"⟩ : MethodName) ∈ zt := zt_mem (List.mem_of_getElem? (i := 628) (by decide +kernel)) rfl
theorem m_Tre_40 : Cond.methodLink "CircuitWays$Tree" 40 (⟨"CircuitWays$Tree", "chooseJoining", "()Z"⟩ : MethodName) ∈ zt := zt_mem (List.mem_of_getElem? (i := 632) (by decide +kernel)) rfl
theorem m_Tre_61 : Cond.methodLink "CircuitWays$Tree" 61 (⟨"CircuitWays$Tree", "edgeCost", "(II)I"⟩ : MethodName) ∈ zt := zt_mem (List.mem_of_getElem? (i := 637) (by decide +kernel)) rfl
theorem m_Tre_51 : Cond.methodLink "CircuitWays$Tree" 51 (⟨"java/lang/Math", "min", "(II)I"⟩ : MethodName) ∈ zt := zt_mem (List.mem_of_getElem? (i := 641) (by decide +kernel)) rfl
theorem m_Tre_64 : Cond.methodLink "CircuitWays$Tree" 64 (⟨"CircuitWays$Tree", "choose", "(II)Z"⟩ : MethodName) ∈ zt := zt_mem (List.mem_of_getElem? (i := 643) (by decide +kernel)) rfl
theorem m_Tre_44 : Cond.methodLink "CircuitWays$Tree" 44 (⟨"CircuitWays$Tree", "chooseAtHouse", "(I)Z"⟩ : MethodName) ∈ zt := zt_mem (List.mem_of_getElem? (i := 647) (by decide +kernel)) rfl
theorem m_CW_175 : Cond.methodLink "CircuitWays" 175 (⟨"CircuitWays$Tree", "lowerBound", "()I"⟩ : MethodName) ∈ zt := zt_mem (List.mem_of_getElem? (i := 651) (by decide +kernel)) rfl
theorem m_La_74 : Cond.methodLink "CircuitWaysLaw" 74 (⟨"CircuitWays", "edge", "(II)I"⟩ : MethodName) ∈ zt := zt_mem (List.mem_of_getElem? (i := 655) (by decide +kernel)) rfl
theorem m_La_78 : Cond.methodLink "CircuitWaysLaw" 78 (⟨"CircuitWays", "degree", "(I)I"⟩ : MethodName) ∈ zt := zt_mem (List.mem_of_getElem? (i := 659) (by decide +kernel)) rfl
theorem m_CW_187 : Cond.methodLink "CircuitWays" 187 (⟨"CircuitWays$Tree", "edgesAt", "(I)I"⟩ : MethodName) ∈ zt := zt_mem (List.mem_of_getElem? (i := 663) (by decide +kernel)) rfl
theorem m_La_82 : Cond.methodLink "CircuitWaysLaw" 82 (⟨"CircuitWays", "pairing", "()I"⟩ : MethodName) ∈ zt := zt_mem (List.mem_of_getElem? (i := 667) (by decide +kernel)) rfl
theorem m_CW_190 : Cond.methodLink "CircuitWays" 190 (⟨"CircuitWays$Pairs", "leastCost", "()I"⟩ : MethodName) ∈ zt := zt_mem (List.mem_of_getElem? (i := 671) (by decide +kernel)) rfl
theorem m_Pai_25 : Cond.methodLink "CircuitWays$Pairs" 25 (⟨"java/lang/Integer", "bitCount", "(I)I"⟩ : MethodName) ∈ zt := zt_mem (List.mem_of_getElem? (i := 675) (by decide +kernel)) rfl
theorem m_Pai_39 : Cond.methodLink "CircuitWays$Pairs" 39 (⟨"java/lang/Math", "min", "(II)I"⟩ : MethodName) ∈ zt := zt_mem (List.mem_of_getElem? (i := 678) (by decide +kernel)) rfl
theorem m_La_86 : Cond.methodLink "CircuitWaysLaw" 86 (⟨"CircuitWays", "next", "(II)I"⟩ : MethodName) ∈ zt := zt_mem (List.mem_of_getElem? (i := 679) (by decide +kernel)) rfl
theorem m_CW_191 : Cond.methodLink "CircuitWays" 191 (⟨"CircuitWays$Circles", "changeFollower", "(II)I"⟩ : MethodName) ∈ zt := zt_mem (List.mem_of_getElem? (i := 683) (by decide +kernel)) rfl
theorem m_La_90 : Cond.methodLink "CircuitWaysLaw" 90 (⟨"CircuitWays", "circle", "(I)I"⟩ : MethodName) ∈ zt := zt_mem (List.mem_of_getElem? (i := 687) (by decide +kernel)) rfl
theorem m_CW_194 : Cond.methodLink "CircuitWays" 194 (⟨"CircuitWays$Circles", "find", "()I"⟩ : MethodName) ∈ zt := zt_mem (List.mem_of_getElem? (i := 691) (by decide +kernel)) rfl
theorem m_Cir_28 : Cond.methodLink "CircuitWays$Circles" 28 (⟨"CircuitWays$Circles", "circleFrom", "(I)I"⟩ : MethodName) ∈ zt := zt_mem (List.mem_of_getElem? (i := 695) (by decide +kernel)) rfl
theorem m_La_94 : Cond.methodLink "CircuitWaysLaw" 94 (⟨"CircuitWays", "nearest", "(I)I"⟩ : MethodName) ∈ zt := zt_mem (List.mem_of_getElem? (i := 699) (by decide +kernel)) rfl
theorem m_CW_200 : Cond.methodLink "CircuitWays" 200 (⟨"CircuitWays$Ways", "nearestLeading", "(I)I"⟩ : MethodName) ∈ zt := zt_mem (List.mem_of_getElem? (i := 703) (by decide +kernel)) rfl
theorem m_Way_19 : Cond.methodLink "CircuitWays$Ways" 19 (⟨"CircuitWays$Ways", "reached", "(I)I"⟩ : MethodName) ∈ zt := zt_mem (List.mem_of_getElem? (i := 707) (by decide +kernel)) rfl
theorem m_Way_37 : Cond.methodLink "CircuitWays$Ways" 37 (⟨"CircuitWays$Ways", "stepFrom", "(II)I"⟩ : MethodName) ∈ zt := zt_mem (List.mem_of_getElem? (i := 711) (by decide +kernel)) rfl
theorem m_Way_30 : Cond.methodLink "CircuitWays$Ways" 30 (⟨"CircuitWays$Ways", "leads", "(II)Z"⟩ : MethodName) ∈ zt := zt_mem (List.mem_of_getElem? (i := 717) (by decide +kernel)) rfl
theorem m_Way_34 : Cond.methodLink "CircuitWays$Ways" 34 (⟨"CircuitWays$Ways", "isNearest", "(II)Z"⟩ : MethodName) ∈ zt := zt_mem (List.mem_of_getElem? (i := 721) (by decide +kernel)) rfl
theorem m_La_98 : Cond.methodLink "CircuitWaysLaw" 98 (⟨"CircuitWays", "put", "(I)I"⟩ : MethodName) ∈ zt := zt_mem (List.mem_of_getElem? (i := 725) (by decide +kernel)) rfl
theorem m_CW_204 : Cond.methodLink "CircuitWays" 204 (⟨"CircuitWays$Row", "append", "(I)I"⟩ : MethodName) ∈ zt := zt_mem (List.mem_of_getElem? (i := 729) (by decide +kernel)) rfl
theorem m_La_102 : Cond.methodLink "CircuitWaysLaw" 102 (⟨"CircuitWays", "keep", "(I)I"⟩ : MethodName) ∈ zt := zt_mem (List.mem_of_getElem? (i := 733) (by decide +kernel)) rfl
theorem m_CW_207 : Cond.methodLink "CircuitWays" 207 (⟨"CircuitWays$Row", "cut", "(I)I"⟩ : MethodName) ∈ zt := zt_mem (List.mem_of_getElem? (i := 737) (by decide +kernel)) rfl
theorem m_La_106 : Cond.methodLink "CircuitWaysLaw" 106 (⟨"CircuitWays", "check", "()I"⟩ : MethodName) ∈ zt := zt_mem (List.mem_of_getElem? (i := 741) (by decide +kernel)) rfl
theorem m_CW_210 : Cond.methodLink "CircuitWays" 210 (⟨"CircuitWays$Row", "cost", "()I"⟩ : MethodName) ∈ zt := zt_mem (List.mem_of_getElem? (i := 745) (by decide +kernel)) rfl
theorem m_Row_26 : Cond.methodLink "CircuitWays$Row" 26 (⟨"CircuitWays$Row", "planCost", "([II)I"⟩ : MethodName) ∈ zt := zt_mem (List.mem_of_getElem? (i := 749) (by decide +kernel)) rfl
theorem m_Row_36 : Cond.methodLink "CircuitWays$Row" 36 (⟨"CircuitWays$Row", "roundCost", "([III)I"⟩ : MethodName) ∈ zt := zt_mem (List.mem_of_getElem? (i := 755) (by decide +kernel)) rfl
theorem m_Row_68 : Cond.methodLink "CircuitWays$Row" 68 (⟨"CircuitWays$Net", "costBack", "(I)I"⟩ : MethodName) ∈ zt := zt_mem (List.mem_of_getElem? (i := 760) (by decide +kernel)) rfl
theorem m_Row_49 : Cond.methodLink "CircuitWays$Row" 49 (⟨"CircuitWays$Net", "allPlaces", "()I"⟩ : MethodName) ∈ zt := zt_mem (List.mem_of_getElem? (i := 761) (by decide +kernel)) rfl
theorem m_Row_53 : Cond.methodLink "CircuitWays$Row" 53 (⟨"CircuitWays$Net", "costOut", "(I)I"⟩ : MethodName) ∈ zt := zt_mem (List.mem_of_getElem? (i := 762) (by decide +kernel)) rfl
theorem m_La_110 : Cond.methodLink "CircuitWaysLaw" 110 (⟨"CircuitWays", "insert", "(I)I"⟩ : MethodName) ∈ zt := zt_mem (List.mem_of_getElem? (i := 763) (by decide +kernel)) rfl
theorem m_CW_213 : Cond.methodLink "CircuitWays" 213 (⟨"CircuitWays$Row", "cheapestPlace", "(I)I"⟩ : MethodName) ∈ zt := zt_mem (List.mem_of_getElem? (i := 767) (by decide +kernel)) rfl
theorem m_La_114 : Cond.methodLink "CircuitWaysLaw" 114 (⟨"CircuitWays", "count", "(I)I"⟩ : MethodName) ∈ zt := zt_mem (List.mem_of_getElem? (i := 772) (by decide +kernel)) rfl
theorem m_CW_216 : Cond.methodLink "CircuitWays" 216 (⟨"CircuitWays$Net", "arcs", "()I"⟩ : MethodName) ∈ zt := zt_mem (List.mem_of_getElem? (i := 776) (by decide +kernel)) rfl
theorem m_CW_219 : Cond.methodLink "CircuitWays" 219 (⟨"CircuitWays$Net", "pairsAhead", "()I"⟩ : MethodName) ∈ zt := zt_mem (List.mem_of_getElem? (i := 780) (by decide +kernel)) rfl
theorem m_Net_49 : Cond.methodLink "CircuitWays$Net" 49 (⟨"java/lang/Integer", "bitCount", "(I)I"⟩ : MethodName) ∈ zt := zt_mem (List.mem_of_getElem? (i := 784) (by decide +kernel)) rfl
theorem m_La_12 : Cond.methodLink "CircuitWaysLaw" 12 (⟨"CircuitWaysModel", "<init>", "()V"⟩ : MethodName) ∈ zt := zt_mem (List.mem_of_getElem? (i := 787) (by decide +kernel)) rfl
theorem m_Mo_7 : Cond.methodLink "CircuitWaysModel" 7 (⟨"java/lang/Object", "<init>", "()V"⟩ : MethodName) ∈ zt := zt_mem (List.mem_of_getElem? (i := 790) (by decide +kernel)) rfl
theorem m_La_17 : Cond.methodLink "CircuitWaysLaw" 17 (⟨"CircuitWaysModel", "node", "(I)I"⟩ : MethodName) ∈ zt := zt_mem (List.mem_of_getElem? (i := 886) (by decide +kernel)) rfl
theorem m_Mo_70 : Cond.methodLink "CircuitWaysModel" 70 (⟨"CircuitWaysModel", "in", "(III)Z"⟩ : MethodName) ∈ zt := zt_mem (List.mem_of_getElem? (i := 890) (by decide +kernel)) rfl
theorem m_La_22 : Cond.methodLink "CircuitWaysLaw" 22 (⟨"CircuitWaysModel", "arc", "(III)I"⟩ : MethodName) ∈ zt := zt_mem (List.mem_of_getElem? (i := 895) (by decide +kernel)) rfl
theorem m_Mo_84 : Cond.methodLink "CircuitWaysModel" 84 (⟨"CircuitWaysModel", "noTwo", "(II)Z"⟩ : MethodName) ∈ zt := zt_mem (List.mem_of_getElem? (i := 899) (by decide +kernel)) rfl
theorem m_Mo_74 : Cond.methodLink "CircuitWaysModel" 74 (⟨"CircuitWaysModel", "noNode", "(I)Z"⟩ : MethodName) ∈ zt := zt_mem (List.mem_of_getElem? (i := 903) (by decide +kernel)) rfl
theorem m_La_27 : Cond.methodLink "CircuitWaysLaw" 27 (⟨"CircuitWaysModel", "lose", "(II)I"⟩ : MethodName) ∈ zt := zt_mem (List.mem_of_getElem? (i := 908) (by decide +kernel)) rfl
theorem m_La_31 : Cond.methodLink "CircuitWaysLaw" 31 (⟨"CircuitWaysModel", "price", "(II)I"⟩ : MethodName) ∈ zt := zt_mem (List.mem_of_getElem? (i := 912) (by decide +kernel)) rfl
theorem m_La_36 : Cond.methodLink "CircuitWaysLaw" 36 (⟨"CircuitWaysModel", "ahead", "(IIZ)I"⟩ : MethodName) ∈ zt := zt_mem (List.mem_of_getElem? (i := 916) (by decide +kernel)) rfl
theorem m_La_40 : Cond.methodLink "CircuitWaysLaw" 40 (⟨"CircuitWaysModel", "rule", "(II)I"⟩ : MethodName) ∈ zt := zt_mem (List.mem_of_getElem? (i := 920) (by decide +kernel)) rfl
theorem m_La_45 : Cond.methodLink "CircuitWaysLaw" 45 (⟨"CircuitWaysModel", "best", "()I"⟩ : MethodName) ∈ zt := zt_mem (List.mem_of_getElem? (i := 924) (by decide +kernel)) rfl
theorem m_Mo_144 : Cond.methodLink "CircuitWaysModel" 144 (⟨"CircuitWaysModel", "know", "()V"⟩ : MethodName) ∈ zt := zt_mem (List.mem_of_getElem? (i := 928) (by decide +kernel)) rfl
theorem m_Mo_136 : Cond.methodLink "CircuitWaysModel" 136 (⟨"CircuitWaysModel", "atHouse", "(LCircuitWaysModel;II)I"⟩ : MethodName) ∈ zt := zt_mem (List.mem_of_getElem? (i := 933) (by decide +kernel)) rfl
theorem m_Mo_118 : Cond.methodLink "CircuitWaysModel" 118 (⟨"CircuitWaysModel", "whole", "(I)I"⟩ : MethodName) ∈ zt := zt_mem (List.mem_of_getElem? (i := 936) (by decide +kernel)) rfl
theorem m_Mo_111 : Cond.methodLink "CircuitWaysModel" 111 (⟨"CircuitWaysModel", "isBeforeFirst", "()Z"⟩ : MethodName) ∈ zt := zt_mem (List.mem_of_getElem? (i := 940) (by decide +kernel)) rfl
theorem m_Mo_125 : Cond.methodLink "CircuitWaysModel" 125 (⟨"CircuitWaysModel", "mayCome", "(II)Z"⟩ : MethodName) ∈ zt := zt_mem (List.mem_of_getElem? (i := 944) (by decide +kernel)) rfl
theorem m_Mo_128 : Cond.methodLink "CircuitWaysModel" 128 (⟨"CircuitWaysModel", "write", "(I)V"⟩ : MethodName) ∈ zt := zt_mem (List.mem_of_getElem? (i := 948) (by decide +kernel)) rfl
theorem m_Mo_132 : Cond.methodLink "CircuitWaysModel" 132 (⟨"CircuitWaysModel", "atNode", "(LCircuitWaysModel;IIII)I"⟩ : MethodName) ∈ zt := zt_mem (List.mem_of_getElem? (i := 952) (by decide +kernel)) rfl
theorem m_Mo_140 : Cond.methodLink "CircuitWaysModel" 140 (⟨"CircuitWaysModel", "note", "(III)V"⟩ : MethodName) ∈ zt := zt_mem (List.mem_of_getElem? (i := 955) (by decide +kernel)) rfl
theorem m_La_49 : Cond.methodLink "CircuitWaysLaw" 49 (⟨"CircuitWaysModel", "many", "()I"⟩ : MethodName) ∈ zt := zt_mem (List.mem_of_getElem? (i := 959) (by decide +kernel)) rfl
theorem m_La_53 : Cond.methodLink "CircuitWaysLaw" 53 (⟨"CircuitWaysModel", "first", "(I)I"⟩ : MethodName) ∈ zt := zt_mem (List.mem_of_getElem? (i := 963) (by decide +kernel)) rfl
theorem m_La_57 : Cond.methodLink "CircuitWaysLaw" 57 (⟨"CircuitWaysModel", "with", "(II)I"⟩ : MethodName) ∈ zt := zt_mem (List.mem_of_getElem? (i := 967) (by decide +kernel)) rfl
theorem m_Mo_147 : Cond.methodLink "CircuitWaysModel" 147 (⟨"CircuitWaysModel", "told", "(I)I"⟩ : MethodName) ∈ zt := zt_mem (List.mem_of_getElem? (i := 971) (by decide +kernel)) rfl
theorem m_La_61 : Cond.methodLink "CircuitWaysLaw" 61 (⟨"CircuitWaysModel", "without", "(I)I"⟩ : MethodName) ∈ zt := zt_mem (List.mem_of_getElem? (i := 974) (by decide +kernel)) rfl
theorem m_La_65 : Cond.methodLink "CircuitWaysLaw" 65 (⟨"CircuitWaysModel", "filter", "(I)I"⟩ : MethodName) ∈ zt := zt_mem (List.mem_of_getElem? (i := 978) (by decide +kernel)) rfl
theorem m_La_69 : Cond.methodLink "CircuitWaysLaw" 69 (⟨"CircuitWaysModel", "weight", "(II)I"⟩ : MethodName) ∈ zt := zt_mem (List.mem_of_getElem? (i := 982) (by decide +kernel)) rfl
theorem m_La_73 : Cond.methodLink "CircuitWaysLaw" 73 (⟨"CircuitWaysModel", "bound", "()I"⟩ : MethodName) ∈ zt := zt_mem (List.mem_of_getElem? (i := 986) (by decide +kernel)) rfl
theorem m_Mo_164 : Cond.methodLink "CircuitWaysModel" 164 (⟨"CircuitWaysModel", "makeTree", "()Z"⟩ : MethodName) ∈ zt := zt_mem (List.mem_of_getElem? (i := 990) (by decide +kernel)) rfl
theorem m_Mo_160 : Cond.methodLink "CircuitWaysModel" 160 (⟨"CircuitWaysModel", "choose", "(Z)Z"⟩ : MethodName) ∈ zt := zt_mem (List.mem_of_getElem? (i := 994) (by decide +kernel)) rfl
theorem m_Mo_153 : Cond.methodLink "CircuitWaysModel" 153 (⟨"CircuitWaysModel", "edgeCost", "(II)I"⟩ : MethodName) ∈ zt := zt_mem (List.mem_of_getElem? (i := 998) (by decide +kernel)) rfl
theorem m_Mo_157 : Cond.methodLink "CircuitWaysModel" 157 (⟨"CircuitWaysModel", "hasEdge", "(II)Z"⟩ : MethodName) ∈ zt := zt_mem (List.mem_of_getElem? (i := 1002) (by decide +kernel)) rfl
theorem m_La_77 : Cond.methodLink "CircuitWaysLaw" 77 (⟨"CircuitWaysModel", "edge", "(II)I"⟩ : MethodName) ∈ zt := zt_mem (List.mem_of_getElem? (i := 1006) (by decide +kernel)) rfl
theorem m_La_81 : Cond.methodLink "CircuitWaysLaw" 81 (⟨"CircuitWaysModel", "degree", "(I)I"⟩ : MethodName) ∈ zt := zt_mem (List.mem_of_getElem? (i := 1010) (by decide +kernel)) rfl
theorem m_La_85 : Cond.methodLink "CircuitWaysLaw" 85 (⟨"CircuitWaysModel", "pairing", "()I"⟩ : MethodName) ∈ zt := zt_mem (List.mem_of_getElem? (i := 1014) (by decide +kernel)) rfl
theorem m_Mo_167 : Cond.methodLink "CircuitWaysModel" 167 (⟨"java/lang/Integer", "bitCount", "(I)I"⟩ : MethodName) ∈ zt := zt_mem (List.mem_of_getElem? (i := 1018) (by decide +kernel)) rfl
theorem m_La_89 : Cond.methodLink "CircuitWaysLaw" 89 (⟨"CircuitWaysModel", "next", "(II)I"⟩ : MethodName) ∈ zt := zt_mem (List.mem_of_getElem? (i := 1019) (by decide +kernel)) rfl
theorem m_La_93 : Cond.methodLink "CircuitWaysLaw" 93 (⟨"CircuitWaysModel", "circle", "(I)I"⟩ : MethodName) ∈ zt := zt_mem (List.mem_of_getElem? (i := 1023) (by decide +kernel)) rfl
theorem m_Mo_172 : Cond.methodLink "CircuitWaysModel" 172 (⟨"CircuitWaysModel", "circleOf", "(I)I"⟩ : MethodName) ∈ zt := zt_mem (List.mem_of_getElem? (i := 1027) (by decide +kernel)) rfl
theorem m_La_97 : Cond.methodLink "CircuitWaysLaw" 97 (⟨"CircuitWaysModel", "nearest", "(I)I"⟩ : MethodName) ∈ zt := zt_mem (List.mem_of_getElem? (i := 1031) (by decide +kernel)) rfl
theorem m_Mo_178 : Cond.methodLink "CircuitWaysModel" 178 (⟨"CircuitWaysModel", "leads", "(II)Z"⟩ : MethodName) ∈ zt := zt_mem (List.mem_of_getElem? (i := 1035) (by decide +kernel)) rfl
theorem m_Mo_175 : Cond.methodLink "CircuitWaysModel" 175 (⟨"CircuitWaysModel", "reached", "(I)I"⟩ : MethodName) ∈ zt := zt_mem (List.mem_of_getElem? (i := 1039) (by decide +kernel)) rfl
theorem m_La_101 : Cond.methodLink "CircuitWaysLaw" 101 (⟨"CircuitWaysModel", "put", "(I)I"⟩ : MethodName) ∈ zt := zt_mem (List.mem_of_getElem? (i := 1043) (by decide +kernel)) rfl
theorem m_La_105 : Cond.methodLink "CircuitWaysLaw" 105 (⟨"CircuitWaysModel", "keep", "(I)I"⟩ : MethodName) ∈ zt := zt_mem (List.mem_of_getElem? (i := 1047) (by decide +kernel)) rfl
theorem m_La_109 : Cond.methodLink "CircuitWaysLaw" 109 (⟨"CircuitWaysModel", "check", "()I"⟩ : MethodName) ∈ zt := zt_mem (List.mem_of_getElem? (i := 1051) (by decide +kernel)) rfl
theorem m_Mo_184 : Cond.methodLink "CircuitWaysModel" 184 (⟨"CircuitWaysModel", "costOf", "(II)I"⟩ : MethodName) ∈ zt := zt_mem (List.mem_of_getElem? (i := 1055) (by decide +kernel)) rfl
theorem m_La_113 : Cond.methodLink "CircuitWaysLaw" 113 (⟨"CircuitWaysModel", "insert", "(I)I"⟩ : MethodName) ∈ zt := zt_mem (List.mem_of_getElem? (i := 1059) (by decide +kernel)) rfl
theorem m_La_117 : Cond.methodLink "CircuitWaysLaw" 117 (⟨"CircuitWaysModel", "count", "(I)I"⟩ : MethodName) ∈ zt := zt_mem (List.mem_of_getElem? (i := 1063) (by decide +kernel)) rfl
theorem c_La_7 : Cond.classLink "CircuitWaysLaw" 7 "CircuitWays" ∈ zt := zt_mem (List.mem_of_getElem? (i := 54) (by decide +kernel)) rfl
theorem c_CW_7 : Cond.classLink "CircuitWays" 7 "CircuitWays$Net" ∈ zt := zt_mem (List.mem_of_getElem? (i := 62) (by decide +kernel)) rfl
theorem c_CW_16 : Cond.classLink "CircuitWays" 16 "CircuitWays$Paths" ∈ zt := zt_mem (List.mem_of_getElem? (i := 129) (by decide +kernel)) rfl
theorem c_CW_21 : Cond.classLink "CircuitWays" 21 "CircuitWays$Shares" ∈ zt := zt_mem (List.mem_of_getElem? (i := 161) (by decide +kernel)) rfl
theorem c_CW_30 : Cond.classLink "CircuitWays" 30 "CircuitWays$Tails" ∈ zt := zt_mem (List.mem_of_getElem? (i := 192) (by decide +kernel)) rfl
theorem c_CW_39 : Cond.classLink "CircuitWays" 39 "CircuitWays$FirstPlan" ∈ zt := zt_mem (List.mem_of_getElem? (i := 224) (by decide +kernel)) rfl
theorem c_CW_48 : Cond.classLink "CircuitWays" 48 "CircuitWays$Tree" ∈ zt := zt_mem (List.mem_of_getElem? (i := 257) (by decide +kernel)) rfl
theorem c_CW_55 : Cond.classLink "CircuitWays" 55 "CircuitWays$Pairs" ∈ zt := zt_mem (List.mem_of_getElem? (i := 288) (by decide +kernel)) rfl
theorem c_CW_62 : Cond.classLink "CircuitWays" 62 "CircuitWays$Circles" ∈ zt := zt_mem (List.mem_of_getElem? (i := 301) (by decide +kernel)) rfl
theorem c_CW_69 : Cond.classLink "CircuitWays" 69 "CircuitWays$Ways" ∈ zt := zt_mem (List.mem_of_getElem? (i := 318) (by decide +kernel)) rfl
theorem c_CW_76 : Cond.classLink "CircuitWays" 76 "CircuitWays$Row" ∈ zt := zt_mem (List.mem_of_getElem? (i := 331) (by decide +kernel)) rfl
theorem c_La_10 : Cond.classLink "CircuitWaysLaw" 10 "CircuitWaysModel" ∈ zt := zt_mem (List.mem_of_getElem? (i := 785) (by decide +kernel)) rfl
theorem i_Net_40 : Cond.constant "CircuitWays$Net" 40 (1000000000) ∈ zt := zt_mem (List.mem_of_getElem? (i := 68) (by decide +kernel)) rfl
theorem i_Sha_18 : Cond.constant "CircuitWays$Shares" 18 (1000000000) ∈ zt := zt_mem (List.mem_of_getElem? (i := 167) (by decide +kernel)) rfl
theorem i_CW_83 : Cond.constant "CircuitWays" 83 (-2000000) ∈ zt := zt_mem (List.mem_of_getElem? (i := 383) (by decide +kernel)) rfl
theorem i_CW_88 : Cond.constant "CircuitWays" 88 (-3000000) ∈ zt := zt_mem (List.mem_of_getElem? (i := 384) (by decide +kernel)) rfl
theorem i_CW_104 : Cond.constant "CircuitWays" 104 (1000000000) ∈ zt := zt_mem (List.mem_of_getElem? (i := 408) (by decide +kernel)) rfl
theorem i_CW_136 : Cond.constant "CircuitWays" 136 (-1000000) ∈ zt := zt_mem (List.mem_of_getElem? (i := 409) (by decide +kernel)) rfl
theorem i_Pat_54 : Cond.constant "CircuitWays$Paths" 54 (1000000000) ∈ zt := zt_mem (List.mem_of_getElem? (i := 478) (by decide +kernel)) rfl
theorem i_JI_265 : Cond.constant "java/lang/Integer" 265 (1431655765) ∈ zt := zt_mem (List.mem_of_getElem? (i := 507) (by decide +kernel)) rfl
theorem i_JI_266 : Cond.constant "java/lang/Integer" 266 (858993459) ∈ zt := zt_mem (List.mem_of_getElem? (i := 508) (by decide +kernel)) rfl
theorem i_JI_267 : Cond.constant "java/lang/Integer" 267 (252645135) ∈ zt := zt_mem (List.mem_of_getElem? (i := 509) (by decide +kernel)) rfl
theorem i_Tai_62 : Cond.constant "CircuitWays$Tails" 62 (1000000000) ∈ zt := zt_mem (List.mem_of_getElem? (i := 568) (by decide +kernel)) rfl
theorem i_CW_155 : Cond.constant "CircuitWays" 155 (-1000000000) ∈ zt := zt_mem (List.mem_of_getElem? (i := 590) (by decide +kernel)) rfl
theorem i_Tre_60 : Cond.constant "CircuitWays$Tree" 60 (1000000000) ∈ zt := zt_mem (List.mem_of_getElem? (i := 636) (by decide +kernel)) rfl
theorem i_Pai_31 : Cond.constant "CircuitWays$Pairs" 31 (1000000000) ∈ zt := zt_mem (List.mem_of_getElem? (i := 676) (by decide +kernel)) rfl
theorem i_Way_44 : Cond.constant "CircuitWays$Ways" 44 (1000000000) ∈ zt := zt_mem (List.mem_of_getElem? (i := 715) (by decide +kernel)) rfl
theorem i_Way_23 : Cond.constant "CircuitWays$Ways" 23 (-1000000) ∈ zt := zt_mem (List.mem_of_getElem? (i := 716) (by decide +kernel)) rfl
theorem i_Row_30 : Cond.constant "CircuitWays$Row" 30 (1000000000) ∈ zt := zt_mem (List.mem_of_getElem? (i := 754) (by decide +kernel)) rfl
theorem i_Row_31 : Cond.constant "CircuitWays$Row" 31 (-1000000) ∈ zt := zt_mem (List.mem_of_getElem? (i := 771) (by decide +kernel)) rfl
theorem i_Mo_69 : Cond.constant "CircuitWaysModel" 69 (1000000) ∈ zt := zt_mem (List.mem_of_getElem? (i := 791) (by decide +kernel)) rfl
theorem i_Mo_78 : Cond.constant "CircuitWaysModel" 78 (-2000000) ∈ zt := zt_mem (List.mem_of_getElem? (i := 893) (by decide +kernel)) rfl
theorem i_Mo_79 : Cond.constant "CircuitWaysModel" 79 (-3000000) ∈ zt := zt_mem (List.mem_of_getElem? (i := 894) (by decide +kernel)) rfl
theorem i_Mo_88 : Cond.constant "CircuitWaysModel" 88 (-1000000) ∈ zt := zt_mem (List.mem_of_getElem? (i := 907) (by decide +kernel)) rfl
theorem i_Mo_101 : Cond.constant "CircuitWaysModel" 101 (900000) ∈ zt := zt_mem (List.mem_of_getElem? (i := 932) (by decide +kernel)) rfl
theorem n_Net_45 : Cond.methodLinkNest "CircuitWays$Net" 45 (⟨"CircuitWays", "bit", "(I)I"⟩ : MethodName) "CircuitWays" ∈ znest := List.mem_of_getElem? (i := 0) rfl
theorem n_Pat_69 : Cond.methodLinkNest "CircuitWays$Paths" 69 (⟨"CircuitWays", "bit", "(I)I"⟩ : MethodName) "CircuitWays" ∈ znest := List.mem_of_getElem? (i := 1) rfl
theorem n_Pat_81 : Cond.methodLinkNest "CircuitWays$Paths" 81 (⟨"CircuitWays", "sum", "(II)I"⟩ : MethodName) "CircuitWays" ∈ znest := List.mem_of_getElem? (i := 2) rfl
theorem n_Net_54 : Cond.methodLinkNest "CircuitWays$Net" 54 (⟨"CircuitWays", "sum", "(II)I"⟩ : MethodName) "CircuitWays" ∈ znest := List.mem_of_getElem? (i := 3) rfl
theorem n_Sha_73 : Cond.methodLinkNest "CircuitWays$Shares" 73 (⟨"CircuitWays", "sum", "(II)I"⟩ : MethodName) "CircuitWays" ∈ znest := List.mem_of_getElem? (i := 4) rfl
theorem n_Tai_49 : Cond.methodLinkNest "CircuitWays$Tails" 49 (⟨"CircuitWays", "bit", "(I)I"⟩ : MethodName) "CircuitWays" ∈ znest := List.mem_of_getElem? (i := 5) rfl
theorem n_Tai_66 : Cond.methodLinkNest "CircuitWays$Tails" 66 (⟨"CircuitWays", "sum", "(II)I"⟩ : MethodName) "CircuitWays" ∈ znest := List.mem_of_getElem? (i := 6) rfl
theorem n_Fir_83 : Cond.methodLinkNest "CircuitWays$FirstPlan" 83 (⟨"CircuitWays", "bit", "(I)I"⟩ : MethodName) "CircuitWays" ∈ znest := List.mem_of_getElem? (i := 7) rfl
theorem n_Sha_70 : Cond.methodLinkNest "CircuitWays$Shares" 70 (⟨"CircuitWays", "bit", "(I)I"⟩ : MethodName) "CircuitWays" ∈ znest := List.mem_of_getElem? (i := 8) rfl
theorem n_Tre_57 : Cond.methodLinkNest "CircuitWays$Tree" 57 (⟨"CircuitWays", "sum", "(II)I"⟩ : MethodName) "CircuitWays" ∈ znest := List.mem_of_getElem? (i := 9) rfl
theorem n_Pai_35 : Cond.methodLinkNest "CircuitWays$Pairs" 35 (⟨"CircuitWays", "sum", "(II)I"⟩ : MethodName) "CircuitWays" ∈ znest := List.mem_of_getElem? (i := 10) rfl
theorem n_Row_32 : Cond.methodLinkNest "CircuitWays$Row" 32 (⟨"CircuitWays", "bit", "(I)I"⟩ : MethodName) "CircuitWays" ∈ znest := List.mem_of_getElem? (i := 11) rfl
theorem n_Row_40 : Cond.methodLinkNest "CircuitWays$Row" 40 (⟨"CircuitWays", "sum", "(II)I"⟩ : MethodName) "CircuitWays" ∈ znest := List.mem_of_getElem? (i := 12) rfl
theorem k_min_static : Cond.static Lib.Math.min.name ∈ zt := zt_mem (List.mem_of_getElem? (i := 570) (by decide +kernel)) rfl
theorem k_min_init : Cond.initialized "java/lang/Math" ∈ zt := zt_mem (List.mem_of_getElem? (i := 53) (by decide +kernel)) rfl
set_option maxRecDepth 20000 in
theorem k_min_code : Cond.code Lib.Math.min.name Lib.Math.min.code 2 (some .int) ∈ zt := zt_mem (List.mem_of_getElem? (i := 571) rfl) rfl
