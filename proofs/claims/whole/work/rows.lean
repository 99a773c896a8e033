section
-- ===== PART A: goes FIRST, ahead of the names: the tables' words, and 'selects' of the private methods out of them =====
/-- a private method of a class that the tables say can be made, by its rows of tables_1 -/
def lw_okq (q : MethodName × Nat) : Prop := (q.1.cls ≠ "java/lang/invoke/MethodHandle" ∧ q.1.cls ≠ "java/lang/invoke/VarHandle") ∧ Cond.instantiable q.1.cls q.2 ∈ tables_1 ∧ Cond.privateMethod q.1 ∈ tables_1 ∧ Cond.instanceMethod q.1 ∈ tables_1
theorem lw_p0 : lw_okq (⟨"CircuitWays$Paths", "addLoads", "()V"⟩, 7) := ⟨⟨by decide +kernel, by decide +kernel⟩, List.mem_of_getElem? (i := 91) (by decide +kernel), List.mem_of_getElem? (i := 427) (by decide +kernel), List.mem_of_getElem? (i := 428) (by decide +kernel)⟩
theorem lw_p1 : lw_okq (⟨"CircuitWays$Paths", "clearPaths", "()V"⟩, 7) := ⟨⟨by decide +kernel, by decide +kernel⟩, List.mem_of_getElem? (i := 91) (by decide +kernel), List.mem_of_getElem? (i := 432) (by decide +kernel), List.mem_of_getElem? (i := 433) (by decide +kernel)⟩
theorem lw_p2 : lw_okq (⟨"CircuitWays$Paths", "followersOf", "(I)I"⟩, 7) := ⟨⟨by decide +kernel, by decide +kernel⟩, List.mem_of_getElem? (i := 91) (by decide +kernel), List.mem_of_getElem? (i := 441) (by decide +kernel), List.mem_of_getElem? (i := 442) (by decide +kernel)⟩
theorem lw_p3 : lw_okq (⟨"CircuitWays$Paths", "extend", "(II)V"⟩, 7) := ⟨⟨by decide +kernel, by decide +kernel⟩, List.mem_of_getElem? (i := 91) (by decide +kernel), List.mem_of_getElem? (i := 445) (by decide +kernel), List.mem_of_getElem? (i := 446) (by decide +kernel)⟩
theorem lw_p4 : lw_okq (⟨"CircuitWays$Paths", "closeRound", "(I)V"⟩, 7) := ⟨⟨by decide +kernel, by decide +kernel⟩, List.mem_of_getElem? (i := 91) (by decide +kernel), List.mem_of_getElem? (i := 449) (by decide +kernel), List.mem_of_getElem? (i := 450) (by decide +kernel)⟩
theorem lw_p5 : lw_okq (⟨"CircuitWays$Shares", "copyShare", "(II)V"⟩, 7) := ⟨⟨by decide +kernel, by decide +kernel⟩, List.mem_of_getElem? (i := 123) (by decide +kernel), List.mem_of_getElem? (i := 472) (by decide +kernel), List.mem_of_getElem? (i := 473) (by decide +kernel)⟩
theorem lw_p6 : lw_okq (⟨"CircuitWays$Shares", "share", "(II)V"⟩, 7) := ⟨⟨by decide +kernel, by decide +kernel⟩, List.mem_of_getElem? (i := 123) (by decide +kernel), List.mem_of_getElem? (i := 476) (by decide +kernel), List.mem_of_getElem? (i := 477) (by decide +kernel)⟩
theorem lw_p7 : lw_okq (⟨"CircuitWays$Shares", "offer", "(II)V"⟩, 7) := ⟨⟨by decide +kernel, by decide +kernel⟩, List.mem_of_getElem? (i := 123) (by decide +kernel), List.mem_of_getElem? (i := 481) (by decide +kernel), List.mem_of_getElem? (i := 482) (by decide +kernel)⟩
theorem lw_p8 : lw_okq (⟨"CircuitWays$FirstPlan", "write", "(I)V"⟩, 8) := ⟨⟨by decide +kernel, by decide +kernel⟩, List.mem_of_getElem? (i := 186) (by decide +kernel), List.mem_of_getElem? (i := 507) (by decide +kernel), List.mem_of_getElem? (i := 508) (by decide +kernel)⟩
theorem lw_p9 : lw_okq (⟨"CircuitWays$Tails", "leastBehind", "(II)I"⟩, 8) := ⟨⟨by decide +kernel, by decide +kernel⟩, List.mem_of_getElem? (i := 154) (by decide +kernel), List.mem_of_getElem? (i := 516) (by decide +kernel), List.mem_of_getElem? (i := 517) (by decide +kernel)⟩
theorem lw_p10 : lw_okq (⟨"CircuitWays$FirstPlan", "writeRound", "()V"⟩, 8) := ⟨⟨by decide +kernel, by decide +kernel⟩, List.mem_of_getElem? (i := 186) (by decide +kernel), List.mem_of_getElem? (i := 534) (by decide +kernel), List.mem_of_getElem? (i := 535) (by decide +kernel)⟩
theorem lw_p11 : lw_okq (⟨"CircuitWays$FirstPlan", "followerDue", "(II)I"⟩, 8) := ⟨⟨by decide +kernel, by decide +kernel⟩, List.mem_of_getElem? (i := 186) (by decide +kernel), List.mem_of_getElem? (i := 539) (by decide +kernel), List.mem_of_getElem? (i := 540) (by decide +kernel)⟩
theorem lw_p12 : lw_okq (⟨"CircuitWays$Tree", "chooseJoining", "()Z"⟩, 7) := ⟨⟨by decide +kernel, by decide +kernel⟩, List.mem_of_getElem? (i := 219) (by decide +kernel), List.mem_of_getElem? (i := 594) (by decide +kernel), List.mem_of_getElem? (i := 595) (by decide +kernel)⟩
theorem lw_p13 : lw_okq (⟨"CircuitWays$Tree", "edgeCost", "(II)I"⟩, 7) := ⟨⟨by decide +kernel, by decide +kernel⟩, List.mem_of_getElem? (i := 219) (by decide +kernel), List.mem_of_getElem? (i := 599) (by decide +kernel), List.mem_of_getElem? (i := 600) (by decide +kernel)⟩
theorem lw_p14 : lw_okq (⟨"CircuitWays$Tree", "choose", "(II)Z"⟩, 7) := ⟨⟨by decide +kernel, by decide +kernel⟩, List.mem_of_getElem? (i := 219) (by decide +kernel), List.mem_of_getElem? (i := 605) (by decide +kernel), List.mem_of_getElem? (i := 606) (by decide +kernel)⟩
theorem lw_p15 : lw_okq (⟨"CircuitWays$Tree", "chooseAtHouse", "(I)Z"⟩, 7) := ⟨⟨by decide +kernel, by decide +kernel⟩, List.mem_of_getElem? (i := 219) (by decide +kernel), List.mem_of_getElem? (i := 609) (by decide +kernel), List.mem_of_getElem? (i := 610) (by decide +kernel)⟩
def lw_privs_1 : List (MethodName × Nat) := [(⟨"CircuitWays$Paths", "addLoads", "()V"⟩, 7), (⟨"CircuitWays$Paths", "clearPaths", "()V"⟩, 7), (⟨"CircuitWays$Paths", "followersOf", "(I)I"⟩, 7), (⟨"CircuitWays$Paths", "extend", "(II)V"⟩, 7), (⟨"CircuitWays$Paths", "closeRound", "(I)V"⟩, 7), (⟨"CircuitWays$Shares", "copyShare", "(II)V"⟩, 7), (⟨"CircuitWays$Shares", "share", "(II)V"⟩, 7), (⟨"CircuitWays$Shares", "offer", "(II)V"⟩, 7), (⟨"CircuitWays$FirstPlan", "write", "(I)V"⟩, 8), (⟨"CircuitWays$Tails", "leastBehind", "(II)I"⟩, 8), (⟨"CircuitWays$FirstPlan", "writeRound", "()V"⟩, 8), (⟨"CircuitWays$FirstPlan", "followerDue", "(II)I"⟩, 8), (⟨"CircuitWays$Tree", "chooseJoining", "()Z"⟩, 7), (⟨"CircuitWays$Tree", "edgeCost", "(II)I"⟩, 7), (⟨"CircuitWays$Tree", "choose", "(II)Z"⟩, 7), (⟨"CircuitWays$Tree", "chooseAtHouse", "(I)Z"⟩, 7)]
theorem lw_r1 : ∀ q ∈ lw_privs_1, lw_okq q := List.forall_mem_cons.mpr ⟨lw_p0, List.forall_mem_cons.mpr ⟨lw_p1, List.forall_mem_cons.mpr ⟨lw_p2, List.forall_mem_cons.mpr ⟨lw_p3, List.forall_mem_cons.mpr ⟨lw_p4, List.forall_mem_cons.mpr ⟨lw_p5, List.forall_mem_cons.mpr ⟨lw_p6, List.forall_mem_cons.mpr ⟨lw_p7, List.forall_mem_cons.mpr ⟨lw_p8, List.forall_mem_cons.mpr ⟨lw_p9, List.forall_mem_cons.mpr ⟨lw_p10, List.forall_mem_cons.mpr ⟨lw_p11, List.forall_mem_cons.mpr ⟨lw_p12, List.forall_mem_cons.mpr ⟨lw_p13, List.forall_mem_cons.mpr ⟨lw_p14, List.forall_mem_cons.mpr ⟨lw_p15, fun _ h => absurd h List.not_mem_nil⟩⟩⟩⟩⟩⟩⟩⟩⟩⟩⟩⟩⟩⟩⟩⟩
theorem lw_p16 : lw_okq (⟨"CircuitWays$Circles", "circleFrom", "(I)I"⟩, 3) := ⟨⟨by decide +kernel, by decide +kernel⟩, List.mem_of_getElem? (i := 263) (by decide +kernel), List.mem_of_getElem? (i := 657) (by decide +kernel), List.mem_of_getElem? (i := 658) (by decide +kernel)⟩
theorem lw_p17 : lw_okq (⟨"CircuitWays$Ways", "reached", "(I)I"⟩, 2) := ⟨⟨by decide +kernel, by decide +kernel⟩, List.mem_of_getElem? (i := 280) (by decide +kernel), List.mem_of_getElem? (i := 669) (by decide +kernel), List.mem_of_getElem? (i := 670) (by decide +kernel)⟩
theorem lw_p18 : lw_okq (⟨"CircuitWays$Ways", "stepFrom", "(II)I"⟩, 2) := ⟨⟨by decide +kernel, by decide +kernel⟩, List.mem_of_getElem? (i := 280) (by decide +kernel), List.mem_of_getElem? (i := 673) (by decide +kernel), List.mem_of_getElem? (i := 674) (by decide +kernel)⟩
theorem lw_p19 : lw_okq (⟨"CircuitWays$Ways", "leads", "(II)Z"⟩, 2) := ⟨⟨by decide +kernel, by decide +kernel⟩, List.mem_of_getElem? (i := 280) (by decide +kernel), List.mem_of_getElem? (i := 679) (by decide +kernel), List.mem_of_getElem? (i := 680) (by decide +kernel)⟩
theorem lw_p20 : lw_okq (⟨"CircuitWays$Ways", "isNearest", "(II)Z"⟩, 2) := ⟨⟨by decide +kernel, by decide +kernel⟩, List.mem_of_getElem? (i := 280) (by decide +kernel), List.mem_of_getElem? (i := 683) (by decide +kernel), List.mem_of_getElem? (i := 684) (by decide +kernel)⟩
theorem lw_p21 : lw_okq (⟨"CircuitWays$Row", "planCost", "([II)I"⟩, 4) := ⟨⟨by decide +kernel, by decide +kernel⟩, List.mem_of_getElem? (i := 293) (by decide +kernel), List.mem_of_getElem? (i := 711) (by decide +kernel), List.mem_of_getElem? (i := 712) (by decide +kernel)⟩
theorem lw_p22 : lw_okq (⟨"CircuitWays$Row", "roundCost", "([III)I"⟩, 4) := ⟨⟨by decide +kernel, by decide +kernel⟩, List.mem_of_getElem? (i := 293) (by decide +kernel), List.mem_of_getElem? (i := 717) (by decide +kernel), List.mem_of_getElem? (i := 718) (by decide +kernel)⟩
theorem lw_p23 : lw_okq (⟨"CircuitWaysModel", "noTwo", "(II)Z"⟩, 31) := ⟨⟨by decide +kernel, by decide +kernel⟩, List.mem_of_getElem? (i := 747) (by decide +kernel), List.mem_of_getElem? (i := 861) (by decide +kernel), List.mem_of_getElem? (i := 862) (by decide +kernel)⟩
theorem lw_p24 : lw_okq (⟨"CircuitWaysModel", "noNode", "(I)Z"⟩, 31) := ⟨⟨by decide +kernel, by decide +kernel⟩, List.mem_of_getElem? (i := 747) (by decide +kernel), List.mem_of_getElem? (i := 865) (by decide +kernel), List.mem_of_getElem? (i := 866) (by decide +kernel)⟩
theorem lw_p25 : lw_okq (⟨"CircuitWaysModel", "know", "()V"⟩, 31) := ⟨⟨by decide +kernel, by decide +kernel⟩, List.mem_of_getElem? (i := 747) (by decide +kernel), List.mem_of_getElem? (i := 890) (by decide +kernel), List.mem_of_getElem? (i := 891) (by decide +kernel)⟩
theorem lw_p26 : lw_okq (⟨"CircuitWaysModel", "whole", "(I)I"⟩, 31) := ⟨⟨by decide +kernel, by decide +kernel⟩, List.mem_of_getElem? (i := 747) (by decide +kernel), List.mem_of_getElem? (i := 898) (by decide +kernel), List.mem_of_getElem? (i := 899) (by decide +kernel)⟩
theorem lw_p27 : lw_okq (⟨"CircuitWaysModel", "isBeforeFirst", "()Z"⟩, 31) := ⟨⟨by decide +kernel, by decide +kernel⟩, List.mem_of_getElem? (i := 747) (by decide +kernel), List.mem_of_getElem? (i := 902) (by decide +kernel), List.mem_of_getElem? (i := 903) (by decide +kernel)⟩
theorem lw_p28 : lw_okq (⟨"CircuitWaysModel", "mayCome", "(II)Z"⟩, 31) := ⟨⟨by decide +kernel, by decide +kernel⟩, List.mem_of_getElem? (i := 747) (by decide +kernel), List.mem_of_getElem? (i := 906) (by decide +kernel), List.mem_of_getElem? (i := 907) (by decide +kernel)⟩
theorem lw_p29 : lw_okq (⟨"CircuitWaysModel", "write", "(I)V"⟩, 31) := ⟨⟨by decide +kernel, by decide +kernel⟩, List.mem_of_getElem? (i := 747) (by decide +kernel), List.mem_of_getElem? (i := 910) (by decide +kernel), List.mem_of_getElem? (i := 911) (by decide +kernel)⟩
theorem lw_p30 : lw_okq (⟨"CircuitWaysModel", "note", "(III)V"⟩, 31) := ⟨⟨by decide +kernel, by decide +kernel⟩, List.mem_of_getElem? (i := 747) (by decide +kernel), List.mem_of_getElem? (i := 917) (by decide +kernel), List.mem_of_getElem? (i := 918) (by decide +kernel)⟩
theorem lw_p31 : lw_okq (⟨"CircuitWaysModel", "makeTree", "()Z"⟩, 31) := ⟨⟨by decide +kernel, by decide +kernel⟩, List.mem_of_getElem? (i := 747) (by decide +kernel), List.mem_of_getElem? (i := 952) (by decide +kernel), List.mem_of_getElem? (i := 953) (by decide +kernel)⟩
def lw_privs_2 : List (MethodName × Nat) := [(⟨"CircuitWays$Circles", "circleFrom", "(I)I"⟩, 3), (⟨"CircuitWays$Ways", "reached", "(I)I"⟩, 2), (⟨"CircuitWays$Ways", "stepFrom", "(II)I"⟩, 2), (⟨"CircuitWays$Ways", "leads", "(II)Z"⟩, 2), (⟨"CircuitWays$Ways", "isNearest", "(II)Z"⟩, 2), (⟨"CircuitWays$Row", "planCost", "([II)I"⟩, 4), (⟨"CircuitWays$Row", "roundCost", "([III)I"⟩, 4), (⟨"CircuitWaysModel", "noTwo", "(II)Z"⟩, 31), (⟨"CircuitWaysModel", "noNode", "(I)Z"⟩, 31), (⟨"CircuitWaysModel", "know", "()V"⟩, 31), (⟨"CircuitWaysModel", "whole", "(I)I"⟩, 31), (⟨"CircuitWaysModel", "isBeforeFirst", "()Z"⟩, 31), (⟨"CircuitWaysModel", "mayCome", "(II)Z"⟩, 31), (⟨"CircuitWaysModel", "write", "(I)V"⟩, 31), (⟨"CircuitWaysModel", "note", "(III)V"⟩, 31), (⟨"CircuitWaysModel", "makeTree", "()Z"⟩, 31)]
theorem lw_r2 : ∀ q ∈ lw_privs_2, lw_okq q := List.forall_mem_cons.mpr ⟨lw_p16, List.forall_mem_cons.mpr ⟨lw_p17, List.forall_mem_cons.mpr ⟨lw_p18, List.forall_mem_cons.mpr ⟨lw_p19, List.forall_mem_cons.mpr ⟨lw_p20, List.forall_mem_cons.mpr ⟨lw_p21, List.forall_mem_cons.mpr ⟨lw_p22, List.forall_mem_cons.mpr ⟨lw_p23, List.forall_mem_cons.mpr ⟨lw_p24, List.forall_mem_cons.mpr ⟨lw_p25, List.forall_mem_cons.mpr ⟨lw_p26, List.forall_mem_cons.mpr ⟨lw_p27, List.forall_mem_cons.mpr ⟨lw_p28, List.forall_mem_cons.mpr ⟨lw_p29, List.forall_mem_cons.mpr ⟨lw_p30, List.forall_mem_cons.mpr ⟨lw_p31, fun _ h => absurd h List.not_mem_nil⟩⟩⟩⟩⟩⟩⟩⟩⟩⟩⟩⟩⟩⟩⟩⟩
theorem lw_p32 : lw_okq (⟨"CircuitWaysModel", "choose", "(Z)Z"⟩, 31) := ⟨⟨by decide +kernel, by decide +kernel⟩, List.mem_of_getElem? (i := 747) (by decide +kernel), List.mem_of_getElem? (i := 956) (by decide +kernel), List.mem_of_getElem? (i := 957) (by decide +kernel)⟩
theorem lw_p33 : lw_okq (⟨"CircuitWaysModel", "edgeCost", "(II)I"⟩, 31) := ⟨⟨by decide +kernel, by decide +kernel⟩, List.mem_of_getElem? (i := 747) (by decide +kernel), List.mem_of_getElem? (i := 960) (by decide +kernel), List.mem_of_getElem? (i := 961) (by decide +kernel)⟩
theorem lw_p34 : lw_okq (⟨"CircuitWaysModel", "hasEdge", "(II)Z"⟩, 31) := ⟨⟨by decide +kernel, by decide +kernel⟩, List.mem_of_getElem? (i := 747) (by decide +kernel), List.mem_of_getElem? (i := 964) (by decide +kernel), List.mem_of_getElem? (i := 965) (by decide +kernel)⟩
theorem lw_p35 : lw_okq (⟨"CircuitWaysModel", "circleOf", "(I)I"⟩, 31) := ⟨⟨by decide +kernel, by decide +kernel⟩, List.mem_of_getElem? (i := 747) (by decide +kernel), List.mem_of_getElem? (i := 989) (by decide +kernel), List.mem_of_getElem? (i := 990) (by decide +kernel)⟩
theorem lw_p36 : lw_okq (⟨"CircuitWaysModel", "leads", "(II)Z"⟩, 31) := ⟨⟨by decide +kernel, by decide +kernel⟩, List.mem_of_getElem? (i := 747) (by decide +kernel), List.mem_of_getElem? (i := 997) (by decide +kernel), List.mem_of_getElem? (i := 998) (by decide +kernel)⟩
theorem lw_p37 : lw_okq (⟨"CircuitWaysModel", "reached", "(I)I"⟩, 31) := ⟨⟨by decide +kernel, by decide +kernel⟩, List.mem_of_getElem? (i := 747) (by decide +kernel), List.mem_of_getElem? (i := 1001) (by decide +kernel), List.mem_of_getElem? (i := 1002) (by decide +kernel)⟩
theorem lw_p38 : lw_okq (⟨"CircuitWaysModel", "costOf", "(II)I"⟩, 31) := ⟨⟨by decide +kernel, by decide +kernel⟩, List.mem_of_getElem? (i := 747) (by decide +kernel), List.mem_of_getElem? (i := 1017) (by decide +kernel), List.mem_of_getElem? (i := 1018) (by decide +kernel)⟩
def lw_privs_3 : List (MethodName × Nat) := [(⟨"CircuitWaysModel", "choose", "(Z)Z"⟩, 31), (⟨"CircuitWaysModel", "edgeCost", "(II)I"⟩, 31), (⟨"CircuitWaysModel", "hasEdge", "(II)Z"⟩, 31), (⟨"CircuitWaysModel", "circleOf", "(I)I"⟩, 31), (⟨"CircuitWaysModel", "leads", "(II)Z"⟩, 31), (⟨"CircuitWaysModel", "reached", "(I)I"⟩, 31), (⟨"CircuitWaysModel", "costOf", "(II)I"⟩, 31)]
theorem lw_r3 : ∀ q ∈ lw_privs_3, lw_okq q := List.forall_mem_cons.mpr ⟨lw_p32, List.forall_mem_cons.mpr ⟨lw_p33, List.forall_mem_cons.mpr ⟨lw_p34, List.forall_mem_cons.mpr ⟨lw_p35, List.forall_mem_cons.mpr ⟨lw_p36, List.forall_mem_cons.mpr ⟨lw_p37, List.forall_mem_cons.mpr ⟨lw_p38, fun _ h => absurd h List.not_mem_nil⟩⟩⟩⟩⟩⟩⟩
def lw_privs : List (MethodName × Nat) := lw_privs_1 ++ (lw_privs_2 ++ (lw_privs_3))
def lw_tbl : List Cond := k2_sels lw_privs ++ tables_1
theorem lw_privs_ok : ∀ q ∈ lw_privs, lw_okq q := by
  show ∀ q ∈ lw_privs_1 ++ (lw_privs_2 ++ (lw_privs_3)), lw_okq q
  exact List.forall_mem_append.mpr ⟨lw_r1, List.forall_mem_append.mpr ⟨lw_r2, lw_r3⟩⟩
end
section
def zt : List Cond := lw_tbl.filter goodWord
theorem zt_mem {w : Cond} (h : w ∈ lw_tbl) (hg : goodWord w = true) : w ∈ zt := List.mem_filter.mpr ⟨h, hg⟩
theorem zt_good {w : Cond} (h : w ∈ zt) : goodWord w = true := (List.mem_filter.mp h).2
theorem zt_tbl {w : Cond} (h : w ∈ zt) : w ∈ lw_tbl := (List.mem_filter.mp h).1
def zT0 : u_T := fun k => match k with
  | 0 => ("CircuitWays", "net", "LCircuitWays$Net;", true)
  | 1 => ("CircuitWays", "shares", "LCircuitWays$Shares;", true)
  | 2 => ("CircuitWays", "tails", "LCircuitWays$Tails;", true)
  | 3 => ("CircuitWays", "firstPlan", "LCircuitWays$FirstPlan;", true)
  | 4 => ("CircuitWays", "tree", "LCircuitWays$Tree;", true)
  | 5 => ("CircuitWays", "pairs", "LCircuitWays$Pairs;", true)
  | 6 => ("CircuitWays", "circles", "LCircuitWays$Circles;", true)
  | 7 => ("CircuitWays", "ways", "LCircuitWays$Ways;", true)
  | _ => ("CircuitWays", "row", "LCircuitWays$Row;", true)
def zy0 : Nat → FieldType := fun k => match k with
  | 0 => .object "CircuitWays$Net"
  | 1 => .object "CircuitWays$Shares"
  | 2 => .object "CircuitWays$Tails"
  | 3 => .object "CircuitWays$FirstPlan"
  | 4 => .object "CircuitWays$Tree"
  | 5 => .object "CircuitWays$Pairs"
  | 6 => .object "CircuitWays$Circles"
  | 7 => .object "CircuitWays$Ways"
  | _ => .object "CircuitWays$Row"
theorem zn0 : ∀ a, a < 9 → ∀ b, b < 9 → a ≠ b → (zT0 a).2.1 ≠ (zT0 b).2.1 := by decide +kernel
theorem zo0 : ∀ k, k < 9 → parseFieldDescriptor (zT0 k).2.2.1 = some (zy0 k) := by decide +kernel
theorem zi0 : ∀ w ∈ u_ws "CircuitWays" zT0 9, w ∈ zt := by
  intro w hw
  obtain ⟨j, hj, rfl⟩ := List.mem_map.mp hw
  have hj := List.mem_range.mp hj
  match j, hj with
  | 0, _ => exact zt_mem (List.mem_of_getElem? (i := 360) (by decide +kernel)) rfl
  | 1, _ => exact zt_mem (List.mem_of_getElem? (i := 362) (by decide +kernel)) rfl
  | 2, _ => exact zt_mem (List.mem_of_getElem? (i := 364) (by decide +kernel)) rfl
  | 3, _ => exact zt_mem (List.mem_of_getElem? (i := 366) (by decide +kernel)) rfl
  | 4, _ => exact zt_mem (List.mem_of_getElem? (i := 368) (by decide +kernel)) rfl
  | 5, _ => exact zt_mem (List.mem_of_getElem? (i := 370) (by decide +kernel)) rfl
  | 6, _ => exact zt_mem (List.mem_of_getElem? (i := 372) (by decide +kernel)) rfl
  | 7, _ => exact zt_mem (List.mem_of_getElem? (i := 374) (by decide +kernel)) rfl
  | 8, _ => exact zt_mem (List.mem_of_getElem? (i := 376) (by decide +kernel)) rfl
  | j + 9, h => exact absurd h (by omega)
def zT1 : u_T := fun k => match k with
  | 0 => ("CircuitWays$Net", "loads", "[I", true)
  | 1 => ("CircuitWays$Net", "costs", "[I", true)
  | 2 => ("CircuitWays$Net", "prices", "[I", true)
  | 3 => ("CircuitWays$Net", "earlier", "[I", true)
  | 4 => ("CircuitWays$Net", "size", "I", false)
  | 5 => ("CircuitWays$Net", "most", "I", false)
  | 6 => ("CircuitWays$Net", "room", "I", false)
  | 7 => ("CircuitWays$Net", "open", "I", false)
  | _ => ("CircuitWays$Net", "changes", "I", false)
def zy1 : Nat → FieldType := fun k => match k with
  | 0 => .array .int
  | 1 => .array .int
  | 2 => .array .int
  | 3 => .array .int
  | 4 => .int
  | 5 => .int
  | 6 => .int
  | 7 => .int
  | _ => .int
theorem zn1 : ∀ a, a < 9 → ∀ b, b < 9 → a ≠ b → (zT1 a).2.1 ≠ (zT1 b).2.1 := by decide +kernel
theorem zo1 : ∀ k, k < 9 → parseFieldDescriptor (zT1 k).2.2.1 = some (zy1 k) := by decide +kernel
theorem zi1 : ∀ w ∈ u_ws "CircuitWays$Net" zT1 9, w ∈ zt := by
  intro w hw
  obtain ⟨j, hj, rfl⟩ := List.mem_map.mp hw
  have hj := List.mem_range.mp hj
  match j, hj with
  | 0, _ => exact zt_mem (List.mem_of_getElem? (i := 109) (by decide +kernel)) rfl
  | 1, _ => exact zt_mem (List.mem_of_getElem? (i := 111) (by decide +kernel)) rfl
  | 2, _ => exact zt_mem (List.mem_of_getElem? (i := 113) (by decide +kernel)) rfl
  | 3, _ => exact zt_mem (List.mem_of_getElem? (i := 115) (by decide +kernel)) rfl
  | 4, _ => exact zt_mem (List.mem_of_getElem? (i := 117) (by decide +kernel)) rfl
  | 5, _ => exact zt_mem (List.mem_of_getElem? (i := 119) (by decide +kernel)) rfl
  | 6, _ => exact zt_mem (List.mem_of_getElem? (i := 121) (by decide +kernel)) rfl
  | 7, _ => exact zt_mem (List.mem_of_getElem? (i := 123) (by decide +kernel)) rfl
  | 8, _ => exact zt_mem (List.mem_of_getElem? (i := 125) (by decide +kernel)) rfl
  | j + 9, h => exact absurd h (by omega)
def zT2 : u_T := fun k => match k with
  | 0 => ("CircuitWays$Paths", "net", "LCircuitWays$Net;", true)
  | 1 => ("CircuitWays$Paths", "setLoad", "[I", true)
  | 2 => ("CircuitWays$Paths", "followers", "[I", true)
  | 3 => ("CircuitWays$Paths", "pathCost", "[I", true)
  | 4 => ("CircuitWays$Paths", "pathWays", "[I", true)
  | 5 => ("CircuitWays$Paths", "roundCost", "[I", true)
  | _ => ("CircuitWays$Paths", "roundWays", "[I", true)
def zy2 : Nat → FieldType := fun k => match k with
  | 0 => .object "CircuitWays$Net"
  | 1 => .array .int
  | 2 => .array .int
  | 3 => .array .int
  | 4 => .array .int
  | 5 => .array .int
  | _ => .array .int
theorem zn2 : ∀ a, a < 7 → ∀ b, b < 7 → a ≠ b → (zT2 a).2.1 ≠ (zT2 b).2.1 := by decide +kernel
theorem zo2 : ∀ k, k < 7 → parseFieldDescriptor (zT2 k).2.2.1 = some (zy2 k) := by decide +kernel
theorem zi2 : ∀ w ∈ u_ws "CircuitWays$Paths" zT2 7, w ∈ zt := by
  intro w hw
  obtain ⟨j, hj, rfl⟩ := List.mem_map.mp hw
  have hj := List.mem_range.mp hj
  match j, hj with
  | 0, _ => exact zt_mem (List.mem_of_getElem? (i := 146) (by decide +kernel)) rfl
  | 1, _ => exact zt_mem (List.mem_of_getElem? (i := 148) (by decide +kernel)) rfl
  | 2, _ => exact zt_mem (List.mem_of_getElem? (i := 150) (by decide +kernel)) rfl
  | 3, _ => exact zt_mem (List.mem_of_getElem? (i := 152) (by decide +kernel)) rfl
  | 4, _ => exact zt_mem (List.mem_of_getElem? (i := 154) (by decide +kernel)) rfl
  | 5, _ => exact zt_mem (List.mem_of_getElem? (i := 156) (by decide +kernel)) rfl
  | 6, _ => exact zt_mem (List.mem_of_getElem? (i := 158) (by decide +kernel)) rfl
  | j + 7, h => exact absurd h (by omega)
def zT3 : u_T := fun k => match k with
  | 0 => ("CircuitWays$Shares", "net", "LCircuitWays$Net;", true)
  | 1 => ("CircuitWays$Shares", "paths", "LCircuitWays$Paths;", true)
  | 2 => ("CircuitWays$Shares", "cost", "[I", true)
  | 3 => ("CircuitWays$Shares", "waysOf", "[I", true)
  | 4 => ("CircuitWays$Shares", "least", "I", false)
  | 5 => ("CircuitWays$Shares", "leastCount", "I", false)
  | _ => ("CircuitWays$Shares", "seen", "I", false)
def zy3 : Nat → FieldType := fun k => match k with
  | 0 => .object "CircuitWays$Net"
  | 1 => .object "CircuitWays$Paths"
  | 2 => .array .int
  | 3 => .array .int
  | 4 => .int
  | 5 => .int
  | _ => .int
theorem zn3 : ∀ a, a < 7 → ∀ b, b < 7 → a ≠ b → (zT3 a).2.1 ≠ (zT3 b).2.1 := by decide +kernel
theorem zo3 : ∀ k, k < 7 → parseFieldDescriptor (zT3 k).2.2.1 = some (zy3 k) := by decide +kernel
theorem zi3 : ∀ w ∈ u_ws "CircuitWays$Shares" zT3 7, w ∈ zt := by
  intro w hw
  obtain ⟨j, hj, rfl⟩ := List.mem_map.mp hw
  have hj := List.mem_range.mp hj
  match j, hj with
  | 0, _ => exact zt_mem (List.mem_of_getElem? (i := 177) (by decide +kernel)) rfl
  | 1, _ => exact zt_mem (List.mem_of_getElem? (i := 179) (by decide +kernel)) rfl
  | 2, _ => exact zt_mem (List.mem_of_getElem? (i := 181) (by decide +kernel)) rfl
  | 3, _ => exact zt_mem (List.mem_of_getElem? (i := 183) (by decide +kernel)) rfl
  | 4, _ => exact zt_mem (List.mem_of_getElem? (i := 185) (by decide +kernel)) rfl
  | 5, _ => exact zt_mem (List.mem_of_getElem? (i := 187) (by decide +kernel)) rfl
  | 6, _ => exact zt_mem (List.mem_of_getElem? (i := 189) (by decide +kernel)) rfl
  | j + 7, h => exact absurd h (by omega)
def zT4 : u_T := fun k => match k with
  | 0 => ("CircuitWays$Tails", "net", "LCircuitWays$Net;", true)
  | 1 => ("CircuitWays$Tails", "paths", "LCircuitWays$Paths;", true)
  | 2 => ("CircuitWays$Tails", "shares", "LCircuitWays$Shares;", true)
  | 3 => ("CircuitWays$Tails", "cost", "[I", true)
  | 4 => ("CircuitWays$Tails", "above", "[Z", true)
  | 5 => ("CircuitWays$Tails", "seen", "I", false)
  | 6 => ("CircuitWays$Tails", "free", "I", false)
  | _ => ("CircuitWays$Tails", "rounds", "I", false)
def zy4 : Nat → FieldType := fun k => match k with
  | 0 => .object "CircuitWays$Net"
  | 1 => .object "CircuitWays$Paths"
  | 2 => .object "CircuitWays$Shares"
  | 3 => .array .int
  | 4 => .array .boolean
  | 5 => .int
  | 6 => .int
  | _ => .int
theorem zn4 : ∀ a, a < 8 → ∀ b, b < 8 → a ≠ b → (zT4 a).2.1 ≠ (zT4 b).2.1 := by decide +kernel
theorem zo4 : ∀ k, k < 8 → parseFieldDescriptor (zT4 k).2.2.1 = some (zy4 k) := by decide +kernel
theorem zi4 : ∀ w ∈ u_ws "CircuitWays$Tails" zT4 8, w ∈ zt := by
  intro w hw
  obtain ⟨j, hj, rfl⟩ := List.mem_map.mp hw
  have hj := List.mem_range.mp hj
  match j, hj with
  | 0, _ => exact zt_mem (List.mem_of_getElem? (i := 206) (by decide +kernel)) rfl
  | 1, _ => exact zt_mem (List.mem_of_getElem? (i := 208) (by decide +kernel)) rfl
  | 2, _ => exact zt_mem (List.mem_of_getElem? (i := 210) (by decide +kernel)) rfl
  | 3, _ => exact zt_mem (List.mem_of_getElem? (i := 212) (by decide +kernel)) rfl
  | 4, _ => exact zt_mem (List.mem_of_getElem? (i := 214) (by decide +kernel)) rfl
  | 5, _ => exact zt_mem (List.mem_of_getElem? (i := 216) (by decide +kernel)) rfl
  | 6, _ => exact zt_mem (List.mem_of_getElem? (i := 218) (by decide +kernel)) rfl
  | 7, _ => exact zt_mem (List.mem_of_getElem? (i := 220) (by decide +kernel)) rfl
  | j + 8, h => exact absurd h (by omega)
def zT5 : u_T := fun k => match k with
  | 0 => ("CircuitWays$FirstPlan", "net", "LCircuitWays$Net;", true)
  | 1 => ("CircuitWays$FirstPlan", "shares", "LCircuitWays$Shares;", true)
  | 2 => ("CircuitWays$FirstPlan", "tails", "LCircuitWays$Tails;", true)
  | 3 => ("CircuitWays$FirstPlan", "written", "[I", true)
  | 4 => ("CircuitWays$FirstPlan", "length", "I", false)
  | 5 => ("CircuitWays$FirstPlan", "seen", "I", false)
  | 6 => ("CircuitWays$FirstPlan", "due", "I", false)
  | _ => ("CircuitWays$FirstPlan", "free", "I", false)
def zy5 : Nat → FieldType := fun k => match k with
  | 0 => .object "CircuitWays$Net"
  | 1 => .object "CircuitWays$Shares"
  | 2 => .object "CircuitWays$Tails"
  | 3 => .array .int
  | 4 => .int
  | 5 => .int
  | 6 => .int
  | _ => .int
theorem zn5 : ∀ a, a < 8 → ∀ b, b < 8 → a ≠ b → (zT5 a).2.1 ≠ (zT5 b).2.1 := by decide +kernel
theorem zo5 : ∀ k, k < 8 → parseFieldDescriptor (zT5 k).2.2.1 = some (zy5 k) := by decide +kernel
theorem zi5 : ∀ w ∈ u_ws "CircuitWays$FirstPlan" zT5 8, w ∈ zt := by
  intro w hw
  obtain ⟨j, hj, rfl⟩ := List.mem_map.mp hw
  have hj := List.mem_range.mp hj
  match j, hj with
  | 0, _ => exact zt_mem (List.mem_of_getElem? (i := 240) (by decide +kernel)) rfl
  | 1, _ => exact zt_mem (List.mem_of_getElem? (i := 242) (by decide +kernel)) rfl
  | 2, _ => exact zt_mem (List.mem_of_getElem? (i := 244) (by decide +kernel)) rfl
  | 3, _ => exact zt_mem (List.mem_of_getElem? (i := 246) (by decide +kernel)) rfl
  | 4, _ => exact zt_mem (List.mem_of_getElem? (i := 248) (by decide +kernel)) rfl
  | 5, _ => exact zt_mem (List.mem_of_getElem? (i := 250) (by decide +kernel)) rfl
  | 6, _ => exact zt_mem (List.mem_of_getElem? (i := 252) (by decide +kernel)) rfl
  | 7, _ => exact zt_mem (List.mem_of_getElem? (i := 254) (by decide +kernel)) rfl
  | j + 8, h => exact absurd h (by omega)
def zT6 : u_T := fun k => match k with
  | 0 => ("CircuitWays$Tree", "net", "LCircuitWays$Net;", true)
  | 1 => ("CircuitWays$Tree", "weights", "[I", true)
  | 2 => ("CircuitWays$Tree", "part", "[I", true)
  | 3 => ("CircuitWays$Tree", "lesser", "[I", true)
  | 4 => ("CircuitWays$Tree", "other", "[I", true)
  | 5 => ("CircuitWays$Tree", "chosen", "I", false)
  | _ => ("CircuitWays$Tree", "cost", "I", false)
def zy6 : Nat → FieldType := fun k => match k with
  | 0 => .object "CircuitWays$Net"
  | 1 => .array .int
  | 2 => .array .int
  | 3 => .array .int
  | 4 => .array .int
  | 5 => .int
  | _ => .int
theorem zn6 : ∀ a, a < 7 → ∀ b, b < 7 → a ≠ b → (zT6 a).2.1 ≠ (zT6 b).2.1 := by decide +kernel
theorem zo6 : ∀ k, k < 7 → parseFieldDescriptor (zT6 k).2.2.1 = some (zy6 k) := by decide +kernel
theorem zi6 : ∀ w ∈ u_ws "CircuitWays$Tree" zT6 7, w ∈ zt := by
  intro w hw
  obtain ⟨j, hj, rfl⟩ := List.mem_map.mp hw
  have hj := List.mem_range.mp hj
  match j, hj with
  | 0, _ => exact zt_mem (List.mem_of_getElem? (i := 273) (by decide +kernel)) rfl
  | 1, _ => exact zt_mem (List.mem_of_getElem? (i := 275) (by decide +kernel)) rfl
  | 2, _ => exact zt_mem (List.mem_of_getElem? (i := 277) (by decide +kernel)) rfl
  | 3, _ => exact zt_mem (List.mem_of_getElem? (i := 279) (by decide +kernel)) rfl
  | 4, _ => exact zt_mem (List.mem_of_getElem? (i := 281) (by decide +kernel)) rfl
  | 5, _ => exact zt_mem (List.mem_of_getElem? (i := 283) (by decide +kernel)) rfl
  | 6, _ => exact zt_mem (List.mem_of_getElem? (i := 285) (by decide +kernel)) rfl
  | j + 7, h => exact absurd h (by omega)
def zT7 : u_T := fun k => match k with
  | 0 => ("CircuitWays$Pairs", "net", "LCircuitWays$Net;", true)
  | _ => ("CircuitWays$Pairs", "cost", "[I", true)
def zy7 : Nat → FieldType := fun k => match k with
  | 0 => .object "CircuitWays$Net"
  | _ => .array .int
theorem zn7 : ∀ a, a < 2 → ∀ b, b < 2 → a ≠ b → (zT7 a).2.1 ≠ (zT7 b).2.1 := by decide +kernel
theorem zo7 : ∀ k, k < 2 → parseFieldDescriptor (zT7 k).2.2.1 = some (zy7 k) := by decide +kernel
theorem zi7 : ∀ w ∈ u_ws "CircuitWays$Pairs" zT7 2, w ∈ zt := by
  intro w hw
  obtain ⟨j, hj, rfl⟩ := List.mem_map.mp hw
  have hj := List.mem_range.mp hj
  match j, hj with
  | 0, _ => exact zt_mem (List.mem_of_getElem? (i := 296) (by decide +kernel)) rfl
  | 1, _ => exact zt_mem (List.mem_of_getElem? (i := 298) (by decide +kernel)) rfl
  | j + 2, h => exact absurd h (by omega)
def zT8 : u_T := fun k => match k with
  | 0 => ("CircuitWays$Circles", "net", "LCircuitWays$Net;", true)
  | 1 => ("CircuitWays$Circles", "follower", "[I", true)
  | _ => ("CircuitWays$Circles", "members", "[I", true)
def zy8 : Nat → FieldType := fun k => match k with
  | 0 => .object "CircuitWays$Net"
  | 1 => .array .int
  | _ => .array .int
theorem zn8 : ∀ a, a < 3 → ∀ b, b < 3 → a ≠ b → (zT8 a).2.1 ≠ (zT8 b).2.1 := by decide +kernel
theorem zo8 : ∀ k, k < 3 → parseFieldDescriptor (zT8 k).2.2.1 = some (zy8 k) := by decide +kernel
theorem zi8 : ∀ w ∈ u_ws "CircuitWays$Circles" zT8 3, w ∈ zt := by
  intro w hw
  obtain ⟨j, hj, rfl⟩ := List.mem_map.mp hw
  have hj := List.mem_range.mp hj
  match j, hj with
  | 0, _ => exact zt_mem (List.mem_of_getElem? (i := 311) (by decide +kernel)) rfl
  | 1, _ => exact zt_mem (List.mem_of_getElem? (i := 313) (by decide +kernel)) rfl
  | 2, _ => exact zt_mem (List.mem_of_getElem? (i := 315) (by decide +kernel)) rfl
  | j + 3, h => exact absurd h (by omega)
def zT9 : u_T := fun k => match k with
  | 0 => ("CircuitWays$Ways", "net", "LCircuitWays$Net;", true)
  | _ => ("CircuitWays$Ways", "reachedWithout", "[I", true)
def zy9 : Nat → FieldType := fun k => match k with
  | 0 => .object "CircuitWays$Net"
  | _ => .array .int
theorem zn9 : ∀ a, a < 2 → ∀ b, b < 2 → a ≠ b → (zT9 a).2.1 ≠ (zT9 b).2.1 := by decide +kernel
theorem zo9 : ∀ k, k < 2 → parseFieldDescriptor (zT9 k).2.2.1 = some (zy9 k) := by decide +kernel
theorem zi9 : ∀ w ∈ u_ws "CircuitWays$Ways" zT9 2, w ∈ zt := by
  intro w hw
  obtain ⟨j, hj, rfl⟩ := List.mem_map.mp hw
  have hj := List.mem_range.mp hj
  match j, hj with
  | 0, _ => exact zt_mem (List.mem_of_getElem? (i := 326) (by decide +kernel)) rfl
  | 1, _ => exact zt_mem (List.mem_of_getElem? (i := 328) (by decide +kernel)) rfl
  | j + 2, h => exact absurd h (by omega)
def zT10 : u_T := fun k => match k with
  | 0 => ("CircuitWays$Row", "net", "LCircuitWays$Net;", true)
  | 1 => ("CircuitWays$Row", "numbers", "[I", true)
  | 2 => ("CircuitWays$Row", "trial", "[I", true)
  | _ => ("CircuitWays$Row", "size", "I", false)
def zy10 : Nat → FieldType := fun k => match k with
  | 0 => .object "CircuitWays$Net"
  | 1 => .array .int
  | 2 => .array .int
  | _ => .int
theorem zn10 : ∀ a, a < 4 → ∀ b, b < 4 → a ≠ b → (zT10 a).2.1 ≠ (zT10 b).2.1 := by decide +kernel
theorem zo10 : ∀ k, k < 4 → parseFieldDescriptor (zT10 k).2.2.1 = some (zy10 k) := by decide +kernel
theorem zi10 : ∀ w ∈ u_ws "CircuitWays$Row" zT10 4, w ∈ zt := by
  intro w hw
  obtain ⟨j, hj, rfl⟩ := List.mem_map.mp hw
  have hj := List.mem_range.mp hj
  match j, hj with
  | 0, _ => exact zt_mem (List.mem_of_getElem? (i := 342) (by decide +kernel)) rfl
  | 1, _ => exact zt_mem (List.mem_of_getElem? (i := 344) (by decide +kernel)) rfl
  | 2, _ => exact zt_mem (List.mem_of_getElem? (i := 346) (by decide +kernel)) rfl
  | 3, _ => exact zt_mem (List.mem_of_getElem? (i := 348) (by decide +kernel)) rfl
  | j + 4, h => exact absurd h (by omega)
def zT11 : u_T := fun k => match k with
  | 0 => ("CircuitWaysModel", "thrown", "I", false)
  | 1 => ("CircuitWaysModel", "nodes", "I", false)
  | 2 => ("CircuitWaysModel", "load", "[I", true)
  | 3 => ("CircuitWaysModel", "arc", "[I", true)
  | 4 => ("CircuitWaysModel", "price", "[I", true)
  | 5 => ("CircuitWaysModel", "isAhead", "[Z", true)
  | 6 => ("CircuitWaysModel", "most", "I", false)
  | 7 => ("CircuitWaysModel", "room", "I", false)
  | 8 => ("CircuitWaysModel", "open", "I", false)
  | 9 => ("CircuitWaysModel", "weight", "[I", true)
  | 10 => ("CircuitWaysModel", "next", "[I", true)
  | 11 => ("CircuitWaysModel", "row", "[I", true)
  | 12 => ("CircuitWaysModel", "rowSize", "I", false)
  | 13 => ("CircuitWaysModel", "isKnown", "Z", false)
  | 14 => ("CircuitWaysModel", "best", "I", false)
  | 15 => ("CircuitWaysModel", "many", "I", false)
  | 16 => ("CircuitWaysModel", "with", "[I", true)
  | 17 => ("CircuitWaysModel", "without", "[I", true)
  | 18 => ("CircuitWaysModel", "first", "[I", true)
  | 19 => ("CircuitWaysModel", "firstSize", "I", false)
  | 20 => ("CircuitWaysModel", "written", "[I", true)
  | 21 => ("CircuitWaysModel", "writtenSize", "I", false)
  | 22 => ("CircuitWaysModel", "used", "I", false)
  | 23 => ("CircuitWaysModel", "here", "I", false)
  | 24 => ("CircuitWaysModel", "hereLoad", "I", false)
  | 25 => ("CircuitWaysModel", "rounds", "I", false)
  | 26 => ("CircuitWaysModel", "edgeA", "[I", true)
  | 27 => ("CircuitWaysModel", "edgeB", "[I", true)
  | 28 => ("CircuitWaysModel", "edges", "I", false)
  | 29 => ("CircuitWaysModel", "part", "[I", true)
  | _ => ("CircuitWaysModel", "paired", "[I", true)
def zy11 : Nat → FieldType := fun k => match k with
  | 0 => .int
  | 1 => .int
  | 2 => .array .int
  | 3 => .array .int
  | 4 => .array .int
  | 5 => .array .boolean
  | 6 => .int
  | 7 => .int
  | 8 => .int
  | 9 => .array .int
  | 10 => .array .int
  | 11 => .array .int
  | 12 => .int
  | 13 => .boolean
  | 14 => .int
  | 15 => .int
  | 16 => .array .int
  | 17 => .array .int
  | 18 => .array .int
  | 19 => .int
  | 20 => .array .int
  | 21 => .int
  | 22 => .int
  | 23 => .int
  | 24 => .int
  | 25 => .int
  | 26 => .array .int
  | 27 => .array .int
  | 28 => .int
  | 29 => .array .int
  | _ => .array .int
theorem zn11 : ∀ a, a < 31 → ∀ b, b < 31 → a ≠ b → (zT11 a).2.1 ≠ (zT11 b).2.1 := by decide +kernel
theorem zo11 : ∀ k, k < 31 → parseFieldDescriptor (zT11 k).2.2.1 = some (zy11 k) := by decide +kernel
theorem zi11 : ∀ w ∈ u_ws "CircuitWaysModel" zT11 31, w ∈ zt := by
  intro w hw
  obtain ⟨j, hj, rfl⟩ := List.mem_map.mp hw
  have hj := List.mem_range.mp hj
  match j, hj with
  | 0, _ => exact zt_mem (List.mem_of_getElem? (i := 823) (by decide +kernel)) rfl
  | 1, _ => exact zt_mem (List.mem_of_getElem? (i := 825) (by decide +kernel)) rfl
  | 2, _ => exact zt_mem (List.mem_of_getElem? (i := 827) (by decide +kernel)) rfl
  | 3, _ => exact zt_mem (List.mem_of_getElem? (i := 829) (by decide +kernel)) rfl
  | 4, _ => exact zt_mem (List.mem_of_getElem? (i := 831) (by decide +kernel)) rfl
  | 5, _ => exact zt_mem (List.mem_of_getElem? (i := 833) (by decide +kernel)) rfl
  | 6, _ => exact zt_mem (List.mem_of_getElem? (i := 835) (by decide +kernel)) rfl
  | 7, _ => exact zt_mem (List.mem_of_getElem? (i := 837) (by decide +kernel)) rfl
  | 8, _ => exact zt_mem (List.mem_of_getElem? (i := 839) (by decide +kernel)) rfl
  | 9, _ => exact zt_mem (List.mem_of_getElem? (i := 841) (by decide +kernel)) rfl
  | 10, _ => exact zt_mem (List.mem_of_getElem? (i := 843) (by decide +kernel)) rfl
  | 11, _ => exact zt_mem (List.mem_of_getElem? (i := 845) (by decide +kernel)) rfl
  | 12, _ => exact zt_mem (List.mem_of_getElem? (i := 847) (by decide +kernel)) rfl
  | 13, _ => exact zt_mem (List.mem_of_getElem? (i := 849) (by decide +kernel)) rfl
  | 14, _ => exact zt_mem (List.mem_of_getElem? (i := 851) (by decide +kernel)) rfl
  | 15, _ => exact zt_mem (List.mem_of_getElem? (i := 853) (by decide +kernel)) rfl
  | 16, _ => exact zt_mem (List.mem_of_getElem? (i := 855) (by decide +kernel)) rfl
  | 17, _ => exact zt_mem (List.mem_of_getElem? (i := 857) (by decide +kernel)) rfl
  | 18, _ => exact zt_mem (List.mem_of_getElem? (i := 859) (by decide +kernel)) rfl
  | 19, _ => exact zt_mem (List.mem_of_getElem? (i := 861) (by decide +kernel)) rfl
  | 20, _ => exact zt_mem (List.mem_of_getElem? (i := 863) (by decide +kernel)) rfl
  | 21, _ => exact zt_mem (List.mem_of_getElem? (i := 865) (by decide +kernel)) rfl
  | 22, _ => exact zt_mem (List.mem_of_getElem? (i := 867) (by decide +kernel)) rfl
  | 23, _ => exact zt_mem (List.mem_of_getElem? (i := 869) (by decide +kernel)) rfl
  | 24, _ => exact zt_mem (List.mem_of_getElem? (i := 871) (by decide +kernel)) rfl
  | 25, _ => exact zt_mem (List.mem_of_getElem? (i := 873) (by decide +kernel)) rfl
  | 26, _ => exact zt_mem (List.mem_of_getElem? (i := 875) (by decide +kernel)) rfl
  | 27, _ => exact zt_mem (List.mem_of_getElem? (i := 877) (by decide +kernel)) rfl
  | 28, _ => exact zt_mem (List.mem_of_getElem? (i := 879) (by decide +kernel)) rfl
  | 29, _ => exact zt_mem (List.mem_of_getElem? (i := 881) (by decide +kernel)) rfl
  | 30, _ => exact zt_mem (List.mem_of_getElem? (i := 883) (by decide +kernel)) rfl
  | j + 31, h => exact absurd h (by omega)
abbrev zcl : List vw_C := [("CircuitWays", zT0, 9), ("CircuitWays$Net", zT1, 9), ("CircuitWays$Paths", zT2, 7), ("CircuitWays$Shares", zT3, 7), ("CircuitWays$Tails", zT4, 8), ("CircuitWays$FirstPlan", zT5, 8), ("CircuitWays$Tree", zT6, 7), ("CircuitWays$Pairs", zT7, 2), ("CircuitWays$Circles", zT8, 3), ("CircuitWays$Ways", zT9, 2), ("CircuitWays$Row", zT10, 4), ("CircuitWaysModel", zT11, 31)]
def zty : Nat → Nat → FieldType := fun c => match c with
  | 0 => zy0
  | 1 => zy1
  | 2 => zy2
  | 3 => zy3
  | 4 => zy4
  | 5 => zy5
  | 6 => zy6
  | 7 => zy7
  | 8 => zy8
  | 9 => zy9
  | 10 => zy10
  | _ => zy11
theorem zcl_in : ∀ (ci : Nat) (q : vw_C), zcl[ci]? = some q → (∀ w ∈ u_ws q.1 q.2.1 q.2.2, w ∈ zt) := by
  intro ci q h
  match ci, h with
  | 0, h => cases h; exact zi0
  | 1, h => cases h; exact zi1
  | 2, h => cases h; exact zi2
  | 3, h => cases h; exact zi3
  | 4, h => cases h; exact zi4
  | 5, h => cases h; exact zi5
  | 6, h => cases h; exact zi6
  | 7, h => cases h; exact zi7
  | 8, h => cases h; exact zi8
  | 9, h => cases h; exact zi9
  | 10, h => cases h; exact zi10
  | 11, h => cases h; exact zi11
  | k + 12, h => simp [zcl] at h
theorem zcl_ty : ∀ (ci : Nat) (q : vw_C), zcl[ci]? = some q → (∀ k, k < q.2.2 → parseFieldDescriptor (q.2.1 k).2.2.1 = some (zty ci k)) := by
  intro ci q h
  match ci, h with
  | 0, h => cases h; exact zo0
  | 1, h => cases h; exact zo1
  | 2, h => cases h; exact zo2
  | 3, h => cases h; exact zo3
  | 4, h => cases h; exact zo4
  | 5, h => cases h; exact zo5
  | 6, h => cases h; exact zo6
  | 7, h => cases h; exact zo7
  | 8, h => cases h; exact zo8
  | 9, h => cases h; exact zo9
  | 10, h => cases h; exact zo10
  | 11, h => cases h; exact zo11
  | k + 12, h => simp [zcl] at h
theorem zcl_nm : ∀ (ci : Nat) (q : vw_C), zcl[ci]? = some q → (∀ a, a < q.2.2 → ∀ b, b < q.2.2 → a ≠ b → (q.2.1 a).2.1 ≠ (q.2.1 b).2.1) := by
  intro ci q h
  match ci, h with
  | 0, h => cases h; exact zn0
  | 1, h => cases h; exact zn1
  | 2, h => cases h; exact zn2
  | 3, h => cases h; exact zn3
  | 4, h => cases h; exact zn4
  | 5, h => cases h; exact zn5
  | 6, h => cases h; exact zn6
  | 7, h => cases h; exact zn7
  | 8, h => cases h; exact zn8
  | 9, h => cases h; exact zn9
  | 10, h => cases h; exact zn10
  | 11, h => cases h; exact zn11
  | k + 12, h => simp [zcl] at h
theorem zw0 : Cond.instantiable "CircuitWays" 9 ∈ zt ∧ Cond.initialized "CircuitWays" ∈ zt := ⟨zt_mem (List.mem_of_getElem? (i := 55) (by decide +kernel)) rfl, zt_mem (List.mem_of_getElem? (i := 40) (by decide +kernel)) rfl⟩
theorem zw1 : Cond.instantiable "CircuitWays$Net" 9 ∈ zt ∧ Cond.initialized "CircuitWays$Net" ∈ zt := ⟨zt_mem (List.mem_of_getElem? (i := 63) (by decide +kernel)) rfl, zt_mem (List.mem_of_getElem? (i := 41) (by decide +kernel)) rfl⟩
theorem zw2 : Cond.instantiable "CircuitWays$Paths" 7 ∈ zt ∧ Cond.initialized "CircuitWays$Paths" ∈ zt := ⟨zt_mem (List.mem_of_getElem? (i := 130) (by decide +kernel)) rfl, zt_mem (List.mem_of_getElem? (i := 42) (by decide +kernel)) rfl⟩
theorem zw3 : Cond.instantiable "CircuitWays$Shares" 7 ∈ zt ∧ Cond.initialized "CircuitWays$Shares" ∈ zt := ⟨zt_mem (List.mem_of_getElem? (i := 162) (by decide +kernel)) rfl, zt_mem (List.mem_of_getElem? (i := 43) (by decide +kernel)) rfl⟩
theorem zw4 : Cond.instantiable "CircuitWays$Tails" 8 ∈ zt ∧ Cond.initialized "CircuitWays$Tails" ∈ zt := ⟨zt_mem (List.mem_of_getElem? (i := 193) (by decide +kernel)) rfl, zt_mem (List.mem_of_getElem? (i := 44) (by decide +kernel)) rfl⟩
theorem zw5 : Cond.instantiable "CircuitWays$FirstPlan" 8 ∈ zt ∧ Cond.initialized "CircuitWays$FirstPlan" ∈ zt := ⟨zt_mem (List.mem_of_getElem? (i := 225) (by decide +kernel)) rfl, zt_mem (List.mem_of_getElem? (i := 45) (by decide +kernel)) rfl⟩
theorem zw6 : Cond.instantiable "CircuitWays$Tree" 7 ∈ zt ∧ Cond.initialized "CircuitWays$Tree" ∈ zt := ⟨zt_mem (List.mem_of_getElem? (i := 258) (by decide +kernel)) rfl, zt_mem (List.mem_of_getElem? (i := 46) (by decide +kernel)) rfl⟩
theorem zw7 : Cond.instantiable "CircuitWays$Pairs" 2 ∈ zt ∧ Cond.initialized "CircuitWays$Pairs" ∈ zt := ⟨zt_mem (List.mem_of_getElem? (i := 289) (by decide +kernel)) rfl, zt_mem (List.mem_of_getElem? (i := 47) (by decide +kernel)) rfl⟩
theorem zw8 : Cond.instantiable "CircuitWays$Circles" 3 ∈ zt ∧ Cond.initialized "CircuitWays$Circles" ∈ zt := ⟨zt_mem (List.mem_of_getElem? (i := 302) (by decide +kernel)) rfl, zt_mem (List.mem_of_getElem? (i := 48) (by decide +kernel)) rfl⟩
theorem zw9 : Cond.instantiable "CircuitWays$Ways" 2 ∈ zt ∧ Cond.initialized "CircuitWays$Ways" ∈ zt := ⟨zt_mem (List.mem_of_getElem? (i := 319) (by decide +kernel)) rfl, zt_mem (List.mem_of_getElem? (i := 49) (by decide +kernel)) rfl⟩
theorem zw10 : Cond.instantiable "CircuitWays$Row" 4 ∈ zt ∧ Cond.initialized "CircuitWays$Row" ∈ zt := ⟨zt_mem (List.mem_of_getElem? (i := 332) (by decide +kernel)) rfl, zt_mem (List.mem_of_getElem? (i := 50) (by decide +kernel)) rfl⟩
theorem zw11 : Cond.instantiable "CircuitWaysModel" 31 ∈ zt ∧ Cond.initialized "CircuitWaysModel" ∈ zt := ⟨zt_mem (List.mem_of_getElem? (i := 786) (by decide +kernel)) rfl, zt_mem (List.mem_of_getElem? (i := 51) (by decide +kernel)) rfl⟩
theorem zcl_new : ∀ (ci : Nat) (q : vw_C), zcl[ci]? = some q → (Cond.instantiable q.1 q.2.2 ∈ zt ∧ Cond.initialized q.1 ∈ zt) := by
  intro ci q h
  match ci, h with
  | 0, h => cases h; exact zw0
  | 1, h => cases h; exact zw1
  | 2, h => cases h; exact zw2
  | 3, h => cases h; exact zw3
  | 4, h => cases h; exact zw4
  | 5, h => cases h; exact zw5
  | 6, h => cases h; exact zw6
  | 7, h => cases h; exact zw7
  | 8, h => cases h; exact zw8
  | 9, h => cases h; exact zw9
  | 10, h => cases h; exact zw10
  | 11, h => cases h; exact zw11
  | k + 12, h => simp [zcl] at h
def znest : List Cond := [.methodLinkNest "CircuitWays$Net" 45 (⟨"CircuitWays", "bit", "(I)I"⟩ : MethodName) "CircuitWays", .methodLinkNest "CircuitWays$Paths" 69 (⟨"CircuitWays", "bit", "(I)I"⟩ : MethodName) "CircuitWays", .methodLinkNest "CircuitWays$Paths" 81 (⟨"CircuitWays", "sum", "(II)I"⟩ : MethodName) "CircuitWays", .methodLinkNest "CircuitWays$Net" 54 (⟨"CircuitWays", "sum", "(II)I"⟩ : MethodName) "CircuitWays", .methodLinkNest "CircuitWays$Shares" 73 (⟨"CircuitWays", "sum", "(II)I"⟩ : MethodName) "CircuitWays", .methodLinkNest "CircuitWays$Tails" 49 (⟨"CircuitWays", "bit", "(I)I"⟩ : MethodName) "CircuitWays", .methodLinkNest "CircuitWays$Tails" 66 (⟨"CircuitWays", "sum", "(II)I"⟩ : MethodName) "CircuitWays", .methodLinkNest "CircuitWays$FirstPlan" 83 (⟨"CircuitWays", "bit", "(I)I"⟩ : MethodName) "CircuitWays", .methodLinkNest "CircuitWays$Shares" 70 (⟨"CircuitWays", "bit", "(I)I"⟩ : MethodName) "CircuitWays", .methodLinkNest "CircuitWays$Tree" 57 (⟨"CircuitWays", "sum", "(II)I"⟩ : MethodName) "CircuitWays", .methodLinkNest "CircuitWays$Pairs" 35 (⟨"CircuitWays", "sum", "(II)I"⟩ : MethodName) "CircuitWays", .methodLinkNest "CircuitWays$Row" 32 (⟨"CircuitWays", "bit", "(I)I"⟩ : MethodName) "CircuitWays", .methodLinkNest "CircuitWays$Row" 40 (⟨"CircuitWays", "sum", "(II)I"⟩ : MethodName) "CircuitWays"]
theorem znest_in : ∀ w ∈ znest, w ∈ lw_tbl := by
  have h : znest = [434, 469, 495, 503, 518, 553, 563, 582, 604, 642, 677, 753, 759].filterMap (fun i => lw_tbl[i]?) := by decide +kernel
  intro w hw
  rw [h] at hw
  obtain ⟨i, -, hi⟩ := List.mem_filterMap.mp hw
  exact List.mem_of_getElem? hi
theorem zarr_int : Cond.arrayClass .int ∈ zt := zt_mem (List.mem_of_getElem? (i := 128) (by decide +kernel)) rfl
theorem zarr_boolean : Cond.arrayClass .boolean ∈ zt := zt_mem (List.mem_of_getElem? (i := 223) (by decide +kernel)) rfl
end
section
abbrev zY : Type := MethodName × ByteArray × Nat × Option FieldType × String
def zWm (Y : zY) : Prop := Cond.code Y.1 Y.2.1 Y.2.2.1 Y.2.2.2.1 ∈ zt ∧ Cond.initialized Y.1.cls ∈ zt ∧ (Y.1.cls ≠ "java/lang/invoke/MethodHandle" ∧ Y.1.cls ≠ "java/lang/invoke/VarHandle") ∧ plainName Y.1.cls = true
def zWv (Y : zY) : Prop := zWm Y ∧ Cond.instanceMethod Y.1 ∈ zt ∧ Cond.selects Y.1.cls Y.1 Y.1 ∈ zt
def zWs (Y : zY) : Prop := zWm Y ∧ Cond.static Y.1 ∈ zt
def zWi (Y : zY) : Prop := zWm Y ∧ Cond.instanceMethod Y.1 ∈ zt ∧ Y.1.name = "<init>"
abbrev Y_La_law : zY := (⟨"CircuitWaysLaw", "law", "([I)Z"⟩, code, 4, some .boolean, "CircuitWaysLaw")
abbrev Y_CW_init : zY := (⟨"CircuitWays", "<init>", "()V"⟩, prog_1_method_1_code, 2, none, "CircuitWays")
set_option maxRecDepth 20000 in
theorem k_CW_init : zWi Y_CW_init := ⟨⟨zt_mem (List.mem_of_getElem? (i := 58) rfl) rfl, zt_mem (List.mem_of_getElem? (i := 40) (by decide +kernel)) rfl, by decide +kernel, by decide +kernel⟩, zt_mem (List.mem_of_getElem? (i := 57) (by decide +kernel)) rfl, rfl⟩
abbrev Y_Net_init : zY := (⟨"CircuitWays$Net", "<init>", "()V"⟩, prog_4_method_1_code, 2, none, "CircuitWays$Net")
set_option maxRecDepth 20000 in
theorem k_Net_init : zWi Y_Net_init := ⟨⟨zt_mem (List.mem_of_getElem? (i := 66) rfl) rfl, zt_mem (List.mem_of_getElem? (i := 41) (by decide +kernel)) rfl, by decide +kernel, by decide +kernel⟩, zt_mem (List.mem_of_getElem? (i := 65) (by decide +kernel)) rfl, rfl⟩
abbrev Y_Pat_init : zY := (⟨"CircuitWays$Paths", "<init>", "(LCircuitWays$Net;)V"⟩, prog_6_method_1_code, 2, none, "CircuitWays$Paths")
set_option maxRecDepth 20000 in
theorem k_Pat_init : zWi Y_Pat_init := ⟨⟨zt_mem (List.mem_of_getElem? (i := 133) rfl) rfl, zt_mem (List.mem_of_getElem? (i := 42) (by decide +kernel)) rfl, by decide +kernel, by decide +kernel⟩, zt_mem (List.mem_of_getElem? (i := 132) (by decide +kernel)) rfl, rfl⟩
abbrev Y_Sha_init : zY := (⟨"CircuitWays$Shares", "<init>", "(LCircuitWays$Net;LCircuitWays$Paths;)V"⟩, prog_8_method_1_code, 3, none, "CircuitWays$Shares")
set_option maxRecDepth 20000 in
theorem k_Sha_init : zWi Y_Sha_init := ⟨⟨zt_mem (List.mem_of_getElem? (i := 165) rfl) rfl, zt_mem (List.mem_of_getElem? (i := 43) (by decide +kernel)) rfl, by decide +kernel, by decide +kernel⟩, zt_mem (List.mem_of_getElem? (i := 164) (by decide +kernel)) rfl, rfl⟩
abbrev Y_Tai_init : zY := (⟨"CircuitWays$Tails", "<init>", "(LCircuitWays$Net;LCircuitWays$Paths;LCircuitWays$Shares;)V"⟩, prog_9_method_1_code, 4, none, "CircuitWays$Tails")
set_option maxRecDepth 20000 in
theorem k_Tai_init : zWi Y_Tai_init := ⟨⟨zt_mem (List.mem_of_getElem? (i := 196) rfl) rfl, zt_mem (List.mem_of_getElem? (i := 44) (by decide +kernel)) rfl, by decide +kernel, by decide +kernel⟩, zt_mem (List.mem_of_getElem? (i := 195) (by decide +kernel)) rfl, rfl⟩
abbrev Y_Fir_init : zY := (⟨"CircuitWays$FirstPlan", "<init>", "(LCircuitWays$Net;LCircuitWays$Shares;LCircuitWays$Tails;)V"⟩, prog_3_method_1_code, 4, none, "CircuitWays$FirstPlan")
set_option maxRecDepth 20000 in
theorem k_Fir_init : zWi Y_Fir_init := ⟨⟨zt_mem (List.mem_of_getElem? (i := 228) rfl) rfl, zt_mem (List.mem_of_getElem? (i := 45) (by decide +kernel)) rfl, by decide +kernel, by decide +kernel⟩, zt_mem (List.mem_of_getElem? (i := 227) (by decide +kernel)) rfl, rfl⟩
abbrev Y_Tre_init : zY := (⟨"CircuitWays$Tree", "<init>", "(LCircuitWays$Net;)V"⟩, prog_10_method_1_code, 2, none, "CircuitWays$Tree")
set_option maxRecDepth 20000 in
theorem k_Tre_init : zWi Y_Tre_init := ⟨⟨zt_mem (List.mem_of_getElem? (i := 261) rfl) rfl, zt_mem (List.mem_of_getElem? (i := 46) (by decide +kernel)) rfl, by decide +kernel, by decide +kernel⟩, zt_mem (List.mem_of_getElem? (i := 260) (by decide +kernel)) rfl, rfl⟩
abbrev Y_Pai_init : zY := (⟨"CircuitWays$Pairs", "<init>", "(LCircuitWays$Net;)V"⟩, prog_5_method_1_code, 2, none, "CircuitWays$Pairs")
set_option maxRecDepth 20000 in
theorem k_Pai_init : zWi Y_Pai_init := ⟨⟨zt_mem (List.mem_of_getElem? (i := 292) rfl) rfl, zt_mem (List.mem_of_getElem? (i := 47) (by decide +kernel)) rfl, by decide +kernel, by decide +kernel⟩, zt_mem (List.mem_of_getElem? (i := 291) (by decide +kernel)) rfl, rfl⟩
abbrev Y_Cir_init : zY := (⟨"CircuitWays$Circles", "<init>", "(LCircuitWays$Net;)V"⟩, prog_2_method_1_code, 3, none, "CircuitWays$Circles")
set_option maxRecDepth 20000 in
theorem k_Cir_init : zWi Y_Cir_init := ⟨⟨zt_mem (List.mem_of_getElem? (i := 305) rfl) rfl, zt_mem (List.mem_of_getElem? (i := 48) (by decide +kernel)) rfl, by decide +kernel, by decide +kernel⟩, zt_mem (List.mem_of_getElem? (i := 304) (by decide +kernel)) rfl, rfl⟩
abbrev Y_Way_init : zY := (⟨"CircuitWays$Ways", "<init>", "(LCircuitWays$Net;)V"⟩, prog_11_method_1_code, 2, none, "CircuitWays$Ways")
set_option maxRecDepth 20000 in
theorem k_Way_init : zWi Y_Way_init := ⟨⟨zt_mem (List.mem_of_getElem? (i := 322) rfl) rfl, zt_mem (List.mem_of_getElem? (i := 49) (by decide +kernel)) rfl, by decide +kernel, by decide +kernel⟩, zt_mem (List.mem_of_getElem? (i := 321) (by decide +kernel)) rfl, rfl⟩
abbrev Y_Row_init : zY := (⟨"CircuitWays$Row", "<init>", "(LCircuitWays$Net;)V"⟩, prog_7_method_1_code, 2, none, "CircuitWays$Row")
set_option maxRecDepth 20000 in
theorem k_Row_init : zWi Y_Row_init := ⟨⟨zt_mem (List.mem_of_getElem? (i := 335) rfl) rfl, zt_mem (List.mem_of_getElem? (i := 50) (by decide +kernel)) rfl, by decide +kernel, by decide +kernel⟩, zt_mem (List.mem_of_getElem? (i := 334) (by decide +kernel)) rfl, rfl⟩
abbrev Y_CW_node : zY := (⟨"CircuitWays", "node", "(I)I"⟩, prog_1_method_2_code, 2, (some .int), "CircuitWays")
set_option maxRecDepth 20000 in
theorem k_CW_node : zWv Y_CW_node := ⟨⟨zt_mem (List.mem_of_getElem? (i := 382) rfl) rfl, zt_mem (List.mem_of_getElem? (i := 40) (by decide +kernel)) rfl, by decide +kernel, by decide +kernel⟩, zt_mem (List.mem_of_getElem? (i := 380) (by decide +kernel)) rfl, zt_mem (List.mem_of_getElem? (i := 381) (by decide +kernel)) rfl⟩
abbrev Y_Net_addNode : zY := (⟨"CircuitWays$Net", "addNode", "(I)I"⟩, prog_4_method_6_code, 3, (some .int), "CircuitWays$Net")
set_option maxRecDepth 20000 in
theorem k_Net_addNode : zWv Y_Net_addNode := ⟨⟨zt_mem (List.mem_of_getElem? (i := 388) rfl) rfl, zt_mem (List.mem_of_getElem? (i := 41) (by decide +kernel)) rfl, by decide +kernel, by decide +kernel⟩, zt_mem (List.mem_of_getElem? (i := 386) (by decide +kernel)) rfl, zt_mem (List.mem_of_getElem? (i := 387) (by decide +kernel)) rfl⟩
abbrev Y_CW_arc : zY := (⟨"CircuitWays", "arc", "(III)I"⟩, prog_1_method_3_code, 4, (some .int), "CircuitWays")
set_option maxRecDepth 20000 in
theorem k_CW_arc : zWv Y_CW_arc := ⟨⟨zt_mem (List.mem_of_getElem? (i := 392) rfl) rfl, zt_mem (List.mem_of_getElem? (i := 40) (by decide +kernel)) rfl, by decide +kernel, by decide +kernel⟩, zt_mem (List.mem_of_getElem? (i := 390) (by decide +kernel)) rfl, zt_mem (List.mem_of_getElem? (i := 391) (by decide +kernel)) rfl⟩
abbrev Y_Net_areTwo : zY := (⟨"CircuitWays$Net", "areTwo", "(II)Z"⟩, prog_4_method_4_code, 3, (some .boolean), "CircuitWays$Net")
set_option maxRecDepth 20000 in
theorem k_Net_areTwo : zWv Y_Net_areTwo := ⟨⟨zt_mem (List.mem_of_getElem? (i := 396) rfl) rfl, zt_mem (List.mem_of_getElem? (i := 41) (by decide +kernel)) rfl, by decide +kernel, by decide +kernel⟩, zt_mem (List.mem_of_getElem? (i := 394) (by decide +kernel)) rfl, zt_mem (List.mem_of_getElem? (i := 395) (by decide +kernel)) rfl⟩
abbrev Y_Net_isNode : zY := (⟨"CircuitWays$Net", "isNode", "(I)Z"⟩, prog_4_method_2_code, 2, (some .boolean), "CircuitWays$Net")
set_option maxRecDepth 20000 in
theorem k_Net_isNode : zWv Y_Net_isNode := ⟨⟨zt_mem (List.mem_of_getElem? (i := 400) rfl) rfl, zt_mem (List.mem_of_getElem? (i := 41) (by decide +kernel)) rfl, by decide +kernel, by decide +kernel⟩, zt_mem (List.mem_of_getElem? (i := 398) (by decide +kernel)) rfl, zt_mem (List.mem_of_getElem? (i := 399) (by decide +kernel)) rfl⟩
abbrev Y_Net_changeCost : zY := (⟨"CircuitWays$Net", "changeCost", "(III)I"⟩, prog_4_method_7_code, 5, (some .int), "CircuitWays$Net")
set_option maxRecDepth 20000 in
theorem k_Net_changeCost : zWv Y_Net_changeCost := ⟨⟨zt_mem (List.mem_of_getElem? (i := 404) rfl) rfl, zt_mem (List.mem_of_getElem? (i := 41) (by decide +kernel)) rfl, by decide +kernel, by decide +kernel⟩, zt_mem (List.mem_of_getElem? (i := 402) (by decide +kernel)) rfl, zt_mem (List.mem_of_getElem? (i := 403) (by decide +kernel)) rfl⟩
abbrev Y_CW_orNone : zY := (⟨"CircuitWays", "orNone", "(I)I"⟩, prog_1_method_27_code, 1, (some .int), "CircuitWays")
set_option maxRecDepth 20000 in
theorem k_CW_orNone : zWs Y_CW_orNone := ⟨⟨zt_mem (List.mem_of_getElem? (i := 407) rfl) rfl, zt_mem (List.mem_of_getElem? (i := 40) (by decide +kernel)) rfl, by decide +kernel, by decide +kernel⟩, zt_mem (List.mem_of_getElem? (i := 406) (by decide +kernel)) rfl⟩
abbrev Y_CW_lose : zY := (⟨"CircuitWays", "lose", "(II)I"⟩, prog_1_method_4_code, 3, (some .int), "CircuitWays")
set_option maxRecDepth 20000 in
theorem k_CW_lose : zWv Y_CW_lose := ⟨⟨zt_mem (List.mem_of_getElem? (i := 413) rfl) rfl, zt_mem (List.mem_of_getElem? (i := 40) (by decide +kernel)) rfl, by decide +kernel, by decide +kernel⟩, zt_mem (List.mem_of_getElem? (i := 411) (by decide +kernel)) rfl, zt_mem (List.mem_of_getElem? (i := 412) (by decide +kernel)) rfl⟩
abbrev Y_CW_price : zY := (⟨"CircuitWays", "price", "(II)I"⟩, prog_1_method_5_code, 3, (some .int), "CircuitWays")
set_option maxRecDepth 20000 in
theorem k_CW_price : zWv Y_CW_price := ⟨⟨zt_mem (List.mem_of_getElem? (i := 417) rfl) rfl, zt_mem (List.mem_of_getElem? (i := 40) (by decide +kernel)) rfl, by decide +kernel, by decide +kernel⟩, zt_mem (List.mem_of_getElem? (i := 415) (by decide +kernel)) rfl, zt_mem (List.mem_of_getElem? (i := 416) (by decide +kernel)) rfl⟩
abbrev Y_Net_isPlace : zY := (⟨"CircuitWays$Net", "isPlace", "(I)Z"⟩, prog_4_method_3_code, 2, (some .boolean), "CircuitWays$Net")
set_option maxRecDepth 20000 in
theorem k_Net_isPlace : zWv Y_Net_isPlace := ⟨⟨zt_mem (List.mem_of_getElem? (i := 421) rfl) rfl, zt_mem (List.mem_of_getElem? (i := 41) (by decide +kernel)) rfl, by decide +kernel, by decide +kernel⟩, zt_mem (List.mem_of_getElem? (i := 419) (by decide +kernel)) rfl, zt_mem (List.mem_of_getElem? (i := 420) (by decide +kernel)) rfl⟩
abbrev Y_Net_changePrice : zY := (⟨"CircuitWays$Net", "changePrice", "(II)I"⟩, prog_4_method_8_code, 4, (some .int), "CircuitWays$Net")
set_option maxRecDepth 20000 in
theorem k_Net_changePrice : zWv Y_Net_changePrice := ⟨⟨zt_mem (List.mem_of_getElem? (i := 425) rfl) rfl, zt_mem (List.mem_of_getElem? (i := 41) (by decide +kernel)) rfl, by decide +kernel, by decide +kernel⟩, zt_mem (List.mem_of_getElem? (i := 423) (by decide +kernel)) rfl, zt_mem (List.mem_of_getElem? (i := 424) (by decide +kernel)) rfl⟩
abbrev Y_CW_ahead : zY := (⟨"CircuitWays", "ahead", "(IIZ)I"⟩, prog_1_method_6_code, 4, (some .int), "CircuitWays")
set_option maxRecDepth 20000 in
theorem k_CW_ahead : zWv Y_CW_ahead := ⟨⟨zt_mem (List.mem_of_getElem? (i := 429) rfl) rfl, zt_mem (List.mem_of_getElem? (i := 40) (by decide +kernel)) rfl, by decide +kernel, by decide +kernel⟩, zt_mem (List.mem_of_getElem? (i := 427) (by decide +kernel)) rfl, zt_mem (List.mem_of_getElem? (i := 428) (by decide +kernel)) rfl⟩
abbrev Y_Net_changeEarlier : zY := (⟨"CircuitWays$Net", "changeEarlier", "(IIZ)I"⟩, prog_4_method_9_code, 5, (some .int), "CircuitWays$Net")
set_option maxRecDepth 20000 in
theorem k_Net_changeEarlier : zWv Y_Net_changeEarlier := ⟨⟨zt_mem (List.mem_of_getElem? (i := 433) rfl) rfl, zt_mem (List.mem_of_getElem? (i := 41) (by decide +kernel)) rfl, by decide +kernel, by decide +kernel⟩, zt_mem (List.mem_of_getElem? (i := 431) (by decide +kernel)) rfl, zt_mem (List.mem_of_getElem? (i := 432) (by decide +kernel)) rfl⟩
abbrev Y_CW_bit : zY := (⟨"CircuitWays", "bit", "(I)I"⟩, prog_1_method_29_code, 1, (some .int), "CircuitWays")
set_option maxRecDepth 20000 in
theorem k_CW_bit : zWs Y_CW_bit := ⟨⟨zt_mem (List.mem_of_getElem? (i := 436) rfl) rfl, zt_mem (List.mem_of_getElem? (i := 40) (by decide +kernel)) rfl, by decide +kernel, by decide +kernel⟩, zt_mem (List.mem_of_getElem? (i := 435) (by decide +kernel)) rfl⟩
abbrev Y_CW_rule : zY := (⟨"CircuitWays", "rule", "(II)I"⟩, prog_1_method_7_code, 3, (some .int), "CircuitWays")
set_option maxRecDepth 20000 in
theorem k_CW_rule : zWv Y_CW_rule := ⟨⟨zt_mem (List.mem_of_getElem? (i := 440) rfl) rfl, zt_mem (List.mem_of_getElem? (i := 40) (by decide +kernel)) rfl, by decide +kernel, by decide +kernel⟩, zt_mem (List.mem_of_getElem? (i := 438) (by decide +kernel)) rfl, zt_mem (List.mem_of_getElem? (i := 439) (by decide +kernel)) rfl⟩
abbrev Y_Net_changeMost : zY := (⟨"CircuitWays$Net", "changeMost", "(I)I"⟩, prog_4_method_10_code, 3, (some .int), "CircuitWays$Net")
set_option maxRecDepth 20000 in
theorem k_Net_changeMost : zWv Y_Net_changeMost := ⟨⟨zt_mem (List.mem_of_getElem? (i := 444) rfl) rfl, zt_mem (List.mem_of_getElem? (i := 41) (by decide +kernel)) rfl, by decide +kernel, by decide +kernel⟩, zt_mem (List.mem_of_getElem? (i := 442) (by decide +kernel)) rfl, zt_mem (List.mem_of_getElem? (i := 443) (by decide +kernel)) rfl⟩
abbrev Y_Net_changeRoom : zY := (⟨"CircuitWays$Net", "changeRoom", "(I)I"⟩, prog_4_method_11_code, 3, (some .int), "CircuitWays$Net")
set_option maxRecDepth 20000 in
theorem k_Net_changeRoom : zWv Y_Net_changeRoom := ⟨⟨zt_mem (List.mem_of_getElem? (i := 448) rfl) rfl, zt_mem (List.mem_of_getElem? (i := 41) (by decide +kernel)) rfl, by decide +kernel, by decide +kernel⟩, zt_mem (List.mem_of_getElem? (i := 446) (by decide +kernel)) rfl, zt_mem (List.mem_of_getElem? (i := 447) (by decide +kernel)) rfl⟩
abbrev Y_Net_changeOpen : zY := (⟨"CircuitWays$Net", "changeOpen", "(I)I"⟩, prog_4_method_12_code, 3, (some .int), "CircuitWays$Net")
set_option maxRecDepth 20000 in
theorem k_Net_changeOpen : zWv Y_Net_changeOpen := ⟨⟨zt_mem (List.mem_of_getElem? (i := 452) rfl) rfl, zt_mem (List.mem_of_getElem? (i := 41) (by decide +kernel)) rfl, by decide +kernel, by decide +kernel⟩, zt_mem (List.mem_of_getElem? (i := 450) (by decide +kernel)) rfl, zt_mem (List.mem_of_getElem? (i := 451) (by decide +kernel)) rfl⟩
abbrev Y_CW_best : zY := (⟨"CircuitWays", "best", "()I"⟩, prog_1_method_8_code, 1, (some .int), "CircuitWays")
set_option maxRecDepth 20000 in
theorem k_CW_best : zWv Y_CW_best := ⟨⟨zt_mem (List.mem_of_getElem? (i := 456) rfl) rfl, zt_mem (List.mem_of_getElem? (i := 40) (by decide +kernel)) rfl, by decide +kernel, by decide +kernel⟩, zt_mem (List.mem_of_getElem? (i := 454) (by decide +kernel)) rfl, zt_mem (List.mem_of_getElem? (i := 455) (by decide +kernel)) rfl⟩
abbrev Y_Sha_refresh : zY := (⟨"CircuitWays$Shares", "refresh", "()V"⟩, prog_8_method_2_code, 4, none, "CircuitWays$Shares")
set_option maxRecDepth 20000 in
theorem k_Sha_refresh : zWv Y_Sha_refresh := ⟨⟨zt_mem (List.mem_of_getElem? (i := 460) rfl) rfl, zt_mem (List.mem_of_getElem? (i := 43) (by decide +kernel)) rfl, by decide +kernel, by decide +kernel⟩, zt_mem (List.mem_of_getElem? (i := 458) (by decide +kernel)) rfl, zt_mem (List.mem_of_getElem? (i := 459) (by decide +kernel)) rfl⟩
abbrev Y_Pat_compute : zY := (⟨"CircuitWays$Paths", "compute", "()V"⟩, prog_6_method_2_code, 4, none, "CircuitWays$Paths")
set_option maxRecDepth 20000 in
theorem k_Pat_compute : zWv Y_Pat_compute := ⟨⟨zt_mem (List.mem_of_getElem? (i := 464) rfl) rfl, zt_mem (List.mem_of_getElem? (i := 42) (by decide +kernel)) rfl, by decide +kernel, by decide +kernel⟩, zt_mem (List.mem_of_getElem? (i := 462) (by decide +kernel)) rfl, zt_mem (List.mem_of_getElem? (i := 463) (by decide +kernel)) rfl⟩
abbrev Y_Pat_addLoads : zY := (⟨"CircuitWays$Paths", "addLoads", "()V"⟩, prog_6_method_4_code, 3, none, "CircuitWays$Paths")
set_option maxRecDepth 20000 in
theorem k_Pat_addLoads : zWv Y_Pat_addLoads := ⟨⟨zt_mem (List.mem_of_getElem? (i := 468) rfl) rfl, zt_mem (List.mem_of_getElem? (i := 42) (by decide +kernel)) rfl, by decide +kernel, by decide +kernel⟩, zt_mem (List.mem_of_getElem? (i := 467) (by decide +kernel)) rfl, zt_mem (List.mem_of_getElem? (i := 0) (by decide +kernel)) rfl⟩
abbrev Y_Pat_clearPaths : zY := (⟨"CircuitWays$Paths", "clearPaths", "()V"⟩, prog_6_method_5_code, 3, none, "CircuitWays$Paths")
set_option maxRecDepth 20000 in
theorem k_Pat_clearPaths : zWv Y_Pat_clearPaths := ⟨⟨zt_mem (List.mem_of_getElem? (i := 473) rfl) rfl, zt_mem (List.mem_of_getElem? (i := 42) (by decide +kernel)) rfl, by decide +kernel, by decide +kernel⟩, zt_mem (List.mem_of_getElem? (i := 472) (by decide +kernel)) rfl, zt_mem (List.mem_of_getElem? (i := 1) (by decide +kernel)) rfl⟩
abbrev Y_Net_allPlaces : zY := (⟨"CircuitWays$Net", "allPlaces", "()I"⟩, prog_4_method_5_code, 1, (some .int), "CircuitWays$Net")
set_option maxRecDepth 20000 in
theorem k_Net_allPlaces : zWv Y_Net_allPlaces := ⟨⟨zt_mem (List.mem_of_getElem? (i := 477) rfl) rfl, zt_mem (List.mem_of_getElem? (i := 41) (by decide +kernel)) rfl, by decide +kernel, by decide +kernel⟩, zt_mem (List.mem_of_getElem? (i := 475) (by decide +kernel)) rfl, zt_mem (List.mem_of_getElem? (i := 476) (by decide +kernel)) rfl⟩
abbrev Y_Pat_followersOf : zY := (⟨"CircuitWays$Paths", "followersOf", "(I)I"⟩, prog_6_method_3_code, 5, (some .int), "CircuitWays$Paths")
set_option maxRecDepth 20000 in
theorem k_Pat_followersOf : zWv Y_Pat_followersOf := ⟨⟨zt_mem (List.mem_of_getElem? (i := 482) rfl) rfl, zt_mem (List.mem_of_getElem? (i := 42) (by decide +kernel)) rfl, by decide +kernel, by decide +kernel⟩, zt_mem (List.mem_of_getElem? (i := 481) (by decide +kernel)) rfl, zt_mem (List.mem_of_getElem? (i := 2) (by decide +kernel)) rfl⟩
abbrev Y_Pat_extend : zY := (⟨"CircuitWays$Paths", "extend", "(II)V"⟩, prog_6_method_6_code, 8, none, "CircuitWays$Paths")
set_option maxRecDepth 20000 in
theorem k_Pat_extend : zWv Y_Pat_extend := ⟨⟨zt_mem (List.mem_of_getElem? (i := 486) rfl) rfl, zt_mem (List.mem_of_getElem? (i := 42) (by decide +kernel)) rfl, by decide +kernel, by decide +kernel⟩, zt_mem (List.mem_of_getElem? (i := 485) (by decide +kernel)) rfl, zt_mem (List.mem_of_getElem? (i := 3) (by decide +kernel)) rfl⟩
abbrev Y_Pat_closeRound : zY := (⟨"CircuitWays$Paths", "closeRound", "(I)V"⟩, prog_6_method_7_code, 6, none, "CircuitWays$Paths")
set_option maxRecDepth 20000 in
theorem k_Pat_closeRound : zWv Y_Pat_closeRound := ⟨⟨zt_mem (List.mem_of_getElem? (i := 490) rfl) rfl, zt_mem (List.mem_of_getElem? (i := 42) (by decide +kernel)) rfl, by decide +kernel, by decide +kernel⟩, zt_mem (List.mem_of_getElem? (i := 489) (by decide +kernel)) rfl, zt_mem (List.mem_of_getElem? (i := 4) (by decide +kernel)) rfl⟩
abbrev Y_Net_costBack : zY := (⟨"CircuitWays$Net", "costBack", "(I)I"⟩, prog_4_method_15_code, 2, (some .int), "CircuitWays$Net")
set_option maxRecDepth 20000 in
theorem k_Net_costBack : zWv Y_Net_costBack := ⟨⟨zt_mem (List.mem_of_getElem? (i := 494) rfl) rfl, zt_mem (List.mem_of_getElem? (i := 41) (by decide +kernel)) rfl, by decide +kernel, by decide +kernel⟩, zt_mem (List.mem_of_getElem? (i := 492) (by decide +kernel)) rfl, zt_mem (List.mem_of_getElem? (i := 493) (by decide +kernel)) rfl⟩
abbrev Y_CW_sum : zY := (⟨"CircuitWays", "sum", "(II)I"⟩, prog_1_method_28_code, 2, (some .int), "CircuitWays")
set_option maxRecDepth 20000 in
theorem k_CW_sum : zWs Y_CW_sum := ⟨⟨zt_mem (List.mem_of_getElem? (i := 497) rfl) rfl, zt_mem (List.mem_of_getElem? (i := 40) (by decide +kernel)) rfl, by decide +kernel, by decide +kernel⟩, zt_mem (List.mem_of_getElem? (i := 496) (by decide +kernel)) rfl⟩
abbrev Y_Net_costOut : zY := (⟨"CircuitWays$Net", "costOut", "(I)I"⟩, prog_4_method_16_code, 4, (some .int), "CircuitWays$Net")
set_option maxRecDepth 20000 in
theorem k_Net_costOut : zWv Y_Net_costOut := ⟨⟨zt_mem (List.mem_of_getElem? (i := 502) rfl) rfl, zt_mem (List.mem_of_getElem? (i := 41) (by decide +kernel)) rfl, by decide +kernel, by decide +kernel⟩, zt_mem (List.mem_of_getElem? (i := 500) (by decide +kernel)) rfl, zt_mem (List.mem_of_getElem? (i := 501) (by decide +kernel)) rfl⟩
abbrev Y_JI_bitCount : zY := (⟨"java/lang/Integer", "bitCount", "(I)I"⟩, prog_14_method_49_code, 1, (some .int), "java/lang/Integer")
set_option maxRecDepth 20000 in
theorem k_JI_bitCount : zWs Y_JI_bitCount := ⟨⟨zt_mem (List.mem_of_getElem? (i := 506) rfl) rfl, zt_mem (List.mem_of_getElem? (i := 52) (by decide +kernel)) rfl, by decide +kernel, by decide +kernel⟩, zt_mem (List.mem_of_getElem? (i := 505) (by decide +kernel)) rfl⟩
abbrev Y_Sha_copyShare : zY := (⟨"CircuitWays$Shares", "copyShare", "(II)V"⟩, prog_8_method_7_code, 3, none, "CircuitWays$Shares")
set_option maxRecDepth 20000 in
theorem k_Sha_copyShare : zWv Y_Sha_copyShare := ⟨⟨zt_mem (List.mem_of_getElem? (i := 513) rfl) rfl, zt_mem (List.mem_of_getElem? (i := 43) (by decide +kernel)) rfl, by decide +kernel, by decide +kernel⟩, zt_mem (List.mem_of_getElem? (i := 512) (by decide +kernel)) rfl, zt_mem (List.mem_of_getElem? (i := 5) (by decide +kernel)) rfl⟩
abbrev Y_Sha_share : zY := (⟨"CircuitWays$Shares", "share", "(II)V"⟩, prog_8_method_6_code, 6, none, "CircuitWays$Shares")
set_option maxRecDepth 20000 in
theorem k_Sha_share : zWv Y_Sha_share := ⟨⟨zt_mem (List.mem_of_getElem? (i := 517) rfl) rfl, zt_mem (List.mem_of_getElem? (i := 43) (by decide +kernel)) rfl, by decide +kernel, by decide +kernel⟩, zt_mem (List.mem_of_getElem? (i := 516) (by decide +kernel)) rfl, zt_mem (List.mem_of_getElem? (i := 6) (by decide +kernel)) rfl⟩
abbrev Y_Sha_offer : zY := (⟨"CircuitWays$Shares", "offer", "(II)V"⟩, prog_8_method_8_code, 5, none, "CircuitWays$Shares")
set_option maxRecDepth 20000 in
theorem k_Sha_offer : zWv Y_Sha_offer := ⟨⟨zt_mem (List.mem_of_getElem? (i := 522) rfl) rfl, zt_mem (List.mem_of_getElem? (i := 43) (by decide +kernel)) rfl, by decide +kernel, by decide +kernel⟩, zt_mem (List.mem_of_getElem? (i := 521) (by decide +kernel)) rfl, zt_mem (List.mem_of_getElem? (i := 7) (by decide +kernel)) rfl⟩
abbrev Y_Sha_leastCost : zY := (⟨"CircuitWays$Shares", "leastCost", "()I"⟩, prog_8_method_3_code, 1, (some .int), "CircuitWays$Shares")
set_option maxRecDepth 20000 in
theorem k_Sha_leastCost : zWv Y_Sha_leastCost := ⟨⟨zt_mem (List.mem_of_getElem? (i := 526) rfl) rfl, zt_mem (List.mem_of_getElem? (i := 43) (by decide +kernel)) rfl, by decide +kernel, by decide +kernel⟩, zt_mem (List.mem_of_getElem? (i := 524) (by decide +kernel)) rfl, zt_mem (List.mem_of_getElem? (i := 525) (by decide +kernel)) rfl⟩
abbrev Y_CW_many : zY := (⟨"CircuitWays", "many", "()I"⟩, prog_1_method_9_code, 1, (some .int), "CircuitWays")
set_option maxRecDepth 20000 in
theorem k_CW_many : zWv Y_CW_many := ⟨⟨zt_mem (List.mem_of_getElem? (i := 530) rfl) rfl, zt_mem (List.mem_of_getElem? (i := 40) (by decide +kernel)) rfl, by decide +kernel, by decide +kernel⟩, zt_mem (List.mem_of_getElem? (i := 528) (by decide +kernel)) rfl, zt_mem (List.mem_of_getElem? (i := 529) (by decide +kernel)) rfl⟩
abbrev Y_Sha_leastWays : zY := (⟨"CircuitWays$Shares", "leastWays", "()I"⟩, prog_8_method_4_code, 1, (some .int), "CircuitWays$Shares")
set_option maxRecDepth 20000 in
theorem k_Sha_leastWays : zWv Y_Sha_leastWays := ⟨⟨zt_mem (List.mem_of_getElem? (i := 534) rfl) rfl, zt_mem (List.mem_of_getElem? (i := 43) (by decide +kernel)) rfl, by decide +kernel, by decide +kernel⟩, zt_mem (List.mem_of_getElem? (i := 532) (by decide +kernel)) rfl, zt_mem (List.mem_of_getElem? (i := 533) (by decide +kernel)) rfl⟩
abbrev Y_CW_first : zY := (⟨"CircuitWays", "first", "(I)I"⟩, prog_1_method_10_code, 2, (some .int), "CircuitWays")
set_option maxRecDepth 20000 in
theorem k_CW_first : zWv Y_CW_first := ⟨⟨zt_mem (List.mem_of_getElem? (i := 538) rfl) rfl, zt_mem (List.mem_of_getElem? (i := 40) (by decide +kernel)) rfl, by decide +kernel, by decide +kernel⟩, zt_mem (List.mem_of_getElem? (i := 536) (by decide +kernel)) rfl, zt_mem (List.mem_of_getElem? (i := 537) (by decide +kernel)) rfl⟩
abbrev Y_Fir_refresh : zY := (⟨"CircuitWays$FirstPlan", "refresh", "()V"⟩, prog_3_method_2_code, 2, none, "CircuitWays$FirstPlan")
set_option maxRecDepth 20000 in
theorem k_Fir_refresh : zWv Y_Fir_refresh := ⟨⟨zt_mem (List.mem_of_getElem? (i := 542) rfl) rfl, zt_mem (List.mem_of_getElem? (i := 45) (by decide +kernel)) rfl, by decide +kernel, by decide +kernel⟩, zt_mem (List.mem_of_getElem? (i := 540) (by decide +kernel)) rfl, zt_mem (List.mem_of_getElem? (i := 541) (by decide +kernel)) rfl⟩
abbrev Y_Fir_write : zY := (⟨"CircuitWays$FirstPlan", "write", "(I)V"⟩, prog_3_method_5_code, 2, none, "CircuitWays$FirstPlan")
set_option maxRecDepth 20000 in
theorem k_Fir_write : zWv Y_Fir_write := ⟨⟨zt_mem (List.mem_of_getElem? (i := 548) rfl) rfl, zt_mem (List.mem_of_getElem? (i := 45) (by decide +kernel)) rfl, by decide +kernel, by decide +kernel⟩, zt_mem (List.mem_of_getElem? (i := 547) (by decide +kernel)) rfl, zt_mem (List.mem_of_getElem? (i := 8) (by decide +kernel)) rfl⟩
abbrev Y_Tai_fill : zY := (⟨"CircuitWays$Tails", "fill", "(II)V"⟩, prog_9_method_2_code, 5, none, "CircuitWays$Tails")
set_option maxRecDepth 20000 in
theorem k_Tai_fill : zWv Y_Tai_fill := ⟨⟨zt_mem (List.mem_of_getElem? (i := 552) rfl) rfl, zt_mem (List.mem_of_getElem? (i := 44) (by decide +kernel)) rfl, by decide +kernel, by decide +kernel⟩, zt_mem (List.mem_of_getElem? (i := 550) (by decide +kernel)) rfl, zt_mem (List.mem_of_getElem? (i := 551) (by decide +kernel)) rfl⟩
abbrev Y_Tai_leastBehind : zY := (⟨"CircuitWays$Tails", "leastBehind", "(II)I"⟩, prog_9_method_5_code, 6, (some .int), "CircuitWays$Tails")
set_option maxRecDepth 20000 in
theorem k_Tai_leastBehind : zWv Y_Tai_leastBehind := ⟨⟨zt_mem (List.mem_of_getElem? (i := 557) rfl) rfl, zt_mem (List.mem_of_getElem? (i := 44) (by decide +kernel)) rfl, by decide +kernel, by decide +kernel⟩, zt_mem (List.mem_of_getElem? (i := 556) (by decide +kernel)) rfl, zt_mem (List.mem_of_getElem? (i := 9) (by decide +kernel)) rfl⟩
abbrev Y_Tai_costClosing : zY := (⟨"CircuitWays$Tails", "costClosing", "(II)I"⟩, prog_9_method_4_code, 3, (some .int), "CircuitWays$Tails")
set_option maxRecDepth 20000 in
theorem k_Tai_costClosing : zWv Y_Tai_costClosing := ⟨⟨zt_mem (List.mem_of_getElem? (i := 561) rfl) rfl, zt_mem (List.mem_of_getElem? (i := 44) (by decide +kernel)) rfl, by decide +kernel, by decide +kernel⟩, zt_mem (List.mem_of_getElem? (i := 559) (by decide +kernel)) rfl, zt_mem (List.mem_of_getElem? (i := 560) (by decide +kernel)) rfl⟩
abbrev Y_Tai_costOver : zY := (⟨"CircuitWays$Tails", "costOver", "(III)I"⟩, prog_9_method_3_code, 4, (some .int), "CircuitWays$Tails")
set_option maxRecDepth 20000 in
theorem k_Tai_costOver : zWv Y_Tai_costOver := ⟨⟨zt_mem (List.mem_of_getElem? (i := 567) rfl) rfl, zt_mem (List.mem_of_getElem? (i := 44) (by decide +kernel)) rfl, by decide +kernel, by decide +kernel⟩, zt_mem (List.mem_of_getElem? (i := 565) (by decide +kernel)) rfl, zt_mem (List.mem_of_getElem? (i := 566) (by decide +kernel)) rfl⟩
abbrev Y_Fir_writeRound : zY := (⟨"CircuitWays$FirstPlan", "writeRound", "()V"⟩, prog_3_method_3_code, 5, none, "CircuitWays$FirstPlan")
set_option maxRecDepth 20000 in
theorem k_Fir_writeRound : zWv Y_Fir_writeRound := ⟨⟨zt_mem (List.mem_of_getElem? (i := 575) rfl) rfl, zt_mem (List.mem_of_getElem? (i := 45) (by decide +kernel)) rfl, by decide +kernel, by decide +kernel⟩, zt_mem (List.mem_of_getElem? (i := 574) (by decide +kernel)) rfl, zt_mem (List.mem_of_getElem? (i := 10) (by decide +kernel)) rfl⟩
abbrev Y_Fir_followerDue : zY := (⟨"CircuitWays$FirstPlan", "followerDue", "(II)I"⟩, prog_3_method_4_code, 4, (some .int), "CircuitWays$FirstPlan")
set_option maxRecDepth 20000 in
theorem k_Fir_followerDue : zWv Y_Fir_followerDue := ⟨⟨zt_mem (List.mem_of_getElem? (i := 580) rfl) rfl, zt_mem (List.mem_of_getElem? (i := 45) (by decide +kernel)) rfl, by decide +kernel, by decide +kernel⟩, zt_mem (List.mem_of_getElem? (i := 579) (by decide +kernel)) rfl, zt_mem (List.mem_of_getElem? (i := 11) (by decide +kernel)) rfl⟩
abbrev Y_CW_with : zY := (⟨"CircuitWays", "with", "(II)I"⟩, prog_1_method_11_code, 3, (some .int), "CircuitWays")
set_option maxRecDepth 20000 in
theorem k_CW_with : zWv Y_CW_with := ⟨⟨zt_mem (List.mem_of_getElem? (i := 587) rfl) rfl, zt_mem (List.mem_of_getElem? (i := 40) (by decide +kernel)) rfl, by decide +kernel, by decide +kernel⟩, zt_mem (List.mem_of_getElem? (i := 585) (by decide +kernel)) rfl, zt_mem (List.mem_of_getElem? (i := 586) (by decide +kernel)) rfl⟩
abbrev Y_Tai_leastThrough : zY := (⟨"CircuitWays$Tails", "leastThrough", "(III)I"⟩, prog_9_method_6_code, 9, (some .int), "CircuitWays$Tails")
set_option maxRecDepth 20000 in
theorem k_Tai_leastThrough : zWv Y_Tai_leastThrough := ⟨⟨zt_mem (List.mem_of_getElem? (i := 594) rfl) rfl, zt_mem (List.mem_of_getElem? (i := 44) (by decide +kernel)) rfl, by decide +kernel, by decide +kernel⟩, zt_mem (List.mem_of_getElem? (i := 592) (by decide +kernel)) rfl, zt_mem (List.mem_of_getElem? (i := 593) (by decide +kernel)) rfl⟩
abbrev Y_CW_without : zY := (⟨"CircuitWays", "without", "(I)I"⟩, prog_1_method_12_code, 2, (some .int), "CircuitWays")
set_option maxRecDepth 20000 in
theorem k_CW_without : zWv Y_CW_without := ⟨⟨zt_mem (List.mem_of_getElem? (i := 599) rfl) rfl, zt_mem (List.mem_of_getElem? (i := 40) (by decide +kernel)) rfl, by decide +kernel, by decide +kernel⟩, zt_mem (List.mem_of_getElem? (i := 597) (by decide +kernel)) rfl, zt_mem (List.mem_of_getElem? (i := 598) (by decide +kernel)) rfl⟩
abbrev Y_Sha_leastLeavingOut : zY := (⟨"CircuitWays$Shares", "leastLeavingOut", "(I)I"⟩, prog_8_method_5_code, 2, (some .int), "CircuitWays$Shares")
set_option maxRecDepth 20000 in
theorem k_Sha_leastLeavingOut : zWv Y_Sha_leastLeavingOut := ⟨⟨zt_mem (List.mem_of_getElem? (i := 603) rfl) rfl, zt_mem (List.mem_of_getElem? (i := 43) (by decide +kernel)) rfl, by decide +kernel, by decide +kernel⟩, zt_mem (List.mem_of_getElem? (i := 601) (by decide +kernel)) rfl, zt_mem (List.mem_of_getElem? (i := 602) (by decide +kernel)) rfl⟩
abbrev Y_CW_filter : zY := (⟨"CircuitWays", "filter", "(I)I"⟩, prog_1_method_13_code, 2, (some .int), "CircuitWays")
set_option maxRecDepth 20000 in
theorem k_CW_filter : zWv Y_CW_filter := ⟨⟨zt_mem (List.mem_of_getElem? (i := 608) rfl) rfl, zt_mem (List.mem_of_getElem? (i := 40) (by decide +kernel)) rfl, by decide +kernel, by decide +kernel⟩, zt_mem (List.mem_of_getElem? (i := 606) (by decide +kernel)) rfl, zt_mem (List.mem_of_getElem? (i := 607) (by decide +kernel)) rfl⟩
abbrev Y_Tai_dropArcsAbove : zY := (⟨"CircuitWays$Tails", "dropArcsAbove", "(I)I"⟩, prog_9_method_7_code, 5, (some .int), "CircuitWays$Tails")
set_option maxRecDepth 20000 in
theorem k_Tai_dropArcsAbove : zWv Y_Tai_dropArcsAbove := ⟨⟨zt_mem (List.mem_of_getElem? (i := 612) rfl) rfl, zt_mem (List.mem_of_getElem? (i := 44) (by decide +kernel)) rfl, by decide +kernel, by decide +kernel⟩, zt_mem (List.mem_of_getElem? (i := 610) (by decide +kernel)) rfl, zt_mem (List.mem_of_getElem? (i := 611) (by decide +kernel)) rfl⟩
abbrev Y_CW_weight : zY := (⟨"CircuitWays", "weight", "(II)I"⟩, prog_1_method_14_code, 3, (some .int), "CircuitWays")
set_option maxRecDepth 20000 in
theorem k_CW_weight : zWv Y_CW_weight := ⟨⟨zt_mem (List.mem_of_getElem? (i := 618) rfl) rfl, zt_mem (List.mem_of_getElem? (i := 40) (by decide +kernel)) rfl, by decide +kernel, by decide +kernel⟩, zt_mem (List.mem_of_getElem? (i := 616) (by decide +kernel)) rfl, zt_mem (List.mem_of_getElem? (i := 617) (by decide +kernel)) rfl⟩
abbrev Y_Tre_changeWeight : zY := (⟨"CircuitWays$Tree", "changeWeight", "(II)I"⟩, prog_10_method_2_code, 4, (some .int), "CircuitWays$Tree")
set_option maxRecDepth 20000 in
theorem k_Tre_changeWeight : zWv Y_Tre_changeWeight := ⟨⟨zt_mem (List.mem_of_getElem? (i := 623) rfl) rfl, zt_mem (List.mem_of_getElem? (i := 46) (by decide +kernel)) rfl, by decide +kernel, by decide +kernel⟩, zt_mem (List.mem_of_getElem? (i := 621) (by decide +kernel)) rfl, zt_mem (List.mem_of_getElem? (i := 622) (by decide +kernel)) rfl⟩
abbrev Y_CW_bound : zY := (⟨"CircuitWays", "bound", "()I"⟩, prog_1_method_15_code, 1, (some .int), "CircuitWays")
set_option maxRecDepth 20000 in
theorem k_CW_bound : zWv Y_CW_bound := ⟨⟨zt_mem (List.mem_of_getElem? (i := 627) rfl) rfl, zt_mem (List.mem_of_getElem? (i := 40) (by decide +kernel)) rfl, by decide +kernel, by decide +kernel⟩, zt_mem (List.mem_of_getElem? (i := 625) (by decide +kernel)) rfl, zt_mem (List.mem_of_getElem? (i := 626) (by decide +kernel)) rfl⟩
abbrev Y_Tre_grow : zY := (⟨"CircuitWays$Tree", "grow", "()Z"⟩, prog_10_method_3_code, 2, (some .boolean), "CircuitWays$Tree")
set_option maxRecDepth 20000 in
theorem k_Tre_grow : zWv Y_Tre_grow := ⟨⟨zt_mem (List.mem_of_getElem? (i := 631) rfl) rfl, zt_mem (List.mem_of_getElem? (i := 46) (by decide +kernel)) rfl, by decide +kernel, by decide +kernel⟩, zt_mem (List.mem_of_getElem? (i := 629) (by decide +kernel)) rfl, zt_mem (List.mem_of_getElem? (i := 630) (by decide +kernel)) rfl⟩
abbrev Y_Tre_chooseJoining : zY := (⟨"CircuitWays$Tree", "chooseJoining", "()Z"⟩, prog_10_method_7_code, 6, (some .boolean), "CircuitWays$Tree")
set_option maxRecDepth 20000 in
theorem k_Tre_chooseJoining : zWv Y_Tre_chooseJoining := ⟨⟨zt_mem (List.mem_of_getElem? (i := 635) rfl) rfl, zt_mem (List.mem_of_getElem? (i := 46) (by decide +kernel)) rfl, by decide +kernel, by decide +kernel⟩, zt_mem (List.mem_of_getElem? (i := 634) (by decide +kernel)) rfl, zt_mem (List.mem_of_getElem? (i := 12) (by decide +kernel)) rfl⟩
abbrev Y_Tre_edgeCost : zY := (⟨"CircuitWays$Tree", "edgeCost", "(II)I"⟩, prog_10_method_6_code, 4, (some .int), "CircuitWays$Tree")
set_option maxRecDepth 20000 in
theorem k_Tre_edgeCost : zWv Y_Tre_edgeCost := ⟨⟨zt_mem (List.mem_of_getElem? (i := 640) rfl) rfl, zt_mem (List.mem_of_getElem? (i := 46) (by decide +kernel)) rfl, by decide +kernel, by decide +kernel⟩, zt_mem (List.mem_of_getElem? (i := 639) (by decide +kernel)) rfl, zt_mem (List.mem_of_getElem? (i := 13) (by decide +kernel)) rfl⟩
abbrev Y_Tre_choose : zY := (⟨"CircuitWays$Tree", "choose", "(II)Z"⟩, prog_10_method_9_code, 5, (some .boolean), "CircuitWays$Tree")
set_option maxRecDepth 20000 in
theorem k_Tre_choose : zWv Y_Tre_choose := ⟨⟨zt_mem (List.mem_of_getElem? (i := 646) rfl) rfl, zt_mem (List.mem_of_getElem? (i := 46) (by decide +kernel)) rfl, by decide +kernel, by decide +kernel⟩, zt_mem (List.mem_of_getElem? (i := 645) (by decide +kernel)) rfl, zt_mem (List.mem_of_getElem? (i := 14) (by decide +kernel)) rfl⟩
abbrev Y_Tre_chooseAtHouse : zY := (⟨"CircuitWays$Tree", "chooseAtHouse", "(I)Z"⟩, prog_10_method_8_code, 5, (some .boolean), "CircuitWays$Tree")
set_option maxRecDepth 20000 in
theorem k_Tre_chooseAtHouse : zWv Y_Tre_chooseAtHouse := ⟨⟨zt_mem (List.mem_of_getElem? (i := 650) rfl) rfl, zt_mem (List.mem_of_getElem? (i := 46) (by decide +kernel)) rfl, by decide +kernel, by decide +kernel⟩, zt_mem (List.mem_of_getElem? (i := 649) (by decide +kernel)) rfl, zt_mem (List.mem_of_getElem? (i := 15) (by decide +kernel)) rfl⟩
abbrev Y_Tre_lowerBound : zY := (⟨"CircuitWays$Tree", "lowerBound", "()I"⟩, prog_10_method_4_code, 3, (some .int), "CircuitWays$Tree")
set_option maxRecDepth 20000 in
theorem k_Tre_lowerBound : zWv Y_Tre_lowerBound := ⟨⟨zt_mem (List.mem_of_getElem? (i := 654) rfl) rfl, zt_mem (List.mem_of_getElem? (i := 46) (by decide +kernel)) rfl, by decide +kernel, by decide +kernel⟩, zt_mem (List.mem_of_getElem? (i := 652) (by decide +kernel)) rfl, zt_mem (List.mem_of_getElem? (i := 653) (by decide +kernel)) rfl⟩
abbrev Y_CW_edge : zY := (⟨"CircuitWays", "edge", "(II)I"⟩, prog_1_method_16_code, 3, (some .int), "CircuitWays")
set_option maxRecDepth 20000 in
theorem k_CW_edge : zWv Y_CW_edge := ⟨⟨zt_mem (List.mem_of_getElem? (i := 658) rfl) rfl, zt_mem (List.mem_of_getElem? (i := 40) (by decide +kernel)) rfl, by decide +kernel, by decide +kernel⟩, zt_mem (List.mem_of_getElem? (i := 656) (by decide +kernel)) rfl, zt_mem (List.mem_of_getElem? (i := 657) (by decide +kernel)) rfl⟩
abbrev Y_CW_degree : zY := (⟨"CircuitWays", "degree", "(I)I"⟩, prog_1_method_17_code, 2, (some .int), "CircuitWays")
set_option maxRecDepth 20000 in
theorem k_CW_degree : zWv Y_CW_degree := ⟨⟨zt_mem (List.mem_of_getElem? (i := 662) rfl) rfl, zt_mem (List.mem_of_getElem? (i := 40) (by decide +kernel)) rfl, by decide +kernel, by decide +kernel⟩, zt_mem (List.mem_of_getElem? (i := 660) (by decide +kernel)) rfl, zt_mem (List.mem_of_getElem? (i := 661) (by decide +kernel)) rfl⟩
abbrev Y_Tre_edgesAt : zY := (⟨"CircuitWays$Tree", "edgesAt", "(I)I"⟩, prog_10_method_5_code, 4, (some .int), "CircuitWays$Tree")
set_option maxRecDepth 20000 in
theorem k_Tre_edgesAt : zWv Y_Tre_edgesAt := ⟨⟨zt_mem (List.mem_of_getElem? (i := 666) rfl) rfl, zt_mem (List.mem_of_getElem? (i := 46) (by decide +kernel)) rfl, by decide +kernel, by decide +kernel⟩, zt_mem (List.mem_of_getElem? (i := 664) (by decide +kernel)) rfl, zt_mem (List.mem_of_getElem? (i := 665) (by decide +kernel)) rfl⟩
abbrev Y_CW_pairing : zY := (⟨"CircuitWays", "pairing", "()I"⟩, prog_1_method_18_code, 1, (some .int), "CircuitWays")
set_option maxRecDepth 20000 in
theorem k_CW_pairing : zWv Y_CW_pairing := ⟨⟨zt_mem (List.mem_of_getElem? (i := 670) rfl) rfl, zt_mem (List.mem_of_getElem? (i := 40) (by decide +kernel)) rfl, by decide +kernel, by decide +kernel⟩, zt_mem (List.mem_of_getElem? (i := 668) (by decide +kernel)) rfl, zt_mem (List.mem_of_getElem? (i := 669) (by decide +kernel)) rfl⟩
abbrev Y_Pai_leastCost : zY := (⟨"CircuitWays$Pairs", "leastCost", "()I"⟩, prog_5_method_2_code, 6, (some .int), "CircuitWays$Pairs")
set_option maxRecDepth 20000 in
theorem k_Pai_leastCost : zWv Y_Pai_leastCost := ⟨⟨zt_mem (List.mem_of_getElem? (i := 674) rfl) rfl, zt_mem (List.mem_of_getElem? (i := 47) (by decide +kernel)) rfl, by decide +kernel, by decide +kernel⟩, zt_mem (List.mem_of_getElem? (i := 672) (by decide +kernel)) rfl, zt_mem (List.mem_of_getElem? (i := 673) (by decide +kernel)) rfl⟩
abbrev Y_CW_next : zY := (⟨"CircuitWays", "next", "(II)I"⟩, prog_1_method_19_code, 3, (some .int), "CircuitWays")
set_option maxRecDepth 20000 in
theorem k_CW_next : zWv Y_CW_next := ⟨⟨zt_mem (List.mem_of_getElem? (i := 682) rfl) rfl, zt_mem (List.mem_of_getElem? (i := 40) (by decide +kernel)) rfl, by decide +kernel, by decide +kernel⟩, zt_mem (List.mem_of_getElem? (i := 680) (by decide +kernel)) rfl, zt_mem (List.mem_of_getElem? (i := 681) (by decide +kernel)) rfl⟩
abbrev Y_Cir_changeFollower : zY := (⟨"CircuitWays$Circles", "changeFollower", "(II)I"⟩, prog_2_method_2_code, 4, (some .int), "CircuitWays$Circles")
set_option maxRecDepth 20000 in
theorem k_Cir_changeFollower : zWv Y_Cir_changeFollower := ⟨⟨zt_mem (List.mem_of_getElem? (i := 686) rfl) rfl, zt_mem (List.mem_of_getElem? (i := 48) (by decide +kernel)) rfl, by decide +kernel, by decide +kernel⟩, zt_mem (List.mem_of_getElem? (i := 684) (by decide +kernel)) rfl, zt_mem (List.mem_of_getElem? (i := 685) (by decide +kernel)) rfl⟩
abbrev Y_CW_circle : zY := (⟨"CircuitWays", "circle", "(I)I"⟩, prog_1_method_20_code, 3, (some .int), "CircuitWays")
set_option maxRecDepth 20000 in
theorem k_CW_circle : zWv Y_CW_circle := ⟨⟨zt_mem (List.mem_of_getElem? (i := 690) rfl) rfl, zt_mem (List.mem_of_getElem? (i := 40) (by decide +kernel)) rfl, by decide +kernel, by decide +kernel⟩, zt_mem (List.mem_of_getElem? (i := 688) (by decide +kernel)) rfl, zt_mem (List.mem_of_getElem? (i := 689) (by decide +kernel)) rfl⟩
abbrev Y_Cir_find : zY := (⟨"CircuitWays$Circles", "find", "()I"⟩, prog_2_method_3_code, 4, (some .int), "CircuitWays$Circles")
set_option maxRecDepth 20000 in
theorem k_Cir_find : zWv Y_Cir_find := ⟨⟨zt_mem (List.mem_of_getElem? (i := 694) rfl) rfl, zt_mem (List.mem_of_getElem? (i := 48) (by decide +kernel)) rfl, by decide +kernel, by decide +kernel⟩, zt_mem (List.mem_of_getElem? (i := 692) (by decide +kernel)) rfl, zt_mem (List.mem_of_getElem? (i := 693) (by decide +kernel)) rfl⟩
abbrev Y_Cir_circleFrom : zY := (⟨"CircuitWays$Circles", "circleFrom", "(I)I"⟩, prog_2_method_4_code, 5, (some .int), "CircuitWays$Circles")
set_option maxRecDepth 20000 in
theorem k_Cir_circleFrom : zWv Y_Cir_circleFrom := ⟨⟨zt_mem (List.mem_of_getElem? (i := 698) rfl) rfl, zt_mem (List.mem_of_getElem? (i := 48) (by decide +kernel)) rfl, by decide +kernel, by decide +kernel⟩, zt_mem (List.mem_of_getElem? (i := 697) (by decide +kernel)) rfl, zt_mem (List.mem_of_getElem? (i := 16) (by decide +kernel)) rfl⟩
abbrev Y_CW_nearest : zY := (⟨"CircuitWays", "nearest", "(I)I"⟩, prog_1_method_21_code, 2, (some .int), "CircuitWays")
set_option maxRecDepth 20000 in
theorem k_CW_nearest : zWv Y_CW_nearest := ⟨⟨zt_mem (List.mem_of_getElem? (i := 702) rfl) rfl, zt_mem (List.mem_of_getElem? (i := 40) (by decide +kernel)) rfl, by decide +kernel, by decide +kernel⟩, zt_mem (List.mem_of_getElem? (i := 700) (by decide +kernel)) rfl, zt_mem (List.mem_of_getElem? (i := 701) (by decide +kernel)) rfl⟩
abbrev Y_Way_nearestLeading : zY := (⟨"CircuitWays$Ways", "nearestLeading", "(I)I"⟩, prog_11_method_2_code, 3, (some .int), "CircuitWays$Ways")
set_option maxRecDepth 20000 in
theorem k_Way_nearestLeading : zWv Y_Way_nearestLeading := ⟨⟨zt_mem (List.mem_of_getElem? (i := 706) rfl) rfl, zt_mem (List.mem_of_getElem? (i := 49) (by decide +kernel)) rfl, by decide +kernel, by decide +kernel⟩, zt_mem (List.mem_of_getElem? (i := 704) (by decide +kernel)) rfl, zt_mem (List.mem_of_getElem? (i := 705) (by decide +kernel)) rfl⟩
abbrev Y_Way_reached : zY := (⟨"CircuitWays$Ways", "reached", "(I)I"⟩, prog_11_method_5_code, 5, (some .int), "CircuitWays$Ways")
set_option maxRecDepth 20000 in
theorem k_Way_reached : zWv Y_Way_reached := ⟨⟨zt_mem (List.mem_of_getElem? (i := 710) rfl) rfl, zt_mem (List.mem_of_getElem? (i := 49) (by decide +kernel)) rfl, by decide +kernel, by decide +kernel⟩, zt_mem (List.mem_of_getElem? (i := 709) (by decide +kernel)) rfl, zt_mem (List.mem_of_getElem? (i := 17) (by decide +kernel)) rfl⟩
abbrev Y_Way_stepFrom : zY := (⟨"CircuitWays$Ways", "stepFrom", "(II)I"⟩, prog_11_method_6_code, 5, (some .int), "CircuitWays$Ways")
set_option maxRecDepth 20000 in
theorem k_Way_stepFrom : zWv Y_Way_stepFrom := ⟨⟨zt_mem (List.mem_of_getElem? (i := 714) rfl) rfl, zt_mem (List.mem_of_getElem? (i := 49) (by decide +kernel)) rfl, by decide +kernel, by decide +kernel⟩, zt_mem (List.mem_of_getElem? (i := 713) (by decide +kernel)) rfl, zt_mem (List.mem_of_getElem? (i := 18) (by decide +kernel)) rfl⟩
abbrev Y_Way_leads : zY := (⟨"CircuitWays$Ways", "leads", "(II)Z"⟩, prog_11_method_4_code, 3, (some .boolean), "CircuitWays$Ways")
set_option maxRecDepth 20000 in
theorem k_Way_leads : zWv Y_Way_leads := ⟨⟨zt_mem (List.mem_of_getElem? (i := 720) rfl) rfl, zt_mem (List.mem_of_getElem? (i := 49) (by decide +kernel)) rfl, by decide +kernel, by decide +kernel⟩, zt_mem (List.mem_of_getElem? (i := 719) (by decide +kernel)) rfl, zt_mem (List.mem_of_getElem? (i := 19) (by decide +kernel)) rfl⟩
abbrev Y_Way_isNearest : zY := (⟨"CircuitWays$Ways", "isNearest", "(II)Z"⟩, prog_11_method_3_code, 4, (some .boolean), "CircuitWays$Ways")
set_option maxRecDepth 20000 in
theorem k_Way_isNearest : zWv Y_Way_isNearest := ⟨⟨zt_mem (List.mem_of_getElem? (i := 724) rfl) rfl, zt_mem (List.mem_of_getElem? (i := 49) (by decide +kernel)) rfl, by decide +kernel, by decide +kernel⟩, zt_mem (List.mem_of_getElem? (i := 723) (by decide +kernel)) rfl, zt_mem (List.mem_of_getElem? (i := 20) (by decide +kernel)) rfl⟩
abbrev Y_CW_put : zY := (⟨"CircuitWays", "put", "(I)I"⟩, prog_1_method_22_code, 2, (some .int), "CircuitWays")
set_option maxRecDepth 20000 in
theorem k_CW_put : zWv Y_CW_put := ⟨⟨zt_mem (List.mem_of_getElem? (i := 728) rfl) rfl, zt_mem (List.mem_of_getElem? (i := 40) (by decide +kernel)) rfl, by decide +kernel, by decide +kernel⟩, zt_mem (List.mem_of_getElem? (i := 726) (by decide +kernel)) rfl, zt_mem (List.mem_of_getElem? (i := 727) (by decide +kernel)) rfl⟩
abbrev Y_Row_append : zY := (⟨"CircuitWays$Row", "append", "(I)I"⟩, prog_7_method_2_code, 2, (some .int), "CircuitWays$Row")
set_option maxRecDepth 20000 in
theorem k_Row_append : zWv Y_Row_append := ⟨⟨zt_mem (List.mem_of_getElem? (i := 732) rfl) rfl, zt_mem (List.mem_of_getElem? (i := 50) (by decide +kernel)) rfl, by decide +kernel, by decide +kernel⟩, zt_mem (List.mem_of_getElem? (i := 730) (by decide +kernel)) rfl, zt_mem (List.mem_of_getElem? (i := 731) (by decide +kernel)) rfl⟩
abbrev Y_CW_keep : zY := (⟨"CircuitWays", "keep", "(I)I"⟩, prog_1_method_23_code, 2, (some .int), "CircuitWays")
set_option maxRecDepth 20000 in
theorem k_CW_keep : zWv Y_CW_keep := ⟨⟨zt_mem (List.mem_of_getElem? (i := 736) rfl) rfl, zt_mem (List.mem_of_getElem? (i := 40) (by decide +kernel)) rfl, by decide +kernel, by decide +kernel⟩, zt_mem (List.mem_of_getElem? (i := 734) (by decide +kernel)) rfl, zt_mem (List.mem_of_getElem? (i := 735) (by decide +kernel)) rfl⟩
abbrev Y_Row_cut : zY := (⟨"CircuitWays$Row", "cut", "(I)I"⟩, prog_7_method_3_code, 3, (some .int), "CircuitWays$Row")
set_option maxRecDepth 20000 in
theorem k_Row_cut : zWv Y_Row_cut := ⟨⟨zt_mem (List.mem_of_getElem? (i := 740) rfl) rfl, zt_mem (List.mem_of_getElem? (i := 50) (by decide +kernel)) rfl, by decide +kernel, by decide +kernel⟩, zt_mem (List.mem_of_getElem? (i := 738) (by decide +kernel)) rfl, zt_mem (List.mem_of_getElem? (i := 739) (by decide +kernel)) rfl⟩
abbrev Y_CW_check : zY := (⟨"CircuitWays", "check", "()I"⟩, prog_1_method_24_code, 1, (some .int), "CircuitWays")
set_option maxRecDepth 20000 in
theorem k_CW_check : zWv Y_CW_check := ⟨⟨zt_mem (List.mem_of_getElem? (i := 744) rfl) rfl, zt_mem (List.mem_of_getElem? (i := 40) (by decide +kernel)) rfl, by decide +kernel, by decide +kernel⟩, zt_mem (List.mem_of_getElem? (i := 742) (by decide +kernel)) rfl, zt_mem (List.mem_of_getElem? (i := 743) (by decide +kernel)) rfl⟩
abbrev Y_Row_cost : zY := (⟨"CircuitWays$Row", "cost", "()I"⟩, prog_7_method_4_code, 1, (some .int), "CircuitWays$Row")
set_option maxRecDepth 20000 in
theorem k_Row_cost : zWv Y_Row_cost := ⟨⟨zt_mem (List.mem_of_getElem? (i := 748) rfl) rfl, zt_mem (List.mem_of_getElem? (i := 50) (by decide +kernel)) rfl, by decide +kernel, by decide +kernel⟩, zt_mem (List.mem_of_getElem? (i := 746) (by decide +kernel)) rfl, zt_mem (List.mem_of_getElem? (i := 747) (by decide +kernel)) rfl⟩
abbrev Y_Row_planCost : zY := (⟨"CircuitWays$Row", "planCost", "([II)I"⟩, prog_7_method_6_code, 8, (some .int), "CircuitWays$Row")
set_option maxRecDepth 20000 in
theorem k_Row_planCost : zWv Y_Row_planCost := ⟨⟨zt_mem (List.mem_of_getElem? (i := 752) rfl) rfl, zt_mem (List.mem_of_getElem? (i := 50) (by decide +kernel)) rfl, by decide +kernel, by decide +kernel⟩, zt_mem (List.mem_of_getElem? (i := 751) (by decide +kernel)) rfl, zt_mem (List.mem_of_getElem? (i := 21) (by decide +kernel)) rfl⟩
abbrev Y_Row_roundCost : zY := (⟨"CircuitWays$Row", "roundCost", "([III)I"⟩, prog_7_method_7_code, 10, (some .int), "CircuitWays$Row")
set_option maxRecDepth 20000 in
theorem k_Row_roundCost : zWv Y_Row_roundCost := ⟨⟨zt_mem (List.mem_of_getElem? (i := 758) rfl) rfl, zt_mem (List.mem_of_getElem? (i := 50) (by decide +kernel)) rfl, by decide +kernel, by decide +kernel⟩, zt_mem (List.mem_of_getElem? (i := 757) (by decide +kernel)) rfl, zt_mem (List.mem_of_getElem? (i := 22) (by decide +kernel)) rfl⟩
abbrev Y_CW_insert : zY := (⟨"CircuitWays", "insert", "(I)I"⟩, prog_1_method_25_code, 2, (some .int), "CircuitWays")
set_option maxRecDepth 20000 in
theorem k_CW_insert : zWv Y_CW_insert := ⟨⟨zt_mem (List.mem_of_getElem? (i := 766) rfl) rfl, zt_mem (List.mem_of_getElem? (i := 40) (by decide +kernel)) rfl, by decide +kernel, by decide +kernel⟩, zt_mem (List.mem_of_getElem? (i := 764) (by decide +kernel)) rfl, zt_mem (List.mem_of_getElem? (i := 765) (by decide +kernel)) rfl⟩
abbrev Y_Row_cheapestPlace : zY := (⟨"CircuitWays$Row", "cheapestPlace", "(I)I"⟩, prog_7_method_5_code, 6, (some .int), "CircuitWays$Row")
set_option maxRecDepth 20000 in
theorem k_Row_cheapestPlace : zWv Y_Row_cheapestPlace := ⟨⟨zt_mem (List.mem_of_getElem? (i := 770) rfl) rfl, zt_mem (List.mem_of_getElem? (i := 50) (by decide +kernel)) rfl, by decide +kernel, by decide +kernel⟩, zt_mem (List.mem_of_getElem? (i := 768) (by decide +kernel)) rfl, zt_mem (List.mem_of_getElem? (i := 769) (by decide +kernel)) rfl⟩
abbrev Y_CW_count : zY := (⟨"CircuitWays", "count", "(I)I"⟩, prog_1_method_26_code, 2, (some .int), "CircuitWays")
set_option maxRecDepth 20000 in
theorem k_CW_count : zWv Y_CW_count := ⟨⟨zt_mem (List.mem_of_getElem? (i := 775) rfl) rfl, zt_mem (List.mem_of_getElem? (i := 40) (by decide +kernel)) rfl, by decide +kernel, by decide +kernel⟩, zt_mem (List.mem_of_getElem? (i := 773) (by decide +kernel)) rfl, zt_mem (List.mem_of_getElem? (i := 774) (by decide +kernel)) rfl⟩
abbrev Y_Net_arcs : zY := (⟨"CircuitWays$Net", "arcs", "()I"⟩, prog_4_method_13_code, 3, (some .int), "CircuitWays$Net")
set_option maxRecDepth 20000 in
theorem k_Net_arcs : zWv Y_Net_arcs := ⟨⟨zt_mem (List.mem_of_getElem? (i := 779) rfl) rfl, zt_mem (List.mem_of_getElem? (i := 41) (by decide +kernel)) rfl, by decide +kernel, by decide +kernel⟩, zt_mem (List.mem_of_getElem? (i := 777) (by decide +kernel)) rfl, zt_mem (List.mem_of_getElem? (i := 778) (by decide +kernel)) rfl⟩
abbrev Y_Net_pairsAhead : zY := (⟨"CircuitWays$Net", "pairsAhead", "()I"⟩, prog_4_method_14_code, 3, (some .int), "CircuitWays$Net")
set_option maxRecDepth 20000 in
theorem k_Net_pairsAhead : zWv Y_Net_pairsAhead := ⟨⟨zt_mem (List.mem_of_getElem? (i := 783) rfl) rfl, zt_mem (List.mem_of_getElem? (i := 41) (by decide +kernel)) rfl, by decide +kernel, by decide +kernel⟩, zt_mem (List.mem_of_getElem? (i := 781) (by decide +kernel)) rfl, zt_mem (List.mem_of_getElem? (i := 782) (by decide +kernel)) rfl⟩
abbrev Y_Mo_init : zY := (⟨"CircuitWaysModel", "<init>", "()V"⟩, prog_13_method_3_code, 2, none, "CircuitWaysModel")
set_option maxRecDepth 20000 in
theorem k_Mo_init : zWi Y_Mo_init := ⟨⟨zt_mem (List.mem_of_getElem? (i := 789) rfl) rfl, zt_mem (List.mem_of_getElem? (i := 51) (by decide +kernel)) rfl, by decide +kernel, by decide +kernel⟩, zt_mem (List.mem_of_getElem? (i := 788) (by decide +kernel)) rfl, rfl⟩
abbrev Y_Mo_node : zY := (⟨"CircuitWaysModel", "node", "(I)I"⟩, prog_13_method_6_code, 2, (some .int), "CircuitWaysModel")
set_option maxRecDepth 20000 in
theorem k_Mo_node : zWv Y_Mo_node := ⟨⟨zt_mem (List.mem_of_getElem? (i := 889) rfl) rfl, zt_mem (List.mem_of_getElem? (i := 51) (by decide +kernel)) rfl, by decide +kernel, by decide +kernel⟩, zt_mem (List.mem_of_getElem? (i := 887) (by decide +kernel)) rfl, zt_mem (List.mem_of_getElem? (i := 888) (by decide +kernel)) rfl⟩
abbrev Y_Mo_in : zY := (⟨"CircuitWaysModel", "in", "(III)Z"⟩, prog_13_method_2_code, 3, (some .boolean), "CircuitWaysModel")
set_option maxRecDepth 20000 in
theorem k_Mo_in : zWs Y_Mo_in := ⟨⟨zt_mem (List.mem_of_getElem? (i := 892) rfl) rfl, zt_mem (List.mem_of_getElem? (i := 51) (by decide +kernel)) rfl, by decide +kernel, by decide +kernel⟩, zt_mem (List.mem_of_getElem? (i := 891) (by decide +kernel)) rfl⟩
abbrev Y_Mo_arc : zY := (⟨"CircuitWaysModel", "arc", "(III)I"⟩, prog_13_method_7_code, 5, (some .int), "CircuitWaysModel")
set_option maxRecDepth 20000 in
theorem k_Mo_arc : zWv Y_Mo_arc := ⟨⟨zt_mem (List.mem_of_getElem? (i := 898) rfl) rfl, zt_mem (List.mem_of_getElem? (i := 51) (by decide +kernel)) rfl, by decide +kernel, by decide +kernel⟩, zt_mem (List.mem_of_getElem? (i := 896) (by decide +kernel)) rfl, zt_mem (List.mem_of_getElem? (i := 897) (by decide +kernel)) rfl⟩
abbrev Y_Mo_noTwo : zY := (⟨"CircuitWaysModel", "noTwo", "(II)Z"⟩, prog_13_method_5_code, 3, (some .boolean), "CircuitWaysModel")
set_option maxRecDepth 20000 in
theorem k_Mo_noTwo : zWv Y_Mo_noTwo := ⟨⟨zt_mem (List.mem_of_getElem? (i := 902) rfl) rfl, zt_mem (List.mem_of_getElem? (i := 51) (by decide +kernel)) rfl, by decide +kernel, by decide +kernel⟩, zt_mem (List.mem_of_getElem? (i := 901) (by decide +kernel)) rfl, zt_mem (List.mem_of_getElem? (i := 23) (by decide +kernel)) rfl⟩
abbrev Y_Mo_noNode : zY := (⟨"CircuitWaysModel", "noNode", "(I)Z"⟩, prog_13_method_4_code, 2, (some .boolean), "CircuitWaysModel")
set_option maxRecDepth 20000 in
theorem k_Mo_noNode : zWv Y_Mo_noNode := ⟨⟨zt_mem (List.mem_of_getElem? (i := 906) rfl) rfl, zt_mem (List.mem_of_getElem? (i := 51) (by decide +kernel)) rfl, by decide +kernel, by decide +kernel⟩, zt_mem (List.mem_of_getElem? (i := 905) (by decide +kernel)) rfl, zt_mem (List.mem_of_getElem? (i := 24) (by decide +kernel)) rfl⟩
abbrev Y_Mo_lose : zY := (⟨"CircuitWaysModel", "lose", "(II)I"⟩, prog_13_method_8_code, 4, (some .int), "CircuitWaysModel")
set_option maxRecDepth 20000 in
theorem k_Mo_lose : zWv Y_Mo_lose := ⟨⟨zt_mem (List.mem_of_getElem? (i := 911) rfl) rfl, zt_mem (List.mem_of_getElem? (i := 51) (by decide +kernel)) rfl, by decide +kernel, by decide +kernel⟩, zt_mem (List.mem_of_getElem? (i := 909) (by decide +kernel)) rfl, zt_mem (List.mem_of_getElem? (i := 910) (by decide +kernel)) rfl⟩
abbrev Y_Mo_price : zY := (⟨"CircuitWaysModel", "price", "(II)I"⟩, prog_13_method_9_code, 4, (some .int), "CircuitWaysModel")
set_option maxRecDepth 20000 in
theorem k_Mo_price : zWv Y_Mo_price := ⟨⟨zt_mem (List.mem_of_getElem? (i := 915) rfl) rfl, zt_mem (List.mem_of_getElem? (i := 51) (by decide +kernel)) rfl, by decide +kernel, by decide +kernel⟩, zt_mem (List.mem_of_getElem? (i := 913) (by decide +kernel)) rfl, zt_mem (List.mem_of_getElem? (i := 914) (by decide +kernel)) rfl⟩
abbrev Y_Mo_ahead : zY := (⟨"CircuitWaysModel", "ahead", "(IIZ)I"⟩, prog_13_method_10_code, 5, (some .int), "CircuitWaysModel")
set_option maxRecDepth 20000 in
theorem k_Mo_ahead : zWv Y_Mo_ahead := ⟨⟨zt_mem (List.mem_of_getElem? (i := 919) rfl) rfl, zt_mem (List.mem_of_getElem? (i := 51) (by decide +kernel)) rfl, by decide +kernel, by decide +kernel⟩, zt_mem (List.mem_of_getElem? (i := 917) (by decide +kernel)) rfl, zt_mem (List.mem_of_getElem? (i := 918) (by decide +kernel)) rfl⟩
abbrev Y_Mo_rule : zY := (⟨"CircuitWaysModel", "rule", "(II)I"⟩, prog_13_method_11_code, 5, (some .int), "CircuitWaysModel")
set_option maxRecDepth 20000 in
theorem k_Mo_rule : zWv Y_Mo_rule := ⟨⟨zt_mem (List.mem_of_getElem? (i := 923) rfl) rfl, zt_mem (List.mem_of_getElem? (i := 51) (by decide +kernel)) rfl, by decide +kernel, by decide +kernel⟩, zt_mem (List.mem_of_getElem? (i := 921) (by decide +kernel)) rfl, zt_mem (List.mem_of_getElem? (i := 922) (by decide +kernel)) rfl⟩
abbrev Y_Mo_best : zY := (⟨"CircuitWaysModel", "best", "()I"⟩, prog_13_method_21_code, 1, (some .int), "CircuitWaysModel")
set_option maxRecDepth 20000 in
theorem k_Mo_best : zWv Y_Mo_best := ⟨⟨zt_mem (List.mem_of_getElem? (i := 927) rfl) rfl, zt_mem (List.mem_of_getElem? (i := 51) (by decide +kernel)) rfl, by decide +kernel, by decide +kernel⟩, zt_mem (List.mem_of_getElem? (i := 925) (by decide +kernel)) rfl, zt_mem (List.mem_of_getElem? (i := 926) (by decide +kernel)) rfl⟩
abbrev Y_Mo_know : zY := (⟨"CircuitWaysModel", "know", "()V"⟩, prog_13_method_19_code, 2, none, "CircuitWaysModel")
set_option maxRecDepth 20000 in
theorem k_Mo_know : zWv Y_Mo_know := ⟨⟨zt_mem (List.mem_of_getElem? (i := 931) rfl) rfl, zt_mem (List.mem_of_getElem? (i := 51) (by decide +kernel)) rfl, by decide +kernel, by decide +kernel⟩, zt_mem (List.mem_of_getElem? (i := 930) (by decide +kernel)) rfl, zt_mem (List.mem_of_getElem? (i := 25) (by decide +kernel)) rfl⟩
abbrev Y_Mo_atHouse : zY := (⟨"CircuitWaysModel", "atHouse", "(LCircuitWaysModel;II)I"⟩, prog_13_method_17_code, 7, (some .int), "CircuitWaysModel")
set_option maxRecDepth 20000 in
theorem k_Mo_atHouse : zWs Y_Mo_atHouse := ⟨⟨zt_mem (List.mem_of_getElem? (i := 935) rfl) rfl, zt_mem (List.mem_of_getElem? (i := 51) (by decide +kernel)) rfl, by decide +kernel, by decide +kernel⟩, zt_mem (List.mem_of_getElem? (i := 934) (by decide +kernel)) rfl⟩
abbrev Y_Mo_whole : zY := (⟨"CircuitWaysModel", "whole", "(I)I"⟩, prog_13_method_13_code, 4, (some .int), "CircuitWaysModel")
set_option maxRecDepth 20000 in
theorem k_Mo_whole : zWv Y_Mo_whole := ⟨⟨zt_mem (List.mem_of_getElem? (i := 939) rfl) rfl, zt_mem (List.mem_of_getElem? (i := 51) (by decide +kernel)) rfl, by decide +kernel, by decide +kernel⟩, zt_mem (List.mem_of_getElem? (i := 938) (by decide +kernel)) rfl, zt_mem (List.mem_of_getElem? (i := 26) (by decide +kernel)) rfl⟩
abbrev Y_Mo_isBeforeFirst : zY := (⟨"CircuitWaysModel", "isBeforeFirst", "()Z"⟩, prog_13_method_14_code, 2, (some .boolean), "CircuitWaysModel")
set_option maxRecDepth 20000 in
theorem k_Mo_isBeforeFirst : zWv Y_Mo_isBeforeFirst := ⟨⟨zt_mem (List.mem_of_getElem? (i := 943) rfl) rfl, zt_mem (List.mem_of_getElem? (i := 51) (by decide +kernel)) rfl, by decide +kernel, by decide +kernel⟩, zt_mem (List.mem_of_getElem? (i := 942) (by decide +kernel)) rfl, zt_mem (List.mem_of_getElem? (i := 27) (by decide +kernel)) rfl⟩
abbrev Y_Mo_mayCome : zY := (⟨"CircuitWaysModel", "mayCome", "(II)Z"⟩, prog_13_method_12_code, 5, (some .boolean), "CircuitWaysModel")
set_option maxRecDepth 20000 in
theorem k_Mo_mayCome : zWv Y_Mo_mayCome := ⟨⟨zt_mem (List.mem_of_getElem? (i := 947) rfl) rfl, zt_mem (List.mem_of_getElem? (i := 51) (by decide +kernel)) rfl, by decide +kernel, by decide +kernel⟩, zt_mem (List.mem_of_getElem? (i := 946) (by decide +kernel)) rfl, zt_mem (List.mem_of_getElem? (i := 28) (by decide +kernel)) rfl⟩
abbrev Y_Mo_write : zY := (⟨"CircuitWaysModel", "write", "(I)V"⟩, prog_13_method_16_code, 2, none, "CircuitWaysModel")
set_option maxRecDepth 20000 in
theorem k_Mo_write : zWv Y_Mo_write := ⟨⟨zt_mem (List.mem_of_getElem? (i := 951) rfl) rfl, zt_mem (List.mem_of_getElem? (i := 51) (by decide +kernel)) rfl, by decide +kernel, by decide +kernel⟩, zt_mem (List.mem_of_getElem? (i := 950) (by decide +kernel)) rfl, zt_mem (List.mem_of_getElem? (i := 29) (by decide +kernel)) rfl⟩
abbrev Y_Mo_atNode : zY := (⟨"CircuitWaysModel", "atNode", "(LCircuitWaysModel;IIII)I"⟩, prog_13_method_18_code, 13, (some .int), "CircuitWaysModel")
set_option maxRecDepth 20000 in
theorem k_Mo_atNode : zWs Y_Mo_atNode := ⟨⟨zt_mem (List.mem_of_getElem? (i := 954) rfl) rfl, zt_mem (List.mem_of_getElem? (i := 51) (by decide +kernel)) rfl, by decide +kernel, by decide +kernel⟩, zt_mem (List.mem_of_getElem? (i := 953) (by decide +kernel)) rfl⟩
abbrev Y_Mo_note : zY := (⟨"CircuitWaysModel", "note", "(III)V"⟩, prog_13_method_15_code, 4, none, "CircuitWaysModel")
set_option maxRecDepth 20000 in
theorem k_Mo_note : zWv Y_Mo_note := ⟨⟨zt_mem (List.mem_of_getElem? (i := 958) rfl) rfl, zt_mem (List.mem_of_getElem? (i := 51) (by decide +kernel)) rfl, by decide +kernel, by decide +kernel⟩, zt_mem (List.mem_of_getElem? (i := 957) (by decide +kernel)) rfl, zt_mem (List.mem_of_getElem? (i := 30) (by decide +kernel)) rfl⟩
abbrev Y_Mo_many : zY := (⟨"CircuitWaysModel", "many", "()I"⟩, prog_13_method_22_code, 1, (some .int), "CircuitWaysModel")
set_option maxRecDepth 20000 in
theorem k_Mo_many : zWv Y_Mo_many := ⟨⟨zt_mem (List.mem_of_getElem? (i := 962) rfl) rfl, zt_mem (List.mem_of_getElem? (i := 51) (by decide +kernel)) rfl, by decide +kernel, by decide +kernel⟩, zt_mem (List.mem_of_getElem? (i := 960) (by decide +kernel)) rfl, zt_mem (List.mem_of_getElem? (i := 961) (by decide +kernel)) rfl⟩
abbrev Y_Mo_first : zY := (⟨"CircuitWaysModel", "first", "(I)I"⟩, prog_13_method_23_code, 2, (some .int), "CircuitWaysModel")
set_option maxRecDepth 20000 in
theorem k_Mo_first : zWv Y_Mo_first := ⟨⟨zt_mem (List.mem_of_getElem? (i := 966) rfl) rfl, zt_mem (List.mem_of_getElem? (i := 51) (by decide +kernel)) rfl, by decide +kernel, by decide +kernel⟩, zt_mem (List.mem_of_getElem? (i := 964) (by decide +kernel)) rfl, zt_mem (List.mem_of_getElem? (i := 965) (by decide +kernel)) rfl⟩
abbrev Y_Mo_with : zY := (⟨"CircuitWaysModel", "with", "(II)I"⟩, prog_13_method_24_code, 3, (some .int), "CircuitWaysModel")
set_option maxRecDepth 20000 in
theorem k_Mo_with : zWv Y_Mo_with := ⟨⟨zt_mem (List.mem_of_getElem? (i := 970) rfl) rfl, zt_mem (List.mem_of_getElem? (i := 51) (by decide +kernel)) rfl, by decide +kernel, by decide +kernel⟩, zt_mem (List.mem_of_getElem? (i := 968) (by decide +kernel)) rfl, zt_mem (List.mem_of_getElem? (i := 969) (by decide +kernel)) rfl⟩
abbrev Y_Mo_told : zY := (⟨"CircuitWaysModel", "told", "(I)I"⟩, prog_13_method_20_code, 1, (some .int), "CircuitWaysModel")
set_option maxRecDepth 20000 in
theorem k_Mo_told : zWs Y_Mo_told := ⟨⟨zt_mem (List.mem_of_getElem? (i := 973) rfl) rfl, zt_mem (List.mem_of_getElem? (i := 51) (by decide +kernel)) rfl, by decide +kernel, by decide +kernel⟩, zt_mem (List.mem_of_getElem? (i := 972) (by decide +kernel)) rfl⟩
abbrev Y_Mo_without : zY := (⟨"CircuitWaysModel", "without", "(I)I"⟩, prog_13_method_25_code, 2, (some .int), "CircuitWaysModel")
set_option maxRecDepth 20000 in
theorem k_Mo_without : zWv Y_Mo_without := ⟨⟨zt_mem (List.mem_of_getElem? (i := 977) rfl) rfl, zt_mem (List.mem_of_getElem? (i := 51) (by decide +kernel)) rfl, by decide +kernel, by decide +kernel⟩, zt_mem (List.mem_of_getElem? (i := 975) (by decide +kernel)) rfl, zt_mem (List.mem_of_getElem? (i := 976) (by decide +kernel)) rfl⟩
abbrev Y_Mo_filter : zY := (⟨"CircuitWaysModel", "filter", "(I)I"⟩, prog_13_method_26_code, 4, (some .int), "CircuitWaysModel")
set_option maxRecDepth 20000 in
theorem k_Mo_filter : zWv Y_Mo_filter := ⟨⟨zt_mem (List.mem_of_getElem? (i := 981) rfl) rfl, zt_mem (List.mem_of_getElem? (i := 51) (by decide +kernel)) rfl, by decide +kernel, by decide +kernel⟩, zt_mem (List.mem_of_getElem? (i := 979) (by decide +kernel)) rfl, zt_mem (List.mem_of_getElem? (i := 980) (by decide +kernel)) rfl⟩
abbrev Y_Mo_weight : zY := (⟨"CircuitWaysModel", "weight", "(II)I"⟩, prog_13_method_27_code, 4, (some .int), "CircuitWaysModel")
set_option maxRecDepth 20000 in
theorem k_Mo_weight : zWv Y_Mo_weight := ⟨⟨zt_mem (List.mem_of_getElem? (i := 985) rfl) rfl, zt_mem (List.mem_of_getElem? (i := 51) (by decide +kernel)) rfl, by decide +kernel, by decide +kernel⟩, zt_mem (List.mem_of_getElem? (i := 983) (by decide +kernel)) rfl, zt_mem (List.mem_of_getElem? (i := 984) (by decide +kernel)) rfl⟩
abbrev Y_Mo_bound : zY := (⟨"CircuitWaysModel", "bound", "()I"⟩, prog_13_method_32_code, 3, (some .int), "CircuitWaysModel")
set_option maxRecDepth 20000 in
theorem k_Mo_bound : zWv Y_Mo_bound := ⟨⟨zt_mem (List.mem_of_getElem? (i := 989) rfl) rfl, zt_mem (List.mem_of_getElem? (i := 51) (by decide +kernel)) rfl, by decide +kernel, by decide +kernel⟩, zt_mem (List.mem_of_getElem? (i := 987) (by decide +kernel)) rfl, zt_mem (List.mem_of_getElem? (i := 988) (by decide +kernel)) rfl⟩
abbrev Y_Mo_makeTree : zY := (⟨"CircuitWaysModel", "makeTree", "()Z"⟩, prog_13_method_31_code, 3, (some .boolean), "CircuitWaysModel")
set_option maxRecDepth 20000 in
theorem k_Mo_makeTree : zWv Y_Mo_makeTree := ⟨⟨zt_mem (List.mem_of_getElem? (i := 993) rfl) rfl, zt_mem (List.mem_of_getElem? (i := 51) (by decide +kernel)) rfl, by decide +kernel, by decide +kernel⟩, zt_mem (List.mem_of_getElem? (i := 992) (by decide +kernel)) rfl, zt_mem (List.mem_of_getElem? (i := 31) (by decide +kernel)) rfl⟩
abbrev Y_Mo_choose : zY := (⟨"CircuitWaysModel", "choose", "(Z)Z"⟩, prog_13_method_30_code, 7, (some .boolean), "CircuitWaysModel")
set_option maxRecDepth 20000 in
theorem k_Mo_choose : zWv Y_Mo_choose := ⟨⟨zt_mem (List.mem_of_getElem? (i := 997) rfl) rfl, zt_mem (List.mem_of_getElem? (i := 51) (by decide +kernel)) rfl, by decide +kernel, by decide +kernel⟩, zt_mem (List.mem_of_getElem? (i := 996) (by decide +kernel)) rfl, zt_mem (List.mem_of_getElem? (i := 32) (by decide +kernel)) rfl⟩
abbrev Y_Mo_edgeCost : zY := (⟨"CircuitWaysModel", "edgeCost", "(II)I"⟩, prog_13_method_28_code, 4, (some .int), "CircuitWaysModel")
set_option maxRecDepth 20000 in
theorem k_Mo_edgeCost : zWv Y_Mo_edgeCost := ⟨⟨zt_mem (List.mem_of_getElem? (i := 1001) rfl) rfl, zt_mem (List.mem_of_getElem? (i := 51) (by decide +kernel)) rfl, by decide +kernel, by decide +kernel⟩, zt_mem (List.mem_of_getElem? (i := 1000) (by decide +kernel)) rfl, zt_mem (List.mem_of_getElem? (i := 33) (by decide +kernel)) rfl⟩
abbrev Y_Mo_hasEdge : zY := (⟨"CircuitWaysModel", "hasEdge", "(II)Z"⟩, prog_13_method_29_code, 5, (some .boolean), "CircuitWaysModel")
set_option maxRecDepth 20000 in
theorem k_Mo_hasEdge : zWv Y_Mo_hasEdge := ⟨⟨zt_mem (List.mem_of_getElem? (i := 1005) rfl) rfl, zt_mem (List.mem_of_getElem? (i := 51) (by decide +kernel)) rfl, by decide +kernel, by decide +kernel⟩, zt_mem (List.mem_of_getElem? (i := 1004) (by decide +kernel)) rfl, zt_mem (List.mem_of_getElem? (i := 34) (by decide +kernel)) rfl⟩
abbrev Y_Mo_edge : zY := (⟨"CircuitWaysModel", "edge", "(II)I"⟩, prog_13_method_33_code, 3, (some .int), "CircuitWaysModel")
set_option maxRecDepth 20000 in
theorem k_Mo_edge : zWv Y_Mo_edge := ⟨⟨zt_mem (List.mem_of_getElem? (i := 1009) rfl) rfl, zt_mem (List.mem_of_getElem? (i := 51) (by decide +kernel)) rfl, by decide +kernel, by decide +kernel⟩, zt_mem (List.mem_of_getElem? (i := 1007) (by decide +kernel)) rfl, zt_mem (List.mem_of_getElem? (i := 1008) (by decide +kernel)) rfl⟩
abbrev Y_Mo_degree : zY := (⟨"CircuitWaysModel", "degree", "(I)I"⟩, prog_13_method_34_code, 4, (some .int), "CircuitWaysModel")
set_option maxRecDepth 20000 in
theorem k_Mo_degree : zWv Y_Mo_degree := ⟨⟨zt_mem (List.mem_of_getElem? (i := 1013) rfl) rfl, zt_mem (List.mem_of_getElem? (i := 51) (by decide +kernel)) rfl, by decide +kernel, by decide +kernel⟩, zt_mem (List.mem_of_getElem? (i := 1011) (by decide +kernel)) rfl, zt_mem (List.mem_of_getElem? (i := 1012) (by decide +kernel)) rfl⟩
abbrev Y_Mo_pairing : zY := (⟨"CircuitWaysModel", "pairing", "()I"⟩, prog_13_method_35_code, 5, (some .int), "CircuitWaysModel")
set_option maxRecDepth 20000 in
theorem k_Mo_pairing : zWv Y_Mo_pairing := ⟨⟨zt_mem (List.mem_of_getElem? (i := 1017) rfl) rfl, zt_mem (List.mem_of_getElem? (i := 51) (by decide +kernel)) rfl, by decide +kernel, by decide +kernel⟩, zt_mem (List.mem_of_getElem? (i := 1015) (by decide +kernel)) rfl, zt_mem (List.mem_of_getElem? (i := 1016) (by decide +kernel)) rfl⟩
abbrev Y_Mo_next : zY := (⟨"CircuitWaysModel", "next", "(II)I"⟩, prog_13_method_36_code, 4, (some .int), "CircuitWaysModel")
set_option maxRecDepth 20000 in
theorem k_Mo_next : zWv Y_Mo_next := ⟨⟨zt_mem (List.mem_of_getElem? (i := 1022) rfl) rfl, zt_mem (List.mem_of_getElem? (i := 51) (by decide +kernel)) rfl, by decide +kernel, by decide +kernel⟩, zt_mem (List.mem_of_getElem? (i := 1020) (by decide +kernel)) rfl, zt_mem (List.mem_of_getElem? (i := 1021) (by decide +kernel)) rfl⟩
abbrev Y_Mo_circle : zY := (⟨"CircuitWaysModel", "circle", "(I)I"⟩, prog_13_method_38_code, 5, (some .int), "CircuitWaysModel")
set_option maxRecDepth 20000 in
theorem k_Mo_circle : zWv Y_Mo_circle := ⟨⟨zt_mem (List.mem_of_getElem? (i := 1026) rfl) rfl, zt_mem (List.mem_of_getElem? (i := 51) (by decide +kernel)) rfl, by decide +kernel, by decide +kernel⟩, zt_mem (List.mem_of_getElem? (i := 1024) (by decide +kernel)) rfl, zt_mem (List.mem_of_getElem? (i := 1025) (by decide +kernel)) rfl⟩
abbrev Y_Mo_circleOf : zY := (⟨"CircuitWaysModel", "circleOf", "(I)I"⟩, prog_13_method_37_code, 5, (some .int), "CircuitWaysModel")
set_option maxRecDepth 20000 in
theorem k_Mo_circleOf : zWv Y_Mo_circleOf := ⟨⟨zt_mem (List.mem_of_getElem? (i := 1030) rfl) rfl, zt_mem (List.mem_of_getElem? (i := 51) (by decide +kernel)) rfl, by decide +kernel, by decide +kernel⟩, zt_mem (List.mem_of_getElem? (i := 1029) (by decide +kernel)) rfl, zt_mem (List.mem_of_getElem? (i := 35) (by decide +kernel)) rfl⟩
abbrev Y_Mo_nearest : zY := (⟨"CircuitWaysModel", "nearest", "(I)I"⟩, prog_13_method_41_code, 5, (some .int), "CircuitWaysModel")
set_option maxRecDepth 20000 in
theorem k_Mo_nearest : zWv Y_Mo_nearest := ⟨⟨zt_mem (List.mem_of_getElem? (i := 1034) rfl) rfl, zt_mem (List.mem_of_getElem? (i := 51) (by decide +kernel)) rfl, by decide +kernel, by decide +kernel⟩, zt_mem (List.mem_of_getElem? (i := 1032) (by decide +kernel)) rfl, zt_mem (List.mem_of_getElem? (i := 1033) (by decide +kernel)) rfl⟩
abbrev Y_Mo_leads : zY := (⟨"CircuitWaysModel", "leads", "(II)Z"⟩, prog_13_method_40_code, 3, (some .boolean), "CircuitWaysModel")
set_option maxRecDepth 20000 in
theorem k_Mo_leads : zWv Y_Mo_leads := ⟨⟨zt_mem (List.mem_of_getElem? (i := 1038) rfl) rfl, zt_mem (List.mem_of_getElem? (i := 51) (by decide +kernel)) rfl, by decide +kernel, by decide +kernel⟩, zt_mem (List.mem_of_getElem? (i := 1037) (by decide +kernel)) rfl, zt_mem (List.mem_of_getElem? (i := 36) (by decide +kernel)) rfl⟩
abbrev Y_Mo_reached : zY := (⟨"CircuitWaysModel", "reached", "(I)I"⟩, prog_13_method_39_code, 7, (some .int), "CircuitWaysModel")
set_option maxRecDepth 20000 in
theorem k_Mo_reached : zWv Y_Mo_reached := ⟨⟨zt_mem (List.mem_of_getElem? (i := 1042) rfl) rfl, zt_mem (List.mem_of_getElem? (i := 51) (by decide +kernel)) rfl, by decide +kernel, by decide +kernel⟩, zt_mem (List.mem_of_getElem? (i := 1041) (by decide +kernel)) rfl, zt_mem (List.mem_of_getElem? (i := 37) (by decide +kernel)) rfl⟩
abbrev Y_Mo_put : zY := (⟨"CircuitWaysModel", "put", "(I)I"⟩, prog_13_method_42_code, 2, (some .int), "CircuitWaysModel")
set_option maxRecDepth 20000 in
theorem k_Mo_put : zWv Y_Mo_put := ⟨⟨zt_mem (List.mem_of_getElem? (i := 1046) rfl) rfl, zt_mem (List.mem_of_getElem? (i := 51) (by decide +kernel)) rfl, by decide +kernel, by decide +kernel⟩, zt_mem (List.mem_of_getElem? (i := 1044) (by decide +kernel)) rfl, zt_mem (List.mem_of_getElem? (i := 1045) (by decide +kernel)) rfl⟩
abbrev Y_Mo_keep : zY := (⟨"CircuitWaysModel", "keep", "(I)I"⟩, prog_13_method_43_code, 3, (some .int), "CircuitWaysModel")
set_option maxRecDepth 20000 in
theorem k_Mo_keep : zWv Y_Mo_keep := ⟨⟨zt_mem (List.mem_of_getElem? (i := 1050) rfl) rfl, zt_mem (List.mem_of_getElem? (i := 51) (by decide +kernel)) rfl, by decide +kernel, by decide +kernel⟩, zt_mem (List.mem_of_getElem? (i := 1048) (by decide +kernel)) rfl, zt_mem (List.mem_of_getElem? (i := 1049) (by decide +kernel)) rfl⟩
abbrev Y_Mo_check : zY := (⟨"CircuitWaysModel", "check", "()I"⟩, prog_13_method_45_code, 1, (some .int), "CircuitWaysModel")
set_option maxRecDepth 20000 in
theorem k_Mo_check : zWv Y_Mo_check := ⟨⟨zt_mem (List.mem_of_getElem? (i := 1054) rfl) rfl, zt_mem (List.mem_of_getElem? (i := 51) (by decide +kernel)) rfl, by decide +kernel, by decide +kernel⟩, zt_mem (List.mem_of_getElem? (i := 1052) (by decide +kernel)) rfl, zt_mem (List.mem_of_getElem? (i := 1053) (by decide +kernel)) rfl⟩
abbrev Y_Mo_costOf : zY := (⟨"CircuitWaysModel", "costOf", "(II)I"⟩, prog_13_method_44_code, 9, (some .int), "CircuitWaysModel")
set_option maxRecDepth 20000 in
theorem k_Mo_costOf : zWv Y_Mo_costOf := ⟨⟨zt_mem (List.mem_of_getElem? (i := 1058) rfl) rfl, zt_mem (List.mem_of_getElem? (i := 51) (by decide +kernel)) rfl, by decide +kernel, by decide +kernel⟩, zt_mem (List.mem_of_getElem? (i := 1057) (by decide +kernel)) rfl, zt_mem (List.mem_of_getElem? (i := 38) (by decide +kernel)) rfl⟩
abbrev Y_Mo_insert : zY := (⟨"CircuitWaysModel", "insert", "(I)I"⟩, prog_13_method_46_code, 6, (some .int), "CircuitWaysModel")
set_option maxRecDepth 20000 in
theorem k_Mo_insert : zWv Y_Mo_insert := ⟨⟨zt_mem (List.mem_of_getElem? (i := 1062) rfl) rfl, zt_mem (List.mem_of_getElem? (i := 51) (by decide +kernel)) rfl, by decide +kernel, by decide +kernel⟩, zt_mem (List.mem_of_getElem? (i := 1060) (by decide +kernel)) rfl, zt_mem (List.mem_of_getElem? (i := 1061) (by decide +kernel)) rfl⟩
abbrev Y_Mo_count : zY := (⟨"CircuitWaysModel", "count", "(I)I"⟩, prog_13_method_47_code, 4, (some .int), "CircuitWaysModel")
set_option maxRecDepth 20000 in
theorem k_Mo_count : zWv Y_Mo_count := ⟨⟨zt_mem (List.mem_of_getElem? (i := 1066) rfl) rfl, zt_mem (List.mem_of_getElem? (i := 51) (by decide +kernel)) rfl, by decide +kernel, by decide +kernel⟩, zt_mem (List.mem_of_getElem? (i := 1064) (by decide +kernel)) rfl, zt_mem (List.mem_of_getElem? (i := 1065) (by decide +kernel)) rfl⟩
theorem f_Net_9 : Cond.fieldLink "CircuitWays$Net" 9 "CircuitWays$Net" "loads" "[I" ∈ zt := zt_mem (List.mem_of_getElem? (i := 69) (by decide +kernel)) rfl
theorem f_Pat_63 : Cond.fieldLink "CircuitWays$Paths" 63 "CircuitWays$Net" "loads" "[I" ∈ zt := zt_mem (List.mem_of_getElem? (i := 70) (by decide +kernel)) rfl
theorem f_Row_62 : Cond.fieldLink "CircuitWays$Row" 62 "CircuitWays$Net" "loads" "[I" ∈ zt := zt_mem (List.mem_of_getElem? (i := 71) (by decide +kernel)) rfl
theorem f_Net_15 : Cond.fieldLink "CircuitWays$Net" 15 "CircuitWays$Net" "costs" "[I" ∈ zt := zt_mem (List.mem_of_getElem? (i := 72) (by decide +kernel)) rfl
theorem f_Pai_32 : Cond.fieldLink "CircuitWays$Pairs" 32 "CircuitWays$Net" "costs" "[I" ∈ zt := zt_mem (List.mem_of_getElem? (i := 73) (by decide +kernel)) rfl
theorem f_Tai_63 : Cond.fieldLink "CircuitWays$Tails" 63 "CircuitWays$Net" "costs" "[I" ∈ zt := zt_mem (List.mem_of_getElem? (i := 74) (by decide +kernel)) rfl
theorem f_Fir_80 : Cond.fieldLink "CircuitWays$FirstPlan" 80 "CircuitWays$Net" "costs" "[I" ∈ zt := zt_mem (List.mem_of_getElem? (i := 75) (by decide +kernel)) rfl
theorem f_Tre_48 : Cond.fieldLink "CircuitWays$Tree" 48 "CircuitWays$Net" "costs" "[I" ∈ zt := zt_mem (List.mem_of_getElem? (i := 76) (by decide +kernel)) rfl
theorem f_Pat_75 : Cond.fieldLink "CircuitWays$Paths" 75 "CircuitWays$Net" "costs" "[I" ∈ zt := zt_mem (List.mem_of_getElem? (i := 77) (by decide +kernel)) rfl
theorem f_Way_41 : Cond.fieldLink "CircuitWays$Ways" 41 "CircuitWays$Net" "costs" "[I" ∈ zt := zt_mem (List.mem_of_getElem? (i := 78) (by decide +kernel)) rfl
theorem f_Row_59 : Cond.fieldLink "CircuitWays$Row" 59 "CircuitWays$Net" "costs" "[I" ∈ zt := zt_mem (List.mem_of_getElem? (i := 79) (by decide +kernel)) rfl
theorem f_Net_18 : Cond.fieldLink "CircuitWays$Net" 18 "CircuitWays$Net" "prices" "[I" ∈ zt := zt_mem (List.mem_of_getElem? (i := 80) (by decide +kernel)) rfl
theorem f_Net_21 : Cond.fieldLink "CircuitWays$Net" 21 "CircuitWays$Net" "earlier" "[I" ∈ zt := zt_mem (List.mem_of_getElem? (i := 81) (by decide +kernel)) rfl
theorem f_Pat_72 : Cond.fieldLink "CircuitWays$Paths" 72 "CircuitWays$Net" "earlier" "[I" ∈ zt := zt_mem (List.mem_of_getElem? (i := 82) (by decide +kernel)) rfl
theorem f_Row_56 : Cond.fieldLink "CircuitWays$Row" 56 "CircuitWays$Net" "earlier" "[I" ∈ zt := zt_mem (List.mem_of_getElem? (i := 83) (by decide +kernel)) rfl
theorem f_Net_24 : Cond.fieldLink "CircuitWays$Net" 24 "CircuitWays$Net" "size" "I" ∈ zt := zt_mem (List.mem_of_getElem? (i := 84) (by decide +kernel)) rfl
theorem f_Pai_19 : Cond.fieldLink "CircuitWays$Pairs" 19 "CircuitWays$Net" "size" "I" ∈ zt := zt_mem (List.mem_of_getElem? (i := 85) (by decide +kernel)) rfl
theorem f_CW_84 : Cond.fieldLink "CircuitWays" 84 "CircuitWays$Net" "size" "I" ∈ zt := zt_mem (List.mem_of_getElem? (i := 86) (by decide +kernel)) rfl
theorem f_Way_24 : Cond.fieldLink "CircuitWays$Ways" 24 "CircuitWays$Net" "size" "I" ∈ zt := zt_mem (List.mem_of_getElem? (i := 87) (by decide +kernel)) rfl
theorem f_Pat_50 : Cond.fieldLink "CircuitWays$Paths" 50 "CircuitWays$Net" "size" "I" ∈ zt := zt_mem (List.mem_of_getElem? (i := 88) (by decide +kernel)) rfl
theorem f_Tai_46 : Cond.fieldLink "CircuitWays$Tails" 46 "CircuitWays$Net" "size" "I" ∈ zt := zt_mem (List.mem_of_getElem? (i := 89) (by decide +kernel)) rfl
theorem f_Cir_22 : Cond.fieldLink "CircuitWays$Circles" 22 "CircuitWays$Net" "size" "I" ∈ zt := zt_mem (List.mem_of_getElem? (i := 90) (by decide +kernel)) rfl
theorem f_Tre_35 : Cond.fieldLink "CircuitWays$Tree" 35 "CircuitWays$Net" "size" "I" ∈ zt := zt_mem (List.mem_of_getElem? (i := 91) (by decide +kernel)) rfl
theorem f_Fir_90 : Cond.fieldLink "CircuitWays$FirstPlan" 90 "CircuitWays$Net" "size" "I" ∈ zt := zt_mem (List.mem_of_getElem? (i := 92) (by decide +kernel)) rfl
theorem f_Net_28 : Cond.fieldLink "CircuitWays$Net" 28 "CircuitWays$Net" "most" "I" ∈ zt := zt_mem (List.mem_of_getElem? (i := 93) (by decide +kernel)) rfl
theorem f_Fir_54 : Cond.fieldLink "CircuitWays$FirstPlan" 54 "CircuitWays$Net" "most" "I" ∈ zt := zt_mem (List.mem_of_getElem? (i := 94) (by decide +kernel)) rfl
theorem f_Sha_55 : Cond.fieldLink "CircuitWays$Shares" 55 "CircuitWays$Net" "most" "I" ∈ zt := zt_mem (List.mem_of_getElem? (i := 95) (by decide +kernel)) rfl
theorem f_Row_44 : Cond.fieldLink "CircuitWays$Row" 44 "CircuitWays$Net" "most" "I" ∈ zt := zt_mem (List.mem_of_getElem? (i := 96) (by decide +kernel)) rfl
theorem f_CW_148 : Cond.fieldLink "CircuitWays" 148 "CircuitWays$Net" "most" "I" ∈ zt := zt_mem (List.mem_of_getElem? (i := 97) (by decide +kernel)) rfl
theorem f_Net_31 : Cond.fieldLink "CircuitWays$Net" 31 "CircuitWays$Net" "room" "I" ∈ zt := zt_mem (List.mem_of_getElem? (i := 98) (by decide +kernel)) rfl
theorem f_Pat_66 : Cond.fieldLink "CircuitWays$Paths" 66 "CircuitWays$Net" "room" "I" ∈ zt := zt_mem (List.mem_of_getElem? (i := 99) (by decide +kernel)) rfl
theorem f_Row_65 : Cond.fieldLink "CircuitWays$Row" 65 "CircuitWays$Net" "room" "I" ∈ zt := zt_mem (List.mem_of_getElem? (i := 100) (by decide +kernel)) rfl
theorem f_CW_222 : Cond.fieldLink "CircuitWays" 222 "CircuitWays$Net" "room" "I" ∈ zt := zt_mem (List.mem_of_getElem? (i := 101) (by decide +kernel)) rfl
theorem f_Net_34 : Cond.fieldLink "CircuitWays$Net" 34 "CircuitWays$Net" "open" "I" ∈ zt := zt_mem (List.mem_of_getElem? (i := 102) (by decide +kernel)) rfl
theorem f_Tai_87 : Cond.fieldLink "CircuitWays$Tails" 87 "CircuitWays$Net" "open" "I" ∈ zt := zt_mem (List.mem_of_getElem? (i := 103) (by decide +kernel)) rfl
theorem f_CW_225 : Cond.fieldLink "CircuitWays" 225 "CircuitWays$Net" "open" "I" ∈ zt := zt_mem (List.mem_of_getElem? (i := 104) (by decide +kernel)) rfl
theorem f_Net_37 : Cond.fieldLink "CircuitWays$Net" 37 "CircuitWays$Net" "changes" "I" ∈ zt := zt_mem (List.mem_of_getElem? (i := 105) (by decide +kernel)) rfl
theorem f_Sha_37 : Cond.fieldLink "CircuitWays$Shares" 37 "CircuitWays$Net" "changes" "I" ∈ zt := zt_mem (List.mem_of_getElem? (i := 106) (by decide +kernel)) rfl
theorem f_Fir_40 : Cond.fieldLink "CircuitWays$FirstPlan" 40 "CircuitWays$Net" "changes" "I" ∈ zt := zt_mem (List.mem_of_getElem? (i := 107) (by decide +kernel)) rfl
theorem f_Tai_41 : Cond.fieldLink "CircuitWays$Tails" 41 "CircuitWays$Net" "changes" "I" ∈ zt := zt_mem (List.mem_of_getElem? (i := 108) (by decide +kernel)) rfl
theorem f_Pat_30 : Cond.fieldLink "CircuitWays$Paths" 30 "CircuitWays$Paths" "net" "LCircuitWays$Net;" ∈ zt := zt_mem (List.mem_of_getElem? (i := 135) (by decide +kernel)) rfl
theorem f_Pat_9 : Cond.fieldLink "CircuitWays$Paths" 9 "CircuitWays$Paths" "setLoad" "[I" ∈ zt := zt_mem (List.mem_of_getElem? (i := 136) (by decide +kernel)) rfl
theorem f_Pat_15 : Cond.fieldLink "CircuitWays$Paths" 15 "CircuitWays$Paths" "followers" "[I" ∈ zt := zt_mem (List.mem_of_getElem? (i := 137) (by decide +kernel)) rfl
theorem f_Tai_57 : Cond.fieldLink "CircuitWays$Tails" 57 "CircuitWays$Paths" "followers" "[I" ∈ zt := zt_mem (List.mem_of_getElem? (i := 138) (by decide +kernel)) rfl
theorem f_Pat_18 : Cond.fieldLink "CircuitWays$Paths" 18 "CircuitWays$Paths" "pathCost" "[I" ∈ zt := zt_mem (List.mem_of_getElem? (i := 139) (by decide +kernel)) rfl
theorem f_Tai_94 : Cond.fieldLink "CircuitWays$Tails" 94 "CircuitWays$Paths" "pathCost" "[I" ∈ zt := zt_mem (List.mem_of_getElem? (i := 140) (by decide +kernel)) rfl
theorem f_Pat_21 : Cond.fieldLink "CircuitWays$Paths" 21 "CircuitWays$Paths" "pathWays" "[I" ∈ zt := zt_mem (List.mem_of_getElem? (i := 141) (by decide +kernel)) rfl
theorem f_Pat_24 : Cond.fieldLink "CircuitWays$Paths" 24 "CircuitWays$Paths" "roundCost" "[I" ∈ zt := zt_mem (List.mem_of_getElem? (i := 142) (by decide +kernel)) rfl
theorem f_Sha_80 : Cond.fieldLink "CircuitWays$Shares" 80 "CircuitWays$Paths" "roundCost" "[I" ∈ zt := zt_mem (List.mem_of_getElem? (i := 143) (by decide +kernel)) rfl
theorem f_Pat_27 : Cond.fieldLink "CircuitWays$Paths" 27 "CircuitWays$Paths" "roundWays" "[I" ∈ zt := zt_mem (List.mem_of_getElem? (i := 144) (by decide +kernel)) rfl
theorem f_Sha_83 : Cond.fieldLink "CircuitWays$Shares" 83 "CircuitWays$Paths" "roundWays" "[I" ∈ zt := zt_mem (List.mem_of_getElem? (i := 145) (by decide +kernel)) rfl
theorem f_Sha_29 : Cond.fieldLink "CircuitWays$Shares" 29 "CircuitWays$Shares" "net" "LCircuitWays$Net;" ∈ zt := zt_mem (List.mem_of_getElem? (i := 168) (by decide +kernel)) rfl
theorem f_Sha_33 : Cond.fieldLink "CircuitWays$Shares" 33 "CircuitWays$Shares" "paths" "LCircuitWays$Paths;" ∈ zt := zt_mem (List.mem_of_getElem? (i := 169) (by decide +kernel)) rfl
theorem f_Sha_9 : Cond.fieldLink "CircuitWays$Shares" 9 "CircuitWays$Shares" "cost" "[I" ∈ zt := zt_mem (List.mem_of_getElem? (i := 170) (by decide +kernel)) rfl
theorem f_Fir_57 : Cond.fieldLink "CircuitWays$FirstPlan" 57 "CircuitWays$Shares" "cost" "[I" ∈ zt := zt_mem (List.mem_of_getElem? (i := 171) (by decide +kernel)) rfl
theorem f_Tai_72 : Cond.fieldLink "CircuitWays$Tails" 72 "CircuitWays$Shares" "cost" "[I" ∈ zt := zt_mem (List.mem_of_getElem? (i := 172) (by decide +kernel)) rfl
theorem f_Sha_15 : Cond.fieldLink "CircuitWays$Shares" 15 "CircuitWays$Shares" "waysOf" "[I" ∈ zt := zt_mem (List.mem_of_getElem? (i := 173) (by decide +kernel)) rfl
theorem f_Sha_19 : Cond.fieldLink "CircuitWays$Shares" 19 "CircuitWays$Shares" "least" "I" ∈ zt := zt_mem (List.mem_of_getElem? (i := 174) (by decide +kernel)) rfl
theorem f_Sha_23 : Cond.fieldLink "CircuitWays$Shares" 23 "CircuitWays$Shares" "leastCount" "I" ∈ zt := zt_mem (List.mem_of_getElem? (i := 175) (by decide +kernel)) rfl
theorem f_Sha_26 : Cond.fieldLink "CircuitWays$Shares" 26 "CircuitWays$Shares" "seen" "I" ∈ zt := zt_mem (List.mem_of_getElem? (i := 176) (by decide +kernel)) rfl
theorem f_Tai_29 : Cond.fieldLink "CircuitWays$Tails" 29 "CircuitWays$Tails" "net" "LCircuitWays$Net;" ∈ zt := zt_mem (List.mem_of_getElem? (i := 198) (by decide +kernel)) rfl
theorem f_Tai_33 : Cond.fieldLink "CircuitWays$Tails" 33 "CircuitWays$Tails" "paths" "LCircuitWays$Paths;" ∈ zt := zt_mem (List.mem_of_getElem? (i := 199) (by decide +kernel)) rfl
theorem f_Tai_37 : Cond.fieldLink "CircuitWays$Tails" 37 "CircuitWays$Tails" "shares" "LCircuitWays$Shares;" ∈ zt := zt_mem (List.mem_of_getElem? (i := 200) (by decide +kernel)) rfl
theorem f_Tai_9 : Cond.fieldLink "CircuitWays$Tails" 9 "CircuitWays$Tails" "cost" "[I" ∈ zt := zt_mem (List.mem_of_getElem? (i := 201) (by decide +kernel)) rfl
theorem f_Tai_15 : Cond.fieldLink "CircuitWays$Tails" 15 "CircuitWays$Tails" "above" "[Z" ∈ zt := zt_mem (List.mem_of_getElem? (i := 202) (by decide +kernel)) rfl
theorem f_Tai_19 : Cond.fieldLink "CircuitWays$Tails" 19 "CircuitWays$Tails" "seen" "I" ∈ zt := zt_mem (List.mem_of_getElem? (i := 203) (by decide +kernel)) rfl
theorem f_Tai_23 : Cond.fieldLink "CircuitWays$Tails" 23 "CircuitWays$Tails" "free" "I" ∈ zt := zt_mem (List.mem_of_getElem? (i := 204) (by decide +kernel)) rfl
theorem f_Tai_26 : Cond.fieldLink "CircuitWays$Tails" 26 "CircuitWays$Tails" "rounds" "I" ∈ zt := zt_mem (List.mem_of_getElem? (i := 205) (by decide +kernel)) rfl
theorem f_Fir_28 : Cond.fieldLink "CircuitWays$FirstPlan" 28 "CircuitWays$FirstPlan" "net" "LCircuitWays$Net;" ∈ zt := zt_mem (List.mem_of_getElem? (i := 230) (by decide +kernel)) rfl
theorem f_Fir_32 : Cond.fieldLink "CircuitWays$FirstPlan" 32 "CircuitWays$FirstPlan" "shares" "LCircuitWays$Shares;" ∈ zt := zt_mem (List.mem_of_getElem? (i := 231) (by decide +kernel)) rfl
theorem f_Fir_36 : Cond.fieldLink "CircuitWays$FirstPlan" 36 "CircuitWays$FirstPlan" "tails" "LCircuitWays$Tails;" ∈ zt := zt_mem (List.mem_of_getElem? (i := 232) (by decide +kernel)) rfl
theorem f_Fir_9 : Cond.fieldLink "CircuitWays$FirstPlan" 9 "CircuitWays$FirstPlan" "written" "[I" ∈ zt := zt_mem (List.mem_of_getElem? (i := 233) (by decide +kernel)) rfl
theorem f_CW_141 : Cond.fieldLink "CircuitWays" 141 "CircuitWays$FirstPlan" "written" "[I" ∈ zt := zt_mem (List.mem_of_getElem? (i := 234) (by decide +kernel)) rfl
theorem f_Fir_15 : Cond.fieldLink "CircuitWays$FirstPlan" 15 "CircuitWays$FirstPlan" "length" "I" ∈ zt := zt_mem (List.mem_of_getElem? (i := 235) (by decide +kernel)) rfl
theorem f_CW_138 : Cond.fieldLink "CircuitWays" 138 "CircuitWays$FirstPlan" "length" "I" ∈ zt := zt_mem (List.mem_of_getElem? (i := 236) (by decide +kernel)) rfl
theorem f_Fir_19 : Cond.fieldLink "CircuitWays$FirstPlan" 19 "CircuitWays$FirstPlan" "seen" "I" ∈ zt := zt_mem (List.mem_of_getElem? (i := 237) (by decide +kernel)) rfl
theorem f_Fir_22 : Cond.fieldLink "CircuitWays$FirstPlan" 22 "CircuitWays$FirstPlan" "due" "I" ∈ zt := zt_mem (List.mem_of_getElem? (i := 238) (by decide +kernel)) rfl
theorem f_Fir_25 : Cond.fieldLink "CircuitWays$FirstPlan" 25 "CircuitWays$FirstPlan" "free" "I" ∈ zt := zt_mem (List.mem_of_getElem? (i := 239) (by decide +kernel)) rfl
theorem f_Tre_31 : Cond.fieldLink "CircuitWays$Tree" 31 "CircuitWays$Tree" "net" "LCircuitWays$Net;" ∈ zt := zt_mem (List.mem_of_getElem? (i := 263) (by decide +kernel)) rfl
theorem f_Tre_9 : Cond.fieldLink "CircuitWays$Tree" 9 "CircuitWays$Tree" "weights" "[I" ∈ zt := zt_mem (List.mem_of_getElem? (i := 264) (by decide +kernel)) rfl
theorem f_Tre_15 : Cond.fieldLink "CircuitWays$Tree" 15 "CircuitWays$Tree" "part" "[I" ∈ zt := zt_mem (List.mem_of_getElem? (i := 265) (by decide +kernel)) rfl
theorem f_Tre_18 : Cond.fieldLink "CircuitWays$Tree" 18 "CircuitWays$Tree" "lesser" "[I" ∈ zt := zt_mem (List.mem_of_getElem? (i := 266) (by decide +kernel)) rfl
theorem f_CW_181 : Cond.fieldLink "CircuitWays" 181 "CircuitWays$Tree" "lesser" "[I" ∈ zt := zt_mem (List.mem_of_getElem? (i := 267) (by decide +kernel)) rfl
theorem f_Tre_21 : Cond.fieldLink "CircuitWays$Tree" 21 "CircuitWays$Tree" "other" "[I" ∈ zt := zt_mem (List.mem_of_getElem? (i := 268) (by decide +kernel)) rfl
theorem f_CW_184 : Cond.fieldLink "CircuitWays" 184 "CircuitWays$Tree" "other" "[I" ∈ zt := zt_mem (List.mem_of_getElem? (i := 269) (by decide +kernel)) rfl
theorem f_Tre_24 : Cond.fieldLink "CircuitWays$Tree" 24 "CircuitWays$Tree" "chosen" "I" ∈ zt := zt_mem (List.mem_of_getElem? (i := 270) (by decide +kernel)) rfl
theorem f_CW_178 : Cond.fieldLink "CircuitWays" 178 "CircuitWays$Tree" "chosen" "I" ∈ zt := zt_mem (List.mem_of_getElem? (i := 271) (by decide +kernel)) rfl
theorem f_Tre_28 : Cond.fieldLink "CircuitWays$Tree" 28 "CircuitWays$Tree" "cost" "I" ∈ zt := zt_mem (List.mem_of_getElem? (i := 272) (by decide +kernel)) rfl
theorem f_Pai_15 : Cond.fieldLink "CircuitWays$Pairs" 15 "CircuitWays$Pairs" "net" "LCircuitWays$Net;" ∈ zt := zt_mem (List.mem_of_getElem? (i := 294) (by decide +kernel)) rfl
theorem f_Pai_9 : Cond.fieldLink "CircuitWays$Pairs" 9 "CircuitWays$Pairs" "cost" "[I" ∈ zt := zt_mem (List.mem_of_getElem? (i := 295) (by decide +kernel)) rfl
theorem f_Cir_18 : Cond.fieldLink "CircuitWays$Circles" 18 "CircuitWays$Circles" "net" "LCircuitWays$Net;" ∈ zt := zt_mem (List.mem_of_getElem? (i := 307) (by decide +kernel)) rfl
theorem f_Cir_9 : Cond.fieldLink "CircuitWays$Circles" 9 "CircuitWays$Circles" "follower" "[I" ∈ zt := zt_mem (List.mem_of_getElem? (i := 308) (by decide +kernel)) rfl
theorem f_Cir_15 : Cond.fieldLink "CircuitWays$Circles" 15 "CircuitWays$Circles" "members" "[I" ∈ zt := zt_mem (List.mem_of_getElem? (i := 309) (by decide +kernel)) rfl
theorem f_CW_197 : Cond.fieldLink "CircuitWays" 197 "CircuitWays$Circles" "members" "[I" ∈ zt := zt_mem (List.mem_of_getElem? (i := 310) (by decide +kernel)) rfl
theorem f_Way_15 : Cond.fieldLink "CircuitWays$Ways" 15 "CircuitWays$Ways" "net" "LCircuitWays$Net;" ∈ zt := zt_mem (List.mem_of_getElem? (i := 324) (by decide +kernel)) rfl
theorem f_Way_9 : Cond.fieldLink "CircuitWays$Ways" 9 "CircuitWays$Ways" "reachedWithout" "[I" ∈ zt := zt_mem (List.mem_of_getElem? (i := 325) (by decide +kernel)) rfl
theorem f_Row_22 : Cond.fieldLink "CircuitWays$Row" 22 "CircuitWays$Row" "net" "LCircuitWays$Net;" ∈ zt := zt_mem (List.mem_of_getElem? (i := 337) (by decide +kernel)) rfl
theorem f_Row_9 : Cond.fieldLink "CircuitWays$Row" 9 "CircuitWays$Row" "numbers" "[I" ∈ zt := zt_mem (List.mem_of_getElem? (i := 338) (by decide +kernel)) rfl
theorem f_Row_15 : Cond.fieldLink "CircuitWays$Row" 15 "CircuitWays$Row" "trial" "[I" ∈ zt := zt_mem (List.mem_of_getElem? (i := 339) (by decide +kernel)) rfl
theorem f_Row_18 : Cond.fieldLink "CircuitWays$Row" 18 "CircuitWays$Row" "size" "I" ∈ zt := zt_mem (List.mem_of_getElem? (i := 340) (by decide +kernel)) rfl
theorem f_CW_203 : Cond.fieldLink "CircuitWays" 203 "CircuitWays$Row" "size" "I" ∈ zt := zt_mem (List.mem_of_getElem? (i := 341) (by decide +kernel)) rfl
theorem f_CW_10 : Cond.fieldLink "CircuitWays" 10 "CircuitWays" "net" "LCircuitWays$Net;" ∈ zt := zt_mem (List.mem_of_getElem? (i := 351) (by decide +kernel)) rfl
theorem f_CW_26 : Cond.fieldLink "CircuitWays" 26 "CircuitWays" "shares" "LCircuitWays$Shares;" ∈ zt := zt_mem (List.mem_of_getElem? (i := 352) (by decide +kernel)) rfl
theorem f_CW_35 : Cond.fieldLink "CircuitWays" 35 "CircuitWays" "tails" "LCircuitWays$Tails;" ∈ zt := zt_mem (List.mem_of_getElem? (i := 353) (by decide +kernel)) rfl
theorem f_CW_44 : Cond.fieldLink "CircuitWays" 44 "CircuitWays" "firstPlan" "LCircuitWays$FirstPlan;" ∈ zt := zt_mem (List.mem_of_getElem? (i := 354) (by decide +kernel)) rfl
theorem f_CW_51 : Cond.fieldLink "CircuitWays" 51 "CircuitWays" "tree" "LCircuitWays$Tree;" ∈ zt := zt_mem (List.mem_of_getElem? (i := 355) (by decide +kernel)) rfl
theorem f_CW_58 : Cond.fieldLink "CircuitWays" 58 "CircuitWays" "pairs" "LCircuitWays$Pairs;" ∈ zt := zt_mem (List.mem_of_getElem? (i := 356) (by decide +kernel)) rfl
theorem f_CW_65 : Cond.fieldLink "CircuitWays" 65 "CircuitWays" "circles" "LCircuitWays$Circles;" ∈ zt := zt_mem (List.mem_of_getElem? (i := 357) (by decide +kernel)) rfl
theorem f_CW_72 : Cond.fieldLink "CircuitWays" 72 "CircuitWays" "ways" "LCircuitWays$Ways;" ∈ zt := zt_mem (List.mem_of_getElem? (i := 358) (by decide +kernel)) rfl
theorem f_CW_79 : Cond.fieldLink "CircuitWays" 79 "CircuitWays" "row" "LCircuitWays$Row;" ∈ zt := zt_mem (List.mem_of_getElem? (i := 359) (by decide +kernel)) rfl
theorem f_Mo_1 : Cond.fieldLink "CircuitWaysModel" 1 "CircuitWaysModel" "thrown" "I" ∈ zt := zt_mem (List.mem_of_getElem? (i := 792) (by decide +kernel)) rfl
theorem f_Mo_13 : Cond.fieldLink "CircuitWaysModel" 13 "CircuitWaysModel" "nodes" "I" ∈ zt := zt_mem (List.mem_of_getElem? (i := 793) (by decide +kernel)) rfl
theorem f_Mo_16 : Cond.fieldLink "CircuitWaysModel" 16 "CircuitWaysModel" "load" "[I" ∈ zt := zt_mem (List.mem_of_getElem? (i := 794) (by decide +kernel)) rfl
theorem f_Mo_20 : Cond.fieldLink "CircuitWaysModel" 20 "CircuitWaysModel" "arc" "[I" ∈ zt := zt_mem (List.mem_of_getElem? (i := 795) (by decide +kernel)) rfl
theorem f_Mo_23 : Cond.fieldLink "CircuitWaysModel" 23 "CircuitWaysModel" "price" "[I" ∈ zt := zt_mem (List.mem_of_getElem? (i := 796) (by decide +kernel)) rfl
theorem f_Mo_26 : Cond.fieldLink "CircuitWaysModel" 26 "CircuitWaysModel" "isAhead" "[Z" ∈ zt := zt_mem (List.mem_of_getElem? (i := 797) (by decide +kernel)) rfl
theorem f_Mo_30 : Cond.fieldLink "CircuitWaysModel" 30 "CircuitWaysModel" "most" "I" ∈ zt := zt_mem (List.mem_of_getElem? (i := 798) (by decide +kernel)) rfl
theorem f_Mo_33 : Cond.fieldLink "CircuitWaysModel" 33 "CircuitWaysModel" "room" "I" ∈ zt := zt_mem (List.mem_of_getElem? (i := 799) (by decide +kernel)) rfl
theorem f_Mo_89 : Cond.fieldLink "CircuitWaysModel" 89 "CircuitWaysModel" "open" "I" ∈ zt := zt_mem (List.mem_of_getElem? (i := 800) (by decide +kernel)) rfl
theorem f_Mo_36 : Cond.fieldLink "CircuitWaysModel" 36 "CircuitWaysModel" "weight" "[I" ∈ zt := zt_mem (List.mem_of_getElem? (i := 801) (by decide +kernel)) rfl
theorem f_Mo_39 : Cond.fieldLink "CircuitWaysModel" 39 "CircuitWaysModel" "next" "[I" ∈ zt := zt_mem (List.mem_of_getElem? (i := 802) (by decide +kernel)) rfl
theorem f_Mo_42 : Cond.fieldLink "CircuitWaysModel" 42 "CircuitWaysModel" "row" "[I" ∈ zt := zt_mem (List.mem_of_getElem? (i := 803) (by decide +kernel)) rfl
theorem f_Mo_181 : Cond.fieldLink "CircuitWaysModel" 181 "CircuitWaysModel" "rowSize" "I" ∈ zt := zt_mem (List.mem_of_getElem? (i := 804) (by decide +kernel)) rfl
theorem f_Mo_80 : Cond.fieldLink "CircuitWaysModel" 80 "CircuitWaysModel" "isKnown" "Z" ∈ zt := zt_mem (List.mem_of_getElem? (i := 805) (by decide +kernel)) rfl
theorem f_Mo_102 : Cond.fieldLink "CircuitWaysModel" 102 "CircuitWaysModel" "best" "I" ∈ zt := zt_mem (List.mem_of_getElem? (i := 806) (by decide +kernel)) rfl
theorem f_Mo_105 : Cond.fieldLink "CircuitWaysModel" 105 "CircuitWaysModel" "many" "I" ∈ zt := zt_mem (List.mem_of_getElem? (i := 807) (by decide +kernel)) rfl
theorem f_Mo_45 : Cond.fieldLink "CircuitWaysModel" 45 "CircuitWaysModel" "with" "[I" ∈ zt := zt_mem (List.mem_of_getElem? (i := 808) (by decide +kernel)) rfl
theorem f_Mo_48 : Cond.fieldLink "CircuitWaysModel" 48 "CircuitWaysModel" "without" "[I" ∈ zt := zt_mem (List.mem_of_getElem? (i := 809) (by decide +kernel)) rfl
theorem f_Mo_51 : Cond.fieldLink "CircuitWaysModel" 51 "CircuitWaysModel" "first" "[I" ∈ zt := zt_mem (List.mem_of_getElem? (i := 810) (by decide +kernel)) rfl
theorem f_Mo_108 : Cond.fieldLink "CircuitWaysModel" 108 "CircuitWaysModel" "firstSize" "I" ∈ zt := zt_mem (List.mem_of_getElem? (i := 811) (by decide +kernel)) rfl
theorem f_Mo_54 : Cond.fieldLink "CircuitWaysModel" 54 "CircuitWaysModel" "written" "[I" ∈ zt := zt_mem (List.mem_of_getElem? (i := 812) (by decide +kernel)) rfl
theorem f_Mo_115 : Cond.fieldLink "CircuitWaysModel" 115 "CircuitWaysModel" "writtenSize" "I" ∈ zt := zt_mem (List.mem_of_getElem? (i := 813) (by decide +kernel)) rfl
theorem f_Mo_92 : Cond.fieldLink "CircuitWaysModel" 92 "CircuitWaysModel" "used" "I" ∈ zt := zt_mem (List.mem_of_getElem? (i := 814) (by decide +kernel)) rfl
theorem f_Mo_98 : Cond.fieldLink "CircuitWaysModel" 98 "CircuitWaysModel" "here" "I" ∈ zt := zt_mem (List.mem_of_getElem? (i := 815) (by decide +kernel)) rfl
theorem f_Mo_95 : Cond.fieldLink "CircuitWaysModel" 95 "CircuitWaysModel" "hereLoad" "I" ∈ zt := zt_mem (List.mem_of_getElem? (i := 816) (by decide +kernel)) rfl
theorem f_Mo_122 : Cond.fieldLink "CircuitWaysModel" 122 "CircuitWaysModel" "rounds" "I" ∈ zt := zt_mem (List.mem_of_getElem? (i := 817) (by decide +kernel)) rfl
theorem f_Mo_57 : Cond.fieldLink "CircuitWaysModel" 57 "CircuitWaysModel" "edgeA" "[I" ∈ zt := zt_mem (List.mem_of_getElem? (i := 818) (by decide +kernel)) rfl
theorem f_Mo_60 : Cond.fieldLink "CircuitWaysModel" 60 "CircuitWaysModel" "edgeB" "[I" ∈ zt := zt_mem (List.mem_of_getElem? (i := 819) (by decide +kernel)) rfl
theorem f_Mo_150 : Cond.fieldLink "CircuitWaysModel" 150 "CircuitWaysModel" "edges" "I" ∈ zt := zt_mem (List.mem_of_getElem? (i := 820) (by decide +kernel)) rfl
theorem f_Mo_63 : Cond.fieldLink "CircuitWaysModel" 63 "CircuitWaysModel" "part" "[I" ∈ zt := zt_mem (List.mem_of_getElem? (i := 821) (by decide +kernel)) rfl
theorem f_Mo_66 : Cond.fieldLink "CircuitWaysModel" 66 "CircuitWaysModel" "paired" "[I" ∈ zt := zt_mem (List.mem_of_getElem? (i := 822) (by decide +kernel)) rfl
theorem m_La_9 : Cond.methodLink "CircuitWaysLaw" 9 (⟨"CircuitWays", "<init>", "()V"⟩ : MethodName) ∈ zt := zt_mem (List.mem_of_getElem? (i := 56) (by decide +kernel)) rfl
theorem m_CW_1 : Cond.methodLink "CircuitWays" 1 (⟨"java/lang/Object", "<init>", "()V"⟩ : MethodName) ∈ zt := zt_mem (List.mem_of_getElem? (i := 59) (by decide +kernel)) rfl
theorem m_CW_9 : Cond.methodLink "CircuitWays" 9 (⟨"CircuitWays$Net", "<init>", "()V"⟩ : MethodName) ∈ zt := zt_mem (List.mem_of_getElem? (i := 64) (by decide +kernel)) rfl
theorem m_Net_3 : Cond.methodLink "CircuitWays$Net" 3 (⟨"java/lang/Object", "<init>", "()V"⟩ : MethodName) ∈ zt := zt_mem (List.mem_of_getElem? (i := 67) (by decide +kernel)) rfl
theorem m_CW_18 : Cond.methodLink "CircuitWays" 18 (⟨"CircuitWays$Paths", "<init>", "(LCircuitWays$Net;)V"⟩ : MethodName) ∈ zt := zt_mem (List.mem_of_getElem? (i := 131) (by decide +kernel)) rfl
theorem m_Pat_3 : Cond.methodLink "CircuitWays$Paths" 3 (⟨"java/lang/Object", "<init>", "()V"⟩ : MethodName) ∈ zt := zt_mem (List.mem_of_getElem? (i := 134) (by decide +kernel)) rfl
theorem m_CW_23 : Cond.methodLink "CircuitWays" 23 (⟨"CircuitWays$Shares", "<init>", "(LCircuitWays$Net;LCircuitWays$Paths;)V"⟩ : MethodName) ∈ zt := zt_mem (List.mem_of_getElem? (i := 163) (by decide +kernel)) rfl
theorem m_Sha_3 : Cond.methodLink "CircuitWays$Shares" 3 (⟨"java/lang/Object", "<init>", "()V"⟩ : MethodName) ∈ zt := zt_mem (List.mem_of_getElem? (i := 166) (by decide +kernel)) rfl
theorem m_CW_32 : Cond.methodLink "CircuitWays" 32 (⟨"CircuitWays$Tails", "<init>", "(LCircuitWays$Net;LCircuitWays$Paths;LCircuitWays$Shares;)V"⟩ : MethodName) ∈ zt := zt_mem (List.mem_of_getElem? (i := 194) (by decide +kernel)) rfl
theorem m_Tai_3 : Cond.methodLink "CircuitWays$Tails" 3 (⟨"java/lang/Object", "<init>", "()V"⟩ : MethodName) ∈ zt := zt_mem (List.mem_of_getElem? (i := 197) (by decide +kernel)) rfl
theorem m_CW_41 : Cond.methodLink "CircuitWays" 41 (⟨"CircuitWays$FirstPlan", "<init>", "(LCircuitWays$Net;LCircuitWays$Shares;LCircuitWays$Tails;)V"⟩ : MethodName) ∈ zt := zt_mem (List.mem_of_getElem? (i := 226) (by decide +kernel)) rfl
theorem m_Fir_3 : Cond.methodLink "CircuitWays$FirstPlan" 3 (⟨"java/lang/Object", "<init>", "()V"⟩ : MethodName) ∈ zt := zt_mem (List.mem_of_getElem? (i := 229) (by decide +kernel)) rfl
theorem m_CW_50 : Cond.methodLink "CircuitWays" 50 (⟨"CircuitWays$Tree", "<init>", "(LCircuitWays$Net;)V"⟩ : MethodName) ∈ zt := zt_mem (List.mem_of_getElem? (i := 259) (by decide +kernel)) rfl
theorem m_Tre_3 : Cond.methodLink "CircuitWays$Tree" 3 (⟨"java/lang/Object", "<init>", "()V"⟩ : MethodName) ∈ zt := zt_mem (List.mem_of_getElem? (i := 262) (by decide +kernel)) rfl
theorem m_CW_57 : Cond.methodLink "CircuitWays" 57 (⟨"CircuitWays$Pairs", "<init>", "(LCircuitWays$Net;)V"⟩ : MethodName) ∈ zt := zt_mem (List.mem_of_getElem? (i := 290) (by decide +kernel)) rfl
theorem m_Pai_3 : Cond.methodLink "CircuitWays$Pairs" 3 (⟨"java/lang/Object", "<init>", "()V"⟩ : MethodName) ∈ zt := zt_mem (List.mem_of_getElem? (i := 293) (by decide +kernel)) rfl
theorem m_CW_64 : Cond.methodLink "CircuitWays" 64 (⟨"CircuitWays$Circles", "<init>", "(LCircuitWays$Net;)V"⟩ : MethodName) ∈ zt := zt_mem (List.mem_of_getElem? (i := 303) (by decide +kernel)) rfl
theorem m_Cir_3 : Cond.methodLink "CircuitWays$Circles" 3 (⟨"java/lang/Object", "<init>", "()V"⟩ : MethodName) ∈ zt := zt_mem (List.mem_of_getElem? (i := 306) (by decide +kernel)) rfl
theorem m_CW_71 : Cond.methodLink "CircuitWays" 71 (⟨"CircuitWays$Ways", "<init>", "(LCircuitWays$Net;)V"⟩ : MethodName) ∈ zt := zt_mem (List.mem_of_getElem? (i := 320) (by decide +kernel)) rfl
theorem m_Way_3 : Cond.methodLink "CircuitWays$Ways" 3 (⟨"java/lang/Object", "<init>", "()V"⟩ : MethodName) ∈ zt := zt_mem (List.mem_of_getElem? (i := 323) (by decide +kernel)) rfl
theorem m_CW_78 : Cond.methodLink "CircuitWays" 78 (⟨"CircuitWays$Row", "<init>", "(LCircuitWays$Net;)V"⟩ : MethodName) ∈ zt := zt_mem (List.mem_of_getElem? (i := 333) (by decide +kernel)) rfl
theorem m_Row_3 : Cond.methodLink "CircuitWays$Row" 3 (⟨"java/lang/Object", "<init>", "()V"⟩ : MethodName) ∈ zt := zt_mem (List.mem_of_getElem? (i := 336) (by decide +kernel)) rfl
theorem m_La_13 : Cond.methodLink "CircuitWaysLaw" 13 (⟨"CircuitWays", "node", "(I)I"⟩ : MethodName) ∈ zt := zt_mem (List.mem_of_getElem? (i := 379) (by decide +kernel)) rfl
theorem m_CW_89 : Cond.methodLink "CircuitWays" 89 (⟨"CircuitWays$Net", "addNode", "(I)I"⟩ : MethodName) ∈ zt := zt_mem (List.mem_of_getElem? (i := 385) (by decide +kernel)) rfl
theorem m_La_18 : Cond.methodLink "CircuitWaysLaw" 18 (⟨"CircuitWays", "arc", "(III)I"⟩ : MethodName) ∈ zt := zt_mem (List.mem_of_getElem? (i := 389) (by decide +kernel)) rfl
theorem m_CW_93 : Cond.methodLink "CircuitWays" 93 (⟨"CircuitWays$Net", "areTwo", "(II)Z"⟩ : MethodName) ∈ zt := zt_mem (List.mem_of_getElem? (i := 393) (by decide +kernel)) rfl
theorem m_Net_41 : Cond.methodLink "CircuitWays$Net" 41 (⟨"CircuitWays$Net", "isNode", "(I)Z"⟩ : MethodName) ∈ zt := zt_mem (List.mem_of_getElem? (i := 397) (by decide +kernel)) rfl
theorem m_CW_97 : Cond.methodLink "CircuitWays" 97 (⟨"CircuitWays$Net", "changeCost", "(III)I"⟩ : MethodName) ∈ zt := zt_mem (List.mem_of_getElem? (i := 401) (by decide +kernel)) rfl
theorem m_CW_101 : Cond.methodLink "CircuitWays" 101 (⟨"CircuitWays", "orNone", "(I)I"⟩ : MethodName) ∈ zt := zt_mem (List.mem_of_getElem? (i := 405) (by decide +kernel)) rfl
theorem m_La_23 : Cond.methodLink "CircuitWaysLaw" 23 (⟨"CircuitWays", "lose", "(II)I"⟩ : MethodName) ∈ zt := zt_mem (List.mem_of_getElem? (i := 410) (by decide +kernel)) rfl
theorem m_La_28 : Cond.methodLink "CircuitWaysLaw" 28 (⟨"CircuitWays", "price", "(II)I"⟩ : MethodName) ∈ zt := zt_mem (List.mem_of_getElem? (i := 414) (by decide +kernel)) rfl
theorem m_CW_105 : Cond.methodLink "CircuitWays" 105 (⟨"CircuitWays$Net", "isPlace", "(I)Z"⟩ : MethodName) ∈ zt := zt_mem (List.mem_of_getElem? (i := 418) (by decide +kernel)) rfl
theorem m_CW_109 : Cond.methodLink "CircuitWays" 109 (⟨"CircuitWays$Net", "changePrice", "(II)I"⟩ : MethodName) ∈ zt := zt_mem (List.mem_of_getElem? (i := 422) (by decide +kernel)) rfl
theorem m_La_32 : Cond.methodLink "CircuitWaysLaw" 32 (⟨"CircuitWays", "ahead", "(IIZ)I"⟩ : MethodName) ∈ zt := zt_mem (List.mem_of_getElem? (i := 426) (by decide +kernel)) rfl
theorem m_CW_113 : Cond.methodLink "CircuitWays" 113 (⟨"CircuitWays$Net", "changeEarlier", "(IIZ)I"⟩ : MethodName) ∈ zt := zt_mem (List.mem_of_getElem? (i := 430) (by decide +kernel)) rfl
theorem m_La_37 : Cond.methodLink "CircuitWaysLaw" 37 (⟨"CircuitWays", "rule", "(II)I"⟩ : MethodName) ∈ zt := zt_mem (List.mem_of_getElem? (i := 437) (by decide +kernel)) rfl
theorem m_CW_117 : Cond.methodLink "CircuitWays" 117 (⟨"CircuitWays$Net", "changeMost", "(I)I"⟩ : MethodName) ∈ zt := zt_mem (List.mem_of_getElem? (i := 441) (by decide +kernel)) rfl
theorem m_CW_120 : Cond.methodLink "CircuitWays" 120 (⟨"CircuitWays$Net", "changeRoom", "(I)I"⟩ : MethodName) ∈ zt := zt_mem (List.mem_of_getElem? (i := 445) (by decide +kernel)) rfl
theorem m_CW_123 : Cond.methodLink "CircuitWays" 123 (⟨"CircuitWays$Net", "changeOpen", "(I)I"⟩ : MethodName) ∈ zt := zt_mem (List.mem_of_getElem? (i := 449) (by decide +kernel)) rfl
theorem m_La_41 : Cond.methodLink "CircuitWaysLaw" 41 (⟨"CircuitWays", "best", "()I"⟩ : MethodName) ∈ zt := zt_mem (List.mem_of_getElem? (i := 453) (by decide +kernel)) rfl
theorem m_CW_126 : Cond.methodLink "CircuitWays" 126 (⟨"CircuitWays$Shares", "refresh", "()V"⟩ : MethodName) ∈ zt := zt_mem (List.mem_of_getElem? (i := 457) (by decide +kernel)) rfl
theorem m_Sha_42 : Cond.methodLink "CircuitWays$Shares" 42 (⟨"CircuitWays$Paths", "compute", "()V"⟩ : MethodName) ∈ zt := zt_mem (List.mem_of_getElem? (i := 461) (by decide +kernel)) rfl
theorem m_Pat_34 : Cond.methodLink "CircuitWays$Paths" 34 (⟨"CircuitWays$Paths", "addLoads", "()V"⟩ : MethodName) ∈ zt := zt_mem (List.mem_of_getElem? (i := 465) (by decide +kernel)) rfl
theorem m_Pat_37 : Cond.methodLink "CircuitWays$Paths" 37 (⟨"CircuitWays$Paths", "clearPaths", "()V"⟩ : MethodName) ∈ zt := zt_mem (List.mem_of_getElem? (i := 470) (by decide +kernel)) rfl
theorem m_Pat_40 : Cond.methodLink "CircuitWays$Paths" 40 (⟨"CircuitWays$Net", "allPlaces", "()I"⟩ : MethodName) ∈ zt := zt_mem (List.mem_of_getElem? (i := 474) (by decide +kernel)) rfl
theorem m_Pat_46 : Cond.methodLink "CircuitWays$Paths" 46 (⟨"CircuitWays$Paths", "followersOf", "(I)I"⟩ : MethodName) ∈ zt := zt_mem (List.mem_of_getElem? (i := 479) (by decide +kernel)) rfl
theorem m_Pat_55 : Cond.methodLink "CircuitWays$Paths" 55 (⟨"CircuitWays$Paths", "extend", "(II)V"⟩ : MethodName) ∈ zt := zt_mem (List.mem_of_getElem? (i := 483) (by decide +kernel)) rfl
theorem m_Pat_59 : Cond.methodLink "CircuitWays$Paths" 59 (⟨"CircuitWays$Paths", "closeRound", "(I)V"⟩ : MethodName) ∈ zt := zt_mem (List.mem_of_getElem? (i := 487) (by decide +kernel)) rfl
theorem m_Pat_78 : Cond.methodLink "CircuitWays$Paths" 78 (⟨"CircuitWays$Net", "costBack", "(I)I"⟩ : MethodName) ∈ zt := zt_mem (List.mem_of_getElem? (i := 491) (by decide +kernel)) rfl
theorem m_Sha_47 : Cond.methodLink "CircuitWays$Shares" 47 (⟨"CircuitWays$Net", "allPlaces", "()I"⟩ : MethodName) ∈ zt := zt_mem (List.mem_of_getElem? (i := 498) (by decide +kernel)) rfl
theorem m_Sha_51 : Cond.methodLink "CircuitWays$Shares" 51 (⟨"CircuitWays$Net", "costOut", "(I)I"⟩ : MethodName) ∈ zt := zt_mem (List.mem_of_getElem? (i := 499) (by decide +kernel)) rfl
theorem m_Sha_58 : Cond.methodLink "CircuitWays$Shares" 58 (⟨"java/lang/Integer", "bitCount", "(I)I"⟩ : MethodName) ∈ zt := zt_mem (List.mem_of_getElem? (i := 504) (by decide +kernel)) rfl
theorem m_Sha_63 : Cond.methodLink "CircuitWays$Shares" 63 (⟨"CircuitWays$Shares", "copyShare", "(II)V"⟩ : MethodName) ∈ zt := zt_mem (List.mem_of_getElem? (i := 510) (by decide +kernel)) rfl
theorem m_Sha_67 : Cond.methodLink "CircuitWays$Shares" 67 (⟨"CircuitWays$Shares", "share", "(II)V"⟩ : MethodName) ∈ zt := zt_mem (List.mem_of_getElem? (i := 514) (by decide +kernel)) rfl
theorem m_Sha_77 : Cond.methodLink "CircuitWays$Shares" 77 (⟨"CircuitWays$Shares", "offer", "(II)V"⟩ : MethodName) ∈ zt := zt_mem (List.mem_of_getElem? (i := 519) (by decide +kernel)) rfl
theorem m_CW_129 : Cond.methodLink "CircuitWays" 129 (⟨"CircuitWays$Shares", "leastCost", "()I"⟩ : MethodName) ∈ zt := zt_mem (List.mem_of_getElem? (i := 523) (by decide +kernel)) rfl
theorem m_La_46 : Cond.methodLink "CircuitWaysLaw" 46 (⟨"CircuitWays", "many", "()I"⟩ : MethodName) ∈ zt := zt_mem (List.mem_of_getElem? (i := 527) (by decide +kernel)) rfl
theorem m_CW_133 : Cond.methodLink "CircuitWays" 133 (⟨"CircuitWays$Shares", "leastWays", "()I"⟩ : MethodName) ∈ zt := zt_mem (List.mem_of_getElem? (i := 531) (by decide +kernel)) rfl
theorem m_La_50 : Cond.methodLink "CircuitWaysLaw" 50 (⟨"CircuitWays", "first", "(I)I"⟩ : MethodName) ∈ zt := zt_mem (List.mem_of_getElem? (i := 535) (by decide +kernel)) rfl
theorem m_CW_137 : Cond.methodLink "CircuitWays" 137 (⟨"CircuitWays$FirstPlan", "refresh", "()V"⟩ : MethodName) ∈ zt := zt_mem (List.mem_of_getElem? (i := 539) (by decide +kernel)) rfl
theorem m_Fir_45 : Cond.methodLink "CircuitWays$FirstPlan" 45 (⟨"CircuitWays$Shares", "leastCost", "()I"⟩ : MethodName) ∈ zt := zt_mem (List.mem_of_getElem? (i := 543) (by decide +kernel)) rfl
theorem m_Fir_51 : Cond.methodLink "CircuitWays$FirstPlan" 51 (⟨"CircuitWays$Net", "allPlaces", "()I"⟩ : MethodName) ∈ zt := zt_mem (List.mem_of_getElem? (i := 544) (by decide +kernel)) rfl
theorem m_Fir_60 : Cond.methodLink "CircuitWays$FirstPlan" 60 (⟨"CircuitWays$FirstPlan", "write", "(I)V"⟩ : MethodName) ∈ zt := zt_mem (List.mem_of_getElem? (i := 545) (by decide +kernel)) rfl
theorem m_Fir_64 : Cond.methodLink "CircuitWays$FirstPlan" 64 (⟨"CircuitWays$Tails", "fill", "(II)V"⟩ : MethodName) ∈ zt := zt_mem (List.mem_of_getElem? (i := 549) (by decide +kernel)) rfl
theorem m_Tai_53 : Cond.methodLink "CircuitWays$Tails" 53 (⟨"CircuitWays$Tails", "leastBehind", "(II)I"⟩ : MethodName) ∈ zt := zt_mem (List.mem_of_getElem? (i := 554) (by decide +kernel)) rfl
theorem m_Tai_75 : Cond.methodLink "CircuitWays$Tails" 75 (⟨"CircuitWays$Tails", "costClosing", "(II)I"⟩ : MethodName) ∈ zt := zt_mem (List.mem_of_getElem? (i := 558) (by decide +kernel)) rfl
theorem m_Tai_69 : Cond.methodLink "CircuitWays$Tails" 69 (⟨"CircuitWays$Net", "costBack", "(I)I"⟩ : MethodName) ∈ zt := zt_mem (List.mem_of_getElem? (i := 562) (by decide +kernel)) rfl
theorem m_Tai_78 : Cond.methodLink "CircuitWays$Tails" 78 (⟨"CircuitWays$Tails", "costOver", "(III)I"⟩ : MethodName) ∈ zt := zt_mem (List.mem_of_getElem? (i := 564) (by decide +kernel)) rfl
theorem m_Tai_82 : Cond.methodLink "CircuitWays$Tails" 82 (⟨"java/lang/Math", "min", "(II)I"⟩ : MethodName) ∈ zt := zt_mem (List.mem_of_getElem? (i := 569) (by decide +kernel)) rfl
theorem m_Fir_70 : Cond.methodLink "CircuitWays$FirstPlan" 70 (⟨"CircuitWays$FirstPlan", "writeRound", "()V"⟩ : MethodName) ∈ zt := zt_mem (List.mem_of_getElem? (i := 572) (by decide +kernel)) rfl
theorem m_Fir_73 : Cond.methodLink "CircuitWays$FirstPlan" 73 (⟨"CircuitWays$Tails", "costClosing", "(II)I"⟩ : MethodName) ∈ zt := zt_mem (List.mem_of_getElem? (i := 576) (by decide +kernel)) rfl
theorem m_Fir_77 : Cond.methodLink "CircuitWays$FirstPlan" 77 (⟨"CircuitWays$FirstPlan", "followerDue", "(II)I"⟩ : MethodName) ∈ zt := zt_mem (List.mem_of_getElem? (i := 577) (by decide +kernel)) rfl
theorem m_Fir_93 : Cond.methodLink "CircuitWays$FirstPlan" 93 (⟨"CircuitWays$Tails", "costOver", "(III)I"⟩ : MethodName) ∈ zt := zt_mem (List.mem_of_getElem? (i := 581) (by decide +kernel)) rfl
theorem m_Fir_87 : Cond.methodLink "CircuitWays$FirstPlan" 87 (⟨"CircuitWays$Net", "costBack", "(I)I"⟩ : MethodName) ∈ zt := zt_mem (List.mem_of_getElem? (i := 583) (by decide +kernel)) rfl
theorem m_La_54 : Cond.methodLink "CircuitWaysLaw" 54 (⟨"CircuitWays", "with", "(II)I"⟩ : MethodName) ∈ zt := zt_mem (List.mem_of_getElem? (i := 584) (by decide +kernel)) rfl
theorem m_CW_145 : Cond.methodLink "CircuitWays" 145 (⟨"CircuitWays$Net", "allPlaces", "()I"⟩ : MethodName) ∈ zt := zt_mem (List.mem_of_getElem? (i := 588) (by decide +kernel)) rfl
theorem m_CW_151 : Cond.methodLink "CircuitWays" 151 (⟨"CircuitWays$Tails", "fill", "(II)V"⟩ : MethodName) ∈ zt := zt_mem (List.mem_of_getElem? (i := 589) (by decide +kernel)) rfl
theorem m_CW_156 : Cond.methodLink "CircuitWays" 156 (⟨"CircuitWays$Tails", "leastThrough", "(III)I"⟩ : MethodName) ∈ zt := zt_mem (List.mem_of_getElem? (i := 591) (by decide +kernel)) rfl
theorem m_Tai_90 : Cond.methodLink "CircuitWays$Tails" 90 (⟨"CircuitWays$Net", "allPlaces", "()I"⟩ : MethodName) ∈ zt := zt_mem (List.mem_of_getElem? (i := 595) (by decide +kernel)) rfl
theorem m_La_58 : Cond.methodLink "CircuitWaysLaw" 58 (⟨"CircuitWays", "without", "(I)I"⟩ : MethodName) ∈ zt := zt_mem (List.mem_of_getElem? (i := 596) (by decide +kernel)) rfl
theorem m_CW_159 : Cond.methodLink "CircuitWays" 159 (⟨"CircuitWays$Shares", "leastLeavingOut", "(I)I"⟩ : MethodName) ∈ zt := zt_mem (List.mem_of_getElem? (i := 600) (by decide +kernel)) rfl
theorem m_La_62 : Cond.methodLink "CircuitWaysLaw" 62 (⟨"CircuitWays", "filter", "(I)I"⟩ : MethodName) ∈ zt := zt_mem (List.mem_of_getElem? (i := 605) (by decide +kernel)) rfl
theorem m_CW_162 : Cond.methodLink "CircuitWays" 162 (⟨"CircuitWays$Tails", "dropArcsAbove", "(I)I"⟩ : MethodName) ∈ zt := zt_mem (List.mem_of_getElem? (i := 609) (by decide +kernel)) rfl
theorem m_Tai_97 : Cond.methodLink "CircuitWays$Tails" 97 (⟨"CircuitWays$Tails", "leastThrough", "(III)I"⟩ : MethodName) ∈ zt := zt_mem (List.mem_of_getElem? (i := 613) (by decide +kernel)) rfl
theorem m_Tai_100 : Cond.methodLink "CircuitWays$Tails" 100 (⟨"CircuitWays$Net", "changeCost", "(III)I"⟩ : MethodName) ∈ zt := zt_mem (List.mem_of_getElem? (i := 614) (by decide +kernel)) rfl
theorem m_La_66 : Cond.methodLink "CircuitWaysLaw" 66 (⟨"CircuitWays", "weight", "(II)I"⟩ : MethodName) ∈ zt := zt_mem (List.mem_of_getElem? (i := 615) (by decide +kernel)) rfl
theorem m_CW_165 : Cond.methodLink "CircuitWays" 165 (⟨"CircuitWays$Net", "isNode", "(I)Z"⟩ : MethodName) ∈ zt := zt_mem (List.mem_of_getElem? (i := 619) (by decide +kernel)) rfl
theorem m_CW_168 : Cond.methodLink "CircuitWays" 168 (⟨"CircuitWays$Tree", "changeWeight", "(II)I"⟩ : MethodName) ∈ zt := zt_mem (List.mem_of_getElem? (i := 620) (by decide +kernel)) rfl
theorem m_La_70 : Cond.methodLink "CircuitWaysLaw" 70 (⟨"CircuitWays", "bound", "()I"⟩ : MethodName) ∈ zt := zt_mem (List.mem_of_getElem? (i := 624) (by decide +kernel)) rfl
theorem m_CW_171 : Cond.methodLink "CircuitWays" 171 (⟨"CircuitWays$Tree", "grow", "()Z"⟩ : MethodName) ∈ zt := zt_mem (List.mem_of_getElem? (i := 628) (by decide +kernel)) rfl
theorem m_Tre_40 : Cond.methodLink "CircuitWays$Tree" 40 (⟨"CircuitWays$Tree", "chooseJoining", "()Z"⟩ : MethodName) ∈ zt := zt_mem (List.mem_of_getElem? (i := 632) (by decide +kernel)) rfl
theorem m_Tre_61 : Cond.methodLink "CircuitWays$Tree" 61 (⟨"CircuitWays$Tree", "edgeCost", "(II)I"⟩ : MethodName) ∈ zt := zt_mem (List.mem_of_getElem? (i := 637) (by decide +kernel)) rfl
theorem m_Tre_51 : Cond.methodLink "CircuitWays$Tree" 51 (⟨"java/lang/Math", "min", "(II)I"⟩ : MethodName) ∈ zt := zt_mem (List.mem_of_getElem? (i := 641) (by decide +kernel)) rfl
theorem m_Tre_64 : Cond.methodLink "CircuitWays$Tree" 64 (⟨"CircuitWays$Tree", "choose", "(II)Z"⟩ : MethodName) ∈ zt := zt_mem (List.mem_of_getElem? (i := 643) (by decide +kernel)) rfl
theorem m_Tre_44 : Cond.methodLink "CircuitWays$Tree" 44 (⟨"CircuitWays$Tree", "chooseAtHouse", "(I)Z"⟩ : MethodName) ∈ zt := zt_mem (List.mem_of_getElem? (i := 647) (by decide +kernel)) rfl
theorem m_CW_175 : Cond.methodLink "CircuitWays" 175 (⟨"CircuitWays$Tree", "lowerBound", "()I"⟩ : MethodName) ∈ zt := zt_mem (List.mem_of_getElem? (i := 651) (by decide +kernel)) rfl
theorem m_La_74 : Cond.methodLink "CircuitWaysLaw" 74 (⟨"CircuitWays", "edge", "(II)I"⟩ : MethodName) ∈ zt := zt_mem (List.mem_of_getElem? (i := 655) (by decide +kernel)) rfl
theorem m_La_78 : Cond.methodLink "CircuitWaysLaw" 78 (⟨"CircuitWays", "degree", "(I)I"⟩ : MethodName) ∈ zt := zt_mem (List.mem_of_getElem? (i := 659) (by decide +kernel)) rfl
theorem m_CW_187 : Cond.methodLink "CircuitWays" 187 (⟨"CircuitWays$Tree", "edgesAt", "(I)I"⟩ : MethodName) ∈ zt := zt_mem (List.mem_of_getElem? (i := 663) (by decide +kernel)) rfl
theorem m_La_82 : Cond.methodLink "CircuitWaysLaw" 82 (⟨"CircuitWays", "pairing", "()I"⟩ : MethodName) ∈ zt := zt_mem (List.mem_of_getElem? (i := 667) (by decide +kernel)) rfl
theorem m_CW_190 : Cond.methodLink "CircuitWays" 190 (⟨"CircuitWays$Pairs", "leastCost", "()I"⟩ : MethodName) ∈ zt := zt_mem (List.mem_of_getElem? (i := 671) (by decide +kernel)) rfl
theorem m_Pai_25 : Cond.methodLink "CircuitWays$Pairs" 25 (⟨"java/lang/Integer", "bitCount", "(I)I"⟩ : MethodName) ∈ zt := zt_mem (List.mem_of_getElem? (i := 675) (by decide +kernel)) rfl
theorem m_Pai_39 : Cond.methodLink "CircuitWays$Pairs" 39 (⟨"java/lang/Math", "min", "(II)I"⟩ : MethodName) ∈ zt := zt_mem (List.mem_of_getElem? (i := 678) (by decide +kernel)) rfl
theorem m_La_86 : Cond.methodLink "CircuitWaysLaw" 86 (⟨"CircuitWays", "next", "(II)I"⟩ : MethodName) ∈ zt := zt_mem (List.mem_of_getElem? (i := 679) (by decide +kernel)) rfl
theorem m_CW_191 : Cond.methodLink "CircuitWays" 191 (⟨"CircuitWays$Circles", "changeFollower", "(II)I"⟩ : MethodName) ∈ zt := zt_mem (List.mem_of_getElem? (i := 683) (by decide +kernel)) rfl
theorem m_La_90 : Cond.methodLink "CircuitWaysLaw" 90 (⟨"CircuitWays", "circle", "(I)I"⟩ : MethodName) ∈ zt := zt_mem (List.mem_of_getElem? (i := 687) (by decide +kernel)) rfl
theorem m_CW_194 : Cond.methodLink "CircuitWays" 194 (⟨"CircuitWays$Circles", "find", "()I"⟩ : MethodName) ∈ zt := zt_mem (List.mem_of_getElem? (i := 691) (by decide +kernel)) rfl
theorem m_Cir_28 : Cond.methodLink "CircuitWays$Circles" 28 (⟨"CircuitWays$Circles", "circleFrom", "(I)I"⟩ : MethodName) ∈ zt := zt_mem (List.mem_of_getElem? (i := 695) (by decide +kernel)) rfl
theorem m_La_94 : Cond.methodLink "CircuitWaysLaw" 94 (⟨"CircuitWays", "nearest", "(I)I"⟩ : MethodName) ∈ zt := zt_mem (List.mem_of_getElem? (i := 699) (by decide +kernel)) rfl
theorem m_CW_200 : Cond.methodLink "CircuitWays" 200 (⟨"CircuitWays$Ways", "nearestLeading", "(I)I"⟩ : MethodName) ∈ zt := zt_mem (List.mem_of_getElem? (i := 703) (by decide +kernel)) rfl
theorem m_Way_19 : Cond.methodLink "CircuitWays$Ways" 19 (⟨"CircuitWays$Ways", "reached", "(I)I"⟩ : MethodName) ∈ zt := zt_mem (List.mem_of_getElem? (i := 707) (by decide +kernel)) rfl
theorem m_Way_37 : Cond.methodLink "CircuitWays$Ways" 37 (⟨"CircuitWays$Ways", "stepFrom", "(II)I"⟩ : MethodName) ∈ zt := zt_mem (List.mem_of_getElem? (i := 711) (by decide +kernel)) rfl
theorem m_Way_30 : Cond.methodLink "CircuitWays$Ways" 30 (⟨"CircuitWays$Ways", "leads", "(II)Z"⟩ : MethodName) ∈ zt := zt_mem (List.mem_of_getElem? (i := 717) (by decide +kernel)) rfl
theorem m_Way_34 : Cond.methodLink "CircuitWays$Ways" 34 (⟨"CircuitWays$Ways", "isNearest", "(II)Z"⟩ : MethodName) ∈ zt := zt_mem (List.mem_of_getElem? (i := 721) (by decide +kernel)) rfl
theorem m_La_98 : Cond.methodLink "CircuitWaysLaw" 98 (⟨"CircuitWays", "put", "(I)I"⟩ : MethodName) ∈ zt := zt_mem (List.mem_of_getElem? (i := 725) (by decide +kernel)) rfl
theorem m_CW_204 : Cond.methodLink "CircuitWays" 204 (⟨"CircuitWays$Row", "append", "(I)I"⟩ : MethodName) ∈ zt := zt_mem (List.mem_of_getElem? (i := 729) (by decide +kernel)) rfl
theorem m_La_102 : Cond.methodLink "CircuitWaysLaw" 102 (⟨"CircuitWays", "keep", "(I)I"⟩ : MethodName) ∈ zt := zt_mem (List.mem_of_getElem? (i := 733) (by decide +kernel)) rfl
theorem m_CW_207 : Cond.methodLink "CircuitWays" 207 (⟨"CircuitWays$Row", "cut", "(I)I"⟩ : MethodName) ∈ zt := zt_mem (List.mem_of_getElem? (i := 737) (by decide +kernel)) rfl
theorem m_La_106 : Cond.methodLink "CircuitWaysLaw" 106 (⟨"CircuitWays", "check", "()I"⟩ : MethodName) ∈ zt := zt_mem (List.mem_of_getElem? (i := 741) (by decide +kernel)) rfl
theorem m_CW_210 : Cond.methodLink "CircuitWays" 210 (⟨"CircuitWays$Row", "cost", "()I"⟩ : MethodName) ∈ zt := zt_mem (List.mem_of_getElem? (i := 745) (by decide +kernel)) rfl
theorem m_Row_26 : Cond.methodLink "CircuitWays$Row" 26 (⟨"CircuitWays$Row", "planCost", "([II)I"⟩ : MethodName) ∈ zt := zt_mem (List.mem_of_getElem? (i := 749) (by decide +kernel)) rfl
theorem m_Row_36 : Cond.methodLink "CircuitWays$Row" 36 (⟨"CircuitWays$Row", "roundCost", "([III)I"⟩ : MethodName) ∈ zt := zt_mem (List.mem_of_getElem? (i := 755) (by decide +kernel)) rfl
theorem m_Row_68 : Cond.methodLink "CircuitWays$Row" 68 (⟨"CircuitWays$Net", "costBack", "(I)I"⟩ : MethodName) ∈ zt := zt_mem (List.mem_of_getElem? (i := 760) (by decide +kernel)) rfl
theorem m_Row_49 : Cond.methodLink "CircuitWays$Row" 49 (⟨"CircuitWays$Net", "allPlaces", "()I"⟩ : MethodName) ∈ zt := zt_mem (List.mem_of_getElem? (i := 761) (by decide +kernel)) rfl
theorem m_Row_53 : Cond.methodLink "CircuitWays$Row" 53 (⟨"CircuitWays$Net", "costOut", "(I)I"⟩ : MethodName) ∈ zt := zt_mem (List.mem_of_getElem? (i := 762) (by decide +kernel)) rfl
theorem m_La_110 : Cond.methodLink "CircuitWaysLaw" 110 (⟨"CircuitWays", "insert", "(I)I"⟩ : MethodName) ∈ zt := zt_mem (List.mem_of_getElem? (i := 763) (by decide +kernel)) rfl
theorem m_CW_213 : Cond.methodLink "CircuitWays" 213 (⟨"CircuitWays$Row", "cheapestPlace", "(I)I"⟩ : MethodName) ∈ zt := zt_mem (List.mem_of_getElem? (i := 767) (by decide +kernel)) rfl
theorem m_La_114 : Cond.methodLink "CircuitWaysLaw" 114 (⟨"CircuitWays", "count", "(I)I"⟩ : MethodName) ∈ zt := zt_mem (List.mem_of_getElem? (i := 772) (by decide +kernel)) rfl
theorem m_CW_216 : Cond.methodLink "CircuitWays" 216 (⟨"CircuitWays$Net", "arcs", "()I"⟩ : MethodName) ∈ zt := zt_mem (List.mem_of_getElem? (i := 776) (by decide +kernel)) rfl
theorem m_CW_219 : Cond.methodLink "CircuitWays" 219 (⟨"CircuitWays$Net", "pairsAhead", "()I"⟩ : MethodName) ∈ zt := zt_mem (List.mem_of_getElem? (i := 780) (by decide +kernel)) rfl
theorem m_Net_49 : Cond.methodLink "CircuitWays$Net" 49 (⟨"java/lang/Integer", "bitCount", "(I)I"⟩ : MethodName) ∈ zt := zt_mem (List.mem_of_getElem? (i := 784) (by decide +kernel)) rfl
theorem m_La_12 : Cond.methodLink "CircuitWaysLaw" 12 (⟨"CircuitWaysModel", "<init>", "()V"⟩ : MethodName) ∈ zt := zt_mem (List.mem_of_getElem? (i := 787) (by decide +kernel)) rfl
theorem m_Mo_7 : Cond.methodLink "CircuitWaysModel" 7 (⟨"java/lang/Object", "<init>", "()V"⟩ : MethodName) ∈ zt := zt_mem (List.mem_of_getElem? (i := 790) (by decide +kernel)) rfl
theorem m_La_17 : Cond.methodLink "CircuitWaysLaw" 17 (⟨"CircuitWaysModel", "node", "(I)I"⟩ : MethodName) ∈ zt := zt_mem (List.mem_of_getElem? (i := 886) (by decide +kernel)) rfl
theorem m_Mo_70 : Cond.methodLink "CircuitWaysModel" 70 (⟨"CircuitWaysModel", "in", "(III)Z"⟩ : MethodName) ∈ zt := zt_mem (List.mem_of_getElem? (i := 890) (by decide +kernel)) rfl
theorem m_La_22 : Cond.methodLink "CircuitWaysLaw" 22 (⟨"CircuitWaysModel", "arc", "(III)I"⟩ : MethodName) ∈ zt := zt_mem (List.mem_of_getElem? (i := 895) (by decide +kernel)) rfl
theorem m_Mo_84 : Cond.methodLink "CircuitWaysModel" 84 (⟨"CircuitWaysModel", "noTwo", "(II)Z"⟩ : MethodName) ∈ zt := zt_mem (List.mem_of_getElem? (i := 899) (by decide +kernel)) rfl
theorem m_Mo_74 : Cond.methodLink "CircuitWaysModel" 74 (⟨"CircuitWaysModel", "noNode", "(I)Z"⟩ : MethodName) ∈ zt := zt_mem (List.mem_of_getElem? (i := 903) (by decide +kernel)) rfl
theorem m_La_27 : Cond.methodLink "CircuitWaysLaw" 27 (⟨"CircuitWaysModel", "lose", "(II)I"⟩ : MethodName) ∈ zt := zt_mem (List.mem_of_getElem? (i := 908) (by decide +kernel)) rfl
theorem m_La_31 : Cond.methodLink "CircuitWaysLaw" 31 (⟨"CircuitWaysModel", "price", "(II)I"⟩ : MethodName) ∈ zt := zt_mem (List.mem_of_getElem? (i := 912) (by decide +kernel)) rfl
theorem m_La_36 : Cond.methodLink "CircuitWaysLaw" 36 (⟨"CircuitWaysModel", "ahead", "(IIZ)I"⟩ : MethodName) ∈ zt := zt_mem (List.mem_of_getElem? (i := 916) (by decide +kernel)) rfl
theorem m_La_40 : Cond.methodLink "CircuitWaysLaw" 40 (⟨"CircuitWaysModel", "rule", "(II)I"⟩ : MethodName) ∈ zt := zt_mem (List.mem_of_getElem? (i := 920) (by decide +kernel)) rfl
theorem m_La_45 : Cond.methodLink "CircuitWaysLaw" 45 (⟨"CircuitWaysModel", "best", "()I"⟩ : MethodName) ∈ zt := zt_mem (List.mem_of_getElem? (i := 924) (by decide +kernel)) rfl
theorem m_Mo_144 : Cond.methodLink "CircuitWaysModel" 144 (⟨"CircuitWaysModel", "know", "()V"⟩ : MethodName) ∈ zt := zt_mem (List.mem_of_getElem? (i := 928) (by decide +kernel)) rfl
theorem m_Mo_136 : Cond.methodLink "CircuitWaysModel" 136 (⟨"CircuitWaysModel", "atHouse", "(LCircuitWaysModel;II)I"⟩ : MethodName) ∈ zt := zt_mem (List.mem_of_getElem? (i := 933) (by decide +kernel)) rfl
theorem m_Mo_118 : Cond.methodLink "CircuitWaysModel" 118 (⟨"CircuitWaysModel", "whole", "(I)I"⟩ : MethodName) ∈ zt := zt_mem (List.mem_of_getElem? (i := 936) (by decide +kernel)) rfl
theorem m_Mo_111 : Cond.methodLink "CircuitWaysModel" 111 (⟨"CircuitWaysModel", "isBeforeFirst", "()Z"⟩ : MethodName) ∈ zt := zt_mem (List.mem_of_getElem? (i := 940) (by decide +kernel)) rfl
theorem m_Mo_125 : Cond.methodLink "CircuitWaysModel" 125 (⟨"CircuitWaysModel", "mayCome", "(II)Z"⟩ : MethodName) ∈ zt := zt_mem (List.mem_of_getElem? (i := 944) (by decide +kernel)) rfl
theorem m_Mo_128 : Cond.methodLink "CircuitWaysModel" 128 (⟨"CircuitWaysModel", "write", "(I)V"⟩ : MethodName) ∈ zt := zt_mem (List.mem_of_getElem? (i := 948) (by decide +kernel)) rfl
theorem m_Mo_132 : Cond.methodLink "CircuitWaysModel" 132 (⟨"CircuitWaysModel", "atNode", "(LCircuitWaysModel;IIII)I"⟩ : MethodName) ∈ zt := zt_mem (List.mem_of_getElem? (i := 952) (by decide +kernel)) rfl
theorem m_Mo_140 : Cond.methodLink "CircuitWaysModel" 140 (⟨"CircuitWaysModel", "note", "(III)V"⟩ : MethodName) ∈ zt := zt_mem (List.mem_of_getElem? (i := 955) (by decide +kernel)) rfl
theorem m_La_49 : Cond.methodLink "CircuitWaysLaw" 49 (⟨"CircuitWaysModel", "many", "()I"⟩ : MethodName) ∈ zt := zt_mem (List.mem_of_getElem? (i := 959) (by decide +kernel)) rfl
theorem m_La_53 : Cond.methodLink "CircuitWaysLaw" 53 (⟨"CircuitWaysModel", "first", "(I)I"⟩ : MethodName) ∈ zt := zt_mem (List.mem_of_getElem? (i := 963) (by decide +kernel)) rfl
theorem m_La_57 : Cond.methodLink "CircuitWaysLaw" 57 (⟨"CircuitWaysModel", "with", "(II)I"⟩ : MethodName) ∈ zt := zt_mem (List.mem_of_getElem? (i := 967) (by decide +kernel)) rfl
theorem m_Mo_147 : Cond.methodLink "CircuitWaysModel" 147 (⟨"CircuitWaysModel", "told", "(I)I"⟩ : MethodName) ∈ zt := zt_mem (List.mem_of_getElem? (i := 971) (by decide +kernel)) rfl
theorem m_La_61 : Cond.methodLink "CircuitWaysLaw" 61 (⟨"CircuitWaysModel", "without", "(I)I"⟩ : MethodName) ∈ zt := zt_mem (List.mem_of_getElem? (i := 974) (by decide +kernel)) rfl
theorem m_La_65 : Cond.methodLink "CircuitWaysLaw" 65 (⟨"CircuitWaysModel", "filter", "(I)I"⟩ : MethodName) ∈ zt := zt_mem (List.mem_of_getElem? (i := 978) (by decide +kernel)) rfl
theorem m_La_69 : Cond.methodLink "CircuitWaysLaw" 69 (⟨"CircuitWaysModel", "weight", "(II)I"⟩ : MethodName) ∈ zt := zt_mem (List.mem_of_getElem? (i := 982) (by decide +kernel)) rfl
theorem m_La_73 : Cond.methodLink "CircuitWaysLaw" 73 (⟨"CircuitWaysModel", "bound", "()I"⟩ : MethodName) ∈ zt := zt_mem (List.mem_of_getElem? (i := 986) (by decide +kernel)) rfl
theorem m_Mo_164 : Cond.methodLink "CircuitWaysModel" 164 (⟨"CircuitWaysModel", "makeTree", "()Z"⟩ : MethodName) ∈ zt := zt_mem (List.mem_of_getElem? (i := 990) (by decide +kernel)) rfl
theorem m_Mo_160 : Cond.methodLink "CircuitWaysModel" 160 (⟨"CircuitWaysModel", "choose", "(Z)Z"⟩ : MethodName) ∈ zt := zt_mem (List.mem_of_getElem? (i := 994) (by decide +kernel)) rfl
theorem m_Mo_153 : Cond.methodLink "CircuitWaysModel" 153 (⟨"CircuitWaysModel", "edgeCost", "(II)I"⟩ : MethodName) ∈ zt := zt_mem (List.mem_of_getElem? (i := 998) (by decide +kernel)) rfl
theorem m_Mo_157 : Cond.methodLink "CircuitWaysModel" 157 (⟨"CircuitWaysModel", "hasEdge", "(II)Z"⟩ : MethodName) ∈ zt := zt_mem (List.mem_of_getElem? (i := 1002) (by decide +kernel)) rfl
theorem m_La_77 : Cond.methodLink "CircuitWaysLaw" 77 (⟨"CircuitWaysModel", "edge", "(II)I"⟩ : MethodName) ∈ zt := zt_mem (List.mem_of_getElem? (i := 1006) (by decide +kernel)) rfl
theorem m_La_81 : Cond.methodLink "CircuitWaysLaw" 81 (⟨"CircuitWaysModel", "degree", "(I)I"⟩ : MethodName) ∈ zt := zt_mem (List.mem_of_getElem? (i := 1010) (by decide +kernel)) rfl
theorem m_La_85 : Cond.methodLink "CircuitWaysLaw" 85 (⟨"CircuitWaysModel", "pairing", "()I"⟩ : MethodName) ∈ zt := zt_mem (List.mem_of_getElem? (i := 1014) (by decide +kernel)) rfl
theorem m_Mo_167 : Cond.methodLink "CircuitWaysModel" 167 (⟨"java/lang/Integer", "bitCount", "(I)I"⟩ : MethodName) ∈ zt := zt_mem (List.mem_of_getElem? (i := 1018) (by decide +kernel)) rfl
theorem m_La_89 : Cond.methodLink "CircuitWaysLaw" 89 (⟨"CircuitWaysModel", "next", "(II)I"⟩ : MethodName) ∈ zt := zt_mem (List.mem_of_getElem? (i := 1019) (by decide +kernel)) rfl
theorem m_La_93 : Cond.methodLink "CircuitWaysLaw" 93 (⟨"CircuitWaysModel", "circle", "(I)I"⟩ : MethodName) ∈ zt := zt_mem (List.mem_of_getElem? (i := 1023) (by decide +kernel)) rfl
theorem m_Mo_172 : Cond.methodLink "CircuitWaysModel" 172 (⟨"CircuitWaysModel", "circleOf", "(I)I"⟩ : MethodName) ∈ zt := zt_mem (List.mem_of_getElem? (i := 1027) (by decide +kernel)) rfl
theorem m_La_97 : Cond.methodLink "CircuitWaysLaw" 97 (⟨"CircuitWaysModel", "nearest", "(I)I"⟩ : MethodName) ∈ zt := zt_mem (List.mem_of_getElem? (i := 1031) (by decide +kernel)) rfl
theorem m_Mo_178 : Cond.methodLink "CircuitWaysModel" 178 (⟨"CircuitWaysModel", "leads", "(II)Z"⟩ : MethodName) ∈ zt := zt_mem (List.mem_of_getElem? (i := 1035) (by decide +kernel)) rfl
theorem m_Mo_175 : Cond.methodLink "CircuitWaysModel" 175 (⟨"CircuitWaysModel", "reached", "(I)I"⟩ : MethodName) ∈ zt := zt_mem (List.mem_of_getElem? (i := 1039) (by decide +kernel)) rfl
theorem m_La_101 : Cond.methodLink "CircuitWaysLaw" 101 (⟨"CircuitWaysModel", "put", "(I)I"⟩ : MethodName) ∈ zt := zt_mem (List.mem_of_getElem? (i := 1043) (by decide +kernel)) rfl
theorem m_La_105 : Cond.methodLink "CircuitWaysLaw" 105 (⟨"CircuitWaysModel", "keep", "(I)I"⟩ : MethodName) ∈ zt := zt_mem (List.mem_of_getElem? (i := 1047) (by decide +kernel)) rfl
theorem m_La_109 : Cond.methodLink "CircuitWaysLaw" 109 (⟨"CircuitWaysModel", "check", "()I"⟩ : MethodName) ∈ zt := zt_mem (List.mem_of_getElem? (i := 1051) (by decide +kernel)) rfl
theorem m_Mo_184 : Cond.methodLink "CircuitWaysModel" 184 (⟨"CircuitWaysModel", "costOf", "(II)I"⟩ : MethodName) ∈ zt := zt_mem (List.mem_of_getElem? (i := 1055) (by decide +kernel)) rfl
theorem m_La_113 : Cond.methodLink "CircuitWaysLaw" 113 (⟨"CircuitWaysModel", "insert", "(I)I"⟩ : MethodName) ∈ zt := zt_mem (List.mem_of_getElem? (i := 1059) (by decide +kernel)) rfl
theorem m_La_117 : Cond.methodLink "CircuitWaysLaw" 117 (⟨"CircuitWaysModel", "count", "(I)I"⟩ : MethodName) ∈ zt := zt_mem (List.mem_of_getElem? (i := 1063) (by decide +kernel)) rfl
theorem c_La_7 : Cond.classLink "CircuitWaysLaw" 7 "CircuitWays" ∈ zt := zt_mem (List.mem_of_getElem? (i := 54) (by decide +kernel)) rfl
theorem c_CW_7 : Cond.classLink "CircuitWays" 7 "CircuitWays$Net" ∈ zt := zt_mem (List.mem_of_getElem? (i := 62) (by decide +kernel)) rfl
theorem c_CW_16 : Cond.classLink "CircuitWays" 16 "CircuitWays$Paths" ∈ zt := zt_mem (List.mem_of_getElem? (i := 129) (by decide +kernel)) rfl
theorem c_CW_21 : Cond.classLink "CircuitWays" 21 "CircuitWays$Shares" ∈ zt := zt_mem (List.mem_of_getElem? (i := 161) (by decide +kernel)) rfl
theorem c_CW_30 : Cond.classLink "CircuitWays" 30 "CircuitWays$Tails" ∈ zt := zt_mem (List.mem_of_getElem? (i := 192) (by decide +kernel)) rfl
theorem c_CW_39 : Cond.classLink "CircuitWays" 39 "CircuitWays$FirstPlan" ∈ zt := zt_mem (List.mem_of_getElem? (i := 224) (by decide +kernel)) rfl
theorem c_CW_48 : Cond.classLink "CircuitWays" 48 "CircuitWays$Tree" ∈ zt := zt_mem (List.mem_of_getElem? (i := 257) (by decide +kernel)) rfl
theorem c_CW_55 : Cond.classLink "CircuitWays" 55 "CircuitWays$Pairs" ∈ zt := zt_mem (List.mem_of_getElem? (i := 288) (by decide +kernel)) rfl
theorem c_CW_62 : Cond.classLink "CircuitWays" 62 "CircuitWays$Circles" ∈ zt := zt_mem (List.mem_of_getElem? (i := 301) (by decide +kernel)) rfl
theorem c_CW_69 : Cond.classLink "CircuitWays" 69 "CircuitWays$Ways" ∈ zt := zt_mem (List.mem_of_getElem? (i := 318) (by decide +kernel)) rfl
theorem c_CW_76 : Cond.classLink "CircuitWays" 76 "CircuitWays$Row" ∈ zt := zt_mem (List.mem_of_getElem? (i := 331) (by decide +kernel)) rfl
theorem c_La_10 : Cond.classLink "CircuitWaysLaw" 10 "CircuitWaysModel" ∈ zt := zt_mem (List.mem_of_getElem? (i := 785) (by decide +kernel)) rfl
theorem i_Net_40 : Cond.constant "CircuitWays$Net" 40 (1000000000) ∈ zt := zt_mem (List.mem_of_getElem? (i := 68) (by decide +kernel)) rfl
theorem i_Sha_18 : Cond.constant "CircuitWays$Shares" 18 (1000000000) ∈ zt := zt_mem (List.mem_of_getElem? (i := 167) (by decide +kernel)) rfl
theorem i_CW_83 : Cond.constant "CircuitWays" 83 (-2000000) ∈ zt := zt_mem (List.mem_of_getElem? (i := 383) (by decide +kernel)) rfl
theorem i_CW_88 : Cond.constant "CircuitWays" 88 (-3000000) ∈ zt := zt_mem (List.mem_of_getElem? (i := 384) (by decide +kernel)) rfl
theorem i_CW_104 : Cond.constant "CircuitWays" 104 (1000000000) ∈ zt := zt_mem (List.mem_of_getElem? (i := 408) (by decide +kernel)) rfl
theorem i_CW_136 : Cond.constant "CircuitWays" 136 (-1000000) ∈ zt := zt_mem (List.mem_of_getElem? (i := 409) (by decide +kernel)) rfl
theorem i_Pat_54 : Cond.constant "CircuitWays$Paths" 54 (1000000000) ∈ zt := zt_mem (List.mem_of_getElem? (i := 478) (by decide +kernel)) rfl
theorem i_JI_265 : Cond.constant "java/lang/Integer" 265 (1431655765) ∈ zt := zt_mem (List.mem_of_getElem? (i := 507) (by decide +kernel)) rfl
theorem i_JI_266 : Cond.constant "java/lang/Integer" 266 (858993459) ∈ zt := zt_mem (List.mem_of_getElem? (i := 508) (by decide +kernel)) rfl
theorem i_JI_267 : Cond.constant "java/lang/Integer" 267 (252645135) ∈ zt := zt_mem (List.mem_of_getElem? (i := 509) (by decide +kernel)) rfl
theorem i_Tai_62 : Cond.constant "CircuitWays$Tails" 62 (1000000000) ∈ zt := zt_mem (List.mem_of_getElem? (i := 568) (by decide +kernel)) rfl
theorem i_CW_155 : Cond.constant "CircuitWays" 155 (-1000000000) ∈ zt := zt_mem (List.mem_of_getElem? (i := 590) (by decide +kernel)) rfl
theorem i_Tre_60 : Cond.constant "CircuitWays$Tree" 60 (1000000000) ∈ zt := zt_mem (List.mem_of_getElem? (i := 636) (by decide +kernel)) rfl
theorem i_Pai_31 : Cond.constant "CircuitWays$Pairs" 31 (1000000000) ∈ zt := zt_mem (List.mem_of_getElem? (i := 676) (by decide +kernel)) rfl
theorem i_Way_44 : Cond.constant "CircuitWays$Ways" 44 (1000000000) ∈ zt := zt_mem (List.mem_of_getElem? (i := 715) (by decide +kernel)) rfl
theorem i_Way_23 : Cond.constant "CircuitWays$Ways" 23 (-1000000) ∈ zt := zt_mem (List.mem_of_getElem? (i := 716) (by decide +kernel)) rfl
theorem i_Row_30 : Cond.constant "CircuitWays$Row" 30 (1000000000) ∈ zt := zt_mem (List.mem_of_getElem? (i := 754) (by decide +kernel)) rfl
theorem i_Row_31 : Cond.constant "CircuitWays$Row" 31 (-1000000) ∈ zt := zt_mem (List.mem_of_getElem? (i := 771) (by decide +kernel)) rfl
theorem i_Mo_69 : Cond.constant "CircuitWaysModel" 69 (1000000) ∈ zt := zt_mem (List.mem_of_getElem? (i := 791) (by decide +kernel)) rfl
theorem i_Mo_78 : Cond.constant "CircuitWaysModel" 78 (-2000000) ∈ zt := zt_mem (List.mem_of_getElem? (i := 893) (by decide +kernel)) rfl
theorem i_Mo_79 : Cond.constant "CircuitWaysModel" 79 (-3000000) ∈ zt := zt_mem (List.mem_of_getElem? (i := 894) (by decide +kernel)) rfl
theorem i_Mo_88 : Cond.constant "CircuitWaysModel" 88 (-1000000) ∈ zt := zt_mem (List.mem_of_getElem? (i := 907) (by decide +kernel)) rfl
theorem i_Mo_101 : Cond.constant "CircuitWaysModel" 101 (900000) ∈ zt := zt_mem (List.mem_of_getElem? (i := 932) (by decide +kernel)) rfl
theorem n_Net_45 : Cond.methodLinkNest "CircuitWays$Net" 45 (⟨"CircuitWays", "bit", "(I)I"⟩ : MethodName) "CircuitWays" ∈ znest := List.mem_of_getElem? (i := 0) rfl
theorem n_Pat_69 : Cond.methodLinkNest "CircuitWays$Paths" 69 (⟨"CircuitWays", "bit", "(I)I"⟩ : MethodName) "CircuitWays" ∈ znest := List.mem_of_getElem? (i := 1) rfl
theorem n_Pat_81 : Cond.methodLinkNest "CircuitWays$Paths" 81 (⟨"CircuitWays", "sum", "(II)I"⟩ : MethodName) "CircuitWays" ∈ znest := List.mem_of_getElem? (i := 2) rfl
theorem n_Net_54 : Cond.methodLinkNest "CircuitWays$Net" 54 (⟨"CircuitWays", "sum", "(II)I"⟩ : MethodName) "CircuitWays" ∈ znest := List.mem_of_getElem? (i := 3) rfl
theorem n_Sha_73 : Cond.methodLinkNest "CircuitWays$Shares" 73 (⟨"CircuitWays", "sum", "(II)I"⟩ : MethodName) "CircuitWays" ∈ znest := List.mem_of_getElem? (i := 4) rfl
theorem n_Tai_49 : Cond.methodLinkNest "CircuitWays$Tails" 49 (⟨"CircuitWays", "bit", "(I)I"⟩ : MethodName) "CircuitWays" ∈ znest := List.mem_of_getElem? (i := 5) rfl
theorem n_Tai_66 : Cond.methodLinkNest "CircuitWays$Tails" 66 (⟨"CircuitWays", "sum", "(II)I"⟩ : MethodName) "CircuitWays" ∈ znest := List.mem_of_getElem? (i := 6) rfl
theorem n_Fir_83 : Cond.methodLinkNest "CircuitWays$FirstPlan" 83 (⟨"CircuitWays", "bit", "(I)I"⟩ : MethodName) "CircuitWays" ∈ znest := List.mem_of_getElem? (i := 7) rfl
theorem n_Sha_70 : Cond.methodLinkNest "CircuitWays$Shares" 70 (⟨"CircuitWays", "bit", "(I)I"⟩ : MethodName) "CircuitWays" ∈ znest := List.mem_of_getElem? (i := 8) rfl
theorem n_Tre_57 : Cond.methodLinkNest "CircuitWays$Tree" 57 (⟨"CircuitWays", "sum", "(II)I"⟩ : MethodName) "CircuitWays" ∈ znest := List.mem_of_getElem? (i := 9) rfl
theorem n_Pai_35 : Cond.methodLinkNest "CircuitWays$Pairs" 35 (⟨"CircuitWays", "sum", "(II)I"⟩ : MethodName) "CircuitWays" ∈ znest := List.mem_of_getElem? (i := 10) rfl
theorem n_Row_32 : Cond.methodLinkNest "CircuitWays$Row" 32 (⟨"CircuitWays", "bit", "(I)I"⟩ : MethodName) "CircuitWays" ∈ znest := List.mem_of_getElem? (i := 11) rfl
theorem n_Row_40 : Cond.methodLinkNest "CircuitWays$Row" 40 (⟨"CircuitWays", "sum", "(II)I"⟩ : MethodName) "CircuitWays" ∈ znest := List.mem_of_getElem? (i := 12) rfl
theorem k_min_static : Cond.static Lib.Math.min.name ∈ zt := zt_mem (List.mem_of_getElem? (i := 570) (by decide +kernel)) rfl
theorem k_min_init : Cond.initialized "java/lang/Math" ∈ zt := zt_mem (List.mem_of_getElem? (i := 53) (by decide +kernel)) rfl
set_option maxRecDepth 20000 in
theorem k_min_code : Cond.code Lib.Math.min.name Lib.Math.min.code 2 (some .int) ∈ zt := zt_mem (List.mem_of_getElem? (i := 571) rfl) rfl
end
section
theorem d_CW_init_0 : decode Y_CW_init.2.1 0 = .ok (.aload_n 0, 1) := by decide +kernel
theorem d_CW_init_1 : decode Y_CW_init.2.1 1 = .ok (.invokespecial 1, 3) := by decide +kernel
theorem d_CW_init_4 : decode Y_CW_init.2.1 4 = .ok (.aload_n 0, 1) := by decide +kernel
theorem d_CW_init_5 : decode Y_CW_init.2.1 5 = .ok (.new 7, 3) := by decide +kernel
theorem d_CW_init_8 : decode Y_CW_init.2.1 8 = .ok (.dup, 1) := by decide +kernel
theorem d_CW_init_9 : decode Y_CW_init.2.1 9 = .ok (.invokespecial 9, 3) := by decide +kernel
theorem d_CW_init_12 : decode Y_CW_init.2.1 12 = .ok (.putfield 10, 3) := by decide +kernel
theorem d_CW_init_15 : decode Y_CW_init.2.1 15 = .ok (.new 16, 3) := by decide +kernel
theorem d_CW_init_18 : decode Y_CW_init.2.1 18 = .ok (.dup, 1) := by decide +kernel
theorem d_CW_init_19 : decode Y_CW_init.2.1 19 = .ok (.aload_n 0, 1) := by decide +kernel
theorem d_CW_init_20 : decode Y_CW_init.2.1 20 = .ok (.getfield 10, 3) := by decide +kernel
theorem d_CW_init_23 : decode Y_CW_init.2.1 23 = .ok (.invokespecial 18, 3) := by decide +kernel
theorem d_CW_init_26 : decode Y_CW_init.2.1 26 = .ok (.astore_n 1, 1) := by decide +kernel
theorem d_CW_init_27 : decode Y_CW_init.2.1 27 = .ok (.aload_n 0, 1) := by decide +kernel
theorem d_CW_init_28 : decode Y_CW_init.2.1 28 = .ok (.new 21, 3) := by decide +kernel
theorem d_CW_init_31 : decode Y_CW_init.2.1 31 = .ok (.dup, 1) := by decide +kernel
theorem d_CW_init_32 : decode Y_CW_init.2.1 32 = .ok (.aload_n 0, 1) := by decide +kernel
theorem d_CW_init_33 : decode Y_CW_init.2.1 33 = .ok (.getfield 10, 3) := by decide +kernel
theorem d_CW_init_36 : decode Y_CW_init.2.1 36 = .ok (.aload_n 1, 1) := by decide +kernel
theorem d_CW_init_37 : decode Y_CW_init.2.1 37 = .ok (.invokespecial 23, 3) := by decide +kernel
theorem d_CW_init_40 : decode Y_CW_init.2.1 40 = .ok (.putfield 26, 3) := by decide +kernel
theorem d_CW_init_43 : decode Y_CW_init.2.1 43 = .ok (.aload_n 0, 1) := by decide +kernel
theorem d_CW_init_44 : decode Y_CW_init.2.1 44 = .ok (.new 30, 3) := by decide +kernel
theorem d_CW_init_47 : decode Y_CW_init.2.1 47 = .ok (.dup, 1) := by decide +kernel
theorem d_CW_init_48 : decode Y_CW_init.2.1 48 = .ok (.aload_n 0, 1) := by decide +kernel
theorem d_CW_init_49 : decode Y_CW_init.2.1 49 = .ok (.getfield 10, 3) := by decide +kernel
theorem d_CW_init_52 : decode Y_CW_init.2.1 52 = .ok (.aload_n 1, 1) := by decide +kernel
theorem d_CW_init_53 : decode Y_CW_init.2.1 53 = .ok (.aload_n 0, 1) := by decide +kernel
theorem d_CW_init_54 : decode Y_CW_init.2.1 54 = .ok (.getfield 26, 3) := by decide +kernel
theorem d_CW_init_57 : decode Y_CW_init.2.1 57 = .ok (.invokespecial 32, 3) := by decide +kernel
theorem d_CW_init_60 : decode Y_CW_init.2.1 60 = .ok (.putfield 35, 3) := by decide +kernel
theorem d_CW_init_63 : decode Y_CW_init.2.1 63 = .ok (.aload_n 0, 1) := by decide +kernel
theorem d_CW_init_64 : decode Y_CW_init.2.1 64 = .ok (.new 39, 3) := by decide +kernel
theorem d_CW_init_67 : decode Y_CW_init.2.1 67 = .ok (.dup, 1) := by decide +kernel
theorem d_CW_init_68 : decode Y_CW_init.2.1 68 = .ok (.aload_n 0, 1) := by decide +kernel
theorem d_CW_init_69 : decode Y_CW_init.2.1 69 = .ok (.getfield 10, 3) := by decide +kernel
theorem d_CW_init_72 : decode Y_CW_init.2.1 72 = .ok (.aload_n 0, 1) := by decide +kernel
theorem d_CW_init_73 : decode Y_CW_init.2.1 73 = .ok (.getfield 26, 3) := by decide +kernel
theorem d_CW_init_76 : decode Y_CW_init.2.1 76 = .ok (.aload_n 0, 1) := by decide +kernel
theorem d_CW_init_77 : decode Y_CW_init.2.1 77 = .ok (.getfield 35, 3) := by decide +kernel
theorem d_CW_init_80 : decode Y_CW_init.2.1 80 = .ok (.invokespecial 41, 3) := by decide +kernel
theorem d_CW_init_83 : decode Y_CW_init.2.1 83 = .ok (.putfield 44, 3) := by decide +kernel
theorem d_CW_init_86 : decode Y_CW_init.2.1 86 = .ok (.aload_n 0, 1) := by decide +kernel
theorem d_CW_init_87 : decode Y_CW_init.2.1 87 = .ok (.new 48, 3) := by decide +kernel
theorem d_CW_init_90 : decode Y_CW_init.2.1 90 = .ok (.dup, 1) := by decide +kernel
theorem d_CW_init_91 : decode Y_CW_init.2.1 91 = .ok (.aload_n 0, 1) := by decide +kernel
theorem d_CW_init_92 : decode Y_CW_init.2.1 92 = .ok (.getfield 10, 3) := by decide +kernel
theorem d_CW_init_95 : decode Y_CW_init.2.1 95 = .ok (.invokespecial 50, 3) := by decide +kernel
theorem d_CW_init_98 : decode Y_CW_init.2.1 98 = .ok (.putfield 51, 3) := by decide +kernel
theorem d_CW_init_101 : decode Y_CW_init.2.1 101 = .ok (.aload_n 0, 1) := by decide +kernel
theorem d_CW_init_102 : decode Y_CW_init.2.1 102 = .ok (.new 55, 3) := by decide +kernel
theorem d_CW_init_105 : decode Y_CW_init.2.1 105 = .ok (.dup, 1) := by decide +kernel
theorem d_CW_init_106 : decode Y_CW_init.2.1 106 = .ok (.aload_n 0, 1) := by decide +kernel
theorem d_CW_init_107 : decode Y_CW_init.2.1 107 = .ok (.getfield 10, 3) := by decide +kernel
theorem d_CW_init_110 : decode Y_CW_init.2.1 110 = .ok (.invokespecial 57, 3) := by decide +kernel
theorem d_CW_init_113 : decode Y_CW_init.2.1 113 = .ok (.putfield 58, 3) := by decide +kernel
theorem d_CW_init_116 : decode Y_CW_init.2.1 116 = .ok (.aload_n 0, 1) := by decide +kernel
theorem d_CW_init_117 : decode Y_CW_init.2.1 117 = .ok (.new 62, 3) := by decide +kernel
theorem d_CW_init_120 : decode Y_CW_init.2.1 120 = .ok (.dup, 1) := by decide +kernel
theorem d_CW_init_121 : decode Y_CW_init.2.1 121 = .ok (.aload_n 0, 1) := by decide +kernel
theorem d_CW_init_122 : decode Y_CW_init.2.1 122 = .ok (.getfield 10, 3) := by decide +kernel
theorem d_CW_init_125 : decode Y_CW_init.2.1 125 = .ok (.invokespecial 64, 3) := by decide +kernel
theorem d_CW_init_128 : decode Y_CW_init.2.1 128 = .ok (.putfield 65, 3) := by decide +kernel
theorem d_CW_init_131 : decode Y_CW_init.2.1 131 = .ok (.aload_n 0, 1) := by decide +kernel
theorem d_CW_init_132 : decode Y_CW_init.2.1 132 = .ok (.new 69, 3) := by decide +kernel
theorem d_CW_init_135 : decode Y_CW_init.2.1 135 = .ok (.dup, 1) := by decide +kernel
theorem d_CW_init_136 : decode Y_CW_init.2.1 136 = .ok (.aload_n 0, 1) := by decide +kernel
theorem d_CW_init_137 : decode Y_CW_init.2.1 137 = .ok (.getfield 10, 3) := by decide +kernel
theorem d_CW_init_140 : decode Y_CW_init.2.1 140 = .ok (.invokespecial 71, 3) := by decide +kernel
theorem d_CW_init_143 : decode Y_CW_init.2.1 143 = .ok (.putfield 72, 3) := by decide +kernel
theorem d_CW_init_146 : decode Y_CW_init.2.1 146 = .ok (.aload_n 0, 1) := by decide +kernel
theorem d_CW_init_147 : decode Y_CW_init.2.1 147 = .ok (.new 76, 3) := by decide +kernel
theorem d_CW_init_150 : decode Y_CW_init.2.1 150 = .ok (.dup, 1) := by decide +kernel
theorem d_CW_init_151 : decode Y_CW_init.2.1 151 = .ok (.aload_n 0, 1) := by decide +kernel
theorem d_CW_init_152 : decode Y_CW_init.2.1 152 = .ok (.getfield 10, 3) := by decide +kernel
theorem d_CW_init_155 : decode Y_CW_init.2.1 155 = .ok (.invokespecial 78, 3) := by decide +kernel
theorem d_CW_init_158 : decode Y_CW_init.2.1 158 = .ok (.putfield 79, 3) := by decide +kernel
theorem d_CW_init_161 : decode Y_CW_init.2.1 161 = .ok (.return_, 1) := by decide +kernel
theorem d_CW_node_0 : decode Y_CW_node.2.1 0 = .ok (.iload_n 1, 1) := by decide +kernel
theorem d_CW_node_1 : decode Y_CW_node.2.1 1 = .ok (.ifCond .lt 9, 3) := by decide +kernel
theorem d_CW_node_4 : decode Y_CW_node.2.1 4 = .ok (.iload_n 1, 1) := by decide +kernel
theorem d_CW_node_5 : decode Y_CW_node.2.1 5 = .ok (.bipush 100, 2) := by decide +kernel
theorem d_CW_node_7 : decode Y_CW_node.2.1 7 = .ok (.if_icmp .le 6, 3) := by decide +kernel
theorem d_CW_node_10 : decode Y_CW_node.2.1 10 = .ok (.ldc 83, 2) := by decide +kernel
theorem d_CW_node_12 : decode Y_CW_node.2.1 12 = .ok (.ireturn, 1) := by decide +kernel
theorem d_CW_node_13 : decode Y_CW_node.2.1 13 = .ok (.aload_n 0, 1) := by decide +kernel
theorem d_CW_node_14 : decode Y_CW_node.2.1 14 = .ok (.getfield 10, 3) := by decide +kernel
theorem d_CW_node_17 : decode Y_CW_node.2.1 17 = .ok (.getfield 84, 3) := by decide +kernel
theorem d_CW_node_20 : decode Y_CW_node.2.1 20 = .ok (.bipush 9, 2) := by decide +kernel
theorem d_CW_node_22 : decode Y_CW_node.2.1 22 = .ok (.if_icmp .lt 6, 3) := by decide +kernel
theorem d_CW_node_25 : decode Y_CW_node.2.1 25 = .ok (.ldc 88, 2) := by decide +kernel
theorem d_CW_node_27 : decode Y_CW_node.2.1 27 = .ok (.ireturn, 1) := by decide +kernel
theorem d_CW_node_28 : decode Y_CW_node.2.1 28 = .ok (.aload_n 0, 1) := by decide +kernel
theorem d_CW_node_29 : decode Y_CW_node.2.1 29 = .ok (.getfield 10, 3) := by decide +kernel
theorem d_CW_node_32 : decode Y_CW_node.2.1 32 = .ok (.iload_n 1, 1) := by decide +kernel
theorem d_CW_node_33 : decode Y_CW_node.2.1 33 = .ok (.invokevirtual 89, 3) := by decide +kernel
theorem d_CW_node_36 : decode Y_CW_node.2.1 36 = .ok (.ireturn, 1) := by decide +kernel
theorem d_CW_arc_0 : decode Y_CW_arc.2.1 0 = .ok (.aload_n 0, 1) := by decide +kernel
theorem d_CW_arc_1 : decode Y_CW_arc.2.1 1 = .ok (.getfield 10, 3) := by decide +kernel
theorem d_CW_arc_4 : decode Y_CW_arc.2.1 4 = .ok (.iload_n 1, 1) := by decide +kernel
theorem d_CW_arc_5 : decode Y_CW_arc.2.1 5 = .ok (.iload_n 2, 1) := by decide +kernel
theorem d_CW_arc_6 : decode Y_CW_arc.2.1 6 = .ok (.invokevirtual 93, 3) := by decide +kernel
theorem d_CW_arc_9 : decode Y_CW_arc.2.1 9 = .ok (.ifCond .eq 17, 3) := by decide +kernel
theorem d_CW_arc_12 : decode Y_CW_arc.2.1 12 = .ok (.iload_n 3, 1) := by decide +kernel
theorem d_CW_arc_13 : decode Y_CW_arc.2.1 13 = .ok (.sipush (-1000), 3) := by decide +kernel
theorem d_CW_arc_16 : decode Y_CW_arc.2.1 16 = .ok (.if_icmp .lt 10, 3) := by decide +kernel
theorem d_CW_arc_19 : decode Y_CW_arc.2.1 19 = .ok (.iload_n 3, 1) := by decide +kernel
theorem d_CW_arc_20 : decode Y_CW_arc.2.1 20 = .ok (.sipush 1000, 3) := by decide +kernel
theorem d_CW_arc_23 : decode Y_CW_arc.2.1 23 = .ok (.if_icmp .le 6, 3) := by decide +kernel
theorem d_CW_arc_26 : decode Y_CW_arc.2.1 26 = .ok (.ldc 83, 2) := by decide +kernel
theorem d_CW_arc_28 : decode Y_CW_arc.2.1 28 = .ok (.ireturn, 1) := by decide +kernel
theorem d_CW_arc_29 : decode Y_CW_arc.2.1 29 = .ok (.aload_n 0, 1) := by decide +kernel
theorem d_CW_arc_30 : decode Y_CW_arc.2.1 30 = .ok (.getfield 10, 3) := by decide +kernel
theorem d_CW_arc_33 : decode Y_CW_arc.2.1 33 = .ok (.iload_n 1, 1) := by decide +kernel
theorem d_CW_arc_34 : decode Y_CW_arc.2.1 34 = .ok (.iload_n 2, 1) := by decide +kernel
theorem d_CW_arc_35 : decode Y_CW_arc.2.1 35 = .ok (.iload_n 3, 1) := by decide +kernel
theorem d_CW_arc_36 : decode Y_CW_arc.2.1 36 = .ok (.invokevirtual 97, 3) := by decide +kernel
theorem d_CW_arc_39 : decode Y_CW_arc.2.1 39 = .ok (.invokestatic 101, 3) := by decide +kernel
theorem d_CW_arc_42 : decode Y_CW_arc.2.1 42 = .ok (.ireturn, 1) := by decide +kernel
theorem d_CW_orNone_0 : decode Y_CW_orNone.2.1 0 = .ok (.iload_n 0, 1) := by decide +kernel
theorem d_CW_orNone_1 : decode Y_CW_orNone.2.1 1 = .ok (.ldc 104, 2) := by decide +kernel
theorem d_CW_orNone_3 : decode Y_CW_orNone.2.1 3 = .ok (.if_icmp .ne 8, 3) := by decide +kernel
theorem d_CW_orNone_6 : decode Y_CW_orNone.2.1 6 = .ok (.ldc 136, 2) := by decide +kernel
theorem d_CW_orNone_8 : decode Y_CW_orNone.2.1 8 = .ok (.goto 4, 3) := by decide +kernel
theorem d_CW_orNone_11 : decode Y_CW_orNone.2.1 11 = .ok (.iload_n 0, 1) := by decide +kernel
theorem d_CW_orNone_12 : decode Y_CW_orNone.2.1 12 = .ok (.ireturn, 1) := by decide +kernel
theorem d_CW_lose_0 : decode Y_CW_lose.2.1 0 = .ok (.aload_n 0, 1) := by decide +kernel
theorem d_CW_lose_1 : decode Y_CW_lose.2.1 1 = .ok (.getfield 10, 3) := by decide +kernel
theorem d_CW_lose_4 : decode Y_CW_lose.2.1 4 = .ok (.iload_n 1, 1) := by decide +kernel
theorem d_CW_lose_5 : decode Y_CW_lose.2.1 5 = .ok (.iload_n 2, 1) := by decide +kernel
theorem d_CW_lose_6 : decode Y_CW_lose.2.1 6 = .ok (.invokevirtual 93, 3) := by decide +kernel
theorem d_CW_lose_9 : decode Y_CW_lose.2.1 9 = .ok (.ifCond .ne 6, 3) := by decide +kernel
theorem d_CW_lose_12 : decode Y_CW_lose.2.1 12 = .ok (.ldc 83, 2) := by decide +kernel
theorem d_CW_lose_14 : decode Y_CW_lose.2.1 14 = .ok (.ireturn, 1) := by decide +kernel
theorem d_CW_lose_15 : decode Y_CW_lose.2.1 15 = .ok (.aload_n 0, 1) := by decide +kernel
theorem d_CW_lose_16 : decode Y_CW_lose.2.1 16 = .ok (.getfield 10, 3) := by decide +kernel
theorem d_CW_lose_19 : decode Y_CW_lose.2.1 19 = .ok (.iload_n 1, 1) := by decide +kernel
theorem d_CW_lose_20 : decode Y_CW_lose.2.1 20 = .ok (.iload_n 2, 1) := by decide +kernel
theorem d_CW_lose_21 : decode Y_CW_lose.2.1 21 = .ok (.ldc 104, 2) := by decide +kernel
theorem d_CW_lose_23 : decode Y_CW_lose.2.1 23 = .ok (.invokevirtual 97, 3) := by decide +kernel
theorem d_CW_lose_26 : decode Y_CW_lose.2.1 26 = .ok (.invokestatic 101, 3) := by decide +kernel
theorem d_CW_lose_29 : decode Y_CW_lose.2.1 29 = .ok (.ireturn, 1) := by decide +kernel
theorem d_CW_price_0 : decode Y_CW_price.2.1 0 = .ok (.aload_n 0, 1) := by decide +kernel
theorem d_CW_price_1 : decode Y_CW_price.2.1 1 = .ok (.getfield 10, 3) := by decide +kernel
theorem d_CW_price_4 : decode Y_CW_price.2.1 4 = .ok (.iload_n 1, 1) := by decide +kernel
theorem d_CW_price_5 : decode Y_CW_price.2.1 5 = .ok (.invokevirtual 105, 3) := by decide +kernel
theorem d_CW_price_8 : decode Y_CW_price.2.1 8 = .ok (.ifCond .eq 15, 3) := by decide +kernel
theorem d_CW_price_11 : decode Y_CW_price.2.1 11 = .ok (.iload_n 2, 1) := by decide +kernel
theorem d_CW_price_12 : decode Y_CW_price.2.1 12 = .ok (.iconst (-1), 1) := by decide +kernel
theorem d_CW_price_13 : decode Y_CW_price.2.1 13 = .ok (.if_icmp .lt 10, 3) := by decide +kernel
theorem d_CW_price_16 : decode Y_CW_price.2.1 16 = .ok (.iload_n 2, 1) := by decide +kernel
theorem d_CW_price_17 : decode Y_CW_price.2.1 17 = .ok (.sipush 2000, 3) := by decide +kernel
theorem d_CW_price_20 : decode Y_CW_price.2.1 20 = .ok (.if_icmp .le 6, 3) := by decide +kernel
theorem d_CW_price_23 : decode Y_CW_price.2.1 23 = .ok (.ldc 83, 2) := by decide +kernel
theorem d_CW_price_25 : decode Y_CW_price.2.1 25 = .ok (.ireturn, 1) := by decide +kernel
theorem d_CW_price_26 : decode Y_CW_price.2.1 26 = .ok (.aload_n 0, 1) := by decide +kernel
theorem d_CW_price_27 : decode Y_CW_price.2.1 27 = .ok (.getfield 10, 3) := by decide +kernel
theorem d_CW_price_30 : decode Y_CW_price.2.1 30 = .ok (.iload_n 1, 1) := by decide +kernel
theorem d_CW_price_31 : decode Y_CW_price.2.1 31 = .ok (.iload_n 2, 1) := by decide +kernel
theorem d_CW_price_32 : decode Y_CW_price.2.1 32 = .ok (.invokevirtual 109, 3) := by decide +kernel
theorem d_CW_price_35 : decode Y_CW_price.2.1 35 = .ok (.ireturn, 1) := by decide +kernel
theorem d_CW_ahead_0 : decode Y_CW_ahead.2.1 0 = .ok (.aload_n 0, 1) := by decide +kernel
theorem d_CW_ahead_1 : decode Y_CW_ahead.2.1 1 = .ok (.getfield 10, 3) := by decide +kernel
theorem d_CW_ahead_4 : decode Y_CW_ahead.2.1 4 = .ok (.iload_n 1, 1) := by decide +kernel
theorem d_CW_ahead_5 : decode Y_CW_ahead.2.1 5 = .ok (.iload_n 2, 1) := by decide +kernel
theorem d_CW_ahead_6 : decode Y_CW_ahead.2.1 6 = .ok (.invokevirtual 93, 3) := by decide +kernel
theorem d_CW_ahead_9 : decode Y_CW_ahead.2.1 9 = .ok (.ifCond .eq 11, 3) := by decide +kernel
theorem d_CW_ahead_12 : decode Y_CW_ahead.2.1 12 = .ok (.iload_n 1, 1) := by decide +kernel
theorem d_CW_ahead_13 : decode Y_CW_ahead.2.1 13 = .ok (.ifCond .eq 7, 3) := by decide +kernel
theorem d_CW_ahead_16 : decode Y_CW_ahead.2.1 16 = .ok (.iload_n 2, 1) := by decide +kernel
theorem d_CW_ahead_17 : decode Y_CW_ahead.2.1 17 = .ok (.ifCond .ne 6, 3) := by decide +kernel
theorem d_CW_ahead_20 : decode Y_CW_ahead.2.1 20 = .ok (.ldc 83, 2) := by decide +kernel
theorem d_CW_ahead_22 : decode Y_CW_ahead.2.1 22 = .ok (.ireturn, 1) := by decide +kernel
theorem d_CW_ahead_23 : decode Y_CW_ahead.2.1 23 = .ok (.aload_n 0, 1) := by decide +kernel
theorem d_CW_ahead_24 : decode Y_CW_ahead.2.1 24 = .ok (.getfield 10, 3) := by decide +kernel
theorem d_CW_ahead_27 : decode Y_CW_ahead.2.1 27 = .ok (.iload_n 1, 1) := by decide +kernel
theorem d_CW_ahead_28 : decode Y_CW_ahead.2.1 28 = .ok (.iload_n 2, 1) := by decide +kernel
theorem d_CW_ahead_29 : decode Y_CW_ahead.2.1 29 = .ok (.iload_n 3, 1) := by decide +kernel
theorem d_CW_ahead_30 : decode Y_CW_ahead.2.1 30 = .ok (.invokevirtual 113, 3) := by decide +kernel
theorem d_CW_ahead_33 : decode Y_CW_ahead.2.1 33 = .ok (.ireturn, 1) := by decide +kernel
theorem d_CW_bit_0 : decode Y_CW_bit.2.1 0 = .ok (.iconst 1, 1) := by decide +kernel
theorem d_CW_bit_1 : decode Y_CW_bit.2.1 1 = .ok (.iload_n 0, 1) := by decide +kernel
theorem d_CW_bit_2 : decode Y_CW_bit.2.1 2 = .ok (.iconst 1, 1) := by decide +kernel
theorem d_CW_bit_3 : decode Y_CW_bit.2.1 3 = .ok (.isub, 1) := by decide +kernel
theorem d_CW_bit_4 : decode Y_CW_bit.2.1 4 = .ok (.ishl, 1) := by decide +kernel
theorem d_CW_bit_5 : decode Y_CW_bit.2.1 5 = .ok (.ireturn, 1) := by decide +kernel
theorem d_CW_rule_0 : decode Y_CW_rule.2.1 0 = .ok (.iload_n 1, 1) := by decide +kernel
theorem d_CW_rule_1 : decode Y_CW_rule.2.1 1 = .ok (.tableswitch 100 0 2 #[27, 52, 77], 27) := by decide +kernel
theorem d_CW_rule_28 : decode Y_CW_rule.2.1 28 = .ok (.iload_n 2, 1) := by decide +kernel
theorem d_CW_rule_29 : decode Y_CW_rule.2.1 29 = .ok (.iconst 1, 1) := by decide +kernel
theorem d_CW_rule_30 : decode Y_CW_rule.2.1 30 = .ok (.if_icmp .lt 9, 3) := by decide +kernel
theorem d_CW_rule_33 : decode Y_CW_rule.2.1 33 = .ok (.iload_n 2, 1) := by decide +kernel
theorem d_CW_rule_34 : decode Y_CW_rule.2.1 34 = .ok (.bipush 8, 2) := by decide +kernel
theorem d_CW_rule_36 : decode Y_CW_rule.2.1 36 = .ok (.if_icmp .le 8, 3) := by decide +kernel
theorem d_CW_rule_39 : decode Y_CW_rule.2.1 39 = .ok (.ldc 83, 2) := by decide +kernel
theorem d_CW_rule_41 : decode Y_CW_rule.2.1 41 = .ok (.goto 11, 3) := by decide +kernel
theorem d_CW_rule_44 : decode Y_CW_rule.2.1 44 = .ok (.aload_n 0, 1) := by decide +kernel
theorem d_CW_rule_45 : decode Y_CW_rule.2.1 45 = .ok (.getfield 10, 3) := by decide +kernel
theorem d_CW_rule_48 : decode Y_CW_rule.2.1 48 = .ok (.iload_n 2, 1) := by decide +kernel
theorem d_CW_rule_49 : decode Y_CW_rule.2.1 49 = .ok (.invokevirtual 117, 3) := by decide +kernel
theorem d_CW_rule_52 : decode Y_CW_rule.2.1 52 = .ok (.ireturn, 1) := by decide +kernel
theorem d_CW_rule_53 : decode Y_CW_rule.2.1 53 = .ok (.iload_n 2, 1) := by decide +kernel
theorem d_CW_rule_54 : decode Y_CW_rule.2.1 54 = .ok (.ifCond .lt 10, 3) := by decide +kernel
theorem d_CW_rule_57 : decode Y_CW_rule.2.1 57 = .ok (.iload_n 2, 1) := by decide +kernel
theorem d_CW_rule_58 : decode Y_CW_rule.2.1 58 = .ok (.sipush 1000, 3) := by decide +kernel
theorem d_CW_rule_61 : decode Y_CW_rule.2.1 61 = .ok (.if_icmp .le 8, 3) := by decide +kernel
theorem d_CW_rule_64 : decode Y_CW_rule.2.1 64 = .ok (.ldc 83, 2) := by decide +kernel
theorem d_CW_rule_66 : decode Y_CW_rule.2.1 66 = .ok (.goto 11, 3) := by decide +kernel
theorem d_CW_rule_69 : decode Y_CW_rule.2.1 69 = .ok (.aload_n 0, 1) := by decide +kernel
theorem d_CW_rule_70 : decode Y_CW_rule.2.1 70 = .ok (.getfield 10, 3) := by decide +kernel
theorem d_CW_rule_73 : decode Y_CW_rule.2.1 73 = .ok (.iload_n 2, 1) := by decide +kernel
theorem d_CW_rule_74 : decode Y_CW_rule.2.1 74 = .ok (.invokevirtual 120, 3) := by decide +kernel
theorem d_CW_rule_77 : decode Y_CW_rule.2.1 77 = .ok (.ireturn, 1) := by decide +kernel
theorem d_CW_rule_78 : decode Y_CW_rule.2.1 78 = .ok (.iload_n 2, 1) := by decide +kernel
theorem d_CW_rule_79 : decode Y_CW_rule.2.1 79 = .ok (.ifCond .lt 8, 3) := by decide +kernel
theorem d_CW_rule_82 : decode Y_CW_rule.2.1 82 = .ok (.iload_n 2, 1) := by decide +kernel
theorem d_CW_rule_83 : decode Y_CW_rule.2.1 83 = .ok (.iconst 1, 1) := by decide +kernel
theorem d_CW_rule_84 : decode Y_CW_rule.2.1 84 = .ok (.if_icmp .le 8, 3) := by decide +kernel
theorem d_CW_rule_87 : decode Y_CW_rule.2.1 87 = .ok (.ldc 83, 2) := by decide +kernel
theorem d_CW_rule_89 : decode Y_CW_rule.2.1 89 = .ok (.goto 11, 3) := by decide +kernel
theorem d_CW_rule_92 : decode Y_CW_rule.2.1 92 = .ok (.aload_n 0, 1) := by decide +kernel
theorem d_CW_rule_93 : decode Y_CW_rule.2.1 93 = .ok (.getfield 10, 3) := by decide +kernel
theorem d_CW_rule_96 : decode Y_CW_rule.2.1 96 = .ok (.iload_n 2, 1) := by decide +kernel
theorem d_CW_rule_97 : decode Y_CW_rule.2.1 97 = .ok (.invokevirtual 123, 3) := by decide +kernel
theorem d_CW_rule_100 : decode Y_CW_rule.2.1 100 = .ok (.ireturn, 1) := by decide +kernel
theorem d_CW_rule_101 : decode Y_CW_rule.2.1 101 = .ok (.ldc 83, 2) := by decide +kernel
theorem d_CW_rule_103 : decode Y_CW_rule.2.1 103 = .ok (.ireturn, 1) := by decide +kernel
theorem d_CW_best_0 : decode Y_CW_best.2.1 0 = .ok (.aload_n 0, 1) := by decide +kernel
theorem d_CW_best_1 : decode Y_CW_best.2.1 1 = .ok (.getfield 26, 3) := by decide +kernel
theorem d_CW_best_4 : decode Y_CW_best.2.1 4 = .ok (.invokevirtual 126, 3) := by decide +kernel
theorem d_CW_best_7 : decode Y_CW_best.2.1 7 = .ok (.aload_n 0, 1) := by decide +kernel
theorem d_CW_best_8 : decode Y_CW_best.2.1 8 = .ok (.getfield 26, 3) := by decide +kernel
theorem d_CW_best_11 : decode Y_CW_best.2.1 11 = .ok (.invokevirtual 129, 3) := by decide +kernel
theorem d_CW_best_14 : decode Y_CW_best.2.1 14 = .ok (.invokestatic 101, 3) := by decide +kernel
theorem d_CW_best_17 : decode Y_CW_best.2.1 17 = .ok (.ireturn, 1) := by decide +kernel
theorem d_CW_sum_0 : decode Y_CW_sum.2.1 0 = .ok (.iload_n 0, 1) := by decide +kernel
theorem d_CW_sum_1 : decode Y_CW_sum.2.1 1 = .ok (.ldc 104, 2) := by decide +kernel
theorem d_CW_sum_3 : decode Y_CW_sum.2.1 3 = .ok (.if_icmp .eq 9, 3) := by decide +kernel
theorem d_CW_sum_6 : decode Y_CW_sum.2.1 6 = .ok (.iload_n 1, 1) := by decide +kernel
theorem d_CW_sum_7 : decode Y_CW_sum.2.1 7 = .ok (.ldc 104, 2) := by decide +kernel
theorem d_CW_sum_9 : decode Y_CW_sum.2.1 9 = .ok (.if_icmp .ne 8, 3) := by decide +kernel
theorem d_CW_sum_12 : decode Y_CW_sum.2.1 12 = .ok (.ldc 104, 2) := by decide +kernel
theorem d_CW_sum_14 : decode Y_CW_sum.2.1 14 = .ok (.goto 6, 3) := by decide +kernel
theorem d_CW_sum_17 : decode Y_CW_sum.2.1 17 = .ok (.iload_n 0, 1) := by decide +kernel
theorem d_CW_sum_18 : decode Y_CW_sum.2.1 18 = .ok (.iload_n 1, 1) := by decide +kernel
theorem d_CW_sum_19 : decode Y_CW_sum.2.1 19 = .ok (.iadd, 1) := by decide +kernel
theorem d_CW_sum_20 : decode Y_CW_sum.2.1 20 = .ok (.ireturn, 1) := by decide +kernel
theorem d_CW_many_0 : decode Y_CW_many.2.1 0 = .ok (.aload_n 0, 1) := by decide +kernel
theorem d_CW_many_1 : decode Y_CW_many.2.1 1 = .ok (.getfield 26, 3) := by decide +kernel
theorem d_CW_many_4 : decode Y_CW_many.2.1 4 = .ok (.invokevirtual 126, 3) := by decide +kernel
theorem d_CW_many_7 : decode Y_CW_many.2.1 7 = .ok (.aload_n 0, 1) := by decide +kernel
theorem d_CW_many_8 : decode Y_CW_many.2.1 8 = .ok (.getfield 26, 3) := by decide +kernel
theorem d_CW_many_11 : decode Y_CW_many.2.1 11 = .ok (.invokevirtual 133, 3) := by decide +kernel
theorem d_CW_many_14 : decode Y_CW_many.2.1 14 = .ok (.ireturn, 1) := by decide +kernel
theorem d_CW_first_0 : decode Y_CW_first.2.1 0 = .ok (.aload_n 0, 1) := by decide +kernel
theorem d_CW_first_1 : decode Y_CW_first.2.1 1 = .ok (.getfield 26, 3) := by decide +kernel
theorem d_CW_first_4 : decode Y_CW_first.2.1 4 = .ok (.invokevirtual 126, 3) := by decide +kernel
theorem d_CW_first_7 : decode Y_CW_first.2.1 7 = .ok (.aload_n 0, 1) := by decide +kernel
theorem d_CW_first_8 : decode Y_CW_first.2.1 8 = .ok (.getfield 26, 3) := by decide +kernel
theorem d_CW_first_11 : decode Y_CW_first.2.1 11 = .ok (.invokevirtual 129, 3) := by decide +kernel
theorem d_CW_first_14 : decode Y_CW_first.2.1 14 = .ok (.ldc 104, 2) := by decide +kernel
theorem d_CW_first_16 : decode Y_CW_first.2.1 16 = .ok (.if_icmp .ne 6, 3) := by decide +kernel
theorem d_CW_first_19 : decode Y_CW_first.2.1 19 = .ok (.ldc 136, 2) := by decide +kernel
theorem d_CW_first_21 : decode Y_CW_first.2.1 21 = .ok (.ireturn, 1) := by decide +kernel
theorem d_CW_first_22 : decode Y_CW_first.2.1 22 = .ok (.aload_n 0, 1) := by decide +kernel
theorem d_CW_first_23 : decode Y_CW_first.2.1 23 = .ok (.getfield 44, 3) := by decide +kernel
theorem d_CW_first_26 : decode Y_CW_first.2.1 26 = .ok (.invokevirtual 137, 3) := by decide +kernel
theorem d_CW_first_29 : decode Y_CW_first.2.1 29 = .ok (.iload_n 1, 1) := by decide +kernel
theorem d_CW_first_30 : decode Y_CW_first.2.1 30 = .ok (.iconst (-1), 1) := by decide +kernel
theorem d_CW_first_31 : decode Y_CW_first.2.1 31 = .ok (.if_icmp .ne 11, 3) := by decide +kernel
theorem d_CW_first_34 : decode Y_CW_first.2.1 34 = .ok (.aload_n 0, 1) := by decide +kernel
theorem d_CW_first_35 : decode Y_CW_first.2.1 35 = .ok (.getfield 44, 3) := by decide +kernel
theorem d_CW_first_38 : decode Y_CW_first.2.1 38 = .ok (.getfield 138, 3) := by decide +kernel
theorem d_CW_first_41 : decode Y_CW_first.2.1 41 = .ok (.ireturn, 1) := by decide +kernel
theorem d_CW_first_42 : decode Y_CW_first.2.1 42 = .ok (.iload_n 1, 1) := by decide +kernel
theorem d_CW_first_43 : decode Y_CW_first.2.1 43 = .ok (.ifCond .lt 14, 3) := by decide +kernel
theorem d_CW_first_46 : decode Y_CW_first.2.1 46 = .ok (.iload_n 1, 1) := by decide +kernel
theorem d_CW_first_47 : decode Y_CW_first.2.1 47 = .ok (.aload_n 0, 1) := by decide +kernel
theorem d_CW_first_48 : decode Y_CW_first.2.1 48 = .ok (.getfield 44, 3) := by decide +kernel
theorem d_CW_first_51 : decode Y_CW_first.2.1 51 = .ok (.getfield 138, 3) := by decide +kernel
theorem d_CW_first_54 : decode Y_CW_first.2.1 54 = .ok (.if_icmp .lt 8, 3) := by decide +kernel
theorem d_CW_first_57 : decode Y_CW_first.2.1 57 = .ok (.ldc 83, 2) := by decide +kernel
theorem d_CW_first_59 : decode Y_CW_first.2.1 59 = .ok (.goto 12, 3) := by decide +kernel
theorem d_CW_first_62 : decode Y_CW_first.2.1 62 = .ok (.aload_n 0, 1) := by decide +kernel
theorem d_CW_first_63 : decode Y_CW_first.2.1 63 = .ok (.getfield 44, 3) := by decide +kernel
theorem d_CW_first_66 : decode Y_CW_first.2.1 66 = .ok (.getfield 141, 3) := by decide +kernel
theorem d_CW_first_69 : decode Y_CW_first.2.1 69 = .ok (.iload_n 1, 1) := by decide +kernel
theorem d_CW_first_70 : decode Y_CW_first.2.1 70 = .ok (.iaload, 1) := by decide +kernel
theorem d_CW_first_71 : decode Y_CW_first.2.1 71 = .ok (.ireturn, 1) := by decide +kernel
theorem d_CW_with_0 : decode Y_CW_with.2.1 0 = .ok (.aload_n 0, 1) := by decide +kernel
theorem d_CW_with_1 : decode Y_CW_with.2.1 1 = .ok (.getfield 10, 3) := by decide +kernel
theorem d_CW_with_4 : decode Y_CW_with.2.1 4 = .ok (.iload_n 1, 1) := by decide +kernel
theorem d_CW_with_5 : decode Y_CW_with.2.1 5 = .ok (.iload_n 2, 1) := by decide +kernel
theorem d_CW_with_6 : decode Y_CW_with.2.1 6 = .ok (.invokevirtual 93, 3) := by decide +kernel
theorem d_CW_with_9 : decode Y_CW_with.2.1 9 = .ok (.ifCond .ne 6, 3) := by decide +kernel
theorem d_CW_with_12 : decode Y_CW_with.2.1 12 = .ok (.ldc 83, 2) := by decide +kernel
theorem d_CW_with_14 : decode Y_CW_with.2.1 14 = .ok (.ireturn, 1) := by decide +kernel
theorem d_CW_with_15 : decode Y_CW_with.2.1 15 = .ok (.aload_n 0, 1) := by decide +kernel
theorem d_CW_with_16 : decode Y_CW_with.2.1 16 = .ok (.getfield 26, 3) := by decide +kernel
theorem d_CW_with_19 : decode Y_CW_with.2.1 19 = .ok (.invokevirtual 126, 3) := by decide +kernel
theorem d_CW_with_22 : decode Y_CW_with.2.1 22 = .ok (.aload_n 0, 1) := by decide +kernel
theorem d_CW_with_23 : decode Y_CW_with.2.1 23 = .ok (.getfield 35, 3) := by decide +kernel
theorem d_CW_with_26 : decode Y_CW_with.2.1 26 = .ok (.aload_n 0, 1) := by decide +kernel
theorem d_CW_with_27 : decode Y_CW_with.2.1 27 = .ok (.getfield 10, 3) := by decide +kernel
theorem d_CW_with_30 : decode Y_CW_with.2.1 30 = .ok (.invokevirtual 145, 3) := by decide +kernel
theorem d_CW_with_33 : decode Y_CW_with.2.1 33 = .ok (.aload_n 0, 1) := by decide +kernel
theorem d_CW_with_34 : decode Y_CW_with.2.1 34 = .ok (.getfield 10, 3) := by decide +kernel
theorem d_CW_with_37 : decode Y_CW_with.2.1 37 = .ok (.getfield 148, 3) := by decide +kernel
theorem d_CW_with_40 : decode Y_CW_with.2.1 40 = .ok (.invokevirtual 151, 3) := by decide +kernel
theorem d_CW_with_43 : decode Y_CW_with.2.1 43 = .ok (.aload_n 0, 1) := by decide +kernel
theorem d_CW_with_44 : decode Y_CW_with.2.1 44 = .ok (.getfield 35, 3) := by decide +kernel
theorem d_CW_with_47 : decode Y_CW_with.2.1 47 = .ok (.iload_n 1, 1) := by decide +kernel
theorem d_CW_with_48 : decode Y_CW_with.2.1 48 = .ok (.iload_n 2, 1) := by decide +kernel
theorem d_CW_with_49 : decode Y_CW_with.2.1 49 = .ok (.ldc 155, 2) := by decide +kernel
theorem d_CW_with_51 : decode Y_CW_with.2.1 51 = .ok (.invokevirtual 156, 3) := by decide +kernel
theorem d_CW_with_54 : decode Y_CW_with.2.1 54 = .ok (.invokestatic 101, 3) := by decide +kernel
theorem d_CW_with_57 : decode Y_CW_with.2.1 57 = .ok (.ireturn, 1) := by decide +kernel
theorem d_CW_without_0 : decode Y_CW_without.2.1 0 = .ok (.aload_n 0, 1) := by decide +kernel
theorem d_CW_without_1 : decode Y_CW_without.2.1 1 = .ok (.getfield 10, 3) := by decide +kernel
theorem d_CW_without_4 : decode Y_CW_without.2.1 4 = .ok (.iload_n 1, 1) := by decide +kernel
theorem d_CW_without_5 : decode Y_CW_without.2.1 5 = .ok (.invokevirtual 105, 3) := by decide +kernel
theorem d_CW_without_8 : decode Y_CW_without.2.1 8 = .ok (.ifCond .ne 6, 3) := by decide +kernel
theorem d_CW_without_11 : decode Y_CW_without.2.1 11 = .ok (.ldc 83, 2) := by decide +kernel
theorem d_CW_without_13 : decode Y_CW_without.2.1 13 = .ok (.ireturn, 1) := by decide +kernel
theorem d_CW_without_14 : decode Y_CW_without.2.1 14 = .ok (.aload_n 0, 1) := by decide +kernel
theorem d_CW_without_15 : decode Y_CW_without.2.1 15 = .ok (.getfield 26, 3) := by decide +kernel
theorem d_CW_without_18 : decode Y_CW_without.2.1 18 = .ok (.invokevirtual 126, 3) := by decide +kernel
theorem d_CW_without_21 : decode Y_CW_without.2.1 21 = .ok (.aload_n 0, 1) := by decide +kernel
theorem d_CW_without_22 : decode Y_CW_without.2.1 22 = .ok (.getfield 26, 3) := by decide +kernel
theorem d_CW_without_25 : decode Y_CW_without.2.1 25 = .ok (.iload_n 1, 1) := by decide +kernel
theorem d_CW_without_26 : decode Y_CW_without.2.1 26 = .ok (.invokevirtual 159, 3) := by decide +kernel
theorem d_CW_without_29 : decode Y_CW_without.2.1 29 = .ok (.invokestatic 101, 3) := by decide +kernel
theorem d_CW_without_32 : decode Y_CW_without.2.1 32 = .ok (.ireturn, 1) := by decide +kernel
theorem d_CW_filter_0 : decode Y_CW_filter.2.1 0 = .ok (.aload_n 0, 1) := by decide +kernel
theorem d_CW_filter_1 : decode Y_CW_filter.2.1 1 = .ok (.getfield 26, 3) := by decide +kernel
theorem d_CW_filter_4 : decode Y_CW_filter.2.1 4 = .ok (.invokevirtual 126, 3) := by decide +kernel
theorem d_CW_filter_7 : decode Y_CW_filter.2.1 7 = .ok (.aload_n 0, 1) := by decide +kernel
theorem d_CW_filter_8 : decode Y_CW_filter.2.1 8 = .ok (.getfield 35, 3) := by decide +kernel
theorem d_CW_filter_11 : decode Y_CW_filter.2.1 11 = .ok (.aload_n 0, 1) := by decide +kernel
theorem d_CW_filter_12 : decode Y_CW_filter.2.1 12 = .ok (.getfield 10, 3) := by decide +kernel
theorem d_CW_filter_15 : decode Y_CW_filter.2.1 15 = .ok (.invokevirtual 145, 3) := by decide +kernel
theorem d_CW_filter_18 : decode Y_CW_filter.2.1 18 = .ok (.aload_n 0, 1) := by decide +kernel
theorem d_CW_filter_19 : decode Y_CW_filter.2.1 19 = .ok (.getfield 10, 3) := by decide +kernel
theorem d_CW_filter_22 : decode Y_CW_filter.2.1 22 = .ok (.getfield 148, 3) := by decide +kernel
theorem d_CW_filter_25 : decode Y_CW_filter.2.1 25 = .ok (.invokevirtual 151, 3) := by decide +kernel
theorem d_CW_filter_28 : decode Y_CW_filter.2.1 28 = .ok (.aload_n 0, 1) := by decide +kernel
theorem d_CW_filter_29 : decode Y_CW_filter.2.1 29 = .ok (.getfield 35, 3) := by decide +kernel
theorem d_CW_filter_32 : decode Y_CW_filter.2.1 32 = .ok (.iload_n 1, 1) := by decide +kernel
theorem d_CW_filter_33 : decode Y_CW_filter.2.1 33 = .ok (.invokevirtual 162, 3) := by decide +kernel
theorem d_CW_filter_36 : decode Y_CW_filter.2.1 36 = .ok (.ireturn, 1) := by decide +kernel
theorem d_CW_weight_0 : decode Y_CW_weight.2.1 0 = .ok (.aload_n 0, 1) := by decide +kernel
theorem d_CW_weight_1 : decode Y_CW_weight.2.1 1 = .ok (.getfield 10, 3) := by decide +kernel
theorem d_CW_weight_4 : decode Y_CW_weight.2.1 4 = .ok (.iload_n 1, 1) := by decide +kernel
theorem d_CW_weight_5 : decode Y_CW_weight.2.1 5 = .ok (.invokevirtual 165, 3) := by decide +kernel
theorem d_CW_weight_8 : decode Y_CW_weight.2.1 8 = .ok (.ifCond .eq 17, 3) := by decide +kernel
theorem d_CW_weight_11 : decode Y_CW_weight.2.1 11 = .ok (.iload_n 2, 1) := by decide +kernel
theorem d_CW_weight_12 : decode Y_CW_weight.2.1 12 = .ok (.sipush (-1000), 3) := by decide +kernel
theorem d_CW_weight_15 : decode Y_CW_weight.2.1 15 = .ok (.if_icmp .lt 10, 3) := by decide +kernel
theorem d_CW_weight_18 : decode Y_CW_weight.2.1 18 = .ok (.iload_n 2, 1) := by decide +kernel
theorem d_CW_weight_19 : decode Y_CW_weight.2.1 19 = .ok (.sipush 1000, 3) := by decide +kernel
theorem d_CW_weight_22 : decode Y_CW_weight.2.1 22 = .ok (.if_icmp .le 6, 3) := by decide +kernel
theorem d_CW_weight_25 : decode Y_CW_weight.2.1 25 = .ok (.ldc 83, 2) := by decide +kernel
theorem d_CW_weight_27 : decode Y_CW_weight.2.1 27 = .ok (.ireturn, 1) := by decide +kernel
theorem d_CW_weight_28 : decode Y_CW_weight.2.1 28 = .ok (.aload_n 0, 1) := by decide +kernel
theorem d_CW_weight_29 : decode Y_CW_weight.2.1 29 = .ok (.getfield 51, 3) := by decide +kernel
theorem d_CW_weight_32 : decode Y_CW_weight.2.1 32 = .ok (.iload_n 1, 1) := by decide +kernel
theorem d_CW_weight_33 : decode Y_CW_weight.2.1 33 = .ok (.iload_n 2, 1) := by decide +kernel
theorem d_CW_weight_34 : decode Y_CW_weight.2.1 34 = .ok (.invokevirtual 168, 3) := by decide +kernel
theorem d_CW_weight_37 : decode Y_CW_weight.2.1 37 = .ok (.ireturn, 1) := by decide +kernel
theorem d_CW_bound_0 : decode Y_CW_bound.2.1 0 = .ok (.aload_n 0, 1) := by decide +kernel
theorem d_CW_bound_1 : decode Y_CW_bound.2.1 1 = .ok (.getfield 51, 3) := by decide +kernel
theorem d_CW_bound_4 : decode Y_CW_bound.2.1 4 = .ok (.invokevirtual 171, 3) := by decide +kernel
theorem d_CW_bound_7 : decode Y_CW_bound.2.1 7 = .ok (.ifCond .eq 13, 3) := by decide +kernel
theorem d_CW_bound_10 : decode Y_CW_bound.2.1 10 = .ok (.aload_n 0, 1) := by decide +kernel
theorem d_CW_bound_11 : decode Y_CW_bound.2.1 11 = .ok (.getfield 51, 3) := by decide +kernel
theorem d_CW_bound_14 : decode Y_CW_bound.2.1 14 = .ok (.invokevirtual 175, 3) := by decide +kernel
theorem d_CW_bound_17 : decode Y_CW_bound.2.1 17 = .ok (.goto 5, 3) := by decide +kernel
theorem d_CW_bound_20 : decode Y_CW_bound.2.1 20 = .ok (.ldc 136, 2) := by decide +kernel
theorem d_CW_bound_22 : decode Y_CW_bound.2.1 22 = .ok (.ireturn, 1) := by decide +kernel
theorem d_CW_edge_0 : decode Y_CW_edge.2.1 0 = .ok (.aload_n 0, 1) := by decide +kernel
theorem d_CW_edge_1 : decode Y_CW_edge.2.1 1 = .ok (.getfield 51, 3) := by decide +kernel
theorem d_CW_edge_4 : decode Y_CW_edge.2.1 4 = .ok (.invokevirtual 171, 3) := by decide +kernel
theorem d_CW_edge_7 : decode Y_CW_edge.2.1 7 = .ok (.ifCond .ne 6, 3) := by decide +kernel
theorem d_CW_edge_10 : decode Y_CW_edge.2.1 10 = .ok (.ldc 136, 2) := by decide +kernel
theorem d_CW_edge_12 : decode Y_CW_edge.2.1 12 = .ok (.ireturn, 1) := by decide +kernel
theorem d_CW_edge_13 : decode Y_CW_edge.2.1 13 = .ok (.iload_n 1, 1) := by decide +kernel
theorem d_CW_edge_14 : decode Y_CW_edge.2.1 14 = .ok (.ifCond .lt 23, 3) := by decide +kernel
theorem d_CW_edge_17 : decode Y_CW_edge.2.1 17 = .ok (.iload_n 1, 1) := by decide +kernel
theorem d_CW_edge_18 : decode Y_CW_edge.2.1 18 = .ok (.aload_n 0, 1) := by decide +kernel
theorem d_CW_edge_19 : decode Y_CW_edge.2.1 19 = .ok (.getfield 51, 3) := by decide +kernel
theorem d_CW_edge_22 : decode Y_CW_edge.2.1 22 = .ok (.getfield 178, 3) := by decide +kernel
theorem d_CW_edge_25 : decode Y_CW_edge.2.1 25 = .ok (.if_icmp .ge 12, 3) := by decide +kernel
theorem d_CW_edge_28 : decode Y_CW_edge.2.1 28 = .ok (.iload_n 2, 1) := by decide +kernel
theorem d_CW_edge_29 : decode Y_CW_edge.2.1 29 = .ok (.ifCond .lt 8, 3) := by decide +kernel
theorem d_CW_edge_32 : decode Y_CW_edge.2.1 32 = .ok (.iload_n 2, 1) := by decide +kernel
theorem d_CW_edge_33 : decode Y_CW_edge.2.1 33 = .ok (.iconst 1, 1) := by decide +kernel
theorem d_CW_edge_34 : decode Y_CW_edge.2.1 34 = .ok (.if_icmp .le 6, 3) := by decide +kernel
theorem d_CW_edge_37 : decode Y_CW_edge.2.1 37 = .ok (.ldc 83, 2) := by decide +kernel
theorem d_CW_edge_39 : decode Y_CW_edge.2.1 39 = .ok (.ireturn, 1) := by decide +kernel
theorem d_CW_edge_40 : decode Y_CW_edge.2.1 40 = .ok (.iload_n 2, 1) := by decide +kernel
theorem d_CW_edge_41 : decode Y_CW_edge.2.1 41 = .ok (.ifCond .ne 15, 3) := by decide +kernel
theorem d_CW_edge_44 : decode Y_CW_edge.2.1 44 = .ok (.aload_n 0, 1) := by decide +kernel
theorem d_CW_edge_45 : decode Y_CW_edge.2.1 45 = .ok (.getfield 51, 3) := by decide +kernel
theorem d_CW_edge_48 : decode Y_CW_edge.2.1 48 = .ok (.getfield 181, 3) := by decide +kernel
theorem d_CW_edge_51 : decode Y_CW_edge.2.1 51 = .ok (.iload_n 1, 1) := by decide +kernel
theorem d_CW_edge_52 : decode Y_CW_edge.2.1 52 = .ok (.iaload, 1) := by decide +kernel
theorem d_CW_edge_53 : decode Y_CW_edge.2.1 53 = .ok (.goto 12, 3) := by decide +kernel
theorem d_CW_edge_56 : decode Y_CW_edge.2.1 56 = .ok (.aload_n 0, 1) := by decide +kernel
theorem d_CW_edge_57 : decode Y_CW_edge.2.1 57 = .ok (.getfield 51, 3) := by decide +kernel
theorem d_CW_edge_60 : decode Y_CW_edge.2.1 60 = .ok (.getfield 184, 3) := by decide +kernel
theorem d_CW_edge_63 : decode Y_CW_edge.2.1 63 = .ok (.iload_n 1, 1) := by decide +kernel
theorem d_CW_edge_64 : decode Y_CW_edge.2.1 64 = .ok (.iaload, 1) := by decide +kernel
theorem d_CW_edge_65 : decode Y_CW_edge.2.1 65 = .ok (.ireturn, 1) := by decide +kernel
theorem d_CW_degree_0 : decode Y_CW_degree.2.1 0 = .ok (.aload_n 0, 1) := by decide +kernel
theorem d_CW_degree_1 : decode Y_CW_degree.2.1 1 = .ok (.getfield 10, 3) := by decide +kernel
theorem d_CW_degree_4 : decode Y_CW_degree.2.1 4 = .ok (.iload_n 1, 1) := by decide +kernel
theorem d_CW_degree_5 : decode Y_CW_degree.2.1 5 = .ok (.invokevirtual 165, 3) := by decide +kernel
theorem d_CW_degree_8 : decode Y_CW_degree.2.1 8 = .ok (.ifCond .ne 6, 3) := by decide +kernel
theorem d_CW_degree_11 : decode Y_CW_degree.2.1 11 = .ok (.ldc 83, 2) := by decide +kernel
theorem d_CW_degree_13 : decode Y_CW_degree.2.1 13 = .ok (.ireturn, 1) := by decide +kernel
theorem d_CW_degree_14 : decode Y_CW_degree.2.1 14 = .ok (.aload_n 0, 1) := by decide +kernel
theorem d_CW_degree_15 : decode Y_CW_degree.2.1 15 = .ok (.getfield 51, 3) := by decide +kernel
theorem d_CW_degree_18 : decode Y_CW_degree.2.1 18 = .ok (.invokevirtual 171, 3) := by decide +kernel
theorem d_CW_degree_21 : decode Y_CW_degree.2.1 21 = .ok (.ifCond .eq 14, 3) := by decide +kernel
theorem d_CW_degree_24 : decode Y_CW_degree.2.1 24 = .ok (.aload_n 0, 1) := by decide +kernel
theorem d_CW_degree_25 : decode Y_CW_degree.2.1 25 = .ok (.getfield 51, 3) := by decide +kernel
theorem d_CW_degree_28 : decode Y_CW_degree.2.1 28 = .ok (.iload_n 1, 1) := by decide +kernel
theorem d_CW_degree_29 : decode Y_CW_degree.2.1 29 = .ok (.invokevirtual 187, 3) := by decide +kernel
theorem d_CW_degree_32 : decode Y_CW_degree.2.1 32 = .ok (.goto 5, 3) := by decide +kernel
theorem d_CW_degree_35 : decode Y_CW_degree.2.1 35 = .ok (.ldc 136, 2) := by decide +kernel
theorem d_CW_degree_37 : decode Y_CW_degree.2.1 37 = .ok (.ireturn, 1) := by decide +kernel
theorem d_CW_pairing_0 : decode Y_CW_pairing.2.1 0 = .ok (.aload_n 0, 1) := by decide +kernel
theorem d_CW_pairing_1 : decode Y_CW_pairing.2.1 1 = .ok (.getfield 58, 3) := by decide +kernel
theorem d_CW_pairing_4 : decode Y_CW_pairing.2.1 4 = .ok (.invokevirtual 190, 3) := by decide +kernel
theorem d_CW_pairing_7 : decode Y_CW_pairing.2.1 7 = .ok (.invokestatic 101, 3) := by decide +kernel
theorem d_CW_pairing_10 : decode Y_CW_pairing.2.1 10 = .ok (.ireturn, 1) := by decide +kernel
theorem d_CW_next_0 : decode Y_CW_next.2.1 0 = .ok (.aload_n 0, 1) := by decide +kernel
theorem d_CW_next_1 : decode Y_CW_next.2.1 1 = .ok (.getfield 10, 3) := by decide +kernel
theorem d_CW_next_4 : decode Y_CW_next.2.1 4 = .ok (.iload_n 1, 1) := by decide +kernel
theorem d_CW_next_5 : decode Y_CW_next.2.1 5 = .ok (.invokevirtual 165, 3) := by decide +kernel
theorem d_CW_next_8 : decode Y_CW_next.2.1 8 = .ok (.ifCond .eq 24, 3) := by decide +kernel
theorem d_CW_next_11 : decode Y_CW_next.2.1 11 = .ok (.iload_n 1, 1) := by decide +kernel
theorem d_CW_next_12 : decode Y_CW_next.2.1 12 = .ok (.iload_n 2, 1) := by decide +kernel
theorem d_CW_next_13 : decode Y_CW_next.2.1 13 = .ok (.if_icmp .eq 19, 3) := by decide +kernel
theorem d_CW_next_16 : decode Y_CW_next.2.1 16 = .ok (.iload_n 2, 1) := by decide +kernel
theorem d_CW_next_17 : decode Y_CW_next.2.1 17 = .ok (.iconst (-1), 1) := by decide +kernel
theorem d_CW_next_18 : decode Y_CW_next.2.1 18 = .ok (.if_icmp .eq 17, 3) := by decide +kernel
theorem d_CW_next_21 : decode Y_CW_next.2.1 21 = .ok (.aload_n 0, 1) := by decide +kernel
theorem d_CW_next_22 : decode Y_CW_next.2.1 22 = .ok (.getfield 10, 3) := by decide +kernel
theorem d_CW_next_25 : decode Y_CW_next.2.1 25 = .ok (.iload_n 2, 1) := by decide +kernel
theorem d_CW_next_26 : decode Y_CW_next.2.1 26 = .ok (.invokevirtual 165, 3) := by decide +kernel
theorem d_CW_next_29 : decode Y_CW_next.2.1 29 = .ok (.ifCond .ne 6, 3) := by decide +kernel
theorem d_CW_next_32 : decode Y_CW_next.2.1 32 = .ok (.ldc 83, 2) := by decide +kernel
theorem d_CW_next_34 : decode Y_CW_next.2.1 34 = .ok (.ireturn, 1) := by decide +kernel
theorem d_CW_next_35 : decode Y_CW_next.2.1 35 = .ok (.aload_n 0, 1) := by decide +kernel
theorem d_CW_next_36 : decode Y_CW_next.2.1 36 = .ok (.getfield 65, 3) := by decide +kernel
theorem d_CW_next_39 : decode Y_CW_next.2.1 39 = .ok (.iload_n 1, 1) := by decide +kernel
theorem d_CW_next_40 : decode Y_CW_next.2.1 40 = .ok (.iload_n 2, 1) := by decide +kernel
theorem d_CW_next_41 : decode Y_CW_next.2.1 41 = .ok (.invokevirtual 191, 3) := by decide +kernel
theorem d_CW_next_44 : decode Y_CW_next.2.1 44 = .ok (.ireturn, 1) := by decide +kernel
theorem d_CW_circle_0 : decode Y_CW_circle.2.1 0 = .ok (.aload_n 0, 1) := by decide +kernel
theorem d_CW_circle_1 : decode Y_CW_circle.2.1 1 = .ok (.getfield 65, 3) := by decide +kernel
theorem d_CW_circle_4 : decode Y_CW_circle.2.1 4 = .ok (.invokevirtual 194, 3) := by decide +kernel
theorem d_CW_circle_7 : decode Y_CW_circle.2.1 7 = .ok (.istore_n 2, 1) := by decide +kernel
theorem d_CW_circle_8 : decode Y_CW_circle.2.1 8 = .ok (.iload_n 1, 1) := by decide +kernel
theorem d_CW_circle_9 : decode Y_CW_circle.2.1 9 = .ok (.iconst (-1), 1) := by decide +kernel
theorem d_CW_circle_10 : decode Y_CW_circle.2.1 10 = .ok (.if_icmp .ne 5, 3) := by decide +kernel
theorem d_CW_circle_13 : decode Y_CW_circle.2.1 13 = .ok (.iload_n 2, 1) := by decide +kernel
theorem d_CW_circle_14 : decode Y_CW_circle.2.1 14 = .ok (.ireturn, 1) := by decide +kernel
theorem d_CW_circle_15 : decode Y_CW_circle.2.1 15 = .ok (.iload_n 1, 1) := by decide +kernel
theorem d_CW_circle_16 : decode Y_CW_circle.2.1 16 = .ok (.ifCond .lt 8, 3) := by decide +kernel
theorem d_CW_circle_19 : decode Y_CW_circle.2.1 19 = .ok (.iload_n 1, 1) := by decide +kernel
theorem d_CW_circle_20 : decode Y_CW_circle.2.1 20 = .ok (.iload_n 2, 1) := by decide +kernel
theorem d_CW_circle_21 : decode Y_CW_circle.2.1 21 = .ok (.if_icmp .lt 8, 3) := by decide +kernel
theorem d_CW_circle_24 : decode Y_CW_circle.2.1 24 = .ok (.ldc 83, 2) := by decide +kernel
theorem d_CW_circle_26 : decode Y_CW_circle.2.1 26 = .ok (.goto 12, 3) := by decide +kernel
theorem d_CW_circle_29 : decode Y_CW_circle.2.1 29 = .ok (.aload_n 0, 1) := by decide +kernel
theorem d_CW_circle_30 : decode Y_CW_circle.2.1 30 = .ok (.getfield 65, 3) := by decide +kernel
theorem d_CW_circle_33 : decode Y_CW_circle.2.1 33 = .ok (.getfield 197, 3) := by decide +kernel
theorem d_CW_circle_36 : decode Y_CW_circle.2.1 36 = .ok (.iload_n 1, 1) := by decide +kernel
theorem d_CW_circle_37 : decode Y_CW_circle.2.1 37 = .ok (.iaload, 1) := by decide +kernel
theorem d_CW_circle_38 : decode Y_CW_circle.2.1 38 = .ok (.ireturn, 1) := by decide +kernel
theorem d_CW_nearest_0 : decode Y_CW_nearest.2.1 0 = .ok (.aload_n 0, 1) := by decide +kernel
theorem d_CW_nearest_1 : decode Y_CW_nearest.2.1 1 = .ok (.getfield 10, 3) := by decide +kernel
theorem d_CW_nearest_4 : decode Y_CW_nearest.2.1 4 = .ok (.iload_n 1, 1) := by decide +kernel
theorem d_CW_nearest_5 : decode Y_CW_nearest.2.1 5 = .ok (.invokevirtual 165, 3) := by decide +kernel
theorem d_CW_nearest_8 : decode Y_CW_nearest.2.1 8 = .ok (.ifCond .ne 6, 3) := by decide +kernel
theorem d_CW_nearest_11 : decode Y_CW_nearest.2.1 11 = .ok (.ldc 83, 2) := by decide +kernel
theorem d_CW_nearest_13 : decode Y_CW_nearest.2.1 13 = .ok (.ireturn, 1) := by decide +kernel
theorem d_CW_nearest_14 : decode Y_CW_nearest.2.1 14 = .ok (.aload_n 0, 1) := by decide +kernel
theorem d_CW_nearest_15 : decode Y_CW_nearest.2.1 15 = .ok (.getfield 72, 3) := by decide +kernel
theorem d_CW_nearest_18 : decode Y_CW_nearest.2.1 18 = .ok (.iload_n 1, 1) := by decide +kernel
theorem d_CW_nearest_19 : decode Y_CW_nearest.2.1 19 = .ok (.invokevirtual 200, 3) := by decide +kernel
theorem d_CW_nearest_22 : decode Y_CW_nearest.2.1 22 = .ok (.ireturn, 1) := by decide +kernel
theorem d_CW_put_0 : decode Y_CW_put.2.1 0 = .ok (.aload_n 0, 1) := by decide +kernel
theorem d_CW_put_1 : decode Y_CW_put.2.1 1 = .ok (.getfield 10, 3) := by decide +kernel
theorem d_CW_put_4 : decode Y_CW_put.2.1 4 = .ok (.iload_n 1, 1) := by decide +kernel
theorem d_CW_put_5 : decode Y_CW_put.2.1 5 = .ok (.invokevirtual 165, 3) := by decide +kernel
theorem d_CW_put_8 : decode Y_CW_put.2.1 8 = .ok (.ifCond .ne 6, 3) := by decide +kernel
theorem d_CW_put_11 : decode Y_CW_put.2.1 11 = .ok (.ldc 83, 2) := by decide +kernel
theorem d_CW_put_13 : decode Y_CW_put.2.1 13 = .ok (.ireturn, 1) := by decide +kernel
theorem d_CW_put_14 : decode Y_CW_put.2.1 14 = .ok (.aload_n 0, 1) := by decide +kernel
theorem d_CW_put_15 : decode Y_CW_put.2.1 15 = .ok (.getfield 79, 3) := by decide +kernel
theorem d_CW_put_18 : decode Y_CW_put.2.1 18 = .ok (.getfield 203, 3) := by decide +kernel
theorem d_CW_put_21 : decode Y_CW_put.2.1 21 = .ok (.bipush 20, 2) := by decide +kernel
theorem d_CW_put_23 : decode Y_CW_put.2.1 23 = .ok (.if_icmp .lt 8, 3) := by decide +kernel
theorem d_CW_put_26 : decode Y_CW_put.2.1 26 = .ok (.ldc 88, 2) := by decide +kernel
theorem d_CW_put_28 : decode Y_CW_put.2.1 28 = .ok (.goto 11, 3) := by decide +kernel
theorem d_CW_put_31 : decode Y_CW_put.2.1 31 = .ok (.aload_n 0, 1) := by decide +kernel
theorem d_CW_put_32 : decode Y_CW_put.2.1 32 = .ok (.getfield 79, 3) := by decide +kernel
theorem d_CW_put_35 : decode Y_CW_put.2.1 35 = .ok (.iload_n 1, 1) := by decide +kernel
theorem d_CW_put_36 : decode Y_CW_put.2.1 36 = .ok (.invokevirtual 204, 3) := by decide +kernel
theorem d_CW_put_39 : decode Y_CW_put.2.1 39 = .ok (.ireturn, 1) := by decide +kernel
theorem d_CW_keep_0 : decode Y_CW_keep.2.1 0 = .ok (.iload_n 1, 1) := by decide +kernel
theorem d_CW_keep_1 : decode Y_CW_keep.2.1 1 = .ok (.ifCond .lt 14, 3) := by decide +kernel
theorem d_CW_keep_4 : decode Y_CW_keep.2.1 4 = .ok (.iload_n 1, 1) := by decide +kernel
theorem d_CW_keep_5 : decode Y_CW_keep.2.1 5 = .ok (.aload_n 0, 1) := by decide +kernel
theorem d_CW_keep_6 : decode Y_CW_keep.2.1 6 = .ok (.getfield 79, 3) := by decide +kernel
theorem d_CW_keep_9 : decode Y_CW_keep.2.1 9 = .ok (.getfield 203, 3) := by decide +kernel
theorem d_CW_keep_12 : decode Y_CW_keep.2.1 12 = .ok (.if_icmp .le 6, 3) := by decide +kernel
theorem d_CW_keep_15 : decode Y_CW_keep.2.1 15 = .ok (.ldc 83, 2) := by decide +kernel
theorem d_CW_keep_17 : decode Y_CW_keep.2.1 17 = .ok (.ireturn, 1) := by decide +kernel
theorem d_CW_keep_18 : decode Y_CW_keep.2.1 18 = .ok (.aload_n 0, 1) := by decide +kernel
theorem d_CW_keep_19 : decode Y_CW_keep.2.1 19 = .ok (.getfield 79, 3) := by decide +kernel
theorem d_CW_keep_22 : decode Y_CW_keep.2.1 22 = .ok (.iload_n 1, 1) := by decide +kernel
theorem d_CW_keep_23 : decode Y_CW_keep.2.1 23 = .ok (.invokevirtual 207, 3) := by decide +kernel
theorem d_CW_keep_26 : decode Y_CW_keep.2.1 26 = .ok (.ireturn, 1) := by decide +kernel
theorem d_CW_check_0 : decode Y_CW_check.2.1 0 = .ok (.aload_n 0, 1) := by decide +kernel
theorem d_CW_check_1 : decode Y_CW_check.2.1 1 = .ok (.getfield 79, 3) := by decide +kernel
theorem d_CW_check_4 : decode Y_CW_check.2.1 4 = .ok (.invokevirtual 210, 3) := by decide +kernel
theorem d_CW_check_7 : decode Y_CW_check.2.1 7 = .ok (.invokestatic 101, 3) := by decide +kernel
theorem d_CW_check_10 : decode Y_CW_check.2.1 10 = .ok (.ireturn, 1) := by decide +kernel
theorem d_CW_insert_0 : decode Y_CW_insert.2.1 0 = .ok (.aload_n 0, 1) := by decide +kernel
theorem d_CW_insert_1 : decode Y_CW_insert.2.1 1 = .ok (.getfield 10, 3) := by decide +kernel
theorem d_CW_insert_4 : decode Y_CW_insert.2.1 4 = .ok (.iload_n 1, 1) := by decide +kernel
theorem d_CW_insert_5 : decode Y_CW_insert.2.1 5 = .ok (.invokevirtual 105, 3) := by decide +kernel
theorem d_CW_insert_8 : decode Y_CW_insert.2.1 8 = .ok (.ifCond .ne 6, 3) := by decide +kernel
theorem d_CW_insert_11 : decode Y_CW_insert.2.1 11 = .ok (.ldc 83, 2) := by decide +kernel
theorem d_CW_insert_13 : decode Y_CW_insert.2.1 13 = .ok (.ireturn, 1) := by decide +kernel
theorem d_CW_insert_14 : decode Y_CW_insert.2.1 14 = .ok (.aload_n 0, 1) := by decide +kernel
theorem d_CW_insert_15 : decode Y_CW_insert.2.1 15 = .ok (.getfield 79, 3) := by decide +kernel
theorem d_CW_insert_18 : decode Y_CW_insert.2.1 18 = .ok (.getfield 203, 3) := by decide +kernel
theorem d_CW_insert_21 : decode Y_CW_insert.2.1 21 = .ok (.bipush 20, 2) := by decide +kernel
theorem d_CW_insert_23 : decode Y_CW_insert.2.1 23 = .ok (.if_icmp .lt 8, 3) := by decide +kernel
theorem d_CW_insert_26 : decode Y_CW_insert.2.1 26 = .ok (.ldc 88, 2) := by decide +kernel
theorem d_CW_insert_28 : decode Y_CW_insert.2.1 28 = .ok (.goto 11, 3) := by decide +kernel
theorem d_CW_insert_31 : decode Y_CW_insert.2.1 31 = .ok (.aload_n 0, 1) := by decide +kernel
theorem d_CW_insert_32 : decode Y_CW_insert.2.1 32 = .ok (.getfield 79, 3) := by decide +kernel
theorem d_CW_insert_35 : decode Y_CW_insert.2.1 35 = .ok (.iload_n 1, 1) := by decide +kernel
theorem d_CW_insert_36 : decode Y_CW_insert.2.1 36 = .ok (.invokevirtual 213, 3) := by decide +kernel
theorem d_CW_insert_39 : decode Y_CW_insert.2.1 39 = .ok (.ireturn, 1) := by decide +kernel
theorem d_CW_count_0 : decode Y_CW_count.2.1 0 = .ok (.iload_n 1, 1) := by decide +kernel
theorem d_CW_count_1 : decode Y_CW_count.2.1 1 = .ok (.tableswitch 99 0 6 #[43, 51, 59, 67, 75, 83, 91], 43) := by decide +kernel
theorem d_CW_count_44 : decode Y_CW_count.2.1 44 = .ok (.aload_n 0, 1) := by decide +kernel
theorem d_CW_count_45 : decode Y_CW_count.2.1 45 = .ok (.getfield 10, 3) := by decide +kernel
theorem d_CW_count_48 : decode Y_CW_count.2.1 48 = .ok (.getfield 84, 3) := by decide +kernel
theorem d_CW_count_51 : decode Y_CW_count.2.1 51 = .ok (.ireturn, 1) := by decide +kernel
theorem d_CW_count_52 : decode Y_CW_count.2.1 52 = .ok (.aload_n 0, 1) := by decide +kernel
theorem d_CW_count_53 : decode Y_CW_count.2.1 53 = .ok (.getfield 10, 3) := by decide +kernel
theorem d_CW_count_56 : decode Y_CW_count.2.1 56 = .ok (.invokevirtual 216, 3) := by decide +kernel
theorem d_CW_count_59 : decode Y_CW_count.2.1 59 = .ok (.ireturn, 1) := by decide +kernel
theorem d_CW_count_60 : decode Y_CW_count.2.1 60 = .ok (.aload_n 0, 1) := by decide +kernel
theorem d_CW_count_61 : decode Y_CW_count.2.1 61 = .ok (.getfield 10, 3) := by decide +kernel
theorem d_CW_count_64 : decode Y_CW_count.2.1 64 = .ok (.invokevirtual 219, 3) := by decide +kernel
theorem d_CW_count_67 : decode Y_CW_count.2.1 67 = .ok (.ireturn, 1) := by decide +kernel
theorem d_CW_count_68 : decode Y_CW_count.2.1 68 = .ok (.aload_n 0, 1) := by decide +kernel
theorem d_CW_count_69 : decode Y_CW_count.2.1 69 = .ok (.getfield 10, 3) := by decide +kernel
theorem d_CW_count_72 : decode Y_CW_count.2.1 72 = .ok (.getfield 148, 3) := by decide +kernel
theorem d_CW_count_75 : decode Y_CW_count.2.1 75 = .ok (.ireturn, 1) := by decide +kernel
theorem d_CW_count_76 : decode Y_CW_count.2.1 76 = .ok (.aload_n 0, 1) := by decide +kernel
theorem d_CW_count_77 : decode Y_CW_count.2.1 77 = .ok (.getfield 10, 3) := by decide +kernel
theorem d_CW_count_80 : decode Y_CW_count.2.1 80 = .ok (.getfield 222, 3) := by decide +kernel
theorem d_CW_count_83 : decode Y_CW_count.2.1 83 = .ok (.ireturn, 1) := by decide +kernel
theorem d_CW_count_84 : decode Y_CW_count.2.1 84 = .ok (.aload_n 0, 1) := by decide +kernel
theorem d_CW_count_85 : decode Y_CW_count.2.1 85 = .ok (.getfield 10, 3) := by decide +kernel
theorem d_CW_count_88 : decode Y_CW_count.2.1 88 = .ok (.getfield 225, 3) := by decide +kernel
theorem d_CW_count_91 : decode Y_CW_count.2.1 91 = .ok (.ireturn, 1) := by decide +kernel
theorem d_CW_count_92 : decode Y_CW_count.2.1 92 = .ok (.aload_n 0, 1) := by decide +kernel
theorem d_CW_count_93 : decode Y_CW_count.2.1 93 = .ok (.getfield 79, 3) := by decide +kernel
theorem d_CW_count_96 : decode Y_CW_count.2.1 96 = .ok (.getfield 203, 3) := by decide +kernel
theorem d_CW_count_99 : decode Y_CW_count.2.1 99 = .ok (.ireturn, 1) := by decide +kernel
theorem d_CW_count_100 : decode Y_CW_count.2.1 100 = .ok (.ldc 83, 2) := by decide +kernel
theorem d_CW_count_102 : decode Y_CW_count.2.1 102 = .ok (.ireturn, 1) := by decide +kernel
end
section
theorem d_Net_init_0 : decode Y_Net_init.2.1 0 = .ok (.aload_n 0, 1) := by decide +kernel
theorem d_Net_init_1 : decode Y_Net_init.2.1 1 = .ok (.invokespecial 3, 3) := by decide +kernel
theorem d_Net_init_4 : decode Y_Net_init.2.1 4 = .ok (.aload_n 0, 1) := by decide +kernel
theorem d_Net_init_5 : decode Y_Net_init.2.1 5 = .ok (.bipush 9, 2) := by decide +kernel
theorem d_Net_init_7 : decode Y_Net_init.2.1 7 = .ok (.newarray .int, 2) := by decide +kernel
theorem d_Net_init_9 : decode Y_Net_init.2.1 9 = .ok (.putfield 9, 3) := by decide +kernel
theorem d_Net_init_12 : decode Y_Net_init.2.1 12 = .ok (.aload_n 0, 1) := by decide +kernel
theorem d_Net_init_13 : decode Y_Net_init.2.1 13 = .ok (.bipush 81, 2) := by decide +kernel
theorem d_Net_init_15 : decode Y_Net_init.2.1 15 = .ok (.newarray .int, 2) := by decide +kernel
theorem d_Net_init_17 : decode Y_Net_init.2.1 17 = .ok (.putfield 15, 3) := by decide +kernel
theorem d_Net_init_20 : decode Y_Net_init.2.1 20 = .ok (.aload_n 0, 1) := by decide +kernel
theorem d_Net_init_21 : decode Y_Net_init.2.1 21 = .ok (.bipush 9, 2) := by decide +kernel
theorem d_Net_init_23 : decode Y_Net_init.2.1 23 = .ok (.newarray .int, 2) := by decide +kernel
theorem d_Net_init_25 : decode Y_Net_init.2.1 25 = .ok (.putfield 18, 3) := by decide +kernel
theorem d_Net_init_28 : decode Y_Net_init.2.1 28 = .ok (.aload_n 0, 1) := by decide +kernel
theorem d_Net_init_29 : decode Y_Net_init.2.1 29 = .ok (.bipush 9, 2) := by decide +kernel
theorem d_Net_init_31 : decode Y_Net_init.2.1 31 = .ok (.newarray .int, 2) := by decide +kernel
theorem d_Net_init_33 : decode Y_Net_init.2.1 33 = .ok (.putfield 21, 3) := by decide +kernel
theorem d_Net_init_36 : decode Y_Net_init.2.1 36 = .ok (.aload_n 0, 1) := by decide +kernel
theorem d_Net_init_37 : decode Y_Net_init.2.1 37 = .ok (.iconst 1, 1) := by decide +kernel
theorem d_Net_init_38 : decode Y_Net_init.2.1 38 = .ok (.putfield 24, 3) := by decide +kernel
theorem d_Net_init_41 : decode Y_Net_init.2.1 41 = .ok (.aload_n 0, 1) := by decide +kernel
theorem d_Net_init_42 : decode Y_Net_init.2.1 42 = .ok (.iconst 1, 1) := by decide +kernel
theorem d_Net_init_43 : decode Y_Net_init.2.1 43 = .ok (.putfield 28, 3) := by decide +kernel
theorem d_Net_init_46 : decode Y_Net_init.2.1 46 = .ok (.aload_n 0, 1) := by decide +kernel
theorem d_Net_init_47 : decode Y_Net_init.2.1 47 = .ok (.sipush 1000, 3) := by decide +kernel
theorem d_Net_init_50 : decode Y_Net_init.2.1 50 = .ok (.putfield 31, 3) := by decide +kernel
theorem d_Net_init_53 : decode Y_Net_init.2.1 53 = .ok (.aload_n 0, 1) := by decide +kernel
theorem d_Net_init_54 : decode Y_Net_init.2.1 54 = .ok (.iconst 0, 1) := by decide +kernel
theorem d_Net_init_55 : decode Y_Net_init.2.1 55 = .ok (.putfield 34, 3) := by decide +kernel
theorem d_Net_init_58 : decode Y_Net_init.2.1 58 = .ok (.aload_n 0, 1) := by decide +kernel
theorem d_Net_init_59 : decode Y_Net_init.2.1 59 = .ok (.iconst 0, 1) := by decide +kernel
theorem d_Net_init_60 : decode Y_Net_init.2.1 60 = .ok (.putfield 37, 3) := by decide +kernel
theorem d_Net_init_63 : decode Y_Net_init.2.1 63 = .ok (.iconst 0, 1) := by decide +kernel
theorem d_Net_init_64 : decode Y_Net_init.2.1 64 = .ok (.istore_n 1, 1) := by decide +kernel
theorem d_Net_init_65 : decode Y_Net_init.2.1 65 = .ok (.iload_n 1, 1) := by decide +kernel
theorem d_Net_init_66 : decode Y_Net_init.2.1 66 = .ok (.aload_n 0, 1) := by decide +kernel
theorem d_Net_init_67 : decode Y_Net_init.2.1 67 = .ok (.getfield 15, 3) := by decide +kernel
theorem d_Net_init_70 : decode Y_Net_init.2.1 70 = .ok (.arraylength, 1) := by decide +kernel
theorem d_Net_init_71 : decode Y_Net_init.2.1 71 = .ok (.if_icmp .ge 17, 3) := by decide +kernel
theorem d_Net_init_74 : decode Y_Net_init.2.1 74 = .ok (.aload_n 0, 1) := by decide +kernel
theorem d_Net_init_75 : decode Y_Net_init.2.1 75 = .ok (.getfield 15, 3) := by decide +kernel
theorem d_Net_init_78 : decode Y_Net_init.2.1 78 = .ok (.iload_n 1, 1) := by decide +kernel
theorem d_Net_init_79 : decode Y_Net_init.2.1 79 = .ok (.ldc 40, 2) := by decide +kernel
theorem d_Net_init_81 : decode Y_Net_init.2.1 81 = .ok (.iastore, 1) := by decide +kernel
theorem d_Net_init_82 : decode Y_Net_init.2.1 82 = .ok (.iinc 1 1, 3) := by decide +kernel
theorem d_Net_init_85 : decode Y_Net_init.2.1 85 = .ok (.goto (-20), 3) := by decide +kernel
theorem d_Net_init_88 : decode Y_Net_init.2.1 88 = .ok (.iconst 0, 1) := by decide +kernel
theorem d_Net_init_89 : decode Y_Net_init.2.1 89 = .ok (.istore_n 1, 1) := by decide +kernel
theorem d_Net_init_90 : decode Y_Net_init.2.1 90 = .ok (.iload_n 1, 1) := by decide +kernel
theorem d_Net_init_91 : decode Y_Net_init.2.1 91 = .ok (.aload_n 0, 1) := by decide +kernel
theorem d_Net_init_92 : decode Y_Net_init.2.1 92 = .ok (.getfield 18, 3) := by decide +kernel
theorem d_Net_init_95 : decode Y_Net_init.2.1 95 = .ok (.arraylength, 1) := by decide +kernel
theorem d_Net_init_96 : decode Y_Net_init.2.1 96 = .ok (.if_icmp .ge 16, 3) := by decide +kernel
theorem d_Net_init_99 : decode Y_Net_init.2.1 99 = .ok (.aload_n 0, 1) := by decide +kernel
theorem d_Net_init_100 : decode Y_Net_init.2.1 100 = .ok (.getfield 18, 3) := by decide +kernel
theorem d_Net_init_103 : decode Y_Net_init.2.1 103 = .ok (.iload_n 1, 1) := by decide +kernel
theorem d_Net_init_104 : decode Y_Net_init.2.1 104 = .ok (.iconst (-1), 1) := by decide +kernel
theorem d_Net_init_105 : decode Y_Net_init.2.1 105 = .ok (.iastore, 1) := by decide +kernel
theorem d_Net_init_106 : decode Y_Net_init.2.1 106 = .ok (.iinc 1 1, 3) := by decide +kernel
theorem d_Net_init_109 : decode Y_Net_init.2.1 109 = .ok (.goto (-19), 3) := by decide +kernel
theorem d_Net_init_112 : decode Y_Net_init.2.1 112 = .ok (.return_, 1) := by decide +kernel
theorem d_Pat_init_0 : decode Y_Pat_init.2.1 0 = .ok (.aload_n 0, 1) := by decide +kernel
theorem d_Pat_init_1 : decode Y_Pat_init.2.1 1 = .ok (.invokespecial 3, 3) := by decide +kernel
theorem d_Pat_init_4 : decode Y_Pat_init.2.1 4 = .ok (.aload_n 0, 1) := by decide +kernel
theorem d_Pat_init_5 : decode Y_Pat_init.2.1 5 = .ok (.sipush 256, 3) := by decide +kernel
theorem d_Pat_init_8 : decode Y_Pat_init.2.1 8 = .ok (.newarray .int, 2) := by decide +kernel
theorem d_Pat_init_10 : decode Y_Pat_init.2.1 10 = .ok (.putfield 9, 3) := by decide +kernel
theorem d_Pat_init_13 : decode Y_Pat_init.2.1 13 = .ok (.aload_n 0, 1) := by decide +kernel
theorem d_Pat_init_14 : decode Y_Pat_init.2.1 14 = .ok (.sipush 256, 3) := by decide +kernel
theorem d_Pat_init_17 : decode Y_Pat_init.2.1 17 = .ok (.newarray .int, 2) := by decide +kernel
theorem d_Pat_init_19 : decode Y_Pat_init.2.1 19 = .ok (.putfield 15, 3) := by decide +kernel
theorem d_Pat_init_22 : decode Y_Pat_init.2.1 22 = .ok (.aload_n 0, 1) := by decide +kernel
theorem d_Pat_init_23 : decode Y_Pat_init.2.1 23 = .ok (.sipush 2304, 3) := by decide +kernel
theorem d_Pat_init_26 : decode Y_Pat_init.2.1 26 = .ok (.newarray .int, 2) := by decide +kernel
theorem d_Pat_init_28 : decode Y_Pat_init.2.1 28 = .ok (.putfield 18, 3) := by decide +kernel
theorem d_Pat_init_31 : decode Y_Pat_init.2.1 31 = .ok (.aload_n 0, 1) := by decide +kernel
theorem d_Pat_init_32 : decode Y_Pat_init.2.1 32 = .ok (.sipush 2304, 3) := by decide +kernel
theorem d_Pat_init_35 : decode Y_Pat_init.2.1 35 = .ok (.newarray .int, 2) := by decide +kernel
theorem d_Pat_init_37 : decode Y_Pat_init.2.1 37 = .ok (.putfield 21, 3) := by decide +kernel
theorem d_Pat_init_40 : decode Y_Pat_init.2.1 40 = .ok (.aload_n 0, 1) := by decide +kernel
theorem d_Pat_init_41 : decode Y_Pat_init.2.1 41 = .ok (.sipush 256, 3) := by decide +kernel
theorem d_Pat_init_44 : decode Y_Pat_init.2.1 44 = .ok (.newarray .int, 2) := by decide +kernel
theorem d_Pat_init_46 : decode Y_Pat_init.2.1 46 = .ok (.putfield 24, 3) := by decide +kernel
theorem d_Pat_init_49 : decode Y_Pat_init.2.1 49 = .ok (.aload_n 0, 1) := by decide +kernel
theorem d_Pat_init_50 : decode Y_Pat_init.2.1 50 = .ok (.sipush 256, 3) := by decide +kernel
theorem d_Pat_init_53 : decode Y_Pat_init.2.1 53 = .ok (.newarray .int, 2) := by decide +kernel
theorem d_Pat_init_55 : decode Y_Pat_init.2.1 55 = .ok (.putfield 27, 3) := by decide +kernel
theorem d_Pat_init_58 : decode Y_Pat_init.2.1 58 = .ok (.aload_n 0, 1) := by decide +kernel
theorem d_Pat_init_59 : decode Y_Pat_init.2.1 59 = .ok (.aload_n 1, 1) := by decide +kernel
theorem d_Pat_init_60 : decode Y_Pat_init.2.1 60 = .ok (.putfield 30, 3) := by decide +kernel
theorem d_Pat_init_63 : decode Y_Pat_init.2.1 63 = .ok (.return_, 1) := by decide +kernel
theorem d_Sha_init_0 : decode Y_Sha_init.2.1 0 = .ok (.aload_n 0, 1) := by decide +kernel
theorem d_Sha_init_1 : decode Y_Sha_init.2.1 1 = .ok (.invokespecial 3, 3) := by decide +kernel
theorem d_Sha_init_4 : decode Y_Sha_init.2.1 4 = .ok (.aload_n 0, 1) := by decide +kernel
theorem d_Sha_init_5 : decode Y_Sha_init.2.1 5 = .ok (.sipush 2304, 3) := by decide +kernel
theorem d_Sha_init_8 : decode Y_Sha_init.2.1 8 = .ok (.newarray .int, 2) := by decide +kernel
theorem d_Sha_init_10 : decode Y_Sha_init.2.1 10 = .ok (.putfield 9, 3) := by decide +kernel
theorem d_Sha_init_13 : decode Y_Sha_init.2.1 13 = .ok (.aload_n 0, 1) := by decide +kernel
theorem d_Sha_init_14 : decode Y_Sha_init.2.1 14 = .ok (.sipush 2304, 3) := by decide +kernel
theorem d_Sha_init_17 : decode Y_Sha_init.2.1 17 = .ok (.newarray .int, 2) := by decide +kernel
theorem d_Sha_init_19 : decode Y_Sha_init.2.1 19 = .ok (.putfield 15, 3) := by decide +kernel
theorem d_Sha_init_22 : decode Y_Sha_init.2.1 22 = .ok (.aload_n 0, 1) := by decide +kernel
theorem d_Sha_init_23 : decode Y_Sha_init.2.1 23 = .ok (.ldc 18, 2) := by decide +kernel
theorem d_Sha_init_25 : decode Y_Sha_init.2.1 25 = .ok (.putfield 19, 3) := by decide +kernel
theorem d_Sha_init_28 : decode Y_Sha_init.2.1 28 = .ok (.aload_n 0, 1) := by decide +kernel
theorem d_Sha_init_29 : decode Y_Sha_init.2.1 29 = .ok (.iconst 0, 1) := by decide +kernel
theorem d_Sha_init_30 : decode Y_Sha_init.2.1 30 = .ok (.putfield 23, 3) := by decide +kernel
theorem d_Sha_init_33 : decode Y_Sha_init.2.1 33 = .ok (.aload_n 0, 1) := by decide +kernel
theorem d_Sha_init_34 : decode Y_Sha_init.2.1 34 = .ok (.iconst (-1), 1) := by decide +kernel
theorem d_Sha_init_35 : decode Y_Sha_init.2.1 35 = .ok (.putfield 26, 3) := by decide +kernel
theorem d_Sha_init_38 : decode Y_Sha_init.2.1 38 = .ok (.aload_n 0, 1) := by decide +kernel
theorem d_Sha_init_39 : decode Y_Sha_init.2.1 39 = .ok (.aload_n 1, 1) := by decide +kernel
theorem d_Sha_init_40 : decode Y_Sha_init.2.1 40 = .ok (.putfield 29, 3) := by decide +kernel
theorem d_Sha_init_43 : decode Y_Sha_init.2.1 43 = .ok (.aload_n 0, 1) := by decide +kernel
theorem d_Sha_init_44 : decode Y_Sha_init.2.1 44 = .ok (.aload_n 2, 1) := by decide +kernel
theorem d_Sha_init_45 : decode Y_Sha_init.2.1 45 = .ok (.putfield 33, 3) := by decide +kernel
theorem d_Sha_init_48 : decode Y_Sha_init.2.1 48 = .ok (.return_, 1) := by decide +kernel
theorem d_Tai_init_0 : decode Y_Tai_init.2.1 0 = .ok (.aload_n 0, 1) := by decide +kernel
theorem d_Tai_init_1 : decode Y_Tai_init.2.1 1 = .ok (.invokespecial 3, 3) := by decide +kernel
theorem d_Tai_init_4 : decode Y_Tai_init.2.1 4 = .ok (.aload_n 0, 1) := by decide +kernel
theorem d_Tai_init_5 : decode Y_Tai_init.2.1 5 = .ok (.sipush 2304, 3) := by decide +kernel
theorem d_Tai_init_8 : decode Y_Tai_init.2.1 8 = .ok (.newarray .int, 2) := by decide +kernel
theorem d_Tai_init_10 : decode Y_Tai_init.2.1 10 = .ok (.putfield 9, 3) := by decide +kernel
theorem d_Tai_init_13 : decode Y_Tai_init.2.1 13 = .ok (.aload_n 0, 1) := by decide +kernel
theorem d_Tai_init_14 : decode Y_Tai_init.2.1 14 = .ok (.bipush 81, 2) := by decide +kernel
theorem d_Tai_init_16 : decode Y_Tai_init.2.1 16 = .ok (.newarray .boolean, 2) := by decide +kernel
theorem d_Tai_init_18 : decode Y_Tai_init.2.1 18 = .ok (.putfield 15, 3) := by decide +kernel
theorem d_Tai_init_21 : decode Y_Tai_init.2.1 21 = .ok (.aload_n 0, 1) := by decide +kernel
theorem d_Tai_init_22 : decode Y_Tai_init.2.1 22 = .ok (.iconst (-1), 1) := by decide +kernel
theorem d_Tai_init_23 : decode Y_Tai_init.2.1 23 = .ok (.putfield 19, 3) := by decide +kernel
theorem d_Tai_init_26 : decode Y_Tai_init.2.1 26 = .ok (.aload_n 0, 1) := by decide +kernel
theorem d_Tai_init_27 : decode Y_Tai_init.2.1 27 = .ok (.iconst 0, 1) := by decide +kernel
theorem d_Tai_init_28 : decode Y_Tai_init.2.1 28 = .ok (.putfield 23, 3) := by decide +kernel
theorem d_Tai_init_31 : decode Y_Tai_init.2.1 31 = .ok (.aload_n 0, 1) := by decide +kernel
theorem d_Tai_init_32 : decode Y_Tai_init.2.1 32 = .ok (.iconst 0, 1) := by decide +kernel
theorem d_Tai_init_33 : decode Y_Tai_init.2.1 33 = .ok (.putfield 26, 3) := by decide +kernel
theorem d_Tai_init_36 : decode Y_Tai_init.2.1 36 = .ok (.aload_n 0, 1) := by decide +kernel
theorem d_Tai_init_37 : decode Y_Tai_init.2.1 37 = .ok (.aload_n 1, 1) := by decide +kernel
theorem d_Tai_init_38 : decode Y_Tai_init.2.1 38 = .ok (.putfield 29, 3) := by decide +kernel
theorem d_Tai_init_41 : decode Y_Tai_init.2.1 41 = .ok (.aload_n 0, 1) := by decide +kernel
theorem d_Tai_init_42 : decode Y_Tai_init.2.1 42 = .ok (.aload_n 2, 1) := by decide +kernel
theorem d_Tai_init_43 : decode Y_Tai_init.2.1 43 = .ok (.putfield 33, 3) := by decide +kernel
theorem d_Tai_init_46 : decode Y_Tai_init.2.1 46 = .ok (.aload_n 0, 1) := by decide +kernel
theorem d_Tai_init_47 : decode Y_Tai_init.2.1 47 = .ok (.aload_n 3, 1) := by decide +kernel
theorem d_Tai_init_48 : decode Y_Tai_init.2.1 48 = .ok (.putfield 37, 3) := by decide +kernel
theorem d_Tai_init_51 : decode Y_Tai_init.2.1 51 = .ok (.return_, 1) := by decide +kernel
theorem d_Fir_init_0 : decode Y_Fir_init.2.1 0 = .ok (.aload_n 0, 1) := by decide +kernel
theorem d_Fir_init_1 : decode Y_Fir_init.2.1 1 = .ok (.invokespecial 3, 3) := by decide +kernel
theorem d_Fir_init_4 : decode Y_Fir_init.2.1 4 = .ok (.aload_n 0, 1) := by decide +kernel
theorem d_Fir_init_5 : decode Y_Fir_init.2.1 5 = .ok (.bipush 18, 2) := by decide +kernel
theorem d_Fir_init_7 : decode Y_Fir_init.2.1 7 = .ok (.newarray .int, 2) := by decide +kernel
theorem d_Fir_init_9 : decode Y_Fir_init.2.1 9 = .ok (.putfield 9, 3) := by decide +kernel
theorem d_Fir_init_12 : decode Y_Fir_init.2.1 12 = .ok (.aload_n 0, 1) := by decide +kernel
theorem d_Fir_init_13 : decode Y_Fir_init.2.1 13 = .ok (.iconst 0, 1) := by decide +kernel
theorem d_Fir_init_14 : decode Y_Fir_init.2.1 14 = .ok (.putfield 15, 3) := by decide +kernel
theorem d_Fir_init_17 : decode Y_Fir_init.2.1 17 = .ok (.aload_n 0, 1) := by decide +kernel
theorem d_Fir_init_18 : decode Y_Fir_init.2.1 18 = .ok (.iconst (-1), 1) := by decide +kernel
theorem d_Fir_init_19 : decode Y_Fir_init.2.1 19 = .ok (.putfield 19, 3) := by decide +kernel
theorem d_Fir_init_22 : decode Y_Fir_init.2.1 22 = .ok (.aload_n 0, 1) := by decide +kernel
theorem d_Fir_init_23 : decode Y_Fir_init.2.1 23 = .ok (.iconst 0, 1) := by decide +kernel
theorem d_Fir_init_24 : decode Y_Fir_init.2.1 24 = .ok (.putfield 22, 3) := by decide +kernel
theorem d_Fir_init_27 : decode Y_Fir_init.2.1 27 = .ok (.aload_n 0, 1) := by decide +kernel
theorem d_Fir_init_28 : decode Y_Fir_init.2.1 28 = .ok (.iconst 0, 1) := by decide +kernel
theorem d_Fir_init_29 : decode Y_Fir_init.2.1 29 = .ok (.putfield 25, 3) := by decide +kernel
theorem d_Fir_init_32 : decode Y_Fir_init.2.1 32 = .ok (.aload_n 0, 1) := by decide +kernel
theorem d_Fir_init_33 : decode Y_Fir_init.2.1 33 = .ok (.aload_n 1, 1) := by decide +kernel
theorem d_Fir_init_34 : decode Y_Fir_init.2.1 34 = .ok (.putfield 28, 3) := by decide +kernel
theorem d_Fir_init_37 : decode Y_Fir_init.2.1 37 = .ok (.aload_n 0, 1) := by decide +kernel
theorem d_Fir_init_38 : decode Y_Fir_init.2.1 38 = .ok (.aload_n 2, 1) := by decide +kernel
theorem d_Fir_init_39 : decode Y_Fir_init.2.1 39 = .ok (.putfield 32, 3) := by decide +kernel
theorem d_Fir_init_42 : decode Y_Fir_init.2.1 42 = .ok (.aload_n 0, 1) := by decide +kernel
theorem d_Fir_init_43 : decode Y_Fir_init.2.1 43 = .ok (.aload_n 3, 1) := by decide +kernel
theorem d_Fir_init_44 : decode Y_Fir_init.2.1 44 = .ok (.putfield 36, 3) := by decide +kernel
theorem d_Fir_init_47 : decode Y_Fir_init.2.1 47 = .ok (.return_, 1) := by decide +kernel
theorem d_Tre_init_0 : decode Y_Tre_init.2.1 0 = .ok (.aload_n 0, 1) := by decide +kernel
theorem d_Tre_init_1 : decode Y_Tre_init.2.1 1 = .ok (.invokespecial 3, 3) := by decide +kernel
theorem d_Tre_init_4 : decode Y_Tre_init.2.1 4 = .ok (.aload_n 0, 1) := by decide +kernel
theorem d_Tre_init_5 : decode Y_Tre_init.2.1 5 = .ok (.bipush 9, 2) := by decide +kernel
theorem d_Tre_init_7 : decode Y_Tre_init.2.1 7 = .ok (.newarray .int, 2) := by decide +kernel
theorem d_Tre_init_9 : decode Y_Tre_init.2.1 9 = .ok (.putfield 9, 3) := by decide +kernel
theorem d_Tre_init_12 : decode Y_Tre_init.2.1 12 = .ok (.aload_n 0, 1) := by decide +kernel
theorem d_Tre_init_13 : decode Y_Tre_init.2.1 13 = .ok (.bipush 9, 2) := by decide +kernel
theorem d_Tre_init_15 : decode Y_Tre_init.2.1 15 = .ok (.newarray .int, 2) := by decide +kernel
theorem d_Tre_init_17 : decode Y_Tre_init.2.1 17 = .ok (.putfield 15, 3) := by decide +kernel
theorem d_Tre_init_20 : decode Y_Tre_init.2.1 20 = .ok (.aload_n 0, 1) := by decide +kernel
theorem d_Tre_init_21 : decode Y_Tre_init.2.1 21 = .ok (.bipush 9, 2) := by decide +kernel
theorem d_Tre_init_23 : decode Y_Tre_init.2.1 23 = .ok (.newarray .int, 2) := by decide +kernel
theorem d_Tre_init_25 : decode Y_Tre_init.2.1 25 = .ok (.putfield 18, 3) := by decide +kernel
theorem d_Tre_init_28 : decode Y_Tre_init.2.1 28 = .ok (.aload_n 0, 1) := by decide +kernel
theorem d_Tre_init_29 : decode Y_Tre_init.2.1 29 = .ok (.bipush 9, 2) := by decide +kernel
theorem d_Tre_init_31 : decode Y_Tre_init.2.1 31 = .ok (.newarray .int, 2) := by decide +kernel
theorem d_Tre_init_33 : decode Y_Tre_init.2.1 33 = .ok (.putfield 21, 3) := by decide +kernel
theorem d_Tre_init_36 : decode Y_Tre_init.2.1 36 = .ok (.aload_n 0, 1) := by decide +kernel
theorem d_Tre_init_37 : decode Y_Tre_init.2.1 37 = .ok (.iconst 0, 1) := by decide +kernel
theorem d_Tre_init_38 : decode Y_Tre_init.2.1 38 = .ok (.putfield 24, 3) := by decide +kernel
theorem d_Tre_init_41 : decode Y_Tre_init.2.1 41 = .ok (.aload_n 0, 1) := by decide +kernel
theorem d_Tre_init_42 : decode Y_Tre_init.2.1 42 = .ok (.iconst 0, 1) := by decide +kernel
theorem d_Tre_init_43 : decode Y_Tre_init.2.1 43 = .ok (.putfield 28, 3) := by decide +kernel
theorem d_Tre_init_46 : decode Y_Tre_init.2.1 46 = .ok (.aload_n 0, 1) := by decide +kernel
theorem d_Tre_init_47 : decode Y_Tre_init.2.1 47 = .ok (.aload_n 1, 1) := by decide +kernel
theorem d_Tre_init_48 : decode Y_Tre_init.2.1 48 = .ok (.putfield 31, 3) := by decide +kernel
theorem d_Tre_init_51 : decode Y_Tre_init.2.1 51 = .ok (.return_, 1) := by decide +kernel
theorem d_Pai_init_0 : decode Y_Pai_init.2.1 0 = .ok (.aload_n 0, 1) := by decide +kernel
theorem d_Pai_init_1 : decode Y_Pai_init.2.1 1 = .ok (.invokespecial 3, 3) := by decide +kernel
theorem d_Pai_init_4 : decode Y_Pai_init.2.1 4 = .ok (.aload_n 0, 1) := by decide +kernel
theorem d_Pai_init_5 : decode Y_Pai_init.2.1 5 = .ok (.sipush 512, 3) := by decide +kernel
theorem d_Pai_init_8 : decode Y_Pai_init.2.1 8 = .ok (.newarray .int, 2) := by decide +kernel
theorem d_Pai_init_10 : decode Y_Pai_init.2.1 10 = .ok (.putfield 9, 3) := by decide +kernel
theorem d_Pai_init_13 : decode Y_Pai_init.2.1 13 = .ok (.aload_n 0, 1) := by decide +kernel
theorem d_Pai_init_14 : decode Y_Pai_init.2.1 14 = .ok (.aload_n 1, 1) := by decide +kernel
theorem d_Pai_init_15 : decode Y_Pai_init.2.1 15 = .ok (.putfield 15, 3) := by decide +kernel
theorem d_Pai_init_18 : decode Y_Pai_init.2.1 18 = .ok (.return_, 1) := by decide +kernel
theorem d_Cir_init_0 : decode Y_Cir_init.2.1 0 = .ok (.aload_n 0, 1) := by decide +kernel
theorem d_Cir_init_1 : decode Y_Cir_init.2.1 1 = .ok (.invokespecial 3, 3) := by decide +kernel
theorem d_Cir_init_4 : decode Y_Cir_init.2.1 4 = .ok (.aload_n 0, 1) := by decide +kernel
theorem d_Cir_init_5 : decode Y_Cir_init.2.1 5 = .ok (.bipush 9, 2) := by decide +kernel
theorem d_Cir_init_7 : decode Y_Cir_init.2.1 7 = .ok (.newarray .int, 2) := by decide +kernel
theorem d_Cir_init_9 : decode Y_Cir_init.2.1 9 = .ok (.putfield 9, 3) := by decide +kernel
theorem d_Cir_init_12 : decode Y_Cir_init.2.1 12 = .ok (.aload_n 0, 1) := by decide +kernel
theorem d_Cir_init_13 : decode Y_Cir_init.2.1 13 = .ok (.bipush 9, 2) := by decide +kernel
theorem d_Cir_init_15 : decode Y_Cir_init.2.1 15 = .ok (.newarray .int, 2) := by decide +kernel
theorem d_Cir_init_17 : decode Y_Cir_init.2.1 17 = .ok (.putfield 15, 3) := by decide +kernel
theorem d_Cir_init_20 : decode Y_Cir_init.2.1 20 = .ok (.aload_n 0, 1) := by decide +kernel
theorem d_Cir_init_21 : decode Y_Cir_init.2.1 21 = .ok (.aload_n 1, 1) := by decide +kernel
theorem d_Cir_init_22 : decode Y_Cir_init.2.1 22 = .ok (.putfield 18, 3) := by decide +kernel
theorem d_Cir_init_25 : decode Y_Cir_init.2.1 25 = .ok (.iconst 0, 1) := by decide +kernel
theorem d_Cir_init_26 : decode Y_Cir_init.2.1 26 = .ok (.istore_n 2, 1) := by decide +kernel
theorem d_Cir_init_27 : decode Y_Cir_init.2.1 27 = .ok (.iload_n 2, 1) := by decide +kernel
theorem d_Cir_init_28 : decode Y_Cir_init.2.1 28 = .ok (.bipush 9, 2) := by decide +kernel
theorem d_Cir_init_30 : decode Y_Cir_init.2.1 30 = .ok (.if_icmp .ge 16, 3) := by decide +kernel
theorem d_Cir_init_33 : decode Y_Cir_init.2.1 33 = .ok (.aload_n 0, 1) := by decide +kernel
theorem d_Cir_init_34 : decode Y_Cir_init.2.1 34 = .ok (.getfield 9, 3) := by decide +kernel
theorem d_Cir_init_37 : decode Y_Cir_init.2.1 37 = .ok (.iload_n 2, 1) := by decide +kernel
theorem d_Cir_init_38 : decode Y_Cir_init.2.1 38 = .ok (.iconst (-1), 1) := by decide +kernel
theorem d_Cir_init_39 : decode Y_Cir_init.2.1 39 = .ok (.iastore, 1) := by decide +kernel
theorem d_Cir_init_40 : decode Y_Cir_init.2.1 40 = .ok (.iinc 2 1, 3) := by decide +kernel
theorem d_Cir_init_43 : decode Y_Cir_init.2.1 43 = .ok (.goto (-16), 3) := by decide +kernel
theorem d_Cir_init_46 : decode Y_Cir_init.2.1 46 = .ok (.return_, 1) := by decide +kernel
theorem d_Way_init_0 : decode Y_Way_init.2.1 0 = .ok (.aload_n 0, 1) := by decide +kernel
theorem d_Way_init_1 : decode Y_Way_init.2.1 1 = .ok (.invokespecial 3, 3) := by decide +kernel
theorem d_Way_init_4 : decode Y_Way_init.2.1 4 = .ok (.aload_n 0, 1) := by decide +kernel
theorem d_Way_init_5 : decode Y_Way_init.2.1 5 = .ok (.bipush 9, 2) := by decide +kernel
theorem d_Way_init_7 : decode Y_Way_init.2.1 7 = .ok (.newarray .int, 2) := by decide +kernel
theorem d_Way_init_9 : decode Y_Way_init.2.1 9 = .ok (.putfield 9, 3) := by decide +kernel
theorem d_Way_init_12 : decode Y_Way_init.2.1 12 = .ok (.aload_n 0, 1) := by decide +kernel
theorem d_Way_init_13 : decode Y_Way_init.2.1 13 = .ok (.aload_n 1, 1) := by decide +kernel
theorem d_Way_init_14 : decode Y_Way_init.2.1 14 = .ok (.putfield 15, 3) := by decide +kernel
theorem d_Way_init_17 : decode Y_Way_init.2.1 17 = .ok (.return_, 1) := by decide +kernel
theorem d_Row_init_0 : decode Y_Row_init.2.1 0 = .ok (.aload_n 0, 1) := by decide +kernel
theorem d_Row_init_1 : decode Y_Row_init.2.1 1 = .ok (.invokespecial 3, 3) := by decide +kernel
theorem d_Row_init_4 : decode Y_Row_init.2.1 4 = .ok (.aload_n 0, 1) := by decide +kernel
theorem d_Row_init_5 : decode Y_Row_init.2.1 5 = .ok (.bipush 20, 2) := by decide +kernel
theorem d_Row_init_7 : decode Y_Row_init.2.1 7 = .ok (.newarray .int, 2) := by decide +kernel
theorem d_Row_init_9 : decode Y_Row_init.2.1 9 = .ok (.putfield 9, 3) := by decide +kernel
theorem d_Row_init_12 : decode Y_Row_init.2.1 12 = .ok (.aload_n 0, 1) := by decide +kernel
theorem d_Row_init_13 : decode Y_Row_init.2.1 13 = .ok (.bipush 20, 2) := by decide +kernel
theorem d_Row_init_15 : decode Y_Row_init.2.1 15 = .ok (.newarray .int, 2) := by decide +kernel
theorem d_Row_init_17 : decode Y_Row_init.2.1 17 = .ok (.putfield 15, 3) := by decide +kernel
theorem d_Row_init_20 : decode Y_Row_init.2.1 20 = .ok (.aload_n 0, 1) := by decide +kernel
theorem d_Row_init_21 : decode Y_Row_init.2.1 21 = .ok (.iconst 0, 1) := by decide +kernel
theorem d_Row_init_22 : decode Y_Row_init.2.1 22 = .ok (.putfield 18, 3) := by decide +kernel
theorem d_Row_init_25 : decode Y_Row_init.2.1 25 = .ok (.aload_n 0, 1) := by decide +kernel
theorem d_Row_init_26 : decode Y_Row_init.2.1 26 = .ok (.aload_n 1, 1) := by decide +kernel
theorem d_Row_init_27 : decode Y_Row_init.2.1 27 = .ok (.putfield 22, 3) := by decide +kernel
theorem d_Row_init_30 : decode Y_Row_init.2.1 30 = .ok (.return_, 1) := by decide +kernel
theorem d_Net_addNode_0 : decode Y_Net_addNode.2.1 0 = .ok (.aload_n 0, 1) := by decide +kernel
theorem d_Net_addNode_1 : decode Y_Net_addNode.2.1 1 = .ok (.getfield 24, 3) := by decide +kernel
theorem d_Net_addNode_4 : decode Y_Net_addNode.2.1 4 = .ok (.istore_n 2, 1) := by decide +kernel
theorem d_Net_addNode_5 : decode Y_Net_addNode.2.1 5 = .ok (.aload_n 0, 1) := by decide +kernel
theorem d_Net_addNode_6 : decode Y_Net_addNode.2.1 6 = .ok (.getfield 9, 3) := by decide +kernel
theorem d_Net_addNode_9 : decode Y_Net_addNode.2.1 9 = .ok (.iload_n 2, 1) := by decide +kernel
theorem d_Net_addNode_10 : decode Y_Net_addNode.2.1 10 = .ok (.iload_n 1, 1) := by decide +kernel
theorem d_Net_addNode_11 : decode Y_Net_addNode.2.1 11 = .ok (.iastore, 1) := by decide +kernel
theorem d_Net_addNode_12 : decode Y_Net_addNode.2.1 12 = .ok (.aload_n 0, 1) := by decide +kernel
theorem d_Net_addNode_13 : decode Y_Net_addNode.2.1 13 = .ok (.dup, 1) := by decide +kernel
theorem d_Net_addNode_14 : decode Y_Net_addNode.2.1 14 = .ok (.getfield 24, 3) := by decide +kernel
theorem d_Net_addNode_17 : decode Y_Net_addNode.2.1 17 = .ok (.iconst 1, 1) := by decide +kernel
theorem d_Net_addNode_18 : decode Y_Net_addNode.2.1 18 = .ok (.iadd, 1) := by decide +kernel
theorem d_Net_addNode_19 : decode Y_Net_addNode.2.1 19 = .ok (.putfield 24, 3) := by decide +kernel
theorem d_Net_addNode_22 : decode Y_Net_addNode.2.1 22 = .ok (.aload_n 0, 1) := by decide +kernel
theorem d_Net_addNode_23 : decode Y_Net_addNode.2.1 23 = .ok (.dup, 1) := by decide +kernel
theorem d_Net_addNode_24 : decode Y_Net_addNode.2.1 24 = .ok (.getfield 37, 3) := by decide +kernel
theorem d_Net_addNode_27 : decode Y_Net_addNode.2.1 27 = .ok (.iconst 1, 1) := by decide +kernel
theorem d_Net_addNode_28 : decode Y_Net_addNode.2.1 28 = .ok (.iadd, 1) := by decide +kernel
theorem d_Net_addNode_29 : decode Y_Net_addNode.2.1 29 = .ok (.putfield 37, 3) := by decide +kernel
theorem d_Net_addNode_32 : decode Y_Net_addNode.2.1 32 = .ok (.iload_n 2, 1) := by decide +kernel
theorem d_Net_addNode_33 : decode Y_Net_addNode.2.1 33 = .ok (.ireturn, 1) := by decide +kernel
theorem d_Net_areTwo_0 : decode Y_Net_areTwo.2.1 0 = .ok (.aload_n 0, 1) := by decide +kernel
theorem d_Net_areTwo_1 : decode Y_Net_areTwo.2.1 1 = .ok (.iload_n 1, 1) := by decide +kernel
theorem d_Net_areTwo_2 : decode Y_Net_areTwo.2.1 2 = .ok (.invokevirtual 41, 3) := by decide +kernel
theorem d_Net_areTwo_5 : decode Y_Net_areTwo.2.1 5 = .ok (.ifCond .eq 20, 3) := by decide +kernel
theorem d_Net_areTwo_8 : decode Y_Net_areTwo.2.1 8 = .ok (.aload_n 0, 1) := by decide +kernel
theorem d_Net_areTwo_9 : decode Y_Net_areTwo.2.1 9 = .ok (.iload_n 2, 1) := by decide +kernel
theorem d_Net_areTwo_10 : decode Y_Net_areTwo.2.1 10 = .ok (.invokevirtual 41, 3) := by decide +kernel
theorem d_Net_areTwo_13 : decode Y_Net_areTwo.2.1 13 = .ok (.ifCond .eq 12, 3) := by decide +kernel
theorem d_Net_areTwo_16 : decode Y_Net_areTwo.2.1 16 = .ok (.iload_n 1, 1) := by decide +kernel
theorem d_Net_areTwo_17 : decode Y_Net_areTwo.2.1 17 = .ok (.iload_n 2, 1) := by decide +kernel
theorem d_Net_areTwo_18 : decode Y_Net_areTwo.2.1 18 = .ok (.if_icmp .eq 7, 3) := by decide +kernel
theorem d_Net_areTwo_21 : decode Y_Net_areTwo.2.1 21 = .ok (.iconst 1, 1) := by decide +kernel
theorem d_Net_areTwo_22 : decode Y_Net_areTwo.2.1 22 = .ok (.goto 4, 3) := by decide +kernel
theorem d_Net_areTwo_25 : decode Y_Net_areTwo.2.1 25 = .ok (.iconst 0, 1) := by decide +kernel
theorem d_Net_areTwo_26 : decode Y_Net_areTwo.2.1 26 = .ok (.ireturn, 1) := by decide +kernel
theorem d_Net_isNode_0 : decode Y_Net_isNode.2.1 0 = .ok (.iload_n 1, 1) := by decide +kernel
theorem d_Net_isNode_1 : decode Y_Net_isNode.2.1 1 = .ok (.ifCond .lt 15, 3) := by decide +kernel
theorem d_Net_isNode_4 : decode Y_Net_isNode.2.1 4 = .ok (.iload_n 1, 1) := by decide +kernel
theorem d_Net_isNode_5 : decode Y_Net_isNode.2.1 5 = .ok (.aload_n 0, 1) := by decide +kernel
theorem d_Net_isNode_6 : decode Y_Net_isNode.2.1 6 = .ok (.getfield 24, 3) := by decide +kernel
theorem d_Net_isNode_9 : decode Y_Net_isNode.2.1 9 = .ok (.if_icmp .ge 7, 3) := by decide +kernel
theorem d_Net_isNode_12 : decode Y_Net_isNode.2.1 12 = .ok (.iconst 1, 1) := by decide +kernel
theorem d_Net_isNode_13 : decode Y_Net_isNode.2.1 13 = .ok (.goto 4, 3) := by decide +kernel
theorem d_Net_isNode_16 : decode Y_Net_isNode.2.1 16 = .ok (.iconst 0, 1) := by decide +kernel
theorem d_Net_isNode_17 : decode Y_Net_isNode.2.1 17 = .ok (.ireturn, 1) := by decide +kernel
theorem d_Net_changeCost_0 : decode Y_Net_changeCost.2.1 0 = .ok (.aload_n 0, 1) := by decide +kernel
theorem d_Net_changeCost_1 : decode Y_Net_changeCost.2.1 1 = .ok (.getfield 15, 3) := by decide +kernel
theorem d_Net_changeCost_4 : decode Y_Net_changeCost.2.1 4 = .ok (.iload_n 1, 1) := by decide +kernel
theorem d_Net_changeCost_5 : decode Y_Net_changeCost.2.1 5 = .ok (.bipush 9, 2) := by decide +kernel
theorem d_Net_changeCost_7 : decode Y_Net_changeCost.2.1 7 = .ok (.imul, 1) := by decide +kernel
theorem d_Net_changeCost_8 : decode Y_Net_changeCost.2.1 8 = .ok (.iload_n 2, 1) := by decide +kernel
theorem d_Net_changeCost_9 : decode Y_Net_changeCost.2.1 9 = .ok (.iadd, 1) := by decide +kernel
theorem d_Net_changeCost_10 : decode Y_Net_changeCost.2.1 10 = .ok (.iaload, 1) := by decide +kernel
theorem d_Net_changeCost_11 : decode Y_Net_changeCost.2.1 11 = .ok (.istore 4, 2) := by decide +kernel
theorem d_Net_changeCost_13 : decode Y_Net_changeCost.2.1 13 = .ok (.aload_n 0, 1) := by decide +kernel
theorem d_Net_changeCost_14 : decode Y_Net_changeCost.2.1 14 = .ok (.getfield 15, 3) := by decide +kernel
theorem d_Net_changeCost_17 : decode Y_Net_changeCost.2.1 17 = .ok (.iload_n 1, 1) := by decide +kernel
theorem d_Net_changeCost_18 : decode Y_Net_changeCost.2.1 18 = .ok (.bipush 9, 2) := by decide +kernel
theorem d_Net_changeCost_20 : decode Y_Net_changeCost.2.1 20 = .ok (.imul, 1) := by decide +kernel
theorem d_Net_changeCost_21 : decode Y_Net_changeCost.2.1 21 = .ok (.iload_n 2, 1) := by decide +kernel
theorem d_Net_changeCost_22 : decode Y_Net_changeCost.2.1 22 = .ok (.iadd, 1) := by decide +kernel
theorem d_Net_changeCost_23 : decode Y_Net_changeCost.2.1 23 = .ok (.iload_n 3, 1) := by decide +kernel
theorem d_Net_changeCost_24 : decode Y_Net_changeCost.2.1 24 = .ok (.iastore, 1) := by decide +kernel
theorem d_Net_changeCost_25 : decode Y_Net_changeCost.2.1 25 = .ok (.iload_n 3, 1) := by decide +kernel
theorem d_Net_changeCost_26 : decode Y_Net_changeCost.2.1 26 = .ok (.iload 4, 2) := by decide +kernel
theorem d_Net_changeCost_28 : decode Y_Net_changeCost.2.1 28 = .ok (.if_icmp .eq 13, 3) := by decide +kernel
theorem d_Net_changeCost_31 : decode Y_Net_changeCost.2.1 31 = .ok (.aload_n 0, 1) := by decide +kernel
theorem d_Net_changeCost_32 : decode Y_Net_changeCost.2.1 32 = .ok (.dup, 1) := by decide +kernel
theorem d_Net_changeCost_33 : decode Y_Net_changeCost.2.1 33 = .ok (.getfield 37, 3) := by decide +kernel
theorem d_Net_changeCost_36 : decode Y_Net_changeCost.2.1 36 = .ok (.iconst 1, 1) := by decide +kernel
theorem d_Net_changeCost_37 : decode Y_Net_changeCost.2.1 37 = .ok (.iadd, 1) := by decide +kernel
theorem d_Net_changeCost_38 : decode Y_Net_changeCost.2.1 38 = .ok (.putfield 37, 3) := by decide +kernel
theorem d_Net_changeCost_41 : decode Y_Net_changeCost.2.1 41 = .ok (.iload 4, 2) := by decide +kernel
theorem d_Net_changeCost_43 : decode Y_Net_changeCost.2.1 43 = .ok (.ireturn, 1) := by decide +kernel
theorem d_Net_isPlace_0 : decode Y_Net_isPlace.2.1 0 = .ok (.iload_n 1, 1) := by decide +kernel
theorem d_Net_isPlace_1 : decode Y_Net_isPlace.2.1 1 = .ok (.ifCond .le 15, 3) := by decide +kernel
theorem d_Net_isPlace_4 : decode Y_Net_isPlace.2.1 4 = .ok (.iload_n 1, 1) := by decide +kernel
theorem d_Net_isPlace_5 : decode Y_Net_isPlace.2.1 5 = .ok (.aload_n 0, 1) := by decide +kernel
theorem d_Net_isPlace_6 : decode Y_Net_isPlace.2.1 6 = .ok (.getfield 24, 3) := by decide +kernel
theorem d_Net_isPlace_9 : decode Y_Net_isPlace.2.1 9 = .ok (.if_icmp .ge 7, 3) := by decide +kernel
theorem d_Net_isPlace_12 : decode Y_Net_isPlace.2.1 12 = .ok (.iconst 1, 1) := by decide +kernel
theorem d_Net_isPlace_13 : decode Y_Net_isPlace.2.1 13 = .ok (.goto 4, 3) := by decide +kernel
theorem d_Net_isPlace_16 : decode Y_Net_isPlace.2.1 16 = .ok (.iconst 0, 1) := by decide +kernel
theorem d_Net_isPlace_17 : decode Y_Net_isPlace.2.1 17 = .ok (.ireturn, 1) := by decide +kernel
theorem d_Net_changePrice_0 : decode Y_Net_changePrice.2.1 0 = .ok (.aload_n 0, 1) := by decide +kernel
theorem d_Net_changePrice_1 : decode Y_Net_changePrice.2.1 1 = .ok (.getfield 18, 3) := by decide +kernel
theorem d_Net_changePrice_4 : decode Y_Net_changePrice.2.1 4 = .ok (.iload_n 1, 1) := by decide +kernel
theorem d_Net_changePrice_5 : decode Y_Net_changePrice.2.1 5 = .ok (.iaload, 1) := by decide +kernel
theorem d_Net_changePrice_6 : decode Y_Net_changePrice.2.1 6 = .ok (.istore_n 3, 1) := by decide +kernel
theorem d_Net_changePrice_7 : decode Y_Net_changePrice.2.1 7 = .ok (.aload_n 0, 1) := by decide +kernel
theorem d_Net_changePrice_8 : decode Y_Net_changePrice.2.1 8 = .ok (.getfield 18, 3) := by decide +kernel
theorem d_Net_changePrice_11 : decode Y_Net_changePrice.2.1 11 = .ok (.iload_n 1, 1) := by decide +kernel
theorem d_Net_changePrice_12 : decode Y_Net_changePrice.2.1 12 = .ok (.iload_n 2, 1) := by decide +kernel
theorem d_Net_changePrice_13 : decode Y_Net_changePrice.2.1 13 = .ok (.iastore, 1) := by decide +kernel
theorem d_Net_changePrice_14 : decode Y_Net_changePrice.2.1 14 = .ok (.aload_n 0, 1) := by decide +kernel
theorem d_Net_changePrice_15 : decode Y_Net_changePrice.2.1 15 = .ok (.dup, 1) := by decide +kernel
theorem d_Net_changePrice_16 : decode Y_Net_changePrice.2.1 16 = .ok (.getfield 37, 3) := by decide +kernel
theorem d_Net_changePrice_19 : decode Y_Net_changePrice.2.1 19 = .ok (.iconst 1, 1) := by decide +kernel
theorem d_Net_changePrice_20 : decode Y_Net_changePrice.2.1 20 = .ok (.iadd, 1) := by decide +kernel
theorem d_Net_changePrice_21 : decode Y_Net_changePrice.2.1 21 = .ok (.putfield 37, 3) := by decide +kernel
theorem d_Net_changePrice_24 : decode Y_Net_changePrice.2.1 24 = .ok (.iload_n 3, 1) := by decide +kernel
theorem d_Net_changePrice_25 : decode Y_Net_changePrice.2.1 25 = .ok (.ireturn, 1) := by decide +kernel
theorem d_Net_changeEarlier_0 : decode Y_Net_changeEarlier.2.1 0 = .ok (.aload_n 0, 1) := by decide +kernel
theorem d_Net_changeEarlier_1 : decode Y_Net_changeEarlier.2.1 1 = .ok (.getfield 21, 3) := by decide +kernel
theorem d_Net_changeEarlier_4 : decode Y_Net_changeEarlier.2.1 4 = .ok (.iload_n 2, 1) := by decide +kernel
theorem d_Net_changeEarlier_5 : decode Y_Net_changeEarlier.2.1 5 = .ok (.iaload, 1) := by decide +kernel
theorem d_Net_changeEarlier_6 : decode Y_Net_changeEarlier.2.1 6 = .ok (.iload_n 1, 1) := by decide +kernel
theorem d_Net_changeEarlier_7 : decode Y_Net_changeEarlier.2.1 7 = .ok (.invokestatic 45, 3) := by decide +kernel
theorem d_Net_changeEarlier_10 : decode Y_Net_changeEarlier.2.1 10 = .ok (.iand, 1) := by decide +kernel
theorem d_Net_changeEarlier_11 : decode Y_Net_changeEarlier.2.1 11 = .ok (.ifCond .ne 7, 3) := by decide +kernel
theorem d_Net_changeEarlier_14 : decode Y_Net_changeEarlier.2.1 14 = .ok (.iconst 0, 1) := by decide +kernel
theorem d_Net_changeEarlier_15 : decode Y_Net_changeEarlier.2.1 15 = .ok (.goto 4, 3) := by decide +kernel
theorem d_Net_changeEarlier_18 : decode Y_Net_changeEarlier.2.1 18 = .ok (.iconst 1, 1) := by decide +kernel
theorem d_Net_changeEarlier_19 : decode Y_Net_changeEarlier.2.1 19 = .ok (.istore 4, 2) := by decide +kernel
theorem d_Net_changeEarlier_21 : decode Y_Net_changeEarlier.2.1 21 = .ok (.aload_n 0, 1) := by decide +kernel
theorem d_Net_changeEarlier_22 : decode Y_Net_changeEarlier.2.1 22 = .ok (.getfield 21, 3) := by decide +kernel
theorem d_Net_changeEarlier_25 : decode Y_Net_changeEarlier.2.1 25 = .ok (.iload_n 2, 1) := by decide +kernel
theorem d_Net_changeEarlier_26 : decode Y_Net_changeEarlier.2.1 26 = .ok (.iload_n 3, 1) := by decide +kernel
theorem d_Net_changeEarlier_27 : decode Y_Net_changeEarlier.2.1 27 = .ok (.ifCond .eq 17, 3) := by decide +kernel
theorem d_Net_changeEarlier_30 : decode Y_Net_changeEarlier.2.1 30 = .ok (.aload_n 0, 1) := by decide +kernel
theorem d_Net_changeEarlier_31 : decode Y_Net_changeEarlier.2.1 31 = .ok (.getfield 21, 3) := by decide +kernel
theorem d_Net_changeEarlier_34 : decode Y_Net_changeEarlier.2.1 34 = .ok (.iload_n 2, 1) := by decide +kernel
theorem d_Net_changeEarlier_35 : decode Y_Net_changeEarlier.2.1 35 = .ok (.iaload, 1) := by decide +kernel
theorem d_Net_changeEarlier_36 : decode Y_Net_changeEarlier.2.1 36 = .ok (.iload_n 1, 1) := by decide +kernel
theorem d_Net_changeEarlier_37 : decode Y_Net_changeEarlier.2.1 37 = .ok (.invokestatic 45, 3) := by decide +kernel
theorem d_Net_changeEarlier_40 : decode Y_Net_changeEarlier.2.1 40 = .ok (.ior, 1) := by decide +kernel
theorem d_Net_changeEarlier_41 : decode Y_Net_changeEarlier.2.1 41 = .ok (.goto 16, 3) := by decide +kernel
theorem d_Net_changeEarlier_44 : decode Y_Net_changeEarlier.2.1 44 = .ok (.aload_n 0, 1) := by decide +kernel
theorem d_Net_changeEarlier_45 : decode Y_Net_changeEarlier.2.1 45 = .ok (.getfield 21, 3) := by decide +kernel
theorem d_Net_changeEarlier_48 : decode Y_Net_changeEarlier.2.1 48 = .ok (.iload_n 2, 1) := by decide +kernel
theorem d_Net_changeEarlier_49 : decode Y_Net_changeEarlier.2.1 49 = .ok (.iaload, 1) := by decide +kernel
theorem d_Net_changeEarlier_50 : decode Y_Net_changeEarlier.2.1 50 = .ok (.iload_n 1, 1) := by decide +kernel
theorem d_Net_changeEarlier_51 : decode Y_Net_changeEarlier.2.1 51 = .ok (.invokestatic 45, 3) := by decide +kernel
theorem d_Net_changeEarlier_54 : decode Y_Net_changeEarlier.2.1 54 = .ok (.iconst (-1), 1) := by decide +kernel
theorem d_Net_changeEarlier_55 : decode Y_Net_changeEarlier.2.1 55 = .ok (.ixor, 1) := by decide +kernel
theorem d_Net_changeEarlier_56 : decode Y_Net_changeEarlier.2.1 56 = .ok (.iand, 1) := by decide +kernel
theorem d_Net_changeEarlier_57 : decode Y_Net_changeEarlier.2.1 57 = .ok (.iastore, 1) := by decide +kernel
theorem d_Net_changeEarlier_58 : decode Y_Net_changeEarlier.2.1 58 = .ok (.aload_n 0, 1) := by decide +kernel
theorem d_Net_changeEarlier_59 : decode Y_Net_changeEarlier.2.1 59 = .ok (.dup, 1) := by decide +kernel
theorem d_Net_changeEarlier_60 : decode Y_Net_changeEarlier.2.1 60 = .ok (.getfield 37, 3) := by decide +kernel
theorem d_Net_changeEarlier_63 : decode Y_Net_changeEarlier.2.1 63 = .ok (.iconst 1, 1) := by decide +kernel
theorem d_Net_changeEarlier_64 : decode Y_Net_changeEarlier.2.1 64 = .ok (.iadd, 1) := by decide +kernel
theorem d_Net_changeEarlier_65 : decode Y_Net_changeEarlier.2.1 65 = .ok (.putfield 37, 3) := by decide +kernel
theorem d_Net_changeEarlier_68 : decode Y_Net_changeEarlier.2.1 68 = .ok (.iload 4, 2) := by decide +kernel
theorem d_Net_changeEarlier_70 : decode Y_Net_changeEarlier.2.1 70 = .ok (.ireturn, 1) := by decide +kernel
theorem d_Net_changeMost_0 : decode Y_Net_changeMost.2.1 0 = .ok (.aload_n 0, 1) := by decide +kernel
theorem d_Net_changeMost_1 : decode Y_Net_changeMost.2.1 1 = .ok (.getfield 28, 3) := by decide +kernel
theorem d_Net_changeMost_4 : decode Y_Net_changeMost.2.1 4 = .ok (.istore_n 2, 1) := by decide +kernel
theorem d_Net_changeMost_5 : decode Y_Net_changeMost.2.1 5 = .ok (.aload_n 0, 1) := by decide +kernel
theorem d_Net_changeMost_6 : decode Y_Net_changeMost.2.1 6 = .ok (.iload_n 1, 1) := by decide +kernel
theorem d_Net_changeMost_7 : decode Y_Net_changeMost.2.1 7 = .ok (.putfield 28, 3) := by decide +kernel
theorem d_Net_changeMost_10 : decode Y_Net_changeMost.2.1 10 = .ok (.aload_n 0, 1) := by decide +kernel
theorem d_Net_changeMost_11 : decode Y_Net_changeMost.2.1 11 = .ok (.dup, 1) := by decide +kernel
theorem d_Net_changeMost_12 : decode Y_Net_changeMost.2.1 12 = .ok (.getfield 37, 3) := by decide +kernel
theorem d_Net_changeMost_15 : decode Y_Net_changeMost.2.1 15 = .ok (.iconst 1, 1) := by decide +kernel
theorem d_Net_changeMost_16 : decode Y_Net_changeMost.2.1 16 = .ok (.iadd, 1) := by decide +kernel
theorem d_Net_changeMost_17 : decode Y_Net_changeMost.2.1 17 = .ok (.putfield 37, 3) := by decide +kernel
theorem d_Net_changeMost_20 : decode Y_Net_changeMost.2.1 20 = .ok (.iload_n 2, 1) := by decide +kernel
theorem d_Net_changeMost_21 : decode Y_Net_changeMost.2.1 21 = .ok (.ireturn, 1) := by decide +kernel
theorem d_Net_changeRoom_0 : decode Y_Net_changeRoom.2.1 0 = .ok (.aload_n 0, 1) := by decide +kernel
theorem d_Net_changeRoom_1 : decode Y_Net_changeRoom.2.1 1 = .ok (.getfield 31, 3) := by decide +kernel
theorem d_Net_changeRoom_4 : decode Y_Net_changeRoom.2.1 4 = .ok (.istore_n 2, 1) := by decide +kernel
theorem d_Net_changeRoom_5 : decode Y_Net_changeRoom.2.1 5 = .ok (.aload_n 0, 1) := by decide +kernel
theorem d_Net_changeRoom_6 : decode Y_Net_changeRoom.2.1 6 = .ok (.iload_n 1, 1) := by decide +kernel
theorem d_Net_changeRoom_7 : decode Y_Net_changeRoom.2.1 7 = .ok (.putfield 31, 3) := by decide +kernel
theorem d_Net_changeRoom_10 : decode Y_Net_changeRoom.2.1 10 = .ok (.aload_n 0, 1) := by decide +kernel
theorem d_Net_changeRoom_11 : decode Y_Net_changeRoom.2.1 11 = .ok (.dup, 1) := by decide +kernel
theorem d_Net_changeRoom_12 : decode Y_Net_changeRoom.2.1 12 = .ok (.getfield 37, 3) := by decide +kernel
theorem d_Net_changeRoom_15 : decode Y_Net_changeRoom.2.1 15 = .ok (.iconst 1, 1) := by decide +kernel
theorem d_Net_changeRoom_16 : decode Y_Net_changeRoom.2.1 16 = .ok (.iadd, 1) := by decide +kernel
theorem d_Net_changeRoom_17 : decode Y_Net_changeRoom.2.1 17 = .ok (.putfield 37, 3) := by decide +kernel
theorem d_Net_changeRoom_20 : decode Y_Net_changeRoom.2.1 20 = .ok (.iload_n 2, 1) := by decide +kernel
theorem d_Net_changeRoom_21 : decode Y_Net_changeRoom.2.1 21 = .ok (.ireturn, 1) := by decide +kernel
theorem d_Net_changeOpen_0 : decode Y_Net_changeOpen.2.1 0 = .ok (.aload_n 0, 1) := by decide +kernel
theorem d_Net_changeOpen_1 : decode Y_Net_changeOpen.2.1 1 = .ok (.getfield 34, 3) := by decide +kernel
theorem d_Net_changeOpen_4 : decode Y_Net_changeOpen.2.1 4 = .ok (.istore_n 2, 1) := by decide +kernel
theorem d_Net_changeOpen_5 : decode Y_Net_changeOpen.2.1 5 = .ok (.aload_n 0, 1) := by decide +kernel
theorem d_Net_changeOpen_6 : decode Y_Net_changeOpen.2.1 6 = .ok (.iload_n 1, 1) := by decide +kernel
theorem d_Net_changeOpen_7 : decode Y_Net_changeOpen.2.1 7 = .ok (.putfield 34, 3) := by decide +kernel
theorem d_Net_changeOpen_10 : decode Y_Net_changeOpen.2.1 10 = .ok (.aload_n 0, 1) := by decide +kernel
theorem d_Net_changeOpen_11 : decode Y_Net_changeOpen.2.1 11 = .ok (.dup, 1) := by decide +kernel
theorem d_Net_changeOpen_12 : decode Y_Net_changeOpen.2.1 12 = .ok (.getfield 37, 3) := by decide +kernel
theorem d_Net_changeOpen_15 : decode Y_Net_changeOpen.2.1 15 = .ok (.iconst 1, 1) := by decide +kernel
theorem d_Net_changeOpen_16 : decode Y_Net_changeOpen.2.1 16 = .ok (.iadd, 1) := by decide +kernel
theorem d_Net_changeOpen_17 : decode Y_Net_changeOpen.2.1 17 = .ok (.putfield 37, 3) := by decide +kernel
theorem d_Net_changeOpen_20 : decode Y_Net_changeOpen.2.1 20 = .ok (.iload_n 2, 1) := by decide +kernel
theorem d_Net_changeOpen_21 : decode Y_Net_changeOpen.2.1 21 = .ok (.ireturn, 1) := by decide +kernel
theorem d_Sha_refresh_0 : decode Y_Sha_refresh.2.1 0 = .ok (.aload_n 0, 1) := by decide +kernel
theorem d_Sha_refresh_1 : decode Y_Sha_refresh.2.1 1 = .ok (.getfield 26, 3) := by decide +kernel
theorem d_Sha_refresh_4 : decode Y_Sha_refresh.2.1 4 = .ok (.aload_n 0, 1) := by decide +kernel
theorem d_Sha_refresh_5 : decode Y_Sha_refresh.2.1 5 = .ok (.getfield 29, 3) := by decide +kernel
theorem d_Sha_refresh_8 : decode Y_Sha_refresh.2.1 8 = .ok (.getfield 37, 3) := by decide +kernel
theorem d_Sha_refresh_11 : decode Y_Sha_refresh.2.1 11 = .ok (.if_icmp .ne 4, 3) := by decide +kernel
theorem d_Sha_refresh_14 : decode Y_Sha_refresh.2.1 14 = .ok (.return_, 1) := by decide +kernel
theorem d_Sha_refresh_15 : decode Y_Sha_refresh.2.1 15 = .ok (.aload_n 0, 1) := by decide +kernel
theorem d_Sha_refresh_16 : decode Y_Sha_refresh.2.1 16 = .ok (.aload_n 0, 1) := by decide +kernel
theorem d_Sha_refresh_17 : decode Y_Sha_refresh.2.1 17 = .ok (.getfield 29, 3) := by decide +kernel
theorem d_Sha_refresh_20 : decode Y_Sha_refresh.2.1 20 = .ok (.getfield 37, 3) := by decide +kernel
theorem d_Sha_refresh_23 : decode Y_Sha_refresh.2.1 23 = .ok (.putfield 26, 3) := by decide +kernel
theorem d_Sha_refresh_26 : decode Y_Sha_refresh.2.1 26 = .ok (.aload_n 0, 1) := by decide +kernel
theorem d_Sha_refresh_27 : decode Y_Sha_refresh.2.1 27 = .ok (.getfield 33, 3) := by decide +kernel
theorem d_Sha_refresh_30 : decode Y_Sha_refresh.2.1 30 = .ok (.invokevirtual 42, 3) := by decide +kernel
theorem d_Sha_refresh_33 : decode Y_Sha_refresh.2.1 33 = .ok (.aload_n 0, 1) := by decide +kernel
theorem d_Sha_refresh_34 : decode Y_Sha_refresh.2.1 34 = .ok (.getfield 29, 3) := by decide +kernel
theorem d_Sha_refresh_37 : decode Y_Sha_refresh.2.1 37 = .ok (.invokevirtual 47, 3) := by decide +kernel
theorem d_Sha_refresh_40 : decode Y_Sha_refresh.2.1 40 = .ok (.istore_n 1, 1) := by decide +kernel
theorem d_Sha_refresh_41 : decode Y_Sha_refresh.2.1 41 = .ok (.iconst 0, 1) := by decide +kernel
theorem d_Sha_refresh_42 : decode Y_Sha_refresh.2.1 42 = .ok (.istore_n 2, 1) := by decide +kernel
theorem d_Sha_refresh_43 : decode Y_Sha_refresh.2.1 43 = .ok (.iload_n 2, 1) := by decide +kernel
theorem d_Sha_refresh_44 : decode Y_Sha_refresh.2.1 44 = .ok (.iload_n 1, 1) := by decide +kernel
theorem d_Sha_refresh_45 : decode Y_Sha_refresh.2.1 45 = .ok (.if_icmp .gt 42, 3) := by decide +kernel
theorem d_Sha_refresh_48 : decode Y_Sha_refresh.2.1 48 = .ok (.aload_n 0, 1) := by decide +kernel
theorem d_Sha_refresh_49 : decode Y_Sha_refresh.2.1 49 = .ok (.getfield 29, 3) := by decide +kernel
theorem d_Sha_refresh_52 : decode Y_Sha_refresh.2.1 52 = .ok (.iload_n 2, 1) := by decide +kernel
theorem d_Sha_refresh_53 : decode Y_Sha_refresh.2.1 53 = .ok (.invokevirtual 51, 3) := by decide +kernel
theorem d_Sha_refresh_56 : decode Y_Sha_refresh.2.1 56 = .ok (.istore_n 3, 1) := by decide +kernel
theorem d_Sha_refresh_57 : decode Y_Sha_refresh.2.1 57 = .ok (.aload_n 0, 1) := by decide +kernel
theorem d_Sha_refresh_58 : decode Y_Sha_refresh.2.1 58 = .ok (.getfield 9, 3) := by decide +kernel
theorem d_Sha_refresh_61 : decode Y_Sha_refresh.2.1 61 = .ok (.iload_n 2, 1) := by decide +kernel
theorem d_Sha_refresh_62 : decode Y_Sha_refresh.2.1 62 = .ok (.iload_n 3, 1) := by decide +kernel
theorem d_Sha_refresh_63 : decode Y_Sha_refresh.2.1 63 = .ok (.iastore, 1) := by decide +kernel
theorem d_Sha_refresh_64 : decode Y_Sha_refresh.2.1 64 = .ok (.aload_n 0, 1) := by decide +kernel
theorem d_Sha_refresh_65 : decode Y_Sha_refresh.2.1 65 = .ok (.getfield 15, 3) := by decide +kernel
theorem d_Sha_refresh_68 : decode Y_Sha_refresh.2.1 68 = .ok (.iload_n 2, 1) := by decide +kernel
theorem d_Sha_refresh_69 : decode Y_Sha_refresh.2.1 69 = .ok (.iload_n 3, 1) := by decide +kernel
theorem d_Sha_refresh_70 : decode Y_Sha_refresh.2.1 70 = .ok (.ldc 18, 2) := by decide +kernel
theorem d_Sha_refresh_72 : decode Y_Sha_refresh.2.1 72 = .ok (.if_icmp .ne 7, 3) := by decide +kernel
theorem d_Sha_refresh_75 : decode Y_Sha_refresh.2.1 75 = .ok (.iconst 0, 1) := by decide +kernel
theorem d_Sha_refresh_76 : decode Y_Sha_refresh.2.1 76 = .ok (.goto 4, 3) := by decide +kernel
theorem d_Sha_refresh_79 : decode Y_Sha_refresh.2.1 79 = .ok (.iconst 1, 1) := by decide +kernel
theorem d_Sha_refresh_80 : decode Y_Sha_refresh.2.1 80 = .ok (.iastore, 1) := by decide +kernel
theorem d_Sha_refresh_81 : decode Y_Sha_refresh.2.1 81 = .ok (.iinc 2 1, 3) := by decide +kernel
theorem d_Sha_refresh_84 : decode Y_Sha_refresh.2.1 84 = .ok (.goto (-41), 3) := by decide +kernel
theorem d_Sha_refresh_87 : decode Y_Sha_refresh.2.1 87 = .ok (.iconst 1, 1) := by decide +kernel
theorem d_Sha_refresh_88 : decode Y_Sha_refresh.2.1 88 = .ok (.istore_n 2, 1) := by decide +kernel
theorem d_Sha_refresh_89 : decode Y_Sha_refresh.2.1 89 = .ok (.iload_n 2, 1) := by decide +kernel
theorem d_Sha_refresh_90 : decode Y_Sha_refresh.2.1 90 = .ok (.aload_n 0, 1) := by decide +kernel
theorem d_Sha_refresh_91 : decode Y_Sha_refresh.2.1 91 = .ok (.getfield 29, 3) := by decide +kernel
theorem d_Sha_refresh_94 : decode Y_Sha_refresh.2.1 94 = .ok (.getfield 55, 3) := by decide +kernel
theorem d_Sha_refresh_97 : decode Y_Sha_refresh.2.1 97 = .ok (.if_icmp .gt 67, 3) := by decide +kernel
theorem d_Sha_refresh_100 : decode Y_Sha_refresh.2.1 100 = .ok (.aload_n 0, 1) := by decide +kernel
theorem d_Sha_refresh_101 : decode Y_Sha_refresh.2.1 101 = .ok (.getfield 9, 3) := by decide +kernel
theorem d_Sha_refresh_104 : decode Y_Sha_refresh.2.1 104 = .ok (.iload_n 2, 1) := by decide +kernel
theorem d_Sha_refresh_105 : decode Y_Sha_refresh.2.1 105 = .ok (.sipush 256, 3) := by decide +kernel
theorem d_Sha_refresh_108 : decode Y_Sha_refresh.2.1 108 = .ok (.imul, 1) := by decide +kernel
theorem d_Sha_refresh_109 : decode Y_Sha_refresh.2.1 109 = .ok (.iconst 0, 1) := by decide +kernel
theorem d_Sha_refresh_110 : decode Y_Sha_refresh.2.1 110 = .ok (.iastore, 1) := by decide +kernel
theorem d_Sha_refresh_111 : decode Y_Sha_refresh.2.1 111 = .ok (.aload_n 0, 1) := by decide +kernel
theorem d_Sha_refresh_112 : decode Y_Sha_refresh.2.1 112 = .ok (.getfield 15, 3) := by decide +kernel
theorem d_Sha_refresh_115 : decode Y_Sha_refresh.2.1 115 = .ok (.iload_n 2, 1) := by decide +kernel
theorem d_Sha_refresh_116 : decode Y_Sha_refresh.2.1 116 = .ok (.sipush 256, 3) := by decide +kernel
theorem d_Sha_refresh_119 : decode Y_Sha_refresh.2.1 119 = .ok (.imul, 1) := by decide +kernel
theorem d_Sha_refresh_120 : decode Y_Sha_refresh.2.1 120 = .ok (.iconst 1, 1) := by decide +kernel
theorem d_Sha_refresh_121 : decode Y_Sha_refresh.2.1 121 = .ok (.iastore, 1) := by decide +kernel
theorem d_Sha_refresh_122 : decode Y_Sha_refresh.2.1 122 = .ok (.iconst 1, 1) := by decide +kernel
theorem d_Sha_refresh_123 : decode Y_Sha_refresh.2.1 123 = .ok (.istore_n 3, 1) := by decide +kernel
theorem d_Sha_refresh_124 : decode Y_Sha_refresh.2.1 124 = .ok (.iload_n 3, 1) := by decide +kernel
theorem d_Sha_refresh_125 : decode Y_Sha_refresh.2.1 125 = .ok (.iload_n 1, 1) := by decide +kernel
theorem d_Sha_refresh_126 : decode Y_Sha_refresh.2.1 126 = .ok (.if_icmp .gt 32, 3) := by decide +kernel
theorem d_Sha_refresh_129 : decode Y_Sha_refresh.2.1 129 = .ok (.iload_n 3, 1) := by decide +kernel
theorem d_Sha_refresh_130 : decode Y_Sha_refresh.2.1 130 = .ok (.invokestatic 58, 3) := by decide +kernel
theorem d_Sha_refresh_133 : decode Y_Sha_refresh.2.1 133 = .ok (.iload_n 2, 1) := by decide +kernel
theorem d_Sha_refresh_134 : decode Y_Sha_refresh.2.1 134 = .ok (.if_icmp .ge 12, 3) := by decide +kernel
theorem d_Sha_refresh_137 : decode Y_Sha_refresh.2.1 137 = .ok (.aload_n 0, 1) := by decide +kernel
theorem d_Sha_refresh_138 : decode Y_Sha_refresh.2.1 138 = .ok (.iload_n 2, 1) := by decide +kernel
theorem d_Sha_refresh_139 : decode Y_Sha_refresh.2.1 139 = .ok (.iload_n 3, 1) := by decide +kernel
theorem d_Sha_refresh_140 : decode Y_Sha_refresh.2.1 140 = .ok (.invokevirtual 63, 3) := by decide +kernel
theorem d_Sha_refresh_143 : decode Y_Sha_refresh.2.1 143 = .ok (.goto 9, 3) := by decide +kernel
theorem d_Sha_refresh_146 : decode Y_Sha_refresh.2.1 146 = .ok (.aload_n 0, 1) := by decide +kernel
theorem d_Sha_refresh_147 : decode Y_Sha_refresh.2.1 147 = .ok (.iload_n 2, 1) := by decide +kernel
theorem d_Sha_refresh_148 : decode Y_Sha_refresh.2.1 148 = .ok (.iload_n 3, 1) := by decide +kernel
theorem d_Sha_refresh_149 : decode Y_Sha_refresh.2.1 149 = .ok (.invokevirtual 67, 3) := by decide +kernel
theorem d_Sha_refresh_152 : decode Y_Sha_refresh.2.1 152 = .ok (.iinc 3 1, 3) := by decide +kernel
theorem d_Sha_refresh_155 : decode Y_Sha_refresh.2.1 155 = .ok (.goto (-31), 3) := by decide +kernel
theorem d_Sha_refresh_158 : decode Y_Sha_refresh.2.1 158 = .ok (.iinc 2 1, 3) := by decide +kernel
theorem d_Sha_refresh_161 : decode Y_Sha_refresh.2.1 161 = .ok (.goto (-72), 3) := by decide +kernel
theorem d_Sha_refresh_164 : decode Y_Sha_refresh.2.1 164 = .ok (.return_, 1) := by decide +kernel
theorem d_Pat_compute_0 : decode Y_Pat_compute.2.1 0 = .ok (.aload_n 0, 1) := by decide +kernel
theorem d_Pat_compute_1 : decode Y_Pat_compute.2.1 1 = .ok (.invokevirtual 34, 3) := by decide +kernel
theorem d_Pat_compute_4 : decode Y_Pat_compute.2.1 4 = .ok (.aload_n 0, 1) := by decide +kernel
theorem d_Pat_compute_5 : decode Y_Pat_compute.2.1 5 = .ok (.invokevirtual 37, 3) := by decide +kernel
theorem d_Pat_compute_8 : decode Y_Pat_compute.2.1 8 = .ok (.aload_n 0, 1) := by decide +kernel
theorem d_Pat_compute_9 : decode Y_Pat_compute.2.1 9 = .ok (.getfield 30, 3) := by decide +kernel
theorem d_Pat_compute_12 : decode Y_Pat_compute.2.1 12 = .ok (.invokevirtual 40, 3) := by decide +kernel
theorem d_Pat_compute_15 : decode Y_Pat_compute.2.1 15 = .ok (.istore_n 1, 1) := by decide +kernel
theorem d_Pat_compute_16 : decode Y_Pat_compute.2.1 16 = .ok (.iconst 0, 1) := by decide +kernel
theorem d_Pat_compute_17 : decode Y_Pat_compute.2.1 17 = .ok (.istore_n 2, 1) := by decide +kernel
theorem d_Pat_compute_18 : decode Y_Pat_compute.2.1 18 = .ok (.iload_n 2, 1) := by decide +kernel
theorem d_Pat_compute_19 : decode Y_Pat_compute.2.1 19 = .ok (.iload_n 1, 1) := by decide +kernel
theorem d_Pat_compute_20 : decode Y_Pat_compute.2.1 20 = .ok (.if_icmp .gt 61, 3) := by decide +kernel
theorem d_Pat_compute_23 : decode Y_Pat_compute.2.1 23 = .ok (.aload_n 0, 1) := by decide +kernel
theorem d_Pat_compute_24 : decode Y_Pat_compute.2.1 24 = .ok (.getfield 15, 3) := by decide +kernel
theorem d_Pat_compute_27 : decode Y_Pat_compute.2.1 27 = .ok (.iload_n 2, 1) := by decide +kernel
theorem d_Pat_compute_28 : decode Y_Pat_compute.2.1 28 = .ok (.aload_n 0, 1) := by decide +kernel
theorem d_Pat_compute_29 : decode Y_Pat_compute.2.1 29 = .ok (.iload_n 2, 1) := by decide +kernel
theorem d_Pat_compute_30 : decode Y_Pat_compute.2.1 30 = .ok (.invokevirtual 46, 3) := by decide +kernel
theorem d_Pat_compute_33 : decode Y_Pat_compute.2.1 33 = .ok (.iastore, 1) := by decide +kernel
theorem d_Pat_compute_34 : decode Y_Pat_compute.2.1 34 = .ok (.iconst 0, 1) := by decide +kernel
theorem d_Pat_compute_35 : decode Y_Pat_compute.2.1 35 = .ok (.istore_n 3, 1) := by decide +kernel
theorem d_Pat_compute_36 : decode Y_Pat_compute.2.1 36 = .ok (.iload_n 3, 1) := by decide +kernel
theorem d_Pat_compute_37 : decode Y_Pat_compute.2.1 37 = .ok (.aload_n 0, 1) := by decide +kernel
theorem d_Pat_compute_38 : decode Y_Pat_compute.2.1 38 = .ok (.getfield 30, 3) := by decide +kernel
theorem d_Pat_compute_41 : decode Y_Pat_compute.2.1 41 = .ok (.getfield 50, 3) := by decide +kernel
theorem d_Pat_compute_44 : decode Y_Pat_compute.2.1 44 = .ok (.if_icmp .ge 31, 3) := by decide +kernel
theorem d_Pat_compute_47 : decode Y_Pat_compute.2.1 47 = .ok (.aload_n 0, 1) := by decide +kernel
theorem d_Pat_compute_48 : decode Y_Pat_compute.2.1 48 = .ok (.getfield 18, 3) := by decide +kernel
theorem d_Pat_compute_51 : decode Y_Pat_compute.2.1 51 = .ok (.iload_n 2, 1) := by decide +kernel
theorem d_Pat_compute_52 : decode Y_Pat_compute.2.1 52 = .ok (.bipush 9, 2) := by decide +kernel
theorem d_Pat_compute_54 : decode Y_Pat_compute.2.1 54 = .ok (.imul, 1) := by decide +kernel
theorem d_Pat_compute_55 : decode Y_Pat_compute.2.1 55 = .ok (.iload_n 3, 1) := by decide +kernel
theorem d_Pat_compute_56 : decode Y_Pat_compute.2.1 56 = .ok (.iadd, 1) := by decide +kernel
theorem d_Pat_compute_57 : decode Y_Pat_compute.2.1 57 = .ok (.iaload, 1) := by decide +kernel
theorem d_Pat_compute_58 : decode Y_Pat_compute.2.1 58 = .ok (.ldc 54, 2) := by decide +kernel
theorem d_Pat_compute_60 : decode Y_Pat_compute.2.1 60 = .ok (.if_icmp .eq 9, 3) := by decide +kernel
theorem d_Pat_compute_63 : decode Y_Pat_compute.2.1 63 = .ok (.aload_n 0, 1) := by decide +kernel
theorem d_Pat_compute_64 : decode Y_Pat_compute.2.1 64 = .ok (.iload_n 2, 1) := by decide +kernel
theorem d_Pat_compute_65 : decode Y_Pat_compute.2.1 65 = .ok (.iload_n 3, 1) := by decide +kernel
theorem d_Pat_compute_66 : decode Y_Pat_compute.2.1 66 = .ok (.invokevirtual 55, 3) := by decide +kernel
theorem d_Pat_compute_69 : decode Y_Pat_compute.2.1 69 = .ok (.iinc 3 1, 3) := by decide +kernel
theorem d_Pat_compute_72 : decode Y_Pat_compute.2.1 72 = .ok (.goto (-36), 3) := by decide +kernel
theorem d_Pat_compute_75 : decode Y_Pat_compute.2.1 75 = .ok (.iinc 2 1, 3) := by decide +kernel
theorem d_Pat_compute_78 : decode Y_Pat_compute.2.1 78 = .ok (.goto (-60), 3) := by decide +kernel
theorem d_Pat_compute_81 : decode Y_Pat_compute.2.1 81 = .ok (.iconst 1, 1) := by decide +kernel
theorem d_Pat_compute_82 : decode Y_Pat_compute.2.1 82 = .ok (.istore_n 2, 1) := by decide +kernel
theorem d_Pat_compute_83 : decode Y_Pat_compute.2.1 83 = .ok (.iload_n 2, 1) := by decide +kernel
theorem d_Pat_compute_84 : decode Y_Pat_compute.2.1 84 = .ok (.iload_n 1, 1) := by decide +kernel
theorem d_Pat_compute_85 : decode Y_Pat_compute.2.1 85 = .ok (.if_icmp .gt 14, 3) := by decide +kernel
theorem d_Pat_compute_88 : decode Y_Pat_compute.2.1 88 = .ok (.aload_n 0, 1) := by decide +kernel
theorem d_Pat_compute_89 : decode Y_Pat_compute.2.1 89 = .ok (.iload_n 2, 1) := by decide +kernel
theorem d_Pat_compute_90 : decode Y_Pat_compute.2.1 90 = .ok (.invokevirtual 59, 3) := by decide +kernel
theorem d_Pat_compute_93 : decode Y_Pat_compute.2.1 93 = .ok (.iinc 2 1, 3) := by decide +kernel
theorem d_Pat_compute_96 : decode Y_Pat_compute.2.1 96 = .ok (.goto (-13), 3) := by decide +kernel
theorem d_Pat_compute_99 : decode Y_Pat_compute.2.1 99 = .ok (.return_, 1) := by decide +kernel
theorem d_Pat_addLoads_0 : decode Y_Pat_addLoads.2.1 0 = .ok (.iconst 1, 1) := by decide +kernel
theorem d_Pat_addLoads_1 : decode Y_Pat_addLoads.2.1 1 = .ok (.istore_n 1, 1) := by decide +kernel
theorem d_Pat_addLoads_2 : decode Y_Pat_addLoads.2.1 2 = .ok (.iload_n 1, 1) := by decide +kernel
theorem d_Pat_addLoads_3 : decode Y_Pat_addLoads.2.1 3 = .ok (.aload_n 0, 1) := by decide +kernel
theorem d_Pat_addLoads_4 : decode Y_Pat_addLoads.2.1 4 = .ok (.getfield 30, 3) := by decide +kernel
theorem d_Pat_addLoads_7 : decode Y_Pat_addLoads.2.1 7 = .ok (.getfield 50, 3) := by decide +kernel
theorem d_Pat_addLoads_10 : decode Y_Pat_addLoads.2.1 10 = .ok (.if_icmp .ge 52, 3) := by decide +kernel
theorem d_Pat_addLoads_13 : decode Y_Pat_addLoads.2.1 13 = .ok (.iconst 0, 1) := by decide +kernel
theorem d_Pat_addLoads_14 : decode Y_Pat_addLoads.2.1 14 = .ok (.istore_n 2, 1) := by decide +kernel
theorem d_Pat_addLoads_15 : decode Y_Pat_addLoads.2.1 15 = .ok (.iload_n 2, 1) := by decide +kernel
theorem d_Pat_addLoads_16 : decode Y_Pat_addLoads.2.1 16 = .ok (.iload_n 1, 1) := by decide +kernel
theorem d_Pat_addLoads_17 : decode Y_Pat_addLoads.2.1 17 = .ok (.invokestatic 69, 3) := by decide +kernel
theorem d_Pat_addLoads_20 : decode Y_Pat_addLoads.2.1 20 = .ok (.if_icmp .ge 36, 3) := by decide +kernel
theorem d_Pat_addLoads_23 : decode Y_Pat_addLoads.2.1 23 = .ok (.aload_n 0, 1) := by decide +kernel
theorem d_Pat_addLoads_24 : decode Y_Pat_addLoads.2.1 24 = .ok (.getfield 9, 3) := by decide +kernel
theorem d_Pat_addLoads_27 : decode Y_Pat_addLoads.2.1 27 = .ok (.iload_n 2, 1) := by decide +kernel
theorem d_Pat_addLoads_28 : decode Y_Pat_addLoads.2.1 28 = .ok (.iload_n 1, 1) := by decide +kernel
theorem d_Pat_addLoads_29 : decode Y_Pat_addLoads.2.1 29 = .ok (.invokestatic 69, 3) := by decide +kernel
theorem d_Pat_addLoads_32 : decode Y_Pat_addLoads.2.1 32 = .ok (.ior, 1) := by decide +kernel
theorem d_Pat_addLoads_33 : decode Y_Pat_addLoads.2.1 33 = .ok (.aload_n 0, 1) := by decide +kernel
theorem d_Pat_addLoads_34 : decode Y_Pat_addLoads.2.1 34 = .ok (.getfield 9, 3) := by decide +kernel
theorem d_Pat_addLoads_37 : decode Y_Pat_addLoads.2.1 37 = .ok (.iload_n 2, 1) := by decide +kernel
theorem d_Pat_addLoads_38 : decode Y_Pat_addLoads.2.1 38 = .ok (.iaload, 1) := by decide +kernel
theorem d_Pat_addLoads_39 : decode Y_Pat_addLoads.2.1 39 = .ok (.aload_n 0, 1) := by decide +kernel
theorem d_Pat_addLoads_40 : decode Y_Pat_addLoads.2.1 40 = .ok (.getfield 30, 3) := by decide +kernel
theorem d_Pat_addLoads_43 : decode Y_Pat_addLoads.2.1 43 = .ok (.getfield 63, 3) := by decide +kernel
theorem d_Pat_addLoads_46 : decode Y_Pat_addLoads.2.1 46 = .ok (.iload_n 1, 1) := by decide +kernel
theorem d_Pat_addLoads_47 : decode Y_Pat_addLoads.2.1 47 = .ok (.iaload, 1) := by decide +kernel
theorem d_Pat_addLoads_48 : decode Y_Pat_addLoads.2.1 48 = .ok (.iadd, 1) := by decide +kernel
theorem d_Pat_addLoads_49 : decode Y_Pat_addLoads.2.1 49 = .ok (.iastore, 1) := by decide +kernel
theorem d_Pat_addLoads_50 : decode Y_Pat_addLoads.2.1 50 = .ok (.iinc 2 1, 3) := by decide +kernel
theorem d_Pat_addLoads_53 : decode Y_Pat_addLoads.2.1 53 = .ok (.goto (-38), 3) := by decide +kernel
theorem d_Pat_addLoads_56 : decode Y_Pat_addLoads.2.1 56 = .ok (.iinc 1 1, 3) := by decide +kernel
theorem d_Pat_addLoads_59 : decode Y_Pat_addLoads.2.1 59 = .ok (.goto (-57), 3) := by decide +kernel
theorem d_Pat_addLoads_62 : decode Y_Pat_addLoads.2.1 62 = .ok (.return_, 1) := by decide +kernel
theorem d_Pat_clearPaths_0 : decode Y_Pat_clearPaths.2.1 0 = .ok (.aload_n 0, 1) := by decide +kernel
theorem d_Pat_clearPaths_1 : decode Y_Pat_clearPaths.2.1 1 = .ok (.getfield 30, 3) := by decide +kernel
theorem d_Pat_clearPaths_4 : decode Y_Pat_clearPaths.2.1 4 = .ok (.invokevirtual 40, 3) := by decide +kernel
theorem d_Pat_clearPaths_7 : decode Y_Pat_clearPaths.2.1 7 = .ok (.iconst 1, 1) := by decide +kernel
theorem d_Pat_clearPaths_8 : decode Y_Pat_clearPaths.2.1 8 = .ok (.iadd, 1) := by decide +kernel
theorem d_Pat_clearPaths_9 : decode Y_Pat_clearPaths.2.1 9 = .ok (.bipush 9, 2) := by decide +kernel
theorem d_Pat_clearPaths_11 : decode Y_Pat_clearPaths.2.1 11 = .ok (.imul, 1) := by decide +kernel
theorem d_Pat_clearPaths_12 : decode Y_Pat_clearPaths.2.1 12 = .ok (.istore_n 1, 1) := by decide +kernel
theorem d_Pat_clearPaths_13 : decode Y_Pat_clearPaths.2.1 13 = .ok (.iconst 0, 1) := by decide +kernel
theorem d_Pat_clearPaths_14 : decode Y_Pat_clearPaths.2.1 14 = .ok (.istore_n 2, 1) := by decide +kernel
theorem d_Pat_clearPaths_15 : decode Y_Pat_clearPaths.2.1 15 = .ok (.iload_n 2, 1) := by decide +kernel
theorem d_Pat_clearPaths_16 : decode Y_Pat_clearPaths.2.1 16 = .ok (.iload_n 1, 1) := by decide +kernel
theorem d_Pat_clearPaths_17 : decode Y_Pat_clearPaths.2.1 17 = .ok (.if_icmp .ge 24, 3) := by decide +kernel
theorem d_Pat_clearPaths_20 : decode Y_Pat_clearPaths.2.1 20 = .ok (.aload_n 0, 1) := by decide +kernel
theorem d_Pat_clearPaths_21 : decode Y_Pat_clearPaths.2.1 21 = .ok (.getfield 18, 3) := by decide +kernel
theorem d_Pat_clearPaths_24 : decode Y_Pat_clearPaths.2.1 24 = .ok (.iload_n 2, 1) := by decide +kernel
theorem d_Pat_clearPaths_25 : decode Y_Pat_clearPaths.2.1 25 = .ok (.ldc 54, 2) := by decide +kernel
theorem d_Pat_clearPaths_27 : decode Y_Pat_clearPaths.2.1 27 = .ok (.iastore, 1) := by decide +kernel
theorem d_Pat_clearPaths_28 : decode Y_Pat_clearPaths.2.1 28 = .ok (.aload_n 0, 1) := by decide +kernel
theorem d_Pat_clearPaths_29 : decode Y_Pat_clearPaths.2.1 29 = .ok (.getfield 21, 3) := by decide +kernel
theorem d_Pat_clearPaths_32 : decode Y_Pat_clearPaths.2.1 32 = .ok (.iload_n 2, 1) := by decide +kernel
theorem d_Pat_clearPaths_33 : decode Y_Pat_clearPaths.2.1 33 = .ok (.iconst 0, 1) := by decide +kernel
theorem d_Pat_clearPaths_34 : decode Y_Pat_clearPaths.2.1 34 = .ok (.iastore, 1) := by decide +kernel
theorem d_Pat_clearPaths_35 : decode Y_Pat_clearPaths.2.1 35 = .ok (.iinc 2 1, 3) := by decide +kernel
theorem d_Pat_clearPaths_38 : decode Y_Pat_clearPaths.2.1 38 = .ok (.goto (-23), 3) := by decide +kernel
theorem d_Pat_clearPaths_41 : decode Y_Pat_clearPaths.2.1 41 = .ok (.aload_n 0, 1) := by decide +kernel
theorem d_Pat_clearPaths_42 : decode Y_Pat_clearPaths.2.1 42 = .ok (.getfield 18, 3) := by decide +kernel
theorem d_Pat_clearPaths_45 : decode Y_Pat_clearPaths.2.1 45 = .ok (.iconst 0, 1) := by decide +kernel
theorem d_Pat_clearPaths_46 : decode Y_Pat_clearPaths.2.1 46 = .ok (.iconst 0, 1) := by decide +kernel
theorem d_Pat_clearPaths_47 : decode Y_Pat_clearPaths.2.1 47 = .ok (.iastore, 1) := by decide +kernel
theorem d_Pat_clearPaths_48 : decode Y_Pat_clearPaths.2.1 48 = .ok (.aload_n 0, 1) := by decide +kernel
theorem d_Pat_clearPaths_49 : decode Y_Pat_clearPaths.2.1 49 = .ok (.getfield 21, 3) := by decide +kernel
theorem d_Pat_clearPaths_52 : decode Y_Pat_clearPaths.2.1 52 = .ok (.iconst 0, 1) := by decide +kernel
theorem d_Pat_clearPaths_53 : decode Y_Pat_clearPaths.2.1 53 = .ok (.iconst 1, 1) := by decide +kernel
theorem d_Pat_clearPaths_54 : decode Y_Pat_clearPaths.2.1 54 = .ok (.iastore, 1) := by decide +kernel
theorem d_Pat_clearPaths_55 : decode Y_Pat_clearPaths.2.1 55 = .ok (.return_, 1) := by decide +kernel
theorem d_Net_allPlaces_0 : decode Y_Net_allPlaces.2.1 0 = .ok (.iconst 1, 1) := by decide +kernel
theorem d_Net_allPlaces_1 : decode Y_Net_allPlaces.2.1 1 = .ok (.aload_n 0, 1) := by decide +kernel
theorem d_Net_allPlaces_2 : decode Y_Net_allPlaces.2.1 2 = .ok (.getfield 24, 3) := by decide +kernel
theorem d_Net_allPlaces_5 : decode Y_Net_allPlaces.2.1 5 = .ok (.iconst 1, 1) := by decide +kernel
theorem d_Net_allPlaces_6 : decode Y_Net_allPlaces.2.1 6 = .ok (.isub, 1) := by decide +kernel
theorem d_Net_allPlaces_7 : decode Y_Net_allPlaces.2.1 7 = .ok (.ishl, 1) := by decide +kernel
theorem d_Net_allPlaces_8 : decode Y_Net_allPlaces.2.1 8 = .ok (.iconst 1, 1) := by decide +kernel
theorem d_Net_allPlaces_9 : decode Y_Net_allPlaces.2.1 9 = .ok (.isub, 1) := by decide +kernel
theorem d_Net_allPlaces_10 : decode Y_Net_allPlaces.2.1 10 = .ok (.ireturn, 1) := by decide +kernel
theorem d_Pat_followersOf_0 : decode Y_Pat_followersOf.2.1 0 = .ok (.iconst 0, 1) := by decide +kernel
theorem d_Pat_followersOf_1 : decode Y_Pat_followersOf.2.1 1 = .ok (.istore_n 2, 1) := by decide +kernel
theorem d_Pat_followersOf_2 : decode Y_Pat_followersOf.2.1 2 = .ok (.iconst 1, 1) := by decide +kernel
theorem d_Pat_followersOf_3 : decode Y_Pat_followersOf.2.1 3 = .ok (.istore_n 3, 1) := by decide +kernel
theorem d_Pat_followersOf_4 : decode Y_Pat_followersOf.2.1 4 = .ok (.iload_n 3, 1) := by decide +kernel
theorem d_Pat_followersOf_5 : decode Y_Pat_followersOf.2.1 5 = .ok (.aload_n 0, 1) := by decide +kernel
theorem d_Pat_followersOf_6 : decode Y_Pat_followersOf.2.1 6 = .ok (.getfield 30, 3) := by decide +kernel
theorem d_Pat_followersOf_9 : decode Y_Pat_followersOf.2.1 9 = .ok (.getfield 50, 3) := by decide +kernel
theorem d_Pat_followersOf_12 : decode Y_Pat_followersOf.2.1 12 = .ok (.if_icmp .ge 79, 3) := by decide +kernel
theorem d_Pat_followersOf_15 : decode Y_Pat_followersOf.2.1 15 = .ok (.aload_n 0, 1) := by decide +kernel
theorem d_Pat_followersOf_16 : decode Y_Pat_followersOf.2.1 16 = .ok (.getfield 9, 3) := by decide +kernel
theorem d_Pat_followersOf_19 : decode Y_Pat_followersOf.2.1 19 = .ok (.iload_n 1, 1) := by decide +kernel
theorem d_Pat_followersOf_20 : decode Y_Pat_followersOf.2.1 20 = .ok (.iaload, 1) := by decide +kernel
theorem d_Pat_followersOf_21 : decode Y_Pat_followersOf.2.1 21 = .ok (.aload_n 0, 1) := by decide +kernel
theorem d_Pat_followersOf_22 : decode Y_Pat_followersOf.2.1 22 = .ok (.getfield 30, 3) := by decide +kernel
theorem d_Pat_followersOf_25 : decode Y_Pat_followersOf.2.1 25 = .ok (.getfield 63, 3) := by decide +kernel
theorem d_Pat_followersOf_28 : decode Y_Pat_followersOf.2.1 28 = .ok (.iload_n 3, 1) := by decide +kernel
theorem d_Pat_followersOf_29 : decode Y_Pat_followersOf.2.1 29 = .ok (.iaload, 1) := by decide +kernel
theorem d_Pat_followersOf_30 : decode Y_Pat_followersOf.2.1 30 = .ok (.iadd, 1) := by decide +kernel
theorem d_Pat_followersOf_31 : decode Y_Pat_followersOf.2.1 31 = .ok (.aload_n 0, 1) := by decide +kernel
theorem d_Pat_followersOf_32 : decode Y_Pat_followersOf.2.1 32 = .ok (.getfield 30, 3) := by decide +kernel
theorem d_Pat_followersOf_35 : decode Y_Pat_followersOf.2.1 35 = .ok (.getfield 66, 3) := by decide +kernel
theorem d_Pat_followersOf_38 : decode Y_Pat_followersOf.2.1 38 = .ok (.if_icmp .gt 7, 3) := by decide +kernel
theorem d_Pat_followersOf_41 : decode Y_Pat_followersOf.2.1 41 = .ok (.iconst 1, 1) := by decide +kernel
theorem d_Pat_followersOf_42 : decode Y_Pat_followersOf.2.1 42 = .ok (.goto 4, 3) := by decide +kernel
theorem d_Pat_followersOf_45 : decode Y_Pat_followersOf.2.1 45 = .ok (.iconst 0, 1) := by decide +kernel
theorem d_Pat_followersOf_46 : decode Y_Pat_followersOf.2.1 46 = .ok (.istore 4, 2) := by decide +kernel
theorem d_Pat_followersOf_48 : decode Y_Pat_followersOf.2.1 48 = .ok (.iload 4, 2) := by decide +kernel
theorem d_Pat_followersOf_50 : decode Y_Pat_followersOf.2.1 50 = .ok (.ifCond .eq 35, 3) := by decide +kernel
theorem d_Pat_followersOf_53 : decode Y_Pat_followersOf.2.1 53 = .ok (.iload_n 1, 1) := by decide +kernel
theorem d_Pat_followersOf_54 : decode Y_Pat_followersOf.2.1 54 = .ok (.iload_n 3, 1) := by decide +kernel
theorem d_Pat_followersOf_55 : decode Y_Pat_followersOf.2.1 55 = .ok (.invokestatic 69, 3) := by decide +kernel
theorem d_Pat_followersOf_58 : decode Y_Pat_followersOf.2.1 58 = .ok (.iand, 1) := by decide +kernel
theorem d_Pat_followersOf_59 : decode Y_Pat_followersOf.2.1 59 = .ok (.ifCond .ne 26, 3) := by decide +kernel
theorem d_Pat_followersOf_62 : decode Y_Pat_followersOf.2.1 62 = .ok (.aload_n 0, 1) := by decide +kernel
theorem d_Pat_followersOf_63 : decode Y_Pat_followersOf.2.1 63 = .ok (.getfield 30, 3) := by decide +kernel
theorem d_Pat_followersOf_66 : decode Y_Pat_followersOf.2.1 66 = .ok (.getfield 72, 3) := by decide +kernel
theorem d_Pat_followersOf_69 : decode Y_Pat_followersOf.2.1 69 = .ok (.iload_n 3, 1) := by decide +kernel
theorem d_Pat_followersOf_70 : decode Y_Pat_followersOf.2.1 70 = .ok (.iaload, 1) := by decide +kernel
theorem d_Pat_followersOf_71 : decode Y_Pat_followersOf.2.1 71 = .ok (.iload_n 1, 1) := by decide +kernel
theorem d_Pat_followersOf_72 : decode Y_Pat_followersOf.2.1 72 = .ok (.iconst (-1), 1) := by decide +kernel
theorem d_Pat_followersOf_73 : decode Y_Pat_followersOf.2.1 73 = .ok (.ixor, 1) := by decide +kernel
theorem d_Pat_followersOf_74 : decode Y_Pat_followersOf.2.1 74 = .ok (.iand, 1) := by decide +kernel
theorem d_Pat_followersOf_75 : decode Y_Pat_followersOf.2.1 75 = .ok (.ifCond .ne 10, 3) := by decide +kernel
theorem d_Pat_followersOf_78 : decode Y_Pat_followersOf.2.1 78 = .ok (.iload_n 2, 1) := by decide +kernel
theorem d_Pat_followersOf_79 : decode Y_Pat_followersOf.2.1 79 = .ok (.iload_n 3, 1) := by decide +kernel
theorem d_Pat_followersOf_80 : decode Y_Pat_followersOf.2.1 80 = .ok (.invokestatic 69, 3) := by decide +kernel
theorem d_Pat_followersOf_83 : decode Y_Pat_followersOf.2.1 83 = .ok (.ior, 1) := by decide +kernel
theorem d_Pat_followersOf_84 : decode Y_Pat_followersOf.2.1 84 = .ok (.istore_n 2, 1) := by decide +kernel
theorem d_Pat_followersOf_85 : decode Y_Pat_followersOf.2.1 85 = .ok (.iinc 3 1, 3) := by decide +kernel
theorem d_Pat_followersOf_88 : decode Y_Pat_followersOf.2.1 88 = .ok (.goto (-84), 3) := by decide +kernel
theorem d_Pat_followersOf_91 : decode Y_Pat_followersOf.2.1 91 = .ok (.iload_n 2, 1) := by decide +kernel
theorem d_Pat_followersOf_92 : decode Y_Pat_followersOf.2.1 92 = .ok (.ireturn, 1) := by decide +kernel
theorem d_Pat_extend_0 : decode Y_Pat_extend.2.1 0 = .ok (.iload_n 1, 1) := by decide +kernel
theorem d_Pat_extend_1 : decode Y_Pat_extend.2.1 1 = .ok (.bipush 9, 2) := by decide +kernel
theorem d_Pat_extend_3 : decode Y_Pat_extend.2.1 3 = .ok (.imul, 1) := by decide +kernel
theorem d_Pat_extend_4 : decode Y_Pat_extend.2.1 4 = .ok (.iload_n 2, 1) := by decide +kernel
theorem d_Pat_extend_5 : decode Y_Pat_extend.2.1 5 = .ok (.iadd, 1) := by decide +kernel
theorem d_Pat_extend_6 : decode Y_Pat_extend.2.1 6 = .ok (.istore_n 3, 1) := by decide +kernel
theorem d_Pat_extend_7 : decode Y_Pat_extend.2.1 7 = .ok (.iconst 1, 1) := by decide +kernel
theorem d_Pat_extend_8 : decode Y_Pat_extend.2.1 8 = .ok (.istore 4, 2) := by decide +kernel
theorem d_Pat_extend_10 : decode Y_Pat_extend.2.1 10 = .ok (.iload 4, 2) := by decide +kernel
theorem d_Pat_extend_12 : decode Y_Pat_extend.2.1 12 = .ok (.aload_n 0, 1) := by decide +kernel
theorem d_Pat_extend_13 : decode Y_Pat_extend.2.1 13 = .ok (.getfield 30, 3) := by decide +kernel
theorem d_Pat_extend_16 : decode Y_Pat_extend.2.1 16 = .ok (.getfield 50, 3) := by decide +kernel
theorem d_Pat_extend_19 : decode Y_Pat_extend.2.1 19 = .ok (.if_icmp .ge 142, 3) := by decide +kernel
theorem d_Pat_extend_22 : decode Y_Pat_extend.2.1 22 = .ok (.aload_n 0, 1) := by decide +kernel
theorem d_Pat_extend_23 : decode Y_Pat_extend.2.1 23 = .ok (.getfield 30, 3) := by decide +kernel
theorem d_Pat_extend_26 : decode Y_Pat_extend.2.1 26 = .ok (.getfield 75, 3) := by decide +kernel
theorem d_Pat_extend_29 : decode Y_Pat_extend.2.1 29 = .ok (.iload_n 2, 1) := by decide +kernel
theorem d_Pat_extend_30 : decode Y_Pat_extend.2.1 30 = .ok (.bipush 9, 2) := by decide +kernel
theorem d_Pat_extend_32 : decode Y_Pat_extend.2.1 32 = .ok (.imul, 1) := by decide +kernel
theorem d_Pat_extend_33 : decode Y_Pat_extend.2.1 33 = .ok (.iload 4, 2) := by decide +kernel
theorem d_Pat_extend_35 : decode Y_Pat_extend.2.1 35 = .ok (.iadd, 1) := by decide +kernel
theorem d_Pat_extend_36 : decode Y_Pat_extend.2.1 36 = .ok (.iaload, 1) := by decide +kernel
theorem d_Pat_extend_37 : decode Y_Pat_extend.2.1 37 = .ok (.istore 5, 2) := by decide +kernel
theorem d_Pat_extend_39 : decode Y_Pat_extend.2.1 39 = .ok (.iload 5, 2) := by decide +kernel
theorem d_Pat_extend_41 : decode Y_Pat_extend.2.1 41 = .ok (.ldc 54, 2) := by decide +kernel
theorem d_Pat_extend_43 : decode Y_Pat_extend.2.1 43 = .ok (.if_icmp .eq 112, 3) := by decide +kernel
theorem d_Pat_extend_46 : decode Y_Pat_extend.2.1 46 = .ok (.aload_n 0, 1) := by decide +kernel
theorem d_Pat_extend_47 : decode Y_Pat_extend.2.1 47 = .ok (.getfield 15, 3) := by decide +kernel
theorem d_Pat_extend_50 : decode Y_Pat_extend.2.1 50 = .ok (.iload_n 1, 1) := by decide +kernel
theorem d_Pat_extend_51 : decode Y_Pat_extend.2.1 51 = .ok (.iaload, 1) := by decide +kernel
theorem d_Pat_extend_52 : decode Y_Pat_extend.2.1 52 = .ok (.iload 4, 2) := by decide +kernel
theorem d_Pat_extend_54 : decode Y_Pat_extend.2.1 54 = .ok (.invokestatic 69, 3) := by decide +kernel
theorem d_Pat_extend_57 : decode Y_Pat_extend.2.1 57 = .ok (.iand, 1) := by decide +kernel
theorem d_Pat_extend_58 : decode Y_Pat_extend.2.1 58 = .ok (.ifCond .ne 6, 3) := by decide +kernel
theorem d_Pat_extend_61 : decode Y_Pat_extend.2.1 61 = .ok (.goto 94, 3) := by decide +kernel
theorem d_Pat_extend_64 : decode Y_Pat_extend.2.1 64 = .ok (.iload_n 1, 1) := by decide +kernel
theorem d_Pat_extend_65 : decode Y_Pat_extend.2.1 65 = .ok (.iload 4, 2) := by decide +kernel
theorem d_Pat_extend_67 : decode Y_Pat_extend.2.1 67 = .ok (.invokestatic 69, 3) := by decide +kernel
theorem d_Pat_extend_70 : decode Y_Pat_extend.2.1 70 = .ok (.ior, 1) := by decide +kernel
theorem d_Pat_extend_71 : decode Y_Pat_extend.2.1 71 = .ok (.bipush 9, 2) := by decide +kernel
theorem d_Pat_extend_73 : decode Y_Pat_extend.2.1 73 = .ok (.imul, 1) := by decide +kernel
theorem d_Pat_extend_74 : decode Y_Pat_extend.2.1 74 = .ok (.iload 4, 2) := by decide +kernel
theorem d_Pat_extend_76 : decode Y_Pat_extend.2.1 76 = .ok (.iadd, 1) := by decide +kernel
theorem d_Pat_extend_77 : decode Y_Pat_extend.2.1 77 = .ok (.istore 6, 2) := by decide +kernel
theorem d_Pat_extend_79 : decode Y_Pat_extend.2.1 79 = .ok (.aload_n 0, 1) := by decide +kernel
theorem d_Pat_extend_80 : decode Y_Pat_extend.2.1 80 = .ok (.getfield 18, 3) := by decide +kernel
theorem d_Pat_extend_83 : decode Y_Pat_extend.2.1 83 = .ok (.iload_n 3, 1) := by decide +kernel
theorem d_Pat_extend_84 : decode Y_Pat_extend.2.1 84 = .ok (.iaload, 1) := by decide +kernel
theorem d_Pat_extend_85 : decode Y_Pat_extend.2.1 85 = .ok (.iload 5, 2) := by decide +kernel
theorem d_Pat_extend_87 : decode Y_Pat_extend.2.1 87 = .ok (.iadd, 1) := by decide +kernel
theorem d_Pat_extend_88 : decode Y_Pat_extend.2.1 88 = .ok (.istore 7, 2) := by decide +kernel
theorem d_Pat_extend_90 : decode Y_Pat_extend.2.1 90 = .ok (.iload 7, 2) := by decide +kernel
theorem d_Pat_extend_92 : decode Y_Pat_extend.2.1 92 = .ok (.aload_n 0, 1) := by decide +kernel
theorem d_Pat_extend_93 : decode Y_Pat_extend.2.1 93 = .ok (.getfield 18, 3) := by decide +kernel
theorem d_Pat_extend_96 : decode Y_Pat_extend.2.1 96 = .ok (.iload 6, 2) := by decide +kernel
theorem d_Pat_extend_98 : decode Y_Pat_extend.2.1 98 = .ok (.iaload, 1) := by decide +kernel
theorem d_Pat_extend_99 : decode Y_Pat_extend.2.1 99 = .ok (.if_icmp .ge 28, 3) := by decide +kernel
theorem d_Pat_extend_102 : decode Y_Pat_extend.2.1 102 = .ok (.aload_n 0, 1) := by decide +kernel
theorem d_Pat_extend_103 : decode Y_Pat_extend.2.1 103 = .ok (.getfield 18, 3) := by decide +kernel
theorem d_Pat_extend_106 : decode Y_Pat_extend.2.1 106 = .ok (.iload 6, 2) := by decide +kernel
theorem d_Pat_extend_108 : decode Y_Pat_extend.2.1 108 = .ok (.iload 7, 2) := by decide +kernel
theorem d_Pat_extend_110 : decode Y_Pat_extend.2.1 110 = .ok (.iastore, 1) := by decide +kernel
theorem d_Pat_extend_111 : decode Y_Pat_extend.2.1 111 = .ok (.aload_n 0, 1) := by decide +kernel
theorem d_Pat_extend_112 : decode Y_Pat_extend.2.1 112 = .ok (.getfield 21, 3) := by decide +kernel
theorem d_Pat_extend_115 : decode Y_Pat_extend.2.1 115 = .ok (.iload 6, 2) := by decide +kernel
theorem d_Pat_extend_117 : decode Y_Pat_extend.2.1 117 = .ok (.aload_n 0, 1) := by decide +kernel
theorem d_Pat_extend_118 : decode Y_Pat_extend.2.1 118 = .ok (.getfield 21, 3) := by decide +kernel
theorem d_Pat_extend_121 : decode Y_Pat_extend.2.1 121 = .ok (.iload_n 3, 1) := by decide +kernel
theorem d_Pat_extend_122 : decode Y_Pat_extend.2.1 122 = .ok (.iaload, 1) := by decide +kernel
theorem d_Pat_extend_123 : decode Y_Pat_extend.2.1 123 = .ok (.iastore, 1) := by decide +kernel
theorem d_Pat_extend_124 : decode Y_Pat_extend.2.1 124 = .ok (.goto 31, 3) := by decide +kernel
theorem d_Pat_extend_127 : decode Y_Pat_extend.2.1 127 = .ok (.iload 7, 2) := by decide +kernel
theorem d_Pat_extend_129 : decode Y_Pat_extend.2.1 129 = .ok (.aload_n 0, 1) := by decide +kernel
theorem d_Pat_extend_130 : decode Y_Pat_extend.2.1 130 = .ok (.getfield 18, 3) := by decide +kernel
theorem d_Pat_extend_133 : decode Y_Pat_extend.2.1 133 = .ok (.iload 6, 2) := by decide +kernel
theorem d_Pat_extend_135 : decode Y_Pat_extend.2.1 135 = .ok (.iaload, 1) := by decide +kernel
theorem d_Pat_extend_136 : decode Y_Pat_extend.2.1 136 = .ok (.if_icmp .ne 19, 3) := by decide +kernel
theorem d_Pat_extend_139 : decode Y_Pat_extend.2.1 139 = .ok (.aload_n 0, 1) := by decide +kernel
theorem d_Pat_extend_140 : decode Y_Pat_extend.2.1 140 = .ok (.getfield 21, 3) := by decide +kernel
theorem d_Pat_extend_143 : decode Y_Pat_extend.2.1 143 = .ok (.iload 6, 2) := by decide +kernel
theorem d_Pat_extend_145 : decode Y_Pat_extend.2.1 145 = .ok (.dup2, 1) := by decide +kernel
theorem d_Pat_extend_146 : decode Y_Pat_extend.2.1 146 = .ok (.iaload, 1) := by decide +kernel
theorem d_Pat_extend_147 : decode Y_Pat_extend.2.1 147 = .ok (.aload_n 0, 1) := by decide +kernel
theorem d_Pat_extend_148 : decode Y_Pat_extend.2.1 148 = .ok (.getfield 21, 3) := by decide +kernel
theorem d_Pat_extend_151 : decode Y_Pat_extend.2.1 151 = .ok (.iload_n 3, 1) := by decide +kernel
theorem d_Pat_extend_152 : decode Y_Pat_extend.2.1 152 = .ok (.iaload, 1) := by decide +kernel
theorem d_Pat_extend_153 : decode Y_Pat_extend.2.1 153 = .ok (.iadd, 1) := by decide +kernel
theorem d_Pat_extend_154 : decode Y_Pat_extend.2.1 154 = .ok (.iastore, 1) := by decide +kernel
theorem d_Pat_extend_155 : decode Y_Pat_extend.2.1 155 = .ok (.iinc 4 1, 3) := by decide +kernel
theorem d_Pat_extend_158 : decode Y_Pat_extend.2.1 158 = .ok (.goto (-148), 3) := by decide +kernel
theorem d_Pat_extend_161 : decode Y_Pat_extend.2.1 161 = .ok (.return_, 1) := by decide +kernel
theorem d_Pat_closeRound_0 : decode Y_Pat_closeRound.2.1 0 = .ok (.ldc 54, 2) := by decide +kernel
theorem d_Pat_closeRound_2 : decode Y_Pat_closeRound.2.1 2 = .ok (.istore_n 2, 1) := by decide +kernel
theorem d_Pat_closeRound_3 : decode Y_Pat_closeRound.2.1 3 = .ok (.iconst 0, 1) := by decide +kernel
theorem d_Pat_closeRound_4 : decode Y_Pat_closeRound.2.1 4 = .ok (.istore_n 3, 1) := by decide +kernel
theorem d_Pat_closeRound_5 : decode Y_Pat_closeRound.2.1 5 = .ok (.iconst 1, 1) := by decide +kernel
theorem d_Pat_closeRound_6 : decode Y_Pat_closeRound.2.1 6 = .ok (.istore 4, 2) := by decide +kernel
theorem d_Pat_closeRound_8 : decode Y_Pat_closeRound.2.1 8 = .ok (.iload 4, 2) := by decide +kernel
theorem d_Pat_closeRound_10 : decode Y_Pat_closeRound.2.1 10 = .ok (.aload_n 0, 1) := by decide +kernel
theorem d_Pat_closeRound_11 : decode Y_Pat_closeRound.2.1 11 = .ok (.getfield 30, 3) := by decide +kernel
theorem d_Pat_closeRound_14 : decode Y_Pat_closeRound.2.1 14 = .ok (.getfield 50, 3) := by decide +kernel
theorem d_Pat_closeRound_17 : decode Y_Pat_closeRound.2.1 17 = .ok (.if_icmp .ge 88, 3) := by decide +kernel
theorem d_Pat_closeRound_20 : decode Y_Pat_closeRound.2.1 20 = .ok (.aload_n 0, 1) := by decide +kernel
theorem d_Pat_closeRound_21 : decode Y_Pat_closeRound.2.1 21 = .ok (.getfield 18, 3) := by decide +kernel
theorem d_Pat_closeRound_24 : decode Y_Pat_closeRound.2.1 24 = .ok (.iload_n 1, 1) := by decide +kernel
theorem d_Pat_closeRound_25 : decode Y_Pat_closeRound.2.1 25 = .ok (.bipush 9, 2) := by decide +kernel
theorem d_Pat_closeRound_27 : decode Y_Pat_closeRound.2.1 27 = .ok (.imul, 1) := by decide +kernel
theorem d_Pat_closeRound_28 : decode Y_Pat_closeRound.2.1 28 = .ok (.iload 4, 2) := by decide +kernel
theorem d_Pat_closeRound_30 : decode Y_Pat_closeRound.2.1 30 = .ok (.iadd, 1) := by decide +kernel
theorem d_Pat_closeRound_31 : decode Y_Pat_closeRound.2.1 31 = .ok (.iaload, 1) := by decide +kernel
theorem d_Pat_closeRound_32 : decode Y_Pat_closeRound.2.1 32 = .ok (.aload_n 0, 1) := by decide +kernel
theorem d_Pat_closeRound_33 : decode Y_Pat_closeRound.2.1 33 = .ok (.getfield 30, 3) := by decide +kernel
theorem d_Pat_closeRound_36 : decode Y_Pat_closeRound.2.1 36 = .ok (.iload 4, 2) := by decide +kernel
theorem d_Pat_closeRound_38 : decode Y_Pat_closeRound.2.1 38 = .ok (.invokevirtual 78, 3) := by decide +kernel
theorem d_Pat_closeRound_41 : decode Y_Pat_closeRound.2.1 41 = .ok (.invokestatic 81, 3) := by decide +kernel
theorem d_Pat_closeRound_44 : decode Y_Pat_closeRound.2.1 44 = .ok (.istore 5, 2) := by decide +kernel
theorem d_Pat_closeRound_46 : decode Y_Pat_closeRound.2.1 46 = .ok (.iload 5, 2) := by decide +kernel
theorem d_Pat_closeRound_48 : decode Y_Pat_closeRound.2.1 48 = .ok (.iload_n 2, 1) := by decide +kernel
theorem d_Pat_closeRound_49 : decode Y_Pat_closeRound.2.1 49 = .ok (.if_icmp .ge 22, 3) := by decide +kernel
theorem d_Pat_closeRound_52 : decode Y_Pat_closeRound.2.1 52 = .ok (.iload 5, 2) := by decide +kernel
theorem d_Pat_closeRound_54 : decode Y_Pat_closeRound.2.1 54 = .ok (.istore_n 2, 1) := by decide +kernel
theorem d_Pat_closeRound_55 : decode Y_Pat_closeRound.2.1 55 = .ok (.aload_n 0, 1) := by decide +kernel
theorem d_Pat_closeRound_56 : decode Y_Pat_closeRound.2.1 56 = .ok (.getfield 21, 3) := by decide +kernel
theorem d_Pat_closeRound_59 : decode Y_Pat_closeRound.2.1 59 = .ok (.iload_n 1, 1) := by decide +kernel
theorem d_Pat_closeRound_60 : decode Y_Pat_closeRound.2.1 60 = .ok (.bipush 9, 2) := by decide +kernel
theorem d_Pat_closeRound_62 : decode Y_Pat_closeRound.2.1 62 = .ok (.imul, 1) := by decide +kernel
theorem d_Pat_closeRound_63 : decode Y_Pat_closeRound.2.1 63 = .ok (.iload 4, 2) := by decide +kernel
theorem d_Pat_closeRound_65 : decode Y_Pat_closeRound.2.1 65 = .ok (.iadd, 1) := by decide +kernel
theorem d_Pat_closeRound_66 : decode Y_Pat_closeRound.2.1 66 = .ok (.iaload, 1) := by decide +kernel
theorem d_Pat_closeRound_67 : decode Y_Pat_closeRound.2.1 67 = .ok (.istore_n 3, 1) := by decide +kernel
theorem d_Pat_closeRound_68 : decode Y_Pat_closeRound.2.1 68 = .ok (.goto 31, 3) := by decide +kernel
theorem d_Pat_closeRound_71 : decode Y_Pat_closeRound.2.1 71 = .ok (.iload 5, 2) := by decide +kernel
theorem d_Pat_closeRound_73 : decode Y_Pat_closeRound.2.1 73 = .ok (.iload_n 2, 1) := by decide +kernel
theorem d_Pat_closeRound_74 : decode Y_Pat_closeRound.2.1 74 = .ok (.if_icmp .ne 25, 3) := by decide +kernel
theorem d_Pat_closeRound_77 : decode Y_Pat_closeRound.2.1 77 = .ok (.iload 5, 2) := by decide +kernel
theorem d_Pat_closeRound_79 : decode Y_Pat_closeRound.2.1 79 = .ok (.ldc 54, 2) := by decide +kernel
theorem d_Pat_closeRound_81 : decode Y_Pat_closeRound.2.1 81 = .ok (.if_icmp .eq 18, 3) := by decide +kernel
theorem d_Pat_closeRound_84 : decode Y_Pat_closeRound.2.1 84 = .ok (.iload_n 3, 1) := by decide +kernel
theorem d_Pat_closeRound_85 : decode Y_Pat_closeRound.2.1 85 = .ok (.aload_n 0, 1) := by decide +kernel
theorem d_Pat_closeRound_86 : decode Y_Pat_closeRound.2.1 86 = .ok (.getfield 21, 3) := by decide +kernel
theorem d_Pat_closeRound_89 : decode Y_Pat_closeRound.2.1 89 = .ok (.iload_n 1, 1) := by decide +kernel
theorem d_Pat_closeRound_90 : decode Y_Pat_closeRound.2.1 90 = .ok (.bipush 9, 2) := by decide +kernel
theorem d_Pat_closeRound_92 : decode Y_Pat_closeRound.2.1 92 = .ok (.imul, 1) := by decide +kernel
theorem d_Pat_closeRound_93 : decode Y_Pat_closeRound.2.1 93 = .ok (.iload 4, 2) := by decide +kernel
theorem d_Pat_closeRound_95 : decode Y_Pat_closeRound.2.1 95 = .ok (.iadd, 1) := by decide +kernel
theorem d_Pat_closeRound_96 : decode Y_Pat_closeRound.2.1 96 = .ok (.iaload, 1) := by decide +kernel
theorem d_Pat_closeRound_97 : decode Y_Pat_closeRound.2.1 97 = .ok (.iadd, 1) := by decide +kernel
theorem d_Pat_closeRound_98 : decode Y_Pat_closeRound.2.1 98 = .ok (.istore_n 3, 1) := by decide +kernel
theorem d_Pat_closeRound_99 : decode Y_Pat_closeRound.2.1 99 = .ok (.iinc 4 1, 3) := by decide +kernel
theorem d_Pat_closeRound_102 : decode Y_Pat_closeRound.2.1 102 = .ok (.goto (-94), 3) := by decide +kernel
theorem d_Pat_closeRound_105 : decode Y_Pat_closeRound.2.1 105 = .ok (.aload_n 0, 1) := by decide +kernel
theorem d_Pat_closeRound_106 : decode Y_Pat_closeRound.2.1 106 = .ok (.getfield 24, 3) := by decide +kernel
theorem d_Pat_closeRound_109 : decode Y_Pat_closeRound.2.1 109 = .ok (.iload_n 1, 1) := by decide +kernel
theorem d_Pat_closeRound_110 : decode Y_Pat_closeRound.2.1 110 = .ok (.iload_n 2, 1) := by decide +kernel
theorem d_Pat_closeRound_111 : decode Y_Pat_closeRound.2.1 111 = .ok (.iastore, 1) := by decide +kernel
theorem d_Pat_closeRound_112 : decode Y_Pat_closeRound.2.1 112 = .ok (.aload_n 0, 1) := by decide +kernel
theorem d_Pat_closeRound_113 : decode Y_Pat_closeRound.2.1 113 = .ok (.getfield 27, 3) := by decide +kernel
theorem d_Pat_closeRound_116 : decode Y_Pat_closeRound.2.1 116 = .ok (.iload_n 1, 1) := by decide +kernel
theorem d_Pat_closeRound_117 : decode Y_Pat_closeRound.2.1 117 = .ok (.iload_n 3, 1) := by decide +kernel
theorem d_Pat_closeRound_118 : decode Y_Pat_closeRound.2.1 118 = .ok (.iastore, 1) := by decide +kernel
theorem d_Pat_closeRound_119 : decode Y_Pat_closeRound.2.1 119 = .ok (.return_, 1) := by decide +kernel
theorem d_Net_costBack_0 : decode Y_Net_costBack.2.1 0 = .ok (.aload_n 0, 1) := by decide +kernel
theorem d_Net_costBack_1 : decode Y_Net_costBack.2.1 1 = .ok (.getfield 34, 3) := by decide +kernel
theorem d_Net_costBack_4 : decode Y_Net_costBack.2.1 4 = .ok (.iconst 1, 1) := by decide +kernel
theorem d_Net_costBack_5 : decode Y_Net_costBack.2.1 5 = .ok (.if_icmp .ne 7, 3) := by decide +kernel
theorem d_Net_costBack_8 : decode Y_Net_costBack.2.1 8 = .ok (.iconst 0, 1) := by decide +kernel
end
section
theorem d_Net_costBack_9 : decode Y_Net_costBack.2.1 9 = .ok (.goto 12, 3) := by decide +kernel
theorem d_Net_costBack_12 : decode Y_Net_costBack.2.1 12 = .ok (.aload_n 0, 1) := by decide +kernel
theorem d_Net_costBack_13 : decode Y_Net_costBack.2.1 13 = .ok (.getfield 15, 3) := by decide +kernel
theorem d_Net_costBack_16 : decode Y_Net_costBack.2.1 16 = .ok (.iload_n 1, 1) := by decide +kernel
theorem d_Net_costBack_17 : decode Y_Net_costBack.2.1 17 = .ok (.bipush 9, 2) := by decide +kernel
theorem d_Net_costBack_19 : decode Y_Net_costBack.2.1 19 = .ok (.imul, 1) := by decide +kernel
theorem d_Net_costBack_20 : decode Y_Net_costBack.2.1 20 = .ok (.iaload, 1) := by decide +kernel
theorem d_Net_costBack_21 : decode Y_Net_costBack.2.1 21 = .ok (.ireturn, 1) := by decide +kernel
theorem d_Net_costOut_0 : decode Y_Net_costOut.2.1 0 = .ok (.iconst 0, 1) := by decide +kernel
theorem d_Net_costOut_1 : decode Y_Net_costOut.2.1 1 = .ok (.istore_n 2, 1) := by decide +kernel
theorem d_Net_costOut_2 : decode Y_Net_costOut.2.1 2 = .ok (.iconst 1, 1) := by decide +kernel
theorem d_Net_costOut_3 : decode Y_Net_costOut.2.1 3 = .ok (.istore_n 3, 1) := by decide +kernel
theorem d_Net_costOut_4 : decode Y_Net_costOut.2.1 4 = .ok (.iload_n 3, 1) := by decide +kernel
theorem d_Net_costOut_5 : decode Y_Net_costOut.2.1 5 = .ok (.aload_n 0, 1) := by decide +kernel
theorem d_Net_costOut_6 : decode Y_Net_costOut.2.1 6 = .ok (.getfield 24, 3) := by decide +kernel
theorem d_Net_costOut_9 : decode Y_Net_costOut.2.1 9 = .ok (.if_icmp .ge 43, 3) := by decide +kernel
theorem d_Net_costOut_12 : decode Y_Net_costOut.2.1 12 = .ok (.iload_n 1, 1) := by decide +kernel
theorem d_Net_costOut_13 : decode Y_Net_costOut.2.1 13 = .ok (.iload_n 3, 1) := by decide +kernel
theorem d_Net_costOut_14 : decode Y_Net_costOut.2.1 14 = .ok (.invokestatic 45, 3) := by decide +kernel
theorem d_Net_costOut_17 : decode Y_Net_costOut.2.1 17 = .ok (.iand, 1) := by decide +kernel
theorem d_Net_costOut_18 : decode Y_Net_costOut.2.1 18 = .ok (.ifCond .eq 28, 3) := by decide +kernel
theorem d_Net_costOut_21 : decode Y_Net_costOut.2.1 21 = .ok (.iload_n 2, 1) := by decide +kernel
theorem d_Net_costOut_22 : decode Y_Net_costOut.2.1 22 = .ok (.aload_n 0, 1) := by decide +kernel
theorem d_Net_costOut_23 : decode Y_Net_costOut.2.1 23 = .ok (.getfield 18, 3) := by decide +kernel
theorem d_Net_costOut_26 : decode Y_Net_costOut.2.1 26 = .ok (.iload_n 3, 1) := by decide +kernel
theorem d_Net_costOut_27 : decode Y_Net_costOut.2.1 27 = .ok (.iaload, 1) := by decide +kernel
theorem d_Net_costOut_28 : decode Y_Net_costOut.2.1 28 = .ok (.ifCond .ge 8, 3) := by decide +kernel
theorem d_Net_costOut_31 : decode Y_Net_costOut.2.1 31 = .ok (.ldc 40, 2) := by decide +kernel
theorem d_Net_costOut_33 : decode Y_Net_costOut.2.1 33 = .ok (.goto 9, 3) := by decide +kernel
theorem d_Net_costOut_36 : decode Y_Net_costOut.2.1 36 = .ok (.aload_n 0, 1) := by decide +kernel
theorem d_Net_costOut_37 : decode Y_Net_costOut.2.1 37 = .ok (.getfield 18, 3) := by decide +kernel
theorem d_Net_costOut_40 : decode Y_Net_costOut.2.1 40 = .ok (.iload_n 3, 1) := by decide +kernel
theorem d_Net_costOut_41 : decode Y_Net_costOut.2.1 41 = .ok (.iaload, 1) := by decide +kernel
theorem d_Net_costOut_42 : decode Y_Net_costOut.2.1 42 = .ok (.invokestatic 54, 3) := by decide +kernel
theorem d_Net_costOut_45 : decode Y_Net_costOut.2.1 45 = .ok (.istore_n 2, 1) := by decide +kernel
theorem d_Net_costOut_46 : decode Y_Net_costOut.2.1 46 = .ok (.iinc 3 1, 3) := by decide +kernel
theorem d_Net_costOut_49 : decode Y_Net_costOut.2.1 49 = .ok (.goto (-45), 3) := by decide +kernel
theorem d_Net_costOut_52 : decode Y_Net_costOut.2.1 52 = .ok (.iload_n 2, 1) := by decide +kernel
theorem d_Net_costOut_53 : decode Y_Net_costOut.2.1 53 = .ok (.ireturn, 1) := by decide +kernel
theorem d_JI_bitCount_0 : decode Y_JI_bitCount.2.1 0 = .ok (.iload_n 0, 1) := by decide +kernel
theorem d_JI_bitCount_1 : decode Y_JI_bitCount.2.1 1 = .ok (.iload_n 0, 1) := by decide +kernel
theorem d_JI_bitCount_2 : decode Y_JI_bitCount.2.1 2 = .ok (.iconst 1, 1) := by decide +kernel
theorem d_JI_bitCount_3 : decode Y_JI_bitCount.2.1 3 = .ok (.iushr, 1) := by decide +kernel
theorem d_JI_bitCount_4 : decode Y_JI_bitCount.2.1 4 = .ok (.ldc_w 265, 3) := by decide +kernel
theorem d_JI_bitCount_7 : decode Y_JI_bitCount.2.1 7 = .ok (.iand, 1) := by decide +kernel
theorem d_JI_bitCount_8 : decode Y_JI_bitCount.2.1 8 = .ok (.isub, 1) := by decide +kernel
theorem d_JI_bitCount_9 : decode Y_JI_bitCount.2.1 9 = .ok (.istore_n 0, 1) := by decide +kernel
theorem d_JI_bitCount_10 : decode Y_JI_bitCount.2.1 10 = .ok (.iload_n 0, 1) := by decide +kernel
theorem d_JI_bitCount_11 : decode Y_JI_bitCount.2.1 11 = .ok (.ldc_w 266, 3) := by decide +kernel
theorem d_JI_bitCount_14 : decode Y_JI_bitCount.2.1 14 = .ok (.iand, 1) := by decide +kernel
theorem d_JI_bitCount_15 : decode Y_JI_bitCount.2.1 15 = .ok (.iload_n 0, 1) := by decide +kernel
theorem d_JI_bitCount_16 : decode Y_JI_bitCount.2.1 16 = .ok (.iconst 2, 1) := by decide +kernel
theorem d_JI_bitCount_17 : decode Y_JI_bitCount.2.1 17 = .ok (.iushr, 1) := by decide +kernel
theorem d_JI_bitCount_18 : decode Y_JI_bitCount.2.1 18 = .ok (.ldc_w 266, 3) := by decide +kernel
theorem d_JI_bitCount_21 : decode Y_JI_bitCount.2.1 21 = .ok (.iand, 1) := by decide +kernel
theorem d_JI_bitCount_22 : decode Y_JI_bitCount.2.1 22 = .ok (.iadd, 1) := by decide +kernel
theorem d_JI_bitCount_23 : decode Y_JI_bitCount.2.1 23 = .ok (.istore_n 0, 1) := by decide +kernel
theorem d_JI_bitCount_24 : decode Y_JI_bitCount.2.1 24 = .ok (.iload_n 0, 1) := by decide +kernel
theorem d_JI_bitCount_25 : decode Y_JI_bitCount.2.1 25 = .ok (.iload_n 0, 1) := by decide +kernel
theorem d_JI_bitCount_26 : decode Y_JI_bitCount.2.1 26 = .ok (.iconst 4, 1) := by decide +kernel
theorem d_JI_bitCount_27 : decode Y_JI_bitCount.2.1 27 = .ok (.iushr, 1) := by decide +kernel
theorem d_JI_bitCount_28 : decode Y_JI_bitCount.2.1 28 = .ok (.iadd, 1) := by decide +kernel
theorem d_JI_bitCount_29 : decode Y_JI_bitCount.2.1 29 = .ok (.ldc_w 267, 3) := by decide +kernel
theorem d_JI_bitCount_32 : decode Y_JI_bitCount.2.1 32 = .ok (.iand, 1) := by decide +kernel
theorem d_JI_bitCount_33 : decode Y_JI_bitCount.2.1 33 = .ok (.istore_n 0, 1) := by decide +kernel
theorem d_JI_bitCount_34 : decode Y_JI_bitCount.2.1 34 = .ok (.iload_n 0, 1) := by decide +kernel
theorem d_JI_bitCount_35 : decode Y_JI_bitCount.2.1 35 = .ok (.iload_n 0, 1) := by decide +kernel
theorem d_JI_bitCount_36 : decode Y_JI_bitCount.2.1 36 = .ok (.bipush 8, 2) := by decide +kernel
theorem d_JI_bitCount_38 : decode Y_JI_bitCount.2.1 38 = .ok (.iushr, 1) := by decide +kernel
theorem d_JI_bitCount_39 : decode Y_JI_bitCount.2.1 39 = .ok (.iadd, 1) := by decide +kernel
theorem d_JI_bitCount_40 : decode Y_JI_bitCount.2.1 40 = .ok (.istore_n 0, 1) := by decide +kernel
theorem d_JI_bitCount_41 : decode Y_JI_bitCount.2.1 41 = .ok (.iload_n 0, 1) := by decide +kernel
theorem d_JI_bitCount_42 : decode Y_JI_bitCount.2.1 42 = .ok (.iload_n 0, 1) := by decide +kernel
theorem d_JI_bitCount_43 : decode Y_JI_bitCount.2.1 43 = .ok (.bipush 16, 2) := by decide +kernel
theorem d_JI_bitCount_45 : decode Y_JI_bitCount.2.1 45 = .ok (.iushr, 1) := by decide +kernel
theorem d_JI_bitCount_46 : decode Y_JI_bitCount.2.1 46 = .ok (.iadd, 1) := by decide +kernel
theorem d_JI_bitCount_47 : decode Y_JI_bitCount.2.1 47 = .ok (.istore_n 0, 1) := by decide +kernel
theorem d_JI_bitCount_48 : decode Y_JI_bitCount.2.1 48 = .ok (.iload_n 0, 1) := by decide +kernel
theorem d_JI_bitCount_49 : decode Y_JI_bitCount.2.1 49 = .ok (.bipush 63, 2) := by decide +kernel
theorem d_JI_bitCount_51 : decode Y_JI_bitCount.2.1 51 = .ok (.iand, 1) := by decide +kernel
theorem d_JI_bitCount_52 : decode Y_JI_bitCount.2.1 52 = .ok (.ireturn, 1) := by decide +kernel
theorem d_Sha_copyShare_0 : decode Y_Sha_copyShare.2.1 0 = .ok (.aload_n 0, 1) := by decide +kernel
theorem d_Sha_copyShare_1 : decode Y_Sha_copyShare.2.1 1 = .ok (.getfield 9, 3) := by decide +kernel
theorem d_Sha_copyShare_4 : decode Y_Sha_copyShare.2.1 4 = .ok (.iload_n 1, 1) := by decide +kernel
theorem d_Sha_copyShare_5 : decode Y_Sha_copyShare.2.1 5 = .ok (.sipush 256, 3) := by decide +kernel
theorem d_Sha_copyShare_8 : decode Y_Sha_copyShare.2.1 8 = .ok (.imul, 1) := by decide +kernel
theorem d_Sha_copyShare_9 : decode Y_Sha_copyShare.2.1 9 = .ok (.iload_n 2, 1) := by decide +kernel
theorem d_Sha_copyShare_10 : decode Y_Sha_copyShare.2.1 10 = .ok (.iadd, 1) := by decide +kernel
theorem d_Sha_copyShare_11 : decode Y_Sha_copyShare.2.1 11 = .ok (.aload_n 0, 1) := by decide +kernel
theorem d_Sha_copyShare_12 : decode Y_Sha_copyShare.2.1 12 = .ok (.getfield 9, 3) := by decide +kernel
theorem d_Sha_copyShare_15 : decode Y_Sha_copyShare.2.1 15 = .ok (.iload_n 1, 1) := by decide +kernel
theorem d_Sha_copyShare_16 : decode Y_Sha_copyShare.2.1 16 = .ok (.iconst 1, 1) := by decide +kernel
theorem d_Sha_copyShare_17 : decode Y_Sha_copyShare.2.1 17 = .ok (.isub, 1) := by decide +kernel
theorem d_Sha_copyShare_18 : decode Y_Sha_copyShare.2.1 18 = .ok (.sipush 256, 3) := by decide +kernel
theorem d_Sha_copyShare_21 : decode Y_Sha_copyShare.2.1 21 = .ok (.imul, 1) := by decide +kernel
theorem d_Sha_copyShare_22 : decode Y_Sha_copyShare.2.1 22 = .ok (.iload_n 2, 1) := by decide +kernel
theorem d_Sha_copyShare_23 : decode Y_Sha_copyShare.2.1 23 = .ok (.iadd, 1) := by decide +kernel
theorem d_Sha_copyShare_24 : decode Y_Sha_copyShare.2.1 24 = .ok (.iaload, 1) := by decide +kernel
theorem d_Sha_copyShare_25 : decode Y_Sha_copyShare.2.1 25 = .ok (.iastore, 1) := by decide +kernel
theorem d_Sha_copyShare_26 : decode Y_Sha_copyShare.2.1 26 = .ok (.aload_n 0, 1) := by decide +kernel
theorem d_Sha_copyShare_27 : decode Y_Sha_copyShare.2.1 27 = .ok (.getfield 15, 3) := by decide +kernel
theorem d_Sha_copyShare_30 : decode Y_Sha_copyShare.2.1 30 = .ok (.iload_n 1, 1) := by decide +kernel
theorem d_Sha_copyShare_31 : decode Y_Sha_copyShare.2.1 31 = .ok (.sipush 256, 3) := by decide +kernel
theorem d_Sha_copyShare_34 : decode Y_Sha_copyShare.2.1 34 = .ok (.imul, 1) := by decide +kernel
theorem d_Sha_copyShare_35 : decode Y_Sha_copyShare.2.1 35 = .ok (.iload_n 2, 1) := by decide +kernel
theorem d_Sha_copyShare_36 : decode Y_Sha_copyShare.2.1 36 = .ok (.iadd, 1) := by decide +kernel
theorem d_Sha_copyShare_37 : decode Y_Sha_copyShare.2.1 37 = .ok (.aload_n 0, 1) := by decide +kernel
theorem d_Sha_copyShare_38 : decode Y_Sha_copyShare.2.1 38 = .ok (.getfield 15, 3) := by decide +kernel
theorem d_Sha_copyShare_41 : decode Y_Sha_copyShare.2.1 41 = .ok (.iload_n 1, 1) := by decide +kernel
theorem d_Sha_copyShare_42 : decode Y_Sha_copyShare.2.1 42 = .ok (.iconst 1, 1) := by decide +kernel
theorem d_Sha_copyShare_43 : decode Y_Sha_copyShare.2.1 43 = .ok (.isub, 1) := by decide +kernel
theorem d_Sha_copyShare_44 : decode Y_Sha_copyShare.2.1 44 = .ok (.sipush 256, 3) := by decide +kernel
theorem d_Sha_copyShare_47 : decode Y_Sha_copyShare.2.1 47 = .ok (.imul, 1) := by decide +kernel
theorem d_Sha_copyShare_48 : decode Y_Sha_copyShare.2.1 48 = .ok (.iload_n 2, 1) := by decide +kernel
theorem d_Sha_copyShare_49 : decode Y_Sha_copyShare.2.1 49 = .ok (.iadd, 1) := by decide +kernel
theorem d_Sha_copyShare_50 : decode Y_Sha_copyShare.2.1 50 = .ok (.iaload, 1) := by decide +kernel
theorem d_Sha_copyShare_51 : decode Y_Sha_copyShare.2.1 51 = .ok (.iastore, 1) := by decide +kernel
theorem d_Sha_copyShare_52 : decode Y_Sha_copyShare.2.1 52 = .ok (.return_, 1) := by decide +kernel
theorem d_Sha_share_0 : decode Y_Sha_share.2.1 0 = .ok (.iload_n 2, 1) := by decide +kernel
theorem d_Sha_share_1 : decode Y_Sha_share.2.1 1 = .ok (.iload_n 2, 1) := by decide +kernel
theorem d_Sha_share_2 : decode Y_Sha_share.2.1 2 = .ok (.ineg, 1) := by decide +kernel
theorem d_Sha_share_3 : decode Y_Sha_share.2.1 3 = .ok (.iand, 1) := by decide +kernel
theorem d_Sha_share_4 : decode Y_Sha_share.2.1 4 = .ok (.istore_n 3, 1) := by decide +kernel
theorem d_Sha_share_5 : decode Y_Sha_share.2.1 5 = .ok (.iload_n 2, 1) := by decide +kernel
theorem d_Sha_share_6 : decode Y_Sha_share.2.1 6 = .ok (.iload_n 3, 1) := by decide +kernel
theorem d_Sha_share_7 : decode Y_Sha_share.2.1 7 = .ok (.iconst (-1), 1) := by decide +kernel
theorem d_Sha_share_8 : decode Y_Sha_share.2.1 8 = .ok (.ixor, 1) := by decide +kernel
theorem d_Sha_share_9 : decode Y_Sha_share.2.1 9 = .ok (.iand, 1) := by decide +kernel
theorem d_Sha_share_10 : decode Y_Sha_share.2.1 10 = .ok (.istore 4, 2) := by decide +kernel
theorem d_Sha_share_12 : decode Y_Sha_share.2.1 12 = .ok (.aload_n 0, 1) := by decide +kernel
theorem d_Sha_share_13 : decode Y_Sha_share.2.1 13 = .ok (.aload_n 0, 1) := by decide +kernel
theorem d_Sha_share_14 : decode Y_Sha_share.2.1 14 = .ok (.getfield 9, 3) := by decide +kernel
theorem d_Sha_share_17 : decode Y_Sha_share.2.1 17 = .ok (.iload_n 3, 1) := by decide +kernel
theorem d_Sha_share_18 : decode Y_Sha_share.2.1 18 = .ok (.iaload, 1) := by decide +kernel
theorem d_Sha_share_19 : decode Y_Sha_share.2.1 19 = .ok (.aload_n 0, 1) := by decide +kernel
theorem d_Sha_share_20 : decode Y_Sha_share.2.1 20 = .ok (.getfield 9, 3) := by decide +kernel
theorem d_Sha_share_23 : decode Y_Sha_share.2.1 23 = .ok (.iload_n 1, 1) := by decide +kernel
theorem d_Sha_share_24 : decode Y_Sha_share.2.1 24 = .ok (.sipush 256, 3) := by decide +kernel
theorem d_Sha_share_27 : decode Y_Sha_share.2.1 27 = .ok (.imul, 1) := by decide +kernel
theorem d_Sha_share_28 : decode Y_Sha_share.2.1 28 = .ok (.iload 4, 2) := by decide +kernel
theorem d_Sha_share_30 : decode Y_Sha_share.2.1 30 = .ok (.iadd, 1) := by decide +kernel
theorem d_Sha_share_31 : decode Y_Sha_share.2.1 31 = .ok (.iaload, 1) := by decide +kernel
theorem d_Sha_share_32 : decode Y_Sha_share.2.1 32 = .ok (.invokestatic 73, 3) := by decide +kernel
theorem d_Sha_share_35 : decode Y_Sha_share.2.1 35 = .ok (.putfield 19, 3) := by decide +kernel
theorem d_Sha_share_38 : decode Y_Sha_share.2.1 38 = .ok (.aload_n 0, 1) := by decide +kernel
theorem d_Sha_share_39 : decode Y_Sha_share.2.1 39 = .ok (.aload_n 0, 1) := by decide +kernel
theorem d_Sha_share_40 : decode Y_Sha_share.2.1 40 = .ok (.getfield 19, 3) := by decide +kernel
theorem d_Sha_share_43 : decode Y_Sha_share.2.1 43 = .ok (.ldc 18, 2) := by decide +kernel
theorem d_Sha_share_45 : decode Y_Sha_share.2.1 45 = .ok (.if_icmp .ne 7, 3) := by decide +kernel
theorem d_Sha_share_48 : decode Y_Sha_share.2.1 48 = .ok (.iconst 0, 1) := by decide +kernel
theorem d_Sha_share_49 : decode Y_Sha_share.2.1 49 = .ok (.goto 16, 3) := by decide +kernel
theorem d_Sha_share_52 : decode Y_Sha_share.2.1 52 = .ok (.aload_n 0, 1) := by decide +kernel
theorem d_Sha_share_53 : decode Y_Sha_share.2.1 53 = .ok (.getfield 15, 3) := by decide +kernel
theorem d_Sha_share_56 : decode Y_Sha_share.2.1 56 = .ok (.iload_n 1, 1) := by decide +kernel
theorem d_Sha_share_57 : decode Y_Sha_share.2.1 57 = .ok (.sipush 256, 3) := by decide +kernel
theorem d_Sha_share_60 : decode Y_Sha_share.2.1 60 = .ok (.imul, 1) := by decide +kernel
theorem d_Sha_share_61 : decode Y_Sha_share.2.1 61 = .ok (.iload 4, 2) := by decide +kernel
theorem d_Sha_share_63 : decode Y_Sha_share.2.1 63 = .ok (.iadd, 1) := by decide +kernel
theorem d_Sha_share_64 : decode Y_Sha_share.2.1 64 = .ok (.iaload, 1) := by decide +kernel
theorem d_Sha_share_65 : decode Y_Sha_share.2.1 65 = .ok (.putfield 23, 3) := by decide +kernel
theorem d_Sha_share_68 : decode Y_Sha_share.2.1 68 = .ok (.iload 4, 2) := by decide +kernel
theorem d_Sha_share_70 : decode Y_Sha_share.2.1 70 = .ok (.istore 5, 2) := by decide +kernel
theorem d_Sha_share_72 : decode Y_Sha_share.2.1 72 = .ok (.iload 5, 2) := by decide +kernel
theorem d_Sha_share_74 : decode Y_Sha_share.2.1 74 = .ok (.ifCond .lt 47, 3) := by decide +kernel
theorem d_Sha_share_77 : decode Y_Sha_share.2.1 77 = .ok (.aload_n 0, 1) := by decide +kernel
theorem d_Sha_share_78 : decode Y_Sha_share.2.1 78 = .ok (.iload 5, 2) := by decide +kernel
theorem d_Sha_share_80 : decode Y_Sha_share.2.1 80 = .ok (.iload_n 3, 1) := by decide +kernel
theorem d_Sha_share_81 : decode Y_Sha_share.2.1 81 = .ok (.ior, 1) := by decide +kernel
theorem d_Sha_share_82 : decode Y_Sha_share.2.1 82 = .ok (.iload_n 1, 1) := by decide +kernel
theorem d_Sha_share_83 : decode Y_Sha_share.2.1 83 = .ok (.iconst 1, 1) := by decide +kernel
theorem d_Sha_share_84 : decode Y_Sha_share.2.1 84 = .ok (.isub, 1) := by decide +kernel
theorem d_Sha_share_85 : decode Y_Sha_share.2.1 85 = .ok (.sipush 256, 3) := by decide +kernel
theorem d_Sha_share_88 : decode Y_Sha_share.2.1 88 = .ok (.imul, 1) := by decide +kernel
theorem d_Sha_share_89 : decode Y_Sha_share.2.1 89 = .ok (.iload 4, 2) := by decide +kernel
theorem d_Sha_share_91 : decode Y_Sha_share.2.1 91 = .ok (.iload 5, 2) := by decide +kernel
theorem d_Sha_share_93 : decode Y_Sha_share.2.1 93 = .ok (.iconst (-1), 1) := by decide +kernel
theorem d_Sha_share_94 : decode Y_Sha_share.2.1 94 = .ok (.ixor, 1) := by decide +kernel
theorem d_Sha_share_95 : decode Y_Sha_share.2.1 95 = .ok (.iand, 1) := by decide +kernel
theorem d_Sha_share_96 : decode Y_Sha_share.2.1 96 = .ok (.iadd, 1) := by decide +kernel
theorem d_Sha_share_97 : decode Y_Sha_share.2.1 97 = .ok (.invokevirtual 77, 3) := by decide +kernel
theorem d_Sha_share_100 : decode Y_Sha_share.2.1 100 = .ok (.iload 5, 2) := by decide +kernel
theorem d_Sha_share_102 : decode Y_Sha_share.2.1 102 = .ok (.ifCond .ne 7, 3) := by decide +kernel
theorem d_Sha_share_105 : decode Y_Sha_share.2.1 105 = .ok (.iconst (-1), 1) := by decide +kernel
theorem d_Sha_share_106 : decode Y_Sha_share.2.1 106 = .ok (.goto 10, 3) := by decide +kernel
theorem d_Sha_share_109 : decode Y_Sha_share.2.1 109 = .ok (.iload 5, 2) := by decide +kernel
theorem d_Sha_share_111 : decode Y_Sha_share.2.1 111 = .ok (.iconst 1, 1) := by decide +kernel
theorem d_Sha_share_112 : decode Y_Sha_share.2.1 112 = .ok (.isub, 1) := by decide +kernel
theorem d_Sha_share_113 : decode Y_Sha_share.2.1 113 = .ok (.iload 4, 2) := by decide +kernel
theorem d_Sha_share_115 : decode Y_Sha_share.2.1 115 = .ok (.iand, 1) := by decide +kernel
theorem d_Sha_share_116 : decode Y_Sha_share.2.1 116 = .ok (.istore 5, 2) := by decide +kernel
theorem d_Sha_share_118 : decode Y_Sha_share.2.1 118 = .ok (.goto (-46), 3) := by decide +kernel
theorem d_Sha_share_121 : decode Y_Sha_share.2.1 121 = .ok (.aload_n 0, 1) := by decide +kernel
theorem d_Sha_share_122 : decode Y_Sha_share.2.1 122 = .ok (.getfield 9, 3) := by decide +kernel
theorem d_Sha_share_125 : decode Y_Sha_share.2.1 125 = .ok (.iload_n 1, 1) := by decide +kernel
theorem d_Sha_share_126 : decode Y_Sha_share.2.1 126 = .ok (.sipush 256, 3) := by decide +kernel
theorem d_Sha_share_129 : decode Y_Sha_share.2.1 129 = .ok (.imul, 1) := by decide +kernel
theorem d_Sha_share_130 : decode Y_Sha_share.2.1 130 = .ok (.iload_n 2, 1) := by decide +kernel
theorem d_Sha_share_131 : decode Y_Sha_share.2.1 131 = .ok (.iadd, 1) := by decide +kernel
theorem d_Sha_share_132 : decode Y_Sha_share.2.1 132 = .ok (.aload_n 0, 1) := by decide +kernel
theorem d_Sha_share_133 : decode Y_Sha_share.2.1 133 = .ok (.getfield 19, 3) := by decide +kernel
theorem d_Sha_share_136 : decode Y_Sha_share.2.1 136 = .ok (.iastore, 1) := by decide +kernel
theorem d_Sha_share_137 : decode Y_Sha_share.2.1 137 = .ok (.aload_n 0, 1) := by decide +kernel
theorem d_Sha_share_138 : decode Y_Sha_share.2.1 138 = .ok (.getfield 15, 3) := by decide +kernel
theorem d_Sha_share_141 : decode Y_Sha_share.2.1 141 = .ok (.iload_n 1, 1) := by decide +kernel
theorem d_Sha_share_142 : decode Y_Sha_share.2.1 142 = .ok (.sipush 256, 3) := by decide +kernel
theorem d_Sha_share_145 : decode Y_Sha_share.2.1 145 = .ok (.imul, 1) := by decide +kernel
theorem d_Sha_share_146 : decode Y_Sha_share.2.1 146 = .ok (.iload_n 2, 1) := by decide +kernel
theorem d_Sha_share_147 : decode Y_Sha_share.2.1 147 = .ok (.iadd, 1) := by decide +kernel
theorem d_Sha_share_148 : decode Y_Sha_share.2.1 148 = .ok (.aload_n 0, 1) := by decide +kernel
theorem d_Sha_share_149 : decode Y_Sha_share.2.1 149 = .ok (.getfield 23, 3) := by decide +kernel
theorem d_Sha_share_152 : decode Y_Sha_share.2.1 152 = .ok (.iastore, 1) := by decide +kernel
theorem d_Sha_share_153 : decode Y_Sha_share.2.1 153 = .ok (.return_, 1) := by decide +kernel
theorem d_Sha_offer_0 : decode Y_Sha_offer.2.1 0 = .ok (.aload_n 0, 1) := by decide +kernel
theorem d_Sha_offer_1 : decode Y_Sha_offer.2.1 1 = .ok (.getfield 33, 3) := by decide +kernel
theorem d_Sha_offer_4 : decode Y_Sha_offer.2.1 4 = .ok (.getfield 80, 3) := by decide +kernel
theorem d_Sha_offer_7 : decode Y_Sha_offer.2.1 7 = .ok (.iload_n 1, 1) := by decide +kernel
theorem d_Sha_offer_8 : decode Y_Sha_offer.2.1 8 = .ok (.iaload, 1) := by decide +kernel
theorem d_Sha_offer_9 : decode Y_Sha_offer.2.1 9 = .ok (.aload_n 0, 1) := by decide +kernel
theorem d_Sha_offer_10 : decode Y_Sha_offer.2.1 10 = .ok (.getfield 9, 3) := by decide +kernel
theorem d_Sha_offer_13 : decode Y_Sha_offer.2.1 13 = .ok (.iload_n 2, 1) := by decide +kernel
theorem d_Sha_offer_14 : decode Y_Sha_offer.2.1 14 = .ok (.iaload, 1) := by decide +kernel
theorem d_Sha_offer_15 : decode Y_Sha_offer.2.1 15 = .ok (.invokestatic 73, 3) := by decide +kernel
theorem d_Sha_offer_18 : decode Y_Sha_offer.2.1 18 = .ok (.istore_n 3, 1) := by decide +kernel
theorem d_Sha_offer_19 : decode Y_Sha_offer.2.1 19 = .ok (.iload_n 3, 1) := by decide +kernel
theorem d_Sha_offer_20 : decode Y_Sha_offer.2.1 20 = .ok (.ldc 18, 2) := by decide +kernel
theorem d_Sha_offer_22 : decode Y_Sha_offer.2.1 22 = .ok (.if_icmp .eq 11, 3) := by decide +kernel
theorem d_Sha_offer_25 : decode Y_Sha_offer.2.1 25 = .ok (.iload_n 3, 1) := by decide +kernel
theorem d_Sha_offer_26 : decode Y_Sha_offer.2.1 26 = .ok (.aload_n 0, 1) := by decide +kernel
theorem d_Sha_offer_27 : decode Y_Sha_offer.2.1 27 = .ok (.getfield 19, 3) := by decide +kernel
theorem d_Sha_offer_30 : decode Y_Sha_offer.2.1 30 = .ok (.if_icmp .le 4, 3) := by decide +kernel
theorem d_Sha_offer_33 : decode Y_Sha_offer.2.1 33 = .ok (.return_, 1) := by decide +kernel
theorem d_Sha_offer_34 : decode Y_Sha_offer.2.1 34 = .ok (.aload_n 0, 1) := by decide +kernel
theorem d_Sha_offer_35 : decode Y_Sha_offer.2.1 35 = .ok (.getfield 33, 3) := by decide +kernel
theorem d_Sha_offer_38 : decode Y_Sha_offer.2.1 38 = .ok (.getfield 83, 3) := by decide +kernel
theorem d_Sha_offer_41 : decode Y_Sha_offer.2.1 41 = .ok (.iload_n 1, 1) := by decide +kernel
theorem d_Sha_offer_42 : decode Y_Sha_offer.2.1 42 = .ok (.iaload, 1) := by decide +kernel
theorem d_Sha_offer_43 : decode Y_Sha_offer.2.1 43 = .ok (.aload_n 0, 1) := by decide +kernel
theorem d_Sha_offer_44 : decode Y_Sha_offer.2.1 44 = .ok (.getfield 15, 3) := by decide +kernel
theorem d_Sha_offer_47 : decode Y_Sha_offer.2.1 47 = .ok (.iload_n 2, 1) := by decide +kernel
theorem d_Sha_offer_48 : decode Y_Sha_offer.2.1 48 = .ok (.iaload, 1) := by decide +kernel
theorem d_Sha_offer_49 : decode Y_Sha_offer.2.1 49 = .ok (.imul, 1) := by decide +kernel
theorem d_Sha_offer_50 : decode Y_Sha_offer.2.1 50 = .ok (.istore 4, 2) := by decide +kernel
theorem d_Sha_offer_52 : decode Y_Sha_offer.2.1 52 = .ok (.aload_n 0, 1) := by decide +kernel
theorem d_Sha_offer_53 : decode Y_Sha_offer.2.1 53 = .ok (.iload_n 3, 1) := by decide +kernel
theorem d_Sha_offer_54 : decode Y_Sha_offer.2.1 54 = .ok (.aload_n 0, 1) := by decide +kernel
theorem d_Sha_offer_55 : decode Y_Sha_offer.2.1 55 = .ok (.getfield 19, 3) := by decide +kernel
theorem d_Sha_offer_58 : decode Y_Sha_offer.2.1 58 = .ok (.if_icmp .ge 8, 3) := by decide +kernel
theorem d_Sha_offer_61 : decode Y_Sha_offer.2.1 61 = .ok (.iload 4, 2) := by decide +kernel
theorem d_Sha_offer_63 : decode Y_Sha_offer.2.1 63 = .ok (.goto 10, 3) := by decide +kernel
theorem d_Sha_offer_66 : decode Y_Sha_offer.2.1 66 = .ok (.aload_n 0, 1) := by decide +kernel
theorem d_Sha_offer_67 : decode Y_Sha_offer.2.1 67 = .ok (.getfield 23, 3) := by decide +kernel
theorem d_Sha_offer_70 : decode Y_Sha_offer.2.1 70 = .ok (.iload 4, 2) := by decide +kernel
theorem d_Sha_offer_72 : decode Y_Sha_offer.2.1 72 = .ok (.iadd, 1) := by decide +kernel
theorem d_Sha_offer_73 : decode Y_Sha_offer.2.1 73 = .ok (.putfield 23, 3) := by decide +kernel
theorem d_Sha_offer_76 : decode Y_Sha_offer.2.1 76 = .ok (.aload_n 0, 1) := by decide +kernel
theorem d_Sha_offer_77 : decode Y_Sha_offer.2.1 77 = .ok (.iload_n 3, 1) := by decide +kernel
theorem d_Sha_offer_78 : decode Y_Sha_offer.2.1 78 = .ok (.putfield 19, 3) := by decide +kernel
theorem d_Sha_offer_81 : decode Y_Sha_offer.2.1 81 = .ok (.return_, 1) := by decide +kernel
theorem d_Sha_leastCost_0 : decode Y_Sha_leastCost.2.1 0 = .ok (.aload_n 0, 1) := by decide +kernel
theorem d_Sha_leastCost_1 : decode Y_Sha_leastCost.2.1 1 = .ok (.getfield 9, 3) := by decide +kernel
theorem d_Sha_leastCost_4 : decode Y_Sha_leastCost.2.1 4 = .ok (.aload_n 0, 1) := by decide +kernel
theorem d_Sha_leastCost_5 : decode Y_Sha_leastCost.2.1 5 = .ok (.getfield 29, 3) := by decide +kernel
theorem d_Sha_leastCost_8 : decode Y_Sha_leastCost.2.1 8 = .ok (.getfield 55, 3) := by decide +kernel
theorem d_Sha_leastCost_11 : decode Y_Sha_leastCost.2.1 11 = .ok (.sipush 256, 3) := by decide +kernel
theorem d_Sha_leastCost_14 : decode Y_Sha_leastCost.2.1 14 = .ok (.imul, 1) := by decide +kernel
theorem d_Sha_leastCost_15 : decode Y_Sha_leastCost.2.1 15 = .ok (.aload_n 0, 1) := by decide +kernel
theorem d_Sha_leastCost_16 : decode Y_Sha_leastCost.2.1 16 = .ok (.getfield 29, 3) := by decide +kernel
theorem d_Sha_leastCost_19 : decode Y_Sha_leastCost.2.1 19 = .ok (.invokevirtual 47, 3) := by decide +kernel
theorem d_Sha_leastCost_22 : decode Y_Sha_leastCost.2.1 22 = .ok (.iadd, 1) := by decide +kernel
theorem d_Sha_leastCost_23 : decode Y_Sha_leastCost.2.1 23 = .ok (.iaload, 1) := by decide +kernel
theorem d_Sha_leastCost_24 : decode Y_Sha_leastCost.2.1 24 = .ok (.ireturn, 1) := by decide +kernel
theorem d_Sha_leastWays_0 : decode Y_Sha_leastWays.2.1 0 = .ok (.aload_n 0, 1) := by decide +kernel
theorem d_Sha_leastWays_1 : decode Y_Sha_leastWays.2.1 1 = .ok (.getfield 15, 3) := by decide +kernel
theorem d_Sha_leastWays_4 : decode Y_Sha_leastWays.2.1 4 = .ok (.aload_n 0, 1) := by decide +kernel
theorem d_Sha_leastWays_5 : decode Y_Sha_leastWays.2.1 5 = .ok (.getfield 29, 3) := by decide +kernel
theorem d_Sha_leastWays_8 : decode Y_Sha_leastWays.2.1 8 = .ok (.getfield 55, 3) := by decide +kernel
theorem d_Sha_leastWays_11 : decode Y_Sha_leastWays.2.1 11 = .ok (.sipush 256, 3) := by decide +kernel
theorem d_Sha_leastWays_14 : decode Y_Sha_leastWays.2.1 14 = .ok (.imul, 1) := by decide +kernel
theorem d_Sha_leastWays_15 : decode Y_Sha_leastWays.2.1 15 = .ok (.aload_n 0, 1) := by decide +kernel
theorem d_Sha_leastWays_16 : decode Y_Sha_leastWays.2.1 16 = .ok (.getfield 29, 3) := by decide +kernel
theorem d_Sha_leastWays_19 : decode Y_Sha_leastWays.2.1 19 = .ok (.invokevirtual 47, 3) := by decide +kernel
theorem d_Sha_leastWays_22 : decode Y_Sha_leastWays.2.1 22 = .ok (.iadd, 1) := by decide +kernel
theorem d_Sha_leastWays_23 : decode Y_Sha_leastWays.2.1 23 = .ok (.iaload, 1) := by decide +kernel
theorem d_Sha_leastWays_24 : decode Y_Sha_leastWays.2.1 24 = .ok (.ireturn, 1) := by decide +kernel
theorem d_Fir_refresh_0 : decode Y_Fir_refresh.2.1 0 = .ok (.aload_n 0, 1) := by decide +kernel
theorem d_Fir_refresh_1 : decode Y_Fir_refresh.2.1 1 = .ok (.getfield 19, 3) := by decide +kernel
theorem d_Fir_refresh_4 : decode Y_Fir_refresh.2.1 4 = .ok (.aload_n 0, 1) := by decide +kernel
theorem d_Fir_refresh_5 : decode Y_Fir_refresh.2.1 5 = .ok (.getfield 28, 3) := by decide +kernel
theorem d_Fir_refresh_8 : decode Y_Fir_refresh.2.1 8 = .ok (.getfield 40, 3) := by decide +kernel
theorem d_Fir_refresh_11 : decode Y_Fir_refresh.2.1 11 = .ok (.if_icmp .ne 4, 3) := by decide +kernel
theorem d_Fir_refresh_14 : decode Y_Fir_refresh.2.1 14 = .ok (.return_, 1) := by decide +kernel
theorem d_Fir_refresh_15 : decode Y_Fir_refresh.2.1 15 = .ok (.aload_n 0, 1) := by decide +kernel
theorem d_Fir_refresh_16 : decode Y_Fir_refresh.2.1 16 = .ok (.aload_n 0, 1) := by decide +kernel
theorem d_Fir_refresh_17 : decode Y_Fir_refresh.2.1 17 = .ok (.getfield 28, 3) := by decide +kernel
theorem d_Fir_refresh_20 : decode Y_Fir_refresh.2.1 20 = .ok (.getfield 40, 3) := by decide +kernel
theorem d_Fir_refresh_23 : decode Y_Fir_refresh.2.1 23 = .ok (.putfield 19, 3) := by decide +kernel
theorem d_Fir_refresh_26 : decode Y_Fir_refresh.2.1 26 = .ok (.aload_n 0, 1) := by decide +kernel
theorem d_Fir_refresh_27 : decode Y_Fir_refresh.2.1 27 = .ok (.iconst 0, 1) := by decide +kernel
theorem d_Fir_refresh_28 : decode Y_Fir_refresh.2.1 28 = .ok (.putfield 15, 3) := by decide +kernel
theorem d_Fir_refresh_31 : decode Y_Fir_refresh.2.1 31 = .ok (.aload_n 0, 1) := by decide +kernel
theorem d_Fir_refresh_32 : decode Y_Fir_refresh.2.1 32 = .ok (.aload_n 0, 1) := by decide +kernel
theorem d_Fir_refresh_33 : decode Y_Fir_refresh.2.1 33 = .ok (.getfield 32, 3) := by decide +kernel
theorem d_Fir_refresh_36 : decode Y_Fir_refresh.2.1 36 = .ok (.invokevirtual 45, 3) := by decide +kernel
theorem d_Fir_refresh_39 : decode Y_Fir_refresh.2.1 39 = .ok (.putfield 22, 3) := by decide +kernel
theorem d_Fir_refresh_42 : decode Y_Fir_refresh.2.1 42 = .ok (.aload_n 0, 1) := by decide +kernel
theorem d_Fir_refresh_43 : decode Y_Fir_refresh.2.1 43 = .ok (.aload_n 0, 1) := by decide +kernel
theorem d_Fir_refresh_44 : decode Y_Fir_refresh.2.1 44 = .ok (.getfield 28, 3) := by decide +kernel
theorem d_Fir_refresh_47 : decode Y_Fir_refresh.2.1 47 = .ok (.invokevirtual 51, 3) := by decide +kernel
theorem d_Fir_refresh_50 : decode Y_Fir_refresh.2.1 50 = .ok (.putfield 25, 3) := by decide +kernel
theorem d_Fir_refresh_53 : decode Y_Fir_refresh.2.1 53 = .ok (.aload_n 0, 1) := by decide +kernel
theorem d_Fir_refresh_54 : decode Y_Fir_refresh.2.1 54 = .ok (.getfield 28, 3) := by decide +kernel
theorem d_Fir_refresh_57 : decode Y_Fir_refresh.2.1 57 = .ok (.getfield 54, 3) := by decide +kernel
theorem d_Fir_refresh_60 : decode Y_Fir_refresh.2.1 60 = .ok (.istore_n 1, 1) := by decide +kernel
theorem d_Fir_refresh_61 : decode Y_Fir_refresh.2.1 61 = .ok (.iload_n 1, 1) := by decide +kernel
theorem d_Fir_refresh_62 : decode Y_Fir_refresh.2.1 62 = .ok (.ifCond .le 56, 3) := by decide +kernel
theorem d_Fir_refresh_65 : decode Y_Fir_refresh.2.1 65 = .ok (.aload_n 0, 1) := by decide +kernel
theorem d_Fir_refresh_66 : decode Y_Fir_refresh.2.1 66 = .ok (.getfield 32, 3) := by decide +kernel
theorem d_Fir_refresh_69 : decode Y_Fir_refresh.2.1 69 = .ok (.getfield 57, 3) := by decide +kernel
theorem d_Fir_refresh_72 : decode Y_Fir_refresh.2.1 72 = .ok (.aload_n 0, 1) := by decide +kernel
theorem d_Fir_refresh_73 : decode Y_Fir_refresh.2.1 73 = .ok (.getfield 25, 3) := by decide +kernel
theorem d_Fir_refresh_76 : decode Y_Fir_refresh.2.1 76 = .ok (.iaload, 1) := by decide +kernel
theorem d_Fir_refresh_77 : decode Y_Fir_refresh.2.1 77 = .ok (.aload_n 0, 1) := by decide +kernel
theorem d_Fir_refresh_78 : decode Y_Fir_refresh.2.1 78 = .ok (.getfield 22, 3) := by decide +kernel
theorem d_Fir_refresh_81 : decode Y_Fir_refresh.2.1 81 = .ok (.if_icmp .eq 37, 3) := by decide +kernel
theorem d_Fir_refresh_84 : decode Y_Fir_refresh.2.1 84 = .ok (.aload_n 0, 1) := by decide +kernel
theorem d_Fir_refresh_85 : decode Y_Fir_refresh.2.1 85 = .ok (.getfield 15, 3) := by decide +kernel
theorem d_Fir_refresh_88 : decode Y_Fir_refresh.2.1 88 = .ok (.ifCond .le 8, 3) := by decide +kernel
theorem d_Fir_refresh_91 : decode Y_Fir_refresh.2.1 91 = .ok (.aload_n 0, 1) := by decide +kernel
theorem d_Fir_refresh_92 : decode Y_Fir_refresh.2.1 92 = .ok (.iconst 0, 1) := by decide +kernel
theorem d_Fir_refresh_93 : decode Y_Fir_refresh.2.1 93 = .ok (.invokevirtual 60, 3) := by decide +kernel
theorem d_Fir_refresh_96 : decode Y_Fir_refresh.2.1 96 = .ok (.aload_n 0, 1) := by decide +kernel
theorem d_Fir_refresh_97 : decode Y_Fir_refresh.2.1 97 = .ok (.getfield 36, 3) := by decide +kernel
theorem d_Fir_refresh_100 : decode Y_Fir_refresh.2.1 100 = .ok (.aload_n 0, 1) := by decide +kernel
theorem d_Fir_refresh_101 : decode Y_Fir_refresh.2.1 101 = .ok (.getfield 25, 3) := by decide +kernel
theorem d_Fir_refresh_104 : decode Y_Fir_refresh.2.1 104 = .ok (.iload_n 1, 1) := by decide +kernel
theorem d_Fir_refresh_105 : decode Y_Fir_refresh.2.1 105 = .ok (.invokevirtual 64, 3) := by decide +kernel
theorem d_Fir_refresh_108 : decode Y_Fir_refresh.2.1 108 = .ok (.aload_n 0, 1) := by decide +kernel
theorem d_Fir_refresh_109 : decode Y_Fir_refresh.2.1 109 = .ok (.invokevirtual 70, 3) := by decide +kernel
theorem d_Fir_refresh_112 : decode Y_Fir_refresh.2.1 112 = .ok (.iinc 1 (-1), 3) := by decide +kernel
theorem d_Fir_refresh_115 : decode Y_Fir_refresh.2.1 115 = .ok (.goto (-54), 3) := by decide +kernel
theorem d_Fir_refresh_118 : decode Y_Fir_refresh.2.1 118 = .ok (.return_, 1) := by decide +kernel
theorem d_Fir_write_0 : decode Y_Fir_write.2.1 0 = .ok (.aload_n 0, 1) := by decide +kernel
theorem d_Fir_write_1 : decode Y_Fir_write.2.1 1 = .ok (.getfield 15, 3) := by decide +kernel
theorem d_Fir_write_4 : decode Y_Fir_write.2.1 4 = .ok (.aload_n 0, 1) := by decide +kernel
theorem d_Fir_write_5 : decode Y_Fir_write.2.1 5 = .ok (.getfield 9, 3) := by decide +kernel
theorem d_Fir_write_8 : decode Y_Fir_write.2.1 8 = .ok (.arraylength, 1) := by decide +kernel
theorem d_Fir_write_9 : decode Y_Fir_write.2.1 9 = .ok (.if_icmp .ge 23, 3) := by decide +kernel
theorem d_Fir_write_12 : decode Y_Fir_write.2.1 12 = .ok (.aload_n 0, 1) := by decide +kernel
theorem d_Fir_write_13 : decode Y_Fir_write.2.1 13 = .ok (.getfield 9, 3) := by decide +kernel
theorem d_Fir_write_16 : decode Y_Fir_write.2.1 16 = .ok (.aload_n 0, 1) := by decide +kernel
theorem d_Fir_write_17 : decode Y_Fir_write.2.1 17 = .ok (.getfield 15, 3) := by decide +kernel
theorem d_Fir_write_20 : decode Y_Fir_write.2.1 20 = .ok (.iload_n 1, 1) := by decide +kernel
theorem d_Fir_write_21 : decode Y_Fir_write.2.1 21 = .ok (.iastore, 1) := by decide +kernel
theorem d_Fir_write_22 : decode Y_Fir_write.2.1 22 = .ok (.aload_n 0, 1) := by decide +kernel
theorem d_Fir_write_23 : decode Y_Fir_write.2.1 23 = .ok (.dup, 1) := by decide +kernel
theorem d_Fir_write_24 : decode Y_Fir_write.2.1 24 = .ok (.getfield 15, 3) := by decide +kernel
theorem d_Fir_write_27 : decode Y_Fir_write.2.1 27 = .ok (.iconst 1, 1) := by decide +kernel
theorem d_Fir_write_28 : decode Y_Fir_write.2.1 28 = .ok (.iadd, 1) := by decide +kernel
theorem d_Fir_write_29 : decode Y_Fir_write.2.1 29 = .ok (.putfield 15, 3) := by decide +kernel
theorem d_Fir_write_32 : decode Y_Fir_write.2.1 32 = .ok (.return_, 1) := by decide +kernel
theorem d_Tai_fill_0 : decode Y_Tai_fill.2.1 0 = .ok (.aload_n 0, 1) := by decide +kernel
theorem d_Tai_fill_1 : decode Y_Tai_fill.2.1 1 = .ok (.getfield 19, 3) := by decide +kernel
theorem d_Tai_fill_4 : decode Y_Tai_fill.2.1 4 = .ok (.aload_n 0, 1) := by decide +kernel
theorem d_Tai_fill_5 : decode Y_Tai_fill.2.1 5 = .ok (.getfield 29, 3) := by decide +kernel
theorem d_Tai_fill_8 : decode Y_Tai_fill.2.1 8 = .ok (.getfield 41, 3) := by decide +kernel
theorem d_Tai_fill_11 : decode Y_Tai_fill.2.1 11 = .ok (.if_icmp .ne 20, 3) := by decide +kernel
theorem d_Tai_fill_14 : decode Y_Tai_fill.2.1 14 = .ok (.aload_n 0, 1) := by decide +kernel
theorem d_Tai_fill_15 : decode Y_Tai_fill.2.1 15 = .ok (.getfield 23, 3) := by decide +kernel
theorem d_Tai_fill_18 : decode Y_Tai_fill.2.1 18 = .ok (.iload_n 1, 1) := by decide +kernel
theorem d_Tai_fill_19 : decode Y_Tai_fill.2.1 19 = .ok (.if_icmp .ne 12, 3) := by decide +kernel
theorem d_Tai_fill_22 : decode Y_Tai_fill.2.1 22 = .ok (.aload_n 0, 1) := by decide +kernel
theorem d_Tai_fill_23 : decode Y_Tai_fill.2.1 23 = .ok (.getfield 26, 3) := by decide +kernel
theorem d_Tai_fill_26 : decode Y_Tai_fill.2.1 26 = .ok (.iload_n 2, 1) := by decide +kernel
theorem d_Tai_fill_27 : decode Y_Tai_fill.2.1 27 = .ok (.if_icmp .ne 4, 3) := by decide +kernel
theorem d_Tai_fill_30 : decode Y_Tai_fill.2.1 30 = .ok (.return_, 1) := by decide +kernel
theorem d_Tai_fill_31 : decode Y_Tai_fill.2.1 31 = .ok (.aload_n 0, 1) := by decide +kernel
theorem d_Tai_fill_32 : decode Y_Tai_fill.2.1 32 = .ok (.aload_n 0, 1) := by decide +kernel
theorem d_Tai_fill_33 : decode Y_Tai_fill.2.1 33 = .ok (.getfield 29, 3) := by decide +kernel
theorem d_Tai_fill_36 : decode Y_Tai_fill.2.1 36 = .ok (.getfield 41, 3) := by decide +kernel
theorem d_Tai_fill_39 : decode Y_Tai_fill.2.1 39 = .ok (.putfield 19, 3) := by decide +kernel
theorem d_Tai_fill_42 : decode Y_Tai_fill.2.1 42 = .ok (.aload_n 0, 1) := by decide +kernel
theorem d_Tai_fill_43 : decode Y_Tai_fill.2.1 43 = .ok (.iload_n 1, 1) := by decide +kernel
theorem d_Tai_fill_44 : decode Y_Tai_fill.2.1 44 = .ok (.putfield 23, 3) := by decide +kernel
theorem d_Tai_fill_47 : decode Y_Tai_fill.2.1 47 = .ok (.aload_n 0, 1) := by decide +kernel
theorem d_Tai_fill_48 : decode Y_Tai_fill.2.1 48 = .ok (.iload_n 2, 1) := by decide +kernel
theorem d_Tai_fill_49 : decode Y_Tai_fill.2.1 49 = .ok (.putfield 26, 3) := by decide +kernel
theorem d_Tai_fill_52 : decode Y_Tai_fill.2.1 52 = .ok (.aload_n 0, 1) := by decide +kernel
theorem d_Tai_fill_53 : decode Y_Tai_fill.2.1 53 = .ok (.getfield 23, 3) := by decide +kernel
theorem d_Tai_fill_56 : decode Y_Tai_fill.2.1 56 = .ok (.istore_n 3, 1) := by decide +kernel
theorem d_Tai_fill_57 : decode Y_Tai_fill.2.1 57 = .ok (.iload_n 3, 1) := by decide +kernel
theorem d_Tai_fill_58 : decode Y_Tai_fill.2.1 58 = .ok (.ifCond .le 65, 3) := by decide +kernel
theorem d_Tai_fill_61 : decode Y_Tai_fill.2.1 61 = .ok (.iconst 1, 1) := by decide +kernel
theorem d_Tai_fill_62 : decode Y_Tai_fill.2.1 62 = .ok (.istore 4, 2) := by decide +kernel
theorem d_Tai_fill_64 : decode Y_Tai_fill.2.1 64 = .ok (.iload 4, 2) := by decide +kernel
theorem d_Tai_fill_66 : decode Y_Tai_fill.2.1 66 = .ok (.aload_n 0, 1) := by decide +kernel
theorem d_Tai_fill_67 : decode Y_Tai_fill.2.1 67 = .ok (.getfield 29, 3) := by decide +kernel
theorem d_Tai_fill_70 : decode Y_Tai_fill.2.1 70 = .ok (.getfield 46, 3) := by decide +kernel
theorem d_Tai_fill_73 : decode Y_Tai_fill.2.1 73 = .ok (.if_icmp .ge 38, 3) := by decide +kernel
theorem d_Tai_fill_76 : decode Y_Tai_fill.2.1 76 = .ok (.iload_n 3, 1) := by decide +kernel
theorem d_Tai_fill_77 : decode Y_Tai_fill.2.1 77 = .ok (.iload 4, 2) := by decide +kernel
theorem d_Tai_fill_79 : decode Y_Tai_fill.2.1 79 = .ok (.invokestatic 49, 3) := by decide +kernel
theorem d_Tai_fill_82 : decode Y_Tai_fill.2.1 82 = .ok (.iand, 1) := by decide +kernel
theorem d_Tai_fill_83 : decode Y_Tai_fill.2.1 83 = .ok (.ifCond .eq 22, 3) := by decide +kernel
theorem d_Tai_fill_86 : decode Y_Tai_fill.2.1 86 = .ok (.aload_n 0, 1) := by decide +kernel
theorem d_Tai_fill_87 : decode Y_Tai_fill.2.1 87 = .ok (.getfield 9, 3) := by decide +kernel
theorem d_Tai_fill_90 : decode Y_Tai_fill.2.1 90 = .ok (.iload_n 3, 1) := by decide +kernel
theorem d_Tai_fill_91 : decode Y_Tai_fill.2.1 91 = .ok (.bipush 9, 2) := by decide +kernel
theorem d_Tai_fill_93 : decode Y_Tai_fill.2.1 93 = .ok (.imul, 1) := by decide +kernel
theorem d_Tai_fill_94 : decode Y_Tai_fill.2.1 94 = .ok (.iload 4, 2) := by decide +kernel
theorem d_Tai_fill_96 : decode Y_Tai_fill.2.1 96 = .ok (.iadd, 1) := by decide +kernel
theorem d_Tai_fill_97 : decode Y_Tai_fill.2.1 97 = .ok (.aload_n 0, 1) := by decide +kernel
theorem d_Tai_fill_98 : decode Y_Tai_fill.2.1 98 = .ok (.iload_n 3, 1) := by decide +kernel
theorem d_Tai_fill_99 : decode Y_Tai_fill.2.1 99 = .ok (.iload 4, 2) := by decide +kernel
theorem d_Tai_fill_101 : decode Y_Tai_fill.2.1 101 = .ok (.invokevirtual 53, 3) := by decide +kernel
theorem d_Tai_fill_104 : decode Y_Tai_fill.2.1 104 = .ok (.iastore, 1) := by decide +kernel
theorem d_Tai_fill_105 : decode Y_Tai_fill.2.1 105 = .ok (.iinc 4 1, 3) := by decide +kernel
theorem d_Tai_fill_108 : decode Y_Tai_fill.2.1 108 = .ok (.goto (-44), 3) := by decide +kernel
theorem d_Tai_fill_111 : decode Y_Tai_fill.2.1 111 = .ok (.iload_n 3, 1) := by decide +kernel
theorem d_Tai_fill_112 : decode Y_Tai_fill.2.1 112 = .ok (.iconst 1, 1) := by decide +kernel
theorem d_Tai_fill_113 : decode Y_Tai_fill.2.1 113 = .ok (.isub, 1) := by decide +kernel
theorem d_Tai_fill_114 : decode Y_Tai_fill.2.1 114 = .ok (.aload_n 0, 1) := by decide +kernel
theorem d_Tai_fill_115 : decode Y_Tai_fill.2.1 115 = .ok (.getfield 23, 3) := by decide +kernel
theorem d_Tai_fill_118 : decode Y_Tai_fill.2.1 118 = .ok (.iand, 1) := by decide +kernel
theorem d_Tai_fill_119 : decode Y_Tai_fill.2.1 119 = .ok (.istore_n 3, 1) := by decide +kernel
theorem d_Tai_fill_120 : decode Y_Tai_fill.2.1 120 = .ok (.goto (-63), 3) := by decide +kernel
theorem d_Tai_fill_123 : decode Y_Tai_fill.2.1 123 = .ok (.return_, 1) := by decide +kernel
theorem d_Tai_leastBehind_0 : decode Y_Tai_leastBehind.2.1 0 = .ok (.aload_n 0, 1) := by decide +kernel
theorem d_Tai_leastBehind_1 : decode Y_Tai_leastBehind.2.1 1 = .ok (.iload_n 1, 1) := by decide +kernel
theorem d_Tai_leastBehind_2 : decode Y_Tai_leastBehind.2.1 2 = .ok (.iload_n 2, 1) := by decide +kernel
theorem d_Tai_leastBehind_3 : decode Y_Tai_leastBehind.2.1 3 = .ok (.invokevirtual 75, 3) := by decide +kernel
theorem d_Tai_leastBehind_6 : decode Y_Tai_leastBehind.2.1 6 = .ok (.istore_n 3, 1) := by decide +kernel
theorem d_Tai_leastBehind_7 : decode Y_Tai_leastBehind.2.1 7 = .ok (.aload_n 0, 1) := by decide +kernel
theorem d_Tai_leastBehind_8 : decode Y_Tai_leastBehind.2.1 8 = .ok (.getfield 33, 3) := by decide +kernel
theorem d_Tai_leastBehind_11 : decode Y_Tai_leastBehind.2.1 11 = .ok (.getfield 57, 3) := by decide +kernel
theorem d_Tai_leastBehind_14 : decode Y_Tai_leastBehind.2.1 14 = .ok (.iload_n 1, 1) := by decide +kernel
theorem d_Tai_leastBehind_15 : decode Y_Tai_leastBehind.2.1 15 = .ok (.iaload, 1) := by decide +kernel
theorem d_Tai_leastBehind_16 : decode Y_Tai_leastBehind.2.1 16 = .ok (.aload_n 0, 1) := by decide +kernel
theorem d_Tai_leastBehind_17 : decode Y_Tai_leastBehind.2.1 17 = .ok (.getfield 23, 3) := by decide +kernel
theorem d_Tai_leastBehind_20 : decode Y_Tai_leastBehind.2.1 20 = .ok (.iand, 1) := by decide +kernel
theorem d_Tai_leastBehind_21 : decode Y_Tai_leastBehind.2.1 21 = .ok (.istore 4, 2) := by decide +kernel
theorem d_Tai_leastBehind_23 : decode Y_Tai_leastBehind.2.1 23 = .ok (.iconst 1, 1) := by decide +kernel
theorem d_Tai_leastBehind_24 : decode Y_Tai_leastBehind.2.1 24 = .ok (.istore 5, 2) := by decide +kernel
theorem d_Tai_leastBehind_26 : decode Y_Tai_leastBehind.2.1 26 = .ok (.iload 5, 2) := by decide +kernel
theorem d_Tai_leastBehind_28 : decode Y_Tai_leastBehind.2.1 28 = .ok (.aload_n 0, 1) := by decide +kernel
theorem d_Tai_leastBehind_29 : decode Y_Tai_leastBehind.2.1 29 = .ok (.getfield 29, 3) := by decide +kernel
theorem d_Tai_leastBehind_32 : decode Y_Tai_leastBehind.2.1 32 = .ok (.getfield 46, 3) := by decide +kernel
theorem d_Tai_leastBehind_35 : decode Y_Tai_leastBehind.2.1 35 = .ok (.if_icmp .ge 33, 3) := by decide +kernel
theorem d_Tai_leastBehind_38 : decode Y_Tai_leastBehind.2.1 38 = .ok (.iload 4, 2) := by decide +kernel
theorem d_Tai_leastBehind_40 : decode Y_Tai_leastBehind.2.1 40 = .ok (.iload 5, 2) := by decide +kernel
theorem d_Tai_leastBehind_42 : decode Y_Tai_leastBehind.2.1 42 = .ok (.invokestatic 49, 3) := by decide +kernel
theorem d_Tai_leastBehind_45 : decode Y_Tai_leastBehind.2.1 45 = .ok (.iand, 1) := by decide +kernel
theorem d_Tai_leastBehind_46 : decode Y_Tai_leastBehind.2.1 46 = .ok (.ifCond .eq 16, 3) := by decide +kernel
theorem d_Tai_leastBehind_49 : decode Y_Tai_leastBehind.2.1 49 = .ok (.iload_n 3, 1) := by decide +kernel
theorem d_Tai_leastBehind_50 : decode Y_Tai_leastBehind.2.1 50 = .ok (.aload_n 0, 1) := by decide +kernel
theorem d_Tai_leastBehind_51 : decode Y_Tai_leastBehind.2.1 51 = .ok (.iload_n 1, 1) := by decide +kernel
theorem d_Tai_leastBehind_52 : decode Y_Tai_leastBehind.2.1 52 = .ok (.iload_n 2, 1) := by decide +kernel
theorem d_Tai_leastBehind_53 : decode Y_Tai_leastBehind.2.1 53 = .ok (.iload 5, 2) := by decide +kernel
theorem d_Tai_leastBehind_55 : decode Y_Tai_leastBehind.2.1 55 = .ok (.invokevirtual 78, 3) := by decide +kernel
theorem d_Tai_leastBehind_58 : decode Y_Tai_leastBehind.2.1 58 = .ok (.invokestatic 82, 3) := by decide +kernel
theorem d_Tai_leastBehind_61 : decode Y_Tai_leastBehind.2.1 61 = .ok (.istore_n 3, 1) := by decide +kernel
theorem d_Tai_leastBehind_62 : decode Y_Tai_leastBehind.2.1 62 = .ok (.iinc 5 1, 3) := by decide +kernel
theorem d_Tai_leastBehind_65 : decode Y_Tai_leastBehind.2.1 65 = .ok (.goto (-39), 3) := by decide +kernel
theorem d_Tai_leastBehind_68 : decode Y_Tai_leastBehind.2.1 68 = .ok (.iload_n 3, 1) := by decide +kernel
theorem d_Tai_leastBehind_69 : decode Y_Tai_leastBehind.2.1 69 = .ok (.ireturn, 1) := by decide +kernel
theorem d_Tai_costClosing_0 : decode Y_Tai_costClosing.2.1 0 = .ok (.aload_n 0, 1) := by decide +kernel
theorem d_Tai_costClosing_1 : decode Y_Tai_costClosing.2.1 1 = .ok (.getfield 29, 3) := by decide +kernel
theorem d_Tai_costClosing_4 : decode Y_Tai_costClosing.2.1 4 = .ok (.iload_n 2, 1) := by decide +kernel
theorem d_Tai_costClosing_5 : decode Y_Tai_costClosing.2.1 5 = .ok (.invokevirtual 69, 3) := by decide +kernel
theorem d_Tai_costClosing_8 : decode Y_Tai_costClosing.2.1 8 = .ok (.aload_n 0, 1) := by decide +kernel
theorem d_Tai_costClosing_9 : decode Y_Tai_costClosing.2.1 9 = .ok (.getfield 37, 3) := by decide +kernel
theorem d_Tai_costClosing_12 : decode Y_Tai_costClosing.2.1 12 = .ok (.getfield 72, 3) := by decide +kernel
theorem d_Tai_costClosing_15 : decode Y_Tai_costClosing.2.1 15 = .ok (.aload_n 0, 1) := by decide +kernel
theorem d_Tai_costClosing_16 : decode Y_Tai_costClosing.2.1 16 = .ok (.getfield 26, 3) := by decide +kernel
theorem d_Tai_costClosing_19 : decode Y_Tai_costClosing.2.1 19 = .ok (.iconst 1, 1) := by decide +kernel
theorem d_Tai_costClosing_20 : decode Y_Tai_costClosing.2.1 20 = .ok (.isub, 1) := by decide +kernel
theorem d_Tai_costClosing_21 : decode Y_Tai_costClosing.2.1 21 = .ok (.sipush 256, 3) := by decide +kernel
theorem d_Tai_costClosing_24 : decode Y_Tai_costClosing.2.1 24 = .ok (.imul, 1) := by decide +kernel
theorem d_Tai_costClosing_25 : decode Y_Tai_costClosing.2.1 25 = .ok (.aload_n 0, 1) := by decide +kernel
theorem d_Tai_costClosing_26 : decode Y_Tai_costClosing.2.1 26 = .ok (.getfield 23, 3) := by decide +kernel
theorem d_Tai_costClosing_29 : decode Y_Tai_costClosing.2.1 29 = .ok (.iload_n 1, 1) := by decide +kernel
theorem d_Tai_costClosing_30 : decode Y_Tai_costClosing.2.1 30 = .ok (.iconst (-1), 1) := by decide +kernel
theorem d_Tai_costClosing_31 : decode Y_Tai_costClosing.2.1 31 = .ok (.ixor, 1) := by decide +kernel
theorem d_Tai_costClosing_32 : decode Y_Tai_costClosing.2.1 32 = .ok (.iand, 1) := by decide +kernel
theorem d_Tai_costClosing_33 : decode Y_Tai_costClosing.2.1 33 = .ok (.iadd, 1) := by decide +kernel
theorem d_Tai_costClosing_34 : decode Y_Tai_costClosing.2.1 34 = .ok (.iaload, 1) := by decide +kernel
theorem d_Tai_costClosing_35 : decode Y_Tai_costClosing.2.1 35 = .ok (.invokestatic 66, 3) := by decide +kernel
theorem d_Tai_costClosing_38 : decode Y_Tai_costClosing.2.1 38 = .ok (.ireturn, 1) := by decide +kernel
theorem d_Tai_costOver_0 : decode Y_Tai_costOver.2.1 0 = .ok (.aload_n 0, 1) := by decide +kernel
theorem d_Tai_costOver_1 : decode Y_Tai_costOver.2.1 1 = .ok (.getfield 33, 3) := by decide +kernel
theorem d_Tai_costOver_4 : decode Y_Tai_costOver.2.1 4 = .ok (.getfield 57, 3) := by decide +kernel
theorem d_Tai_costOver_7 : decode Y_Tai_costOver.2.1 7 = .ok (.iload_n 1, 1) := by decide +kernel
theorem d_Tai_costOver_8 : decode Y_Tai_costOver.2.1 8 = .ok (.iaload, 1) := by decide +kernel
theorem d_Tai_costOver_9 : decode Y_Tai_costOver.2.1 9 = .ok (.aload_n 0, 1) := by decide +kernel
theorem d_Tai_costOver_10 : decode Y_Tai_costOver.2.1 10 = .ok (.getfield 23, 3) := by decide +kernel
theorem d_Tai_costOver_13 : decode Y_Tai_costOver.2.1 13 = .ok (.iand, 1) := by decide +kernel
theorem d_Tai_costOver_14 : decode Y_Tai_costOver.2.1 14 = .ok (.iload_n 3, 1) := by decide +kernel
theorem d_Tai_costOver_15 : decode Y_Tai_costOver.2.1 15 = .ok (.invokestatic 49, 3) := by decide +kernel
theorem d_Tai_costOver_18 : decode Y_Tai_costOver.2.1 18 = .ok (.iand, 1) := by decide +kernel
theorem d_Tai_costOver_19 : decode Y_Tai_costOver.2.1 19 = .ok (.ifCond .ne 6, 3) := by decide +kernel
theorem d_Tai_costOver_22 : decode Y_Tai_costOver.2.1 22 = .ok (.ldc 62, 2) := by decide +kernel
theorem d_Tai_costOver_24 : decode Y_Tai_costOver.2.1 24 = .ok (.ireturn, 1) := by decide +kernel
theorem d_Tai_costOver_25 : decode Y_Tai_costOver.2.1 25 = .ok (.aload_n 0, 1) := by decide +kernel
theorem d_Tai_costOver_26 : decode Y_Tai_costOver.2.1 26 = .ok (.getfield 29, 3) := by decide +kernel
theorem d_Tai_costOver_29 : decode Y_Tai_costOver.2.1 29 = .ok (.getfield 63, 3) := by decide +kernel
theorem d_Tai_costOver_32 : decode Y_Tai_costOver.2.1 32 = .ok (.iload_n 2, 1) := by decide +kernel
theorem d_Tai_costOver_33 : decode Y_Tai_costOver.2.1 33 = .ok (.bipush 9, 2) := by decide +kernel
theorem d_Tai_costOver_35 : decode Y_Tai_costOver.2.1 35 = .ok (.imul, 1) := by decide +kernel
theorem d_Tai_costOver_36 : decode Y_Tai_costOver.2.1 36 = .ok (.iload_n 3, 1) := by decide +kernel
theorem d_Tai_costOver_37 : decode Y_Tai_costOver.2.1 37 = .ok (.iadd, 1) := by decide +kernel
theorem d_Tai_costOver_38 : decode Y_Tai_costOver.2.1 38 = .ok (.iaload, 1) := by decide +kernel
theorem d_Tai_costOver_39 : decode Y_Tai_costOver.2.1 39 = .ok (.aload_n 0, 1) := by decide +kernel
theorem d_Tai_costOver_40 : decode Y_Tai_costOver.2.1 40 = .ok (.getfield 9, 3) := by decide +kernel
theorem d_Tai_costOver_43 : decode Y_Tai_costOver.2.1 43 = .ok (.iload_n 1, 1) := by decide +kernel
theorem d_Tai_costOver_44 : decode Y_Tai_costOver.2.1 44 = .ok (.iload_n 3, 1) := by decide +kernel
theorem d_Tai_costOver_45 : decode Y_Tai_costOver.2.1 45 = .ok (.invokestatic 49, 3) := by decide +kernel
theorem d_Tai_costOver_48 : decode Y_Tai_costOver.2.1 48 = .ok (.ior, 1) := by decide +kernel
theorem d_Tai_costOver_49 : decode Y_Tai_costOver.2.1 49 = .ok (.bipush 9, 2) := by decide +kernel
theorem d_Tai_costOver_51 : decode Y_Tai_costOver.2.1 51 = .ok (.imul, 1) := by decide +kernel
theorem d_Tai_costOver_52 : decode Y_Tai_costOver.2.1 52 = .ok (.iload_n 3, 1) := by decide +kernel
theorem d_Tai_costOver_53 : decode Y_Tai_costOver.2.1 53 = .ok (.iadd, 1) := by decide +kernel
theorem d_Tai_costOver_54 : decode Y_Tai_costOver.2.1 54 = .ok (.iaload, 1) := by decide +kernel
theorem d_Tai_costOver_55 : decode Y_Tai_costOver.2.1 55 = .ok (.invokestatic 66, 3) := by decide +kernel
theorem d_Tai_costOver_58 : decode Y_Tai_costOver.2.1 58 = .ok (.ireturn, 1) := by decide +kernel
theorem d_Fir_writeRound_0 : decode Y_Fir_writeRound.2.1 0 = .ok (.iconst 0, 1) := by decide +kernel
theorem d_Fir_writeRound_1 : decode Y_Fir_writeRound.2.1 1 = .ok (.istore_n 1, 1) := by decide +kernel
theorem d_Fir_writeRound_2 : decode Y_Fir_writeRound.2.1 2 = .ok (.iconst 0, 1) := by decide +kernel
theorem d_Fir_writeRound_3 : decode Y_Fir_writeRound.2.1 3 = .ok (.istore_n 2, 1) := by decide +kernel
theorem d_Fir_writeRound_4 : decode Y_Fir_writeRound.2.1 4 = .ok (.iconst 0, 1) := by decide +kernel
theorem d_Fir_writeRound_5 : decode Y_Fir_writeRound.2.1 5 = .ok (.istore_n 3, 1) := by decide +kernel
theorem d_Fir_writeRound_6 : decode Y_Fir_writeRound.2.1 6 = .ok (.iload_n 3, 1) := by decide +kernel
theorem d_Fir_writeRound_7 : decode Y_Fir_writeRound.2.1 7 = .ok (.bipush 9, 2) := by decide +kernel
theorem d_Fir_writeRound_9 : decode Y_Fir_writeRound.2.1 9 = .ok (.if_icmp .ge 89, 3) := by decide +kernel
theorem d_Fir_writeRound_12 : decode Y_Fir_writeRound.2.1 12 = .ok (.iload_n 1, 1) := by decide +kernel
theorem d_Fir_writeRound_13 : decode Y_Fir_writeRound.2.1 13 = .ok (.ifCond .eq 22, 3) := by decide +kernel
theorem d_Fir_writeRound_16 : decode Y_Fir_writeRound.2.1 16 = .ok (.aload_n 0, 1) := by decide +kernel
theorem d_Fir_writeRound_17 : decode Y_Fir_writeRound.2.1 17 = .ok (.getfield 36, 3) := by decide +kernel
theorem d_Fir_writeRound_20 : decode Y_Fir_writeRound.2.1 20 = .ok (.iload_n 1, 1) := by decide +kernel
theorem d_Fir_writeRound_21 : decode Y_Fir_writeRound.2.1 21 = .ok (.iload_n 2, 1) := by decide +kernel
theorem d_Fir_writeRound_22 : decode Y_Fir_writeRound.2.1 22 = .ok (.invokevirtual 73, 3) := by decide +kernel
theorem d_Fir_writeRound_25 : decode Y_Fir_writeRound.2.1 25 = .ok (.aload_n 0, 1) := by decide +kernel
theorem d_Fir_writeRound_26 : decode Y_Fir_writeRound.2.1 26 = .ok (.getfield 22, 3) := by decide +kernel
theorem d_Fir_writeRound_29 : decode Y_Fir_writeRound.2.1 29 = .ok (.if_icmp .ne 6, 3) := by decide +kernel
theorem d_Fir_writeRound_32 : decode Y_Fir_writeRound.2.1 32 = .ok (.goto 66, 3) := by decide +kernel
theorem d_Fir_writeRound_35 : decode Y_Fir_writeRound.2.1 35 = .ok (.aload_n 0, 1) := by decide +kernel
theorem d_Fir_writeRound_36 : decode Y_Fir_writeRound.2.1 36 = .ok (.iload_n 1, 1) := by decide +kernel
theorem d_Fir_writeRound_37 : decode Y_Fir_writeRound.2.1 37 = .ok (.iload_n 2, 1) := by decide +kernel
theorem d_Fir_writeRound_38 : decode Y_Fir_writeRound.2.1 38 = .ok (.invokevirtual 77, 3) := by decide +kernel
theorem d_Fir_writeRound_41 : decode Y_Fir_writeRound.2.1 41 = .ok (.istore 4, 2) := by decide +kernel
theorem d_Fir_writeRound_43 : decode Y_Fir_writeRound.2.1 43 = .ok (.iload 4, 2) := by decide +kernel
theorem d_Fir_writeRound_45 : decode Y_Fir_writeRound.2.1 45 = .ok (.ifCond .ne 6, 3) := by decide +kernel
theorem d_Fir_writeRound_48 : decode Y_Fir_writeRound.2.1 48 = .ok (.goto 50, 3) := by decide +kernel
theorem d_Fir_writeRound_51 : decode Y_Fir_writeRound.2.1 51 = .ok (.aload_n 0, 1) := by decide +kernel
theorem d_Fir_writeRound_52 : decode Y_Fir_writeRound.2.1 52 = .ok (.iload 4, 2) := by decide +kernel
theorem d_Fir_writeRound_54 : decode Y_Fir_writeRound.2.1 54 = .ok (.invokevirtual 60, 3) := by decide +kernel
theorem d_Fir_writeRound_57 : decode Y_Fir_writeRound.2.1 57 = .ok (.aload_n 0, 1) := by decide +kernel
theorem d_Fir_writeRound_58 : decode Y_Fir_writeRound.2.1 58 = .ok (.dup, 1) := by decide +kernel
theorem d_Fir_writeRound_59 : decode Y_Fir_writeRound.2.1 59 = .ok (.getfield 22, 3) := by decide +kernel
theorem d_Fir_writeRound_62 : decode Y_Fir_writeRound.2.1 62 = .ok (.aload_n 0, 1) := by decide +kernel
theorem d_Fir_writeRound_63 : decode Y_Fir_writeRound.2.1 63 = .ok (.getfield 28, 3) := by decide +kernel
theorem d_Fir_writeRound_66 : decode Y_Fir_writeRound.2.1 66 = .ok (.getfield 80, 3) := by decide +kernel
theorem d_Fir_writeRound_69 : decode Y_Fir_writeRound.2.1 69 = .ok (.iload_n 2, 1) := by decide +kernel
theorem d_Fir_writeRound_70 : decode Y_Fir_writeRound.2.1 70 = .ok (.bipush 9, 2) := by decide +kernel
theorem d_Fir_writeRound_72 : decode Y_Fir_writeRound.2.1 72 = .ok (.imul, 1) := by decide +kernel
theorem d_Fir_writeRound_73 : decode Y_Fir_writeRound.2.1 73 = .ok (.iload 4, 2) := by decide +kernel
theorem d_Fir_writeRound_75 : decode Y_Fir_writeRound.2.1 75 = .ok (.iadd, 1) := by decide +kernel
theorem d_Fir_writeRound_76 : decode Y_Fir_writeRound.2.1 76 = .ok (.iaload, 1) := by decide +kernel
theorem d_Fir_writeRound_77 : decode Y_Fir_writeRound.2.1 77 = .ok (.isub, 1) := by decide +kernel
theorem d_Fir_writeRound_78 : decode Y_Fir_writeRound.2.1 78 = .ok (.putfield 22, 3) := by decide +kernel
theorem d_Fir_writeRound_81 : decode Y_Fir_writeRound.2.1 81 = .ok (.iload_n 1, 1) := by decide +kernel
theorem d_Fir_writeRound_82 : decode Y_Fir_writeRound.2.1 82 = .ok (.iload 4, 2) := by decide +kernel
theorem d_Fir_writeRound_84 : decode Y_Fir_writeRound.2.1 84 = .ok (.invokestatic 83, 3) := by decide +kernel
theorem d_Fir_writeRound_87 : decode Y_Fir_writeRound.2.1 87 = .ok (.ior, 1) := by decide +kernel
theorem d_Fir_writeRound_88 : decode Y_Fir_writeRound.2.1 88 = .ok (.istore_n 1, 1) := by decide +kernel
theorem d_Fir_writeRound_89 : decode Y_Fir_writeRound.2.1 89 = .ok (.iload 4, 2) := by decide +kernel
theorem d_Fir_writeRound_91 : decode Y_Fir_writeRound.2.1 91 = .ok (.istore_n 2, 1) := by decide +kernel
theorem d_Fir_writeRound_92 : decode Y_Fir_writeRound.2.1 92 = .ok (.iinc 3 1, 3) := by decide +kernel
theorem d_Fir_writeRound_95 : decode Y_Fir_writeRound.2.1 95 = .ok (.goto (-89), 3) := by decide +kernel
theorem d_Fir_writeRound_98 : decode Y_Fir_writeRound.2.1 98 = .ok (.aload_n 0, 1) := by decide +kernel
theorem d_Fir_writeRound_99 : decode Y_Fir_writeRound.2.1 99 = .ok (.dup, 1) := by decide +kernel
theorem d_Fir_writeRound_100 : decode Y_Fir_writeRound.2.1 100 = .ok (.getfield 22, 3) := by decide +kernel
theorem d_Fir_writeRound_103 : decode Y_Fir_writeRound.2.1 103 = .ok (.aload_n 0, 1) := by decide +kernel
theorem d_Fir_writeRound_104 : decode Y_Fir_writeRound.2.1 104 = .ok (.getfield 28, 3) := by decide +kernel
theorem d_Fir_writeRound_107 : decode Y_Fir_writeRound.2.1 107 = .ok (.iload_n 2, 1) := by decide +kernel
theorem d_Fir_writeRound_108 : decode Y_Fir_writeRound.2.1 108 = .ok (.invokevirtual 87, 3) := by decide +kernel
theorem d_Fir_writeRound_111 : decode Y_Fir_writeRound.2.1 111 = .ok (.isub, 1) := by decide +kernel
theorem d_Fir_writeRound_112 : decode Y_Fir_writeRound.2.1 112 = .ok (.putfield 22, 3) := by decide +kernel
theorem d_Fir_writeRound_115 : decode Y_Fir_writeRound.2.1 115 = .ok (.aload_n 0, 1) := by decide +kernel
theorem d_Fir_writeRound_116 : decode Y_Fir_writeRound.2.1 116 = .ok (.dup, 1) := by decide +kernel
theorem d_Fir_writeRound_117 : decode Y_Fir_writeRound.2.1 117 = .ok (.getfield 25, 3) := by decide +kernel
theorem d_Fir_writeRound_120 : decode Y_Fir_writeRound.2.1 120 = .ok (.iload_n 1, 1) := by decide +kernel
theorem d_Fir_writeRound_121 : decode Y_Fir_writeRound.2.1 121 = .ok (.iconst (-1), 1) := by decide +kernel
theorem d_Fir_writeRound_122 : decode Y_Fir_writeRound.2.1 122 = .ok (.ixor, 1) := by decide +kernel
theorem d_Fir_writeRound_123 : decode Y_Fir_writeRound.2.1 123 = .ok (.iand, 1) := by decide +kernel
theorem d_Fir_writeRound_124 : decode Y_Fir_writeRound.2.1 124 = .ok (.putfield 25, 3) := by decide +kernel
theorem d_Fir_writeRound_127 : decode Y_Fir_writeRound.2.1 127 = .ok (.return_, 1) := by decide +kernel
theorem d_Fir_followerDue_0 : decode Y_Fir_followerDue.2.1 0 = .ok (.iconst 1, 1) := by decide +kernel
theorem d_Fir_followerDue_1 : decode Y_Fir_followerDue.2.1 1 = .ok (.istore_n 3, 1) := by decide +kernel
theorem d_Fir_followerDue_2 : decode Y_Fir_followerDue.2.1 2 = .ok (.iload_n 3, 1) := by decide +kernel
theorem d_Fir_followerDue_3 : decode Y_Fir_followerDue.2.1 3 = .ok (.aload_n 0, 1) := by decide +kernel
theorem d_Fir_followerDue_4 : decode Y_Fir_followerDue.2.1 4 = .ok (.getfield 28, 3) := by decide +kernel
theorem d_Fir_followerDue_7 : decode Y_Fir_followerDue.2.1 7 = .ok (.getfield 90, 3) := by decide +kernel
theorem d_Fir_followerDue_10 : decode Y_Fir_followerDue.2.1 10 = .ok (.if_icmp .ge 28, 3) := by decide +kernel
theorem d_Fir_followerDue_13 : decode Y_Fir_followerDue.2.1 13 = .ok (.aload_n 0, 1) := by decide +kernel
theorem d_Fir_followerDue_14 : decode Y_Fir_followerDue.2.1 14 = .ok (.getfield 36, 3) := by decide +kernel
theorem d_Fir_followerDue_17 : decode Y_Fir_followerDue.2.1 17 = .ok (.iload_n 1, 1) := by decide +kernel
theorem d_Fir_followerDue_18 : decode Y_Fir_followerDue.2.1 18 = .ok (.iload_n 2, 1) := by decide +kernel
theorem d_Fir_followerDue_19 : decode Y_Fir_followerDue.2.1 19 = .ok (.iload_n 3, 1) := by decide +kernel
theorem d_Fir_followerDue_20 : decode Y_Fir_followerDue.2.1 20 = .ok (.invokevirtual 93, 3) := by decide +kernel
theorem d_Fir_followerDue_23 : decode Y_Fir_followerDue.2.1 23 = .ok (.aload_n 0, 1) := by decide +kernel
theorem d_Fir_followerDue_24 : decode Y_Fir_followerDue.2.1 24 = .ok (.getfield 22, 3) := by decide +kernel
theorem d_Fir_followerDue_27 : decode Y_Fir_followerDue.2.1 27 = .ok (.if_icmp .ne 5, 3) := by decide +kernel
theorem d_Fir_followerDue_30 : decode Y_Fir_followerDue.2.1 30 = .ok (.iload_n 3, 1) := by decide +kernel
theorem d_Fir_followerDue_31 : decode Y_Fir_followerDue.2.1 31 = .ok (.ireturn, 1) := by decide +kernel
theorem d_Fir_followerDue_32 : decode Y_Fir_followerDue.2.1 32 = .ok (.iinc 3 1, 3) := by decide +kernel
theorem d_Fir_followerDue_35 : decode Y_Fir_followerDue.2.1 35 = .ok (.goto (-33), 3) := by decide +kernel
theorem d_Fir_followerDue_38 : decode Y_Fir_followerDue.2.1 38 = .ok (.iconst 0, 1) := by decide +kernel
theorem d_Fir_followerDue_39 : decode Y_Fir_followerDue.2.1 39 = .ok (.ireturn, 1) := by decide +kernel
theorem d_Tai_leastThrough_0 : decode Y_Tai_leastThrough.2.1 0 = .ok (.aload_n 0, 1) := by decide +kernel
theorem d_Tai_leastThrough_1 : decode Y_Tai_leastThrough.2.1 1 = .ok (.getfield 29, 3) := by decide +kernel
theorem d_Tai_leastThrough_4 : decode Y_Tai_leastThrough.2.1 4 = .ok (.getfield 63, 3) := by decide +kernel
theorem d_Tai_leastThrough_7 : decode Y_Tai_leastThrough.2.1 7 = .ok (.iload_n 1, 1) := by decide +kernel
theorem d_Tai_leastThrough_8 : decode Y_Tai_leastThrough.2.1 8 = .ok (.bipush 9, 2) := by decide +kernel
theorem d_Tai_leastThrough_10 : decode Y_Tai_leastThrough.2.1 10 = .ok (.imul, 1) := by decide +kernel
theorem d_Tai_leastThrough_11 : decode Y_Tai_leastThrough.2.1 11 = .ok (.iload_n 2, 1) := by decide +kernel
theorem d_Tai_leastThrough_12 : decode Y_Tai_leastThrough.2.1 12 = .ok (.iadd, 1) := by decide +kernel
theorem d_Tai_leastThrough_13 : decode Y_Tai_leastThrough.2.1 13 = .ok (.iaload, 1) := by decide +kernel
theorem d_Tai_leastThrough_14 : decode Y_Tai_leastThrough.2.1 14 = .ok (.ldc 62, 2) := by decide +kernel
theorem d_Tai_leastThrough_16 : decode Y_Tai_leastThrough.2.1 16 = .ok (.if_icmp .eq 18, 3) := by decide +kernel
theorem d_Tai_leastThrough_19 : decode Y_Tai_leastThrough.2.1 19 = .ok (.iload_n 2, 1) := by decide +kernel
theorem d_Tai_leastThrough_20 : decode Y_Tai_leastThrough.2.1 20 = .ok (.ifCond .ne 17, 3) := by decide +kernel
theorem d_Tai_leastThrough_23 : decode Y_Tai_leastThrough.2.1 23 = .ok (.aload_n 0, 1) := by decide +kernel
theorem d_Tai_leastThrough_24 : decode Y_Tai_leastThrough.2.1 24 = .ok (.getfield 29, 3) := by decide +kernel
theorem d_Tai_leastThrough_27 : decode Y_Tai_leastThrough.2.1 27 = .ok (.getfield 87, 3) := by decide +kernel
theorem d_Tai_leastThrough_30 : decode Y_Tai_leastThrough.2.1 30 = .ok (.iconst 1, 1) := by decide +kernel
theorem d_Tai_leastThrough_31 : decode Y_Tai_leastThrough.2.1 31 = .ok (.if_icmp .ne 6, 3) := by decide +kernel
theorem d_Tai_leastThrough_34 : decode Y_Tai_leastThrough.2.1 34 = .ok (.ldc 62, 2) := by decide +kernel
theorem d_Tai_leastThrough_36 : decode Y_Tai_leastThrough.2.1 36 = .ok (.ireturn, 1) := by decide +kernel
theorem d_Tai_leastThrough_37 : decode Y_Tai_leastThrough.2.1 37 = .ok (.ldc 62, 2) := by decide +kernel
theorem d_Tai_leastThrough_39 : decode Y_Tai_leastThrough.2.1 39 = .ok (.istore 4, 2) := by decide +kernel
theorem d_Tai_leastThrough_41 : decode Y_Tai_leastThrough.2.1 41 = .ok (.aload_n 0, 1) := by decide +kernel
theorem d_Tai_leastThrough_42 : decode Y_Tai_leastThrough.2.1 42 = .ok (.getfield 29, 3) := by decide +kernel
theorem d_Tai_leastThrough_45 : decode Y_Tai_leastThrough.2.1 45 = .ok (.invokevirtual 90, 3) := by decide +kernel
theorem d_Tai_leastThrough_48 : decode Y_Tai_leastThrough.2.1 48 = .ok (.istore 5, 2) := by decide +kernel
theorem d_Tai_leastThrough_50 : decode Y_Tai_leastThrough.2.1 50 = .ok (.iconst 0, 1) := by decide +kernel
theorem d_Tai_leastThrough_51 : decode Y_Tai_leastThrough.2.1 51 = .ok (.istore 6, 2) := by decide +kernel
theorem d_Tai_leastThrough_53 : decode Y_Tai_leastThrough.2.1 53 = .ok (.iload 6, 2) := by decide +kernel
theorem d_Tai_leastThrough_55 : decode Y_Tai_leastThrough.2.1 55 = .ok (.iload 5, 2) := by decide +kernel
theorem d_Tai_leastThrough_57 : decode Y_Tai_leastThrough.2.1 57 = .ok (.if_icmp .gt 84, 3) := by decide +kernel
theorem d_Tai_leastThrough_60 : decode Y_Tai_leastThrough.2.1 60 = .ok (.iload 4, 2) := by decide +kernel
theorem d_Tai_leastThrough_62 : decode Y_Tai_leastThrough.2.1 62 = .ok (.iload_n 3, 1) := by decide +kernel
theorem d_Tai_leastThrough_63 : decode Y_Tai_leastThrough.2.1 63 = .ok (.if_icmp .gt 10, 3) := by decide +kernel
theorem d_Tai_leastThrough_66 : decode Y_Tai_leastThrough.2.1 66 = .ok (.iload 4, 2) := by decide +kernel
theorem d_Tai_leastThrough_68 : decode Y_Tai_leastThrough.2.1 68 = .ok (.ldc 62, 2) := by decide +kernel
theorem d_Tai_leastThrough_70 : decode Y_Tai_leastThrough.2.1 70 = .ok (.if_icmp .ne 71, 3) := by decide +kernel
theorem d_Tai_leastThrough_73 : decode Y_Tai_leastThrough.2.1 73 = .ok (.aload_n 0, 1) := by decide +kernel
theorem d_Tai_leastThrough_74 : decode Y_Tai_leastThrough.2.1 74 = .ok (.getfield 33, 3) := by decide +kernel
theorem d_Tai_leastThrough_77 : decode Y_Tai_leastThrough.2.1 77 = .ok (.getfield 94, 3) := by decide +kernel
theorem d_Tai_leastThrough_80 : decode Y_Tai_leastThrough.2.1 80 = .ok (.iload 6, 2) := by decide +kernel
theorem d_Tai_leastThrough_82 : decode Y_Tai_leastThrough.2.1 82 = .ok (.bipush 9, 2) := by decide +kernel
theorem d_Tai_leastThrough_84 : decode Y_Tai_leastThrough.2.1 84 = .ok (.imul, 1) := by decide +kernel
theorem d_Tai_leastThrough_85 : decode Y_Tai_leastThrough.2.1 85 = .ok (.iload_n 1, 1) := by decide +kernel
theorem d_Tai_leastThrough_86 : decode Y_Tai_leastThrough.2.1 86 = .ok (.iadd, 1) := by decide +kernel
theorem d_Tai_leastThrough_87 : decode Y_Tai_leastThrough.2.1 87 = .ok (.iaload, 1) := by decide +kernel
theorem d_Tai_leastThrough_88 : decode Y_Tai_leastThrough.2.1 88 = .ok (.istore 7, 2) := by decide +kernel
theorem d_Tai_leastThrough_90 : decode Y_Tai_leastThrough.2.1 90 = .ok (.iload 7, 2) := by decide +kernel
theorem d_Tai_leastThrough_92 : decode Y_Tai_leastThrough.2.1 92 = .ok (.ldc 62, 2) := by decide +kernel
theorem d_Tai_leastThrough_94 : decode Y_Tai_leastThrough.2.1 94 = .ok (.if_icmp .eq 41, 3) := by decide +kernel
theorem d_Tai_leastThrough_97 : decode Y_Tai_leastThrough.2.1 97 = .ok (.iload_n 2, 1) := by decide +kernel
theorem d_Tai_leastThrough_98 : decode Y_Tai_leastThrough.2.1 98 = .ok (.ifCond .ne 13, 3) := by decide +kernel
theorem d_Tai_leastThrough_101 : decode Y_Tai_leastThrough.2.1 101 = .ok (.aload_n 0, 1) := by decide +kernel
theorem d_Tai_leastThrough_102 : decode Y_Tai_leastThrough.2.1 102 = .ok (.iload 6, 2) := by decide +kernel
theorem d_Tai_leastThrough_104 : decode Y_Tai_leastThrough.2.1 104 = .ok (.iload_n 1, 1) := by decide +kernel
theorem d_Tai_leastThrough_105 : decode Y_Tai_leastThrough.2.1 105 = .ok (.invokevirtual 75, 3) := by decide +kernel
theorem d_Tai_leastThrough_108 : decode Y_Tai_leastThrough.2.1 108 = .ok (.goto 11, 3) := by decide +kernel
theorem d_Tai_leastThrough_111 : decode Y_Tai_leastThrough.2.1 111 = .ok (.aload_n 0, 1) := by decide +kernel
theorem d_Tai_leastThrough_112 : decode Y_Tai_leastThrough.2.1 112 = .ok (.iload 6, 2) := by decide +kernel
theorem d_Tai_leastThrough_114 : decode Y_Tai_leastThrough.2.1 114 = .ok (.iload_n 1, 1) := by decide +kernel
theorem d_Tai_leastThrough_115 : decode Y_Tai_leastThrough.2.1 115 = .ok (.iload_n 2, 1) := by decide +kernel
theorem d_Tai_leastThrough_116 : decode Y_Tai_leastThrough.2.1 116 = .ok (.invokevirtual 78, 3) := by decide +kernel
theorem d_Tai_leastThrough_119 : decode Y_Tai_leastThrough.2.1 119 = .ok (.istore 8, 2) := by decide +kernel
theorem d_Tai_leastThrough_121 : decode Y_Tai_leastThrough.2.1 121 = .ok (.iload 4, 2) := by decide +kernel
theorem d_Tai_leastThrough_123 : decode Y_Tai_leastThrough.2.1 123 = .ok (.iload 7, 2) := by decide +kernel
theorem d_Tai_leastThrough_125 : decode Y_Tai_leastThrough.2.1 125 = .ok (.iload 8, 2) := by decide +kernel
theorem d_Tai_leastThrough_127 : decode Y_Tai_leastThrough.2.1 127 = .ok (.invokestatic 66, 3) := by decide +kernel
theorem d_Tai_leastThrough_130 : decode Y_Tai_leastThrough.2.1 130 = .ok (.invokestatic 82, 3) := by decide +kernel
theorem d_Tai_leastThrough_133 : decode Y_Tai_leastThrough.2.1 133 = .ok (.istore 4, 2) := by decide +kernel
theorem d_Tai_leastThrough_135 : decode Y_Tai_leastThrough.2.1 135 = .ok (.iinc 6 1, 3) := by decide +kernel
theorem d_Tai_leastThrough_138 : decode Y_Tai_leastThrough.2.1 138 = .ok (.goto (-85), 3) := by decide +kernel
theorem d_Tai_leastThrough_141 : decode Y_Tai_leastThrough.2.1 141 = .ok (.iload 4, 2) := by decide +kernel
theorem d_Tai_leastThrough_143 : decode Y_Tai_leastThrough.2.1 143 = .ok (.ireturn, 1) := by decide +kernel
theorem d_Sha_leastLeavingOut_0 : decode Y_Sha_leastLeavingOut.2.1 0 = .ok (.aload_n 0, 1) := by decide +kernel
theorem d_Sha_leastLeavingOut_1 : decode Y_Sha_leastLeavingOut.2.1 1 = .ok (.getfield 9, 3) := by decide +kernel
theorem d_Sha_leastLeavingOut_4 : decode Y_Sha_leastLeavingOut.2.1 4 = .ok (.iload_n 1, 1) := by decide +kernel
theorem d_Sha_leastLeavingOut_5 : decode Y_Sha_leastLeavingOut.2.1 5 = .ok (.invokestatic 70, 3) := by decide +kernel
theorem d_Sha_leastLeavingOut_8 : decode Y_Sha_leastLeavingOut.2.1 8 = .ok (.iaload, 1) := by decide +kernel
theorem d_Sha_leastLeavingOut_9 : decode Y_Sha_leastLeavingOut.2.1 9 = .ok (.aload_n 0, 1) := by decide +kernel
theorem d_Sha_leastLeavingOut_10 : decode Y_Sha_leastLeavingOut.2.1 10 = .ok (.getfield 9, 3) := by decide +kernel
theorem d_Sha_leastLeavingOut_13 : decode Y_Sha_leastLeavingOut.2.1 13 = .ok (.aload_n 0, 1) := by decide +kernel
theorem d_Sha_leastLeavingOut_14 : decode Y_Sha_leastLeavingOut.2.1 14 = .ok (.getfield 29, 3) := by decide +kernel
theorem d_Sha_leastLeavingOut_17 : decode Y_Sha_leastLeavingOut.2.1 17 = .ok (.getfield 55, 3) := by decide +kernel
theorem d_Sha_leastLeavingOut_20 : decode Y_Sha_leastLeavingOut.2.1 20 = .ok (.sipush 256, 3) := by decide +kernel
theorem d_Sha_leastLeavingOut_23 : decode Y_Sha_leastLeavingOut.2.1 23 = .ok (.imul, 1) := by decide +kernel
theorem d_Sha_leastLeavingOut_24 : decode Y_Sha_leastLeavingOut.2.1 24 = .ok (.aload_n 0, 1) := by decide +kernel
theorem d_Sha_leastLeavingOut_25 : decode Y_Sha_leastLeavingOut.2.1 25 = .ok (.getfield 29, 3) := by decide +kernel
theorem d_Sha_leastLeavingOut_28 : decode Y_Sha_leastLeavingOut.2.1 28 = .ok (.invokevirtual 47, 3) := by decide +kernel
theorem d_Sha_leastLeavingOut_31 : decode Y_Sha_leastLeavingOut.2.1 31 = .ok (.iload_n 1, 1) := by decide +kernel
theorem d_Sha_leastLeavingOut_32 : decode Y_Sha_leastLeavingOut.2.1 32 = .ok (.invokestatic 70, 3) := by decide +kernel
theorem d_Sha_leastLeavingOut_35 : decode Y_Sha_leastLeavingOut.2.1 35 = .ok (.iconst (-1), 1) := by decide +kernel
theorem d_Sha_leastLeavingOut_36 : decode Y_Sha_leastLeavingOut.2.1 36 = .ok (.ixor, 1) := by decide +kernel
theorem d_Sha_leastLeavingOut_37 : decode Y_Sha_leastLeavingOut.2.1 37 = .ok (.iand, 1) := by decide +kernel
theorem d_Sha_leastLeavingOut_38 : decode Y_Sha_leastLeavingOut.2.1 38 = .ok (.iadd, 1) := by decide +kernel
theorem d_Sha_leastLeavingOut_39 : decode Y_Sha_leastLeavingOut.2.1 39 = .ok (.iaload, 1) := by decide +kernel
theorem d_Sha_leastLeavingOut_40 : decode Y_Sha_leastLeavingOut.2.1 40 = .ok (.invokestatic 73, 3) := by decide +kernel
theorem d_Sha_leastLeavingOut_43 : decode Y_Sha_leastLeavingOut.2.1 43 = .ok (.ireturn, 1) := by decide +kernel
theorem d_Tai_dropArcsAbove_0 : decode Y_Tai_dropArcsAbove.2.1 0 = .ok (.iconst 0, 1) := by decide +kernel
theorem d_Tai_dropArcsAbove_1 : decode Y_Tai_dropArcsAbove.2.1 1 = .ok (.istore_n 2, 1) := by decide +kernel
theorem d_Tai_dropArcsAbove_2 : decode Y_Tai_dropArcsAbove.2.1 2 = .ok (.iload_n 2, 1) := by decide +kernel
theorem d_Tai_dropArcsAbove_3 : decode Y_Tai_dropArcsAbove.2.1 3 = .ok (.aload_n 0, 1) := by decide +kernel
theorem d_Tai_dropArcsAbove_4 : decode Y_Tai_dropArcsAbove.2.1 4 = .ok (.getfield 29, 3) := by decide +kernel
theorem d_Tai_dropArcsAbove_7 : decode Y_Tai_dropArcsAbove.2.1 7 = .ok (.getfield 46, 3) := by decide +kernel
theorem d_Tai_dropArcsAbove_10 : decode Y_Tai_dropArcsAbove.2.1 10 = .ok (.if_icmp .ge 66, 3) := by decide +kernel
theorem d_Tai_dropArcsAbove_13 : decode Y_Tai_dropArcsAbove.2.1 13 = .ok (.iconst 0, 1) := by decide +kernel
theorem d_Tai_dropArcsAbove_14 : decode Y_Tai_dropArcsAbove.2.1 14 = .ok (.istore_n 3, 1) := by decide +kernel
theorem d_Tai_dropArcsAbove_15 : decode Y_Tai_dropArcsAbove.2.1 15 = .ok (.iload_n 3, 1) := by decide +kernel
theorem d_Tai_dropArcsAbove_16 : decode Y_Tai_dropArcsAbove.2.1 16 = .ok (.aload_n 0, 1) := by decide +kernel
theorem d_Tai_dropArcsAbove_17 : decode Y_Tai_dropArcsAbove.2.1 17 = .ok (.getfield 29, 3) := by decide +kernel
theorem d_Tai_dropArcsAbove_20 : decode Y_Tai_dropArcsAbove.2.1 20 = .ok (.getfield 46, 3) := by decide +kernel
theorem d_Tai_dropArcsAbove_23 : decode Y_Tai_dropArcsAbove.2.1 23 = .ok (.if_icmp .ge 47, 3) := by decide +kernel
theorem d_Tai_dropArcsAbove_26 : decode Y_Tai_dropArcsAbove.2.1 26 = .ok (.aload_n 0, 1) := by decide +kernel
theorem d_Tai_dropArcsAbove_27 : decode Y_Tai_dropArcsAbove.2.1 27 = .ok (.iload_n 2, 1) := by decide +kernel
theorem d_Tai_dropArcsAbove_28 : decode Y_Tai_dropArcsAbove.2.1 28 = .ok (.iload_n 3, 1) := by decide +kernel
theorem d_Tai_dropArcsAbove_29 : decode Y_Tai_dropArcsAbove.2.1 29 = .ok (.iload_n 1, 1) := by decide +kernel
theorem d_Tai_dropArcsAbove_30 : decode Y_Tai_dropArcsAbove.2.1 30 = .ok (.invokevirtual 97, 3) := by decide +kernel
theorem d_Tai_dropArcsAbove_33 : decode Y_Tai_dropArcsAbove.2.1 33 = .ok (.istore 4, 2) := by decide +kernel
theorem d_Tai_dropArcsAbove_35 : decode Y_Tai_dropArcsAbove.2.1 35 = .ok (.aload_n 0, 1) := by decide +kernel
theorem d_Tai_dropArcsAbove_36 : decode Y_Tai_dropArcsAbove.2.1 36 = .ok (.getfield 15, 3) := by decide +kernel
theorem d_Tai_dropArcsAbove_39 : decode Y_Tai_dropArcsAbove.2.1 39 = .ok (.iload_n 2, 1) := by decide +kernel
theorem d_Tai_dropArcsAbove_40 : decode Y_Tai_dropArcsAbove.2.1 40 = .ok (.bipush 9, 2) := by decide +kernel
theorem d_Tai_dropArcsAbove_42 : decode Y_Tai_dropArcsAbove.2.1 42 = .ok (.imul, 1) := by decide +kernel
theorem d_Tai_dropArcsAbove_43 : decode Y_Tai_dropArcsAbove.2.1 43 = .ok (.iload_n 3, 1) := by decide +kernel
theorem d_Tai_dropArcsAbove_44 : decode Y_Tai_dropArcsAbove.2.1 44 = .ok (.iadd, 1) := by decide +kernel
theorem d_Tai_dropArcsAbove_45 : decode Y_Tai_dropArcsAbove.2.1 45 = .ok (.iload 4, 2) := by decide +kernel
theorem d_Tai_dropArcsAbove_47 : decode Y_Tai_dropArcsAbove.2.1 47 = .ok (.ldc 62, 2) := by decide +kernel
theorem d_Tai_dropArcsAbove_49 : decode Y_Tai_dropArcsAbove.2.1 49 = .ok (.if_icmp .eq 9, 3) := by decide +kernel
theorem d_Tai_dropArcsAbove_52 : decode Y_Tai_dropArcsAbove.2.1 52 = .ok (.iload 4, 2) := by decide +kernel
theorem d_Tai_dropArcsAbove_54 : decode Y_Tai_dropArcsAbove.2.1 54 = .ok (.iload_n 1, 1) := by decide +kernel
theorem d_Tai_dropArcsAbove_55 : decode Y_Tai_dropArcsAbove.2.1 55 = .ok (.if_icmp .le 7, 3) := by decide +kernel
theorem d_Tai_dropArcsAbove_58 : decode Y_Tai_dropArcsAbove.2.1 58 = .ok (.iconst 1, 1) := by decide +kernel
theorem d_Tai_dropArcsAbove_59 : decode Y_Tai_dropArcsAbove.2.1 59 = .ok (.goto 4, 3) := by decide +kernel
theorem d_Tai_dropArcsAbove_62 : decode Y_Tai_dropArcsAbove.2.1 62 = .ok (.iconst 0, 1) := by decide +kernel
theorem d_Tai_dropArcsAbove_63 : decode Y_Tai_dropArcsAbove.2.1 63 = .ok (.bastore, 1) := by decide +kernel
theorem d_Tai_dropArcsAbove_64 : decode Y_Tai_dropArcsAbove.2.1 64 = .ok (.iinc 3 1, 3) := by decide +kernel
theorem d_Tai_dropArcsAbove_67 : decode Y_Tai_dropArcsAbove.2.1 67 = .ok (.goto (-52), 3) := by decide +kernel
theorem d_Tai_dropArcsAbove_70 : decode Y_Tai_dropArcsAbove.2.1 70 = .ok (.iinc 2 1, 3) := by decide +kernel
theorem d_Tai_dropArcsAbove_73 : decode Y_Tai_dropArcsAbove.2.1 73 = .ok (.goto (-71), 3) := by decide +kernel
theorem d_Tai_dropArcsAbove_76 : decode Y_Tai_dropArcsAbove.2.1 76 = .ok (.iconst 0, 1) := by decide +kernel
theorem d_Tai_dropArcsAbove_77 : decode Y_Tai_dropArcsAbove.2.1 77 = .ok (.istore_n 2, 1) := by decide +kernel
theorem d_Tai_dropArcsAbove_78 : decode Y_Tai_dropArcsAbove.2.1 78 = .ok (.iconst 0, 1) := by decide +kernel
theorem d_Tai_dropArcsAbove_79 : decode Y_Tai_dropArcsAbove.2.1 79 = .ok (.istore_n 3, 1) := by decide +kernel
theorem d_Tai_dropArcsAbove_80 : decode Y_Tai_dropArcsAbove.2.1 80 = .ok (.iload_n 3, 1) := by decide +kernel
theorem d_Tai_dropArcsAbove_81 : decode Y_Tai_dropArcsAbove.2.1 81 = .ok (.aload_n 0, 1) := by decide +kernel
theorem d_Tai_dropArcsAbove_82 : decode Y_Tai_dropArcsAbove.2.1 82 = .ok (.getfield 29, 3) := by decide +kernel
theorem d_Tai_dropArcsAbove_85 : decode Y_Tai_dropArcsAbove.2.1 85 = .ok (.getfield 46, 3) := by decide +kernel
theorem d_Tai_dropArcsAbove_88 : decode Y_Tai_dropArcsAbove.2.1 88 = .ok (.if_icmp .ge 65, 3) := by decide +kernel
theorem d_Tai_dropArcsAbove_91 : decode Y_Tai_dropArcsAbove.2.1 91 = .ok (.iconst 0, 1) := by decide +kernel
theorem d_Tai_dropArcsAbove_92 : decode Y_Tai_dropArcsAbove.2.1 92 = .ok (.istore 4, 2) := by decide +kernel
theorem d_Tai_dropArcsAbove_94 : decode Y_Tai_dropArcsAbove.2.1 94 = .ok (.iload 4, 2) := by decide +kernel
theorem d_Tai_dropArcsAbove_96 : decode Y_Tai_dropArcsAbove.2.1 96 = .ok (.aload_n 0, 1) := by decide +kernel
theorem d_Tai_dropArcsAbove_97 : decode Y_Tai_dropArcsAbove.2.1 97 = .ok (.getfield 29, 3) := by decide +kernel
theorem d_Tai_dropArcsAbove_100 : decode Y_Tai_dropArcsAbove.2.1 100 = .ok (.getfield 46, 3) := by decide +kernel
theorem d_Tai_dropArcsAbove_103 : decode Y_Tai_dropArcsAbove.2.1 103 = .ok (.if_icmp .ge 44, 3) := by decide +kernel
theorem d_Tai_dropArcsAbove_106 : decode Y_Tai_dropArcsAbove.2.1 106 = .ok (.aload_n 0, 1) := by decide +kernel
theorem d_Tai_dropArcsAbove_107 : decode Y_Tai_dropArcsAbove.2.1 107 = .ok (.getfield 15, 3) := by decide +kernel
theorem d_Tai_dropArcsAbove_110 : decode Y_Tai_dropArcsAbove.2.1 110 = .ok (.iload_n 3, 1) := by decide +kernel
theorem d_Tai_dropArcsAbove_111 : decode Y_Tai_dropArcsAbove.2.1 111 = .ok (.bipush 9, 2) := by decide +kernel
theorem d_Tai_dropArcsAbove_113 : decode Y_Tai_dropArcsAbove.2.1 113 = .ok (.imul, 1) := by decide +kernel
theorem d_Tai_dropArcsAbove_114 : decode Y_Tai_dropArcsAbove.2.1 114 = .ok (.iload 4, 2) := by decide +kernel
theorem d_Tai_dropArcsAbove_116 : decode Y_Tai_dropArcsAbove.2.1 116 = .ok (.iadd, 1) := by decide +kernel
theorem d_Tai_dropArcsAbove_117 : decode Y_Tai_dropArcsAbove.2.1 117 = .ok (.baload, 1) := by decide +kernel
theorem d_Tai_dropArcsAbove_118 : decode Y_Tai_dropArcsAbove.2.1 118 = .ok (.ifCond .eq 23, 3) := by decide +kernel
theorem d_Tai_dropArcsAbove_121 : decode Y_Tai_dropArcsAbove.2.1 121 = .ok (.aload_n 0, 1) := by decide +kernel
theorem d_Tai_dropArcsAbove_122 : decode Y_Tai_dropArcsAbove.2.1 122 = .ok (.getfield 29, 3) := by decide +kernel
theorem d_Tai_dropArcsAbove_125 : decode Y_Tai_dropArcsAbove.2.1 125 = .ok (.iload_n 3, 1) := by decide +kernel
theorem d_Tai_dropArcsAbove_126 : decode Y_Tai_dropArcsAbove.2.1 126 = .ok (.iload 4, 2) := by decide +kernel
theorem d_Tai_dropArcsAbove_128 : decode Y_Tai_dropArcsAbove.2.1 128 = .ok (.ldc 62, 2) := by decide +kernel
theorem d_Tai_dropArcsAbove_130 : decode Y_Tai_dropArcsAbove.2.1 130 = .ok (.invokevirtual 100, 3) := by decide +kernel
theorem d_Tai_dropArcsAbove_133 : decode Y_Tai_dropArcsAbove.2.1 133 = .ok (.ldc 62, 2) := by decide +kernel
theorem d_Tai_dropArcsAbove_135 : decode Y_Tai_dropArcsAbove.2.1 135 = .ok (.if_icmp .eq 6, 3) := by decide +kernel
theorem d_Tai_dropArcsAbove_138 : decode Y_Tai_dropArcsAbove.2.1 138 = .ok (.iinc 2 1, 3) := by decide +kernel
theorem d_Tai_dropArcsAbove_141 : decode Y_Tai_dropArcsAbove.2.1 141 = .ok (.iinc 4 1, 3) := by decide +kernel
theorem d_Tai_dropArcsAbove_144 : decode Y_Tai_dropArcsAbove.2.1 144 = .ok (.goto (-50), 3) := by decide +kernel
theorem d_Tai_dropArcsAbove_147 : decode Y_Tai_dropArcsAbove.2.1 147 = .ok (.iinc 3 1, 3) := by decide +kernel
theorem d_Tai_dropArcsAbove_150 : decode Y_Tai_dropArcsAbove.2.1 150 = .ok (.goto (-70), 3) := by decide +kernel
theorem d_Tai_dropArcsAbove_153 : decode Y_Tai_dropArcsAbove.2.1 153 = .ok (.iload_n 2, 1) := by decide +kernel
theorem d_Tai_dropArcsAbove_154 : decode Y_Tai_dropArcsAbove.2.1 154 = .ok (.ireturn, 1) := by decide +kernel
theorem d_Tre_changeWeight_0 : decode Y_Tre_changeWeight.2.1 0 = .ok (.aload_n 0, 1) := by decide +kernel
theorem d_Tre_changeWeight_1 : decode Y_Tre_changeWeight.2.1 1 = .ok (.getfield 9, 3) := by decide +kernel
theorem d_Tre_changeWeight_4 : decode Y_Tre_changeWeight.2.1 4 = .ok (.iload_n 1, 1) := by decide +kernel
theorem d_Tre_changeWeight_5 : decode Y_Tre_changeWeight.2.1 5 = .ok (.iaload, 1) := by decide +kernel
theorem d_Tre_changeWeight_6 : decode Y_Tre_changeWeight.2.1 6 = .ok (.istore_n 3, 1) := by decide +kernel
theorem d_Tre_changeWeight_7 : decode Y_Tre_changeWeight.2.1 7 = .ok (.aload_n 0, 1) := by decide +kernel
theorem d_Tre_changeWeight_8 : decode Y_Tre_changeWeight.2.1 8 = .ok (.getfield 9, 3) := by decide +kernel
theorem d_Tre_changeWeight_11 : decode Y_Tre_changeWeight.2.1 11 = .ok (.iload_n 1, 1) := by decide +kernel
theorem d_Tre_changeWeight_12 : decode Y_Tre_changeWeight.2.1 12 = .ok (.iload_n 2, 1) := by decide +kernel
theorem d_Tre_changeWeight_13 : decode Y_Tre_changeWeight.2.1 13 = .ok (.iastore, 1) := by decide +kernel
theorem d_Tre_changeWeight_14 : decode Y_Tre_changeWeight.2.1 14 = .ok (.iload_n 3, 1) := by decide +kernel
theorem d_Tre_changeWeight_15 : decode Y_Tre_changeWeight.2.1 15 = .ok (.ireturn, 1) := by decide +kernel
theorem d_Tre_grow_0 : decode Y_Tre_grow.2.1 0 = .ok (.aload_n 0, 1) := by decide +kernel
theorem d_Tre_grow_1 : decode Y_Tre_grow.2.1 1 = .ok (.iconst 0, 1) := by decide +kernel
theorem d_Tre_grow_2 : decode Y_Tre_grow.2.1 2 = .ok (.putfield 24, 3) := by decide +kernel
theorem d_Tre_grow_5 : decode Y_Tre_grow.2.1 5 = .ok (.aload_n 0, 1) := by decide +kernel
theorem d_Tre_grow_6 : decode Y_Tre_grow.2.1 6 = .ok (.iconst 0, 1) := by decide +kernel
theorem d_Tre_grow_7 : decode Y_Tre_grow.2.1 7 = .ok (.putfield 28, 3) := by decide +kernel
theorem d_Tre_grow_10 : decode Y_Tre_grow.2.1 10 = .ok (.aload_n 0, 1) := by decide +kernel
theorem d_Tre_grow_11 : decode Y_Tre_grow.2.1 11 = .ok (.getfield 31, 3) := by decide +kernel
theorem d_Tre_grow_14 : decode Y_Tre_grow.2.1 14 = .ok (.getfield 35, 3) := by decide +kernel
theorem d_Tre_grow_17 : decode Y_Tre_grow.2.1 17 = .ok (.iconst 3, 1) := by decide +kernel
theorem d_Tre_grow_18 : decode Y_Tre_grow.2.1 18 = .ok (.if_icmp .ge 5, 3) := by decide +kernel
theorem d_Tre_grow_21 : decode Y_Tre_grow.2.1 21 = .ok (.iconst 0, 1) := by decide +kernel
theorem d_Tre_grow_22 : decode Y_Tre_grow.2.1 22 = .ok (.ireturn, 1) := by decide +kernel
theorem d_Tre_grow_23 : decode Y_Tre_grow.2.1 23 = .ok (.iconst 0, 1) := by decide +kernel
theorem d_Tre_grow_24 : decode Y_Tre_grow.2.1 24 = .ok (.istore_n 1, 1) := by decide +kernel
theorem d_Tre_grow_25 : decode Y_Tre_grow.2.1 25 = .ok (.iload_n 1, 1) := by decide +kernel
theorem d_Tre_grow_26 : decode Y_Tre_grow.2.1 26 = .ok (.aload_n 0, 1) := by decide +kernel
theorem d_Tre_grow_27 : decode Y_Tre_grow.2.1 27 = .ok (.getfield 31, 3) := by decide +kernel
theorem d_Tre_grow_30 : decode Y_Tre_grow.2.1 30 = .ok (.getfield 35, 3) := by decide +kernel
theorem d_Tre_grow_33 : decode Y_Tre_grow.2.1 33 = .ok (.if_icmp .ge 16, 3) := by decide +kernel
theorem d_Tre_grow_36 : decode Y_Tre_grow.2.1 36 = .ok (.aload_n 0, 1) := by decide +kernel
theorem d_Tre_grow_37 : decode Y_Tre_grow.2.1 37 = .ok (.getfield 15, 3) := by decide +kernel
theorem d_Tre_grow_40 : decode Y_Tre_grow.2.1 40 = .ok (.iload_n 1, 1) := by decide +kernel
theorem d_Tre_grow_41 : decode Y_Tre_grow.2.1 41 = .ok (.iload_n 1, 1) := by decide +kernel
theorem d_Tre_grow_42 : decode Y_Tre_grow.2.1 42 = .ok (.iastore, 1) := by decide +kernel
theorem d_Tre_grow_43 : decode Y_Tre_grow.2.1 43 = .ok (.iinc 1 1, 3) := by decide +kernel
theorem d_Tre_grow_46 : decode Y_Tre_grow.2.1 46 = .ok (.goto (-21), 3) := by decide +kernel
theorem d_Tre_grow_49 : decode Y_Tre_grow.2.1 49 = .ok (.iconst 2, 1) := by decide +kernel
theorem d_Tre_grow_50 : decode Y_Tre_grow.2.1 50 = .ok (.istore_n 1, 1) := by decide +kernel
theorem d_Tre_grow_51 : decode Y_Tre_grow.2.1 51 = .ok (.iload_n 1, 1) := by decide +kernel
theorem d_Tre_grow_52 : decode Y_Tre_grow.2.1 52 = .ok (.aload_n 0, 1) := by decide +kernel
theorem d_Tre_grow_53 : decode Y_Tre_grow.2.1 53 = .ok (.getfield 31, 3) := by decide +kernel
theorem d_Tre_grow_56 : decode Y_Tre_grow.2.1 56 = .ok (.getfield 35, 3) := by decide +kernel
theorem d_Tre_grow_59 : decode Y_Tre_grow.2.1 59 = .ok (.if_icmp .ge 18, 3) := by decide +kernel
theorem d_Tre_grow_62 : decode Y_Tre_grow.2.1 62 = .ok (.aload_n 0, 1) := by decide +kernel
theorem d_Tre_grow_63 : decode Y_Tre_grow.2.1 63 = .ok (.invokevirtual 40, 3) := by decide +kernel
theorem d_Tre_grow_66 : decode Y_Tre_grow.2.1 66 = .ok (.ifCond .ne 5, 3) := by decide +kernel
theorem d_Tre_grow_69 : decode Y_Tre_grow.2.1 69 = .ok (.iconst 0, 1) := by decide +kernel
theorem d_Tre_grow_70 : decode Y_Tre_grow.2.1 70 = .ok (.ireturn, 1) := by decide +kernel
theorem d_Tre_grow_71 : decode Y_Tre_grow.2.1 71 = .ok (.iinc 1 1, 3) := by decide +kernel
theorem d_Tre_grow_74 : decode Y_Tre_grow.2.1 74 = .ok (.goto (-23), 3) := by decide +kernel
theorem d_Tre_grow_77 : decode Y_Tre_grow.2.1 77 = .ok (.aload_n 0, 1) := by decide +kernel
theorem d_Tre_grow_78 : decode Y_Tre_grow.2.1 78 = .ok (.iconst 0, 1) := by decide +kernel
theorem d_Tre_grow_79 : decode Y_Tre_grow.2.1 79 = .ok (.invokevirtual 44, 3) := by decide +kernel
theorem d_Tre_grow_82 : decode Y_Tre_grow.2.1 82 = .ok (.ifCond .eq 25, 3) := by decide +kernel
theorem d_Tre_grow_85 : decode Y_Tre_grow.2.1 85 = .ok (.aload_n 0, 1) := by decide +kernel
theorem d_Tre_grow_86 : decode Y_Tre_grow.2.1 86 = .ok (.aload_n 0, 1) := by decide +kernel
theorem d_Tre_grow_87 : decode Y_Tre_grow.2.1 87 = .ok (.getfield 21, 3) := by decide +kernel
theorem d_Tre_grow_90 : decode Y_Tre_grow.2.1 90 = .ok (.aload_n 0, 1) := by decide +kernel
theorem d_Tre_grow_91 : decode Y_Tre_grow.2.1 91 = .ok (.getfield 24, 3) := by decide +kernel
theorem d_Tre_grow_94 : decode Y_Tre_grow.2.1 94 = .ok (.iconst 1, 1) := by decide +kernel
theorem d_Tre_grow_95 : decode Y_Tre_grow.2.1 95 = .ok (.isub, 1) := by decide +kernel
theorem d_Tre_grow_96 : decode Y_Tre_grow.2.1 96 = .ok (.iaload, 1) := by decide +kernel
theorem d_Tre_grow_97 : decode Y_Tre_grow.2.1 97 = .ok (.invokevirtual 44, 3) := by decide +kernel
theorem d_Tre_grow_100 : decode Y_Tre_grow.2.1 100 = .ok (.ifCond .eq 7, 3) := by decide +kernel
theorem d_Tre_grow_103 : decode Y_Tre_grow.2.1 103 = .ok (.iconst 1, 1) := by decide +kernel
theorem d_Tre_grow_104 : decode Y_Tre_grow.2.1 104 = .ok (.goto 4, 3) := by decide +kernel
theorem d_Tre_grow_107 : decode Y_Tre_grow.2.1 107 = .ok (.iconst 0, 1) := by decide +kernel
theorem d_Tre_grow_108 : decode Y_Tre_grow.2.1 108 = .ok (.ireturn, 1) := by decide +kernel
theorem d_Tre_chooseJoining_0 : decode Y_Tre_chooseJoining.2.1 0 = .ok (.ldc 60, 2) := by decide +kernel
theorem d_Tre_chooseJoining_2 : decode Y_Tre_chooseJoining.2.1 2 = .ok (.istore_n 1, 1) := by decide +kernel
theorem d_Tre_chooseJoining_3 : decode Y_Tre_chooseJoining.2.1 3 = .ok (.iconst 0, 1) := by decide +kernel
theorem d_Tre_chooseJoining_4 : decode Y_Tre_chooseJoining.2.1 4 = .ok (.istore_n 2, 1) := by decide +kernel
theorem d_Tre_chooseJoining_5 : decode Y_Tre_chooseJoining.2.1 5 = .ok (.iconst 0, 1) := by decide +kernel
theorem d_Tre_chooseJoining_6 : decode Y_Tre_chooseJoining.2.1 6 = .ok (.istore_n 3, 1) := by decide +kernel
theorem d_Tre_chooseJoining_7 : decode Y_Tre_chooseJoining.2.1 7 = .ok (.iconst 1, 1) := by decide +kernel
theorem d_Tre_chooseJoining_8 : decode Y_Tre_chooseJoining.2.1 8 = .ok (.istore 4, 2) := by decide +kernel
theorem d_Tre_chooseJoining_10 : decode Y_Tre_chooseJoining.2.1 10 = .ok (.iload 4, 2) := by decide +kernel
theorem d_Tre_chooseJoining_12 : decode Y_Tre_chooseJoining.2.1 12 = .ok (.aload_n 0, 1) := by decide +kernel
theorem d_Tre_chooseJoining_13 : decode Y_Tre_chooseJoining.2.1 13 = .ok (.getfield 31, 3) := by decide +kernel
theorem d_Tre_chooseJoining_16 : decode Y_Tre_chooseJoining.2.1 16 = .ok (.getfield 35, 3) := by decide +kernel
theorem d_Tre_chooseJoining_19 : decode Y_Tre_chooseJoining.2.1 19 = .ok (.if_icmp .ge 77, 3) := by decide +kernel
theorem d_Tre_chooseJoining_22 : decode Y_Tre_chooseJoining.2.1 22 = .ok (.iload 4, 2) := by decide +kernel
theorem d_Tre_chooseJoining_24 : decode Y_Tre_chooseJoining.2.1 24 = .ok (.iconst 1, 1) := by decide +kernel
theorem d_Tre_chooseJoining_25 : decode Y_Tre_chooseJoining.2.1 25 = .ok (.iadd, 1) := by decide +kernel
theorem d_Tre_chooseJoining_26 : decode Y_Tre_chooseJoining.2.1 26 = .ok (.istore 5, 2) := by decide +kernel
theorem d_Tre_chooseJoining_28 : decode Y_Tre_chooseJoining.2.1 28 = .ok (.iload 5, 2) := by decide +kernel
theorem d_Tre_chooseJoining_30 : decode Y_Tre_chooseJoining.2.1 30 = .ok (.aload_n 0, 1) := by decide +kernel
theorem d_Tre_chooseJoining_31 : decode Y_Tre_chooseJoining.2.1 31 = .ok (.getfield 31, 3) := by decide +kernel
theorem d_Tre_chooseJoining_34 : decode Y_Tre_chooseJoining.2.1 34 = .ok (.getfield 35, 3) := by decide +kernel
theorem d_Tre_chooseJoining_37 : decode Y_Tre_chooseJoining.2.1 37 = .ok (.if_icmp .ge 53, 3) := by decide +kernel
theorem d_Tre_chooseJoining_40 : decode Y_Tre_chooseJoining.2.1 40 = .ok (.aload_n 0, 1) := by decide +kernel
theorem d_Tre_chooseJoining_41 : decode Y_Tre_chooseJoining.2.1 41 = .ok (.getfield 15, 3) := by decide +kernel
theorem d_Tre_chooseJoining_44 : decode Y_Tre_chooseJoining.2.1 44 = .ok (.iload 4, 2) := by decide +kernel
theorem d_Tre_chooseJoining_46 : decode Y_Tre_chooseJoining.2.1 46 = .ok (.iaload, 1) := by decide +kernel
theorem d_Tre_chooseJoining_47 : decode Y_Tre_chooseJoining.2.1 47 = .ok (.aload_n 0, 1) := by decide +kernel
theorem d_Tre_chooseJoining_48 : decode Y_Tre_chooseJoining.2.1 48 = .ok (.getfield 15, 3) := by decide +kernel
theorem d_Tre_chooseJoining_51 : decode Y_Tre_chooseJoining.2.1 51 = .ok (.iload 5, 2) := by decide +kernel
theorem d_Tre_chooseJoining_53 : decode Y_Tre_chooseJoining.2.1 53 = .ok (.iaload, 1) := by decide +kernel
theorem d_Tre_chooseJoining_54 : decode Y_Tre_chooseJoining.2.1 54 = .ok (.if_icmp .eq 30, 3) := by decide +kernel
theorem d_Tre_chooseJoining_57 : decode Y_Tre_chooseJoining.2.1 57 = .ok (.aload_n 0, 1) := by decide +kernel
theorem d_Tre_chooseJoining_58 : decode Y_Tre_chooseJoining.2.1 58 = .ok (.iload 4, 2) := by decide +kernel
theorem d_Tre_chooseJoining_60 : decode Y_Tre_chooseJoining.2.1 60 = .ok (.iload 5, 2) := by decide +kernel
end
section
theorem d_Tre_chooseJoining_62 : decode Y_Tre_chooseJoining.2.1 62 = .ok (.invokevirtual 61, 3) := by decide +kernel
theorem d_Tre_chooseJoining_65 : decode Y_Tre_chooseJoining.2.1 65 = .ok (.iload_n 1, 1) := by decide +kernel
theorem d_Tre_chooseJoining_66 : decode Y_Tre_chooseJoining.2.1 66 = .ok (.if_icmp .ge 18, 3) := by decide +kernel
theorem d_Tre_chooseJoining_69 : decode Y_Tre_chooseJoining.2.1 69 = .ok (.aload_n 0, 1) := by decide +kernel
theorem d_Tre_chooseJoining_70 : decode Y_Tre_chooseJoining.2.1 70 = .ok (.iload 4, 2) := by decide +kernel
theorem d_Tre_chooseJoining_72 : decode Y_Tre_chooseJoining.2.1 72 = .ok (.iload 5, 2) := by decide +kernel
theorem d_Tre_chooseJoining_74 : decode Y_Tre_chooseJoining.2.1 74 = .ok (.invokevirtual 61, 3) := by decide +kernel
theorem d_Tre_chooseJoining_77 : decode Y_Tre_chooseJoining.2.1 77 = .ok (.istore_n 1, 1) := by decide +kernel
theorem d_Tre_chooseJoining_78 : decode Y_Tre_chooseJoining.2.1 78 = .ok (.iload 4, 2) := by decide +kernel
theorem d_Tre_chooseJoining_80 : decode Y_Tre_chooseJoining.2.1 80 = .ok (.istore_n 2, 1) := by decide +kernel
theorem d_Tre_chooseJoining_81 : decode Y_Tre_chooseJoining.2.1 81 = .ok (.iload 5, 2) := by decide +kernel
theorem d_Tre_chooseJoining_83 : decode Y_Tre_chooseJoining.2.1 83 = .ok (.istore_n 3, 1) := by decide +kernel
theorem d_Tre_chooseJoining_84 : decode Y_Tre_chooseJoining.2.1 84 = .ok (.iinc 5 1, 3) := by decide +kernel
theorem d_Tre_chooseJoining_87 : decode Y_Tre_chooseJoining.2.1 87 = .ok (.goto (-59), 3) := by decide +kernel
theorem d_Tre_chooseJoining_90 : decode Y_Tre_chooseJoining.2.1 90 = .ok (.iinc 4 1, 3) := by decide +kernel
theorem d_Tre_chooseJoining_93 : decode Y_Tre_chooseJoining.2.1 93 = .ok (.goto (-83), 3) := by decide +kernel
theorem d_Tre_chooseJoining_96 : decode Y_Tre_chooseJoining.2.1 96 = .ok (.iload_n 1, 1) := by decide +kernel
theorem d_Tre_chooseJoining_97 : decode Y_Tre_chooseJoining.2.1 97 = .ok (.ldc 60, 2) := by decide +kernel
theorem d_Tre_chooseJoining_99 : decode Y_Tre_chooseJoining.2.1 99 = .ok (.if_icmp .eq 16, 3) := by decide +kernel
theorem d_Tre_chooseJoining_102 : decode Y_Tre_chooseJoining.2.1 102 = .ok (.aload_n 0, 1) := by decide +kernel
theorem d_Tre_chooseJoining_103 : decode Y_Tre_chooseJoining.2.1 103 = .ok (.iload_n 2, 1) := by decide +kernel
theorem d_Tre_chooseJoining_104 : decode Y_Tre_chooseJoining.2.1 104 = .ok (.iload_n 3, 1) := by decide +kernel
theorem d_Tre_chooseJoining_105 : decode Y_Tre_chooseJoining.2.1 105 = .ok (.invokevirtual 64, 3) := by decide +kernel
theorem d_Tre_chooseJoining_108 : decode Y_Tre_chooseJoining.2.1 108 = .ok (.ifCond .eq 7, 3) := by decide +kernel
theorem d_Tre_chooseJoining_111 : decode Y_Tre_chooseJoining.2.1 111 = .ok (.iconst 1, 1) := by decide +kernel
theorem d_Tre_chooseJoining_112 : decode Y_Tre_chooseJoining.2.1 112 = .ok (.goto 4, 3) := by decide +kernel
theorem d_Tre_chooseJoining_115 : decode Y_Tre_chooseJoining.2.1 115 = .ok (.iconst 0, 1) := by decide +kernel
theorem d_Tre_chooseJoining_116 : decode Y_Tre_chooseJoining.2.1 116 = .ok (.ireturn, 1) := by decide +kernel
theorem d_Tre_edgeCost_0 : decode Y_Tre_edgeCost.2.1 0 = .ok (.aload_n 0, 1) := by decide +kernel
theorem d_Tre_edgeCost_1 : decode Y_Tre_edgeCost.2.1 1 = .ok (.getfield 31, 3) := by decide +kernel
theorem d_Tre_edgeCost_4 : decode Y_Tre_edgeCost.2.1 4 = .ok (.getfield 48, 3) := by decide +kernel
theorem d_Tre_edgeCost_7 : decode Y_Tre_edgeCost.2.1 7 = .ok (.iload_n 1, 1) := by decide +kernel
theorem d_Tre_edgeCost_8 : decode Y_Tre_edgeCost.2.1 8 = .ok (.bipush 9, 2) := by decide +kernel
theorem d_Tre_edgeCost_10 : decode Y_Tre_edgeCost.2.1 10 = .ok (.imul, 1) := by decide +kernel
theorem d_Tre_edgeCost_11 : decode Y_Tre_edgeCost.2.1 11 = .ok (.iload_n 2, 1) := by decide +kernel
theorem d_Tre_edgeCost_12 : decode Y_Tre_edgeCost.2.1 12 = .ok (.iadd, 1) := by decide +kernel
theorem d_Tre_edgeCost_13 : decode Y_Tre_edgeCost.2.1 13 = .ok (.iaload, 1) := by decide +kernel
theorem d_Tre_edgeCost_14 : decode Y_Tre_edgeCost.2.1 14 = .ok (.aload_n 0, 1) := by decide +kernel
theorem d_Tre_edgeCost_15 : decode Y_Tre_edgeCost.2.1 15 = .ok (.getfield 31, 3) := by decide +kernel
theorem d_Tre_edgeCost_18 : decode Y_Tre_edgeCost.2.1 18 = .ok (.getfield 48, 3) := by decide +kernel
theorem d_Tre_edgeCost_21 : decode Y_Tre_edgeCost.2.1 21 = .ok (.iload_n 2, 1) := by decide +kernel
theorem d_Tre_edgeCost_22 : decode Y_Tre_edgeCost.2.1 22 = .ok (.bipush 9, 2) := by decide +kernel
theorem d_Tre_edgeCost_24 : decode Y_Tre_edgeCost.2.1 24 = .ok (.imul, 1) := by decide +kernel
theorem d_Tre_edgeCost_25 : decode Y_Tre_edgeCost.2.1 25 = .ok (.iload_n 1, 1) := by decide +kernel
theorem d_Tre_edgeCost_26 : decode Y_Tre_edgeCost.2.1 26 = .ok (.iadd, 1) := by decide +kernel
theorem d_Tre_edgeCost_27 : decode Y_Tre_edgeCost.2.1 27 = .ok (.iaload, 1) := by decide +kernel
theorem d_Tre_edgeCost_28 : decode Y_Tre_edgeCost.2.1 28 = .ok (.invokestatic 51, 3) := by decide +kernel
theorem d_Tre_edgeCost_31 : decode Y_Tre_edgeCost.2.1 31 = .ok (.istore_n 3, 1) := by decide +kernel
theorem d_Tre_edgeCost_32 : decode Y_Tre_edgeCost.2.1 32 = .ok (.iload_n 3, 1) := by decide +kernel
theorem d_Tre_edgeCost_33 : decode Y_Tre_edgeCost.2.1 33 = .ok (.aload_n 0, 1) := by decide +kernel
theorem d_Tre_edgeCost_34 : decode Y_Tre_edgeCost.2.1 34 = .ok (.getfield 9, 3) := by decide +kernel
theorem d_Tre_edgeCost_37 : decode Y_Tre_edgeCost.2.1 37 = .ok (.iload_n 1, 1) := by decide +kernel
theorem d_Tre_edgeCost_38 : decode Y_Tre_edgeCost.2.1 38 = .ok (.iaload, 1) := by decide +kernel
theorem d_Tre_edgeCost_39 : decode Y_Tre_edgeCost.2.1 39 = .ok (.aload_n 0, 1) := by decide +kernel
theorem d_Tre_edgeCost_40 : decode Y_Tre_edgeCost.2.1 40 = .ok (.getfield 9, 3) := by decide +kernel
theorem d_Tre_edgeCost_43 : decode Y_Tre_edgeCost.2.1 43 = .ok (.iload_n 2, 1) := by decide +kernel
theorem d_Tre_edgeCost_44 : decode Y_Tre_edgeCost.2.1 44 = .ok (.iaload, 1) := by decide +kernel
theorem d_Tre_edgeCost_45 : decode Y_Tre_edgeCost.2.1 45 = .ok (.iadd, 1) := by decide +kernel
theorem d_Tre_edgeCost_46 : decode Y_Tre_edgeCost.2.1 46 = .ok (.invokestatic 57, 3) := by decide +kernel
theorem d_Tre_edgeCost_49 : decode Y_Tre_edgeCost.2.1 49 = .ok (.ireturn, 1) := by decide +kernel
theorem d_Tre_choose_0 : decode Y_Tre_choose.2.1 0 = .ok (.aload_n 0, 1) := by decide +kernel
theorem d_Tre_choose_1 : decode Y_Tre_choose.2.1 1 = .ok (.getfield 24, 3) := by decide +kernel
theorem d_Tre_choose_4 : decode Y_Tre_choose.2.1 4 = .ok (.bipush 9, 2) := by decide +kernel
theorem d_Tre_choose_6 : decode Y_Tre_choose.2.1 6 = .ok (.if_icmp .lt 5, 3) := by decide +kernel
theorem d_Tre_choose_9 : decode Y_Tre_choose.2.1 9 = .ok (.iconst 0, 1) := by decide +kernel
theorem d_Tre_choose_10 : decode Y_Tre_choose.2.1 10 = .ok (.ireturn, 1) := by decide +kernel
theorem d_Tre_choose_11 : decode Y_Tre_choose.2.1 11 = .ok (.aload_n 0, 1) := by decide +kernel
theorem d_Tre_choose_12 : decode Y_Tre_choose.2.1 12 = .ok (.getfield 18, 3) := by decide +kernel
theorem d_Tre_choose_15 : decode Y_Tre_choose.2.1 15 = .ok (.aload_n 0, 1) := by decide +kernel
theorem d_Tre_choose_16 : decode Y_Tre_choose.2.1 16 = .ok (.getfield 24, 3) := by decide +kernel
theorem d_Tre_choose_19 : decode Y_Tre_choose.2.1 19 = .ok (.iload_n 1, 1) := by decide +kernel
theorem d_Tre_choose_20 : decode Y_Tre_choose.2.1 20 = .ok (.iastore, 1) := by decide +kernel
theorem d_Tre_choose_21 : decode Y_Tre_choose.2.1 21 = .ok (.aload_n 0, 1) := by decide +kernel
theorem d_Tre_choose_22 : decode Y_Tre_choose.2.1 22 = .ok (.getfield 21, 3) := by decide +kernel
theorem d_Tre_choose_25 : decode Y_Tre_choose.2.1 25 = .ok (.aload_n 0, 1) := by decide +kernel
theorem d_Tre_choose_26 : decode Y_Tre_choose.2.1 26 = .ok (.getfield 24, 3) := by decide +kernel
theorem d_Tre_choose_29 : decode Y_Tre_choose.2.1 29 = .ok (.iload_n 2, 1) := by decide +kernel
theorem d_Tre_choose_30 : decode Y_Tre_choose.2.1 30 = .ok (.iastore, 1) := by decide +kernel
theorem d_Tre_choose_31 : decode Y_Tre_choose.2.1 31 = .ok (.aload_n 0, 1) := by decide +kernel
theorem d_Tre_choose_32 : decode Y_Tre_choose.2.1 32 = .ok (.dup, 1) := by decide +kernel
theorem d_Tre_choose_33 : decode Y_Tre_choose.2.1 33 = .ok (.getfield 24, 3) := by decide +kernel
theorem d_Tre_choose_36 : decode Y_Tre_choose.2.1 36 = .ok (.iconst 1, 1) := by decide +kernel
theorem d_Tre_choose_37 : decode Y_Tre_choose.2.1 37 = .ok (.iadd, 1) := by decide +kernel
theorem d_Tre_choose_38 : decode Y_Tre_choose.2.1 38 = .ok (.putfield 24, 3) := by decide +kernel
theorem d_Tre_choose_41 : decode Y_Tre_choose.2.1 41 = .ok (.aload_n 0, 1) := by decide +kernel
theorem d_Tre_choose_42 : decode Y_Tre_choose.2.1 42 = .ok (.dup, 1) := by decide +kernel
theorem d_Tre_choose_43 : decode Y_Tre_choose.2.1 43 = .ok (.getfield 28, 3) := by decide +kernel
theorem d_Tre_choose_46 : decode Y_Tre_choose.2.1 46 = .ok (.aload_n 0, 1) := by decide +kernel
theorem d_Tre_choose_47 : decode Y_Tre_choose.2.1 47 = .ok (.iload_n 1, 1) := by decide +kernel
theorem d_Tre_choose_48 : decode Y_Tre_choose.2.1 48 = .ok (.iload_n 2, 1) := by decide +kernel
theorem d_Tre_choose_49 : decode Y_Tre_choose.2.1 49 = .ok (.invokevirtual 61, 3) := by decide +kernel
theorem d_Tre_choose_52 : decode Y_Tre_choose.2.1 52 = .ok (.iadd, 1) := by decide +kernel
theorem d_Tre_choose_53 : decode Y_Tre_choose.2.1 53 = .ok (.putfield 28, 3) := by decide +kernel
theorem d_Tre_choose_56 : decode Y_Tre_choose.2.1 56 = .ok (.aload_n 0, 1) := by decide +kernel
theorem d_Tre_choose_57 : decode Y_Tre_choose.2.1 57 = .ok (.getfield 15, 3) := by decide +kernel
theorem d_Tre_choose_60 : decode Y_Tre_choose.2.1 60 = .ok (.iload_n 2, 1) := by decide +kernel
theorem d_Tre_choose_61 : decode Y_Tre_choose.2.1 61 = .ok (.iaload, 1) := by decide +kernel
theorem d_Tre_choose_62 : decode Y_Tre_choose.2.1 62 = .ok (.istore_n 3, 1) := by decide +kernel
theorem d_Tre_choose_63 : decode Y_Tre_choose.2.1 63 = .ok (.iconst 0, 1) := by decide +kernel
theorem d_Tre_choose_64 : decode Y_Tre_choose.2.1 64 = .ok (.istore 4, 2) := by decide +kernel
theorem d_Tre_choose_66 : decode Y_Tre_choose.2.1 66 = .ok (.iload 4, 2) := by decide +kernel
theorem d_Tre_choose_68 : decode Y_Tre_choose.2.1 68 = .ok (.aload_n 0, 1) := by decide +kernel
theorem d_Tre_choose_69 : decode Y_Tre_choose.2.1 69 = .ok (.getfield 31, 3) := by decide +kernel
theorem d_Tre_choose_72 : decode Y_Tre_choose.2.1 72 = .ok (.getfield 35, 3) := by decide +kernel
theorem d_Tre_choose_75 : decode Y_Tre_choose.2.1 75 = .ok (.if_icmp .ge 33, 3) := by decide +kernel
theorem d_Tre_choose_78 : decode Y_Tre_choose.2.1 78 = .ok (.aload_n 0, 1) := by decide +kernel
theorem d_Tre_choose_79 : decode Y_Tre_choose.2.1 79 = .ok (.getfield 15, 3) := by decide +kernel
theorem d_Tre_choose_82 : decode Y_Tre_choose.2.1 82 = .ok (.iload 4, 2) := by decide +kernel
theorem d_Tre_choose_84 : decode Y_Tre_choose.2.1 84 = .ok (.iaload, 1) := by decide +kernel
theorem d_Tre_choose_85 : decode Y_Tre_choose.2.1 85 = .ok (.iload_n 3, 1) := by decide +kernel
theorem d_Tre_choose_86 : decode Y_Tre_choose.2.1 86 = .ok (.if_icmp .ne 16, 3) := by decide +kernel
theorem d_Tre_choose_89 : decode Y_Tre_choose.2.1 89 = .ok (.aload_n 0, 1) := by decide +kernel
theorem d_Tre_choose_90 : decode Y_Tre_choose.2.1 90 = .ok (.getfield 15, 3) := by decide +kernel
theorem d_Tre_choose_93 : decode Y_Tre_choose.2.1 93 = .ok (.iload 4, 2) := by decide +kernel
theorem d_Tre_choose_95 : decode Y_Tre_choose.2.1 95 = .ok (.aload_n 0, 1) := by decide +kernel
theorem d_Tre_choose_96 : decode Y_Tre_choose.2.1 96 = .ok (.getfield 15, 3) := by decide +kernel
theorem d_Tre_choose_99 : decode Y_Tre_choose.2.1 99 = .ok (.iload_n 1, 1) := by decide +kernel
theorem d_Tre_choose_100 : decode Y_Tre_choose.2.1 100 = .ok (.iaload, 1) := by decide +kernel
theorem d_Tre_choose_101 : decode Y_Tre_choose.2.1 101 = .ok (.iastore, 1) := by decide +kernel
theorem d_Tre_choose_102 : decode Y_Tre_choose.2.1 102 = .ok (.iinc 4 1, 3) := by decide +kernel
theorem d_Tre_choose_105 : decode Y_Tre_choose.2.1 105 = .ok (.goto (-39), 3) := by decide +kernel
theorem d_Tre_choose_108 : decode Y_Tre_choose.2.1 108 = .ok (.iconst 1, 1) := by decide +kernel
theorem d_Tre_choose_109 : decode Y_Tre_choose.2.1 109 = .ok (.ireturn, 1) := by decide +kernel
theorem d_Tre_chooseAtHouse_0 : decode Y_Tre_chooseAtHouse.2.1 0 = .ok (.ldc 60, 2) := by decide +kernel
theorem d_Tre_chooseAtHouse_2 : decode Y_Tre_chooseAtHouse.2.1 2 = .ok (.istore_n 2, 1) := by decide +kernel
theorem d_Tre_chooseAtHouse_3 : decode Y_Tre_chooseAtHouse.2.1 3 = .ok (.iconst 0, 1) := by decide +kernel
theorem d_Tre_chooseAtHouse_4 : decode Y_Tre_chooseAtHouse.2.1 4 = .ok (.istore_n 3, 1) := by decide +kernel
theorem d_Tre_chooseAtHouse_5 : decode Y_Tre_chooseAtHouse.2.1 5 = .ok (.iconst 1, 1) := by decide +kernel
theorem d_Tre_chooseAtHouse_6 : decode Y_Tre_chooseAtHouse.2.1 6 = .ok (.istore 4, 2) := by decide +kernel
theorem d_Tre_chooseAtHouse_8 : decode Y_Tre_chooseAtHouse.2.1 8 = .ok (.iload 4, 2) := by decide +kernel
theorem d_Tre_chooseAtHouse_10 : decode Y_Tre_chooseAtHouse.2.1 10 = .ok (.aload_n 0, 1) := by decide +kernel
theorem d_Tre_chooseAtHouse_11 : decode Y_Tre_chooseAtHouse.2.1 11 = .ok (.getfield 31, 3) := by decide +kernel
theorem d_Tre_chooseAtHouse_14 : decode Y_Tre_chooseAtHouse.2.1 14 = .ok (.getfield 35, 3) := by decide +kernel
theorem d_Tre_chooseAtHouse_17 : decode Y_Tre_chooseAtHouse.2.1 17 = .ok (.if_icmp .ge 37, 3) := by decide +kernel
theorem d_Tre_chooseAtHouse_20 : decode Y_Tre_chooseAtHouse.2.1 20 = .ok (.iload 4, 2) := by decide +kernel
theorem d_Tre_chooseAtHouse_22 : decode Y_Tre_chooseAtHouse.2.1 22 = .ok (.iload_n 1, 1) := by decide +kernel
theorem d_Tre_chooseAtHouse_23 : decode Y_Tre_chooseAtHouse.2.1 23 = .ok (.if_icmp .eq 25, 3) := by decide +kernel
theorem d_Tre_chooseAtHouse_26 : decode Y_Tre_chooseAtHouse.2.1 26 = .ok (.aload_n 0, 1) := by decide +kernel
theorem d_Tre_chooseAtHouse_27 : decode Y_Tre_chooseAtHouse.2.1 27 = .ok (.iconst 0, 1) := by decide +kernel
theorem d_Tre_chooseAtHouse_28 : decode Y_Tre_chooseAtHouse.2.1 28 = .ok (.iload 4, 2) := by decide +kernel
theorem d_Tre_chooseAtHouse_30 : decode Y_Tre_chooseAtHouse.2.1 30 = .ok (.invokevirtual 61, 3) := by decide +kernel
theorem d_Tre_chooseAtHouse_33 : decode Y_Tre_chooseAtHouse.2.1 33 = .ok (.iload_n 2, 1) := by decide +kernel
theorem d_Tre_chooseAtHouse_34 : decode Y_Tre_chooseAtHouse.2.1 34 = .ok (.if_icmp .ge 14, 3) := by decide +kernel
theorem d_Tre_chooseAtHouse_37 : decode Y_Tre_chooseAtHouse.2.1 37 = .ok (.aload_n 0, 1) := by decide +kernel
theorem d_Tre_chooseAtHouse_38 : decode Y_Tre_chooseAtHouse.2.1 38 = .ok (.iconst 0, 1) := by decide +kernel
theorem d_Tre_chooseAtHouse_39 : decode Y_Tre_chooseAtHouse.2.1 39 = .ok (.iload 4, 2) := by decide +kernel
theorem d_Tre_chooseAtHouse_41 : decode Y_Tre_chooseAtHouse.2.1 41 = .ok (.invokevirtual 61, 3) := by decide +kernel
theorem d_Tre_chooseAtHouse_44 : decode Y_Tre_chooseAtHouse.2.1 44 = .ok (.istore_n 2, 1) := by decide +kernel
theorem d_Tre_chooseAtHouse_45 : decode Y_Tre_chooseAtHouse.2.1 45 = .ok (.iload 4, 2) := by decide +kernel
theorem d_Tre_chooseAtHouse_47 : decode Y_Tre_chooseAtHouse.2.1 47 = .ok (.istore_n 3, 1) := by decide +kernel
theorem d_Tre_chooseAtHouse_48 : decode Y_Tre_chooseAtHouse.2.1 48 = .ok (.iinc 4 1, 3) := by decide +kernel
theorem d_Tre_chooseAtHouse_51 : decode Y_Tre_chooseAtHouse.2.1 51 = .ok (.goto (-43), 3) := by decide +kernel
theorem d_Tre_chooseAtHouse_54 : decode Y_Tre_chooseAtHouse.2.1 54 = .ok (.iload_n 2, 1) := by decide +kernel
theorem d_Tre_chooseAtHouse_55 : decode Y_Tre_chooseAtHouse.2.1 55 = .ok (.ldc 60, 2) := by decide +kernel
theorem d_Tre_chooseAtHouse_57 : decode Y_Tre_chooseAtHouse.2.1 57 = .ok (.if_icmp .eq 16, 3) := by decide +kernel
theorem d_Tre_chooseAtHouse_60 : decode Y_Tre_chooseAtHouse.2.1 60 = .ok (.aload_n 0, 1) := by decide +kernel
theorem d_Tre_chooseAtHouse_61 : decode Y_Tre_chooseAtHouse.2.1 61 = .ok (.iconst 0, 1) := by decide +kernel
theorem d_Tre_chooseAtHouse_62 : decode Y_Tre_chooseAtHouse.2.1 62 = .ok (.iload_n 3, 1) := by decide +kernel
theorem d_Tre_chooseAtHouse_63 : decode Y_Tre_chooseAtHouse.2.1 63 = .ok (.invokevirtual 64, 3) := by decide +kernel
theorem d_Tre_chooseAtHouse_66 : decode Y_Tre_chooseAtHouse.2.1 66 = .ok (.ifCond .eq 7, 3) := by decide +kernel
theorem d_Tre_chooseAtHouse_69 : decode Y_Tre_chooseAtHouse.2.1 69 = .ok (.iconst 1, 1) := by decide +kernel
theorem d_Tre_chooseAtHouse_70 : decode Y_Tre_chooseAtHouse.2.1 70 = .ok (.goto 4, 3) := by decide +kernel
theorem d_Tre_chooseAtHouse_73 : decode Y_Tre_chooseAtHouse.2.1 73 = .ok (.iconst 0, 1) := by decide +kernel
theorem d_Tre_chooseAtHouse_74 : decode Y_Tre_chooseAtHouse.2.1 74 = .ok (.ireturn, 1) := by decide +kernel
theorem d_Tre_lowerBound_0 : decode Y_Tre_lowerBound.2.1 0 = .ok (.iconst 0, 1) := by decide +kernel
theorem d_Tre_lowerBound_1 : decode Y_Tre_lowerBound.2.1 1 = .ok (.istore_n 1, 1) := by decide +kernel
theorem d_Tre_lowerBound_2 : decode Y_Tre_lowerBound.2.1 2 = .ok (.iconst 0, 1) := by decide +kernel
theorem d_Tre_lowerBound_3 : decode Y_Tre_lowerBound.2.1 3 = .ok (.istore_n 2, 1) := by decide +kernel
theorem d_Tre_lowerBound_4 : decode Y_Tre_lowerBound.2.1 4 = .ok (.iload_n 2, 1) := by decide +kernel
theorem d_Tre_lowerBound_5 : decode Y_Tre_lowerBound.2.1 5 = .ok (.aload_n 0, 1) := by decide +kernel
theorem d_Tre_lowerBound_6 : decode Y_Tre_lowerBound.2.1 6 = .ok (.getfield 31, 3) := by decide +kernel
theorem d_Tre_lowerBound_9 : decode Y_Tre_lowerBound.2.1 9 = .ok (.getfield 35, 3) := by decide +kernel
theorem d_Tre_lowerBound_12 : decode Y_Tre_lowerBound.2.1 12 = .ok (.if_icmp .ge 18, 3) := by decide +kernel
theorem d_Tre_lowerBound_15 : decode Y_Tre_lowerBound.2.1 15 = .ok (.iload_n 1, 1) := by decide +kernel
theorem d_Tre_lowerBound_16 : decode Y_Tre_lowerBound.2.1 16 = .ok (.aload_n 0, 1) := by decide +kernel
theorem d_Tre_lowerBound_17 : decode Y_Tre_lowerBound.2.1 17 = .ok (.getfield 9, 3) := by decide +kernel
theorem d_Tre_lowerBound_20 : decode Y_Tre_lowerBound.2.1 20 = .ok (.iload_n 2, 1) := by decide +kernel
theorem d_Tre_lowerBound_21 : decode Y_Tre_lowerBound.2.1 21 = .ok (.iaload, 1) := by decide +kernel
theorem d_Tre_lowerBound_22 : decode Y_Tre_lowerBound.2.1 22 = .ok (.iadd, 1) := by decide +kernel
theorem d_Tre_lowerBound_23 : decode Y_Tre_lowerBound.2.1 23 = .ok (.istore_n 1, 1) := by decide +kernel
theorem d_Tre_lowerBound_24 : decode Y_Tre_lowerBound.2.1 24 = .ok (.iinc 2 1, 3) := by decide +kernel
theorem d_Tre_lowerBound_27 : decode Y_Tre_lowerBound.2.1 27 = .ok (.goto (-23), 3) := by decide +kernel
theorem d_Tre_lowerBound_30 : decode Y_Tre_lowerBound.2.1 30 = .ok (.aload_n 0, 1) := by decide +kernel
theorem d_Tre_lowerBound_31 : decode Y_Tre_lowerBound.2.1 31 = .ok (.getfield 28, 3) := by decide +kernel
theorem d_Tre_lowerBound_34 : decode Y_Tre_lowerBound.2.1 34 = .ok (.iconst 2, 1) := by decide +kernel
theorem d_Tre_lowerBound_35 : decode Y_Tre_lowerBound.2.1 35 = .ok (.iload_n 1, 1) := by decide +kernel
theorem d_Tre_lowerBound_36 : decode Y_Tre_lowerBound.2.1 36 = .ok (.imul, 1) := by decide +kernel
theorem d_Tre_lowerBound_37 : decode Y_Tre_lowerBound.2.1 37 = .ok (.isub, 1) := by decide +kernel
theorem d_Tre_lowerBound_38 : decode Y_Tre_lowerBound.2.1 38 = .ok (.ireturn, 1) := by decide +kernel
theorem d_Tre_edgesAt_0 : decode Y_Tre_edgesAt.2.1 0 = .ok (.iconst 0, 1) := by decide +kernel
theorem d_Tre_edgesAt_1 : decode Y_Tre_edgesAt.2.1 1 = .ok (.istore_n 2, 1) := by decide +kernel
theorem d_Tre_edgesAt_2 : decode Y_Tre_edgesAt.2.1 2 = .ok (.iconst 0, 1) := by decide +kernel
theorem d_Tre_edgesAt_3 : decode Y_Tre_edgesAt.2.1 3 = .ok (.istore_n 3, 1) := by decide +kernel
theorem d_Tre_edgesAt_4 : decode Y_Tre_edgesAt.2.1 4 = .ok (.iload_n 3, 1) := by decide +kernel
theorem d_Tre_edgesAt_5 : decode Y_Tre_edgesAt.2.1 5 = .ok (.aload_n 0, 1) := by decide +kernel
theorem d_Tre_edgesAt_6 : decode Y_Tre_edgesAt.2.1 6 = .ok (.getfield 24, 3) := by decide +kernel
theorem d_Tre_edgesAt_9 : decode Y_Tre_edgesAt.2.1 9 = .ok (.if_icmp .ge 32, 3) := by decide +kernel
theorem d_Tre_edgesAt_12 : decode Y_Tre_edgesAt.2.1 12 = .ok (.aload_n 0, 1) := by decide +kernel
theorem d_Tre_edgesAt_13 : decode Y_Tre_edgesAt.2.1 13 = .ok (.getfield 18, 3) := by decide +kernel
theorem d_Tre_edgesAt_16 : decode Y_Tre_edgesAt.2.1 16 = .ok (.iload_n 3, 1) := by decide +kernel
theorem d_Tre_edgesAt_17 : decode Y_Tre_edgesAt.2.1 17 = .ok (.iaload, 1) := by decide +kernel
theorem d_Tre_edgesAt_18 : decode Y_Tre_edgesAt.2.1 18 = .ok (.iload_n 1, 1) := by decide +kernel
theorem d_Tre_edgesAt_19 : decode Y_Tre_edgesAt.2.1 19 = .ok (.if_icmp .eq 13, 3) := by decide +kernel
theorem d_Tre_edgesAt_22 : decode Y_Tre_edgesAt.2.1 22 = .ok (.aload_n 0, 1) := by decide +kernel
theorem d_Tre_edgesAt_23 : decode Y_Tre_edgesAt.2.1 23 = .ok (.getfield 21, 3) := by decide +kernel
theorem d_Tre_edgesAt_26 : decode Y_Tre_edgesAt.2.1 26 = .ok (.iload_n 3, 1) := by decide +kernel
theorem d_Tre_edgesAt_27 : decode Y_Tre_edgesAt.2.1 27 = .ok (.iaload, 1) := by decide +kernel
theorem d_Tre_edgesAt_28 : decode Y_Tre_edgesAt.2.1 28 = .ok (.iload_n 1, 1) := by decide +kernel
theorem d_Tre_edgesAt_29 : decode Y_Tre_edgesAt.2.1 29 = .ok (.if_icmp .ne 6, 3) := by decide +kernel
theorem d_Tre_edgesAt_32 : decode Y_Tre_edgesAt.2.1 32 = .ok (.iinc 2 1, 3) := by decide +kernel
theorem d_Tre_edgesAt_35 : decode Y_Tre_edgesAt.2.1 35 = .ok (.iinc 3 1, 3) := by decide +kernel
theorem d_Tre_edgesAt_38 : decode Y_Tre_edgesAt.2.1 38 = .ok (.goto (-34), 3) := by decide +kernel
theorem d_Tre_edgesAt_41 : decode Y_Tre_edgesAt.2.1 41 = .ok (.iload_n 2, 1) := by decide +kernel
theorem d_Tre_edgesAt_42 : decode Y_Tre_edgesAt.2.1 42 = .ok (.ireturn, 1) := by decide +kernel
theorem d_Pai_leastCost_0 : decode Y_Pai_leastCost.2.1 0 = .ok (.iconst 1, 1) := by decide +kernel
theorem d_Pai_leastCost_1 : decode Y_Pai_leastCost.2.1 1 = .ok (.aload_n 0, 1) := by decide +kernel
theorem d_Pai_leastCost_2 : decode Y_Pai_leastCost.2.1 2 = .ok (.getfield 15, 3) := by decide +kernel
theorem d_Pai_leastCost_5 : decode Y_Pai_leastCost.2.1 5 = .ok (.getfield 19, 3) := by decide +kernel
theorem d_Pai_leastCost_8 : decode Y_Pai_leastCost.2.1 8 = .ok (.ishl, 1) := by decide +kernel
theorem d_Pai_leastCost_9 : decode Y_Pai_leastCost.2.1 9 = .ok (.iconst 1, 1) := by decide +kernel
theorem d_Pai_leastCost_10 : decode Y_Pai_leastCost.2.1 10 = .ok (.isub, 1) := by decide +kernel
theorem d_Pai_leastCost_11 : decode Y_Pai_leastCost.2.1 11 = .ok (.istore_n 1, 1) := by decide +kernel
theorem d_Pai_leastCost_12 : decode Y_Pai_leastCost.2.1 12 = .ok (.aload_n 0, 1) := by decide +kernel
theorem d_Pai_leastCost_13 : decode Y_Pai_leastCost.2.1 13 = .ok (.getfield 9, 3) := by decide +kernel
theorem d_Pai_leastCost_16 : decode Y_Pai_leastCost.2.1 16 = .ok (.iconst 0, 1) := by decide +kernel
theorem d_Pai_leastCost_17 : decode Y_Pai_leastCost.2.1 17 = .ok (.iconst 0, 1) := by decide +kernel
theorem d_Pai_leastCost_18 : decode Y_Pai_leastCost.2.1 18 = .ok (.iastore, 1) := by decide +kernel
theorem d_Pai_leastCost_19 : decode Y_Pai_leastCost.2.1 19 = .ok (.iconst 1, 1) := by decide +kernel
theorem d_Pai_leastCost_20 : decode Y_Pai_leastCost.2.1 20 = .ok (.istore_n 2, 1) := by decide +kernel
theorem d_Pai_leastCost_21 : decode Y_Pai_leastCost.2.1 21 = .ok (.iload_n 2, 1) := by decide +kernel
theorem d_Pai_leastCost_22 : decode Y_Pai_leastCost.2.1 22 = .ok (.iload_n 1, 1) := by decide +kernel
theorem d_Pai_leastCost_23 : decode Y_Pai_leastCost.2.1 23 = .ok (.if_icmp .gt 96, 3) := by decide +kernel
theorem d_Pai_leastCost_26 : decode Y_Pai_leastCost.2.1 26 = .ok (.iload_n 2, 1) := by decide +kernel
theorem d_Pai_leastCost_27 : decode Y_Pai_leastCost.2.1 27 = .ok (.invokestatic 25, 3) := by decide +kernel
theorem d_Pai_leastCost_30 : decode Y_Pai_leastCost.2.1 30 = .ok (.iconst 1, 1) := by decide +kernel
theorem d_Pai_leastCost_31 : decode Y_Pai_leastCost.2.1 31 = .ok (.isub, 1) := by decide +kernel
theorem d_Pai_leastCost_32 : decode Y_Pai_leastCost.2.1 32 = .ok (.istore_n 3, 1) := by decide +kernel
theorem d_Pai_leastCost_33 : decode Y_Pai_leastCost.2.1 33 = .ok (.ldc 31, 2) := by decide +kernel
theorem d_Pai_leastCost_35 : decode Y_Pai_leastCost.2.1 35 = .ok (.istore 4, 2) := by decide +kernel
theorem d_Pai_leastCost_37 : decode Y_Pai_leastCost.2.1 37 = .ok (.iconst 0, 1) := by decide +kernel
theorem d_Pai_leastCost_38 : decode Y_Pai_leastCost.2.1 38 = .ok (.istore 5, 2) := by decide +kernel
theorem d_Pai_leastCost_40 : decode Y_Pai_leastCost.2.1 40 = .ok (.iload 5, 2) := by decide +kernel
theorem d_Pai_leastCost_42 : decode Y_Pai_leastCost.2.1 42 = .ok (.aload_n 0, 1) := by decide +kernel
theorem d_Pai_leastCost_43 : decode Y_Pai_leastCost.2.1 43 = .ok (.getfield 15, 3) := by decide +kernel
theorem d_Pai_leastCost_46 : decode Y_Pai_leastCost.2.1 46 = .ok (.getfield 19, 3) := by decide +kernel
theorem d_Pai_leastCost_49 : decode Y_Pai_leastCost.2.1 49 = .ok (.if_icmp .ge 56, 3) := by decide +kernel
theorem d_Pai_leastCost_52 : decode Y_Pai_leastCost.2.1 52 = .ok (.iload_n 2, 1) := by decide +kernel
theorem d_Pai_leastCost_53 : decode Y_Pai_leastCost.2.1 53 = .ok (.iconst 1, 1) := by decide +kernel
theorem d_Pai_leastCost_54 : decode Y_Pai_leastCost.2.1 54 = .ok (.iload 5, 2) := by decide +kernel
theorem d_Pai_leastCost_56 : decode Y_Pai_leastCost.2.1 56 = .ok (.ishl, 1) := by decide +kernel
theorem d_Pai_leastCost_57 : decode Y_Pai_leastCost.2.1 57 = .ok (.iand, 1) := by decide +kernel
theorem d_Pai_leastCost_58 : decode Y_Pai_leastCost.2.1 58 = .ok (.ifCond .eq 41, 3) := by decide +kernel
theorem d_Pai_leastCost_61 : decode Y_Pai_leastCost.2.1 61 = .ok (.iload 4, 2) := by decide +kernel
theorem d_Pai_leastCost_63 : decode Y_Pai_leastCost.2.1 63 = .ok (.aload_n 0, 1) := by decide +kernel
theorem d_Pai_leastCost_64 : decode Y_Pai_leastCost.2.1 64 = .ok (.getfield 9, 3) := by decide +kernel
theorem d_Pai_leastCost_67 : decode Y_Pai_leastCost.2.1 67 = .ok (.iload_n 2, 1) := by decide +kernel
theorem d_Pai_leastCost_68 : decode Y_Pai_leastCost.2.1 68 = .ok (.iconst 1, 1) := by decide +kernel
theorem d_Pai_leastCost_69 : decode Y_Pai_leastCost.2.1 69 = .ok (.iload 5, 2) := by decide +kernel
theorem d_Pai_leastCost_71 : decode Y_Pai_leastCost.2.1 71 = .ok (.ishl, 1) := by decide +kernel
theorem d_Pai_leastCost_72 : decode Y_Pai_leastCost.2.1 72 = .ok (.iconst (-1), 1) := by decide +kernel
theorem d_Pai_leastCost_73 : decode Y_Pai_leastCost.2.1 73 = .ok (.ixor, 1) := by decide +kernel
theorem d_Pai_leastCost_74 : decode Y_Pai_leastCost.2.1 74 = .ok (.iand, 1) := by decide +kernel
theorem d_Pai_leastCost_75 : decode Y_Pai_leastCost.2.1 75 = .ok (.iaload, 1) := by decide +kernel
theorem d_Pai_leastCost_76 : decode Y_Pai_leastCost.2.1 76 = .ok (.aload_n 0, 1) := by decide +kernel
theorem d_Pai_leastCost_77 : decode Y_Pai_leastCost.2.1 77 = .ok (.getfield 15, 3) := by decide +kernel
theorem d_Pai_leastCost_80 : decode Y_Pai_leastCost.2.1 80 = .ok (.getfield 32, 3) := by decide +kernel
theorem d_Pai_leastCost_83 : decode Y_Pai_leastCost.2.1 83 = .ok (.iload_n 3, 1) := by decide +kernel
theorem d_Pai_leastCost_84 : decode Y_Pai_leastCost.2.1 84 = .ok (.bipush 9, 2) := by decide +kernel
theorem d_Pai_leastCost_86 : decode Y_Pai_leastCost.2.1 86 = .ok (.imul, 1) := by decide +kernel
theorem d_Pai_leastCost_87 : decode Y_Pai_leastCost.2.1 87 = .ok (.iload 5, 2) := by decide +kernel
theorem d_Pai_leastCost_89 : decode Y_Pai_leastCost.2.1 89 = .ok (.iadd, 1) := by decide +kernel
theorem d_Pai_leastCost_90 : decode Y_Pai_leastCost.2.1 90 = .ok (.iaload, 1) := by decide +kernel
theorem d_Pai_leastCost_91 : decode Y_Pai_leastCost.2.1 91 = .ok (.invokestatic 35, 3) := by decide +kernel
theorem d_Pai_leastCost_94 : decode Y_Pai_leastCost.2.1 94 = .ok (.invokestatic 39, 3) := by decide +kernel
theorem d_Pai_leastCost_97 : decode Y_Pai_leastCost.2.1 97 = .ok (.istore 4, 2) := by decide +kernel
theorem d_Pai_leastCost_99 : decode Y_Pai_leastCost.2.1 99 = .ok (.iinc 5 1, 3) := by decide +kernel
theorem d_Pai_leastCost_102 : decode Y_Pai_leastCost.2.1 102 = .ok (.goto (-62), 3) := by decide +kernel
theorem d_Pai_leastCost_105 : decode Y_Pai_leastCost.2.1 105 = .ok (.aload_n 0, 1) := by decide +kernel
theorem d_Pai_leastCost_106 : decode Y_Pai_leastCost.2.1 106 = .ok (.getfield 9, 3) := by decide +kernel
theorem d_Pai_leastCost_109 : decode Y_Pai_leastCost.2.1 109 = .ok (.iload_n 2, 1) := by decide +kernel
theorem d_Pai_leastCost_110 : decode Y_Pai_leastCost.2.1 110 = .ok (.iload 4, 2) := by decide +kernel
theorem d_Pai_leastCost_112 : decode Y_Pai_leastCost.2.1 112 = .ok (.iastore, 1) := by decide +kernel
theorem d_Pai_leastCost_113 : decode Y_Pai_leastCost.2.1 113 = .ok (.iinc 2 1, 3) := by decide +kernel
theorem d_Pai_leastCost_116 : decode Y_Pai_leastCost.2.1 116 = .ok (.goto (-95), 3) := by decide +kernel
theorem d_Pai_leastCost_119 : decode Y_Pai_leastCost.2.1 119 = .ok (.aload_n 0, 1) := by decide +kernel
theorem d_Pai_leastCost_120 : decode Y_Pai_leastCost.2.1 120 = .ok (.getfield 9, 3) := by decide +kernel
theorem d_Pai_leastCost_123 : decode Y_Pai_leastCost.2.1 123 = .ok (.iload_n 1, 1) := by decide +kernel
theorem d_Pai_leastCost_124 : decode Y_Pai_leastCost.2.1 124 = .ok (.iaload, 1) := by decide +kernel
theorem d_Pai_leastCost_125 : decode Y_Pai_leastCost.2.1 125 = .ok (.ireturn, 1) := by decide +kernel
theorem d_Cir_changeFollower_0 : decode Y_Cir_changeFollower.2.1 0 = .ok (.aload_n 0, 1) := by decide +kernel
theorem d_Cir_changeFollower_1 : decode Y_Cir_changeFollower.2.1 1 = .ok (.getfield 9, 3) := by decide +kernel
theorem d_Cir_changeFollower_4 : decode Y_Cir_changeFollower.2.1 4 = .ok (.iload_n 1, 1) := by decide +kernel
theorem d_Cir_changeFollower_5 : decode Y_Cir_changeFollower.2.1 5 = .ok (.iaload, 1) := by decide +kernel
theorem d_Cir_changeFollower_6 : decode Y_Cir_changeFollower.2.1 6 = .ok (.istore_n 3, 1) := by decide +kernel
theorem d_Cir_changeFollower_7 : decode Y_Cir_changeFollower.2.1 7 = .ok (.aload_n 0, 1) := by decide +kernel
theorem d_Cir_changeFollower_8 : decode Y_Cir_changeFollower.2.1 8 = .ok (.getfield 9, 3) := by decide +kernel
theorem d_Cir_changeFollower_11 : decode Y_Cir_changeFollower.2.1 11 = .ok (.iload_n 1, 1) := by decide +kernel
theorem d_Cir_changeFollower_12 : decode Y_Cir_changeFollower.2.1 12 = .ok (.iload_n 2, 1) := by decide +kernel
theorem d_Cir_changeFollower_13 : decode Y_Cir_changeFollower.2.1 13 = .ok (.iastore, 1) := by decide +kernel
theorem d_Cir_changeFollower_14 : decode Y_Cir_changeFollower.2.1 14 = .ok (.iload_n 3, 1) := by decide +kernel
theorem d_Cir_changeFollower_15 : decode Y_Cir_changeFollower.2.1 15 = .ok (.ireturn, 1) := by decide +kernel
theorem d_Cir_find_0 : decode Y_Cir_find.2.1 0 = .ok (.iconst 0, 1) := by decide +kernel
theorem d_Cir_find_1 : decode Y_Cir_find.2.1 1 = .ok (.istore_n 1, 1) := by decide +kernel
theorem d_Cir_find_2 : decode Y_Cir_find.2.1 2 = .ok (.iconst 0, 1) := by decide +kernel
theorem d_Cir_find_3 : decode Y_Cir_find.2.1 3 = .ok (.istore_n 2, 1) := by decide +kernel
theorem d_Cir_find_4 : decode Y_Cir_find.2.1 4 = .ok (.iload_n 2, 1) := by decide +kernel
theorem d_Cir_find_5 : decode Y_Cir_find.2.1 5 = .ok (.aload_n 0, 1) := by decide +kernel
theorem d_Cir_find_6 : decode Y_Cir_find.2.1 6 = .ok (.getfield 18, 3) := by decide +kernel
theorem d_Cir_find_9 : decode Y_Cir_find.2.1 9 = .ok (.getfield 22, 3) := by decide +kernel
theorem d_Cir_find_12 : decode Y_Cir_find.2.1 12 = .ok (.if_icmp .ge 29, 3) := by decide +kernel
theorem d_Cir_find_15 : decode Y_Cir_find.2.1 15 = .ok (.aload_n 0, 1) := by decide +kernel
theorem d_Cir_find_16 : decode Y_Cir_find.2.1 16 = .ok (.iload_n 2, 1) := by decide +kernel
theorem d_Cir_find_17 : decode Y_Cir_find.2.1 17 = .ok (.invokevirtual 28, 3) := by decide +kernel
theorem d_Cir_find_20 : decode Y_Cir_find.2.1 20 = .ok (.istore_n 3, 1) := by decide +kernel
theorem d_Cir_find_21 : decode Y_Cir_find.2.1 21 = .ok (.iload_n 3, 1) := by decide +kernel
theorem d_Cir_find_22 : decode Y_Cir_find.2.1 22 = .ok (.ifCond .eq 13, 3) := by decide +kernel
theorem d_Cir_find_25 : decode Y_Cir_find.2.1 25 = .ok (.aload_n 0, 1) := by decide +kernel
theorem d_Cir_find_26 : decode Y_Cir_find.2.1 26 = .ok (.getfield 15, 3) := by decide +kernel
theorem d_Cir_find_29 : decode Y_Cir_find.2.1 29 = .ok (.iload_n 1, 1) := by decide +kernel
theorem d_Cir_find_30 : decode Y_Cir_find.2.1 30 = .ok (.iload_n 3, 1) := by decide +kernel
theorem d_Cir_find_31 : decode Y_Cir_find.2.1 31 = .ok (.iastore, 1) := by decide +kernel
theorem d_Cir_find_32 : decode Y_Cir_find.2.1 32 = .ok (.iinc 1 1, 3) := by decide +kernel
theorem d_Cir_find_35 : decode Y_Cir_find.2.1 35 = .ok (.iinc 2 1, 3) := by decide +kernel
theorem d_Cir_find_38 : decode Y_Cir_find.2.1 38 = .ok (.goto (-34), 3) := by decide +kernel
theorem d_Cir_find_41 : decode Y_Cir_find.2.1 41 = .ok (.iload_n 1, 1) := by decide +kernel
theorem d_Cir_find_42 : decode Y_Cir_find.2.1 42 = .ok (.ireturn, 1) := by decide +kernel
theorem d_Cir_circleFrom_0 : decode Y_Cir_circleFrom.2.1 0 = .ok (.iconst 0, 1) := by decide +kernel
theorem d_Cir_circleFrom_1 : decode Y_Cir_circleFrom.2.1 1 = .ok (.istore_n 2, 1) := by decide +kernel
theorem d_Cir_circleFrom_2 : decode Y_Cir_circleFrom.2.1 2 = .ok (.iload_n 1, 1) := by decide +kernel
theorem d_Cir_circleFrom_3 : decode Y_Cir_circleFrom.2.1 3 = .ok (.istore_n 3, 1) := by decide +kernel
theorem d_Cir_circleFrom_4 : decode Y_Cir_circleFrom.2.1 4 = .ok (.iconst 0, 1) := by decide +kernel
theorem d_Cir_circleFrom_5 : decode Y_Cir_circleFrom.2.1 5 = .ok (.istore 4, 2) := by decide +kernel
theorem d_Cir_circleFrom_7 : decode Y_Cir_circleFrom.2.1 7 = .ok (.iload 4, 2) := by decide +kernel
theorem d_Cir_circleFrom_9 : decode Y_Cir_circleFrom.2.1 9 = .ok (.aload_n 0, 1) := by decide +kernel
theorem d_Cir_circleFrom_10 : decode Y_Cir_circleFrom.2.1 10 = .ok (.getfield 18, 3) := by decide +kernel
theorem d_Cir_circleFrom_13 : decode Y_Cir_circleFrom.2.1 13 = .ok (.getfield 22, 3) := by decide +kernel
theorem d_Cir_circleFrom_16 : decode Y_Cir_circleFrom.2.1 16 = .ok (.if_icmp .ge 36, 3) := by decide +kernel
theorem d_Cir_circleFrom_19 : decode Y_Cir_circleFrom.2.1 19 = .ok (.aload_n 0, 1) := by decide +kernel
theorem d_Cir_circleFrom_20 : decode Y_Cir_circleFrom.2.1 20 = .ok (.getfield 9, 3) := by decide +kernel
theorem d_Cir_circleFrom_23 : decode Y_Cir_circleFrom.2.1 23 = .ok (.iload_n 3, 1) := by decide +kernel
theorem d_Cir_circleFrom_24 : decode Y_Cir_circleFrom.2.1 24 = .ok (.iaload, 1) := by decide +kernel
theorem d_Cir_circleFrom_25 : decode Y_Cir_circleFrom.2.1 25 = .ok (.istore_n 3, 1) := by decide +kernel
theorem d_Cir_circleFrom_26 : decode Y_Cir_circleFrom.2.1 26 = .ok (.iload_n 3, 1) := by decide +kernel
theorem d_Cir_circleFrom_27 : decode Y_Cir_circleFrom.2.1 27 = .ok (.iload_n 1, 1) := by decide +kernel
theorem d_Cir_circleFrom_28 : decode Y_Cir_circleFrom.2.1 28 = .ok (.if_icmp .ge 5, 3) := by decide +kernel
theorem d_Cir_circleFrom_31 : decode Y_Cir_circleFrom.2.1 31 = .ok (.iconst 0, 1) := by decide +kernel
theorem d_Cir_circleFrom_32 : decode Y_Cir_circleFrom.2.1 32 = .ok (.ireturn, 1) := by decide +kernel
theorem d_Cir_circleFrom_33 : decode Y_Cir_circleFrom.2.1 33 = .ok (.iload_n 2, 1) := by decide +kernel
theorem d_Cir_circleFrom_34 : decode Y_Cir_circleFrom.2.1 34 = .ok (.iconst 1, 1) := by decide +kernel
theorem d_Cir_circleFrom_35 : decode Y_Cir_circleFrom.2.1 35 = .ok (.iload_n 3, 1) := by decide +kernel
theorem d_Cir_circleFrom_36 : decode Y_Cir_circleFrom.2.1 36 = .ok (.ishl, 1) := by decide +kernel
theorem d_Cir_circleFrom_37 : decode Y_Cir_circleFrom.2.1 37 = .ok (.ior, 1) := by decide +kernel
theorem d_Cir_circleFrom_38 : decode Y_Cir_circleFrom.2.1 38 = .ok (.istore_n 2, 1) := by decide +kernel
theorem d_Cir_circleFrom_39 : decode Y_Cir_circleFrom.2.1 39 = .ok (.iload_n 3, 1) := by decide +kernel
theorem d_Cir_circleFrom_40 : decode Y_Cir_circleFrom.2.1 40 = .ok (.iload_n 1, 1) := by decide +kernel
theorem d_Cir_circleFrom_41 : decode Y_Cir_circleFrom.2.1 41 = .ok (.if_icmp .ne 5, 3) := by decide +kernel
theorem d_Cir_circleFrom_44 : decode Y_Cir_circleFrom.2.1 44 = .ok (.iload_n 2, 1) := by decide +kernel
theorem d_Cir_circleFrom_45 : decode Y_Cir_circleFrom.2.1 45 = .ok (.ireturn, 1) := by decide +kernel
theorem d_Cir_circleFrom_46 : decode Y_Cir_circleFrom.2.1 46 = .ok (.iinc 4 1, 3) := by decide +kernel
theorem d_Cir_circleFrom_49 : decode Y_Cir_circleFrom.2.1 49 = .ok (.goto (-42), 3) := by decide +kernel
theorem d_Cir_circleFrom_52 : decode Y_Cir_circleFrom.2.1 52 = .ok (.iconst 0, 1) := by decide +kernel
theorem d_Cir_circleFrom_53 : decode Y_Cir_circleFrom.2.1 53 = .ok (.ireturn, 1) := by decide +kernel
theorem d_Way_nearestLeading_0 : decode Y_Way_nearestLeading.2.1 0 = .ok (.iload_n 1, 1) := by decide +kernel
theorem d_Way_nearestLeading_1 : decode Y_Way_nearestLeading.2.1 1 = .ok (.ifCond .eq 15, 3) := by decide +kernel
theorem d_Way_nearestLeading_4 : decode Y_Way_nearestLeading.2.1 4 = .ok (.aload_n 0, 1) := by decide +kernel
theorem d_Way_nearestLeading_5 : decode Y_Way_nearestLeading.2.1 5 = .ok (.iconst (-1), 1) := by decide +kernel
theorem d_Way_nearestLeading_6 : decode Y_Way_nearestLeading.2.1 6 = .ok (.invokevirtual 19, 3) := by decide +kernel
theorem d_Way_nearestLeading_9 : decode Y_Way_nearestLeading.2.1 9 = .ok (.iconst 1, 1) := by decide +kernel
theorem d_Way_nearestLeading_10 : decode Y_Way_nearestLeading.2.1 10 = .ok (.iload_n 1, 1) := by decide +kernel
theorem d_Way_nearestLeading_11 : decode Y_Way_nearestLeading.2.1 11 = .ok (.ishl, 1) := by decide +kernel
theorem d_Way_nearestLeading_12 : decode Y_Way_nearestLeading.2.1 12 = .ok (.iand, 1) := by decide +kernel
theorem d_Way_nearestLeading_13 : decode Y_Way_nearestLeading.2.1 13 = .ok (.ifCond .ne 6, 3) := by decide +kernel
theorem d_Way_nearestLeading_16 : decode Y_Way_nearestLeading.2.1 16 = .ok (.ldc 23, 2) := by decide +kernel
theorem d_Way_nearestLeading_18 : decode Y_Way_nearestLeading.2.1 18 = .ok (.ireturn, 1) := by decide +kernel
theorem d_Way_nearestLeading_19 : decode Y_Way_nearestLeading.2.1 19 = .ok (.iconst 0, 1) := by decide +kernel
theorem d_Way_nearestLeading_20 : decode Y_Way_nearestLeading.2.1 20 = .ok (.istore_n 2, 1) := by decide +kernel
theorem d_Way_nearestLeading_21 : decode Y_Way_nearestLeading.2.1 21 = .ok (.iload_n 2, 1) := by decide +kernel
theorem d_Way_nearestLeading_22 : decode Y_Way_nearestLeading.2.1 22 = .ok (.aload_n 0, 1) := by decide +kernel
theorem d_Way_nearestLeading_23 : decode Y_Way_nearestLeading.2.1 23 = .ok (.getfield 15, 3) := by decide +kernel
theorem d_Way_nearestLeading_26 : decode Y_Way_nearestLeading.2.1 26 = .ok (.getfield 24, 3) := by decide +kernel
theorem d_Way_nearestLeading_29 : decode Y_Way_nearestLeading.2.1 29 = .ok (.if_icmp .ge 20, 3) := by decide +kernel
theorem d_Way_nearestLeading_32 : decode Y_Way_nearestLeading.2.1 32 = .ok (.aload_n 0, 1) := by decide +kernel
theorem d_Way_nearestLeading_33 : decode Y_Way_nearestLeading.2.1 33 = .ok (.getfield 9, 3) := by decide +kernel
theorem d_Way_nearestLeading_36 : decode Y_Way_nearestLeading.2.1 36 = .ok (.iload_n 2, 1) := by decide +kernel
theorem d_Way_nearestLeading_37 : decode Y_Way_nearestLeading.2.1 37 = .ok (.aload_n 0, 1) := by decide +kernel
theorem d_Way_nearestLeading_38 : decode Y_Way_nearestLeading.2.1 38 = .ok (.iload_n 2, 1) := by decide +kernel
theorem d_Way_nearestLeading_39 : decode Y_Way_nearestLeading.2.1 39 = .ok (.invokevirtual 19, 3) := by decide +kernel
theorem d_Way_nearestLeading_42 : decode Y_Way_nearestLeading.2.1 42 = .ok (.iastore, 1) := by decide +kernel
theorem d_Way_nearestLeading_43 : decode Y_Way_nearestLeading.2.1 43 = .ok (.iinc 2 1, 3) := by decide +kernel
theorem d_Way_nearestLeading_46 : decode Y_Way_nearestLeading.2.1 46 = .ok (.goto (-25), 3) := by decide +kernel
theorem d_Way_nearestLeading_49 : decode Y_Way_nearestLeading.2.1 49 = .ok (.iconst 0, 1) := by decide +kernel
theorem d_Way_nearestLeading_50 : decode Y_Way_nearestLeading.2.1 50 = .ok (.istore_n 2, 1) := by decide +kernel
theorem d_Way_nearestLeading_51 : decode Y_Way_nearestLeading.2.1 51 = .ok (.iload_n 2, 1) := by decide +kernel
theorem d_Way_nearestLeading_52 : decode Y_Way_nearestLeading.2.1 52 = .ok (.aload_n 0, 1) := by decide +kernel
theorem d_Way_nearestLeading_53 : decode Y_Way_nearestLeading.2.1 53 = .ok (.getfield 15, 3) := by decide +kernel
theorem d_Way_nearestLeading_56 : decode Y_Way_nearestLeading.2.1 56 = .ok (.getfield 24, 3) := by decide +kernel
theorem d_Way_nearestLeading_59 : decode Y_Way_nearestLeading.2.1 59 = .ok (.if_icmp .ge 29, 3) := by decide +kernel
theorem d_Way_nearestLeading_62 : decode Y_Way_nearestLeading.2.1 62 = .ok (.aload_n 0, 1) := by decide +kernel
theorem d_Way_nearestLeading_63 : decode Y_Way_nearestLeading.2.1 63 = .ok (.iload_n 2, 1) := by decide +kernel
theorem d_Way_nearestLeading_64 : decode Y_Way_nearestLeading.2.1 64 = .ok (.iload_n 1, 1) := by decide +kernel
theorem d_Way_nearestLeading_65 : decode Y_Way_nearestLeading.2.1 65 = .ok (.invokevirtual 30, 3) := by decide +kernel
theorem d_Way_nearestLeading_68 : decode Y_Way_nearestLeading.2.1 68 = .ok (.ifCond .eq 14, 3) := by decide +kernel
theorem d_Way_nearestLeading_71 : decode Y_Way_nearestLeading.2.1 71 = .ok (.aload_n 0, 1) := by decide +kernel
theorem d_Way_nearestLeading_72 : decode Y_Way_nearestLeading.2.1 72 = .ok (.iload_n 2, 1) := by decide +kernel
theorem d_Way_nearestLeading_73 : decode Y_Way_nearestLeading.2.1 73 = .ok (.iload_n 1, 1) := by decide +kernel
theorem d_Way_nearestLeading_74 : decode Y_Way_nearestLeading.2.1 74 = .ok (.invokevirtual 34, 3) := by decide +kernel
theorem d_Way_nearestLeading_77 : decode Y_Way_nearestLeading.2.1 77 = .ok (.ifCond .eq 5, 3) := by decide +kernel
theorem d_Way_nearestLeading_80 : decode Y_Way_nearestLeading.2.1 80 = .ok (.iload_n 2, 1) := by decide +kernel
theorem d_Way_nearestLeading_81 : decode Y_Way_nearestLeading.2.1 81 = .ok (.ireturn, 1) := by decide +kernel
theorem d_Way_nearestLeading_82 : decode Y_Way_nearestLeading.2.1 82 = .ok (.iinc 2 1, 3) := by decide +kernel
theorem d_Way_nearestLeading_85 : decode Y_Way_nearestLeading.2.1 85 = .ok (.goto (-34), 3) := by decide +kernel
theorem d_Way_nearestLeading_88 : decode Y_Way_nearestLeading.2.1 88 = .ok (.ldc 23, 2) := by decide +kernel
theorem d_Way_nearestLeading_90 : decode Y_Way_nearestLeading.2.1 90 = .ok (.ireturn, 1) := by decide +kernel
theorem d_Way_reached_0 : decode Y_Way_reached.2.1 0 = .ok (.iload_n 1, 1) := by decide +kernel
theorem d_Way_reached_1 : decode Y_Way_reached.2.1 1 = .ok (.ifCond .ne 5, 3) := by decide +kernel
theorem d_Way_reached_4 : decode Y_Way_reached.2.1 4 = .ok (.iconst 0, 1) := by decide +kernel
theorem d_Way_reached_5 : decode Y_Way_reached.2.1 5 = .ok (.ireturn, 1) := by decide +kernel
theorem d_Way_reached_6 : decode Y_Way_reached.2.1 6 = .ok (.iconst 1, 1) := by decide +kernel
theorem d_Way_reached_7 : decode Y_Way_reached.2.1 7 = .ok (.istore_n 2, 1) := by decide +kernel
theorem d_Way_reached_8 : decode Y_Way_reached.2.1 8 = .ok (.iconst 1, 1) := by decide +kernel
theorem d_Way_reached_9 : decode Y_Way_reached.2.1 9 = .ok (.istore_n 3, 1) := by decide +kernel
theorem d_Way_reached_10 : decode Y_Way_reached.2.1 10 = .ok (.iload_n 3, 1) := by decide +kernel
theorem d_Way_reached_11 : decode Y_Way_reached.2.1 11 = .ok (.aload_n 0, 1) := by decide +kernel
theorem d_Way_reached_12 : decode Y_Way_reached.2.1 12 = .ok (.getfield 15, 3) := by decide +kernel
theorem d_Way_reached_15 : decode Y_Way_reached.2.1 15 = .ok (.getfield 24, 3) := by decide +kernel
theorem d_Way_reached_18 : decode Y_Way_reached.2.1 18 = .ok (.if_icmp .ge 49, 3) := by decide +kernel
theorem d_Way_reached_21 : decode Y_Way_reached.2.1 21 = .ok (.iconst 0, 1) := by decide +kernel
theorem d_Way_reached_22 : decode Y_Way_reached.2.1 22 = .ok (.istore 4, 2) := by decide +kernel
theorem d_Way_reached_24 : decode Y_Way_reached.2.1 24 = .ok (.iload 4, 2) := by decide +kernel
theorem d_Way_reached_26 : decode Y_Way_reached.2.1 26 = .ok (.aload_n 0, 1) := by decide +kernel
theorem d_Way_reached_27 : decode Y_Way_reached.2.1 27 = .ok (.getfield 15, 3) := by decide +kernel
theorem d_Way_reached_30 : decode Y_Way_reached.2.1 30 = .ok (.getfield 24, 3) := by decide +kernel
theorem d_Way_reached_33 : decode Y_Way_reached.2.1 33 = .ok (.if_icmp .ge 28, 3) := by decide +kernel
theorem d_Way_reached_36 : decode Y_Way_reached.2.1 36 = .ok (.iload_n 2, 1) := by decide +kernel
theorem d_Way_reached_37 : decode Y_Way_reached.2.1 37 = .ok (.iconst 1, 1) := by decide +kernel
theorem d_Way_reached_38 : decode Y_Way_reached.2.1 38 = .ok (.iload 4, 2) := by decide +kernel
theorem d_Way_reached_40 : decode Y_Way_reached.2.1 40 = .ok (.ishl, 1) := by decide +kernel
theorem d_Way_reached_41 : decode Y_Way_reached.2.1 41 = .ok (.iand, 1) := by decide +kernel
theorem d_Way_reached_42 : decode Y_Way_reached.2.1 42 = .ok (.ifCond .eq 13, 3) := by decide +kernel
theorem d_Way_reached_45 : decode Y_Way_reached.2.1 45 = .ok (.iload_n 2, 1) := by decide +kernel
theorem d_Way_reached_46 : decode Y_Way_reached.2.1 46 = .ok (.aload_n 0, 1) := by decide +kernel
theorem d_Way_reached_47 : decode Y_Way_reached.2.1 47 = .ok (.iload 4, 2) := by decide +kernel
theorem d_Way_reached_49 : decode Y_Way_reached.2.1 49 = .ok (.iload_n 1, 1) := by decide +kernel
theorem d_Way_reached_50 : decode Y_Way_reached.2.1 50 = .ok (.invokevirtual 37, 3) := by decide +kernel
theorem d_Way_reached_53 : decode Y_Way_reached.2.1 53 = .ok (.ior, 1) := by decide +kernel
theorem d_Way_reached_54 : decode Y_Way_reached.2.1 54 = .ok (.istore_n 2, 1) := by decide +kernel
theorem d_Way_reached_55 : decode Y_Way_reached.2.1 55 = .ok (.iinc 4 1, 3) := by decide +kernel
theorem d_Way_reached_58 : decode Y_Way_reached.2.1 58 = .ok (.goto (-34), 3) := by decide +kernel
theorem d_Way_reached_61 : decode Y_Way_reached.2.1 61 = .ok (.iinc 3 1, 3) := by decide +kernel
theorem d_Way_reached_64 : decode Y_Way_reached.2.1 64 = .ok (.goto (-54), 3) := by decide +kernel
theorem d_Way_reached_67 : decode Y_Way_reached.2.1 67 = .ok (.iload_n 2, 1) := by decide +kernel
theorem d_Way_reached_68 : decode Y_Way_reached.2.1 68 = .ok (.ireturn, 1) := by decide +kernel
theorem d_Way_stepFrom_0 : decode Y_Way_stepFrom.2.1 0 = .ok (.iconst 0, 1) := by decide +kernel
theorem d_Way_stepFrom_1 : decode Y_Way_stepFrom.2.1 1 = .ok (.istore_n 3, 1) := by decide +kernel
theorem d_Way_stepFrom_2 : decode Y_Way_stepFrom.2.1 2 = .ok (.iconst 0, 1) := by decide +kernel
theorem d_Way_stepFrom_3 : decode Y_Way_stepFrom.2.1 3 = .ok (.istore 4, 2) := by decide +kernel
theorem d_Way_stepFrom_5 : decode Y_Way_stepFrom.2.1 5 = .ok (.iload 4, 2) := by decide +kernel
theorem d_Way_stepFrom_7 : decode Y_Way_stepFrom.2.1 7 = .ok (.aload_n 0, 1) := by decide +kernel
theorem d_Way_stepFrom_8 : decode Y_Way_stepFrom.2.1 8 = .ok (.getfield 15, 3) := by decide +kernel
theorem d_Way_stepFrom_11 : decode Y_Way_stepFrom.2.1 11 = .ok (.getfield 24, 3) := by decide +kernel
theorem d_Way_stepFrom_14 : decode Y_Way_stepFrom.2.1 14 = .ok (.if_icmp .ge 42, 3) := by decide +kernel
theorem d_Way_stepFrom_17 : decode Y_Way_stepFrom.2.1 17 = .ok (.iload 4, 2) := by decide +kernel
theorem d_Way_stepFrom_19 : decode Y_Way_stepFrom.2.1 19 = .ok (.iload_n 2, 1) := by decide +kernel
theorem d_Way_stepFrom_20 : decode Y_Way_stepFrom.2.1 20 = .ok (.if_icmp .eq 30, 3) := by decide +kernel
theorem d_Way_stepFrom_23 : decode Y_Way_stepFrom.2.1 23 = .ok (.aload_n 0, 1) := by decide +kernel
theorem d_Way_stepFrom_24 : decode Y_Way_stepFrom.2.1 24 = .ok (.getfield 15, 3) := by decide +kernel
theorem d_Way_stepFrom_27 : decode Y_Way_stepFrom.2.1 27 = .ok (.getfield 41, 3) := by decide +kernel
theorem d_Way_stepFrom_30 : decode Y_Way_stepFrom.2.1 30 = .ok (.iload_n 1, 1) := by decide +kernel
theorem d_Way_stepFrom_31 : decode Y_Way_stepFrom.2.1 31 = .ok (.bipush 9, 2) := by decide +kernel
theorem d_Way_stepFrom_33 : decode Y_Way_stepFrom.2.1 33 = .ok (.imul, 1) := by decide +kernel
theorem d_Way_stepFrom_34 : decode Y_Way_stepFrom.2.1 34 = .ok (.iload 4, 2) := by decide +kernel
theorem d_Way_stepFrom_36 : decode Y_Way_stepFrom.2.1 36 = .ok (.iadd, 1) := by decide +kernel
theorem d_Way_stepFrom_37 : decode Y_Way_stepFrom.2.1 37 = .ok (.iaload, 1) := by decide +kernel
theorem d_Way_stepFrom_38 : decode Y_Way_stepFrom.2.1 38 = .ok (.ldc 44, 2) := by decide +kernel
theorem d_Way_stepFrom_40 : decode Y_Way_stepFrom.2.1 40 = .ok (.if_icmp .eq 10, 3) := by decide +kernel
theorem d_Way_stepFrom_43 : decode Y_Way_stepFrom.2.1 43 = .ok (.iload_n 3, 1) := by decide +kernel
theorem d_Way_stepFrom_44 : decode Y_Way_stepFrom.2.1 44 = .ok (.iconst 1, 1) := by decide +kernel
theorem d_Way_stepFrom_45 : decode Y_Way_stepFrom.2.1 45 = .ok (.iload 4, 2) := by decide +kernel
theorem d_Way_stepFrom_47 : decode Y_Way_stepFrom.2.1 47 = .ok (.ishl, 1) := by decide +kernel
theorem d_Way_stepFrom_48 : decode Y_Way_stepFrom.2.1 48 = .ok (.ior, 1) := by decide +kernel
theorem d_Way_stepFrom_49 : decode Y_Way_stepFrom.2.1 49 = .ok (.istore_n 3, 1) := by decide +kernel
theorem d_Way_stepFrom_50 : decode Y_Way_stepFrom.2.1 50 = .ok (.iinc 4 1, 3) := by decide +kernel
theorem d_Way_stepFrom_53 : decode Y_Way_stepFrom.2.1 53 = .ok (.goto (-48), 3) := by decide +kernel
theorem d_Way_stepFrom_56 : decode Y_Way_stepFrom.2.1 56 = .ok (.iload_n 3, 1) := by decide +kernel
theorem d_Way_stepFrom_57 : decode Y_Way_stepFrom.2.1 57 = .ok (.ireturn, 1) := by decide +kernel
theorem d_Way_leads_0 : decode Y_Way_leads.2.1 0 = .ok (.iload_n 1, 1) := by decide +kernel
theorem d_Way_leads_1 : decode Y_Way_leads.2.1 1 = .ok (.iload_n 2, 1) := by decide +kernel
theorem d_Way_leads_2 : decode Y_Way_leads.2.1 2 = .ok (.if_icmp .eq 24, 3) := by decide +kernel
theorem d_Way_leads_5 : decode Y_Way_leads.2.1 5 = .ok (.iload_n 2, 1) := by decide +kernel
theorem d_Way_leads_6 : decode Y_Way_leads.2.1 6 = .ok (.ifCond .eq 20, 3) := by decide +kernel
theorem d_Way_leads_9 : decode Y_Way_leads.2.1 9 = .ok (.aload_n 0, 1) := by decide +kernel
theorem d_Way_leads_10 : decode Y_Way_leads.2.1 10 = .ok (.getfield 9, 3) := by decide +kernel
theorem d_Way_leads_13 : decode Y_Way_leads.2.1 13 = .ok (.iload_n 1, 1) := by decide +kernel
theorem d_Way_leads_14 : decode Y_Way_leads.2.1 14 = .ok (.iaload, 1) := by decide +kernel
theorem d_Way_leads_15 : decode Y_Way_leads.2.1 15 = .ok (.iconst 1, 1) := by decide +kernel
theorem d_Way_leads_16 : decode Y_Way_leads.2.1 16 = .ok (.iload_n 2, 1) := by decide +kernel
theorem d_Way_leads_17 : decode Y_Way_leads.2.1 17 = .ok (.ishl, 1) := by decide +kernel
theorem d_Way_leads_18 : decode Y_Way_leads.2.1 18 = .ok (.iand, 1) := by decide +kernel
theorem d_Way_leads_19 : decode Y_Way_leads.2.1 19 = .ok (.ifCond .ne 7, 3) := by decide +kernel
theorem d_Way_leads_22 : decode Y_Way_leads.2.1 22 = .ok (.iconst 1, 1) := by decide +kernel
theorem d_Way_leads_23 : decode Y_Way_leads.2.1 23 = .ok (.goto 4, 3) := by decide +kernel
theorem d_Way_leads_26 : decode Y_Way_leads.2.1 26 = .ok (.iconst 0, 1) := by decide +kernel
theorem d_Way_leads_27 : decode Y_Way_leads.2.1 27 = .ok (.ireturn, 1) := by decide +kernel
theorem d_Way_isNearest_0 : decode Y_Way_isNearest.2.1 0 = .ok (.iconst 0, 1) := by decide +kernel
theorem d_Way_isNearest_1 : decode Y_Way_isNearest.2.1 1 = .ok (.istore_n 3, 1) := by decide +kernel
theorem d_Way_isNearest_2 : decode Y_Way_isNearest.2.1 2 = .ok (.iload_n 3, 1) := by decide +kernel
theorem d_Way_isNearest_3 : decode Y_Way_isNearest.2.1 3 = .ok (.aload_n 0, 1) := by decide +kernel
theorem d_Way_isNearest_4 : decode Y_Way_isNearest.2.1 4 = .ok (.getfield 15, 3) := by decide +kernel
theorem d_Way_isNearest_7 : decode Y_Way_isNearest.2.1 7 = .ok (.getfield 24, 3) := by decide +kernel
theorem d_Way_isNearest_10 : decode Y_Way_isNearest.2.1 10 = .ok (.if_icmp .ge 34, 3) := by decide +kernel
theorem d_Way_isNearest_13 : decode Y_Way_isNearest.2.1 13 = .ok (.iload_n 3, 1) := by decide +kernel
theorem d_Way_isNearest_14 : decode Y_Way_isNearest.2.1 14 = .ok (.iload_n 1, 1) := by decide +kernel
theorem d_Way_isNearest_15 : decode Y_Way_isNearest.2.1 15 = .ok (.if_icmp .eq 23, 3) := by decide +kernel
theorem d_Way_isNearest_18 : decode Y_Way_isNearest.2.1 18 = .ok (.aload_n 0, 1) := by decide +kernel
theorem d_Way_isNearest_19 : decode Y_Way_isNearest.2.1 19 = .ok (.iload_n 3, 1) := by decide +kernel
theorem d_Way_isNearest_20 : decode Y_Way_isNearest.2.1 20 = .ok (.iload_n 2, 1) := by decide +kernel
theorem d_Way_isNearest_21 : decode Y_Way_isNearest.2.1 21 = .ok (.invokevirtual 30, 3) := by decide +kernel
theorem d_Way_isNearest_24 : decode Y_Way_isNearest.2.1 24 = .ok (.ifCond .eq 14, 3) := by decide +kernel
theorem d_Way_isNearest_27 : decode Y_Way_isNearest.2.1 27 = .ok (.aload_n 0, 1) := by decide +kernel
theorem d_Way_isNearest_28 : decode Y_Way_isNearest.2.1 28 = .ok (.iload_n 3, 1) := by decide +kernel
theorem d_Way_isNearest_29 : decode Y_Way_isNearest.2.1 29 = .ok (.iload_n 1, 1) := by decide +kernel
theorem d_Way_isNearest_30 : decode Y_Way_isNearest.2.1 30 = .ok (.invokevirtual 30, 3) := by decide +kernel
theorem d_Way_isNearest_33 : decode Y_Way_isNearest.2.1 33 = .ok (.ifCond .ne 5, 3) := by decide +kernel
theorem d_Way_isNearest_36 : decode Y_Way_isNearest.2.1 36 = .ok (.iconst 0, 1) := by decide +kernel
theorem d_Way_isNearest_37 : decode Y_Way_isNearest.2.1 37 = .ok (.ireturn, 1) := by decide +kernel
theorem d_Way_isNearest_38 : decode Y_Way_isNearest.2.1 38 = .ok (.iinc 3 1, 3) := by decide +kernel
theorem d_Way_isNearest_41 : decode Y_Way_isNearest.2.1 41 = .ok (.goto (-39), 3) := by decide +kernel
theorem d_Way_isNearest_44 : decode Y_Way_isNearest.2.1 44 = .ok (.iconst 1, 1) := by decide +kernel
theorem d_Way_isNearest_45 : decode Y_Way_isNearest.2.1 45 = .ok (.ireturn, 1) := by decide +kernel
theorem d_Row_append_0 : decode Y_Row_append.2.1 0 = .ok (.aload_n 0, 1) := by decide +kernel
theorem d_Row_append_1 : decode Y_Row_append.2.1 1 = .ok (.getfield 9, 3) := by decide +kernel
theorem d_Row_append_4 : decode Y_Row_append.2.1 4 = .ok (.aload_n 0, 1) := by decide +kernel
theorem d_Row_append_5 : decode Y_Row_append.2.1 5 = .ok (.getfield 18, 3) := by decide +kernel
theorem d_Row_append_8 : decode Y_Row_append.2.1 8 = .ok (.iload_n 1, 1) := by decide +kernel
theorem d_Row_append_9 : decode Y_Row_append.2.1 9 = .ok (.iastore, 1) := by decide +kernel
theorem d_Row_append_10 : decode Y_Row_append.2.1 10 = .ok (.aload_n 0, 1) := by decide +kernel
theorem d_Row_append_11 : decode Y_Row_append.2.1 11 = .ok (.dup, 1) := by decide +kernel
theorem d_Row_append_12 : decode Y_Row_append.2.1 12 = .ok (.getfield 18, 3) := by decide +kernel
theorem d_Row_append_15 : decode Y_Row_append.2.1 15 = .ok (.iconst 1, 1) := by decide +kernel
theorem d_Row_append_16 : decode Y_Row_append.2.1 16 = .ok (.iadd, 1) := by decide +kernel
theorem d_Row_append_17 : decode Y_Row_append.2.1 17 = .ok (.putfield 18, 3) := by decide +kernel
theorem d_Row_append_20 : decode Y_Row_append.2.1 20 = .ok (.aload_n 0, 1) := by decide +kernel
theorem d_Row_append_21 : decode Y_Row_append.2.1 21 = .ok (.getfield 18, 3) := by decide +kernel
theorem d_Row_append_24 : decode Y_Row_append.2.1 24 = .ok (.ireturn, 1) := by decide +kernel
theorem d_Row_cut_0 : decode Y_Row_cut.2.1 0 = .ok (.aload_n 0, 1) := by decide +kernel
theorem d_Row_cut_1 : decode Y_Row_cut.2.1 1 = .ok (.getfield 18, 3) := by decide +kernel
theorem d_Row_cut_4 : decode Y_Row_cut.2.1 4 = .ok (.istore_n 2, 1) := by decide +kernel
theorem d_Row_cut_5 : decode Y_Row_cut.2.1 5 = .ok (.aload_n 0, 1) := by decide +kernel
theorem d_Row_cut_6 : decode Y_Row_cut.2.1 6 = .ok (.iload_n 1, 1) := by decide +kernel
theorem d_Row_cut_7 : decode Y_Row_cut.2.1 7 = .ok (.putfield 18, 3) := by decide +kernel
theorem d_Row_cut_10 : decode Y_Row_cut.2.1 10 = .ok (.iload_n 2, 1) := by decide +kernel
theorem d_Row_cut_11 : decode Y_Row_cut.2.1 11 = .ok (.ireturn, 1) := by decide +kernel
theorem d_Row_cost_0 : decode Y_Row_cost.2.1 0 = .ok (.aload_n 0, 1) := by decide +kernel
theorem d_Row_cost_1 : decode Y_Row_cost.2.1 1 = .ok (.aload_n 0, 1) := by decide +kernel
theorem d_Row_cost_2 : decode Y_Row_cost.2.1 2 = .ok (.getfield 9, 3) := by decide +kernel
theorem d_Row_cost_5 : decode Y_Row_cost.2.1 5 = .ok (.aload_n 0, 1) := by decide +kernel
theorem d_Row_cost_6 : decode Y_Row_cost.2.1 6 = .ok (.getfield 18, 3) := by decide +kernel
theorem d_Row_cost_9 : decode Y_Row_cost.2.1 9 = .ok (.invokevirtual 26, 3) := by decide +kernel
theorem d_Row_cost_12 : decode Y_Row_cost.2.1 12 = .ok (.ireturn, 1) := by decide +kernel
theorem d_Row_planCost_0 : decode Y_Row_planCost.2.1 0 = .ok (.iconst 0, 1) := by decide +kernel
theorem d_Row_planCost_1 : decode Y_Row_planCost.2.1 1 = .ok (.istore_n 3, 1) := by decide +kernel
theorem d_Row_planCost_2 : decode Y_Row_planCost.2.1 2 = .ok (.iconst 0, 1) := by decide +kernel
theorem d_Row_planCost_3 : decode Y_Row_planCost.2.1 3 = .ok (.istore 4, 2) := by decide +kernel
theorem d_Row_planCost_5 : decode Y_Row_planCost.2.1 5 = .ok (.iconst 0, 1) := by decide +kernel
theorem d_Row_planCost_6 : decode Y_Row_planCost.2.1 6 = .ok (.istore 5, 2) := by decide +kernel
theorem d_Row_planCost_8 : decode Y_Row_planCost.2.1 8 = .ok (.iconst 0, 1) := by decide +kernel
theorem d_Row_planCost_9 : decode Y_Row_planCost.2.1 9 = .ok (.istore 6, 2) := by decide +kernel
theorem d_Row_planCost_11 : decode Y_Row_planCost.2.1 11 = .ok (.iconst 0, 1) := by decide +kernel
theorem d_Row_planCost_12 : decode Y_Row_planCost.2.1 12 = .ok (.istore 7, 2) := by decide +kernel
theorem d_Row_planCost_14 : decode Y_Row_planCost.2.1 14 = .ok (.iload 7, 2) := by decide +kernel
theorem d_Row_planCost_16 : decode Y_Row_planCost.2.1 16 = .ok (.iload_n 2, 1) := by decide +kernel
theorem d_Row_planCost_17 : decode Y_Row_planCost.2.1 17 = .ok (.if_icmp .ge 77, 3) := by decide +kernel
theorem d_Row_planCost_20 : decode Y_Row_planCost.2.1 20 = .ok (.aload_n 1, 1) := by decide +kernel
theorem d_Row_planCost_21 : decode Y_Row_planCost.2.1 21 = .ok (.iload 7, 2) := by decide +kernel
theorem d_Row_planCost_23 : decode Y_Row_planCost.2.1 23 = .ok (.iaload, 1) := by decide +kernel
theorem d_Row_planCost_24 : decode Y_Row_planCost.2.1 24 = .ok (.ifCond .eq 19, 3) := by decide +kernel
theorem d_Row_planCost_27 : decode Y_Row_planCost.2.1 27 = .ok (.iload 4, 2) := by decide +kernel
theorem d_Row_planCost_29 : decode Y_Row_planCost.2.1 29 = .ok (.aload_n 1, 1) := by decide +kernel
theorem d_Row_planCost_30 : decode Y_Row_planCost.2.1 30 = .ok (.iload 7, 2) := by decide +kernel
theorem d_Row_planCost_32 : decode Y_Row_planCost.2.1 32 = .ok (.iaload, 1) := by decide +kernel
theorem d_Row_planCost_33 : decode Y_Row_planCost.2.1 33 = .ok (.invokestatic 32, 3) := by decide +kernel
theorem d_Row_planCost_36 : decode Y_Row_planCost.2.1 36 = .ok (.iand, 1) := by decide +kernel
theorem d_Row_planCost_37 : decode Y_Row_planCost.2.1 37 = .ok (.ifCond .eq 6, 3) := by decide +kernel
theorem d_Row_planCost_40 : decode Y_Row_planCost.2.1 40 = .ok (.ldc 30, 2) := by decide +kernel
theorem d_Row_planCost_42 : decode Y_Row_planCost.2.1 42 = .ok (.ireturn, 1) := by decide +kernel
theorem d_Row_planCost_43 : decode Y_Row_planCost.2.1 43 = .ok (.aload_n 1, 1) := by decide +kernel
theorem d_Row_planCost_44 : decode Y_Row_planCost.2.1 44 = .ok (.iload 7, 2) := by decide +kernel
theorem d_Row_planCost_46 : decode Y_Row_planCost.2.1 46 = .ok (.iaload, 1) := by decide +kernel
theorem d_Row_planCost_47 : decode Y_Row_planCost.2.1 47 = .ok (.ifCond .eq 18, 3) := by decide +kernel
theorem d_Row_planCost_50 : decode Y_Row_planCost.2.1 50 = .ok (.iload 4, 2) := by decide +kernel
theorem d_Row_planCost_52 : decode Y_Row_planCost.2.1 52 = .ok (.aload_n 1, 1) := by decide +kernel
theorem d_Row_planCost_53 : decode Y_Row_planCost.2.1 53 = .ok (.iload 7, 2) := by decide +kernel
theorem d_Row_planCost_55 : decode Y_Row_planCost.2.1 55 = .ok (.iaload, 1) := by decide +kernel
theorem d_Row_planCost_56 : decode Y_Row_planCost.2.1 56 = .ok (.invokestatic 32, 3) := by decide +kernel
theorem d_Row_planCost_59 : decode Y_Row_planCost.2.1 59 = .ok (.ior, 1) := by decide +kernel
theorem d_Row_planCost_60 : decode Y_Row_planCost.2.1 60 = .ok (.istore 4, 2) := by decide +kernel
theorem d_Row_planCost_62 : decode Y_Row_planCost.2.1 62 = .ok (.goto 26, 3) := by decide +kernel
theorem d_Row_planCost_65 : decode Y_Row_planCost.2.1 65 = .ok (.iload_n 3, 1) := by decide +kernel
theorem d_Row_planCost_66 : decode Y_Row_planCost.2.1 66 = .ok (.aload_n 0, 1) := by decide +kernel
theorem d_Row_planCost_67 : decode Y_Row_planCost.2.1 67 = .ok (.aload_n 1, 1) := by decide +kernel
theorem d_Row_planCost_68 : decode Y_Row_planCost.2.1 68 = .ok (.iload 6, 2) := by decide +kernel
theorem d_Row_planCost_70 : decode Y_Row_planCost.2.1 70 = .ok (.iload 7, 2) := by decide +kernel
theorem d_Row_planCost_72 : decode Y_Row_planCost.2.1 72 = .ok (.invokevirtual 36, 3) := by decide +kernel
theorem d_Row_planCost_75 : decode Y_Row_planCost.2.1 75 = .ok (.invokestatic 40, 3) := by decide +kernel
theorem d_Row_planCost_78 : decode Y_Row_planCost.2.1 78 = .ok (.istore_n 3, 1) := by decide +kernel
theorem d_Row_planCost_79 : decode Y_Row_planCost.2.1 79 = .ok (.iinc 5 1, 3) := by decide +kernel
theorem d_Row_planCost_82 : decode Y_Row_planCost.2.1 82 = .ok (.iload 7, 2) := by decide +kernel
theorem d_Row_planCost_84 : decode Y_Row_planCost.2.1 84 = .ok (.iconst 1, 1) := by decide +kernel
theorem d_Row_planCost_85 : decode Y_Row_planCost.2.1 85 = .ok (.iadd, 1) := by decide +kernel
theorem d_Row_planCost_86 : decode Y_Row_planCost.2.1 86 = .ok (.istore 6, 2) := by decide +kernel
theorem d_Row_planCost_88 : decode Y_Row_planCost.2.1 88 = .ok (.iinc 7 1, 3) := by decide +kernel
theorem d_Row_planCost_91 : decode Y_Row_planCost.2.1 91 = .ok (.goto (-77), 3) := by decide +kernel
theorem d_Row_planCost_94 : decode Y_Row_planCost.2.1 94 = .ok (.iload_n 2, 1) := by decide +kernel
theorem d_Row_planCost_95 : decode Y_Row_planCost.2.1 95 = .ok (.ifCond .le 19, 3) := by decide +kernel
theorem d_Row_planCost_98 : decode Y_Row_planCost.2.1 98 = .ok (.iload_n 3, 1) := by decide +kernel
theorem d_Row_planCost_99 : decode Y_Row_planCost.2.1 99 = .ok (.aload_n 0, 1) := by decide +kernel
theorem d_Row_planCost_100 : decode Y_Row_planCost.2.1 100 = .ok (.aload_n 1, 1) := by decide +kernel
theorem d_Row_planCost_101 : decode Y_Row_planCost.2.1 101 = .ok (.iload 6, 2) := by decide +kernel
theorem d_Row_planCost_103 : decode Y_Row_planCost.2.1 103 = .ok (.iload_n 2, 1) := by decide +kernel
theorem d_Row_planCost_104 : decode Y_Row_planCost.2.1 104 = .ok (.invokevirtual 36, 3) := by decide +kernel
theorem d_Row_planCost_107 : decode Y_Row_planCost.2.1 107 = .ok (.invokestatic 40, 3) := by decide +kernel
theorem d_Row_planCost_110 : decode Y_Row_planCost.2.1 110 = .ok (.istore_n 3, 1) := by decide +kernel
theorem d_Row_planCost_111 : decode Y_Row_planCost.2.1 111 = .ok (.iinc 5 1, 3) := by decide +kernel
theorem d_Row_planCost_114 : decode Y_Row_planCost.2.1 114 = .ok (.iload 5, 2) := by decide +kernel
theorem d_Row_planCost_116 : decode Y_Row_planCost.2.1 116 = .ok (.aload_n 0, 1) := by decide +kernel
theorem d_Row_planCost_117 : decode Y_Row_planCost.2.1 117 = .ok (.getfield 22, 3) := by decide +kernel
theorem d_Row_planCost_120 : decode Y_Row_planCost.2.1 120 = .ok (.getfield 44, 3) := by decide +kernel
theorem d_Row_planCost_123 : decode Y_Row_planCost.2.1 123 = .ok (.if_icmp .le 8, 3) := by decide +kernel
theorem d_Row_planCost_126 : decode Y_Row_planCost.2.1 126 = .ok (.ldc 30, 2) := by decide +kernel
theorem d_Row_planCost_128 : decode Y_Row_planCost.2.1 128 = .ok (.goto 26, 3) := by decide +kernel
theorem d_Row_planCost_131 : decode Y_Row_planCost.2.1 131 = .ok (.iload_n 3, 1) := by decide +kernel
theorem d_Row_planCost_132 : decode Y_Row_planCost.2.1 132 = .ok (.aload_n 0, 1) := by decide +kernel
theorem d_Row_planCost_133 : decode Y_Row_planCost.2.1 133 = .ok (.getfield 22, 3) := by decide +kernel
theorem d_Row_planCost_136 : decode Y_Row_planCost.2.1 136 = .ok (.aload_n 0, 1) := by decide +kernel
theorem d_Row_planCost_137 : decode Y_Row_planCost.2.1 137 = .ok (.getfield 22, 3) := by decide +kernel
theorem d_Row_planCost_140 : decode Y_Row_planCost.2.1 140 = .ok (.invokevirtual 49, 3) := by decide +kernel
theorem d_Row_planCost_143 : decode Y_Row_planCost.2.1 143 = .ok (.iload 4, 2) := by decide +kernel
theorem d_Row_planCost_145 : decode Y_Row_planCost.2.1 145 = .ok (.iconst (-1), 1) := by decide +kernel
theorem d_Row_planCost_146 : decode Y_Row_planCost.2.1 146 = .ok (.ixor, 1) := by decide +kernel
theorem d_Row_planCost_147 : decode Y_Row_planCost.2.1 147 = .ok (.iand, 1) := by decide +kernel
theorem d_Row_planCost_148 : decode Y_Row_planCost.2.1 148 = .ok (.invokevirtual 53, 3) := by decide +kernel
theorem d_Row_planCost_151 : decode Y_Row_planCost.2.1 151 = .ok (.invokestatic 40, 3) := by decide +kernel
theorem d_Row_planCost_154 : decode Y_Row_planCost.2.1 154 = .ok (.ireturn, 1) := by decide +kernel
theorem d_Row_roundCost_0 : decode Y_Row_roundCost.2.1 0 = .ok (.iconst 0, 1) := by decide +kernel
theorem d_Row_roundCost_1 : decode Y_Row_roundCost.2.1 1 = .ok (.istore 4, 2) := by decide +kernel
theorem d_Row_roundCost_3 : decode Y_Row_roundCost.2.1 3 = .ok (.iconst 0, 1) := by decide +kernel
theorem d_Row_roundCost_4 : decode Y_Row_roundCost.2.1 4 = .ok (.istore 5, 2) := by decide +kernel
theorem d_Row_roundCost_6 : decode Y_Row_roundCost.2.1 6 = .ok (.iconst 0, 1) := by decide +kernel
theorem d_Row_roundCost_7 : decode Y_Row_roundCost.2.1 7 = .ok (.istore 6, 2) := by decide +kernel
theorem d_Row_roundCost_9 : decode Y_Row_roundCost.2.1 9 = .ok (.iconst 0, 1) := by decide +kernel
theorem d_Row_roundCost_10 : decode Y_Row_roundCost.2.1 10 = .ok (.istore 7, 2) := by decide +kernel
theorem d_Row_roundCost_12 : decode Y_Row_roundCost.2.1 12 = .ok (.iload_n 2, 1) := by decide +kernel
theorem d_Row_roundCost_13 : decode Y_Row_roundCost.2.1 13 = .ok (.istore 8, 2) := by decide +kernel
theorem d_Row_roundCost_15 : decode Y_Row_roundCost.2.1 15 = .ok (.iload 8, 2) := by decide +kernel
theorem d_Row_roundCost_17 : decode Y_Row_roundCost.2.1 17 = .ok (.iload_n 3, 1) := by decide +kernel
theorem d_Row_roundCost_18 : decode Y_Row_roundCost.2.1 18 = .ok (.if_icmp .ge 88, 3) := by decide +kernel
theorem d_Row_roundCost_21 : decode Y_Row_roundCost.2.1 21 = .ok (.aload_n 1, 1) := by decide +kernel
theorem d_Row_roundCost_22 : decode Y_Row_roundCost.2.1 22 = .ok (.iload 8, 2) := by decide +kernel
theorem d_Row_roundCost_24 : decode Y_Row_roundCost.2.1 24 = .ok (.iaload, 1) := by decide +kernel
theorem d_Row_roundCost_25 : decode Y_Row_roundCost.2.1 25 = .ok (.istore 9, 2) := by decide +kernel
theorem d_Row_roundCost_27 : decode Y_Row_roundCost.2.1 27 = .ok (.aload_n 0, 1) := by decide +kernel
theorem d_Row_roundCost_28 : decode Y_Row_roundCost.2.1 28 = .ok (.getfield 22, 3) := by decide +kernel
theorem d_Row_roundCost_31 : decode Y_Row_roundCost.2.1 31 = .ok (.getfield 56, 3) := by decide +kernel
theorem d_Row_roundCost_34 : decode Y_Row_roundCost.2.1 34 = .ok (.iload 9, 2) := by decide +kernel
theorem d_Row_roundCost_36 : decode Y_Row_roundCost.2.1 36 = .ok (.iaload, 1) := by decide +kernel
theorem d_Row_roundCost_37 : decode Y_Row_roundCost.2.1 37 = .ok (.iload 5, 2) := by decide +kernel
theorem d_Row_roundCost_39 : decode Y_Row_roundCost.2.1 39 = .ok (.iconst (-1), 1) := by decide +kernel
theorem d_Row_roundCost_40 : decode Y_Row_roundCost.2.1 40 = .ok (.ixor, 1) := by decide +kernel
theorem d_Row_roundCost_41 : decode Y_Row_roundCost.2.1 41 = .ok (.iand, 1) := by decide +kernel
theorem d_Row_roundCost_42 : decode Y_Row_roundCost.2.1 42 = .ok (.ifCond .eq 6, 3) := by decide +kernel
theorem d_Row_roundCost_45 : decode Y_Row_roundCost.2.1 45 = .ok (.ldc 30, 2) := by decide +kernel
theorem d_Row_roundCost_47 : decode Y_Row_roundCost.2.1 47 = .ok (.ireturn, 1) := by decide +kernel
theorem d_Row_roundCost_48 : decode Y_Row_roundCost.2.1 48 = .ok (.iload 4, 2) := by decide +kernel
theorem d_Row_roundCost_50 : decode Y_Row_roundCost.2.1 50 = .ok (.aload_n 0, 1) := by decide +kernel
theorem d_Row_roundCost_51 : decode Y_Row_roundCost.2.1 51 = .ok (.getfield 22, 3) := by decide +kernel
theorem d_Row_roundCost_54 : decode Y_Row_roundCost.2.1 54 = .ok (.getfield 59, 3) := by decide +kernel
theorem d_Row_roundCost_57 : decode Y_Row_roundCost.2.1 57 = .ok (.iload 7, 2) := by decide +kernel
theorem d_Row_roundCost_59 : decode Y_Row_roundCost.2.1 59 = .ok (.bipush 9, 2) := by decide +kernel
theorem d_Row_roundCost_61 : decode Y_Row_roundCost.2.1 61 = .ok (.imul, 1) := by decide +kernel
theorem d_Row_roundCost_62 : decode Y_Row_roundCost.2.1 62 = .ok (.iload 9, 2) := by decide +kernel
theorem d_Row_roundCost_64 : decode Y_Row_roundCost.2.1 64 = .ok (.iadd, 1) := by decide +kernel
theorem d_Row_roundCost_65 : decode Y_Row_roundCost.2.1 65 = .ok (.iaload, 1) := by decide +kernel
theorem d_Row_roundCost_66 : decode Y_Row_roundCost.2.1 66 = .ok (.invokestatic 40, 3) := by decide +kernel
theorem d_Row_roundCost_69 : decode Y_Row_roundCost.2.1 69 = .ok (.istore 4, 2) := by decide +kernel
theorem d_Row_roundCost_71 : decode Y_Row_roundCost.2.1 71 = .ok (.iload 5, 2) := by decide +kernel
theorem d_Row_roundCost_73 : decode Y_Row_roundCost.2.1 73 = .ok (.iload 9, 2) := by decide +kernel
theorem d_Row_roundCost_75 : decode Y_Row_roundCost.2.1 75 = .ok (.invokestatic 32, 3) := by decide +kernel
theorem d_Row_roundCost_78 : decode Y_Row_roundCost.2.1 78 = .ok (.ior, 1) := by decide +kernel
theorem d_Row_roundCost_79 : decode Y_Row_roundCost.2.1 79 = .ok (.istore 5, 2) := by decide +kernel
theorem d_Row_roundCost_81 : decode Y_Row_roundCost.2.1 81 = .ok (.iload 6, 2) := by decide +kernel
theorem d_Row_roundCost_83 : decode Y_Row_roundCost.2.1 83 = .ok (.aload_n 0, 1) := by decide +kernel
theorem d_Row_roundCost_84 : decode Y_Row_roundCost.2.1 84 = .ok (.getfield 22, 3) := by decide +kernel
theorem d_Row_roundCost_87 : decode Y_Row_roundCost.2.1 87 = .ok (.getfield 62, 3) := by decide +kernel
theorem d_Row_roundCost_90 : decode Y_Row_roundCost.2.1 90 = .ok (.iload 9, 2) := by decide +kernel
theorem d_Row_roundCost_92 : decode Y_Row_roundCost.2.1 92 = .ok (.iaload, 1) := by decide +kernel
theorem d_Row_roundCost_93 : decode Y_Row_roundCost.2.1 93 = .ok (.iadd, 1) := by decide +kernel
theorem d_Row_roundCost_94 : decode Y_Row_roundCost.2.1 94 = .ok (.istore 6, 2) := by decide +kernel
theorem d_Row_roundCost_96 : decode Y_Row_roundCost.2.1 96 = .ok (.iload 9, 2) := by decide +kernel
theorem d_Row_roundCost_98 : decode Y_Row_roundCost.2.1 98 = .ok (.istore 7, 2) := by decide +kernel
theorem d_Row_roundCost_100 : decode Y_Row_roundCost.2.1 100 = .ok (.iinc 8 1, 3) := by decide +kernel
theorem d_Row_roundCost_103 : decode Y_Row_roundCost.2.1 103 = .ok (.goto (-88), 3) := by decide +kernel
theorem d_Row_roundCost_106 : decode Y_Row_roundCost.2.1 106 = .ok (.iload 5, 2) := by decide +kernel
theorem d_Row_roundCost_108 : decode Y_Row_roundCost.2.1 108 = .ok (.ifCond .eq 15, 3) := by decide +kernel
theorem d_Row_roundCost_111 : decode Y_Row_roundCost.2.1 111 = .ok (.iload 6, 2) := by decide +kernel
theorem d_Row_roundCost_113 : decode Y_Row_roundCost.2.1 113 = .ok (.aload_n 0, 1) := by decide +kernel
theorem d_Row_roundCost_114 : decode Y_Row_roundCost.2.1 114 = .ok (.getfield 22, 3) := by decide +kernel
theorem d_Row_roundCost_117 : decode Y_Row_roundCost.2.1 117 = .ok (.getfield 65, 3) := by decide +kernel
theorem d_Row_roundCost_120 : decode Y_Row_roundCost.2.1 120 = .ok (.if_icmp .le 8, 3) := by decide +kernel
theorem d_Row_roundCost_123 : decode Y_Row_roundCost.2.1 123 = .ok (.ldc 30, 2) := by decide +kernel
theorem d_Row_roundCost_125 : decode Y_Row_roundCost.2.1 125 = .ok (.goto 17, 3) := by decide +kernel
theorem d_Row_roundCost_128 : decode Y_Row_roundCost.2.1 128 = .ok (.iload 4, 2) := by decide +kernel
theorem d_Row_roundCost_130 : decode Y_Row_roundCost.2.1 130 = .ok (.aload_n 0, 1) := by decide +kernel
theorem d_Row_roundCost_131 : decode Y_Row_roundCost.2.1 131 = .ok (.getfield 22, 3) := by decide +kernel
theorem d_Row_roundCost_134 : decode Y_Row_roundCost.2.1 134 = .ok (.iload 7, 2) := by decide +kernel
theorem d_Row_roundCost_136 : decode Y_Row_roundCost.2.1 136 = .ok (.invokevirtual 68, 3) := by decide +kernel
theorem d_Row_roundCost_139 : decode Y_Row_roundCost.2.1 139 = .ok (.invokestatic 40, 3) := by decide +kernel
theorem d_Row_roundCost_142 : decode Y_Row_roundCost.2.1 142 = .ok (.ireturn, 1) := by decide +kernel
theorem d_Row_cheapestPlace_0 : decode Y_Row_cheapestPlace.2.1 0 = .ok (.ldc 30, 2) := by decide +kernel
theorem d_Row_cheapestPlace_2 : decode Y_Row_cheapestPlace.2.1 2 = .ok (.istore_n 2, 1) := by decide +kernel
theorem d_Row_cheapestPlace_3 : decode Y_Row_cheapestPlace.2.1 3 = .ok (.ldc 31, 2) := by decide +kernel
theorem d_Row_cheapestPlace_5 : decode Y_Row_cheapestPlace.2.1 5 = .ok (.istore_n 3, 1) := by decide +kernel
theorem d_Row_cheapestPlace_6 : decode Y_Row_cheapestPlace.2.1 6 = .ok (.iconst 0, 1) := by decide +kernel
theorem d_Row_cheapestPlace_7 : decode Y_Row_cheapestPlace.2.1 7 = .ok (.istore 4, 2) := by decide +kernel
theorem d_Row_cheapestPlace_9 : decode Y_Row_cheapestPlace.2.1 9 = .ok (.iload 4, 2) := by decide +kernel
theorem d_Row_cheapestPlace_11 : decode Y_Row_cheapestPlace.2.1 11 = .ok (.aload_n 0, 1) := by decide +kernel
theorem d_Row_cheapestPlace_12 : decode Y_Row_cheapestPlace.2.1 12 = .ok (.getfield 18, 3) := by decide +kernel
theorem d_Row_cheapestPlace_15 : decode Y_Row_cheapestPlace.2.1 15 = .ok (.if_icmp .gt 91, 3) := by decide +kernel
theorem d_Row_cheapestPlace_18 : decode Y_Row_cheapestPlace.2.1 18 = .ok (.iconst 0, 1) := by decide +kernel
theorem d_Row_cheapestPlace_19 : decode Y_Row_cheapestPlace.2.1 19 = .ok (.istore 5, 2) := by decide +kernel
theorem d_Row_cheapestPlace_21 : decode Y_Row_cheapestPlace.2.1 21 = .ok (.iload 5, 2) := by decide +kernel
theorem d_Row_cheapestPlace_23 : decode Y_Row_cheapestPlace.2.1 23 = .ok (.aload_n 0, 1) := by decide +kernel
theorem d_Row_cheapestPlace_24 : decode Y_Row_cheapestPlace.2.1 24 = .ok (.getfield 18, 3) := by decide +kernel
theorem d_Row_cheapestPlace_27 : decode Y_Row_cheapestPlace.2.1 27 = .ok (.if_icmp .ge 37, 3) := by decide +kernel
theorem d_Row_cheapestPlace_30 : decode Y_Row_cheapestPlace.2.1 30 = .ok (.aload_n 0, 1) := by decide +kernel
theorem d_Row_cheapestPlace_31 : decode Y_Row_cheapestPlace.2.1 31 = .ok (.getfield 15, 3) := by decide +kernel
theorem d_Row_cheapestPlace_34 : decode Y_Row_cheapestPlace.2.1 34 = .ok (.iload 5, 2) := by decide +kernel
theorem d_Row_cheapestPlace_36 : decode Y_Row_cheapestPlace.2.1 36 = .ok (.iload 4, 2) := by decide +kernel
theorem d_Row_cheapestPlace_38 : decode Y_Row_cheapestPlace.2.1 38 = .ok (.if_icmp .ge 8, 3) := by decide +kernel
theorem d_Row_cheapestPlace_41 : decode Y_Row_cheapestPlace.2.1 41 = .ok (.iload 5, 2) := by decide +kernel
theorem d_Row_cheapestPlace_43 : decode Y_Row_cheapestPlace.2.1 43 = .ok (.goto 7, 3) := by decide +kernel
theorem d_Row_cheapestPlace_46 : decode Y_Row_cheapestPlace.2.1 46 = .ok (.iload 5, 2) := by decide +kernel
theorem d_Row_cheapestPlace_48 : decode Y_Row_cheapestPlace.2.1 48 = .ok (.iconst 1, 1) := by decide +kernel
theorem d_Row_cheapestPlace_49 : decode Y_Row_cheapestPlace.2.1 49 = .ok (.iadd, 1) := by decide +kernel
theorem d_Row_cheapestPlace_50 : decode Y_Row_cheapestPlace.2.1 50 = .ok (.aload_n 0, 1) := by decide +kernel
theorem d_Row_cheapestPlace_51 : decode Y_Row_cheapestPlace.2.1 51 = .ok (.getfield 9, 3) := by decide +kernel
theorem d_Row_cheapestPlace_54 : decode Y_Row_cheapestPlace.2.1 54 = .ok (.iload 5, 2) := by decide +kernel
theorem d_Row_cheapestPlace_56 : decode Y_Row_cheapestPlace.2.1 56 = .ok (.iaload, 1) := by decide +kernel
theorem d_Row_cheapestPlace_57 : decode Y_Row_cheapestPlace.2.1 57 = .ok (.iastore, 1) := by decide +kernel
theorem d_Row_cheapestPlace_58 : decode Y_Row_cheapestPlace.2.1 58 = .ok (.iinc 5 1, 3) := by decide +kernel
theorem d_Row_cheapestPlace_61 : decode Y_Row_cheapestPlace.2.1 61 = .ok (.goto (-40), 3) := by decide +kernel
theorem d_Row_cheapestPlace_64 : decode Y_Row_cheapestPlace.2.1 64 = .ok (.aload_n 0, 1) := by decide +kernel
theorem d_Row_cheapestPlace_65 : decode Y_Row_cheapestPlace.2.1 65 = .ok (.getfield 15, 3) := by decide +kernel
theorem d_Row_cheapestPlace_68 : decode Y_Row_cheapestPlace.2.1 68 = .ok (.iload 4, 2) := by decide +kernel
theorem d_Row_cheapestPlace_70 : decode Y_Row_cheapestPlace.2.1 70 = .ok (.iload_n 1, 1) := by decide +kernel
theorem d_Row_cheapestPlace_71 : decode Y_Row_cheapestPlace.2.1 71 = .ok (.iastore, 1) := by decide +kernel
theorem d_Row_cheapestPlace_72 : decode Y_Row_cheapestPlace.2.1 72 = .ok (.aload_n 0, 1) := by decide +kernel
theorem d_Row_cheapestPlace_73 : decode Y_Row_cheapestPlace.2.1 73 = .ok (.aload_n 0, 1) := by decide +kernel
theorem d_Row_cheapestPlace_74 : decode Y_Row_cheapestPlace.2.1 74 = .ok (.getfield 15, 3) := by decide +kernel
theorem d_Row_cheapestPlace_77 : decode Y_Row_cheapestPlace.2.1 77 = .ok (.aload_n 0, 1) := by decide +kernel
theorem d_Row_cheapestPlace_78 : decode Y_Row_cheapestPlace.2.1 78 = .ok (.getfield 18, 3) := by decide +kernel
theorem d_Row_cheapestPlace_81 : decode Y_Row_cheapestPlace.2.1 81 = .ok (.iconst 1, 1) := by decide +kernel
theorem d_Row_cheapestPlace_82 : decode Y_Row_cheapestPlace.2.1 82 = .ok (.iadd, 1) := by decide +kernel
theorem d_Row_cheapestPlace_83 : decode Y_Row_cheapestPlace.2.1 83 = .ok (.invokevirtual 26, 3) := by decide +kernel
theorem d_Row_cheapestPlace_86 : decode Y_Row_cheapestPlace.2.1 86 = .ok (.istore 5, 2) := by decide +kernel
theorem d_Row_cheapestPlace_88 : decode Y_Row_cheapestPlace.2.1 88 = .ok (.iload 5, 2) := by decide +kernel
theorem d_Row_cheapestPlace_90 : decode Y_Row_cheapestPlace.2.1 90 = .ok (.iload_n 2, 1) := by decide +kernel
theorem d_Row_cheapestPlace_91 : decode Y_Row_cheapestPlace.2.1 91 = .ok (.if_icmp .ge 9, 3) := by decide +kernel
theorem d_Row_cheapestPlace_94 : decode Y_Row_cheapestPlace.2.1 94 = .ok (.iload 5, 2) := by decide +kernel
theorem d_Row_cheapestPlace_96 : decode Y_Row_cheapestPlace.2.1 96 = .ok (.istore_n 2, 1) := by decide +kernel
theorem d_Row_cheapestPlace_97 : decode Y_Row_cheapestPlace.2.1 97 = .ok (.iload 4, 2) := by decide +kernel
theorem d_Row_cheapestPlace_99 : decode Y_Row_cheapestPlace.2.1 99 = .ok (.istore_n 3, 1) := by decide +kernel
theorem d_Row_cheapestPlace_100 : decode Y_Row_cheapestPlace.2.1 100 = .ok (.iinc 4 1, 3) := by decide +kernel
theorem d_Row_cheapestPlace_103 : decode Y_Row_cheapestPlace.2.1 103 = .ok (.goto (-94), 3) := by decide +kernel
theorem d_Row_cheapestPlace_106 : decode Y_Row_cheapestPlace.2.1 106 = .ok (.iload_n 3, 1) := by decide +kernel
theorem d_Row_cheapestPlace_107 : decode Y_Row_cheapestPlace.2.1 107 = .ok (.ireturn, 1) := by decide +kernel
theorem d_Net_arcs_0 : decode Y_Net_arcs.2.1 0 = .ok (.iconst 0, 1) := by decide +kernel
theorem d_Net_arcs_1 : decode Y_Net_arcs.2.1 1 = .ok (.istore_n 1, 1) := by decide +kernel
theorem d_Net_arcs_2 : decode Y_Net_arcs.2.1 2 = .ok (.iconst 0, 1) := by decide +kernel
theorem d_Net_arcs_3 : decode Y_Net_arcs.2.1 3 = .ok (.istore_n 2, 1) := by decide +kernel
theorem d_Net_arcs_4 : decode Y_Net_arcs.2.1 4 = .ok (.iload_n 2, 1) := by decide +kernel
theorem d_Net_arcs_5 : decode Y_Net_arcs.2.1 5 = .ok (.aload_n 0, 1) := by decide +kernel
theorem d_Net_arcs_6 : decode Y_Net_arcs.2.1 6 = .ok (.getfield 15, 3) := by decide +kernel
theorem d_Net_arcs_9 : decode Y_Net_arcs.2.1 9 = .ok (.arraylength, 1) := by decide +kernel
theorem d_Net_arcs_10 : decode Y_Net_arcs.2.1 10 = .ok (.if_icmp .ge 23, 3) := by decide +kernel
theorem d_Net_arcs_13 : decode Y_Net_arcs.2.1 13 = .ok (.aload_n 0, 1) := by decide +kernel
theorem d_Net_arcs_14 : decode Y_Net_arcs.2.1 14 = .ok (.getfield 15, 3) := by decide +kernel
theorem d_Net_arcs_17 : decode Y_Net_arcs.2.1 17 = .ok (.iload_n 2, 1) := by decide +kernel
theorem d_Net_arcs_18 : decode Y_Net_arcs.2.1 18 = .ok (.iaload, 1) := by decide +kernel
theorem d_Net_arcs_19 : decode Y_Net_arcs.2.1 19 = .ok (.ldc 40, 2) := by decide +kernel
theorem d_Net_arcs_21 : decode Y_Net_arcs.2.1 21 = .ok (.if_icmp .eq 6, 3) := by decide +kernel
theorem d_Net_arcs_24 : decode Y_Net_arcs.2.1 24 = .ok (.iinc 1 1, 3) := by decide +kernel
theorem d_Net_arcs_27 : decode Y_Net_arcs.2.1 27 = .ok (.iinc 2 1, 3) := by decide +kernel
theorem d_Net_arcs_30 : decode Y_Net_arcs.2.1 30 = .ok (.goto (-26), 3) := by decide +kernel
theorem d_Net_arcs_33 : decode Y_Net_arcs.2.1 33 = .ok (.iload_n 1, 1) := by decide +kernel
theorem d_Net_arcs_34 : decode Y_Net_arcs.2.1 34 = .ok (.ireturn, 1) := by decide +kernel
theorem d_Net_pairsAhead_0 : decode Y_Net_pairsAhead.2.1 0 = .ok (.iconst 0, 1) := by decide +kernel
theorem d_Net_pairsAhead_1 : decode Y_Net_pairsAhead.2.1 1 = .ok (.istore_n 1, 1) := by decide +kernel
theorem d_Net_pairsAhead_2 : decode Y_Net_pairsAhead.2.1 2 = .ok (.iconst 1, 1) := by decide +kernel
theorem d_Net_pairsAhead_3 : decode Y_Net_pairsAhead.2.1 3 = .ok (.istore_n 2, 1) := by decide +kernel
theorem d_Net_pairsAhead_4 : decode Y_Net_pairsAhead.2.1 4 = .ok (.iload_n 2, 1) := by decide +kernel
theorem d_Net_pairsAhead_5 : decode Y_Net_pairsAhead.2.1 5 = .ok (.aload_n 0, 1) := by decide +kernel
theorem d_Net_pairsAhead_6 : decode Y_Net_pairsAhead.2.1 6 = .ok (.getfield 24, 3) := by decide +kernel
theorem d_Net_pairsAhead_9 : decode Y_Net_pairsAhead.2.1 9 = .ok (.if_icmp .ge 21, 3) := by decide +kernel
theorem d_Net_pairsAhead_12 : decode Y_Net_pairsAhead.2.1 12 = .ok (.iload_n 1, 1) := by decide +kernel
theorem d_Net_pairsAhead_13 : decode Y_Net_pairsAhead.2.1 13 = .ok (.aload_n 0, 1) := by decide +kernel
theorem d_Net_pairsAhead_14 : decode Y_Net_pairsAhead.2.1 14 = .ok (.getfield 21, 3) := by decide +kernel
theorem d_Net_pairsAhead_17 : decode Y_Net_pairsAhead.2.1 17 = .ok (.iload_n 2, 1) := by decide +kernel
theorem d_Net_pairsAhead_18 : decode Y_Net_pairsAhead.2.1 18 = .ok (.iaload, 1) := by decide +kernel
theorem d_Net_pairsAhead_19 : decode Y_Net_pairsAhead.2.1 19 = .ok (.invokestatic 49, 3) := by decide +kernel
theorem d_Net_pairsAhead_22 : decode Y_Net_pairsAhead.2.1 22 = .ok (.iadd, 1) := by decide +kernel
theorem d_Net_pairsAhead_23 : decode Y_Net_pairsAhead.2.1 23 = .ok (.istore_n 1, 1) := by decide +kernel
theorem d_Net_pairsAhead_24 : decode Y_Net_pairsAhead.2.1 24 = .ok (.iinc 2 1, 3) := by decide +kernel
theorem d_Net_pairsAhead_27 : decode Y_Net_pairsAhead.2.1 27 = .ok (.goto (-23), 3) := by decide +kernel
theorem d_Net_pairsAhead_30 : decode Y_Net_pairsAhead.2.1 30 = .ok (.iload_n 1, 1) := by decide +kernel
theorem d_Net_pairsAhead_31 : decode Y_Net_pairsAhead.2.1 31 = .ok (.ireturn, 1) := by decide +kernel
end
section
theorem d_Mo_init_0 : decode Y_Mo_init.2.1 0 = .ok (.aload_n 0, 1) := by decide +kernel
theorem d_Mo_init_1 : decode Y_Mo_init.2.1 1 = .ok (.invokespecial 7, 3) := by decide +kernel
theorem d_Mo_init_4 : decode Y_Mo_init.2.1 4 = .ok (.aload_n 0, 1) := by decide +kernel
theorem d_Mo_init_5 : decode Y_Mo_init.2.1 5 = .ok (.iconst 1, 1) := by decide +kernel
theorem d_Mo_init_6 : decode Y_Mo_init.2.1 6 = .ok (.putfield 13, 3) := by decide +kernel
theorem d_Mo_init_9 : decode Y_Mo_init.2.1 9 = .ok (.aload_n 0, 1) := by decide +kernel
theorem d_Mo_init_10 : decode Y_Mo_init.2.1 10 = .ok (.bipush 9, 2) := by decide +kernel
theorem d_Mo_init_12 : decode Y_Mo_init.2.1 12 = .ok (.newarray .int, 2) := by decide +kernel
theorem d_Mo_init_14 : decode Y_Mo_init.2.1 14 = .ok (.putfield 16, 3) := by decide +kernel
theorem d_Mo_init_17 : decode Y_Mo_init.2.1 17 = .ok (.aload_n 0, 1) := by decide +kernel
theorem d_Mo_init_18 : decode Y_Mo_init.2.1 18 = .ok (.bipush 81, 2) := by decide +kernel
theorem d_Mo_init_20 : decode Y_Mo_init.2.1 20 = .ok (.newarray .int, 2) := by decide +kernel
theorem d_Mo_init_22 : decode Y_Mo_init.2.1 22 = .ok (.putfield 20, 3) := by decide +kernel
theorem d_Mo_init_25 : decode Y_Mo_init.2.1 25 = .ok (.aload_n 0, 1) := by decide +kernel
theorem d_Mo_init_26 : decode Y_Mo_init.2.1 26 = .ok (.bipush 9, 2) := by decide +kernel
theorem d_Mo_init_28 : decode Y_Mo_init.2.1 28 = .ok (.newarray .int, 2) := by decide +kernel
theorem d_Mo_init_30 : decode Y_Mo_init.2.1 30 = .ok (.putfield 23, 3) := by decide +kernel
theorem d_Mo_init_33 : decode Y_Mo_init.2.1 33 = .ok (.aload_n 0, 1) := by decide +kernel
theorem d_Mo_init_34 : decode Y_Mo_init.2.1 34 = .ok (.bipush 81, 2) := by decide +kernel
theorem d_Mo_init_36 : decode Y_Mo_init.2.1 36 = .ok (.newarray .boolean, 2) := by decide +kernel
theorem d_Mo_init_38 : decode Y_Mo_init.2.1 38 = .ok (.putfield 26, 3) := by decide +kernel
theorem d_Mo_init_41 : decode Y_Mo_init.2.1 41 = .ok (.aload_n 0, 1) := by decide +kernel
theorem d_Mo_init_42 : decode Y_Mo_init.2.1 42 = .ok (.iconst 1, 1) := by decide +kernel
theorem d_Mo_init_43 : decode Y_Mo_init.2.1 43 = .ok (.putfield 30, 3) := by decide +kernel
theorem d_Mo_init_46 : decode Y_Mo_init.2.1 46 = .ok (.aload_n 0, 1) := by decide +kernel
theorem d_Mo_init_47 : decode Y_Mo_init.2.1 47 = .ok (.sipush 1000, 3) := by decide +kernel
theorem d_Mo_init_50 : decode Y_Mo_init.2.1 50 = .ok (.putfield 33, 3) := by decide +kernel
theorem d_Mo_init_53 : decode Y_Mo_init.2.1 53 = .ok (.aload_n 0, 1) := by decide +kernel
theorem d_Mo_init_54 : decode Y_Mo_init.2.1 54 = .ok (.bipush 9, 2) := by decide +kernel
theorem d_Mo_init_56 : decode Y_Mo_init.2.1 56 = .ok (.newarray .int, 2) := by decide +kernel
theorem d_Mo_init_58 : decode Y_Mo_init.2.1 58 = .ok (.putfield 36, 3) := by decide +kernel
theorem d_Mo_init_61 : decode Y_Mo_init.2.1 61 = .ok (.aload_n 0, 1) := by decide +kernel
theorem d_Mo_init_62 : decode Y_Mo_init.2.1 62 = .ok (.bipush 9, 2) := by decide +kernel
theorem d_Mo_init_64 : decode Y_Mo_init.2.1 64 = .ok (.newarray .int, 2) := by decide +kernel
theorem d_Mo_init_66 : decode Y_Mo_init.2.1 66 = .ok (.putfield 39, 3) := by decide +kernel
theorem d_Mo_init_69 : decode Y_Mo_init.2.1 69 = .ok (.aload_n 0, 1) := by decide +kernel
theorem d_Mo_init_70 : decode Y_Mo_init.2.1 70 = .ok (.bipush 21, 2) := by decide +kernel
theorem d_Mo_init_72 : decode Y_Mo_init.2.1 72 = .ok (.newarray .int, 2) := by decide +kernel
theorem d_Mo_init_74 : decode Y_Mo_init.2.1 74 = .ok (.putfield 42, 3) := by decide +kernel
theorem d_Mo_init_77 : decode Y_Mo_init.2.1 77 = .ok (.aload_n 0, 1) := by decide +kernel
theorem d_Mo_init_78 : decode Y_Mo_init.2.1 78 = .ok (.bipush 81, 2) := by decide +kernel
theorem d_Mo_init_80 : decode Y_Mo_init.2.1 80 = .ok (.newarray .int, 2) := by decide +kernel
theorem d_Mo_init_82 : decode Y_Mo_init.2.1 82 = .ok (.putfield 45, 3) := by decide +kernel
theorem d_Mo_init_85 : decode Y_Mo_init.2.1 85 = .ok (.aload_n 0, 1) := by decide +kernel
theorem d_Mo_init_86 : decode Y_Mo_init.2.1 86 = .ok (.bipush 9, 2) := by decide +kernel
theorem d_Mo_init_88 : decode Y_Mo_init.2.1 88 = .ok (.newarray .int, 2) := by decide +kernel
theorem d_Mo_init_90 : decode Y_Mo_init.2.1 90 = .ok (.putfield 48, 3) := by decide +kernel
theorem d_Mo_init_93 : decode Y_Mo_init.2.1 93 = .ok (.aload_n 0, 1) := by decide +kernel
theorem d_Mo_init_94 : decode Y_Mo_init.2.1 94 = .ok (.bipush 20, 2) := by decide +kernel
theorem d_Mo_init_96 : decode Y_Mo_init.2.1 96 = .ok (.newarray .int, 2) := by decide +kernel
theorem d_Mo_init_98 : decode Y_Mo_init.2.1 98 = .ok (.putfield 51, 3) := by decide +kernel
theorem d_Mo_init_101 : decode Y_Mo_init.2.1 101 = .ok (.aload_n 0, 1) := by decide +kernel
theorem d_Mo_init_102 : decode Y_Mo_init.2.1 102 = .ok (.bipush 20, 2) := by decide +kernel
theorem d_Mo_init_104 : decode Y_Mo_init.2.1 104 = .ok (.newarray .int, 2) := by decide +kernel
theorem d_Mo_init_106 : decode Y_Mo_init.2.1 106 = .ok (.putfield 54, 3) := by decide +kernel
theorem d_Mo_init_109 : decode Y_Mo_init.2.1 109 = .ok (.aload_n 0, 1) := by decide +kernel
theorem d_Mo_init_110 : decode Y_Mo_init.2.1 110 = .ok (.bipush 10, 2) := by decide +kernel
theorem d_Mo_init_112 : decode Y_Mo_init.2.1 112 = .ok (.newarray .int, 2) := by decide +kernel
theorem d_Mo_init_114 : decode Y_Mo_init.2.1 114 = .ok (.putfield 57, 3) := by decide +kernel
theorem d_Mo_init_117 : decode Y_Mo_init.2.1 117 = .ok (.aload_n 0, 1) := by decide +kernel
theorem d_Mo_init_118 : decode Y_Mo_init.2.1 118 = .ok (.bipush 10, 2) := by decide +kernel
theorem d_Mo_init_120 : decode Y_Mo_init.2.1 120 = .ok (.newarray .int, 2) := by decide +kernel
theorem d_Mo_init_122 : decode Y_Mo_init.2.1 122 = .ok (.putfield 60, 3) := by decide +kernel
theorem d_Mo_init_125 : decode Y_Mo_init.2.1 125 = .ok (.aload_n 0, 1) := by decide +kernel
theorem d_Mo_init_126 : decode Y_Mo_init.2.1 126 = .ok (.bipush 9, 2) := by decide +kernel
theorem d_Mo_init_128 : decode Y_Mo_init.2.1 128 = .ok (.newarray .int, 2) := by decide +kernel
theorem d_Mo_init_130 : decode Y_Mo_init.2.1 130 = .ok (.putfield 63, 3) := by decide +kernel
theorem d_Mo_init_133 : decode Y_Mo_init.2.1 133 = .ok (.aload_n 0, 1) := by decide +kernel
theorem d_Mo_init_134 : decode Y_Mo_init.2.1 134 = .ok (.sipush 512, 3) := by decide +kernel
theorem d_Mo_init_137 : decode Y_Mo_init.2.1 137 = .ok (.newarray .int, 2) := by decide +kernel
theorem d_Mo_init_139 : decode Y_Mo_init.2.1 139 = .ok (.putfield 66, 3) := by decide +kernel
theorem d_Mo_init_142 : decode Y_Mo_init.2.1 142 = .ok (.aload_n 0, 1) := by decide +kernel
theorem d_Mo_init_143 : decode Y_Mo_init.2.1 143 = .ok (.iconst 0, 1) := by decide +kernel
theorem d_Mo_init_144 : decode Y_Mo_init.2.1 144 = .ok (.putfield 1, 3) := by decide +kernel
theorem d_Mo_init_147 : decode Y_Mo_init.2.1 147 = .ok (.iconst 0, 1) := by decide +kernel
theorem d_Mo_init_148 : decode Y_Mo_init.2.1 148 = .ok (.istore_n 1, 1) := by decide +kernel
theorem d_Mo_init_149 : decode Y_Mo_init.2.1 149 = .ok (.iload_n 1, 1) := by decide +kernel
theorem d_Mo_init_150 : decode Y_Mo_init.2.1 150 = .ok (.bipush 81, 2) := by decide +kernel
theorem d_Mo_init_152 : decode Y_Mo_init.2.1 152 = .ok (.if_icmp .ge 17, 3) := by decide +kernel
theorem d_Mo_init_155 : decode Y_Mo_init.2.1 155 = .ok (.aload_n 0, 1) := by decide +kernel
theorem d_Mo_init_156 : decode Y_Mo_init.2.1 156 = .ok (.getfield 20, 3) := by decide +kernel
theorem d_Mo_init_159 : decode Y_Mo_init.2.1 159 = .ok (.iload_n 1, 1) := by decide +kernel
theorem d_Mo_init_160 : decode Y_Mo_init.2.1 160 = .ok (.ldc 69, 2) := by decide +kernel
theorem d_Mo_init_162 : decode Y_Mo_init.2.1 162 = .ok (.iastore, 1) := by decide +kernel
theorem d_Mo_init_163 : decode Y_Mo_init.2.1 163 = .ok (.iinc 1 1, 3) := by decide +kernel
theorem d_Mo_init_166 : decode Y_Mo_init.2.1 166 = .ok (.goto (-17), 3) := by decide +kernel
theorem d_Mo_init_169 : decode Y_Mo_init.2.1 169 = .ok (.iconst 0, 1) := by decide +kernel
theorem d_Mo_init_170 : decode Y_Mo_init.2.1 170 = .ok (.istore_n 1, 1) := by decide +kernel
theorem d_Mo_init_171 : decode Y_Mo_init.2.1 171 = .ok (.iload_n 1, 1) := by decide +kernel
theorem d_Mo_init_172 : decode Y_Mo_init.2.1 172 = .ok (.bipush 9, 2) := by decide +kernel
theorem d_Mo_init_174 : decode Y_Mo_init.2.1 174 = .ok (.if_icmp .ge 23, 3) := by decide +kernel
theorem d_Mo_init_177 : decode Y_Mo_init.2.1 177 = .ok (.aload_n 0, 1) := by decide +kernel
theorem d_Mo_init_178 : decode Y_Mo_init.2.1 178 = .ok (.getfield 23, 3) := by decide +kernel
theorem d_Mo_init_181 : decode Y_Mo_init.2.1 181 = .ok (.iload_n 1, 1) := by decide +kernel
theorem d_Mo_init_182 : decode Y_Mo_init.2.1 182 = .ok (.iconst (-1), 1) := by decide +kernel
theorem d_Mo_init_183 : decode Y_Mo_init.2.1 183 = .ok (.iastore, 1) := by decide +kernel
theorem d_Mo_init_184 : decode Y_Mo_init.2.1 184 = .ok (.aload_n 0, 1) := by decide +kernel
theorem d_Mo_init_185 : decode Y_Mo_init.2.1 185 = .ok (.getfield 39, 3) := by decide +kernel
theorem d_Mo_init_188 : decode Y_Mo_init.2.1 188 = .ok (.iload_n 1, 1) := by decide +kernel
theorem d_Mo_init_189 : decode Y_Mo_init.2.1 189 = .ok (.iconst (-1), 1) := by decide +kernel
theorem d_Mo_init_190 : decode Y_Mo_init.2.1 190 = .ok (.iastore, 1) := by decide +kernel
theorem d_Mo_init_191 : decode Y_Mo_init.2.1 191 = .ok (.iinc 1 1, 3) := by decide +kernel
theorem d_Mo_init_194 : decode Y_Mo_init.2.1 194 = .ok (.goto (-23), 3) := by decide +kernel
theorem d_Mo_init_197 : decode Y_Mo_init.2.1 197 = .ok (.return_, 1) := by decide +kernel
theorem d_Mo_node_0 : decode Y_Mo_node.2.1 0 = .ok (.aload_n 0, 1) := by decide +kernel
theorem d_Mo_node_1 : decode Y_Mo_node.2.1 1 = .ok (.iconst 0, 1) := by decide +kernel
theorem d_Mo_node_2 : decode Y_Mo_node.2.1 2 = .ok (.putfield 1, 3) := by decide +kernel
theorem d_Mo_node_5 : decode Y_Mo_node.2.1 5 = .ok (.iload_n 1, 1) := by decide +kernel
theorem d_Mo_node_6 : decode Y_Mo_node.2.1 6 = .ok (.iconst 0, 1) := by decide +kernel
theorem d_Mo_node_7 : decode Y_Mo_node.2.1 7 = .ok (.bipush 100, 2) := by decide +kernel
theorem d_Mo_node_9 : decode Y_Mo_node.2.1 9 = .ok (.invokestatic 70, 3) := by decide +kernel
theorem d_Mo_node_12 : decode Y_Mo_node.2.1 12 = .ok (.ifCond .ne 6, 3) := by decide +kernel
theorem d_Mo_node_15 : decode Y_Mo_node.2.1 15 = .ok (.ldc 78, 2) := by decide +kernel
theorem d_Mo_node_17 : decode Y_Mo_node.2.1 17 = .ok (.ireturn, 1) := by decide +kernel
theorem d_Mo_node_18 : decode Y_Mo_node.2.1 18 = .ok (.aload_n 0, 1) := by decide +kernel
theorem d_Mo_node_19 : decode Y_Mo_node.2.1 19 = .ok (.getfield 13, 3) := by decide +kernel
theorem d_Mo_node_22 : decode Y_Mo_node.2.1 22 = .ok (.bipush 9, 2) := by decide +kernel
theorem d_Mo_node_24 : decode Y_Mo_node.2.1 24 = .ok (.if_icmp .ne 6, 3) := by decide +kernel
theorem d_Mo_node_27 : decode Y_Mo_node.2.1 27 = .ok (.ldc 79, 2) := by decide +kernel
theorem d_Mo_node_29 : decode Y_Mo_node.2.1 29 = .ok (.ireturn, 1) := by decide +kernel
theorem d_Mo_node_30 : decode Y_Mo_node.2.1 30 = .ok (.aload_n 0, 1) := by decide +kernel
theorem d_Mo_node_31 : decode Y_Mo_node.2.1 31 = .ok (.getfield 16, 3) := by decide +kernel
theorem d_Mo_node_34 : decode Y_Mo_node.2.1 34 = .ok (.aload_n 0, 1) := by decide +kernel
theorem d_Mo_node_35 : decode Y_Mo_node.2.1 35 = .ok (.getfield 13, 3) := by decide +kernel
theorem d_Mo_node_38 : decode Y_Mo_node.2.1 38 = .ok (.iload_n 1, 1) := by decide +kernel
theorem d_Mo_node_39 : decode Y_Mo_node.2.1 39 = .ok (.iastore, 1) := by decide +kernel
theorem d_Mo_node_40 : decode Y_Mo_node.2.1 40 = .ok (.aload_n 0, 1) := by decide +kernel
theorem d_Mo_node_41 : decode Y_Mo_node.2.1 41 = .ok (.dup, 1) := by decide +kernel
theorem d_Mo_node_42 : decode Y_Mo_node.2.1 42 = .ok (.getfield 13, 3) := by decide +kernel
theorem d_Mo_node_45 : decode Y_Mo_node.2.1 45 = .ok (.iconst 1, 1) := by decide +kernel
theorem d_Mo_node_46 : decode Y_Mo_node.2.1 46 = .ok (.iadd, 1) := by decide +kernel
theorem d_Mo_node_47 : decode Y_Mo_node.2.1 47 = .ok (.putfield 13, 3) := by decide +kernel
theorem d_Mo_node_50 : decode Y_Mo_node.2.1 50 = .ok (.aload_n 0, 1) := by decide +kernel
theorem d_Mo_node_51 : decode Y_Mo_node.2.1 51 = .ok (.iconst 0, 1) := by decide +kernel
theorem d_Mo_node_52 : decode Y_Mo_node.2.1 52 = .ok (.putfield 80, 3) := by decide +kernel
theorem d_Mo_node_55 : decode Y_Mo_node.2.1 55 = .ok (.aload_n 0, 1) := by decide +kernel
theorem d_Mo_node_56 : decode Y_Mo_node.2.1 56 = .ok (.getfield 13, 3) := by decide +kernel
theorem d_Mo_node_59 : decode Y_Mo_node.2.1 59 = .ok (.iconst 1, 1) := by decide +kernel
theorem d_Mo_node_60 : decode Y_Mo_node.2.1 60 = .ok (.isub, 1) := by decide +kernel
theorem d_Mo_node_61 : decode Y_Mo_node.2.1 61 = .ok (.ireturn, 1) := by decide +kernel
theorem d_Mo_in_0 : decode Y_Mo_in.2.1 0 = .ok (.iload_n 0, 1) := by decide +kernel
theorem d_Mo_in_1 : decode Y_Mo_in.2.1 1 = .ok (.iload_n 1, 1) := by decide +kernel
theorem d_Mo_in_2 : decode Y_Mo_in.2.1 2 = .ok (.if_icmp .lt 12, 3) := by decide +kernel
theorem d_Mo_in_5 : decode Y_Mo_in.2.1 5 = .ok (.iload_n 0, 1) := by decide +kernel
theorem d_Mo_in_6 : decode Y_Mo_in.2.1 6 = .ok (.iload_n 2, 1) := by decide +kernel
theorem d_Mo_in_7 : decode Y_Mo_in.2.1 7 = .ok (.if_icmp .gt 7, 3) := by decide +kernel
theorem d_Mo_in_10 : decode Y_Mo_in.2.1 10 = .ok (.iconst 1, 1) := by decide +kernel
theorem d_Mo_in_11 : decode Y_Mo_in.2.1 11 = .ok (.goto 4, 3) := by decide +kernel
theorem d_Mo_in_14 : decode Y_Mo_in.2.1 14 = .ok (.iconst 0, 1) := by decide +kernel
theorem d_Mo_in_15 : decode Y_Mo_in.2.1 15 = .ok (.ireturn, 1) := by decide +kernel
theorem d_Mo_arc_0 : decode Y_Mo_arc.2.1 0 = .ok (.aload_n 0, 1) := by decide +kernel
theorem d_Mo_arc_1 : decode Y_Mo_arc.2.1 1 = .ok (.iconst 0, 1) := by decide +kernel
theorem d_Mo_arc_2 : decode Y_Mo_arc.2.1 2 = .ok (.putfield 1, 3) := by decide +kernel
theorem d_Mo_arc_5 : decode Y_Mo_arc.2.1 5 = .ok (.aload_n 0, 1) := by decide +kernel
theorem d_Mo_arc_6 : decode Y_Mo_arc.2.1 6 = .ok (.iload_n 1, 1) := by decide +kernel
theorem d_Mo_arc_7 : decode Y_Mo_arc.2.1 7 = .ok (.iload_n 2, 1) := by decide +kernel
theorem d_Mo_arc_8 : decode Y_Mo_arc.2.1 8 = .ok (.invokevirtual 84, 3) := by decide +kernel
theorem d_Mo_arc_11 : decode Y_Mo_arc.2.1 11 = .ok (.ifCond .ne 16, 3) := by decide +kernel
theorem d_Mo_arc_14 : decode Y_Mo_arc.2.1 14 = .ok (.iload_n 3, 1) := by decide +kernel
theorem d_Mo_arc_15 : decode Y_Mo_arc.2.1 15 = .ok (.sipush (-1000), 3) := by decide +kernel
theorem d_Mo_arc_18 : decode Y_Mo_arc.2.1 18 = .ok (.sipush 1000, 3) := by decide +kernel
theorem d_Mo_arc_21 : decode Y_Mo_arc.2.1 21 = .ok (.invokestatic 70, 3) := by decide +kernel
theorem d_Mo_arc_24 : decode Y_Mo_arc.2.1 24 = .ok (.ifCond .ne 6, 3) := by decide +kernel
theorem d_Mo_arc_27 : decode Y_Mo_arc.2.1 27 = .ok (.ldc 78, 2) := by decide +kernel
theorem d_Mo_arc_29 : decode Y_Mo_arc.2.1 29 = .ok (.ireturn, 1) := by decide +kernel
theorem d_Mo_arc_30 : decode Y_Mo_arc.2.1 30 = .ok (.aload_n 0, 1) := by decide +kernel
theorem d_Mo_arc_31 : decode Y_Mo_arc.2.1 31 = .ok (.getfield 20, 3) := by decide +kernel
theorem d_Mo_arc_34 : decode Y_Mo_arc.2.1 34 = .ok (.bipush 9, 2) := by decide +kernel
theorem d_Mo_arc_36 : decode Y_Mo_arc.2.1 36 = .ok (.iload_n 1, 1) := by decide +kernel
theorem d_Mo_arc_37 : decode Y_Mo_arc.2.1 37 = .ok (.imul, 1) := by decide +kernel
theorem d_Mo_arc_38 : decode Y_Mo_arc.2.1 38 = .ok (.iload_n 2, 1) := by decide +kernel
theorem d_Mo_arc_39 : decode Y_Mo_arc.2.1 39 = .ok (.iadd, 1) := by decide +kernel
theorem d_Mo_arc_40 : decode Y_Mo_arc.2.1 40 = .ok (.iaload, 1) := by decide +kernel
theorem d_Mo_arc_41 : decode Y_Mo_arc.2.1 41 = .ok (.istore 4, 2) := by decide +kernel
theorem d_Mo_arc_43 : decode Y_Mo_arc.2.1 43 = .ok (.aload_n 0, 1) := by decide +kernel
theorem d_Mo_arc_44 : decode Y_Mo_arc.2.1 44 = .ok (.getfield 20, 3) := by decide +kernel
theorem d_Mo_arc_47 : decode Y_Mo_arc.2.1 47 = .ok (.bipush 9, 2) := by decide +kernel
theorem d_Mo_arc_49 : decode Y_Mo_arc.2.1 49 = .ok (.iload_n 1, 1) := by decide +kernel
theorem d_Mo_arc_50 : decode Y_Mo_arc.2.1 50 = .ok (.imul, 1) := by decide +kernel
theorem d_Mo_arc_51 : decode Y_Mo_arc.2.1 51 = .ok (.iload_n 2, 1) := by decide +kernel
theorem d_Mo_arc_52 : decode Y_Mo_arc.2.1 52 = .ok (.iadd, 1) := by decide +kernel
theorem d_Mo_arc_53 : decode Y_Mo_arc.2.1 53 = .ok (.iload_n 3, 1) := by decide +kernel
theorem d_Mo_arc_54 : decode Y_Mo_arc.2.1 54 = .ok (.iastore, 1) := by decide +kernel
theorem d_Mo_arc_55 : decode Y_Mo_arc.2.1 55 = .ok (.aload_n 0, 1) := by decide +kernel
theorem d_Mo_arc_56 : decode Y_Mo_arc.2.1 56 = .ok (.iconst 0, 1) := by decide +kernel
theorem d_Mo_arc_57 : decode Y_Mo_arc.2.1 57 = .ok (.putfield 80, 3) := by decide +kernel
theorem d_Mo_arc_60 : decode Y_Mo_arc.2.1 60 = .ok (.iload 4, 2) := by decide +kernel
theorem d_Mo_arc_62 : decode Y_Mo_arc.2.1 62 = .ok (.ldc 69, 2) := by decide +kernel
theorem d_Mo_arc_64 : decode Y_Mo_arc.2.1 64 = .ok (.if_icmp .ne 8, 3) := by decide +kernel
theorem d_Mo_arc_67 : decode Y_Mo_arc.2.1 67 = .ok (.ldc 88, 2) := by decide +kernel
theorem d_Mo_arc_69 : decode Y_Mo_arc.2.1 69 = .ok (.goto 5, 3) := by decide +kernel
theorem d_Mo_arc_72 : decode Y_Mo_arc.2.1 72 = .ok (.iload 4, 2) := by decide +kernel
theorem d_Mo_arc_74 : decode Y_Mo_arc.2.1 74 = .ok (.ireturn, 1) := by decide +kernel
theorem d_Mo_noTwo_0 : decode Y_Mo_noTwo.2.1 0 = .ok (.aload_n 0, 1) := by decide +kernel
theorem d_Mo_noTwo_1 : decode Y_Mo_noTwo.2.1 1 = .ok (.iload_n 1, 1) := by decide +kernel
theorem d_Mo_noTwo_2 : decode Y_Mo_noTwo.2.1 2 = .ok (.invokevirtual 74, 3) := by decide +kernel
theorem d_Mo_noTwo_5 : decode Y_Mo_noTwo.2.1 5 = .ok (.ifCond .ne 16, 3) := by decide +kernel
theorem d_Mo_noTwo_8 : decode Y_Mo_noTwo.2.1 8 = .ok (.aload_n 0, 1) := by decide +kernel
theorem d_Mo_noTwo_9 : decode Y_Mo_noTwo.2.1 9 = .ok (.iload_n 2, 1) := by decide +kernel
theorem d_Mo_noTwo_10 : decode Y_Mo_noTwo.2.1 10 = .ok (.invokevirtual 74, 3) := by decide +kernel
theorem d_Mo_noTwo_13 : decode Y_Mo_noTwo.2.1 13 = .ok (.ifCond .ne 8, 3) := by decide +kernel
theorem d_Mo_noTwo_16 : decode Y_Mo_noTwo.2.1 16 = .ok (.iload_n 1, 1) := by decide +kernel
theorem d_Mo_noTwo_17 : decode Y_Mo_noTwo.2.1 17 = .ok (.iload_n 2, 1) := by decide +kernel
theorem d_Mo_noTwo_18 : decode Y_Mo_noTwo.2.1 18 = .ok (.if_icmp .ne 7, 3) := by decide +kernel
theorem d_Mo_noTwo_21 : decode Y_Mo_noTwo.2.1 21 = .ok (.iconst 1, 1) := by decide +kernel
theorem d_Mo_noTwo_22 : decode Y_Mo_noTwo.2.1 22 = .ok (.goto 4, 3) := by decide +kernel
theorem d_Mo_noTwo_25 : decode Y_Mo_noTwo.2.1 25 = .ok (.iconst 0, 1) := by decide +kernel
theorem d_Mo_noTwo_26 : decode Y_Mo_noTwo.2.1 26 = .ok (.ireturn, 1) := by decide +kernel
theorem d_Mo_noNode_0 : decode Y_Mo_noNode.2.1 0 = .ok (.iload_n 1, 1) := by decide +kernel
theorem d_Mo_noNode_1 : decode Y_Mo_noNode.2.1 1 = .ok (.iconst 0, 1) := by decide +kernel
theorem d_Mo_noNode_2 : decode Y_Mo_noNode.2.1 2 = .ok (.aload_n 0, 1) := by decide +kernel
theorem d_Mo_noNode_3 : decode Y_Mo_noNode.2.1 3 = .ok (.getfield 13, 3) := by decide +kernel
theorem d_Mo_noNode_6 : decode Y_Mo_noNode.2.1 6 = .ok (.iconst 1, 1) := by decide +kernel
theorem d_Mo_noNode_7 : decode Y_Mo_noNode.2.1 7 = .ok (.isub, 1) := by decide +kernel
theorem d_Mo_noNode_8 : decode Y_Mo_noNode.2.1 8 = .ok (.invokestatic 70, 3) := by decide +kernel
theorem d_Mo_noNode_11 : decode Y_Mo_noNode.2.1 11 = .ok (.ifCond .ne 7, 3) := by decide +kernel
theorem d_Mo_noNode_14 : decode Y_Mo_noNode.2.1 14 = .ok (.iconst 1, 1) := by decide +kernel
theorem d_Mo_noNode_15 : decode Y_Mo_noNode.2.1 15 = .ok (.goto 4, 3) := by decide +kernel
theorem d_Mo_noNode_18 : decode Y_Mo_noNode.2.1 18 = .ok (.iconst 0, 1) := by decide +kernel
theorem d_Mo_noNode_19 : decode Y_Mo_noNode.2.1 19 = .ok (.ireturn, 1) := by decide +kernel
theorem d_Mo_lose_0 : decode Y_Mo_lose.2.1 0 = .ok (.aload_n 0, 1) := by decide +kernel
theorem d_Mo_lose_1 : decode Y_Mo_lose.2.1 1 = .ok (.iconst 0, 1) := by decide +kernel
theorem d_Mo_lose_2 : decode Y_Mo_lose.2.1 2 = .ok (.putfield 1, 3) := by decide +kernel
theorem d_Mo_lose_5 : decode Y_Mo_lose.2.1 5 = .ok (.aload_n 0, 1) := by decide +kernel
theorem d_Mo_lose_6 : decode Y_Mo_lose.2.1 6 = .ok (.iload_n 1, 1) := by decide +kernel
theorem d_Mo_lose_7 : decode Y_Mo_lose.2.1 7 = .ok (.iload_n 2, 1) := by decide +kernel
theorem d_Mo_lose_8 : decode Y_Mo_lose.2.1 8 = .ok (.invokevirtual 84, 3) := by decide +kernel
theorem d_Mo_lose_11 : decode Y_Mo_lose.2.1 11 = .ok (.ifCond .eq 6, 3) := by decide +kernel
theorem d_Mo_lose_14 : decode Y_Mo_lose.2.1 14 = .ok (.ldc 78, 2) := by decide +kernel
theorem d_Mo_lose_16 : decode Y_Mo_lose.2.1 16 = .ok (.ireturn, 1) := by decide +kernel
theorem d_Mo_lose_17 : decode Y_Mo_lose.2.1 17 = .ok (.aload_n 0, 1) := by decide +kernel
theorem d_Mo_lose_18 : decode Y_Mo_lose.2.1 18 = .ok (.getfield 20, 3) := by decide +kernel
theorem d_Mo_lose_21 : decode Y_Mo_lose.2.1 21 = .ok (.bipush 9, 2) := by decide +kernel
theorem d_Mo_lose_23 : decode Y_Mo_lose.2.1 23 = .ok (.iload_n 1, 1) := by decide +kernel
theorem d_Mo_lose_24 : decode Y_Mo_lose.2.1 24 = .ok (.imul, 1) := by decide +kernel
theorem d_Mo_lose_25 : decode Y_Mo_lose.2.1 25 = .ok (.iload_n 2, 1) := by decide +kernel
theorem d_Mo_lose_26 : decode Y_Mo_lose.2.1 26 = .ok (.iadd, 1) := by decide +kernel
theorem d_Mo_lose_27 : decode Y_Mo_lose.2.1 27 = .ok (.iaload, 1) := by decide +kernel
theorem d_Mo_lose_28 : decode Y_Mo_lose.2.1 28 = .ok (.istore_n 3, 1) := by decide +kernel
theorem d_Mo_lose_29 : decode Y_Mo_lose.2.1 29 = .ok (.aload_n 0, 1) := by decide +kernel
theorem d_Mo_lose_30 : decode Y_Mo_lose.2.1 30 = .ok (.getfield 20, 3) := by decide +kernel
theorem d_Mo_lose_33 : decode Y_Mo_lose.2.1 33 = .ok (.bipush 9, 2) := by decide +kernel
theorem d_Mo_lose_35 : decode Y_Mo_lose.2.1 35 = .ok (.iload_n 1, 1) := by decide +kernel
theorem d_Mo_lose_36 : decode Y_Mo_lose.2.1 36 = .ok (.imul, 1) := by decide +kernel
theorem d_Mo_lose_37 : decode Y_Mo_lose.2.1 37 = .ok (.iload_n 2, 1) := by decide +kernel
theorem d_Mo_lose_38 : decode Y_Mo_lose.2.1 38 = .ok (.iadd, 1) := by decide +kernel
theorem d_Mo_lose_39 : decode Y_Mo_lose.2.1 39 = .ok (.ldc 69, 2) := by decide +kernel
theorem d_Mo_lose_41 : decode Y_Mo_lose.2.1 41 = .ok (.iastore, 1) := by decide +kernel
theorem d_Mo_lose_42 : decode Y_Mo_lose.2.1 42 = .ok (.aload_n 0, 1) := by decide +kernel
theorem d_Mo_lose_43 : decode Y_Mo_lose.2.1 43 = .ok (.iconst 0, 1) := by decide +kernel
theorem d_Mo_lose_44 : decode Y_Mo_lose.2.1 44 = .ok (.putfield 80, 3) := by decide +kernel
theorem d_Mo_lose_47 : decode Y_Mo_lose.2.1 47 = .ok (.iload_n 3, 1) := by decide +kernel
theorem d_Mo_lose_48 : decode Y_Mo_lose.2.1 48 = .ok (.ldc 69, 2) := by decide +kernel
theorem d_Mo_lose_50 : decode Y_Mo_lose.2.1 50 = .ok (.if_icmp .ne 8, 3) := by decide +kernel
theorem d_Mo_lose_53 : decode Y_Mo_lose.2.1 53 = .ok (.ldc 88, 2) := by decide +kernel
theorem d_Mo_lose_55 : decode Y_Mo_lose.2.1 55 = .ok (.goto 4, 3) := by decide +kernel
theorem d_Mo_lose_58 : decode Y_Mo_lose.2.1 58 = .ok (.iload_n 3, 1) := by decide +kernel
theorem d_Mo_lose_59 : decode Y_Mo_lose.2.1 59 = .ok (.ireturn, 1) := by decide +kernel
theorem d_Mo_price_0 : decode Y_Mo_price.2.1 0 = .ok (.aload_n 0, 1) := by decide +kernel
theorem d_Mo_price_1 : decode Y_Mo_price.2.1 1 = .ok (.iconst 0, 1) := by decide +kernel
theorem d_Mo_price_2 : decode Y_Mo_price.2.1 2 = .ok (.putfield 1, 3) := by decide +kernel
theorem d_Mo_price_5 : decode Y_Mo_price.2.1 5 = .ok (.aload_n 0, 1) := by decide +kernel
theorem d_Mo_price_6 : decode Y_Mo_price.2.1 6 = .ok (.iload_n 1, 1) := by decide +kernel
theorem d_Mo_price_7 : decode Y_Mo_price.2.1 7 = .ok (.invokevirtual 74, 3) := by decide +kernel
theorem d_Mo_price_10 : decode Y_Mo_price.2.1 10 = .ok (.ifCond .ne 18, 3) := by decide +kernel
theorem d_Mo_price_13 : decode Y_Mo_price.2.1 13 = .ok (.iload_n 1, 1) := by decide +kernel
theorem d_Mo_price_14 : decode Y_Mo_price.2.1 14 = .ok (.ifCond .eq 14, 3) := by decide +kernel
theorem d_Mo_price_17 : decode Y_Mo_price.2.1 17 = .ok (.iload_n 2, 1) := by decide +kernel
theorem d_Mo_price_18 : decode Y_Mo_price.2.1 18 = .ok (.iconst (-1), 1) := by decide +kernel
theorem d_Mo_price_19 : decode Y_Mo_price.2.1 19 = .ok (.sipush 2000, 3) := by decide +kernel
theorem d_Mo_price_22 : decode Y_Mo_price.2.1 22 = .ok (.invokestatic 70, 3) := by decide +kernel
theorem d_Mo_price_25 : decode Y_Mo_price.2.1 25 = .ok (.ifCond .ne 6, 3) := by decide +kernel
theorem d_Mo_price_28 : decode Y_Mo_price.2.1 28 = .ok (.ldc 78, 2) := by decide +kernel
theorem d_Mo_price_30 : decode Y_Mo_price.2.1 30 = .ok (.ireturn, 1) := by decide +kernel
theorem d_Mo_price_31 : decode Y_Mo_price.2.1 31 = .ok (.aload_n 0, 1) := by decide +kernel
theorem d_Mo_price_32 : decode Y_Mo_price.2.1 32 = .ok (.getfield 23, 3) := by decide +kernel
theorem d_Mo_price_35 : decode Y_Mo_price.2.1 35 = .ok (.iload_n 1, 1) := by decide +kernel
theorem d_Mo_price_36 : decode Y_Mo_price.2.1 36 = .ok (.iaload, 1) := by decide +kernel
theorem d_Mo_price_37 : decode Y_Mo_price.2.1 37 = .ok (.istore_n 3, 1) := by decide +kernel
theorem d_Mo_price_38 : decode Y_Mo_price.2.1 38 = .ok (.aload_n 0, 1) := by decide +kernel
theorem d_Mo_price_39 : decode Y_Mo_price.2.1 39 = .ok (.getfield 23, 3) := by decide +kernel
theorem d_Mo_price_42 : decode Y_Mo_price.2.1 42 = .ok (.iload_n 1, 1) := by decide +kernel
theorem d_Mo_price_43 : decode Y_Mo_price.2.1 43 = .ok (.iload_n 2, 1) := by decide +kernel
theorem d_Mo_price_44 : decode Y_Mo_price.2.1 44 = .ok (.iastore, 1) := by decide +kernel
theorem d_Mo_price_45 : decode Y_Mo_price.2.1 45 = .ok (.aload_n 0, 1) := by decide +kernel
theorem d_Mo_price_46 : decode Y_Mo_price.2.1 46 = .ok (.iconst 0, 1) := by decide +kernel
theorem d_Mo_price_47 : decode Y_Mo_price.2.1 47 = .ok (.putfield 80, 3) := by decide +kernel
theorem d_Mo_price_50 : decode Y_Mo_price.2.1 50 = .ok (.iload_n 3, 1) := by decide +kernel
theorem d_Mo_price_51 : decode Y_Mo_price.2.1 51 = .ok (.ireturn, 1) := by decide +kernel
theorem d_Mo_ahead_0 : decode Y_Mo_ahead.2.1 0 = .ok (.aload_n 0, 1) := by decide +kernel
theorem d_Mo_ahead_1 : decode Y_Mo_ahead.2.1 1 = .ok (.iconst 0, 1) := by decide +kernel
theorem d_Mo_ahead_2 : decode Y_Mo_ahead.2.1 2 = .ok (.putfield 1, 3) := by decide +kernel
theorem d_Mo_ahead_5 : decode Y_Mo_ahead.2.1 5 = .ok (.aload_n 0, 1) := by decide +kernel
theorem d_Mo_ahead_6 : decode Y_Mo_ahead.2.1 6 = .ok (.iload_n 1, 1) := by decide +kernel
theorem d_Mo_ahead_7 : decode Y_Mo_ahead.2.1 7 = .ok (.iload_n 2, 1) := by decide +kernel
theorem d_Mo_ahead_8 : decode Y_Mo_ahead.2.1 8 = .ok (.invokevirtual 84, 3) := by decide +kernel
theorem d_Mo_ahead_11 : decode Y_Mo_ahead.2.1 11 = .ok (.ifCond .ne 11, 3) := by decide +kernel
theorem d_Mo_ahead_14 : decode Y_Mo_ahead.2.1 14 = .ok (.iload_n 1, 1) := by decide +kernel
theorem d_Mo_ahead_15 : decode Y_Mo_ahead.2.1 15 = .ok (.ifCond .eq 7, 3) := by decide +kernel
theorem d_Mo_ahead_18 : decode Y_Mo_ahead.2.1 18 = .ok (.iload_n 2, 1) := by decide +kernel
theorem d_Mo_ahead_19 : decode Y_Mo_ahead.2.1 19 = .ok (.ifCond .ne 6, 3) := by decide +kernel
theorem d_Mo_ahead_22 : decode Y_Mo_ahead.2.1 22 = .ok (.ldc 78, 2) := by decide +kernel
theorem d_Mo_ahead_24 : decode Y_Mo_ahead.2.1 24 = .ok (.ireturn, 1) := by decide +kernel
theorem d_Mo_ahead_25 : decode Y_Mo_ahead.2.1 25 = .ok (.aload_n 0, 1) := by decide +kernel
theorem d_Mo_ahead_26 : decode Y_Mo_ahead.2.1 26 = .ok (.getfield 26, 3) := by decide +kernel
theorem d_Mo_ahead_29 : decode Y_Mo_ahead.2.1 29 = .ok (.bipush 9, 2) := by decide +kernel
theorem d_Mo_ahead_31 : decode Y_Mo_ahead.2.1 31 = .ok (.iload_n 1, 1) := by decide +kernel
theorem d_Mo_ahead_32 : decode Y_Mo_ahead.2.1 32 = .ok (.imul, 1) := by decide +kernel
theorem d_Mo_ahead_33 : decode Y_Mo_ahead.2.1 33 = .ok (.iload_n 2, 1) := by decide +kernel
theorem d_Mo_ahead_34 : decode Y_Mo_ahead.2.1 34 = .ok (.iadd, 1) := by decide +kernel
theorem d_Mo_ahead_35 : decode Y_Mo_ahead.2.1 35 = .ok (.baload, 1) := by decide +kernel
theorem d_Mo_ahead_36 : decode Y_Mo_ahead.2.1 36 = .ok (.istore 4, 2) := by decide +kernel
theorem d_Mo_ahead_38 : decode Y_Mo_ahead.2.1 38 = .ok (.aload_n 0, 1) := by decide +kernel
theorem d_Mo_ahead_39 : decode Y_Mo_ahead.2.1 39 = .ok (.getfield 26, 3) := by decide +kernel
theorem d_Mo_ahead_42 : decode Y_Mo_ahead.2.1 42 = .ok (.bipush 9, 2) := by decide +kernel
theorem d_Mo_ahead_44 : decode Y_Mo_ahead.2.1 44 = .ok (.iload_n 1, 1) := by decide +kernel
theorem d_Mo_ahead_45 : decode Y_Mo_ahead.2.1 45 = .ok (.imul, 1) := by decide +kernel
theorem d_Mo_ahead_46 : decode Y_Mo_ahead.2.1 46 = .ok (.iload_n 2, 1) := by decide +kernel
theorem d_Mo_ahead_47 : decode Y_Mo_ahead.2.1 47 = .ok (.iadd, 1) := by decide +kernel
theorem d_Mo_ahead_48 : decode Y_Mo_ahead.2.1 48 = .ok (.iload_n 3, 1) := by decide +kernel
theorem d_Mo_ahead_49 : decode Y_Mo_ahead.2.1 49 = .ok (.bastore, 1) := by decide +kernel
theorem d_Mo_ahead_50 : decode Y_Mo_ahead.2.1 50 = .ok (.aload_n 0, 1) := by decide +kernel
theorem d_Mo_ahead_51 : decode Y_Mo_ahead.2.1 51 = .ok (.iconst 0, 1) := by decide +kernel
theorem d_Mo_ahead_52 : decode Y_Mo_ahead.2.1 52 = .ok (.putfield 80, 3) := by decide +kernel
theorem d_Mo_ahead_55 : decode Y_Mo_ahead.2.1 55 = .ok (.iload 4, 2) := by decide +kernel
theorem d_Mo_ahead_57 : decode Y_Mo_ahead.2.1 57 = .ok (.ifCond .eq 7, 3) := by decide +kernel
theorem d_Mo_ahead_60 : decode Y_Mo_ahead.2.1 60 = .ok (.iconst 1, 1) := by decide +kernel
theorem d_Mo_ahead_61 : decode Y_Mo_ahead.2.1 61 = .ok (.goto 4, 3) := by decide +kernel
theorem d_Mo_ahead_64 : decode Y_Mo_ahead.2.1 64 = .ok (.iconst 0, 1) := by decide +kernel
theorem d_Mo_ahead_65 : decode Y_Mo_ahead.2.1 65 = .ok (.ireturn, 1) := by decide +kernel
theorem d_Mo_rule_0 : decode Y_Mo_rule.2.1 0 = .ok (.aload_n 0, 1) := by decide +kernel
theorem d_Mo_rule_1 : decode Y_Mo_rule.2.1 1 = .ok (.iconst 0, 1) := by decide +kernel
theorem d_Mo_rule_2 : decode Y_Mo_rule.2.1 2 = .ok (.putfield 1, 3) := by decide +kernel
theorem d_Mo_rule_5 : decode Y_Mo_rule.2.1 5 = .ok (.iload_n 1, 1) := by decide +kernel
theorem d_Mo_rule_6 : decode Y_Mo_rule.2.1 6 = .ok (.ifCond .ne 13, 3) := by decide +kernel
theorem d_Mo_rule_9 : decode Y_Mo_rule.2.1 9 = .ok (.iload_n 2, 1) := by decide +kernel
theorem d_Mo_rule_10 : decode Y_Mo_rule.2.1 10 = .ok (.iconst 1, 1) := by decide +kernel
theorem d_Mo_rule_11 : decode Y_Mo_rule.2.1 11 = .ok (.bipush 8, 2) := by decide +kernel
theorem d_Mo_rule_13 : decode Y_Mo_rule.2.1 13 = .ok (.invokestatic 70, 3) := by decide +kernel
theorem d_Mo_rule_16 : decode Y_Mo_rule.2.1 16 = .ok (.goto 38, 3) := by decide +kernel
theorem d_Mo_rule_19 : decode Y_Mo_rule.2.1 19 = .ok (.iload_n 1, 1) := by decide +kernel
theorem d_Mo_rule_20 : decode Y_Mo_rule.2.1 20 = .ok (.iconst 1, 1) := by decide +kernel
theorem d_Mo_rule_21 : decode Y_Mo_rule.2.1 21 = .ok (.if_icmp .ne 14, 3) := by decide +kernel
theorem d_Mo_rule_24 : decode Y_Mo_rule.2.1 24 = .ok (.iload_n 2, 1) := by decide +kernel
theorem d_Mo_rule_25 : decode Y_Mo_rule.2.1 25 = .ok (.iconst 0, 1) := by decide +kernel
theorem d_Mo_rule_26 : decode Y_Mo_rule.2.1 26 = .ok (.sipush 1000, 3) := by decide +kernel
theorem d_Mo_rule_29 : decode Y_Mo_rule.2.1 29 = .ok (.invokestatic 70, 3) := by decide +kernel
theorem d_Mo_rule_32 : decode Y_Mo_rule.2.1 32 = .ok (.goto 22, 3) := by decide +kernel
theorem d_Mo_rule_35 : decode Y_Mo_rule.2.1 35 = .ok (.iload_n 1, 1) := by decide +kernel
theorem d_Mo_rule_36 : decode Y_Mo_rule.2.1 36 = .ok (.iconst 2, 1) := by decide +kernel
theorem d_Mo_rule_37 : decode Y_Mo_rule.2.1 37 = .ok (.if_icmp .ne 16, 3) := by decide +kernel
theorem d_Mo_rule_40 : decode Y_Mo_rule.2.1 40 = .ok (.iload_n 2, 1) := by decide +kernel
theorem d_Mo_rule_41 : decode Y_Mo_rule.2.1 41 = .ok (.iconst 0, 1) := by decide +kernel
theorem d_Mo_rule_42 : decode Y_Mo_rule.2.1 42 = .ok (.iconst 1, 1) := by decide +kernel
theorem d_Mo_rule_43 : decode Y_Mo_rule.2.1 43 = .ok (.invokestatic 70, 3) := by decide +kernel
theorem d_Mo_rule_46 : decode Y_Mo_rule.2.1 46 = .ok (.ifCond .eq 7, 3) := by decide +kernel
theorem d_Mo_rule_49 : decode Y_Mo_rule.2.1 49 = .ok (.iconst 1, 1) := by decide +kernel
theorem d_Mo_rule_50 : decode Y_Mo_rule.2.1 50 = .ok (.goto 4, 3) := by decide +kernel
theorem d_Mo_rule_53 : decode Y_Mo_rule.2.1 53 = .ok (.iconst 0, 1) := by decide +kernel
theorem d_Mo_rule_54 : decode Y_Mo_rule.2.1 54 = .ok (.istore_n 3, 1) := by decide +kernel
theorem d_Mo_rule_55 : decode Y_Mo_rule.2.1 55 = .ok (.iload_n 3, 1) := by decide +kernel
theorem d_Mo_rule_56 : decode Y_Mo_rule.2.1 56 = .ok (.ifCond .ne 6, 3) := by decide +kernel
theorem d_Mo_rule_59 : decode Y_Mo_rule.2.1 59 = .ok (.ldc 78, 2) := by decide +kernel
theorem d_Mo_rule_61 : decode Y_Mo_rule.2.1 61 = .ok (.ireturn, 1) := by decide +kernel
theorem d_Mo_rule_62 : decode Y_Mo_rule.2.1 62 = .ok (.iload_n 1, 1) := by decide +kernel
theorem d_Mo_rule_63 : decode Y_Mo_rule.2.1 63 = .ok (.ifCond .ne 10, 3) := by decide +kernel
theorem d_Mo_rule_66 : decode Y_Mo_rule.2.1 66 = .ok (.aload_n 0, 1) := by decide +kernel
theorem d_Mo_rule_67 : decode Y_Mo_rule.2.1 67 = .ok (.getfield 30, 3) := by decide +kernel
theorem d_Mo_rule_70 : decode Y_Mo_rule.2.1 70 = .ok (.goto 19, 3) := by decide +kernel
theorem d_Mo_rule_73 : decode Y_Mo_rule.2.1 73 = .ok (.iload_n 1, 1) := by decide +kernel
theorem d_Mo_rule_74 : decode Y_Mo_rule.2.1 74 = .ok (.iconst 1, 1) := by decide +kernel
theorem d_Mo_rule_75 : decode Y_Mo_rule.2.1 75 = .ok (.if_icmp .ne 10, 3) := by decide +kernel
theorem d_Mo_rule_78 : decode Y_Mo_rule.2.1 78 = .ok (.aload_n 0, 1) := by decide +kernel
theorem d_Mo_rule_79 : decode Y_Mo_rule.2.1 79 = .ok (.getfield 33, 3) := by decide +kernel
theorem d_Mo_rule_82 : decode Y_Mo_rule.2.1 82 = .ok (.goto 7, 3) := by decide +kernel
theorem d_Mo_rule_85 : decode Y_Mo_rule.2.1 85 = .ok (.aload_n 0, 1) := by decide +kernel
theorem d_Mo_rule_86 : decode Y_Mo_rule.2.1 86 = .ok (.getfield 89, 3) := by decide +kernel
theorem d_Mo_rule_89 : decode Y_Mo_rule.2.1 89 = .ok (.istore 4, 2) := by decide +kernel
theorem d_Mo_rule_91 : decode Y_Mo_rule.2.1 91 = .ok (.aload_n 0, 1) := by decide +kernel
theorem d_Mo_rule_92 : decode Y_Mo_rule.2.1 92 = .ok (.iload_n 1, 1) := by decide +kernel
theorem d_Mo_rule_93 : decode Y_Mo_rule.2.1 93 = .ok (.ifCond .ne 7, 3) := by decide +kernel
theorem d_Mo_rule_96 : decode Y_Mo_rule.2.1 96 = .ok (.iload_n 2, 1) := by decide +kernel
theorem d_Mo_rule_97 : decode Y_Mo_rule.2.1 97 = .ok (.goto 7, 3) := by decide +kernel
theorem d_Mo_rule_100 : decode Y_Mo_rule.2.1 100 = .ok (.aload_n 0, 1) := by decide +kernel
theorem d_Mo_rule_101 : decode Y_Mo_rule.2.1 101 = .ok (.getfield 30, 3) := by decide +kernel
theorem d_Mo_rule_104 : decode Y_Mo_rule.2.1 104 = .ok (.putfield 30, 3) := by decide +kernel
theorem d_Mo_rule_107 : decode Y_Mo_rule.2.1 107 = .ok (.aload_n 0, 1) := by decide +kernel
theorem d_Mo_rule_108 : decode Y_Mo_rule.2.1 108 = .ok (.iload_n 1, 1) := by decide +kernel
theorem d_Mo_rule_109 : decode Y_Mo_rule.2.1 109 = .ok (.iconst 1, 1) := by decide +kernel
theorem d_Mo_rule_110 : decode Y_Mo_rule.2.1 110 = .ok (.if_icmp .ne 7, 3) := by decide +kernel
theorem d_Mo_rule_113 : decode Y_Mo_rule.2.1 113 = .ok (.iload_n 2, 1) := by decide +kernel
theorem d_Mo_rule_114 : decode Y_Mo_rule.2.1 114 = .ok (.goto 7, 3) := by decide +kernel
theorem d_Mo_rule_117 : decode Y_Mo_rule.2.1 117 = .ok (.aload_n 0, 1) := by decide +kernel
theorem d_Mo_rule_118 : decode Y_Mo_rule.2.1 118 = .ok (.getfield 33, 3) := by decide +kernel
theorem d_Mo_rule_121 : decode Y_Mo_rule.2.1 121 = .ok (.putfield 33, 3) := by decide +kernel
theorem d_Mo_rule_124 : decode Y_Mo_rule.2.1 124 = .ok (.aload_n 0, 1) := by decide +kernel
theorem d_Mo_rule_125 : decode Y_Mo_rule.2.1 125 = .ok (.iload_n 1, 1) := by decide +kernel
theorem d_Mo_rule_126 : decode Y_Mo_rule.2.1 126 = .ok (.iconst 2, 1) := by decide +kernel
theorem d_Mo_rule_127 : decode Y_Mo_rule.2.1 127 = .ok (.if_icmp .ne 7, 3) := by decide +kernel
theorem d_Mo_rule_130 : decode Y_Mo_rule.2.1 130 = .ok (.iload_n 2, 1) := by decide +kernel
theorem d_Mo_rule_131 : decode Y_Mo_rule.2.1 131 = .ok (.goto 7, 3) := by decide +kernel
theorem d_Mo_rule_134 : decode Y_Mo_rule.2.1 134 = .ok (.aload_n 0, 1) := by decide +kernel
theorem d_Mo_rule_135 : decode Y_Mo_rule.2.1 135 = .ok (.getfield 89, 3) := by decide +kernel
theorem d_Mo_rule_138 : decode Y_Mo_rule.2.1 138 = .ok (.putfield 89, 3) := by decide +kernel
theorem d_Mo_rule_141 : decode Y_Mo_rule.2.1 141 = .ok (.aload_n 0, 1) := by decide +kernel
theorem d_Mo_rule_142 : decode Y_Mo_rule.2.1 142 = .ok (.iconst 0, 1) := by decide +kernel
theorem d_Mo_rule_143 : decode Y_Mo_rule.2.1 143 = .ok (.putfield 80, 3) := by decide +kernel
theorem d_Mo_rule_146 : decode Y_Mo_rule.2.1 146 = .ok (.iload 4, 2) := by decide +kernel
theorem d_Mo_rule_148 : decode Y_Mo_rule.2.1 148 = .ok (.ireturn, 1) := by decide +kernel
theorem d_Mo_best_0 : decode Y_Mo_best.2.1 0 = .ok (.aload_n 0, 1) := by decide +kernel
theorem d_Mo_best_1 : decode Y_Mo_best.2.1 1 = .ok (.iconst 0, 1) := by decide +kernel
theorem d_Mo_best_2 : decode Y_Mo_best.2.1 2 = .ok (.putfield 1, 3) := by decide +kernel
theorem d_Mo_best_5 : decode Y_Mo_best.2.1 5 = .ok (.aload_n 0, 1) := by decide +kernel
theorem d_Mo_best_6 : decode Y_Mo_best.2.1 6 = .ok (.invokevirtual 144, 3) := by decide +kernel
theorem d_Mo_best_9 : decode Y_Mo_best.2.1 9 = .ok (.aload_n 0, 1) := by decide +kernel
theorem d_Mo_best_10 : decode Y_Mo_best.2.1 10 = .ok (.getfield 105, 3) := by decide +kernel
theorem d_Mo_best_13 : decode Y_Mo_best.2.1 13 = .ok (.ifCond .ne 8, 3) := by decide +kernel
theorem d_Mo_best_16 : decode Y_Mo_best.2.1 16 = .ok (.ldc 88, 2) := by decide +kernel
theorem d_Mo_best_18 : decode Y_Mo_best.2.1 18 = .ok (.goto 7, 3) := by decide +kernel
theorem d_Mo_best_21 : decode Y_Mo_best.2.1 21 = .ok (.aload_n 0, 1) := by decide +kernel
theorem d_Mo_best_22 : decode Y_Mo_best.2.1 22 = .ok (.getfield 102, 3) := by decide +kernel
theorem d_Mo_best_25 : decode Y_Mo_best.2.1 25 = .ok (.ireturn, 1) := by decide +kernel
theorem d_Mo_know_0 : decode Y_Mo_know.2.1 0 = .ok (.aload_n 0, 1) := by decide +kernel
theorem d_Mo_know_1 : decode Y_Mo_know.2.1 1 = .ok (.getfield 80, 3) := by decide +kernel
theorem d_Mo_know_4 : decode Y_Mo_know.2.1 4 = .ok (.ifCond .eq 4, 3) := by decide +kernel
theorem d_Mo_know_7 : decode Y_Mo_know.2.1 7 = .ok (.return_, 1) := by decide +kernel
theorem d_Mo_know_8 : decode Y_Mo_know.2.1 8 = .ok (.aload_n 0, 1) := by decide +kernel
theorem d_Mo_know_9 : decode Y_Mo_know.2.1 9 = .ok (.iconst 1, 1) := by decide +kernel
theorem d_Mo_know_10 : decode Y_Mo_know.2.1 10 = .ok (.putfield 80, 3) := by decide +kernel
theorem d_Mo_know_13 : decode Y_Mo_know.2.1 13 = .ok (.aload_n 0, 1) := by decide +kernel
theorem d_Mo_know_14 : decode Y_Mo_know.2.1 14 = .ok (.ldc 101, 2) := by decide +kernel
theorem d_Mo_know_16 : decode Y_Mo_know.2.1 16 = .ok (.putfield 102, 3) := by decide +kernel
theorem d_Mo_know_19 : decode Y_Mo_know.2.1 19 = .ok (.aload_n 0, 1) := by decide +kernel
theorem d_Mo_know_20 : decode Y_Mo_know.2.1 20 = .ok (.iconst 0, 1) := by decide +kernel
theorem d_Mo_know_21 : decode Y_Mo_know.2.1 21 = .ok (.putfield 105, 3) := by decide +kernel
theorem d_Mo_know_24 : decode Y_Mo_know.2.1 24 = .ok (.aload_n 0, 1) := by decide +kernel
theorem d_Mo_know_25 : decode Y_Mo_know.2.1 25 = .ok (.iconst (-1), 1) := by decide +kernel
theorem d_Mo_know_26 : decode Y_Mo_know.2.1 26 = .ok (.putfield 108, 3) := by decide +kernel
theorem d_Mo_know_29 : decode Y_Mo_know.2.1 29 = .ok (.iconst 0, 1) := by decide +kernel
theorem d_Mo_know_30 : decode Y_Mo_know.2.1 30 = .ok (.istore_n 1, 1) := by decide +kernel
theorem d_Mo_know_31 : decode Y_Mo_know.2.1 31 = .ok (.iload_n 1, 1) := by decide +kernel
theorem d_Mo_know_32 : decode Y_Mo_know.2.1 32 = .ok (.bipush 81, 2) := by decide +kernel
theorem d_Mo_know_34 : decode Y_Mo_know.2.1 34 = .ok (.if_icmp .ge 17, 3) := by decide +kernel
theorem d_Mo_know_37 : decode Y_Mo_know.2.1 37 = .ok (.aload_n 0, 1) := by decide +kernel
theorem d_Mo_know_38 : decode Y_Mo_know.2.1 38 = .ok (.getfield 45, 3) := by decide +kernel
theorem d_Mo_know_41 : decode Y_Mo_know.2.1 41 = .ok (.iload_n 1, 1) := by decide +kernel
theorem d_Mo_know_42 : decode Y_Mo_know.2.1 42 = .ok (.ldc 101, 2) := by decide +kernel
theorem d_Mo_know_44 : decode Y_Mo_know.2.1 44 = .ok (.iastore, 1) := by decide +kernel
theorem d_Mo_know_45 : decode Y_Mo_know.2.1 45 = .ok (.iinc 1 1, 3) := by decide +kernel
theorem d_Mo_know_48 : decode Y_Mo_know.2.1 48 = .ok (.goto (-17), 3) := by decide +kernel
theorem d_Mo_know_51 : decode Y_Mo_know.2.1 51 = .ok (.iconst 0, 1) := by decide +kernel
theorem d_Mo_know_52 : decode Y_Mo_know.2.1 52 = .ok (.istore_n 1, 1) := by decide +kernel
theorem d_Mo_know_53 : decode Y_Mo_know.2.1 53 = .ok (.iload_n 1, 1) := by decide +kernel
theorem d_Mo_know_54 : decode Y_Mo_know.2.1 54 = .ok (.bipush 9, 2) := by decide +kernel
theorem d_Mo_know_56 : decode Y_Mo_know.2.1 56 = .ok (.if_icmp .ge 17, 3) := by decide +kernel
theorem d_Mo_know_59 : decode Y_Mo_know.2.1 59 = .ok (.aload_n 0, 1) := by decide +kernel
theorem d_Mo_know_60 : decode Y_Mo_know.2.1 60 = .ok (.getfield 48, 3) := by decide +kernel
theorem d_Mo_know_63 : decode Y_Mo_know.2.1 63 = .ok (.iload_n 1, 1) := by decide +kernel
theorem d_Mo_know_64 : decode Y_Mo_know.2.1 64 = .ok (.ldc 101, 2) := by decide +kernel
theorem d_Mo_know_66 : decode Y_Mo_know.2.1 66 = .ok (.iastore, 1) := by decide +kernel
theorem d_Mo_know_67 : decode Y_Mo_know.2.1 67 = .ok (.iinc 1 1, 3) := by decide +kernel
theorem d_Mo_know_70 : decode Y_Mo_know.2.1 70 = .ok (.goto (-17), 3) := by decide +kernel
theorem d_Mo_know_73 : decode Y_Mo_know.2.1 73 = .ok (.aload_n 0, 1) := by decide +kernel
theorem d_Mo_know_74 : decode Y_Mo_know.2.1 74 = .ok (.iconst 0, 1) := by decide +kernel
theorem d_Mo_know_75 : decode Y_Mo_know.2.1 75 = .ok (.putfield 92, 3) := by decide +kernel
theorem d_Mo_know_78 : decode Y_Mo_know.2.1 78 = .ok (.aload_n 0, 1) := by decide +kernel
theorem d_Mo_know_79 : decode Y_Mo_know.2.1 79 = .ok (.iconst 0, 1) := by decide +kernel
theorem d_Mo_know_80 : decode Y_Mo_know.2.1 80 = .ok (.putfield 98, 3) := by decide +kernel
theorem d_Mo_know_83 : decode Y_Mo_know.2.1 83 = .ok (.aload_n 0, 1) := by decide +kernel
theorem d_Mo_know_84 : decode Y_Mo_know.2.1 84 = .ok (.iconst 0, 1) := by decide +kernel
theorem d_Mo_know_85 : decode Y_Mo_know.2.1 85 = .ok (.putfield 95, 3) := by decide +kernel
theorem d_Mo_know_88 : decode Y_Mo_know.2.1 88 = .ok (.aload_n 0, 1) := by decide +kernel
theorem d_Mo_know_89 : decode Y_Mo_know.2.1 89 = .ok (.iconst 0, 1) := by decide +kernel
theorem d_Mo_know_90 : decode Y_Mo_know.2.1 90 = .ok (.putfield 122, 3) := by decide +kernel
theorem d_Mo_know_93 : decode Y_Mo_know.2.1 93 = .ok (.aload_n 0, 1) := by decide +kernel
theorem d_Mo_know_94 : decode Y_Mo_know.2.1 94 = .ok (.iconst 0, 1) := by decide +kernel
theorem d_Mo_know_95 : decode Y_Mo_know.2.1 95 = .ok (.putfield 115, 3) := by decide +kernel
theorem d_Mo_know_98 : decode Y_Mo_know.2.1 98 = .ok (.aload_n 0, 1) := by decide +kernel
theorem d_Mo_know_99 : decode Y_Mo_know.2.1 99 = .ok (.iconst 0, 1) := by decide +kernel
theorem d_Mo_know_100 : decode Y_Mo_know.2.1 100 = .ok (.iconst 0, 1) := by decide +kernel
theorem d_Mo_know_101 : decode Y_Mo_know.2.1 101 = .ok (.invokestatic 136, 3) := by decide +kernel
theorem d_Mo_know_104 : decode Y_Mo_know.2.1 104 = .ok (.istore_n 1, 1) := by decide +kernel
theorem d_Mo_know_105 : decode Y_Mo_know.2.1 105 = .ok (.return_, 1) := by decide +kernel
theorem d_Mo_atHouse_0 : decode Y_Mo_atHouse.2.1 0 = .ok (.aload_n 0, 1) := by decide +kernel
theorem d_Mo_atHouse_1 : decode Y_Mo_atHouse.2.1 1 = .ok (.iload_n 2, 1) := by decide +kernel
theorem d_Mo_atHouse_2 : decode Y_Mo_atHouse.2.1 2 = .ok (.invokevirtual 118, 3) := by decide +kernel
theorem d_Mo_atHouse_5 : decode Y_Mo_atHouse.2.1 5 = .ok (.istore_n 3, 1) := by decide +kernel
theorem d_Mo_atHouse_6 : decode Y_Mo_atHouse.2.1 6 = .ok (.aload_n 0, 1) := by decide +kernel
theorem d_Mo_atHouse_7 : decode Y_Mo_atHouse.2.1 7 = .ok (.getfield 122, 3) := by decide +kernel
theorem d_Mo_atHouse_10 : decode Y_Mo_atHouse.2.1 10 = .ok (.aload_n 0, 1) := by decide +kernel
theorem d_Mo_atHouse_11 : decode Y_Mo_atHouse.2.1 11 = .ok (.getfield 30, 3) := by decide +kernel
theorem d_Mo_atHouse_14 : decode Y_Mo_atHouse.2.1 14 = .ok (.if_icmp .ne 5, 3) := by decide +kernel
theorem d_Mo_atHouse_17 : decode Y_Mo_atHouse.2.1 17 = .ok (.iload_n 3, 1) := by decide +kernel
theorem d_Mo_atHouse_18 : decode Y_Mo_atHouse.2.1 18 = .ok (.ireturn, 1) := by decide +kernel
theorem d_Mo_atHouse_19 : decode Y_Mo_atHouse.2.1 19 = .ok (.aload_n 0, 1) := by decide +kernel
theorem d_Mo_atHouse_20 : decode Y_Mo_atHouse.2.1 20 = .ok (.getfield 115, 3) := by decide +kernel
theorem d_Mo_atHouse_23 : decode Y_Mo_atHouse.2.1 23 = .ok (.istore 4, 2) := by decide +kernel
theorem d_Mo_atHouse_25 : decode Y_Mo_atHouse.2.1 25 = .ok (.iload_n 1, 1) := by decide +kernel
theorem d_Mo_atHouse_26 : decode Y_Mo_atHouse.2.1 26 = .ok (.iconst 1, 1) := by decide +kernel
theorem d_Mo_atHouse_27 : decode Y_Mo_atHouse.2.1 27 = .ok (.iadd, 1) := by decide +kernel
theorem d_Mo_atHouse_28 : decode Y_Mo_atHouse.2.1 28 = .ok (.istore 5, 2) := by decide +kernel
theorem d_Mo_atHouse_30 : decode Y_Mo_atHouse.2.1 30 = .ok (.iload 5, 2) := by decide +kernel
theorem d_Mo_atHouse_32 : decode Y_Mo_atHouse.2.1 32 = .ok (.aload_n 0, 1) := by decide +kernel
theorem d_Mo_atHouse_33 : decode Y_Mo_atHouse.2.1 33 = .ok (.getfield 13, 3) := by decide +kernel
theorem d_Mo_atHouse_36 : decode Y_Mo_atHouse.2.1 36 = .ok (.if_icmp .ge 90, 3) := by decide +kernel
theorem d_Mo_atHouse_39 : decode Y_Mo_atHouse.2.1 39 = .ok (.aload_n 0, 1) := by decide +kernel
theorem d_Mo_atHouse_40 : decode Y_Mo_atHouse.2.1 40 = .ok (.iconst 0, 1) := by decide +kernel
theorem d_Mo_atHouse_41 : decode Y_Mo_atHouse.2.1 41 = .ok (.putfield 98, 3) := by decide +kernel
theorem d_Mo_atHouse_44 : decode Y_Mo_atHouse.2.1 44 = .ok (.aload_n 0, 1) := by decide +kernel
theorem d_Mo_atHouse_45 : decode Y_Mo_atHouse.2.1 45 = .ok (.iconst 0, 1) := by decide +kernel
theorem d_Mo_atHouse_46 : decode Y_Mo_atHouse.2.1 46 = .ok (.putfield 95, 3) := by decide +kernel
theorem d_Mo_atHouse_49 : decode Y_Mo_atHouse.2.1 49 = .ok (.aload_n 0, 1) := by decide +kernel
theorem d_Mo_atHouse_50 : decode Y_Mo_atHouse.2.1 50 = .ok (.iconst 0, 1) := by decide +kernel
theorem d_Mo_atHouse_51 : decode Y_Mo_atHouse.2.1 51 = .ok (.iload 5, 2) := by decide +kernel
theorem d_Mo_atHouse_53 : decode Y_Mo_atHouse.2.1 53 = .ok (.invokevirtual 125, 3) := by decide +kernel
theorem d_Mo_atHouse_56 : decode Y_Mo_atHouse.2.1 56 = .ok (.ifCond .eq 64, 3) := by decide +kernel
theorem d_Mo_atHouse_59 : decode Y_Mo_atHouse.2.1 59 = .ok (.iload 4, 2) := by decide +kernel
theorem d_Mo_atHouse_61 : decode Y_Mo_atHouse.2.1 61 = .ok (.ifCond .le 8, 3) := by decide +kernel
theorem d_Mo_atHouse_64 : decode Y_Mo_atHouse.2.1 64 = .ok (.aload_n 0, 1) := by decide +kernel
theorem d_Mo_atHouse_65 : decode Y_Mo_atHouse.2.1 65 = .ok (.iconst 0, 1) := by decide +kernel
theorem d_Mo_atHouse_66 : decode Y_Mo_atHouse.2.1 66 = .ok (.invokevirtual 128, 3) := by decide +kernel
theorem d_Mo_atHouse_69 : decode Y_Mo_atHouse.2.1 69 = .ok (.aload_n 0, 1) := by decide +kernel
theorem d_Mo_atHouse_70 : decode Y_Mo_atHouse.2.1 70 = .ok (.dup, 1) := by decide +kernel
theorem d_Mo_atHouse_71 : decode Y_Mo_atHouse.2.1 71 = .ok (.getfield 122, 3) := by decide +kernel
theorem d_Mo_atHouse_74 : decode Y_Mo_atHouse.2.1 74 = .ok (.iconst 1, 1) := by decide +kernel
theorem d_Mo_atHouse_75 : decode Y_Mo_atHouse.2.1 75 = .ok (.iadd, 1) := by decide +kernel
theorem d_Mo_atHouse_76 : decode Y_Mo_atHouse.2.1 76 = .ok (.putfield 122, 3) := by decide +kernel
theorem d_Mo_atHouse_79 : decode Y_Mo_atHouse.2.1 79 = .ok (.aload_n 0, 1) := by decide +kernel
theorem d_Mo_atHouse_80 : decode Y_Mo_atHouse.2.1 80 = .ok (.iconst 0, 1) := by decide +kernel
theorem d_Mo_atHouse_81 : decode Y_Mo_atHouse.2.1 81 = .ok (.iload 5, 2) := by decide +kernel
theorem d_Mo_atHouse_83 : decode Y_Mo_atHouse.2.1 83 = .ok (.iload 5, 2) := by decide +kernel
theorem d_Mo_atHouse_85 : decode Y_Mo_atHouse.2.1 85 = .ok (.iload_n 2, 1) := by decide +kernel
theorem d_Mo_atHouse_86 : decode Y_Mo_atHouse.2.1 86 = .ok (.invokestatic 132, 3) := by decide +kernel
theorem d_Mo_atHouse_89 : decode Y_Mo_atHouse.2.1 89 = .ok (.istore 6, 2) := by decide +kernel
theorem d_Mo_atHouse_91 : decode Y_Mo_atHouse.2.1 91 = .ok (.aload_n 0, 1) := by decide +kernel
theorem d_Mo_atHouse_92 : decode Y_Mo_atHouse.2.1 92 = .ok (.dup, 1) := by decide +kernel
theorem d_Mo_atHouse_93 : decode Y_Mo_atHouse.2.1 93 = .ok (.getfield 122, 3) := by decide +kernel
theorem d_Mo_atHouse_96 : decode Y_Mo_atHouse.2.1 96 = .ok (.iconst 1, 1) := by decide +kernel
theorem d_Mo_atHouse_97 : decode Y_Mo_atHouse.2.1 97 = .ok (.isub, 1) := by decide +kernel
theorem d_Mo_atHouse_98 : decode Y_Mo_atHouse.2.1 98 = .ok (.putfield 122, 3) := by decide +kernel
theorem d_Mo_atHouse_101 : decode Y_Mo_atHouse.2.1 101 = .ok (.aload_n 0, 1) := by decide +kernel
theorem d_Mo_atHouse_102 : decode Y_Mo_atHouse.2.1 102 = .ok (.iload 4, 2) := by decide +kernel
theorem d_Mo_atHouse_104 : decode Y_Mo_atHouse.2.1 104 = .ok (.putfield 115, 3) := by decide +kernel
theorem d_Mo_atHouse_107 : decode Y_Mo_atHouse.2.1 107 = .ok (.iload 6, 2) := by decide +kernel
theorem d_Mo_atHouse_109 : decode Y_Mo_atHouse.2.1 109 = .ok (.iload_n 3, 1) := by decide +kernel
theorem d_Mo_atHouse_110 : decode Y_Mo_atHouse.2.1 110 = .ok (.if_icmp .ge 8, 3) := by decide +kernel
theorem d_Mo_atHouse_113 : decode Y_Mo_atHouse.2.1 113 = .ok (.iload 6, 2) := by decide +kernel
theorem d_Mo_atHouse_115 : decode Y_Mo_atHouse.2.1 115 = .ok (.goto 4, 3) := by decide +kernel
theorem d_Mo_atHouse_118 : decode Y_Mo_atHouse.2.1 118 = .ok (.iload_n 3, 1) := by decide +kernel
theorem d_Mo_atHouse_119 : decode Y_Mo_atHouse.2.1 119 = .ok (.istore_n 3, 1) := by decide +kernel
theorem d_Mo_atHouse_120 : decode Y_Mo_atHouse.2.1 120 = .ok (.iinc 5 1, 3) := by decide +kernel
theorem d_Mo_atHouse_123 : decode Y_Mo_atHouse.2.1 123 = .ok (.goto (-93), 3) := by decide +kernel
theorem d_Mo_atHouse_126 : decode Y_Mo_atHouse.2.1 126 = .ok (.iload_n 3, 1) := by decide +kernel
theorem d_Mo_atHouse_127 : decode Y_Mo_atHouse.2.1 127 = .ok (.ireturn, 1) := by decide +kernel
theorem d_Mo_whole_0 : decode Y_Mo_whole.2.1 0 = .ok (.iload_n 1, 1) := by decide +kernel
theorem d_Mo_whole_1 : decode Y_Mo_whole.2.1 1 = .ok (.istore_n 2, 1) := by decide +kernel
theorem d_Mo_whole_2 : decode Y_Mo_whole.2.1 2 = .ok (.iconst 1, 1) := by decide +kernel
theorem d_Mo_whole_3 : decode Y_Mo_whole.2.1 3 = .ok (.istore_n 3, 1) := by decide +kernel
theorem d_Mo_whole_4 : decode Y_Mo_whole.2.1 4 = .ok (.iload_n 3, 1) := by decide +kernel
theorem d_Mo_whole_5 : decode Y_Mo_whole.2.1 5 = .ok (.aload_n 0, 1) := by decide +kernel
theorem d_Mo_whole_6 : decode Y_Mo_whole.2.1 6 = .ok (.getfield 13, 3) := by decide +kernel
theorem d_Mo_whole_9 : decode Y_Mo_whole.2.1 9 = .ok (.if_icmp .ge 41, 3) := by decide +kernel
theorem d_Mo_whole_12 : decode Y_Mo_whole.2.1 12 = .ok (.aload_n 0, 1) := by decide +kernel
theorem d_Mo_whole_13 : decode Y_Mo_whole.2.1 13 = .ok (.getfield 92, 3) := by decide +kernel
theorem d_Mo_whole_16 : decode Y_Mo_whole.2.1 16 = .ok (.iload_n 3, 1) := by decide +kernel
theorem d_Mo_whole_17 : decode Y_Mo_whole.2.1 17 = .ok (.ishr, 1) := by decide +kernel
theorem d_Mo_whole_18 : decode Y_Mo_whole.2.1 18 = .ok (.iconst 1, 1) := by decide +kernel
theorem d_Mo_whole_19 : decode Y_Mo_whole.2.1 19 = .ok (.iand, 1) := by decide +kernel
theorem d_Mo_whole_20 : decode Y_Mo_whole.2.1 20 = .ok (.ifCond .ne 24, 3) := by decide +kernel
theorem d_Mo_whole_23 : decode Y_Mo_whole.2.1 23 = .ok (.aload_n 0, 1) := by decide +kernel
theorem d_Mo_whole_24 : decode Y_Mo_whole.2.1 24 = .ok (.getfield 23, 3) := by decide +kernel
theorem d_Mo_whole_27 : decode Y_Mo_whole.2.1 27 = .ok (.iload_n 3, 1) := by decide +kernel
theorem d_Mo_whole_28 : decode Y_Mo_whole.2.1 28 = .ok (.iaload, 1) := by decide +kernel
theorem d_Mo_whole_29 : decode Y_Mo_whole.2.1 29 = .ok (.ifCond .ge 6, 3) := by decide +kernel
theorem d_Mo_whole_32 : decode Y_Mo_whole.2.1 32 = .ok (.ldc 101, 2) := by decide +kernel
theorem d_Mo_whole_34 : decode Y_Mo_whole.2.1 34 = .ok (.ireturn, 1) := by decide +kernel
theorem d_Mo_whole_35 : decode Y_Mo_whole.2.1 35 = .ok (.iload_n 2, 1) := by decide +kernel
theorem d_Mo_whole_36 : decode Y_Mo_whole.2.1 36 = .ok (.aload_n 0, 1) := by decide +kernel
theorem d_Mo_whole_37 : decode Y_Mo_whole.2.1 37 = .ok (.getfield 23, 3) := by decide +kernel
theorem d_Mo_whole_40 : decode Y_Mo_whole.2.1 40 = .ok (.iload_n 3, 1) := by decide +kernel
theorem d_Mo_whole_41 : decode Y_Mo_whole.2.1 41 = .ok (.iaload, 1) := by decide +kernel
theorem d_Mo_whole_42 : decode Y_Mo_whole.2.1 42 = .ok (.iadd, 1) := by decide +kernel
theorem d_Mo_whole_43 : decode Y_Mo_whole.2.1 43 = .ok (.istore_n 2, 1) := by decide +kernel
theorem d_Mo_whole_44 : decode Y_Mo_whole.2.1 44 = .ok (.iinc 3 1, 3) := by decide +kernel
theorem d_Mo_whole_47 : decode Y_Mo_whole.2.1 47 = .ok (.goto (-43), 3) := by decide +kernel
theorem d_Mo_whole_50 : decode Y_Mo_whole.2.1 50 = .ok (.iconst 1, 1) := by decide +kernel
theorem d_Mo_whole_51 : decode Y_Mo_whole.2.1 51 = .ok (.istore_n 3, 1) := by decide +kernel
theorem d_Mo_whole_52 : decode Y_Mo_whole.2.1 52 = .ok (.iload_n 3, 1) := by decide +kernel
theorem d_Mo_whole_53 : decode Y_Mo_whole.2.1 53 = .ok (.aload_n 0, 1) := by decide +kernel
theorem d_Mo_whole_54 : decode Y_Mo_whole.2.1 54 = .ok (.getfield 13, 3) := by decide +kernel
theorem d_Mo_whole_57 : decode Y_Mo_whole.2.1 57 = .ok (.if_icmp .ge 37, 3) := by decide +kernel
theorem d_Mo_whole_60 : decode Y_Mo_whole.2.1 60 = .ok (.aload_n 0, 1) := by decide +kernel
theorem d_Mo_whole_61 : decode Y_Mo_whole.2.1 61 = .ok (.getfield 92, 3) := by decide +kernel
theorem d_Mo_whole_64 : decode Y_Mo_whole.2.1 64 = .ok (.iload_n 3, 1) := by decide +kernel
theorem d_Mo_whole_65 : decode Y_Mo_whole.2.1 65 = .ok (.ishr, 1) := by decide +kernel
theorem d_Mo_whole_66 : decode Y_Mo_whole.2.1 66 = .ok (.iconst 1, 1) := by decide +kernel
theorem d_Mo_whole_67 : decode Y_Mo_whole.2.1 67 = .ok (.iand, 1) := by decide +kernel
theorem d_Mo_whole_68 : decode Y_Mo_whole.2.1 68 = .ok (.ifCond .ne 20, 3) := by decide +kernel
theorem d_Mo_whole_71 : decode Y_Mo_whole.2.1 71 = .ok (.iload_n 2, 1) := by decide +kernel
theorem d_Mo_whole_72 : decode Y_Mo_whole.2.1 72 = .ok (.aload_n 0, 1) := by decide +kernel
theorem d_Mo_whole_73 : decode Y_Mo_whole.2.1 73 = .ok (.getfield 48, 3) := by decide +kernel
theorem d_Mo_whole_76 : decode Y_Mo_whole.2.1 76 = .ok (.iload_n 3, 1) := by decide +kernel
theorem d_Mo_whole_77 : decode Y_Mo_whole.2.1 77 = .ok (.iaload, 1) := by decide +kernel
theorem d_Mo_whole_78 : decode Y_Mo_whole.2.1 78 = .ok (.if_icmp .ge 10, 3) := by decide +kernel
theorem d_Mo_whole_81 : decode Y_Mo_whole.2.1 81 = .ok (.aload_n 0, 1) := by decide +kernel
theorem d_Mo_whole_82 : decode Y_Mo_whole.2.1 82 = .ok (.getfield 48, 3) := by decide +kernel
theorem d_Mo_whole_85 : decode Y_Mo_whole.2.1 85 = .ok (.iload_n 3, 1) := by decide +kernel
theorem d_Mo_whole_86 : decode Y_Mo_whole.2.1 86 = .ok (.iload_n 2, 1) := by decide +kernel
theorem d_Mo_whole_87 : decode Y_Mo_whole.2.1 87 = .ok (.iastore, 1) := by decide +kernel
theorem d_Mo_whole_88 : decode Y_Mo_whole.2.1 88 = .ok (.iinc 3 1, 3) := by decide +kernel
theorem d_Mo_whole_91 : decode Y_Mo_whole.2.1 91 = .ok (.goto (-39), 3) := by decide +kernel
theorem d_Mo_whole_94 : decode Y_Mo_whole.2.1 94 = .ok (.iload_n 2, 1) := by decide +kernel
theorem d_Mo_whole_95 : decode Y_Mo_whole.2.1 95 = .ok (.aload_n 0, 1) := by decide +kernel
theorem d_Mo_whole_96 : decode Y_Mo_whole.2.1 96 = .ok (.getfield 102, 3) := by decide +kernel
theorem d_Mo_whole_99 : decode Y_Mo_whole.2.1 99 = .ok (.if_icmp .ge 18, 3) := by decide +kernel
theorem d_Mo_whole_102 : decode Y_Mo_whole.2.1 102 = .ok (.aload_n 0, 1) := by decide +kernel
theorem d_Mo_whole_103 : decode Y_Mo_whole.2.1 103 = .ok (.iload_n 2, 1) := by decide +kernel
theorem d_Mo_whole_104 : decode Y_Mo_whole.2.1 104 = .ok (.putfield 102, 3) := by decide +kernel
theorem d_Mo_whole_107 : decode Y_Mo_whole.2.1 107 = .ok (.aload_n 0, 1) := by decide +kernel
theorem d_Mo_whole_108 : decode Y_Mo_whole.2.1 108 = .ok (.iconst 0, 1) := by decide +kernel
theorem d_Mo_whole_109 : decode Y_Mo_whole.2.1 109 = .ok (.putfield 105, 3) := by decide +kernel
theorem d_Mo_whole_112 : decode Y_Mo_whole.2.1 112 = .ok (.aload_n 0, 1) := by decide +kernel
theorem d_Mo_whole_113 : decode Y_Mo_whole.2.1 113 = .ok (.iconst (-1), 1) := by decide +kernel
theorem d_Mo_whole_114 : decode Y_Mo_whole.2.1 114 = .ok (.putfield 108, 3) := by decide +kernel
theorem d_Mo_whole_117 : decode Y_Mo_whole.2.1 117 = .ok (.iload_n 2, 1) := by decide +kernel
theorem d_Mo_whole_118 : decode Y_Mo_whole.2.1 118 = .ok (.aload_n 0, 1) := by decide +kernel
theorem d_Mo_whole_119 : decode Y_Mo_whole.2.1 119 = .ok (.getfield 102, 3) := by decide +kernel
theorem d_Mo_whole_122 : decode Y_Mo_whole.2.1 122 = .ok (.if_icmp .ne 63, 3) := by decide +kernel
theorem d_Mo_whole_125 : decode Y_Mo_whole.2.1 125 = .ok (.aload_n 0, 1) := by decide +kernel
theorem d_Mo_whole_126 : decode Y_Mo_whole.2.1 126 = .ok (.dup, 1) := by decide +kernel
theorem d_Mo_whole_127 : decode Y_Mo_whole.2.1 127 = .ok (.getfield 105, 3) := by decide +kernel
theorem d_Mo_whole_130 : decode Y_Mo_whole.2.1 130 = .ok (.iconst 1, 1) := by decide +kernel
theorem d_Mo_whole_131 : decode Y_Mo_whole.2.1 131 = .ok (.iadd, 1) := by decide +kernel
theorem d_Mo_whole_132 : decode Y_Mo_whole.2.1 132 = .ok (.putfield 105, 3) := by decide +kernel
theorem d_Mo_whole_135 : decode Y_Mo_whole.2.1 135 = .ok (.aload_n 0, 1) := by decide +kernel
theorem d_Mo_whole_136 : decode Y_Mo_whole.2.1 136 = .ok (.getfield 108, 3) := by decide +kernel
theorem d_Mo_whole_139 : decode Y_Mo_whole.2.1 139 = .ok (.ifCond .lt 10, 3) := by decide +kernel
theorem d_Mo_whole_142 : decode Y_Mo_whole.2.1 142 = .ok (.aload_n 0, 1) := by decide +kernel
theorem d_Mo_whole_143 : decode Y_Mo_whole.2.1 143 = .ok (.invokevirtual 111, 3) := by decide +kernel
theorem d_Mo_whole_146 : decode Y_Mo_whole.2.1 146 = .ok (.ifCond .eq 39, 3) := by decide +kernel
theorem d_Mo_whole_149 : decode Y_Mo_whole.2.1 149 = .ok (.aload_n 0, 1) := by decide +kernel
theorem d_Mo_whole_150 : decode Y_Mo_whole.2.1 150 = .ok (.aload_n 0, 1) := by decide +kernel
theorem d_Mo_whole_151 : decode Y_Mo_whole.2.1 151 = .ok (.getfield 115, 3) := by decide +kernel
theorem d_Mo_whole_154 : decode Y_Mo_whole.2.1 154 = .ok (.putfield 108, 3) := by decide +kernel
theorem d_Mo_whole_157 : decode Y_Mo_whole.2.1 157 = .ok (.iconst 0, 1) := by decide +kernel
theorem d_Mo_whole_158 : decode Y_Mo_whole.2.1 158 = .ok (.istore_n 3, 1) := by decide +kernel
theorem d_Mo_whole_159 : decode Y_Mo_whole.2.1 159 = .ok (.iload_n 3, 1) := by decide +kernel
theorem d_Mo_whole_160 : decode Y_Mo_whole.2.1 160 = .ok (.aload_n 0, 1) := by decide +kernel
theorem d_Mo_whole_161 : decode Y_Mo_whole.2.1 161 = .ok (.getfield 115, 3) := by decide +kernel
theorem d_Mo_whole_164 : decode Y_Mo_whole.2.1 164 = .ok (.if_icmp .ge 21, 3) := by decide +kernel
theorem d_Mo_whole_167 : decode Y_Mo_whole.2.1 167 = .ok (.aload_n 0, 1) := by decide +kernel
theorem d_Mo_whole_168 : decode Y_Mo_whole.2.1 168 = .ok (.getfield 51, 3) := by decide +kernel
theorem d_Mo_whole_171 : decode Y_Mo_whole.2.1 171 = .ok (.iload_n 3, 1) := by decide +kernel
theorem d_Mo_whole_172 : decode Y_Mo_whole.2.1 172 = .ok (.aload_n 0, 1) := by decide +kernel
theorem d_Mo_whole_173 : decode Y_Mo_whole.2.1 173 = .ok (.getfield 54, 3) := by decide +kernel
theorem d_Mo_whole_176 : decode Y_Mo_whole.2.1 176 = .ok (.iload_n 3, 1) := by decide +kernel
theorem d_Mo_whole_177 : decode Y_Mo_whole.2.1 177 = .ok (.iaload, 1) := by decide +kernel
theorem d_Mo_whole_178 : decode Y_Mo_whole.2.1 178 = .ok (.iastore, 1) := by decide +kernel
theorem d_Mo_whole_179 : decode Y_Mo_whole.2.1 179 = .ok (.iinc 3 1, 3) := by decide +kernel
theorem d_Mo_whole_182 : decode Y_Mo_whole.2.1 182 = .ok (.goto (-23), 3) := by decide +kernel
theorem d_Mo_whole_185 : decode Y_Mo_whole.2.1 185 = .ok (.iload_n 2, 1) := by decide +kernel
theorem d_Mo_whole_186 : decode Y_Mo_whole.2.1 186 = .ok (.ireturn, 1) := by decide +kernel
theorem d_Mo_isBeforeFirst_0 : decode Y_Mo_isBeforeFirst.2.1 0 = .ok (.iconst 0, 1) := by decide +kernel
theorem d_Mo_isBeforeFirst_1 : decode Y_Mo_isBeforeFirst.2.1 1 = .ok (.istore_n 1, 1) := by decide +kernel
theorem d_Mo_isBeforeFirst_2 : decode Y_Mo_isBeforeFirst.2.1 2 = .ok (.iload_n 1, 1) := by decide +kernel
theorem d_Mo_isBeforeFirst_3 : decode Y_Mo_isBeforeFirst.2.1 3 = .ok (.aload_n 0, 1) := by decide +kernel
theorem d_Mo_isBeforeFirst_4 : decode Y_Mo_isBeforeFirst.2.1 4 = .ok (.getfield 115, 3) := by decide +kernel
theorem d_Mo_isBeforeFirst_7 : decode Y_Mo_isBeforeFirst.2.1 7 = .ok (.if_icmp .ge 53, 3) := by decide +kernel
theorem d_Mo_isBeforeFirst_10 : decode Y_Mo_isBeforeFirst.2.1 10 = .ok (.iload_n 1, 1) := by decide +kernel
theorem d_Mo_isBeforeFirst_11 : decode Y_Mo_isBeforeFirst.2.1 11 = .ok (.aload_n 0, 1) := by decide +kernel
theorem d_Mo_isBeforeFirst_12 : decode Y_Mo_isBeforeFirst.2.1 12 = .ok (.getfield 108, 3) := by decide +kernel
theorem d_Mo_isBeforeFirst_15 : decode Y_Mo_isBeforeFirst.2.1 15 = .ok (.if_icmp .ge 45, 3) := by decide +kernel
theorem d_Mo_isBeforeFirst_18 : decode Y_Mo_isBeforeFirst.2.1 18 = .ok (.aload_n 0, 1) := by decide +kernel
theorem d_Mo_isBeforeFirst_19 : decode Y_Mo_isBeforeFirst.2.1 19 = .ok (.getfield 54, 3) := by decide +kernel
theorem d_Mo_isBeforeFirst_22 : decode Y_Mo_isBeforeFirst.2.1 22 = .ok (.iload_n 1, 1) := by decide +kernel
theorem d_Mo_isBeforeFirst_23 : decode Y_Mo_isBeforeFirst.2.1 23 = .ok (.iaload, 1) := by decide +kernel
theorem d_Mo_isBeforeFirst_24 : decode Y_Mo_isBeforeFirst.2.1 24 = .ok (.aload_n 0, 1) := by decide +kernel
theorem d_Mo_isBeforeFirst_25 : decode Y_Mo_isBeforeFirst.2.1 25 = .ok (.getfield 51, 3) := by decide +kernel
theorem d_Mo_isBeforeFirst_28 : decode Y_Mo_isBeforeFirst.2.1 28 = .ok (.iload_n 1, 1) := by decide +kernel
theorem d_Mo_isBeforeFirst_29 : decode Y_Mo_isBeforeFirst.2.1 29 = .ok (.iaload, 1) := by decide +kernel
theorem d_Mo_isBeforeFirst_30 : decode Y_Mo_isBeforeFirst.2.1 30 = .ok (.if_icmp .eq 24, 3) := by decide +kernel
theorem d_Mo_isBeforeFirst_33 : decode Y_Mo_isBeforeFirst.2.1 33 = .ok (.aload_n 0, 1) := by decide +kernel
theorem d_Mo_isBeforeFirst_34 : decode Y_Mo_isBeforeFirst.2.1 34 = .ok (.getfield 54, 3) := by decide +kernel
theorem d_Mo_isBeforeFirst_37 : decode Y_Mo_isBeforeFirst.2.1 37 = .ok (.iload_n 1, 1) := by decide +kernel
theorem d_Mo_isBeforeFirst_38 : decode Y_Mo_isBeforeFirst.2.1 38 = .ok (.iaload, 1) := by decide +kernel
theorem d_Mo_isBeforeFirst_39 : decode Y_Mo_isBeforeFirst.2.1 39 = .ok (.aload_n 0, 1) := by decide +kernel
theorem d_Mo_isBeforeFirst_40 : decode Y_Mo_isBeforeFirst.2.1 40 = .ok (.getfield 51, 3) := by decide +kernel
theorem d_Mo_isBeforeFirst_43 : decode Y_Mo_isBeforeFirst.2.1 43 = .ok (.iload_n 1, 1) := by decide +kernel
theorem d_Mo_isBeforeFirst_44 : decode Y_Mo_isBeforeFirst.2.1 44 = .ok (.iaload, 1) := by decide +kernel
theorem d_Mo_isBeforeFirst_45 : decode Y_Mo_isBeforeFirst.2.1 45 = .ok (.if_icmp .ge 7, 3) := by decide +kernel
theorem d_Mo_isBeforeFirst_48 : decode Y_Mo_isBeforeFirst.2.1 48 = .ok (.iconst 1, 1) := by decide +kernel
theorem d_Mo_isBeforeFirst_49 : decode Y_Mo_isBeforeFirst.2.1 49 = .ok (.goto 4, 3) := by decide +kernel
theorem d_Mo_isBeforeFirst_52 : decode Y_Mo_isBeforeFirst.2.1 52 = .ok (.iconst 0, 1) := by decide +kernel
theorem d_Mo_isBeforeFirst_53 : decode Y_Mo_isBeforeFirst.2.1 53 = .ok (.ireturn, 1) := by decide +kernel
theorem d_Mo_isBeforeFirst_54 : decode Y_Mo_isBeforeFirst.2.1 54 = .ok (.iinc 1 1, 3) := by decide +kernel
theorem d_Mo_isBeforeFirst_57 : decode Y_Mo_isBeforeFirst.2.1 57 = .ok (.goto (-55), 3) := by decide +kernel
theorem d_Mo_isBeforeFirst_60 : decode Y_Mo_isBeforeFirst.2.1 60 = .ok (.aload_n 0, 1) := by decide +kernel
theorem d_Mo_isBeforeFirst_61 : decode Y_Mo_isBeforeFirst.2.1 61 = .ok (.getfield 115, 3) := by decide +kernel
theorem d_Mo_isBeforeFirst_64 : decode Y_Mo_isBeforeFirst.2.1 64 = .ok (.aload_n 0, 1) := by decide +kernel
theorem d_Mo_isBeforeFirst_65 : decode Y_Mo_isBeforeFirst.2.1 65 = .ok (.getfield 108, 3) := by decide +kernel
theorem d_Mo_isBeforeFirst_68 : decode Y_Mo_isBeforeFirst.2.1 68 = .ok (.if_icmp .ge 7, 3) := by decide +kernel
theorem d_Mo_isBeforeFirst_71 : decode Y_Mo_isBeforeFirst.2.1 71 = .ok (.iconst 1, 1) := by decide +kernel
theorem d_Mo_isBeforeFirst_72 : decode Y_Mo_isBeforeFirst.2.1 72 = .ok (.goto 4, 3) := by decide +kernel
theorem d_Mo_isBeforeFirst_75 : decode Y_Mo_isBeforeFirst.2.1 75 = .ok (.iconst 0, 1) := by decide +kernel
theorem d_Mo_isBeforeFirst_76 : decode Y_Mo_isBeforeFirst.2.1 76 = .ok (.ireturn, 1) := by decide +kernel
theorem d_Mo_mayCome_0 : decode Y_Mo_mayCome.2.1 0 = .ok (.aload_n 0, 1) := by decide +kernel
theorem d_Mo_mayCome_1 : decode Y_Mo_mayCome.2.1 1 = .ok (.getfield 20, 3) := by decide +kernel
theorem d_Mo_mayCome_4 : decode Y_Mo_mayCome.2.1 4 = .ok (.bipush 9, 2) := by decide +kernel
theorem d_Mo_mayCome_6 : decode Y_Mo_mayCome.2.1 6 = .ok (.iload_n 1, 1) := by decide +kernel
theorem d_Mo_mayCome_7 : decode Y_Mo_mayCome.2.1 7 = .ok (.imul, 1) := by decide +kernel
theorem d_Mo_mayCome_8 : decode Y_Mo_mayCome.2.1 8 = .ok (.iload_n 2, 1) := by decide +kernel
theorem d_Mo_mayCome_9 : decode Y_Mo_mayCome.2.1 9 = .ok (.iadd, 1) := by decide +kernel
theorem d_Mo_mayCome_10 : decode Y_Mo_mayCome.2.1 10 = .ok (.iaload, 1) := by decide +kernel
theorem d_Mo_mayCome_11 : decode Y_Mo_mayCome.2.1 11 = .ok (.ldc 69, 2) := by decide +kernel
theorem d_Mo_mayCome_13 : decode Y_Mo_mayCome.2.1 13 = .ok (.if_icmp .eq 36, 3) := by decide +kernel
theorem d_Mo_mayCome_16 : decode Y_Mo_mayCome.2.1 16 = .ok (.aload_n 0, 1) := by decide +kernel
theorem d_Mo_mayCome_17 : decode Y_Mo_mayCome.2.1 17 = .ok (.getfield 92, 3) := by decide +kernel
theorem d_Mo_mayCome_20 : decode Y_Mo_mayCome.2.1 20 = .ok (.iload_n 2, 1) := by decide +kernel
theorem d_Mo_mayCome_21 : decode Y_Mo_mayCome.2.1 21 = .ok (.ishr, 1) := by decide +kernel
theorem d_Mo_mayCome_22 : decode Y_Mo_mayCome.2.1 22 = .ok (.iconst 1, 1) := by decide +kernel
theorem d_Mo_mayCome_23 : decode Y_Mo_mayCome.2.1 23 = .ok (.iand, 1) := by decide +kernel
theorem d_Mo_mayCome_24 : decode Y_Mo_mayCome.2.1 24 = .ok (.ifCond .ne 25, 3) := by decide +kernel
theorem d_Mo_mayCome_27 : decode Y_Mo_mayCome.2.1 27 = .ok (.aload_n 0, 1) := by decide +kernel
theorem d_Mo_mayCome_28 : decode Y_Mo_mayCome.2.1 28 = .ok (.getfield 95, 3) := by decide +kernel
theorem d_Mo_mayCome_31 : decode Y_Mo_mayCome.2.1 31 = .ok (.aload_n 0, 1) := by decide +kernel
theorem d_Mo_mayCome_32 : decode Y_Mo_mayCome.2.1 32 = .ok (.getfield 16, 3) := by decide +kernel
theorem d_Mo_mayCome_35 : decode Y_Mo_mayCome.2.1 35 = .ok (.iload_n 2, 1) := by decide +kernel
theorem d_Mo_mayCome_36 : decode Y_Mo_mayCome.2.1 36 = .ok (.iaload, 1) := by decide +kernel
theorem d_Mo_mayCome_37 : decode Y_Mo_mayCome.2.1 37 = .ok (.iadd, 1) := by decide +kernel
theorem d_Mo_mayCome_38 : decode Y_Mo_mayCome.2.1 38 = .ok (.aload_n 0, 1) := by decide +kernel
theorem d_Mo_mayCome_39 : decode Y_Mo_mayCome.2.1 39 = .ok (.getfield 33, 3) := by decide +kernel
theorem d_Mo_mayCome_42 : decode Y_Mo_mayCome.2.1 42 = .ok (.if_icmp .gt 7, 3) := by decide +kernel
theorem d_Mo_mayCome_45 : decode Y_Mo_mayCome.2.1 45 = .ok (.iconst 1, 1) := by decide +kernel
theorem d_Mo_mayCome_46 : decode Y_Mo_mayCome.2.1 46 = .ok (.goto 4, 3) := by decide +kernel
theorem d_Mo_mayCome_49 : decode Y_Mo_mayCome.2.1 49 = .ok (.iconst 0, 1) := by decide +kernel
theorem d_Mo_mayCome_50 : decode Y_Mo_mayCome.2.1 50 = .ok (.istore_n 3, 1) := by decide +kernel
theorem d_Mo_mayCome_51 : decode Y_Mo_mayCome.2.1 51 = .ok (.iconst 1, 1) := by decide +kernel
theorem d_Mo_mayCome_52 : decode Y_Mo_mayCome.2.1 52 = .ok (.istore 4, 2) := by decide +kernel
theorem d_Mo_mayCome_54 : decode Y_Mo_mayCome.2.1 54 = .ok (.iload 4, 2) := by decide +kernel
theorem d_Mo_mayCome_56 : decode Y_Mo_mayCome.2.1 56 = .ok (.aload_n 0, 1) := by decide +kernel
theorem d_Mo_mayCome_57 : decode Y_Mo_mayCome.2.1 57 = .ok (.getfield 13, 3) := by decide +kernel
theorem d_Mo_mayCome_60 : decode Y_Mo_mayCome.2.1 60 = .ok (.if_icmp .ge 47, 3) := by decide +kernel
theorem d_Mo_mayCome_63 : decode Y_Mo_mayCome.2.1 63 = .ok (.iload_n 3, 1) := by decide +kernel
theorem d_Mo_mayCome_64 : decode Y_Mo_mayCome.2.1 64 = .ok (.ifCond .eq 43, 3) := by decide +kernel
theorem d_Mo_mayCome_67 : decode Y_Mo_mayCome.2.1 67 = .ok (.aload_n 0, 1) := by decide +kernel
theorem d_Mo_mayCome_68 : decode Y_Mo_mayCome.2.1 68 = .ok (.getfield 26, 3) := by decide +kernel
theorem d_Mo_mayCome_71 : decode Y_Mo_mayCome.2.1 71 = .ok (.bipush 9, 2) := by decide +kernel
theorem d_Mo_mayCome_73 : decode Y_Mo_mayCome.2.1 73 = .ok (.iload 4, 2) := by decide +kernel
theorem d_Mo_mayCome_75 : decode Y_Mo_mayCome.2.1 75 = .ok (.imul, 1) := by decide +kernel
theorem d_Mo_mayCome_76 : decode Y_Mo_mayCome.2.1 76 = .ok (.iload_n 2, 1) := by decide +kernel
theorem d_Mo_mayCome_77 : decode Y_Mo_mayCome.2.1 77 = .ok (.iadd, 1) := by decide +kernel
theorem d_Mo_mayCome_78 : decode Y_Mo_mayCome.2.1 78 = .ok (.baload, 1) := by decide +kernel
theorem d_Mo_mayCome_79 : decode Y_Mo_mayCome.2.1 79 = .ok (.ifCond .eq 16, 3) := by decide +kernel
theorem d_Mo_mayCome_82 : decode Y_Mo_mayCome.2.1 82 = .ok (.aload_n 0, 1) := by decide +kernel
theorem d_Mo_mayCome_83 : decode Y_Mo_mayCome.2.1 83 = .ok (.getfield 98, 3) := by decide +kernel
theorem d_Mo_mayCome_86 : decode Y_Mo_mayCome.2.1 86 = .ok (.iload 4, 2) := by decide +kernel
theorem d_Mo_mayCome_88 : decode Y_Mo_mayCome.2.1 88 = .ok (.ishr, 1) := by decide +kernel
theorem d_Mo_mayCome_89 : decode Y_Mo_mayCome.2.1 89 = .ok (.iconst 1, 1) := by decide +kernel
theorem d_Mo_mayCome_90 : decode Y_Mo_mayCome.2.1 90 = .ok (.iand, 1) := by decide +kernel
theorem d_Mo_mayCome_91 : decode Y_Mo_mayCome.2.1 91 = .ok (.iconst 1, 1) := by decide +kernel
theorem d_Mo_mayCome_92 : decode Y_Mo_mayCome.2.1 92 = .ok (.if_icmp .ne 7, 3) := by decide +kernel
theorem d_Mo_mayCome_95 : decode Y_Mo_mayCome.2.1 95 = .ok (.iconst 1, 1) := by decide +kernel
theorem d_Mo_mayCome_96 : decode Y_Mo_mayCome.2.1 96 = .ok (.goto 4, 3) := by decide +kernel
theorem d_Mo_mayCome_99 : decode Y_Mo_mayCome.2.1 99 = .ok (.iconst 0, 1) := by decide +kernel
theorem d_Mo_mayCome_100 : decode Y_Mo_mayCome.2.1 100 = .ok (.istore_n 3, 1) := by decide +kernel
theorem d_Mo_mayCome_101 : decode Y_Mo_mayCome.2.1 101 = .ok (.iinc 4 1, 3) := by decide +kernel
theorem d_Mo_mayCome_104 : decode Y_Mo_mayCome.2.1 104 = .ok (.goto (-50), 3) := by decide +kernel
theorem d_Mo_mayCome_107 : decode Y_Mo_mayCome.2.1 107 = .ok (.iload_n 3, 1) := by decide +kernel
theorem d_Mo_mayCome_108 : decode Y_Mo_mayCome.2.1 108 = .ok (.ireturn, 1) := by decide +kernel
theorem d_Mo_write_0 : decode Y_Mo_write.2.1 0 = .ok (.aload_n 0, 1) := by decide +kernel
theorem d_Mo_write_1 : decode Y_Mo_write.2.1 1 = .ok (.getfield 54, 3) := by decide +kernel
theorem d_Mo_write_4 : decode Y_Mo_write.2.1 4 = .ok (.aload_n 0, 1) := by decide +kernel
theorem d_Mo_write_5 : decode Y_Mo_write.2.1 5 = .ok (.getfield 115, 3) := by decide +kernel
theorem d_Mo_write_8 : decode Y_Mo_write.2.1 8 = .ok (.iload_n 1, 1) := by decide +kernel
theorem d_Mo_write_9 : decode Y_Mo_write.2.1 9 = .ok (.iastore, 1) := by decide +kernel
theorem d_Mo_write_10 : decode Y_Mo_write.2.1 10 = .ok (.aload_n 0, 1) := by decide +kernel
theorem d_Mo_write_11 : decode Y_Mo_write.2.1 11 = .ok (.dup, 1) := by decide +kernel
theorem d_Mo_write_12 : decode Y_Mo_write.2.1 12 = .ok (.getfield 115, 3) := by decide +kernel
theorem d_Mo_write_15 : decode Y_Mo_write.2.1 15 = .ok (.iconst 1, 1) := by decide +kernel
theorem d_Mo_write_16 : decode Y_Mo_write.2.1 16 = .ok (.iadd, 1) := by decide +kernel
theorem d_Mo_write_17 : decode Y_Mo_write.2.1 17 = .ok (.putfield 115, 3) := by decide +kernel
theorem d_Mo_write_20 : decode Y_Mo_write.2.1 20 = .ok (.return_, 1) := by decide +kernel
theorem d_Mo_atNode_0 : decode Y_Mo_atNode.2.1 0 = .ok (.iload 4, 2) := by decide +kernel
theorem d_Mo_atNode_2 : decode Y_Mo_atNode.2.1 2 = .ok (.aload_n 0, 1) := by decide +kernel
theorem d_Mo_atNode_3 : decode Y_Mo_atNode.2.1 3 = .ok (.getfield 20, 3) := by decide +kernel
theorem d_Mo_atNode_6 : decode Y_Mo_atNode.2.1 6 = .ok (.bipush 9, 2) := by decide +kernel
theorem d_Mo_atNode_8 : decode Y_Mo_atNode.2.1 8 = .ok (.iload_n 1, 1) := by decide +kernel
theorem d_Mo_atNode_9 : decode Y_Mo_atNode.2.1 9 = .ok (.imul, 1) := by decide +kernel
theorem d_Mo_atNode_10 : decode Y_Mo_atNode.2.1 10 = .ok (.iload_n 2, 1) := by decide +kernel
theorem d_Mo_atNode_11 : decode Y_Mo_atNode.2.1 11 = .ok (.iadd, 1) := by decide +kernel
theorem d_Mo_atNode_12 : decode Y_Mo_atNode.2.1 12 = .ok (.iaload, 1) := by decide +kernel
theorem d_Mo_atNode_13 : decode Y_Mo_atNode.2.1 13 = .ok (.iadd, 1) := by decide +kernel
theorem d_Mo_atNode_14 : decode Y_Mo_atNode.2.1 14 = .ok (.istore 5, 2) := by decide +kernel
theorem d_Mo_atNode_16 : decode Y_Mo_atNode.2.1 16 = .ok (.aload_n 0, 1) := by decide +kernel
theorem d_Mo_atNode_17 : decode Y_Mo_atNode.2.1 17 = .ok (.getfield 98, 3) := by decide +kernel
theorem d_Mo_atNode_20 : decode Y_Mo_atNode.2.1 20 = .ok (.istore 6, 2) := by decide +kernel
theorem d_Mo_atNode_22 : decode Y_Mo_atNode.2.1 22 = .ok (.aload_n 0, 1) := by decide +kernel
theorem d_Mo_atNode_23 : decode Y_Mo_atNode.2.1 23 = .ok (.getfield 95, 3) := by decide +kernel
theorem d_Mo_atNode_26 : decode Y_Mo_atNode.2.1 26 = .ok (.istore 7, 2) := by decide +kernel
theorem d_Mo_atNode_28 : decode Y_Mo_atNode.2.1 28 = .ok (.aload_n 0, 1) := by decide +kernel
theorem d_Mo_atNode_29 : decode Y_Mo_atNode.2.1 29 = .ok (.getfield 115, 3) := by decide +kernel
theorem d_Mo_atNode_32 : decode Y_Mo_atNode.2.1 32 = .ok (.istore 8, 2) := by decide +kernel
theorem d_Mo_atNode_34 : decode Y_Mo_atNode.2.1 34 = .ok (.aload_n 0, 1) := by decide +kernel
theorem d_Mo_atNode_35 : decode Y_Mo_atNode.2.1 35 = .ok (.iload_n 2, 1) := by decide +kernel
theorem d_Mo_atNode_36 : decode Y_Mo_atNode.2.1 36 = .ok (.invokevirtual 128, 3) := by decide +kernel
theorem d_Mo_atNode_39 : decode Y_Mo_atNode.2.1 39 = .ok (.aload_n 0, 1) := by decide +kernel
theorem d_Mo_atNode_40 : decode Y_Mo_atNode.2.1 40 = .ok (.aload_n 0, 1) := by decide +kernel
theorem d_Mo_atNode_41 : decode Y_Mo_atNode.2.1 41 = .ok (.getfield 92, 3) := by decide +kernel
theorem d_Mo_atNode_44 : decode Y_Mo_atNode.2.1 44 = .ok (.iconst 1, 1) := by decide +kernel
theorem d_Mo_atNode_45 : decode Y_Mo_atNode.2.1 45 = .ok (.iload_n 2, 1) := by decide +kernel
theorem d_Mo_atNode_46 : decode Y_Mo_atNode.2.1 46 = .ok (.ishl, 1) := by decide +kernel
theorem d_Mo_atNode_47 : decode Y_Mo_atNode.2.1 47 = .ok (.ior, 1) := by decide +kernel
theorem d_Mo_atNode_48 : decode Y_Mo_atNode.2.1 48 = .ok (.putfield 92, 3) := by decide +kernel
theorem d_Mo_atNode_51 : decode Y_Mo_atNode.2.1 51 = .ok (.aload_n 0, 1) := by decide +kernel
theorem d_Mo_atNode_52 : decode Y_Mo_atNode.2.1 52 = .ok (.iload 6, 2) := by decide +kernel
theorem d_Mo_atNode_54 : decode Y_Mo_atNode.2.1 54 = .ok (.iconst 1, 1) := by decide +kernel
theorem d_Mo_atNode_55 : decode Y_Mo_atNode.2.1 55 = .ok (.iload_n 2, 1) := by decide +kernel
theorem d_Mo_atNode_56 : decode Y_Mo_atNode.2.1 56 = .ok (.ishl, 1) := by decide +kernel
theorem d_Mo_atNode_57 : decode Y_Mo_atNode.2.1 57 = .ok (.ior, 1) := by decide +kernel
theorem d_Mo_atNode_58 : decode Y_Mo_atNode.2.1 58 = .ok (.putfield 98, 3) := by decide +kernel
theorem d_Mo_atNode_61 : decode Y_Mo_atNode.2.1 61 = .ok (.aload_n 0, 1) := by decide +kernel
theorem d_Mo_atNode_62 : decode Y_Mo_atNode.2.1 62 = .ok (.iload 7, 2) := by decide +kernel
theorem d_Mo_atNode_64 : decode Y_Mo_atNode.2.1 64 = .ok (.aload_n 0, 1) := by decide +kernel
theorem d_Mo_atNode_65 : decode Y_Mo_atNode.2.1 65 = .ok (.getfield 16, 3) := by decide +kernel
theorem d_Mo_atNode_68 : decode Y_Mo_atNode.2.1 68 = .ok (.iload_n 2, 1) := by decide +kernel
theorem d_Mo_atNode_69 : decode Y_Mo_atNode.2.1 69 = .ok (.iaload, 1) := by decide +kernel
theorem d_Mo_atNode_70 : decode Y_Mo_atNode.2.1 70 = .ok (.iadd, 1) := by decide +kernel
theorem d_Mo_atNode_71 : decode Y_Mo_atNode.2.1 71 = .ok (.putfield 95, 3) := by decide +kernel
theorem d_Mo_atNode_74 : decode Y_Mo_atNode.2.1 74 = .ok (.ldc 101, 2) := by decide +kernel
theorem d_Mo_atNode_76 : decode Y_Mo_atNode.2.1 76 = .ok (.istore 9, 2) := by decide +kernel
theorem d_Mo_atNode_78 : decode Y_Mo_atNode.2.1 78 = .ok (.iconst 1, 1) := by decide +kernel
theorem d_Mo_atNode_79 : decode Y_Mo_atNode.2.1 79 = .ok (.istore 10, 2) := by decide +kernel
theorem d_Mo_atNode_81 : decode Y_Mo_atNode.2.1 81 = .ok (.iload 10, 2) := by decide +kernel
theorem d_Mo_atNode_83 : decode Y_Mo_atNode.2.1 83 = .ok (.aload_n 0, 1) := by decide +kernel
theorem d_Mo_atNode_84 : decode Y_Mo_atNode.2.1 84 = .ok (.getfield 13, 3) := by decide +kernel
theorem d_Mo_atNode_87 : decode Y_Mo_atNode.2.1 87 = .ok (.if_icmp .ge 47, 3) := by decide +kernel
theorem d_Mo_atNode_90 : decode Y_Mo_atNode.2.1 90 = .ok (.aload_n 0, 1) := by decide +kernel
theorem d_Mo_atNode_91 : decode Y_Mo_atNode.2.1 91 = .ok (.iload_n 2, 1) := by decide +kernel
theorem d_Mo_atNode_92 : decode Y_Mo_atNode.2.1 92 = .ok (.iload 10, 2) := by decide +kernel
theorem d_Mo_atNode_94 : decode Y_Mo_atNode.2.1 94 = .ok (.invokevirtual 125, 3) := by decide +kernel
theorem d_Mo_atNode_97 : decode Y_Mo_atNode.2.1 97 = .ok (.ifCond .eq 31, 3) := by decide +kernel
theorem d_Mo_atNode_100 : decode Y_Mo_atNode.2.1 100 = .ok (.aload_n 0, 1) := by decide +kernel
theorem d_Mo_atNode_101 : decode Y_Mo_atNode.2.1 101 = .ok (.iload_n 2, 1) := by decide +kernel
theorem d_Mo_atNode_102 : decode Y_Mo_atNode.2.1 102 = .ok (.iload 10, 2) := by decide +kernel
theorem d_Mo_atNode_104 : decode Y_Mo_atNode.2.1 104 = .ok (.iload_n 3, 1) := by decide +kernel
theorem d_Mo_atNode_105 : decode Y_Mo_atNode.2.1 105 = .ok (.iload 5, 2) := by decide +kernel
theorem d_Mo_atNode_107 : decode Y_Mo_atNode.2.1 107 = .ok (.invokestatic 132, 3) := by decide +kernel
theorem d_Mo_atNode_110 : decode Y_Mo_atNode.2.1 110 = .ok (.istore 11, 2) := by decide +kernel
theorem d_Mo_atNode_112 : decode Y_Mo_atNode.2.1 112 = .ok (.iload 11, 2) := by decide +kernel
theorem d_Mo_atNode_114 : decode Y_Mo_atNode.2.1 114 = .ok (.iload 9, 2) := by decide +kernel
theorem d_Mo_atNode_116 : decode Y_Mo_atNode.2.1 116 = .ok (.if_icmp .ge 8, 3) := by decide +kernel
theorem d_Mo_atNode_119 : decode Y_Mo_atNode.2.1 119 = .ok (.iload 11, 2) := by decide +kernel
theorem d_Mo_atNode_121 : decode Y_Mo_atNode.2.1 121 = .ok (.goto 5, 3) := by decide +kernel
theorem d_Mo_atNode_124 : decode Y_Mo_atNode.2.1 124 = .ok (.iload 9, 2) := by decide +kernel
theorem d_Mo_atNode_126 : decode Y_Mo_atNode.2.1 126 = .ok (.istore 9, 2) := by decide +kernel
theorem d_Mo_atNode_128 : decode Y_Mo_atNode.2.1 128 = .ok (.iinc 10 1, 3) := by decide +kernel
theorem d_Mo_atNode_131 : decode Y_Mo_atNode.2.1 131 = .ok (.goto (-50), 3) := by decide +kernel
theorem d_Mo_atNode_134 : decode Y_Mo_atNode.2.1 134 = .ok (.aload_n 0, 1) := by decide +kernel
theorem d_Mo_atNode_135 : decode Y_Mo_atNode.2.1 135 = .ok (.getfield 98, 3) := by decide +kernel
theorem d_Mo_atNode_138 : decode Y_Mo_atNode.2.1 138 = .ok (.istore 10, 2) := by decide +kernel
theorem d_Mo_atNode_140 : decode Y_Mo_atNode.2.1 140 = .ok (.aload_n 0, 1) := by decide +kernel
theorem d_Mo_atNode_141 : decode Y_Mo_atNode.2.1 141 = .ok (.getfield 95, 3) := by decide +kernel
theorem d_Mo_atNode_144 : decode Y_Mo_atNode.2.1 144 = .ok (.istore 11, 2) := by decide +kernel
theorem d_Mo_atNode_146 : decode Y_Mo_atNode.2.1 146 = .ok (.aload_n 0, 1) := by decide +kernel
theorem d_Mo_atNode_147 : decode Y_Mo_atNode.2.1 147 = .ok (.getfield 89, 3) := by decide +kernel
theorem d_Mo_atNode_150 : decode Y_Mo_atNode.2.1 150 = .ok (.iconst 1, 1) := by decide +kernel
theorem d_Mo_atNode_151 : decode Y_Mo_atNode.2.1 151 = .ok (.if_icmp .ne 31, 3) := by decide +kernel
theorem d_Mo_atNode_154 : decode Y_Mo_atNode.2.1 154 = .ok (.aload_n 0, 1) := by decide +kernel
theorem d_Mo_atNode_155 : decode Y_Mo_atNode.2.1 155 = .ok (.iload_n 3, 1) := by decide +kernel
theorem d_Mo_atNode_156 : decode Y_Mo_atNode.2.1 156 = .ok (.iload 5, 2) := by decide +kernel
theorem d_Mo_atNode_158 : decode Y_Mo_atNode.2.1 158 = .ok (.invokestatic 136, 3) := by decide +kernel
theorem d_Mo_atNode_161 : decode Y_Mo_atNode.2.1 161 = .ok (.istore 12, 2) := by decide +kernel
theorem d_Mo_atNode_163 : decode Y_Mo_atNode.2.1 163 = .ok (.iload 12, 2) := by decide +kernel
theorem d_Mo_atNode_165 : decode Y_Mo_atNode.2.1 165 = .ok (.iload 9, 2) := by decide +kernel
theorem d_Mo_atNode_167 : decode Y_Mo_atNode.2.1 167 = .ok (.if_icmp .ge 8, 3) := by decide +kernel
theorem d_Mo_atNode_170 : decode Y_Mo_atNode.2.1 170 = .ok (.iload 12, 2) := by decide +kernel
theorem d_Mo_atNode_172 : decode Y_Mo_atNode.2.1 172 = .ok (.goto 5, 3) := by decide +kernel
theorem d_Mo_atNode_175 : decode Y_Mo_atNode.2.1 175 = .ok (.iload 9, 2) := by decide +kernel
theorem d_Mo_atNode_177 : decode Y_Mo_atNode.2.1 177 = .ok (.istore 9, 2) := by decide +kernel
theorem d_Mo_atNode_179 : decode Y_Mo_atNode.2.1 179 = .ok (.goto 60, 3) := by decide +kernel
theorem d_Mo_atNode_182 : decode Y_Mo_atNode.2.1 182 = .ok (.aload_n 0, 1) := by decide +kernel
theorem d_Mo_atNode_183 : decode Y_Mo_atNode.2.1 183 = .ok (.getfield 20, 3) := by decide +kernel
theorem d_Mo_atNode_186 : decode Y_Mo_atNode.2.1 186 = .ok (.bipush 9, 2) := by decide +kernel
theorem d_Mo_atNode_188 : decode Y_Mo_atNode.2.1 188 = .ok (.iload_n 2, 1) := by decide +kernel
theorem d_Mo_atNode_189 : decode Y_Mo_atNode.2.1 189 = .ok (.imul, 1) := by decide +kernel
theorem d_Mo_atNode_190 : decode Y_Mo_atNode.2.1 190 = .ok (.iaload, 1) := by decide +kernel
theorem d_Mo_atNode_191 : decode Y_Mo_atNode.2.1 191 = .ok (.ldc 69, 2) := by decide +kernel
theorem d_Mo_atNode_193 : decode Y_Mo_atNode.2.1 193 = .ok (.if_icmp .eq 46, 3) := by decide +kernel
theorem d_Mo_atNode_196 : decode Y_Mo_atNode.2.1 196 = .ok (.aload_n 0, 1) := by decide +kernel
theorem d_Mo_atNode_197 : decode Y_Mo_atNode.2.1 197 = .ok (.iload_n 3, 1) := by decide +kernel
theorem d_Mo_atNode_198 : decode Y_Mo_atNode.2.1 198 = .ok (.iload 5, 2) := by decide +kernel
theorem d_Mo_atNode_200 : decode Y_Mo_atNode.2.1 200 = .ok (.aload_n 0, 1) := by decide +kernel
theorem d_Mo_atNode_201 : decode Y_Mo_atNode.2.1 201 = .ok (.getfield 20, 3) := by decide +kernel
theorem d_Mo_atNode_204 : decode Y_Mo_atNode.2.1 204 = .ok (.bipush 9, 2) := by decide +kernel
theorem d_Mo_atNode_206 : decode Y_Mo_atNode.2.1 206 = .ok (.iload_n 2, 1) := by decide +kernel
theorem d_Mo_atNode_207 : decode Y_Mo_atNode.2.1 207 = .ok (.imul, 1) := by decide +kernel
theorem d_Mo_atNode_208 : decode Y_Mo_atNode.2.1 208 = .ok (.iaload, 1) := by decide +kernel
theorem d_Mo_atNode_209 : decode Y_Mo_atNode.2.1 209 = .ok (.iadd, 1) := by decide +kernel
theorem d_Mo_atNode_210 : decode Y_Mo_atNode.2.1 210 = .ok (.invokestatic 136, 3) := by decide +kernel
theorem d_Mo_atNode_213 : decode Y_Mo_atNode.2.1 213 = .ok (.istore 12, 2) := by decide +kernel
end
section
theorem d_Mo_atNode_215 : decode Y_Mo_atNode.2.1 215 = .ok (.aload_n 0, 1) := by decide +kernel
theorem d_Mo_atNode_216 : decode Y_Mo_atNode.2.1 216 = .ok (.iload_n 2, 1) := by decide +kernel
theorem d_Mo_atNode_217 : decode Y_Mo_atNode.2.1 217 = .ok (.iconst 0, 1) := by decide +kernel
theorem d_Mo_atNode_218 : decode Y_Mo_atNode.2.1 218 = .ok (.iload 12, 2) := by decide +kernel
theorem d_Mo_atNode_220 : decode Y_Mo_atNode.2.1 220 = .ok (.invokevirtual 140, 3) := by decide +kernel
theorem d_Mo_atNode_223 : decode Y_Mo_atNode.2.1 223 = .ok (.iload 12, 2) := by decide +kernel
theorem d_Mo_atNode_225 : decode Y_Mo_atNode.2.1 225 = .ok (.iload 9, 2) := by decide +kernel
theorem d_Mo_atNode_227 : decode Y_Mo_atNode.2.1 227 = .ok (.if_icmp .ge 8, 3) := by decide +kernel
theorem d_Mo_atNode_230 : decode Y_Mo_atNode.2.1 230 = .ok (.iload 12, 2) := by decide +kernel
theorem d_Mo_atNode_232 : decode Y_Mo_atNode.2.1 232 = .ok (.goto 5, 3) := by decide +kernel
theorem d_Mo_atNode_235 : decode Y_Mo_atNode.2.1 235 = .ok (.iload 9, 2) := by decide +kernel
theorem d_Mo_atNode_237 : decode Y_Mo_atNode.2.1 237 = .ok (.istore 9, 2) := by decide +kernel
theorem d_Mo_atNode_239 : decode Y_Mo_atNode.2.1 239 = .ok (.aload_n 0, 1) := by decide +kernel
theorem d_Mo_atNode_240 : decode Y_Mo_atNode.2.1 240 = .ok (.iload 10, 2) := by decide +kernel
theorem d_Mo_atNode_242 : decode Y_Mo_atNode.2.1 242 = .ok (.putfield 98, 3) := by decide +kernel
theorem d_Mo_atNode_245 : decode Y_Mo_atNode.2.1 245 = .ok (.aload_n 0, 1) := by decide +kernel
theorem d_Mo_atNode_246 : decode Y_Mo_atNode.2.1 246 = .ok (.iload 11, 2) := by decide +kernel
theorem d_Mo_atNode_248 : decode Y_Mo_atNode.2.1 248 = .ok (.putfield 95, 3) := by decide +kernel
theorem d_Mo_atNode_251 : decode Y_Mo_atNode.2.1 251 = .ok (.aload_n 0, 1) := by decide +kernel
theorem d_Mo_atNode_252 : decode Y_Mo_atNode.2.1 252 = .ok (.iload_n 1, 1) := by decide +kernel
theorem d_Mo_atNode_253 : decode Y_Mo_atNode.2.1 253 = .ok (.iload_n 2, 1) := by decide +kernel
theorem d_Mo_atNode_254 : decode Y_Mo_atNode.2.1 254 = .ok (.iload 9, 2) := by decide +kernel
theorem d_Mo_atNode_256 : decode Y_Mo_atNode.2.1 256 = .ok (.invokevirtual 140, 3) := by decide +kernel
theorem d_Mo_atNode_259 : decode Y_Mo_atNode.2.1 259 = .ok (.aload_n 0, 1) := by decide +kernel
theorem d_Mo_atNode_260 : decode Y_Mo_atNode.2.1 260 = .ok (.aload_n 0, 1) := by decide +kernel
theorem d_Mo_atNode_261 : decode Y_Mo_atNode.2.1 261 = .ok (.getfield 92, 3) := by decide +kernel
theorem d_Mo_atNode_264 : decode Y_Mo_atNode.2.1 264 = .ok (.iconst 1, 1) := by decide +kernel
theorem d_Mo_atNode_265 : decode Y_Mo_atNode.2.1 265 = .ok (.iload_n 2, 1) := by decide +kernel
theorem d_Mo_atNode_266 : decode Y_Mo_atNode.2.1 266 = .ok (.ishl, 1) := by decide +kernel
theorem d_Mo_atNode_267 : decode Y_Mo_atNode.2.1 267 = .ok (.iconst (-1), 1) := by decide +kernel
theorem d_Mo_atNode_268 : decode Y_Mo_atNode.2.1 268 = .ok (.ixor, 1) := by decide +kernel
theorem d_Mo_atNode_269 : decode Y_Mo_atNode.2.1 269 = .ok (.iand, 1) := by decide +kernel
theorem d_Mo_atNode_270 : decode Y_Mo_atNode.2.1 270 = .ok (.putfield 92, 3) := by decide +kernel
theorem d_Mo_atNode_273 : decode Y_Mo_atNode.2.1 273 = .ok (.aload_n 0, 1) := by decide +kernel
theorem d_Mo_atNode_274 : decode Y_Mo_atNode.2.1 274 = .ok (.iload 6, 2) := by decide +kernel
theorem d_Mo_atNode_276 : decode Y_Mo_atNode.2.1 276 = .ok (.putfield 98, 3) := by decide +kernel
theorem d_Mo_atNode_279 : decode Y_Mo_atNode.2.1 279 = .ok (.aload_n 0, 1) := by decide +kernel
theorem d_Mo_atNode_280 : decode Y_Mo_atNode.2.1 280 = .ok (.iload 7, 2) := by decide +kernel
theorem d_Mo_atNode_282 : decode Y_Mo_atNode.2.1 282 = .ok (.putfield 95, 3) := by decide +kernel
theorem d_Mo_atNode_285 : decode Y_Mo_atNode.2.1 285 = .ok (.aload_n 0, 1) := by decide +kernel
theorem d_Mo_atNode_286 : decode Y_Mo_atNode.2.1 286 = .ok (.iload 8, 2) := by decide +kernel
theorem d_Mo_atNode_288 : decode Y_Mo_atNode.2.1 288 = .ok (.putfield 115, 3) := by decide +kernel
theorem d_Mo_atNode_291 : decode Y_Mo_atNode.2.1 291 = .ok (.iload 9, 2) := by decide +kernel
theorem d_Mo_atNode_293 : decode Y_Mo_atNode.2.1 293 = .ok (.ireturn, 1) := by decide +kernel
theorem d_Mo_note_0 : decode Y_Mo_note.2.1 0 = .ok (.aload_n 0, 1) := by decide +kernel
theorem d_Mo_note_1 : decode Y_Mo_note.2.1 1 = .ok (.getfield 45, 3) := by decide +kernel
theorem d_Mo_note_4 : decode Y_Mo_note.2.1 4 = .ok (.bipush 9, 2) := by decide +kernel
theorem d_Mo_note_6 : decode Y_Mo_note.2.1 6 = .ok (.iload_n 1, 1) := by decide +kernel
theorem d_Mo_note_7 : decode Y_Mo_note.2.1 7 = .ok (.imul, 1) := by decide +kernel
theorem d_Mo_note_8 : decode Y_Mo_note.2.1 8 = .ok (.iload_n 2, 1) := by decide +kernel
theorem d_Mo_note_9 : decode Y_Mo_note.2.1 9 = .ok (.iadd, 1) := by decide +kernel
theorem d_Mo_note_10 : decode Y_Mo_note.2.1 10 = .ok (.iload_n 3, 1) := by decide +kernel
theorem d_Mo_note_11 : decode Y_Mo_note.2.1 11 = .ok (.aload_n 0, 1) := by decide +kernel
theorem d_Mo_note_12 : decode Y_Mo_note.2.1 12 = .ok (.getfield 45, 3) := by decide +kernel
theorem d_Mo_note_15 : decode Y_Mo_note.2.1 15 = .ok (.bipush 9, 2) := by decide +kernel
theorem d_Mo_note_17 : decode Y_Mo_note.2.1 17 = .ok (.iload_n 1, 1) := by decide +kernel
theorem d_Mo_note_18 : decode Y_Mo_note.2.1 18 = .ok (.imul, 1) := by decide +kernel
theorem d_Mo_note_19 : decode Y_Mo_note.2.1 19 = .ok (.iload_n 2, 1) := by decide +kernel
theorem d_Mo_note_20 : decode Y_Mo_note.2.1 20 = .ok (.iadd, 1) := by decide +kernel
theorem d_Mo_note_21 : decode Y_Mo_note.2.1 21 = .ok (.iaload, 1) := by decide +kernel
theorem d_Mo_note_22 : decode Y_Mo_note.2.1 22 = .ok (.if_icmp .ge 7, 3) := by decide +kernel
theorem d_Mo_note_25 : decode Y_Mo_note.2.1 25 = .ok (.iload_n 3, 1) := by decide +kernel
theorem d_Mo_note_26 : decode Y_Mo_note.2.1 26 = .ok (.goto 14, 3) := by decide +kernel
theorem d_Mo_note_29 : decode Y_Mo_note.2.1 29 = .ok (.aload_n 0, 1) := by decide +kernel
theorem d_Mo_note_30 : decode Y_Mo_note.2.1 30 = .ok (.getfield 45, 3) := by decide +kernel
theorem d_Mo_note_33 : decode Y_Mo_note.2.1 33 = .ok (.bipush 9, 2) := by decide +kernel
theorem d_Mo_note_35 : decode Y_Mo_note.2.1 35 = .ok (.iload_n 1, 1) := by decide +kernel
theorem d_Mo_note_36 : decode Y_Mo_note.2.1 36 = .ok (.imul, 1) := by decide +kernel
theorem d_Mo_note_37 : decode Y_Mo_note.2.1 37 = .ok (.iload_n 2, 1) := by decide +kernel
theorem d_Mo_note_38 : decode Y_Mo_note.2.1 38 = .ok (.iadd, 1) := by decide +kernel
theorem d_Mo_note_39 : decode Y_Mo_note.2.1 39 = .ok (.iaload, 1) := by decide +kernel
theorem d_Mo_note_40 : decode Y_Mo_note.2.1 40 = .ok (.iastore, 1) := by decide +kernel
theorem d_Mo_note_41 : decode Y_Mo_note.2.1 41 = .ok (.return_, 1) := by decide +kernel
theorem d_Mo_many_0 : decode Y_Mo_many.2.1 0 = .ok (.aload_n 0, 1) := by decide +kernel
theorem d_Mo_many_1 : decode Y_Mo_many.2.1 1 = .ok (.iconst 0, 1) := by decide +kernel
theorem d_Mo_many_2 : decode Y_Mo_many.2.1 2 = .ok (.putfield 1, 3) := by decide +kernel
theorem d_Mo_many_5 : decode Y_Mo_many.2.1 5 = .ok (.aload_n 0, 1) := by decide +kernel
theorem d_Mo_many_6 : decode Y_Mo_many.2.1 6 = .ok (.invokevirtual 144, 3) := by decide +kernel
theorem d_Mo_many_9 : decode Y_Mo_many.2.1 9 = .ok (.aload_n 0, 1) := by decide +kernel
theorem d_Mo_many_10 : decode Y_Mo_many.2.1 10 = .ok (.getfield 105, 3) := by decide +kernel
theorem d_Mo_many_13 : decode Y_Mo_many.2.1 13 = .ok (.ireturn, 1) := by decide +kernel
theorem d_Mo_first_0 : decode Y_Mo_first.2.1 0 = .ok (.aload_n 0, 1) := by decide +kernel
theorem d_Mo_first_1 : decode Y_Mo_first.2.1 1 = .ok (.iconst 0, 1) := by decide +kernel
theorem d_Mo_first_2 : decode Y_Mo_first.2.1 2 = .ok (.putfield 1, 3) := by decide +kernel
theorem d_Mo_first_5 : decode Y_Mo_first.2.1 5 = .ok (.aload_n 0, 1) := by decide +kernel
theorem d_Mo_first_6 : decode Y_Mo_first.2.1 6 = .ok (.invokevirtual 144, 3) := by decide +kernel
theorem d_Mo_first_9 : decode Y_Mo_first.2.1 9 = .ok (.aload_n 0, 1) := by decide +kernel
theorem d_Mo_first_10 : decode Y_Mo_first.2.1 10 = .ok (.getfield 105, 3) := by decide +kernel
theorem d_Mo_first_13 : decode Y_Mo_first.2.1 13 = .ok (.ifCond .ne 6, 3) := by decide +kernel
theorem d_Mo_first_16 : decode Y_Mo_first.2.1 16 = .ok (.ldc 88, 2) := by decide +kernel
theorem d_Mo_first_18 : decode Y_Mo_first.2.1 18 = .ok (.ireturn, 1) := by decide +kernel
theorem d_Mo_first_19 : decode Y_Mo_first.2.1 19 = .ok (.iload_n 1, 1) := by decide +kernel
theorem d_Mo_first_20 : decode Y_Mo_first.2.1 20 = .ok (.iconst (-1), 1) := by decide +kernel
theorem d_Mo_first_21 : decode Y_Mo_first.2.1 21 = .ok (.aload_n 0, 1) := by decide +kernel
theorem d_Mo_first_22 : decode Y_Mo_first.2.1 22 = .ok (.getfield 108, 3) := by decide +kernel
theorem d_Mo_first_25 : decode Y_Mo_first.2.1 25 = .ok (.iconst 1, 1) := by decide +kernel
theorem d_Mo_first_26 : decode Y_Mo_first.2.1 26 = .ok (.isub, 1) := by decide +kernel
theorem d_Mo_first_27 : decode Y_Mo_first.2.1 27 = .ok (.invokestatic 70, 3) := by decide +kernel
theorem d_Mo_first_30 : decode Y_Mo_first.2.1 30 = .ok (.ifCond .ne 8, 3) := by decide +kernel
theorem d_Mo_first_33 : decode Y_Mo_first.2.1 33 = .ok (.ldc 78, 2) := by decide +kernel
theorem d_Mo_first_35 : decode Y_Mo_first.2.1 35 = .ok (.goto 20, 3) := by decide +kernel
theorem d_Mo_first_38 : decode Y_Mo_first.2.1 38 = .ok (.iload_n 1, 1) := by decide +kernel
theorem d_Mo_first_39 : decode Y_Mo_first.2.1 39 = .ok (.ifCond .ge 10, 3) := by decide +kernel
theorem d_Mo_first_42 : decode Y_Mo_first.2.1 42 = .ok (.aload_n 0, 1) := by decide +kernel
theorem d_Mo_first_43 : decode Y_Mo_first.2.1 43 = .ok (.getfield 108, 3) := by decide +kernel
theorem d_Mo_first_46 : decode Y_Mo_first.2.1 46 = .ok (.goto 9, 3) := by decide +kernel
theorem d_Mo_first_49 : decode Y_Mo_first.2.1 49 = .ok (.aload_n 0, 1) := by decide +kernel
theorem d_Mo_first_50 : decode Y_Mo_first.2.1 50 = .ok (.getfield 51, 3) := by decide +kernel
theorem d_Mo_first_53 : decode Y_Mo_first.2.1 53 = .ok (.iload_n 1, 1) := by decide +kernel
theorem d_Mo_first_54 : decode Y_Mo_first.2.1 54 = .ok (.iaload, 1) := by decide +kernel
theorem d_Mo_first_55 : decode Y_Mo_first.2.1 55 = .ok (.ireturn, 1) := by decide +kernel
theorem d_Mo_with_0 : decode Y_Mo_with.2.1 0 = .ok (.aload_n 0, 1) := by decide +kernel
theorem d_Mo_with_1 : decode Y_Mo_with.2.1 1 = .ok (.iconst 0, 1) := by decide +kernel
theorem d_Mo_with_2 : decode Y_Mo_with.2.1 2 = .ok (.putfield 1, 3) := by decide +kernel
theorem d_Mo_with_5 : decode Y_Mo_with.2.1 5 = .ok (.aload_n 0, 1) := by decide +kernel
theorem d_Mo_with_6 : decode Y_Mo_with.2.1 6 = .ok (.iload_n 1, 1) := by decide +kernel
theorem d_Mo_with_7 : decode Y_Mo_with.2.1 7 = .ok (.iload_n 2, 1) := by decide +kernel
theorem d_Mo_with_8 : decode Y_Mo_with.2.1 8 = .ok (.invokevirtual 84, 3) := by decide +kernel
theorem d_Mo_with_11 : decode Y_Mo_with.2.1 11 = .ok (.ifCond .eq 6, 3) := by decide +kernel
theorem d_Mo_with_14 : decode Y_Mo_with.2.1 14 = .ok (.ldc 78, 2) := by decide +kernel
theorem d_Mo_with_16 : decode Y_Mo_with.2.1 16 = .ok (.ireturn, 1) := by decide +kernel
theorem d_Mo_with_17 : decode Y_Mo_with.2.1 17 = .ok (.aload_n 0, 1) := by decide +kernel
theorem d_Mo_with_18 : decode Y_Mo_with.2.1 18 = .ok (.invokevirtual 144, 3) := by decide +kernel
theorem d_Mo_with_21 : decode Y_Mo_with.2.1 21 = .ok (.aload_n 0, 1) := by decide +kernel
theorem d_Mo_with_22 : decode Y_Mo_with.2.1 22 = .ok (.getfield 45, 3) := by decide +kernel
theorem d_Mo_with_25 : decode Y_Mo_with.2.1 25 = .ok (.bipush 9, 2) := by decide +kernel
theorem d_Mo_with_27 : decode Y_Mo_with.2.1 27 = .ok (.iload_n 1, 1) := by decide +kernel
theorem d_Mo_with_28 : decode Y_Mo_with.2.1 28 = .ok (.imul, 1) := by decide +kernel
theorem d_Mo_with_29 : decode Y_Mo_with.2.1 29 = .ok (.iload_n 2, 1) := by decide +kernel
theorem d_Mo_with_30 : decode Y_Mo_with.2.1 30 = .ok (.iadd, 1) := by decide +kernel
theorem d_Mo_with_31 : decode Y_Mo_with.2.1 31 = .ok (.iaload, 1) := by decide +kernel
theorem d_Mo_with_32 : decode Y_Mo_with.2.1 32 = .ok (.invokestatic 147, 3) := by decide +kernel
theorem d_Mo_with_35 : decode Y_Mo_with.2.1 35 = .ok (.ireturn, 1) := by decide +kernel
theorem d_Mo_told_0 : decode Y_Mo_told.2.1 0 = .ok (.iload_n 0, 1) := by decide +kernel
theorem d_Mo_told_1 : decode Y_Mo_told.2.1 1 = .ok (.ldc 101, 2) := by decide +kernel
theorem d_Mo_told_3 : decode Y_Mo_told.2.1 3 = .ok (.if_icmp .ne 8, 3) := by decide +kernel
theorem d_Mo_told_6 : decode Y_Mo_told.2.1 6 = .ok (.ldc 88, 2) := by decide +kernel
theorem d_Mo_told_8 : decode Y_Mo_told.2.1 8 = .ok (.goto 4, 3) := by decide +kernel
theorem d_Mo_told_11 : decode Y_Mo_told.2.1 11 = .ok (.iload_n 0, 1) := by decide +kernel
theorem d_Mo_told_12 : decode Y_Mo_told.2.1 12 = .ok (.ireturn, 1) := by decide +kernel
theorem d_Mo_without_0 : decode Y_Mo_without.2.1 0 = .ok (.aload_n 0, 1) := by decide +kernel
theorem d_Mo_without_1 : decode Y_Mo_without.2.1 1 = .ok (.iconst 0, 1) := by decide +kernel
theorem d_Mo_without_2 : decode Y_Mo_without.2.1 2 = .ok (.putfield 1, 3) := by decide +kernel
theorem d_Mo_without_5 : decode Y_Mo_without.2.1 5 = .ok (.aload_n 0, 1) := by decide +kernel
theorem d_Mo_without_6 : decode Y_Mo_without.2.1 6 = .ok (.iload_n 1, 1) := by decide +kernel
theorem d_Mo_without_7 : decode Y_Mo_without.2.1 7 = .ok (.invokevirtual 74, 3) := by decide +kernel
theorem d_Mo_without_10 : decode Y_Mo_without.2.1 10 = .ok (.ifCond .ne 7, 3) := by decide +kernel
theorem d_Mo_without_13 : decode Y_Mo_without.2.1 13 = .ok (.iload_n 1, 1) := by decide +kernel
theorem d_Mo_without_14 : decode Y_Mo_without.2.1 14 = .ok (.ifCond .ne 6, 3) := by decide +kernel
theorem d_Mo_without_17 : decode Y_Mo_without.2.1 17 = .ok (.ldc 78, 2) := by decide +kernel
theorem d_Mo_without_19 : decode Y_Mo_without.2.1 19 = .ok (.ireturn, 1) := by decide +kernel
theorem d_Mo_without_20 : decode Y_Mo_without.2.1 20 = .ok (.aload_n 0, 1) := by decide +kernel
theorem d_Mo_without_21 : decode Y_Mo_without.2.1 21 = .ok (.invokevirtual 144, 3) := by decide +kernel
theorem d_Mo_without_24 : decode Y_Mo_without.2.1 24 = .ok (.aload_n 0, 1) := by decide +kernel
theorem d_Mo_without_25 : decode Y_Mo_without.2.1 25 = .ok (.getfield 48, 3) := by decide +kernel
theorem d_Mo_without_28 : decode Y_Mo_without.2.1 28 = .ok (.iload_n 1, 1) := by decide +kernel
theorem d_Mo_without_29 : decode Y_Mo_without.2.1 29 = .ok (.iaload, 1) := by decide +kernel
theorem d_Mo_without_30 : decode Y_Mo_without.2.1 30 = .ok (.invokestatic 147, 3) := by decide +kernel
theorem d_Mo_without_33 : decode Y_Mo_without.2.1 33 = .ok (.ireturn, 1) := by decide +kernel
theorem d_Mo_filter_0 : decode Y_Mo_filter.2.1 0 = .ok (.aload_n 0, 1) := by decide +kernel
theorem d_Mo_filter_1 : decode Y_Mo_filter.2.1 1 = .ok (.iconst 0, 1) := by decide +kernel
theorem d_Mo_filter_2 : decode Y_Mo_filter.2.1 2 = .ok (.putfield 1, 3) := by decide +kernel
theorem d_Mo_filter_5 : decode Y_Mo_filter.2.1 5 = .ok (.aload_n 0, 1) := by decide +kernel
theorem d_Mo_filter_6 : decode Y_Mo_filter.2.1 6 = .ok (.invokevirtual 144, 3) := by decide +kernel
theorem d_Mo_filter_9 : decode Y_Mo_filter.2.1 9 = .ok (.iconst 0, 1) := by decide +kernel
theorem d_Mo_filter_10 : decode Y_Mo_filter.2.1 10 = .ok (.istore_n 2, 1) := by decide +kernel
theorem d_Mo_filter_11 : decode Y_Mo_filter.2.1 11 = .ok (.iconst 0, 1) := by decide +kernel
theorem d_Mo_filter_12 : decode Y_Mo_filter.2.1 12 = .ok (.istore_n 3, 1) := by decide +kernel
theorem d_Mo_filter_13 : decode Y_Mo_filter.2.1 13 = .ok (.iload_n 3, 1) := by decide +kernel
theorem d_Mo_filter_14 : decode Y_Mo_filter.2.1 14 = .ok (.bipush 81, 2) := by decide +kernel
theorem d_Mo_filter_16 : decode Y_Mo_filter.2.1 16 = .ok (.if_icmp .ge 52, 3) := by decide +kernel
theorem d_Mo_filter_19 : decode Y_Mo_filter.2.1 19 = .ok (.aload_n 0, 1) := by decide +kernel
theorem d_Mo_filter_20 : decode Y_Mo_filter.2.1 20 = .ok (.getfield 20, 3) := by decide +kernel
theorem d_Mo_filter_23 : decode Y_Mo_filter.2.1 23 = .ok (.iload_n 3, 1) := by decide +kernel
theorem d_Mo_filter_24 : decode Y_Mo_filter.2.1 24 = .ok (.iaload, 1) := by decide +kernel
theorem d_Mo_filter_25 : decode Y_Mo_filter.2.1 25 = .ok (.ldc 69, 2) := by decide +kernel
theorem d_Mo_filter_27 : decode Y_Mo_filter.2.1 27 = .ok (.if_icmp .eq 35, 3) := by decide +kernel
theorem d_Mo_filter_30 : decode Y_Mo_filter.2.1 30 = .ok (.aload_n 0, 1) := by decide +kernel
theorem d_Mo_filter_31 : decode Y_Mo_filter.2.1 31 = .ok (.getfield 45, 3) := by decide +kernel
theorem d_Mo_filter_34 : decode Y_Mo_filter.2.1 34 = .ok (.iload_n 3, 1) := by decide +kernel
theorem d_Mo_filter_35 : decode Y_Mo_filter.2.1 35 = .ok (.iaload, 1) := by decide +kernel
theorem d_Mo_filter_36 : decode Y_Mo_filter.2.1 36 = .ok (.ldc 101, 2) := by decide +kernel
theorem d_Mo_filter_38 : decode Y_Mo_filter.2.1 38 = .ok (.if_icmp .eq 13, 3) := by decide +kernel
theorem d_Mo_filter_41 : decode Y_Mo_filter.2.1 41 = .ok (.aload_n 0, 1) := by decide +kernel
theorem d_Mo_filter_42 : decode Y_Mo_filter.2.1 42 = .ok (.getfield 45, 3) := by decide +kernel
theorem d_Mo_filter_45 : decode Y_Mo_filter.2.1 45 = .ok (.iload_n 3, 1) := by decide +kernel
theorem d_Mo_filter_46 : decode Y_Mo_filter.2.1 46 = .ok (.iaload, 1) := by decide +kernel
theorem d_Mo_filter_47 : decode Y_Mo_filter.2.1 47 = .ok (.iload_n 1, 1) := by decide +kernel
theorem d_Mo_filter_48 : decode Y_Mo_filter.2.1 48 = .ok (.if_icmp .le 14, 3) := by decide +kernel
theorem d_Mo_filter_51 : decode Y_Mo_filter.2.1 51 = .ok (.aload_n 0, 1) := by decide +kernel
theorem d_Mo_filter_52 : decode Y_Mo_filter.2.1 52 = .ok (.getfield 20, 3) := by decide +kernel
theorem d_Mo_filter_55 : decode Y_Mo_filter.2.1 55 = .ok (.iload_n 3, 1) := by decide +kernel
theorem d_Mo_filter_56 : decode Y_Mo_filter.2.1 56 = .ok (.ldc 69, 2) := by decide +kernel
theorem d_Mo_filter_58 : decode Y_Mo_filter.2.1 58 = .ok (.iastore, 1) := by decide +kernel
theorem d_Mo_filter_59 : decode Y_Mo_filter.2.1 59 = .ok (.iinc 2 1, 3) := by decide +kernel
theorem d_Mo_filter_62 : decode Y_Mo_filter.2.1 62 = .ok (.iinc 3 1, 3) := by decide +kernel
theorem d_Mo_filter_65 : decode Y_Mo_filter.2.1 65 = .ok (.goto (-52), 3) := by decide +kernel
theorem d_Mo_filter_68 : decode Y_Mo_filter.2.1 68 = .ok (.aload_n 0, 1) := by decide +kernel
theorem d_Mo_filter_69 : decode Y_Mo_filter.2.1 69 = .ok (.iconst 0, 1) := by decide +kernel
theorem d_Mo_filter_70 : decode Y_Mo_filter.2.1 70 = .ok (.putfield 80, 3) := by decide +kernel
theorem d_Mo_filter_73 : decode Y_Mo_filter.2.1 73 = .ok (.iload_n 2, 1) := by decide +kernel
theorem d_Mo_filter_74 : decode Y_Mo_filter.2.1 74 = .ok (.ireturn, 1) := by decide +kernel
theorem d_Mo_weight_0 : decode Y_Mo_weight.2.1 0 = .ok (.aload_n 0, 1) := by decide +kernel
theorem d_Mo_weight_1 : decode Y_Mo_weight.2.1 1 = .ok (.iconst 0, 1) := by decide +kernel
theorem d_Mo_weight_2 : decode Y_Mo_weight.2.1 2 = .ok (.putfield 1, 3) := by decide +kernel
theorem d_Mo_weight_5 : decode Y_Mo_weight.2.1 5 = .ok (.aload_n 0, 1) := by decide +kernel
theorem d_Mo_weight_6 : decode Y_Mo_weight.2.1 6 = .ok (.iload_n 1, 1) := by decide +kernel
theorem d_Mo_weight_7 : decode Y_Mo_weight.2.1 7 = .ok (.invokevirtual 74, 3) := by decide +kernel
theorem d_Mo_weight_10 : decode Y_Mo_weight.2.1 10 = .ok (.ifCond .ne 16, 3) := by decide +kernel
theorem d_Mo_weight_13 : decode Y_Mo_weight.2.1 13 = .ok (.iload_n 2, 1) := by decide +kernel
theorem d_Mo_weight_14 : decode Y_Mo_weight.2.1 14 = .ok (.sipush (-1000), 3) := by decide +kernel
theorem d_Mo_weight_17 : decode Y_Mo_weight.2.1 17 = .ok (.sipush 1000, 3) := by decide +kernel
theorem d_Mo_weight_20 : decode Y_Mo_weight.2.1 20 = .ok (.invokestatic 70, 3) := by decide +kernel
theorem d_Mo_weight_23 : decode Y_Mo_weight.2.1 23 = .ok (.ifCond .ne 6, 3) := by decide +kernel
theorem d_Mo_weight_26 : decode Y_Mo_weight.2.1 26 = .ok (.ldc 78, 2) := by decide +kernel
theorem d_Mo_weight_28 : decode Y_Mo_weight.2.1 28 = .ok (.ireturn, 1) := by decide +kernel
theorem d_Mo_weight_29 : decode Y_Mo_weight.2.1 29 = .ok (.aload_n 0, 1) := by decide +kernel
theorem d_Mo_weight_30 : decode Y_Mo_weight.2.1 30 = .ok (.getfield 36, 3) := by decide +kernel
theorem d_Mo_weight_33 : decode Y_Mo_weight.2.1 33 = .ok (.iload_n 1, 1) := by decide +kernel
theorem d_Mo_weight_34 : decode Y_Mo_weight.2.1 34 = .ok (.iaload, 1) := by decide +kernel
theorem d_Mo_weight_35 : decode Y_Mo_weight.2.1 35 = .ok (.istore_n 3, 1) := by decide +kernel
theorem d_Mo_weight_36 : decode Y_Mo_weight.2.1 36 = .ok (.aload_n 0, 1) := by decide +kernel
theorem d_Mo_weight_37 : decode Y_Mo_weight.2.1 37 = .ok (.getfield 36, 3) := by decide +kernel
theorem d_Mo_weight_40 : decode Y_Mo_weight.2.1 40 = .ok (.iload_n 1, 1) := by decide +kernel
theorem d_Mo_weight_41 : decode Y_Mo_weight.2.1 41 = .ok (.iload_n 2, 1) := by decide +kernel
theorem d_Mo_weight_42 : decode Y_Mo_weight.2.1 42 = .ok (.iastore, 1) := by decide +kernel
theorem d_Mo_weight_43 : decode Y_Mo_weight.2.1 43 = .ok (.iload_n 3, 1) := by decide +kernel
theorem d_Mo_weight_44 : decode Y_Mo_weight.2.1 44 = .ok (.ireturn, 1) := by decide +kernel
theorem d_Mo_bound_0 : decode Y_Mo_bound.2.1 0 = .ok (.aload_n 0, 1) := by decide +kernel
theorem d_Mo_bound_1 : decode Y_Mo_bound.2.1 1 = .ok (.iconst 0, 1) := by decide +kernel
theorem d_Mo_bound_2 : decode Y_Mo_bound.2.1 2 = .ok (.putfield 1, 3) := by decide +kernel
theorem d_Mo_bound_5 : decode Y_Mo_bound.2.1 5 = .ok (.aload_n 0, 1) := by decide +kernel
theorem d_Mo_bound_6 : decode Y_Mo_bound.2.1 6 = .ok (.invokevirtual 164, 3) := by decide +kernel
theorem d_Mo_bound_9 : decode Y_Mo_bound.2.1 9 = .ok (.ifCond .ne 6, 3) := by decide +kernel
theorem d_Mo_bound_12 : decode Y_Mo_bound.2.1 12 = .ok (.ldc 88, 2) := by decide +kernel
theorem d_Mo_bound_14 : decode Y_Mo_bound.2.1 14 = .ok (.ireturn, 1) := by decide +kernel
theorem d_Mo_bound_15 : decode Y_Mo_bound.2.1 15 = .ok (.iconst 0, 1) := by decide +kernel
theorem d_Mo_bound_16 : decode Y_Mo_bound.2.1 16 = .ok (.istore_n 1, 1) := by decide +kernel
theorem d_Mo_bound_17 : decode Y_Mo_bound.2.1 17 = .ok (.iconst 0, 1) := by decide +kernel
theorem d_Mo_bound_18 : decode Y_Mo_bound.2.1 18 = .ok (.istore_n 2, 1) := by decide +kernel
theorem d_Mo_bound_19 : decode Y_Mo_bound.2.1 19 = .ok (.iload_n 2, 1) := by decide +kernel
theorem d_Mo_bound_20 : decode Y_Mo_bound.2.1 20 = .ok (.aload_n 0, 1) := by decide +kernel
theorem d_Mo_bound_21 : decode Y_Mo_bound.2.1 21 = .ok (.getfield 150, 3) := by decide +kernel
theorem d_Mo_bound_24 : decode Y_Mo_bound.2.1 24 = .ok (.if_icmp .ge 28, 3) := by decide +kernel
theorem d_Mo_bound_27 : decode Y_Mo_bound.2.1 27 = .ok (.iload_n 1, 1) := by decide +kernel
theorem d_Mo_bound_28 : decode Y_Mo_bound.2.1 28 = .ok (.aload_n 0, 1) := by decide +kernel
theorem d_Mo_bound_29 : decode Y_Mo_bound.2.1 29 = .ok (.aload_n 0, 1) := by decide +kernel
theorem d_Mo_bound_30 : decode Y_Mo_bound.2.1 30 = .ok (.getfield 57, 3) := by decide +kernel
theorem d_Mo_bound_33 : decode Y_Mo_bound.2.1 33 = .ok (.iload_n 2, 1) := by decide +kernel
theorem d_Mo_bound_34 : decode Y_Mo_bound.2.1 34 = .ok (.iaload, 1) := by decide +kernel
theorem d_Mo_bound_35 : decode Y_Mo_bound.2.1 35 = .ok (.aload_n 0, 1) := by decide +kernel
theorem d_Mo_bound_36 : decode Y_Mo_bound.2.1 36 = .ok (.getfield 60, 3) := by decide +kernel
theorem d_Mo_bound_39 : decode Y_Mo_bound.2.1 39 = .ok (.iload_n 2, 1) := by decide +kernel
theorem d_Mo_bound_40 : decode Y_Mo_bound.2.1 40 = .ok (.iaload, 1) := by decide +kernel
theorem d_Mo_bound_41 : decode Y_Mo_bound.2.1 41 = .ok (.invokevirtual 153, 3) := by decide +kernel
theorem d_Mo_bound_44 : decode Y_Mo_bound.2.1 44 = .ok (.iadd, 1) := by decide +kernel
theorem d_Mo_bound_45 : decode Y_Mo_bound.2.1 45 = .ok (.istore_n 1, 1) := by decide +kernel
theorem d_Mo_bound_46 : decode Y_Mo_bound.2.1 46 = .ok (.iinc 2 1, 3) := by decide +kernel
theorem d_Mo_bound_49 : decode Y_Mo_bound.2.1 49 = .ok (.goto (-30), 3) := by decide +kernel
theorem d_Mo_bound_52 : decode Y_Mo_bound.2.1 52 = .ok (.iconst 0, 1) := by decide +kernel
theorem d_Mo_bound_53 : decode Y_Mo_bound.2.1 53 = .ok (.istore_n 2, 1) := by decide +kernel
theorem d_Mo_bound_54 : decode Y_Mo_bound.2.1 54 = .ok (.iload_n 2, 1) := by decide +kernel
theorem d_Mo_bound_55 : decode Y_Mo_bound.2.1 55 = .ok (.aload_n 0, 1) := by decide +kernel
theorem d_Mo_bound_56 : decode Y_Mo_bound.2.1 56 = .ok (.getfield 13, 3) := by decide +kernel
theorem d_Mo_bound_59 : decode Y_Mo_bound.2.1 59 = .ok (.if_icmp .ge 20, 3) := by decide +kernel
theorem d_Mo_bound_62 : decode Y_Mo_bound.2.1 62 = .ok (.iload_n 1, 1) := by decide +kernel
theorem d_Mo_bound_63 : decode Y_Mo_bound.2.1 63 = .ok (.iconst 2, 1) := by decide +kernel
theorem d_Mo_bound_64 : decode Y_Mo_bound.2.1 64 = .ok (.aload_n 0, 1) := by decide +kernel
theorem d_Mo_bound_65 : decode Y_Mo_bound.2.1 65 = .ok (.getfield 36, 3) := by decide +kernel
theorem d_Mo_bound_68 : decode Y_Mo_bound.2.1 68 = .ok (.iload_n 2, 1) := by decide +kernel
theorem d_Mo_bound_69 : decode Y_Mo_bound.2.1 69 = .ok (.iaload, 1) := by decide +kernel
theorem d_Mo_bound_70 : decode Y_Mo_bound.2.1 70 = .ok (.imul, 1) := by decide +kernel
theorem d_Mo_bound_71 : decode Y_Mo_bound.2.1 71 = .ok (.isub, 1) := by decide +kernel
theorem d_Mo_bound_72 : decode Y_Mo_bound.2.1 72 = .ok (.istore_n 1, 1) := by decide +kernel
theorem d_Mo_bound_73 : decode Y_Mo_bound.2.1 73 = .ok (.iinc 2 1, 3) := by decide +kernel
theorem d_Mo_bound_76 : decode Y_Mo_bound.2.1 76 = .ok (.goto (-22), 3) := by decide +kernel
theorem d_Mo_bound_79 : decode Y_Mo_bound.2.1 79 = .ok (.iload_n 1, 1) := by decide +kernel
theorem d_Mo_bound_80 : decode Y_Mo_bound.2.1 80 = .ok (.ireturn, 1) := by decide +kernel
theorem d_Mo_makeTree_0 : decode Y_Mo_makeTree.2.1 0 = .ok (.aload_n 0, 1) := by decide +kernel
theorem d_Mo_makeTree_1 : decode Y_Mo_makeTree.2.1 1 = .ok (.iconst 0, 1) := by decide +kernel
theorem d_Mo_makeTree_2 : decode Y_Mo_makeTree.2.1 2 = .ok (.putfield 150, 3) := by decide +kernel
theorem d_Mo_makeTree_5 : decode Y_Mo_makeTree.2.1 5 = .ok (.iconst 0, 1) := by decide +kernel
theorem d_Mo_makeTree_6 : decode Y_Mo_makeTree.2.1 6 = .ok (.istore_n 1, 1) := by decide +kernel
theorem d_Mo_makeTree_7 : decode Y_Mo_makeTree.2.1 7 = .ok (.iload_n 1, 1) := by decide +kernel
theorem d_Mo_makeTree_8 : decode Y_Mo_makeTree.2.1 8 = .ok (.bipush 9, 2) := by decide +kernel
theorem d_Mo_makeTree_10 : decode Y_Mo_makeTree.2.1 10 = .ok (.if_icmp .ge 16, 3) := by decide +kernel
theorem d_Mo_makeTree_13 : decode Y_Mo_makeTree.2.1 13 = .ok (.aload_n 0, 1) := by decide +kernel
theorem d_Mo_makeTree_14 : decode Y_Mo_makeTree.2.1 14 = .ok (.getfield 63, 3) := by decide +kernel
theorem d_Mo_makeTree_17 : decode Y_Mo_makeTree.2.1 17 = .ok (.iload_n 1, 1) := by decide +kernel
theorem d_Mo_makeTree_18 : decode Y_Mo_makeTree.2.1 18 = .ok (.iload_n 1, 1) := by decide +kernel
theorem d_Mo_makeTree_19 : decode Y_Mo_makeTree.2.1 19 = .ok (.iastore, 1) := by decide +kernel
theorem d_Mo_makeTree_20 : decode Y_Mo_makeTree.2.1 20 = .ok (.iinc 1 1, 3) := by decide +kernel
theorem d_Mo_makeTree_23 : decode Y_Mo_makeTree.2.1 23 = .ok (.goto (-16), 3) := by decide +kernel
theorem d_Mo_makeTree_26 : decode Y_Mo_makeTree.2.1 26 = .ok (.aload_n 0, 1) := by decide +kernel
theorem d_Mo_makeTree_27 : decode Y_Mo_makeTree.2.1 27 = .ok (.getfield 13, 3) := by decide +kernel
theorem d_Mo_makeTree_30 : decode Y_Mo_makeTree.2.1 30 = .ok (.iconst 3, 1) := by decide +kernel
theorem d_Mo_makeTree_31 : decode Y_Mo_makeTree.2.1 31 = .ok (.if_icmp .lt 7, 3) := by decide +kernel
theorem d_Mo_makeTree_34 : decode Y_Mo_makeTree.2.1 34 = .ok (.iconst 1, 1) := by decide +kernel
theorem d_Mo_makeTree_35 : decode Y_Mo_makeTree.2.1 35 = .ok (.goto 4, 3) := by decide +kernel
theorem d_Mo_makeTree_38 : decode Y_Mo_makeTree.2.1 38 = .ok (.iconst 0, 1) := by decide +kernel
theorem d_Mo_makeTree_39 : decode Y_Mo_makeTree.2.1 39 = .ok (.istore_n 1, 1) := by decide +kernel
theorem d_Mo_makeTree_40 : decode Y_Mo_makeTree.2.1 40 = .ok (.iconst 0, 1) := by decide +kernel
theorem d_Mo_makeTree_41 : decode Y_Mo_makeTree.2.1 41 = .ok (.istore_n 2, 1) := by decide +kernel
theorem d_Mo_makeTree_42 : decode Y_Mo_makeTree.2.1 42 = .ok (.iload_n 2, 1) := by decide +kernel
theorem d_Mo_makeTree_43 : decode Y_Mo_makeTree.2.1 43 = .ok (.aload_n 0, 1) := by decide +kernel
theorem d_Mo_makeTree_44 : decode Y_Mo_makeTree.2.1 44 = .ok (.getfield 13, 3) := by decide +kernel
theorem d_Mo_makeTree_47 : decode Y_Mo_makeTree.2.1 47 = .ok (.iconst 2, 1) := by decide +kernel
theorem d_Mo_makeTree_48 : decode Y_Mo_makeTree.2.1 48 = .ok (.isub, 1) := by decide +kernel
theorem d_Mo_makeTree_49 : decode Y_Mo_makeTree.2.1 49 = .ok (.if_icmp .ge 19, 3) := by decide +kernel
theorem d_Mo_makeTree_52 : decode Y_Mo_makeTree.2.1 52 = .ok (.iload_n 1, 1) := by decide +kernel
theorem d_Mo_makeTree_53 : decode Y_Mo_makeTree.2.1 53 = .ok (.ifCond .eq 15, 3) := by decide +kernel
theorem d_Mo_makeTree_56 : decode Y_Mo_makeTree.2.1 56 = .ok (.aload_n 0, 1) := by decide +kernel
theorem d_Mo_makeTree_57 : decode Y_Mo_makeTree.2.1 57 = .ok (.iconst 0, 1) := by decide +kernel
theorem d_Mo_makeTree_58 : decode Y_Mo_makeTree.2.1 58 = .ok (.invokevirtual 160, 3) := by decide +kernel
theorem d_Mo_makeTree_61 : decode Y_Mo_makeTree.2.1 61 = .ok (.istore_n 1, 1) := by decide +kernel
theorem d_Mo_makeTree_62 : decode Y_Mo_makeTree.2.1 62 = .ok (.iinc 2 1, 3) := by decide +kernel
theorem d_Mo_makeTree_65 : decode Y_Mo_makeTree.2.1 65 = .ok (.goto (-23), 3) := by decide +kernel
theorem d_Mo_makeTree_68 : decode Y_Mo_makeTree.2.1 68 = .ok (.iload_n 1, 1) := by decide +kernel
theorem d_Mo_makeTree_69 : decode Y_Mo_makeTree.2.1 69 = .ok (.ifCond .eq 23, 3) := by decide +kernel
theorem d_Mo_makeTree_72 : decode Y_Mo_makeTree.2.1 72 = .ok (.aload_n 0, 1) := by decide +kernel
theorem d_Mo_makeTree_73 : decode Y_Mo_makeTree.2.1 73 = .ok (.iconst 1, 1) := by decide +kernel
theorem d_Mo_makeTree_74 : decode Y_Mo_makeTree.2.1 74 = .ok (.invokevirtual 160, 3) := by decide +kernel
theorem d_Mo_makeTree_77 : decode Y_Mo_makeTree.2.1 77 = .ok (.ifCond .eq 15, 3) := by decide +kernel
theorem d_Mo_makeTree_80 : decode Y_Mo_makeTree.2.1 80 = .ok (.aload_n 0, 1) := by decide +kernel
theorem d_Mo_makeTree_81 : decode Y_Mo_makeTree.2.1 81 = .ok (.iconst 1, 1) := by decide +kernel
theorem d_Mo_makeTree_82 : decode Y_Mo_makeTree.2.1 82 = .ok (.invokevirtual 160, 3) := by decide +kernel
theorem d_Mo_makeTree_85 : decode Y_Mo_makeTree.2.1 85 = .ok (.ifCond .eq 7, 3) := by decide +kernel
theorem d_Mo_makeTree_88 : decode Y_Mo_makeTree.2.1 88 = .ok (.iconst 1, 1) := by decide +kernel
theorem d_Mo_makeTree_89 : decode Y_Mo_makeTree.2.1 89 = .ok (.goto 4, 3) := by decide +kernel
theorem d_Mo_makeTree_92 : decode Y_Mo_makeTree.2.1 92 = .ok (.iconst 0, 1) := by decide +kernel
theorem d_Mo_makeTree_93 : decode Y_Mo_makeTree.2.1 93 = .ok (.ireturn, 1) := by decide +kernel
theorem d_Mo_choose_0 : decode Y_Mo_choose.2.1 0 = .ok (.iconst (-1), 1) := by decide +kernel
theorem d_Mo_choose_1 : decode Y_Mo_choose.2.1 1 = .ok (.istore_n 2, 1) := by decide +kernel
theorem d_Mo_choose_2 : decode Y_Mo_choose.2.1 2 = .ok (.iconst (-1), 1) := by decide +kernel
theorem d_Mo_choose_3 : decode Y_Mo_choose.2.1 3 = .ok (.istore_n 3, 1) := by decide +kernel
theorem d_Mo_choose_4 : decode Y_Mo_choose.2.1 4 = .ok (.iload_n 1, 1) := by decide +kernel
theorem d_Mo_choose_5 : decode Y_Mo_choose.2.1 5 = .ok (.ifCond .eq 7, 3) := by decide +kernel
theorem d_Mo_choose_8 : decode Y_Mo_choose.2.1 8 = .ok (.iconst 0, 1) := by decide +kernel
theorem d_Mo_choose_9 : decode Y_Mo_choose.2.1 9 = .ok (.goto 4, 3) := by decide +kernel
theorem d_Mo_choose_12 : decode Y_Mo_choose.2.1 12 = .ok (.iconst 1, 1) := by decide +kernel
theorem d_Mo_choose_13 : decode Y_Mo_choose.2.1 13 = .ok (.istore 4, 2) := by decide +kernel
theorem d_Mo_choose_15 : decode Y_Mo_choose.2.1 15 = .ok (.iload 4, 2) := by decide +kernel
theorem d_Mo_choose_17 : decode Y_Mo_choose.2.1 17 = .ok (.iload_n 1, 1) := by decide +kernel
theorem d_Mo_choose_18 : decode Y_Mo_choose.2.1 18 = .ok (.ifCond .eq 7, 3) := by decide +kernel
theorem d_Mo_choose_21 : decode Y_Mo_choose.2.1 21 = .ok (.iconst 1, 1) := by decide +kernel
theorem d_Mo_choose_22 : decode Y_Mo_choose.2.1 22 = .ok (.goto 7, 3) := by decide +kernel
theorem d_Mo_choose_25 : decode Y_Mo_choose.2.1 25 = .ok (.aload_n 0, 1) := by decide +kernel
theorem d_Mo_choose_26 : decode Y_Mo_choose.2.1 26 = .ok (.getfield 13, 3) := by decide +kernel
theorem d_Mo_choose_29 : decode Y_Mo_choose.2.1 29 = .ok (.if_icmp .ge 114, 3) := by decide +kernel
theorem d_Mo_choose_32 : decode Y_Mo_choose.2.1 32 = .ok (.iload 4, 2) := by decide +kernel
theorem d_Mo_choose_34 : decode Y_Mo_choose.2.1 34 = .ok (.iconst 1, 1) := by decide +kernel
theorem d_Mo_choose_35 : decode Y_Mo_choose.2.1 35 = .ok (.iadd, 1) := by decide +kernel
theorem d_Mo_choose_36 : decode Y_Mo_choose.2.1 36 = .ok (.istore 5, 2) := by decide +kernel
theorem d_Mo_choose_38 : decode Y_Mo_choose.2.1 38 = .ok (.iload 5, 2) := by decide +kernel
theorem d_Mo_choose_40 : decode Y_Mo_choose.2.1 40 = .ok (.aload_n 0, 1) := by decide +kernel
theorem d_Mo_choose_41 : decode Y_Mo_choose.2.1 41 = .ok (.getfield 13, 3) := by decide +kernel
theorem d_Mo_choose_44 : decode Y_Mo_choose.2.1 44 = .ok (.if_icmp .ge 93, 3) := by decide +kernel
theorem d_Mo_choose_47 : decode Y_Mo_choose.2.1 47 = .ok (.aload_n 0, 1) := by decide +kernel
theorem d_Mo_choose_48 : decode Y_Mo_choose.2.1 48 = .ok (.iload 4, 2) := by decide +kernel
theorem d_Mo_choose_50 : decode Y_Mo_choose.2.1 50 = .ok (.iload 5, 2) := by decide +kernel
theorem d_Mo_choose_52 : decode Y_Mo_choose.2.1 52 = .ok (.invokevirtual 153, 3) := by decide +kernel
theorem d_Mo_choose_55 : decode Y_Mo_choose.2.1 55 = .ok (.ldc 101, 2) := by decide +kernel
theorem d_Mo_choose_57 : decode Y_Mo_choose.2.1 57 = .ok (.if_icmp .eq 39, 3) := by decide +kernel
theorem d_Mo_choose_60 : decode Y_Mo_choose.2.1 60 = .ok (.aload_n 0, 1) := by decide +kernel
theorem d_Mo_choose_61 : decode Y_Mo_choose.2.1 61 = .ok (.iload 4, 2) := by decide +kernel
theorem d_Mo_choose_63 : decode Y_Mo_choose.2.1 63 = .ok (.iload 5, 2) := by decide +kernel
theorem d_Mo_choose_65 : decode Y_Mo_choose.2.1 65 = .ok (.invokevirtual 157, 3) := by decide +kernel
theorem d_Mo_choose_68 : decode Y_Mo_choose.2.1 68 = .ok (.ifCond .ne 28, 3) := by decide +kernel
theorem d_Mo_choose_71 : decode Y_Mo_choose.2.1 71 = .ok (.iload_n 1, 1) := by decide +kernel
theorem d_Mo_choose_72 : decode Y_Mo_choose.2.1 72 = .ok (.ifCond .ne 20, 3) := by decide +kernel
theorem d_Mo_choose_75 : decode Y_Mo_choose.2.1 75 = .ok (.aload_n 0, 1) := by decide +kernel
theorem d_Mo_choose_76 : decode Y_Mo_choose.2.1 76 = .ok (.getfield 63, 3) := by decide +kernel
theorem d_Mo_choose_79 : decode Y_Mo_choose.2.1 79 = .ok (.iload 4, 2) := by decide +kernel
theorem d_Mo_choose_81 : decode Y_Mo_choose.2.1 81 = .ok (.iaload, 1) := by decide +kernel
theorem d_Mo_choose_82 : decode Y_Mo_choose.2.1 82 = .ok (.aload_n 0, 1) := by decide +kernel
theorem d_Mo_choose_83 : decode Y_Mo_choose.2.1 83 = .ok (.getfield 63, 3) := by decide +kernel
theorem d_Mo_choose_86 : decode Y_Mo_choose.2.1 86 = .ok (.iload 5, 2) := by decide +kernel
theorem d_Mo_choose_88 : decode Y_Mo_choose.2.1 88 = .ok (.iaload, 1) := by decide +kernel
theorem d_Mo_choose_89 : decode Y_Mo_choose.2.1 89 = .ok (.if_icmp .eq 7, 3) := by decide +kernel
theorem d_Mo_choose_92 : decode Y_Mo_choose.2.1 92 = .ok (.iconst 1, 1) := by decide +kernel
theorem d_Mo_choose_93 : decode Y_Mo_choose.2.1 93 = .ok (.goto 4, 3) := by decide +kernel
theorem d_Mo_choose_96 : decode Y_Mo_choose.2.1 96 = .ok (.iconst 0, 1) := by decide +kernel
theorem d_Mo_choose_97 : decode Y_Mo_choose.2.1 97 = .ok (.istore 6, 2) := by decide +kernel
theorem d_Mo_choose_99 : decode Y_Mo_choose.2.1 99 = .ok (.iload 6, 2) := by decide +kernel
theorem d_Mo_choose_101 : decode Y_Mo_choose.2.1 101 = .ok (.ifCond .eq 30, 3) := by decide +kernel
theorem d_Mo_choose_104 : decode Y_Mo_choose.2.1 104 = .ok (.iload_n 2, 1) := by decide +kernel
theorem d_Mo_choose_105 : decode Y_Mo_choose.2.1 105 = .ok (.ifCond .lt 20, 3) := by decide +kernel
theorem d_Mo_choose_108 : decode Y_Mo_choose.2.1 108 = .ok (.aload_n 0, 1) := by decide +kernel
theorem d_Mo_choose_109 : decode Y_Mo_choose.2.1 109 = .ok (.iload 4, 2) := by decide +kernel
theorem d_Mo_choose_111 : decode Y_Mo_choose.2.1 111 = .ok (.iload 5, 2) := by decide +kernel
theorem d_Mo_choose_113 : decode Y_Mo_choose.2.1 113 = .ok (.invokevirtual 153, 3) := by decide +kernel
theorem d_Mo_choose_116 : decode Y_Mo_choose.2.1 116 = .ok (.aload_n 0, 1) := by decide +kernel
theorem d_Mo_choose_117 : decode Y_Mo_choose.2.1 117 = .ok (.iload_n 2, 1) := by decide +kernel
theorem d_Mo_choose_118 : decode Y_Mo_choose.2.1 118 = .ok (.iload_n 3, 1) := by decide +kernel
theorem d_Mo_choose_119 : decode Y_Mo_choose.2.1 119 = .ok (.invokevirtual 153, 3) := by decide +kernel
theorem d_Mo_choose_122 : decode Y_Mo_choose.2.1 122 = .ok (.if_icmp .ge 9, 3) := by decide +kernel
theorem d_Mo_choose_125 : decode Y_Mo_choose.2.1 125 = .ok (.iload 4, 2) := by decide +kernel
theorem d_Mo_choose_127 : decode Y_Mo_choose.2.1 127 = .ok (.istore_n 2, 1) := by decide +kernel
theorem d_Mo_choose_128 : decode Y_Mo_choose.2.1 128 = .ok (.iload 5, 2) := by decide +kernel
theorem d_Mo_choose_130 : decode Y_Mo_choose.2.1 130 = .ok (.istore_n 3, 1) := by decide +kernel
theorem d_Mo_choose_131 : decode Y_Mo_choose.2.1 131 = .ok (.iinc 5 1, 3) := by decide +kernel
theorem d_Mo_choose_134 : decode Y_Mo_choose.2.1 134 = .ok (.goto (-96), 3) := by decide +kernel
theorem d_Mo_choose_137 : decode Y_Mo_choose.2.1 137 = .ok (.iinc 4 1, 3) := by decide +kernel
theorem d_Mo_choose_140 : decode Y_Mo_choose.2.1 140 = .ok (.goto (-125), 3) := by decide +kernel
theorem d_Mo_choose_143 : decode Y_Mo_choose.2.1 143 = .ok (.iload_n 2, 1) := by decide +kernel
theorem d_Mo_choose_144 : decode Y_Mo_choose.2.1 144 = .ok (.ifCond .ge 5, 3) := by decide +kernel
theorem d_Mo_choose_147 : decode Y_Mo_choose.2.1 147 = .ok (.iconst 0, 1) := by decide +kernel
theorem d_Mo_choose_148 : decode Y_Mo_choose.2.1 148 = .ok (.ireturn, 1) := by decide +kernel
theorem d_Mo_choose_149 : decode Y_Mo_choose.2.1 149 = .ok (.aload_n 0, 1) := by decide +kernel
theorem d_Mo_choose_150 : decode Y_Mo_choose.2.1 150 = .ok (.getfield 57, 3) := by decide +kernel
theorem d_Mo_choose_153 : decode Y_Mo_choose.2.1 153 = .ok (.aload_n 0, 1) := by decide +kernel
theorem d_Mo_choose_154 : decode Y_Mo_choose.2.1 154 = .ok (.getfield 150, 3) := by decide +kernel
theorem d_Mo_choose_157 : decode Y_Mo_choose.2.1 157 = .ok (.iload_n 2, 1) := by decide +kernel
theorem d_Mo_choose_158 : decode Y_Mo_choose.2.1 158 = .ok (.iastore, 1) := by decide +kernel
theorem d_Mo_choose_159 : decode Y_Mo_choose.2.1 159 = .ok (.aload_n 0, 1) := by decide +kernel
theorem d_Mo_choose_160 : decode Y_Mo_choose.2.1 160 = .ok (.getfield 60, 3) := by decide +kernel
theorem d_Mo_choose_163 : decode Y_Mo_choose.2.1 163 = .ok (.aload_n 0, 1) := by decide +kernel
theorem d_Mo_choose_164 : decode Y_Mo_choose.2.1 164 = .ok (.getfield 150, 3) := by decide +kernel
theorem d_Mo_choose_167 : decode Y_Mo_choose.2.1 167 = .ok (.iload_n 3, 1) := by decide +kernel
theorem d_Mo_choose_168 : decode Y_Mo_choose.2.1 168 = .ok (.iastore, 1) := by decide +kernel
theorem d_Mo_choose_169 : decode Y_Mo_choose.2.1 169 = .ok (.aload_n 0, 1) := by decide +kernel
theorem d_Mo_choose_170 : decode Y_Mo_choose.2.1 170 = .ok (.dup, 1) := by decide +kernel
theorem d_Mo_choose_171 : decode Y_Mo_choose.2.1 171 = .ok (.getfield 150, 3) := by decide +kernel
theorem d_Mo_choose_174 : decode Y_Mo_choose.2.1 174 = .ok (.iconst 1, 1) := by decide +kernel
theorem d_Mo_choose_175 : decode Y_Mo_choose.2.1 175 = .ok (.iadd, 1) := by decide +kernel
theorem d_Mo_choose_176 : decode Y_Mo_choose.2.1 176 = .ok (.putfield 150, 3) := by decide +kernel
theorem d_Mo_choose_179 : decode Y_Mo_choose.2.1 179 = .ok (.aload_n 0, 1) := by decide +kernel
theorem d_Mo_choose_180 : decode Y_Mo_choose.2.1 180 = .ok (.getfield 63, 3) := by decide +kernel
theorem d_Mo_choose_183 : decode Y_Mo_choose.2.1 183 = .ok (.iload_n 3, 1) := by decide +kernel
theorem d_Mo_choose_184 : decode Y_Mo_choose.2.1 184 = .ok (.iaload, 1) := by decide +kernel
theorem d_Mo_choose_185 : decode Y_Mo_choose.2.1 185 = .ok (.istore 4, 2) := by decide +kernel
theorem d_Mo_choose_187 : decode Y_Mo_choose.2.1 187 = .ok (.iconst 1, 1) := by decide +kernel
theorem d_Mo_choose_188 : decode Y_Mo_choose.2.1 188 = .ok (.istore 5, 2) := by decide +kernel
theorem d_Mo_choose_190 : decode Y_Mo_choose.2.1 190 = .ok (.iload 5, 2) := by decide +kernel
theorem d_Mo_choose_192 : decode Y_Mo_choose.2.1 192 = .ok (.aload_n 0, 1) := by decide +kernel
theorem d_Mo_choose_193 : decode Y_Mo_choose.2.1 193 = .ok (.getfield 13, 3) := by decide +kernel
theorem d_Mo_choose_196 : decode Y_Mo_choose.2.1 196 = .ok (.if_icmp .ge 48, 3) := by decide +kernel
theorem d_Mo_choose_199 : decode Y_Mo_choose.2.1 199 = .ok (.iload_n 1, 1) := by decide +kernel
theorem d_Mo_choose_200 : decode Y_Mo_choose.2.1 200 = .ok (.ifCond .ne 44, 3) := by decide +kernel
theorem d_Mo_choose_203 : decode Y_Mo_choose.2.1 203 = .ok (.aload_n 0, 1) := by decide +kernel
theorem d_Mo_choose_204 : decode Y_Mo_choose.2.1 204 = .ok (.getfield 63, 3) := by decide +kernel
theorem d_Mo_choose_207 : decode Y_Mo_choose.2.1 207 = .ok (.iload 5, 2) := by decide +kernel
theorem d_Mo_choose_209 : decode Y_Mo_choose.2.1 209 = .ok (.aload_n 0, 1) := by decide +kernel
theorem d_Mo_choose_210 : decode Y_Mo_choose.2.1 210 = .ok (.getfield 63, 3) := by decide +kernel
theorem d_Mo_choose_213 : decode Y_Mo_choose.2.1 213 = .ok (.iload 5, 2) := by decide +kernel
theorem d_Mo_choose_215 : decode Y_Mo_choose.2.1 215 = .ok (.iaload, 1) := by decide +kernel
theorem d_Mo_choose_216 : decode Y_Mo_choose.2.1 216 = .ok (.iload 4, 2) := by decide +kernel
theorem d_Mo_choose_218 : decode Y_Mo_choose.2.1 218 = .ok (.if_icmp .ne 12, 3) := by decide +kernel
theorem d_Mo_choose_221 : decode Y_Mo_choose.2.1 221 = .ok (.aload_n 0, 1) := by decide +kernel
theorem d_Mo_choose_222 : decode Y_Mo_choose.2.1 222 = .ok (.getfield 63, 3) := by decide +kernel
theorem d_Mo_choose_225 : decode Y_Mo_choose.2.1 225 = .ok (.iload_n 2, 1) := by decide +kernel
theorem d_Mo_choose_226 : decode Y_Mo_choose.2.1 226 = .ok (.iaload, 1) := by decide +kernel
theorem d_Mo_choose_227 : decode Y_Mo_choose.2.1 227 = .ok (.goto 10, 3) := by decide +kernel
theorem d_Mo_choose_230 : decode Y_Mo_choose.2.1 230 = .ok (.aload_n 0, 1) := by decide +kernel
theorem d_Mo_choose_231 : decode Y_Mo_choose.2.1 231 = .ok (.getfield 63, 3) := by decide +kernel
theorem d_Mo_choose_234 : decode Y_Mo_choose.2.1 234 = .ok (.iload 5, 2) := by decide +kernel
theorem d_Mo_choose_236 : decode Y_Mo_choose.2.1 236 = .ok (.iaload, 1) := by decide +kernel
theorem d_Mo_choose_237 : decode Y_Mo_choose.2.1 237 = .ok (.iastore, 1) := by decide +kernel
theorem d_Mo_choose_238 : decode Y_Mo_choose.2.1 238 = .ok (.iinc 5 1, 3) := by decide +kernel
theorem d_Mo_choose_241 : decode Y_Mo_choose.2.1 241 = .ok (.goto (-51), 3) := by decide +kernel
theorem d_Mo_choose_244 : decode Y_Mo_choose.2.1 244 = .ok (.iconst 1, 1) := by decide +kernel
theorem d_Mo_choose_245 : decode Y_Mo_choose.2.1 245 = .ok (.ireturn, 1) := by decide +kernel
theorem d_Mo_edgeCost_0 : decode Y_Mo_edgeCost.2.1 0 = .ok (.aload_n 0, 1) := by decide +kernel
theorem d_Mo_edgeCost_1 : decode Y_Mo_edgeCost.2.1 1 = .ok (.getfield 20, 3) := by decide +kernel
theorem d_Mo_edgeCost_4 : decode Y_Mo_edgeCost.2.1 4 = .ok (.bipush 9, 2) := by decide +kernel
theorem d_Mo_edgeCost_6 : decode Y_Mo_edgeCost.2.1 6 = .ok (.iload_n 1, 1) := by decide +kernel
theorem d_Mo_edgeCost_7 : decode Y_Mo_edgeCost.2.1 7 = .ok (.imul, 1) := by decide +kernel
theorem d_Mo_edgeCost_8 : decode Y_Mo_edgeCost.2.1 8 = .ok (.iload_n 2, 1) := by decide +kernel
theorem d_Mo_edgeCost_9 : decode Y_Mo_edgeCost.2.1 9 = .ok (.iadd, 1) := by decide +kernel
theorem d_Mo_edgeCost_10 : decode Y_Mo_edgeCost.2.1 10 = .ok (.iaload, 1) := by decide +kernel
theorem d_Mo_edgeCost_11 : decode Y_Mo_edgeCost.2.1 11 = .ok (.aload_n 0, 1) := by decide +kernel
theorem d_Mo_edgeCost_12 : decode Y_Mo_edgeCost.2.1 12 = .ok (.getfield 20, 3) := by decide +kernel
theorem d_Mo_edgeCost_15 : decode Y_Mo_edgeCost.2.1 15 = .ok (.bipush 9, 2) := by decide +kernel
theorem d_Mo_edgeCost_17 : decode Y_Mo_edgeCost.2.1 17 = .ok (.iload_n 2, 1) := by decide +kernel
theorem d_Mo_edgeCost_18 : decode Y_Mo_edgeCost.2.1 18 = .ok (.imul, 1) := by decide +kernel
theorem d_Mo_edgeCost_19 : decode Y_Mo_edgeCost.2.1 19 = .ok (.iload_n 1, 1) := by decide +kernel
theorem d_Mo_edgeCost_20 : decode Y_Mo_edgeCost.2.1 20 = .ok (.iadd, 1) := by decide +kernel
theorem d_Mo_edgeCost_21 : decode Y_Mo_edgeCost.2.1 21 = .ok (.iaload, 1) := by decide +kernel
theorem d_Mo_edgeCost_22 : decode Y_Mo_edgeCost.2.1 22 = .ok (.if_icmp .ge 17, 3) := by decide +kernel
theorem d_Mo_edgeCost_25 : decode Y_Mo_edgeCost.2.1 25 = .ok (.aload_n 0, 1) := by decide +kernel
theorem d_Mo_edgeCost_26 : decode Y_Mo_edgeCost.2.1 26 = .ok (.getfield 20, 3) := by decide +kernel
theorem d_Mo_edgeCost_29 : decode Y_Mo_edgeCost.2.1 29 = .ok (.bipush 9, 2) := by decide +kernel
theorem d_Mo_edgeCost_31 : decode Y_Mo_edgeCost.2.1 31 = .ok (.iload_n 1, 1) := by decide +kernel
theorem d_Mo_edgeCost_32 : decode Y_Mo_edgeCost.2.1 32 = .ok (.imul, 1) := by decide +kernel
theorem d_Mo_edgeCost_33 : decode Y_Mo_edgeCost.2.1 33 = .ok (.iload_n 2, 1) := by decide +kernel
theorem d_Mo_edgeCost_34 : decode Y_Mo_edgeCost.2.1 34 = .ok (.iadd, 1) := by decide +kernel
theorem d_Mo_edgeCost_35 : decode Y_Mo_edgeCost.2.1 35 = .ok (.iaload, 1) := by decide +kernel
theorem d_Mo_edgeCost_36 : decode Y_Mo_edgeCost.2.1 36 = .ok (.goto 14, 3) := by decide +kernel
theorem d_Mo_edgeCost_39 : decode Y_Mo_edgeCost.2.1 39 = .ok (.aload_n 0, 1) := by decide +kernel
theorem d_Mo_edgeCost_40 : decode Y_Mo_edgeCost.2.1 40 = .ok (.getfield 20, 3) := by decide +kernel
theorem d_Mo_edgeCost_43 : decode Y_Mo_edgeCost.2.1 43 = .ok (.bipush 9, 2) := by decide +kernel
theorem d_Mo_edgeCost_45 : decode Y_Mo_edgeCost.2.1 45 = .ok (.iload_n 2, 1) := by decide +kernel
theorem d_Mo_edgeCost_46 : decode Y_Mo_edgeCost.2.1 46 = .ok (.imul, 1) := by decide +kernel
theorem d_Mo_edgeCost_47 : decode Y_Mo_edgeCost.2.1 47 = .ok (.iload_n 1, 1) := by decide +kernel
theorem d_Mo_edgeCost_48 : decode Y_Mo_edgeCost.2.1 48 = .ok (.iadd, 1) := by decide +kernel
theorem d_Mo_edgeCost_49 : decode Y_Mo_edgeCost.2.1 49 = .ok (.iaload, 1) := by decide +kernel
theorem d_Mo_edgeCost_50 : decode Y_Mo_edgeCost.2.1 50 = .ok (.istore_n 3, 1) := by decide +kernel
theorem d_Mo_edgeCost_51 : decode Y_Mo_edgeCost.2.1 51 = .ok (.iload_n 3, 1) := by decide +kernel
theorem d_Mo_edgeCost_52 : decode Y_Mo_edgeCost.2.1 52 = .ok (.ldc 69, 2) := by decide +kernel
theorem d_Mo_edgeCost_54 : decode Y_Mo_edgeCost.2.1 54 = .ok (.if_icmp .ne 8, 3) := by decide +kernel
theorem d_Mo_edgeCost_57 : decode Y_Mo_edgeCost.2.1 57 = .ok (.ldc 101, 2) := by decide +kernel
theorem d_Mo_edgeCost_59 : decode Y_Mo_edgeCost.2.1 59 = .ok (.goto 18, 3) := by decide +kernel
theorem d_Mo_edgeCost_62 : decode Y_Mo_edgeCost.2.1 62 = .ok (.iload_n 3, 1) := by decide +kernel
theorem d_Mo_edgeCost_63 : decode Y_Mo_edgeCost.2.1 63 = .ok (.aload_n 0, 1) := by decide +kernel
theorem d_Mo_edgeCost_64 : decode Y_Mo_edgeCost.2.1 64 = .ok (.getfield 36, 3) := by decide +kernel
theorem d_Mo_edgeCost_67 : decode Y_Mo_edgeCost.2.1 67 = .ok (.iload_n 1, 1) := by decide +kernel
theorem d_Mo_edgeCost_68 : decode Y_Mo_edgeCost.2.1 68 = .ok (.iaload, 1) := by decide +kernel
theorem d_Mo_edgeCost_69 : decode Y_Mo_edgeCost.2.1 69 = .ok (.iadd, 1) := by decide +kernel
theorem d_Mo_edgeCost_70 : decode Y_Mo_edgeCost.2.1 70 = .ok (.aload_n 0, 1) := by decide +kernel
theorem d_Mo_edgeCost_71 : decode Y_Mo_edgeCost.2.1 71 = .ok (.getfield 36, 3) := by decide +kernel
theorem d_Mo_edgeCost_74 : decode Y_Mo_edgeCost.2.1 74 = .ok (.iload_n 2, 1) := by decide +kernel
theorem d_Mo_edgeCost_75 : decode Y_Mo_edgeCost.2.1 75 = .ok (.iaload, 1) := by decide +kernel
theorem d_Mo_edgeCost_76 : decode Y_Mo_edgeCost.2.1 76 = .ok (.iadd, 1) := by decide +kernel
theorem d_Mo_edgeCost_77 : decode Y_Mo_edgeCost.2.1 77 = .ok (.ireturn, 1) := by decide +kernel
theorem d_Mo_hasEdge_0 : decode Y_Mo_hasEdge.2.1 0 = .ok (.iconst 0, 1) := by decide +kernel
theorem d_Mo_hasEdge_1 : decode Y_Mo_hasEdge.2.1 1 = .ok (.istore_n 3, 1) := by decide +kernel
theorem d_Mo_hasEdge_2 : decode Y_Mo_hasEdge.2.1 2 = .ok (.iconst 0, 1) := by decide +kernel
theorem d_Mo_hasEdge_3 : decode Y_Mo_hasEdge.2.1 3 = .ok (.istore 4, 2) := by decide +kernel
theorem d_Mo_hasEdge_5 : decode Y_Mo_hasEdge.2.1 5 = .ok (.iload 4, 2) := by decide +kernel
theorem d_Mo_hasEdge_7 : decode Y_Mo_hasEdge.2.1 7 = .ok (.aload_n 0, 1) := by decide +kernel
theorem d_Mo_hasEdge_8 : decode Y_Mo_hasEdge.2.1 8 = .ok (.getfield 150, 3) := by decide +kernel
theorem d_Mo_hasEdge_11 : decode Y_Mo_hasEdge.2.1 11 = .ok (.if_icmp .ge 41, 3) := by decide +kernel
theorem d_Mo_hasEdge_14 : decode Y_Mo_hasEdge.2.1 14 = .ok (.iload_n 3, 1) := by decide +kernel
theorem d_Mo_hasEdge_15 : decode Y_Mo_hasEdge.2.1 15 = .ok (.ifCond .ne 25, 3) := by decide +kernel
theorem d_Mo_hasEdge_18 : decode Y_Mo_hasEdge.2.1 18 = .ok (.aload_n 0, 1) := by decide +kernel
theorem d_Mo_hasEdge_19 : decode Y_Mo_hasEdge.2.1 19 = .ok (.getfield 57, 3) := by decide +kernel
theorem d_Mo_hasEdge_22 : decode Y_Mo_hasEdge.2.1 22 = .ok (.iload 4, 2) := by decide +kernel
theorem d_Mo_hasEdge_24 : decode Y_Mo_hasEdge.2.1 24 = .ok (.iaload, 1) := by decide +kernel
theorem d_Mo_hasEdge_25 : decode Y_Mo_hasEdge.2.1 25 = .ok (.iload_n 1, 1) := by decide +kernel
theorem d_Mo_hasEdge_26 : decode Y_Mo_hasEdge.2.1 26 = .ok (.if_icmp .ne 18, 3) := by decide +kernel
theorem d_Mo_hasEdge_29 : decode Y_Mo_hasEdge.2.1 29 = .ok (.aload_n 0, 1) := by decide +kernel
theorem d_Mo_hasEdge_30 : decode Y_Mo_hasEdge.2.1 30 = .ok (.getfield 60, 3) := by decide +kernel
theorem d_Mo_hasEdge_33 : decode Y_Mo_hasEdge.2.1 33 = .ok (.iload 4, 2) := by decide +kernel
theorem d_Mo_hasEdge_35 : decode Y_Mo_hasEdge.2.1 35 = .ok (.iaload, 1) := by decide +kernel
theorem d_Mo_hasEdge_36 : decode Y_Mo_hasEdge.2.1 36 = .ok (.iload_n 2, 1) := by decide +kernel
theorem d_Mo_hasEdge_37 : decode Y_Mo_hasEdge.2.1 37 = .ok (.if_icmp .ne 7, 3) := by decide +kernel
theorem d_Mo_hasEdge_40 : decode Y_Mo_hasEdge.2.1 40 = .ok (.iconst 1, 1) := by decide +kernel
theorem d_Mo_hasEdge_41 : decode Y_Mo_hasEdge.2.1 41 = .ok (.goto 4, 3) := by decide +kernel
theorem d_Mo_hasEdge_44 : decode Y_Mo_hasEdge.2.1 44 = .ok (.iconst 0, 1) := by decide +kernel
theorem d_Mo_hasEdge_45 : decode Y_Mo_hasEdge.2.1 45 = .ok (.istore_n 3, 1) := by decide +kernel
theorem d_Mo_hasEdge_46 : decode Y_Mo_hasEdge.2.1 46 = .ok (.iinc 4 1, 3) := by decide +kernel
theorem d_Mo_hasEdge_49 : decode Y_Mo_hasEdge.2.1 49 = .ok (.goto (-44), 3) := by decide +kernel
theorem d_Mo_hasEdge_52 : decode Y_Mo_hasEdge.2.1 52 = .ok (.iload_n 3, 1) := by decide +kernel
theorem d_Mo_hasEdge_53 : decode Y_Mo_hasEdge.2.1 53 = .ok (.ireturn, 1) := by decide +kernel
theorem d_Mo_edge_0 : decode Y_Mo_edge.2.1 0 = .ok (.aload_n 0, 1) := by decide +kernel
theorem d_Mo_edge_1 : decode Y_Mo_edge.2.1 1 = .ok (.iconst 0, 1) := by decide +kernel
theorem d_Mo_edge_2 : decode Y_Mo_edge.2.1 2 = .ok (.putfield 1, 3) := by decide +kernel
theorem d_Mo_edge_5 : decode Y_Mo_edge.2.1 5 = .ok (.aload_n 0, 1) := by decide +kernel
theorem d_Mo_edge_6 : decode Y_Mo_edge.2.1 6 = .ok (.invokevirtual 164, 3) := by decide +kernel
theorem d_Mo_edge_9 : decode Y_Mo_edge.2.1 9 = .ok (.ifCond .ne 6, 3) := by decide +kernel
theorem d_Mo_edge_12 : decode Y_Mo_edge.2.1 12 = .ok (.ldc 88, 2) := by decide +kernel
theorem d_Mo_edge_14 : decode Y_Mo_edge.2.1 14 = .ok (.ireturn, 1) := by decide +kernel
theorem d_Mo_edge_15 : decode Y_Mo_edge.2.1 15 = .ok (.iload_n 1, 1) := by decide +kernel
theorem d_Mo_edge_16 : decode Y_Mo_edge.2.1 16 = .ok (.iconst 0, 1) := by decide +kernel
theorem d_Mo_edge_17 : decode Y_Mo_edge.2.1 17 = .ok (.aload_n 0, 1) := by decide +kernel
theorem d_Mo_edge_18 : decode Y_Mo_edge.2.1 18 = .ok (.getfield 150, 3) := by decide +kernel
theorem d_Mo_edge_21 : decode Y_Mo_edge.2.1 21 = .ok (.iconst 1, 1) := by decide +kernel
theorem d_Mo_edge_22 : decode Y_Mo_edge.2.1 22 = .ok (.isub, 1) := by decide +kernel
theorem d_Mo_edge_23 : decode Y_Mo_edge.2.1 23 = .ok (.invokestatic 70, 3) := by decide +kernel
theorem d_Mo_edge_26 : decode Y_Mo_edge.2.1 26 = .ok (.ifCond .eq 12, 3) := by decide +kernel
theorem d_Mo_edge_29 : decode Y_Mo_edge.2.1 29 = .ok (.iload_n 2, 1) := by decide +kernel
theorem d_Mo_edge_30 : decode Y_Mo_edge.2.1 30 = .ok (.iconst 0, 1) := by decide +kernel
theorem d_Mo_edge_31 : decode Y_Mo_edge.2.1 31 = .ok (.iconst 1, 1) := by decide +kernel
theorem d_Mo_edge_32 : decode Y_Mo_edge.2.1 32 = .ok (.invokestatic 70, 3) := by decide +kernel
theorem d_Mo_edge_35 : decode Y_Mo_edge.2.1 35 = .ok (.ifCond .ne 8, 3) := by decide +kernel
theorem d_Mo_edge_38 : decode Y_Mo_edge.2.1 38 = .ok (.ldc 78, 2) := by decide +kernel
theorem d_Mo_edge_40 : decode Y_Mo_edge.2.1 40 = .ok (.goto 22, 3) := by decide +kernel
theorem d_Mo_edge_43 : decode Y_Mo_edge.2.1 43 = .ok (.iload_n 2, 1) := by decide +kernel
theorem d_Mo_edge_44 : decode Y_Mo_edge.2.1 44 = .ok (.ifCond .ne 12, 3) := by decide +kernel
theorem d_Mo_edge_47 : decode Y_Mo_edge.2.1 47 = .ok (.aload_n 0, 1) := by decide +kernel
theorem d_Mo_edge_48 : decode Y_Mo_edge.2.1 48 = .ok (.getfield 57, 3) := by decide +kernel
theorem d_Mo_edge_51 : decode Y_Mo_edge.2.1 51 = .ok (.iload_n 1, 1) := by decide +kernel
theorem d_Mo_edge_52 : decode Y_Mo_edge.2.1 52 = .ok (.iaload, 1) := by decide +kernel
theorem d_Mo_edge_53 : decode Y_Mo_edge.2.1 53 = .ok (.goto 9, 3) := by decide +kernel
theorem d_Mo_edge_56 : decode Y_Mo_edge.2.1 56 = .ok (.aload_n 0, 1) := by decide +kernel
theorem d_Mo_edge_57 : decode Y_Mo_edge.2.1 57 = .ok (.getfield 60, 3) := by decide +kernel
theorem d_Mo_edge_60 : decode Y_Mo_edge.2.1 60 = .ok (.iload_n 1, 1) := by decide +kernel
theorem d_Mo_edge_61 : decode Y_Mo_edge.2.1 61 = .ok (.iaload, 1) := by decide +kernel
theorem d_Mo_edge_62 : decode Y_Mo_edge.2.1 62 = .ok (.ireturn, 1) := by decide +kernel
theorem d_Mo_degree_0 : decode Y_Mo_degree.2.1 0 = .ok (.aload_n 0, 1) := by decide +kernel
theorem d_Mo_degree_1 : decode Y_Mo_degree.2.1 1 = .ok (.iconst 0, 1) := by decide +kernel
theorem d_Mo_degree_2 : decode Y_Mo_degree.2.1 2 = .ok (.putfield 1, 3) := by decide +kernel
theorem d_Mo_degree_5 : decode Y_Mo_degree.2.1 5 = .ok (.aload_n 0, 1) := by decide +kernel
theorem d_Mo_degree_6 : decode Y_Mo_degree.2.1 6 = .ok (.iload_n 1, 1) := by decide +kernel
theorem d_Mo_degree_7 : decode Y_Mo_degree.2.1 7 = .ok (.invokevirtual 74, 3) := by decide +kernel
theorem d_Mo_degree_10 : decode Y_Mo_degree.2.1 10 = .ok (.ifCond .eq 6, 3) := by decide +kernel
theorem d_Mo_degree_13 : decode Y_Mo_degree.2.1 13 = .ok (.ldc 78, 2) := by decide +kernel
theorem d_Mo_degree_15 : decode Y_Mo_degree.2.1 15 = .ok (.ireturn, 1) := by decide +kernel
theorem d_Mo_degree_16 : decode Y_Mo_degree.2.1 16 = .ok (.aload_n 0, 1) := by decide +kernel
theorem d_Mo_degree_17 : decode Y_Mo_degree.2.1 17 = .ok (.invokevirtual 164, 3) := by decide +kernel
theorem d_Mo_degree_20 : decode Y_Mo_degree.2.1 20 = .ok (.ifCond .ne 6, 3) := by decide +kernel
theorem d_Mo_degree_23 : decode Y_Mo_degree.2.1 23 = .ok (.ldc 88, 2) := by decide +kernel
theorem d_Mo_degree_25 : decode Y_Mo_degree.2.1 25 = .ok (.ireturn, 1) := by decide +kernel
theorem d_Mo_degree_26 : decode Y_Mo_degree.2.1 26 = .ok (.iconst 0, 1) := by decide +kernel
theorem d_Mo_degree_27 : decode Y_Mo_degree.2.1 27 = .ok (.istore_n 2, 1) := by decide +kernel
theorem d_Mo_degree_28 : decode Y_Mo_degree.2.1 28 = .ok (.iconst 0, 1) := by decide +kernel
theorem d_Mo_degree_29 : decode Y_Mo_degree.2.1 29 = .ok (.istore_n 3, 1) := by decide +kernel
theorem d_Mo_degree_30 : decode Y_Mo_degree.2.1 30 = .ok (.iload_n 3, 1) := by decide +kernel
theorem d_Mo_degree_31 : decode Y_Mo_degree.2.1 31 = .ok (.aload_n 0, 1) := by decide +kernel
theorem d_Mo_degree_32 : decode Y_Mo_degree.2.1 32 = .ok (.getfield 150, 3) := by decide +kernel
theorem d_Mo_degree_35 : decode Y_Mo_degree.2.1 35 = .ok (.if_icmp .ge 37, 3) := by decide +kernel
theorem d_Mo_degree_38 : decode Y_Mo_degree.2.1 38 = .ok (.aload_n 0, 1) := by decide +kernel
theorem d_Mo_degree_39 : decode Y_Mo_degree.2.1 39 = .ok (.getfield 57, 3) := by decide +kernel
theorem d_Mo_degree_42 : decode Y_Mo_degree.2.1 42 = .ok (.iload_n 3, 1) := by decide +kernel
theorem d_Mo_degree_43 : decode Y_Mo_degree.2.1 43 = .ok (.iaload, 1) := by decide +kernel
theorem d_Mo_degree_44 : decode Y_Mo_degree.2.1 44 = .ok (.iload_n 1, 1) := by decide +kernel
theorem d_Mo_degree_45 : decode Y_Mo_degree.2.1 45 = .ok (.if_icmp .eq 13, 3) := by decide +kernel
theorem d_Mo_degree_48 : decode Y_Mo_degree.2.1 48 = .ok (.aload_n 0, 1) := by decide +kernel
theorem d_Mo_degree_49 : decode Y_Mo_degree.2.1 49 = .ok (.getfield 60, 3) := by decide +kernel
theorem d_Mo_degree_52 : decode Y_Mo_degree.2.1 52 = .ok (.iload_n 3, 1) := by decide +kernel
theorem d_Mo_degree_53 : decode Y_Mo_degree.2.1 53 = .ok (.iaload, 1) := by decide +kernel
theorem d_Mo_degree_54 : decode Y_Mo_degree.2.1 54 = .ok (.iload_n 1, 1) := by decide +kernel
theorem d_Mo_degree_55 : decode Y_Mo_degree.2.1 55 = .ok (.if_icmp .ne 9, 3) := by decide +kernel
theorem d_Mo_degree_58 : decode Y_Mo_degree.2.1 58 = .ok (.iload_n 2, 1) := by decide +kernel
theorem d_Mo_degree_59 : decode Y_Mo_degree.2.1 59 = .ok (.iconst 1, 1) := by decide +kernel
theorem d_Mo_degree_60 : decode Y_Mo_degree.2.1 60 = .ok (.iadd, 1) := by decide +kernel
theorem d_Mo_degree_61 : decode Y_Mo_degree.2.1 61 = .ok (.goto 4, 3) := by decide +kernel
theorem d_Mo_degree_64 : decode Y_Mo_degree.2.1 64 = .ok (.iload_n 2, 1) := by decide +kernel
theorem d_Mo_degree_65 : decode Y_Mo_degree.2.1 65 = .ok (.istore_n 2, 1) := by decide +kernel
theorem d_Mo_degree_66 : decode Y_Mo_degree.2.1 66 = .ok (.iinc 3 1, 3) := by decide +kernel
theorem d_Mo_degree_69 : decode Y_Mo_degree.2.1 69 = .ok (.goto (-39), 3) := by decide +kernel
theorem d_Mo_degree_72 : decode Y_Mo_degree.2.1 72 = .ok (.iload_n 2, 1) := by decide +kernel
theorem d_Mo_degree_73 : decode Y_Mo_degree.2.1 73 = .ok (.ireturn, 1) := by decide +kernel
theorem d_Mo_pairing_0 : decode Y_Mo_pairing.2.1 0 = .ok (.aload_n 0, 1) := by decide +kernel
theorem d_Mo_pairing_1 : decode Y_Mo_pairing.2.1 1 = .ok (.iconst 0, 1) := by decide +kernel
theorem d_Mo_pairing_2 : decode Y_Mo_pairing.2.1 2 = .ok (.putfield 1, 3) := by decide +kernel
theorem d_Mo_pairing_5 : decode Y_Mo_pairing.2.1 5 = .ok (.iconst 0, 1) := by decide +kernel
theorem d_Mo_pairing_6 : decode Y_Mo_pairing.2.1 6 = .ok (.istore_n 1, 1) := by decide +kernel
theorem d_Mo_pairing_7 : decode Y_Mo_pairing.2.1 7 = .ok (.iload_n 1, 1) := by decide +kernel
theorem d_Mo_pairing_8 : decode Y_Mo_pairing.2.1 8 = .ok (.iconst 1, 1) := by decide +kernel
theorem d_Mo_pairing_9 : decode Y_Mo_pairing.2.1 9 = .ok (.aload_n 0, 1) := by decide +kernel
theorem d_Mo_pairing_10 : decode Y_Mo_pairing.2.1 10 = .ok (.getfield 13, 3) := by decide +kernel
theorem d_Mo_pairing_13 : decode Y_Mo_pairing.2.1 13 = .ok (.ishl, 1) := by decide +kernel
theorem d_Mo_pairing_14 : decode Y_Mo_pairing.2.1 14 = .ok (.if_icmp .ge 149, 3) := by decide +kernel
theorem d_Mo_pairing_17 : decode Y_Mo_pairing.2.1 17 = .ok (.iload_n 1, 1) := by decide +kernel
theorem d_Mo_pairing_18 : decode Y_Mo_pairing.2.1 18 = .ok (.invokestatic 167, 3) := by decide +kernel
theorem d_Mo_pairing_21 : decode Y_Mo_pairing.2.1 21 = .ok (.iconst 1, 1) := by decide +kernel
theorem d_Mo_pairing_22 : decode Y_Mo_pairing.2.1 22 = .ok (.isub, 1) := by decide +kernel
theorem d_Mo_pairing_23 : decode Y_Mo_pairing.2.1 23 = .ok (.istore_n 2, 1) := by decide +kernel
theorem d_Mo_pairing_24 : decode Y_Mo_pairing.2.1 24 = .ok (.aload_n 0, 1) := by decide +kernel
theorem d_Mo_pairing_25 : decode Y_Mo_pairing.2.1 25 = .ok (.getfield 66, 3) := by decide +kernel
theorem d_Mo_pairing_28 : decode Y_Mo_pairing.2.1 28 = .ok (.iload_n 1, 1) := by decide +kernel
theorem d_Mo_pairing_29 : decode Y_Mo_pairing.2.1 29 = .ok (.iload_n 1, 1) := by decide +kernel
theorem d_Mo_pairing_30 : decode Y_Mo_pairing.2.1 30 = .ok (.ifCond .ne 7, 3) := by decide +kernel
theorem d_Mo_pairing_33 : decode Y_Mo_pairing.2.1 33 = .ok (.iconst 0, 1) := by decide +kernel
theorem d_Mo_pairing_34 : decode Y_Mo_pairing.2.1 34 = .ok (.goto 5, 3) := by decide +kernel
theorem d_Mo_pairing_37 : decode Y_Mo_pairing.2.1 37 = .ok (.ldc 101, 2) := by decide +kernel
theorem d_Mo_pairing_39 : decode Y_Mo_pairing.2.1 39 = .ok (.iastore, 1) := by decide +kernel
theorem d_Mo_pairing_40 : decode Y_Mo_pairing.2.1 40 = .ok (.iconst 0, 1) := by decide +kernel
theorem d_Mo_pairing_41 : decode Y_Mo_pairing.2.1 41 = .ok (.istore_n 3, 1) := by decide +kernel
theorem d_Mo_pairing_42 : decode Y_Mo_pairing.2.1 42 = .ok (.iload_n 3, 1) := by decide +kernel
theorem d_Mo_pairing_43 : decode Y_Mo_pairing.2.1 43 = .ok (.aload_n 0, 1) := by decide +kernel
theorem d_Mo_pairing_44 : decode Y_Mo_pairing.2.1 44 = .ok (.getfield 13, 3) := by decide +kernel
theorem d_Mo_pairing_47 : decode Y_Mo_pairing.2.1 47 = .ok (.if_icmp .ge 110, 3) := by decide +kernel
theorem d_Mo_pairing_50 : decode Y_Mo_pairing.2.1 50 = .ok (.iload_n 1, 1) := by decide +kernel
theorem d_Mo_pairing_51 : decode Y_Mo_pairing.2.1 51 = .ok (.iload_n 3, 1) := by decide +kernel
theorem d_Mo_pairing_52 : decode Y_Mo_pairing.2.1 52 = .ok (.ishr, 1) := by decide +kernel
theorem d_Mo_pairing_53 : decode Y_Mo_pairing.2.1 53 = .ok (.iconst 1, 1) := by decide +kernel
theorem d_Mo_pairing_54 : decode Y_Mo_pairing.2.1 54 = .ok (.iand, 1) := by decide +kernel
theorem d_Mo_pairing_55 : decode Y_Mo_pairing.2.1 55 = .ok (.iconst 1, 1) := by decide +kernel
theorem d_Mo_pairing_56 : decode Y_Mo_pairing.2.1 56 = .ok (.if_icmp .ne 95, 3) := by decide +kernel
theorem d_Mo_pairing_59 : decode Y_Mo_pairing.2.1 59 = .ok (.iload_n 2, 1) := by decide +kernel
theorem d_Mo_pairing_60 : decode Y_Mo_pairing.2.1 60 = .ok (.iload_n 3, 1) := by decide +kernel
theorem d_Mo_pairing_61 : decode Y_Mo_pairing.2.1 61 = .ok (.if_icmp .eq 90, 3) := by decide +kernel
theorem d_Mo_pairing_64 : decode Y_Mo_pairing.2.1 64 = .ok (.aload_n 0, 1) := by decide +kernel
theorem d_Mo_pairing_65 : decode Y_Mo_pairing.2.1 65 = .ok (.getfield 20, 3) := by decide +kernel
theorem d_Mo_pairing_68 : decode Y_Mo_pairing.2.1 68 = .ok (.bipush 9, 2) := by decide +kernel
theorem d_Mo_pairing_70 : decode Y_Mo_pairing.2.1 70 = .ok (.iload_n 2, 1) := by decide +kernel
theorem d_Mo_pairing_71 : decode Y_Mo_pairing.2.1 71 = .ok (.imul, 1) := by decide +kernel
theorem d_Mo_pairing_72 : decode Y_Mo_pairing.2.1 72 = .ok (.iload_n 3, 1) := by decide +kernel
theorem d_Mo_pairing_73 : decode Y_Mo_pairing.2.1 73 = .ok (.iadd, 1) := by decide +kernel
theorem d_Mo_pairing_74 : decode Y_Mo_pairing.2.1 74 = .ok (.iaload, 1) := by decide +kernel
theorem d_Mo_pairing_75 : decode Y_Mo_pairing.2.1 75 = .ok (.ldc 69, 2) := by decide +kernel
theorem d_Mo_pairing_77 : decode Y_Mo_pairing.2.1 77 = .ok (.if_icmp .eq 74, 3) := by decide +kernel
theorem d_Mo_pairing_80 : decode Y_Mo_pairing.2.1 80 = .ok (.aload_n 0, 1) := by decide +kernel
theorem d_Mo_pairing_81 : decode Y_Mo_pairing.2.1 81 = .ok (.getfield 66, 3) := by decide +kernel
theorem d_Mo_pairing_84 : decode Y_Mo_pairing.2.1 84 = .ok (.iload_n 1, 1) := by decide +kernel
theorem d_Mo_pairing_85 : decode Y_Mo_pairing.2.1 85 = .ok (.iconst 1, 1) := by decide +kernel
theorem d_Mo_pairing_86 : decode Y_Mo_pairing.2.1 86 = .ok (.iload_n 3, 1) := by decide +kernel
theorem d_Mo_pairing_87 : decode Y_Mo_pairing.2.1 87 = .ok (.ishl, 1) := by decide +kernel
theorem d_Mo_pairing_88 : decode Y_Mo_pairing.2.1 88 = .ok (.iconst (-1), 1) := by decide +kernel
theorem d_Mo_pairing_89 : decode Y_Mo_pairing.2.1 89 = .ok (.ixor, 1) := by decide +kernel
theorem d_Mo_pairing_90 : decode Y_Mo_pairing.2.1 90 = .ok (.iand, 1) := by decide +kernel
theorem d_Mo_pairing_91 : decode Y_Mo_pairing.2.1 91 = .ok (.iaload, 1) := by decide +kernel
theorem d_Mo_pairing_92 : decode Y_Mo_pairing.2.1 92 = .ok (.ldc 101, 2) := by decide +kernel
theorem d_Mo_pairing_94 : decode Y_Mo_pairing.2.1 94 = .ok (.if_icmp .eq 57, 3) := by decide +kernel
theorem d_Mo_pairing_97 : decode Y_Mo_pairing.2.1 97 = .ok (.aload_n 0, 1) := by decide +kernel
theorem d_Mo_pairing_98 : decode Y_Mo_pairing.2.1 98 = .ok (.getfield 66, 3) := by decide +kernel
theorem d_Mo_pairing_101 : decode Y_Mo_pairing.2.1 101 = .ok (.iload_n 1, 1) := by decide +kernel
theorem d_Mo_pairing_102 : decode Y_Mo_pairing.2.1 102 = .ok (.iconst 1, 1) := by decide +kernel
theorem d_Mo_pairing_103 : decode Y_Mo_pairing.2.1 103 = .ok (.iload_n 3, 1) := by decide +kernel
theorem d_Mo_pairing_104 : decode Y_Mo_pairing.2.1 104 = .ok (.ishl, 1) := by decide +kernel
theorem d_Mo_pairing_105 : decode Y_Mo_pairing.2.1 105 = .ok (.iconst (-1), 1) := by decide +kernel
theorem d_Mo_pairing_106 : decode Y_Mo_pairing.2.1 106 = .ok (.ixor, 1) := by decide +kernel
theorem d_Mo_pairing_107 : decode Y_Mo_pairing.2.1 107 = .ok (.iand, 1) := by decide +kernel
theorem d_Mo_pairing_108 : decode Y_Mo_pairing.2.1 108 = .ok (.iaload, 1) := by decide +kernel
theorem d_Mo_pairing_109 : decode Y_Mo_pairing.2.1 109 = .ok (.aload_n 0, 1) := by decide +kernel
theorem d_Mo_pairing_110 : decode Y_Mo_pairing.2.1 110 = .ok (.getfield 20, 3) := by decide +kernel
theorem d_Mo_pairing_113 : decode Y_Mo_pairing.2.1 113 = .ok (.bipush 9, 2) := by decide +kernel
theorem d_Mo_pairing_115 : decode Y_Mo_pairing.2.1 115 = .ok (.iload_n 2, 1) := by decide +kernel
theorem d_Mo_pairing_116 : decode Y_Mo_pairing.2.1 116 = .ok (.imul, 1) := by decide +kernel
theorem d_Mo_pairing_117 : decode Y_Mo_pairing.2.1 117 = .ok (.iload_n 3, 1) := by decide +kernel
theorem d_Mo_pairing_118 : decode Y_Mo_pairing.2.1 118 = .ok (.iadd, 1) := by decide +kernel
theorem d_Mo_pairing_119 : decode Y_Mo_pairing.2.1 119 = .ok (.iaload, 1) := by decide +kernel
theorem d_Mo_pairing_120 : decode Y_Mo_pairing.2.1 120 = .ok (.iadd, 1) := by decide +kernel
theorem d_Mo_pairing_121 : decode Y_Mo_pairing.2.1 121 = .ok (.istore 4, 2) := by decide +kernel
theorem d_Mo_pairing_123 : decode Y_Mo_pairing.2.1 123 = .ok (.aload_n 0, 1) := by decide +kernel
theorem d_Mo_pairing_124 : decode Y_Mo_pairing.2.1 124 = .ok (.getfield 66, 3) := by decide +kernel
theorem d_Mo_pairing_127 : decode Y_Mo_pairing.2.1 127 = .ok (.iload_n 1, 1) := by decide +kernel
theorem d_Mo_pairing_128 : decode Y_Mo_pairing.2.1 128 = .ok (.iload 4, 2) := by decide +kernel
theorem d_Mo_pairing_130 : decode Y_Mo_pairing.2.1 130 = .ok (.aload_n 0, 1) := by decide +kernel
theorem d_Mo_pairing_131 : decode Y_Mo_pairing.2.1 131 = .ok (.getfield 66, 3) := by decide +kernel
theorem d_Mo_pairing_134 : decode Y_Mo_pairing.2.1 134 = .ok (.iload_n 1, 1) := by decide +kernel
theorem d_Mo_pairing_135 : decode Y_Mo_pairing.2.1 135 = .ok (.iaload, 1) := by decide +kernel
theorem d_Mo_pairing_136 : decode Y_Mo_pairing.2.1 136 = .ok (.if_icmp .ge 8, 3) := by decide +kernel
theorem d_Mo_pairing_139 : decode Y_Mo_pairing.2.1 139 = .ok (.iload 4, 2) := by decide +kernel
theorem d_Mo_pairing_141 : decode Y_Mo_pairing.2.1 141 = .ok (.goto 9, 3) := by decide +kernel
theorem d_Mo_pairing_144 : decode Y_Mo_pairing.2.1 144 = .ok (.aload_n 0, 1) := by decide +kernel
theorem d_Mo_pairing_145 : decode Y_Mo_pairing.2.1 145 = .ok (.getfield 66, 3) := by decide +kernel
theorem d_Mo_pairing_148 : decode Y_Mo_pairing.2.1 148 = .ok (.iload_n 1, 1) := by decide +kernel
theorem d_Mo_pairing_149 : decode Y_Mo_pairing.2.1 149 = .ok (.iaload, 1) := by decide +kernel
theorem d_Mo_pairing_150 : decode Y_Mo_pairing.2.1 150 = .ok (.iastore, 1) := by decide +kernel
theorem d_Mo_pairing_151 : decode Y_Mo_pairing.2.1 151 = .ok (.iinc 3 1, 3) := by decide +kernel
theorem d_Mo_pairing_154 : decode Y_Mo_pairing.2.1 154 = .ok (.goto (-112), 3) := by decide +kernel
theorem d_Mo_pairing_157 : decode Y_Mo_pairing.2.1 157 = .ok (.iinc 1 1, 3) := by decide +kernel
theorem d_Mo_pairing_160 : decode Y_Mo_pairing.2.1 160 = .ok (.goto (-153), 3) := by decide +kernel
theorem d_Mo_pairing_163 : decode Y_Mo_pairing.2.1 163 = .ok (.aload_n 0, 1) := by decide +kernel
theorem d_Mo_pairing_164 : decode Y_Mo_pairing.2.1 164 = .ok (.getfield 66, 3) := by decide +kernel
theorem d_Mo_pairing_167 : decode Y_Mo_pairing.2.1 167 = .ok (.iconst 1, 1) := by decide +kernel
theorem d_Mo_pairing_168 : decode Y_Mo_pairing.2.1 168 = .ok (.aload_n 0, 1) := by decide +kernel
theorem d_Mo_pairing_169 : decode Y_Mo_pairing.2.1 169 = .ok (.getfield 13, 3) := by decide +kernel
theorem d_Mo_pairing_172 : decode Y_Mo_pairing.2.1 172 = .ok (.ishl, 1) := by decide +kernel
theorem d_Mo_pairing_173 : decode Y_Mo_pairing.2.1 173 = .ok (.iconst 1, 1) := by decide +kernel
theorem d_Mo_pairing_174 : decode Y_Mo_pairing.2.1 174 = .ok (.isub, 1) := by decide +kernel
theorem d_Mo_pairing_175 : decode Y_Mo_pairing.2.1 175 = .ok (.iaload, 1) := by decide +kernel
theorem d_Mo_pairing_176 : decode Y_Mo_pairing.2.1 176 = .ok (.invokestatic 147, 3) := by decide +kernel
theorem d_Mo_pairing_179 : decode Y_Mo_pairing.2.1 179 = .ok (.ireturn, 1) := by decide +kernel
theorem d_Mo_next_0 : decode Y_Mo_next.2.1 0 = .ok (.aload_n 0, 1) := by decide +kernel
theorem d_Mo_next_1 : decode Y_Mo_next.2.1 1 = .ok (.iconst 0, 1) := by decide +kernel
theorem d_Mo_next_2 : decode Y_Mo_next.2.1 2 = .ok (.putfield 1, 3) := by decide +kernel
theorem d_Mo_next_5 : decode Y_Mo_next.2.1 5 = .ok (.aload_n 0, 1) := by decide +kernel
theorem d_Mo_next_6 : decode Y_Mo_next.2.1 6 = .ok (.iload_n 1, 1) := by decide +kernel
theorem d_Mo_next_7 : decode Y_Mo_next.2.1 7 = .ok (.invokevirtual 74, 3) := by decide +kernel
theorem d_Mo_next_10 : decode Y_Mo_next.2.1 10 = .ok (.ifCond .ne 21, 3) := by decide +kernel
theorem d_Mo_next_13 : decode Y_Mo_next.2.1 13 = .ok (.iload_n 2, 1) := by decide +kernel
theorem d_Mo_next_14 : decode Y_Mo_next.2.1 14 = .ok (.iconst (-1), 1) := by decide +kernel
theorem d_Mo_next_15 : decode Y_Mo_next.2.1 15 = .ok (.if_icmp .eq 11, 3) := by decide +kernel
theorem d_Mo_next_18 : decode Y_Mo_next.2.1 18 = .ok (.aload_n 0, 1) := by decide +kernel
theorem d_Mo_next_19 : decode Y_Mo_next.2.1 19 = .ok (.iload_n 2, 1) := by decide +kernel
theorem d_Mo_next_20 : decode Y_Mo_next.2.1 20 = .ok (.invokevirtual 74, 3) := by decide +kernel
theorem d_Mo_next_23 : decode Y_Mo_next.2.1 23 = .ok (.ifCond .ne 8, 3) := by decide +kernel
theorem d_Mo_next_26 : decode Y_Mo_next.2.1 26 = .ok (.iload_n 1, 1) := by decide +kernel
theorem d_Mo_next_27 : decode Y_Mo_next.2.1 27 = .ok (.iload_n 2, 1) := by decide +kernel
theorem d_Mo_next_28 : decode Y_Mo_next.2.1 28 = .ok (.if_icmp .ne 6, 3) := by decide +kernel
theorem d_Mo_next_31 : decode Y_Mo_next.2.1 31 = .ok (.ldc 78, 2) := by decide +kernel
theorem d_Mo_next_33 : decode Y_Mo_next.2.1 33 = .ok (.ireturn, 1) := by decide +kernel
theorem d_Mo_next_34 : decode Y_Mo_next.2.1 34 = .ok (.aload_n 0, 1) := by decide +kernel
theorem d_Mo_next_35 : decode Y_Mo_next.2.1 35 = .ok (.getfield 39, 3) := by decide +kernel
theorem d_Mo_next_38 : decode Y_Mo_next.2.1 38 = .ok (.iload_n 1, 1) := by decide +kernel
theorem d_Mo_next_39 : decode Y_Mo_next.2.1 39 = .ok (.iaload, 1) := by decide +kernel
theorem d_Mo_next_40 : decode Y_Mo_next.2.1 40 = .ok (.istore_n 3, 1) := by decide +kernel
theorem d_Mo_next_41 : decode Y_Mo_next.2.1 41 = .ok (.aload_n 0, 1) := by decide +kernel
theorem d_Mo_next_42 : decode Y_Mo_next.2.1 42 = .ok (.getfield 39, 3) := by decide +kernel
theorem d_Mo_next_45 : decode Y_Mo_next.2.1 45 = .ok (.iload_n 1, 1) := by decide +kernel
theorem d_Mo_next_46 : decode Y_Mo_next.2.1 46 = .ok (.iload_n 2, 1) := by decide +kernel
theorem d_Mo_next_47 : decode Y_Mo_next.2.1 47 = .ok (.iastore, 1) := by decide +kernel
theorem d_Mo_next_48 : decode Y_Mo_next.2.1 48 = .ok (.iload_n 3, 1) := by decide +kernel
theorem d_Mo_next_49 : decode Y_Mo_next.2.1 49 = .ok (.ireturn, 1) := by decide +kernel
theorem d_Mo_circle_0 : decode Y_Mo_circle.2.1 0 = .ok (.aload_n 0, 1) := by decide +kernel
theorem d_Mo_circle_1 : decode Y_Mo_circle.2.1 1 = .ok (.iconst 0, 1) := by decide +kernel
theorem d_Mo_circle_2 : decode Y_Mo_circle.2.1 2 = .ok (.putfield 1, 3) := by decide +kernel
theorem d_Mo_circle_5 : decode Y_Mo_circle.2.1 5 = .ok (.iconst 0, 1) := by decide +kernel
theorem d_Mo_circle_6 : decode Y_Mo_circle.2.1 6 = .ok (.istore_n 2, 1) := by decide +kernel
theorem d_Mo_circle_7 : decode Y_Mo_circle.2.1 7 = .ok (.iconst 0, 1) := by decide +kernel
theorem d_Mo_circle_8 : decode Y_Mo_circle.2.1 8 = .ok (.istore_n 3, 1) := by decide +kernel
theorem d_Mo_circle_9 : decode Y_Mo_circle.2.1 9 = .ok (.iload_n 3, 1) := by decide +kernel
theorem d_Mo_circle_10 : decode Y_Mo_circle.2.1 10 = .ok (.aload_n 0, 1) := by decide +kernel
theorem d_Mo_circle_11 : decode Y_Mo_circle.2.1 11 = .ok (.getfield 13, 3) := by decide +kernel
theorem d_Mo_circle_14 : decode Y_Mo_circle.2.1 14 = .ok (.if_icmp .ge 32, 3) := by decide +kernel
theorem d_Mo_circle_17 : decode Y_Mo_circle.2.1 17 = .ok (.aload_n 0, 1) := by decide +kernel
theorem d_Mo_circle_18 : decode Y_Mo_circle.2.1 18 = .ok (.iload_n 3, 1) := by decide +kernel
theorem d_Mo_circle_19 : decode Y_Mo_circle.2.1 19 = .ok (.invokevirtual 172, 3) := by decide +kernel
theorem d_Mo_circle_22 : decode Y_Mo_circle.2.1 22 = .ok (.istore 4, 2) := by decide +kernel
theorem d_Mo_circle_24 : decode Y_Mo_circle.2.1 24 = .ok (.iload 4, 2) := by decide +kernel
theorem d_Mo_circle_26 : decode Y_Mo_circle.2.1 26 = .ok (.ifCond .eq 14, 3) := by decide +kernel
theorem d_Mo_circle_29 : decode Y_Mo_circle.2.1 29 = .ok (.iload_n 2, 1) := by decide +kernel
theorem d_Mo_circle_30 : decode Y_Mo_circle.2.1 30 = .ok (.iload_n 1, 1) := by decide +kernel
theorem d_Mo_circle_31 : decode Y_Mo_circle.2.1 31 = .ok (.if_icmp .ne 6, 3) := by decide +kernel
theorem d_Mo_circle_34 : decode Y_Mo_circle.2.1 34 = .ok (.iload 4, 2) := by decide +kernel
theorem d_Mo_circle_36 : decode Y_Mo_circle.2.1 36 = .ok (.ireturn, 1) := by decide +kernel
theorem d_Mo_circle_37 : decode Y_Mo_circle.2.1 37 = .ok (.iinc 2 1, 3) := by decide +kernel
theorem d_Mo_circle_40 : decode Y_Mo_circle.2.1 40 = .ok (.iinc 3 1, 3) := by decide +kernel
theorem d_Mo_circle_43 : decode Y_Mo_circle.2.1 43 = .ok (.goto (-34), 3) := by decide +kernel
theorem d_Mo_circle_46 : decode Y_Mo_circle.2.1 46 = .ok (.iload_n 1, 1) := by decide +kernel
theorem d_Mo_circle_47 : decode Y_Mo_circle.2.1 47 = .ok (.iconst (-1), 1) := by decide +kernel
theorem d_Mo_circle_48 : decode Y_Mo_circle.2.1 48 = .ok (.if_icmp .ne 7, 3) := by decide +kernel
theorem d_Mo_circle_51 : decode Y_Mo_circle.2.1 51 = .ok (.iload_n 2, 1) := by decide +kernel
theorem d_Mo_circle_52 : decode Y_Mo_circle.2.1 52 = .ok (.goto 5, 3) := by decide +kernel
theorem d_Mo_circle_55 : decode Y_Mo_circle.2.1 55 = .ok (.ldc 78, 2) := by decide +kernel
theorem d_Mo_circle_57 : decode Y_Mo_circle.2.1 57 = .ok (.ireturn, 1) := by decide +kernel
theorem d_Mo_circleOf_0 : decode Y_Mo_circleOf.2.1 0 = .ok (.iconst 0, 1) := by decide +kernel
theorem d_Mo_circleOf_1 : decode Y_Mo_circleOf.2.1 1 = .ok (.istore_n 2, 1) := by decide +kernel
theorem d_Mo_circleOf_2 : decode Y_Mo_circleOf.2.1 2 = .ok (.iload_n 1, 1) := by decide +kernel
theorem d_Mo_circleOf_3 : decode Y_Mo_circleOf.2.1 3 = .ok (.istore_n 3, 1) := by decide +kernel
theorem d_Mo_circleOf_4 : decode Y_Mo_circleOf.2.1 4 = .ok (.iconst 0, 1) := by decide +kernel
theorem d_Mo_circleOf_5 : decode Y_Mo_circleOf.2.1 5 = .ok (.istore 4, 2) := by decide +kernel
theorem d_Mo_circleOf_7 : decode Y_Mo_circleOf.2.1 7 = .ok (.iload 4, 2) := by decide +kernel
theorem d_Mo_circleOf_9 : decode Y_Mo_circleOf.2.1 9 = .ok (.bipush 9, 2) := by decide +kernel
theorem d_Mo_circleOf_11 : decode Y_Mo_circleOf.2.1 11 = .ok (.if_icmp .ge 34, 3) := by decide +kernel
theorem d_Mo_circleOf_14 : decode Y_Mo_circleOf.2.1 14 = .ok (.iload_n 3, 1) := by decide +kernel
theorem d_Mo_circleOf_15 : decode Y_Mo_circleOf.2.1 15 = .ok (.iload_n 1, 1) := by decide +kernel
theorem d_Mo_circleOf_16 : decode Y_Mo_circleOf.2.1 16 = .ok (.if_icmp .lt 29, 3) := by decide +kernel
theorem d_Mo_circleOf_19 : decode Y_Mo_circleOf.2.1 19 = .ok (.iload_n 2, 1) := by decide +kernel
theorem d_Mo_circleOf_20 : decode Y_Mo_circleOf.2.1 20 = .ok (.iconst 1, 1) := by decide +kernel
theorem d_Mo_circleOf_21 : decode Y_Mo_circleOf.2.1 21 = .ok (.iload_n 3, 1) := by decide +kernel
theorem d_Mo_circleOf_22 : decode Y_Mo_circleOf.2.1 22 = .ok (.ishl, 1) := by decide +kernel
theorem d_Mo_circleOf_23 : decode Y_Mo_circleOf.2.1 23 = .ok (.ior, 1) := by decide +kernel
theorem d_Mo_circleOf_24 : decode Y_Mo_circleOf.2.1 24 = .ok (.istore_n 2, 1) := by decide +kernel
theorem d_Mo_circleOf_25 : decode Y_Mo_circleOf.2.1 25 = .ok (.aload_n 0, 1) := by decide +kernel
theorem d_Mo_circleOf_26 : decode Y_Mo_circleOf.2.1 26 = .ok (.getfield 39, 3) := by decide +kernel
theorem d_Mo_circleOf_29 : decode Y_Mo_circleOf.2.1 29 = .ok (.iload_n 3, 1) := by decide +kernel
theorem d_Mo_circleOf_30 : decode Y_Mo_circleOf.2.1 30 = .ok (.iaload, 1) := by decide +kernel
theorem d_Mo_circleOf_31 : decode Y_Mo_circleOf.2.1 31 = .ok (.istore_n 3, 1) := by decide +kernel
theorem d_Mo_circleOf_32 : decode Y_Mo_circleOf.2.1 32 = .ok (.iload_n 3, 1) := by decide +kernel
theorem d_Mo_circleOf_33 : decode Y_Mo_circleOf.2.1 33 = .ok (.iload_n 1, 1) := by decide +kernel
theorem d_Mo_circleOf_34 : decode Y_Mo_circleOf.2.1 34 = .ok (.if_icmp .ne 5, 3) := by decide +kernel
theorem d_Mo_circleOf_37 : decode Y_Mo_circleOf.2.1 37 = .ok (.iload_n 2, 1) := by decide +kernel
theorem d_Mo_circleOf_38 : decode Y_Mo_circleOf.2.1 38 = .ok (.ireturn, 1) := by decide +kernel
theorem d_Mo_circleOf_39 : decode Y_Mo_circleOf.2.1 39 = .ok (.iinc 4 1, 3) := by decide +kernel
theorem d_Mo_circleOf_42 : decode Y_Mo_circleOf.2.1 42 = .ok (.goto (-35), 3) := by decide +kernel
theorem d_Mo_circleOf_45 : decode Y_Mo_circleOf.2.1 45 = .ok (.iconst 0, 1) := by decide +kernel
theorem d_Mo_circleOf_46 : decode Y_Mo_circleOf.2.1 46 = .ok (.ireturn, 1) := by decide +kernel
theorem d_Mo_nearest_0 : decode Y_Mo_nearest.2.1 0 = .ok (.aload_n 0, 1) := by decide +kernel
theorem d_Mo_nearest_1 : decode Y_Mo_nearest.2.1 1 = .ok (.iconst 0, 1) := by decide +kernel
theorem d_Mo_nearest_2 : decode Y_Mo_nearest.2.1 2 = .ok (.putfield 1, 3) := by decide +kernel
theorem d_Mo_nearest_5 : decode Y_Mo_nearest.2.1 5 = .ok (.aload_n 0, 1) := by decide +kernel
theorem d_Mo_nearest_6 : decode Y_Mo_nearest.2.1 6 = .ok (.iload_n 1, 1) := by decide +kernel
theorem d_Mo_nearest_7 : decode Y_Mo_nearest.2.1 7 = .ok (.invokevirtual 74, 3) := by decide +kernel
theorem d_Mo_nearest_10 : decode Y_Mo_nearest.2.1 10 = .ok (.ifCond .eq 6, 3) := by decide +kernel
theorem d_Mo_nearest_13 : decode Y_Mo_nearest.2.1 13 = .ok (.ldc 78, 2) := by decide +kernel
theorem d_Mo_nearest_15 : decode Y_Mo_nearest.2.1 15 = .ok (.ireturn, 1) := by decide +kernel
theorem d_Mo_nearest_16 : decode Y_Mo_nearest.2.1 16 = .ok (.iconst 0, 1) := by decide +kernel
theorem d_Mo_nearest_17 : decode Y_Mo_nearest.2.1 17 = .ok (.istore_n 2, 1) := by decide +kernel
theorem d_Mo_nearest_18 : decode Y_Mo_nearest.2.1 18 = .ok (.iload_n 2, 1) := by decide +kernel
theorem d_Mo_nearest_19 : decode Y_Mo_nearest.2.1 19 = .ok (.aload_n 0, 1) := by decide +kernel
theorem d_Mo_nearest_20 : decode Y_Mo_nearest.2.1 20 = .ok (.getfield 13, 3) := by decide +kernel
theorem d_Mo_nearest_23 : decode Y_Mo_nearest.2.1 23 = .ok (.if_icmp .ge 76, 3) := by decide +kernel
theorem d_Mo_nearest_26 : decode Y_Mo_nearest.2.1 26 = .ok (.aload_n 0, 1) := by decide +kernel
theorem d_Mo_nearest_27 : decode Y_Mo_nearest.2.1 27 = .ok (.iload_n 2, 1) := by decide +kernel
theorem d_Mo_nearest_28 : decode Y_Mo_nearest.2.1 28 = .ok (.iload_n 1, 1) := by decide +kernel
theorem d_Mo_nearest_29 : decode Y_Mo_nearest.2.1 29 = .ok (.invokevirtual 178, 3) := by decide +kernel
theorem d_Mo_nearest_32 : decode Y_Mo_nearest.2.1 32 = .ok (.istore_n 3, 1) := by decide +kernel
theorem d_Mo_nearest_33 : decode Y_Mo_nearest.2.1 33 = .ok (.iconst 0, 1) := by decide +kernel
theorem d_Mo_nearest_34 : decode Y_Mo_nearest.2.1 34 = .ok (.istore 4, 2) := by decide +kernel
theorem d_Mo_nearest_36 : decode Y_Mo_nearest.2.1 36 = .ok (.iload 4, 2) := by decide +kernel
theorem d_Mo_nearest_38 : decode Y_Mo_nearest.2.1 38 = .ok (.aload_n 0, 1) := by decide +kernel
theorem d_Mo_nearest_39 : decode Y_Mo_nearest.2.1 39 = .ok (.getfield 13, 3) := by decide +kernel
theorem d_Mo_nearest_42 : decode Y_Mo_nearest.2.1 42 = .ok (.if_icmp .ge 45, 3) := by decide +kernel
theorem d_Mo_nearest_45 : decode Y_Mo_nearest.2.1 45 = .ok (.iload_n 3, 1) := by decide +kernel
theorem d_Mo_nearest_46 : decode Y_Mo_nearest.2.1 46 = .ok (.ifCond .eq 41, 3) := by decide +kernel
theorem d_Mo_nearest_49 : decode Y_Mo_nearest.2.1 49 = .ok (.iload 4, 2) := by decide +kernel
theorem d_Mo_nearest_51 : decode Y_Mo_nearest.2.1 51 = .ok (.iload_n 2, 1) := by decide +kernel
theorem d_Mo_nearest_52 : decode Y_Mo_nearest.2.1 52 = .ok (.if_icmp .eq 23, 3) := by decide +kernel
theorem d_Mo_nearest_55 : decode Y_Mo_nearest.2.1 55 = .ok (.aload_n 0, 1) := by decide +kernel
theorem d_Mo_nearest_56 : decode Y_Mo_nearest.2.1 56 = .ok (.iload 4, 2) := by decide +kernel
theorem d_Mo_nearest_58 : decode Y_Mo_nearest.2.1 58 = .ok (.iload_n 1, 1) := by decide +kernel
theorem d_Mo_nearest_59 : decode Y_Mo_nearest.2.1 59 = .ok (.invokevirtual 178, 3) := by decide +kernel
theorem d_Mo_nearest_62 : decode Y_Mo_nearest.2.1 62 = .ok (.ifCond .eq 13, 3) := by decide +kernel
theorem d_Mo_nearest_65 : decode Y_Mo_nearest.2.1 65 = .ok (.aload_n 0, 1) := by decide +kernel
theorem d_Mo_nearest_66 : decode Y_Mo_nearest.2.1 66 = .ok (.iload 4, 2) := by decide +kernel
theorem d_Mo_nearest_68 : decode Y_Mo_nearest.2.1 68 = .ok (.iload_n 2, 1) := by decide +kernel
theorem d_Mo_nearest_69 : decode Y_Mo_nearest.2.1 69 = .ok (.invokevirtual 178, 3) := by decide +kernel
theorem d_Mo_nearest_72 : decode Y_Mo_nearest.2.1 72 = .ok (.ifCond .eq 7, 3) := by decide +kernel
theorem d_Mo_nearest_75 : decode Y_Mo_nearest.2.1 75 = .ok (.iconst 1, 1) := by decide +kernel
theorem d_Mo_nearest_76 : decode Y_Mo_nearest.2.1 76 = .ok (.goto 4, 3) := by decide +kernel
theorem d_Mo_nearest_79 : decode Y_Mo_nearest.2.1 79 = .ok (.iconst 0, 1) := by decide +kernel
theorem d_Mo_nearest_80 : decode Y_Mo_nearest.2.1 80 = .ok (.istore_n 3, 1) := by decide +kernel
theorem d_Mo_nearest_81 : decode Y_Mo_nearest.2.1 81 = .ok (.iinc 4 1, 3) := by decide +kernel
theorem d_Mo_nearest_84 : decode Y_Mo_nearest.2.1 84 = .ok (.goto (-48), 3) := by decide +kernel
theorem d_Mo_nearest_87 : decode Y_Mo_nearest.2.1 87 = .ok (.iload_n 3, 1) := by decide +kernel
theorem d_Mo_nearest_88 : decode Y_Mo_nearest.2.1 88 = .ok (.ifCond .eq 5, 3) := by decide +kernel
theorem d_Mo_nearest_91 : decode Y_Mo_nearest.2.1 91 = .ok (.iload_n 2, 1) := by decide +kernel
theorem d_Mo_nearest_92 : decode Y_Mo_nearest.2.1 92 = .ok (.ireturn, 1) := by decide +kernel
theorem d_Mo_nearest_93 : decode Y_Mo_nearest.2.1 93 = .ok (.iinc 2 1, 3) := by decide +kernel
theorem d_Mo_nearest_96 : decode Y_Mo_nearest.2.1 96 = .ok (.goto (-78), 3) := by decide +kernel
theorem d_Mo_nearest_99 : decode Y_Mo_nearest.2.1 99 = .ok (.ldc 88, 2) := by decide +kernel
theorem d_Mo_nearest_101 : decode Y_Mo_nearest.2.1 101 = .ok (.ireturn, 1) := by decide +kernel
theorem d_Mo_leads_0 : decode Y_Mo_leads.2.1 0 = .ok (.iload_n 1, 1) := by decide +kernel
theorem d_Mo_leads_1 : decode Y_Mo_leads.2.1 1 = .ok (.iload_n 2, 1) := by decide +kernel
theorem d_Mo_leads_2 : decode Y_Mo_leads.2.1 2 = .ok (.if_icmp .eq 36, 3) := by decide +kernel
theorem d_Mo_leads_5 : decode Y_Mo_leads.2.1 5 = .ok (.iload_n 2, 1) := by decide +kernel
theorem d_Mo_leads_6 : decode Y_Mo_leads.2.1 6 = .ok (.ifCond .eq 32, 3) := by decide +kernel
theorem d_Mo_leads_9 : decode Y_Mo_leads.2.1 9 = .ok (.aload_n 0, 1) := by decide +kernel
theorem d_Mo_leads_10 : decode Y_Mo_leads.2.1 10 = .ok (.iconst (-1), 1) := by decide +kernel
theorem d_Mo_leads_11 : decode Y_Mo_leads.2.1 11 = .ok (.invokevirtual 175, 3) := by decide +kernel
theorem d_Mo_leads_14 : decode Y_Mo_leads.2.1 14 = .ok (.iload_n 2, 1) := by decide +kernel
theorem d_Mo_leads_15 : decode Y_Mo_leads.2.1 15 = .ok (.ishr, 1) := by decide +kernel
theorem d_Mo_leads_16 : decode Y_Mo_leads.2.1 16 = .ok (.iconst 1, 1) := by decide +kernel
theorem d_Mo_leads_17 : decode Y_Mo_leads.2.1 17 = .ok (.iand, 1) := by decide +kernel
theorem d_Mo_leads_18 : decode Y_Mo_leads.2.1 18 = .ok (.iconst 1, 1) := by decide +kernel
end
section
theorem d_Mo_leads_19 : decode Y_Mo_leads.2.1 19 = .ok (.if_icmp .ne 19, 3) := by decide +kernel
theorem d_Mo_leads_22 : decode Y_Mo_leads.2.1 22 = .ok (.aload_n 0, 1) := by decide +kernel
theorem d_Mo_leads_23 : decode Y_Mo_leads.2.1 23 = .ok (.iload_n 1, 1) := by decide +kernel
theorem d_Mo_leads_24 : decode Y_Mo_leads.2.1 24 = .ok (.invokevirtual 175, 3) := by decide +kernel
theorem d_Mo_leads_27 : decode Y_Mo_leads.2.1 27 = .ok (.iload_n 2, 1) := by decide +kernel
theorem d_Mo_leads_28 : decode Y_Mo_leads.2.1 28 = .ok (.ishr, 1) := by decide +kernel
theorem d_Mo_leads_29 : decode Y_Mo_leads.2.1 29 = .ok (.iconst 1, 1) := by decide +kernel
theorem d_Mo_leads_30 : decode Y_Mo_leads.2.1 30 = .ok (.iand, 1) := by decide +kernel
theorem d_Mo_leads_31 : decode Y_Mo_leads.2.1 31 = .ok (.ifCond .ne 7, 3) := by decide +kernel
theorem d_Mo_leads_34 : decode Y_Mo_leads.2.1 34 = .ok (.iconst 1, 1) := by decide +kernel
theorem d_Mo_leads_35 : decode Y_Mo_leads.2.1 35 = .ok (.goto 4, 3) := by decide +kernel
theorem d_Mo_leads_38 : decode Y_Mo_leads.2.1 38 = .ok (.iconst 0, 1) := by decide +kernel
theorem d_Mo_leads_39 : decode Y_Mo_leads.2.1 39 = .ok (.ireturn, 1) := by decide +kernel
theorem d_Mo_reached_0 : decode Y_Mo_reached.2.1 0 = .ok (.iload_n 1, 1) := by decide +kernel
theorem d_Mo_reached_1 : decode Y_Mo_reached.2.1 1 = .ok (.ifCond .ne 7, 3) := by decide +kernel
theorem d_Mo_reached_4 : decode Y_Mo_reached.2.1 4 = .ok (.iconst 0, 1) := by decide +kernel
theorem d_Mo_reached_5 : decode Y_Mo_reached.2.1 5 = .ok (.goto 4, 3) := by decide +kernel
theorem d_Mo_reached_8 : decode Y_Mo_reached.2.1 8 = .ok (.iconst 1, 1) := by decide +kernel
theorem d_Mo_reached_9 : decode Y_Mo_reached.2.1 9 = .ok (.istore_n 2, 1) := by decide +kernel
theorem d_Mo_reached_10 : decode Y_Mo_reached.2.1 10 = .ok (.iconst 1, 1) := by decide +kernel
theorem d_Mo_reached_11 : decode Y_Mo_reached.2.1 11 = .ok (.istore_n 3, 1) := by decide +kernel
theorem d_Mo_reached_12 : decode Y_Mo_reached.2.1 12 = .ok (.iload_n 3, 1) := by decide +kernel
theorem d_Mo_reached_13 : decode Y_Mo_reached.2.1 13 = .ok (.ifCond .eq 98, 3) := by decide +kernel
theorem d_Mo_reached_16 : decode Y_Mo_reached.2.1 16 = .ok (.iload_n 2, 1) := by decide +kernel
theorem d_Mo_reached_17 : decode Y_Mo_reached.2.1 17 = .ok (.istore 4, 2) := by decide +kernel
theorem d_Mo_reached_19 : decode Y_Mo_reached.2.1 19 = .ok (.iconst 0, 1) := by decide +kernel
theorem d_Mo_reached_20 : decode Y_Mo_reached.2.1 20 = .ok (.istore 5, 2) := by decide +kernel
theorem d_Mo_reached_22 : decode Y_Mo_reached.2.1 22 = .ok (.iload 5, 2) := by decide +kernel
theorem d_Mo_reached_24 : decode Y_Mo_reached.2.1 24 = .ok (.aload_n 0, 1) := by decide +kernel
theorem d_Mo_reached_25 : decode Y_Mo_reached.2.1 25 = .ok (.getfield 13, 3) := by decide +kernel
theorem d_Mo_reached_28 : decode Y_Mo_reached.2.1 28 = .ok (.if_icmp .ge 68, 3) := by decide +kernel
theorem d_Mo_reached_31 : decode Y_Mo_reached.2.1 31 = .ok (.iconst 0, 1) := by decide +kernel
theorem d_Mo_reached_32 : decode Y_Mo_reached.2.1 32 = .ok (.istore 6, 2) := by decide +kernel
theorem d_Mo_reached_34 : decode Y_Mo_reached.2.1 34 = .ok (.iload 6, 2) := by decide +kernel
theorem d_Mo_reached_36 : decode Y_Mo_reached.2.1 36 = .ok (.aload_n 0, 1) := by decide +kernel
theorem d_Mo_reached_37 : decode Y_Mo_reached.2.1 37 = .ok (.getfield 13, 3) := by decide +kernel
theorem d_Mo_reached_40 : decode Y_Mo_reached.2.1 40 = .ok (.if_icmp .ge 50, 3) := by decide +kernel
theorem d_Mo_reached_43 : decode Y_Mo_reached.2.1 43 = .ok (.iload_n 2, 1) := by decide +kernel
theorem d_Mo_reached_44 : decode Y_Mo_reached.2.1 44 = .ok (.iload 5, 2) := by decide +kernel
theorem d_Mo_reached_46 : decode Y_Mo_reached.2.1 46 = .ok (.ishr, 1) := by decide +kernel
theorem d_Mo_reached_47 : decode Y_Mo_reached.2.1 47 = .ok (.iconst 1, 1) := by decide +kernel
theorem d_Mo_reached_48 : decode Y_Mo_reached.2.1 48 = .ok (.iand, 1) := by decide +kernel
theorem d_Mo_reached_49 : decode Y_Mo_reached.2.1 49 = .ok (.iconst 1, 1) := by decide +kernel
theorem d_Mo_reached_50 : decode Y_Mo_reached.2.1 50 = .ok (.if_icmp .ne 34, 3) := by decide +kernel
theorem d_Mo_reached_53 : decode Y_Mo_reached.2.1 53 = .ok (.iload 6, 2) := by decide +kernel
theorem d_Mo_reached_55 : decode Y_Mo_reached.2.1 55 = .ok (.iload_n 1, 1) := by decide +kernel
theorem d_Mo_reached_56 : decode Y_Mo_reached.2.1 56 = .ok (.if_icmp .eq 28, 3) := by decide +kernel
theorem d_Mo_reached_59 : decode Y_Mo_reached.2.1 59 = .ok (.aload_n 0, 1) := by decide +kernel
theorem d_Mo_reached_60 : decode Y_Mo_reached.2.1 60 = .ok (.getfield 20, 3) := by decide +kernel
theorem d_Mo_reached_63 : decode Y_Mo_reached.2.1 63 = .ok (.bipush 9, 2) := by decide +kernel
theorem d_Mo_reached_65 : decode Y_Mo_reached.2.1 65 = .ok (.iload 5, 2) := by decide +kernel
theorem d_Mo_reached_67 : decode Y_Mo_reached.2.1 67 = .ok (.imul, 1) := by decide +kernel
theorem d_Mo_reached_68 : decode Y_Mo_reached.2.1 68 = .ok (.iload 6, 2) := by decide +kernel
theorem d_Mo_reached_70 : decode Y_Mo_reached.2.1 70 = .ok (.iadd, 1) := by decide +kernel
theorem d_Mo_reached_71 : decode Y_Mo_reached.2.1 71 = .ok (.iaload, 1) := by decide +kernel
theorem d_Mo_reached_72 : decode Y_Mo_reached.2.1 72 = .ok (.ldc 69, 2) := by decide +kernel
theorem d_Mo_reached_74 : decode Y_Mo_reached.2.1 74 = .ok (.if_icmp .eq 10, 3) := by decide +kernel
theorem d_Mo_reached_77 : decode Y_Mo_reached.2.1 77 = .ok (.iload_n 2, 1) := by decide +kernel
theorem d_Mo_reached_78 : decode Y_Mo_reached.2.1 78 = .ok (.iconst 1, 1) := by decide +kernel
theorem d_Mo_reached_79 : decode Y_Mo_reached.2.1 79 = .ok (.iload 6, 2) := by decide +kernel
theorem d_Mo_reached_81 : decode Y_Mo_reached.2.1 81 = .ok (.ishl, 1) := by decide +kernel
theorem d_Mo_reached_82 : decode Y_Mo_reached.2.1 82 = .ok (.ior, 1) := by decide +kernel
theorem d_Mo_reached_83 : decode Y_Mo_reached.2.1 83 = .ok (.istore_n 2, 1) := by decide +kernel
theorem d_Mo_reached_84 : decode Y_Mo_reached.2.1 84 = .ok (.iinc 6 1, 3) := by decide +kernel
theorem d_Mo_reached_87 : decode Y_Mo_reached.2.1 87 = .ok (.goto (-53), 3) := by decide +kernel
theorem d_Mo_reached_90 : decode Y_Mo_reached.2.1 90 = .ok (.iinc 5 1, 3) := by decide +kernel
theorem d_Mo_reached_93 : decode Y_Mo_reached.2.1 93 = .ok (.goto (-71), 3) := by decide +kernel
theorem d_Mo_reached_96 : decode Y_Mo_reached.2.1 96 = .ok (.iload_n 2, 1) := by decide +kernel
theorem d_Mo_reached_97 : decode Y_Mo_reached.2.1 97 = .ok (.iload 4, 2) := by decide +kernel
theorem d_Mo_reached_99 : decode Y_Mo_reached.2.1 99 = .ok (.if_icmp .eq 7, 3) := by decide +kernel
theorem d_Mo_reached_102 : decode Y_Mo_reached.2.1 102 = .ok (.iconst 1, 1) := by decide +kernel
theorem d_Mo_reached_103 : decode Y_Mo_reached.2.1 103 = .ok (.goto 4, 3) := by decide +kernel
theorem d_Mo_reached_106 : decode Y_Mo_reached.2.1 106 = .ok (.iconst 0, 1) := by decide +kernel
theorem d_Mo_reached_107 : decode Y_Mo_reached.2.1 107 = .ok (.istore_n 3, 1) := by decide +kernel
theorem d_Mo_reached_108 : decode Y_Mo_reached.2.1 108 = .ok (.goto (-96), 3) := by decide +kernel
theorem d_Mo_reached_111 : decode Y_Mo_reached.2.1 111 = .ok (.iload_n 2, 1) := by decide +kernel
theorem d_Mo_reached_112 : decode Y_Mo_reached.2.1 112 = .ok (.ireturn, 1) := by decide +kernel
theorem d_Mo_put_0 : decode Y_Mo_put.2.1 0 = .ok (.aload_n 0, 1) := by decide +kernel
theorem d_Mo_put_1 : decode Y_Mo_put.2.1 1 = .ok (.iconst 0, 1) := by decide +kernel
theorem d_Mo_put_2 : decode Y_Mo_put.2.1 2 = .ok (.putfield 1, 3) := by decide +kernel
theorem d_Mo_put_5 : decode Y_Mo_put.2.1 5 = .ok (.aload_n 0, 1) := by decide +kernel
theorem d_Mo_put_6 : decode Y_Mo_put.2.1 6 = .ok (.iload_n 1, 1) := by decide +kernel
theorem d_Mo_put_7 : decode Y_Mo_put.2.1 7 = .ok (.invokevirtual 74, 3) := by decide +kernel
theorem d_Mo_put_10 : decode Y_Mo_put.2.1 10 = .ok (.ifCond .eq 6, 3) := by decide +kernel
theorem d_Mo_put_13 : decode Y_Mo_put.2.1 13 = .ok (.ldc 78, 2) := by decide +kernel
theorem d_Mo_put_15 : decode Y_Mo_put.2.1 15 = .ok (.ireturn, 1) := by decide +kernel
theorem d_Mo_put_16 : decode Y_Mo_put.2.1 16 = .ok (.aload_n 0, 1) := by decide +kernel
theorem d_Mo_put_17 : decode Y_Mo_put.2.1 17 = .ok (.getfield 181, 3) := by decide +kernel
theorem d_Mo_put_20 : decode Y_Mo_put.2.1 20 = .ok (.bipush 20, 2) := by decide +kernel
theorem d_Mo_put_22 : decode Y_Mo_put.2.1 22 = .ok (.if_icmp .ne 6, 3) := by decide +kernel
theorem d_Mo_put_25 : decode Y_Mo_put.2.1 25 = .ok (.ldc 79, 2) := by decide +kernel
theorem d_Mo_put_27 : decode Y_Mo_put.2.1 27 = .ok (.ireturn, 1) := by decide +kernel
theorem d_Mo_put_28 : decode Y_Mo_put.2.1 28 = .ok (.aload_n 0, 1) := by decide +kernel
theorem d_Mo_put_29 : decode Y_Mo_put.2.1 29 = .ok (.getfield 42, 3) := by decide +kernel
theorem d_Mo_put_32 : decode Y_Mo_put.2.1 32 = .ok (.aload_n 0, 1) := by decide +kernel
theorem d_Mo_put_33 : decode Y_Mo_put.2.1 33 = .ok (.getfield 181, 3) := by decide +kernel
theorem d_Mo_put_36 : decode Y_Mo_put.2.1 36 = .ok (.iload_n 1, 1) := by decide +kernel
theorem d_Mo_put_37 : decode Y_Mo_put.2.1 37 = .ok (.iastore, 1) := by decide +kernel
theorem d_Mo_put_38 : decode Y_Mo_put.2.1 38 = .ok (.aload_n 0, 1) := by decide +kernel
theorem d_Mo_put_39 : decode Y_Mo_put.2.1 39 = .ok (.dup, 1) := by decide +kernel
theorem d_Mo_put_40 : decode Y_Mo_put.2.1 40 = .ok (.getfield 181, 3) := by decide +kernel
theorem d_Mo_put_43 : decode Y_Mo_put.2.1 43 = .ok (.iconst 1, 1) := by decide +kernel
theorem d_Mo_put_44 : decode Y_Mo_put.2.1 44 = .ok (.iadd, 1) := by decide +kernel
theorem d_Mo_put_45 : decode Y_Mo_put.2.1 45 = .ok (.putfield 181, 3) := by decide +kernel
theorem d_Mo_put_48 : decode Y_Mo_put.2.1 48 = .ok (.aload_n 0, 1) := by decide +kernel
theorem d_Mo_put_49 : decode Y_Mo_put.2.1 49 = .ok (.getfield 181, 3) := by decide +kernel
theorem d_Mo_put_52 : decode Y_Mo_put.2.1 52 = .ok (.ireturn, 1) := by decide +kernel
theorem d_Mo_keep_0 : decode Y_Mo_keep.2.1 0 = .ok (.aload_n 0, 1) := by decide +kernel
theorem d_Mo_keep_1 : decode Y_Mo_keep.2.1 1 = .ok (.iconst 0, 1) := by decide +kernel
theorem d_Mo_keep_2 : decode Y_Mo_keep.2.1 2 = .ok (.putfield 1, 3) := by decide +kernel
theorem d_Mo_keep_5 : decode Y_Mo_keep.2.1 5 = .ok (.iload_n 1, 1) := by decide +kernel
theorem d_Mo_keep_6 : decode Y_Mo_keep.2.1 6 = .ok (.iconst 0, 1) := by decide +kernel
theorem d_Mo_keep_7 : decode Y_Mo_keep.2.1 7 = .ok (.aload_n 0, 1) := by decide +kernel
theorem d_Mo_keep_8 : decode Y_Mo_keep.2.1 8 = .ok (.getfield 181, 3) := by decide +kernel
theorem d_Mo_keep_11 : decode Y_Mo_keep.2.1 11 = .ok (.invokestatic 70, 3) := by decide +kernel
theorem d_Mo_keep_14 : decode Y_Mo_keep.2.1 14 = .ok (.ifCond .ne 6, 3) := by decide +kernel
theorem d_Mo_keep_17 : decode Y_Mo_keep.2.1 17 = .ok (.ldc 78, 2) := by decide +kernel
theorem d_Mo_keep_19 : decode Y_Mo_keep.2.1 19 = .ok (.ireturn, 1) := by decide +kernel
theorem d_Mo_keep_20 : decode Y_Mo_keep.2.1 20 = .ok (.aload_n 0, 1) := by decide +kernel
theorem d_Mo_keep_21 : decode Y_Mo_keep.2.1 21 = .ok (.getfield 181, 3) := by decide +kernel
theorem d_Mo_keep_24 : decode Y_Mo_keep.2.1 24 = .ok (.istore_n 2, 1) := by decide +kernel
theorem d_Mo_keep_25 : decode Y_Mo_keep.2.1 25 = .ok (.aload_n 0, 1) := by decide +kernel
theorem d_Mo_keep_26 : decode Y_Mo_keep.2.1 26 = .ok (.iload_n 1, 1) := by decide +kernel
theorem d_Mo_keep_27 : decode Y_Mo_keep.2.1 27 = .ok (.putfield 181, 3) := by decide +kernel
theorem d_Mo_keep_30 : decode Y_Mo_keep.2.1 30 = .ok (.iload_n 2, 1) := by decide +kernel
theorem d_Mo_keep_31 : decode Y_Mo_keep.2.1 31 = .ok (.ireturn, 1) := by decide +kernel
theorem d_Mo_check_0 : decode Y_Mo_check.2.1 0 = .ok (.aload_n 0, 1) := by decide +kernel
theorem d_Mo_check_1 : decode Y_Mo_check.2.1 1 = .ok (.iconst 0, 1) := by decide +kernel
theorem d_Mo_check_2 : decode Y_Mo_check.2.1 2 = .ok (.putfield 1, 3) := by decide +kernel
theorem d_Mo_check_5 : decode Y_Mo_check.2.1 5 = .ok (.aload_n 0, 1) := by decide +kernel
theorem d_Mo_check_6 : decode Y_Mo_check.2.1 6 = .ok (.iconst 0, 1) := by decide +kernel
theorem d_Mo_check_7 : decode Y_Mo_check.2.1 7 = .ok (.iconst (-1), 1) := by decide +kernel
theorem d_Mo_check_8 : decode Y_Mo_check.2.1 8 = .ok (.invokevirtual 184, 3) := by decide +kernel
theorem d_Mo_check_11 : decode Y_Mo_check.2.1 11 = .ok (.invokestatic 147, 3) := by decide +kernel
theorem d_Mo_check_14 : decode Y_Mo_check.2.1 14 = .ok (.ireturn, 1) := by decide +kernel
theorem d_Mo_costOf_0 : decode Y_Mo_costOf.2.1 0 = .ok (.iload_n 2, 1) := by decide +kernel
theorem d_Mo_costOf_1 : decode Y_Mo_costOf.2.1 1 = .ok (.ifCond .ge 10, 3) := by decide +kernel
theorem d_Mo_costOf_4 : decode Y_Mo_costOf.2.1 4 = .ok (.aload_n 0, 1) := by decide +kernel
theorem d_Mo_costOf_5 : decode Y_Mo_costOf.2.1 5 = .ok (.getfield 181, 3) := by decide +kernel
theorem d_Mo_costOf_8 : decode Y_Mo_costOf.2.1 8 = .ok (.goto 9, 3) := by decide +kernel
theorem d_Mo_costOf_11 : decode Y_Mo_costOf.2.1 11 = .ok (.aload_n 0, 1) := by decide +kernel
theorem d_Mo_costOf_12 : decode Y_Mo_costOf.2.1 12 = .ok (.getfield 181, 3) := by decide +kernel
theorem d_Mo_costOf_15 : decode Y_Mo_costOf.2.1 15 = .ok (.iconst 1, 1) := by decide +kernel
theorem d_Mo_costOf_16 : decode Y_Mo_costOf.2.1 16 = .ok (.iadd, 1) := by decide +kernel
theorem d_Mo_costOf_17 : decode Y_Mo_costOf.2.1 17 = .ok (.istore_n 3, 1) := by decide +kernel
theorem d_Mo_costOf_18 : decode Y_Mo_costOf.2.1 18 = .ok (.iconst 0, 1) := by decide +kernel
theorem d_Mo_costOf_19 : decode Y_Mo_costOf.2.1 19 = .ok (.istore 4, 2) := by decide +kernel
theorem d_Mo_costOf_21 : decode Y_Mo_costOf.2.1 21 = .ok (.iconst 0, 1) := by decide +kernel
theorem d_Mo_costOf_22 : decode Y_Mo_costOf.2.1 22 = .ok (.istore 5, 2) := by decide +kernel
theorem d_Mo_costOf_24 : decode Y_Mo_costOf.2.1 24 = .ok (.iconst 0, 1) := by decide +kernel
theorem d_Mo_costOf_25 : decode Y_Mo_costOf.2.1 25 = .ok (.istore 6, 2) := by decide +kernel
theorem d_Mo_costOf_27 : decode Y_Mo_costOf.2.1 27 = .ok (.aload_n 0, 1) := by decide +kernel
theorem d_Mo_costOf_28 : decode Y_Mo_costOf.2.1 28 = .ok (.iconst 0, 1) := by decide +kernel
theorem d_Mo_costOf_29 : decode Y_Mo_costOf.2.1 29 = .ok (.putfield 92, 3) := by decide +kernel
theorem d_Mo_costOf_32 : decode Y_Mo_costOf.2.1 32 = .ok (.aload_n 0, 1) := by decide +kernel
theorem d_Mo_costOf_33 : decode Y_Mo_costOf.2.1 33 = .ok (.iconst 0, 1) := by decide +kernel
theorem d_Mo_costOf_34 : decode Y_Mo_costOf.2.1 34 = .ok (.putfield 98, 3) := by decide +kernel
theorem d_Mo_costOf_37 : decode Y_Mo_costOf.2.1 37 = .ok (.aload_n 0, 1) := by decide +kernel
theorem d_Mo_costOf_38 : decode Y_Mo_costOf.2.1 38 = .ok (.iconst 0, 1) := by decide +kernel
theorem d_Mo_costOf_39 : decode Y_Mo_costOf.2.1 39 = .ok (.putfield 95, 3) := by decide +kernel
theorem d_Mo_costOf_42 : decode Y_Mo_costOf.2.1 42 = .ok (.iconst 0, 1) := by decide +kernel
theorem d_Mo_costOf_43 : decode Y_Mo_costOf.2.1 43 = .ok (.istore 7, 2) := by decide +kernel
theorem d_Mo_costOf_45 : decode Y_Mo_costOf.2.1 45 = .ok (.iload 7, 2) := by decide +kernel
theorem d_Mo_costOf_47 : decode Y_Mo_costOf.2.1 47 = .ok (.iload_n 3, 1) := by decide +kernel
theorem d_Mo_costOf_48 : decode Y_Mo_costOf.2.1 48 = .ok (.if_icmp .ge 230, 3) := by decide +kernel
theorem d_Mo_costOf_51 : decode Y_Mo_costOf.2.1 51 = .ok (.iload_n 2, 1) := by decide +kernel
theorem d_Mo_costOf_52 : decode Y_Mo_costOf.2.1 52 = .ok (.ifCond .lt 9, 3) := by decide +kernel
theorem d_Mo_costOf_55 : decode Y_Mo_costOf.2.1 55 = .ok (.iload 7, 2) := by decide +kernel
theorem d_Mo_costOf_57 : decode Y_Mo_costOf.2.1 57 = .ok (.iload_n 2, 1) := by decide +kernel
theorem d_Mo_costOf_58 : decode Y_Mo_costOf.2.1 58 = .ok (.if_icmp .ge 13, 3) := by decide +kernel
theorem d_Mo_costOf_61 : decode Y_Mo_costOf.2.1 61 = .ok (.aload_n 0, 1) := by decide +kernel
theorem d_Mo_costOf_62 : decode Y_Mo_costOf.2.1 62 = .ok (.getfield 42, 3) := by decide +kernel
theorem d_Mo_costOf_65 : decode Y_Mo_costOf.2.1 65 = .ok (.iload 7, 2) := by decide +kernel
theorem d_Mo_costOf_67 : decode Y_Mo_costOf.2.1 67 = .ok (.iaload, 1) := by decide +kernel
theorem d_Mo_costOf_68 : decode Y_Mo_costOf.2.1 68 = .ok (.goto 22, 3) := by decide +kernel
theorem d_Mo_costOf_71 : decode Y_Mo_costOf.2.1 71 = .ok (.iload 7, 2) := by decide +kernel
theorem d_Mo_costOf_73 : decode Y_Mo_costOf.2.1 73 = .ok (.iload_n 2, 1) := by decide +kernel
theorem d_Mo_costOf_74 : decode Y_Mo_costOf.2.1 74 = .ok (.if_icmp .ne 7, 3) := by decide +kernel
theorem d_Mo_costOf_77 : decode Y_Mo_costOf.2.1 77 = .ok (.iload_n 1, 1) := by decide +kernel
theorem d_Mo_costOf_78 : decode Y_Mo_costOf.2.1 78 = .ok (.goto 12, 3) := by decide +kernel
theorem d_Mo_costOf_81 : decode Y_Mo_costOf.2.1 81 = .ok (.aload_n 0, 1) := by decide +kernel
theorem d_Mo_costOf_82 : decode Y_Mo_costOf.2.1 82 = .ok (.getfield 42, 3) := by decide +kernel
theorem d_Mo_costOf_85 : decode Y_Mo_costOf.2.1 85 = .ok (.iload 7, 2) := by decide +kernel
theorem d_Mo_costOf_87 : decode Y_Mo_costOf.2.1 87 = .ok (.iconst 1, 1) := by decide +kernel
theorem d_Mo_costOf_88 : decode Y_Mo_costOf.2.1 88 = .ok (.isub, 1) := by decide +kernel
theorem d_Mo_costOf_89 : decode Y_Mo_costOf.2.1 89 = .ok (.iaload, 1) := by decide +kernel
theorem d_Mo_costOf_90 : decode Y_Mo_costOf.2.1 90 = .ok (.istore 8, 2) := by decide +kernel
theorem d_Mo_costOf_92 : decode Y_Mo_costOf.2.1 92 = .ok (.iload 8, 2) := by decide +kernel
theorem d_Mo_costOf_94 : decode Y_Mo_costOf.2.1 94 = .ok (.ifCond .ne 84, 3) := by decide +kernel
theorem d_Mo_costOf_97 : decode Y_Mo_costOf.2.1 97 = .ok (.iload 5, 2) := by decide +kernel
theorem d_Mo_costOf_99 : decode Y_Mo_costOf.2.1 99 = .ok (.ifCond .eq 33, 3) := by decide +kernel
theorem d_Mo_costOf_102 : decode Y_Mo_costOf.2.1 102 = .ok (.iload 7, 2) := by decide +kernel
theorem d_Mo_costOf_104 : decode Y_Mo_costOf.2.1 104 = .ok (.iload_n 3, 1) := by decide +kernel
theorem d_Mo_costOf_105 : decode Y_Mo_costOf.2.1 105 = .ok (.iconst 1, 1) := by decide +kernel
theorem d_Mo_costOf_106 : decode Y_Mo_costOf.2.1 106 = .ok (.isub, 1) := by decide +kernel
theorem d_Mo_costOf_107 : decode Y_Mo_costOf.2.1 107 = .ok (.if_icmp .eq 25, 3) := by decide +kernel
theorem d_Mo_costOf_110 : decode Y_Mo_costOf.2.1 110 = .ok (.aload_n 0, 1) := by decide +kernel
theorem d_Mo_costOf_111 : decode Y_Mo_costOf.2.1 111 = .ok (.getfield 89, 3) := by decide +kernel
theorem d_Mo_costOf_114 : decode Y_Mo_costOf.2.1 114 = .ok (.ifCond .ne 21, 3) := by decide +kernel
theorem d_Mo_costOf_117 : decode Y_Mo_costOf.2.1 117 = .ok (.aload_n 0, 1) := by decide +kernel
theorem d_Mo_costOf_118 : decode Y_Mo_costOf.2.1 118 = .ok (.getfield 20, 3) := by decide +kernel
theorem d_Mo_costOf_121 : decode Y_Mo_costOf.2.1 121 = .ok (.bipush 9, 2) := by decide +kernel
theorem d_Mo_costOf_123 : decode Y_Mo_costOf.2.1 123 = .ok (.iload 5, 2) := by decide +kernel
theorem d_Mo_costOf_125 : decode Y_Mo_costOf.2.1 125 = .ok (.imul, 1) := by decide +kernel
theorem d_Mo_costOf_126 : decode Y_Mo_costOf.2.1 126 = .ok (.iaload, 1) := by decide +kernel
theorem d_Mo_costOf_127 : decode Y_Mo_costOf.2.1 127 = .ok (.ldc 69, 2) := by decide +kernel
theorem d_Mo_costOf_129 : decode Y_Mo_costOf.2.1 129 = .ok (.if_icmp .ne 6, 3) := by decide +kernel
theorem d_Mo_costOf_132 : decode Y_Mo_costOf.2.1 132 = .ok (.ldc 101, 2) := by decide +kernel
theorem d_Mo_costOf_134 : decode Y_Mo_costOf.2.1 134 = .ok (.ireturn, 1) := by decide +kernel
theorem d_Mo_costOf_135 : decode Y_Mo_costOf.2.1 135 = .ok (.iload 4, 2) := by decide +kernel
theorem d_Mo_costOf_137 : decode Y_Mo_costOf.2.1 137 = .ok (.aload_n 0, 1) := by decide +kernel
theorem d_Mo_costOf_138 : decode Y_Mo_costOf.2.1 138 = .ok (.getfield 89, 3) := by decide +kernel
theorem d_Mo_costOf_141 : decode Y_Mo_costOf.2.1 141 = .ok (.iconst 1, 1) := by decide +kernel
theorem d_Mo_costOf_142 : decode Y_Mo_costOf.2.1 142 = .ok (.if_icmp .ne 7, 3) := by decide +kernel
theorem d_Mo_costOf_145 : decode Y_Mo_costOf.2.1 145 = .ok (.iconst 0, 1) := by decide +kernel
theorem d_Mo_costOf_146 : decode Y_Mo_costOf.2.1 146 = .ok (.goto 13, 3) := by decide +kernel
theorem d_Mo_costOf_149 : decode Y_Mo_costOf.2.1 149 = .ok (.aload_n 0, 1) := by decide +kernel
theorem d_Mo_costOf_150 : decode Y_Mo_costOf.2.1 150 = .ok (.getfield 20, 3) := by decide +kernel
theorem d_Mo_costOf_153 : decode Y_Mo_costOf.2.1 153 = .ok (.bipush 9, 2) := by decide +kernel
theorem d_Mo_costOf_155 : decode Y_Mo_costOf.2.1 155 = .ok (.iload 5, 2) := by decide +kernel
theorem d_Mo_costOf_157 : decode Y_Mo_costOf.2.1 157 = .ok (.imul, 1) := by decide +kernel
theorem d_Mo_costOf_158 : decode Y_Mo_costOf.2.1 158 = .ok (.iaload, 1) := by decide +kernel
theorem d_Mo_costOf_159 : decode Y_Mo_costOf.2.1 159 = .ok (.iadd, 1) := by decide +kernel
theorem d_Mo_costOf_160 : decode Y_Mo_costOf.2.1 160 = .ok (.istore 4, 2) := by decide +kernel
theorem d_Mo_costOf_162 : decode Y_Mo_costOf.2.1 162 = .ok (.iconst 0, 1) := by decide +kernel
theorem d_Mo_costOf_163 : decode Y_Mo_costOf.2.1 163 = .ok (.istore 5, 2) := by decide +kernel
theorem d_Mo_costOf_165 : decode Y_Mo_costOf.2.1 165 = .ok (.aload_n 0, 1) := by decide +kernel
theorem d_Mo_costOf_166 : decode Y_Mo_costOf.2.1 166 = .ok (.iconst 0, 1) := by decide +kernel
theorem d_Mo_costOf_167 : decode Y_Mo_costOf.2.1 167 = .ok (.putfield 98, 3) := by decide +kernel
theorem d_Mo_costOf_170 : decode Y_Mo_costOf.2.1 170 = .ok (.aload_n 0, 1) := by decide +kernel
theorem d_Mo_costOf_171 : decode Y_Mo_costOf.2.1 171 = .ok (.iconst 0, 1) := by decide +kernel
theorem d_Mo_costOf_172 : decode Y_Mo_costOf.2.1 172 = .ok (.putfield 95, 3) := by decide +kernel
theorem d_Mo_costOf_175 : decode Y_Mo_costOf.2.1 175 = .ok (.goto 97, 3) := by decide +kernel
theorem d_Mo_costOf_178 : decode Y_Mo_costOf.2.1 178 = .ok (.aload_n 0, 1) := by decide +kernel
theorem d_Mo_costOf_179 : decode Y_Mo_costOf.2.1 179 = .ok (.iload 5, 2) := by decide +kernel
theorem d_Mo_costOf_181 : decode Y_Mo_costOf.2.1 181 = .ok (.iload 8, 2) := by decide +kernel
theorem d_Mo_costOf_183 : decode Y_Mo_costOf.2.1 183 = .ok (.invokevirtual 125, 3) := by decide +kernel
theorem d_Mo_costOf_186 : decode Y_Mo_costOf.2.1 186 = .ok (.ifCond .ne 6, 3) := by decide +kernel
theorem d_Mo_costOf_189 : decode Y_Mo_costOf.2.1 189 = .ok (.ldc 101, 2) := by decide +kernel
theorem d_Mo_costOf_191 : decode Y_Mo_costOf.2.1 191 = .ok (.ireturn, 1) := by decide +kernel
theorem d_Mo_costOf_192 : decode Y_Mo_costOf.2.1 192 = .ok (.iload 5, 2) := by decide +kernel
theorem d_Mo_costOf_194 : decode Y_Mo_costOf.2.1 194 = .ok (.ifCond .ne 10, 3) := by decide +kernel
theorem d_Mo_costOf_197 : decode Y_Mo_costOf.2.1 197 = .ok (.iload 6, 2) := by decide +kernel
theorem d_Mo_costOf_199 : decode Y_Mo_costOf.2.1 199 = .ok (.iconst 1, 1) := by decide +kernel
theorem d_Mo_costOf_200 : decode Y_Mo_costOf.2.1 200 = .ok (.iadd, 1) := by decide +kernel
theorem d_Mo_costOf_201 : decode Y_Mo_costOf.2.1 201 = .ok (.goto 5, 3) := by decide +kernel
theorem d_Mo_costOf_204 : decode Y_Mo_costOf.2.1 204 = .ok (.iload 6, 2) := by decide +kernel
theorem d_Mo_costOf_206 : decode Y_Mo_costOf.2.1 206 = .ok (.istore 6, 2) := by decide +kernel
theorem d_Mo_costOf_208 : decode Y_Mo_costOf.2.1 208 = .ok (.iload 4, 2) := by decide +kernel
theorem d_Mo_costOf_210 : decode Y_Mo_costOf.2.1 210 = .ok (.aload_n 0, 1) := by decide +kernel
theorem d_Mo_costOf_211 : decode Y_Mo_costOf.2.1 211 = .ok (.getfield 20, 3) := by decide +kernel
theorem d_Mo_costOf_214 : decode Y_Mo_costOf.2.1 214 = .ok (.bipush 9, 2) := by decide +kernel
theorem d_Mo_costOf_216 : decode Y_Mo_costOf.2.1 216 = .ok (.iload 5, 2) := by decide +kernel
theorem d_Mo_costOf_218 : decode Y_Mo_costOf.2.1 218 = .ok (.imul, 1) := by decide +kernel
theorem d_Mo_costOf_219 : decode Y_Mo_costOf.2.1 219 = .ok (.iload 8, 2) := by decide +kernel
theorem d_Mo_costOf_221 : decode Y_Mo_costOf.2.1 221 = .ok (.iadd, 1) := by decide +kernel
theorem d_Mo_costOf_222 : decode Y_Mo_costOf.2.1 222 = .ok (.iaload, 1) := by decide +kernel
theorem d_Mo_costOf_223 : decode Y_Mo_costOf.2.1 223 = .ok (.iadd, 1) := by decide +kernel
theorem d_Mo_costOf_224 : decode Y_Mo_costOf.2.1 224 = .ok (.istore 4, 2) := by decide +kernel
theorem d_Mo_costOf_226 : decode Y_Mo_costOf.2.1 226 = .ok (.aload_n 0, 1) := by decide +kernel
theorem d_Mo_costOf_227 : decode Y_Mo_costOf.2.1 227 = .ok (.aload_n 0, 1) := by decide +kernel
theorem d_Mo_costOf_228 : decode Y_Mo_costOf.2.1 228 = .ok (.getfield 92, 3) := by decide +kernel
theorem d_Mo_costOf_231 : decode Y_Mo_costOf.2.1 231 = .ok (.iconst 1, 1) := by decide +kernel
theorem d_Mo_costOf_232 : decode Y_Mo_costOf.2.1 232 = .ok (.iload 8, 2) := by decide +kernel
theorem d_Mo_costOf_234 : decode Y_Mo_costOf.2.1 234 = .ok (.ishl, 1) := by decide +kernel
theorem d_Mo_costOf_235 : decode Y_Mo_costOf.2.1 235 = .ok (.ior, 1) := by decide +kernel
theorem d_Mo_costOf_236 : decode Y_Mo_costOf.2.1 236 = .ok (.putfield 92, 3) := by decide +kernel
theorem d_Mo_costOf_239 : decode Y_Mo_costOf.2.1 239 = .ok (.aload_n 0, 1) := by decide +kernel
theorem d_Mo_costOf_240 : decode Y_Mo_costOf.2.1 240 = .ok (.aload_n 0, 1) := by decide +kernel
theorem d_Mo_costOf_241 : decode Y_Mo_costOf.2.1 241 = .ok (.getfield 98, 3) := by decide +kernel
theorem d_Mo_costOf_244 : decode Y_Mo_costOf.2.1 244 = .ok (.iconst 1, 1) := by decide +kernel
theorem d_Mo_costOf_245 : decode Y_Mo_costOf.2.1 245 = .ok (.iload 8, 2) := by decide +kernel
theorem d_Mo_costOf_247 : decode Y_Mo_costOf.2.1 247 = .ok (.ishl, 1) := by decide +kernel
theorem d_Mo_costOf_248 : decode Y_Mo_costOf.2.1 248 = .ok (.ior, 1) := by decide +kernel
theorem d_Mo_costOf_249 : decode Y_Mo_costOf.2.1 249 = .ok (.putfield 98, 3) := by decide +kernel
theorem d_Mo_costOf_252 : decode Y_Mo_costOf.2.1 252 = .ok (.aload_n 0, 1) := by decide +kernel
theorem d_Mo_costOf_253 : decode Y_Mo_costOf.2.1 253 = .ok (.aload_n 0, 1) := by decide +kernel
theorem d_Mo_costOf_254 : decode Y_Mo_costOf.2.1 254 = .ok (.getfield 95, 3) := by decide +kernel
theorem d_Mo_costOf_257 : decode Y_Mo_costOf.2.1 257 = .ok (.aload_n 0, 1) := by decide +kernel
theorem d_Mo_costOf_258 : decode Y_Mo_costOf.2.1 258 = .ok (.getfield 16, 3) := by decide +kernel
theorem d_Mo_costOf_261 : decode Y_Mo_costOf.2.1 261 = .ok (.iload 8, 2) := by decide +kernel
theorem d_Mo_costOf_263 : decode Y_Mo_costOf.2.1 263 = .ok (.iaload, 1) := by decide +kernel
theorem d_Mo_costOf_264 : decode Y_Mo_costOf.2.1 264 = .ok (.iadd, 1) := by decide +kernel
theorem d_Mo_costOf_265 : decode Y_Mo_costOf.2.1 265 = .ok (.putfield 95, 3) := by decide +kernel
theorem d_Mo_costOf_268 : decode Y_Mo_costOf.2.1 268 = .ok (.iload 8, 2) := by decide +kernel
theorem d_Mo_costOf_270 : decode Y_Mo_costOf.2.1 270 = .ok (.istore 5, 2) := by decide +kernel
theorem d_Mo_costOf_272 : decode Y_Mo_costOf.2.1 272 = .ok (.iinc 7 1, 3) := by decide +kernel
theorem d_Mo_costOf_275 : decode Y_Mo_costOf.2.1 275 = .ok (.goto (-230), 3) := by decide +kernel
theorem d_Mo_costOf_278 : decode Y_Mo_costOf.2.1 278 = .ok (.iload 6, 2) := by decide +kernel
theorem d_Mo_costOf_280 : decode Y_Mo_costOf.2.1 280 = .ok (.aload_n 0, 1) := by decide +kernel
theorem d_Mo_costOf_281 : decode Y_Mo_costOf.2.1 281 = .ok (.getfield 30, 3) := by decide +kernel
theorem d_Mo_costOf_284 : decode Y_Mo_costOf.2.1 284 = .ok (.if_icmp .gt 30, 3) := by decide +kernel
theorem d_Mo_costOf_287 : decode Y_Mo_costOf.2.1 287 = .ok (.iload 5, 2) := by decide +kernel
theorem d_Mo_costOf_289 : decode Y_Mo_costOf.2.1 289 = .ok (.ifCond .le 28, 3) := by decide +kernel
theorem d_Mo_costOf_292 : decode Y_Mo_costOf.2.1 292 = .ok (.aload_n 0, 1) := by decide +kernel
theorem d_Mo_costOf_293 : decode Y_Mo_costOf.2.1 293 = .ok (.getfield 89, 3) := by decide +kernel
theorem d_Mo_costOf_296 : decode Y_Mo_costOf.2.1 296 = .ok (.ifCond .ne 21, 3) := by decide +kernel
theorem d_Mo_costOf_299 : decode Y_Mo_costOf.2.1 299 = .ok (.aload_n 0, 1) := by decide +kernel
theorem d_Mo_costOf_300 : decode Y_Mo_costOf.2.1 300 = .ok (.getfield 20, 3) := by decide +kernel
theorem d_Mo_costOf_303 : decode Y_Mo_costOf.2.1 303 = .ok (.bipush 9, 2) := by decide +kernel
theorem d_Mo_costOf_305 : decode Y_Mo_costOf.2.1 305 = .ok (.iload 5, 2) := by decide +kernel
theorem d_Mo_costOf_307 : decode Y_Mo_costOf.2.1 307 = .ok (.imul, 1) := by decide +kernel
theorem d_Mo_costOf_308 : decode Y_Mo_costOf.2.1 308 = .ok (.iaload, 1) := by decide +kernel
theorem d_Mo_costOf_309 : decode Y_Mo_costOf.2.1 309 = .ok (.ldc 69, 2) := by decide +kernel
theorem d_Mo_costOf_311 : decode Y_Mo_costOf.2.1 311 = .ok (.if_icmp .ne 6, 3) := by decide +kernel
theorem d_Mo_costOf_314 : decode Y_Mo_costOf.2.1 314 = .ok (.ldc 101, 2) := by decide +kernel
theorem d_Mo_costOf_316 : decode Y_Mo_costOf.2.1 316 = .ok (.ireturn, 1) := by decide +kernel
theorem d_Mo_costOf_317 : decode Y_Mo_costOf.2.1 317 = .ok (.iload 5, 2) := by decide +kernel
theorem d_Mo_costOf_319 : decode Y_Mo_costOf.2.1 319 = .ok (.ifCond .le 26, 3) := by decide +kernel
theorem d_Mo_costOf_322 : decode Y_Mo_costOf.2.1 322 = .ok (.aload_n 0, 1) := by decide +kernel
theorem d_Mo_costOf_323 : decode Y_Mo_costOf.2.1 323 = .ok (.getfield 89, 3) := by decide +kernel
theorem d_Mo_costOf_326 : decode Y_Mo_costOf.2.1 326 = .ok (.ifCond .ne 19, 3) := by decide +kernel
theorem d_Mo_costOf_329 : decode Y_Mo_costOf.2.1 329 = .ok (.iload 4, 2) := by decide +kernel
theorem d_Mo_costOf_331 : decode Y_Mo_costOf.2.1 331 = .ok (.aload_n 0, 1) := by decide +kernel
theorem d_Mo_costOf_332 : decode Y_Mo_costOf.2.1 332 = .ok (.getfield 20, 3) := by decide +kernel
theorem d_Mo_costOf_335 : decode Y_Mo_costOf.2.1 335 = .ok (.bipush 9, 2) := by decide +kernel
theorem d_Mo_costOf_337 : decode Y_Mo_costOf.2.1 337 = .ok (.iload 5, 2) := by decide +kernel
theorem d_Mo_costOf_339 : decode Y_Mo_costOf.2.1 339 = .ok (.imul, 1) := by decide +kernel
theorem d_Mo_costOf_340 : decode Y_Mo_costOf.2.1 340 = .ok (.iaload, 1) := by decide +kernel
theorem d_Mo_costOf_341 : decode Y_Mo_costOf.2.1 341 = .ok (.iadd, 1) := by decide +kernel
theorem d_Mo_costOf_342 : decode Y_Mo_costOf.2.1 342 = .ok (.goto 5, 3) := by decide +kernel
theorem d_Mo_costOf_345 : decode Y_Mo_costOf.2.1 345 = .ok (.iload 4, 2) := by decide +kernel
theorem d_Mo_costOf_347 : decode Y_Mo_costOf.2.1 347 = .ok (.istore 4, 2) := by decide +kernel
theorem d_Mo_costOf_349 : decode Y_Mo_costOf.2.1 349 = .ok (.iconst 1, 1) := by decide +kernel
theorem d_Mo_costOf_350 : decode Y_Mo_costOf.2.1 350 = .ok (.istore 7, 2) := by decide +kernel
theorem d_Mo_costOf_352 : decode Y_Mo_costOf.2.1 352 = .ok (.iload 7, 2) := by decide +kernel
theorem d_Mo_costOf_354 : decode Y_Mo_costOf.2.1 354 = .ok (.aload_n 0, 1) := by decide +kernel
theorem d_Mo_costOf_355 : decode Y_Mo_costOf.2.1 355 = .ok (.getfield 13, 3) := by decide +kernel
theorem d_Mo_costOf_358 : decode Y_Mo_costOf.2.1 358 = .ok (.if_icmp .ge 46, 3) := by decide +kernel
theorem d_Mo_costOf_361 : decode Y_Mo_costOf.2.1 361 = .ok (.aload_n 0, 1) := by decide +kernel
theorem d_Mo_costOf_362 : decode Y_Mo_costOf.2.1 362 = .ok (.getfield 92, 3) := by decide +kernel
theorem d_Mo_costOf_365 : decode Y_Mo_costOf.2.1 365 = .ok (.iload 7, 2) := by decide +kernel
theorem d_Mo_costOf_367 : decode Y_Mo_costOf.2.1 367 = .ok (.ishr, 1) := by decide +kernel
theorem d_Mo_costOf_368 : decode Y_Mo_costOf.2.1 368 = .ok (.iconst 1, 1) := by decide +kernel
theorem d_Mo_costOf_369 : decode Y_Mo_costOf.2.1 369 = .ok (.iand, 1) := by decide +kernel
theorem d_Mo_costOf_370 : decode Y_Mo_costOf.2.1 370 = .ok (.ifCond .ne 28, 3) := by decide +kernel
theorem d_Mo_costOf_373 : decode Y_Mo_costOf.2.1 373 = .ok (.aload_n 0, 1) := by decide +kernel
theorem d_Mo_costOf_374 : decode Y_Mo_costOf.2.1 374 = .ok (.getfield 23, 3) := by decide +kernel
theorem d_Mo_costOf_377 : decode Y_Mo_costOf.2.1 377 = .ok (.iload 7, 2) := by decide +kernel
theorem d_Mo_costOf_379 : decode Y_Mo_costOf.2.1 379 = .ok (.iaload, 1) := by decide +kernel
theorem d_Mo_costOf_380 : decode Y_Mo_costOf.2.1 380 = .ok (.ifCond .ge 6, 3) := by decide +kernel
theorem d_Mo_costOf_383 : decode Y_Mo_costOf.2.1 383 = .ok (.ldc 101, 2) := by decide +kernel
theorem d_Mo_costOf_385 : decode Y_Mo_costOf.2.1 385 = .ok (.ireturn, 1) := by decide +kernel
theorem d_Mo_costOf_386 : decode Y_Mo_costOf.2.1 386 = .ok (.iload 4, 2) := by decide +kernel
theorem d_Mo_costOf_388 : decode Y_Mo_costOf.2.1 388 = .ok (.aload_n 0, 1) := by decide +kernel
theorem d_Mo_costOf_389 : decode Y_Mo_costOf.2.1 389 = .ok (.getfield 23, 3) := by decide +kernel
theorem d_Mo_costOf_392 : decode Y_Mo_costOf.2.1 392 = .ok (.iload 7, 2) := by decide +kernel
theorem d_Mo_costOf_394 : decode Y_Mo_costOf.2.1 394 = .ok (.iaload, 1) := by decide +kernel
theorem d_Mo_costOf_395 : decode Y_Mo_costOf.2.1 395 = .ok (.iadd, 1) := by decide +kernel
theorem d_Mo_costOf_396 : decode Y_Mo_costOf.2.1 396 = .ok (.istore 4, 2) := by decide +kernel
theorem d_Mo_costOf_398 : decode Y_Mo_costOf.2.1 398 = .ok (.iinc 7 1, 3) := by decide +kernel
theorem d_Mo_costOf_401 : decode Y_Mo_costOf.2.1 401 = .ok (.goto (-49), 3) := by decide +kernel
theorem d_Mo_costOf_404 : decode Y_Mo_costOf.2.1 404 = .ok (.iload 4, 2) := by decide +kernel
theorem d_Mo_costOf_406 : decode Y_Mo_costOf.2.1 406 = .ok (.ireturn, 1) := by decide +kernel
theorem d_Mo_insert_0 : decode Y_Mo_insert.2.1 0 = .ok (.aload_n 0, 1) := by decide +kernel
theorem d_Mo_insert_1 : decode Y_Mo_insert.2.1 1 = .ok (.iconst 0, 1) := by decide +kernel
theorem d_Mo_insert_2 : decode Y_Mo_insert.2.1 2 = .ok (.putfield 1, 3) := by decide +kernel
theorem d_Mo_insert_5 : decode Y_Mo_insert.2.1 5 = .ok (.aload_n 0, 1) := by decide +kernel
theorem d_Mo_insert_6 : decode Y_Mo_insert.2.1 6 = .ok (.iload_n 1, 1) := by decide +kernel
theorem d_Mo_insert_7 : decode Y_Mo_insert.2.1 7 = .ok (.invokevirtual 74, 3) := by decide +kernel
theorem d_Mo_insert_10 : decode Y_Mo_insert.2.1 10 = .ok (.ifCond .ne 7, 3) := by decide +kernel
theorem d_Mo_insert_13 : decode Y_Mo_insert.2.1 13 = .ok (.iload_n 1, 1) := by decide +kernel
theorem d_Mo_insert_14 : decode Y_Mo_insert.2.1 14 = .ok (.ifCond .ne 6, 3) := by decide +kernel
theorem d_Mo_insert_17 : decode Y_Mo_insert.2.1 17 = .ok (.ldc 78, 2) := by decide +kernel
theorem d_Mo_insert_19 : decode Y_Mo_insert.2.1 19 = .ok (.ireturn, 1) := by decide +kernel
theorem d_Mo_insert_20 : decode Y_Mo_insert.2.1 20 = .ok (.aload_n 0, 1) := by decide +kernel
theorem d_Mo_insert_21 : decode Y_Mo_insert.2.1 21 = .ok (.getfield 181, 3) := by decide +kernel
theorem d_Mo_insert_24 : decode Y_Mo_insert.2.1 24 = .ok (.bipush 20, 2) := by decide +kernel
theorem d_Mo_insert_26 : decode Y_Mo_insert.2.1 26 = .ok (.if_icmp .ne 6, 3) := by decide +kernel
theorem d_Mo_insert_29 : decode Y_Mo_insert.2.1 29 = .ok (.ldc 79, 2) := by decide +kernel
theorem d_Mo_insert_31 : decode Y_Mo_insert.2.1 31 = .ok (.ireturn, 1) := by decide +kernel
theorem d_Mo_insert_32 : decode Y_Mo_insert.2.1 32 = .ok (.ldc 88, 2) := by decide +kernel
theorem d_Mo_insert_34 : decode Y_Mo_insert.2.1 34 = .ok (.istore_n 2, 1) := by decide +kernel
theorem d_Mo_insert_35 : decode Y_Mo_insert.2.1 35 = .ok (.ldc 101, 2) := by decide +kernel
theorem d_Mo_insert_37 : decode Y_Mo_insert.2.1 37 = .ok (.istore_n 3, 1) := by decide +kernel
theorem d_Mo_insert_38 : decode Y_Mo_insert.2.1 38 = .ok (.iconst 0, 1) := by decide +kernel
theorem d_Mo_insert_39 : decode Y_Mo_insert.2.1 39 = .ok (.istore 4, 2) := by decide +kernel
theorem d_Mo_insert_41 : decode Y_Mo_insert.2.1 41 = .ok (.iload 4, 2) := by decide +kernel
theorem d_Mo_insert_43 : decode Y_Mo_insert.2.1 43 = .ok (.aload_n 0, 1) := by decide +kernel
theorem d_Mo_insert_44 : decode Y_Mo_insert.2.1 44 = .ok (.getfield 181, 3) := by decide +kernel
theorem d_Mo_insert_47 : decode Y_Mo_insert.2.1 47 = .ok (.if_icmp .gt 30, 3) := by decide +kernel
theorem d_Mo_insert_50 : decode Y_Mo_insert.2.1 50 = .ok (.aload_n 0, 1) := by decide +kernel
theorem d_Mo_insert_51 : decode Y_Mo_insert.2.1 51 = .ok (.iload_n 1, 1) := by decide +kernel
theorem d_Mo_insert_52 : decode Y_Mo_insert.2.1 52 = .ok (.iload 4, 2) := by decide +kernel
theorem d_Mo_insert_54 : decode Y_Mo_insert.2.1 54 = .ok (.invokevirtual 184, 3) := by decide +kernel
theorem d_Mo_insert_57 : decode Y_Mo_insert.2.1 57 = .ok (.istore 5, 2) := by decide +kernel
theorem d_Mo_insert_59 : decode Y_Mo_insert.2.1 59 = .ok (.iload 5, 2) := by decide +kernel
theorem d_Mo_insert_61 : decode Y_Mo_insert.2.1 61 = .ok (.iload_n 3, 1) := by decide +kernel
theorem d_Mo_insert_62 : decode Y_Mo_insert.2.1 62 = .ok (.if_icmp .ge 9, 3) := by decide +kernel
theorem d_Mo_insert_65 : decode Y_Mo_insert.2.1 65 = .ok (.iload 5, 2) := by decide +kernel
theorem d_Mo_insert_67 : decode Y_Mo_insert.2.1 67 = .ok (.istore_n 3, 1) := by decide +kernel
theorem d_Mo_insert_68 : decode Y_Mo_insert.2.1 68 = .ok (.iload 4, 2) := by decide +kernel
theorem d_Mo_insert_70 : decode Y_Mo_insert.2.1 70 = .ok (.istore_n 2, 1) := by decide +kernel
theorem d_Mo_insert_71 : decode Y_Mo_insert.2.1 71 = .ok (.iinc 4 1, 3) := by decide +kernel
theorem d_Mo_insert_74 : decode Y_Mo_insert.2.1 74 = .ok (.goto (-33), 3) := by decide +kernel
theorem d_Mo_insert_77 : decode Y_Mo_insert.2.1 77 = .ok (.iload_n 2, 1) := by decide +kernel
theorem d_Mo_insert_78 : decode Y_Mo_insert.2.1 78 = .ok (.ireturn, 1) := by decide +kernel
theorem d_Mo_count_0 : decode Y_Mo_count.2.1 0 = .ok (.aload_n 0, 1) := by decide +kernel
theorem d_Mo_count_1 : decode Y_Mo_count.2.1 1 = .ok (.iconst 0, 1) := by decide +kernel
theorem d_Mo_count_2 : decode Y_Mo_count.2.1 2 = .ok (.putfield 1, 3) := by decide +kernel
theorem d_Mo_count_5 : decode Y_Mo_count.2.1 5 = .ok (.iconst 0, 1) := by decide +kernel
theorem d_Mo_count_6 : decode Y_Mo_count.2.1 6 = .ok (.istore_n 2, 1) := by decide +kernel
theorem d_Mo_count_7 : decode Y_Mo_count.2.1 7 = .ok (.iload_n 1, 1) := by decide +kernel
theorem d_Mo_count_8 : decode Y_Mo_count.2.1 8 = .ok (.tableswitch 137 0 6 #[44, 49, 84, 117, 122, 127, 132], 44) := by decide +kernel
theorem d_Mo_count_52 : decode Y_Mo_count.2.1 52 = .ok (.aload_n 0, 1) := by decide +kernel
theorem d_Mo_count_53 : decode Y_Mo_count.2.1 53 = .ok (.getfield 13, 3) := by decide +kernel
theorem d_Mo_count_56 : decode Y_Mo_count.2.1 56 = .ok (.ireturn, 1) := by decide +kernel
theorem d_Mo_count_57 : decode Y_Mo_count.2.1 57 = .ok (.iconst 0, 1) := by decide +kernel
theorem d_Mo_count_58 : decode Y_Mo_count.2.1 58 = .ok (.istore_n 3, 1) := by decide +kernel
theorem d_Mo_count_59 : decode Y_Mo_count.2.1 59 = .ok (.iload_n 3, 1) := by decide +kernel
theorem d_Mo_count_60 : decode Y_Mo_count.2.1 60 = .ok (.bipush 81, 2) := by decide +kernel
theorem d_Mo_count_62 : decode Y_Mo_count.2.1 62 = .ok (.if_icmp .ge 28, 3) := by decide +kernel
theorem d_Mo_count_65 : decode Y_Mo_count.2.1 65 = .ok (.aload_n 0, 1) := by decide +kernel
theorem d_Mo_count_66 : decode Y_Mo_count.2.1 66 = .ok (.getfield 20, 3) := by decide +kernel
theorem d_Mo_count_69 : decode Y_Mo_count.2.1 69 = .ok (.iload_n 3, 1) := by decide +kernel
theorem d_Mo_count_70 : decode Y_Mo_count.2.1 70 = .ok (.iaload, 1) := by decide +kernel
theorem d_Mo_count_71 : decode Y_Mo_count.2.1 71 = .ok (.ldc 69, 2) := by decide +kernel
theorem d_Mo_count_73 : decode Y_Mo_count.2.1 73 = .ok (.if_icmp .eq 9, 3) := by decide +kernel
theorem d_Mo_count_76 : decode Y_Mo_count.2.1 76 = .ok (.iload_n 2, 1) := by decide +kernel
theorem d_Mo_count_77 : decode Y_Mo_count.2.1 77 = .ok (.iconst 1, 1) := by decide +kernel
theorem d_Mo_count_78 : decode Y_Mo_count.2.1 78 = .ok (.iadd, 1) := by decide +kernel
theorem d_Mo_count_79 : decode Y_Mo_count.2.1 79 = .ok (.goto 4, 3) := by decide +kernel
theorem d_Mo_count_82 : decode Y_Mo_count.2.1 82 = .ok (.iload_n 2, 1) := by decide +kernel
theorem d_Mo_count_83 : decode Y_Mo_count.2.1 83 = .ok (.istore_n 2, 1) := by decide +kernel
theorem d_Mo_count_84 : decode Y_Mo_count.2.1 84 = .ok (.iinc 3 1, 3) := by decide +kernel
theorem d_Mo_count_87 : decode Y_Mo_count.2.1 87 = .ok (.goto (-28), 3) := by decide +kernel
theorem d_Mo_count_90 : decode Y_Mo_count.2.1 90 = .ok (.iload_n 2, 1) := by decide +kernel
theorem d_Mo_count_91 : decode Y_Mo_count.2.1 91 = .ok (.ireturn, 1) := by decide +kernel
theorem d_Mo_count_92 : decode Y_Mo_count.2.1 92 = .ok (.iconst 0, 1) := by decide +kernel
theorem d_Mo_count_93 : decode Y_Mo_count.2.1 93 = .ok (.istore_n 3, 1) := by decide +kernel
theorem d_Mo_count_94 : decode Y_Mo_count.2.1 94 = .ok (.iload_n 3, 1) := by decide +kernel
theorem d_Mo_count_95 : decode Y_Mo_count.2.1 95 = .ok (.bipush 81, 2) := by decide +kernel
theorem d_Mo_count_97 : decode Y_Mo_count.2.1 97 = .ok (.if_icmp .ge 26, 3) := by decide +kernel
theorem d_Mo_count_100 : decode Y_Mo_count.2.1 100 = .ok (.aload_n 0, 1) := by decide +kernel
theorem d_Mo_count_101 : decode Y_Mo_count.2.1 101 = .ok (.getfield 26, 3) := by decide +kernel
theorem d_Mo_count_104 : decode Y_Mo_count.2.1 104 = .ok (.iload_n 3, 1) := by decide +kernel
theorem d_Mo_count_105 : decode Y_Mo_count.2.1 105 = .ok (.baload, 1) := by decide +kernel
theorem d_Mo_count_106 : decode Y_Mo_count.2.1 106 = .ok (.ifCond .eq 9, 3) := by decide +kernel
theorem d_Mo_count_109 : decode Y_Mo_count.2.1 109 = .ok (.iload_n 2, 1) := by decide +kernel
theorem d_Mo_count_110 : decode Y_Mo_count.2.1 110 = .ok (.iconst 1, 1) := by decide +kernel
theorem d_Mo_count_111 : decode Y_Mo_count.2.1 111 = .ok (.iadd, 1) := by decide +kernel
theorem d_Mo_count_112 : decode Y_Mo_count.2.1 112 = .ok (.goto 4, 3) := by decide +kernel
theorem d_Mo_count_115 : decode Y_Mo_count.2.1 115 = .ok (.iload_n 2, 1) := by decide +kernel
theorem d_Mo_count_116 : decode Y_Mo_count.2.1 116 = .ok (.istore_n 2, 1) := by decide +kernel
theorem d_Mo_count_117 : decode Y_Mo_count.2.1 117 = .ok (.iinc 3 1, 3) := by decide +kernel
theorem d_Mo_count_120 : decode Y_Mo_count.2.1 120 = .ok (.goto (-26), 3) := by decide +kernel
theorem d_Mo_count_123 : decode Y_Mo_count.2.1 123 = .ok (.iload_n 2, 1) := by decide +kernel
theorem d_Mo_count_124 : decode Y_Mo_count.2.1 124 = .ok (.ireturn, 1) := by decide +kernel
theorem d_Mo_count_125 : decode Y_Mo_count.2.1 125 = .ok (.aload_n 0, 1) := by decide +kernel
theorem d_Mo_count_126 : decode Y_Mo_count.2.1 126 = .ok (.getfield 30, 3) := by decide +kernel
theorem d_Mo_count_129 : decode Y_Mo_count.2.1 129 = .ok (.ireturn, 1) := by decide +kernel
theorem d_Mo_count_130 : decode Y_Mo_count.2.1 130 = .ok (.aload_n 0, 1) := by decide +kernel
theorem d_Mo_count_131 : decode Y_Mo_count.2.1 131 = .ok (.getfield 33, 3) := by decide +kernel
theorem d_Mo_count_134 : decode Y_Mo_count.2.1 134 = .ok (.ireturn, 1) := by decide +kernel
theorem d_Mo_count_135 : decode Y_Mo_count.2.1 135 = .ok (.aload_n 0, 1) := by decide +kernel
theorem d_Mo_count_136 : decode Y_Mo_count.2.1 136 = .ok (.getfield 89, 3) := by decide +kernel
theorem d_Mo_count_139 : decode Y_Mo_count.2.1 139 = .ok (.ireturn, 1) := by decide +kernel
theorem d_Mo_count_140 : decode Y_Mo_count.2.1 140 = .ok (.aload_n 0, 1) := by decide +kernel
theorem d_Mo_count_141 : decode Y_Mo_count.2.1 141 = .ok (.getfield 181, 3) := by decide +kernel
theorem d_Mo_count_144 : decode Y_Mo_count.2.1 144 = .ok (.ireturn, 1) := by decide +kernel
theorem d_Mo_count_145 : decode Y_Mo_count.2.1 145 = .ok (.ldc 78, 2) := by decide +kernel
theorem d_Mo_count_147 : decode Y_Mo_count.2.1 147 = .ok (.ireturn, 1) := by decide +kernel
end
section
theorem d_La_law_0 : decode Y_La_law.2.1 0 = .ok (.new 7, 3) := by decide +kernel
theorem d_La_law_3 : decode Y_La_law.2.1 3 = .ok (.dup, 1) := by decide +kernel
theorem d_La_law_4 : decode Y_La_law.2.1 4 = .ok (.invokespecial 9, 3) := by decide +kernel
theorem d_La_law_7 : decode Y_La_law.2.1 7 = .ok (.astore_n 1, 1) := by decide +kernel
theorem d_La_law_8 : decode Y_La_law.2.1 8 = .ok (.new 10, 3) := by decide +kernel
theorem d_La_law_11 : decode Y_La_law.2.1 11 = .ok (.dup, 1) := by decide +kernel
theorem d_La_law_12 : decode Y_La_law.2.1 12 = .ok (.invokespecial 12, 3) := by decide +kernel
theorem d_La_law_15 : decode Y_La_law.2.1 15 = .ok (.astore_n 2, 1) := by decide +kernel
theorem d_La_law_16 : decode Y_La_law.2.1 16 = .ok (.iconst 0, 1) := by decide +kernel
theorem d_La_law_17 : decode Y_La_law.2.1 17 = .ok (.istore_n 3, 1) := by decide +kernel
theorem d_La_law_18 : decode Y_La_law.2.1 18 = .ok (.iload_n 3, 1) := by decide +kernel
theorem d_La_law_19 : decode Y_La_law.2.1 19 = .ok (.aload_n 0, 1) := by decide +kernel
theorem d_La_law_20 : decode Y_La_law.2.1 20 = .ok (.arraylength, 1) := by decide +kernel
theorem d_La_law_21 : decode Y_La_law.2.1 21 = .ok (.iconst 4, 1) := by decide +kernel
theorem d_La_law_22 : decode Y_La_law.2.1 22 = .ok (.isub, 1) := by decide +kernel
theorem d_La_law_23 : decode Y_La_law.2.1 23 = .ok (.if_icmp .gt 782, 3) := by decide +kernel
theorem d_La_law_26 : decode Y_La_law.2.1 26 = .ok (.aload_n 0, 1) := by decide +kernel
theorem d_La_law_27 : decode Y_La_law.2.1 27 = .ok (.iload_n 3, 1) := by decide +kernel
theorem d_La_law_28 : decode Y_La_law.2.1 28 = .ok (.iaload, 1) := by decide +kernel
theorem d_La_law_29 : decode Y_La_law.2.1 29 = .ok (.bipush 31, 2) := by decide +kernel
theorem d_La_law_31 : decode Y_La_law.2.1 31 = .ok (.iand, 1) := by decide +kernel
theorem d_La_law_32 : decode Y_La_law.2.1 32 = .ok (.tableswitch 767 0 24 #[116, 139, 182, 215, 248, 307, 340, 353, 366, 389, 422, 445, 468, 501, 514, 547, 570, 583, 616, 639, 662, 685, 708, 721, 744], 116) := by decide +kernel
theorem d_La_law_148 : decode Y_La_law.2.1 148 = .ok (.aload_n 1, 1) := by decide +kernel
theorem d_La_law_149 : decode Y_La_law.2.1 149 = .ok (.aload_n 0, 1) := by decide +kernel
theorem d_La_law_150 : decode Y_La_law.2.1 150 = .ok (.iload_n 3, 1) := by decide +kernel
theorem d_La_law_151 : decode Y_La_law.2.1 151 = .ok (.iconst 1, 1) := by decide +kernel
theorem d_La_law_152 : decode Y_La_law.2.1 152 = .ok (.iadd, 1) := by decide +kernel
theorem d_La_law_153 : decode Y_La_law.2.1 153 = .ok (.iaload, 1) := by decide +kernel
theorem d_La_law_154 : decode Y_La_law.2.1 154 = .ok (.invokevirtual 13, 3) := by decide +kernel
theorem d_La_law_157 : decode Y_La_law.2.1 157 = .ok (.aload_n 2, 1) := by decide +kernel
theorem d_La_law_158 : decode Y_La_law.2.1 158 = .ok (.aload_n 0, 1) := by decide +kernel
theorem d_La_law_159 : decode Y_La_law.2.1 159 = .ok (.iload_n 3, 1) := by decide +kernel
theorem d_La_law_160 : decode Y_La_law.2.1 160 = .ok (.iconst 1, 1) := by decide +kernel
theorem d_La_law_161 : decode Y_La_law.2.1 161 = .ok (.iadd, 1) := by decide +kernel
theorem d_La_law_162 : decode Y_La_law.2.1 162 = .ok (.iaload, 1) := by decide +kernel
theorem d_La_law_163 : decode Y_La_law.2.1 163 = .ok (.invokevirtual 17, 3) := by decide +kernel
theorem d_La_law_166 : decode Y_La_law.2.1 166 = .ok (.if_icmp .eq 633, 3) := by decide +kernel
theorem d_La_law_169 : decode Y_La_law.2.1 169 = .ok (.iconst 0, 1) := by decide +kernel
theorem d_La_law_170 : decode Y_La_law.2.1 170 = .ok (.ireturn, 1) := by decide +kernel
theorem d_La_law_171 : decode Y_La_law.2.1 171 = .ok (.aload_n 1, 1) := by decide +kernel
theorem d_La_law_172 : decode Y_La_law.2.1 172 = .ok (.aload_n 0, 1) := by decide +kernel
theorem d_La_law_173 : decode Y_La_law.2.1 173 = .ok (.iload_n 3, 1) := by decide +kernel
theorem d_La_law_174 : decode Y_La_law.2.1 174 = .ok (.iconst 1, 1) := by decide +kernel
theorem d_La_law_175 : decode Y_La_law.2.1 175 = .ok (.iadd, 1) := by decide +kernel
theorem d_La_law_176 : decode Y_La_law.2.1 176 = .ok (.iaload, 1) := by decide +kernel
theorem d_La_law_177 : decode Y_La_law.2.1 177 = .ok (.aload_n 0, 1) := by decide +kernel
theorem d_La_law_178 : decode Y_La_law.2.1 178 = .ok (.iload_n 3, 1) := by decide +kernel
theorem d_La_law_179 : decode Y_La_law.2.1 179 = .ok (.iconst 2, 1) := by decide +kernel
theorem d_La_law_180 : decode Y_La_law.2.1 180 = .ok (.iadd, 1) := by decide +kernel
theorem d_La_law_181 : decode Y_La_law.2.1 181 = .ok (.iaload, 1) := by decide +kernel
theorem d_La_law_182 : decode Y_La_law.2.1 182 = .ok (.aload_n 0, 1) := by decide +kernel
theorem d_La_law_183 : decode Y_La_law.2.1 183 = .ok (.iload_n 3, 1) := by decide +kernel
theorem d_La_law_184 : decode Y_La_law.2.1 184 = .ok (.iconst 3, 1) := by decide +kernel
theorem d_La_law_185 : decode Y_La_law.2.1 185 = .ok (.iadd, 1) := by decide +kernel
theorem d_La_law_186 : decode Y_La_law.2.1 186 = .ok (.iaload, 1) := by decide +kernel
theorem d_La_law_187 : decode Y_La_law.2.1 187 = .ok (.invokevirtual 18, 3) := by decide +kernel
theorem d_La_law_190 : decode Y_La_law.2.1 190 = .ok (.aload_n 2, 1) := by decide +kernel
theorem d_La_law_191 : decode Y_La_law.2.1 191 = .ok (.aload_n 0, 1) := by decide +kernel
theorem d_La_law_192 : decode Y_La_law.2.1 192 = .ok (.iload_n 3, 1) := by decide +kernel
theorem d_La_law_193 : decode Y_La_law.2.1 193 = .ok (.iconst 1, 1) := by decide +kernel
theorem d_La_law_194 : decode Y_La_law.2.1 194 = .ok (.iadd, 1) := by decide +kernel
theorem d_La_law_195 : decode Y_La_law.2.1 195 = .ok (.iaload, 1) := by decide +kernel
theorem d_La_law_196 : decode Y_La_law.2.1 196 = .ok (.aload_n 0, 1) := by decide +kernel
theorem d_La_law_197 : decode Y_La_law.2.1 197 = .ok (.iload_n 3, 1) := by decide +kernel
theorem d_La_law_198 : decode Y_La_law.2.1 198 = .ok (.iconst 2, 1) := by decide +kernel
theorem d_La_law_199 : decode Y_La_law.2.1 199 = .ok (.iadd, 1) := by decide +kernel
theorem d_La_law_200 : decode Y_La_law.2.1 200 = .ok (.iaload, 1) := by decide +kernel
theorem d_La_law_201 : decode Y_La_law.2.1 201 = .ok (.aload_n 0, 1) := by decide +kernel
theorem d_La_law_202 : decode Y_La_law.2.1 202 = .ok (.iload_n 3, 1) := by decide +kernel
theorem d_La_law_203 : decode Y_La_law.2.1 203 = .ok (.iconst 3, 1) := by decide +kernel
theorem d_La_law_204 : decode Y_La_law.2.1 204 = .ok (.iadd, 1) := by decide +kernel
theorem d_La_law_205 : decode Y_La_law.2.1 205 = .ok (.iaload, 1) := by decide +kernel
theorem d_La_law_206 : decode Y_La_law.2.1 206 = .ok (.invokevirtual 22, 3) := by decide +kernel
theorem d_La_law_209 : decode Y_La_law.2.1 209 = .ok (.if_icmp .eq 590, 3) := by decide +kernel
theorem d_La_law_212 : decode Y_La_law.2.1 212 = .ok (.iconst 0, 1) := by decide +kernel
theorem d_La_law_213 : decode Y_La_law.2.1 213 = .ok (.ireturn, 1) := by decide +kernel
theorem d_La_law_214 : decode Y_La_law.2.1 214 = .ok (.aload_n 1, 1) := by decide +kernel
theorem d_La_law_215 : decode Y_La_law.2.1 215 = .ok (.aload_n 0, 1) := by decide +kernel
theorem d_La_law_216 : decode Y_La_law.2.1 216 = .ok (.iload_n 3, 1) := by decide +kernel
theorem d_La_law_217 : decode Y_La_law.2.1 217 = .ok (.iconst 1, 1) := by decide +kernel
theorem d_La_law_218 : decode Y_La_law.2.1 218 = .ok (.iadd, 1) := by decide +kernel
theorem d_La_law_219 : decode Y_La_law.2.1 219 = .ok (.iaload, 1) := by decide +kernel
theorem d_La_law_220 : decode Y_La_law.2.1 220 = .ok (.aload_n 0, 1) := by decide +kernel
theorem d_La_law_221 : decode Y_La_law.2.1 221 = .ok (.iload_n 3, 1) := by decide +kernel
theorem d_La_law_222 : decode Y_La_law.2.1 222 = .ok (.iconst 2, 1) := by decide +kernel
theorem d_La_law_223 : decode Y_La_law.2.1 223 = .ok (.iadd, 1) := by decide +kernel
theorem d_La_law_224 : decode Y_La_law.2.1 224 = .ok (.iaload, 1) := by decide +kernel
theorem d_La_law_225 : decode Y_La_law.2.1 225 = .ok (.invokevirtual 23, 3) := by decide +kernel
theorem d_La_law_228 : decode Y_La_law.2.1 228 = .ok (.aload_n 2, 1) := by decide +kernel
theorem d_La_law_229 : decode Y_La_law.2.1 229 = .ok (.aload_n 0, 1) := by decide +kernel
theorem d_La_law_230 : decode Y_La_law.2.1 230 = .ok (.iload_n 3, 1) := by decide +kernel
theorem d_La_law_231 : decode Y_La_law.2.1 231 = .ok (.iconst 1, 1) := by decide +kernel
theorem d_La_law_232 : decode Y_La_law.2.1 232 = .ok (.iadd, 1) := by decide +kernel
theorem d_La_law_233 : decode Y_La_law.2.1 233 = .ok (.iaload, 1) := by decide +kernel
theorem d_La_law_234 : decode Y_La_law.2.1 234 = .ok (.aload_n 0, 1) := by decide +kernel
theorem d_La_law_235 : decode Y_La_law.2.1 235 = .ok (.iload_n 3, 1) := by decide +kernel
theorem d_La_law_236 : decode Y_La_law.2.1 236 = .ok (.iconst 2, 1) := by decide +kernel
theorem d_La_law_237 : decode Y_La_law.2.1 237 = .ok (.iadd, 1) := by decide +kernel
theorem d_La_law_238 : decode Y_La_law.2.1 238 = .ok (.iaload, 1) := by decide +kernel
theorem d_La_law_239 : decode Y_La_law.2.1 239 = .ok (.invokevirtual 27, 3) := by decide +kernel
theorem d_La_law_242 : decode Y_La_law.2.1 242 = .ok (.if_icmp .eq 557, 3) := by decide +kernel
theorem d_La_law_245 : decode Y_La_law.2.1 245 = .ok (.iconst 0, 1) := by decide +kernel
theorem d_La_law_246 : decode Y_La_law.2.1 246 = .ok (.ireturn, 1) := by decide +kernel
theorem d_La_law_247 : decode Y_La_law.2.1 247 = .ok (.aload_n 1, 1) := by decide +kernel
theorem d_La_law_248 : decode Y_La_law.2.1 248 = .ok (.aload_n 0, 1) := by decide +kernel
theorem d_La_law_249 : decode Y_La_law.2.1 249 = .ok (.iload_n 3, 1) := by decide +kernel
theorem d_La_law_250 : decode Y_La_law.2.1 250 = .ok (.iconst 1, 1) := by decide +kernel
theorem d_La_law_251 : decode Y_La_law.2.1 251 = .ok (.iadd, 1) := by decide +kernel
theorem d_La_law_252 : decode Y_La_law.2.1 252 = .ok (.iaload, 1) := by decide +kernel
theorem d_La_law_253 : decode Y_La_law.2.1 253 = .ok (.aload_n 0, 1) := by decide +kernel
theorem d_La_law_254 : decode Y_La_law.2.1 254 = .ok (.iload_n 3, 1) := by decide +kernel
theorem d_La_law_255 : decode Y_La_law.2.1 255 = .ok (.iconst 2, 1) := by decide +kernel
theorem d_La_law_256 : decode Y_La_law.2.1 256 = .ok (.iadd, 1) := by decide +kernel
theorem d_La_law_257 : decode Y_La_law.2.1 257 = .ok (.iaload, 1) := by decide +kernel
theorem d_La_law_258 : decode Y_La_law.2.1 258 = .ok (.invokevirtual 28, 3) := by decide +kernel
theorem d_La_law_261 : decode Y_La_law.2.1 261 = .ok (.aload_n 2, 1) := by decide +kernel
theorem d_La_law_262 : decode Y_La_law.2.1 262 = .ok (.aload_n 0, 1) := by decide +kernel
theorem d_La_law_263 : decode Y_La_law.2.1 263 = .ok (.iload_n 3, 1) := by decide +kernel
theorem d_La_law_264 : decode Y_La_law.2.1 264 = .ok (.iconst 1, 1) := by decide +kernel
theorem d_La_law_265 : decode Y_La_law.2.1 265 = .ok (.iadd, 1) := by decide +kernel
theorem d_La_law_266 : decode Y_La_law.2.1 266 = .ok (.iaload, 1) := by decide +kernel
theorem d_La_law_267 : decode Y_La_law.2.1 267 = .ok (.aload_n 0, 1) := by decide +kernel
theorem d_La_law_268 : decode Y_La_law.2.1 268 = .ok (.iload_n 3, 1) := by decide +kernel
theorem d_La_law_269 : decode Y_La_law.2.1 269 = .ok (.iconst 2, 1) := by decide +kernel
theorem d_La_law_270 : decode Y_La_law.2.1 270 = .ok (.iadd, 1) := by decide +kernel
theorem d_La_law_271 : decode Y_La_law.2.1 271 = .ok (.iaload, 1) := by decide +kernel
theorem d_La_law_272 : decode Y_La_law.2.1 272 = .ok (.invokevirtual 31, 3) := by decide +kernel
theorem d_La_law_275 : decode Y_La_law.2.1 275 = .ok (.if_icmp .eq 524, 3) := by decide +kernel
theorem d_La_law_278 : decode Y_La_law.2.1 278 = .ok (.iconst 0, 1) := by decide +kernel
theorem d_La_law_279 : decode Y_La_law.2.1 279 = .ok (.ireturn, 1) := by decide +kernel
theorem d_La_law_280 : decode Y_La_law.2.1 280 = .ok (.aload_n 1, 1) := by decide +kernel
theorem d_La_law_281 : decode Y_La_law.2.1 281 = .ok (.aload_n 0, 1) := by decide +kernel
theorem d_La_law_282 : decode Y_La_law.2.1 282 = .ok (.iload_n 3, 1) := by decide +kernel
theorem d_La_law_283 : decode Y_La_law.2.1 283 = .ok (.iconst 1, 1) := by decide +kernel
theorem d_La_law_284 : decode Y_La_law.2.1 284 = .ok (.iadd, 1) := by decide +kernel
theorem d_La_law_285 : decode Y_La_law.2.1 285 = .ok (.iaload, 1) := by decide +kernel
theorem d_La_law_286 : decode Y_La_law.2.1 286 = .ok (.aload_n 0, 1) := by decide +kernel
theorem d_La_law_287 : decode Y_La_law.2.1 287 = .ok (.iload_n 3, 1) := by decide +kernel
theorem d_La_law_288 : decode Y_La_law.2.1 288 = .ok (.iconst 2, 1) := by decide +kernel
theorem d_La_law_289 : decode Y_La_law.2.1 289 = .ok (.iadd, 1) := by decide +kernel
theorem d_La_law_290 : decode Y_La_law.2.1 290 = .ok (.iaload, 1) := by decide +kernel
theorem d_La_law_291 : decode Y_La_law.2.1 291 = .ok (.aload_n 0, 1) := by decide +kernel
theorem d_La_law_292 : decode Y_La_law.2.1 292 = .ok (.iload_n 3, 1) := by decide +kernel
theorem d_La_law_293 : decode Y_La_law.2.1 293 = .ok (.iconst 3, 1) := by decide +kernel
theorem d_La_law_294 : decode Y_La_law.2.1 294 = .ok (.iadd, 1) := by decide +kernel
theorem d_La_law_295 : decode Y_La_law.2.1 295 = .ok (.iaload, 1) := by decide +kernel
theorem d_La_law_296 : decode Y_La_law.2.1 296 = .ok (.ifCond .eq 7, 3) := by decide +kernel
theorem d_La_law_299 : decode Y_La_law.2.1 299 = .ok (.iconst 1, 1) := by decide +kernel
theorem d_La_law_300 : decode Y_La_law.2.1 300 = .ok (.goto 4, 3) := by decide +kernel
theorem d_La_law_303 : decode Y_La_law.2.1 303 = .ok (.iconst 0, 1) := by decide +kernel
theorem d_La_law_304 : decode Y_La_law.2.1 304 = .ok (.invokevirtual 32, 3) := by decide +kernel
theorem d_La_law_307 : decode Y_La_law.2.1 307 = .ok (.aload_n 2, 1) := by decide +kernel
theorem d_La_law_308 : decode Y_La_law.2.1 308 = .ok (.aload_n 0, 1) := by decide +kernel
theorem d_La_law_309 : decode Y_La_law.2.1 309 = .ok (.iload_n 3, 1) := by decide +kernel
theorem d_La_law_310 : decode Y_La_law.2.1 310 = .ok (.iconst 1, 1) := by decide +kernel
theorem d_La_law_311 : decode Y_La_law.2.1 311 = .ok (.iadd, 1) := by decide +kernel
theorem d_La_law_312 : decode Y_La_law.2.1 312 = .ok (.iaload, 1) := by decide +kernel
theorem d_La_law_313 : decode Y_La_law.2.1 313 = .ok (.aload_n 0, 1) := by decide +kernel
theorem d_La_law_314 : decode Y_La_law.2.1 314 = .ok (.iload_n 3, 1) := by decide +kernel
theorem d_La_law_315 : decode Y_La_law.2.1 315 = .ok (.iconst 2, 1) := by decide +kernel
theorem d_La_law_316 : decode Y_La_law.2.1 316 = .ok (.iadd, 1) := by decide +kernel
theorem d_La_law_317 : decode Y_La_law.2.1 317 = .ok (.iaload, 1) := by decide +kernel
theorem d_La_law_318 : decode Y_La_law.2.1 318 = .ok (.aload_n 0, 1) := by decide +kernel
theorem d_La_law_319 : decode Y_La_law.2.1 319 = .ok (.iload_n 3, 1) := by decide +kernel
theorem d_La_law_320 : decode Y_La_law.2.1 320 = .ok (.iconst 3, 1) := by decide +kernel
theorem d_La_law_321 : decode Y_La_law.2.1 321 = .ok (.iadd, 1) := by decide +kernel
theorem d_La_law_322 : decode Y_La_law.2.1 322 = .ok (.iaload, 1) := by decide +kernel
theorem d_La_law_323 : decode Y_La_law.2.1 323 = .ok (.ifCond .eq 7, 3) := by decide +kernel
theorem d_La_law_326 : decode Y_La_law.2.1 326 = .ok (.iconst 1, 1) := by decide +kernel
theorem d_La_law_327 : decode Y_La_law.2.1 327 = .ok (.goto 4, 3) := by decide +kernel
theorem d_La_law_330 : decode Y_La_law.2.1 330 = .ok (.iconst 0, 1) := by decide +kernel
theorem d_La_law_331 : decode Y_La_law.2.1 331 = .ok (.invokevirtual 36, 3) := by decide +kernel
theorem d_La_law_334 : decode Y_La_law.2.1 334 = .ok (.if_icmp .eq 465, 3) := by decide +kernel
theorem d_La_law_337 : decode Y_La_law.2.1 337 = .ok (.iconst 0, 1) := by decide +kernel
theorem d_La_law_338 : decode Y_La_law.2.1 338 = .ok (.ireturn, 1) := by decide +kernel
theorem d_La_law_339 : decode Y_La_law.2.1 339 = .ok (.aload_n 1, 1) := by decide +kernel
theorem d_La_law_340 : decode Y_La_law.2.1 340 = .ok (.aload_n 0, 1) := by decide +kernel
theorem d_La_law_341 : decode Y_La_law.2.1 341 = .ok (.iload_n 3, 1) := by decide +kernel
theorem d_La_law_342 : decode Y_La_law.2.1 342 = .ok (.iconst 1, 1) := by decide +kernel
theorem d_La_law_343 : decode Y_La_law.2.1 343 = .ok (.iadd, 1) := by decide +kernel
theorem d_La_law_344 : decode Y_La_law.2.1 344 = .ok (.iaload, 1) := by decide +kernel
theorem d_La_law_345 : decode Y_La_law.2.1 345 = .ok (.aload_n 0, 1) := by decide +kernel
theorem d_La_law_346 : decode Y_La_law.2.1 346 = .ok (.iload_n 3, 1) := by decide +kernel
theorem d_La_law_347 : decode Y_La_law.2.1 347 = .ok (.iconst 2, 1) := by decide +kernel
theorem d_La_law_348 : decode Y_La_law.2.1 348 = .ok (.iadd, 1) := by decide +kernel
theorem d_La_law_349 : decode Y_La_law.2.1 349 = .ok (.iaload, 1) := by decide +kernel
theorem d_La_law_350 : decode Y_La_law.2.1 350 = .ok (.invokevirtual 37, 3) := by decide +kernel
theorem d_La_law_353 : decode Y_La_law.2.1 353 = .ok (.aload_n 2, 1) := by decide +kernel
theorem d_La_law_354 : decode Y_La_law.2.1 354 = .ok (.aload_n 0, 1) := by decide +kernel
theorem d_La_law_355 : decode Y_La_law.2.1 355 = .ok (.iload_n 3, 1) := by decide +kernel
theorem d_La_law_356 : decode Y_La_law.2.1 356 = .ok (.iconst 1, 1) := by decide +kernel
theorem d_La_law_357 : decode Y_La_law.2.1 357 = .ok (.iadd, 1) := by decide +kernel
theorem d_La_law_358 : decode Y_La_law.2.1 358 = .ok (.iaload, 1) := by decide +kernel
theorem d_La_law_359 : decode Y_La_law.2.1 359 = .ok (.aload_n 0, 1) := by decide +kernel
theorem d_La_law_360 : decode Y_La_law.2.1 360 = .ok (.iload_n 3, 1) := by decide +kernel
theorem d_La_law_361 : decode Y_La_law.2.1 361 = .ok (.iconst 2, 1) := by decide +kernel
theorem d_La_law_362 : decode Y_La_law.2.1 362 = .ok (.iadd, 1) := by decide +kernel
theorem d_La_law_363 : decode Y_La_law.2.1 363 = .ok (.iaload, 1) := by decide +kernel
theorem d_La_law_364 : decode Y_La_law.2.1 364 = .ok (.invokevirtual 40, 3) := by decide +kernel
theorem d_La_law_367 : decode Y_La_law.2.1 367 = .ok (.if_icmp .eq 432, 3) := by decide +kernel
theorem d_La_law_370 : decode Y_La_law.2.1 370 = .ok (.iconst 0, 1) := by decide +kernel
theorem d_La_law_371 : decode Y_La_law.2.1 371 = .ok (.ireturn, 1) := by decide +kernel
theorem d_La_law_372 : decode Y_La_law.2.1 372 = .ok (.aload_n 1, 1) := by decide +kernel
theorem d_La_law_373 : decode Y_La_law.2.1 373 = .ok (.invokevirtual 41, 3) := by decide +kernel
theorem d_La_law_376 : decode Y_La_law.2.1 376 = .ok (.aload_n 2, 1) := by decide +kernel
theorem d_La_law_377 : decode Y_La_law.2.1 377 = .ok (.invokevirtual 45, 3) := by decide +kernel
theorem d_La_law_380 : decode Y_La_law.2.1 380 = .ok (.if_icmp .eq 419, 3) := by decide +kernel
theorem d_La_law_383 : decode Y_La_law.2.1 383 = .ok (.iconst 0, 1) := by decide +kernel
theorem d_La_law_384 : decode Y_La_law.2.1 384 = .ok (.ireturn, 1) := by decide +kernel
theorem d_La_law_385 : decode Y_La_law.2.1 385 = .ok (.aload_n 1, 1) := by decide +kernel
theorem d_La_law_386 : decode Y_La_law.2.1 386 = .ok (.invokevirtual 46, 3) := by decide +kernel
theorem d_La_law_389 : decode Y_La_law.2.1 389 = .ok (.aload_n 2, 1) := by decide +kernel
theorem d_La_law_390 : decode Y_La_law.2.1 390 = .ok (.invokevirtual 49, 3) := by decide +kernel
theorem d_La_law_393 : decode Y_La_law.2.1 393 = .ok (.if_icmp .eq 406, 3) := by decide +kernel
theorem d_La_law_396 : decode Y_La_law.2.1 396 = .ok (.iconst 0, 1) := by decide +kernel
theorem d_La_law_397 : decode Y_La_law.2.1 397 = .ok (.ireturn, 1) := by decide +kernel
theorem d_La_law_398 : decode Y_La_law.2.1 398 = .ok (.aload_n 1, 1) := by decide +kernel
theorem d_La_law_399 : decode Y_La_law.2.1 399 = .ok (.aload_n 0, 1) := by decide +kernel
theorem d_La_law_400 : decode Y_La_law.2.1 400 = .ok (.iload_n 3, 1) := by decide +kernel
theorem d_La_law_401 : decode Y_La_law.2.1 401 = .ok (.iconst 1, 1) := by decide +kernel
theorem d_La_law_402 : decode Y_La_law.2.1 402 = .ok (.iadd, 1) := by decide +kernel
theorem d_La_law_403 : decode Y_La_law.2.1 403 = .ok (.iaload, 1) := by decide +kernel
theorem d_La_law_404 : decode Y_La_law.2.1 404 = .ok (.invokevirtual 50, 3) := by decide +kernel
theorem d_La_law_407 : decode Y_La_law.2.1 407 = .ok (.aload_n 2, 1) := by decide +kernel
theorem d_La_law_408 : decode Y_La_law.2.1 408 = .ok (.aload_n 0, 1) := by decide +kernel
theorem d_La_law_409 : decode Y_La_law.2.1 409 = .ok (.iload_n 3, 1) := by decide +kernel
theorem d_La_law_410 : decode Y_La_law.2.1 410 = .ok (.iconst 1, 1) := by decide +kernel
theorem d_La_law_411 : decode Y_La_law.2.1 411 = .ok (.iadd, 1) := by decide +kernel
theorem d_La_law_412 : decode Y_La_law.2.1 412 = .ok (.iaload, 1) := by decide +kernel
theorem d_La_law_413 : decode Y_La_law.2.1 413 = .ok (.invokevirtual 53, 3) := by decide +kernel
theorem d_La_law_416 : decode Y_La_law.2.1 416 = .ok (.if_icmp .eq 383, 3) := by decide +kernel
theorem d_La_law_419 : decode Y_La_law.2.1 419 = .ok (.iconst 0, 1) := by decide +kernel
theorem d_La_law_420 : decode Y_La_law.2.1 420 = .ok (.ireturn, 1) := by decide +kernel
theorem d_La_law_421 : decode Y_La_law.2.1 421 = .ok (.aload_n 1, 1) := by decide +kernel
theorem d_La_law_422 : decode Y_La_law.2.1 422 = .ok (.aload_n 0, 1) := by decide +kernel
theorem d_La_law_423 : decode Y_La_law.2.1 423 = .ok (.iload_n 3, 1) := by decide +kernel
theorem d_La_law_424 : decode Y_La_law.2.1 424 = .ok (.iconst 1, 1) := by decide +kernel
theorem d_La_law_425 : decode Y_La_law.2.1 425 = .ok (.iadd, 1) := by decide +kernel
theorem d_La_law_426 : decode Y_La_law.2.1 426 = .ok (.iaload, 1) := by decide +kernel
theorem d_La_law_427 : decode Y_La_law.2.1 427 = .ok (.aload_n 0, 1) := by decide +kernel
theorem d_La_law_428 : decode Y_La_law.2.1 428 = .ok (.iload_n 3, 1) := by decide +kernel
theorem d_La_law_429 : decode Y_La_law.2.1 429 = .ok (.iconst 2, 1) := by decide +kernel
theorem d_La_law_430 : decode Y_La_law.2.1 430 = .ok (.iadd, 1) := by decide +kernel
theorem d_La_law_431 : decode Y_La_law.2.1 431 = .ok (.iaload, 1) := by decide +kernel
theorem d_La_law_432 : decode Y_La_law.2.1 432 = .ok (.invokevirtual 54, 3) := by decide +kernel
theorem d_La_law_435 : decode Y_La_law.2.1 435 = .ok (.aload_n 2, 1) := by decide +kernel
theorem d_La_law_436 : decode Y_La_law.2.1 436 = .ok (.aload_n 0, 1) := by decide +kernel
theorem d_La_law_437 : decode Y_La_law.2.1 437 = .ok (.iload_n 3, 1) := by decide +kernel
theorem d_La_law_438 : decode Y_La_law.2.1 438 = .ok (.iconst 1, 1) := by decide +kernel
theorem d_La_law_439 : decode Y_La_law.2.1 439 = .ok (.iadd, 1) := by decide +kernel
theorem d_La_law_440 : decode Y_La_law.2.1 440 = .ok (.iaload, 1) := by decide +kernel
theorem d_La_law_441 : decode Y_La_law.2.1 441 = .ok (.aload_n 0, 1) := by decide +kernel
theorem d_La_law_442 : decode Y_La_law.2.1 442 = .ok (.iload_n 3, 1) := by decide +kernel
theorem d_La_law_443 : decode Y_La_law.2.1 443 = .ok (.iconst 2, 1) := by decide +kernel
theorem d_La_law_444 : decode Y_La_law.2.1 444 = .ok (.iadd, 1) := by decide +kernel
theorem d_La_law_445 : decode Y_La_law.2.1 445 = .ok (.iaload, 1) := by decide +kernel
theorem d_La_law_446 : decode Y_La_law.2.1 446 = .ok (.invokevirtual 57, 3) := by decide +kernel
theorem d_La_law_449 : decode Y_La_law.2.1 449 = .ok (.if_icmp .eq 350, 3) := by decide +kernel
theorem d_La_law_452 : decode Y_La_law.2.1 452 = .ok (.iconst 0, 1) := by decide +kernel
theorem d_La_law_453 : decode Y_La_law.2.1 453 = .ok (.ireturn, 1) := by decide +kernel
theorem d_La_law_454 : decode Y_La_law.2.1 454 = .ok (.aload_n 1, 1) := by decide +kernel
theorem d_La_law_455 : decode Y_La_law.2.1 455 = .ok (.aload_n 0, 1) := by decide +kernel
theorem d_La_law_456 : decode Y_La_law.2.1 456 = .ok (.iload_n 3, 1) := by decide +kernel
theorem d_La_law_457 : decode Y_La_law.2.1 457 = .ok (.iconst 1, 1) := by decide +kernel
theorem d_La_law_458 : decode Y_La_law.2.1 458 = .ok (.iadd, 1) := by decide +kernel
theorem d_La_law_459 : decode Y_La_law.2.1 459 = .ok (.iaload, 1) := by decide +kernel
theorem d_La_law_460 : decode Y_La_law.2.1 460 = .ok (.invokevirtual 58, 3) := by decide +kernel
theorem d_La_law_463 : decode Y_La_law.2.1 463 = .ok (.aload_n 2, 1) := by decide +kernel
theorem d_La_law_464 : decode Y_La_law.2.1 464 = .ok (.aload_n 0, 1) := by decide +kernel
theorem d_La_law_465 : decode Y_La_law.2.1 465 = .ok (.iload_n 3, 1) := by decide +kernel
theorem d_La_law_466 : decode Y_La_law.2.1 466 = .ok (.iconst 1, 1) := by decide +kernel
theorem d_La_law_467 : decode Y_La_law.2.1 467 = .ok (.iadd, 1) := by decide +kernel
theorem d_La_law_468 : decode Y_La_law.2.1 468 = .ok (.iaload, 1) := by decide +kernel
theorem d_La_law_469 : decode Y_La_law.2.1 469 = .ok (.invokevirtual 61, 3) := by decide +kernel
theorem d_La_law_472 : decode Y_La_law.2.1 472 = .ok (.if_icmp .eq 327, 3) := by decide +kernel
theorem d_La_law_475 : decode Y_La_law.2.1 475 = .ok (.iconst 0, 1) := by decide +kernel
theorem d_La_law_476 : decode Y_La_law.2.1 476 = .ok (.ireturn, 1) := by decide +kernel
theorem d_La_law_477 : decode Y_La_law.2.1 477 = .ok (.aload_n 1, 1) := by decide +kernel
theorem d_La_law_478 : decode Y_La_law.2.1 478 = .ok (.aload_n 0, 1) := by decide +kernel
theorem d_La_law_479 : decode Y_La_law.2.1 479 = .ok (.iload_n 3, 1) := by decide +kernel
theorem d_La_law_480 : decode Y_La_law.2.1 480 = .ok (.iconst 1, 1) := by decide +kernel
theorem d_La_law_481 : decode Y_La_law.2.1 481 = .ok (.iadd, 1) := by decide +kernel
theorem d_La_law_482 : decode Y_La_law.2.1 482 = .ok (.iaload, 1) := by decide +kernel
theorem d_La_law_483 : decode Y_La_law.2.1 483 = .ok (.invokevirtual 62, 3) := by decide +kernel
theorem d_La_law_486 : decode Y_La_law.2.1 486 = .ok (.aload_n 2, 1) := by decide +kernel
theorem d_La_law_487 : decode Y_La_law.2.1 487 = .ok (.aload_n 0, 1) := by decide +kernel
theorem d_La_law_488 : decode Y_La_law.2.1 488 = .ok (.iload_n 3, 1) := by decide +kernel
theorem d_La_law_489 : decode Y_La_law.2.1 489 = .ok (.iconst 1, 1) := by decide +kernel
theorem d_La_law_490 : decode Y_La_law.2.1 490 = .ok (.iadd, 1) := by decide +kernel
theorem d_La_law_491 : decode Y_La_law.2.1 491 = .ok (.iaload, 1) := by decide +kernel
theorem d_La_law_492 : decode Y_La_law.2.1 492 = .ok (.invokevirtual 65, 3) := by decide +kernel
theorem d_La_law_495 : decode Y_La_law.2.1 495 = .ok (.if_icmp .eq 304, 3) := by decide +kernel
theorem d_La_law_498 : decode Y_La_law.2.1 498 = .ok (.iconst 0, 1) := by decide +kernel
theorem d_La_law_499 : decode Y_La_law.2.1 499 = .ok (.ireturn, 1) := by decide +kernel
theorem d_La_law_500 : decode Y_La_law.2.1 500 = .ok (.aload_n 1, 1) := by decide +kernel
theorem d_La_law_501 : decode Y_La_law.2.1 501 = .ok (.aload_n 0, 1) := by decide +kernel
theorem d_La_law_502 : decode Y_La_law.2.1 502 = .ok (.iload_n 3, 1) := by decide +kernel
theorem d_La_law_503 : decode Y_La_law.2.1 503 = .ok (.iconst 1, 1) := by decide +kernel
theorem d_La_law_504 : decode Y_La_law.2.1 504 = .ok (.iadd, 1) := by decide +kernel
theorem d_La_law_505 : decode Y_La_law.2.1 505 = .ok (.iaload, 1) := by decide +kernel
theorem d_La_law_506 : decode Y_La_law.2.1 506 = .ok (.aload_n 0, 1) := by decide +kernel
theorem d_La_law_507 : decode Y_La_law.2.1 507 = .ok (.iload_n 3, 1) := by decide +kernel
theorem d_La_law_508 : decode Y_La_law.2.1 508 = .ok (.iconst 2, 1) := by decide +kernel
theorem d_La_law_509 : decode Y_La_law.2.1 509 = .ok (.iadd, 1) := by decide +kernel
theorem d_La_law_510 : decode Y_La_law.2.1 510 = .ok (.iaload, 1) := by decide +kernel
theorem d_La_law_511 : decode Y_La_law.2.1 511 = .ok (.invokevirtual 66, 3) := by decide +kernel
theorem d_La_law_514 : decode Y_La_law.2.1 514 = .ok (.aload_n 2, 1) := by decide +kernel
theorem d_La_law_515 : decode Y_La_law.2.1 515 = .ok (.aload_n 0, 1) := by decide +kernel
theorem d_La_law_516 : decode Y_La_law.2.1 516 = .ok (.iload_n 3, 1) := by decide +kernel
theorem d_La_law_517 : decode Y_La_law.2.1 517 = .ok (.iconst 1, 1) := by decide +kernel
theorem d_La_law_518 : decode Y_La_law.2.1 518 = .ok (.iadd, 1) := by decide +kernel
theorem d_La_law_519 : decode Y_La_law.2.1 519 = .ok (.iaload, 1) := by decide +kernel
theorem d_La_law_520 : decode Y_La_law.2.1 520 = .ok (.aload_n 0, 1) := by decide +kernel
theorem d_La_law_521 : decode Y_La_law.2.1 521 = .ok (.iload_n 3, 1) := by decide +kernel
theorem d_La_law_522 : decode Y_La_law.2.1 522 = .ok (.iconst 2, 1) := by decide +kernel
theorem d_La_law_523 : decode Y_La_law.2.1 523 = .ok (.iadd, 1) := by decide +kernel
theorem d_La_law_524 : decode Y_La_law.2.1 524 = .ok (.iaload, 1) := by decide +kernel
theorem d_La_law_525 : decode Y_La_law.2.1 525 = .ok (.invokevirtual 69, 3) := by decide +kernel
theorem d_La_law_528 : decode Y_La_law.2.1 528 = .ok (.if_icmp .eq 271, 3) := by decide +kernel
theorem d_La_law_531 : decode Y_La_law.2.1 531 = .ok (.iconst 0, 1) := by decide +kernel
theorem d_La_law_532 : decode Y_La_law.2.1 532 = .ok (.ireturn, 1) := by decide +kernel
theorem d_La_law_533 : decode Y_La_law.2.1 533 = .ok (.aload_n 1, 1) := by decide +kernel
theorem d_La_law_534 : decode Y_La_law.2.1 534 = .ok (.invokevirtual 70, 3) := by decide +kernel
theorem d_La_law_537 : decode Y_La_law.2.1 537 = .ok (.aload_n 2, 1) := by decide +kernel
theorem d_La_law_538 : decode Y_La_law.2.1 538 = .ok (.invokevirtual 73, 3) := by decide +kernel
theorem d_La_law_541 : decode Y_La_law.2.1 541 = .ok (.if_icmp .eq 258, 3) := by decide +kernel
theorem d_La_law_544 : decode Y_La_law.2.1 544 = .ok (.iconst 0, 1) := by decide +kernel
theorem d_La_law_545 : decode Y_La_law.2.1 545 = .ok (.ireturn, 1) := by decide +kernel
theorem d_La_law_546 : decode Y_La_law.2.1 546 = .ok (.aload_n 1, 1) := by decide +kernel
theorem d_La_law_547 : decode Y_La_law.2.1 547 = .ok (.aload_n 0, 1) := by decide +kernel
theorem d_La_law_548 : decode Y_La_law.2.1 548 = .ok (.iload_n 3, 1) := by decide +kernel
theorem d_La_law_549 : decode Y_La_law.2.1 549 = .ok (.iconst 1, 1) := by decide +kernel
theorem d_La_law_550 : decode Y_La_law.2.1 550 = .ok (.iadd, 1) := by decide +kernel
theorem d_La_law_551 : decode Y_La_law.2.1 551 = .ok (.iaload, 1) := by decide +kernel
theorem d_La_law_552 : decode Y_La_law.2.1 552 = .ok (.aload_n 0, 1) := by decide +kernel
theorem d_La_law_553 : decode Y_La_law.2.1 553 = .ok (.iload_n 3, 1) := by decide +kernel
theorem d_La_law_554 : decode Y_La_law.2.1 554 = .ok (.iconst 2, 1) := by decide +kernel
theorem d_La_law_555 : decode Y_La_law.2.1 555 = .ok (.iadd, 1) := by decide +kernel
theorem d_La_law_556 : decode Y_La_law.2.1 556 = .ok (.iaload, 1) := by decide +kernel
theorem d_La_law_557 : decode Y_La_law.2.1 557 = .ok (.invokevirtual 74, 3) := by decide +kernel
theorem d_La_law_560 : decode Y_La_law.2.1 560 = .ok (.aload_n 2, 1) := by decide +kernel
theorem d_La_law_561 : decode Y_La_law.2.1 561 = .ok (.aload_n 0, 1) := by decide +kernel
theorem d_La_law_562 : decode Y_La_law.2.1 562 = .ok (.iload_n 3, 1) := by decide +kernel
theorem d_La_law_563 : decode Y_La_law.2.1 563 = .ok (.iconst 1, 1) := by decide +kernel
theorem d_La_law_564 : decode Y_La_law.2.1 564 = .ok (.iadd, 1) := by decide +kernel
theorem d_La_law_565 : decode Y_La_law.2.1 565 = .ok (.iaload, 1) := by decide +kernel
theorem d_La_law_566 : decode Y_La_law.2.1 566 = .ok (.aload_n 0, 1) := by decide +kernel
theorem d_La_law_567 : decode Y_La_law.2.1 567 = .ok (.iload_n 3, 1) := by decide +kernel
theorem d_La_law_568 : decode Y_La_law.2.1 568 = .ok (.iconst 2, 1) := by decide +kernel
theorem d_La_law_569 : decode Y_La_law.2.1 569 = .ok (.iadd, 1) := by decide +kernel
theorem d_La_law_570 : decode Y_La_law.2.1 570 = .ok (.iaload, 1) := by decide +kernel
theorem d_La_law_571 : decode Y_La_law.2.1 571 = .ok (.invokevirtual 77, 3) := by decide +kernel
theorem d_La_law_574 : decode Y_La_law.2.1 574 = .ok (.if_icmp .eq 225, 3) := by decide +kernel
theorem d_La_law_577 : decode Y_La_law.2.1 577 = .ok (.iconst 0, 1) := by decide +kernel
theorem d_La_law_578 : decode Y_La_law.2.1 578 = .ok (.ireturn, 1) := by decide +kernel
theorem d_La_law_579 : decode Y_La_law.2.1 579 = .ok (.aload_n 1, 1) := by decide +kernel
theorem d_La_law_580 : decode Y_La_law.2.1 580 = .ok (.aload_n 0, 1) := by decide +kernel
theorem d_La_law_581 : decode Y_La_law.2.1 581 = .ok (.iload_n 3, 1) := by decide +kernel
theorem d_La_law_582 : decode Y_La_law.2.1 582 = .ok (.iconst 1, 1) := by decide +kernel
theorem d_La_law_583 : decode Y_La_law.2.1 583 = .ok (.iadd, 1) := by decide +kernel
theorem d_La_law_584 : decode Y_La_law.2.1 584 = .ok (.iaload, 1) := by decide +kernel
theorem d_La_law_585 : decode Y_La_law.2.1 585 = .ok (.invokevirtual 78, 3) := by decide +kernel
theorem d_La_law_588 : decode Y_La_law.2.1 588 = .ok (.aload_n 2, 1) := by decide +kernel
theorem d_La_law_589 : decode Y_La_law.2.1 589 = .ok (.aload_n 0, 1) := by decide +kernel
theorem d_La_law_590 : decode Y_La_law.2.1 590 = .ok (.iload_n 3, 1) := by decide +kernel
theorem d_La_law_591 : decode Y_La_law.2.1 591 = .ok (.iconst 1, 1) := by decide +kernel
theorem d_La_law_592 : decode Y_La_law.2.1 592 = .ok (.iadd, 1) := by decide +kernel
theorem d_La_law_593 : decode Y_La_law.2.1 593 = .ok (.iaload, 1) := by decide +kernel
theorem d_La_law_594 : decode Y_La_law.2.1 594 = .ok (.invokevirtual 81, 3) := by decide +kernel
theorem d_La_law_597 : decode Y_La_law.2.1 597 = .ok (.if_icmp .eq 202, 3) := by decide +kernel
theorem d_La_law_600 : decode Y_La_law.2.1 600 = .ok (.iconst 0, 1) := by decide +kernel
theorem d_La_law_601 : decode Y_La_law.2.1 601 = .ok (.ireturn, 1) := by decide +kernel
theorem d_La_law_602 : decode Y_La_law.2.1 602 = .ok (.aload_n 1, 1) := by decide +kernel
theorem d_La_law_603 : decode Y_La_law.2.1 603 = .ok (.invokevirtual 82, 3) := by decide +kernel
theorem d_La_law_606 : decode Y_La_law.2.1 606 = .ok (.aload_n 2, 1) := by decide +kernel
theorem d_La_law_607 : decode Y_La_law.2.1 607 = .ok (.invokevirtual 85, 3) := by decide +kernel
theorem d_La_law_610 : decode Y_La_law.2.1 610 = .ok (.if_icmp .eq 189, 3) := by decide +kernel
theorem d_La_law_613 : decode Y_La_law.2.1 613 = .ok (.iconst 0, 1) := by decide +kernel
theorem d_La_law_614 : decode Y_La_law.2.1 614 = .ok (.ireturn, 1) := by decide +kernel
theorem d_La_law_615 : decode Y_La_law.2.1 615 = .ok (.aload_n 1, 1) := by decide +kernel
theorem d_La_law_616 : decode Y_La_law.2.1 616 = .ok (.aload_n 0, 1) := by decide +kernel
theorem d_La_law_617 : decode Y_La_law.2.1 617 = .ok (.iload_n 3, 1) := by decide +kernel
theorem d_La_law_618 : decode Y_La_law.2.1 618 = .ok (.iconst 1, 1) := by decide +kernel
theorem d_La_law_619 : decode Y_La_law.2.1 619 = .ok (.iadd, 1) := by decide +kernel
theorem d_La_law_620 : decode Y_La_law.2.1 620 = .ok (.iaload, 1) := by decide +kernel
theorem d_La_law_621 : decode Y_La_law.2.1 621 = .ok (.aload_n 0, 1) := by decide +kernel
theorem d_La_law_622 : decode Y_La_law.2.1 622 = .ok (.iload_n 3, 1) := by decide +kernel
theorem d_La_law_623 : decode Y_La_law.2.1 623 = .ok (.iconst 2, 1) := by decide +kernel
theorem d_La_law_624 : decode Y_La_law.2.1 624 = .ok (.iadd, 1) := by decide +kernel
theorem d_La_law_625 : decode Y_La_law.2.1 625 = .ok (.iaload, 1) := by decide +kernel
theorem d_La_law_626 : decode Y_La_law.2.1 626 = .ok (.invokevirtual 86, 3) := by decide +kernel
theorem d_La_law_629 : decode Y_La_law.2.1 629 = .ok (.aload_n 2, 1) := by decide +kernel
theorem d_La_law_630 : decode Y_La_law.2.1 630 = .ok (.aload_n 0, 1) := by decide +kernel
theorem d_La_law_631 : decode Y_La_law.2.1 631 = .ok (.iload_n 3, 1) := by decide +kernel
theorem d_La_law_632 : decode Y_La_law.2.1 632 = .ok (.iconst 1, 1) := by decide +kernel
theorem d_La_law_633 : decode Y_La_law.2.1 633 = .ok (.iadd, 1) := by decide +kernel
theorem d_La_law_634 : decode Y_La_law.2.1 634 = .ok (.iaload, 1) := by decide +kernel
theorem d_La_law_635 : decode Y_La_law.2.1 635 = .ok (.aload_n 0, 1) := by decide +kernel
theorem d_La_law_636 : decode Y_La_law.2.1 636 = .ok (.iload_n 3, 1) := by decide +kernel
theorem d_La_law_637 : decode Y_La_law.2.1 637 = .ok (.iconst 2, 1) := by decide +kernel
theorem d_La_law_638 : decode Y_La_law.2.1 638 = .ok (.iadd, 1) := by decide +kernel
theorem d_La_law_639 : decode Y_La_law.2.1 639 = .ok (.iaload, 1) := by decide +kernel
theorem d_La_law_640 : decode Y_La_law.2.1 640 = .ok (.invokevirtual 89, 3) := by decide +kernel
theorem d_La_law_643 : decode Y_La_law.2.1 643 = .ok (.if_icmp .eq 156, 3) := by decide +kernel
theorem d_La_law_646 : decode Y_La_law.2.1 646 = .ok (.iconst 0, 1) := by decide +kernel
theorem d_La_law_647 : decode Y_La_law.2.1 647 = .ok (.ireturn, 1) := by decide +kernel
theorem d_La_law_648 : decode Y_La_law.2.1 648 = .ok (.aload_n 1, 1) := by decide +kernel
theorem d_La_law_649 : decode Y_La_law.2.1 649 = .ok (.aload_n 0, 1) := by decide +kernel
theorem d_La_law_650 : decode Y_La_law.2.1 650 = .ok (.iload_n 3, 1) := by decide +kernel
theorem d_La_law_651 : decode Y_La_law.2.1 651 = .ok (.iconst 1, 1) := by decide +kernel
theorem d_La_law_652 : decode Y_La_law.2.1 652 = .ok (.iadd, 1) := by decide +kernel
theorem d_La_law_653 : decode Y_La_law.2.1 653 = .ok (.iaload, 1) := by decide +kernel
theorem d_La_law_654 : decode Y_La_law.2.1 654 = .ok (.invokevirtual 90, 3) := by decide +kernel
theorem d_La_law_657 : decode Y_La_law.2.1 657 = .ok (.aload_n 2, 1) := by decide +kernel
theorem d_La_law_658 : decode Y_La_law.2.1 658 = .ok (.aload_n 0, 1) := by decide +kernel
theorem d_La_law_659 : decode Y_La_law.2.1 659 = .ok (.iload_n 3, 1) := by decide +kernel
theorem d_La_law_660 : decode Y_La_law.2.1 660 = .ok (.iconst 1, 1) := by decide +kernel
theorem d_La_law_661 : decode Y_La_law.2.1 661 = .ok (.iadd, 1) := by decide +kernel
theorem d_La_law_662 : decode Y_La_law.2.1 662 = .ok (.iaload, 1) := by decide +kernel
theorem d_La_law_663 : decode Y_La_law.2.1 663 = .ok (.invokevirtual 93, 3) := by decide +kernel
theorem d_La_law_666 : decode Y_La_law.2.1 666 = .ok (.if_icmp .eq 133, 3) := by decide +kernel
theorem d_La_law_669 : decode Y_La_law.2.1 669 = .ok (.iconst 0, 1) := by decide +kernel
theorem d_La_law_670 : decode Y_La_law.2.1 670 = .ok (.ireturn, 1) := by decide +kernel
theorem d_La_law_671 : decode Y_La_law.2.1 671 = .ok (.aload_n 1, 1) := by decide +kernel
theorem d_La_law_672 : decode Y_La_law.2.1 672 = .ok (.aload_n 0, 1) := by decide +kernel
theorem d_La_law_673 : decode Y_La_law.2.1 673 = .ok (.iload_n 3, 1) := by decide +kernel
theorem d_La_law_674 : decode Y_La_law.2.1 674 = .ok (.iconst 1, 1) := by decide +kernel
theorem d_La_law_675 : decode Y_La_law.2.1 675 = .ok (.iadd, 1) := by decide +kernel
theorem d_La_law_676 : decode Y_La_law.2.1 676 = .ok (.iaload, 1) := by decide +kernel
theorem d_La_law_677 : decode Y_La_law.2.1 677 = .ok (.invokevirtual 94, 3) := by decide +kernel
theorem d_La_law_680 : decode Y_La_law.2.1 680 = .ok (.aload_n 2, 1) := by decide +kernel
theorem d_La_law_681 : decode Y_La_law.2.1 681 = .ok (.aload_n 0, 1) := by decide +kernel
theorem d_La_law_682 : decode Y_La_law.2.1 682 = .ok (.iload_n 3, 1) := by decide +kernel
theorem d_La_law_683 : decode Y_La_law.2.1 683 = .ok (.iconst 1, 1) := by decide +kernel
theorem d_La_law_684 : decode Y_La_law.2.1 684 = .ok (.iadd, 1) := by decide +kernel
theorem d_La_law_685 : decode Y_La_law.2.1 685 = .ok (.iaload, 1) := by decide +kernel
theorem d_La_law_686 : decode Y_La_law.2.1 686 = .ok (.invokevirtual 97, 3) := by decide +kernel
theorem d_La_law_689 : decode Y_La_law.2.1 689 = .ok (.if_icmp .eq 110, 3) := by decide +kernel
theorem d_La_law_692 : decode Y_La_law.2.1 692 = .ok (.iconst 0, 1) := by decide +kernel
theorem d_La_law_693 : decode Y_La_law.2.1 693 = .ok (.ireturn, 1) := by decide +kernel
theorem d_La_law_694 : decode Y_La_law.2.1 694 = .ok (.aload_n 1, 1) := by decide +kernel
theorem d_La_law_695 : decode Y_La_law.2.1 695 = .ok (.aload_n 0, 1) := by decide +kernel
theorem d_La_law_696 : decode Y_La_law.2.1 696 = .ok (.iload_n 3, 1) := by decide +kernel
theorem d_La_law_697 : decode Y_La_law.2.1 697 = .ok (.iconst 1, 1) := by decide +kernel
theorem d_La_law_698 : decode Y_La_law.2.1 698 = .ok (.iadd, 1) := by decide +kernel
theorem d_La_law_699 : decode Y_La_law.2.1 699 = .ok (.iaload, 1) := by decide +kernel
theorem d_La_law_700 : decode Y_La_law.2.1 700 = .ok (.invokevirtual 98, 3) := by decide +kernel
theorem d_La_law_703 : decode Y_La_law.2.1 703 = .ok (.aload_n 2, 1) := by decide +kernel
theorem d_La_law_704 : decode Y_La_law.2.1 704 = .ok (.aload_n 0, 1) := by decide +kernel
theorem d_La_law_705 : decode Y_La_law.2.1 705 = .ok (.iload_n 3, 1) := by decide +kernel
theorem d_La_law_706 : decode Y_La_law.2.1 706 = .ok (.iconst 1, 1) := by decide +kernel
theorem d_La_law_707 : decode Y_La_law.2.1 707 = .ok (.iadd, 1) := by decide +kernel
theorem d_La_law_708 : decode Y_La_law.2.1 708 = .ok (.iaload, 1) := by decide +kernel
theorem d_La_law_709 : decode Y_La_law.2.1 709 = .ok (.invokevirtual 101, 3) := by decide +kernel
theorem d_La_law_712 : decode Y_La_law.2.1 712 = .ok (.if_icmp .eq 87, 3) := by decide +kernel
theorem d_La_law_715 : decode Y_La_law.2.1 715 = .ok (.iconst 0, 1) := by decide +kernel
theorem d_La_law_716 : decode Y_La_law.2.1 716 = .ok (.ireturn, 1) := by decide +kernel
theorem d_La_law_717 : decode Y_La_law.2.1 717 = .ok (.aload_n 1, 1) := by decide +kernel
theorem d_La_law_718 : decode Y_La_law.2.1 718 = .ok (.aload_n 0, 1) := by decide +kernel
theorem d_La_law_719 : decode Y_La_law.2.1 719 = .ok (.iload_n 3, 1) := by decide +kernel
theorem d_La_law_720 : decode Y_La_law.2.1 720 = .ok (.iconst 1, 1) := by decide +kernel
theorem d_La_law_721 : decode Y_La_law.2.1 721 = .ok (.iadd, 1) := by decide +kernel
theorem d_La_law_722 : decode Y_La_law.2.1 722 = .ok (.iaload, 1) := by decide +kernel
theorem d_La_law_723 : decode Y_La_law.2.1 723 = .ok (.invokevirtual 102, 3) := by decide +kernel
theorem d_La_law_726 : decode Y_La_law.2.1 726 = .ok (.aload_n 2, 1) := by decide +kernel
theorem d_La_law_727 : decode Y_La_law.2.1 727 = .ok (.aload_n 0, 1) := by decide +kernel
theorem d_La_law_728 : decode Y_La_law.2.1 728 = .ok (.iload_n 3, 1) := by decide +kernel
theorem d_La_law_729 : decode Y_La_law.2.1 729 = .ok (.iconst 1, 1) := by decide +kernel
theorem d_La_law_730 : decode Y_La_law.2.1 730 = .ok (.iadd, 1) := by decide +kernel
theorem d_La_law_731 : decode Y_La_law.2.1 731 = .ok (.iaload, 1) := by decide +kernel
theorem d_La_law_732 : decode Y_La_law.2.1 732 = .ok (.invokevirtual 105, 3) := by decide +kernel
theorem d_La_law_735 : decode Y_La_law.2.1 735 = .ok (.if_icmp .eq 64, 3) := by decide +kernel
theorem d_La_law_738 : decode Y_La_law.2.1 738 = .ok (.iconst 0, 1) := by decide +kernel
theorem d_La_law_739 : decode Y_La_law.2.1 739 = .ok (.ireturn, 1) := by decide +kernel
theorem d_La_law_740 : decode Y_La_law.2.1 740 = .ok (.aload_n 1, 1) := by decide +kernel
theorem d_La_law_741 : decode Y_La_law.2.1 741 = .ok (.invokevirtual 106, 3) := by decide +kernel
theorem d_La_law_744 : decode Y_La_law.2.1 744 = .ok (.aload_n 2, 1) := by decide +kernel
theorem d_La_law_745 : decode Y_La_law.2.1 745 = .ok (.invokevirtual 109, 3) := by decide +kernel
theorem d_La_law_748 : decode Y_La_law.2.1 748 = .ok (.if_icmp .eq 51, 3) := by decide +kernel
theorem d_La_law_751 : decode Y_La_law.2.1 751 = .ok (.iconst 0, 1) := by decide +kernel
theorem d_La_law_752 : decode Y_La_law.2.1 752 = .ok (.ireturn, 1) := by decide +kernel
theorem d_La_law_753 : decode Y_La_law.2.1 753 = .ok (.aload_n 1, 1) := by decide +kernel
theorem d_La_law_754 : decode Y_La_law.2.1 754 = .ok (.aload_n 0, 1) := by decide +kernel
theorem d_La_law_755 : decode Y_La_law.2.1 755 = .ok (.iload_n 3, 1) := by decide +kernel
theorem d_La_law_756 : decode Y_La_law.2.1 756 = .ok (.iconst 1, 1) := by decide +kernel
theorem d_La_law_757 : decode Y_La_law.2.1 757 = .ok (.iadd, 1) := by decide +kernel
theorem d_La_law_758 : decode Y_La_law.2.1 758 = .ok (.iaload, 1) := by decide +kernel
theorem d_La_law_759 : decode Y_La_law.2.1 759 = .ok (.invokevirtual 110, 3) := by decide +kernel
theorem d_La_law_762 : decode Y_La_law.2.1 762 = .ok (.aload_n 2, 1) := by decide +kernel
theorem d_La_law_763 : decode Y_La_law.2.1 763 = .ok (.aload_n 0, 1) := by decide +kernel
theorem d_La_law_764 : decode Y_La_law.2.1 764 = .ok (.iload_n 3, 1) := by decide +kernel
theorem d_La_law_765 : decode Y_La_law.2.1 765 = .ok (.iconst 1, 1) := by decide +kernel
theorem d_La_law_766 : decode Y_La_law.2.1 766 = .ok (.iadd, 1) := by decide +kernel
theorem d_La_law_767 : decode Y_La_law.2.1 767 = .ok (.iaload, 1) := by decide +kernel
theorem d_La_law_768 : decode Y_La_law.2.1 768 = .ok (.invokevirtual 113, 3) := by decide +kernel
theorem d_La_law_771 : decode Y_La_law.2.1 771 = .ok (.if_icmp .eq 28, 3) := by decide +kernel
theorem d_La_law_774 : decode Y_La_law.2.1 774 = .ok (.iconst 0, 1) := by decide +kernel
theorem d_La_law_775 : decode Y_La_law.2.1 775 = .ok (.ireturn, 1) := by decide +kernel
theorem d_La_law_776 : decode Y_La_law.2.1 776 = .ok (.aload_n 1, 1) := by decide +kernel
theorem d_La_law_777 : decode Y_La_law.2.1 777 = .ok (.aload_n 0, 1) := by decide +kernel
theorem d_La_law_778 : decode Y_La_law.2.1 778 = .ok (.iload_n 3, 1) := by decide +kernel
theorem d_La_law_779 : decode Y_La_law.2.1 779 = .ok (.iconst 1, 1) := by decide +kernel
theorem d_La_law_780 : decode Y_La_law.2.1 780 = .ok (.iadd, 1) := by decide +kernel
theorem d_La_law_781 : decode Y_La_law.2.1 781 = .ok (.iaload, 1) := by decide +kernel
theorem d_La_law_782 : decode Y_La_law.2.1 782 = .ok (.invokevirtual 114, 3) := by decide +kernel
theorem d_La_law_785 : decode Y_La_law.2.1 785 = .ok (.aload_n 2, 1) := by decide +kernel
theorem d_La_law_786 : decode Y_La_law.2.1 786 = .ok (.aload_n 0, 1) := by decide +kernel
theorem d_La_law_787 : decode Y_La_law.2.1 787 = .ok (.iload_n 3, 1) := by decide +kernel
theorem d_La_law_788 : decode Y_La_law.2.1 788 = .ok (.iconst 1, 1) := by decide +kernel
theorem d_La_law_789 : decode Y_La_law.2.1 789 = .ok (.iadd, 1) := by decide +kernel
theorem d_La_law_790 : decode Y_La_law.2.1 790 = .ok (.iaload, 1) := by decide +kernel
theorem d_La_law_791 : decode Y_La_law.2.1 791 = .ok (.invokevirtual 117, 3) := by decide +kernel
theorem d_La_law_794 : decode Y_La_law.2.1 794 = .ok (.if_icmp .eq 5, 3) := by decide +kernel
theorem d_La_law_797 : decode Y_La_law.2.1 797 = .ok (.iconst 0, 1) := by decide +kernel
theorem d_La_law_798 : decode Y_La_law.2.1 798 = .ok (.ireturn, 1) := by decide +kernel
theorem d_La_law_799 : decode Y_La_law.2.1 799 = .ok (.iinc 3 4, 3) := by decide +kernel
theorem d_La_law_802 : decode Y_La_law.2.1 802 = .ok (.goto (-784), 3) := by decide +kernel
theorem d_La_law_805 : decode Y_La_law.2.1 805 = .ok (.iconst 1, 1) := by decide +kernel
theorem d_La_law_806 : decode Y_La_law.2.1 806 = .ok (.ireturn, 1) := by decide +kernel
end
section
/-! X: the machine at a point of a method, over a memory of numbered cells (cell k lies at the address base + k) -/
abbrev zE : Type := (Bool × Nat × (Nat → Int32)) ⊕ (Nat × List Value)
abbrev zMem : Type := List zE
/-- a value of the picture, as the machine has it: refs are cell numbers; a float stands for the law's script -/
def zr (base b : Nat) : Value → Value
  | .ref k => .ref (base + k)
  | .float _ => .ref b
  | v => v
def zok : Value → Bool
  | .float _ => false
  | .long _ => false
  | .double _ => false
  | .retAddr _ => false
  | _ => true
theorem zr_ok {v : Value} (h : zok v = true) (base b b' : Nat) : zr base b v = zr base b' v := by
  cases v <;> first | rfl | (simp [zok] at h)
theorem zr_map_ok {vs : List Value} (h : vs.all zok = true) (base b b' : Nat) : vs.map (zr base b) = vs.map (zr base b') :=
  List.map_congr_left fun v hv => zr_ok (List.all_eq_true.mp h v hv) base b b'
def ze (cI cZ : ClassId) (base : Nat) : zE → va_E
  | .inl (t, n, f) => .inl (if t = true then cZ else cI, n, .inl f)
  | .inr (ci, fs) => .inr (ci, fs.map (zr base 0))
def zw (cI cZ : ClassId) (base : Nat) (μ : zMem) : va_W := μ.mapIdx (fun k c => (base + k, ze cI cZ base c))
theorem zw_get {cI cZ : ClassId} {base : Nat} {μ : zMem} {k : Nat} {c : zE} (h : μ[k]? = some c) : (zw cI cZ base μ)[k]? = some (base + k, ze cI cZ base c) := by
  simp [zw, List.getElem?_mapIdx, h]
theorem zw_of {cI cZ : ClassId} {base : Nat} {μ : zMem} {k : Nat} {q : Nat × va_E} (h : (zw cI cZ base μ)[k]? = some q) : ∃ c, μ[k]? = some c ∧ q = (base + k, ze cI cZ base c) := by
  simp only [zw, List.getElem?_mapIdx, Option.map_eq_some_iff] at h
  obtain ⟨c, h1, h2⟩ := h
  exact ⟨c, h1, h2.symm⟩
theorem zw_set (cI cZ : ClassId) (base : Nat) (μ : zMem) (k : Nat) (c : zE) : (zw cI cZ base μ).set k (base + k, ze cI cZ base c) = zw cI cZ base (μ.set k c) := by
  apply List.ext_getElem?
  intro j
  simp only [zw, List.getElem?_set, List.getElem?_mapIdx, List.length_mapIdx]
  by_cases h : k = j
  · subst h
    by_cases h2 : k < μ.length <;> simp [h2]
  · simp [h]
theorem zw_push (cI cZ : ClassId) (base : Nat) (μ : zMem) (c : zE) : zw cI cZ base (μ ++ [c]) = zw cI cZ base μ ++ [(base + μ.length, ze cI cZ base c)] := by
  simp [zw, List.mapIdx_append]
theorem zw_D (cI cZ : ClassId) (base : Nat) (μ : zMem) : va_D (fun q => base ≤ q) (zw cI cZ base μ) := by
  refine ⟨fun i j p q hp hq h => ?_, fun k q hq => ?_⟩
  · obtain ⟨_, _, rfl⟩ := zw_of hp
    obtain ⟨_, _, rfl⟩ := zw_of hq
    have h : base + i = base + j := h
    omega
  · obtain ⟨_, _, rfl⟩ := zw_of hq
    exact Nat.le_add_right _ _
abbrev zFin : Type := Nat → va_G → ClassId → ClassId → List Frame → Array Value → State → State → Prop
def zC (Y : zY) (p : Program) (s : State) (m : MethodId) (args : Array Value) (meth : Method) (c : Code) : Prop :=
  p.tables.exec = Jvm.exec ∧ c.code = Y.2.1 ∧ c.maxLocals = Y.2.2.1 ∧ s.vm.findClass Y.2.2.2.2 = some m.cls ∧ (∀ w ∈ zt, w.before args s = true) ∧ meth.sig.returnType = Y.2.2.2.1 ∧ meth.locks = false ∧ meth.name = Y.1.name
def zK (D : va_G) (cI cZ : ClassId) (U : State) : Prop := va_K D zcl [(cI, .int), (cZ, .boolean)] U ∧ ∀ w ∈ znest, va_Nw w U
theorem zK_moved {D : va_G} {cI cZ : ClassId} {s U : State} (hW : s.WarmedH U.vm) (h : zK D cI cZ s) : zK D cI cZ U := by
  refine ⟨va_K.moved hW.alike h.1, fun w hw => ?_⟩
  have h2 := h.2 w hw
  simp only [znest, List.mem_cons, List.not_mem_nil, or_false] at hw
  rcases hw with rfl | rfl | rfl | rfl | rfl | rfl | rfl | rfl | rfl | rfl | rfl | rfl | rfl <;> exact va_Nw.warmM hW h2
theorem zK_same {D : va_G} {cI cZ : ClassId} {s U : State} (hv : s.vm = U.vm) (h : zK D cI cZ s) : zK D cI cZ U := by
  refine ⟨va_K.moved (by rw [hv]; exact Vm.Alike.refl _) h.1, fun w hw => ?_⟩
  have h2 := h.2 w hw
  simp only [znest, List.mem_cons, List.not_mem_nil, or_false] at hw
  rcases hw with rfl | rfl | rfl | rfl | rfl | rfl | rfl | rfl | rfl | rfl | rfl | rfl | rfl <;> exact va_Nw.same rfl hv h2
def zM (D : va_G) (cI cZ : ClassId) (base : Nat) (μ : zMem) (H : Heap) : Prop := H.size = base + μ.length ∧ va_P D zcl (zw cI cZ base μ) H
def zS (sc : Nat × (Nat → Int32)) (b base : Nat) (own : String) (s : State) : Prop := own = "CircuitWaysLaw" → b < base ∧ b < s.heap.size ∧ va_X b sc.1 sc.2 s s.heap
abbrev zA (base : Nat) : Nat → Prop := fun q => base ≤ q
/-- locals by their places; retAddr stands for a place that holds nothing known -/
abbrev zu : Value := .retAddr 0
def zknown : Value → Bool
  | .retAddr _ => false
  | _ => true
def zL (base b nL : Nat) (lv : List Value) (ls : Array Slot) : Prop := lv.length = nL ∧ (∀ v ∈ lv, v.category = 1) ∧ ls.size = nL ∧ lv_wf ls ∧ ∀ (i : Nat) (v : Value), lv[i]? = some v → zknown v = true → ls[i]? = some (.val (zr base b v))
theorem zr_cat {base b : Nat} {v : Value} (h : v.category = 1) : (zr base b v).category = 1 := by
  cases v <;> first | rfl | (simp [Value.category] at h)
theorem zL_get {base b nL : Nat} {lv : List Value} {ls : Array Slot} (h : zL base b nL lv ls) {i : Nat} {v : Value} (hi : lv[i]? = some v) (hk : zknown v = true) : ls[i]? = some (.val (zr base b v)) := h.2.2.2.2 i v hi hk
/-- the known locals as the kit's rows want them -/
def zls (base b : Nat) (lv : List Value) : List (Nat × Value) := (lv.mapIdx (fun i v => (i, v))).filterMap (fun q => if zknown q.2 = true then some (q.1, zr base b q.2) else none)
theorem zls_mem {base b : Nat} {lv : List Value} {q : Nat × Value} : q ∈ zls base b lv ↔ ∃ v, lv[q.1]? = some v ∧ zknown v = true ∧ q.2 = zr base b v := by
  simp only [zls, List.mem_filterMap]
  constructor
  · rintro ⟨x, hx, h⟩
    obtain ⟨i, hi⟩ := List.getElem?_of_mem hx
    simp only [List.getElem?_mapIdx, Option.map_eq_some_iff] at hi
    obtain ⟨v, h1, rfl⟩ := hi
    by_cases hk : zknown v = true
    · simp [hk] at h
      subst h
      exact ⟨v, h1, hk, rfl⟩
    · simp [hk] at h
  · rintro ⟨v, h1, h2, h3⟩
    refine ⟨(q.1, v), List.mem_of_getElem? (i := q.1) (by simp [List.getElem?_mapIdx, h1]), by simp [h2, ← h3]⟩
theorem zL_has {base b nL : Nat} {lv : List Value} {ls : Array Slot} (h : zL base b nL lv ls) : lv_has ls nL (zls base b lv) := by
  refine ⟨h.2.2.1, h.2.2.2.1, fun q hq => ?_⟩
  obtain ⟨v, h1, h2, h3⟩ := zls_mem.mp hq
  rw [h3]
  exact zL_get h h1 h2
theorem zL_set {base b nL : Nat} {lv : List Value} {ls ls' : Array Slot} {i : Nat} {v : Value} (h : zL base b nL lv ls) (hv : v.category = 1)
    (h' : lv_has ls' nL ((i, zr base b v) :: (zls base b lv).filter (fun q => !(q.1 == i) && !(q.1 + 1 == i && q.2.category == 2)))) : zL base b nL (lv.set i v) ls' := by
  obtain ⟨h1, h2, h3, h4, h5⟩ := h
  refine ⟨by simp [h1], fun w hw => ?_, h'.1, h'.2.1, fun j w hw hk => ?_⟩
  · rcases List.mem_or_eq_of_mem_set hw with q | q
    · exact h2 w q
    · rw [q]; exact hv
  · by_cases hj : i = j
    · subst hj
      have hl : i < lv.length := by
        have := (List.getElem?_eq_some_iff.mp hw).1
        simpa using this
      rw [List.getElem?_set_self hl] at hw
      cases hw
      exact h'.2.2 _ List.mem_cons_self
    · rw [List.getElem?_set_ne hj] at hw
      refine h'.2.2 (j, zr base b w) (List.mem_cons_of_mem _ (List.mem_filter.mpr ⟨zls_mem.mpr ⟨w, hw, hk, rfl⟩, ?_⟩))
      have hc := zr_cat (base := base) (b := b) (h2 w (List.mem_of_getElem? hw))
      simp [hc, Ne.symm hj]
theorem zL_drop {base b nL : Nat} {lv lv' : List Value} {ls : Array Slot} (h : zL base b nL lv ls) (hl : lv'.length = lv.length) (hc : ∀ v ∈ lv', v.category = 1) (hs : ∀ (i : Nat) (v : Value), lv'[i]? = some v → zknown v = true → lv[i]? = some v) : zL base b nL lv' ls :=
  ⟨by rw [hl]; exact h.1, hc, h.2.2.1, h.2.2.2.1, fun i v hi hk => h.2.2.2.2 i v (hs i v hi hk) hk⟩
def X (Y : zY) (rm : Room) (sc : Nat × (Nat → Int32)) (F : zFin) (pc : Nat) (lv : List Value) (st : List Value) (μ : zMem) (kc ks : Nat) : Prop :=
  ∀ (p : Program) (l : Launch) (e : Env) (s : State) (m : MethodId) (args : Array Value) (below : List Frame) (meth : Method) (c : Code) (b base : Nat) (D : va_G) (cI cZ : ClassId) (H : Heap) (locs : List Loc) (ls : Array Slot),
    zC Y p s m args meth c → zK D cI cZ s → zS sc b base Y.2.2.2.2 s → base ≤ s.heap.size → zM D cI cZ base μ H → va_S (zA base) s.heap H locs → zL base b Y.2.2.1 lv ls →
    W p l e rm s m args below meth c H locs kc ks (F base D cI cZ below args s) (F0 m pc ls (st.map (zr base b)))
section XR
variable {Y : zY} {rm : Room} {sc : Nat × (Nat → Int32)} {F : zFin} {pc : Nat} {lv st : List Value} {μ : zMem} {kc ks : Nat}

theorem x_iconst {n : Int} {v : Int32} (hd : decode Y.2.1 pc = .ok (.iconst n, 1)) (hv : Int32.ofInt n = v) (K : X Y rm sc F (pc + 1) lv (.int v :: st) μ kc ks) : X Y rm sc F pc lv st μ kc ks :=
  fun p l e s m args below meth c b base D cI cZ H locs ls hC hK hZ hb hM hS hL => lv_iconst hC.1 hC.2.1 hd hv (K p l e s m args below meth c b base D cI cZ H locs ls hC hK hZ hb hM hS hL)
theorem x_bipush {n : Int} {v : Int32} (hd : decode Y.2.1 pc = .ok (.bipush n, 2)) (hv : (Int8.ofInt n).toInt32 = v) (K : X Y rm sc F (pc + 2) lv (.int v :: st) μ kc ks) : X Y rm sc F pc lv st μ kc ks :=
  fun p l e s m args below meth c b base D cI cZ H locs ls hC hK hZ hb hM hS hL => lv_bipush hC.1 hC.2.1 hd hv (K p l e s m args below meth c b base D cI cZ H locs ls hC hK hZ hb hM hS hL)
theorem x_sipush {n : Int} {v : Int32} (hd : decode Y.2.1 pc = .ok (.sipush n, 3)) (hv : (Int16.ofInt n).toInt32 = v) (K : X Y rm sc F (pc + 3) lv (.int v :: st) μ kc ks) : X Y rm sc F pc lv st μ kc ks :=
  fun p l e s m args below meth c b base D cI cZ H locs ls hC hK hZ hb hM hS hL => lv_sipush hC.1 hC.2.1 hd hv (K p l e s m args below meth c b base D cI cZ H locs ls hC hK hZ hb hM hS hL)
theorem x_ldc {i : Nat} {v : Int32} (hd : decode Y.2.1 pc = .ok (.ldc i, 2)) (hw : Cond.constant Y.2.2.2.2 i v ∈ zt) (K : X Y rm sc F (pc + 2) lv (.int v :: st) μ kc ks) : X Y rm sc F pc lv st μ kc ks :=
  fun p l e s m args below meth c b base D cI cZ H locs ls hC hK hZ hb hM hS hL => lv_ldc hC.1 hC.2.1 hC.2.2.2.1 (hC.2.2.2.2.1 _ hw) hd (K p l e s m args below meth c b base D cI cZ H locs ls hC hK hZ hb hM hS hL)
theorem x_ldcw {i : Nat} {v : Int32} (hd : decode Y.2.1 pc = .ok (.ldc_w i, 3)) (hw : Cond.constant Y.2.2.2.2 i v ∈ zt) (K : X Y rm sc F (pc + 3) lv (.int v :: st) μ kc ks) : X Y rm sc F pc lv st μ kc ks :=
  fun p l e s m args below meth c b base D cI cZ H locs ls hC hK hZ hb hM hS hL => lv_ldcw hC.1 hC.2.1 hC.2.2.2.1 (hC.2.2.2.2.1 _ hw) hd (K p l e s m args below meth c b base D cI cZ H locs ls hC hK hZ hb hM hS hL)
theorem x_iload_n {k : Fin 4} {v : Int32} (hd : decode Y.2.1 pc = .ok (.iload_n k, 1)) (hv : lv[(k : Nat)]? = some (.int v)) (K : X Y rm sc F (pc + 1) lv (.int v :: st) μ kc ks) : X Y rm sc F pc lv st μ kc ks :=
  fun p l e s m args below meth c b base D cI cZ H locs ls hC hK hZ hb hM hS hL => lv_iload_n hC.1 hC.2.1 hd rfl (zL_get hL hv rfl) (K p l e s m args below meth c b base D cI cZ H locs ls hC hK hZ hb hM hS hL)
theorem x_iload {k : Nat} {v : Int32} (hd : decode Y.2.1 pc = .ok (.iload k, 2)) (hv : lv[k]? = some (.int v)) (K : X Y rm sc F (pc + 2) lv (.int v :: st) μ kc ks) : X Y rm sc F pc lv st μ kc ks :=
  fun p l e s m args below meth c b base D cI cZ H locs ls hC hK hZ hb hM hS hL => lv_iload hC.1 hC.2.1 hd (zL_get hL hv rfl) (K p l e s m args below meth c b base D cI cZ H locs ls hC hK hZ hb hM hS hL)
theorem x_aload_n {k : Fin 4} {v : Nat} (hd : decode Y.2.1 pc = .ok (.aload_n k, 1)) (hv : lv[(k : Nat)]? = some (.ref v)) (K : X Y rm sc F (pc + 1) lv (.ref v :: st) μ kc ks) : X Y rm sc F pc lv st μ kc ks :=
  fun p l e s m args below meth c b base D cI cZ H locs ls hC hK hZ hb hM hS hL => lv_aload_n hC.1 hC.2.1 hd rfl (zL_get hL hv rfl) (K p l e s m args below meth c b base D cI cZ H locs ls hC hK hZ hb hM hS hL)
theorem x_sload_n {k : Fin 4} {v : UInt32} (hd : decode Y.2.1 pc = .ok (.aload_n k, 1)) (hv : lv[(k : Nat)]? = some (.float v)) (K : X Y rm sc F (pc + 1) lv (.float v :: st) μ kc ks) : X Y rm sc F pc lv st μ kc ks :=
  fun p l e s m args below meth c b base D cI cZ H locs ls hC hK hZ hb hM hS hL => lv_aload_n hC.1 hC.2.1 hd rfl (zL_get hL hv rfl) (K p l e s m args below meth c b base D cI cZ H locs ls hC hK hZ hb hM hS hL)
theorem x_istore_n {k : Fin 4} {v : Int32} {lv' : List Value} (hd : decode Y.2.1 pc = .ok (.istore_n k, 1)) (hk : (k : Nat) < lv.length) (hv : lv.set (k : Nat) (.int v) = lv') (K : X Y rm sc F (pc + 1) lv' st μ kc ks) : X Y rm sc F pc lv (.int v :: st) μ kc ks := by
  subst hv
  intro p l e s m args below meth c b base D cI cZ H locs ls hC hK hZ hb hM hS hL
  exact lv_istore_n (lv' := _) hC.1 hC.2.1 hd rfl (zL_has hL) (by rw [← hL.1]; exact hk) rfl (fun ls' h' => K p l e s m args below meth c b base D cI cZ H locs ls' hC hK hZ hb hM hS (zL_set (v := .int v) hL rfl h'))
theorem x_istore {k : Nat} {v : Int32} {lv' : List Value} (hd : decode Y.2.1 pc = .ok (.istore k, 2)) (hk : k < lv.length) (hv : lv.set k (.int v) = lv') (K : X Y rm sc F (pc + 2) lv' st μ kc ks) : X Y rm sc F pc lv (.int v :: st) μ kc ks := by
  subst hv
  intro p l e s m args below meth c b base D cI cZ H locs ls hC hK hZ hb hM hS hL
  exact lv_istore (lv' := _) hC.1 hC.2.1 hd (zL_has hL) (by rw [← hL.1]; exact hk) rfl (fun ls' h' => K p l e s m args below meth c b base D cI cZ H locs ls' hC hK hZ hb hM hS (zL_set (v := .int v) hL rfl h'))
theorem x_astore_n {k : Fin 4} {v : Nat} {lv' : List Value} (hd : decode Y.2.1 pc = .ok (.astore_n k, 1)) (hk : (k : Nat) < lv.length) (hv : lv.set (k : Nat) (.ref v) = lv') (K : X Y rm sc F (pc + 1) lv' st μ kc ks) : X Y rm sc F pc lv (.ref v :: st) μ kc ks := by
  subst hv
  intro p l e s m args below meth c b base D cI cZ H locs ls hC hK hZ hb hM hS hL
  exact lv_astore_n (lv' := _) hC.1 hC.2.1 hd rfl (zL_has hL) (by rw [← hL.1]; exact hk) rfl (fun ls' h' => K p l e s m args below meth c b base D cI cZ H locs ls' hC hK hZ hb hM hS (zL_set (v := .ref v) hL rfl h'))
theorem x_iinc {k : Nat} {n : Int} {x v : Int32} {lv' : List Value} (hd : decode Y.2.1 pc = .ok (.iinc k n, 3)) (hx : lv[k]? = some (.int x)) (hv : x + Int32.ofInt n = v) (hl : lv.set k (.int v) = lv') (K : X Y rm sc F (pc + 3) lv' st μ kc ks) : X Y rm sc F pc lv st μ kc ks := by
  subst hl
  intro p l e s m args below meth c b base D cI cZ H locs ls hC hK hZ hb hM hS hL
  obtain ⟨q, hq⟩ := List.getElem?_of_mem (zls_mem.mpr ⟨_, hx, rfl, rfl⟩ : (k, zr base b (.int x)) ∈ zls base b lv)
  exact lv_iinc (lv' := _) hC.1 hC.2.1 hd (zL_has hL) hq hv (by rw [← hL.1]; exact (List.getElem?_eq_some_iff.mp hx).1) rfl (fun ls' h' => K p l e s m args below meth c b base D cI cZ H locs ls' hC hK hZ hb hM hS (zL_set (v := .int v) hL rfl h'))
theorem x_iadd {x y : Int32} (hd : decode Y.2.1 pc = .ok (.iadd, 1)) (K : X Y rm sc F (pc + 1) lv (.int (x + y) :: st) μ kc ks) : X Y rm sc F pc lv (.int y :: .int x :: st) μ kc ks :=
  fun p l e s m args below meth c b base D cI cZ H locs ls hC hK hZ hb hM hS hL => lv_iadd hC.1 hC.2.1 hd (K p l e s m args below meth c b base D cI cZ H locs ls hC hK hZ hb hM hS hL)
theorem x_isub {x y : Int32} (hd : decode Y.2.1 pc = .ok (.isub, 1)) (K : X Y rm sc F (pc + 1) lv (.int (x - y) :: st) μ kc ks) : X Y rm sc F pc lv (.int y :: .int x :: st) μ kc ks :=
  fun p l e s m args below meth c b base D cI cZ H locs ls hC hK hZ hb hM hS hL => lv_isub hC.1 hC.2.1 hd (K p l e s m args below meth c b base D cI cZ H locs ls hC hK hZ hb hM hS hL)
theorem x_imul {x y : Int32} (hd : decode Y.2.1 pc = .ok (.imul, 1)) (K : X Y rm sc F (pc + 1) lv (.int (x * y) :: st) μ kc ks) : X Y rm sc F pc lv (.int y :: .int x :: st) μ kc ks :=
  fun p l e s m args below meth c b base D cI cZ H locs ls hC hK hZ hb hM hS hL => lv_imul hC.1 hC.2.1 hd (K p l e s m args below meth c b base D cI cZ H locs ls hC hK hZ hb hM hS hL)
theorem x_iand {x y : Int32} (hd : decode Y.2.1 pc = .ok (.iand, 1)) (K : X Y rm sc F (pc + 1) lv (.int (x &&& y) :: st) μ kc ks) : X Y rm sc F pc lv (.int y :: .int x :: st) μ kc ks :=
  fun p l e s m args below meth c b base D cI cZ H locs ls hC hK hZ hb hM hS hL => lv_iand hC.1 hC.2.1 hd (K p l e s m args below meth c b base D cI cZ H locs ls hC hK hZ hb hM hS hL)
theorem x_ior {x y : Int32} (hd : decode Y.2.1 pc = .ok (.ior, 1)) (K : X Y rm sc F (pc + 1) lv (.int (x ||| y) :: st) μ kc ks) : X Y rm sc F pc lv (.int y :: .int x :: st) μ kc ks :=
  fun p l e s m args below meth c b base D cI cZ H locs ls hC hK hZ hb hM hS hL => lv_ior hC.1 hC.2.1 hd (K p l e s m args below meth c b base D cI cZ H locs ls hC hK hZ hb hM hS hL)
theorem x_ixor {x y : Int32} (hd : decode Y.2.1 pc = .ok (.ixor, 1)) (K : X Y rm sc F (pc + 1) lv (.int (x ^^^ y) :: st) μ kc ks) : X Y rm sc F pc lv (.int y :: .int x :: st) μ kc ks :=
  fun p l e s m args below meth c b base D cI cZ H locs ls hC hK hZ hb hM hS hL => lv_ixor hC.1 hC.2.1 hd (K p l e s m args below meth c b base D cI cZ H locs ls hC hK hZ hb hM hS hL)
theorem x_ishl {x y : Int32} (hd : decode Y.2.1 pc = .ok (.ishl, 1)) (K : X Y rm sc F (pc + 1) lv (.int (x <<< (y &&& 31)) :: st) μ kc ks) : X Y rm sc F pc lv (.int y :: .int x :: st) μ kc ks :=
  fun p l e s m args below meth c b base D cI cZ H locs ls hC hK hZ hb hM hS hL => lv_ishl hC.1 hC.2.1 hd (K p l e s m args below meth c b base D cI cZ H locs ls hC hK hZ hb hM hS hL)
theorem x_ishr {x y : Int32} (hd : decode Y.2.1 pc = .ok (.ishr, 1)) (K : X Y rm sc F (pc + 1) lv (.int (x >>> (y &&& 31)) :: st) μ kc ks) : X Y rm sc F pc lv (.int y :: .int x :: st) μ kc ks :=
  fun p l e s m args below meth c b base D cI cZ H locs ls hC hK hZ hb hM hS hL => lv_ishr hC.1 hC.2.1 hd (K p l e s m args below meth c b base D cI cZ H locs ls hC hK hZ hb hM hS hL)
theorem x_iushr {x y v : Int32} (hd : decode Y.2.1 pc = .ok (.iushr, 1)) (hv : (x.toUInt32 >>> (y.toUInt32 &&& Int32.toUInt32 31)).toInt32 = v) (K : X Y rm sc F (pc + 1) lv (.int v :: st) μ kc ks) : X Y rm sc F pc lv (.int y :: .int x :: st) μ kc ks :=
  fun p l e s m args below meth c b base D cI cZ H locs ls hC hK hZ hb hM hS hL => lv_iushr hC.1 hC.2.1 hd hv (K p l e s m args below meth c b base D cI cZ H locs ls hC hK hZ hb hM hS hL)
theorem x_ineg {x : Int32} (hd : decode Y.2.1 pc = .ok (.ineg, 1)) (K : X Y rm sc F (pc + 1) lv (.int (-x) :: st) μ kc ks) : X Y rm sc F pc lv (.int x :: st) μ kc ks :=
  fun p l e s m args below meth c b base D cI cZ H locs ls hC hK hZ hb hM hS hL => lv_ineg hC.1 hC.2.1 hd (K p l e s m args below meth c b base D cI cZ H locs ls hC hK hZ hb hM hS hL)
theorem x_dup {v : Value} (hd : decode Y.2.1 pc = .ok (.dup, 1)) (hv : v.category = 1) (K : X Y rm sc F (pc + 1) lv (v :: v :: st) μ kc ks) : X Y rm sc F pc lv (v :: st) μ kc ks :=
  fun p l e s m args below meth c b base D cI cZ H locs ls hC hK hZ hb hM hS hL => lv_dup hC.1 hC.2.1 hd (zr_cat hv) (K p l e s m args below meth c b base D cI cZ H locs ls hC hK hZ hb hM hS hL)
theorem x_dup2 {v w : Value} (hd : decode Y.2.1 pc = .ok (.dup2, 1)) (hv : v.category = 1) (hw : w.category = 1) (K : X Y rm sc F (pc + 1) lv (v :: w :: v :: w :: st) μ kc ks) : X Y rm sc F pc lv (v :: w :: st) μ kc ks :=
  fun p l e s m args below meth c b base D cI cZ H locs ls hC hK hZ hb hM hS hL => lv_dup2_11 hC.1 hC.2.1 hd (zr_cat hv) (zr_cat hw) (K p l e s m args below meth c b base D cI cZ H locs ls hC hK hZ hb hM hS hL)
theorem x_if_eq {x : Int32} {off : Int} {tgt : Nat} (hd : decode Y.2.1 pc = .ok (.ifCond .eq off, 3)) (ht : (pc : Int) + off = (tgt : Int)) (kt : x = 0 → X Y rm sc F tgt lv st μ kc ks) (kf : ¬ x = 0 → X Y rm sc F (pc + 3) lv st μ kc ks) : X Y rm sc F pc lv (.int x :: st) μ kc ks :=
  fun p l e s m args below meth c b base D cI cZ H locs ls hC hK hZ hb hM hS hL => lv_if_eq hC.1 hC.2.1 hd ht (fun h => kt h p l e s m args below meth c b base D cI cZ H locs ls hC hK hZ hb hM hS hL) (fun h => kf h p l e s m args below meth c b base D cI cZ H locs ls hC hK hZ hb hM hS hL)
theorem x_icmp_eq {x y : Int32} {off : Int} {tgt : Nat} (hd : decode Y.2.1 pc = .ok (.if_icmp .eq off, 3)) (ht : (pc : Int) + off = (tgt : Int)) (kt : x = y → X Y rm sc F tgt lv st μ kc ks) (kf : ¬ x = y → X Y rm sc F (pc + 3) lv st μ kc ks) : X Y rm sc F pc lv (.int y :: .int x :: st) μ kc ks :=
  fun p l e s m args below meth c b base D cI cZ H locs ls hC hK hZ hb hM hS hL => lv_icmp_eq hC.1 hC.2.1 hd ht (fun h => kt h p l e s m args below meth c b base D cI cZ H locs ls hC hK hZ hb hM hS hL) (fun h => kf h p l e s m args below meth c b base D cI cZ H locs ls hC hK hZ hb hM hS hL)
theorem x_if_ne {x : Int32} {off : Int} {tgt : Nat} (hd : decode Y.2.1 pc = .ok (.ifCond .ne off, 3)) (ht : (pc : Int) + off = (tgt : Int)) (kt : ¬ x = 0 → X Y rm sc F tgt lv st μ kc ks) (kf : x = 0 → X Y rm sc F (pc + 3) lv st μ kc ks) : X Y rm sc F pc lv (.int x :: st) μ kc ks :=
  fun p l e s m args below meth c b base D cI cZ H locs ls hC hK hZ hb hM hS hL => lv_if_ne hC.1 hC.2.1 hd ht (fun h => kt h p l e s m args below meth c b base D cI cZ H locs ls hC hK hZ hb hM hS hL) (fun h => kf h p l e s m args below meth c b base D cI cZ H locs ls hC hK hZ hb hM hS hL)
theorem x_icmp_ne {x y : Int32} {off : Int} {tgt : Nat} (hd : decode Y.2.1 pc = .ok (.if_icmp .ne off, 3)) (ht : (pc : Int) + off = (tgt : Int)) (kt : ¬ x = y → X Y rm sc F tgt lv st μ kc ks) (kf : x = y → X Y rm sc F (pc + 3) lv st μ kc ks) : X Y rm sc F pc lv (.int y :: .int x :: st) μ kc ks :=
  fun p l e s m args below meth c b base D cI cZ H locs ls hC hK hZ hb hM hS hL => lv_icmp_ne hC.1 hC.2.1 hd ht (fun h => kt h p l e s m args below meth c b base D cI cZ H locs ls hC hK hZ hb hM hS hL) (fun h => kf h p l e s m args below meth c b base D cI cZ H locs ls hC hK hZ hb hM hS hL)
theorem x_if_lt {x : Int32} {off : Int} {tgt : Nat} (hd : decode Y.2.1 pc = .ok (.ifCond .lt off, 3)) (ht : (pc : Int) + off = (tgt : Int)) (kt : x < 0 → X Y rm sc F tgt lv st μ kc ks) (kf : ¬ x < 0 → X Y rm sc F (pc + 3) lv st μ kc ks) : X Y rm sc F pc lv (.int x :: st) μ kc ks :=
  fun p l e s m args below meth c b base D cI cZ H locs ls hC hK hZ hb hM hS hL => lv_if_lt hC.1 hC.2.1 hd ht (fun h => kt h p l e s m args below meth c b base D cI cZ H locs ls hC hK hZ hb hM hS hL) (fun h => kf h p l e s m args below meth c b base D cI cZ H locs ls hC hK hZ hb hM hS hL)
theorem x_icmp_lt {x y : Int32} {off : Int} {tgt : Nat} (hd : decode Y.2.1 pc = .ok (.if_icmp .lt off, 3)) (ht : (pc : Int) + off = (tgt : Int)) (kt : x < y → X Y rm sc F tgt lv st μ kc ks) (kf : ¬ x < y → X Y rm sc F (pc + 3) lv st μ kc ks) : X Y rm sc F pc lv (.int y :: .int x :: st) μ kc ks :=
  fun p l e s m args below meth c b base D cI cZ H locs ls hC hK hZ hb hM hS hL => lv_icmp_lt hC.1 hC.2.1 hd ht (fun h => kt h p l e s m args below meth c b base D cI cZ H locs ls hC hK hZ hb hM hS hL) (fun h => kf h p l e s m args below meth c b base D cI cZ H locs ls hC hK hZ hb hM hS hL)
theorem x_if_ge {x : Int32} {off : Int} {tgt : Nat} (hd : decode Y.2.1 pc = .ok (.ifCond .ge off, 3)) (ht : (pc : Int) + off = (tgt : Int)) (kt : 0 ≤ x → X Y rm sc F tgt lv st μ kc ks) (kf : ¬ 0 ≤ x → X Y rm sc F (pc + 3) lv st μ kc ks) : X Y rm sc F pc lv (.int x :: st) μ kc ks :=
  fun p l e s m args below meth c b base D cI cZ H locs ls hC hK hZ hb hM hS hL => lv_if_ge hC.1 hC.2.1 hd ht (fun h => kt h p l e s m args below meth c b base D cI cZ H locs ls hC hK hZ hb hM hS hL) (fun h => kf h p l e s m args below meth c b base D cI cZ H locs ls hC hK hZ hb hM hS hL)
theorem x_icmp_ge {x y : Int32} {off : Int} {tgt : Nat} (hd : decode Y.2.1 pc = .ok (.if_icmp .ge off, 3)) (ht : (pc : Int) + off = (tgt : Int)) (kt : y ≤ x → X Y rm sc F tgt lv st μ kc ks) (kf : ¬ y ≤ x → X Y rm sc F (pc + 3) lv st μ kc ks) : X Y rm sc F pc lv (.int y :: .int x :: st) μ kc ks :=
  fun p l e s m args below meth c b base D cI cZ H locs ls hC hK hZ hb hM hS hL => lv_icmp_ge hC.1 hC.2.1 hd ht (fun h => kt h p l e s m args below meth c b base D cI cZ H locs ls hC hK hZ hb hM hS hL) (fun h => kf h p l e s m args below meth c b base D cI cZ H locs ls hC hK hZ hb hM hS hL)
theorem x_if_gt {x : Int32} {off : Int} {tgt : Nat} (hd : decode Y.2.1 pc = .ok (.ifCond .gt off, 3)) (ht : (pc : Int) + off = (tgt : Int)) (kt : 0 < x → X Y rm sc F tgt lv st μ kc ks) (kf : ¬ 0 < x → X Y rm sc F (pc + 3) lv st μ kc ks) : X Y rm sc F pc lv (.int x :: st) μ kc ks :=
  fun p l e s m args below meth c b base D cI cZ H locs ls hC hK hZ hb hM hS hL => lv_if_gt hC.1 hC.2.1 hd ht (fun h => kt h p l e s m args below meth c b base D cI cZ H locs ls hC hK hZ hb hM hS hL) (fun h => kf h p l e s m args below meth c b base D cI cZ H locs ls hC hK hZ hb hM hS hL)
theorem x_icmp_gt {x y : Int32} {off : Int} {tgt : Nat} (hd : decode Y.2.1 pc = .ok (.if_icmp .gt off, 3)) (ht : (pc : Int) + off = (tgt : Int)) (kt : y < x → X Y rm sc F tgt lv st μ kc ks) (kf : ¬ y < x → X Y rm sc F (pc + 3) lv st μ kc ks) : X Y rm sc F pc lv (.int y :: .int x :: st) μ kc ks :=
  fun p l e s m args below meth c b base D cI cZ H locs ls hC hK hZ hb hM hS hL => lv_icmp_gt hC.1 hC.2.1 hd ht (fun h => kt h p l e s m args below meth c b base D cI cZ H locs ls hC hK hZ hb hM hS hL) (fun h => kf h p l e s m args below meth c b base D cI cZ H locs ls hC hK hZ hb hM hS hL)
theorem x_if_le {x : Int32} {off : Int} {tgt : Nat} (hd : decode Y.2.1 pc = .ok (.ifCond .le off, 3)) (ht : (pc : Int) + off = (tgt : Int)) (kt : x ≤ 0 → X Y rm sc F tgt lv st μ kc ks) (kf : ¬ x ≤ 0 → X Y rm sc F (pc + 3) lv st μ kc ks) : X Y rm sc F pc lv (.int x :: st) μ kc ks :=
  fun p l e s m args below meth c b base D cI cZ H locs ls hC hK hZ hb hM hS hL => lv_if_le hC.1 hC.2.1 hd ht (fun h => kt h p l e s m args below meth c b base D cI cZ H locs ls hC hK hZ hb hM hS hL) (fun h => kf h p l e s m args below meth c b base D cI cZ H locs ls hC hK hZ hb hM hS hL)
theorem x_icmp_le {x y : Int32} {off : Int} {tgt : Nat} (hd : decode Y.2.1 pc = .ok (.if_icmp .le off, 3)) (ht : (pc : Int) + off = (tgt : Int)) (kt : x ≤ y → X Y rm sc F tgt lv st μ kc ks) (kf : ¬ x ≤ y → X Y rm sc F (pc + 3) lv st μ kc ks) : X Y rm sc F pc lv (.int y :: .int x :: st) μ kc ks :=
  fun p l e s m args below meth c b base D cI cZ H locs ls hC hK hZ hb hM hS hL => lv_icmp_le hC.1 hC.2.1 hd ht (fun h => kt h p l e s m args below meth c b base D cI cZ H locs ls hC hK hZ hb hM hS hL) (fun h => kf h p l e s m args below meth c b base D cI cZ H locs ls hC hK hZ hb hM hS hL)
theorem x_goto {off : Int} {tgt : Nat} (hd : decode Y.2.1 pc = .ok (.goto off, 3)) (ht : (pc : Int) + off = (tgt : Int)) (K : X Y rm sc F tgt lv st μ kc ks) : X Y rm sc F pc lv st μ kc ks :=
  fun p l e s m args below meth c b base D cI cZ H locs ls hC hK hZ hb hM hS hL => lv_goto hC.1 hC.2.1 hd ht (K p l e s m args below meth c b base D cI cZ H locs ls hC hK hZ hb hM hS hL)
theorem x_sw_out {dflt lo hi : Int} {offs : Array Int} {len : Nat} {x : Int32} {tgt : Nat} (hd : decode Y.2.1 pc = .ok (.tableswitch dflt lo hi offs, len)) (h : x.toInt < lo ∨ hi < x.toInt) (ht : (pc : Int) + dflt = (tgt : Int)) (K : X Y rm sc F tgt lv st μ kc ks) : X Y rm sc F pc lv (.int x :: st) μ kc ks :=
  fun p l e s m args below meth c b base D cI cZ H locs ls hC hK hZ hb hM hS hL => lv_tableOut hC.1 hC.2.1 hd h ht (K p l e s m args below meth c b base D cI cZ H locs ls hC hK hZ hb hM hS hL)
theorem x_sw_in {dflt lo hi : Int} {offs : Array Int} {len : Nat} {x : Int32} {off : Int} {tgt : Nat} (hd : decode Y.2.1 pc = .ok (.tableswitch dflt lo hi offs, len)) (h1 : ¬ x.toInt < lo) (h2 : ¬ hi < x.toInt) (ho : offs[(x.toInt - lo).toNat]? = some off) (ht : (pc : Int) + off = (tgt : Int)) (K : X Y rm sc F tgt lv st μ kc ks) : X Y rm sc F pc lv (.int x :: st) μ kc ks :=
  fun p l e s m args below meth c b base D cI cZ H locs ls hC hK hZ hb hM hS hL => lv_tableIn hC.1 hC.2.1 hd h1 h2 ho ht (K p l e s m args below meth c b base D cI cZ H locs ls hC hK hZ hb hM hS hL)
/-- fewer known locals -/
theorem x_drop {lv' : List Value} (hl : lv'.length = lv.length) (hc : ∀ v ∈ lv', v.category = 1) (hs : ∀ (i : Nat) (v : Value), lv'[i]? = some v → zknown v = true → lv[i]? = some v) (K : X Y rm sc F pc lv' st μ kc ks) : X Y rm sc F pc lv st μ kc ks :=
  fun p l e s m args below meth c b base D cI cZ H locs ls hC hK hZ hb hM hS hL => K p l e s m args below meth c b base D cI cZ H locs ls hC hK hZ hb hM hS (zL_drop hL hl hc hs)
theorem x_get {i k ci j N : Nat} {C ref nm ds : String} {T : u_T} {fs : List Value} {v : Value} (hd : decode Y.2.1 pc = .ok (.getfield i, 3)) (hw : Cond.fieldLink Y.2.2.2.2 i ref nm ds ∈ zt) (hm : μ[k]? = some (.inr (ci, fs))) (hc : zcl[ci]? = some (C, T, N)) (hj : j < N) (hT : ((T j).1, (T j).2.1, (T j).2.2.1) = (ref, nm, ds)) (hv : fs[j]? = some v) (ho : zok v = true) (K : X Y rm sc F (pc + 3) lv (v :: st) μ kc ks) : X Y rm sc F pc lv (.ref k :: st) μ kc ks := by
  intro p l e s m args below meth c b base D cI cZ H locs ls hC hK hZ hb hM hS hL
  have e1 : (T j).1 = ref := congrArg (fun q : String × String × String => q.1) hT
  have e2 : (T j).2.1 = nm := congrArg (fun q : String × String × String => q.2.1) hT
  have e3 : (T j).2.2.1 = ds := congrArg (fun q : String × String × String => q.2.2) hT
  subst e1 e2 e3
  refine va_get (D := D) (ci := ci) (v := zr base b v) (C := C) (T := T) (N := N) (ref := (T j).1) hC.1 hC.2.1 hC.2.2.2.2.1 (zcl_in ci _ hc) hC.2.2.2.1 hK.1 hM.2 k (zw_get hm) hc j hj (hC.2.2.2.2.1 _ hw) (fun _ h => h) ?_ hd (K p l e s m args below meth c b base D cI cZ H locs ls hC hK hZ hb hM hS hL)
  rw [List.getElem?_map, hv, zr_ok ho base b 0]; rfl
end XR
end
section
section XR2
variable {Y : zY} {rm : Room} {sc : Nat × (Nat → Int32)} {F : zFin} {pc : Nat} {lv st : List Value} {μ : zMem} {kc ks : Nat}
theorem zM_set {D : va_G} {cI cZ : ClassId} {base : Nat} {μ : zMem} {H H1 : Heap} {k : Nat} {c0 c1 : zE} (h : zM D cI cZ base μ H) (h0 : μ[k]? = some c0) (hz : H1.size = H.size) (ha : va_at D zcl (base + k, ze cI cZ base c1) H1) (hq : ∀ q : Nat, q ≠ base + k → H1[q]? = H[q]?) : zM D cI cZ base (μ.set k c1) H1 := by
  refine ⟨by rw [hz, h.1, List.length_set], ?_⟩
  rw [← zw_set]
  exact h.2.set (zw_D cI cZ base μ) (zw_get h0) ha hq
theorem zr_sum {base b : Nat} : ∀ {st : List Value}, (∀ v ∈ st, v.category = 1) → ((st.map (zr base b)).map fun v => v.category).sum = (st.map fun v => v.category).sum
  | [], _ => rfl
  | v :: st, h => by
    simp only [List.map_cons, List.sum_cons]
    rw [zr_sum (fun w hw => h w (List.mem_cons_of_mem _ hw)), zr_cat (h v List.mem_cons_self), h v List.mem_cons_self]
theorem x_put {i k ci j N : Nat} {C ref nm ds : String} {T : u_T} {fs : List Value} {v : Value} {μ' : zMem} (hd : decode Y.2.1 pc = .ok (.putfield i, 3)) (hw : Cond.fieldLink Y.2.2.2.2 i ref nm ds ∈ zt) (hm : μ[k]? = some (.inr (ci, fs))) (hc : zcl[ci]? = some (C, T, N)) (hj : j < N) (hT : T j = (ref, nm, ds, false)) (hf : j < fs.length) (ho : zok v = true) (hn : ∀ base b, narrow (zty ci j) (zr base b v) = zr base b v) (hfit : ∀ base b, fits (zty ci j) (zr base b v) = true) (hμ : μ.set k (.inr (ci, fs.set j v)) = μ') (K : X Y rm sc F (pc + 3) lv st μ' kc ks) : X Y rm sc F pc lv (v :: .ref k :: st) μ kc ks := by
  subst hμ
  intro p l e s m args below meth c b base D cI cZ H locs ls hC hK hZ hb hM hS hL
  have e1 : (T j).1 = ref := by rw [hT]
  have e2 : (T j).2.1 = nm := by rw [hT]
  have e3 : (T j).2.2.1 = ds := by rw [hT]
  have e4 : (T j).2.2.2 = false := by rw [hT]
  subst e1 e2 e3
  have hap := va_apart (own := Y.2.2.2.2) hC.2.2.2.2.1 (zcl_in ci _ hc) (zty ci) (zcl_ty ci _ hc) (zcl_nm ci _ hc) hK.1 hc
  have hat : va_at D zcl (base + k, .inr (ci, fs.map (zr base 0))) H := hM.2 k _ (zw_get hm)
  obtain ⟨r, h1, cell, q1, q2, q3, q4⟩ := hat
  have hr : r = (C, T, N) := Option.some.inj (h1.symm.trans hc)
  subst hr
  obtain ⟨hSl, hfc, kC, hkC, hkind⟩ := hK.1.1 ci _ hc
  obtain ⟨cf, kf, fi, f, hi, hsl⟩ := hSl j hj
  have hlay := hC.2.2.2.2.1 _ (zcl_in ci _ hc _ (u_in_lay hj))
  unfold u_lay at hlay
  rw [if_neg (by rw [e4]; decide)] at hlay
  have hst := (u_facts hfc hkC (u_lays hC.2.2.2.2.1 (zcl_in ci _ hc) hj) hi).1
  have h6 := u_store hfc hkC hkind hlay hi (zcl_ty ci _ hc j hj) (hn base b) (hfit base b)
  refine W.putK hC.1 hC.2.1 (f := f) ⟨hC.2.2.2.1, hC.2.2.2.2.1 _ hw, ⟨_, _, _, hi⟩, hst⟩ (by rw [q2]; exact h6) q1 q3 (by rw [hsl]; exact k2_hasslot (q4 j hj)) rfl rfl hd fun H' e1 e2 e3 => ?_
  rw [hsl] at e1 ⊢
  refine K p l e s m args below meth c b base D cI cZ H' _ ls hC hK hZ hb (zM_set (c1 := .inr (ci, fs.set j v)) hM hm e2 ?_ e3) (hS.put e2 e3 (Nat.le_add_right _ _)) hL
  refine ⟨_, hc, t_OB.to (V := updV (vp_V (fs.map (zr base 0))) j (zr base b v)) ⟨_, e1, q2, q3, t_set q4 hap hj (zr base b v)⟩ (fun x _ => ?_)⟩
  rw [vp_updV_set (by rw [List.length_map]; exact hf) (zr base b v) x, zr_ok ho base b 0, List.map_set]
theorem x_putF {i k ci j N : Nat} {C ref nm ds : String} {T : u_T} {fs : List Value} {v : Value} {μ' : zMem} (hd : decode Y.2.1 pc = .ok (.putfield i, 3)) (hw : Cond.fieldLink Y.2.2.2.2 i ref nm ds ∈ zt) (hm : μ[k]? = some (.inr (ci, fs))) (hc : zcl[ci]? = some (C, T, N)) (hj : j < N) (hT : T j = (ref, nm, ds, true)) (hf : j < fs.length) (ho : zok v = true) (hn : ∀ base b, narrow (zty ci j) (zr base b v) = zr base b v) (hfit : ∀ base b, fits (zty ci j) (zr base b v) = true) (hdecl : (T j).1 = Y.2.2.2.2) (hin2 : Y.1.name = "<init>") (hμ : μ.set k (.inr (ci, fs.set j v)) = μ') (K : X Y rm sc F (pc + 3) lv st μ' kc ks) : X Y rm sc F pc lv (v :: .ref k :: st) μ kc ks := by
  subst hμ
  intro p l e s m args below meth c b base D cI cZ H locs ls hC hK hZ hb hM hS hL
  have e1 : (T j).1 = ref := by rw [hT]
  have e2 : (T j).2.1 = nm := by rw [hT]
  have e3 : (T j).2.2.1 = ds := by rw [hT]
  have e4 : (T j).2.2.2 = true := by rw [hT]
  subst e1 e2 e3
  have hap := va_apart (own := Y.2.2.2.2) hC.2.2.2.2.1 (zcl_in ci _ hc) (zty ci) (zcl_ty ci _ hc) (zcl_nm ci _ hc) hK.1 hc
  have hat : va_at D zcl (base + k, .inr (ci, fs.map (zr base 0))) H := hM.2 k _ (zw_get hm)
  obtain ⟨r, h1, cell, q1, q2, q3, q4⟩ := hat
  have hr : r = (C, T, N) := Option.some.inj (h1.symm.trans hc)
  subst hr
  obtain ⟨hSl, hfc, kC, hkC, hkind⟩ := hK.1.1 ci _ hc
  obtain ⟨cf, kf, fi, f, hi, hsl⟩ := hSl j hj
  have hlay := hC.2.2.2.2.1 _ (zcl_in ci _ hc _ (u_in_lay hj))
  unfold u_lay at hlay
  rw [if_pos e4] at hlay
  have hst := (u_facts hfc hkC (u_lays hC.2.2.2.2.1 (zcl_in ci _ hc) hj) hi).1
  have hcf : m.cls = cf := by
    obtain ⟨_, _, c', _, _, _, -, -, hf', -, -, -, hown2, -⟩ := Cond.laysFinal_spec hlay
    have e1 : c' = cf := by have := hi.symm.trans hf'; simp at this; exact this.1.symm
    rw [hdecl] at hown2
    rw [← e1]; exact Option.some.inj (hC.2.2.2.1.symm.trans hown2)
  have h6 := u_fits hfc hkC hkind (Or.inr hlay) hi (zcl_ty ci _ hc j hj) (hn base b) (hfit base b)
  refine W.putFinK hC.1 hC.2.1 hC.2.2.2.1 (hC.2.2.2.2.1 _ hw) hi hst hcf (hC.2.2.2.2.2.2.2.trans hin2) (by rw [q2]; exact h6) q1 q3 (by rw [hsl]; exact k2_hasslot (q4 j hj)) rfl rfl hd fun H' e1 e2 e3 => ?_
  rw [hsl] at e1 ⊢
  refine K p l e s m args below meth c b base D cI cZ H' _ ls hC hK hZ hb (zM_set (c1 := .inr (ci, fs.set j v)) hM hm e2 ?_ e3) (hS.put e2 e3 (Nat.le_add_right _ _)) hL
  refine ⟨_, hc, t_OB.to (V := updV (vp_V (fs.map (zr base 0))) j (zr base b v)) ⟨_, e1, q2, q3, t_set q4 hap hj (zr base b v)⟩ (fun x _ => ?_)⟩
  rw [vp_updV_set (by rw [List.length_map]; exact hf) (zr base b v) x, zr_ok ho base b 0, List.map_set]
theorem x_iald {k n : Nat} {f : Nat → Int32} {i : Int32} (hd : decode Y.2.1 pc = .ok (.iaload, 1)) (hm : μ[k]? = some (.inl (false, n, f))) (hin : vp_in i n) (K : X Y rm sc F (pc + 1) lv (.int (f i.toNatClampNeg) :: st) μ kc ks) : X Y rm sc F pc lv (.int i :: .ref k :: st) μ kc ks :=
  fun p l e s m args below meth c b base D cI cZ H locs ls hC hK hZ hb hM hS hL => va_iald hC.1 hC.2.1 hK.1 hM.2 k 0 (zw_get hm) rfl hin hd (K p l e s m args below meth c b base D cI cZ H locs ls hC hK hZ hb hM hS hL)
theorem x_zald {k n : Nat} {f : Nat → Int32} {i : Int32} (hd : decode Y.2.1 pc = .ok (.baload, 1)) (hm : μ[k]? = some (.inl (true, n, f))) (hin : vp_in i n) (K : X Y rm sc F (pc + 1) lv (.int (f i.toNatClampNeg) :: st) μ kc ks) : X Y rm sc F pc lv (.int i :: .ref k :: st) μ kc ks :=
  fun p l e s m args below meth c b base D cI cZ H locs ls hC hK hZ hb hM hS hL => va_zald hC.1 hC.2.1 hK.1 hM.2 k 1 (zw_get hm) rfl hin hd (K p l e s m args below meth c b base D cI cZ H locs ls hC hK hZ hb hM hS hL)
theorem x_iast {k n : Nat} {f : Nat → Int32} {i x : Int32} {μ' : zMem} (hd : decode Y.2.1 pc = .ok (.iastore, 1)) (hm : μ[k]? = some (.inl (false, n, f))) (hμ : μ.set k (.inl (false, n, upd f i.toNatClampNeg x)) = μ') (hin : vp_in i n) (K : X Y rm sc F (pc + 1) lv st μ' kc ks) : X Y rm sc F pc lv (.int x :: .int i :: .ref k :: st) μ kc ks := by
  subst hμ
  intro p l e s m args below meth c b base D cI cZ H locs ls hC hK hZ hb hM hS hL
  have hat : va_at D zcl (base + k, .inl (cI, n, .inl f)) H := hM.2 k _ (zw_get hm)
  refine W.iast hC.1 hC.2.1 hat ((hK.1.2 0 (cI, .int) rfl).1 n (fun j => .int (f j))) (fun q => by cases q) (by show ¬ (i < 0 ∨ (arrV _ _ _).slots.size ≤ _); rw [arrV_size]; exact hin) rfl rfl hd fun H1 e9 z oq => ?_
  refine K p l e s m args below meth c b base D cI cZ H1 _ ls hC hK hZ hb (zM_set (c1 := .inl (false, n, upd f i.toNatClampNeg x)) hM hm z ?_ oq) (hS.put z oq (Nat.le_add_right _ _)) hL
  show H1[base + k]? = some (vp_cell _ _)
  rw [show H1[base + k]? = _ from e9]
  rw [vp_cell_i, vp_cell_i, arrV_store]
  congr 2
  funext q
  by_cases hq : q = i.toNatClampNeg
  · subst hq
    simp [updV, upd]
    try rfl
  · simp [updV, upd, hq]
theorem x_zast {k n : Nat} {f : Nat → Int32} {i x : Int32} {μ' : zMem} (hd : decode Y.2.1 pc = .ok (.bastore, 1)) (hm : μ[k]? = some (.inl (true, n, f))) (hμ : μ.set k (.inl (true, n, upd f i.toNatClampNeg (vp_nar .boolean x))) = μ') (hin : vp_in i n) (K : X Y rm sc F (pc + 1) lv st μ' kc ks) : X Y rm sc F pc lv (.int x :: .int i :: .ref k :: st) μ kc ks := by
  subst hμ
  intro p l e s m args below meth c b base D cI cZ H locs ls hC hK hZ hb hM hS hL
  have hat : va_at D zcl (base + k, .inl (cZ, n, .inl f)) H := hM.2 k _ (zw_get hm)
  refine W.zast hC.1 hC.2.1 hat ((hK.1.2 1 (cZ, .boolean) rfl).1 n (fun j => .int (f j))) (fun q => by cases q) (by show ¬ (i < 0 ∨ (arrV _ _ _).slots.size ≤ _); rw [arrV_size]; exact hin) rfl rfl hd fun H1 e9 z oq => ?_
  refine K p l e s m args below meth c b base D cI cZ H1 _ ls hC hK hZ hb (zM_set (c1 := .inl (true, n, upd f i.toNatClampNeg (vp_nar .boolean x))) hM hm z ?_ oq) (hS.put z oq (Nat.le_add_right _ _)) hL
  show H1[base + k]? = some (vp_cell _ _)
  rw [show H1[base + k]? = _ from e9]
  rw [vp_cell_i, vp_cell_i, arrV_store]
  congr 2
  funext q
  by_cases hq : q = i.toNatClampNeg
  · subst hq
    simp [updV, upd, vp_nar]
    try rfl
  · simp [updV, upd, hq]
theorem x_alen {k n : Nat} {f : Nat → Int32} {v : Int32} (hd : decode Y.2.1 pc = .ok (.arraylength, 1)) (hm : μ[k]? = some (.inl (false, n, f))) (hv : Int32.ofNat n = v) (K : X Y rm sc F (pc + 1) lv (.int v :: st) μ kc ks) : X Y rm sc F pc lv (.ref k :: st) μ kc ks :=
  fun p l e s m args below meth c b base D cI cZ H locs ls hC hK hZ hb hM hS hL => va_alen hC.1 hC.2.1 hK.1 hM.2 k 0 (zw_get hm) (ty := .int) rfl hv hd (K p l e s m args below meth c b base D cI cZ H locs ls hC hK hZ hb hM hS hL)
theorem x_sld {i : Int32} {u : UInt32} (hd : decode Y.2.1 pc = .ok (.iaload, 1)) (hY : Y.2.2.2.2 = "CircuitWaysLaw") (hin : vp_in i sc.1) (K : X Y rm sc F (pc + 1) lv (.int (sc.2 i.toNatClampNeg) :: st) μ kc ks) : X Y rm sc F pc lv (.int i :: .float u :: st) μ kc ks :=
  fun p l e s m args below meth c b base D cI cZ H locs ls hC hK hZ hb hM hS hL => va_sld hC.1 hC.2.1 (hZ hY).2.2 (hZ hY).2.1 (Nat.not_le.mpr (hZ hY).1) hS hin hd (K p l e s m args below meth c b base D cI cZ H locs ls hC hK hZ hb hM hS hL)
theorem x_slen {u : UInt32} (hd : decode Y.2.1 pc = .ok (.arraylength, 1)) (hY : Y.2.2.2.2 = "CircuitWaysLaw") (K : X Y rm sc F (pc + 1) lv (.int (Int32.ofNat sc.1) :: st) μ kc ks) : X Y rm sc F pc lv (.float u :: st) μ kc ks :=
  fun p l e s m args below meth c b base D cI cZ H locs ls hC hK hZ hb hM hS hL => va_slen hC.1 hC.2.1 (hZ hY).2.2 (hZ hY).2.1 (Nat.not_le.mpr (hZ hY).1) hS hd (K p l e s m args below meth c b base D cI cZ H locs ls hC hK hZ hb hM hS hL)
theorem x_min {i : Nat} {x y : Int32} (hd : decode Y.2.1 pc = .ok (.invokestatic i, 3)) (hw : Cond.methodLink Y.2.2.2.2 i Lib.Math.min.name ∈ zt) (hf : 1 ≤ rm.frames) (hl : (st.map fun v => v.category).sum + 13 ≤ rm.locals) (hk : kc ≤ rm.cells ∧ ks ≤ rm.slots) (hst : ∀ v ∈ st, v.category = 1) (K : X Y rm sc F (pc + 3) lv (.int (if y < x then y else x) :: st) μ kc ks) : X Y rm sc F pc lv (.int y :: .int x :: st) μ kc ks :=
  fun p l e s m args below meth c b base D cI cZ H locs ls hC hK hZ hb hM hS hL => va_mmin hC.1 hC.2.1 (by rw [hL.2.2.1]; exact hC.2.2.1) hC.2.2.2.1 (hC.2.2.2.2.1 _ hw) (hC.2.2.2.2.1 _ k_min_static) (hC.2.2.2.2.1 _ k_min_init) (hC.2.2.2.2.1 _ k_min_code) hf (by rw [zr_sum hst]; exact hl) hk.1 hk.2 hd (K p l e s m args below meth c b base D cI cZ H locs ls hC hK hZ hb hM hS hL)
end XR2
/-- a method's end -/
def zQc (Q : Option Value → zMem → Prop) (base : Nat) (D : va_G) (cI cZ : ClassId) : Array Value → State → Outcome → State → Prop := fun _ st oc t =>
  ∃ (r : Option Value) (μ' : zMem), oc = .returned (r.map (zr base 0)) ∧ Q r μ' ∧ zM D cI cZ base μ' t.heap ∧ va_F (zA base) st t
def zP (av : List Value) (base : Nat) (D : va_G) (cI cZ : ClassId) (μ : zMem) : Array Value → State → Prop := va_Pc (av.map (zr base 0)) (fun U => zM D cI cZ base μ U.heap ∧ zK D cI cZ U)
def zFm (Q : Option Value → zMem → Prop) (rm : Room) : zFin := fun base D cI cZ below args s => MQ below (zQc Q base D cI cZ) args s rm.cells rm.slots (zA base)
/-- a method's contract: from the memory μ, with these arguments, it ends, and its answer and the memory behind it have Q -/
def Ctr (Y : zY) (rm : Room) (av : List Value) (μ : zMem) (Q : Option Value → zMem → Prop) : Prop :=
  ∀ (l : Launch) (base : Nat) (D : va_G) (cI cZ : ClassId), Met l Y.1 (Cond.code Y.1 Y.2.1 Y.2.2.1 Y.2.2.2.1 :: zt) rm (zP av base D cI cZ μ) (zQc Q base D cI cZ) rm.cells rm.slots (zA base)
theorem lg_sl_1 : ∀ (vs : List Value), (∀ v ∈ vs, v.category = 1) → lg_sl vs = vs.map Slot.val
  | [], _ => rfl
  | v :: vs, h => by
    have h1 := h v List.mem_cons_self
    have h2 := lg_sl_1 vs (fun w hw => h w (List.mem_cons_of_mem _ hw))
    simp only [lg_sl, List.flatMap_cons, List.map_cons] at h2 ⊢
    rw [h2, h1]; rfl
theorem lv_args_1 : ∀ (vs : List Value) (i : Nat), (∀ v ∈ vs, v.category = 1) → ∀ (j : Nat) (v : Value), vs[j]? = some v → (i + j, v) ∈ lv_args i vs
  | [], _, _, j, v, h => by simp at h
  | w :: vs, i, hc, 0, v, h => by
    simp only [List.getElem?_cons_zero, Option.some.injEq] at h
    subst h
    exact List.mem_cons_self
  | w :: vs, i, hc, j + 1, v, h => by
    have h1 := hc w List.mem_cons_self
    have h2 := lv_args_1 vs (i + 1) (fun w hw => hc w (List.mem_cons_of_mem _ hw)) j v (by simpa using h)
    simp only [lv_args]
    rw [if_neg (by omega)]
    exact List.mem_cons_of_mem _ (by rw [show i + (j + 1) = i + 1 + j by omega]; exact h2)
theorem Ctr.of {Y : zY} {rm : Room} {av lv : List Value} {μ : zMem} {Q : Option Value → zMem → Prop} (hW : zWm Y) (hO : Y.1.cls = Y.2.2.2.2) (hN : Y.2.2.2.2 ≠ "CircuitWaysLaw") (ha : av.all zok = true) (hlv : av ++ List.replicate (Y.2.2.1 - av.length) zu = lv) (hn : av.length ≤ Y.2.2.1)
    (hX : X Y rm (0, fun _ => 0) (zFm Q rm) 0 lv [] μ 0 0) : Ctr Y rm av μ Q := by
  subst hlv
  intro l base D cI cZ
  have hac : ∀ v ∈ av, v.category = 1 := fun v hv => by
    have := List.all_eq_true.mp ha v hv
    cases v <;> first | rfl | (simp [zok] at this)
  refine Met.ofW (cc := Y.2.1) (maxL := Y.2.2.1) (ret := Y.2.2.2.1) hW.2.2.2 rfl ?_
  intro p e s m args below meth c s₁ B hml hv
  obtain ⟨rfl, hM, hK⟩ := hv
  have hts := atoms_spec (ws := Cond.code Y.1 Y.2.1 Y.2.2.1 Y.2.2.2.1 :: zt) B.pre
  have hown : s.vm.findClass Y.2.2.2.2 = some m.cls := by rw [← hO]; exact findClass_of_methodNamed B.named
  have hcz : ∀ v ∈ av.map (zr base 0), v.category = 1 := fun v hv => by
    obtain ⟨w, hw, rfl⟩ := List.mem_map.mp hv
    exact zr_cat (hac w hw)
  have hlen : (lg_sl (av.map (zr base 0))).length = av.length := by rw [lg_sl_1 _ hcz]; simp
  have hl := lv_entry (av.map (zr base 0)) (n := Y.2.2.1) (by rw [hlen]; exact hn)
  rw [lg_entry_eq]
  generalize (lg_sl (av.map (zr base 0)) ++ List.replicate (Y.2.2.1 - (lg_sl (av.map (zr base 0))).length) Slot.unset).toArray = ls at hl ⊢
  refine hX p l e s m _ below meth c 0 base D cI cZ s.heap [] ls ⟨B.exec, B.bytes, hml, hown, fun w hw => hts w (List.mem_cons_of_mem _ hw), B.returns, B.notSynchronized, (name_of_methodNamed B.named B.method).1⟩ hK (fun h => absurd h hN) (by rw [hM.1]; exact Nat.le_add_right _ _) hM va_S.rf ⟨by simp; omega, fun v hv => ?_, hl.1, hl.2.1, fun i v hi hk => ?_⟩
  · rcases List.mem_append.mp hv with h | h
    · exact hac v h
    · rw [List.eq_of_mem_replicate h]; rfl
  · by_cases hlt : i < av.length
    · rw [List.getElem?_append_left hlt] at hi
      have := lv_args_1 (av.map (zr base 0)) 0 hcz i (zr base 0 v) (by rw [List.getElem?_map, hi]; rfl)
      have := hl.2.2 _ this
      simpa using this
    · rw [List.getElem?_append_right (by omega)] at hi
      have := List.eq_of_mem_replicate (List.mem_of_getElem? hi)
      subst this
      simp [zknown] at hk
section XR3
variable {Y : zY} {rm : Room} {sc : Nat × (Nat → Int32)} {F : zFin} {Q : Option Value → zMem → Prop} {pc : Nat} {lv st : List Value} {μ : zMem} {kc ks : Nat}
theorem x_iret {v : Int32} (hd : decode Y.2.1 pc = .ok (.ireturn, 1)) (hr : Y.2.2.2.1 = some .int) (hk : kc ≤ rm.cells ∧ ks ≤ rm.slots) (hq : Q (some (.int v)) μ) : X Y rm sc (zFm Q rm) pc lv [.int v] μ kc ks :=
  fun p l e s m args below meth c b base D cI cZ H locs ls hC hK hZ hb hM hS hL => W.widen hk.1 hk.2 (W.iret hC.1 hC.2.1 (hC.2.2.2.2.2.1.trans hr) (fun t ht hW => ⟨some (.int v), μ, rfl, hq, by rw [ht]; exact hM, hS.F ht⟩) hS.2.2 hd (hlocks := hC.2.2.2.2.2.2.1))
theorem x_zret {v : Int32} {ty : FieldType} (hd : decode Y.2.1 pc = .ok (.ireturn, 1)) (hr : Y.2.2.2.1 = some ty) (hn : narrow ty (.int v) = .int v) (hk : kc ≤ rm.cells ∧ ks ≤ rm.slots) (hq : Q (some (.int v)) μ) : X Y rm sc (zFm Q rm) pc lv [.int v] μ kc ks :=
  fun p l e s m args below meth c b base D cI cZ H locs ls hC hK hZ hb hM hS hL => W.widen hk.1 hk.2 (W.zret hC.1 hC.2.1 (hC.2.2.2.2.2.1.trans hr) hn (fun t ht hW => ⟨some (.int v), μ, rfl, hq, by rw [ht]; exact hM, hS.F ht⟩) hS.2.2 hd (hlocks := hC.2.2.2.2.2.2.1))
theorem x_vret (hd : decode Y.2.1 pc = .ok (.return_, 1)) (hr : Y.2.2.2.1 = none) (hk : kc ≤ rm.cells ∧ ks ≤ rm.slots) (hq : Q none μ) : X Y rm sc (zFm Q rm) pc lv [] μ kc ks :=
  fun p l e s m args below meth c b base D cI cZ H locs ls hC hK hZ hb hM hS hL => W.widen hk.1 hk.2 (W.vret hC.1 hC.2.1 (hC.2.2.2.2.2.1.trans hr) (fun t ht hW => ⟨none, μ, rfl, hq, by rw [ht]; exact hM, hS.F ht⟩) hS.2.2 hd (hlocks := hC.2.2.2.2.2.2.1))
/-- behind a call -/
theorem x_back {rm' : Room} {rest st0 : List Value} {Qc : Option Value → zMem → Prop} {p : Program} {l : Launch} {e : Env} {s : State} {m : MethodId} {args : Array Value} {below : List Frame} {meth : Method} {c : Code} {b base : Nat} {D : va_G} {cI cZ : ClassId} {H : Heap} {locs : List Loc} {ls : Array Slot} {a : Array Value}
    (hr : va_Run p l e rm s m args below meth c H locs kc ks rm'.cells rm'.slots (F0 m pc ls (st0.map (zr base b))) (rest.map (zr base b)) (zQc Qc base D cI cZ a) (zA base))
    (hC : zC Y p s m args meth c) (hK : zK D cI cZ s) (hZ : zS sc b base Y.2.2.2.2 s) (hb : base ≤ s.heap.size) (hS : va_S (zA base) s.heap H locs) (hL : zL base b Y.2.2.1 lv ls) (hov : ∀ r μ', Qc r μ' → ∀ v, r = some v → zok v = true)
    (K : ∀ r μ', Qc r μ' → X Y rm sc F (pc + 3) lv (r.toList ++ rest) μ' (kc + rm'.cells) (ks + rm'.slots)) : W p l e rm s m args below meth c H locs kc ks (F base D cI cZ below args s) (F0 m pc ls (st0.map (zr base b))) := by
  intro T hT XX
  obtain ⟨v, st₀, t, T', L, h0, X', hLo, e1, e2, ⟨r, μ', hv, hq, hM', hF⟩, st⟩ := hr T hT XX
  cases hv
  obtain ⟨hz, hk⟩ := hF
  rw [h0] at hz hk
  have hS' : va_S (zA base) s.heap T'.heap (locs ++ L) := ⟨Nat.le_trans hS.1 (by rw [e1]; exact hz), fun q h1 h2 => by rw [e1, hk q (Nat.lt_of_lt_of_le h1 hS.1) h2]; exact hS.2.1 q h1 h2, fun q hq => by
      rcases List.mem_append.mp hq with h | h
      · exact hS.2.2 q h
      · exact hLo q h⟩
  have hw := K r μ' hq p l e s m args below meth c b base D cI cZ T'.heap (locs ++ L) ls hC hK hZ hb (by rw [e1]; exact hM') hS' hL
  have hst : ((r.toList ++ rest).map (zr base b)) = (r.map (zr base 0)).toList ++ rest.map (zr base b) := by
    cases r with
    | none => rfl
    | some w => simp [zr_ok (hov _ _ hq w rfl) base b 0]
  rw [hst] at hw
  obtain ⟨t2, a1, b1⟩ := hw T' rfl X'
  exact ⟨t2, st t2 a1, b1⟩
theorem zgood {Y' : zY} (hW : zWm Y') {args : Array Value} {s : State} (hts : ∀ w ∈ zt, w.before args s = true) : ∀ w ∈ (Cond.code Y'.1 Y'.2.1 Y'.2.2.1 Y'.2.2.2.1 :: zt), ∀ (a' : Array Value) (U : State), s.WarmedH U.vm → w.before a' U = true := by
  intro w hw a' U hU
  have hm : w ∈ zt := by
    rcases List.mem_cons.mp hw with h | h
    · rw [h]; exact hW.1
    · exact h
  exact word_at hU (good_of_word (zt_good hm)) (hts w hm)
theorem zcallB {Y' : zY} {rm' : Room} {i : Nat} {n : Nat} (hW : zWm Y') (hl : Cond.methodLink Y.2.2.2.2 i Y'.1 ∈ zt) (hn : (parseMethodDescriptor Y'.1.desc).map (fun d => d.parameters.length) = some n) (hR : rm'.frames + 1 ≤ rm.frames ∧ 8 + (Y'.2.2.1 + 11) + rm'.locals ≤ rm.locals) {args : Array Value} {s : State} (hts : ∀ w ∈ zt, w.before args s = true) :
    CallB rm s args Y.2.2.2.2 i Y'.1 Y'.2.1 Y'.2.2.1 Y'.2.2.2.1 (Cond.code Y'.1 Y'.2.1 Y'.2.2.1 Y'.2.2.2.1 :: zt) rm' rm'.cells rm'.slots n := by
  refine ⟨rfl, rfl, hR.1, hR.2, zgood hW hts, List.mem_cons_self, hts _ hW.1, hts _ hW.2.1, hW.2.2.1, fun sig h => ?_, hts _ hl⟩
  rw [h] at hn
  exact (Option.some.inj hn).symm
theorem zpre {av : List Value} {base : Nat} {D : va_G} {cI cZ : ClassId} {s : State} {H : Heap} (hM : zM D cI cZ base μ H) (hK : zK D cI cZ s) : FrameBlind (zP av base D cI cZ μ) ∧ ∀ U : State, U.heap = H → s.WarmedH U.vm → zP av base D cI cZ μ (av.map (zr base 0)).toArray U :=
  ⟨fun a U g mk q => ⟨q.1, q.2.1, zK_same (s := U) (U := U.calling g mk a) rfl q.2.2⟩, fun U hU hW => ⟨rfl, by rw [hU]; exact hM, zK_moved hW hK⟩⟩
theorem x_callV {Y' : zY} {rm' : Room} {i k ci N : Nat} {C : String} {T : u_T} {fs av rest st0 : List Value} {Qc : Option Value → zMem → Prop} (hCt : Ctr Y' rm' (.ref k :: av) μ Qc) (hW : zWv Y') (hd : decode Y.2.1 pc = .ok (.invokevirtual i, 3)) (hl : Cond.methodLink Y.2.2.2.2 i Y'.1 ∈ zt) (hm : μ[k]? = some (.inr (ci, fs))) (hc : zcl[ci]? = some (C, T, N)) (hcls : Y'.1.cls = C) (hst : av.reverse ++ .ref k :: rest = st0) (ha : av.all zok = true) (hcr : ∀ v ∈ rest, v.category = 1)
    (hn : (parseMethodDescriptor Y'.1.desc).map (fun d => d.parameters.length) = some av.length) (hR : rm'.frames + 1 ≤ rm.frames ∧ 8 + (Y'.2.2.1 + 11) + rm'.locals ≤ rm.locals) (hk : kc + rm'.cells ≤ rm.cells ∧ ks + rm'.slots ≤ rm.slots) (hsum : (rest.map fun v => v.category).sum ≤ 8) (hov : ∀ r μ', Qc r μ' → ∀ v, r = some v → zok v = true)
    (K : ∀ r μ', Qc r μ' → X Y rm sc F (pc + 3) lv (r.toList ++ rest) μ' (kc + rm'.cells) (ks + rm'.slots)) : X Y rm sc F pc lv st0 μ kc ks := by
  subst hst
  intro p l e s m args below meth c b base D cI cZ H locs ls hC hK hZ hb hM hS hL
  have hp := zpre (av := .ref k :: av) hM hK
  refine x_back (rest := rest) (va_runV (b := base + k) (As := av.map (zr base 0)) (C := C) ⟨hC.1, hC.2.1, hC.2.2.1, hC.2.2.2.1, hC.2.2.2.2.1⟩ (hCt l base D cI cZ) ⟨zcallB hW.1 hl hn hR hC.2.2.2.2.1, hC.2.2.2.2.1 _ hW.2.1, by rw [← hcls]; exact hC.2.2.2.2.1 _ hW.2.2⟩ ⟨hp.1, va_recv hK.1 hM.2 hc (zw_get hm), hp.2⟩ rfl (by rw [List.length_map]) hL.2.2.1 ?_ (by rw [zr_sum hcr]; show 2 * 0 + _ ≤ 8; omega) hd hk) hC hK hZ hb hS hL hov K
  show (av.reverse ++ .ref k :: rest).map (zr base b) = (av.map (zr base 0)).reverse ++ .ref (base + k) :: rest.map (zr base b)
  rw [List.map_append, List.map_reverse, zr_map_ok ha base b 0]
  rfl
theorem x_callS {Y' : zY} {rm' : Room} {i : Nat} {av rest st0 : List Value} {Qc : Option Value → zMem → Prop} (hCt : Ctr Y' rm' av μ Qc) (hW : zWs Y') (hd : decode Y.2.1 pc = .ok (.invokestatic i, 3)) (hl : Cond.methodLink Y.2.2.2.2 i Y'.1 ∈ zt) (hst : av.reverse ++ rest = st0) (ha : av.all zok = true) (hcr : ∀ v ∈ rest, v.category = 1)
    (hn : (parseMethodDescriptor Y'.1.desc).map (fun d => d.parameters.length) = some av.length) (hR : rm'.frames + 1 ≤ rm.frames ∧ 8 + (Y'.2.2.1 + 11) + rm'.locals ≤ rm.locals) (hk : kc + rm'.cells ≤ rm.cells ∧ ks + rm'.slots ≤ rm.slots) (hsum : (rest.map fun v => v.category).sum ≤ 8) (hov : ∀ r μ', Qc r μ' → ∀ v, r = some v → zok v = true)
    (K : ∀ r μ', Qc r μ' → X Y rm sc F (pc + 3) lv (r.toList ++ rest) μ' (kc + rm'.cells) (ks + rm'.slots)) : X Y rm sc F pc lv st0 μ kc ks := by
  subst hst
  intro p l e s m args below meth c b base D cI cZ H locs ls hC hK hZ hb hM hS hL
  have hp := zpre (av := av) hM hK
  refine x_back (rest := rest) (va_runS (As := av.map (zr base 0)) ⟨hC.1, hC.2.1, hC.2.2.1, hC.2.2.2.1, hC.2.2.2.2.1⟩ (hCt l base D cI cZ) ⟨zcallB hW.1 hl hn hR hC.2.2.2.2.1, hC.2.2.2.2.1 _ hW.2⟩ ⟨hp.1, hp.2⟩ rfl (by rw [List.length_map]) hL.2.2.1 ?_ (by rw [zr_sum hcr]; show 2 * 0 + _ ≤ 8; omega) hd hk) hC hK hZ hb hS hL hov K
  show (av.reverse ++ rest).map (zr base b) = (av.map (zr base 0)).reverse ++ rest.map (zr base b)
  rw [List.map_append, List.map_reverse, zr_map_ok ha base b 0]
theorem x_callN {Y' : zY} {rm' : Room} {i : Nat} {host : String} {av rest st0 : List Value} {Qc : Option Value → zMem → Prop} (hCt : Ctr Y' rm' av μ Qc) (hW : zWs Y') (hd : decode Y.2.1 pc = .ok (.invokestatic i, 3)) (hl : Cond.methodLinkNest Y.2.2.2.2 i Y'.1 host ∈ znest) (hst : av.reverse ++ rest = st0) (ha : av.all zok = true) (hcr : ∀ v ∈ rest, v.category = 1)
    (hn : (parseMethodDescriptor Y'.1.desc).map (fun d => d.parameters.length) = some av.length) (hR : rm'.frames + 1 ≤ rm.frames ∧ 8 + (Y'.2.2.1 + 11) + rm'.locals ≤ rm.locals) (hk : kc + rm'.cells ≤ rm.cells ∧ ks + rm'.slots ≤ rm.slots) (hsum : (rest.map fun v => v.category).sum ≤ 8) (hov : ∀ r μ', Qc r μ' → ∀ v, r = some v → zok v = true)
    (K : ∀ r μ', Qc r μ' → X Y rm sc F (pc + 3) lv (r.toList ++ rest) μ' (kc + rm'.cells) (ks + rm'.slots)) : X Y rm sc F pc lv st0 μ kc ks := by
  subst hst
  intro p l e s m args below meth c b base D cI cZ H locs ls hC hK hZ hb hM hS hL
  have hp := zpre (av := av) hM hK
  have hcn : va_CN rm s args Y.2.2.2.2 i Y'.1 host Y'.2.1 Y'.2.2.1 Y'.2.2.2.1 (Cond.code Y'.1 Y'.2.1 Y'.2.2.1 Y'.2.2.2.1 :: zt) rm' rm'.cells rm'.slots av.length := by
    refine ⟨⟨rfl, rfl, hR.1, hR.2, zgood hW.1 hC.2.2.2.2.1, List.mem_cons_self⟩, hC.2.2.2.2.1 _ hW.1.1, hC.2.2.2.2.1 _ hW.1.2.1, hW.1.2.2.1, fun sig h => ?_, va_Nw.use rfl (hK.2 _ hl)⟩
    rw [h] at hn
    exact (Option.some.inj hn).symm
  refine x_back (rest := rest) (va_runSN (As := av.map (zr base 0)) ⟨hC.1, hC.2.1, hC.2.2.1, hC.2.2.2.1, hC.2.2.2.2.1⟩ (hCt l base D cI cZ) ⟨hcn, hC.2.2.2.2.1 _ hW.2, trivial⟩ ⟨hp.1, hp.2⟩ rfl (by rw [List.length_map]) hL.2.2.1 ?_ (by rw [zr_sum hcr]; show 2 * 0 + _ ≤ 8; omega) hd hk) hC hK hZ hb hS hL hov K
  show (av.reverse ++ rest).map (zr base b) = (av.map (zr base 0)).reverse ++ rest.map (zr base b)
  rw [List.map_append, List.map_reverse, zr_map_ok ha base b 0]
theorem x_callI {Y' : zY} {rm' : Room} {i k : Nat} {av rest st0 : List Value} {Qc : Option Value → zMem → Prop} (hCt : Ctr Y' rm' (.ref k :: av) μ Qc) (hW : zWi Y') (hret : Y'.2.2.2.1 = none) (hd : decode Y.2.1 pc = .ok (.invokespecial i, 3)) (hl : Cond.methodLink Y.2.2.2.2 i Y'.1 ∈ zt) (hst : av.reverse ++ .ref k :: rest = st0) (ha : av.all zok = true) (hcr : ∀ v ∈ rest, v.category = 1)
    (hn : (parseMethodDescriptor Y'.1.desc).map (fun d => d.parameters.length) = some av.length) (hR : rm'.frames + 1 ≤ rm.frames ∧ 8 + (Y'.2.2.1 + 11) + rm'.locals ≤ rm.locals) (hk : kc + rm'.cells ≤ rm.cells ∧ ks + rm'.slots ≤ rm.slots) (hsum : (rest.map fun v => v.category).sum ≤ 8) (hov : ∀ r μ', Qc r μ' → ∀ v, r = some v → zok v = true)
    (K : ∀ r μ', Qc r μ' → X Y rm sc F (pc + 3) lv (r.toList ++ rest) μ' (kc + rm'.cells) (ks + rm'.slots)) : X Y rm sc F pc lv st0 μ kc ks := by
  subst hst
  intro p l e s m args below meth c b base D cI cZ H locs ls hC hK hZ hb hM hS hL
  have hp := zpre (av := .ref k :: av) hM hK
  have hB := zcallB (Y := Y) (rm := rm) (rm' := rm') hW.1 hl hn hR hC.2.2.2.2.1
  have hCl := hCt l base D cI cZ
  rw [hret] at hB hCl
  refine x_back (rest := rest) (va_runI (b := base + k) (As := av.map (zr base 0)) ⟨hC.1, hC.2.1, hC.2.2.1, hC.2.2.2.1, hC.2.2.2.2.1⟩ hCl ⟨hB, hW.2.2, hC.2.2.2.2.1 _ hW.2.1⟩ ⟨hp.1, hp.2⟩ rfl (by rw [List.length_map]) hL.2.2.1 ?_ (by rw [zr_sum hcr]; show 2 * 0 + _ ≤ 8; omega) hd hk) hC hK hZ hb hS hL hov K
  show (av.reverse ++ .ref k :: rest).map (zr base b) = (av.map (zr base 0)).reverse ++ .ref (base + k) :: rest.map (zr base b)
  rw [List.map_append, List.map_reverse, zr_map_ok ha base b 0]
  rfl
end XR3
end
section
/-! the memory behind the constructors: V k j is field j of the object k, A k the contents of the array k -/
def cells (V A : Nat → Nat → Int32) : zMem := [
  .inr (0, [.ref 1, .ref 13, .ref 16, .ref 19, .ref 21, .ref 26, .ref 28, .ref 31, .ref 33]),
  .inr (1, [.ref 2, .ref 3, .ref 4, .ref 5, .int (V 1 4), .int (V 1 5), .int (V 1 6), .int (V 1 7), .int (V 1 8)]),
  .inl (false, 9, A 2),
  .inl (false, 81, A 3),
  .inl (false, 9, A 4),
  .inl (false, 9, A 5),
  .inr (2, [.ref 1, .ref 7, .ref 8, .ref 9, .ref 10, .ref 11, .ref 12]),
  .inl (false, 256, A 7),
  .inl (false, 256, A 8),
  .inl (false, 2304, A 9),
  .inl (false, 2304, A 10),
  .inl (false, 256, A 11),
  .inl (false, 256, A 12),
  .inr (3, [.ref 1, .ref 6, .ref 14, .ref 15, .int (V 13 4), .int (V 13 5), .int (V 13 6)]),
  .inl (false, 2304, A 14),
  .inl (false, 2304, A 15),
  .inr (4, [.ref 1, .ref 6, .ref 13, .ref 17, .ref 18, .int (V 16 5), .int (V 16 6), .int (V 16 7)]),
  .inl (false, 2304, A 17),
  .inl (true, 81, A 18),
  .inr (5, [.ref 1, .ref 13, .ref 16, .ref 20, .int (V 19 4), .int (V 19 5), .int (V 19 6), .int (V 19 7)]),
  .inl (false, 18, A 20),
  .inr (6, [.ref 1, .ref 22, .ref 23, .ref 24, .ref 25, .int (V 21 5), .int (V 21 6)]),
  .inl (false, 9, A 22),
  .inl (false, 9, A 23),
  .inl (false, 9, A 24),
  .inl (false, 9, A 25),
  .inr (7, [.ref 1, .ref 27]),
  .inl (false, 512, A 27),
  .inr (8, [.ref 1, .ref 29, .ref 30]),
  .inl (false, 9, A 29),
  .inl (false, 9, A 30),
  .inr (9, [.ref 1, .ref 32]),
  .inl (false, 9, A 32),
  .inr (10, [.ref 1, .ref 34, .ref 35, .int (V 33 3)]),
  .inl (false, 20, A 34),
  .inl (false, 20, A 35),
  .inr (11, [.int (V 36 0), .int (V 36 1), .ref 37, .ref 38, .ref 39, .ref 40, .int (V 36 6), .int (V 36 7), .int (V 36 8), .ref 41, .ref 42, .ref 43, .int (V 36 12), .int (V 36 13), .int (V 36 14), .int (V 36 15), .ref 44, .ref 45, .ref 46, .int (V 36 19), .ref 47, .int (V 36 21), .int (V 36 22), .int (V 36 23), .int (V 36 24), .int (V 36 25), .ref 48, .ref 49, .int (V 36 28), .ref 50, .ref 51]),
  .inl (false, 9, A 37),
  .inl (false, 81, A 38),
  .inl (false, 9, A 39),
  .inl (true, 81, A 40),
  .inl (false, 9, A 41),
  .inl (false, 9, A 42),
  .inl (false, 21, A 43),
  .inl (false, 81, A 44),
  .inl (false, 9, A 45),
  .inl (false, 20, A 46),
  .inl (false, 20, A 47),
  .inl (false, 10, A 48),
  .inl (false, 10, A 49),
  .inl (false, 9, A 50),
  .inl (false, 512, A 51)]
def zv (V : Nat → Nat → Int32) (k j : Nat) (x : Int32) : Nat → Nat → Int32 := fun a b => bif (Nat.beq a k && Nat.beq b j) then x else V a b
def za (A : Nat → Nat → Int32) (k : Nat) (f : Nat → Int32) : Nat → Nat → Int32 := fun a => bif Nat.beq a k then f else A a
theorem z_beq (a b : Nat) : Nat.beq a b = decide (a = b) := by
  by_cases h : a = b
  · subst h
    simp [Nat.beq_refl]
  · rw [decide_eq_false h]
    exact Bool.eq_false_iff.mpr (fun q => h (Nat.eq_of_beq_eq_true q))
theorem zv_eq (V : Nat → Nat → Int32) (k j : Nat) (x : Int32) (a b : Nat) : zv V k j x a b = if a = k ∧ b = j then x else V a b := by
  unfold zv
  rw [z_beq, z_beq]
  by_cases h1 : a = k <;> by_cases h2 : b = j <;> simp [h1, h2]
theorem za_eq (A : Nat → Nat → Int32) (k : Nat) (f : Nat → Int32) (a : Nat) : za A k f a = if a = k then f else A a := by
  unfold za
  rw [z_beq]
  by_cases h1 : a = k <;> simp [h1]
theorem za_at (A : Nat → Nat → Int32) (k : Nat) (f : Nat → Int32) : za A k f k = f := by simp [za_eq]
abbrev zrm (d : Nat) : Room := { frames := d, cells := 0, slots := 0, locals := 40 * d }
abbrev zV : Type := Nat → Nat → Int32
/-- ends and contracts over this memory: an int answer, and none -/
abbrev zFq (d : Nat) (P : Int32 → zV → zV → Prop) : zFin := zFm (fun r μ' => ∃ v V' A', r = some (.int v) ∧ μ' = cells V' A' ∧ P v V' A') (zrm d)
abbrev zFu (d : Nat) (P : zV → zV → Prop) : zFin := zFm (fun r μ' => ∃ V' A', r = none ∧ μ' = cells V' A' ∧ P V' A') (zrm d)
def CQ (Y : zY) (d : Nat) (av : List Value) (V A : zV) (P : Int32 → zV → zV → Prop) : Prop := Ctr Y (zrm d) av (cells V A) (fun r μ' => ∃ v V' A', r = some (.int v) ∧ μ' = cells V' A' ∧ P v V' A')
def CU (Y : zY) (d : Nat) (av : List Value) (V A : zV) (P : zV → zV → Prop) : Prop := Ctr Y (zrm d) av (cells V A) (fun r μ' => ∃ V' A', r = none ∧ μ' = cells V' A' ∧ P V' A')
theorem y_sum : ∀ {st : List Value}, (∀ v ∈ st, v.category = 1) → (st.map fun v => v.category).sum = st.length
  | [], _ => rfl
  | v :: st, h => by
    simp only [List.map_cons, List.sum_cons, List.length_cons]
    rw [y_sum (fun w hw => h w (List.mem_cons_of_mem _ hw)), h v List.mem_cons_self, Nat.add_comm]
section YR
variable {Y Y' : zY} {d d' : Nat} {sc : Nat × (Nat → Int32)} {F : zFin} {pc : Nat} {lv st : List Value} {V A : zV} {P : Int32 → zV → zV → Prop} {U : zV → zV → Prop}
theorem CQ.of {av lv : List Value} (hW : zWm Y) (hO : Y.1.cls = Y.2.2.2.2) (hN : Y.2.2.2.2 ≠ "CircuitWaysLaw") (ha : av.all zok = true) (hlv : av ++ List.replicate (Y.2.2.1 - av.length) zu = lv) (hn : av.length ≤ Y.2.2.1) (hX : X Y (zrm d) (0, fun _ => 0) (zFq d P) 0 lv [] (cells V A) 0 0) : CQ Y d av V A P := Ctr.of hW hO hN ha hlv hn hX
theorem CU.of {av lv : List Value} (hW : zWm Y) (hO : Y.1.cls = Y.2.2.2.2) (hN : Y.2.2.2.2 ≠ "CircuitWaysLaw") (ha : av.all zok = true) (hlv : av ++ List.replicate (Y.2.2.1 - av.length) zu = lv) (hn : av.length ≤ Y.2.2.1) (hX : X Y (zrm d) (0, fun _ => 0) (zFu d U) 0 lv [] (cells V A) 0 0) : CU Y d av V A U := Ctr.of hW hO hN ha hlv hn hX
theorem y_iret {v : Int32} (hd : decode Y.2.1 pc = .ok (.ireturn, 1)) (hr : Y.2.2.2.1 = some .int) (hq : P v V A) : X Y (zrm d) sc (zFq d P) pc lv [.int v] (cells V A) 0 0 := x_iret hd hr ⟨Nat.le_refl _, Nat.le_refl _⟩ ⟨v, V, A, rfl, rfl, hq⟩
theorem y_zret {v : Int32} (hd : decode Y.2.1 pc = .ok (.ireturn, 1)) (hr : Y.2.2.2.1 = some .boolean) (hn : narrow .boolean (.int v) = .int v) (hq : P v V A) : X Y (zrm d) sc (zFq d P) pc lv [.int v] (cells V A) 0 0 := x_zret hd hr hn ⟨Nat.le_refl _, Nat.le_refl _⟩ ⟨v, V, A, rfl, rfl, hq⟩
theorem y_vret (hd : decode Y.2.1 pc = .ok (.return_, 1)) (hr : Y.2.2.2.1 = none) (hq : U V A) : X Y (zrm d) sc (zFu d U) pc lv [] (cells V A) 0 0 := x_vret hd hr ⟨Nat.le_refl _, Nat.le_refl _⟩ ⟨V, A, rfl, rfl, hq⟩
theorem zroom {m : Nat} (h : d' < d) (hm : m ≤ 21) : (zrm d').frames + 1 ≤ (zrm d).frames ∧ 8 + (m + 11) + (zrm d').locals ≤ (zrm d).locals := ⟨h, by show 8 + (m + 11) + 40 * d' ≤ 40 * d; omega⟩
theorem y_callV {i n k ci N : Nat} {C : String} {T : u_T} {fs : List Value} {av rest st0 : List Value} (hCt : CQ Y' d' (.ref k :: av) V A P) (hW : zWv Y') (hd : decode Y.2.1 pc = .ok (.invokevirtual i, 3)) (hl : Cond.methodLink Y.2.2.2.2 i Y'.1 ∈ zt) (hlt : d' < d) (hm : (cells V A)[k]? = some (.inr (ci, fs))) (hc : zcl[ci]? = some (C, T, N)) (hcls : Y'.1.cls = C) (hst : av.reverse ++ .ref k :: rest = st0) (hn : (parseMethodDescriptor Y'.1.desc).map (fun d => d.parameters.length) = some n) (hav : av.length = n := by rfl) (ha : av.all zok = true := by rfl) (hcr : rest.all (fun v => v.category == 1) = true := by rfl) (hrl : rest.length ≤ 8 := by exact Nat.le_of_ble_eq_true rfl) (hm21 : Y'.2.2.1 ≤ 21 := by exact Nat.le_of_ble_eq_true rfl)
    (K : ∀ v V' A', P v V' A' → X Y (zrm d) sc F (pc + 3) lv (.int v :: rest) (cells V' A') 0 0) : X Y (zrm d) sc F pc lv st0 (cells V A) 0 0 := by
  have hcr' : ∀ v ∈ rest, v.category = 1 := fun v hv => by simpa using List.all_eq_true.mp hcr v hv
  subst hav
  refine x_callV hCt hW hd hl hm hc hcls hst ha hcr' hn (zroom hlt hm21) ⟨Nat.le_refl _, Nat.le_refl _⟩ (by rw [y_sum hcr']; exact hrl) (fun r μ' hq v hv => ?_) (fun r μ' hq => ?_)
  · obtain ⟨v', V', A', h1, h2, h3⟩ := hq
    rw [h1] at hv; cases hv; rfl
  · obtain ⟨v', V', A', h1, h2, h3⟩ := hq
    rw [h1, h2]
    exact K v' V' A' h3
theorem y_callVu {i n k ci N : Nat} {C : String} {T : u_T} {fs : List Value} {av rest st0 : List Value} (hCt : CU Y' d' (.ref k :: av) V A U) (hW : zWv Y') (hd : decode Y.2.1 pc = .ok (.invokevirtual i, 3)) (hl : Cond.methodLink Y.2.2.2.2 i Y'.1 ∈ zt) (hlt : d' < d) (hm : (cells V A)[k]? = some (.inr (ci, fs))) (hc : zcl[ci]? = some (C, T, N)) (hcls : Y'.1.cls = C) (hst : av.reverse ++ .ref k :: rest = st0) (hn : (parseMethodDescriptor Y'.1.desc).map (fun d => d.parameters.length) = some n) (hav : av.length = n := by rfl) (ha : av.all zok = true := by rfl) (hcr : rest.all (fun v => v.category == 1) = true := by rfl) (hrl : rest.length ≤ 8 := by exact Nat.le_of_ble_eq_true rfl) (hm21 : Y'.2.2.1 ≤ 21 := by exact Nat.le_of_ble_eq_true rfl)
    (K : ∀ V' A', U V' A' → X Y (zrm d) sc F (pc + 3) lv rest (cells V' A') 0 0) : X Y (zrm d) sc F pc lv st0 (cells V A) 0 0 := by
  have hcr' : ∀ v ∈ rest, v.category = 1 := fun v hv => by simpa using List.all_eq_true.mp hcr v hv
  subst hav
  refine x_callV hCt hW hd hl hm hc hcls hst ha hcr' hn (zroom hlt hm21) ⟨Nat.le_refl _, Nat.le_refl _⟩ (by rw [y_sum hcr']; exact hrl) (fun r μ' hq v hv => ?_) (fun r μ' hq => ?_)
  · obtain ⟨V', A', h1, h2, h3⟩ := hq
    rw [h1] at hv; cases hv
  · obtain ⟨V', A', h1, h2, h3⟩ := hq
    rw [h1, h2]
    exact K V' A' h3
theorem y_callS {i n : Nat} {av rest st0 : List Value} (hCt : CQ Y' d' av V A P) (hW : zWs Y') (hd : decode Y.2.1 pc = .ok (.invokestatic i, 3)) (hl : Cond.methodLink Y.2.2.2.2 i Y'.1 ∈ zt) (hlt : d' < d) (hst : av.reverse ++ rest = st0) (hn : (parseMethodDescriptor Y'.1.desc).map (fun d => d.parameters.length) = some n) (hav : av.length = n := by rfl) (ha : av.all zok = true := by rfl) (hcr : rest.all (fun v => v.category == 1) = true := by rfl) (hrl : rest.length ≤ 8 := by exact Nat.le_of_ble_eq_true rfl) (hm21 : Y'.2.2.1 ≤ 21 := by exact Nat.le_of_ble_eq_true rfl)
    (K : ∀ v V' A', P v V' A' → X Y (zrm d) sc F (pc + 3) lv (.int v :: rest) (cells V' A') 0 0) : X Y (zrm d) sc F pc lv st0 (cells V A) 0 0 := by
  have hcr' : ∀ v ∈ rest, v.category = 1 := fun v hv => by simpa using List.all_eq_true.mp hcr v hv
  subst hav
  refine x_callS hCt hW hd hl hst ha hcr' hn (zroom hlt hm21) ⟨Nat.le_refl _, Nat.le_refl _⟩ (by rw [y_sum hcr']; exact hrl) (fun r μ' hq v hv => ?_) (fun r μ' hq => ?_)
  · obtain ⟨v', V', A', h1, h2, h3⟩ := hq
    rw [h1] at hv; cases hv; rfl
  · obtain ⟨v', V', A', h1, h2, h3⟩ := hq
    rw [h1, h2]
    exact K v' V' A' h3
theorem y_callN {i n : Nat} {host : String} {av rest st0 : List Value} (hCt : CQ Y' d' av V A P) (hW : zWs Y') (hd : decode Y.2.1 pc = .ok (.invokestatic i, 3)) (hl : Cond.methodLinkNest Y.2.2.2.2 i Y'.1 host ∈ znest) (hlt : d' < d) (hst : av.reverse ++ rest = st0) (hn : (parseMethodDescriptor Y'.1.desc).map (fun d => d.parameters.length) = some n) (hav : av.length = n := by rfl) (ha : av.all zok = true := by rfl) (hcr : rest.all (fun v => v.category == 1) = true := by rfl) (hrl : rest.length ≤ 8 := by exact Nat.le_of_ble_eq_true rfl) (hm21 : Y'.2.2.1 ≤ 21 := by exact Nat.le_of_ble_eq_true rfl)
    (K : ∀ v V' A', P v V' A' → X Y (zrm d) sc F (pc + 3) lv (.int v :: rest) (cells V' A') 0 0) : X Y (zrm d) sc F pc lv st0 (cells V A) 0 0 := by
  have hcr' : ∀ v ∈ rest, v.category = 1 := fun v hv => by simpa using List.all_eq_true.mp hcr v hv
  subst hav
  refine x_callN hCt hW hd hl hst ha hcr' hn (zroom hlt hm21) ⟨Nat.le_refl _, Nat.le_refl _⟩ (by rw [y_sum hcr']; exact hrl) (fun r μ' hq v hv => ?_) (fun r μ' hq => ?_)
  · obtain ⟨v', V', A', h1, h2, h3⟩ := hq
    rw [h1] at hv; cases hv; rfl
  · obtain ⟨v', V', A', h1, h2, h3⟩ := hq
    rw [h1, h2]
    exact K v' V' A' h3
theorem y_fV {i n k ci N : Nat} {C : String} {T : u_T} {fs : List Value} {av rest st0 : List Value} {v0 : Int32} {V0 A0 : zV} (hCt : CQ Y' d' (.ref k :: av) V A (fun r V' A' => r = v0 ∧ V' = V0 ∧ A' = A0)) (hW : zWv Y') (hd : decode Y.2.1 pc = .ok (.invokevirtual i, 3)) (hl : Cond.methodLink Y.2.2.2.2 i Y'.1 ∈ zt) (hlt : d' < d) (hm : (cells V A)[k]? = some (.inr (ci, fs))) (hc : zcl[ci]? = some (C, T, N)) (hcls : Y'.1.cls = C) (hst : av.reverse ++ .ref k :: rest = st0) (hn : (parseMethodDescriptor Y'.1.desc).map (fun d => d.parameters.length) = some n) (hav : av.length = n := by rfl) (ha : av.all zok = true := by rfl) (hcr : rest.all (fun v => v.category == 1) = true := by rfl) (hrl : rest.length ≤ 8 := by exact Nat.le_of_ble_eq_true rfl) (hm21 : Y'.2.2.1 ≤ 21 := by exact Nat.le_of_ble_eq_true rfl)
    (K : X Y (zrm d) sc F (pc + 3) lv (.int v0 :: rest) (cells V0 A0) 0 0) : X Y (zrm d) sc F pc lv st0 (cells V A) 0 0 :=
  y_callV hCt hW hd hl hlt hm hc hcls hst hn hav ha hcr hrl hm21 (fun v' V' A' hq => by rw [hq.1, hq.2.1, hq.2.2]; exact K)
theorem y_fS {i n : Nat} {av rest st0 : List Value} {v0 : Int32} {V0 A0 : zV} (hCt : CQ Y' d' av V A (fun r V' A' => r = v0 ∧ V' = V0 ∧ A' = A0)) (hW : zWs Y') (hd : decode Y.2.1 pc = .ok (.invokestatic i, 3)) (hl : Cond.methodLink Y.2.2.2.2 i Y'.1 ∈ zt) (hlt : d' < d) (hst : av.reverse ++ rest = st0) (hn : (parseMethodDescriptor Y'.1.desc).map (fun d => d.parameters.length) = some n) (hav : av.length = n := by rfl) (ha : av.all zok = true := by rfl) (hcr : rest.all (fun v => v.category == 1) = true := by rfl) (hrl : rest.length ≤ 8 := by exact Nat.le_of_ble_eq_true rfl) (hm21 : Y'.2.2.1 ≤ 21 := by exact Nat.le_of_ble_eq_true rfl)
    (K : X Y (zrm d) sc F (pc + 3) lv (.int v0 :: rest) (cells V0 A0) 0 0) : X Y (zrm d) sc F pc lv st0 (cells V A) 0 0 :=
  y_callS hCt hW hd hl hlt hst hn hav ha hcr hrl hm21 (fun v' V' A' hq => by rw [hq.1, hq.2.1, hq.2.2]; exact K)
theorem y_fN {i n : Nat} {host : String} {av rest st0 : List Value} {v0 : Int32} {V0 A0 : zV} (hCt : CQ Y' d' av V A (fun r V' A' => r = v0 ∧ V' = V0 ∧ A' = A0)) (hW : zWs Y') (hd : decode Y.2.1 pc = .ok (.invokestatic i, 3)) (hl : Cond.methodLinkNest Y.2.2.2.2 i Y'.1 host ∈ znest) (hlt : d' < d) (hst : av.reverse ++ rest = st0) (hn : (parseMethodDescriptor Y'.1.desc).map (fun d => d.parameters.length) = some n) (hav : av.length = n := by rfl) (ha : av.all zok = true := by rfl) (hcr : rest.all (fun v => v.category == 1) = true := by rfl) (hrl : rest.length ≤ 8 := by exact Nat.le_of_ble_eq_true rfl) (hm21 : Y'.2.2.1 ≤ 21 := by exact Nat.le_of_ble_eq_true rfl)
    (K : X Y (zrm d) sc F (pc + 3) lv (.int v0 :: rest) (cells V0 A0) 0 0) : X Y (zrm d) sc F pc lv st0 (cells V A) 0 0 :=
  y_callN hCt hW hd hl hlt hst hn hav ha hcr hrl hm21 (fun v' V' A' hq => by rw [hq.1, hq.2.1, hq.2.2]; exact K)
theorem y_fU {i n k ci N : Nat} {C : String} {T : u_T} {fs : List Value} {av rest st0 : List Value} {V0 A0 : zV} (hCt : CU Y' d' (.ref k :: av) V A (fun V' A' => V' = V0 ∧ A' = A0)) (hW : zWv Y') (hd : decode Y.2.1 pc = .ok (.invokevirtual i, 3)) (hl : Cond.methodLink Y.2.2.2.2 i Y'.1 ∈ zt) (hlt : d' < d) (hm : (cells V A)[k]? = some (.inr (ci, fs))) (hc : zcl[ci]? = some (C, T, N)) (hcls : Y'.1.cls = C) (hst : av.reverse ++ .ref k :: rest = st0) (hn : (parseMethodDescriptor Y'.1.desc).map (fun d => d.parameters.length) = some n) (hav : av.length = n := by rfl) (ha : av.all zok = true := by rfl) (hcr : rest.all (fun v => v.category == 1) = true := by rfl) (hrl : rest.length ≤ 8 := by exact Nat.le_of_ble_eq_true rfl) (hm21 : Y'.2.2.1 ≤ 21 := by exact Nat.le_of_ble_eq_true rfl)
    (K : X Y (zrm d) sc F (pc + 3) lv rest (cells V0 A0) 0 0) : X Y (zrm d) sc F pc lv st0 (cells V A) 0 0 :=
  y_callVu hCt hW hd hl hlt hm hc hcls hst hn hav ha hcr hrl hm21 (fun V' A' hq => by rw [hq.1, hq.2]; exact K)
theorem y_bV {i n k ci N : Nat} {C : String} {T : u_T} {fs : List Value} {av rest st0 : List Value} {c : Prop} {V0 A0 : zV} (hCt : CQ Y' d' (.ref k :: av) V A (fun r V' A' => ((r = 1 ∧ c) ∨ (r = 0 ∧ ¬ c)) ∧ V' = V0 ∧ A' = A0)) (hW : zWv Y') (hd : decode Y.2.1 pc = .ok (.invokevirtual i, 3)) (hl : Cond.methodLink Y.2.2.2.2 i Y'.1 ∈ zt) (hlt : d' < d) (hm : (cells V A)[k]? = some (.inr (ci, fs))) (hc : zcl[ci]? = some (C, T, N)) (hcls : Y'.1.cls = C) (hst : av.reverse ++ .ref k :: rest = st0) (hn : (parseMethodDescriptor Y'.1.desc).map (fun d => d.parameters.length) = some n) (hav : av.length = n := by rfl) (ha : av.all zok = true := by rfl) (hcr : rest.all (fun v => v.category == 1) = true := by rfl) (hrl : rest.length ≤ 8 := by exact Nat.le_of_ble_eq_true rfl) (hm21 : Y'.2.2.1 ≤ 21 := by exact Nat.le_of_ble_eq_true rfl)
    (K1 : c → X Y (zrm d) sc F (pc + 3) lv (.int 1 :: rest) (cells V0 A0) 0 0) (K0 : ¬ c → X Y (zrm d) sc F (pc + 3) lv (.int 0 :: rest) (cells V0 A0) 0 0) : X Y (zrm d) sc F pc lv st0 (cells V A) 0 0 :=
  y_callV hCt hW hd hl hlt hm hc hcls hst hn hav ha hcr hrl hm21 (fun v' V' A' hq => by
    rw [hq.2.1, hq.2.2]
    rcases hq.1 with h | h
    · rw [h.1]; exact K1 h.2
    · rw [h.1]; exact K0 h.2)
theorem y_bS {i n : Nat} {av rest st0 : List Value} {c : Prop} {V0 A0 : zV} (hCt : CQ Y' d' av V A (fun r V' A' => ((r = 1 ∧ c) ∨ (r = 0 ∧ ¬ c)) ∧ V' = V0 ∧ A' = A0)) (hW : zWs Y') (hd : decode Y.2.1 pc = .ok (.invokestatic i, 3)) (hl : Cond.methodLink Y.2.2.2.2 i Y'.1 ∈ zt) (hlt : d' < d) (hst : av.reverse ++ rest = st0) (hn : (parseMethodDescriptor Y'.1.desc).map (fun d => d.parameters.length) = some n) (hav : av.length = n := by rfl) (ha : av.all zok = true := by rfl) (hcr : rest.all (fun v => v.category == 1) = true := by rfl) (hrl : rest.length ≤ 8 := by exact Nat.le_of_ble_eq_true rfl) (hm21 : Y'.2.2.1 ≤ 21 := by exact Nat.le_of_ble_eq_true rfl)
    (K1 : c → X Y (zrm d) sc F (pc + 3) lv (.int 1 :: rest) (cells V0 A0) 0 0) (K0 : ¬ c → X Y (zrm d) sc F (pc + 3) lv (.int 0 :: rest) (cells V0 A0) 0 0) : X Y (zrm d) sc F pc lv st0 (cells V A) 0 0 :=
  y_callS hCt hW hd hl hlt hst hn hav ha hcr hrl hm21 (fun v' V' A' hq => by
    rw [hq.2.1, hq.2.2]
    rcases hq.1 with h | h
    · rw [h.1]; exact K1 h.2
    · rw [h.1]; exact K0 h.2)
theorem y_min {i : Nat} {x y : Int32} (hd : decode Y.2.1 pc = .ok (.invokestatic i, 3)) (hl : Cond.methodLink Y.2.2.2.2 i Lib.Math.min.name ∈ zt) (hlt : 0 < d) (hcr : st.all (fun v => v.category == 1) = true := by rfl) (hrl : st.length ≤ 8 := by exact Nat.le_of_ble_eq_true rfl) (K : X Y (zrm d) sc F (pc + 3) lv (.int (if y < x then y else x) :: st) (cells V A) 0 0) : X Y (zrm d) sc F pc lv (.int y :: .int x :: st) (cells V A) 0 0 := by
  have hcr' : ∀ v ∈ st, v.category = 1 := fun v hv => by simpa using List.all_eq_true.mp hcr v hv
  exact x_min hd hl hlt (by rw [y_sum hcr']; show _ + 13 ≤ 40 * d; omega) ⟨Nat.le_refl _, Nat.le_refl _⟩ hcr' K
theorem y_put {i k ci j N : Nat} {C ref nm ds : String} {T : u_T} {fs : List Value} {x : Int32} (hd : decode Y.2.1 pc = .ok (.putfield i, 3)) (hw : Cond.fieldLink Y.2.2.2.2 i ref nm ds ∈ zt) (hm : (cells V A)[k]? = some (.inr (ci, fs))) (hc : zcl[ci]? = some (C, T, N)) (hj : j < N) (hT : T j = (ref, nm, ds, false)) (hf : j < fs.length) (hn : narrow (zty ci j) (.int x) = .int x) (hfit : fits (zty ci j) (.int x) = true) (hs : ∀ y, (cells V A).set k (.inr (ci, fs.set j (.int y))) = cells (zv V k j y) A) (K : X Y (zrm d) sc F (pc + 3) lv st (cells (zv V k j x) A) 0 0) : X Y (zrm d) sc F pc lv (.int x :: .ref k :: st) (cells V A) 0 0 :=
  x_put hd hw hm hc hj hT hf rfl (fun _ _ => hn) (fun _ _ => hfit) (hs x) K
theorem y_iast {k n : Nat} {i x : Int32} {f : Nat → Int32} (hd : decode Y.2.1 pc = .ok (.iastore, 1)) (hm : (cells V A)[k]? = some (.inl (false, n, f))) (hs : ∀ g, (cells V A).set k (.inl (false, n, g)) = cells V (za A k g)) (hin : vp_in i n) (K : X Y (zrm d) sc F (pc + 1) lv st (cells V (za A k (upd f i.toNatClampNeg x))) 0 0) : X Y (zrm d) sc F pc lv (.int x :: .int i :: .ref k :: st) (cells V A) 0 0 := x_iast hd hm (hs _) hin K
theorem y_zast {k n : Nat} {i x : Int32} {f : Nat → Int32} (hd : decode Y.2.1 pc = .ok (.bastore, 1)) (hm : (cells V A)[k]? = some (.inl (true, n, f))) (hs : ∀ g, (cells V A).set k (.inl (true, n, g)) = cells V (za A k g)) (hin : vp_in i n) (K : X Y (zrm d) sc F (pc + 1) lv st (cells V (za A k (upd f i.toNatClampNeg (vp_nar .boolean x)))) 0 0) : X Y (zrm d) sc F pc lv (.int x :: .int i :: .ref k :: st) (cells V A) 0 0 := x_zast hd hm (hs _) hin K
theorem y_ist0 {w0 : Value} {l : List Value} {v : Int32} {μ : zMem} {rm : Room} {kc ks : Nat} (hd : decode Y.2.1 pc = .ok (.istore_n 0, 1)) (K : X Y rm sc F (pc + 1) (.int v :: l) st μ kc ks) : X Y rm sc F pc (w0 :: l) (.int v :: st) μ kc ks := x_istore_n hd (by show (0 : Nat) < _; simp only [List.length_cons]; omega) rfl K
theorem y_inc0 {l : List Value} {x v : Int32} {n : Int} {μ : zMem} {rm : Room} {kc ks : Nat} (hd : decode Y.2.1 pc = .ok (.iinc 0 n, 3)) (hv : Int32.ofInt n = v) (K : X Y rm sc F (pc + 3) (.int (x + v) :: l) st μ kc ks) : X Y rm sc F pc (.int x :: l) st μ kc ks := x_iinc (x := x) hd (by simp) (by rw [hv]) rfl K
theorem y_ist1 {w0 w1 : Value} {l : List Value} {v : Int32} {μ : zMem} {rm : Room} {kc ks : Nat} (hd : decode Y.2.1 pc = .ok (.istore_n 1, 1)) (K : X Y rm sc F (pc + 1) (w0 :: .int v :: l) st μ kc ks) : X Y rm sc F pc (w0 :: w1 :: l) (.int v :: st) μ kc ks := x_istore_n hd (by show (1 : Nat) < _; simp only [List.length_cons]; omega) rfl K
theorem y_ast1 {w0 w1 : Value} {l : List Value} {v : Nat} {μ : zMem} {rm : Room} {kc ks : Nat} (hd : decode Y.2.1 pc = .ok (.astore_n 1, 1)) (K : X Y rm sc F (pc + 1) (w0 :: .ref v :: l) st μ kc ks) : X Y rm sc F pc (w0 :: w1 :: l) (.ref v :: st) μ kc ks := x_astore_n hd (by show (1 : Nat) < _; simp only [List.length_cons]; omega) rfl K
theorem y_inc1 {w0 : Value} {l : List Value} {x v : Int32} {n : Int} {μ : zMem} {rm : Room} {kc ks : Nat} (hd : decode Y.2.1 pc = .ok (.iinc 1 n, 3)) (hv : Int32.ofInt n = v) (K : X Y rm sc F (pc + 3) (w0 :: .int (x + v) :: l) st μ kc ks) : X Y rm sc F pc (w0 :: .int x :: l) st μ kc ks := x_iinc (x := x) hd (by simp) (by rw [hv]) rfl K
theorem y_ist2 {w0 w1 w2 : Value} {l : List Value} {v : Int32} {μ : zMem} {rm : Room} {kc ks : Nat} (hd : decode Y.2.1 pc = .ok (.istore_n 2, 1)) (K : X Y rm sc F (pc + 1) (w0 :: w1 :: .int v :: l) st μ kc ks) : X Y rm sc F pc (w0 :: w1 :: w2 :: l) (.int v :: st) μ kc ks := x_istore_n hd (by show (2 : Nat) < _; simp only [List.length_cons]; omega) rfl K
theorem y_ast2 {w0 w1 w2 : Value} {l : List Value} {v : Nat} {μ : zMem} {rm : Room} {kc ks : Nat} (hd : decode Y.2.1 pc = .ok (.astore_n 2, 1)) (K : X Y rm sc F (pc + 1) (w0 :: w1 :: .ref v :: l) st μ kc ks) : X Y rm sc F pc (w0 :: w1 :: w2 :: l) (.ref v :: st) μ kc ks := x_astore_n hd (by show (2 : Nat) < _; simp only [List.length_cons]; omega) rfl K
theorem y_inc2 {w0 w1 : Value} {l : List Value} {x v : Int32} {n : Int} {μ : zMem} {rm : Room} {kc ks : Nat} (hd : decode Y.2.1 pc = .ok (.iinc 2 n, 3)) (hv : Int32.ofInt n = v) (K : X Y rm sc F (pc + 3) (w0 :: w1 :: .int (x + v) :: l) st μ kc ks) : X Y rm sc F pc (w0 :: w1 :: .int x :: l) st μ kc ks := x_iinc (x := x) hd (by simp) (by rw [hv]) rfl K
theorem y_ist3 {w0 w1 w2 w3 : Value} {l : List Value} {v : Int32} {μ : zMem} {rm : Room} {kc ks : Nat} (hd : decode Y.2.1 pc = .ok (.istore_n 3, 1)) (K : X Y rm sc F (pc + 1) (w0 :: w1 :: w2 :: .int v :: l) st μ kc ks) : X Y rm sc F pc (w0 :: w1 :: w2 :: w3 :: l) (.int v :: st) μ kc ks := x_istore_n hd (by show (3 : Nat) < _; simp only [List.length_cons]; omega) rfl K
theorem y_ast3 {w0 w1 w2 w3 : Value} {l : List Value} {v : Nat} {μ : zMem} {rm : Room} {kc ks : Nat} (hd : decode Y.2.1 pc = .ok (.astore_n 3, 1)) (K : X Y rm sc F (pc + 1) (w0 :: w1 :: w2 :: .ref v :: l) st μ kc ks) : X Y rm sc F pc (w0 :: w1 :: w2 :: w3 :: l) (.ref v :: st) μ kc ks := x_astore_n hd (by show (3 : Nat) < _; simp only [List.length_cons]; omega) rfl K
theorem y_inc3 {w0 w1 w2 : Value} {l : List Value} {x v : Int32} {n : Int} {μ : zMem} {rm : Room} {kc ks : Nat} (hd : decode Y.2.1 pc = .ok (.iinc 3 n, 3)) (hv : Int32.ofInt n = v) (K : X Y rm sc F (pc + 3) (w0 :: w1 :: w2 :: .int (x + v) :: l) st μ kc ks) : X Y rm sc F pc (w0 :: w1 :: w2 :: .int x :: l) st μ kc ks := x_iinc (x := x) hd (by simp) (by rw [hv]) rfl K
theorem y_ist4 {w0 w1 w2 w3 w4 : Value} {l : List Value} {v : Int32} {μ : zMem} {rm : Room} {kc ks : Nat} (hd : decode Y.2.1 pc = .ok (.istore 4, 2)) (K : X Y rm sc F (pc + 2) (w0 :: w1 :: w2 :: w3 :: .int v :: l) st μ kc ks) : X Y rm sc F pc (w0 :: w1 :: w2 :: w3 :: w4 :: l) (.int v :: st) μ kc ks := x_istore hd (by show (4 : Nat) < _; simp only [List.length_cons]; omega) rfl K
theorem y_inc4 {w0 w1 w2 w3 : Value} {l : List Value} {x v : Int32} {n : Int} {μ : zMem} {rm : Room} {kc ks : Nat} (hd : decode Y.2.1 pc = .ok (.iinc 4 n, 3)) (hv : Int32.ofInt n = v) (K : X Y rm sc F (pc + 3) (w0 :: w1 :: w2 :: w3 :: .int (x + v) :: l) st μ kc ks) : X Y rm sc F pc (w0 :: w1 :: w2 :: w3 :: .int x :: l) st μ kc ks := x_iinc (x := x) hd (by simp) (by rw [hv]) rfl K
theorem y_ist5 {w0 w1 w2 w3 w4 w5 : Value} {l : List Value} {v : Int32} {μ : zMem} {rm : Room} {kc ks : Nat} (hd : decode Y.2.1 pc = .ok (.istore 5, 2)) (K : X Y rm sc F (pc + 2) (w0 :: w1 :: w2 :: w3 :: w4 :: .int v :: l) st μ kc ks) : X Y rm sc F pc (w0 :: w1 :: w2 :: w3 :: w4 :: w5 :: l) (.int v :: st) μ kc ks := x_istore hd (by show (5 : Nat) < _; simp only [List.length_cons]; omega) rfl K
theorem y_inc5 {w0 w1 w2 w3 w4 : Value} {l : List Value} {x v : Int32} {n : Int} {μ : zMem} {rm : Room} {kc ks : Nat} (hd : decode Y.2.1 pc = .ok (.iinc 5 n, 3)) (hv : Int32.ofInt n = v) (K : X Y rm sc F (pc + 3) (w0 :: w1 :: w2 :: w3 :: w4 :: .int (x + v) :: l) st μ kc ks) : X Y rm sc F pc (w0 :: w1 :: w2 :: w3 :: w4 :: .int x :: l) st μ kc ks := x_iinc (x := x) hd (by simp) (by rw [hv]) rfl K
theorem y_ist6 {w0 w1 w2 w3 w4 w5 w6 : Value} {l : List Value} {v : Int32} {μ : zMem} {rm : Room} {kc ks : Nat} (hd : decode Y.2.1 pc = .ok (.istore 6, 2)) (K : X Y rm sc F (pc + 2) (w0 :: w1 :: w2 :: w3 :: w4 :: w5 :: .int v :: l) st μ kc ks) : X Y rm sc F pc (w0 :: w1 :: w2 :: w3 :: w4 :: w5 :: w6 :: l) (.int v :: st) μ kc ks := x_istore hd (by show (6 : Nat) < _; simp only [List.length_cons]; omega) rfl K
theorem y_inc6 {w0 w1 w2 w3 w4 w5 : Value} {l : List Value} {x v : Int32} {n : Int} {μ : zMem} {rm : Room} {kc ks : Nat} (hd : decode Y.2.1 pc = .ok (.iinc 6 n, 3)) (hv : Int32.ofInt n = v) (K : X Y rm sc F (pc + 3) (w0 :: w1 :: w2 :: w3 :: w4 :: w5 :: .int (x + v) :: l) st μ kc ks) : X Y rm sc F pc (w0 :: w1 :: w2 :: w3 :: w4 :: w5 :: .int x :: l) st μ kc ks := x_iinc (x := x) hd (by simp) (by rw [hv]) rfl K
theorem y_ist7 {w0 w1 w2 w3 w4 w5 w6 w7 : Value} {l : List Value} {v : Int32} {μ : zMem} {rm : Room} {kc ks : Nat} (hd : decode Y.2.1 pc = .ok (.istore 7, 2)) (K : X Y rm sc F (pc + 2) (w0 :: w1 :: w2 :: w3 :: w4 :: w5 :: w6 :: .int v :: l) st μ kc ks) : X Y rm sc F pc (w0 :: w1 :: w2 :: w3 :: w4 :: w5 :: w6 :: w7 :: l) (.int v :: st) μ kc ks := x_istore hd (by show (7 : Nat) < _; simp only [List.length_cons]; omega) rfl K
theorem y_inc7 {w0 w1 w2 w3 w4 w5 w6 : Value} {l : List Value} {x v : Int32} {n : Int} {μ : zMem} {rm : Room} {kc ks : Nat} (hd : decode Y.2.1 pc = .ok (.iinc 7 n, 3)) (hv : Int32.ofInt n = v) (K : X Y rm sc F (pc + 3) (w0 :: w1 :: w2 :: w3 :: w4 :: w5 :: w6 :: .int (x + v) :: l) st μ kc ks) : X Y rm sc F pc (w0 :: w1 :: w2 :: w3 :: w4 :: w5 :: w6 :: .int x :: l) st μ kc ks := x_iinc (x := x) hd (by simp) (by rw [hv]) rfl K
theorem y_ist8 {w0 w1 w2 w3 w4 w5 w6 w7 w8 : Value} {l : List Value} {v : Int32} {μ : zMem} {rm : Room} {kc ks : Nat} (hd : decode Y.2.1 pc = .ok (.istore 8, 2)) (K : X Y rm sc F (pc + 2) (w0 :: w1 :: w2 :: w3 :: w4 :: w5 :: w6 :: w7 :: .int v :: l) st μ kc ks) : X Y rm sc F pc (w0 :: w1 :: w2 :: w3 :: w4 :: w5 :: w6 :: w7 :: w8 :: l) (.int v :: st) μ kc ks := x_istore hd (by show (8 : Nat) < _; simp only [List.length_cons]; omega) rfl K
theorem y_inc8 {w0 w1 w2 w3 w4 w5 w6 w7 : Value} {l : List Value} {x v : Int32} {n : Int} {μ : zMem} {rm : Room} {kc ks : Nat} (hd : decode Y.2.1 pc = .ok (.iinc 8 n, 3)) (hv : Int32.ofInt n = v) (K : X Y rm sc F (pc + 3) (w0 :: w1 :: w2 :: w3 :: w4 :: w5 :: w6 :: w7 :: .int (x + v) :: l) st μ kc ks) : X Y rm sc F pc (w0 :: w1 :: w2 :: w3 :: w4 :: w5 :: w6 :: w7 :: .int x :: l) st μ kc ks := x_iinc (x := x) hd (by simp) (by rw [hv]) rfl K
theorem y_ist9 {w0 w1 w2 w3 w4 w5 w6 w7 w8 w9 : Value} {l : List Value} {v : Int32} {μ : zMem} {rm : Room} {kc ks : Nat} (hd : decode Y.2.1 pc = .ok (.istore 9, 2)) (K : X Y rm sc F (pc + 2) (w0 :: w1 :: w2 :: w3 :: w4 :: w5 :: w6 :: w7 :: w8 :: .int v :: l) st μ kc ks) : X Y rm sc F pc (w0 :: w1 :: w2 :: w3 :: w4 :: w5 :: w6 :: w7 :: w8 :: w9 :: l) (.int v :: st) μ kc ks := x_istore hd (by show (9 : Nat) < _; simp only [List.length_cons]; omega) rfl K
theorem y_inc9 {w0 w1 w2 w3 w4 w5 w6 w7 w8 : Value} {l : List Value} {x v : Int32} {n : Int} {μ : zMem} {rm : Room} {kc ks : Nat} (hd : decode Y.2.1 pc = .ok (.iinc 9 n, 3)) (hv : Int32.ofInt n = v) (K : X Y rm sc F (pc + 3) (w0 :: w1 :: w2 :: w3 :: w4 :: w5 :: w6 :: w7 :: w8 :: .int (x + v) :: l) st μ kc ks) : X Y rm sc F pc (w0 :: w1 :: w2 :: w3 :: w4 :: w5 :: w6 :: w7 :: w8 :: .int x :: l) st μ kc ks := x_iinc (x := x) hd (by simp) (by rw [hv]) rfl K
theorem y_ist10 {w0 w1 w2 w3 w4 w5 w6 w7 w8 w9 w10 : Value} {l : List Value} {v : Int32} {μ : zMem} {rm : Room} {kc ks : Nat} (hd : decode Y.2.1 pc = .ok (.istore 10, 2)) (K : X Y rm sc F (pc + 2) (w0 :: w1 :: w2 :: w3 :: w4 :: w5 :: w6 :: w7 :: w8 :: w9 :: .int v :: l) st μ kc ks) : X Y rm sc F pc (w0 :: w1 :: w2 :: w3 :: w4 :: w5 :: w6 :: w7 :: w8 :: w9 :: w10 :: l) (.int v :: st) μ kc ks := x_istore hd (by show (10 : Nat) < _; simp only [List.length_cons]; omega) rfl K
theorem y_inc10 {w0 w1 w2 w3 w4 w5 w6 w7 w8 w9 : Value} {l : List Value} {x v : Int32} {n : Int} {μ : zMem} {rm : Room} {kc ks : Nat} (hd : decode Y.2.1 pc = .ok (.iinc 10 n, 3)) (hv : Int32.ofInt n = v) (K : X Y rm sc F (pc + 3) (w0 :: w1 :: w2 :: w3 :: w4 :: w5 :: w6 :: w7 :: w8 :: w9 :: .int (x + v) :: l) st μ kc ks) : X Y rm sc F pc (w0 :: w1 :: w2 :: w3 :: w4 :: w5 :: w6 :: w7 :: w8 :: w9 :: .int x :: l) st μ kc ks := x_iinc (x := x) hd (by simp) (by rw [hv]) rfl K
theorem y_ist11 {w0 w1 w2 w3 w4 w5 w6 w7 w8 w9 w10 w11 : Value} {l : List Value} {v : Int32} {μ : zMem} {rm : Room} {kc ks : Nat} (hd : decode Y.2.1 pc = .ok (.istore 11, 2)) (K : X Y rm sc F (pc + 2) (w0 :: w1 :: w2 :: w3 :: w4 :: w5 :: w6 :: w7 :: w8 :: w9 :: w10 :: .int v :: l) st μ kc ks) : X Y rm sc F pc (w0 :: w1 :: w2 :: w3 :: w4 :: w5 :: w6 :: w7 :: w8 :: w9 :: w10 :: w11 :: l) (.int v :: st) μ kc ks := x_istore hd (by show (11 : Nat) < _; simp only [List.length_cons]; omega) rfl K
theorem y_inc11 {w0 w1 w2 w3 w4 w5 w6 w7 w8 w9 w10 : Value} {l : List Value} {x v : Int32} {n : Int} {μ : zMem} {rm : Room} {kc ks : Nat} (hd : decode Y.2.1 pc = .ok (.iinc 11 n, 3)) (hv : Int32.ofInt n = v) (K : X Y rm sc F (pc + 3) (w0 :: w1 :: w2 :: w3 :: w4 :: w5 :: w6 :: w7 :: w8 :: w9 :: w10 :: .int (x + v) :: l) st μ kc ks) : X Y rm sc F pc (w0 :: w1 :: w2 :: w3 :: w4 :: w5 :: w6 :: w7 :: w8 :: w9 :: w10 :: .int x :: l) st μ kc ks := x_iinc (x := x) hd (by simp) (by rw [hv]) rfl K
theorem y_ist12 {w0 w1 w2 w3 w4 w5 w6 w7 w8 w9 w10 w11 w12 : Value} {l : List Value} {v : Int32} {μ : zMem} {rm : Room} {kc ks : Nat} (hd : decode Y.2.1 pc = .ok (.istore 12, 2)) (K : X Y rm sc F (pc + 2) (w0 :: w1 :: w2 :: w3 :: w4 :: w5 :: w6 :: w7 :: w8 :: w9 :: w10 :: w11 :: .int v :: l) st μ kc ks) : X Y rm sc F pc (w0 :: w1 :: w2 :: w3 :: w4 :: w5 :: w6 :: w7 :: w8 :: w9 :: w10 :: w11 :: w12 :: l) (.int v :: st) μ kc ks := x_istore hd (by show (12 : Nat) < _; simp only [List.length_cons]; omega) rfl K
theorem y_inc12 {w0 w1 w2 w3 w4 w5 w6 w7 w8 w9 w10 w11 : Value} {l : List Value} {x v : Int32} {n : Int} {μ : zMem} {rm : Room} {kc ks : Nat} (hd : decode Y.2.1 pc = .ok (.iinc 12 n, 3)) (hv : Int32.ofInt n = v) (K : X Y rm sc F (pc + 3) (w0 :: w1 :: w2 :: w3 :: w4 :: w5 :: w6 :: w7 :: w8 :: w9 :: w10 :: w11 :: .int (x + v) :: l) st μ kc ks) : X Y rm sc F pc (w0 :: w1 :: w2 :: w3 :: w4 :: w5 :: w6 :: w7 :: w8 :: w9 :: w10 :: w11 :: .int x :: l) st μ kc ks := x_iinc (x := x) hd (by simp) (by rw [hv]) rfl K
end YR
theorem p_CW_init : (parseMethodDescriptor Y_CW_init.1.desc).map (fun d => d.parameters.length) = some 0 := by decide +kernel
theorem p_Net_init : (parseMethodDescriptor Y_Net_init.1.desc).map (fun d => d.parameters.length) = some 0 := by decide +kernel
theorem p_Pat_init : (parseMethodDescriptor Y_Pat_init.1.desc).map (fun d => d.parameters.length) = some 1 := by decide +kernel
theorem p_Sha_init : (parseMethodDescriptor Y_Sha_init.1.desc).map (fun d => d.parameters.length) = some 2 := by decide +kernel
theorem p_Tai_init : (parseMethodDescriptor Y_Tai_init.1.desc).map (fun d => d.parameters.length) = some 3 := by decide +kernel
theorem p_Fir_init : (parseMethodDescriptor Y_Fir_init.1.desc).map (fun d => d.parameters.length) = some 3 := by decide +kernel
theorem p_Tre_init : (parseMethodDescriptor Y_Tre_init.1.desc).map (fun d => d.parameters.length) = some 1 := by decide +kernel
theorem p_Pai_init : (parseMethodDescriptor Y_Pai_init.1.desc).map (fun d => d.parameters.length) = some 1 := by decide +kernel
theorem p_Cir_init : (parseMethodDescriptor Y_Cir_init.1.desc).map (fun d => d.parameters.length) = some 1 := by decide +kernel
theorem p_Way_init : (parseMethodDescriptor Y_Way_init.1.desc).map (fun d => d.parameters.length) = some 1 := by decide +kernel
theorem p_Row_init : (parseMethodDescriptor Y_Row_init.1.desc).map (fun d => d.parameters.length) = some 1 := by decide +kernel
theorem p_CW_node : (parseMethodDescriptor Y_CW_node.1.desc).map (fun d => d.parameters.length) = some 1 := by decide +kernel
theorem p_Net_addNode : (parseMethodDescriptor Y_Net_addNode.1.desc).map (fun d => d.parameters.length) = some 1 := by decide +kernel
theorem p_CW_arc : (parseMethodDescriptor Y_CW_arc.1.desc).map (fun d => d.parameters.length) = some 3 := by decide +kernel
theorem p_Net_areTwo : (parseMethodDescriptor Y_Net_areTwo.1.desc).map (fun d => d.parameters.length) = some 2 := by decide +kernel
theorem p_Net_isNode : (parseMethodDescriptor Y_Net_isNode.1.desc).map (fun d => d.parameters.length) = some 1 := by decide +kernel
theorem p_Net_changeCost : (parseMethodDescriptor Y_Net_changeCost.1.desc).map (fun d => d.parameters.length) = some 3 := by decide +kernel
theorem p_CW_orNone : (parseMethodDescriptor Y_CW_orNone.1.desc).map (fun d => d.parameters.length) = some 1 := by decide +kernel
theorem p_CW_lose : (parseMethodDescriptor Y_CW_lose.1.desc).map (fun d => d.parameters.length) = some 2 := by decide +kernel
theorem p_CW_price : (parseMethodDescriptor Y_CW_price.1.desc).map (fun d => d.parameters.length) = some 2 := by decide +kernel
theorem p_Net_isPlace : (parseMethodDescriptor Y_Net_isPlace.1.desc).map (fun d => d.parameters.length) = some 1 := by decide +kernel
theorem p_Net_changePrice : (parseMethodDescriptor Y_Net_changePrice.1.desc).map (fun d => d.parameters.length) = some 2 := by decide +kernel
theorem p_CW_ahead : (parseMethodDescriptor Y_CW_ahead.1.desc).map (fun d => d.parameters.length) = some 3 := by decide +kernel
theorem p_Net_changeEarlier : (parseMethodDescriptor Y_Net_changeEarlier.1.desc).map (fun d => d.parameters.length) = some 3 := by decide +kernel
theorem p_CW_bit : (parseMethodDescriptor Y_CW_bit.1.desc).map (fun d => d.parameters.length) = some 1 := by decide +kernel
theorem p_CW_rule : (parseMethodDescriptor Y_CW_rule.1.desc).map (fun d => d.parameters.length) = some 2 := by decide +kernel
theorem p_Net_changeMost : (parseMethodDescriptor Y_Net_changeMost.1.desc).map (fun d => d.parameters.length) = some 1 := by decide +kernel
theorem p_Net_changeRoom : (parseMethodDescriptor Y_Net_changeRoom.1.desc).map (fun d => d.parameters.length) = some 1 := by decide +kernel
theorem p_Net_changeOpen : (parseMethodDescriptor Y_Net_changeOpen.1.desc).map (fun d => d.parameters.length) = some 1 := by decide +kernel
theorem p_CW_best : (parseMethodDescriptor Y_CW_best.1.desc).map (fun d => d.parameters.length) = some 0 := by decide +kernel
theorem p_Sha_refresh : (parseMethodDescriptor Y_Sha_refresh.1.desc).map (fun d => d.parameters.length) = some 0 := by decide +kernel
theorem p_Pat_compute : (parseMethodDescriptor Y_Pat_compute.1.desc).map (fun d => d.parameters.length) = some 0 := by decide +kernel
theorem p_Pat_addLoads : (parseMethodDescriptor Y_Pat_addLoads.1.desc).map (fun d => d.parameters.length) = some 0 := by decide +kernel
theorem p_Pat_clearPaths : (parseMethodDescriptor Y_Pat_clearPaths.1.desc).map (fun d => d.parameters.length) = some 0 := by decide +kernel
theorem p_Net_allPlaces : (parseMethodDescriptor Y_Net_allPlaces.1.desc).map (fun d => d.parameters.length) = some 0 := by decide +kernel
theorem p_Pat_followersOf : (parseMethodDescriptor Y_Pat_followersOf.1.desc).map (fun d => d.parameters.length) = some 1 := by decide +kernel
theorem p_Pat_extend : (parseMethodDescriptor Y_Pat_extend.1.desc).map (fun d => d.parameters.length) = some 2 := by decide +kernel
theorem p_Pat_closeRound : (parseMethodDescriptor Y_Pat_closeRound.1.desc).map (fun d => d.parameters.length) = some 1 := by decide +kernel
theorem p_Net_costBack : (parseMethodDescriptor Y_Net_costBack.1.desc).map (fun d => d.parameters.length) = some 1 := by decide +kernel
theorem p_CW_sum : (parseMethodDescriptor Y_CW_sum.1.desc).map (fun d => d.parameters.length) = some 2 := by decide +kernel
theorem p_Net_costOut : (parseMethodDescriptor Y_Net_costOut.1.desc).map (fun d => d.parameters.length) = some 1 := by decide +kernel
theorem p_JI_bitCount : (parseMethodDescriptor Y_JI_bitCount.1.desc).map (fun d => d.parameters.length) = some 1 := by decide +kernel
theorem p_Sha_copyShare : (parseMethodDescriptor Y_Sha_copyShare.1.desc).map (fun d => d.parameters.length) = some 2 := by decide +kernel
theorem p_Sha_share : (parseMethodDescriptor Y_Sha_share.1.desc).map (fun d => d.parameters.length) = some 2 := by decide +kernel
theorem p_Sha_offer : (parseMethodDescriptor Y_Sha_offer.1.desc).map (fun d => d.parameters.length) = some 2 := by decide +kernel
theorem p_Sha_leastCost : (parseMethodDescriptor Y_Sha_leastCost.1.desc).map (fun d => d.parameters.length) = some 0 := by decide +kernel
theorem p_CW_many : (parseMethodDescriptor Y_CW_many.1.desc).map (fun d => d.parameters.length) = some 0 := by decide +kernel
theorem p_Sha_leastWays : (parseMethodDescriptor Y_Sha_leastWays.1.desc).map (fun d => d.parameters.length) = some 0 := by decide +kernel
theorem p_CW_first : (parseMethodDescriptor Y_CW_first.1.desc).map (fun d => d.parameters.length) = some 1 := by decide +kernel
theorem p_Fir_refresh : (parseMethodDescriptor Y_Fir_refresh.1.desc).map (fun d => d.parameters.length) = some 0 := by decide +kernel
theorem p_Fir_write : (parseMethodDescriptor Y_Fir_write.1.desc).map (fun d => d.parameters.length) = some 1 := by decide +kernel
theorem p_Tai_fill : (parseMethodDescriptor Y_Tai_fill.1.desc).map (fun d => d.parameters.length) = some 2 := by decide +kernel
theorem p_Tai_leastBehind : (parseMethodDescriptor Y_Tai_leastBehind.1.desc).map (fun d => d.parameters.length) = some 2 := by decide +kernel
theorem p_Tai_costClosing : (parseMethodDescriptor Y_Tai_costClosing.1.desc).map (fun d => d.parameters.length) = some 2 := by decide +kernel
theorem p_Tai_costOver : (parseMethodDescriptor Y_Tai_costOver.1.desc).map (fun d => d.parameters.length) = some 3 := by decide +kernel
theorem p_Fir_writeRound : (parseMethodDescriptor Y_Fir_writeRound.1.desc).map (fun d => d.parameters.length) = some 0 := by decide +kernel
theorem p_Fir_followerDue : (parseMethodDescriptor Y_Fir_followerDue.1.desc).map (fun d => d.parameters.length) = some 2 := by decide +kernel
theorem p_CW_with : (parseMethodDescriptor Y_CW_with.1.desc).map (fun d => d.parameters.length) = some 2 := by decide +kernel
theorem p_Tai_leastThrough : (parseMethodDescriptor Y_Tai_leastThrough.1.desc).map (fun d => d.parameters.length) = some 3 := by decide +kernel
theorem p_CW_without : (parseMethodDescriptor Y_CW_without.1.desc).map (fun d => d.parameters.length) = some 1 := by decide +kernel
theorem p_Sha_leastLeavingOut : (parseMethodDescriptor Y_Sha_leastLeavingOut.1.desc).map (fun d => d.parameters.length) = some 1 := by decide +kernel
theorem p_CW_filter : (parseMethodDescriptor Y_CW_filter.1.desc).map (fun d => d.parameters.length) = some 1 := by decide +kernel
theorem p_Tai_dropArcsAbove : (parseMethodDescriptor Y_Tai_dropArcsAbove.1.desc).map (fun d => d.parameters.length) = some 1 := by decide +kernel
theorem p_CW_weight : (parseMethodDescriptor Y_CW_weight.1.desc).map (fun d => d.parameters.length) = some 2 := by decide +kernel
theorem p_Tre_changeWeight : (parseMethodDescriptor Y_Tre_changeWeight.1.desc).map (fun d => d.parameters.length) = some 2 := by decide +kernel
theorem p_CW_bound : (parseMethodDescriptor Y_CW_bound.1.desc).map (fun d => d.parameters.length) = some 0 := by decide +kernel
theorem p_Tre_grow : (parseMethodDescriptor Y_Tre_grow.1.desc).map (fun d => d.parameters.length) = some 0 := by decide +kernel
theorem p_Tre_chooseJoining : (parseMethodDescriptor Y_Tre_chooseJoining.1.desc).map (fun d => d.parameters.length) = some 0 := by decide +kernel
theorem p_Tre_edgeCost : (parseMethodDescriptor Y_Tre_edgeCost.1.desc).map (fun d => d.parameters.length) = some 2 := by decide +kernel
theorem p_Tre_choose : (parseMethodDescriptor Y_Tre_choose.1.desc).map (fun d => d.parameters.length) = some 2 := by decide +kernel
theorem p_Tre_chooseAtHouse : (parseMethodDescriptor Y_Tre_chooseAtHouse.1.desc).map (fun d => d.parameters.length) = some 1 := by decide +kernel
theorem p_Tre_lowerBound : (parseMethodDescriptor Y_Tre_lowerBound.1.desc).map (fun d => d.parameters.length) = some 0 := by decide +kernel
theorem p_CW_edge : (parseMethodDescriptor Y_CW_edge.1.desc).map (fun d => d.parameters.length) = some 2 := by decide +kernel
theorem p_CW_degree : (parseMethodDescriptor Y_CW_degree.1.desc).map (fun d => d.parameters.length) = some 1 := by decide +kernel
theorem p_Tre_edgesAt : (parseMethodDescriptor Y_Tre_edgesAt.1.desc).map (fun d => d.parameters.length) = some 1 := by decide +kernel
theorem p_CW_pairing : (parseMethodDescriptor Y_CW_pairing.1.desc).map (fun d => d.parameters.length) = some 0 := by decide +kernel
theorem p_Pai_leastCost : (parseMethodDescriptor Y_Pai_leastCost.1.desc).map (fun d => d.parameters.length) = some 0 := by decide +kernel
theorem p_CW_next : (parseMethodDescriptor Y_CW_next.1.desc).map (fun d => d.parameters.length) = some 2 := by decide +kernel
theorem p_Cir_changeFollower : (parseMethodDescriptor Y_Cir_changeFollower.1.desc).map (fun d => d.parameters.length) = some 2 := by decide +kernel
theorem p_CW_circle : (parseMethodDescriptor Y_CW_circle.1.desc).map (fun d => d.parameters.length) = some 1 := by decide +kernel
theorem p_Cir_find : (parseMethodDescriptor Y_Cir_find.1.desc).map (fun d => d.parameters.length) = some 0 := by decide +kernel
theorem p_Cir_circleFrom : (parseMethodDescriptor Y_Cir_circleFrom.1.desc).map (fun d => d.parameters.length) = some 1 := by decide +kernel
theorem p_CW_nearest : (parseMethodDescriptor Y_CW_nearest.1.desc).map (fun d => d.parameters.length) = some 1 := by decide +kernel
theorem p_Way_nearestLeading : (parseMethodDescriptor Y_Way_nearestLeading.1.desc).map (fun d => d.parameters.length) = some 1 := by decide +kernel
theorem p_Way_reached : (parseMethodDescriptor Y_Way_reached.1.desc).map (fun d => d.parameters.length) = some 1 := by decide +kernel
theorem p_Way_stepFrom : (parseMethodDescriptor Y_Way_stepFrom.1.desc).map (fun d => d.parameters.length) = some 2 := by decide +kernel
theorem p_Way_leads : (parseMethodDescriptor Y_Way_leads.1.desc).map (fun d => d.parameters.length) = some 2 := by decide +kernel
theorem p_Way_isNearest : (parseMethodDescriptor Y_Way_isNearest.1.desc).map (fun d => d.parameters.length) = some 2 := by decide +kernel
theorem p_CW_put : (parseMethodDescriptor Y_CW_put.1.desc).map (fun d => d.parameters.length) = some 1 := by decide +kernel
theorem p_Row_append : (parseMethodDescriptor Y_Row_append.1.desc).map (fun d => d.parameters.length) = some 1 := by decide +kernel
theorem p_CW_keep : (parseMethodDescriptor Y_CW_keep.1.desc).map (fun d => d.parameters.length) = some 1 := by decide +kernel
theorem p_Row_cut : (parseMethodDescriptor Y_Row_cut.1.desc).map (fun d => d.parameters.length) = some 1 := by decide +kernel
theorem p_CW_check : (parseMethodDescriptor Y_CW_check.1.desc).map (fun d => d.parameters.length) = some 0 := by decide +kernel
theorem p_Row_cost : (parseMethodDescriptor Y_Row_cost.1.desc).map (fun d => d.parameters.length) = some 0 := by decide +kernel
theorem p_Row_planCost : (parseMethodDescriptor Y_Row_planCost.1.desc).map (fun d => d.parameters.length) = some 2 := by decide +kernel
theorem p_Row_roundCost : (parseMethodDescriptor Y_Row_roundCost.1.desc).map (fun d => d.parameters.length) = some 3 := by decide +kernel
theorem p_CW_insert : (parseMethodDescriptor Y_CW_insert.1.desc).map (fun d => d.parameters.length) = some 1 := by decide +kernel
theorem p_Row_cheapestPlace : (parseMethodDescriptor Y_Row_cheapestPlace.1.desc).map (fun d => d.parameters.length) = some 1 := by decide +kernel
theorem p_CW_count : (parseMethodDescriptor Y_CW_count.1.desc).map (fun d => d.parameters.length) = some 1 := by decide +kernel
theorem p_Net_arcs : (parseMethodDescriptor Y_Net_arcs.1.desc).map (fun d => d.parameters.length) = some 0 := by decide +kernel
theorem p_Net_pairsAhead : (parseMethodDescriptor Y_Net_pairsAhead.1.desc).map (fun d => d.parameters.length) = some 0 := by decide +kernel
theorem p_Mo_init : (parseMethodDescriptor Y_Mo_init.1.desc).map (fun d => d.parameters.length) = some 0 := by decide +kernel
theorem p_Mo_node : (parseMethodDescriptor Y_Mo_node.1.desc).map (fun d => d.parameters.length) = some 1 := by decide +kernel
theorem p_Mo_in : (parseMethodDescriptor Y_Mo_in.1.desc).map (fun d => d.parameters.length) = some 3 := by decide +kernel
theorem p_Mo_arc : (parseMethodDescriptor Y_Mo_arc.1.desc).map (fun d => d.parameters.length) = some 3 := by decide +kernel
theorem p_Mo_noTwo : (parseMethodDescriptor Y_Mo_noTwo.1.desc).map (fun d => d.parameters.length) = some 2 := by decide +kernel
theorem p_Mo_noNode : (parseMethodDescriptor Y_Mo_noNode.1.desc).map (fun d => d.parameters.length) = some 1 := by decide +kernel
theorem p_Mo_lose : (parseMethodDescriptor Y_Mo_lose.1.desc).map (fun d => d.parameters.length) = some 2 := by decide +kernel
theorem p_Mo_price : (parseMethodDescriptor Y_Mo_price.1.desc).map (fun d => d.parameters.length) = some 2 := by decide +kernel
theorem p_Mo_ahead : (parseMethodDescriptor Y_Mo_ahead.1.desc).map (fun d => d.parameters.length) = some 3 := by decide +kernel
theorem p_Mo_rule : (parseMethodDescriptor Y_Mo_rule.1.desc).map (fun d => d.parameters.length) = some 2 := by decide +kernel
theorem p_Mo_best : (parseMethodDescriptor Y_Mo_best.1.desc).map (fun d => d.parameters.length) = some 0 := by decide +kernel
theorem p_Mo_know : (parseMethodDescriptor Y_Mo_know.1.desc).map (fun d => d.parameters.length) = some 0 := by decide +kernel
theorem p_Mo_atHouse : (parseMethodDescriptor Y_Mo_atHouse.1.desc).map (fun d => d.parameters.length) = some 3 := by decide +kernel
theorem p_Mo_whole : (parseMethodDescriptor Y_Mo_whole.1.desc).map (fun d => d.parameters.length) = some 1 := by decide +kernel
theorem p_Mo_isBeforeFirst : (parseMethodDescriptor Y_Mo_isBeforeFirst.1.desc).map (fun d => d.parameters.length) = some 0 := by decide +kernel
theorem p_Mo_mayCome : (parseMethodDescriptor Y_Mo_mayCome.1.desc).map (fun d => d.parameters.length) = some 2 := by decide +kernel
theorem p_Mo_write : (parseMethodDescriptor Y_Mo_write.1.desc).map (fun d => d.parameters.length) = some 1 := by decide +kernel
theorem p_Mo_atNode : (parseMethodDescriptor Y_Mo_atNode.1.desc).map (fun d => d.parameters.length) = some 5 := by decide +kernel
theorem p_Mo_note : (parseMethodDescriptor Y_Mo_note.1.desc).map (fun d => d.parameters.length) = some 3 := by decide +kernel
theorem p_Mo_many : (parseMethodDescriptor Y_Mo_many.1.desc).map (fun d => d.parameters.length) = some 0 := by decide +kernel
theorem p_Mo_first : (parseMethodDescriptor Y_Mo_first.1.desc).map (fun d => d.parameters.length) = some 1 := by decide +kernel
theorem p_Mo_with : (parseMethodDescriptor Y_Mo_with.1.desc).map (fun d => d.parameters.length) = some 2 := by decide +kernel
theorem p_Mo_told : (parseMethodDescriptor Y_Mo_told.1.desc).map (fun d => d.parameters.length) = some 1 := by decide +kernel
theorem p_Mo_without : (parseMethodDescriptor Y_Mo_without.1.desc).map (fun d => d.parameters.length) = some 1 := by decide +kernel
theorem p_Mo_filter : (parseMethodDescriptor Y_Mo_filter.1.desc).map (fun d => d.parameters.length) = some 1 := by decide +kernel
theorem p_Mo_weight : (parseMethodDescriptor Y_Mo_weight.1.desc).map (fun d => d.parameters.length) = some 2 := by decide +kernel
theorem p_Mo_bound : (parseMethodDescriptor Y_Mo_bound.1.desc).map (fun d => d.parameters.length) = some 0 := by decide +kernel
theorem p_Mo_makeTree : (parseMethodDescriptor Y_Mo_makeTree.1.desc).map (fun d => d.parameters.length) = some 0 := by decide +kernel
theorem p_Mo_choose : (parseMethodDescriptor Y_Mo_choose.1.desc).map (fun d => d.parameters.length) = some 1 := by decide +kernel
theorem p_Mo_edgeCost : (parseMethodDescriptor Y_Mo_edgeCost.1.desc).map (fun d => d.parameters.length) = some 2 := by decide +kernel
theorem p_Mo_hasEdge : (parseMethodDescriptor Y_Mo_hasEdge.1.desc).map (fun d => d.parameters.length) = some 2 := by decide +kernel
theorem p_Mo_edge : (parseMethodDescriptor Y_Mo_edge.1.desc).map (fun d => d.parameters.length) = some 2 := by decide +kernel
theorem p_Mo_degree : (parseMethodDescriptor Y_Mo_degree.1.desc).map (fun d => d.parameters.length) = some 1 := by decide +kernel
theorem p_Mo_pairing : (parseMethodDescriptor Y_Mo_pairing.1.desc).map (fun d => d.parameters.length) = some 0 := by decide +kernel
theorem p_Mo_next : (parseMethodDescriptor Y_Mo_next.1.desc).map (fun d => d.parameters.length) = some 2 := by decide +kernel
theorem p_Mo_circle : (parseMethodDescriptor Y_Mo_circle.1.desc).map (fun d => d.parameters.length) = some 1 := by decide +kernel
theorem p_Mo_circleOf : (parseMethodDescriptor Y_Mo_circleOf.1.desc).map (fun d => d.parameters.length) = some 1 := by decide +kernel
theorem p_Mo_nearest : (parseMethodDescriptor Y_Mo_nearest.1.desc).map (fun d => d.parameters.length) = some 1 := by decide +kernel
theorem p_Mo_leads : (parseMethodDescriptor Y_Mo_leads.1.desc).map (fun d => d.parameters.length) = some 2 := by decide +kernel
theorem p_Mo_reached : (parseMethodDescriptor Y_Mo_reached.1.desc).map (fun d => d.parameters.length) = some 1 := by decide +kernel
theorem p_Mo_put : (parseMethodDescriptor Y_Mo_put.1.desc).map (fun d => d.parameters.length) = some 1 := by decide +kernel
theorem p_Mo_keep : (parseMethodDescriptor Y_Mo_keep.1.desc).map (fun d => d.parameters.length) = some 1 := by decide +kernel
theorem p_Mo_check : (parseMethodDescriptor Y_Mo_check.1.desc).map (fun d => d.parameters.length) = some 0 := by decide +kernel
theorem p_Mo_costOf : (parseMethodDescriptor Y_Mo_costOf.1.desc).map (fun d => d.parameters.length) = some 2 := by decide +kernel
theorem p_Mo_insert : (parseMethodDescriptor Y_Mo_insert.1.desc).map (fun d => d.parameters.length) = some 1 := by decide +kernel
theorem p_Mo_count : (parseMethodDescriptor Y_Mo_count.1.desc).map (fun d => d.parameters.length) = some 1 := by decide +kernel
end
section
theorem z_lt {x y : Int32} : x < y ↔ x.toInt < y.toInt := Int32.lt_iff_toInt_lt
theorem z_le {x y : Int32} : x ≤ y ↔ x.toInt ≤ y.toInt := Int32.le_iff_toInt_le
theorem z_eq {x y : Int32} : x = y ↔ x.toInt = y.toInt := Int32.toInt_inj.symm
theorem z_t0 : (0 : Int32).toInt = 0 := rfl
theorem z_t1 : (1 : Int32).toInt = 1 := rfl
set_option maxRecDepth 100000 in
set_option maxHeartbeats 4000000 in
theorem c_CW_sum (V A : zV) (a b : Int32) : CQ Y_CW_sum 0 [.int a, .int b] V A (fun r V' A' => r = (if a = 1000000000 ∨ b = 1000000000 then 1000000000 else a + b) ∧ V' = V ∧ A' = A) := by
  refine CQ.of (lv := [.int a, .int b]) k_CW_sum.1 rfl (by decide) rfl rfl (Nat.le_of_ble_eq_true rfl) ?_
  refine x_iload_n (pc := 0) d_CW_sum_0 rfl ?_
  refine x_ldc (pc := 1) (v := 1000000000) d_CW_sum_1 i_CW_104 ?_
  refine x_icmp_eq (pc := 3) (tgt := 12) d_CW_sum_3 (by decide) (fun h3 => ?_) (fun h3 => ?_)
  · refine x_ldc (pc := 12) (v := 1000000000) d_CW_sum_12 i_CW_104 ?_
    refine x_goto (pc := 14) (tgt := 20) d_CW_sum_14 (by decide) ?_
    refine y_iret (pc := 20) d_CW_sum_20 rfl ?_
    exact ⟨by simp_all, rfl, rfl⟩
  · refine x_iload_n (pc := 6) d_CW_sum_6 rfl ?_
    refine x_ldc (pc := 7) (v := 1000000000) d_CW_sum_7 i_CW_104 ?_
    refine x_icmp_ne (pc := 9) (tgt := 17) d_CW_sum_9 (by decide) (fun h9 => ?_) (fun h9 => ?_)
    · refine x_iload_n (pc := 17) d_CW_sum_17 rfl ?_
      refine x_iload_n (pc := 18) d_CW_sum_18 rfl ?_
      refine x_iadd (pc := 19) d_CW_sum_19 ?_
      refine y_iret (pc := 20) d_CW_sum_20 rfl ?_
      exact ⟨by simp_all, rfl, rfl⟩
    · refine x_ldc (pc := 12) (v := 1000000000) d_CW_sum_12 i_CW_104 ?_
      refine x_goto (pc := 14) (tgt := 20) d_CW_sum_14 (by decide) ?_
      refine y_iret (pc := 20) d_CW_sum_20 rfl ?_
      exact ⟨by simp_all, rfl, rfl⟩
set_option maxRecDepth 100000 in
set_option maxHeartbeats 4000000 in
theorem c_CW_orNone (V A : zV) (a : Int32) : CQ Y_CW_orNone 0 [.int a] V A (fun r V' A' => r = (if a = 1000000000 then (-1000000) else a) ∧ V' = V ∧ A' = A) := by
  refine CQ.of (lv := [.int a]) k_CW_orNone.1 rfl (by decide) rfl rfl (Nat.le_of_ble_eq_true rfl) ?_
  refine x_iload_n (pc := 0) d_CW_orNone_0 rfl ?_
  refine x_ldc (pc := 1) (v := 1000000000) d_CW_orNone_1 i_CW_104 ?_
  refine x_icmp_ne (pc := 3) (tgt := 11) d_CW_orNone_3 (by decide) (fun h3 => ?_) (fun h3 => ?_)
  · refine x_iload_n (pc := 11) d_CW_orNone_11 rfl ?_
    refine y_iret (pc := 12) d_CW_orNone_12 rfl ?_
    exact ⟨by simp_all, rfl, rfl⟩
  · refine x_ldc (pc := 6) (v := (-1000000)) d_CW_orNone_6 i_CW_136 ?_
    refine x_goto (pc := 8) (tgt := 12) d_CW_orNone_8 (by decide) ?_
    refine y_iret (pc := 12) d_CW_orNone_12 rfl ?_
    exact ⟨by simp_all, rfl, rfl⟩
set_option maxRecDepth 100000 in
set_option maxHeartbeats 4000000 in
theorem c_CW_bit (V A : zV) (a : Int32) : CQ Y_CW_bit 0 [.int a] V A (fun r V' A' => r = (1 : Int32) <<< ((a - 1) &&& 31) ∧ V' = V ∧ A' = A) := by
  refine CQ.of (lv := [.int a]) k_CW_bit.1 rfl (by decide) rfl rfl (Nat.le_of_ble_eq_true rfl) ?_
  refine x_iconst (pc := 0) (v := 1) d_CW_bit_0 (by decide) ?_
  refine x_iload_n (pc := 1) d_CW_bit_1 rfl ?_
  refine x_iconst (pc := 2) (v := 1) d_CW_bit_2 (by decide) ?_
  refine x_isub (pc := 3) d_CW_bit_3 ?_
  refine x_ishl (pc := 4) d_CW_bit_4 ?_
  refine y_iret (pc := 5) d_CW_bit_5 rfl ?_
  exact ⟨rfl, rfl, rfl⟩
set_option maxRecDepth 100000 in
set_option maxHeartbeats 4000000 in
theorem c_Net_isNode (V A : zV) (v : Int32) : CQ Y_Net_isNode 0 [.ref 1, .int v] V A (fun r V' A' => ((r = 1 ∧ (0 ≤ v ∧ v < V 1 4)) ∨ (r = 0 ∧ ¬ (0 ≤ v ∧ v < V 1 4))) ∧ V' = V ∧ A' = A) := by
  refine CQ.of (lv := [.ref 1, .int v]) k_Net_isNode.1 rfl (by decide) rfl rfl (Nat.le_of_ble_eq_true rfl) ?_
  refine x_iload_n (pc := 0) d_Net_isNode_0 rfl ?_
  refine x_if_lt (pc := 1) (tgt := 16) d_Net_isNode_1 (by decide) (fun h1 => ?_) (fun h1 => ?_)
  · refine x_iconst (pc := 16) (v := 0) d_Net_isNode_16 (by decide) ?_
    refine y_zret (pc := 17) d_Net_isNode_17 rfl rfl ?_
    exact ⟨Or.inr ⟨rfl, by simp only [z_lt, z_le, z_eq, z_t0, z_t1] at *; omega⟩, rfl, rfl⟩
  · refine x_iload_n (pc := 4) d_Net_isNode_4 rfl ?_
    refine x_aload_n (pc := 5) d_Net_isNode_5 rfl ?_
    refine x_get (pc := 6) (j := 4) d_Net_isNode_6 f_Net_24 rfl rfl (Nat.le_of_ble_eq_true rfl) rfl rfl rfl ?_
    refine x_icmp_ge (pc := 9) (tgt := 16) d_Net_isNode_9 (by decide) (fun h9 => ?_) (fun h9 => ?_)
    · refine x_iconst (pc := 16) (v := 0) d_Net_isNode_16 (by decide) ?_
      refine y_zret (pc := 17) d_Net_isNode_17 rfl rfl ?_
      exact ⟨Or.inr ⟨rfl, by simp only [z_lt, z_le, z_eq, z_t0, z_t1] at *; omega⟩, rfl, rfl⟩
    · refine x_iconst (pc := 12) (v := 1) d_Net_isNode_12 (by decide) ?_
      refine x_goto (pc := 13) (tgt := 17) d_Net_isNode_13 (by decide) ?_
      refine y_zret (pc := 17) d_Net_isNode_17 rfl rfl ?_
      exact ⟨Or.inl ⟨rfl, by simp only [z_lt, z_le, z_eq, z_t0, z_t1] at *; omega⟩, rfl, rfl⟩
set_option maxRecDepth 100000 in
set_option maxHeartbeats 4000000 in
theorem c_Net_isPlace (V A : zV) (v : Int32) : CQ Y_Net_isPlace 0 [.ref 1, .int v] V A (fun r V' A' => ((r = 1 ∧ (0 < v ∧ v < V 1 4)) ∨ (r = 0 ∧ ¬ (0 < v ∧ v < V 1 4))) ∧ V' = V ∧ A' = A) := by
  refine CQ.of (lv := [.ref 1, .int v]) k_Net_isPlace.1 rfl (by decide) rfl rfl (Nat.le_of_ble_eq_true rfl) ?_
  refine x_iload_n (pc := 0) d_Net_isPlace_0 rfl ?_
  refine x_if_le (pc := 1) (tgt := 16) d_Net_isPlace_1 (by decide) (fun h1 => ?_) (fun h1 => ?_)
  · refine x_iconst (pc := 16) (v := 0) d_Net_isPlace_16 (by decide) ?_
    refine y_zret (pc := 17) d_Net_isPlace_17 rfl rfl ?_
    exact ⟨Or.inr ⟨rfl, by simp only [z_lt, z_le, z_eq, z_t0, z_t1] at *; omega⟩, rfl, rfl⟩
  · refine x_iload_n (pc := 4) d_Net_isPlace_4 rfl ?_
    refine x_aload_n (pc := 5) d_Net_isPlace_5 rfl ?_
    refine x_get (pc := 6) (j := 4) d_Net_isPlace_6 f_Net_24 rfl rfl (Nat.le_of_ble_eq_true rfl) rfl rfl rfl ?_
    refine x_icmp_ge (pc := 9) (tgt := 16) d_Net_isPlace_9 (by decide) (fun h9 => ?_) (fun h9 => ?_)
    · refine x_iconst (pc := 16) (v := 0) d_Net_isPlace_16 (by decide) ?_
      refine y_zret (pc := 17) d_Net_isPlace_17 rfl rfl ?_
      exact ⟨Or.inr ⟨rfl, by simp only [z_lt, z_le, z_eq, z_t0, z_t1] at *; omega⟩, rfl, rfl⟩
    · refine x_iconst (pc := 12) (v := 1) d_Net_isPlace_12 (by decide) ?_
      refine x_goto (pc := 13) (tgt := 17) d_Net_isPlace_13 (by decide) ?_
      refine y_zret (pc := 17) d_Net_isPlace_17 rfl rfl ?_
      exact ⟨Or.inl ⟨rfl, by simp only [z_lt, z_le, z_eq, z_t0, z_t1] at *; omega⟩, rfl, rfl⟩
set_option maxRecDepth 100000 in
set_option maxHeartbeats 4000000 in
theorem c_Net_areTwo (V A : zV) (a b : Int32) : CQ Y_Net_areTwo 1 [.ref 1, .int a, .int b] V A (fun r V' A' => ((r = 1 ∧ ((0 ≤ a ∧ a < V 1 4) ∧ (0 ≤ b ∧ b < V 1 4) ∧ ¬ a = b)) ∨ (r = 0 ∧ ¬ ((0 ≤ a ∧ a < V 1 4) ∧ (0 ≤ b ∧ b < V 1 4) ∧ ¬ a = b))) ∧ V' = V ∧ A' = A) := by
  refine CQ.of (lv := [.ref 1, .int a, .int b]) k_Net_areTwo.1 rfl (by decide) rfl rfl (Nat.le_of_ble_eq_true rfl) ?_
  refine x_aload_n (pc := 0) d_Net_areTwo_0 rfl ?_
  refine x_iload_n (pc := 1) d_Net_areTwo_1 rfl ?_
  refine y_bV (pc := 2) (c_Net_isNode _ _ _) k_Net_isNode d_Net_areTwo_2 m_Net_41 (by decide) rfl rfl rfl rfl p_Net_isNode (K1 := fun q2 => ?_) (K0 := fun q2 => ?_)
  · refine x_if_eq (pc := 5) (tgt := 25) d_Net_areTwo_5 (by decide) (fun h => absurd h (by decide)) (fun _ => ?_)
    refine x_aload_n (pc := 8) d_Net_areTwo_8 rfl ?_
    refine x_iload_n (pc := 9) d_Net_areTwo_9 rfl ?_
    refine y_bV (pc := 10) (c_Net_isNode _ _ _) k_Net_isNode d_Net_areTwo_10 m_Net_41 (by decide) rfl rfl rfl rfl p_Net_isNode (K1 := fun q10 => ?_) (K0 := fun q10 => ?_)
    · refine x_if_eq (pc := 13) (tgt := 25) d_Net_areTwo_13 (by decide) (fun h => absurd h (by decide)) (fun _ => ?_)
      refine x_iload_n (pc := 16) d_Net_areTwo_16 rfl ?_
      refine x_iload_n (pc := 17) d_Net_areTwo_17 rfl ?_
      refine x_icmp_eq (pc := 18) (tgt := 25) d_Net_areTwo_18 (by decide) (fun h18 => ?_) (fun h18 => ?_)
      · refine x_iconst (pc := 25) (v := 0) d_Net_areTwo_25 (by decide) ?_
        refine y_zret (pc := 26) d_Net_areTwo_26 rfl rfl ?_
        exact ⟨Or.inr ⟨rfl, by simp only [z_lt, z_le, z_eq, z_t0, z_t1] at *; omega⟩, rfl, rfl⟩
      · refine x_iconst (pc := 21) (v := 1) d_Net_areTwo_21 (by decide) ?_
        refine x_goto (pc := 22) (tgt := 26) d_Net_areTwo_22 (by decide) ?_
        refine y_zret (pc := 26) d_Net_areTwo_26 rfl rfl ?_
        exact ⟨Or.inl ⟨rfl, by simp only [z_lt, z_le, z_eq, z_t0, z_t1] at *; omega⟩, rfl, rfl⟩
    · refine x_if_eq (pc := 13) (tgt := 25) d_Net_areTwo_13 (by decide) (fun _ => ?_) (fun h => absurd (by decide) h)
      refine x_iconst (pc := 25) (v := 0) d_Net_areTwo_25 (by decide) ?_
      refine y_zret (pc := 26) d_Net_areTwo_26 rfl rfl ?_
      exact ⟨Or.inr ⟨rfl, by simp only [z_lt, z_le, z_eq, z_t0, z_t1] at *; omega⟩, rfl, rfl⟩
  · refine x_if_eq (pc := 5) (tgt := 25) d_Net_areTwo_5 (by decide) (fun _ => ?_) (fun h => absurd (by decide) h)
    refine x_iconst (pc := 25) (v := 0) d_Net_areTwo_25 (by decide) ?_
    refine y_zret (pc := 26) d_Net_areTwo_26 rfl rfl ?_
    exact ⟨Or.inr ⟨rfl, by simp only [z_lt, z_le, z_eq, z_t0, z_t1] at *; omega⟩, rfl, rfl⟩
set_option maxRecDepth 100000 in
set_option maxHeartbeats 4000000 in
theorem c_Net_allPlaces (V A : zV)  : CQ Y_Net_allPlaces 0 [.ref 1] V A (fun r V' A' => r = (1 : Int32) <<< ((V 1 4 - 1) &&& 31) - 1 ∧ V' = V ∧ A' = A) := by
  refine CQ.of (lv := [.ref 1]) k_Net_allPlaces.1 rfl (by decide) rfl rfl (Nat.le_of_ble_eq_true rfl) ?_
  refine x_iconst (pc := 0) (v := 1) d_Net_allPlaces_0 (by decide) ?_
  refine x_aload_n (pc := 1) d_Net_allPlaces_1 rfl ?_
  refine x_get (pc := 2) (j := 4) d_Net_allPlaces_2 f_Net_24 rfl rfl (Nat.le_of_ble_eq_true rfl) rfl rfl rfl ?_
  refine x_iconst (pc := 5) (v := 1) d_Net_allPlaces_5 (by decide) ?_
  refine x_isub (pc := 6) d_Net_allPlaces_6 ?_
  refine x_ishl (pc := 7) d_Net_allPlaces_7 ?_
  refine x_iconst (pc := 8) (v := 1) d_Net_allPlaces_8 (by decide) ?_
  refine x_isub (pc := 9) d_Net_allPlaces_9 ?_
  refine y_iret (pc := 10) d_Net_allPlaces_10 rfl ?_
  exact ⟨rfl, rfl, rfl⟩
set_option maxRecDepth 100000 in
set_option maxHeartbeats 4000000 in
theorem c_Net_changeMost (V A : zV) (v : Int32) : CQ Y_Net_changeMost 0 [.ref 1, .int v] V A (fun r V' A' => r = V 1 5 ∧ V' = zv (zv V 1 5 v) 1 8 (V 1 8 + 1) ∧ A' = A) := by
  refine CQ.of (lv := [.ref 1, .int v, zu]) k_Net_changeMost.1 rfl (by decide) rfl rfl (Nat.le_of_ble_eq_true rfl) ?_
  refine x_aload_n (pc := 0) d_Net_changeMost_0 rfl ?_
  refine x_get (pc := 1) (j := 5) d_Net_changeMost_1 f_Net_28 rfl rfl (Nat.le_of_ble_eq_true rfl) rfl rfl rfl ?_
  refine y_ist2 (pc := 4) d_Net_changeMost_4 ?_
  refine x_aload_n (pc := 5) d_Net_changeMost_5 rfl ?_
  refine x_iload_n (pc := 6) d_Net_changeMost_6 rfl ?_
  refine y_put (pc := 7) (j := 5) d_Net_changeMost_7 f_Net_28 rfl rfl (Nat.le_of_ble_eq_true rfl) rfl (Nat.le_of_ble_eq_true rfl) rfl rfl (fun _ => rfl) ?_
  refine x_aload_n (pc := 10) d_Net_changeMost_10 rfl ?_
  refine x_dup (pc := 11) d_Net_changeMost_11 rfl ?_
  refine x_get (pc := 12) (j := 8) d_Net_changeMost_12 f_Net_37 rfl rfl (Nat.le_of_ble_eq_true rfl) rfl rfl rfl ?_
  refine x_iconst (pc := 15) (v := 1) d_Net_changeMost_15 (by decide) ?_
  refine x_iadd (pc := 16) d_Net_changeMost_16 ?_
  refine y_put (pc := 17) (j := 8) d_Net_changeMost_17 f_Net_37 rfl rfl (Nat.le_of_ble_eq_true rfl) rfl (Nat.le_of_ble_eq_true rfl) rfl rfl (fun _ => rfl) ?_
  refine x_iload_n (pc := 20) d_Net_changeMost_20 rfl ?_
  refine y_iret (pc := 21) d_Net_changeMost_21 rfl ?_
  exact ⟨rfl, rfl, rfl⟩
set_option maxRecDepth 100000 in
set_option maxHeartbeats 4000000 in
theorem c_Net_changeRoom (V A : zV) (v : Int32) : CQ Y_Net_changeRoom 0 [.ref 1, .int v] V A (fun r V' A' => r = V 1 6 ∧ V' = zv (zv V 1 6 v) 1 8 (V 1 8 + 1) ∧ A' = A) := by
  refine CQ.of (lv := [.ref 1, .int v, zu]) k_Net_changeRoom.1 rfl (by decide) rfl rfl (Nat.le_of_ble_eq_true rfl) ?_
  refine x_aload_n (pc := 0) d_Net_changeRoom_0 rfl ?_
  refine x_get (pc := 1) (j := 6) d_Net_changeRoom_1 f_Net_31 rfl rfl (Nat.le_of_ble_eq_true rfl) rfl rfl rfl ?_
  refine y_ist2 (pc := 4) d_Net_changeRoom_4 ?_
  refine x_aload_n (pc := 5) d_Net_changeRoom_5 rfl ?_
  refine x_iload_n (pc := 6) d_Net_changeRoom_6 rfl ?_
  refine y_put (pc := 7) (j := 6) d_Net_changeRoom_7 f_Net_31 rfl rfl (Nat.le_of_ble_eq_true rfl) rfl (Nat.le_of_ble_eq_true rfl) rfl rfl (fun _ => rfl) ?_
  refine x_aload_n (pc := 10) d_Net_changeRoom_10 rfl ?_
  refine x_dup (pc := 11) d_Net_changeRoom_11 rfl ?_
  refine x_get (pc := 12) (j := 8) d_Net_changeRoom_12 f_Net_37 rfl rfl (Nat.le_of_ble_eq_true rfl) rfl rfl rfl ?_
  refine x_iconst (pc := 15) (v := 1) d_Net_changeRoom_15 (by decide) ?_
  refine x_iadd (pc := 16) d_Net_changeRoom_16 ?_
  refine y_put (pc := 17) (j := 8) d_Net_changeRoom_17 f_Net_37 rfl rfl (Nat.le_of_ble_eq_true rfl) rfl (Nat.le_of_ble_eq_true rfl) rfl rfl (fun _ => rfl) ?_
  refine x_iload_n (pc := 20) d_Net_changeRoom_20 rfl ?_
  refine y_iret (pc := 21) d_Net_changeRoom_21 rfl ?_
  exact ⟨rfl, rfl, rfl⟩
set_option maxRecDepth 100000 in
set_option maxHeartbeats 4000000 in
theorem c_Net_changeOpen (V A : zV) (v : Int32) : CQ Y_Net_changeOpen 0 [.ref 1, .int v] V A (fun r V' A' => r = V 1 7 ∧ V' = zv (zv V 1 7 v) 1 8 (V 1 8 + 1) ∧ A' = A) := by
  refine CQ.of (lv := [.ref 1, .int v, zu]) k_Net_changeOpen.1 rfl (by decide) rfl rfl (Nat.le_of_ble_eq_true rfl) ?_
  refine x_aload_n (pc := 0) d_Net_changeOpen_0 rfl ?_
  refine x_get (pc := 1) (j := 7) d_Net_changeOpen_1 f_Net_34 rfl rfl (Nat.le_of_ble_eq_true rfl) rfl rfl rfl ?_
  refine y_ist2 (pc := 4) d_Net_changeOpen_4 ?_
  refine x_aload_n (pc := 5) d_Net_changeOpen_5 rfl ?_
  refine x_iload_n (pc := 6) d_Net_changeOpen_6 rfl ?_
  refine y_put (pc := 7) (j := 7) d_Net_changeOpen_7 f_Net_34 rfl rfl (Nat.le_of_ble_eq_true rfl) rfl (Nat.le_of_ble_eq_true rfl) rfl rfl (fun _ => rfl) ?_
  refine x_aload_n (pc := 10) d_Net_changeOpen_10 rfl ?_
  refine x_dup (pc := 11) d_Net_changeOpen_11 rfl ?_
  refine x_get (pc := 12) (j := 8) d_Net_changeOpen_12 f_Net_37 rfl rfl (Nat.le_of_ble_eq_true rfl) rfl rfl rfl ?_
  refine x_iconst (pc := 15) (v := 1) d_Net_changeOpen_15 (by decide) ?_
  refine x_iadd (pc := 16) d_Net_changeOpen_16 ?_
  refine y_put (pc := 17) (j := 8) d_Net_changeOpen_17 f_Net_37 rfl rfl (Nat.le_of_ble_eq_true rfl) rfl (Nat.le_of_ble_eq_true rfl) rfl rfl (fun _ => rfl) ?_
  refine x_iload_n (pc := 20) d_Net_changeOpen_20 rfl ?_
  refine y_iret (pc := 21) d_Net_changeOpen_21 rfl ?_
  exact ⟨rfl, rfl, rfl⟩
set_option maxRecDepth 100000 in
set_option maxHeartbeats 4000000 in
theorem c_Net_changePrice (V A : zV) (v p : Int32) (hv : vp_in v 9) : CQ Y_Net_changePrice 0 [.ref 1, .int v, .int p] V A (fun r V' A' => r = A 4 v.toNatClampNeg ∧ V' = zv V 1 8 (V 1 8 + 1) ∧ A' = za A 4 (upd (A 4) v.toNatClampNeg p)) := by
  refine CQ.of (lv := [.ref 1, .int v, .int p, zu]) k_Net_changePrice.1 rfl (by decide) rfl rfl (Nat.le_of_ble_eq_true rfl) ?_
  refine x_aload_n (pc := 0) d_Net_changePrice_0 rfl ?_
  refine x_get (pc := 1) (j := 2) d_Net_changePrice_1 f_Net_18 rfl rfl (Nat.le_of_ble_eq_true rfl) rfl rfl rfl ?_
  refine x_iload_n (pc := 4) d_Net_changePrice_4 rfl ?_
  refine x_iald (pc := 5) d_Net_changePrice_5 rfl hv ?_
  refine y_ist3 (pc := 6) d_Net_changePrice_6 ?_
  refine x_aload_n (pc := 7) d_Net_changePrice_7 rfl ?_
  refine x_get (pc := 8) (j := 2) d_Net_changePrice_8 f_Net_18 rfl rfl (Nat.le_of_ble_eq_true rfl) rfl rfl rfl ?_
  refine x_iload_n (pc := 11) d_Net_changePrice_11 rfl ?_
  refine x_iload_n (pc := 12) d_Net_changePrice_12 rfl ?_
  refine y_iast (pc := 13) d_Net_changePrice_13 rfl (fun _ => rfl) hv ?_
  refine x_aload_n (pc := 14) d_Net_changePrice_14 rfl ?_
  refine x_dup (pc := 15) d_Net_changePrice_15 rfl ?_
  refine x_get (pc := 16) (j := 8) d_Net_changePrice_16 f_Net_37 rfl rfl (Nat.le_of_ble_eq_true rfl) rfl rfl rfl ?_
  refine x_iconst (pc := 19) (v := 1) d_Net_changePrice_19 (by decide) ?_
  refine x_iadd (pc := 20) d_Net_changePrice_20 ?_
  refine y_put (pc := 21) (j := 8) d_Net_changePrice_21 f_Net_37 rfl rfl (Nat.le_of_ble_eq_true rfl) rfl (Nat.le_of_ble_eq_true rfl) rfl rfl (fun _ => rfl) ?_
  refine x_iload_n (pc := 24) d_Net_changePrice_24 rfl ?_
  refine y_iret (pc := 25) d_Net_changePrice_25 rfl ?_
  exact ⟨rfl, rfl, rfl⟩
set_option maxRecDepth 100000 in
set_option maxHeartbeats 4000000 in
theorem c_Net_changeCost (V A : zV) (a b c : Int32) (hv : vp_in (a * 9 + b) 81) : CQ Y_Net_changeCost 0 [.ref 1, .int a, .int b, .int c] V A (fun r V' A' => r = A 3 (a * 9 + b).toNatClampNeg ∧ V' = (if c = A 3 (a * 9 + b).toNatClampNeg then V else zv V 1 8 (V 1 8 + 1)) ∧ A' = za A 3 (upd (A 3) (a * 9 + b).toNatClampNeg c)) := by
  refine CQ.of (lv := [.ref 1, .int a, .int b, .int c, zu]) k_Net_changeCost.1 rfl (by decide) rfl rfl (Nat.le_of_ble_eq_true rfl) ?_
  refine x_aload_n (pc := 0) d_Net_changeCost_0 rfl ?_
  refine x_get (pc := 1) (j := 1) d_Net_changeCost_1 f_Net_15 rfl rfl (Nat.le_of_ble_eq_true rfl) rfl rfl rfl ?_
  refine x_iload_n (pc := 4) d_Net_changeCost_4 rfl ?_
  refine x_bipush (pc := 5) (v := 9) d_Net_changeCost_5 (by decide) ?_
  refine x_imul (pc := 7) d_Net_changeCost_7 ?_
  refine x_iload_n (pc := 8) d_Net_changeCost_8 rfl ?_
  refine x_iadd (pc := 9) d_Net_changeCost_9 ?_
  refine x_iald (pc := 10) d_Net_changeCost_10 rfl hv ?_
  refine y_ist4 (pc := 11) d_Net_changeCost_11 ?_
  refine x_aload_n (pc := 13) d_Net_changeCost_13 rfl ?_
  refine x_get (pc := 14) (j := 1) d_Net_changeCost_14 f_Net_15 rfl rfl (Nat.le_of_ble_eq_true rfl) rfl rfl rfl ?_
  refine x_iload_n (pc := 17) d_Net_changeCost_17 rfl ?_
  refine x_bipush (pc := 18) (v := 9) d_Net_changeCost_18 (by decide) ?_
  refine x_imul (pc := 20) d_Net_changeCost_20 ?_
  refine x_iload_n (pc := 21) d_Net_changeCost_21 rfl ?_
  refine x_iadd (pc := 22) d_Net_changeCost_22 ?_
  refine x_iload_n (pc := 23) d_Net_changeCost_23 rfl ?_
  refine y_iast (pc := 24) d_Net_changeCost_24 rfl (fun _ => rfl) hv ?_
  refine x_iload_n (pc := 25) d_Net_changeCost_25 rfl ?_
  refine x_iload (pc := 26) d_Net_changeCost_26 rfl ?_
  refine x_icmp_eq (pc := 28) (tgt := 41) d_Net_changeCost_28 (by decide) (fun h28 => ?_) (fun h28 => ?_)
  · refine x_iload (pc := 41) d_Net_changeCost_41 rfl ?_
    refine y_iret (pc := 43) d_Net_changeCost_43 rfl ?_
    exact ⟨rfl, by simp_all, rfl⟩
  · refine x_aload_n (pc := 31) d_Net_changeCost_31 rfl ?_
    refine x_dup (pc := 32) d_Net_changeCost_32 rfl ?_
    refine x_get (pc := 33) (j := 8) d_Net_changeCost_33 f_Net_37 rfl rfl (Nat.le_of_ble_eq_true rfl) rfl rfl rfl ?_
    refine x_iconst (pc := 36) (v := 1) d_Net_changeCost_36 (by decide) ?_
    refine x_iadd (pc := 37) d_Net_changeCost_37 ?_
    refine y_put (pc := 38) (j := 8) d_Net_changeCost_38 f_Net_37 rfl rfl (Nat.le_of_ble_eq_true rfl) rfl (Nat.le_of_ble_eq_true rfl) rfl rfl (fun _ => rfl) ?_
    refine x_iload (pc := 41) d_Net_changeCost_41 rfl ?_
    refine y_iret (pc := 43) d_Net_changeCost_43 rfl ?_
    exact ⟨rfl, by simp_all, rfl⟩
set_option maxRecDepth 100000 in
set_option maxHeartbeats 4000000 in
theorem c_Net_addNode (V A : zV) (x : Int32) (hv : vp_in (V 1 4) 9) : CQ Y_Net_addNode 0 [.ref 1, .int x] V A (fun r V' A' => r = V 1 4 ∧ V' = zv (zv V 1 4 (V 1 4 + 1)) 1 8 (V 1 8 + 1) ∧ A' = za A 2 (upd (A 2) (V 1 4).toNatClampNeg x)) := by
  refine CQ.of (lv := [.ref 1, .int x, zu]) k_Net_addNode.1 rfl (by decide) rfl rfl (Nat.le_of_ble_eq_true rfl) ?_
  refine x_aload_n (pc := 0) d_Net_addNode_0 rfl ?_
  refine x_get (pc := 1) (j := 4) d_Net_addNode_1 f_Net_24 rfl rfl (Nat.le_of_ble_eq_true rfl) rfl rfl rfl ?_
  refine y_ist2 (pc := 4) d_Net_addNode_4 ?_
  refine x_aload_n (pc := 5) d_Net_addNode_5 rfl ?_
  refine x_get (pc := 6) (j := 0) d_Net_addNode_6 f_Net_9 rfl rfl (Nat.le_of_ble_eq_true rfl) rfl rfl rfl ?_
  refine x_iload_n (pc := 9) d_Net_addNode_9 rfl ?_
  refine x_iload_n (pc := 10) d_Net_addNode_10 rfl ?_
  refine y_iast (pc := 11) d_Net_addNode_11 rfl (fun _ => rfl) hv ?_
  refine x_aload_n (pc := 12) d_Net_addNode_12 rfl ?_
  refine x_dup (pc := 13) d_Net_addNode_13 rfl ?_
  refine x_get (pc := 14) (j := 4) d_Net_addNode_14 f_Net_24 rfl rfl (Nat.le_of_ble_eq_true rfl) rfl rfl rfl ?_
  refine x_iconst (pc := 17) (v := 1) d_Net_addNode_17 (by decide) ?_
  refine x_iadd (pc := 18) d_Net_addNode_18 ?_
  refine y_put (pc := 19) (j := 4) d_Net_addNode_19 f_Net_24 rfl rfl (Nat.le_of_ble_eq_true rfl) rfl (Nat.le_of_ble_eq_true rfl) rfl rfl (fun _ => rfl) ?_
  refine x_aload_n (pc := 22) d_Net_addNode_22 rfl ?_
  refine x_dup (pc := 23) d_Net_addNode_23 rfl ?_
  refine x_get (pc := 24) (j := 8) d_Net_addNode_24 f_Net_37 rfl rfl (Nat.le_of_ble_eq_true rfl) rfl rfl rfl ?_
  refine x_iconst (pc := 27) (v := 1) d_Net_addNode_27 (by decide) ?_
  refine x_iadd (pc := 28) d_Net_addNode_28 ?_
  refine y_put (pc := 29) (j := 8) d_Net_addNode_29 f_Net_37 rfl rfl (Nat.le_of_ble_eq_true rfl) rfl (Nat.le_of_ble_eq_true rfl) rfl rfl (fun _ => rfl) ?_
  refine x_iload_n (pc := 32) d_Net_addNode_32 rfl ?_
  refine y_iret (pc := 33) d_Net_addNode_33 rfl ?_
  exact ⟨rfl, rfl, rfl⟩
set_option maxRecDepth 100000 in
set_option maxHeartbeats 4000000 in
theorem c_Net_changeEarlier (V A : zV) (a b on : Int32) (hv : vp_in b 9) : CQ Y_Net_changeEarlier 1 [.ref 1, .int a, .int b, .int on] V A (fun r V' A' => r = (if A 5 b.toNatClampNeg &&& ((1 : Int32) <<< ((a - 1) &&& 31)) = 0 then 0 else 1) ∧ V' = zv V 1 8 (V 1 8 + 1) ∧ A' = za A 5 (upd (A 5) b.toNatClampNeg (if on = 0 then A 5 b.toNatClampNeg &&& (((1 : Int32) <<< ((a - 1) &&& 31)) ^^^ (-1)) else A 5 b.toNatClampNeg ||| ((1 : Int32) <<< ((a - 1) &&& 31))))) := by
  refine CQ.of (lv := [.ref 1, .int a, .int b, .int on, zu]) k_Net_changeEarlier.1 rfl (by decide) rfl rfl (Nat.le_of_ble_eq_true rfl) ?_
  refine x_aload_n (pc := 0) d_Net_changeEarlier_0 rfl ?_
  refine x_get (pc := 1) (j := 3) d_Net_changeEarlier_1 f_Net_21 rfl rfl (Nat.le_of_ble_eq_true rfl) rfl rfl rfl ?_
  refine x_iload_n (pc := 4) d_Net_changeEarlier_4 rfl ?_
  refine x_iald (pc := 5) d_Net_changeEarlier_5 rfl hv ?_
  refine x_iload_n (pc := 6) d_Net_changeEarlier_6 rfl ?_
  refine y_fN (pc := 7) (c_CW_bit _ _ _) k_CW_bit d_Net_changeEarlier_7 n_Net_45 (by decide) rfl p_CW_bit (K := ?_)
  refine x_iand (pc := 10) d_Net_changeEarlier_10 ?_
  refine x_if_ne (pc := 11) (tgt := 18) d_Net_changeEarlier_11 (by decide) (fun h11 => ?_) (fun h11 => ?_)
  · refine x_iconst (pc := 18) (v := 1) d_Net_changeEarlier_18 (by decide) ?_
    refine y_ist4 (pc := 19) d_Net_changeEarlier_19 ?_
    refine x_aload_n (pc := 21) d_Net_changeEarlier_21 rfl ?_
    refine x_get (pc := 22) (j := 3) d_Net_changeEarlier_22 f_Net_21 rfl rfl (Nat.le_of_ble_eq_true rfl) rfl rfl rfl ?_
    refine x_iload_n (pc := 25) d_Net_changeEarlier_25 rfl ?_
    refine x_iload_n (pc := 26) d_Net_changeEarlier_26 rfl ?_
    refine x_if_eq (pc := 27) (tgt := 44) d_Net_changeEarlier_27 (by decide) (fun h27 => ?_) (fun h27 => ?_)
    · refine x_aload_n (pc := 44) d_Net_changeEarlier_44 rfl ?_
      refine x_get (pc := 45) (j := 3) d_Net_changeEarlier_45 f_Net_21 rfl rfl (Nat.le_of_ble_eq_true rfl) rfl rfl rfl ?_
      refine x_iload_n (pc := 48) d_Net_changeEarlier_48 rfl ?_
      refine x_iald (pc := 49) d_Net_changeEarlier_49 rfl hv ?_
      refine x_iload_n (pc := 50) d_Net_changeEarlier_50 rfl ?_
      refine y_fN (pc := 51) (c_CW_bit _ _ _) k_CW_bit d_Net_changeEarlier_51 n_Net_45 (by decide) rfl p_CW_bit (K := ?_)
      refine x_iconst (pc := 54) (v := (-1)) d_Net_changeEarlier_54 (by decide) ?_
      refine x_ixor (pc := 55) d_Net_changeEarlier_55 ?_
      refine x_iand (pc := 56) d_Net_changeEarlier_56 ?_
      refine y_iast (pc := 57) d_Net_changeEarlier_57 rfl (fun _ => rfl) hv ?_
      refine x_aload_n (pc := 58) d_Net_changeEarlier_58 rfl ?_
      refine x_dup (pc := 59) d_Net_changeEarlier_59 rfl ?_
      refine x_get (pc := 60) (j := 8) d_Net_changeEarlier_60 f_Net_37 rfl rfl (Nat.le_of_ble_eq_true rfl) rfl rfl rfl ?_
      refine x_iconst (pc := 63) (v := 1) d_Net_changeEarlier_63 (by decide) ?_
      refine x_iadd (pc := 64) d_Net_changeEarlier_64 ?_
      refine y_put (pc := 65) (j := 8) d_Net_changeEarlier_65 f_Net_37 rfl rfl (Nat.le_of_ble_eq_true rfl) rfl (Nat.le_of_ble_eq_true rfl) rfl rfl (fun _ => rfl) ?_
      refine x_iload (pc := 68) d_Net_changeEarlier_68 rfl ?_
      refine y_iret (pc := 70) d_Net_changeEarlier_70 rfl ?_
      exact ⟨by simp_all, rfl, by simp_all⟩
    · refine x_aload_n (pc := 30) d_Net_changeEarlier_30 rfl ?_
      refine x_get (pc := 31) (j := 3) d_Net_changeEarlier_31 f_Net_21 rfl rfl (Nat.le_of_ble_eq_true rfl) rfl rfl rfl ?_
      refine x_iload_n (pc := 34) d_Net_changeEarlier_34 rfl ?_
      refine x_iald (pc := 35) d_Net_changeEarlier_35 rfl hv ?_
      refine x_iload_n (pc := 36) d_Net_changeEarlier_36 rfl ?_
      refine y_fN (pc := 37) (c_CW_bit _ _ _) k_CW_bit d_Net_changeEarlier_37 n_Net_45 (by decide) rfl p_CW_bit (K := ?_)
      refine x_ior (pc := 40) d_Net_changeEarlier_40 ?_
      refine x_goto (pc := 41) (tgt := 57) d_Net_changeEarlier_41 (by decide) ?_
      refine y_iast (pc := 57) d_Net_changeEarlier_57 rfl (fun _ => rfl) hv ?_
      refine x_aload_n (pc := 58) d_Net_changeEarlier_58 rfl ?_
      refine x_dup (pc := 59) d_Net_changeEarlier_59 rfl ?_
      refine x_get (pc := 60) (j := 8) d_Net_changeEarlier_60 f_Net_37 rfl rfl (Nat.le_of_ble_eq_true rfl) rfl rfl rfl ?_
      refine x_iconst (pc := 63) (v := 1) d_Net_changeEarlier_63 (by decide) ?_
      refine x_iadd (pc := 64) d_Net_changeEarlier_64 ?_
      refine y_put (pc := 65) (j := 8) d_Net_changeEarlier_65 f_Net_37 rfl rfl (Nat.le_of_ble_eq_true rfl) rfl (Nat.le_of_ble_eq_true rfl) rfl rfl (fun _ => rfl) ?_
      refine x_iload (pc := 68) d_Net_changeEarlier_68 rfl ?_
      refine y_iret (pc := 70) d_Net_changeEarlier_70 rfl ?_
      exact ⟨by simp_all, rfl, by simp_all⟩
  · refine x_iconst (pc := 14) (v := 0) d_Net_changeEarlier_14 (by decide) ?_
    refine x_goto (pc := 15) (tgt := 19) d_Net_changeEarlier_15 (by decide) ?_
    refine y_ist4 (pc := 19) d_Net_changeEarlier_19 ?_
    refine x_aload_n (pc := 21) d_Net_changeEarlier_21 rfl ?_
    refine x_get (pc := 22) (j := 3) d_Net_changeEarlier_22 f_Net_21 rfl rfl (Nat.le_of_ble_eq_true rfl) rfl rfl rfl ?_
    refine x_iload_n (pc := 25) d_Net_changeEarlier_25 rfl ?_
    refine x_iload_n (pc := 26) d_Net_changeEarlier_26 rfl ?_
    refine x_if_eq (pc := 27) (tgt := 44) d_Net_changeEarlier_27 (by decide) (fun h27 => ?_) (fun h27 => ?_)
    · refine x_aload_n (pc := 44) d_Net_changeEarlier_44 rfl ?_
      refine x_get (pc := 45) (j := 3) d_Net_changeEarlier_45 f_Net_21 rfl rfl (Nat.le_of_ble_eq_true rfl) rfl rfl rfl ?_
      refine x_iload_n (pc := 48) d_Net_changeEarlier_48 rfl ?_
      refine x_iald (pc := 49) d_Net_changeEarlier_49 rfl hv ?_
      refine x_iload_n (pc := 50) d_Net_changeEarlier_50 rfl ?_
      refine y_fN (pc := 51) (c_CW_bit _ _ _) k_CW_bit d_Net_changeEarlier_51 n_Net_45 (by decide) rfl p_CW_bit (K := ?_)
      refine x_iconst (pc := 54) (v := (-1)) d_Net_changeEarlier_54 (by decide) ?_
      refine x_ixor (pc := 55) d_Net_changeEarlier_55 ?_
      refine x_iand (pc := 56) d_Net_changeEarlier_56 ?_
      refine y_iast (pc := 57) d_Net_changeEarlier_57 rfl (fun _ => rfl) hv ?_
      refine x_aload_n (pc := 58) d_Net_changeEarlier_58 rfl ?_
      refine x_dup (pc := 59) d_Net_changeEarlier_59 rfl ?_
      refine x_get (pc := 60) (j := 8) d_Net_changeEarlier_60 f_Net_37 rfl rfl (Nat.le_of_ble_eq_true rfl) rfl rfl rfl ?_
      refine x_iconst (pc := 63) (v := 1) d_Net_changeEarlier_63 (by decide) ?_
      refine x_iadd (pc := 64) d_Net_changeEarlier_64 ?_
      refine y_put (pc := 65) (j := 8) d_Net_changeEarlier_65 f_Net_37 rfl rfl (Nat.le_of_ble_eq_true rfl) rfl (Nat.le_of_ble_eq_true rfl) rfl rfl (fun _ => rfl) ?_
      refine x_iload (pc := 68) d_Net_changeEarlier_68 rfl ?_
      refine y_iret (pc := 70) d_Net_changeEarlier_70 rfl ?_
      exact ⟨by simp_all, rfl, by simp_all⟩
    · refine x_aload_n (pc := 30) d_Net_changeEarlier_30 rfl ?_
      refine x_get (pc := 31) (j := 3) d_Net_changeEarlier_31 f_Net_21 rfl rfl (Nat.le_of_ble_eq_true rfl) rfl rfl rfl ?_
      refine x_iload_n (pc := 34) d_Net_changeEarlier_34 rfl ?_
      refine x_iald (pc := 35) d_Net_changeEarlier_35 rfl hv ?_
      refine x_iload_n (pc := 36) d_Net_changeEarlier_36 rfl ?_
      refine y_fN (pc := 37) (c_CW_bit _ _ _) k_CW_bit d_Net_changeEarlier_37 n_Net_45 (by decide) rfl p_CW_bit (K := ?_)
      refine x_ior (pc := 40) d_Net_changeEarlier_40 ?_
      refine x_goto (pc := 41) (tgt := 57) d_Net_changeEarlier_41 (by decide) ?_
      refine y_iast (pc := 57) d_Net_changeEarlier_57 rfl (fun _ => rfl) hv ?_
      refine x_aload_n (pc := 58) d_Net_changeEarlier_58 rfl ?_
      refine x_dup (pc := 59) d_Net_changeEarlier_59 rfl ?_
      refine x_get (pc := 60) (j := 8) d_Net_changeEarlier_60 f_Net_37 rfl rfl (Nat.le_of_ble_eq_true rfl) rfl rfl rfl ?_
      refine x_iconst (pc := 63) (v := 1) d_Net_changeEarlier_63 (by decide) ?_
      refine x_iadd (pc := 64) d_Net_changeEarlier_64 ?_
      refine y_put (pc := 65) (j := 8) d_Net_changeEarlier_65 f_Net_37 rfl rfl (Nat.le_of_ble_eq_true rfl) rfl (Nat.le_of_ble_eq_true rfl) rfl rfl (fun _ => rfl) ?_
      refine x_iload (pc := 68) d_Net_changeEarlier_68 rfl ?_
      refine y_iret (pc := 70) d_Net_changeEarlier_70 rfl ?_
      exact ⟨by simp_all, rfl, by simp_all⟩
set_option maxRecDepth 100000 in
set_option maxHeartbeats 4000000 in
theorem c_Net_costBack (V A : zV) (x : Int32) (hv : vp_in (x * 9) 81) : CQ Y_Net_costBack 0 [.ref 1, .int x] V A (fun r V' A' => r = (if V 1 7 = 1 then 0 else A 3 (x * 9).toNatClampNeg) ∧ V' = V ∧ A' = A) := by
  refine CQ.of (lv := [.ref 1, .int x]) k_Net_costBack.1 rfl (by decide) rfl rfl (Nat.le_of_ble_eq_true rfl) ?_
  refine x_aload_n (pc := 0) d_Net_costBack_0 rfl ?_
  refine x_get (pc := 1) (j := 7) d_Net_costBack_1 f_Net_34 rfl rfl (Nat.le_of_ble_eq_true rfl) rfl rfl rfl ?_
  refine x_iconst (pc := 4) (v := 1) d_Net_costBack_4 (by decide) ?_
  refine x_icmp_ne (pc := 5) (tgt := 12) d_Net_costBack_5 (by decide) (fun h5 => ?_) (fun h5 => ?_)
  · refine x_aload_n (pc := 12) d_Net_costBack_12 rfl ?_
    refine x_get (pc := 13) (j := 1) d_Net_costBack_13 f_Net_15 rfl rfl (Nat.le_of_ble_eq_true rfl) rfl rfl rfl ?_
    refine x_iload_n (pc := 16) d_Net_costBack_16 rfl ?_
    refine x_bipush (pc := 17) (v := 9) d_Net_costBack_17 (by decide) ?_
    refine x_imul (pc := 19) d_Net_costBack_19 ?_
    refine x_iald (pc := 20) d_Net_costBack_20 rfl hv ?_
    refine y_iret (pc := 21) d_Net_costBack_21 rfl ?_
    exact ⟨by simp_all, rfl, rfl⟩
  · refine x_iconst (pc := 8) (v := 0) d_Net_costBack_8 (by decide) ?_
    refine x_goto (pc := 9) (tgt := 21) d_Net_costBack_9 (by decide) ?_
    refine y_iret (pc := 21) d_Net_costBack_21 rfl ?_
    exact ⟨by simp_all, rfl, rfl⟩
end
section
theorem z_down {S : Nat → Prop} {N : Nat} (hend : S N) (hstep : ∀ k, k < N → S (k + 1) → S k) : ∀ k, k ≤ N → S k := by
  intro k hk
  obtain ⟨j, rfl⟩ : ∃ j, N = k + j := ⟨N - k, by omega⟩
  induction j generalizing k with
  | zero => exact hend
  | succ j ih => exact hstep k (by omega) (ih (k + 1) (by rw [show k + 1 + j = k + (j + 1) by omega]; exact hend) (by rw [show k + 1 + j = k + (j + 1) by omega]; exact hstep) (by omega))
/-- a loop's value: one step for each number below k -/
def zf {α : Type} (f : Nat → α → α) (a : α) : Nat → α
  | 0 => a
  | k + 1 => f k (zf f a k)
theorem zf_s {α : Type} (f : Nat → α → α) (a : α) (k : Nat) : zf f a (k + 1) = f k (zf f a k) := rfl
theorem zf_congr {α : Type} {f g : Nat → α → α} {a : α} {n : Nat} (h : ∀ k x, k < n → f k x = g k x) : zf f a n = zf g a n := by
  induction n with
  | zero => rfl
  | succ n ih => rw [zf_s, zf_s, ih (fun k x hk => h k x (by omega)), h n _ (by omega)]
set_option maxRecDepth 100000 in
set_option maxHeartbeats 4000000 in
theorem c_Net_arcs (V A : zV)  : CQ Y_Net_arcs 0 [.ref 1] V A (fun r V' A' => r = zf (fun i a => if A 3 i = 1000000000 then a else a + 1) 0 81 ∧ V' = V ∧ A' = A) := by
  have hS : ∀ k, k ≤ 81 → X Y_Net_arcs (zrm 0) (0, fun _ => 0) (zFq 0 (fun r V' A' => r = zf (fun i a => if A 3 i = 1000000000 then a else a + 1) 0 81 ∧ V' = V ∧ A' = A)) 4 [.ref 1, .int (zf (fun i a => if A 3 i = 1000000000 then a else a + 1) 0 k), .int (nI k)] [] (cells V A) 0 0 := by
    refine z_down ?_ (fun k hk hs => ?_)
    · refine x_iload_n (pc := 4) d_Net_arcs_4 rfl ?_
      refine x_aload_n (pc := 5) d_Net_arcs_5 rfl ?_
      refine x_get (pc := 6) (j := 1) d_Net_arcs_6 f_Net_15 rfl rfl (Nat.le_of_ble_eq_true rfl) rfl rfl rfl ?_
      refine x_alen (pc := 9) d_Net_arcs_9 rfl rfl ?_
      refine x_icmp_ge (pc := 10) (tgt := 33) d_Net_arcs_10 (by decide) (fun h10 => ?_) (fun h => absurd (nI_le (Nat.le_refl _) (by decide)) h)
      refine x_iload_n (pc := 33) d_Net_arcs_33 rfl ?_
      refine y_iret (pc := 34) d_Net_arcs_34 rfl ?_
      exact ⟨rfl, rfl, rfl⟩
    · rw [zf_s _ _ k, nI_succ k] at hs
      refine x_iload_n (pc := 4) d_Net_arcs_4 rfl ?_
      refine x_aload_n (pc := 5) d_Net_arcs_5 rfl ?_
      refine x_get (pc := 6) (j := 1) d_Net_arcs_6 f_Net_15 rfl rfl (Nat.le_of_ble_eq_true rfl) rfl rfl rfl ?_
      refine x_alen (pc := 9) d_Net_arcs_9 rfl rfl ?_
      refine x_icmp_ge (pc := 10) (tgt := 33) d_Net_arcs_10 (by decide) (fun h => absurd h (nI_ge hk (by decide))) (fun h10 => ?_)
      refine x_aload_n (pc := 13) d_Net_arcs_13 rfl ?_
      refine x_get (pc := 14) (j := 1) d_Net_arcs_14 f_Net_15 rfl rfl (Nat.le_of_ble_eq_true rfl) rfl rfl rfl ?_
      refine x_iload_n (pc := 17) d_Net_arcs_17 rfl ?_
      refine x_iald (pc := 18) d_Net_arcs_18 rfl (vp_in_nI hk (by decide)) ?_
      refine x_ldc (pc := 19) (v := 1000000000) d_Net_arcs_19 i_Net_40 ?_
      refine x_icmp_eq (pc := 21) (tgt := 27) d_Net_arcs_21 (by decide) (fun h21 => ?_) (fun h21 => ?_)
      · refine y_inc2 (pc := 27) (v := 1) d_Net_arcs_27 (by decide) ?_
        refine x_goto (pc := 30) (tgt := 4) d_Net_arcs_30 (by decide) ?_
        (rw [nI_clamp (by omega)] at h21; first | (rw [if_pos h21] at hs; exact hs) | (rw [if_neg h21] at hs; exact hs))
      · refine y_inc1 (pc := 24) (v := 1) d_Net_arcs_24 (by decide) ?_
        refine y_inc2 (pc := 27) (v := 1) d_Net_arcs_27 (by decide) ?_
        refine x_goto (pc := 30) (tgt := 4) d_Net_arcs_30 (by decide) ?_
        (rw [nI_clamp (by omega)] at h21; first | (rw [if_pos h21] at hs; exact hs) | (rw [if_neg h21] at hs; exact hs))
  have hS := hS 0 (by omega)
  refine CQ.of (lv := [.ref 1, zu, zu]) k_Net_arcs.1 rfl (by decide) rfl rfl (Nat.le_of_ble_eq_true rfl) ?_
  refine x_iconst (pc := 0) (v := 0) d_Net_arcs_0 (by decide) ?_
  refine y_ist1 (pc := 1) d_Net_arcs_1 ?_
  refine x_iconst (pc := 2) (v := 0) d_Net_arcs_2 (by decide) ?_
  refine y_ist2 (pc := 3) d_Net_arcs_3 ?_
  exact hS
def zu1 (x : Int32) (k : Int32) : Int32 := (x.toUInt32 >>> (k.toUInt32 &&& Int32.toUInt32 31)).toInt32
def zbc (x : Int32) : Int32 :=
  let a := x - (zu1 x 1 &&& 1431655765)
  let b := (a &&& 858993459) + (zu1 a 2 &&& 858993459)
  let c := (b + zu1 b 4) &&& 252645135
  let e := c + zu1 c 8
  let f := e + zu1 e 16
  f &&& 63
set_option maxRecDepth 100000 in
set_option maxHeartbeats 4000000 in
theorem c_JI_bitCount (V A : zV) (x : Int32) : CQ Y_JI_bitCount 0 [.int x] V A (fun r V' A' => r = zbc x ∧ V' = V ∧ A' = A) := by
  refine CQ.of (lv := [.int x]) k_JI_bitCount.1 rfl (by decide) rfl rfl (Nat.le_of_ble_eq_true rfl) ?_
  refine x_iload_n (pc := 0) d_JI_bitCount_0 rfl ?_
  refine x_iload_n (pc := 1) d_JI_bitCount_1 rfl ?_
  refine x_iconst (pc := 2) (v := 1) d_JI_bitCount_2 (by decide) ?_
  refine x_iushr (pc := 3) d_JI_bitCount_3 rfl ?_
  refine x_ldcw (pc := 4) (v := 1431655765) d_JI_bitCount_4 i_JI_265 ?_
  refine x_iand (pc := 7) d_JI_bitCount_7 ?_
  refine x_isub (pc := 8) d_JI_bitCount_8 ?_
  refine y_ist0 (pc := 9) d_JI_bitCount_9 ?_
  refine x_iload_n (pc := 10) d_JI_bitCount_10 rfl ?_
  refine x_ldcw (pc := 11) (v := 858993459) d_JI_bitCount_11 i_JI_266 ?_
  refine x_iand (pc := 14) d_JI_bitCount_14 ?_
  refine x_iload_n (pc := 15) d_JI_bitCount_15 rfl ?_
  refine x_iconst (pc := 16) (v := 2) d_JI_bitCount_16 (by decide) ?_
  refine x_iushr (pc := 17) d_JI_bitCount_17 rfl ?_
  refine x_ldcw (pc := 18) (v := 858993459) d_JI_bitCount_18 i_JI_266 ?_
  refine x_iand (pc := 21) d_JI_bitCount_21 ?_
  refine x_iadd (pc := 22) d_JI_bitCount_22 ?_
  refine y_ist0 (pc := 23) d_JI_bitCount_23 ?_
  refine x_iload_n (pc := 24) d_JI_bitCount_24 rfl ?_
  refine x_iload_n (pc := 25) d_JI_bitCount_25 rfl ?_
  refine x_iconst (pc := 26) (v := 4) d_JI_bitCount_26 (by decide) ?_
  refine x_iushr (pc := 27) d_JI_bitCount_27 rfl ?_
  refine x_iadd (pc := 28) d_JI_bitCount_28 ?_
  refine x_ldcw (pc := 29) (v := 252645135) d_JI_bitCount_29 i_JI_267 ?_
  refine x_iand (pc := 32) d_JI_bitCount_32 ?_
  refine y_ist0 (pc := 33) d_JI_bitCount_33 ?_
  refine x_iload_n (pc := 34) d_JI_bitCount_34 rfl ?_
  refine x_iload_n (pc := 35) d_JI_bitCount_35 rfl ?_
  refine x_bipush (pc := 36) (v := 8) d_JI_bitCount_36 (by decide) ?_
  refine x_iushr (pc := 38) d_JI_bitCount_38 rfl ?_
  refine x_iadd (pc := 39) d_JI_bitCount_39 ?_
  refine y_ist0 (pc := 40) d_JI_bitCount_40 ?_
  refine x_iload_n (pc := 41) d_JI_bitCount_41 rfl ?_
  refine x_iload_n (pc := 42) d_JI_bitCount_42 rfl ?_
  refine x_bipush (pc := 43) (v := 16) d_JI_bitCount_43 (by decide) ?_
  refine x_iushr (pc := 45) d_JI_bitCount_45 rfl ?_
  refine x_iadd (pc := 46) d_JI_bitCount_46 ?_
  refine y_ist0 (pc := 47) d_JI_bitCount_47 ?_
  refine x_iload_n (pc := 48) d_JI_bitCount_48 rfl ?_
  refine x_bipush (pc := 49) (v := 63) d_JI_bitCount_49 (by decide) ?_
  refine x_iand (pc := 51) d_JI_bitCount_51 ?_
  refine y_iret (pc := 52) d_JI_bitCount_52 rfl ?_
  exact ⟨rfl, rfl, rfl⟩
set_option maxRecDepth 100000 in
set_option maxHeartbeats 4000000 in
theorem c_Net_pairsAhead (V A : zV)  (n : Nat) (hn : V 1 4 = nI n) (h1 : 1 ≤ n) (h9 : n ≤ 9) : CQ Y_Net_pairsAhead 1 [.ref 1] V A (fun r V' A' => r = zf (fun i a => a + zbc (A 5 (i + 1))) 0 (n - 1) ∧ V' = V ∧ A' = A) := by
  have hS : ∀ k, k ≤ (n - 1) → X Y_Net_pairsAhead (zrm 1) (0, fun _ => 0) (zFq 1 (fun r V' A' => r = zf (fun i a => a + zbc (A 5 (i + 1))) 0 (n - 1) ∧ V' = V ∧ A' = A)) 4 [.ref 1, .int (zf (fun i a => a + zbc (A 5 (i + 1))) 0 k), .int (nI (k + 1))] [] (cells V A) 0 0 := by
    refine z_down ?_ (fun k hk hs => ?_)
    · rw [show n - 1 + 1 = n by omega]
      refine x_iload_n (pc := 4) d_Net_pairsAhead_4 rfl ?_
      refine x_aload_n (pc := 5) d_Net_pairsAhead_5 rfl ?_
      refine x_get (pc := 6) (j := 4) d_Net_pairsAhead_6 f_Net_24 rfl rfl (Nat.le_of_ble_eq_true rfl) rfl rfl rfl ?_
      refine x_icmp_ge (pc := 9) (tgt := 30) d_Net_pairsAhead_9 (by decide) (fun h9 => ?_) (fun h => by rw [hn] at h; exact absurd (nI_le (by omega) (by omega)) h)
      refine x_iload_n (pc := 30) d_Net_pairsAhead_30 rfl ?_
      refine y_iret (pc := 31) d_Net_pairsAhead_31 rfl ?_
      exact ⟨rfl, rfl, rfl⟩
    · rw [zf_s _ _ k, nI_succ (k + 1)] at hs
      refine x_iload_n (pc := 4) d_Net_pairsAhead_4 rfl ?_
      refine x_aload_n (pc := 5) d_Net_pairsAhead_5 rfl ?_
      refine x_get (pc := 6) (j := 4) d_Net_pairsAhead_6 f_Net_24 rfl rfl (Nat.le_of_ble_eq_true rfl) rfl rfl rfl ?_
      refine x_icmp_ge (pc := 9) (tgt := 30) d_Net_pairsAhead_9 (by decide) (fun h => by rw [hn] at h; exact absurd h (nI_ge (by omega) (by omega))) (fun h9 => ?_)
      refine x_iload_n (pc := 12) d_Net_pairsAhead_12 rfl ?_
      refine x_aload_n (pc := 13) d_Net_pairsAhead_13 rfl ?_
      refine x_get (pc := 14) (j := 3) d_Net_pairsAhead_14 f_Net_21 rfl rfl (Nat.le_of_ble_eq_true rfl) rfl rfl rfl ?_
      refine x_iload_n (pc := 17) d_Net_pairsAhead_17 rfl ?_
      refine x_iald (pc := 18) d_Net_pairsAhead_18 rfl (vp_in_nI (by omega) (by decide)) ?_
      refine y_fS (pc := 19) (c_JI_bitCount _ _ _) k_JI_bitCount d_Net_pairsAhead_19 m_Net_49 (by decide) rfl p_JI_bitCount (K := ?_)
      refine x_iadd (pc := 22) d_Net_pairsAhead_22 ?_
      refine y_ist1 (pc := 23) d_Net_pairsAhead_23 ?_
      refine y_inc2 (pc := 24) (v := 1) d_Net_pairsAhead_24 (by decide) ?_
      refine x_goto (pc := 27) (tgt := 4) d_Net_pairsAhead_27 (by decide) ?_
      (rw [nI_clamp (by omega)]; exact hs)
  have hS := hS 0 (by omega)
  refine CQ.of (lv := [.ref 1, zu, zu]) k_Net_pairsAhead.1 rfl (by decide) rfl rfl (Nat.le_of_ble_eq_true rfl) ?_
  refine x_iconst (pc := 0) (v := 0) d_Net_pairsAhead_0 (by decide) ?_
  refine y_ist1 (pc := 1) d_Net_pairsAhead_1 ?_
  refine x_iconst (pc := 2) (v := 1) d_Net_pairsAhead_2 (by decide) ?_
  refine y_ist2 (pc := 3) d_Net_pairsAhead_3 ?_
  exact hS
def zsum (a b : Int32) : Int32 := if a = 1000000000 ∨ b = 1000000000 then 1000000000 else a + b
set_option maxRecDepth 100000 in
set_option maxHeartbeats 4000000 in
theorem c_Net_costOut (V A : zV) (s : Int32) (n : Nat) (hn : V 1 4 = nI n) (h1 : 1 ≤ n) (h9 : n ≤ 9) : CQ Y_Net_costOut 1 [.ref 1, .int s] V A (fun r V' A' => r = zf (fun i a => if s &&& ((1 : Int32) <<< ((nI (i + 1) - 1) &&& 31)) = 0 then a else zsum a (if A 4 (i + 1) < 0 then 1000000000 else A 4 (i + 1))) 0 (n - 1) ∧ V' = V ∧ A' = A) := by
  have hS : ∀ k, k ≤ (n - 1) → X Y_Net_costOut (zrm 1) (0, fun _ => 0) (zFq 1 (fun r V' A' => r = zf (fun i a => if s &&& ((1 : Int32) <<< ((nI (i + 1) - 1) &&& 31)) = 0 then a else zsum a (if A 4 (i + 1) < 0 then 1000000000 else A 4 (i + 1))) 0 (n - 1) ∧ V' = V ∧ A' = A)) 4 [.ref 1, .int s, .int (zf (fun i a => if s &&& ((1 : Int32) <<< ((nI (i + 1) - 1) &&& 31)) = 0 then a else zsum a (if A 4 (i + 1) < 0 then 1000000000 else A 4 (i + 1))) 0 k), .int (nI (k + 1))] [] (cells V A) 0 0 := by
    refine z_down ?_ (fun k hk hs => ?_)
    · rw [show n - 1 + 1 = n by omega]
      refine x_iload_n (pc := 4) d_Net_costOut_4 rfl ?_
      refine x_aload_n (pc := 5) d_Net_costOut_5 rfl ?_
      refine x_get (pc := 6) (j := 4) d_Net_costOut_6 f_Net_24 rfl rfl (Nat.le_of_ble_eq_true rfl) rfl rfl rfl ?_
      refine x_icmp_ge (pc := 9) (tgt := 52) d_Net_costOut_9 (by decide) (fun h9 => ?_) (fun h => by rw [hn] at h; exact absurd (nI_le (by omega) (by omega)) h)
      refine x_iload_n (pc := 52) d_Net_costOut_52 rfl ?_
      refine y_iret (pc := 53) d_Net_costOut_53 rfl ?_
      exact ⟨rfl, rfl, rfl⟩
    · rw [zf_s _ _ k, nI_succ (k + 1)] at hs
      have hc : (nI (k + 1)).toNatClampNeg = k + 1 := nI_clamp (by omega)
      refine x_iload_n (pc := 4) d_Net_costOut_4 rfl ?_
      refine x_aload_n (pc := 5) d_Net_costOut_5 rfl ?_
      refine x_get (pc := 6) (j := 4) d_Net_costOut_6 f_Net_24 rfl rfl (Nat.le_of_ble_eq_true rfl) rfl rfl rfl ?_
      refine x_icmp_ge (pc := 9) (tgt := 52) d_Net_costOut_9 (by decide) (fun h => by rw [hn] at h; exact absurd h (nI_ge (by omega) (by omega))) (fun h9 => ?_)
      refine x_iload_n (pc := 12) d_Net_costOut_12 rfl ?_
      refine x_iload_n (pc := 13) d_Net_costOut_13 rfl ?_
      refine y_fN (pc := 14) (c_CW_bit _ _ _) k_CW_bit d_Net_costOut_14 n_Net_45 (by decide) rfl p_CW_bit (K := ?_)
      refine x_iand (pc := 17) d_Net_costOut_17 ?_
      refine x_if_eq (pc := 18) (tgt := 46) d_Net_costOut_18 (by decide) (fun h18 => ?_) (fun h18 => ?_)
      · refine y_inc3 (pc := 46) (v := 1) d_Net_costOut_46 (by decide) ?_
        refine x_goto (pc := 49) (tgt := 4) d_Net_costOut_49 (by decide) ?_
        (first | (rw [if_pos h18] at hs; exact hs) | (rw [if_neg h18] at hs; rw [hc] at h28; first | (rw [if_neg (Int32.not_lt.mpr h28)] at hs; rw [hc]; exact hs) | (rw [if_pos (Int32.not_le.mp h28)] at hs; exact hs)))
      · refine x_iload_n (pc := 21) d_Net_costOut_21 rfl ?_
        refine x_aload_n (pc := 22) d_Net_costOut_22 rfl ?_
        refine x_get (pc := 23) (j := 2) d_Net_costOut_23 f_Net_18 rfl rfl (Nat.le_of_ble_eq_true rfl) rfl rfl rfl ?_
        refine x_iload_n (pc := 26) d_Net_costOut_26 rfl ?_
        refine x_iald (pc := 27) d_Net_costOut_27 rfl (vp_in_nI (by omega) (by decide)) ?_
        refine x_if_ge (pc := 28) (tgt := 36) d_Net_costOut_28 (by decide) (fun h28 => ?_) (fun h28 => ?_)
        · refine x_aload_n (pc := 36) d_Net_costOut_36 rfl ?_
          refine x_get (pc := 37) (j := 2) d_Net_costOut_37 f_Net_18 rfl rfl (Nat.le_of_ble_eq_true rfl) rfl rfl rfl ?_
          refine x_iload_n (pc := 40) d_Net_costOut_40 rfl ?_
          refine x_iald (pc := 41) d_Net_costOut_41 rfl (vp_in_nI (by omega) (by decide)) ?_
          refine y_fN (pc := 42) (c_CW_sum _ _ _ _) k_CW_sum d_Net_costOut_42 n_Net_54 (by decide) rfl p_CW_sum (K := ?_)
          refine y_ist2 (pc := 45) d_Net_costOut_45 ?_
          refine y_inc3 (pc := 46) (v := 1) d_Net_costOut_46 (by decide) ?_
          refine x_goto (pc := 49) (tgt := 4) d_Net_costOut_49 (by decide) ?_
          (first | (rw [if_pos h18] at hs; exact hs) | (rw [if_neg h18] at hs; rw [hc] at h28; first | (rw [if_neg (Int32.not_lt.mpr h28)] at hs; rw [hc]; exact hs) | (rw [if_pos (Int32.not_le.mp h28)] at hs; exact hs)))
        · refine x_ldc (pc := 31) (v := 1000000000) d_Net_costOut_31 i_Net_40 ?_
          refine x_goto (pc := 33) (tgt := 42) d_Net_costOut_33 (by decide) ?_
          refine y_fN (pc := 42) (c_CW_sum _ _ _ _) k_CW_sum d_Net_costOut_42 n_Net_54 (by decide) rfl p_CW_sum (K := ?_)
          refine y_ist2 (pc := 45) d_Net_costOut_45 ?_
          refine y_inc3 (pc := 46) (v := 1) d_Net_costOut_46 (by decide) ?_
          refine x_goto (pc := 49) (tgt := 4) d_Net_costOut_49 (by decide) ?_
          (first | (rw [if_pos h18] at hs; exact hs) | (rw [if_neg h18] at hs; rw [hc] at h28; first | (rw [if_neg (Int32.not_lt.mpr h28)] at hs; rw [hc]; exact hs) | (rw [if_pos (Int32.not_le.mp h28)] at hs; exact hs)))
  have hS := hS 0 (by omega)
  refine CQ.of (lv := [.ref 1, .int s, zu, zu]) k_Net_costOut.1 rfl (by decide) rfl rfl (Nat.le_of_ble_eq_true rfl) ?_
  refine x_iconst (pc := 0) (v := 0) d_Net_costOut_0 (by decide) ?_
  refine y_ist2 (pc := 1) d_Net_costOut_1 ?_
  refine x_iconst (pc := 2) (v := 1) d_Net_costOut_2 (by decide) ?_
  refine y_ist3 (pc := 3) d_Net_costOut_3 ?_
  exact hS
end
