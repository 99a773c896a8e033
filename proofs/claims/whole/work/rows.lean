section
-- ===== PART A: goes FIRST, ahead of the names: the tables' words, and 'selects' of the private methods out of them =====
/-- a private method of a class that the tables say can be made, by its rows of tables_1 -/
def lw_okq (q : MethodName × Nat) : Prop := (q.1.cls ≠ "java/lang/invoke/MethodHandle" ∧ q.1.cls ≠ "java/lang/invoke/VarHandle") ∧ Cond.instantiable q.1.cls q.2 ∈ tables_1 ∧ Cond.privateMethod q.1 ∈ tables_1 ∧ Cond.instanceMethod q.1 ∈ tables_1
theorem lw_p0 : lw_okq (⟨"CircuitWays$Paths", "addLoads", "()V"⟩, 7) := ⟨⟨by decide +kernel, by decide +kernel⟩, List.mem_of_getElem? (i := 91) (by decide +kernel), List.mem_of_getElem? (i := 427) (by decide +kernel), List.mem_of_getElem? (i := 428) (by decide +kernel)⟩
theorem lw_p1 : lw_okq (⟨"CircuitWays$Paths", "clearPaths", "()V"⟩, 7) := ⟨⟨by decide +kernel, by decide +kernel⟩, List.mem_of_getElem? (i := 91) (by decide +kernel), List.mem_of_getElem? (i := 432) (by decide +kernel), List.mem_of_getElem? (i := 433) (by decide +kernel)⟩
theorem lw_p2 : lw_okq (⟨"CircuitWays$Paths", "followersOf", "(I)I"⟩, 7) := ⟨⟨by decide +kernel, by decide +kernel⟩, List.mem_of_getElem? (i := 91) (by decide +kernel), List.mem_of_getElem? (i := 441) (by decide +kernel), List.mem_of_getElem? (i := 442) (by decide +kernel)⟩
theorem lw_p3 : lw_okq (⟨"CircuitWays$Paths", "extend", "(II)V"⟩, 7) := ⟨⟨by decide +kernel, by decide +kernel⟩, List.mem_of_getElem? (i := 91) (by decide +kernel), List.mem_of_getElem? (i := 445) (by decide +kernel), List.mem_of_getElem? (i := 446) (by decide +kernel)⟩
theorem lw_p4 : lw_okq (⟨"CircuitWays$Paths", "closeRound", "(I)V"⟩, 7) := ⟨⟨by decide +kernel, by decide +kernel⟩, List.mem_of_getElem? (i := 91) (by decide +kernel), List.mem_of_getElem? (i := 449) (by decide +kernel), List.mem_of_getElem? (i := 450) (by decide +kernel)⟩
theorem lw_p5 : lw_okq (⟨"CircuitWays$Shares", "copyShare", "(II)V"⟩, 7) := ⟨⟨by decide +kernel, by decide +kernel⟩, List.mem_of_getElem? (i := 123) (by decide +kernel), List.mem_of_getElem? (i := 472) (by decide +kernel), List.mem_of_getElem? (i := 473) (by decide +kernel)⟩
theorem lw_p6 : lw_okq (⟨"CircuitWays$Shares", "share", "(II)V"⟩, 7) := ⟨⟨by decide +kernel, by decide +kernel⟩, List.mem_of_getElem? (i := 123) (by decide +kernel), List.mem_of_getElem? (i := 476) (by decide +kernel), List.mem_of_getElem? (i := 477) (by decide +kernel)⟩
theorem lw_p7 : lw_okq (⟨"CircuitWays$Shares", "offer", "(II)V"⟩, 7) := ⟨⟨by decide +kernel, by decide +kernel⟩, List.mem_of_getElem? (i := 123) (by decide +kernel), List.mem_of_getElem? (i := 481) (by decide +kernel), List.mem_of_getElem? (i := 482) (by decide +kernel)⟩
theorem lw_p8 : lw_okq (⟨"CircuitWays$FirstPlan", "write", "(I)V"⟩, 8) := ⟨⟨by decide +kernel, by decide +kernel⟩, List.mem_of_getElem? (i := 186) (by decide +kernel), List.mem_of_getElem? (i := 507) (by decide +kernel), List.mem_of_getElem? (i := 508) (by decide +kernel)⟩
theorem lw_p9 : lw_okq (⟨"CircuitWays$Tails", "leastBehind", "(II)I"⟩, 8) := ⟨⟨by decide +kernel, by decide +kernel⟩, List.mem_of_getElem? (i := 154) (by decide +kernel), List.mem_of_getElem? (i := 516) (by decide +kernel), List.mem_of_getElem? (i := 517) (by decide +kernel)⟩
theorem lw_p10 : lw_okq (⟨"CircuitWays$FirstPlan", "writeRound", "()V"⟩, 8) := ⟨⟨by decide +kernel, by decide +kernel⟩, List.mem_of_getElem? (i := 186) (by decide +kernel), List.mem_of_getElem? (i := 534) (by decide +kernel), List.mem_of_getElem? (i := 535) (by decide +kernel)⟩
theorem lw_p11 : lw_okq (⟨"CircuitWays$FirstPlan", "followerDue", "(II)I"⟩, 8) := ⟨⟨by decide +kernel, by decide +kernel⟩, List.mem_of_getElem? (i := 186) (by decide +kernel), List.mem_of_getElem? (i := 539) (by decide +kernel), List.mem_of_getElem? (i := 540) (by decide +kernel)⟩
theorem lw_p12 : lw_okq (⟨"CircuitWays$Tree", "chooseJoining", "()Z"⟩, 7) := ⟨⟨by decide +kernel, by decide +kernel⟩, List.mem_of_getElem? (i := 219) (by decide +kernel), List.mem_of_getElem? (i := 594) (by decide +kernel), List.mem_of_getElem? (i := 595) (by decide +kernel)⟩
theorem lw_p13 : lw_okq (⟨"CircuitWays$Tree", "edgeCost", "(II)I"⟩, 7) := ⟨⟨by decide +kernel, by decide +kernel⟩, List.mem_of_getElem? (i := 219) (by decide +kernel), List.mem_of_getElem? (i := 599) (by decide +kernel), List.mem_of_getElem? (i := 600) (by decide +kernel)⟩
theorem lw_p14 : lw_okq (⟨"CircuitWays$Tree", "choose", "(II)Z"⟩, 7) := ⟨⟨by decide +kernel, by decide +kernel⟩, List.mem_of_getElem? (i := 219) (by decide +kernel), List.mem_of_getElem? (i := 605) (by decide +kernel), List.mem_of_getElem? (i := 606) (by decide +kernel)⟩
theorem lw_p15 : lw_okq (⟨"CircuitWays$Tree", "chooseAtHouse", "(I)Z"⟩, 7) := ⟨⟨by decide +kernel, by decide +kernel⟩, List.mem_of_getElem? (i := 219) (by decide +kernel), List.mem_of_getElem? (i := 609) (by decide +kernel), List.mem_of_getElem? (i := 610) (by decide +kernel)⟩
def lw_privs_1 : List (MethodName × Nat) := [(⟨"CircuitWays$Paths", "addLoads", "()V"⟩, 7), (⟨"CircuitWays$Paths", "clearPaths", "()V"⟩, 7), (⟨"CircuitWays$Paths", "followersOf", "(I)I"⟩, 7), (⟨"CircuitWays$Paths", "extend", "(II)V"⟩, 7), (⟨"CircuitWays$Paths", "closeRound", "(I)V"⟩, 7), (⟨"CircuitWays$Shares", "copyShare", "(II)V"⟩, 7), (⟨"CircuitWays$Shares", "share", "(II)V"⟩, 7), (⟨"CircuitWays$Shares", "offer", "(II)V"⟩, 7), (⟨"CircuitWays$FirstPlan", "write", "(I)V"⟩, 8), (⟨"CircuitWays$Tails", "leastBehind", "(II)I"⟩, 8), (⟨"CircuitWays$FirstPlan", "writeRound", "()V"⟩, 8), (⟨"CircuitWays$FirstPlan", "followerDue", "(II)I"⟩, 8), (⟨"CircuitWays$Tree", "chooseJoining", "()Z"⟩, 7), (⟨"CircuitWays$Tree", "edgeCost", "(II)I"⟩, 7), (⟨"CircuitWays$Tree", "choose", "(II)Z"⟩, 7), (⟨"CircuitWays$Tree", "chooseAtHouse", "(I)Z"⟩, 7)]
theorem lw_r1 : ∀ q ∈ lw_privs_1, lw_okq q := List.forall_mem_cons.mpr ⟨lw_p0, List.forall_mem_cons.mpr ⟨lw_p1, List.forall_mem_cons.mpr ⟨lw_p2, List.forall_mem_cons.mpr ⟨lw_p3, List.forall_mem_cons.mpr ⟨lw_p4, List.forall_mem_cons.mpr ⟨lw_p5, List.forall_mem_cons.mpr ⟨lw_p6, List.forall_mem_cons.mpr ⟨lw_p7, List.forall_mem_cons.mpr ⟨lw_p8, List.forall_mem_cons.mpr ⟨lw_p9, List.forall_mem_cons.mpr ⟨lw_p10, List.forall_mem_cons.mpr ⟨lw_p11, List.forall_mem_cons.mpr ⟨lw_p12, List.forall_mem_cons.mpr ⟨lw_p13, List.forall_mem_cons.mpr ⟨lw_p14, List.forall_mem_cons.mpr ⟨lw_p15, fun _ h => absurd h List.not_mem_nil⟩⟩⟩⟩⟩⟩⟩⟩⟩⟩⟩⟩⟩⟩⟩⟩
theorem lw_p16 : lw_okq (⟨"CircuitWays$Circles", "circleFrom", "(I)I"⟩, 3) := ⟨⟨by decide +kernel, by decide +kernel⟩, List.mem_of_getElem? (i := 263) (by decide +kernel), List.mem_of_getElem? (i := 657) (by decide +kernel), List.mem_of_getElem? (i := 658) (by decide +kernel)⟩
theorem lw_p17 : lw_okq (⟨"CircuitWays$Ways", "reached", "(I)I"⟩, 2) := ⟨⟨by decide +kernel, by decide +kernel⟩, List.mem_of_getElem? (i := 280) (by decide +kernel), List.mem_of_getElem? (i := 669) (by decide +kernel), List.mem_of_getElem? (i := 670) (by decide +kernel)⟩
theorem lw_p18 : lw_okq (⟨"CircuitWays$Ways", "stepFrom", "(II)I"⟩, 2) := ⟨⟨by decide +kernel, by decide +kernel⟩, List.mem_of_getElem? (i := 280) (by decide +kernel), List.mem_of_getElem? (i := 673) (by decide +kernel), List.mem_of_getElem? (i := 674) (by decide +kernel)⟩
theorem lw_p19 : lw_okq (⟨"CircuitWays$Ways", "leads", "(II)Z"⟩, 2) := ⟨⟨by decide +kernel, by decide +kernel⟩, List.mem_of_getElem? (i := 280) (by decide +kernel), List.mem_of_getElem? (i := 679) (by decide +kernel), List.mem_of_getElem? (i := 680) (by decide +kernel)⟩
theorem lw_p20 : lw_okq (⟨"CircuitWays$Ways", "isNearest", "(II)Z"⟩, 2) := ⟨⟨by decide +kernel, by decide +kernel⟩, List.mem_of_getElem? (i := 280) (by decide +kernel), List.mem_of_getElem? (i := 683) (by decide +kernel), List.mem_of_getElem? (i := 684) (by decide +kernel)⟩
theorem lw_p21 : lw_okq (⟨"CircuitWays$Row", "planCost", "([II)I"⟩, 4) := ⟨⟨by decide +kernel, by decide +kernel⟩, List.mem_of_getElem? (i := 293) (by decide +kernel), List.mem_of_getElem? (i := 711) (by decide +kernel), List.mem_of_getElem? (i := 712) (by decide +kernel)⟩
theorem lw_p22 : lw_okq (⟨"CircuitWays$Row", "roundCost", "([III)I"⟩, 4) := ⟨⟨by decide +kernel, by decide +kernel⟩, List.mem_of_getElem? (i := 293) (by decide +kernel), List.mem_of_getElem? (i := 717) (by decide +kernel), List.mem_of_getElem? (i := 718) (by decide +kernel)⟩
theorem lw_p23 : lw_okq (⟨"CircuitWaysModel", "noTwo", "(II)Z"⟩, 31) := ⟨⟨by decide +kernel, by decide +kernel⟩, List.mem_of_getElem? (i := 747) (by decide +kernel), List.mem_of_getElem? (i := 861) (by decide +kernel), List.mem_of_getElem? (i := 862) (by decide +kernel)⟩
theorem lw_p24 : lw_okq (⟨"CircuitWaysModel", "noNode", "(I)Z"⟩, 31) := ⟨⟨by decide +kernel, by decide +kernel⟩, List.mem_of_getElem? (i := 747) (by decide +kernel), List.mem_of_getElem? (i := 865) (by decide +kernel), List.mem_of_getElem? (i := 866) (by decide +kernel)⟩
theorem lw_p25 : lw_okq (⟨"CircuitWaysModel", "know", "()V"⟩, 31) := ⟨⟨by decide +kernel, by decide +kernel⟩, List.mem_of_getElem? (i := 747) (by decide +kernel), List.mem_of_getElem? (i := 890) (by decide +kernel), List.mem_of_getElem? (i := 891) (by decide +kernel)⟩
theorem lw_p26 : lw_okq (⟨"CircuitWaysModel", "whole", "(I)I"⟩, 31) := ⟨⟨by decide +kernel, by decide +kernel⟩, List.mem_of_getElem? (i := 747) (by decide +kernel), List.mem_of_getElem? (i := 898) (by decide +kernel), List.mem_of_getElem? (i := 899) (by decide +kernel)⟩
theorem lw_p27 : lw_okq (⟨"CircuitWaysModel", "isBeforeFirst", "()Z"⟩, 31) := ⟨⟨by decide +kernel, by decide +kernel⟩, List.mem_of_getElem? (i := 747) (by decide +kernel), List.mem_of_getElem? (i := 902) (by decide +kernel), List.mem_of_getElem? (i := 903) (by decide +kernel)⟩
theorem lw_p28 : lw_okq (⟨"CircuitWaysModel", "mayCome", "(II)Z"⟩, 31) := ⟨⟨by decide +kernel, by decide +kernel⟩, List.mem_of_getElem? (i := 747) (by decide +kernel), List.mem_of_getElem? (i := 906) (by decide +kernel), List.mem_of_getElem? (i := 907) (by decide +kernel)⟩
theorem lw_p29 : lw_okq (⟨"CircuitWaysModel", "write", "(I)V"⟩, 31) := ⟨⟨by decide +kernel, by decide +kernel⟩, List.mem_of_getElem? (i := 747) (by decide +kernel), List.mem_of_getElem? (i := 910) (by decide +kernel), List.mem_of_getElem? (i := 911) (by decide +kernel)⟩
theorem lw_p30 : lw_okq (⟨"CircuitWaysModel", "note", "(III)V"⟩, 31) := ⟨⟨by decide +kernel, by decide +kernel⟩, List.mem_of_getElem? (i := 747) (by decide +kernel), List.mem_of_getElem? (i := 917) (by decide +kernel), List.mem_of_getElem? (i := 918) (by decide +kernel)⟩
theorem lw_p31 : lw_okq (⟨"CircuitWaysModel", "makeTree", "()Z"⟩, 31) := ⟨⟨by decide +kernel, by decide +kernel⟩, List.mem_of_getElem? (i := 747) (by decide +kernel), List.mem_of_getElem? (i := 952) (by decide +kernel), List.mem_of_getElem? (i := 953) (by decide +kernel)⟩
def lw_privs_2 : List (MethodName × Nat) := [(⟨"CircuitWays$Circles", "circleFrom", "(I)I"⟩, 3), (⟨"CircuitWays$Ways", "reached", "(I)I"⟩, 2), (⟨"CircuitWays$Ways", "stepFrom", "(II)I"⟩, 2), (⟨"CircuitWays$Ways", "leads", "(II)Z"⟩, 2), (⟨"CircuitWays$Ways", "isNearest", "(II)Z"⟩, 2), (⟨"CircuitWays$Row", "planCost", "([II)I"⟩, 4), (⟨"CircuitWays$Row", "roundCost", "([III)I"⟩, 4), (⟨"CircuitWaysModel", "noTwo", "(II)Z"⟩, 31), (⟨"CircuitWaysModel", "noNode", "(I)Z"⟩, 31), (⟨"CircuitWaysModel", "know", "()V"⟩, 31), (⟨"CircuitWaysModel", "whole", "(I)I"⟩, 31), (⟨"CircuitWaysModel", "isBeforeFirst", "()Z"⟩, 31), (⟨"CircuitWaysModel", "mayCome", "(II)Z"⟩, 31), (⟨"CircuitWaysModel", "write", "(I)V"⟩, 31), (⟨"CircuitWaysModel", "note", "(III)V"⟩, 31), (⟨"CircuitWaysModel", "makeTree", "()Z"⟩, 31)]
theorem lw_r2 : ∀ q ∈ lw_privs_2, lw_okq q := List.forall_mem_cons.mpr ⟨lw_p16, List.forall_mem_cons.mpr ⟨lw_p17, List.forall_mem_cons.mpr ⟨lw_p18, List.forall_mem_cons.mpr ⟨lw_p19, List.forall_mem_cons.mpr ⟨lw_p20, List.forall_mem_cons.mpr ⟨lw_p21, List.forall_mem_cons.mpr ⟨lw_p22, List.forall_mem_cons.mpr ⟨lw_p23, List.forall_mem_cons.mpr ⟨lw_p24, List.forall_mem_cons.mpr ⟨lw_p25, List.forall_mem_cons.mpr ⟨lw_p26, List.forall_mem_cons.mpr ⟨lw_p27, List.forall_mem_cons.mpr ⟨lw_p28, List.forall_mem_cons.mpr ⟨lw_p29, List.forall_mem_cons.mpr ⟨lw_p30, List.forall_mem_cons.mpr ⟨lw_p31, fun _ h => absurd h List.not_mem_nil⟩⟩⟩⟩⟩⟩⟩⟩⟩⟩⟩⟩⟩⟩⟩⟩
theorem lw_p32 : lw_okq (⟨"CircuitWaysModel", "choose", "(Z)Z"⟩, 31) := ⟨⟨by decide +kernel, by decide +kernel⟩, List.mem_of_getElem? (i := 747) (by decide +kernel), List.mem_of_getElem? (i := 956) (by decide +kernel), List.mem_of_getElem? (i := 957) (by decide +kernel)⟩
theorem lw_p33 : lw_okq (⟨"CircuitWaysModel", "edgeCost", "(II)I"⟩, 31) := ⟨⟨by decide +kernel, by decide +kernel⟩, List.mem_of_getElem? (i := 747) (by decide +kernel), List.mem_of_getElem? (i := 960) (by decide +kernel), List.mem_of_getElem? (i := 961) (by decide +kernel)⟩
theorem lw_p34 : lw_okq (⟨"CircuitWaysModel", "hasEdge", "(II)Z"⟩, 31) := ⟨⟨by decide +kernel, by decide +kernel⟩, List.mem_of_getElem? (i := 747) (by decide +kernel), List.mem_of_getElem? (i := 964) (by decide +kernel), List.mem_of_getElem? (i := 965) (by decide +kernel)⟩
theorem lw_p35 : lw_okq (⟨"CircuitWaysModel", "circleOf", "(I)I"⟩, 31) := ⟨⟨by decide +kernel, by decide +kernel⟩, List.mem_of_getElem? (i := 747) (by decide +kernel), List.mem_of_getElem? (i := 989) (by decide +kernel), List.mem_of_getElem? (i := 990) (by decide +kernel)⟩
theorem lw_p36 : lw_okq (⟨"CircuitWaysModel", "leads", "(II)Z"⟩, 31) := ⟨⟨by decide +kernel, by decide +kernel⟩, List.mem_of_getElem? (i := 747) (by decide +kernel), List.mem_of_getElem? (i := 997) (by decide +kernel), List.mem_of_getElem? (i := 998) (by decide +kernel)⟩
theorem lw_p37 : lw_okq (⟨"CircuitWaysModel", "reached", "(I)I"⟩, 31) := ⟨⟨by decide +kernel, by decide +kernel⟩, List.mem_of_getElem? (i := 747) (by decide +kernel), List.mem_of_getElem? (i := 1001) (by decide +kernel), List.mem_of_getElem? (i := 1002) (by decide +kernel)⟩
theorem lw_p38 : lw_okq (⟨"CircuitWaysModel", "costOf", "(II)I"⟩, 31) := ⟨⟨by decide +kernel, by decide +kernel⟩, List.mem_of_getElem? (i := 747) (by decide +kernel), List.mem_of_getElem? (i := 1017) (by decide +kernel), List.mem_of_getElem? (i := 1018) (by decide +kernel)⟩
def lw_privs_3 : List (MethodName × Nat) := [(⟨"CircuitWaysModel", "choose", "(Z)Z"⟩, 31), (⟨"CircuitWaysModel", "edgeCost", "(II)I"⟩, 31), (⟨"CircuitWaysModel", "hasEdge", "(II)Z"⟩, 31), (⟨"CircuitWaysModel", "circleOf", "(I)I"⟩, 31), (⟨"CircuitWaysModel", "leads", "(II)Z"⟩, 31), (⟨"CircuitWaysModel", "reached", "(I)I"⟩, 31), (⟨"CircuitWaysModel", "costOf", "(II)I"⟩, 31)]
theorem lw_r3 : ∀ q ∈ lw_privs_3, lw_okq q := List.forall_mem_cons.mpr ⟨lw_p32, List.forall_mem_cons.mpr ⟨lw_p33, List.forall_mem_cons.mpr ⟨lw_p34, List.forall_mem_cons.mpr ⟨lw_p35, List.forall_mem_cons.mpr ⟨lw_p36, List.forall_mem_cons.mpr ⟨lw_p37, List.forall_mem_cons.mpr ⟨lw_p38, fun _ h => absurd h List.not_mem_nil⟩⟩⟩⟩⟩⟩⟩
def lw_privs : List (MethodName × Nat) := lw_privs_1 ++ (lw_privs_2 ++ (lw_privs_3))
def lw_tbl : List Cond := k2_sels lw_privs ++ tables_1
theorem lw_privs_ok : ∀ q ∈ lw_privs, lw_okq q := by
  show ∀ q ∈ lw_privs_1 ++ (lw_privs_2 ++ (lw_privs_3)), lw_okq q
  exact List.forall_mem_append.mpr ⟨lw_r1, List.forall_mem_append.mpr ⟨lw_r2, lw_r3⟩⟩
end
section
def zt : List Cond := lw_tbl.filter goodWord
theorem zt_mem {w : Cond} (h : w ∈ lw_tbl) (hg : goodWord w = true) : w ∈ zt := List.mem_filter.mpr ⟨h, hg⟩
theorem zt_good {w : Cond} (h : w ∈ zt) : goodWord w = true := (List.mem_filter.mp h).2
theorem zt_tbl {w : Cond} (h : w ∈ zt) : w ∈ lw_tbl := (List.mem_filter.mp h).1
def zT0 : u_T := fun k => match k with
  | 0 => ("CircuitWays", "net", "LCircuitWays$Net;", true)
  | 1 => ("CircuitWays", "shares", "LCircuitWays$Shares;", true)
  | 2 => ("CircuitWays", "tails", "LCircuitWays$Tails;", true)
  | 3 => ("CircuitWays", "firstPlan", "LCircuitWays$FirstPlan;", true)
  | 4 => ("CircuitWays", "tree", "LCircuitWays$Tree;", true)
  | 5 => ("CircuitWays", "pairs", "LCircuitWays$Pairs;", true)
  | 6 => ("CircuitWays", "circles", "LCircuitWays$Circles;", true)
  | 7 => ("CircuitWays", "ways", "LCircuitWays$Ways;", true)
  | _ => ("CircuitWays", "row", "LCircuitWays$Row;", true)
def zy0 : Nat → FieldType := fun k => match k with
  | 0 => .object "CircuitWays$Net"
  | 1 => .object "CircuitWays$Shares"
  | 2 => .object "CircuitWays$Tails"
  | 3 => .object "CircuitWays$FirstPlan"
  | 4 => .object "CircuitWays$Tree"
  | 5 => .object "CircuitWays$Pairs"
  | 6 => .object "CircuitWays$Circles"
  | 7 => .object "CircuitWays$Ways"
  | _ => .object "CircuitWays$Row"
theorem zn0 : ∀ a, a < 9 → ∀ b, b < 9 → a ≠ b → (zT0 a).2.1 ≠ (zT0 b).2.1 := by decide +kernel
theorem zo0 : ∀ k, k < 9 → parseFieldDescriptor (zT0 k).2.2.1 = some (zy0 k) := by decide +kernel
theorem zi0 : ∀ w ∈ u_ws "CircuitWays" zT0 9, w ∈ zt := by
  intro w hw
  obtain ⟨j, hj, rfl⟩ := List.mem_map.mp hw
  have hj := List.mem_range.mp hj
  match j, hj with
  | 0, _ => exact zt_mem (List.mem_of_getElem? (i := 360) (by decide +kernel)) rfl
  | 1, _ => exact zt_mem (List.mem_of_getElem? (i := 362) (by decide +kernel)) rfl
  | 2, _ => exact zt_mem (List.mem_of_getElem? (i := 364) (by decide +kernel)) rfl
  | 3, _ => exact zt_mem (List.mem_of_getElem? (i := 366) (by decide +kernel)) rfl
  | 4, _ => exact zt_mem (List.mem_of_getElem? (i := 368) (by decide +kernel)) rfl
  | 5, _ => exact zt_mem (List.mem_of_getElem? (i := 370) (by decide +kernel)) rfl
  | 6, _ => exact zt_mem (List.mem_of_getElem? (i := 372) (by decide +kernel)) rfl
  | 7, _ => exact zt_mem (List.mem_of_getElem? (i := 374) (by decide +kernel)) rfl
  | 8, _ => exact zt_mem (List.mem_of_getElem? (i := 376) (by decide +kernel)) rfl
  | j + 9, h => exact absurd h (by omega)
def zT1 : u_T := fun k => match k with
  | 0 => ("CircuitWays$Net", "loads", "[I", true)
  | 1 => ("CircuitWays$Net", "costs", "[I", true)
  | 2 => ("CircuitWays$Net", "prices", "[I", true)
  | 3 => ("CircuitWays$Net", "earlier", "[I", true)
  | 4 => ("CircuitWays$Net", "size", "I", false)
  | 5 => ("CircuitWays$Net", "most", "I", false)
  | 6 => ("CircuitWays$Net", "room", "I", false)
  | 7 => ("CircuitWays$Net", "open", "I", false)
  | _ => ("CircuitWays$Net", "changes", "I", false)
def zy1 : Nat → FieldType := fun k => match k with
  | 0 => .array .int
  | 1 => .array .int
  | 2 => .array .int
  | 3 => .array .int
  | 4 => .int
  | 5 => .int
  | 6 => .int
  | 7 => .int
  | _ => .int
theorem zn1 : ∀ a, a < 9 → ∀ b, b < 9 → a ≠ b → (zT1 a).2.1 ≠ (zT1 b).2.1 := by decide +kernel
theorem zo1 : ∀ k, k < 9 → parseFieldDescriptor (zT1 k).2.2.1 = some (zy1 k) := by decide +kernel
theorem zi1 : ∀ w ∈ u_ws "CircuitWays$Net" zT1 9, w ∈ zt := by
  intro w hw
  obtain ⟨j, hj, rfl⟩ := List.mem_map.mp hw
  have hj := List.mem_range.mp hj
  match j, hj with
  | 0, _ => exact zt_mem (List.mem_of_getElem? (i := 109) (by decide +kernel)) rfl
  | 1, _ => exact zt_mem (List.mem_of_getElem? (i := 111) (by decide +kernel)) rfl
  | 2, _ => exact zt_mem (List.mem_of_getElem? (i := 113) (by decide +kernel)) rfl
  | 3, _ => exact zt_mem (List.mem_of_getElem? (i := 115) (by decide +kernel)) rfl
  | 4, _ => exact zt_mem (List.mem_of_getElem? (i := 117) (by decide +kernel)) rfl
  | 5, _ => exact zt_mem (List.mem_of_getElem? (i := 119) (by decide +kernel)) rfl
  | 6, _ => exact zt_mem (List.mem_of_getElem? (i := 121) (by decide +kernel)) rfl
  | 7, _ => exact zt_mem (List.mem_of_getElem? (i := 123) (by decide +kernel)) rfl
  | 8, _ => exact zt_mem (List.mem_of_getElem? (i := 125) (by decide +kernel)) rfl
  | j + 9, h => exact absurd h (by omega)
def zT2 : u_T := fun k => match k with
  | 0 => ("CircuitWays$Paths", "net", "LCircuitWays$Net;", true)
  | 1 => ("CircuitWays$Paths", "setLoad", "[I", true)
  | 2 => ("CircuitWays$Paths", "followers", "[I", true)
  | 3 => ("CircuitWays$Paths", "pathCost", "[I", true)
  | 4 => ("CircuitWays$Paths", "pathWays", "[I", true)
  | 5 => ("CircuitWays$Paths", "roundCost", "[I", true)
  | _ => ("CircuitWays$Paths", "roundWays", "[I", true)
def zy2 : Nat → FieldType := fun k => match k with
  | 0 => .object "CircuitWays$Net"
  | 1 => .array .int
  | 2 => .array .int
  | 3 => .array .int
  | 4 => .array .int
  | 5 => .array .int
  | _ => .array .int
theorem zn2 : ∀ a, a < 7 → ∀ b, b < 7 → a ≠ b → (zT2 a).2.1 ≠ (zT2 b).2.1 := by decide +kernel
theorem zo2 : ∀ k, k < 7 → parseFieldDescriptor (zT2 k).2.2.1 = some (zy2 k) := by decide +kernel
theorem zi2 : ∀ w ∈ u_ws "CircuitWays$Paths" zT2 7, w ∈ zt := by
  intro w hw
  obtain ⟨j, hj, rfl⟩ := List.mem_map.mp hw
  have hj := List.mem_range.mp hj
  match j, hj with
  | 0, _ => exact zt_mem (List.mem_of_getElem? (i := 146) (by decide +kernel)) rfl
  | 1, _ => exact zt_mem (List.mem_of_getElem? (i := 148) (by decide +kernel)) rfl
  | 2, _ => exact zt_mem (List.mem_of_getElem? (i := 150) (by decide +kernel)) rfl
  | 3, _ => exact zt_mem (List.mem_of_getElem? (i := 152) (by decide +kernel)) rfl
  | 4, _ => exact zt_mem (List.mem_of_getElem? (i := 154) (by decide +kernel)) rfl
  | 5, _ => exact zt_mem (List.mem_of_getElem? (i := 156) (by decide +kernel)) rfl
  | 6, _ => exact zt_mem (List.mem_of_getElem? (i := 158) (by decide +kernel)) rfl
  | j + 7, h => exact absurd h (by omega)
def zT3 : u_T := fun k => match k with
  | 0 => ("CircuitWays$Shares", "net", "LCircuitWays$Net;", true)
  | 1 => ("CircuitWays$Shares", "paths", "LCircuitWays$Paths;", true)
  | 2 => ("CircuitWays$Shares", "cost", "[I", true)
  | 3 => ("CircuitWays$Shares", "waysOf", "[I", true)
  | 4 => ("CircuitWays$Shares", "least", "I", false)
  | 5 => ("CircuitWays$Shares", "leastCount", "I", false)
  | _ => ("CircuitWays$Shares", "seen", "I", false)
def zy3 : Nat → FieldType := fun k => match k with
  | 0 => .object "CircuitWays$Net"
  | 1 => .object "CircuitWays$Paths"
  | 2 => .array .int
  | 3 => .array .int
  | 4 => .int
  | 5 => .int
  | _ => .int
theorem zn3 : ∀ a, a < 7 → ∀ b, b < 7 → a ≠ b → (zT3 a).2.1 ≠ (zT3 b).2.1 := by decide +kernel
theorem zo3 : ∀ k, k < 7 → parseFieldDescriptor (zT3 k).2.2.1 = some (zy3 k) := by decide +kernel
theorem zi3 : ∀ w ∈ u_ws "CircuitWays$Shares" zT3 7, w ∈ zt := by
  intro w hw
  obtain ⟨j, hj, rfl⟩ := List.mem_map.mp hw
  have hj := List.mem_range.mp hj
  match j, hj with
  | 0, _ => exact zt_mem (List.mem_of_getElem? (i := 177) (by decide +kernel)) rfl
  | 1, _ => exact zt_mem (List.mem_of_getElem? (i := 179) (by decide +kernel)) rfl
  | 2, _ => exact zt_mem (List.mem_of_getElem? (i := 181) (by decide +kernel)) rfl
  | 3, _ => exact zt_mem (List.mem_of_getElem? (i := 183) (by decide +kernel)) rfl
  | 4, _ => exact zt_mem (List.mem_of_getElem? (i := 185) (by decide +kernel)) rfl
  | 5, _ => exact zt_mem (List.mem_of_getElem? (i := 187) (by decide +kernel)) rfl
  | 6, _ => exact zt_mem (List.mem_of_getElem? (i := 189) (by decide +kernel)) rfl
  | j + 7, h => exact absurd h (by omega)
def zT4 : u_T := fun k => match k with
  | 0 => ("CircuitWays$Tails", "net", "LCircuitWays$Net;", true)
  | 1 => ("CircuitWays$Tails", "paths", "LCircuitWays$Paths;", true)
  | 2 => ("CircuitWays$Tails", "shares", "LCircuitWays$Shares;", true)
  | 3 => ("CircuitWays$Tails", "cost", "[I", true)
  | 4 => ("CircuitWays$Tails", "above", "[Z", true)
  | 5 => ("CircuitWays$Tails", "seen", "I", false)
  | 6 => ("CircuitWays$Tails", "free", "I", false)
  | _ => ("CircuitWays$Tails", "rounds", "I", false)
def zy4 : Nat → FieldType := fun k => match k with
  | 0 => .object "CircuitWays$Net"
  | 1 => .object "CircuitWays$Paths"
  | 2 => .object "CircuitWays$Shares"
  | 3 => .array .int
  | 4 => .array .boolean
  | 5 => .int
  | 6 => .int
  | _ => .int
theorem zn4 : ∀ a, a < 8 → ∀ b, b < 8 → a ≠ b → (zT4 a).2.1 ≠ (zT4 b).2.1 := by decide +kernel
theorem zo4 : ∀ k, k < 8 → parseFieldDescriptor (zT4 k).2.2.1 = some (zy4 k) := by decide +kernel
theorem zi4 : ∀ w ∈ u_ws "CircuitWays$Tails" zT4 8, w ∈ zt := by
  intro w hw
  obtain ⟨j, hj, rfl⟩ := List.mem_map.mp hw
  have hj := List.mem_range.mp hj
  match j, hj with
  | 0, _ => exact zt_mem (List.mem_of_getElem? (i := 206) (by decide +kernel)) rfl
  | 1, _ => exact zt_mem (List.mem_of_getElem? (i := 208) (by decide +kernel)) rfl
  | 2, _ => exact zt_mem (List.mem_of_getElem? (i := 210) (by decide +kernel)) rfl
  | 3, _ => exact zt_mem (List.mem_of_getElem? (i := 212) (by decide +kernel)) rfl
  | 4, _ => exact zt_mem (List.mem_of_getElem? (i := 214) (by decide +kernel)) rfl
  | 5, _ => exact zt_mem (List.mem_of_getElem? (i := 216) (by decide +kernel)) rfl
  | 6, _ => exact zt_mem (List.mem_of_getElem? (i := 218) (by decide +kernel)) rfl
  | 7, _ => exact zt_mem (List.mem_of_getElem? (i := 220) (by decide +kernel)) rfl
  | j + 8, h => exact absurd h (by omega)
def zT5 : u_T := fun k => match k with
  | 0 => ("CircuitWays$FirstPlan", "net", "LCircuitWays$Net;", true)
  | 1 => ("CircuitWays$FirstPlan", "shares", "LCircuitWays$Shares;", true)
  | 2 => ("CircuitWays$FirstPlan", "tails", "LCircuitWays$Tails;", true)
  | 3 => ("CircuitWays$FirstPlan", "written", "[I", true)
  | 4 => ("CircuitWays$FirstPlan", "length", "I", false)
  | 5 => ("CircuitWays$FirstPlan", "seen", "I", false)
  | 6 => ("CircuitWays$FirstPlan", "due", "I", false)
  | _ => ("CircuitWays$FirstPlan", "free", "I", false)
def zy5 : Nat → FieldType := fun k => match k with
  | 0 => .object "CircuitWays$Net"
  | 1 => .object "CircuitWays$Shares"
  | 2 => .object "CircuitWays$Tails"
  | 3 => .array .int
  | 4 => .int
  | 5 => .int
  | 6 => .int
  | _ => .int
theorem zn5 : ∀ a, a < 8 → ∀ b, b < 8 → a ≠ b → (zT5 a).2.1 ≠ (zT5 b).2.1 := by decide +kernel
theorem zo5 : ∀ k, k < 8 → parseFieldDescriptor (zT5 k).2.2.1 = some (zy5 k) := by decide +kernel
theorem zi5 : ∀ w ∈ u_ws "CircuitWays$FirstPlan" zT5 8, w ∈ zt := by
  intro w hw
  obtain ⟨j, hj, rfl⟩ := List.mem_map.mp hw
  have hj := List.mem_range.mp hj
  match j, hj with
  | 0, _ => exact zt_mem (List.mem_of_getElem? (i := 240) (by decide +kernel)) rfl
  | 1, _ => exact zt_mem (List.mem_of_getElem? (i := 242) (by decide +kernel)) rfl
  | 2, _ => exact zt_mem (List.mem_of_getElem? (i := 244) (by decide +kernel)) rfl
  | 3, _ => exact zt_mem (List.mem_of_getElem? (i := 246) (by decide +kernel)) rfl
  | 4, _ => exact zt_mem (List.mem_of_getElem? (i := 248) (by decide +kernel)) rfl
  | 5, _ => exact zt_mem (List.mem_of_getElem? (i := 250) (by decide +kernel)) rfl
  | 6, _ => exact zt_mem (List.mem_of_getElem? (i := 252) (by decide +kernel)) rfl
  | 7, _ => exact zt_mem (List.mem_of_getElem? (i := 254) (by decide +kernel)) rfl
  | j + 8, h => exact absurd h (by omega)
def zT6 : u_T := fun k => match k with
  | 0 => ("CircuitWays$Tree", "net", "LCircuitWays$Net;", true)
  | 1 => ("CircuitWays$Tree", "weights", "[I", true)
  | 2 => ("CircuitWays$Tree", "part", "[I", true)
  | 3 => ("CircuitWays$Tree", "lesser", "[I", true)
  | 4 => ("CircuitWays$Tree", "other", "[I", true)
  | 5 => ("CircuitWays$Tree", "chosen", "I", false)
  | _ => ("CircuitWays$Tree", "cost", "I", false)
def zy6 : Nat → FieldType := fun k => match k with
  | 0 => .object "CircuitWays$Net"
  | 1 => .array .int
  | 2 => .array .int
  | 3 => .array .int
  | 4 => .array .int
  | 5 => .int
  | _ => .int
theorem zn6 : ∀ a, a < 7 → ∀ b, b < 7 → a ≠ b → (zT6 a).2.1 ≠ (zT6 b).2.1 := by decide +kernel
theorem zo6 : ∀ k, k < 7 → parseFieldDescriptor (zT6 k).2.2.1 = some (zy6 k) := by decide +kernel
theorem zi6 : ∀ w ∈ u_ws "CircuitWays$Tree" zT6 7, w ∈ zt := by
  intro w hw
  obtain ⟨j, hj, rfl⟩ := List.mem_map.mp hw
  have hj := List.mem_range.mp hj
  match j, hj with
  | 0, _ => exact zt_mem (List.mem_of_getElem? (i := 273) (by decide +kernel)) rfl
  | 1, _ => exact zt_mem (List.mem_of_getElem? (i := 275) (by decide +kernel)) rfl
  | 2, _ => exact zt_mem (List.mem_of_getElem? (i := 277) (by decide +kernel)) rfl
  | 3, _ => exact zt_mem (List.mem_of_getElem? (i := 279) (by decide +kernel)) rfl
  | 4, _ => exact zt_mem (List.mem_of_getElem? (i := 281) (by decide +kernel)) rfl
  | 5, _ => exact zt_mem (List.mem_of_getElem? (i := 283) (by decide +kernel)) rfl
  | 6, _ => exact zt_mem (List.mem_of_getElem? (i := 285) (by decide +kernel)) rfl
  | j + 7, h => exact absurd h (by omega)
def zT7 : u_T := fun k => match k with
  | 0 => ("CircuitWays$Pairs", "net", "LCircuitWays$Net;", true)
  | _ => ("CircuitWays$Pairs", "cost", "[I", true)
def zy7 : Nat → FieldType := fun k => match k with
  | 0 => .object "CircuitWays$Net"
  | _ => .array .int
theorem zn7 : ∀ a, a < 2 → ∀ b, b < 2 → a ≠ b → (zT7 a).2.1 ≠ (zT7 b).2.1 := by decide +kernel
theorem zo7 : ∀ k, k < 2 → parseFieldDescriptor (zT7 k).2.2.1 = some (zy7 k) := by decide +kernel
theorem zi7 : ∀ w ∈ u_ws "CircuitWays$Pairs" zT7 2, w ∈ zt := by
  intro w hw
  obtain ⟨j, hj, rfl⟩ := List.mem_map.mp hw
  have hj := List.mem_range.mp hj
  match j, hj with
  | 0, _ => exact zt_mem (List.mem_of_getElem? (i := 296) (by decide +kernel)) rfl
  | 1, _ => exact zt_mem (List.mem_of_getElem? (i := 298) (by decide +kernel)) rfl
  | j + 2, h => exact absurd h (by omega)
def zT8 : u_T := fun k => match k with
  | 0 => ("CircuitWays$Circles", "net", "LCircuitWays$Net;", true)
  | 1 => ("CircuitWays$Circles", "follower", "[I", true)
  | _ => ("CircuitWays$Circles", "members", "[I", true)
def zy8 : Nat → FieldType := fun k => match k with
  | 0 => .object "CircuitWays$Net"
  | 1 => .array .int
  | _ => .array .int
theorem zn8 : ∀ a, a < 3 → ∀ b, b < 3 → a ≠ b → (zT8 a).2.1 ≠ (zT8 b).2.1 := by decide +kernel
theorem zo8 : ∀ k, k < 3 → parseFieldDescriptor (zT8 k).2.2.1 = some (zy8 k) := by decide +kernel
theorem zi8 : ∀ w ∈ u_ws "CircuitWays$Circles" zT8 3, w ∈ zt := by
  intro w hw
  obtain ⟨j, hj, rfl⟩ := List.mem_map.mp hw
  have hj := List.mem_range.mp hj
  match j, hj with
  | 0, _ => exact zt_mem (List.mem_of_getElem? (i := 311) (by decide +kernel)) rfl
  | 1, _ => exact zt_mem (List.mem_of_getElem? (i := 313) (by decide +kernel)) rfl
  | 2, _ => exact zt_mem (List.mem_of_getElem? (i := 315) (by decide +kernel)) rfl
  | j + 3, h => exact absurd h (by omega)
def zT9 : u_T := fun k => match k with
  | 0 => ("CircuitWays$Ways", "net", "LCircuitWays$Net;", true)
  | _ => ("CircuitWays$Ways", "reachedWithout", "[I", true)
def zy9 : Nat → FieldType := fun k => match k with
  | 0 => .object "CircuitWays$Net"
  | _ => .array .int
theorem zn9 : ∀ a, a < 2 → ∀ b, b < 2 → a ≠ b → (zT9 a).2.1 ≠ (zT9 b).2.1 := by decide +kernel
theorem zo9 : ∀ k, k < 2 → parseFieldDescriptor (zT9 k).2.2.1 = some (zy9 k) := by decide +kernel
theorem zi9 : ∀ w ∈ u_ws "CircuitWays$Ways" zT9 2, w ∈ zt := by
  intro w hw
  obtain ⟨j, hj, rfl⟩ := List.mem_map.mp hw
  have hj := List.mem_range.mp hj
  match j, hj with
  | 0, _ => exact zt_mem (List.mem_of_getElem? (i := 326) (by decide +kernel)) rfl
  | 1, _ => exact zt_mem (List.mem_of_getElem? (i := 328) (by decide +kernel)) rfl
  | j + 2, h => exact absurd h (by omega)
def zT10 : u_T := fun k => match k with
  | 0 => ("CircuitWays$Row", "net", "LCircuitWays$Net;", true)
  | 1 => ("CircuitWays$Row", "numbers", "[I", true)
  | 2 => ("CircuitWays$Row", "trial", "[I", true)
  | _ => ("CircuitWays$Row", "size", "I", false)
def zy10 : Nat → FieldType := fun k => match k with
  | 0 => .object "CircuitWays$Net"
  | 1 => .array .int
  | 2 => .array .int
  | _ => .int
theorem zn10 : ∀ a, a < 4 → ∀ b, b < 4 → a ≠ b → (zT10 a).2.1 ≠ (zT10 b).2.1 := by decide +kernel
theorem zo10 : ∀ k, k < 4 → parseFieldDescriptor (zT10 k).2.2.1 = some (zy10 k) := by decide +kernel
theorem zi10 : ∀ w ∈ u_ws "CircuitWays$Row" zT10 4, w ∈ zt := by
  intro w hw
  obtain ⟨j, hj, rfl⟩ := List.mem_map.mp hw
  have hj := List.mem_range.mp hj
  match j, hj with
  | 0, _ => exact zt_mem (List.mem_of_getElem? (i := 342) (by decide +kernel)) rfl
  | 1, _ => exact zt_mem (List.mem_of_getElem? (i := 344) (by decide +kernel)) rfl
  | 2, _ => exact zt_mem (List.mem_of_getElem? (i := 346) (by decide +kernel)) rfl
  | 3, _ => exact zt_mem (List.mem_of_getElem? (i := 348) (by decide +kernel)) rfl
  | j + 4, h => exact absurd h (by omega)
def zT11 : u_T := fun k => match k with
  | 0 => ("CircuitWaysModel", "thrown", "I", false)
  | 1 => ("CircuitWaysModel", "nodes", "I", false)
  | 2 => ("CircuitWaysModel", "load", "[I", true)
  | 3 => ("CircuitWaysModel", "arc", "[I", true)
  | 4 => ("CircuitWaysModel", "price", "[I", true)
  | 5 => ("CircuitWaysModel", "isAhead", "[Z", true)
  | 6 => ("CircuitWaysModel", "most", "I", false)
  | 7 => ("CircuitWaysModel", "room", "I", false)
  | 8 => ("CircuitWaysModel", "open", "I", false)
  | 9 => ("CircuitWaysModel", "weight", "[I", true)
  | 10 => ("CircuitWaysModel", "next", "[I", true)
  | 11 => ("CircuitWaysModel", "row", "[I", true)
  | 12 => ("CircuitWaysModel", "rowSize", "I", false)
  | 13 => ("CircuitWaysModel", "isKnown", "Z", false)
  | 14 => ("CircuitWaysModel", "best", "I", false)
  | 15 => ("CircuitWaysModel", "many", "I", false)
  | 16 => ("CircuitWaysModel", "with", "[I", true)
  | 17 => ("CircuitWaysModel", "without", "[I", true)
  | 18 => ("CircuitWaysModel", "first", "[I", true)
  | 19 => ("CircuitWaysModel", "firstSize", "I", false)
  | 20 => ("CircuitWaysModel", "written", "[I", true)
  | 21 => ("CircuitWaysModel", "writtenSize", "I", false)
  | 22 => ("CircuitWaysModel", "used", "I", false)
  | 23 => ("CircuitWaysModel", "here", "I", false)
  | 24 => ("CircuitWaysModel", "hereLoad", "I", false)
  | 25 => ("CircuitWaysModel", "rounds", "I", false)
  | 26 => ("CircuitWaysModel", "edgeA", "[I", true)
  | 27 => ("CircuitWaysModel", "edgeB", "[I", true)
  | 28 => ("CircuitWaysModel", "edges", "I", false)
  | 29 => ("CircuitWaysModel", "part", "[I", true)
  | _ => ("CircuitWaysModel", "paired", "[I", true)
def zy11 : Nat → FieldType := fun k => match k with
  | 0 => .int
  | 1 => .int
  | 2 => .array .int
  | 3 => .array .int
  | 4 => .array .int
  | 5 => .array .boolean
  | 6 => .int
  | 7 => .int
  | 8 => .int
  | 9 => .array .int
  | 10 => .array .int
  | 11 => .array .int
  | 12 => .int
  | 13 => .boolean
  | 14 => .int
  | 15 => .int
  | 16 => .array .int
  | 17 => .array .int
  | 18 => .array .int
  | 19 => .int
  | 20 => .array .int
  | 21 => .int
  | 22 => .int
  | 23 => .int
  | 24 => .int
  | 25 => .int
  | 26 => .array .int
  | 27 => .array .int
  | 28 => .int
  | 29 => .array .int
  | _ => .array .int
theorem zn11 : ∀ a, a < 31 → ∀ b, b < 31 → a ≠ b → (zT11 a).2.1 ≠ (zT11 b).2.1 := by decide +kernel
theorem zo11 : ∀ k, k < 31 → parseFieldDescriptor (zT11 k).2.2.1 = some (zy11 k) := by decide +kernel
theorem zi11 : ∀ w ∈ u_ws "CircuitWaysModel" zT11 31, w ∈ zt := by
  intro w hw
  obtain ⟨j, hj, rfl⟩ := List.mem_map.mp hw
  have hj := List.mem_range.mp hj
  match j, hj with
  | 0, _ => exact zt_mem (List.mem_of_getElem? (i := 823) (by decide +kernel)) rfl
  | 1, _ => exact zt_mem (List.mem_of_getElem? (i := 825) (by decide +kernel)) rfl
  | 2, _ => exact zt_mem (List.mem_of_getElem? (i := 827) (by decide +kernel)) rfl
  | 3, _ => exact zt_mem (List.mem_of_getElem? (i := 829) (by decide +kernel)) rfl
  | 4, _ => exact zt_mem (List.mem_of_getElem? (i := 831) (by decide +kernel)) rfl
  | 5, _ => exact zt_mem (List.mem_of_getElem? (i := 833) (by decide +kernel)) rfl
  | 6, _ => exact zt_mem (List.mem_of_getElem? (i := 835) (by decide +kernel)) rfl
  | 7, _ => exact zt_mem (List.mem_of_getElem? (i := 837) (by decide +kernel)) rfl
  | 8, _ => exact zt_mem (List.mem_of_getElem? (i := 839) (by decide +kernel)) rfl
  | 9, _ => exact zt_mem (List.mem_of_getElem? (i := 841) (by decide +kernel)) rfl
  | 10, _ => exact zt_mem (List.mem_of_getElem? (i := 843) (by decide +kernel)) rfl
  | 11, _ => exact zt_mem (List.mem_of_getElem? (i := 845) (by decide +kernel)) rfl
  | 12, _ => exact zt_mem (List.mem_of_getElem? (i := 847) (by decide +kernel)) rfl
  | 13, _ => exact zt_mem (List.mem_of_getElem? (i := 849) (by decide +kernel)) rfl
  | 14, _ => exact zt_mem (List.mem_of_getElem? (i := 851) (by decide +kernel)) rfl
  | 15, _ => exact zt_mem (List.mem_of_getElem? (i := 853) (by decide +kernel)) rfl
  | 16, _ => exact zt_mem (List.mem_of_getElem? (i := 855) (by decide +kernel)) rfl
  | 17, _ => exact zt_mem (List.mem_of_getElem? (i := 857) (by decide +kernel)) rfl
  | 18, _ => exact zt_mem (List.mem_of_getElem? (i := 859) (by decide +kernel)) rfl
  | 19, _ => exact zt_mem (List.mem_of_getElem? (i := 861) (by decide +kernel)) rfl
  | 20, _ => exact zt_mem (List.mem_of_getElem? (i := 863) (by decide +kernel)) rfl
  | 21, _ => exact zt_mem (List.mem_of_getElem? (i := 865) (by decide +kernel)) rfl
  | 22, _ => exact zt_mem (List.mem_of_getElem? (i := 867) (by decide +kernel)) rfl
  | 23, _ => exact zt_mem (List.mem_of_getElem? (i := 869) (by decide +kernel)) rfl
  | 24, _ => exact zt_mem (List.mem_of_getElem? (i := 871) (by decide +kernel)) rfl
  | 25, _ => exact zt_mem (List.mem_of_getElem? (i := 873) (by decide +kernel)) rfl
  | 26, _ => exact zt_mem (List.mem_of_getElem? (i := 875) (by decide +kernel)) rfl
  | 27, _ => exact zt_mem (List.mem_of_getElem? (i := 877) (by decide +kernel)) rfl
  | 28, _ => exact zt_mem (List.mem_of_getElem? (i := 879) (by decide +kernel)) rfl
  | 29, _ => exact zt_mem (List.mem_of_getElem? (i := 881) (by decide +kernel)) rfl
  | 30, _ => exact zt_mem (List.mem_of_getElem? (i := 883) (by decide +kernel)) rfl
  | j + 31, h => exact absurd h (by omega)
abbrev zcl : List vw_C := [("CircuitWays", zT0, 9), ("CircuitWays$Net", zT1, 9), ("CircuitWays$Paths", zT2, 7), ("CircuitWays$Shares", zT3, 7), ("CircuitWays$Tails", zT4, 8), ("CircuitWays$FirstPlan", zT5, 8), ("CircuitWays$Tree", zT6, 7), ("CircuitWays$Pairs", zT7, 2), ("CircuitWays$Circles", zT8, 3), ("CircuitWays$Ways", zT9, 2), ("CircuitWays$Row", zT10, 4), ("CircuitWaysModel", zT11, 31)]
def zty : Nat → Nat → FieldType := fun c => match c with
  | 0 => zy0
  | 1 => zy1
  | 2 => zy2
  | 3 => zy3
  | 4 => zy4
  | 5 => zy5
  | 6 => zy6
  | 7 => zy7
  | 8 => zy8
  | 9 => zy9
  | 10 => zy10
  | _ => zy11
theorem zcl_in : ∀ (ci : Nat) (q : vw_C), zcl[ci]? = some q → (∀ w ∈ u_ws q.1 q.2.1 q.2.2, w ∈ zt) := by
  intro ci q h
  match ci, h with
  | 0, h => cases h; exact zi0
  | 1, h => cases h; exact zi1
  | 2, h => cases h; exact zi2
  | 3, h => cases h; exact zi3
  | 4, h => cases h; exact zi4
  | 5, h => cases h; exact zi5
  | 6, h => cases h; exact zi6
  | 7, h => cases h; exact zi7
  | 8, h => cases h; exact zi8
  | 9, h => cases h; exact zi9
  | 10, h => cases h; exact zi10
  | 11, h => cases h; exact zi11
  | k + 12, h => simp [zcl] at h
theorem zcl_ty : ∀ (ci : Nat) (q : vw_C), zcl[ci]? = some q → (∀ k, k < q.2.2 → parseFieldDescriptor (q.2.1 k).2.2.1 = some (zty ci k)) := by
  intro ci q h
  match ci, h with
  | 0, h => cases h; exact zo0
  | 1, h => cases h; exact zo1
  | 2, h => cases h; exact zo2
  | 3, h => cases h; exact zo3
  | 4, h => cases h; exact zo4
  | 5, h => cases h; exact zo5
  | 6, h => cases h; exact zo6
  | 7, h => cases h; exact zo7
  | 8, h => cases h; exact zo8
  | 9, h => cases h; exact zo9
  | 10, h => cases h; exact zo10
  | 11, h => cases h; exact zo11
  | k + 12, h => simp [zcl] at h
theorem zcl_nm : ∀ (ci : Nat) (q : vw_C), zcl[ci]? = some q → (∀ a, a < q.2.2 → ∀ b, b < q.2.2 → a ≠ b → (q.2.1 a).2.1 ≠ (q.2.1 b).2.1) := by
  intro ci q h
  match ci, h with
  | 0, h => cases h; exact zn0
  | 1, h => cases h; exact zn1
  | 2, h => cases h; exact zn2
  | 3, h => cases h; exact zn3
  | 4, h => cases h; exact zn4
  | 5, h => cases h; exact zn5
  | 6, h => cases h; exact zn6
  | 7, h => cases h; exact zn7
  | 8, h => cases h; exact zn8
  | 9, h => cases h; exact zn9
  | 10, h => cases h; exact zn10
  | 11, h => cases h; exact zn11
  | k + 12, h => simp [zcl] at h
theorem zw0 : Cond.instantiable "CircuitWays" 9 ∈ zt ∧ Cond.initialized "CircuitWays" ∈ zt := ⟨zt_mem (List.mem_of_getElem? (i := 55) (by decide +kernel)) rfl, zt_mem (List.mem_of_getElem? (i := 40) (by decide +kernel)) rfl⟩
theorem zw1 : Cond.instantiable "CircuitWays$Net" 9 ∈ zt ∧ Cond.initialized "CircuitWays$Net" ∈ zt := ⟨zt_mem (List.mem_of_getElem? (i := 63) (by decide +kernel)) rfl, zt_mem (List.mem_of_getElem? (i := 41) (by decide +kernel)) rfl⟩
theorem zw2 : Cond.instantiable "CircuitWays$Paths" 7 ∈ zt ∧ Cond.initialized "CircuitWays$Paths" ∈ zt := ⟨zt_mem (List.mem_of_getElem? (i := 130) (by decide +kernel)) rfl, zt_mem (List.mem_of_getElem? (i := 42) (by decide +kernel)) rfl⟩
theorem zw3 : Cond.instantiable "CircuitWays$Shares" 7 ∈ zt ∧ Cond.initialized "CircuitWays$Shares" ∈ zt := ⟨zt_mem (List.mem_of_getElem? (i := 162) (by decide +kernel)) rfl, zt_mem (List.mem_of_getElem? (i := 43) (by decide +kernel)) rfl⟩
theorem zw4 : Cond.instantiable "CircuitWays$Tails" 8 ∈ zt ∧ Cond.initialized "CircuitWays$Tails" ∈ zt := ⟨zt_mem (List.mem_of_getElem? (i := 193) (by decide +kernel)) rfl, zt_mem (List.mem_of_getElem? (i := 44) (by decide +kernel)) rfl⟩
theorem zw5 : Cond.instantiable "CircuitWays$FirstPlan" 8 ∈ zt ∧ Cond.initialized "CircuitWays$FirstPlan" ∈ zt := ⟨zt_mem (List.mem_of_getElem? (i := 225) (by decide +kernel)) rfl, zt_mem (List.mem_of_getElem? (i := 45) (by decide +kernel)) rfl⟩
theorem zw6 : Cond.instantiable "CircuitWays$Tree" 7 ∈ zt ∧ Cond.initialized "CircuitWays$Tree" ∈ zt := ⟨zt_mem (List.mem_of_getElem? (i := 258) (by decide +kernel)) rfl, zt_mem (List.mem_of_getElem? (i := 46) (by decide +kernel)) rfl⟩
theorem zw7 : Cond.instantiable "CircuitWays$Pairs" 2 ∈ zt ∧ Cond.initialized "CircuitWays$Pairs" ∈ zt := ⟨zt_mem (List.mem_of_getElem? (i := 289) (by decide +kernel)) rfl, zt_mem (List.mem_of_getElem? (i := 47) (by decide +kernel)) rfl⟩
theorem zw8 : Cond.instantiable "CircuitWays$Circles" 3 ∈ zt ∧ Cond.initialized "CircuitWays$Circles" ∈ zt := ⟨zt_mem (List.mem_of_getElem? (i := 302) (by decide +kernel)) rfl, zt_mem (List.mem_of_getElem? (i := 48) (by decide +kernel)) rfl⟩
theorem zw9 : Cond.instantiable "CircuitWays$Ways" 2 ∈ zt ∧ Cond.initialized "CircuitWays$Ways" ∈ zt := ⟨zt_mem (List.mem_of_getElem? (i := 319) (by decide +kernel)) rfl, zt_mem (List.mem_of_getElem? (i := 49) (by decide +kernel)) rfl⟩
theorem zw10 : Cond.instantiable "CircuitWays$Row" 4 ∈ zt ∧ Cond.initialized "CircuitWays$Row" ∈ zt := ⟨zt_mem (List.mem_of_getElem? (i := 332) (by decide +kernel)) rfl, zt_mem (List.mem_of_getElem? (i := 50) (by decide +kernel)) rfl⟩
theorem zw11 : Cond.instantiable "CircuitWaysModel" 31 ∈ zt ∧ Cond.initialized "CircuitWaysModel" ∈ zt := ⟨zt_mem (List.mem_of_getElem? (i := 786) (by decide +kernel)) rfl, zt_mem (List.mem_of_getElem? (i := 51) (by decide +kernel)) rfl⟩
theorem zcl_new : ∀ (ci : Nat) (q : vw_C), zcl[ci]? = some q → (Cond.instantiable q.1 q.2.2 ∈ zt ∧ Cond.initialized q.1 ∈ zt) := by
  intro ci q h
  match ci, h with
  | 0, h => cases h; exact zw0
  | 1, h => cases h; exact zw1
  | 2, h => cases h; exact zw2
  | 3, h => cases h; exact zw3
  | 4, h => cases h; exact zw4
  | 5, h => cases h; exact zw5
  | 6, h => cases h; exact zw6
  | 7, h => cases h; exact zw7
  | 8, h => cases h; exact zw8
  | 9, h => cases h; exact zw9
  | 10, h => cases h; exact zw10
  | 11, h => cases h; exact zw11
  | k + 12, h => simp [zcl] at h
def znest : List Cond := [.methodLinkNest "CircuitWays$Net" 45 (⟨"CircuitWays", "bit", "(I)I"⟩ : MethodName) "CircuitWays", .methodLinkNest "CircuitWays$Paths" 69 (⟨"CircuitWays", "bit", "(I)I"⟩ : MethodName) "CircuitWays", .methodLinkNest "CircuitWays$Paths" 81 (⟨"CircuitWays", "sum", "(II)I"⟩ : MethodName) "CircuitWays", .methodLinkNest "CircuitWays$Net" 54 (⟨"CircuitWays", "sum", "(II)I"⟩ : MethodName) "CircuitWays", .methodLinkNest "CircuitWays$Shares" 73 (⟨"CircuitWays", "sum", "(II)I"⟩ : MethodName) "CircuitWays", .methodLinkNest "CircuitWays$Tails" 49 (⟨"CircuitWays", "bit", "(I)I"⟩ : MethodName) "CircuitWays", .methodLinkNest "CircuitWays$Tails" 66 (⟨"CircuitWays", "sum", "(II)I"⟩ : MethodName) "CircuitWays", .methodLinkNest "CircuitWays$FirstPlan" 83 (⟨"CircuitWays", "bit", "(I)I"⟩ : MethodName) "CircuitWays", .methodLinkNest "CircuitWays$Shares" 70 (⟨"CircuitWays", "bit", "(I)I"⟩ : MethodName) "CircuitWays", .methodLinkNest "CircuitWays$Tree" 57 (⟨"CircuitWays", "sum", "(II)I"⟩ : MethodName) "CircuitWays", .methodLinkNest "CircuitWays$Pairs" 35 (⟨"CircuitWays", "sum", "(II)I"⟩ : MethodName) "CircuitWays", .methodLinkNest "CircuitWays$Row" 32 (⟨"CircuitWays", "bit", "(I)I"⟩ : MethodName) "CircuitWays", .methodLinkNest "CircuitWays$Row" 40 (⟨"CircuitWays", "sum", "(II)I"⟩ : MethodName) "CircuitWays"]
theorem znest_in : ∀ w ∈ znest, w ∈ lw_tbl := by
  have h : znest = [434, 469, 495, 503, 518, 553, 563, 582, 604, 642, 677, 753, 759].filterMap (fun i => lw_tbl[i]?) := by decide +kernel
  intro w hw
  rw [h] at hw
  obtain ⟨i, -, hi⟩ := List.mem_filterMap.mp hw
  exact List.mem_of_getElem? hi
theorem zarr_int : Cond.arrayClass .int ∈ zt := zt_mem (List.mem_of_getElem? (i := 128) (by decide +kernel)) rfl
theorem zarr_boolean : Cond.arrayClass .boolean ∈ zt := zt_mem (List.mem_of_getElem? (i := 223) (by decide +kernel)) rfl
end
section
abbrev zY : Type := MethodName × ByteArray × Nat × Option FieldType × String
def zWm (Y : zY) : Prop := Cond.code Y.1 Y.2.1 Y.2.2.1 Y.2.2.2.1 ∈ zt ∧ Cond.initialized Y.1.cls ∈ zt ∧ (Y.1.cls ≠ "java/lang/invoke/MethodHandle" ∧ Y.1.cls ≠ "java/lang/invoke/VarHandle") ∧ plainName Y.1.cls = true
def zWv (Y : zY) : Prop := zWm Y ∧ Cond.instanceMethod Y.1 ∈ zt ∧ Cond.selects Y.1.cls Y.1 Y.1 ∈ zt
def zWs (Y : zY) : Prop := zWm Y ∧ Cond.static Y.1 ∈ zt
def zWi (Y : zY) : Prop := zWm Y ∧ Cond.instanceMethod Y.1 ∈ zt ∧ Y.1.name = "<init>"
abbrev Y_La_law : zY := (⟨"CircuitWaysLaw", "law", "([I)Z"⟩, code, 4, some .boolean, "CircuitWaysLaw")
abbrev Y_CW_init : zY := (⟨"CircuitWays", "<init>", "()V"⟩, prog_1_method_1_code, 2, none, "CircuitWays")
set_option maxRecDepth 20000 in
theorem k_CW_init : zWi Y_CW_init := ⟨⟨zt_mem (List.mem_of_getElem? (i := 58) rfl) rfl, zt_mem (List.mem_of_getElem? (i := 40) (by decide +kernel)) rfl, by decide +kernel, by decide +kernel⟩, zt_mem (List.mem_of_getElem? (i := 57) (by decide +kernel)) rfl, rfl⟩
abbrev Y_Net_init : zY := (⟨"CircuitWays$Net", "<init>", "()V"⟩, prog_4_method_1_code, 2, none, "CircuitWays$Net")
set_option maxRecDepth 20000 in
theorem k_Net_init : zWi Y_Net_init := ⟨⟨zt_mem (List.mem_of_getElem? (i := 66) rfl) rfl, zt_mem (List.mem_of_getElem? (i := 41) (by decide +kernel)) rfl, by decide +kernel, by decide +kernel⟩, zt_mem (List.mem_of_getElem? (i := 65) (by decide +kernel)) rfl, rfl⟩
abbrev Y_Pat_init : zY := (⟨"CircuitWays$Paths", "<init>", "(LCircuitWays$Net;)V"⟩, prog_6_method_1_code, 2, none, "CircuitWays$Paths")
set_option maxRecDepth 20000 in
theorem k_Pat_init : zWi Y_Pat_init := ⟨⟨zt_mem (List.mem_of_getElem? (i := 133) rfl) rfl, zt_mem (List.mem_of_getElem? (i := 42) (by decide +kernel)) rfl, by decide +kernel, by decide +kernel⟩, zt_mem (List.mem_of_getElem? (i := 132) (by decide +kernel)) rfl, rfl⟩
abbrev Y_Sha_init : zY := (⟨"CircuitWays$Shares", "<init>", "(LCircuitWays$Net;LCircuitWays$Paths;)V"⟩, prog_8_method_1_code, 3, none, "CircuitWays$Shares")
set_option maxRecDepth 20000 in
theorem k_Sha_init : zWi Y_Sha_init := ⟨⟨zt_mem (List.mem_of_getElem? (i := 165) rfl) rfl, zt_mem (List.mem_of_getElem? (i := 43) (by decide +kernel)) rfl, by decide +kernel, by decide +kernel⟩, zt_mem (List.mem_of_getElem? (i := 164) (by decide +kernel)) rfl, rfl⟩
abbrev Y_Tai_init : zY := (⟨"CircuitWays$Tails", "<init>", "(LCircuitWays$Net;LCircuitWays$Paths;LCircuitWays$Shares;)V"⟩, prog_9_method_1_code, 4, none, "CircuitWays$Tails")
set_option maxRecDepth 20000 in
theorem k_Tai_init : zWi Y_Tai_init := ⟨⟨zt_mem (List.mem_of_getElem? (i := 196) rfl) rfl, zt_mem (List.mem_of_getElem? (i := 44) (by decide +kernel)) rfl, by decide +kernel, by decide +kernel⟩, zt_mem (List.mem_of_getElem? (i := 195) (by decide +kernel)) rfl, rfl⟩
abbrev Y_Fir_init : zY := (⟨"CircuitWays$FirstPlan", "<init>", "(LCircuitWays$Net;LCircuitWays$Shares;LCircuitWays$Tails;)V"⟩, prog_3_method_1_code, 4, none, "CircuitWays$FirstPlan")
set_option maxRecDepth 20000 in
theorem k_Fir_init : zWi Y_Fir_init := ⟨⟨zt_mem (List.mem_of_getElem? (i := 228) rfl) rfl, zt_mem (List.mem_of_getElem? (i := 45) (by decide +kernel)) rfl, by decide +kernel, by decide +kernel⟩, zt_mem (List.mem_of_getElem? (i := 227) (by decide +kernel)) rfl, rfl⟩
abbrev Y_Tre_init : zY := (⟨"CircuitWays$Tree", "<init>", "(LCircuitWays$Net;)V"⟩, prog_10_method_1_code, 2, none, "CircuitWays$Tree")
set_option maxRecDepth 20000 in
theorem k_Tre_init : zWi Y_Tre_init := ⟨⟨zt_mem (List.mem_of_getElem? (i := 261) rfl) rfl, zt_mem (List.mem_of_getElem? (i := 46) (by decide +kernel)) rfl, by decide +kernel, by decide +kernel⟩, zt_mem (List.mem_of_getElem? (i := 260) (by decide +kernel)) rfl, rfl⟩
abbrev Y_Pai_init : zY := (⟨"CircuitWays$Pairs", "<init>", "(LCircuitWays$Net;)V"⟩, prog_5_method_1_code, 2, none, "CircuitWays$Pairs")
set_option maxRecDepth 20000 in
theorem k_Pai_init : zWi Y_Pai_init := ⟨⟨zt_mem (List.mem_of_getElem? (i := 292) rfl) rfl, zt_mem (List.mem_of_getElem? (i := 47) (by decide +kernel)) rfl, by decide +kernel, by decide +kernel⟩, zt_mem (List.mem_of_getElem? (i := 291) (by decide +kernel)) rfl, rfl⟩
abbrev Y_Cir_init : zY := (⟨"CircuitWays$Circles", "<init>", "(LCircuitWays$Net;)V"⟩, prog_2_method_1_code, 3, none, "CircuitWays$Circles")
set_option maxRecDepth 20000 in
theorem k_Cir_init : zWi Y_Cir_init := ⟨⟨zt_mem (List.mem_of_getElem? (i := 305) rfl) rfl, zt_mem (List.mem_of_getElem? (i := 48) (by decide +kernel)) rfl, by decide +kernel, by decide +kernel⟩, zt_mem (List.mem_of_getElem? (i := 304) (by decide +kernel)) rfl, rfl⟩
abbrev Y_Way_init : zY := (⟨"CircuitWays$Ways", "<init>", "(LCircuitWays$Net;)V"⟩, prog_11_method_1_code, 2, none, "CircuitWays$Ways")
set_option maxRecDepth 20000 in
theorem k_Way_init : zWi Y_Way_init := ⟨⟨zt_mem (List.mem_of_getElem? (i := 322) rfl) rfl, zt_mem (List.mem_of_getElem? (i := 49) (by decide +kernel)) rfl, by decide +kernel, by decide +kernel⟩, zt_mem (List.mem_of_getElem? (i := 321) (by decide +kernel)) rfl, rfl⟩
abbrev Y_Row_init : zY := (⟨"CircuitWays$Row", "<init>", "(LCircuitWays$Net;)V"⟩, prog_7_method_1_code, 2, none, "CircuitWays$Row")
set_option maxRecDepth 20000 in
theorem k_Row_init : zWi Y_Row_init := ⟨⟨zt_mem (List.mem_of_getElem? (i := 335) rfl) rfl, zt_mem (List.mem_of_getElem? (i := 50) (by decide +kernel)) rfl, by decide +kernel, by decide +kernel⟩, zt_mem (List.mem_of_getElem? (i := 334) (by decide +kernel)) rfl, rfl⟩
abbrev Y_CW_node : zY := (⟨"CircuitWays", "node", "(I)I"⟩, prog_1_method_2_code, 2, (some .int), "CircuitWays")
set_option maxRecDepth 20000 in
theorem k_CW_node : zWv Y_CW_node := ⟨⟨zt_mem (List.mem_of_getElem? (i := 382) rfl) rfl, zt_mem (List.mem_of_getElem? (i := 40) (by decide +kernel)) rfl, by decide +kernel, by decide +kernel⟩, zt_mem (List.mem_of_getElem? (i := 380) (by decide +kernel)) rfl, zt_mem (List.mem_of_getElem? (i := 381) (by decide +kernel)) rfl⟩
abbrev Y_Net_addNode : zY := (⟨"CircuitWays$Net", "addNode", "(I)I"⟩, prog_4_method_6_code, 3, (some .int), "CircuitWays$Net")
set_option maxRecDepth 20000 in
theorem k_Net_addNode : zWv Y_Net_addNode := ⟨⟨zt_mem (List.mem_of_getElem? (i := 388) rfl) rfl, zt_mem (List.mem_of_getElem? (i := 41) (by decide +kernel)) rfl, by decide +kernel, by decide +kernel⟩, zt_mem (List.mem_of_getElem? (i := 386) (by decide +kernel)) rfl, zt_mem (List.mem_of_getElem? (i := 387) (by decide +kernel)) rfl⟩
abbrev Y_CW_arc : zY := (⟨"CircuitWays", "arc", "(III)I"⟩, prog_1_method_3_code, 4, (some .int), "CircuitWays")
set_option maxRecDepth 20000 in
theorem k_CW_arc : zWv Y_CW_arc := ⟨⟨zt_mem (List.mem_of_getElem? (i := 392) rfl) rfl, zt_mem (List.mem_of_getElem? (i := 40) (by decide +kernel)) rfl, by decide +kernel, by decide +kernel⟩, zt_mem (List.mem_of_getElem? (i := 390) (by decide +kernel)) rfl, zt_mem (List.mem_of_getElem? (i := 391) (by decide +kernel)) rfl⟩
abbrev Y_Net_areTwo : zY := (⟨"CircuitWays$Net", "areTwo", "(II)Z"⟩, prog_4_method_4_code, 3, (some .boolean), "CircuitWays$Net")
set_option maxRecDepth 20000 in
theorem k_Net_areTwo : zWv Y_Net_areTwo := ⟨⟨zt_mem (List.mem_of_getElem? (i := 396) rfl) rfl, zt_mem (List.mem_of_getElem? (i := 41) (by decide +kernel)) rfl, by decide +kernel, by decide +kernel⟩, zt_mem (List.mem_of_getElem? (i := 394) (by decide +kernel)) rfl, zt_mem (List.mem_of_getElem? (i := 395) (by decide +kernel)) rfl⟩
abbrev Y_Net_isNode : zY := (⟨"CircuitWays$Net", "isNode", "(I)Z"⟩, prog_4_method_2_code, 2, (some .boolean), "CircuitWays$Net")
set_option maxRecDepth 20000 in
theorem k_Net_isNode : zWv Y_Net_isNode := ⟨⟨zt_mem (List.mem_of_getElem? (i := 400) rfl) rfl, zt_mem (List.mem_of_getElem? (i := 41) (by decide +kernel)) rfl, by decide +kernel, by decide +kernel⟩, zt_mem (List.mem_of_getElem? (i := 398) (by decide +kernel)) rfl, zt_mem (List.mem_of_getElem? (i := 399) (by decide +kernel)) rfl⟩
abbrev Y_Net_changeCost : zY := (⟨"CircuitWays$Net", "changeCost", "(III)I"⟩, prog_4_method_7_code, 5, (some .int), "CircuitWays$Net")
set_option maxRecDepth 20000 in
theorem k_Net_changeCost : zWv Y_Net_changeCost := ⟨⟨zt_mem (List.mem_of_getElem? (i := 404) rfl) rfl, zt_mem (List.mem_of_getElem? (i := 41) (by decide +kernel)) rfl, by decide +kernel, by decide +kernel⟩, zt_mem (List.mem_of_getElem? (i := 402) (by decide +kernel)) rfl, zt_mem (List.mem_of_getElem? (i := 403) (by decide +kernel)) rfl⟩
abbrev Y_CW_orNone : zY := (⟨"CircuitWays", "orNone", "(I)I"⟩, prog_1_method_27_code, 1, (some .int), "CircuitWays")
set_option maxRecDepth 20000 in
theorem k_CW_orNone : zWs Y_CW_orNone := ⟨⟨zt_mem (List.mem_of_getElem? (i := 407) rfl) rfl, zt_mem (List.mem_of_getElem? (i := 40) (by decide +kernel)) rfl, by decide +kernel, by decide +kernel⟩, zt_mem (List.mem_of_getElem? (i := 406) (by decide +kernel)) rfl⟩
abbrev Y_CW_lose : zY := (⟨"CircuitWays", "lose", "(II)I"⟩, prog_1_method_4_code, 3, (some .int), "CircuitWays")
set_option maxRecDepth 20000 in
theorem k_CW_lose : zWv Y_CW_lose := ⟨⟨zt_mem (List.mem_of_getElem? (i := 413) rfl) rfl, zt_mem (List.mem_of_getElem? (i := 40) (by decide +kernel)) rfl, by decide +kernel, by decide +kernel⟩, zt_mem (List.mem_of_getElem? (i := 411) (by decide +kernel)) rfl, zt_mem (List.mem_of_getElem? (i := 412) (by decide +kernel)) rfl⟩
abbrev Y_CW_price : zY := (⟨"CircuitWays", "price", "(II)I"⟩, prog_1_method_5_code, 3, (some .int), "CircuitWays")
set_option maxRecDepth 20000 in
theorem k_CW_price : zWv Y_CW_price := ⟨⟨zt_mem (List.mem_of_getElem? (i := 417) rfl) rfl, zt_mem (List.mem_of_getElem? (i := 40) (by decide +kernel)) rfl, by decide +kernel, by decide +kernel⟩, zt_mem (List.mem_of_getElem? (i := 415) (by decide +kernel)) rfl, zt_mem (List.mem_of_getElem? (i := 416) (by decide +kernel)) rfl⟩
abbrev Y_Net_isPlace : zY := (⟨"CircuitWays$Net", "isPlace", "(I)Z"⟩, prog_4_method_3_code, 2, (some .boolean), "CircuitWays$Net")
set_option maxRecDepth 20000 in
theorem k_Net_isPlace : zWv Y_Net_isPlace := ⟨⟨zt_mem (List.mem_of_getElem? (i := 421) rfl) rfl, zt_mem (List.mem_of_getElem? (i := 41) (by decide +kernel)) rfl, by decide +kernel, by decide +kernel⟩, zt_mem (List.mem_of_getElem? (i := 419) (by decide +kernel)) rfl, zt_mem (List.mem_of_getElem? (i := 420) (by decide +kernel)) rfl⟩
abbrev Y_Net_changePrice : zY := (⟨"CircuitWays$Net", "changePrice", "(II)I"⟩, prog_4_method_8_code, 4, (some .int), "CircuitWays$Net")
set_option maxRecDepth 20000 in
theorem k_Net_changePrice : zWv Y_Net_changePrice := ⟨⟨zt_mem (List.mem_of_getElem? (i := 425) rfl) rfl, zt_mem (List.mem_of_getElem? (i := 41) (by decide +kernel)) rfl, by decide +kernel, by decide +kernel⟩, zt_mem (List.mem_of_getElem? (i := 423) (by decide +kernel)) rfl, zt_mem (List.mem_of_getElem? (i := 424) (by decide +kernel)) rfl⟩
abbrev Y_CW_ahead : zY := (⟨"CircuitWays", "ahead", "(IIZ)I"⟩, prog_1_method_6_code, 4, (some .int), "CircuitWays")
set_option maxRecDepth 20000 in
theorem k_CW_ahead : zWv Y_CW_ahead := ⟨⟨zt_mem (List.mem_of_getElem? (i := 429) rfl) rfl, zt_mem (List.mem_of_getElem? (i := 40) (by decide +kernel)) rfl, by decide +kernel, by decide +kernel⟩, zt_mem (List.mem_of_getElem? (i := 427) (by decide +kernel)) rfl, zt_mem (List.mem_of_getElem? (i := 428) (by decide +kernel)) rfl⟩
abbrev Y_Net_changeEarlier : zY := (⟨"CircuitWays$Net", "changeEarlier", "(IIZ)I"⟩, prog_4_method_9_code, 5, (some .int), "CircuitWays$Net")
set_option maxRecDepth 20000 in
theorem k_Net_changeEarlier : zWv Y_Net_changeEarlier := ⟨⟨zt_mem (List.mem_of_getElem? (i := 433) rfl) rfl, zt_mem (List.mem_of_getElem? (i := 41) (by decide +kernel)) rfl, by decide +kernel, by decide +kernel⟩, zt_mem (List.mem_of_getElem? (i := 431) (by decide +kernel)) rfl, zt_mem (List.mem_of_getElem? (i := 432) (by decide +kernel)) rfl⟩
abbrev Y_CW_bit : zY := (⟨"CircuitWays", "bit", "(I)I"⟩, prog_1_method_29_code, 1, (some .int), "CircuitWays")
set_option maxRecDepth 20000 in
theorem k_CW_bit : zWs Y_CW_bit := ⟨⟨zt_mem (List.mem_of_getElem? (i := 436) rfl) rfl, zt_mem (List.mem_of_getElem? (i := 40) (by decide +kernel)) rfl, by decide +kernel, by decide +kernel⟩, zt_mem (List.mem_of_getElem? (i := 435) (by decide +kernel)) rfl⟩
abbrev Y_CW_rule : zY := (⟨"CircuitWays", "rule", "(II)I"⟩, prog_1_method_7_code, 3, (some .int), "CircuitWays")
set_option maxRecDepth 20000 in
theorem k_CW_rule : zWv Y_CW_rule := ⟨⟨zt_mem (List.mem_of_getElem? (i := 440) rfl) rfl, zt_mem (List.mem_of_getElem? (i := 40) (by decide +kernel)) rfl, by decide +kernel, by decide +kernel⟩, zt_mem (List.mem_of_getElem? (i := 438) (by decide +kernel)) rfl, zt_mem (List.mem_of_getElem? (i := 439) (by decide +kernel)) rfl⟩
abbrev Y_Net_changeMost : zY := (⟨"CircuitWays$Net", "changeMost", "(I)I"⟩, prog_4_method_10_code, 3, (some .int), "CircuitWays$Net")
set_option maxRecDepth 20000 in
theorem k_Net_changeMost : zWv Y_Net_changeMost := ⟨⟨zt_mem (List.mem_of_getElem? (i := 444) rfl) rfl, zt_mem (List.mem_of_getElem? (i := 41) (by decide +kernel)) rfl, by decide +kernel, by decide +kernel⟩, zt_mem (List.mem_of_getElem? (i := 442) (by decide +kernel)) rfl, zt_mem (List.mem_of_getElem? (i := 443) (by decide +kernel)) rfl⟩
abbrev Y_Net_changeRoom : zY := (⟨"CircuitWays$Net", "changeRoom", "(I)I"⟩, prog_4_method_11_code, 3, (some .int), "CircuitWays$Net")
set_option maxRecDepth 20000 in
theorem k_Net_changeRoom : zWv Y_Net_changeRoom := ⟨⟨zt_mem (List.mem_of_getElem? (i := 448) rfl) rfl, zt_mem (List.mem_of_getElem? (i := 41) (by decide +kernel)) rfl, by decide +kernel, by decide +kernel⟩, zt_mem (List.mem_of_getElem? (i := 446) (by decide +kernel)) rfl, zt_mem (List.mem_of_getElem? (i := 447) (by decide +kernel)) rfl⟩
abbrev Y_Net_changeOpen : zY := (⟨"CircuitWays$Net", "changeOpen", "(I)I"⟩, prog_4_method_12_code, 3, (some .int), "CircuitWays$Net")
set_option maxRecDepth 20000 in
theorem k_Net_changeOpen : zWv Y_Net_changeOpen := ⟨⟨zt_mem (List.mem_of_getElem? (i := 452) rfl) rfl, zt_mem (List.mem_of_getElem? (i := 41) (by decide +kernel)) rfl, by decide +kernel, by decide +kernel⟩, zt_mem (List.mem_of_getElem? (i := 450) (by decide +kernel)) rfl, zt_mem (List.mem_of_getElem? (i := 451) (by decide +kernel)) rfl⟩
abbrev Y_CW_best : zY := (⟨"CircuitWays", "best", "()I"⟩, prog_1_method_8_code, 1, (some .int), "CircuitWays")
set_option maxRecDepth 20000 in
theorem k_CW_best : zWv Y_CW_best := ⟨⟨zt_mem (List.mem_of_getElem? (i := 456) rfl) rfl, zt_mem (List.mem_of_getElem? (i := 40) (by decide +kernel)) rfl, by decide +kernel, by decide +kernel⟩, zt_mem (List.mem_of_getElem? (i := 454) (by decide +kernel)) rfl, zt_mem (List.mem_of_getElem? (i := 455) (by decide +kernel)) rfl⟩
abbrev Y_Sha_refresh : zY := (⟨"CircuitWays$Shares", "refresh", "()V"⟩, prog_8_method_2_code, 4, none, "CircuitWays$Shares")
set_option maxRecDepth 20000 in
theorem k_Sha_refresh : zWv Y_Sha_refresh := ⟨⟨zt_mem (List.mem_of_getElem? (i := 460) rfl) rfl, zt_mem (List.mem_of_getElem? (i := 43) (by decide +kernel)) rfl, by decide +kernel, by decide +kernel⟩, zt_mem (List.mem_of_getElem? (i := 458) (by decide +kernel)) rfl, zt_mem (List.mem_of_getElem? (i := 459) (by decide +kernel)) rfl⟩
abbrev Y_Pat_compute : zY := (⟨"CircuitWays$Paths", "compute", "()V"⟩, prog_6_method_2_code, 4, none, "CircuitWays$Paths")
set_option maxRecDepth 20000 in
theorem k_Pat_compute : zWv Y_Pat_compute := ⟨⟨zt_mem (List.mem_of_getElem? (i := 464) rfl) rfl, zt_mem (List.mem_of_getElem? (i := 42) (by decide +kernel)) rfl, by decide +kernel, by decide +kernel⟩, zt_mem (List.mem_of_getElem? (i := 462) (by decide +kernel)) rfl, zt_mem (List.mem_of_getElem? (i := 463) (by decide +kernel)) rfl⟩
abbrev Y_Pat_addLoads : zY := (⟨"CircuitWays$Paths", "addLoads", "()V"⟩, prog_6_method_4_code, 3, none, "CircuitWays$Paths")
set_option maxRecDepth 20000 in
theorem k_Pat_addLoads : zWv Y_Pat_addLoads := ⟨⟨zt_mem (List.mem_of_getElem? (i := 468) rfl) rfl, zt_mem (List.mem_of_getElem? (i := 42) (by decide +kernel)) rfl, by decide +kernel, by decide +kernel⟩, zt_mem (List.mem_of_getElem? (i := 467) (by decide +kernel)) rfl, zt_mem (List.mem_of_getElem? (i := 0) (by decide +kernel)) rfl⟩
abbrev Y_Pat_clearPaths : zY := (⟨"CircuitWays$Paths", "clearPaths", "()V"⟩, prog_6_method_5_code, 3, none, "CircuitWays$Paths")
set_option maxRecDepth 20000 in
theorem k_Pat_clearPaths : zWv Y_Pat_clearPaths := ⟨⟨zt_mem (List.mem_of_getElem? (i := 473) rfl) rfl, zt_mem (List.mem_of_getElem? (i := 42) (by decide +kernel)) rfl, by decide +kernel, by decide +kernel⟩, zt_mem (List.mem_of_getElem? (i := 472) (by decide +kernel)) rfl, zt_mem (List.mem_of_getElem? (i := 1) (by decide +kernel)) rfl⟩
abbrev Y_Net_allPlaces : zY := (⟨"CircuitWays$Net", "allPlaces", "()I"⟩, prog_4_method_5_code, 1, (some .int), "CircuitWays$Net")
set_option maxRecDepth 20000 in
theorem k_Net_allPlaces : zWv Y_Net_allPlaces := ⟨⟨zt_mem (List.mem_of_getElem? (i := 477) rfl) rfl, zt_mem (List.mem_of_getElem? (i := 41) (by decide +kernel)) rfl, by decide +kernel, by decide +kernel⟩, zt_mem (List.mem_of_getElem? (i := 475) (by decide +kernel)) rfl, zt_mem (List.mem_of_getElem? (i := 476) (by decide +kernel)) rfl⟩
abbrev Y_Pat_followersOf : zY := (⟨"CircuitWays$Paths", "followersOf", "(I)I"⟩, prog_6_method_3_code, 5, (some .int), "CircuitWays$Paths")
set_option maxRecDepth 20000 in
theorem k_Pat_followersOf : zWv Y_Pat_followersOf := ⟨⟨zt_mem (List.mem_of_getElem? (i := 482) rfl) rfl, zt_mem (List.mem_of_getElem? (i := 42) (by decide +kernel)) rfl, by decide +kernel, by decide +kernel⟩, zt_mem (List.mem_of_getElem? (i := 481) (by decide +kernel)) rfl, zt_mem (List.mem_of_getElem? (i := 2) (by decide +kernel)) rfl⟩
abbrev Y_Pat_extend : zY := (⟨"CircuitWays$Paths", "extend", "(II)V"⟩, prog_6_method_6_code, 8, none, "CircuitWays$Paths")
set_option maxRecDepth 20000 in
theorem k_Pat_extend : zWv Y_Pat_extend := ⟨⟨zt_mem (List.mem_of_getElem? (i := 486) rfl) rfl, zt_mem (List.mem_of_getElem? (i := 42) (by decide +kernel)) rfl, by decide +kernel, by decide +kernel⟩, zt_mem (List.mem_of_getElem? (i := 485) (by decide +kernel)) rfl, zt_mem (List.mem_of_getElem? (i := 3) (by decide +kernel)) rfl⟩
abbrev Y_Pat_closeRound : zY := (⟨"CircuitWays$Paths", "closeRound", "(I)V"⟩, prog_6_method_7_code, 6, none, "CircuitWays$Paths")
set_option maxRecDepth 20000 in
theorem k_Pat_closeRound : zWv Y_Pat_closeRound := ⟨⟨zt_mem (List.mem_of_getElem? (i := 490) rfl) rfl, zt_mem (List.mem_of_getElem? (i := 42) (by decide +kernel)) rfl, by decide +kernel, by decide +kernel⟩, zt_mem (List.mem_of_getElem? (i := 489) (by decide +kernel)) rfl, zt_mem (List.mem_of_getElem? (i := 4) (by decide +kernel)) rfl⟩
abbrev Y_Net_costBack : zY := (⟨"CircuitWays$Net", "costBack", "(I)I"⟩, prog_4_method_15_code, 2, (some .int), "CircuitWays$Net")
set_option maxRecDepth 20000 in
theorem k_Net_costBack : zWv Y_Net_costBack := ⟨⟨zt_mem (List.mem_of_getElem? (i := 494) rfl) rfl, zt_mem (List.mem_of_getElem? (i := 41) (by decide +kernel)) rfl, by decide +kernel, by decide +kernel⟩, zt_mem (List.mem_of_getElem? (i := 492) (by decide +kernel)) rfl, zt_mem (List.mem_of_getElem? (i := 493) (by decide +kernel)) rfl⟩
abbrev Y_CW_sum : zY := (⟨"CircuitWays", "sum", "(II)I"⟩, prog_1_method_28_code, 2, (some .int), "CircuitWays")
set_option maxRecDepth 20000 in
theorem k_CW_sum : zWs Y_CW_sum := ⟨⟨zt_mem (List.mem_of_getElem? (i := 497) rfl) rfl, zt_mem (List.mem_of_getElem? (i := 40) (by decide +kernel)) rfl, by decide +kernel, by decide +kernel⟩, zt_mem (List.mem_of_getElem? (i := 496) (by decide +kernel)) rfl⟩
abbrev Y_Net_costOut : zY := (⟨"CircuitWays$Net", "costOut", "(I)I"⟩, prog_4_method_16_code, 4, (some .int), "CircuitWays$Net")
set_option maxRecDepth 20000 in
theorem k_Net_costOut : zWv Y_Net_costOut := ⟨⟨zt_mem (List.mem_of_getElem? (i := 502) rfl) rfl, zt_mem (List.mem_of_getElem? (i := 41) (by decide +kernel)) rfl, by decide +kernel, by decide +kernel⟩, zt_mem (List.mem_of_getElem? (i := 500) (by decide +kernel)) rfl, zt_mem (List.mem_of_getElem? (i := 501) (by decide +kernel)) rfl⟩
abbrev Y_JI_bitCount : zY := (⟨"java/lang/Integer", "bitCount", "(I)I"⟩, prog_14_method_49_code, 1, (some .int), "java/lang/Integer")
set_option maxRecDepth 20000 in
theorem k_JI_bitCount : zWs Y_JI_bitCount := ⟨⟨zt_mem (List.mem_of_getElem? (i := 506) rfl) rfl, zt_mem (List.mem_of_getElem? (i := 52) (by decide +kernel)) rfl, by decide +kernel, by decide +kernel⟩, zt_mem (List.mem_of_getElem? (i := 505) (by decide +kernel)) rfl⟩
abbrev Y_Sha_copyShare : zY := (⟨"CircuitWays$Shares", "copyShare", "(II)V"⟩, prog_8_method_7_code, 3, none, "CircuitWays$Shares")
set_option maxRecDepth 20000 in
theorem k_Sha_copyShare : zWv Y_Sha_copyShare := ⟨⟨zt_mem (List.mem_of_getElem? (i := 513) rfl) rfl, zt_mem (List.mem_of_getElem? (i := 43) (by decide +kernel)) rfl, by decide +kernel, by decide +kernel⟩, zt_mem (List.mem_of_getElem? (i := 512) (by decide +kernel)) rfl, zt_mem (List.mem_of_getElem? (i := 5) (by decide +kernel)) rfl⟩
abbrev Y_Sha_share : zY := (⟨"CircuitWays$Shares", "share", "(II)V"⟩, prog_8_method_6_code, 6, none, "CircuitWays$Shares")
set_option maxRecDepth 20000 in
theorem k_Sha_share : zWv Y_Sha_share := ⟨⟨zt_mem (List.mem_of_getElem? (i := 517) rfl) rfl, zt_mem (List.mem_of_getElem? (i := 43) (by decide +kernel)) rfl, by decide +kernel, by decide +kernel⟩, zt_mem (List.mem_of_getElem? (i := 516) (by decide +kernel)) rfl, zt_mem (List.mem_of_getElem? (i := 6) (by decide +kernel)) rfl⟩
abbrev Y_Sha_offer : zY := (⟨"CircuitWays$Shares", "offer", "(II)V"⟩, prog_8_method_8_code, 5, none, "CircuitWays$Shares")
set_option maxRecDepth 20000 in
theorem k_Sha_offer : zWv Y_Sha_offer := ⟨⟨zt_mem (List.mem_of_getElem? (i := 522) rfl) rfl, zt_mem (List.mem_of_getElem? (i := 43) (by decide +kernel)) rfl, by decide +kernel, by decide +kernel⟩, zt_mem (List.mem_of_getElem? (i := 521) (by decide +kernel)) rfl, zt_mem (List.mem_of_getElem? (i := 7) (by decide +kernel)) rfl⟩
abbrev Y_Sha_leastCost : zY := (⟨"CircuitWays$Shares", "leastCost", "()I"⟩, prog_8_method_3_code, 1, (some .int), "CircuitWays$Shares")
set_option maxRecDepth 20000 in
theorem k_Sha_leastCost : zWv Y_Sha_leastCost := ⟨⟨zt_mem (List.mem_of_getElem? (i := 526) rfl) rfl, zt_mem (List.mem_of_getElem? (i := 43) (by decide +kernel)) rfl, by decide +kernel, by decide +kernel⟩, zt_mem (List.mem_of_getElem? (i := 524) (by decide +kernel)) rfl, zt_mem (List.mem_of_getElem? (i := 525) (by decide +kernel)) rfl⟩
abbrev Y_CW_many : zY := (⟨"CircuitWays", "many", "()I"⟩, prog_1_method_9_code, 1, (some .int), "CircuitWays")
set_option maxRecDepth 20000 in
theorem k_CW_many : zWv Y_CW_many := ⟨⟨zt_mem (List.mem_of_getElem? (i := 530) rfl) rfl, zt_mem (List.mem_of_getElem? (i := 40) (by decide +kernel)) rfl, by decide +kernel, by decide +kernel⟩, zt_mem (List.mem_of_getElem? (i := 528) (by decide +kernel)) rfl, zt_mem (List.mem_of_getElem? (i := 529) (by decide +kernel)) rfl⟩
abbrev Y_Sha_leastWays : zY := (⟨"CircuitWays$Shares", "leastWays", "()I"⟩, prog_8_method_4_code, 1, (some .int), "CircuitWays$Shares")
set_option maxRecDepth 20000 in
theorem k_Sha_leastWays : zWv Y_Sha_leastWays := ⟨⟨zt_mem (List.mem_of_getElem? (i := 534) rfl) rfl, zt_mem (List.mem_of_getElem? (i := 43) (by decide +kernel)) rfl, by decide +kernel, by decide +kernel⟩, zt_mem (List.mem_of_getElem? (i := 532) (by decide +kernel)) rfl, zt_mem (List.mem_of_getElem? (i := 533) (by decide +kernel)) rfl⟩
abbrev Y_CW_first : zY := (⟨"CircuitWays", "first", "(I)I"⟩, prog_1_method_10_code, 2, (some .int), "CircuitWays")
set_option maxRecDepth 20000 in
theorem k_CW_first : zWv Y_CW_first := ⟨⟨zt_mem (List.mem_of_getElem? (i := 538) rfl) rfl, zt_mem (List.mem_of_getElem? (i := 40) (by decide +kernel)) rfl, by decide +kernel, by decide +kernel⟩, zt_mem (List.mem_of_getElem? (i := 536) (by decide +kernel)) rfl, zt_mem (List.mem_of_getElem? (i := 537) (by decide +kernel)) rfl⟩
abbrev Y_Fir_refresh : zY := (⟨"CircuitWays$FirstPlan", "refresh", "()V"⟩, prog_3_method_2_code, 2, none, "CircuitWays$FirstPlan")
set_option maxRecDepth 20000 in
theorem k_Fir_refresh : zWv Y_Fir_refresh := ⟨⟨zt_mem (List.mem_of_getElem? (i := 542) rfl) rfl, zt_mem (List.mem_of_getElem? (i := 45) (by decide +kernel)) rfl, by decide +kernel, by decide +kernel⟩, zt_mem (List.mem_of_getElem? (i := 540) (by decide +kernel)) rfl, zt_mem (List.mem_of_getElem? (i := 541) (by decide +kernel)) rfl⟩
abbrev Y_Fir_write : zY := (⟨"CircuitWays$FirstPlan", "write", "(I)V"⟩, prog_3_method_5_code, 2, none, "CircuitWays$FirstPlan")
set_option maxRecDepth 20000 in
theorem k_Fir_write : zWv Y_Fir_write := ⟨⟨zt_mem (List.mem_of_getElem? (i := 548) rfl) rfl, zt_mem (List.mem_of_getElem? (i := 45) (by decide +kernel)) rfl, by decide +kernel, by decide +kernel⟩, zt_mem (List.mem_of_getElem? (i := 547) (by decide +kernel)) rfl, zt_mem (List.mem_of_getElem? (i := 8) (by decide +kernel)) rfl⟩
abbrev Y_Tai_fill : zY := (⟨"CircuitWays$Tails", "fill", "(II)V"⟩, prog_9_method_2_code, 5, none, "CircuitWays$Tails")
set_option maxRecDepth 20000 in
theorem k_Tai_fill : zWv Y_Tai_fill := ⟨⟨zt_mem (List.mem_of_getElem? (i := 552) rfl) rfl, zt_mem (List.mem_of_getElem? (i := 44) (by decide +kernel)) rfl, by decide +kernel, by decide +kernel⟩, zt_mem (List.mem_of_getElem? (i := 550) (by decide +kernel)) rfl, zt_mem (List.mem_of_getElem? (i := 551) (by decide +kernel)) rfl⟩
abbrev Y_Tai_leastBehind : zY := (⟨"CircuitWays$Tails", "leastBehind", "(II)I"⟩, prog_9_method_5_code, 6, (some .int), "CircuitWays$Tails")
set_option maxRecDepth 20000 in
theorem k_Tai_leastBehind : zWv Y_Tai_leastBehind := ⟨⟨zt_mem (List.mem_of_getElem? (i := 557) rfl) rfl, zt_mem (List.mem_of_getElem? (i := 44) (by decide +kernel)) rfl, by decide +kernel, by decide +kernel⟩, zt_mem (List.mem_of_getElem? (i := 556) (by decide +kernel)) rfl, zt_mem (List.mem_of_getElem? (i := 9) (by decide +kernel)) rfl⟩
abbrev Y_Tai_costClosing : zY := (⟨"CircuitWays$Tails", "costClosing", "(II)I"⟩, prog_9_method_4_code, 3, (some .int), "CircuitWays$Tails")
set_option maxRecDepth 20000 in
theorem k_Tai_costClosing : zWv Y_Tai_costClosing := ⟨⟨zt_mem (List.mem_of_getElem? (i := 561) rfl) rfl, zt_mem (List.mem_of_getElem? (i := 44) (by decide +kernel)) rfl, by decide +kernel, by decide +kernel⟩, zt_mem (List.mem_of_getElem? (i := 559) (by decide +kernel)) rfl, zt_mem (List.mem_of_getElem? (i := 560) (by decide +kernel)) rfl⟩
abbrev Y_Tai_costOver : zY := (⟨"CircuitWays$Tails", "costOver", "(III)I"⟩, prog_9_method_3_code, 4, (some .int), "CircuitWays$Tails")
set_option maxRecDepth 20000 in
theorem k_Tai_costOver : zWv Y_Tai_costOver := ⟨⟨zt_mem (List.mem_of_getElem? (i := 567) rfl) rfl, zt_mem (List.mem_of_getElem? (i := 44) (by decide +kernel)) rfl, by decide +kernel, by decide +kernel⟩, zt_mem (List.mem_of_getElem? (i := 565) (by decide +kernel)) rfl, zt_mem (List.mem_of_getElem? (i := 566) (by decide +kernel)) rfl⟩
abbrev Y_Fir_writeRound : zY := (⟨"CircuitWays$FirstPlan", "writeRound", "()V"⟩, prog_3_method_3_code, 5, none, "CircuitWays$FirstPlan")
set_option maxRecDepth 20000 in
theorem k_Fir_writeRound : zWv Y_Fir_writeRound := ⟨⟨zt_mem (List.mem_of_getElem? (i := 575) rfl) rfl, zt_mem (List.mem_of_getElem? (i := 45) (by decide +kernel)) rfl, by decide +kernel, by decide +kernel⟩, zt_mem (List.mem_of_getElem? (i := 574) (by decide +kernel)) rfl, zt_mem (List.mem_of_getElem? (i := 10) (by decide +kernel)) rfl⟩
abbrev Y_Fir_followerDue : zY := (⟨"CircuitWays$FirstPlan", "followerDue", "(II)I"⟩, prog_3_method_4_code, 4, (some .int), "CircuitWays$FirstPlan")
set_option maxRecDepth 20000 in
theorem k_Fir_followerDue : zWv Y_Fir_followerDue := ⟨⟨zt_mem (List.mem_of_getElem? (i := 580) rfl) rfl, zt_mem (List.mem_of_getElem? (i := 45) (by decide +kernel)) rfl, by decide +kernel, by decide +kernel⟩, zt_mem (List.mem_of_getElem? (i := 579) (by decide +kernel)) rfl, zt_mem (List.mem_of_getElem? (i := 11) (by decide +kernel)) rfl⟩
abbrev Y_CW_with : zY := (⟨"CircuitWays", "with", "(II)I"⟩, prog_1_method_11_code, 3, (some .int), "CircuitWays")
set_option maxRecDepth 20000 in
theorem k_CW_with : zWv Y_CW_with := ⟨⟨zt_mem (List.mem_of_getElem? (i := 587) rfl) rfl, zt_mem (List.mem_of_getElem? (i := 40) (by decide +kernel)) rfl, by decide +kernel, by decide +kernel⟩, zt_mem (List.mem_of_getElem? (i := 585) (by decide +kernel)) rfl, zt_mem (List.mem_of_getElem? (i := 586) (by decide +kernel)) rfl⟩
abbrev Y_Tai_leastThrough : zY := (⟨"CircuitWays$Tails", "leastThrough", "(III)I"⟩, prog_9_method_6_code, 9, (some .int), "CircuitWays$Tails")
set_option maxRecDepth 20000 in
theorem k_Tai_leastThrough : zWv Y_Tai_leastThrough := ⟨⟨zt_mem (List.mem_of_getElem? (i := 594) rfl) rfl, zt_mem (List.mem_of_getElem? (i := 44) (by decide +kernel)) rfl, by decide +kernel, by decide +kernel⟩, zt_mem (List.mem_of_getElem? (i := 592) (by decide +kernel)) rfl, zt_mem (List.mem_of_getElem? (i := 593) (by decide +kernel)) rfl⟩
abbrev Y_CW_without : zY := (⟨"CircuitWays", "without", "(I)I"⟩, prog_1_method_12_code, 2, (some .int), "CircuitWays")
set_option maxRecDepth 20000 in
theorem k_CW_without : zWv Y_CW_without := ⟨⟨zt_mem (List.mem_of_getElem? (i := 599) rfl) rfl, zt_mem (List.mem_of_getElem? (i := 40) (by decide +kernel)) rfl, by decide +kernel, by decide +kernel⟩, zt_mem (List.mem_of_getElem? (i := 597) (by decide +kernel)) rfl, zt_mem (List.mem_of_getElem? (i := 598) (by decide +kernel)) rfl⟩
abbrev Y_Sha_leastLeavingOut : zY := (⟨"CircuitWays$Shares", "leastLeavingOut", "(I)I"⟩, prog_8_method_5_code, 2, (some .int), "CircuitWays$Shares")
set_option maxRecDepth 20000 in
theorem k_Sha_leastLeavingOut : zWv Y_Sha_leastLeavingOut := ⟨⟨zt_mem (List.mem_of_getElem? (i := 603) rfl) rfl, zt_mem (List.mem_of_getElem? (i := 43) (by decide +kernel)) rfl, by decide +kernel, by decide +kernel⟩, zt_mem (List.mem_of_getElem? (i := 601) (by decide +kernel)) rfl, zt_mem (List.mem_of_getElem? (i := 602) (by decide +kernel)) rfl⟩
abbrev Y_CW_filter : zY := (⟨"CircuitWays", "filter", "(I)I"⟩, prog_1_method_13_code, 2, (some .int), "CircuitWays")
set_option maxRecDepth 20000 in
theorem k_CW_filter : zWv Y_CW_filter := ⟨⟨zt_mem (List.mem_of_getElem? (i := 608) rfl) rfl, zt_mem (List.mem_of_getElem? (i := 40) (by decide +kernel)) rfl, by decide +kernel, by decide +kernel⟩, zt_mem (List.mem_of_getElem? (i := 606) (by decide +kernel)) rfl, zt_mem (List.mem_of_getElem? (i := 607) (by decide +kernel)) rfl⟩
abbrev Y_Tai_dropArcsAbove : zY := (⟨"CircuitWays$Tails", "dropArcsAbove", "(I)I"⟩, prog_9_method_7_code, 5, (some .int), "CircuitWays$Tails")
set_option maxRecDepth 20000 in
theorem k_Tai_dropArcsAbove : zWv Y_Tai_dropArcsAbove := ⟨⟨zt_mem (List.mem_of_getElem? (i := 612) rfl) rfl, zt_mem (List.mem_of_getElem? (i := 44) (by decide +kernel)) rfl, by decide +kernel, by decide +kernel⟩, zt_mem (List.mem_of_getElem? (i := 610) (by decide +kernel)) rfl, zt_mem (List.mem_of_getElem? (i := 611) (by decide +kernel)) rfl⟩
abbrev Y_CW_weight : zY := (⟨"CircuitWays", "weight", "(II)I"⟩, prog_1_method_14_code, 3, (some .int), "CircuitWays")
set_option maxRecDepth 20000 in
theorem k_CW_weight : zWv Y_CW_weight := ⟨⟨zt_mem (List.mem_of_getElem? (i := 618) rfl) rfl, zt_mem (List.mem_of_getElem? (i := 40) (by decide +kernel)) rfl, by decide +kernel, by decide +kernel⟩, zt_mem (List.mem_of_getElem? (i := 616) (by decide +kernel)) rfl, zt_mem (List.mem_of_getElem? (i := 617) (by decide +kernel)) rfl⟩
abbrev Y_Tre_changeWeight : zY := (⟨"CircuitWays$Tree", "changeWeight", "(II)I"⟩, prog_10_method_2_code, 4, (some .int), "CircuitWays$Tree")
set_option maxRecDepth 20000 in
theorem k_Tre_changeWeight : zWv Y_Tre_changeWeight := ⟨⟨zt_mem (List.mem_of_getElem? (i := 623) rfl) rfl, zt_mem (List.mem_of_getElem? (i := 46) (by decide +kernel)) rfl, by decide +kernel, by decide +kernel⟩, zt_mem (List.mem_of_getElem? (i := 621) (by decide +kernel)) rfl, zt_mem (List.mem_of_getElem? (i := 622) (by decide +kernel)) rfl⟩
abbrev Y_CW_bound : zY := (⟨"CircuitWays", "bound", "()I"⟩, prog_1_method_15_code, 1, (some .int), "CircuitWays")
set_option maxRecDepth 20000 in
theorem k_CW_bound : zWv Y_CW_bound := ⟨⟨zt_mem (List.mem_of_getElem? (i := 627) rfl) rfl, zt_mem (List.mem_of_getElem? (i := 40) (by decide +kernel)) rfl, by decide +kernel, by decide +kernel⟩, zt_mem (List.mem_of_getElem? (i := 625) (by decide +kernel)) rfl, zt_mem (List.mem_of_getElem? (i := 626) (by decide +kernel)) rfl⟩
abbrev Y_Tre_grow : zY := (⟨"CircuitWays$Tree", "grow", "()Z"⟩, prog_10_method_3_code, 2, (some .boolean), "CircuitWays$Tree")
set_option maxRecDepth 20000 in
theorem k_Tre_grow : zWv Y_Tre_grow := ⟨⟨zt_mem (List.mem_of_getElem? (i := 631) rfl) rfl, zt_mem (List.mem_of_getElem? (i := 46) (by decide +kernel)) rfl, by decide +kernel, by decide +kernel⟩, zt_mem (List.mem_of_getElem? (i := 629) (by decide +kernel)) rfl, zt_mem (List.mem_of_getElem? (i := 630) (by decide +kernel)) rfl⟩
abbrev Y_Tre_chooseJoining : zY := (⟨"CircuitWays$Tree", "chooseJoining", "()Z"⟩, prog_10_method_7_code, 6, (some .boolean), "CircuitWays$Tree")
set_option maxRecDepth 20000 in
theorem k_Tre_chooseJoining : zWv Y_Tre_chooseJoining := ⟨⟨zt_mem (List.mem_of_getElem? (i := 635) rfl) rfl, zt_mem (List.mem_of_getElem? (i := 46) (by decide +kernel)) rfl, by decide +kernel, by decide +kernel⟩, zt_mem (List.mem_of_getElem? (i := 634) (by decide +kernel)) rfl, zt_mem (List.mem_of_getElem? (i := 12) (by decide +kernel)) rfl⟩
abbrev Y_Tre_edgeCost : zY := (⟨"CircuitWays$Tree", "edgeCost", "(II)I"⟩, prog_10_method_6_code, 4, (some .int), "CircuitWays$Tree")
set_option maxRecDepth 20000 in
theorem k_Tre_edgeCost : zWv Y_Tre_edgeCost := ⟨⟨zt_mem (List.mem_of_getElem? (i := 640) rfl) rfl, zt_mem (List.mem_of_getElem? (i := 46) (by decide +kernel)) rfl, by decide +kernel, by decide +kernel⟩, zt_mem (List.mem_of_getElem? (i := 639) (by decide +kernel)) rfl, zt_mem (List.mem_of_getElem? (i := 13) (by decide +kernel)) rfl⟩
abbrev Y_Tre_choose : zY := (⟨"CircuitWays$Tree", "choose", "(II)Z"⟩, prog_10_method_9_code, 5, (some .boolean), "CircuitWays$Tree")
set_option maxRecDepth 20000 in
theorem k_Tre_choose : zWv Y_Tre_choose := ⟨⟨zt_mem (List.mem_of_getElem? (i := 646) rfl) rfl, zt_mem (List.mem_of_getElem? (i := 46) (by decide +kernel)) rfl, by decide +kernel, by decide +kernel⟩, zt_mem (List.mem_of_getElem? (i := 645) (by decide +kernel)) rfl, zt_mem (List.mem_of_getElem? (i := 14) (by decide +kernel)) rfl⟩
abbrev Y_Tre_chooseAtHouse : zY := (⟨"CircuitWays$Tree", "chooseAtHouse", "(I)Z"⟩, prog_10_method_8_code, 5, (some .boolean), "CircuitWays$Tree")
set_option maxRecDepth 20000 in
theorem k_Tre_chooseAtHouse : zWv Y_Tre_chooseAtHouse := ⟨⟨zt_mem (List.mem_of_getElem? (i := 650) rfl) rfl, zt_mem (List.mem_of_getElem? (i := 46) (by decide +kernel)) rfl, by decide +kernel, by decide +kernel⟩, zt_mem (List.mem_of_getElem? (i := 649) (by decide +kernel)) rfl, zt_mem (List.mem_of_getElem? (i := 15) (by decide +kernel)) rfl⟩
abbrev Y_Tre_lowerBound : zY := (⟨"CircuitWays$Tree", "lowerBound", "()I"⟩, prog_10_method_4_code, 3, (some .int), "CircuitWays$Tree")
set_option maxRecDepth 20000 in
theorem k_Tre_lowerBound : zWv Y_Tre_lowerBound := ⟨⟨zt_mem (List.mem_of_getElem? (i := 654) rfl) rfl, zt_mem (List.mem_of_getElem? (i := 46) (by decide +kernel)) rfl, by decide +kernel, by decide +kernel⟩, zt_mem (List.mem_of_getElem? (i := 652) (by decide +kernel)) rfl, zt_mem (List.mem_of_getElem? (i := 653) (by decide +kernel)) rfl⟩
abbrev Y_CW_edge : zY := (⟨"CircuitWays", "edge", "(II)I"⟩, prog_1_method_16_code, 3, (some .int), "CircuitWays")
set_option maxRecDepth 20000 in
theorem k_CW_edge : zWv Y_CW_edge := ⟨⟨zt_mem (List.mem_of_getElem? (i := 658) rfl) rfl, zt_mem (List.mem_of_getElem? (i := 40) (by decide +kernel)) rfl, by decide +kernel, by decide +kernel⟩, zt_mem (List.mem_of_getElem? (i := 656) (by decide +kernel)) rfl, zt_mem (List.mem_of_getElem? (i := 657) (by decide +kernel)) rfl⟩
abbrev Y_CW_degree : zY := (⟨"CircuitWays", "degree", "(I)I"⟩, prog_1_method_17_code, 2, (some .int), "CircuitWays")
set_option maxRecDepth 20000 in
theorem k_CW_degree : zWv Y_CW_degree := ⟨⟨zt_mem (List.mem_of_getElem? (i := 662) rfl) rfl, zt_mem (List.mem_of_getElem? (i := 40) (by decide +kernel)) rfl, by decide +kernel, by decide +kernel⟩, zt_mem (List.mem_of_getElem? (i := 660) (by decide +kernel)) rfl, zt_mem (List.mem_of_getElem? (i := 661) (by decide +kernel)) rfl⟩
abbrev Y_Tre_edgesAt : zY := (⟨"CircuitWays$Tree", "edgesAt", "(I)I"⟩, prog_10_method_5_code, 4, (some .int), "CircuitWays$Tree")
set_option maxRecDepth 20000 in
theorem k_Tre_edgesAt : zWv Y_Tre_edgesAt := ⟨⟨zt_mem (List.mem_of_getElem? (i := 666) rfl) rfl, zt_mem (List.mem_of_getElem? (i := 46) (by decide +kernel)) rfl, by decide +kernel, by decide +kernel⟩, zt_mem (List.mem_of_getElem? (i := 664) (by decide +kernel)) rfl, zt_mem (List.mem_of_getElem? (i := 665) (by decide +kernel)) rfl⟩
abbrev Y_CW_pairing : zY := (⟨"CircuitWays", "pairing", "()I"⟩, prog_1_method_18_code, 1, (some .int), "CircuitWays")
set_option maxRecDepth 20000 in
theorem k_CW_pairing : zWv Y_CW_pairing := ⟨⟨zt_mem (List.mem_of_getElem? (i := 670) rfl) rfl, zt_mem (List.mem_of_getElem? (i := 40) (by decide +kernel)) rfl, by decide +kernel, by decide +kernel⟩, zt_mem (List.mem_of_getElem? (i := 668) (by decide +kernel)) rfl, zt_mem (List.mem_of_getElem? (i := 669) (by decide +kernel)) rfl⟩
abbrev Y_Pai_leastCost : zY := (⟨"CircuitWays$Pairs", "leastCost", "()I"⟩, prog_5_method_2_code, 6, (some .int), "CircuitWays$Pairs")
set_option maxRecDepth 20000 in
theorem k_Pai_leastCost : zWv Y_Pai_leastCost := ⟨⟨zt_mem (List.mem_of_getElem? (i := 674) rfl) rfl, zt_mem (List.mem_of_getElem? (i := 47) (by decide +kernel)) rfl, by decide +kernel, by decide +kernel⟩, zt_mem (List.mem_of_getElem? (i := 672) (by decide +kernel)) rfl, zt_mem (List.mem_of_getElem? (i := 673) (by decide +kernel)) rfl⟩
abbrev Y_CW_next : zY := (⟨"CircuitWays", "next", "(II)I"⟩, prog_1_method_19_code, 3, (some .int), "CircuitWays")
set_option maxRecDepth 20000 in
theorem k_CW_next : zWv Y_CW_next := ⟨⟨zt_mem (List.mem_of_getElem? (i := 682) rfl) rfl, zt_mem (List.mem_of_getElem? (i := 40) (by decide +kernel)) rfl, by decide +kernel, by decide +kernel⟩, zt_mem (List.mem_of_getElem? (i := 680) (by decide +kernel)) rfl, zt_mem (List.mem_of_getElem? (i := 681) (by decide +kernel)) rfl⟩
abbrev Y_Cir_changeFollower : zY := (⟨"CircuitWays$Circles", "changeFollower", "(II)I"⟩, prog_2_method_2_code, 4, (some .int), "CircuitWays$Circles")
set_option maxRecDepth 20000 in
theorem k_Cir_changeFollower : zWv Y_Cir_changeFollower := ⟨⟨zt_mem (List.mem_of_getElem? (i := 686) rfl) rfl, zt_mem (List.mem_of_getElem? (i := 48) (by decide +kernel)) rfl, by decide +kernel, by decide +kernel⟩, zt_mem (List.mem_of_getElem? (i := 684) (by decide +kernel)) rfl, zt_mem (List.mem_of_getElem? (i := 685) (by decide +kernel)) rfl⟩
abbrev Y_CW_circle : zY := (⟨"CircuitWays", "circle", "(I)I"⟩, prog_1_method_20_code, 3, (some .int), "CircuitWays")
set_option maxRecDepth 20000 in
theorem k_CW_circle : zWv Y_CW_circle := ⟨⟨zt_mem (List.mem_of_getElem? (i := 690) rfl) rfl, zt_mem (List.mem_of_getElem? (i := 40) (by decide +kernel)) rfl, by decide +kernel, by decide +kernel⟩, zt_mem (List.mem_of_getElem? (i := 688) (by decide +kernel)) rfl, zt_mem (List.mem_of_getElem? (i := 689) (by decide +kernel)) rfl⟩
abbrev Y_Cir_find : zY := (⟨"CircuitWays$Circles", "find", "()I"⟩, prog_2_method_3_code, 4, (some .int), "CircuitWays$Circles")
set_option maxRecDepth 20000 in
theorem k_Cir_find : zWv Y_Cir_find := ⟨⟨zt_mem (List.mem_of_getElem? (i := 694) rfl) rfl, zt_mem (List.mem_of_getElem? (i := 48) (by decide +kernel)) rfl, by decide +kernel, by decide +kernel⟩, zt_mem (List.mem_of_getElem? (i := 692) (by decide +kernel)) rfl, zt_mem (List.mem_of_getElem? (i := 693) (by decide +kernel)) rfl⟩
abbrev Y_Cir_circleFrom : zY := (⟨"CircuitWays$Circles", "circleFrom", "(I)I"⟩, prog_2_method_4_code, 5, (some .int), "CircuitWays$Circles")
set_option maxRecDepth 20000 in
theorem k_Cir_circleFrom : zWv Y_Cir_circleFrom := ⟨⟨zt_mem (List.mem_of_getElem? (i := 698) rfl) rfl, zt_mem (List.mem_of_getElem? (i := 48) (by decide +kernel)) rfl, by decide +kernel, by decide +kernel⟩, zt_mem (List.mem_of_getElem? (i := 697) (by decide +kernel)) rfl, zt_mem (List.mem_of_getElem? (i := 16) (by decide +kernel)) rfl⟩
abbrev Y_CW_nearest : zY := (⟨"CircuitWays", "nearest", "(I)I"⟩, prog_1_method_21_code, 2, (some .int), "CircuitWays")
set_option maxRecDepth 20000 in
theorem k_CW_nearest : zWv Y_CW_nearest := ⟨⟨zt_mem (List.mem_of_getElem? (i := 702) rfl) rfl, zt_mem (List.mem_of_getElem? (i := 40) (by decide +kernel)) rfl, by decide +kernel, by decide +kernel⟩, zt_mem (List.mem_of_getElem? (i := 700) (by decide +kernel)) rfl, zt_mem (List.mem_of_getElem? (i := 701) (by decide +kernel)) rfl⟩
abbrev Y_Way_nearestLeading : zY := (⟨"CircuitWays$Ways", "nearestLeading", "(I)I"⟩, prog_11_method_2_code, 3, (some .int), "CircuitWays$Ways")
set_option maxRecDepth 20000 in
theorem k_Way_nearestLeading : zWv Y_Way_nearestLeading := ⟨⟨zt_mem (List.mem_of_getElem? (i := 706) rfl) rfl, zt_mem (List.mem_of_getElem? (i := 49) (by decide +kernel)) rfl, by decide +kernel, by decide +kernel⟩, zt_mem (List.mem_of_getElem? (i := 704) (by decide +kernel)) rfl, zt_mem (List.mem_of_getElem? (i := 705) (by decide +kernel)) rfl⟩
abbrev Y_Way_reached : zY := (⟨"CircuitWays$Ways", "reached", "(I)I"⟩, prog_11_method_5_code, 5, (some .int), "CircuitWays$Ways")
set_option maxRecDepth 20000 in
theorem k_Way_reached : zWv Y_Way_reached := ⟨⟨zt_mem (List.mem_of_getElem? (i := 710) rfl) rfl, zt_mem (List.mem_of_getElem? (i := 49) (by decide +kernel)) rfl, by decide +kernel, by decide +kernel⟩, zt_mem (List.mem_of_getElem? (i := 709) (by decide +kernel)) rfl, zt_mem (List.mem_of_getElem? (i := 17) (by decide +kernel)) rfl⟩
abbrev Y_Way_stepFrom : zY := (⟨"CircuitWays$Ways", "stepFrom", "(II)I"⟩, prog_11_method_6_code, 5, (some .int), "CircuitWays$Ways")
set_option maxRecDepth 20000 in
theorem k_Way_stepFrom : zWv Y_Way_stepFrom := ⟨⟨zt_mem (List.mem_of_getElem? (i := 714) rfl) rfl, zt_mem (List.mem_of_getElem? (i := 49) (by decide +kernel)) rfl, by decide +kernel, by decide +kernel⟩, zt_mem (List.mem_of_getElem? (i := 713) (by decide +kernel)) rfl, zt_mem (List.mem_of_getElem? (i := 18) (by decide +kernel)) rfl⟩
abbrev Y_Way_leads : zY := (⟨"CircuitWays$Ways", "leads", "(II)Z"⟩, prog_11_method_4_code, 3, (some .boolean), "CircuitWays$Ways")
set_option maxRecDepth 20000 in
theorem k_Way_leads : zWv Y_Way_leads := ⟨⟨zt_mem (List.mem_of_getElem? (i := 720) rfl) rfl, zt_mem (List.mem_of_getElem? (i := 49) (by decide +kernel)) rfl, by decide +kernel, by decide +kernel⟩, zt_mem (List.mem_of_getElem? (i := 719) (by decide +kernel)) rfl, zt_mem (List.mem_of_getElem? (i := 19) (by decide +kernel)) rfl⟩
abbrev Y_Way_isNearest : zY := (⟨"CircuitWays$Ways", "isNearest", "(II)Z"⟩, prog_11_method_3_code, 4, (some .boolean), "CircuitWays$Ways")
set_option maxRecDepth 20000 in
theorem k_Way_isNearest : zWv Y_Way_isNearest := ⟨⟨zt_mem (List.mem_of_getElem? (i := 724) rfl) rfl, zt_mem (List.mem_of_getElem? (i := 49) (by decide +kernel)) rfl, by decide +kernel, by decide +kernel⟩, zt_mem (List.mem_of_getElem? (i := 723) (by decide +kernel)) rfl, zt_mem (List.mem_of_getElem? (i := 20) (by decide +kernel)) rfl⟩
abbrev Y_CW_put : zY := (⟨"CircuitWays", "put", "(I)I"⟩, prog_1_method_22_code, 2, (some .int), "CircuitWays")
set_option maxRecDepth 20000 in
theorem k_CW_put : zWv Y_CW_put := ⟨⟨zt_mem (List.mem_of_getElem? (i := 728) rfl) rfl, zt_mem (List.mem_of_getElem? (i := 40) (by decide +kernel)) rfl, by decide +kernel, by decide +kernel⟩, zt_mem (List.mem_of_getElem? (i := 726) (by decide +kernel)) rfl, zt_mem (List.mem_of_getElem? (i := 727) (by decide +kernel)) rfl⟩
abbrev Y_Row_append : zY := (⟨"CircuitWays$Row", "append", "(I)I"⟩, prog_7_method_2_code, 2, (some .int), "CircuitWays$Row")
set_option maxRecDepth 20000 in
theorem k_Row_append : zWv Y_Row_append := ⟨⟨zt_mem (List.mem_of_getElem? (i := 732) rfl) rfl, zt_mem (List.mem_of_getElem? (i := 50) (by decide +kernel)) rfl, by decide +kernel, by decide +kernel⟩, zt_mem (List.mem_of_getElem? (i := 730) (by decide +kernel)) rfl, zt_mem (List.mem_of_getElem? (i := 731) (by decide +kernel)) rfl⟩
abbrev Y_CW_keep : zY := (⟨"CircuitWays", "keep", "(I)I"⟩, prog_1_method_23_code, 2, (some .int), "CircuitWays")
set_option maxRecDepth 20000 in
theorem k_CW_keep : zWv Y_CW_keep := ⟨⟨zt_mem (List.mem_of_getElem? (i := 736) rfl) rfl, zt_mem (List.mem_of_getElem? (i := 40) (by decide +kernel)) rfl, by decide +kernel, by decide +kernel⟩, zt_mem (List.mem_of_getElem? (i := 734) (by decide +kernel)) rfl, zt_mem (List.mem_of_getElem? (i := 735) (by decide +kernel)) rfl⟩
abbrev Y_Row_cut : zY := (⟨"CircuitWays$Row", "cut", "(I)I"⟩, prog_7_method_3_code, 3, (some .int), "CircuitWays$Row")
set_option maxRecDepth 20000 in
theorem k_Row_cut : zWv Y_Row_cut := ⟨⟨zt_mem (List.mem_of_getElem? (i := 740) rfl) rfl, zt_mem (List.mem_of_getElem? (i := 50) (by decide +kernel)) rfl, by decide +kernel, by decide +kernel⟩, zt_mem (List.mem_of_getElem? (i := 738) (by decide +kernel)) rfl, zt_mem (List.mem_of_getElem? (i := 739) (by decide +kernel)) rfl⟩
abbrev Y_CW_check : zY := (⟨"CircuitWays", "check", "()I"⟩, prog_1_method_24_code, 1, (some .int), "CircuitWays")
set_option maxRecDepth 20000 in
theorem k_CW_check : zWv Y_CW_check := ⟨⟨zt_mem (List.mem_of_getElem? (i := 744) rfl) rfl, zt_mem (List.mem_of_getElem? (i := 40) (by decide +kernel)) rfl, by decide +kernel, by decide +kernel⟩, zt_mem (List.mem_of_getElem? (i := 742) (by decide +kernel)) rfl, zt_mem (List.mem_of_getElem? (i := 743) (by decide +kernel)) rfl⟩
abbrev Y_Row_cost : zY := (⟨"CircuitWays$Row", "cost", "()I"⟩, prog_7_method_4_code, 1, (some .int), "CircuitWays$Row")
set_option maxRecDepth 20000 in
theorem k_Row_cost : zWv Y_Row_cost := ⟨⟨zt_mem (List.mem_of_getElem? (i := 748) rfl) rfl, zt_mem (List.mem_of_getElem? (i := 50) (by decide +kernel)) rfl, by decide +kernel, by decide +kernel⟩, zt_mem (List.mem_of_getElem? (i := 746) (by decide +kernel)) rfl, zt_mem (List.mem_of_getElem? (i := 747) (by decide +kernel)) rfl⟩
abbrev Y_Row_planCost : zY := (⟨"CircuitWays$Row", "planCost", "([II)I"⟩, prog_7_method_6_code, 8, (some .int), "CircuitWays$Row")
set_option maxRecDepth 20000 in
theorem k_Row_planCost : zWv Y_Row_planCost := ⟨⟨zt_mem (List.mem_of_getElem? (i := 752) rfl) rfl, zt_mem (List.mem_of_getElem? (i := 50) (by decide +kernel)) rfl, by decide +kernel, by decide +kernel⟩, zt_mem (List.mem_of_getElem? (i := 751) (by decide +kernel)) rfl, zt_mem (List.mem_of_getElem? (i := 21) (by decide +kernel)) rfl⟩
abbrev Y_Row_roundCost : zY := (⟨"CircuitWays$Row", "roundCost", "([III)I"⟩, prog_7_method_7_code, 10, (some .int), "CircuitWays$Row")
set_option maxRecDepth 20000 in
theorem k_Row_roundCost : zWv Y_Row_roundCost := ⟨⟨zt_mem (List.mem_of_getElem? (i := 758) rfl) rfl, zt_mem (List.mem_of_getElem? (i := 50) (by decide +kernel)) rfl, by decide +kernel, by decide +kernel⟩, zt_mem (List.mem_of_getElem? (i := 757) (by decide +kernel)) rfl, zt_mem (List.mem_of_getElem? (i := 22) (by decide +kernel)) rfl⟩
abbrev Y_CW_insert : zY := (⟨"CircuitWays", "insert", "(I)I"⟩, prog_1_method_25_code, 2, (some .int), "CircuitWays")
set_option maxRecDepth 20000 in
theorem k_CW_insert : zWv Y_CW_insert := ⟨⟨zt_mem (List.mem_of_getElem? (i := 766) rfl) rfl, zt_mem (List.mem_of_getElem? (i := 40) (by decide +kernel)) rfl, by decide +kernel, by decide +kernel⟩, zt_mem (List.mem_of_getElem? (i := 764) (by decide +kernel)) rfl, zt_mem (List.mem_of_getElem? (i := 765) (by decide +kernel)) rfl⟩
abbrev Y_Row_cheapestPlace : zY := (⟨"CircuitWays$Row", "cheapestPlace", "(I)I"⟩, prog_7_method_5_code, 6, (some .int), "CircuitWays$Row")
set_option maxRecDepth 20000 in
theorem k_Row_cheapestPlace : zWv Y_Row_cheapestPlace := ⟨⟨zt_mem (List.mem_of_getElem? (i := 770) rfl) rfl, zt_mem (List.mem_of_getElem? (i := 50) (by decide +kernel)) rfl, by decide +kernel, by decide +kernel⟩, zt_mem (List.mem_of_getElem? (i := 768) (by decide +kernel)) rfl, zt_mem (List.mem_of_getElem? (i := 769) (by decide +kernel)) rfl⟩
abbrev Y_CW_count : zY := (⟨"CircuitWays", "count", "(I)I"⟩, prog_1_method_26_code, 2, (some .int), "CircuitWays")
set_option maxRecDepth 20000 in
theorem k_CW_count : zWv Y_CW_count := ⟨⟨zt_mem (List.mem_of_getElem? (i := 775) rfl) rfl, zt_mem (List.mem_of_getElem? (i := 40) (by decide +kernel)) rfl, by decide +kernel, by decide +kernel⟩, zt_mem (List.mem_of_getElem? (i := 773) (by decide +kernel)) rfl, zt_mem (List.mem_of_getElem? (i := 774) (by decide +kernel)) rfl⟩
abbrev Y_Net_arcs : zY := (⟨"CircuitWays$Net", "arcs", "()I"⟩, prog_4_method_13_code, 3, (some .int), "CircuitWays$Net")
set_option maxRecDepth 20000 in
theorem k_Net_arcs : zWv Y_Net_arcs := ⟨⟨zt_mem (List.mem_of_getElem? (i := 779) rfl) rfl, zt_mem (List.mem_of_getElem? (i := 41) (by decide +kernel)) rfl, by decide +kernel, by decide +kernel⟩, zt_mem (List.mem_of_getElem? (i := 777) (by decide +kernel)) rfl, zt_mem (List.mem_of_getElem? (i := 778) (by decide +kernel)) rfl⟩
abbrev Y_Net_pairsAhead : zY := (⟨"CircuitWays$Net", "pairsAhead", "()I"⟩, prog_4_method_14_code, 3, (some .int), "CircuitWays$Net")
set_option maxRecDepth 20000 in
theorem k_Net_pairsAhead : zWv Y_Net_pairsAhead := ⟨⟨zt_mem (List.mem_of_getElem? (i := 783) rfl) rfl, zt_mem (List.mem_of_getElem? (i := 41) (by decide +kernel)) rfl, by decide +kernel, by decide +kernel⟩, zt_mem (List.mem_of_getElem? (i := 781) (by decide +kernel)) rfl, zt_mem (List.mem_of_getElem? (i := 782) (by decide +kernel)) rfl⟩
abbrev Y_Mo_init : zY := (⟨"CircuitWaysModel", "<init>", "()V"⟩, prog_13_method_3_code, 2, none, "CircuitWaysModel")
set_option maxRecDepth 20000 in
theorem k_Mo_init : zWi Y_Mo_init := ⟨⟨zt_mem (List.mem_of_getElem? (i := 789) rfl) rfl, zt_mem (List.mem_of_getElem? (i := 51) (by decide +kernel)) rfl, by decide +kernel, by decide +kernel⟩, zt_mem (List.mem_of_getElem? (i := 788) (by decide +kernel)) rfl, rfl⟩
abbrev Y_Mo_node : zY := (⟨"CircuitWaysModel", "node", "(I)I"⟩, prog_13_method_6_code, 2, (some .int), "CircuitWaysModel")
set_option maxRecDepth 20000 in
theorem k_Mo_node : zWv Y_Mo_node := ⟨⟨zt_mem (List.mem_of_getElem? (i := 889) rfl) rfl, zt_mem (List.mem_of_getElem? (i := 51) (by decide +kernel)) rfl, by decide +kernel, by decide +kernel⟩, zt_mem (List.mem_of_getElem? (i := 887) (by decide +kernel)) rfl, zt_mem (List.mem_of_getElem? (i := 888) (by decide +kernel)) rfl⟩
abbrev Y_Mo_in : zY := (⟨"CircuitWaysModel", "in", "(III)Z"⟩, prog_13_method_2_code, 3, (some .boolean), "CircuitWaysModel")
set_option maxRecDepth 20000 in
theorem k_Mo_in : zWs Y_Mo_in := ⟨⟨zt_mem (List.mem_of_getElem? (i := 892) rfl) rfl, zt_mem (List.mem_of_getElem? (i := 51) (by decide +kernel)) rfl, by decide +kernel, by decide +kernel⟩, zt_mem (List.mem_of_getElem? (i := 891) (by decide +kernel)) rfl⟩
abbrev Y_Mo_arc : zY := (⟨"CircuitWaysModel", "arc", "(III)I"⟩, prog_13_method_7_code, 5, (some .int), "CircuitWaysModel")
set_option maxRecDepth 20000 in
theorem k_Mo_arc : zWv Y_Mo_arc := ⟨⟨zt_mem (List.mem_of_getElem? (i := 898) rfl) rfl, zt_mem (List.mem_of_getElem? (i := 51) (by decide +kernel)) rfl, by decide +kernel, by decide +kernel⟩, zt_mem (List.mem_of_getElem? (i := 896) (by decide +kernel)) rfl, zt_mem (List.mem_of_getElem? (i := 897) (by decide +kernel)) rfl⟩
abbrev Y_Mo_noTwo : zY := (⟨"CircuitWaysModel", "noTwo", "(II)Z"⟩, prog_13_method_5_code, 3, (some .boolean), "CircuitWaysModel")
set_option maxRecDepth 20000 in
theorem k_Mo_noTwo : zWv Y_Mo_noTwo := ⟨⟨zt_mem (List.mem_of_getElem? (i := 902) rfl) rfl, zt_mem (List.mem_of_getElem? (i := 51) (by decide +kernel)) rfl, by decide +kernel, by decide +kernel⟩, zt_mem (List.mem_of_getElem? (i := 901) (by decide +kernel)) rfl, zt_mem (List.mem_of_getElem? (i := 23) (by decide +kernel)) rfl⟩
abbrev Y_Mo_noNode : zY := (⟨"CircuitWaysModel", "noNode", "(I)Z"⟩, prog_13_method_4_code, 2, (some .boolean), "CircuitWaysModel")
set_option maxRecDepth 20000 in
theorem k_Mo_noNode : zWv Y_Mo_noNode := ⟨⟨zt_mem (List.mem_of_getElem? (i := 906) rfl) rfl, zt_mem (List.mem_of_getElem? (i := 51) (by decide +kernel)) rfl, by decide +kernel, by decide +kernel⟩, zt_mem (List.mem_of_getElem? (i := 905) (by decide +kernel)) rfl, zt_mem (List.mem_of_getElem? (i := 24) (by decide +kernel)) rfl⟩
abbrev Y_Mo_lose : zY := (⟨"CircuitWaysModel", "lose", "(II)I"⟩, prog_13_method_8_code, 4, (some .int), "CircuitWaysModel")
set_option maxRecDepth 20000 in
theorem k_Mo_lose : zWv Y_Mo_lose := ⟨⟨zt_mem (List.mem_of_getElem? (i := 911) rfl) rfl, zt_mem (List.mem_of_getElem? (i := 51) (by decide +kernel)) rfl, by decide +kernel, by decide +kernel⟩, zt_mem (List.mem_of_getElem? (i := 909) (by decide +kernel)) rfl, zt_mem (List.mem_of_getElem? (i := 910) (by decide +kernel)) rfl⟩
abbrev Y_Mo_price : zY := (⟨"CircuitWaysModel", "price", "(II)I"⟩, prog_13_method_9_code, 4, (some .int), "CircuitWaysModel")
set_option maxRecDepth 20000 in
theorem k_Mo_price : zWv Y_Mo_price := ⟨⟨zt_mem (List.mem_of_getElem? (i := 915) rfl) rfl, zt_mem (List.mem_of_getElem? (i := 51) (by decide +kernel)) rfl, by decide +kernel, by decide +kernel⟩, zt_mem (List.mem_of_getElem? (i := 913) (by decide +kernel)) rfl, zt_mem (List.mem_of_getElem? (i := 914) (by decide +kernel)) rfl⟩
abbrev Y_Mo_ahead : zY := (⟨"CircuitWaysModel", "ahead", "(IIZ)I"⟩, prog_13_method_10_code, 5, (some .int), "CircuitWaysModel")
set_option maxRecDepth 20000 in
theorem k_Mo_ahead : zWv Y_Mo_ahead := ⟨⟨zt_mem (List.mem_of_getElem? (i := 919) rfl) rfl, zt_mem (List.mem_of_getElem? (i := 51) (by decide +kernel)) rfl, by decide +kernel, by decide +kernel⟩, zt_mem (List.mem_of_getElem? (i := 917) (by decide +kernel)) rfl, zt_mem (List.mem_of_getElem? (i := 918) (by decide +kernel)) rfl⟩
abbrev Y_Mo_rule : zY := (⟨"CircuitWaysModel", "rule", "(II)I"⟩, prog_13_method_11_code, 5, (some .int), "CircuitWaysModel")
set_option maxRecDepth 20000 in
theorem k_Mo_rule : zWv Y_Mo_rule := ⟨⟨zt_mem (List.mem_of_getElem? (i := 923) rfl) rfl, zt_mem (List.mem_of_getElem? (i := 51) (by decide +kernel)) rfl, by decide +kernel, by decide +kernel⟩, zt_mem (List.mem_of_getElem? (i := 921) (by decide +kernel)) rfl, zt_mem (List.mem_of_getElem? (i := 922) (by decide +kernel)) rfl⟩
abbrev Y_Mo_best : zY := (⟨"CircuitWaysModel", "best", "()I"⟩, prog_13_method_21_code, 1, (some .int), "CircuitWaysModel")
set_option maxRecDepth 20000 in
theorem k_Mo_best : zWv Y_Mo_best := ⟨⟨zt_mem (List.mem_of_getElem? (i := 927) rfl) rfl, zt_mem (List.mem_of_getElem? (i := 51) (by decide +kernel)) rfl, by decide +kernel, by decide +kernel⟩, zt_mem (List.mem_of_getElem? (i := 925) (by decide +kernel)) rfl, zt_mem (List.mem_of_getElem? (i := 926) (by decide +kernel)) rfl⟩
abbrev Y_Mo_know : zY := (⟨"CircuitWaysModel", "know", "()V"⟩, prog_13_method_19_code, 2, none, "CircuitWaysModel")
set_option maxRecDepth 20000 in
theorem k_Mo_know : zWv Y_Mo_know := ⟨⟨zt_mem (List.mem_of_getElem? (i := 931) rfl) rfl, zt_mem (List.mem_of_getElem? (i := 51) (by decide +kernel)) rfl, by decide +kernel, by decide +kernel⟩, zt_mem (List.mem_of_getElem? (i := 930) (by decide +kernel)) rfl, zt_mem (List.mem_of_getElem? (i := 25) (by decide +kernel)) rfl⟩
abbrev Y_Mo_atHouse : zY := (⟨"CircuitWaysModel", "atHouse", "(LCircuitWaysModel;II)I"⟩, prog_13_method_17_code, 7, (some .int), "CircuitWaysModel")
set_option maxRecDepth 20000 in
theorem k_Mo_atHouse : zWs Y_Mo_atHouse := ⟨⟨zt_mem (List.mem_of_getElem? (i := 935) rfl) rfl, zt_mem (List.mem_of_getElem? (i := 51) (by decide +kernel)) rfl, by decide +kernel, by decide +kernel⟩, zt_mem (List.mem_of_getElem? (i := 934) (by decide +kernel)) rfl⟩
abbrev Y_Mo_whole : zY := (⟨"CircuitWaysModel", "whole", "(I)I"⟩, prog_13_method_13_code, 4, (some .int), "CircuitWaysModel")
set_option maxRecDepth 20000 in
theorem k_Mo_whole : zWv Y_Mo_whole := ⟨⟨zt_mem (List.mem_of_getElem? (i := 939) rfl) rfl, zt_mem (List.mem_of_getElem? (i := 51) (by decide +kernel)) rfl, by decide +kernel, by decide +kernel⟩, zt_mem (List.mem_of_getElem? (i := 938) (by decide +kernel)) rfl, zt_mem (List.mem_of_getElem? (i := 26) (by decide +kernel)) rfl⟩
abbrev Y_Mo_isBeforeFirst : zY := (⟨"CircuitWaysModel", "isBeforeFirst", "()Z"⟩, prog_13_method_14_code, 2, (some .boolean), "CircuitWaysModel")
set_option maxRecDepth 20000 in
theorem k_Mo_isBeforeFirst : zWv Y_Mo_isBeforeFirst := ⟨⟨zt_mem (List.mem_of_getElem? (i := 943) rfl) rfl, zt_mem (List.mem_of_getElem? (i := 51) (by decide +kernel)) rfl, by decide +kernel, by decide +kernel⟩, zt_mem (List.mem_of_getElem? (i := 942) (by decide +kernel)) rfl, zt_mem (List.mem_of_getElem? (i := 27) (by decide +kernel)) rfl⟩
abbrev Y_Mo_mayCome : zY := (⟨"CircuitWaysModel", "mayCome", "(II)Z"⟩, prog_13_method_12_code, 5, (some .boolean), "CircuitWaysModel")
set_option maxRecDepth 20000 in
theorem k_Mo_mayCome : zWv Y_Mo_mayCome := ⟨⟨zt_mem (List.mem_of_getElem? (i := 947) rfl) rfl, zt_mem (List.mem_of_getElem? (i := 51) (by decide +kernel)) rfl, by decide +kernel, by decide +kernel⟩, zt_mem (List.mem_of_getElem? (i := 946) (by decide +kernel)) rfl, zt_mem (List.mem_of_getElem? (i := 28) (by decide +kernel)) rfl⟩
abbrev Y_Mo_write : zY := (⟨"CircuitWaysModel", "write", "(I)V"⟩, prog_13_method_16_code, 2, none, "CircuitWaysModel")
set_option maxRecDepth 20000 in
theorem k_Mo_write : zWv Y_Mo_write := ⟨⟨zt_mem (List.mem_of_getElem? (i := 951) rfl) rfl, zt_mem (List.mem_of_getElem? (i := 51) (by decide +kernel)) rfl, by decide +kernel, by decide +kernel⟩, zt_mem (List.mem_of_getElem? (i := 950) (by decide +kernel)) rfl, zt_mem (List.mem_of_getElem? (i := 29) (by decide +kernel)) rfl⟩
abbrev Y_Mo_atNode : zY := (⟨"CircuitWaysModel", "atNode", "(LCircuitWaysModel;IIII)I"⟩, prog_13_method_18_code, 13, (some .int), "CircuitWaysModel")
set_option maxRecDepth 20000 in
theorem k_Mo_atNode : zWs Y_Mo_atNode := ⟨⟨zt_mem (List.mem_of_getElem? (i := 954) rfl) rfl, zt_mem (List.mem_of_getElem? (i := 51) (by decide +kernel)) rfl, by decide +kernel, by decide +kernel⟩, zt_mem (List.mem_of_getElem? (i := 953) (by decide +kernel)) rfl⟩
abbrev Y_Mo_note : zY := (⟨"CircuitWaysModel", "note", "(III)V"⟩, prog_13_method_15_code, 4, none, "CircuitWaysModel")
set_option maxRecDepth 20000 in
theorem k_Mo_note : zWv Y_Mo_note := ⟨⟨zt_mem (List.mem_of_getElem? (i := 958) rfl) rfl, zt_mem (List.mem_of_getElem? (i := 51) (by decide +kernel)) rfl, by decide +kernel, by decide +kernel⟩, zt_mem (List.mem_of_getElem? (i := 957) (by decide +kernel)) rfl, zt_mem (List.mem_of_getElem? (i := 30) (by decide +kernel)) rfl⟩
abbrev Y_Mo_many : zY := (⟨"CircuitWaysModel", "many", "()I"⟩, prog_13_method_22_code, 1, (some .int), "CircuitWaysModel")
set_option maxRecDepth 20000 in
theorem k_Mo_many : zWv Y_Mo_many := ⟨⟨zt_mem (List.mem_of_getElem? (i := 962) rfl) rfl, zt_mem (List.mem_of_getElem? (i := 51) (by decide +kernel)) rfl, by decide +kernel, by decide +kernel⟩, zt_mem (List.mem_of_getElem? (i := 960) (by decide +kernel)) rfl, zt_mem (List.mem_of_getElem? (i := 961) (by decide +kernel)) rfl⟩
abbrev Y_Mo_first : zY := (⟨"CircuitWaysModel", "first", "(I)I"⟩, prog_13_method_23_code, 2, (some .int), "CircuitWaysModel")
set_option maxRecDepth 20000 in
theorem k_Mo_first : zWv Y_Mo_first := ⟨⟨zt_mem (List.mem_of_getElem? (i := 966) rfl) rfl, zt_mem (List.mem_of_getElem? (i := 51) (by decide +kernel)) rfl, by decide +kernel, by decide +kernel⟩, zt_mem (List.mem_of_getElem? (i := 964) (by decide +kernel)) rfl, zt_mem (List.mem_of_getElem? (i := 965) (by decide +kernel)) rfl⟩
abbrev Y_Mo_with : zY := (⟨"CircuitWaysModel", "with", "(II)I"⟩, prog_13_method_24_code, 3, (some .int), "CircuitWaysModel")
set_option maxRecDepth 20000 in
theorem k_Mo_with : zWv Y_Mo_with := ⟨⟨zt_mem (List.mem_of_getElem? (i := 970) rfl) rfl, zt_mem (List.mem_of_getElem? (i := 51) (by decide +kernel)) rfl, by decide +kernel, by decide +kernel⟩, zt_mem (List.mem_of_getElem? (i := 968) (by decide +kernel)) rfl, zt_mem (List.mem_of_getElem? (i := 969) (by decide +kernel)) rfl⟩
abbrev Y_Mo_told : zY := (⟨"CircuitWaysModel", "told", "(I)I"⟩, prog_13_method_20_code, 1, (some .int), "CircuitWaysModel")
set_option maxRecDepth 20000 in
theorem k_Mo_told : zWs Y_Mo_told := ⟨⟨zt_mem (List.mem_of_getElem? (i := 973) rfl) rfl, zt_mem (List.mem_of_getElem? (i := 51) (by decide +kernel)) rfl, by decide +kernel, by decide +kernel⟩, zt_mem (List.mem_of_getElem? (i := 972) (by decide +kernel)) rfl⟩
abbrev Y_Mo_without : zY := (⟨"CircuitWaysModel", "without", "(I)I"⟩, prog_13_method_25_code, 2, (some .int), "CircuitWaysModel")
set_option maxRecDepth 20000 in
theorem k_Mo_without : zWv Y_Mo_without := ⟨⟨zt_mem (List.mem_of_getElem? (i := 977) rfl) rfl, zt_mem (List.mem_of_getElem? (i := 51) (by decide +kernel)) rfl, by decide +kernel, by decide +kernel⟩, zt_mem (List.mem_of_getElem? (i := 975) (by decide +kernel)) rfl, zt_mem (List.mem_of_getElem? (i := 976) (by decide +kernel)) rfl⟩
abbrev Y_Mo_filter : zY := (⟨"CircuitWaysModel", "filter", "(I)I"⟩, prog_13_method_26_code, 4, (some .int), "CircuitWaysModel")
set_option maxRecDepth 20000 in
theorem k_Mo_filter : zWv Y_Mo_filter := ⟨⟨zt_mem (List.mem_of_getElem? (i := 981) rfl) rfl, zt_mem (List.mem_of_getElem? (i := 51) (by decide +kernel)) rfl, by decide +kernel, by decide +kernel⟩, zt_mem (List.mem_of_getElem? (i := 979) (by decide +kernel)) rfl, zt_mem (List.mem_of_getElem? (i := 980) (by decide +kernel)) rfl⟩
abbrev Y_Mo_weight : zY := (⟨"CircuitWaysModel", "weight", "(II)I"⟩, prog_13_method_27_code, 4, (some .int), "CircuitWaysModel")
set_option maxRecDepth 20000 in
theorem k_Mo_weight : zWv Y_Mo_weight := ⟨⟨zt_mem (List.mem_of_getElem? (i := 985) rfl) rfl, zt_mem (List.mem_of_getElem? (i := 51) (by decide +kernel)) rfl, by decide +kernel, by decide +kernel⟩, zt_mem (List.mem_of_getElem? (i := 983) (by decide +kernel)) rfl, zt_mem (List.mem_of_getElem? (i := 984) (by decide +kernel)) rfl⟩
abbrev Y_Mo_bound : zY := (⟨"CircuitWaysModel", "bound", "()I"⟩, prog_13_method_32_code, 3, (some .int), "CircuitWaysModel")
set_option maxRecDepth 20000 in
theorem k_Mo_bound : zWv Y_Mo_bound := ⟨⟨zt_mem (List.mem_of_getElem? (i := 989) rfl) rfl, zt_mem (List.mem_of_getElem? (i := 51) (by decide +kernel)) rfl, by decide +kernel, by decide +kernel⟩, zt_mem (List.mem_of_getElem? (i := 987) (by decide +kernel)) rfl, zt_mem (List.mem_of_getElem? (i := 988) (by decide +kernel)) rfl⟩
abbrev Y_Mo_makeTree : zY := (⟨"CircuitWaysModel", "makeTree", "()Z"⟩, prog_13_method_31_code, 3, (some .boolean), "CircuitWaysModel")
set_option maxRecDepth 20000 in
theorem k_Mo_makeTree : zWv Y_Mo_makeTree := ⟨⟨zt_mem (List.mem_of_getElem? (i := 993) rfl) rfl, zt_mem (List.mem_of_getElem? (i := 51) (by decide +kernel)) rfl, by decide +kernel, by decide +kernel⟩, zt_mem (List.mem_of_getElem? (i := 992) (by decide +kernel)) rfl, zt_mem (List.mem_of_getElem? (i := 31) (by decide +kernel)) rfl⟩
abbrev Y_Mo_choose : zY := (⟨"CircuitWaysModel", "choose", "(Z)Z"⟩, prog_13_method_30_code, 7, (some .boolean), "CircuitWaysModel")
set_option maxRecDepth 20000 in
theorem k_Mo_choose : zWv Y_Mo_choose := ⟨⟨zt_mem (List.mem_of_getElem? (i := 997) rfl) rfl, zt_mem (List.mem_of_getElem? (i := 51) (by decide +kernel)) rfl, by decide +kernel, by decide +kernel⟩, zt_mem (List.mem_of_getElem? (i := 996) (by decide +kernel)) rfl, zt_mem (List.mem_of_getElem? (i := 32) (by decide +kernel)) rfl⟩
abbrev Y_Mo_edgeCost : zY := (⟨"CircuitWaysModel", "edgeCost", "(II)I"⟩, prog_13_method_28_code, 4, (some .int), "CircuitWaysModel")
set_option maxRecDepth 20000 in
theorem k_Mo_edgeCost : zWv Y_Mo_edgeCost := ⟨⟨zt_mem (List.mem_of_getElem? (i := 1001) rfl) rfl, zt_mem (List.mem_of_getElem? (i := 51) (by decide +kernel)) rfl, by decide +kernel, by decide +kernel⟩, zt_mem (List.mem_of_getElem? (i := 1000) (by decide +kernel)) rfl, zt_mem (List.mem_of_getElem? (i := 33) (by decide +kernel)) rfl⟩
abbrev Y_Mo_hasEdge : zY := (⟨"CircuitWaysModel", "hasEdge", "(II)Z"⟩, prog_13_method_29_code, 5, (some .boolean), "CircuitWaysModel")
set_option maxRecDepth 20000 in
theorem k_Mo_hasEdge : zWv Y_Mo_hasEdge := ⟨⟨zt_mem (List.mem_of_getElem? (i := 1005) rfl) rfl, zt_mem (List.mem_of_getElem? (i := 51) (by decide +kernel)) rfl, by decide +kernel, by decide +kernel⟩, zt_mem (List.mem_of_getElem? (i := 1004) (by decide +kernel)) rfl, zt_mem (List.mem_of_getElem? (i := 34) (by decide +kernel)) rfl⟩
abbrev Y_Mo_edge : zY := (⟨"CircuitWaysModel", "edge", "(II)I"⟩, prog_13_method_33_code, 3, (some .int), "CircuitWaysModel")
set_option maxRecDepth 20000 in
theorem k_Mo_edge : zWv Y_Mo_edge := ⟨⟨zt_mem (List.mem_of_getElem? (i := 1009) rfl) rfl, zt_mem (List.mem_of_getElem? (i := 51) (by decide +kernel)) rfl, by decide +kernel, by decide +kernel⟩, zt_mem (List.mem_of_getElem? (i := 1007) (by decide +kernel)) rfl, zt_mem (List.mem_of_getElem? (i := 1008) (by decide +kernel)) rfl⟩
abbrev Y_Mo_degree : zY := (⟨"CircuitWaysModel", "degree", "(I)I"⟩, prog_13_method_34_code, 4, (some .int), "CircuitWaysModel")
set_option maxRecDepth 20000 in
theorem k_Mo_degree : zWv Y_Mo_degree := ⟨⟨zt_mem (List.mem_of_getElem? (i := 1013) rfl) rfl, zt_mem (List.mem_of_getElem? (i := 51) (by decide +kernel)) rfl, by decide +kernel, by decide +kernel⟩, zt_mem (List.mem_of_getElem? (i := 1011) (by decide +kernel)) rfl, zt_mem (List.mem_of_getElem? (i := 1012) (by decide +kernel)) rfl⟩
abbrev Y_Mo_pairing : zY := (⟨"CircuitWaysModel", "pairing", "()I"⟩, prog_13_method_35_code, 5, (some .int), "CircuitWaysModel")
set_option maxRecDepth 20000 in
theorem k_Mo_pairing : zWv Y_Mo_pairing := ⟨⟨zt_mem (List.mem_of_getElem? (i := 1017) rfl) rfl, zt_mem (List.mem_of_getElem? (i := 51) (by decide +kernel)) rfl, by decide +kernel, by decide +kernel⟩, zt_mem (List.mem_of_getElem? (i := 1015) (by decide +kernel)) rfl, zt_mem (List.mem_of_getElem? (i := 1016) (by decide +kernel)) rfl⟩
abbrev Y_Mo_next : zY := (⟨"CircuitWaysModel", "next", "(II)I"⟩, prog_13_method_36_code, 4, (some .int), "CircuitWaysModel")
set_option maxRecDepth 20000 in
theorem k_Mo_next : zWv Y_Mo_next := ⟨⟨zt_mem (List.mem_of_getElem? (i := 1022) rfl) rfl, zt_mem (List.mem_of_getElem? (i := 51) (by decide +kernel)) rfl, by decide +kernel, by decide +kernel⟩, zt_mem (List.mem_of_getElem? (i := 1020) (by decide +kernel)) rfl, zt_mem (List.mem_of_getElem? (i := 1021) (by decide +kernel)) rfl⟩
abbrev Y_Mo_circle : zY := (⟨"CircuitWaysModel", "circle", "(I)I"⟩, prog_13_method_38_code, 5, (some .int), "CircuitWaysModel")
set_option maxRecDepth 20000 in
theorem k_Mo_circle : zWv Y_Mo_circle := ⟨⟨zt_mem (List.mem_of_getElem? (i := 1026) rfl) rfl, zt_mem (List.mem_of_getElem? (i := 51) (by decide +kernel)) rfl, by decide +kernel, by decide +kernel⟩, zt_mem (List.mem_of_getElem? (i := 1024) (by decide +kernel)) rfl, zt_mem (List.mem_of_getElem? (i := 1025) (by decide +kernel)) rfl⟩
abbrev Y_Mo_circleOf : zY := (⟨"CircuitWaysModel", "circleOf", "(I)I"⟩, prog_13_method_37_code, 5, (some .int), "CircuitWaysModel")
set_option maxRecDepth 20000 in
theorem k_Mo_circleOf : zWv Y_Mo_circleOf := ⟨⟨zt_mem (List.mem_of_getElem? (i := 1030) rfl) rfl, zt_mem (List.mem_of_getElem? (i := 51) (by decide +kernel)) rfl, by decide +kernel, by decide +kernel⟩, zt_mem (List.mem_of_getElem? (i := 1029) (by decide +kernel)) rfl, zt_mem (List.mem_of_getElem? (i := 35) (by decide +kernel)) rfl⟩
abbrev Y_Mo_nearest : zY := (⟨"CircuitWaysModel", "nearest", "(I)I"⟩, prog_13_method_41_code, 5, (some .int), "CircuitWaysModel")
set_option maxRecDepth 20000 in
theorem k_Mo_nearest : zWv Y_Mo_nearest := ⟨⟨zt_mem (List.mem_of_getElem? (i := 1034) rfl) rfl, zt_mem (List.mem_of_getElem? (i := 51) (by decide +kernel)) rfl, by decide +kernel, by decide +kernel⟩, zt_mem (List.mem_of_getElem? (i := 1032) (by decide +kernel)) rfl, zt_mem (List.mem_of_getElem? (i := 1033) (by decide +kernel)) rfl⟩
abbrev Y_Mo_leads : zY := (⟨"CircuitWaysModel", "leads", "(II)Z"⟩, prog_13_method_40_code, 3, (some .boolean), "CircuitWaysModel")
set_option maxRecDepth 20000 in
theorem k_Mo_leads : zWv Y_Mo_leads := ⟨⟨zt_mem (List.mem_of_getElem? (i := 1038) rfl) rfl, zt_mem (List.mem_of_getElem? (i := 51) (by decide +kernel)) rfl, by decide +kernel, by decide +kernel⟩, zt_mem (List.mem_of_getElem? (i := 1037) (by decide +kernel)) rfl, zt_mem (List.mem_of_getElem? (i := 36) (by decide +kernel)) rfl⟩
abbrev Y_Mo_reached : zY := (⟨"CircuitWaysModel", "reached", "(I)I"⟩, prog_13_method_39_code, 7, (some .int), "CircuitWaysModel")
set_option maxRecDepth 20000 in
theorem k_Mo_reached : zWv Y_Mo_reached := ⟨⟨zt_mem (List.mem_of_getElem? (i := 1042) rfl) rfl, zt_mem (List.mem_of_getElem? (i := 51) (by decide +kernel)) rfl, by decide +kernel, by decide +kernel⟩, zt_mem (List.mem_of_getElem? (i := 1041) (by decide +kernel)) rfl, zt_mem (List.mem_of_getElem? (i := 37) (by decide +kernel)) rfl⟩
abbrev Y_Mo_put : zY := (⟨"CircuitWaysModel", "put", "(I)I"⟩, prog_13_method_42_code, 2, (some .int), "CircuitWaysModel")
set_option maxRecDepth 20000 in
theorem k_Mo_put : zWv Y_Mo_put := ⟨⟨zt_mem (List.mem_of_getElem? (i := 1046) rfl) rfl, zt_mem (List.mem_of_getElem? (i := 51) (by decide +kernel)) rfl, by decide +kernel, by decide +kernel⟩, zt_mem (List.mem_of_getElem? (i := 1044) (by decide +kernel)) rfl, zt_mem (List.mem_of_getElem? (i := 1045) (by decide +kernel)) rfl⟩
abbrev Y_Mo_keep : zY := (⟨"CircuitWaysModel", "keep", "(I)I"⟩, prog_13_method_43_code, 3, (some .int), "CircuitWaysModel")
set_option maxRecDepth 20000 in
theorem k_Mo_keep : zWv Y_Mo_keep := ⟨⟨zt_mem (List.mem_of_getElem? (i := 1050) rfl) rfl, zt_mem (List.mem_of_getElem? (i := 51) (by decide +kernel)) rfl, by decide +kernel, by decide +kernel⟩, zt_mem (List.mem_of_getElem? (i := 1048) (by decide +kernel)) rfl, zt_mem (List.mem_of_getElem? (i := 1049) (by decide +kernel)) rfl⟩
abbrev Y_Mo_check : zY := (⟨"CircuitWaysModel", "check", "()I"⟩, prog_13_method_45_code, 1, (some .int), "CircuitWaysModel")
set_option maxRecDepth 20000 in
theorem k_Mo_check : zWv Y_Mo_check := ⟨⟨zt_mem (List.mem_of_getElem? (i := 1054) rfl) rfl, zt_mem (List.mem_of_getElem? (i := 51) (by decide +kernel)) rfl, by decide +kernel, by decide +kernel⟩, zt_mem (List.mem_of_getElem? (i := 1052) (by decide +kernel)) rfl, zt_mem (List.mem_of_getElem? (i := 1053) (by decide +kernel)) rfl⟩
abbrev Y_Mo_costOf : zY := (⟨"CircuitWaysModel", "costOf", "(II)I"⟩, prog_13_method_44_code, 9, (some .int), "CircuitWaysModel")
set_option maxRecDepth 20000 in
theorem k_Mo_costOf : zWv Y_Mo_costOf := ⟨⟨zt_mem (List.mem_of_getElem? (i := 1058) rfl) rfl, zt_mem (List.mem_of_getElem? (i := 51) (by decide +kernel)) rfl, by decide +kernel, by decide +kernel⟩, zt_mem (List.mem_of_getElem? (i := 1057) (by decide +kernel)) rfl, zt_mem (List.mem_of_getElem? (i := 38) (by decide +kernel)) rfl⟩
abbrev Y_Mo_insert : zY := (⟨"CircuitWaysModel", "insert", "(I)I"⟩, prog_13_method_46_code, 6, (some .int), "CircuitWaysModel")
set_option maxRecDepth 20000 in
theorem k_Mo_insert : zWv Y_Mo_insert := ⟨⟨zt_mem (List.mem_of_getElem? (i := 1062) rfl) rfl, zt_mem (List.mem_of_getElem? (i := 51) (by decide +kernel)) rfl, by decide +kernel, by decide +kernel⟩, zt_mem (List.mem_of_getElem? (i := 1060) (by decide +kernel)) rfl, zt_mem (List.mem_of_getElem? (i := 1061) (by decide +kernel)) rfl⟩
abbrev Y_Mo_count : zY := (⟨"CircuitWaysModel", "count", "(I)I"⟩, prog_13_method_47_code, 4, (some .int), "CircuitWaysModel")
set_option maxRecDepth 20000 in
theorem k_Mo_count : zWv Y_Mo_count := ⟨⟨zt_mem (List.mem_of_getElem? (i := 1066) rfl) rfl, zt_mem (List.mem_of_getElem? (i := 51) (by decide +kernel)) rfl, by decide +kernel, by decide +kernel⟩, zt_mem (List.mem_of_getElem? (i := 1064) (by decide +kernel)) rfl, zt_mem (List.mem_of_getElem? (i := 1065) (by decide +kernel)) rfl⟩
theorem f_Net_9 : Cond.fieldLink "CircuitWays$Net" 9 "CircuitWays$Net" "loads" "[I" ∈ zt := zt_mem (List.mem_of_getElem? (i := 69) (by decide +kernel)) rfl
theorem f_Pat_63 : Cond.fieldLink "CircuitWays$Paths" 63 "CircuitWays$Net" "loads" "[I" ∈ zt := zt_mem (List.mem_of_getElem? (i := 70) (by decide +kernel)) rfl
theorem f_Row_62 : Cond.fieldLink "CircuitWays$Row" 62 "CircuitWays$Net" "loads" "[I" ∈ zt := zt_mem (List.mem_of_getElem? (i := 71) (by decide +kernel)) rfl
theorem f_Net_15 : Cond.fieldLink "CircuitWays$Net" 15 "CircuitWays$Net" "costs" "[I" ∈ zt := zt_mem (List.mem_of_getElem? (i := 72) (by decide +kernel)) rfl
theorem f_Pai_32 : Cond.fieldLink "CircuitWays$Pairs" 32 "CircuitWays$Net" "costs" "[I" ∈ zt := zt_mem (List.mem_of_getElem? (i := 73) (by decide +kernel)) rfl
theorem f_Tai_63 : Cond.fieldLink "CircuitWays$Tails" 63 "CircuitWays$Net" "costs" "[I" ∈ zt := zt_mem (List.mem_of_getElem? (i := 74) (by decide +kernel)) rfl
theorem f_Fir_80 : Cond.fieldLink "CircuitWays$FirstPlan" 80 "CircuitWays$Net" "costs" "[I" ∈ zt := zt_mem (List.mem_of_getElem? (i := 75) (by decide +kernel)) rfl
theorem f_Tre_48 : Cond.fieldLink "CircuitWays$Tree" 48 "CircuitWays$Net" "costs" "[I" ∈ zt := zt_mem (List.mem_of_getElem? (i := 76) (by decide +kernel)) rfl
theorem f_Pat_75 : Cond.fieldLink "CircuitWays$Paths" 75 "CircuitWays$Net" "costs" "[I" ∈ zt := zt_mem (List.mem_of_getElem? (i := 77) (by decide +kernel)) rfl
theorem f_Way_41 : Cond.fieldLink "CircuitWays$Ways" 41 "CircuitWays$Net" "costs" "[I" ∈ zt := zt_mem (List.mem_of_getElem? (i := 78) (by decide +kernel)) rfl
theorem f_Row_59 : Cond.fieldLink "CircuitWays$Row" 59 "CircuitWays$Net" "costs" "[I" ∈ zt := zt_mem (List.mem_of_getElem? (i := 79) (by decide +kernel)) rfl
theorem f_Net_18 : Cond.fieldLink "CircuitWays$Net" 18 "CircuitWays$Net" "prices" "[I" ∈ zt := zt_mem (List.mem_of_getElem? (i := 80) (by decide +kernel)) rfl
theorem f_Net_21 : Cond.fieldLink "CircuitWays$Net" 21 "CircuitWays$Net" "earlier" "[I" ∈ zt := zt_mem (List.mem_of_getElem? (i := 81) (by decide +kernel)) rfl
theorem f_Pat_72 : Cond.fieldLink "CircuitWays$Paths" 72 "CircuitWays$Net" "earlier" "[I" ∈ zt := zt_mem (List.mem_of_getElem? (i := 82) (by decide +kernel)) rfl
theorem f_Row_56 : Cond.fieldLink "CircuitWays$Row" 56 "CircuitWays$Net" "earlier" "[I" ∈ zt := zt_mem (List.mem_of_getElem? (i := 83) (by decide +kernel)) rfl
theorem f_Net_24 : Cond.fieldLink "CircuitWays$Net" 24 "CircuitWays$Net" "size" "I" ∈ zt := zt_mem (List.mem_of_getElem? (i := 84) (by decide +kernel)) rfl
theorem f_Pai_19 : Cond.fieldLink "CircuitWays$Pairs" 19 "CircuitWays$Net" "size" "I" ∈ zt := zt_mem (List.mem_of_getElem? (i := 85) (by decide +kernel)) rfl
theorem f_CW_84 : Cond.fieldLink "CircuitWays" 84 "CircuitWays$Net" "size" "I" ∈ zt := zt_mem (List.mem_of_getElem? (i := 86) (by decide +kernel)) rfl
theorem f_Way_24 : Cond.fieldLink "CircuitWays$Ways" 24 "CircuitWays$Net" "size" "I" ∈ zt := zt_mem (List.mem_of_getElem? (i := 87) (by decide +kernel)) rfl
theorem f_Pat_50 : Cond.fieldLink "CircuitWays$Paths" 50 "CircuitWays$Net" "size" "I" ∈ zt := zt_mem (List.mem_of_getElem? (i := 88) (by decide +kernel)) rfl
theorem f_Tai_46 : Cond.fieldLink "CircuitWays$Tails" 46 "CircuitWays$Net" "size" "I" ∈ zt := zt_mem (List.mem_of_getElem? (i := 89) (by decide +kernel)) rfl
theorem f_Cir_22 : Cond.fieldLink "CircuitWays$Circles" 22 "CircuitWays$Net" "size" "I" ∈ zt := zt_mem (List.mem_of_getElem? (i := 90) (by decide +kernel)) rfl
theorem f_Tre_35 : Cond.fieldLink "CircuitWays$Tree" 35 "CircuitWays$Net" "size" "I" ∈ zt := zt_mem (List.mem_of_getElem? (i := 91) (by decide +kernel)) rfl
theorem f_Fir_90 : Cond.fieldLink "CircuitWays$FirstPlan" 90 "CircuitWays$Net" "size" "I" ∈ zt := zt_mem (List.mem_of_getElem? (i := 92) (by decide +kernel)) rfl
theorem f_Net_28 : Cond.fieldLink "CircuitWays$Net" 28 "CircuitWays$Net" "most" "I" ∈ zt := zt_mem (List.mem_of_getElem? (i := 93) (by decide +kernel)) rfl
theorem f_Fir_54 : Cond.fieldLink "CircuitWays$FirstPlan" 54 "CircuitWays$Net" "most" "I" ∈ zt := zt_mem (List.mem_of_getElem? (i := 94) (by decide +kernel)) rfl
theorem f_Sha_55 : Cond.fieldLink "CircuitWays$Shares" 55 "CircuitWays$Net" "most" "I" ∈ zt := zt_mem (List.mem_of_getElem? (i := 95) (by decide +kernel)) rfl
theorem f_Row_44 : Cond.fieldLink "CircuitWays$Row" 44 "CircuitWays$Net" "most" "I" ∈ zt := zt_mem (List.mem_of_getElem? (i := 96) (by decide +kernel)) rfl
theorem f_CW_148 : Cond.fieldLink "CircuitWays" 148 "CircuitWays$Net" "most" "I" ∈ zt := zt_mem (List.mem_of_getElem? (i := 97) (by decide +kernel)) rfl
theorem f_Net_31 : Cond.fieldLink "CircuitWays$Net" 31 "CircuitWays$Net" "room" "I" ∈ zt := zt_mem (List.mem_of_getElem? (i := 98) (by decide +kernel)) rfl
theorem f_Pat_66 : Cond.fieldLink "CircuitWays$Paths" 66 "CircuitWays$Net" "room" "I" ∈ zt := zt_mem (List.mem_of_getElem? (i := 99) (by decide +kernel)) rfl
theorem f_Row_65 : Cond.fieldLink "CircuitWays$Row" 65 "CircuitWays$Net" "room" "I" ∈ zt := zt_mem (List.mem_of_getElem? (i := 100) (by decide +kernel)) rfl
theorem f_CW_222 : Cond.fieldLink "CircuitWays" 222 "CircuitWays$Net" "room" "I" ∈ zt := zt_mem (List.mem_of_getElem? (i := 101) (by decide +kernel)) rfl
theorem f_Net_34 : Cond.fieldLink "CircuitWays$Net" 34 "CircuitWays$Net" "open" "I" ∈ zt := zt_mem (List.mem_of_getElem? (i := 102) (by decide +kernel)) rfl
theorem f_Tai_87 : Cond.fieldLink "CircuitWays$Tails" 87 "CircuitWays$Net" "open" "I" ∈ zt := zt_mem (List.mem_of_getElem? (i := 103) (by decide +kernel)) rfl
theorem f_CW_225 : Cond.fieldLink "CircuitWays" 225 "CircuitWays$Net" "open" "I" ∈ zt := zt_mem (List.mem_of_getElem? (i := 104) (by decide +kernel)) rfl
theorem f_Net_37 : Cond.fieldLink "CircuitWays$Net" 37 "CircuitWays$Net" "changes" "I" ∈ zt := zt_mem (List.mem_of_getElem? (i := 105) (by decide +kernel)) rfl
theorem f_Sha_37 : Cond.fieldLink "CircuitWays$Shares" 37 "CircuitWays$Net" "changes" "I" ∈ zt := zt_mem (List.mem_of_getElem? (i := 106) (by decide +kernel)) rfl
theorem f_Fir_40 : Cond.fieldLink "CircuitWays$FirstPlan" 40 "CircuitWays$Net" "changes" "I" ∈ zt := zt_mem (List.mem_of_getElem? (i := 107) (by decide +kernel)) rfl
theorem f_Tai_41 : Cond.fieldLink "CircuitWays$Tails" 41 "CircuitWays$Net" "changes" "I" ∈ zt := zt_mem (List.mem_of_getElem? (i := 108) (by decide +kernel)) rfl
theorem f_Pat_30 : Cond.fieldLink "CircuitWays$Paths" 30 "CircuitWays$Paths" "net" "LCircuitWays$Net;" ∈ zt := zt_mem (List.mem_of_getElem? (i := 135) (by decide +kernel)) rfl
theorem f_Pat_9 : Cond.fieldLink "CircuitWays$Paths" 9 "CircuitWays$Paths" "setLoad" "[I" ∈ zt := zt_mem (List.mem_of_getElem? (i := 136) (by decide +kernel)) rfl
theorem f_Pat_15 : Cond.fieldLink "CircuitWays$Paths" 15 "CircuitWays$Paths" "followers" "[I" ∈ zt := zt_mem (List.mem_of_getElem? (i := 137) (by decide +kernel)) rfl
theorem f_Tai_57 : Cond.fieldLink "CircuitWays$Tails" 57 "CircuitWays$Paths" "followers" "[I" ∈ zt := zt_mem (List.mem_of_getElem? (i := 138) (by decide +kernel)) rfl
theorem f_Pat_18 : Cond.fieldLink "CircuitWays$Paths" 18 "CircuitWays$Paths" "pathCost" "[I" ∈ zt := zt_mem (List.mem_of_getElem? (i := 139) (by decide +kernel)) rfl
theorem f_Tai_94 : Cond.fieldLink "CircuitWays$Tails" 94 "CircuitWays$Paths" "pathCost" "[I" ∈ zt := zt_mem (List.mem_of_getElem? (i := 140) (by decide +kernel)) rfl
theorem f_Pat_21 : Cond.fieldLink "CircuitWays$Paths" 21 "CircuitWays$Paths" "pathWays" "[I" ∈ zt := zt_mem (List.mem_of_getElem? (i := 141) (by decide +kernel)) rfl
theorem f_Pat_24 : Cond.fieldLink "CircuitWays$Paths" 24 "CircuitWays$Paths" "roundCost" "[I" ∈ zt := zt_mem (List.mem_of_getElem? (i := 142) (by decide +kernel)) rfl
theorem f_Sha_80 : Cond.fieldLink "CircuitWays$Shares" 80 "CircuitWays$Paths" "roundCost" "[I" ∈ zt := zt_mem (List.mem_of_getElem? (i := 143) (by decide +kernel)) rfl
theorem f_Pat_27 : Cond.fieldLink "CircuitWays$Paths" 27 "CircuitWays$Paths" "roundWays" "[I" ∈ zt := zt_mem (List.mem_of_getElem? (i := 144) (by decide +kernel)) rfl
theorem f_Sha_83 : Cond.fieldLink "CircuitWays$Shares" 83 "CircuitWays$Paths" "roundWays" "[I" ∈ zt := zt_mem (List.mem_of_getElem? (i := 145) (by decide +kernel)) rfl
theorem f_Sha_29 : Cond.fieldLink "CircuitWays$Shares" 29 "CircuitWays$Shares" "net" "LCircuitWays$Net;" ∈ zt := zt_mem (List.mem_of_getElem? (i := 168) (by decide +kernel)) rfl
theorem f_Sha_33 : Cond.fieldLink "CircuitWays$Shares" 33 "CircuitWays$Shares" "paths" "LCircuitWays$Paths;" ∈ zt := zt_mem (List.mem_of_getElem? (i := 169) (by decide +kernel)) rfl
theorem f_Sha_9 : Cond.fieldLink "CircuitWays$Shares" 9 "CircuitWays$Shares" "cost" "[I" ∈ zt := zt_mem (List.mem_of_getElem? (i := 170) (by decide +kernel)) rfl
theorem f_Fir_57 : Cond.fieldLink "CircuitWays$FirstPlan" 57 "CircuitWays$Shares" "cost" "[I" ∈ zt := zt_mem (List.mem_of_getElem? (i := 171) (by decide +kernel)) rfl
theorem f_Tai_72 : Cond.fieldLink "CircuitWays$Tails" 72 "CircuitWays$Shares" "cost" "[I" ∈ zt := zt_mem (List.mem_of_getElem? (i := 172) (by decide +kernel)) rfl
theorem f_Sha_15 : Cond.fieldLink "CircuitWays$Shares" 15 "CircuitWays$Shares" "waysOf" "[I" ∈ zt := zt_mem (List.mem_of_getElem? (i := 173) (by decide +kernel)) rfl
theorem f_Sha_19 : Cond.fieldLink "CircuitWays$Shares" 19 "CircuitWays$Shares" "least" "I" ∈ zt := zt_mem (List.mem_of_getElem? (i := 174) (by decide +kernel)) rfl
theorem f_Sha_23 : Cond.fieldLink "CircuitWays$Shares" 23 "CircuitWays$Shares" "leastCount" "I" ∈ zt := zt_mem (List.mem_of_getElem? (i := 175) (by decide +kernel)) rfl
theorem f_Sha_26 : Cond.fieldLink "CircuitWays$Shares" 26 "CircuitWays$Shares" "seen" "I" ∈ zt := zt_mem (List.mem_of_getElem? (i := 176) (by decide +kernel)) rfl
theorem f_Tai_29 : Cond.fieldLink "CircuitWays$Tails" 29 "CircuitWays$Tails" "net" "LCircuitWays$Net;" ∈ zt := zt_mem (List.mem_of_getElem? (i := 198) (by decide +kernel)) rfl
theorem f_Tai_33 : Cond.fieldLink "CircuitWays$Tails" 33 "CircuitWays$Tails" "paths" "LCircuitWays$Paths;" ∈ zt := zt_mem (List.mem_of_getElem? (i := 199) (by decide +kernel)) rfl
theorem f_Tai_37 : Cond.fieldLink "CircuitWays$Tails" 37 "CircuitWays$Tails" "shares" "LCircuitWays$Shares;" ∈ zt := zt_mem (List.mem_of_getElem? (i := 200) (by decide +kernel)) rfl
theorem f_Tai_9 : Cond.fieldLink "CircuitWays$Tails" 9 "CircuitWays$Tails" "cost" "[I" ∈ zt := zt_mem (List.mem_of_getElem? (i := 201) (by decide +kernel)) rfl
theorem f_Tai_15 : Cond.fieldLink "CircuitWays$Tails" 15 "CircuitWays$Tails" "above" "[Z" ∈ zt := zt_mem (List.mem_of_getElem? (i := 202) (by decide +kernel)) rfl
theorem f_Tai_19 : Cond.fieldLink "CircuitWays$Tails" 19 "CircuitWays$Tails" "seen" "I" ∈ zt := zt_mem (List.mem_of_getElem? (i := 203) (by decide +kernel)) rfl
theorem f_Tai_23 : Cond.fieldLink "CircuitWays$Tails" 23 "CircuitWays$Tails" "free" "I" ∈ zt := zt_mem (List.mem_of_getElem? (i := 204) (by decide +kernel)) rfl
theorem f_Tai_26 : Cond.fieldLink "CircuitWays$Tails" 26 "CircuitWays$Tails" "rounds" "I" ∈ zt := zt_mem (List.mem_of_getElem? (i := 205) (by decide +kernel)) rfl
theorem f_Fir_28 : Cond.fieldLink "CircuitWays$FirstPlan" 28 "CircuitWays$FirstPlan" "net" "LCircuitWays$Net;" ∈ zt := zt_mem (List.mem_of_getElem? (i := 230) (by decide +kernel)) rfl
theorem f_Fir_32 : Cond.fieldLink "CircuitWays$FirstPlan" 32 "CircuitWays$FirstPlan" "shares" "LCircuitWays$Shares;" ∈ zt := zt_mem (List.mem_of_getElem? (i := 231) (by decide +kernel)) rfl
theorem f_Fir_36 : Cond.fieldLink "CircuitWays$FirstPlan" 36 "CircuitWays$FirstPlan" "tails" "LCircuitWays$Tails;" ∈ zt := zt_mem (List.mem_of_getElem? (i := 232) (by decide +kernel)) rfl
theorem f_Fir_9 : Cond.fieldLink "CircuitWays$FirstPlan" 9 "CircuitWays$FirstPlan" "written" "[I" ∈ zt := zt_mem (List.mem_of_getElem? (i := 233) (by decide +kernel)) rfl
theorem f_CW_141 : Cond.fieldLink "CircuitWays" 141 "CircuitWays$FirstPlan" "written" "[I" ∈ zt := zt_mem (List.mem_of_getElem? (i := 234) (by decide +kernel)) rfl
theorem f_Fir_15 : Cond.fieldLink "CircuitWays$FirstPlan" 15 "CircuitWays$FirstPlan" "length" "I" ∈ zt := zt_mem (List.mem_of_getElem? (i := 235) (by decide +kernel)) rfl
theorem f_CW_138 : Cond.fieldLink "CircuitWays" 138 "CircuitWays$FirstPlan" "length" "I" ∈ zt := zt_mem (List.mem_of_getElem? (i := 236) (by decide +kernel)) rfl
theorem f_Fir_19 : Cond.fieldLink "CircuitWays$FirstPlan" 19 "CircuitWays$FirstPlan" "seen" "I" ∈ zt := zt_mem (List.mem_of_getElem? (i := 237) (by decide +kernel)) rfl
theorem f_Fir_22 : Cond.fieldLink "CircuitWays$FirstPlan" 22 "CircuitWays$FirstPlan" "due" "I" ∈ zt := zt_mem (List.mem_of_getElem? (i := 238) (by decide +kernel)) rfl
theorem f_Fir_25 : Cond.fieldLink "CircuitWays$FirstPlan" 25 "CircuitWays$FirstPlan" "free" "I" ∈ zt := zt_mem (List.mem_of_getElem? (i := 239) (by decide +kernel)) rfl
theorem f_Tre_31 : Cond.fieldLink "CircuitWays$Tree" 31 "CircuitWays$Tree" "net" "LCircuitWays$Net;" ∈ zt := zt_mem (List.mem_of_getElem? (i := 263) (by decide +kernel)) rfl
theorem f_Tre_9 : Cond.fieldLink "CircuitWays$Tree" 9 "CircuitWays$Tree" "weights" "[I" ∈ zt := zt_mem (List.mem_of_getElem? (i := 264) (by decide +kernel)) rfl
theorem f_Tre_15 : Cond.fieldLink "CircuitWays$Tree" 15 "CircuitWays$Tree" "part" "[I" ∈ zt := zt_mem (List.mem_of_getElem? (i := 265) (by decide +kernel)) rfl
theorem f_Tre_18 : Cond.fieldLink "CircuitWays$Tree" 18 "CircuitWays$Tree" "lesser" "[I" ∈ zt := zt_mem (List.mem_of_getElem? (i := 266) (by decide +kernel)) rfl
theorem f_CW_181 : Cond.fieldLink "CircuitWays" 181 "CircuitWays$Tree" "lesser" "[I" ∈ zt := zt_mem (List.mem_of_getElem? (i := 267) (by decide +kernel)) rfl
theorem f_Tre_21 : Cond.fieldLink "CircuitWays$Tree" 21 "CircuitWays$Tree" "other" "[I" ∈ zt := zt_mem (List.mem_of_getElem? (i := 268) (by decide +kernel)) rfl
theorem f_CW_184 : Cond.fieldLink "CircuitWays" 184 "CircuitWays$Tree" "other" "[I" ∈ zt := zt_mem (List.mem_of_getElem? (i := 269) (by decide +kernel)) rfl
theorem f_Tre_24 : Cond.fieldLink "CircuitWays$Tree" 24 "CircuitWays$Tree" "chosen" "I" ∈ zt := zt_mem (List.mem_of_getElem? (i := 270) (by decide +kernel)) rfl
theorem f_CW_178 : Cond.fieldLink "CircuitWays" 178 "CircuitWays$Tree" "chosen" "I" ∈ zt := zt_mem (List.mem_of_getElem? (i := 271) (by decide +kernel)) rfl
theorem f_Tre_28 : Cond.fieldLink "CircuitWays$Tree" 28 "CircuitWays$Tree" "cost" "I" ∈ zt := zt_mem (List.mem_of_getElem? (i := 272) (by decide +kernel)) rfl
theorem f_Pai_15 : Cond.fieldLink "CircuitWays$Pairs" 15 "CircuitWays$Pairs" "net" "LCircuitWays$Net;" ∈ zt := zt_mem (List.mem_of_getElem? (i := 294) (by decide +kernel)) rfl
theorem f_Pai_9 : Cond.fieldLink "CircuitWays$Pairs" 9 "CircuitWays$Pairs" "cost" "[I" ∈ zt := zt_mem (List.mem_of_getElem? (i := 295) (by decide +kernel)) rfl
theorem f_Cir_18 : Cond.fieldLink "CircuitWays$Circles" 18 "CircuitWays$Circles" "net" "LCircuitWays$Net;" ∈ zt := zt_mem (List.mem_of_getElem? (i := 307) (by decide +kernel)) rfl
theorem f_Cir_9 : Cond.fieldLink "CircuitWays$Circles" 9 "CircuitWays$Circles" "follower" "[I" ∈ zt := zt_mem (List.mem_of_getElem? (i := 308) (by decide +kernel)) rfl
theorem f_Cir_15 : Cond.fieldLink "CircuitWays$Circles" 15 "CircuitWays$Circles" "members" "[I" ∈ zt := zt_mem (List.mem_of_getElem? (i := 309) (by decide +kernel)) rfl
theorem f_CW_197 : Cond.fieldLink "CircuitWays" 197 "CircuitWays$Circles" "members" "[I" ∈ zt := zt_mem (List.mem_of_getElem? (i := 310) (by decide +kernel)) rfl
theorem f_Way_15 : Cond.fieldLink "CircuitWays$Ways" 15 "CircuitWays$Ways" "net" "LCircuitWays$Net;" ∈ zt := zt_mem (List.mem_of_getElem? (i := 324) (by decide +kernel)) rfl
theorem f_Way_9 : Cond.fieldLink "CircuitWays$Ways" 9 "CircuitWays$Ways" "reachedWithout" "[I" ∈ zt := zt_mem (List.mem_of_getElem? (i := 325) (by decide +kernel)) rfl
theorem f_Row_22 : Cond.fieldLink "CircuitWays$Row" 22 "CircuitWays$Row" "net" "LCircuitWays$Net;" ∈ zt := zt_mem (List.mem_of_getElem? (i := 337) (by decide +kernel)) rfl
theorem f_Row_9 : Cond.fieldLink "CircuitWays$Row" 9 "CircuitWays$Row" "numbers" "[I" ∈ zt := zt_mem (List.mem_of_getElem? (i := 338) (by decide +kernel)) rfl
theorem f_Row_15 : Cond.fieldLink "CircuitWays$Row" 15 "CircuitWays$Row" "trial" "[I" ∈ zt := zt_mem (List.mem_of_getElem? (i := 339) (by decide +kernel)) rfl
theorem f_Row_18 : Cond.fieldLink "CircuitWays$Row" 18 "CircuitWays$Row" "size" "I" ∈ zt := zt_mem (List.mem_of_getElem? (i := 340) (by decide +kernel)) rfl
theorem f_CW_203 : Cond.fieldLink "CircuitWays" 203 "CircuitWays$Row" "size" "I" ∈ zt := zt_mem (List.mem_of_getElem? (i := 341) (by decide +kernel)) rfl
theorem f_CW_10 : Cond.fieldLink "CircuitWays" 10 "CircuitWays" "net" "LCircuitWays$Net;" ∈ zt := zt_mem (List.mem_of_getElem? (i := 351) (by decide +kernel)) rfl
theorem f_CW_26 : Cond.fieldLink "CircuitWays" 26 "CircuitWays" "shares" "LCircuitWays$Shares;" ∈ zt := zt_mem (List.mem_of_getElem? (i := 352) (by decide +kernel)) rfl
theorem f_CW_35 : Cond.fieldLink "CircuitWays" 35 "CircuitWays" "tails" "LCircuitWays$Tails;" ∈ zt := zt_mem (List.mem_of_getElem? (i := 353) (by decide +kernel)) rfl
theorem f_CW_44 : Cond.fieldLink "CircuitWays" 44 "CircuitWays" "firstPlan" "LCircuitWays$FirstPlan;" ∈ zt := zt_mem (List.mem_of_getElem? (i := 354) (by decide +kernel)) rfl
theorem f_CW_51 : Cond.fieldLink "CircuitWays" 51 "CircuitWays" "tree" "LCircuitWays$Tree;" ∈ zt := zt_mem (List.mem_of_getElem? (i := 355) (by decide +kernel)) rfl
theorem f_CW_58 : Cond.fieldLink "CircuitWays" 58 "CircuitWays" "pairs" "LCircuitWays$Pairs;" ∈ zt := zt_mem (List.mem_of_getElem? (i := 356) (by decide +kernel)) rfl
theorem f_CW_65 : Cond.fieldLink "CircuitWays" 65 "CircuitWays" "circles" "LCircuitWays$Circles;" ∈ zt := zt_mem (List.mem_of_getElem? (i := 357) (by decide +kernel)) rfl
theorem f_CW_72 : Cond.fieldLink "CircuitWays" 72 "CircuitWays" "ways" "LCircuitWays$Ways;" ∈ zt := zt_mem (List.mem_of_getElem? (i := 358) (by decide +kernel)) rfl
theorem f_CW_79 : Cond.fieldLink "CircuitWays" 79 "CircuitWays" "row" "LCircuitWays$Row;" ∈ zt := zt_mem (List.mem_of_getElem? (i := 359) (by decide +kernel)) rfl
theorem f_Mo_1 : Cond.fieldLink "CircuitWaysModel" 1 "CircuitWaysModel" "thrown" "I" ∈ zt := zt_mem (List.mem_of_getElem? (i := 792) (by decide +kernel)) rfl
theorem f_Mo_13 : Cond.fieldLink "CircuitWaysModel" 13 "CircuitWaysModel" "nodes" "I" ∈ zt := zt_mem (List.mem_of_getElem? (i := 793) (by decide +kernel)) rfl
theorem f_Mo_16 : Cond.fieldLink "CircuitWaysModel" 16 "CircuitWaysModel" "load" "[I" ∈ zt := zt_mem (List.mem_of_getElem? (i := 794) (by decide +kernel)) rfl
theorem f_Mo_20 : Cond.fieldLink "CircuitWaysModel" 20 "CircuitWaysModel" "arc" "[I" ∈ zt := zt_mem (List.mem_of_getElem? (i := 795) (by decide +kernel)) rfl
theorem f_Mo_23 : Cond.fieldLink "CircuitWaysModel" 23 "CircuitWaysModel" "price" "[I" ∈ zt := zt_mem (List.mem_of_getElem? (i := 796) (by decide +kernel)) rfl
theorem f_Mo_26 : Cond.fieldLink "CircuitWaysModel" 26 "CircuitWaysModel" "isAhead" "[Z" ∈ zt := zt_mem (List.mem_of_getElem? (i := 797) (by decide +kernel)) rfl
theorem f_Mo_30 : Cond.fieldLink "CircuitWaysModel" 30 "CircuitWaysModel" "most" "I" ∈ zt := zt_mem (List.mem_of_getElem? (i := 798) (by decide +kernel)) rfl
theorem f_Mo_33 : Cond.fieldLink "CircuitWaysModel" 33 "CircuitWaysModel" "room" "I" ∈ zt := zt_mem (List.mem_of_getElem? (i := 799) (by decide +kernel)) rfl
theorem f_Mo_89 : Cond.fieldLink "CircuitWaysModel" 89 "CircuitWaysModel" "open" "I" ∈ zt := zt_mem (List.mem_of_getElem? (i := 800) (by decide +kernel)) rfl
theorem f_Mo_36 : Cond.fieldLink "CircuitWaysModel" 36 "CircuitWaysModel" "weight" "[I" ∈ zt := zt_mem (List.mem_of_getElem? (i := 801) (by decide +kernel)) rfl
theorem f_Mo_39 : Cond.fieldLink "CircuitWaysModel" 39 "CircuitWaysModel" "next" "[I" ∈ zt := zt_mem (List.mem_of_getElem? (i := 802) (by decide +kernel)) rfl
theorem f_Mo_42 : Cond.fieldLink "CircuitWaysModel" 42 "CircuitWaysModel" "row" "[I" ∈ zt := zt_mem (List.mem_of_getElem? (i := 803) (by decide +kernel)) rfl
theorem f_Mo_181 : Cond.fieldLink "CircuitWaysModel" 181 "CircuitWaysModel" "rowSize" "I" ∈ zt := zt_mem (List.mem_of_getElem? (i := 804) (by decide +kernel)) rfl
theorem f_Mo_80 : Cond.fieldLink "CircuitWaysModel" 80 "CircuitWaysModel" "isKnown" "Z" ∈ zt := zt_mem (List.mem_of_getElem? (i := 805) (by decide +kernel)) rfl
theorem f_Mo_102 : Cond.fieldLink "CircuitWaysModel" 102 "CircuitWaysModel" "best" "I" ∈ zt := zt_mem (List.mem_of_getElem? (i := 806) (by decide +kernel)) rfl
theorem f_Mo_105 : Cond.fieldLink "CircuitWaysModel" 105 "CircuitWaysModel" "many" "I" ∈ zt := zt_mem (List.mem_of_getElem? (i := 807) (by decide +kernel)) rfl
theorem f_Mo_45 : Cond.fieldLink "CircuitWaysModel" 45 "CircuitWaysModel" "with" "[I" ∈ zt := zt_mem (List.mem_of_getElem? (i := 808) (by decide +kernel)) rfl
theorem f_Mo_48 : Cond.fieldLink "CircuitWaysModel" 48 "CircuitWaysModel" "without" "[I" ∈ zt := zt_mem (List.mem_of_getElem? (i := 809) (by decide +kernel)) rfl
theorem f_Mo_51 : Cond.fieldLink "CircuitWaysModel" 51 "CircuitWaysModel" "first" "[I" ∈ zt := zt_mem (List.mem_of_getElem? (i := 810) (by decide +kernel)) rfl
theorem f_Mo_108 : Cond.fieldLink "CircuitWaysModel" 108 "CircuitWaysModel" "firstSize" "I" ∈ zt := zt_mem (List.mem_of_getElem? (i := 811) (by decide +kernel)) rfl
theorem f_Mo_54 : Cond.fieldLink "CircuitWaysModel" 54 "CircuitWaysModel" "written" "[I" ∈ zt := zt_mem (List.mem_of_getElem? (i := 812) (by decide +kernel)) rfl
theorem f_Mo_115 : Cond.fieldLink "CircuitWaysModel" 115 "CircuitWaysModel" "writtenSize" "I" ∈ zt := zt_mem (List.mem_of_getElem? (i := 813) (by decide +kernel)) rfl
theorem f_Mo_92 : Cond.fieldLink "CircuitWaysModel" 92 "CircuitWaysModel" "used" "I" ∈ zt := zt_mem (List.mem_of_getElem? (i := 814) (by decide +kernel)) rfl
theorem f_Mo_98 : Cond.fieldLink "CircuitWaysModel" 98 "CircuitWaysModel" "here" "I" ∈ zt := zt_mem (List.mem_of_getElem? (i := 815) (by decide +kernel)) rfl
theorem f_Mo_95 : Cond.fieldLink "CircuitWaysModel" 95 "CircuitWaysModel" "hereLoad" "I" ∈ zt := zt_mem (List.mem_of_getElem? (i := 816) (by decide +kernel)) rfl
theorem f_Mo_122 : Cond.fieldLink "CircuitWaysModel" 122 "CircuitWaysModel" "rounds" "I" ∈ zt := zt_mem (List.mem_of_getElem? (i := 817) (by decide +kernel)) rfl
theorem f_Mo_57 : Cond.fieldLink "CircuitWaysModel" 57 "CircuitWaysModel" "edgeA" "[I" ∈ zt := zt_mem (List.mem_of_getElem? (i := 818) (by decide +kernel)) rfl
theorem f_Mo_60 : Cond.fieldLink "CircuitWaysModel" 60 "CircuitWaysModel" "edgeB" "[I" ∈ zt := zt_mem (List.mem_of_getElem? (i := 819) (by decide +kernel)) rfl
theorem f_Mo_150 : Cond.fieldLink "CircuitWaysModel" 150 "CircuitWaysModel" "edges" "I" ∈ zt := zt_mem (List.mem_of_getElem? (i := 820) (by decide +kernel)) rfl
theorem f_Mo_63 : Cond.fieldLink "CircuitWaysModel" 63 "CircuitWaysModel" "part" "[I" ∈ zt := zt_mem (List.mem_of_getElem? (i := 821) (by decide +kernel)) rfl
theorem f_Mo_66 : Cond.fieldLink "CircuitWaysModel" 66 "CircuitWaysModel" "paired" "[I" ∈ zt := zt_mem (List.mem_of_getElem? (i := 822) (by decide +kernel)) rfl
theorem m_La_9 : Cond.methodLink "CircuitWaysLaw" 9 (⟨"CircuitWays", "<init>", "()V"⟩ : MethodName) ∈ zt := zt_mem (List.mem_of_getElem? (i := 56) (by decide +kernel)) rfl
theorem m_CW_1 : Cond.methodLink "CircuitWays" 1 (⟨"java/lang/Object", "<init>", "()V"⟩ : MethodName) ∈ zt := zt_mem (List.mem_of_getElem? (i := 59) (by decide +kernel)) rfl
theorem m_CW_9 : Cond.methodLink "CircuitWays" 9 (⟨"CircuitWays$Net", "<init>", "()V"⟩ : MethodName) ∈ zt := zt_mem (List.mem_of_getElem? (i := 64) (by decide +kernel)) rfl
theorem m_Net_3 : Cond.methodLink "CircuitWays$Net" 3 (⟨"java/lang/Object", "<init>", "()V"⟩ : MethodName) ∈ zt := zt_mem (List.mem_of_getElem? (i := 67) (by decide +kernel)) rfl
theorem m_CW_18 : Cond.methodLink "CircuitWays" 18 (⟨"CircuitWays$Paths", "<init>", "(LCircuitWays$Net;)V"⟩ : MethodName) ∈ zt := zt_mem (List.mem_of_getElem? (i := 131) (by decide +kernel)) rfl
theorem m_Pat_3 : Cond.methodLink "CircuitWays$Paths" 3 (⟨"java/lang/Object", "<init>", "()V"⟩ : MethodName) ∈ zt := zt_mem (List.mem_of_getElem? (i := 134) (by decide +kernel)) rfl
theorem m_CW_23 : Cond.methodLink "CircuitWays" 23 (⟨"CircuitWays$Shares", "<init>", "(LCircuitWays$Net;LCircuitWays$Paths;)V"⟩ : MethodName) ∈ zt := zt_mem (List.mem_of_getElem? (i := 163) (by decide +kernel)) rfl
theorem m_Sha_3 : Cond.methodLink "CircuitWays$Shares" 3 (⟨"java/lang/Object", "<init>", "()V"⟩ : MethodName) ∈ zt := zt_mem (List.mem_of_getElem? (i := 166) (by decide +kernel)) rfl
theorem m_CW_32 : Cond.methodLink "CircuitWays" 32 (⟨"CircuitWays$Tails", "<init>", "(LCircuitWays$Net;LCircuitWays$Paths;LCircuitWays$Shares;)V"⟩ : MethodName) ∈ zt := zt_mem (List.mem_of_getElem? (i := 194) (by decide +kernel)) rfl
theorem m_Tai_3 : Cond.methodLink "CircuitWays$Tails" 3 (⟨"java/lang/Object", "<init>", "()V"⟩ : MethodName) ∈ zt := zt_mem (List.mem_of_getElem? (i := 197) (by decide +kernel)) rfl
theorem m_CW_41 : Cond.methodLink "CircuitWays" 41 (⟨"CircuitWays$FirstPlan", "<init>", "(LCircuitWays$Net;LCircuitWays$Shares;LCircuitWays$Tails;)V"⟩ : MethodName) ∈ zt := zt_mem (List.mem_of_getElem? (i := 226) (by decide +kernel)) rfl
theorem m_Fir_3 : Cond.methodLink "CircuitWays$FirstPlan" 3 (⟨"java/lang/Object", "<init>", "()V"⟩ : MethodName) ∈ zt := zt_mem (List.mem_of_getElem? (i := 229) (by decide +kernel)) rfl
theorem m_CW_50 : Cond.methodLink "CircuitWays" 50 (⟨"CircuitWays$Tree", "<init>", "(LCircuitWays$Net;)V"⟩ : MethodName) ∈ zt := zt_mem (List.mem_of_getElem? (i := 259) (by decide +kernel)) rfl
theorem m_Tre_3 : Cond.methodLink "CircuitWays$Tree" 3 (⟨"java/lang/Object", "<init>", "()V"⟩ : MethodName) ∈ zt := zt_mem (List.mem_of_getElem? (i := 262) (by decide +kernel)) rfl
theorem m_CW_57 : Cond.methodLink "CircuitWays" 57 (⟨"CircuitWays$Pairs", "<init>", "(LCircuitWays$Net;)V"⟩ : MethodName) ∈ zt := zt_mem (List.mem_of_getElem? (i := 290) (by decide +kernel)) rfl
theorem m_Pai_3 : Cond.methodLink "CircuitWays$Pairs" 3 (⟨"java/lang/Object", "<init>", "()V"⟩ : MethodName) ∈ zt := zt_mem (List.mem_of_getElem? (i := 293) (by decide +kernel)) rfl
theorem m_CW_64 : Cond.methodLink "CircuitWays" 64 (⟨"CircuitWays$Circles", "<init>", "(LCircuitWays$Net;)V"⟩ : MethodName) ∈ zt := zt_mem (List.mem_of_getElem? (i := 303) (by decide +kernel)) rfl
theorem m_Cir_3 : Cond.methodLink "CircuitWays$Circles" 3 (⟨"java/lang/Object", "<init>", "()V"⟩ : MethodName) ∈ zt := zt_mem (List.mem_of_getElem? (i := 306) (by decide +kernel)) rfl
theorem m_CW_71 : Cond.methodLink "CircuitWays" 71 (⟨"CircuitWays$Ways", "<init>", "(LCircuitWays$Net;)V"⟩ : MethodName) ∈ zt := zt_mem (List.mem_of_getElem? (i := 320) (by decide +kernel)) rfl
theorem m_Way_3 : Cond.methodLink "CircuitWays$Ways" 3 (⟨"java/lang/Object", "<init>", "()V"⟩ : MethodName) ∈ zt := zt_mem (List.mem_of_getElem? (i := 323) (by decide +kernel)) rfl
theorem m_CW_78 : Cond.methodLink "CircuitWays" 78 (⟨"CircuitWays$Row", "<init>", "(LCircuitWays$Net;)V"⟩ : MethodName) ∈ zt := zt_mem (List.mem_of_getElem? (i := 333) (by decide +kernel)) rfl
theorem m_Row_3 : Cond.methodLink "CircuitWays$Row" 3 (⟨"java/lang/Object", "<init>", "()V"⟩ : MethodName) ∈ zt := zt_mem (List.mem_of_getElem? (i := 336) (by decide +kernel)) rfl
theorem m_La_13 : Cond.methodLink "CircuitWaysLaw" 13 (⟨"CircuitWays", "node", "(I)I"⟩ : MethodName) ∈ zt := zt_mem (List.mem_of_getElem? (i := 379) (by decide +kernel)) rfl
theorem m_CW_89 : Cond.methodLink "CircuitWays" 89 (⟨"CircuitWays$Net", "addNode", "(I)I"⟩ : MethodName) ∈ zt := zt_mem (List.mem_of_getElem? (i := 385) (by decide +kernel)) rfl
theorem m_La_18 : Cond.methodLink "CircuitWaysLaw" 18 (⟨"CircuitWays", "arc", "(III)I"⟩ : MethodName) ∈ zt := zt_mem (List.mem_of_getElem? (i := 389) (by decide +kernel)) rfl
theorem m_CW_93 : Cond.methodLink "CircuitWays" 93 (⟨"CircuitWays$Net", "areTwo", "(II)Z"⟩ : MethodName) ∈ zt := zt_mem (List.mem_of_getElem? (i := 393) (by decide +kernel)) rfl
theorem m_Net_41 : Cond.methodLink "CircuitWays$Net" 41 (⟨"CircuitWays$Net", "isNode", "(I)Z"⟩ : MethodName) ∈ zt := zt_mem (List.mem_of_getElem? (i := 397) (by decide +kernel)) rfl
theorem m_CW_97 : Cond.methodLink "CircuitWays" 97 (⟨"CircuitWays$Net", "changeCost", "(III)I"⟩ : MethodName) ∈ zt := zt_mem (List.mem_of_getElem? (i := 401) (by decide +kernel)) rfl
theorem m_CW_101 : Cond.methodLink "CircuitWays" 101 (⟨"CircuitWays", "orNone", "(I)I"⟩ : MethodName) ∈ zt := zt_mem (List.mem_of_getElem? (i := 405) (by decide +kernel)) rfl
theorem m_La_23 : Cond.methodLink "CircuitWaysLaw" 23 (⟨"CircuitWays", "lose", "(II)I"⟩ : MethodName) ∈ zt := zt_mem (List.mem_of_getElem? (i := 410) (by decide +kernel)) rfl
theorem m_La_28 : Cond.methodLink "CircuitWaysLaw" 28 (⟨"CircuitWays", "price", "(II)I"⟩ : MethodName) ∈ zt := zt_mem (List.mem_of_getElem? (i := 414) (by decide +kernel)) rfl
theorem m_CW_105 : Cond.methodLink "CircuitWays" 105 (⟨"CircuitWays$Net", "isPlace", "(I)Z"⟩ : MethodName) ∈ zt := zt_mem (List.mem_of_getElem? (i := 418) (by decide +kernel)) rfl
theorem m_CW_109 : Cond.methodLink "CircuitWays" 109 (⟨"CircuitWays$Net", "changePrice", "(II)I"⟩ : MethodName) ∈ zt := zt_mem (List.mem_of_getElem? (i := 422) (by decide +kernel)) rfl
theorem m_La_32 : Cond.methodLink "CircuitWaysLaw" 32 (⟨"CircuitWays", "ahead", "(IIZ)I"⟩ : MethodName) ∈ zt := zt_mem (List.mem_of_getElem? (i := 426) (by decide +kernel)) rfl
theorem m_CW_113 : Cond.methodLink "CircuitWays" 113 (⟨"CircuitWays$Net", "changeEarlier", "(IIZ)I"⟩ : MethodName) ∈ zt := zt_mem (List.mem_of_getElem? (i := 430) (by decide +kernel)) rfl
theorem m_La_37 : Cond.methodLink "CircuitWaysLaw" 37 (⟨"CircuitWays", "rule", "(II)I"⟩ : MethodName) ∈ zt := zt_mem (List.mem_of_getElem? (i := 437) (by decide +kernel)) rfl
theorem m_CW_117 : Cond.methodLink "CircuitWays" 117 (⟨"CircuitWays$Net", "changeMost", "(I)I"⟩ : MethodName) ∈ zt := zt_mem (List.mem_of_getElem? (i := 441) (by decide +kernel)) rfl
theorem m_CW_120 : Cond.methodLink "CircuitWays" 120 (⟨"CircuitWays$Net", "changeRoom", "(I)I"⟩ : MethodName) ∈ zt := zt_mem (List.mem_of_getElem? (i := 445) (by decide +kernel)) rfl
theorem m_CW_123 : Cond.methodLink "CircuitWays" 123 (⟨"CircuitWays$Net", "changeOpen", "(I)I"⟩ : MethodName) ∈ zt := zt_mem (List.mem_of_getElem? (i := 449) (by decide +kernel)) rfl
theorem m_La_41 : Cond.methodLink "CircuitWaysLaw" 41 (⟨"CircuitWays", "best", "()I"⟩ : MethodName) ∈ zt := zt_mem (List.mem_of_getElem? (i := 453) (by decide +kernel)) rfl
theorem m_CW_126 : Cond.methodLink "CircuitWays" 126 (⟨"CircuitWays$Shares", "refresh", "()V"⟩ : MethodName) ∈ zt := zt_mem (List.mem_of_getElem? (i := 457) (by decide +kernel)) rfl
theorem m_Sha_42 : Cond.methodLink "CircuitWays$Shares" 42 (⟨"CircuitWays$Paths", "compute", "()V"⟩ : MethodName) ∈ zt := zt_mem (List.mem_of_getElem? (i := 461) (by decide +kernel)) rfl
theorem m_Pat_34 : Cond.methodLink "CircuitWays$Paths" 34 (⟨"CircuitWays$Paths", "addLoads", "()V"⟩ : MethodName) ∈ zt := zt_mem (List.mem_of_getElem? (i := 465) (by decide +kernel)) rfl
theorem m_Pat_37 : Cond.methodLink "CircuitWays$Paths" 37 (⟨"CircuitWays$Paths", "clearPaths", "()V"⟩ : MethodName) ∈ zt := zt_mem (List.mem_of_getElem? (i := 470) (by decide +kernel)) rfl
theorem m_Pat_40 : Cond.methodLink "CircuitWays$Paths" 40 (⟨"CircuitWays$Net", "allPlaces", "()I"⟩ : MethodName) ∈ zt := zt_mem (List.mem_of_getElem? (i := 474) (by decide +kernel)) rfl
theorem m_Pat_46 : Cond.methodLink "CircuitWays$Paths" 46 (⟨"CircuitWays$Paths", "followersOf", "(I)I"⟩ : MethodName) ∈ zt := zt_mem (List.mem_of_getElem? (i := 479) (by decide +kernel)) rfl
theorem m_Pat_55 : Cond.methodLink "CircuitWays$Paths" 55 (⟨"CircuitWays$Paths", "extend", "(II)V"⟩ : MethodName) ∈ zt := zt_mem (List.mem_of_getElem? (i := 483) (by decide +kernel)) rfl
theorem m_Pat_59 : Cond.methodLink "CircuitWays$Paths" 59 (⟨"CircuitWays$Paths", "closeRound", "(I)V"⟩ : MethodName) ∈ zt := zt_mem (List.mem_of_getElem? (i := 487) (by decide +kernel)) rfl
theorem m_Pat_78 : Cond.methodLink "CircuitWays$Paths" 78 (⟨"CircuitWays$Net", "costBack", "(I)I"⟩ : MethodName) ∈ zt := zt_mem (List.mem_of_getElem? (i := 491) (by decide +kernel)) rfl
theorem m_Sha_47 : Cond.methodLink "CircuitWays$Shares" 47 (⟨"CircuitWays$Net", "allPlaces", "()I"⟩ : MethodName) ∈ zt := zt_mem (List.mem_of_getElem? (i := 498) (by decide +kernel)) rfl
theorem m_Sha_51 : Cond.methodLink "CircuitWays$Shares" 51 (⟨"CircuitWays$Net", "costOut", "(I)I"⟩ : MethodName) ∈ zt := zt_mem (List.mem_of_getElem? (i := 499) (by decide +kernel)) rfl
theorem m_Sha_58 : Cond.methodLink "CircuitWays$Shares" 58 (⟨"java/lang/Integer", "bitCount", "(I)I"⟩ : MethodName) ∈ zt := zt_mem (List.mem_of_getElem? (i := 504) (by decide +kernel)) rfl
theorem m_Sha_63 : Cond.methodLink "CircuitWays$Shares" 63 (⟨"CircuitWays$Shares", "copyShare", "(II)V"⟩ : MethodName) ∈ zt := zt_mem (List.mem_of_getElem? (i := 510) (by decide +kernel)) rfl
theorem m_Sha_67 : Cond.methodLink "CircuitWays$Shares" 67 (⟨"CircuitWays$Shares", "share", "(II)V"⟩ : MethodName) ∈ zt := zt_mem (List.mem_of_getElem? (i := 514) (by decide +kernel)) rfl
theorem m_Sha_77 : Cond.methodLink "CircuitWays$Shares" 77 (⟨"CircuitWays$Shares", "offer", "(II)V"⟩ : MethodName) ∈ zt := zt_mem (List.mem_of_getElem? (i := 519) (by decide +kernel)) rfl
theorem m_CW_129 : Cond.methodLink "CircuitWays" 129 (⟨"CircuitWays$Shares", "leastCost", "()I"⟩ : MethodName) ∈ zt := zt_mem (List.mem_of_getElem? (i := 523) (by decide +kernel)) rfl
theorem m_La_46 : Cond.methodLink "CircuitWaysLaw" 46 (⟨"CircuitWays", "many", "()I"⟩ : MethodName) ∈ zt := zt_mem (List.mem_of_getElem? (i := 527) (by decide +kernel)) rfl
theorem m_CW_133 : Cond.methodLink "CircuitWays" 133 (⟨"CircuitWays$Shares", "leastWays", "()I"⟩ : MethodName) ∈ zt := zt_mem (List.mem_of_getElem? (i := 531) (by decide +kernel)) rfl
theorem m_La_50 : Cond.methodLink "CircuitWaysLaw" 50 (⟨"CircuitWays", "first", "(I)I"⟩ : MethodName) ∈ zt := zt_mem (List.mem_of_getElem? (i := 535) (by decide +kernel)) rfl
theorem m_CW_137 : Cond.methodLink "CircuitWays" 137 (⟨"CircuitWays$FirstPlan", "refresh", "()V"⟩ : MethodName) ∈ zt := zt_mem (List.mem_of_getElem? (i := 539) (by decide +kernel)) rfl
theorem m_Fir_45 : Cond.methodLink "CircuitWays$FirstPlan" 45 (⟨"CircuitWays$Shares", "leastCost", "()I"⟩ : MethodName) ∈ zt := zt_mem (List.mem_of_getElem? (i := 543) (by decide +kernel)) rfl
theorem m_Fir_51 : Cond.methodLink "CircuitWays$FirstPlan" 51 (⟨"CircuitWays$Net", "allPlaces", "()I"⟩ : MethodName) ∈ zt := zt_mem (List.mem_of_getElem? (i := 544) (by decide +kernel)) rfl
theorem m_Fir_60 : Cond.methodLink "CircuitWays$FirstPlan" 60 (⟨"CircuitWays$FirstPlan", "write", "(I)V"⟩ : MethodName) ∈ zt := zt_mem (List.mem_of_getElem? (i := 545) (by decide +kernel)) rfl
theorem m_Fir_64 : Cond.methodLink "CircuitWays$FirstPlan" 64 (⟨"CircuitWays$Tails", "fill", "(II)V"⟩ : MethodName) ∈ zt := zt_mem (List.mem_of_getElem? (i := 549) (by decide +kernel)) rfl
theorem m_Tai_53 : Cond.methodLink "CircuitWays$Tails" 53 (⟨"CircuitWays$Tails", "leastBehind", "(II)I"⟩ : MethodName) ∈ zt := zt_mem (List.mem_of_getElem? (i := 554) (by decide +kernel)) rfl
theorem m_Tai_75 : Cond.methodLink "CircuitWays$Tails" 75 (⟨"CircuitWays$Tails", "costClosing", "(II)I"⟩ : MethodName) ∈ zt := zt_mem (List.mem_of_getElem? (i := 558) (by decide +kernel)) rfl
theorem m_Tai_69 : Cond.methodLink "CircuitWays$Tails" 69 (⟨"CircuitWays$Net", "costBack", "(I)I"⟩ : MethodName) ∈ zt := zt_mem (List.mem_of_getElem? (i := 562) (by decide +kernel)) rfl
theorem m_Tai_78 : Cond.methodLink "CircuitWays$Tails" 78 (⟨"CircuitWays$Tails", "costOver", "(III)I"⟩ : MethodName) ∈ zt := zt_mem (List.mem_of_getElem? (i := 564) (by decide +kernel)) rfl
theorem m_Tai_82 : Cond.methodLink "CircuitWays$Tails" 82 (⟨"java/lang/Math", "min", "(II)I"⟩ : MethodName) ∈ zt := zt_mem (List.mem_of_getElem? (i := 569) (by decide +kernel)) rfl
theorem m_Fir_70 : Cond.methodLink "CircuitWays$FirstPlan" 70 (⟨"CircuitWays$FirstPlan", "writeRound", "()V"⟩ : MethodName) ∈ zt := zt_mem (List.mem_of_getElem? (i := 572) (by decide +kernel)) rfl
theorem m_Fir_73 : Cond.methodLink "CircuitWays$FirstPlan" 73 (⟨"CircuitWays$Tails", "costClosing", "(II)I"⟩ : MethodName) ∈ zt := zt_mem (List.mem_of_getElem? (i := 576) (by decide +kernel)) rfl
theorem m_Fir_77 : Cond.methodLink "CircuitWays$FirstPlan" 77 (⟨"CircuitWays$FirstPlan", "followerDue", "(II)I"⟩ : MethodName) ∈ zt := zt_mem (List.mem_of_getElem? (i := 577) (by decide +kernel)) rfl
theorem m_Fir_93 : Cond.methodLink "CircuitWays$FirstPlan" 93 (⟨"CircuitWays$Tails", "costOver", "(III)I"⟩ : MethodName) ∈ zt := zt_mem (List.mem_of_getElem? (i := 581) (by decide +kernel)) rfl
theorem m_Fir_87 : Cond.methodLink "CircuitWays$FirstPlan" 87 (⟨"CircuitWays$Net", "costBack", "(I)I"⟩ : MethodName) ∈ zt := zt_mem (List.mem_of_getElem? (i := 583) (by decide +kernel)) rfl
theorem m_La_54 : Cond.methodLink "CircuitWaysLaw" 54 (⟨"CircuitWays", "with", "(II)I"⟩ : MethodName) ∈ zt := zt_mem (List.mem_of_getElem? (i := 584) (by decide +kernel)) rfl
theorem m_CW_145 : Cond.methodLink "CircuitWays" 145 (⟨"CircuitWays$Net", "allPlaces", "()I"⟩ : MethodName) ∈ zt := zt_mem (List.mem_of_getElem? (i := 588) (by decide +kernel)) rfl
theorem m_CW_151 : Cond.methodLink "CircuitWays" 151 (⟨"CircuitWays$Tails", "fill", "(II)V"⟩ : MethodName) ∈ zt := zt_mem (List.mem_of_getElem? (i := 589) (by decide +kernel)) rfl
theorem m_CW_156 : Cond.methodLink "CircuitWays" 156 (⟨"CircuitWays$Tails", "leastThrough", "(III)I"⟩ : MethodName) ∈ zt := zt_mem (List.mem_of_getElem? (i := 591) (by decide +kernel)) rfl
theorem m_Tai_90 : Cond.methodLink "CircuitWays$Tails" 90 (⟨"CircuitWays$Net", "allPlaces", "()I"⟩ : MethodName) ∈ zt := zt_mem (List.mem_of_getElem? (i := 595) (by decide +kernel)) rfl
theorem m_La_58 : Cond.methodLink "CircuitWaysLaw" 58 (⟨"CircuitWays", "without", "(I)I"⟩ : MethodName) ∈ zt := zt_mem (List.mem_of_getElem? (i := 596) (by decide +kernel)) rfl
theorem m_CW_159 : Cond.methodLink "CircuitWays" 159 (⟨"CircuitWays$Shares", "leastLeavingOut", "(I)I"⟩ : MethodName) ∈ zt := zt_mem (List.mem_of_getElem? (i := 600) (by decide +kernel)) rfl
theorem m_La_62 : Cond.methodLink "CircuitWaysLaw" 62 (⟨"CircuitWays", "filter", "(I)I"⟩ : MethodName) ∈ zt := zt_mem (List.mem_of_getElem? (i := 605) (by decide +kernel)) rfl
theorem m_CW_162 : Cond.methodLink "CircuitWays" 162 (⟨"CircuitWays$Tails", "dropArcsAbove", "(I)I"⟩ : MethodName) ∈ zt := zt_mem (List.mem_of_getElem? (i := 609) (by decide +kernel)) rfl
theorem m_Tai_97 : Cond.methodLink "CircuitWays$Tails" 97 (⟨"CircuitWays$Tails", "leastThrough", "(III)I"⟩ : MethodName) ∈ zt := zt_mem (List.mem_of_getElem? (i := 613) (by decide +kernel)) rfl
theorem m_Tai_100 : Cond.methodLink "CircuitWays$Tails" 100 (⟨"CircuitWays$Net", "changeCost", "(III)I"⟩ : MethodName) ∈ zt := zt_mem (List.mem_of_getElem? (i := 614) (by decide +kernel)) rfl
theorem m_La_66 : Cond.methodLink "CircuitWaysLaw" 66 (⟨"CircuitWays", "weight", "(II)I"⟩ : MethodName) ∈ zt := zt_mem (List.mem_of_getElem? (i := 615) (by decide +kernel)) rfl
theorem m_CW_165 : Cond.methodLink "CircuitWays" 165 (⟨"CircuitWays$Net", "isNode", "(I)Z"⟩ : MethodName) ∈ zt := zt_mem (List.mem_of_getElem? (i := 619) (by decide +kernel)) rfl
theorem m_CW_168 : Cond.methodLink "CircuitWays" 168 (⟨"CircuitWays$Tree", "changeWeight", "(II)I"⟩ : MethodName) ∈ zt := zt_mem (List.mem_of_getElem? (i := 620) (by decide +kernel)) rfl
theorem m_La_70 : Cond.methodLink "CircuitWaysLaw" 70 (⟨"CircuitWays", "bound", "()I"⟩ : MethodName) ∈ zt := zt_mem (List.mem_of_getElem? (i := 624) (by decide +kernel)) rfl
theorem m_CW_171 : Cond.methodLink "CircuitWays" 171 (⟨"CircuitWays$Tree", "grow", "()Z"⟩ : MethodName) ∈ zt := zt_mem (List.mem_of_getElem? (i := 628) (by decide +kernel)) rfl
theorem m_Tre_40 : Cond.methodLink "CircuitWays$Tree" 40 (⟨"CircuitWays$Tree", "chooseJoining", "()Z"⟩ : MethodName) ∈ zt := zt_mem (List.mem_of_getElem? (i := 632) (by decide +kernel)) rfl
theorem m_Tre_61 : Cond.methodLink "CircuitWays$Tree" 61 (⟨"CircuitWays$Tree", "edgeCost", "(II)I"⟩ : MethodName) ∈ zt := zt_mem (List.mem_of_getElem? (i := 637) (by decide +kernel)) rfl
theorem m_Tre_51 : Cond.methodLink "CircuitWays$Tree" 51 (⟨"java/lang/Math", "min", "(II)I"⟩ : MethodName) ∈ zt := zt_mem (List.mem_of_getElem? (i := 641) (by decide +kernel)) rfl
theorem m_Tre_64 : Cond.methodLink "CircuitWays$Tree" 64 (⟨"CircuitWays$Tree", "choose", "(II)Z"⟩ : MethodName) ∈ zt := zt_mem (List.mem_of_getElem? (i := 643) (by decide +kernel)) rfl
theorem m_Tre_44 : Cond.methodLink "CircuitWays$Tree" 44 (⟨"CircuitWays$Tree", "chooseAtHouse", "(I)Z"⟩ : MethodName) ∈ zt := zt_mem (List.mem_of_getElem? (i := 647) (by decide +kernel)) rfl
theorem m_CW_175 : Cond.methodLink "CircuitWays" 175 (⟨"CircuitWays$Tree", "lowerBound", "()I"⟩ : MethodName) ∈ zt := zt_mem (List.mem_of_getElem? (i := 651) (by decide +kernel)) rfl
theorem m_La_74 : Cond.methodLink "CircuitWaysLaw" 74 (⟨"CircuitWays", "edge", "(II)I"⟩ : MethodName) ∈ zt := zt_mem (List.mem_of_getElem? (i := 655) (by decide +kernel)) rfl
theorem m_La_78 : Cond.methodLink "CircuitWaysLaw" 78 (⟨"CircuitWays", "degree", "(I)I"⟩ : MethodName) ∈ zt := zt_mem (List.mem_of_getElem? (i := 659) (by decide +kernel)) rfl
theorem m_CW_187 : Cond.methodLink "CircuitWays" 187 (⟨"CircuitWays$Tree", "edgesAt", "(I)I"⟩ : MethodName) ∈ zt := zt_mem (List.mem_of_getElem? (i := 663) (by decide +kernel)) rfl
theorem m_La_82 : Cond.methodLink "CircuitWaysLaw" 82 (⟨"CircuitWays", "pairing", "()I"⟩ : MethodName) ∈ zt := zt_mem (List.mem_of_getElem? (i := 667) (by decide +kernel)) rfl
theorem m_CW_190 : Cond.methodLink "CircuitWays" 190 (⟨"CircuitWays$Pairs", "leastCost", "()I"⟩ : MethodName) ∈ zt := zt_mem (List.mem_of_getElem? (i := 671) (by decide +kernel)) rfl
theorem m_Pai_25 : Cond.methodLink "CircuitWays$Pairs" 25 (⟨"java/lang/Integer", "bitCount", "(I)I"⟩ : MethodName) ∈ zt := zt_mem (List.mem_of_getElem? (i := 675) (by decide +kernel)) rfl
theorem m_Pai_39 : Cond.methodLink "CircuitWays$Pairs" 39 (⟨"java/lang/Math", "min", "(II)I"⟩ : MethodName) ∈ zt := zt_mem (List.mem_of_getElem? (i := 678) (by decide +kernel)) rfl
theorem m_La_86 : Cond.methodLink "CircuitWaysLaw" 86 (⟨"CircuitWays", "next", "(II)I"⟩ : MethodName) ∈ zt := zt_mem (List.mem_of_getElem? (i := 679) (by decide +kernel)) rfl
theorem m_CW_191 : Cond.methodLink "CircuitWays" 191 (⟨"CircuitWays$Circles", "changeFollower", "(II)I"⟩ : MethodName) ∈ zt := zt_mem (List.mem_of_getElem? (i := 683) (by decide +kernel)) rfl
theorem m_La_90 : Cond.methodLink "CircuitWaysLaw" 90 (⟨"CircuitWays", "circle", "(I)I"⟩ : MethodName) ∈ zt := zt_mem (List.mem_of_getElem? (i := 687) (by decide +kernel)) rfl
theorem m_CW_194 : Cond.methodLink "CircuitWays" 194 (⟨"CircuitWays$Circles", "find", "()I"⟩ : MethodName) ∈ zt := zt_mem (List.mem_of_getElem? (i := 691) (by decide +kernel)) rfl
theorem m_Cir_28 : Cond.methodLink "CircuitWays$Circles" 28 (⟨"CircuitWays$Circles", "circleFrom", "(I)I"⟩ : MethodName) ∈ zt := zt_mem (List.mem_of_getElem? (i := 695) (by decide +kernel)) rfl
theorem m_La_94 : Cond.methodLink "CircuitWaysLaw" 94 (⟨"CircuitWays", "nearest", "(I)I"⟩ : MethodName) ∈ zt := zt_mem (List.mem_of_getElem? (i := 699) (by decide +kernel)) rfl
theorem m_CW_200 : Cond.methodLink "CircuitWays" 200 (⟨"CircuitWays$Ways", "nearestLeading", "(I)I"⟩ : MethodName) ∈ zt := zt_mem (List.mem_of_getElem? (i := 703) (by decide +kernel)) rfl
theorem m_Way_19 : Cond.methodLink "CircuitWays$Ways" 19 (⟨"CircuitWays$Ways", "reached", "(I)I"⟩ : MethodName) ∈ zt := zt_mem (List.mem_of_getElem? (i := 707) (by decide +kernel)) rfl
theorem m_Way_37 : Cond.methodLink "CircuitWays$Ways" 37 (⟨"CircuitWays$Ways", "stepFrom", "(II)I"⟩ : MethodName) ∈ zt := zt_mem (List.mem_of_getElem? (i := 711) (by decide +kernel)) rfl
theorem m_Way_30 : Cond.methodLink "CircuitWays$Ways" 30 (⟨"CircuitWays$Ways", "leads", "(II)Z"⟩ : MethodName) ∈ zt := zt_mem (List.mem_of_getElem? (i := 717) (by decide +kernel)) rfl
theorem m_Way_34 : Cond.methodLink "CircuitWays$Ways" 34 (⟨"CircuitWays$Ways", "isNearest", "(II)Z"⟩ : MethodName) ∈ zt := zt_mem (List.mem_of_getElem? (i := 721) (by decide +kernel)) rfl
theorem m_La_98 : Cond.methodLink "CircuitWaysLaw" 98 (⟨"CircuitWays", "put", "(I)I"⟩ : MethodName) ∈ zt := zt_mem (List.mem_of_getElem? (i := 725) (by decide +kernel)) rfl
theorem m_CW_204 : Cond.methodLink "CircuitWays" 204 (⟨"CircuitWays$Row", "append", "(I)I"⟩ : MethodName) ∈ zt := zt_mem (List.mem_of_getElem? (i := 729) (by decide +kernel)) rfl
theorem m_La_102 : Cond.methodLink "CircuitWaysLaw" 102 (⟨"CircuitWays", "keep", "(I)I"⟩ : MethodName) ∈ zt := zt_mem (List.mem_of_getElem? (i := 733) (by decide +kernel)) rfl
theorem m_CW_207 : Cond.methodLink "CircuitWays" 207 (⟨"CircuitWays$Row", "cut", "(I)I"⟩ : MethodName) ∈ zt := zt_mem (List.mem_of_getElem? (i := 737) (by decide +kernel)) rfl
theorem m_La_106 : Cond.methodLink "CircuitWaysLaw" 106 (⟨"CircuitWays", "check", "()I"⟩ : MethodName) ∈ zt := zt_mem (List.mem_of_getElem? (i := 741) (by decide +kernel)) rfl
theorem m_CW_210 : Cond.methodLink "CircuitWays" 210 (⟨"CircuitWays$Row", "cost", "()I"⟩ : MethodName) ∈ zt := zt_mem (List.mem_of_getElem? (i := 745) (by decide +kernel)) rfl
theorem m_Row_26 : Cond.methodLink "CircuitWays$Row" 26 (⟨"CircuitWays$Row", "planCost", "([II)I"⟩ : MethodName) ∈ zt := zt_mem (List.mem_of_getElem? (i := 749) (by decide +kernel)) rfl
theorem m_Row_36 : Cond.methodLink "CircuitWays$Row" 36 (⟨"CircuitWays$Row", "roundCost", "([III)I"⟩ : MethodName) ∈ zt := zt_mem (List.mem_of_getElem? (i := 755) (by decide +kernel)) rfl
theorem m_Row_68 : Cond.methodLink "CircuitWays$Row" 68 (⟨"CircuitWays$Net", "costBack", "(I)I"⟩ : MethodName) ∈ zt := zt_mem (List.mem_of_getElem? (i := 760) (by decide +kernel)) rfl
theorem m_Row_49 : Cond.methodLink "CircuitWays$Row" 49 (⟨"CircuitWays$Net", "allPlaces", "()I"⟩ : MethodName) ∈ zt := zt_mem (List.mem_of_getElem? (i := 761) (by decide +kernel)) rfl
theorem m_Row_53 : Cond.methodLink "CircuitWays$Row" 53 (⟨"CircuitWays$Net", "costOut", "(I)I"⟩ : MethodName) ∈ zt := zt_mem (List.mem_of_getElem? (i := 762) (by decide +kernel)) rfl
theorem m_La_110 : Cond.methodLink "CircuitWaysLaw" 110 (⟨"CircuitWays", "insert", "(I)I"⟩ : MethodName) ∈ zt := zt_mem (List.mem_of_getElem? (i := 763) (by decide +kernel)) rfl
theorem m_CW_213 : Cond.methodLink "CircuitWays" 213 (⟨"CircuitWays$Row", "cheapestPlace", "(I)I"⟩ : MethodName) ∈ zt := zt_mem (List.mem_of_getElem? (i := 767) (by decide +kernel)) rfl
theorem m_La_114 : Cond.methodLink "CircuitWaysLaw" 114 (⟨"CircuitWays", "count", "(I)I"⟩ : MethodName) ∈ zt := zt_mem (List.mem_of_getElem? (i := 772) (by decide +kernel)) rfl
theorem m_CW_216 : Cond.methodLink "CircuitWays" 216 (⟨"CircuitWays$Net", "arcs", "()I"⟩ : MethodName) ∈ zt := zt_mem (List.mem_of_getElem? (i := 776) (by decide +kernel)) rfl
theorem m_CW_219 : Cond.methodLink "CircuitWays" 219 (⟨"CircuitWays$Net", "pairsAhead", "()I"⟩ : MethodName) ∈ zt := zt_mem (List.mem_of_getElem? (i := 780) (by decide +kernel)) rfl
theorem m_Net_49 : Cond.methodLink "CircuitWays$Net" 49 (⟨"java/lang/Integer", "bitCount", "(I)I"⟩ : MethodName) ∈ zt := zt_mem (List.mem_of_getElem? (i := 784) (by decide +kernel)) rfl
theorem m_La_12 : Cond.methodLink "CircuitWaysLaw" 12 (⟨"CircuitWaysModel", "<init>", "()V"⟩ : MethodName) ∈ zt := zt_mem (List.mem_of_getElem? (i := 787) (by decide +kernel)) rfl
theorem m_Mo_7 : Cond.methodLink "CircuitWaysModel" 7 (⟨"java/lang/Object", "<init>", "()V"⟩ : MethodName) ∈ zt := zt_mem (List.mem_of_getElem? (i := 790) (by decide +kernel)) rfl
theorem m_La_17 : Cond.methodLink "CircuitWaysLaw" 17 (⟨"CircuitWaysModel", "node", "(I)I"⟩ : MethodName) ∈ zt := zt_mem (List.mem_of_getElem? (i := 886) (by decide +kernel)) rfl
theorem m_Mo_70 : Cond.methodLink "CircuitWaysModel" 70 (⟨"CircuitWaysModel", "in", "(III)Z"⟩ : MethodName) ∈ zt := zt_mem (List.mem_of_getElem? (i := 890) (by decide +kernel)) rfl
theorem m_La_22 : Cond.methodLink "CircuitWaysLaw" 22 (⟨"CircuitWaysModel", "arc", "(III)I"⟩ : MethodName) ∈ zt := zt_mem (List.mem_of_getElem? (i := 895) (by decide +kernel)) rfl
theorem m_Mo_84 : Cond.methodLink "CircuitWaysModel" 84 (⟨"CircuitWaysModel", "noTwo", "(II)Z"⟩ : MethodName) ∈ zt := zt_mem (List.mem_of_getElem? (i := 899) (by decide +kernel)) rfl
theorem m_Mo_74 : Cond.methodLink "CircuitWaysModel" 74 (⟨"CircuitWaysModel", "noNode", "(I)Z"⟩ : MethodName) ∈ zt := zt_mem (List.mem_of_getElem? (i := 903) (by decide +kernel)) rfl
theorem m_La_27 : Cond.methodLink "CircuitWaysLaw" 27 (⟨"CircuitWaysModel", "lose", "(II)I"⟩ : MethodName) ∈ zt := zt_mem (List.mem_of_getElem? (i := 908) (by decide +kernel)) rfl
theorem m_La_31 : Cond.methodLink "CircuitWaysLaw" 31 (⟨"CircuitWaysModel", "price", "(II)I"⟩ : MethodName) ∈ zt := zt_mem (List.mem_of_getElem? (i := 912) (by decide +kernel)) rfl
theorem m_La_36 : Cond.methodLink "CircuitWaysLaw" 36 (⟨"CircuitWaysModel", "ahead", "(IIZ)I"⟩ : MethodName) ∈ zt := zt_mem (List.mem_of_getElem? (i := 916) (by decide +kernel)) rfl
theorem m_La_40 : Cond.methodLink "CircuitWaysLaw" 40 (⟨"CircuitWaysModel", "rule", "(II)I"⟩ : MethodName) ∈ zt := zt_mem (List.mem_of_getElem? (i := 920) (by decide +kernel)) rfl
theorem m_La_45 : Cond.methodLink "CircuitWaysLaw" 45 (⟨"CircuitWaysModel", "best", "()I"⟩ : MethodName) ∈ zt := zt_mem (List.mem_of_getElem? (i := 924) (by decide +kernel)) rfl
theorem m_Mo_144 : Cond.methodLink "CircuitWaysModel" 144 (⟨"CircuitWaysModel", "know", "()V"⟩ : MethodName) ∈ zt := zt_mem (List.mem_of_getElem? (i := 928) (by decide +kernel)) rfl
theorem m_Mo_136 : Cond.methodLink "CircuitWaysModel" 136 (⟨"CircuitWaysModel", "atHouse", "(LCircuitWaysModel;II)I"⟩ : MethodName) ∈ zt := zt_mem (List.mem_of_getElem? (i := 933) (by decide +kernel)) rfl
theorem m_Mo_118 : Cond.methodLink "CircuitWaysModel" 118 (⟨"CircuitWaysModel", "whole", "(I)I"⟩ : MethodName) ∈ zt := zt_mem (List.mem_of_getElem? (i := 936) (by decide +kernel)) rfl
theorem m_Mo_111 : Cond.methodLink "CircuitWaysModel" 111 (⟨"CircuitWaysModel", "isBeforeFirst", "()Z"⟩ : MethodName) ∈ zt := zt_mem (List.mem_of_getElem? (i := 940) (by decide +kernel)) rfl
theorem m_Mo_125 : Cond.methodLink "CircuitWaysModel" 125 (⟨"CircuitWaysModel", "mayCome", "(II)Z"⟩ : MethodName) ∈ zt := zt_mem (List.mem_of_getElem? (i := 944) (by decide +kernel)) rfl
theorem m_Mo_128 : Cond.methodLink "CircuitWaysModel" 128 (⟨"CircuitWaysModel", "write", "(I)V"⟩ : MethodName) ∈ zt := zt_mem (List.mem_of_getElem? (i := 948) (by decide +kernel)) rfl
theorem m_Mo_132 : Cond.methodLink "CircuitWaysModel" 132 (⟨"CircuitWaysModel", "atNode", "(LCircuitWaysModel;IIII)I"⟩ : MethodName) ∈ zt := zt_mem (List.mem_of_getElem? (i := 952) (by decide +kernel)) rfl
theorem m_Mo_140 : Cond.methodLink "CircuitWaysModel" 140 (⟨"CircuitWaysModel", "note", "(III)V"⟩ : MethodName) ∈ zt := zt_mem (List.mem_of_getElem? (i := 955) (by decide +kernel)) rfl
theorem m_La_49 : Cond.methodLink "CircuitWaysLaw" 49 (⟨"CircuitWaysModel", "many", "()I"⟩ : MethodName) ∈ zt := zt_mem (List.mem_of_getElem? (i := 959) (by decide +kernel)) rfl
theorem m_La_53 : Cond.methodLink "CircuitWaysLaw" 53 (⟨"CircuitWaysModel", "first", "(I)I"⟩ : MethodName) ∈ zt := zt_mem (List.mem_of_getElem? (i := 963) (by decide +kernel)) rfl
theorem m_La_57 : Cond.methodLink "CircuitWaysLaw" 57 (⟨"CircuitWaysModel", "with", "(II)I"⟩ : MethodName) ∈ zt := zt_mem (List.mem_of_getElem? (i := 967) (by decide +kernel)) rfl
theorem m_Mo_147 : Cond.methodLink "CircuitWaysModel" 147 (⟨"CircuitWaysModel", "told", "(I)I"⟩ : MethodName) ∈ zt := zt_mem (List.mem_of_getElem? (i := 971) (by decide +kernel)) rfl
theorem m_La_61 : Cond.methodLink "CircuitWaysLaw" 61 (⟨"CircuitWaysModel", "without", "(I)I"⟩ : MethodName) ∈ zt := zt_mem (List.mem_of_getElem? (i := 974) (by decide +kernel)) rfl
theorem m_La_65 : Cond.methodLink "CircuitWaysLaw" 65 (⟨"CircuitWaysModel", "filter", "(I)I"⟩ : MethodName) ∈ zt := zt_mem (List.mem_of_getElem? (i := 978) (by decide +kernel)) rfl
theorem m_La_69 : Cond.methodLink "CircuitWaysLaw" 69 (⟨"CircuitWaysModel", "weight", "(II)I"⟩ : MethodName) ∈ zt := zt_mem (List.mem_of_getElem? (i := 982) (by decide +kernel)) rfl
theorem m_La_73 : Cond.methodLink "CircuitWaysLaw" 73 (⟨"CircuitWaysModel", "bound", "()I"⟩ : MethodName) ∈ zt := zt_mem (List.mem_of_getElem? (i := 986) (by decide +kernel)) rfl
theorem m_Mo_164 : Cond.methodLink "CircuitWaysModel" 164 (⟨"CircuitWaysModel", "makeTree", "()Z"⟩ : MethodName) ∈ zt := zt_mem (List.mem_of_getElem? (i := 990) (by decide +kernel)) rfl
theorem m_Mo_160 : Cond.methodLink "CircuitWaysModel" 160 (⟨"CircuitWaysModel", "choose", "(Z)Z"⟩ : MethodName) ∈ zt := zt_mem (List.mem_of_getElem? (i := 994) (by decide +kernel)) rfl
theorem m_Mo_153 : Cond.methodLink "CircuitWaysModel" 153 (⟨"CircuitWaysModel", "edgeCost", "(II)I"⟩ : MethodName) ∈ zt := zt_mem (List.mem_of_getElem? (i := 998) (by decide +kernel)) rfl
theorem m_Mo_157 : Cond.methodLink "CircuitWaysModel" 157 (⟨"CircuitWaysModel", "hasEdge", "(II)Z"⟩ : MethodName) ∈ zt := zt_mem (List.mem_of_getElem? (i := 1002) (by decide +kernel)) rfl
theorem m_La_77 : Cond.methodLink "CircuitWaysLaw" 77 (⟨"CircuitWaysModel", "edge", "(II)I"⟩ : MethodName) ∈ zt := zt_mem (List.mem_of_getElem? (i := 1006) (by decide +kernel)) rfl
theorem m_La_81 : Cond.methodLink "CircuitWaysLaw" 81 (⟨"CircuitWaysModel", "degree", "(I)I"⟩ : MethodName) ∈ zt := zt_mem (List.mem_of_getElem? (i := 1010) (by decide +kernel)) rfl
theorem m_La_85 : Cond.methodLink "CircuitWaysLaw" 85 (⟨"CircuitWaysModel", "pairing", "()I"⟩ : MethodName) ∈ zt := zt_mem (List.mem_of_getElem? (i := 1014) (by decide +kernel)) rfl
theorem m_Mo_167 : Cond.methodLink "CircuitWaysModel" 167 (⟨"java/lang/Integer", "bitCount", "(I)I"⟩ : MethodName) ∈ zt := zt_mem (List.mem_of_getElem? (i := 1018) (by decide +kernel)) rfl
theorem m_La_89 : Cond.methodLink "CircuitWaysLaw" 89 (⟨"CircuitWaysModel", "next", "(II)I"⟩ : MethodName) ∈ zt := zt_mem (List.mem_of_getElem? (i := 1019) (by decide +kernel)) rfl
theorem m_La_93 : Cond.methodLink "CircuitWaysLaw" 93 (⟨"CircuitWaysModel", "circle", "(I)I"⟩ : MethodName) ∈ zt := zt_mem (List.mem_of_getElem? (i := 1023) (by decide +kernel)) rfl
theorem m_Mo_172 : Cond.methodLink "CircuitWaysModel" 172 (⟨"CircuitWaysModel", "circleOf", "(I)I"⟩ : MethodName) ∈ zt := zt_mem (List.mem_of_getElem? (i := 1027) (by decide +kernel)) rfl
theorem m_La_97 : Cond.methodLink "CircuitWaysLaw" 97 (⟨"CircuitWaysModel", "nearest", "(I)I"⟩ : MethodName) ∈ zt := zt_mem (List.mem_of_getElem? (i := 1031) (by decide +kernel)) rfl
theorem m_Mo_178 : Cond.methodLink "CircuitWaysModel" 178 (⟨"CircuitWaysModel", "leads", "(II)Z"⟩ : MethodName) ∈ zt := zt_mem (List.mem_of_getElem? (i := 1035) (by decide +kernel)) rfl
theorem m_Mo_175 : Cond.methodLink "CircuitWaysModel" 175 (⟨"CircuitWaysModel", "reached", "(I)I"⟩ : MethodName) ∈ zt := zt_mem (List.mem_of_getElem? (i := 1039) (by decide +kernel)) rfl
theorem m_La_101 : Cond.methodLink "CircuitWaysLaw" 101 (⟨"CircuitWaysModel", "put", "(I)I"⟩ : MethodName) ∈ zt := zt_mem (List.mem_of_getElem? (i := 1043) (by decide +kernel)) rfl
theorem m_La_105 : Cond.methodLink "CircuitWaysLaw" 105 (⟨"CircuitWaysModel", "keep", "(I)I"⟩ : MethodName) ∈ zt := zt_mem (List.mem_of_getElem? (i := 1047) (by decide +kernel)) rfl
theorem m_La_109 : Cond.methodLink "CircuitWaysLaw" 109 (⟨"CircuitWaysModel", "check", "()I"⟩ : MethodName) ∈ zt := zt_mem (List.mem_of_getElem? (i := 1051) (by decide +kernel)) rfl
theorem m_Mo_184 : Cond.methodLink "CircuitWaysModel" 184 (⟨"CircuitWaysModel", "costOf", "(II)I"⟩ : MethodName) ∈ zt := zt_mem (List.mem_of_getElem? (i := 1055) (by decide +kernel)) rfl
theorem m_La_113 : Cond.methodLink "CircuitWaysLaw" 113 (⟨"CircuitWaysModel", "insert", "(I)I"⟩ : MethodName) ∈ zt := zt_mem (List.mem_of_getElem? (i := 1059) (by decide +kernel)) rfl
theorem m_La_117 : Cond.methodLink "CircuitWaysLaw" 117 (⟨"CircuitWaysModel", "count", "(I)I"⟩ : MethodName) ∈ zt := zt_mem (List.mem_of_getElem? (i := 1063) (by decide +kernel)) rfl
theorem c_La_7 : Cond.classLink "CircuitWaysLaw" 7 "CircuitWays" ∈ zt := zt_mem (List.mem_of_getElem? (i := 54) (by decide +kernel)) rfl
theorem c_CW_7 : Cond.classLink "CircuitWays" 7 "CircuitWays$Net" ∈ zt := zt_mem (List.mem_of_getElem? (i := 62) (by decide +kernel)) rfl
theorem c_CW_16 : Cond.classLink "CircuitWays" 16 "CircuitWays$Paths" ∈ zt := zt_mem (List.mem_of_getElem? (i := 129) (by decide +kernel)) rfl
theorem c_CW_21 : Cond.classLink "CircuitWays" 21 "CircuitWays$Shares" ∈ zt := zt_mem (List.mem_of_getElem? (i := 161) (by decide +kernel)) rfl
theorem c_CW_30 : Cond.classLink "CircuitWays" 30 "CircuitWays$Tails" ∈ zt := zt_mem (List.mem_of_getElem? (i := 192) (by decide +kernel)) rfl
theorem c_CW_39 : Cond.classLink "CircuitWays" 39 "CircuitWays$FirstPlan" ∈ zt := zt_mem (List.mem_of_getElem? (i := 224) (by decide +kernel)) rfl
theorem c_CW_48 : Cond.classLink "CircuitWays" 48 "CircuitWays$Tree" ∈ zt := zt_mem (List.mem_of_getElem? (i := 257) (by decide +kernel)) rfl
theorem c_CW_55 : Cond.classLink "CircuitWays" 55 "CircuitWays$Pairs" ∈ zt := zt_mem (List.mem_of_getElem? (i := 288) (by decide +kernel)) rfl
theorem c_CW_62 : Cond.classLink "CircuitWays" 62 "CircuitWays$Circles" ∈ zt := zt_mem (List.mem_of_getElem? (i := 301) (by decide +kernel)) rfl
theorem c_CW_69 : Cond.classLink "CircuitWays" 69 "CircuitWays$Ways" ∈ zt := zt_mem (List.mem_of_getElem? (i := 318) (by decide +kernel)) rfl
theorem c_CW_76 : Cond.classLink "CircuitWays" 76 "CircuitWays$Row" ∈ zt := zt_mem (List.mem_of_getElem? (i := 331) (by decide +kernel)) rfl
theorem c_La_10 : Cond.classLink "CircuitWaysLaw" 10 "CircuitWaysModel" ∈ zt := zt_mem (List.mem_of_getElem? (i := 785) (by decide +kernel)) rfl
theorem i_Net_40 : Cond.constant "CircuitWays$Net" 40 (1000000000) ∈ zt := zt_mem (List.mem_of_getElem? (i := 68) (by decide +kernel)) rfl
theorem i_Sha_18 : Cond.constant "CircuitWays$Shares" 18 (1000000000) ∈ zt := zt_mem (List.mem_of_getElem? (i := 167) (by decide +kernel)) rfl
theorem i_CW_83 : Cond.constant "CircuitWays" 83 (-2000000) ∈ zt := zt_mem (List.mem_of_getElem? (i := 383) (by decide +kernel)) rfl
theorem i_CW_88 : Cond.constant "CircuitWays" 88 (-3000000) ∈ zt := zt_mem (List.mem_of_getElem? (i := 384) (by decide +kernel)) rfl
theorem i_CW_104 : Cond.constant "CircuitWays" 104 (1000000000) ∈ zt := zt_mem (List.mem_of_getElem? (i := 408) (by decide +kernel)) rfl
theorem i_CW_136 : Cond.constant "CircuitWays" 136 (-1000000) ∈ zt := zt_mem (List.mem_of_getElem? (i := 409) (by decide +kernel)) rfl
theorem i_Pat_54 : Cond.constant "CircuitWays$Paths" 54 (1000000000) ∈ zt := zt_mem (List.mem_of_getElem? (i := 478) (by decide +kernel)) rfl
theorem i_JI_265 : Cond.constant "java/lang/Integer" 265 (1431655765) ∈ zt := zt_mem (List.mem_of_getElem? (i := 507) (by decide +kernel)) rfl
theorem i_JI_266 : Cond.constant "java/lang/Integer" 266 (858993459) ∈ zt := zt_mem (List.mem_of_getElem? (i := 508) (by decide +kernel)) rfl
theorem i_JI_267 : Cond.constant "java/lang/Integer" 267 (252645135) ∈ zt := zt_mem (List.mem_of_getElem? (i := 509) (by decide +kernel)) rfl
theorem i_Tai_62 : Cond.constant "CircuitWays$Tails" 62 (1000000000) ∈ zt := zt_mem (List.mem_of_getElem? (i := 568) (by decide +kernel)) rfl
theorem i_CW_155 : Cond.constant "CircuitWays" 155 (-1000000000) ∈ zt := zt_mem (List.mem_of_getElem? (i := 590) (by decide +kernel)) rfl
theorem i_Tre_60 : Cond.constant "CircuitWays$Tree" 60 (1000000000) ∈ zt := zt_mem (List.mem_of_getElem? (i := 636) (by decide +kernel)) rfl
theorem i_Pai_31 : Cond.constant "CircuitWays$Pairs" 31 (1000000000) ∈ zt := zt_mem (List.mem_of_getElem? (i := 676) (by decide +kernel)) rfl
theorem i_Way_44 : Cond.constant "CircuitWays$Ways" 44 (1000000000) ∈ zt := zt_mem (List.mem_of_getElem? (i := 715) (by decide +kernel)) rfl
theorem i_Way_23 : Cond.constant "CircuitWays$Ways" 23 (-1000000) ∈ zt := zt_mem (List.mem_of_getElem? (i := 716) (by decide +kernel)) rfl
theorem i_Row_30 : Cond.constant "CircuitWays$Row" 30 (1000000000) ∈ zt := zt_mem (List.mem_of_getElem? (i := 754) (by decide +kernel)) rfl
theorem i_Row_31 : Cond.constant "CircuitWays$Row" 31 (-1000000) ∈ zt := zt_mem (List.mem_of_getElem? (i := 771) (by decide +kernel)) rfl
theorem i_Mo_69 : Cond.constant "CircuitWaysModel" 69 (1000000) ∈ zt := zt_mem (List.mem_of_getElem? (i := 791) (by decide +kernel)) rfl
theorem i_Mo_78 : Cond.constant "CircuitWaysModel" 78 (-2000000) ∈ zt := zt_mem (List.mem_of_getElem? (i := 893) (by decide +kernel)) rfl
theorem i_Mo_79 : Cond.constant "CircuitWaysModel" 79 (-3000000) ∈ zt := zt_mem (List.mem_of_getElem? (i := 894) (by decide +kernel)) rfl
theorem i_Mo_88 : Cond.constant "CircuitWaysModel" 88 (-1000000) ∈ zt := zt_mem (List.mem_of_getElem? (i := 907) (by decide +kernel)) rfl
theorem i_Mo_101 : Cond.constant "CircuitWaysModel" 101 (900000) ∈ zt := zt_mem (List.mem_of_getElem? (i := 932) (by decide +kernel)) rfl
theorem n_Net_45 : Cond.methodLinkNest "CircuitWays$Net" 45 (⟨"CircuitWays", "bit", "(I)I"⟩ : MethodName) "CircuitWays" ∈ znest := List.mem_of_getElem? (i := 0) rfl
theorem n_Pat_69 : Cond.methodLinkNest "CircuitWays$Paths" 69 (⟨"CircuitWays", "bit", "(I)I"⟩ : MethodName) "CircuitWays" ∈ znest := List.mem_of_getElem? (i := 1) rfl
theorem n_Pat_81 : Cond.methodLinkNest "CircuitWays$Paths" 81 (⟨"CircuitWays", "sum", "(II)I"⟩ : MethodName) "CircuitWays" ∈ znest := List.mem_of_getElem? (i := 2) rfl
theorem n_Net_54 : Cond.methodLinkNest "CircuitWays$Net" 54 (⟨"CircuitWays", "sum", "(II)I"⟩ : MethodName) "CircuitWays" ∈ znest := List.mem_of_getElem? (i := 3) rfl
theorem n_Sha_73 : Cond.methodLinkNest "CircuitWays$Shares" 73 (⟨"CircuitWays", "sum", "(II)I"⟩ : MethodName) "CircuitWays" ∈ znest := List.mem_of_getElem? (i := 4) rfl
theorem n_Tai_49 : Cond.methodLinkNest "CircuitWays$Tails" 49 (⟨"CircuitWays", "bit", "(I)I"⟩ : MethodName) "CircuitWays" ∈ znest := List.mem_of_getElem? (i := 5) rfl
theorem n_Tai_66 : Cond.methodLinkNest "CircuitWays$Tails" 66 (⟨"CircuitWays", "sum", "(II)I"⟩ : MethodName) "CircuitWays" ∈ znest := List.mem_of_getElem? (i := 6) rfl
theorem n_Fir_83 : Cond.methodLinkNest "CircuitWays$FirstPlan" 83 (⟨"CircuitWays", "bit", "(I)I"⟩ : MethodName) "CircuitWays" ∈ znest := List.mem_of_getElem? (i := 7) rfl
theorem n_Sha_70 : Cond.methodLinkNest "CircuitWays$Shares" 70 (⟨"CircuitWays", "bit", "(I)I"⟩ : MethodName) "CircuitWays" ∈ znest := List.mem_of_getElem? (i := 8) rfl
theorem n_Tre_57 : Cond.methodLinkNest "CircuitWays$Tree" 57 (⟨"CircuitWays", "sum", "(II)I"⟩ : MethodName) "CircuitWays" ∈ znest := List.mem_of_getElem? (i := 9) rfl
theorem n_Pai_35 : Cond.methodLinkNest "CircuitWays$Pairs" 35 (⟨"CircuitWays", "sum", "(II)I"⟩ : MethodName) "CircuitWays" ∈ znest := List.mem_of_getElem? (i := 10) rfl
theorem n_Row_32 : Cond.methodLinkNest "CircuitWays$Row" 32 (⟨"CircuitWays", "bit", "(I)I"⟩ : MethodName) "CircuitWays" ∈ znest := List.mem_of_getElem? (i := 11) rfl
theorem n_Row_40 : Cond.methodLinkNest "CircuitWays$Row" 40 (⟨"CircuitWays", "sum", "(II)I"⟩ : MethodName) "CircuitWays" ∈ znest := List.mem_of_getElem? (i := 12) rfl
theorem k_min_static : Cond.static Lib.Math.min.name ∈ zt := zt_mem (List.mem_of_getElem? (i := 570) (by decide +kernel)) rfl
theorem k_min_init : Cond.initialized "java/lang/Math" ∈ zt := zt_mem (List.mem_of_getElem? (i := 53) (by decide +kernel)) rfl
set_option maxRecDepth 20000 in
theorem k_min_code : Cond.code Lib.Math.min.name Lib.Math.min.code 2 (some .int) ∈ zt := zt_mem (List.mem_of_getElem? (i := 571) rfl) rfl
end
section
/-! X: the machine at a point of a method, over a memory of numbered cells (cell k lies at the address base + k) -/
abbrev zE : Type := (Bool × Nat × (Nat → Int32)) ⊕ (Nat × List Value)
abbrev zMem : Type := List zE
/-- a value of the picture, as the machine has it: refs are cell numbers; a float stands for the law's script -/
def zr (base b : Nat) : Value → Value
  | .ref k => .ref (base + k)
  | .float _ => .ref b
  | v => v
def zok : Value → Bool
  | .float _ => false
  | .long _ => false
  | .double _ => false
  | .retAddr _ => false
  | _ => true
theorem zr_ok {v : Value} (h : zok v = true) (base b b' : Nat) : zr base b v = zr base b' v := by
  cases v <;> first | rfl | (simp [zok] at h)
theorem zr_map_ok {vs : List Value} (h : vs.all zok = true) (base b b' : Nat) : vs.map (zr base b) = vs.map (zr base b') :=
  List.map_congr_left fun v hv => zr_ok (List.all_eq_true.mp h v hv) base b b'
def ze (cI cZ : ClassId) (base : Nat) : zE → va_E
  | .inl (t, n, f) => .inl (if t = true then cZ else cI, n, .inl f)
  | .inr (ci, fs) => .inr (ci, fs.map (zr base 0))
def zw (cI cZ : ClassId) (base : Nat) (μ : zMem) : va_W := μ.mapIdx (fun k c => (base + k, ze cI cZ base c))
theorem zw_get {cI cZ : ClassId} {base : Nat} {μ : zMem} {k : Nat} {c : zE} (h : μ[k]? = some c) : (zw cI cZ base μ)[k]? = some (base + k, ze cI cZ base c) := by
  simp [zw, List.getElem?_mapIdx, h]
theorem zw_of {cI cZ : ClassId} {base : Nat} {μ : zMem} {k : Nat} {q : Nat × va_E} (h : (zw cI cZ base μ)[k]? = some q) : ∃ c, μ[k]? = some c ∧ q = (base + k, ze cI cZ base c) := by
  simp only [zw, List.getElem?_mapIdx, Option.map_eq_some_iff] at h
  obtain ⟨c, h1, h2⟩ := h
  exact ⟨c, h1, h2.symm⟩
theorem zw_set (cI cZ : ClassId) (base : Nat) (μ : zMem) (k : Nat) (c : zE) : (zw cI cZ base μ).set k (base + k, ze cI cZ base c) = zw cI cZ base (μ.set k c) := by
  apply List.ext_getElem?
  intro j
  simp only [zw, List.getElem?_set, List.getElem?_mapIdx, List.length_mapIdx]
  by_cases h : k = j
  · subst h
    by_cases h2 : k < μ.length <;> simp [h2]
  · simp [h]
theorem zw_push (cI cZ : ClassId) (base : Nat) (μ : zMem) (c : zE) : zw cI cZ base (μ ++ [c]) = zw cI cZ base μ ++ [(base + μ.length, ze cI cZ base c)] := by
  simp [zw, List.mapIdx_append]
theorem zw_D (cI cZ : ClassId) (base : Nat) (μ : zMem) : va_D (fun q => base ≤ q) (zw cI cZ base μ) := by
  refine ⟨fun i j p q hp hq h => ?_, fun k q hq => ?_⟩
  · obtain ⟨_, _, rfl⟩ := zw_of hp
    obtain ⟨_, _, rfl⟩ := zw_of hq
    have h : base + i = base + j := h
    omega
  · obtain ⟨_, _, rfl⟩ := zw_of hq
    exact Nat.le_add_right _ _
abbrev zFin : Type := Nat → va_G → ClassId → ClassId → List Frame → Array Value → State → State → Prop
def zC (Y : zY) (p : Program) (s : State) (m : MethodId) (args : Array Value) (meth : Method) (c : Code) : Prop :=
  p.tables.exec = Jvm.exec ∧ c.code = Y.2.1 ∧ c.maxLocals = Y.2.2.1 ∧ s.vm.findClass Y.2.2.2.2 = some m.cls ∧ (∀ w ∈ zt, w.before args s = true) ∧ meth.sig.returnType = Y.2.2.2.1 ∧ meth.locks = false ∧ meth.name = Y.1.name
def zK (D : va_G) (cI cZ : ClassId) (U : State) : Prop := va_K D zcl [(cI, .int), (cZ, .boolean)] U ∧ ∀ w ∈ znest, va_Nw w U
theorem zK_moved {D : va_G} {cI cZ : ClassId} {s U : State} (hW : s.WarmedH U.vm) (h : zK D cI cZ s) : zK D cI cZ U := by
  refine ⟨va_K.moved hW.alike h.1, fun w hw => ?_⟩
  have h2 := h.2 w hw
  simp only [znest, List.mem_cons, List.not_mem_nil, or_false] at hw
  rcases hw with rfl | rfl | rfl | rfl | rfl | rfl | rfl | rfl | rfl | rfl | rfl | rfl | rfl <;> exact va_Nw.warmM hW h2
theorem zK_same {D : va_G} {cI cZ : ClassId} {s U : State} (hv : s.vm = U.vm) (h : zK D cI cZ s) : zK D cI cZ U := by
  refine ⟨va_K.moved (by rw [hv]; exact Vm.Alike.refl _) h.1, fun w hw => ?_⟩
  have h2 := h.2 w hw
  simp only [znest, List.mem_cons, List.not_mem_nil, or_false] at hw
  rcases hw with rfl | rfl | rfl | rfl | rfl | rfl | rfl | rfl | rfl | rfl | rfl | rfl | rfl <;> exact va_Nw.same rfl hv h2
def zM (D : va_G) (cI cZ : ClassId) (base : Nat) (μ : zMem) (H : Heap) : Prop := H.size = base + μ.length ∧ va_P D zcl (zw cI cZ base μ) H
def zS (sc : Nat × (Nat → Int32)) (b base : Nat) (own : String) (s : State) : Prop := own = "CircuitWaysLaw" → b < base ∧ b < s.heap.size ∧ va_X b sc.1 sc.2 s s.heap
abbrev zA (base : Nat) : Nat → Prop := fun q => base ≤ q
/-- locals by their places; retAddr stands for a place that holds nothing known -/
abbrev zu : Value := .retAddr 0
def zknown : Value → Bool
  | .retAddr _ => false
  | _ => true
def zL (base b nL : Nat) (lv : List Value) (ls : Array Slot) : Prop := lv.length = nL ∧ (∀ v ∈ lv, v.category = 1) ∧ ls.size = nL ∧ lv_wf ls ∧ ∀ (i : Nat) (v : Value), lv[i]? = some v → zknown v = true → ls[i]? = some (.val (zr base b v))
theorem zr_cat {base b : Nat} {v : Value} (h : v.category = 1) : (zr base b v).category = 1 := by
  cases v <;> first | rfl | (simp [Value.category] at h)
theorem zL_get {base b nL : Nat} {lv : List Value} {ls : Array Slot} (h : zL base b nL lv ls) {i : Nat} {v : Value} (hi : lv[i]? = some v) (hk : zknown v = true) : ls[i]? = some (.val (zr base b v)) := h.2.2.2.2 i v hi hk
/-- the known locals as the kit's rows want them -/
def zls (base b : Nat) (lv : List Value) : List (Nat × Value) := (lv.mapIdx (fun i v => (i, v))).filterMap (fun q => if zknown q.2 = true then some (q.1, zr base b q.2) else none)
theorem zls_mem {base b : Nat} {lv : List Value} {q : Nat × Value} : q ∈ zls base b lv ↔ ∃ v, lv[q.1]? = some v ∧ zknown v = true ∧ q.2 = zr base b v := by
  simp only [zls, List.mem_filterMap]
  constructor
  · rintro ⟨x, hx, h⟩
    obtain ⟨i, hi⟩ := List.getElem?_of_mem hx
    simp only [List.getElem?_mapIdx, Option.map_eq_some_iff] at hi
    obtain ⟨v, h1, rfl⟩ := hi
    by_cases hk : zknown v = true
    · simp [hk] at h
      subst h
      exact ⟨v, h1, hk, rfl⟩
    · simp [hk] at h
  · rintro ⟨v, h1, h2, h3⟩
    refine ⟨(q.1, v), List.mem_of_getElem? (i := q.1) (by simp [List.getElem?_mapIdx, h1]), by simp [h2, ← h3]⟩
theorem zL_has {base b nL : Nat} {lv : List Value} {ls : Array Slot} (h : zL base b nL lv ls) : lv_has ls nL (zls base b lv) := by
  refine ⟨h.2.2.1, h.2.2.2.1, fun q hq => ?_⟩
  obtain ⟨v, h1, h2, h3⟩ := zls_mem.mp hq
  rw [h3]
  exact zL_get h h1 h2
theorem zL_set {base b nL : Nat} {lv : List Value} {ls ls' : Array Slot} {i : Nat} {v : Value} (h : zL base b nL lv ls) (hv : v.category = 1)
    (h' : lv_has ls' nL ((i, zr base b v) :: (zls base b lv).filter (fun q => !(q.1 == i) && !(q.1 + 1 == i && q.2.category == 2)))) : zL base b nL (lv.set i v) ls' := by
  obtain ⟨h1, h2, h3, h4, h5⟩ := h
  refine ⟨by simp [h1], fun w hw => ?_, h'.1, h'.2.1, fun j w hw hk => ?_⟩
  · rcases List.mem_or_eq_of_mem_set hw with q | q
    · exact h2 w q
    · rw [q]; exact hv
  · by_cases hj : i = j
    · subst hj
      have hl : i < lv.length := by
        have := (List.getElem?_eq_some_iff.mp hw).1
        simpa using this
      rw [List.getElem?_set_self hl] at hw
      cases hw
      exact h'.2.2 _ List.mem_cons_self
    · rw [List.getElem?_set_ne hj] at hw
      refine h'.2.2 (j, zr base b w) (List.mem_cons_of_mem _ (List.mem_filter.mpr ⟨zls_mem.mpr ⟨w, hw, hk, rfl⟩, ?_⟩))
      have hc := zr_cat (base := base) (b := b) (h2 w (List.mem_of_getElem? hw))
      simp [hc, Ne.symm hj]
theorem zL_drop {base b nL : Nat} {lv lv' : List Value} {ls : Array Slot} (h : zL base b nL lv ls) (hl : lv'.length = lv.length) (hc : ∀ v ∈ lv', v.category = 1) (hs : ∀ (i : Nat) (v : Value), lv'[i]? = some v → zknown v = true → lv[i]? = some v) : zL base b nL lv' ls :=
  ⟨by rw [hl]; exact h.1, hc, h.2.2.1, h.2.2.2.1, fun i v hi hk => h.2.2.2.2 i v (hs i v hi hk) hk⟩
def X (Y : zY) (rm : Room) (sc : Nat × (Nat → Int32)) (F : zFin) (pc : Nat) (lv : List Value) (st : List Value) (μ : zMem) (kc ks : Nat) : Prop :=
  ∀ (p : Program) (l : Launch) (e : Env) (s : State) (m : MethodId) (args : Array Value) (below : List Frame) (meth : Method) (c : Code) (b base : Nat) (D : va_G) (cI cZ : ClassId) (H : Heap) (locs : List Loc) (ls : Array Slot),
    zC Y p s m args meth c → zK D cI cZ s → zS sc b base Y.2.2.2.2 s → base ≤ s.heap.size → zM D cI cZ base μ H → va_S (zA base) s.heap H locs → zL base b Y.2.2.1 lv ls →
    W p l e rm s m args below meth c H locs kc ks (F base D cI cZ below args s) (F0 m pc ls (st.map (zr base b)))
section XR
variable {Y : zY} {rm : Room} {sc : Nat × (Nat → Int32)} {F : zFin} {pc : Nat} {lv st : List Value} {μ : zMem} {kc ks : Nat}

theorem x_iconst {n : Int} {v : Int32} (hd : decode Y.2.1 pc = .ok (.iconst n, 1)) (hv : Int32.ofInt n = v) (K : X Y rm sc F (pc + 1) lv (.int v :: st) μ kc ks) : X Y rm sc F pc lv st μ kc ks :=
  fun p l e s m args below meth c b base D cI cZ H locs ls hC hK hZ hb hM hS hL => lv_iconst hC.1 hC.2.1 hd hv (K p l e s m args below meth c b base D cI cZ H locs ls hC hK hZ hb hM hS hL)
theorem x_bipush {n : Int} {v : Int32} (hd : decode Y.2.1 pc = .ok (.bipush n, 2)) (hv : (Int8.ofInt n).toInt32 = v) (K : X Y rm sc F (pc + 2) lv (.int v :: st) μ kc ks) : X Y rm sc F pc lv st μ kc ks :=
  fun p l e s m args below meth c b base D cI cZ H locs ls hC hK hZ hb hM hS hL => lv_bipush hC.1 hC.2.1 hd hv (K p l e s m args below meth c b base D cI cZ H locs ls hC hK hZ hb hM hS hL)
theorem x_sipush {n : Int} {v : Int32} (hd : decode Y.2.1 pc = .ok (.sipush n, 3)) (hv : (Int16.ofInt n).toInt32 = v) (K : X Y rm sc F (pc + 3) lv (.int v :: st) μ kc ks) : X Y rm sc F pc lv st μ kc ks :=
  fun p l e s m args below meth c b base D cI cZ H locs ls hC hK hZ hb hM hS hL => lv_sipush hC.1 hC.2.1 hd hv (K p l e s m args below meth c b base D cI cZ H locs ls hC hK hZ hb hM hS hL)
theorem x_ldc {i : Nat} {v : Int32} (hd : decode Y.2.1 pc = .ok (.ldc i, 2)) (hw : Cond.constant Y.2.2.2.2 i v ∈ zt) (K : X Y rm sc F (pc + 2) lv (.int v :: st) μ kc ks) : X Y rm sc F pc lv st μ kc ks :=
  fun p l e s m args below meth c b base D cI cZ H locs ls hC hK hZ hb hM hS hL => lv_ldc hC.1 hC.2.1 hC.2.2.2.1 (hC.2.2.2.2.1 _ hw) hd (K p l e s m args below meth c b base D cI cZ H locs ls hC hK hZ hb hM hS hL)
theorem x_ldcw {i : Nat} {v : Int32} (hd : decode Y.2.1 pc = .ok (.ldc_w i, 3)) (hw : Cond.constant Y.2.2.2.2 i v ∈ zt) (K : X Y rm sc F (pc + 3) lv (.int v :: st) μ kc ks) : X Y rm sc F pc lv st μ kc ks :=
  fun p l e s m args below meth c b base D cI cZ H locs ls hC hK hZ hb hM hS hL => lv_ldcw hC.1 hC.2.1 hC.2.2.2.1 (hC.2.2.2.2.1 _ hw) hd (K p l e s m args below meth c b base D cI cZ H locs ls hC hK hZ hb hM hS hL)
theorem x_iload_n {k : Fin 4} {v : Int32} (hd : decode Y.2.1 pc = .ok (.iload_n k, 1)) (hv : lv[(k : Nat)]? = some (.int v)) (K : X Y rm sc F (pc + 1) lv (.int v :: st) μ kc ks) : X Y rm sc F pc lv st μ kc ks :=
  fun p l e s m args below meth c b base D cI cZ H locs ls hC hK hZ hb hM hS hL => lv_iload_n hC.1 hC.2.1 hd rfl (zL_get hL hv rfl) (K p l e s m args below meth c b base D cI cZ H locs ls hC hK hZ hb hM hS hL)
theorem x_iload {k : Nat} {v : Int32} (hd : decode Y.2.1 pc = .ok (.iload k, 2)) (hv : lv[k]? = some (.int v)) (K : X Y rm sc F (pc + 2) lv (.int v :: st) μ kc ks) : X Y rm sc F pc lv st μ kc ks :=
  fun p l e s m args below meth c b base D cI cZ H locs ls hC hK hZ hb hM hS hL => lv_iload hC.1 hC.2.1 hd (zL_get hL hv rfl) (K p l e s m args below meth c b base D cI cZ H locs ls hC hK hZ hb hM hS hL)
theorem x_aload_n {k : Fin 4} {v : Nat} (hd : decode Y.2.1 pc = .ok (.aload_n k, 1)) (hv : lv[(k : Nat)]? = some (.ref v)) (K : X Y rm sc F (pc + 1) lv (.ref v :: st) μ kc ks) : X Y rm sc F pc lv st μ kc ks :=
  fun p l e s m args below meth c b base D cI cZ H locs ls hC hK hZ hb hM hS hL => lv_aload_n hC.1 hC.2.1 hd rfl (zL_get hL hv rfl) (K p l e s m args below meth c b base D cI cZ H locs ls hC hK hZ hb hM hS hL)
theorem x_sload_n {k : Fin 4} {v : UInt32} (hd : decode Y.2.1 pc = .ok (.aload_n k, 1)) (hv : lv[(k : Nat)]? = some (.float v)) (K : X Y rm sc F (pc + 1) lv (.float v :: st) μ kc ks) : X Y rm sc F pc lv st μ kc ks :=
  fun p l e s m args below meth c b base D cI cZ H locs ls hC hK hZ hb hM hS hL => lv_aload_n hC.1 hC.2.1 hd rfl (zL_get hL hv rfl) (K p l e s m args below meth c b base D cI cZ H locs ls hC hK hZ hb hM hS hL)
theorem x_istore_n {k : Fin 4} {v : Int32} {lv' : List Value} (hd : decode Y.2.1 pc = .ok (.istore_n k, 1)) (hk : (k : Nat) < lv.length) (hv : lv.set (k : Nat) (.int v) = lv') (K : X Y rm sc F (pc + 1) lv' st μ kc ks) : X Y rm sc F pc lv (.int v :: st) μ kc ks := by
  subst hv
  intro p l e s m args below meth c b base D cI cZ H locs ls hC hK hZ hb hM hS hL
  exact lv_istore_n (lv' := _) hC.1 hC.2.1 hd rfl (zL_has hL) (by rw [← hL.1]; exact hk) rfl (fun ls' h' => K p l e s m args below meth c b base D cI cZ H locs ls' hC hK hZ hb hM hS (zL_set (v := .int v) hL rfl h'))
theorem x_istore {k : Nat} {v : Int32} {lv' : List Value} (hd : decode Y.2.1 pc = .ok (.istore k, 2)) (hk : k < lv.length) (hv : lv.set k (.int v) = lv') (K : X Y rm sc F (pc + 2) lv' st μ kc ks) : X Y rm sc F pc lv (.int v :: st) μ kc ks := by
  subst hv
  intro p l e s m args below meth c b base D cI cZ H locs ls hC hK hZ hb hM hS hL
  exact lv_istore (lv' := _) hC.1 hC.2.1 hd (zL_has hL) (by rw [← hL.1]; exact hk) rfl (fun ls' h' => K p l e s m args below meth c b base D cI cZ H locs ls' hC hK hZ hb hM hS (zL_set (v := .int v) hL rfl h'))
theorem x_astore_n {k : Fin 4} {v : Nat} {lv' : List Value} (hd : decode Y.2.1 pc = .ok (.astore_n k, 1)) (hk : (k : Nat) < lv.length) (hv : lv.set (k : Nat) (.ref v) = lv') (K : X Y rm sc F (pc + 1) lv' st μ kc ks) : X Y rm sc F pc lv (.ref v :: st) μ kc ks := by
  subst hv
  intro p l e s m args below meth c b base D cI cZ H locs ls hC hK hZ hb hM hS hL
  exact lv_astore_n (lv' := _) hC.1 hC.2.1 hd rfl (zL_has hL) (by rw [← hL.1]; exact hk) rfl (fun ls' h' => K p l e s m args below meth c b base D cI cZ H locs ls' hC hK hZ hb hM hS (zL_set (v := .ref v) hL rfl h'))
theorem x_iinc {k : Nat} {n : Int} {x v : Int32} {lv' : List Value} (hd : decode Y.2.1 pc = .ok (.iinc k n, 3)) (hx : lv[k]? = some (.int x)) (hv : x + Int32.ofInt n = v) (hl : lv.set k (.int v) = lv') (K : X Y rm sc F (pc + 3) lv' st μ kc ks) : X Y rm sc F pc lv st μ kc ks := by
  subst hl
  intro p l e s m args below meth c b base D cI cZ H locs ls hC hK hZ hb hM hS hL
  obtain ⟨q, hq⟩ := List.getElem?_of_mem (zls_mem.mpr ⟨_, hx, rfl, rfl⟩ : (k, zr base b (.int x)) ∈ zls base b lv)
  exact lv_iinc (lv' := _) hC.1 hC.2.1 hd (zL_has hL) hq hv (by rw [← hL.1]; exact (List.getElem?_eq_some_iff.mp hx).1) rfl (fun ls' h' => K p l e s m args below meth c b base D cI cZ H locs ls' hC hK hZ hb hM hS (zL_set (v := .int v) hL rfl h'))
theorem x_iadd {x y : Int32} (hd : decode Y.2.1 pc = .ok (.iadd, 1)) (K : X Y rm sc F (pc + 1) lv (.int (x + y) :: st) μ kc ks) : X Y rm sc F pc lv (.int y :: .int x :: st) μ kc ks :=
  fun p l e s m args below meth c b base D cI cZ H locs ls hC hK hZ hb hM hS hL => lv_iadd hC.1 hC.2.1 hd (K p l e s m args below meth c b base D cI cZ H locs ls hC hK hZ hb hM hS hL)
theorem x_isub {x y : Int32} (hd : decode Y.2.1 pc = .ok (.isub, 1)) (K : X Y rm sc F (pc + 1) lv (.int (x - y) :: st) μ kc ks) : X Y rm sc F pc lv (.int y :: .int x :: st) μ kc ks :=
  fun p l e s m args below meth c b base D cI cZ H locs ls hC hK hZ hb hM hS hL => lv_isub hC.1 hC.2.1 hd (K p l e s m args below meth c b base D cI cZ H locs ls hC hK hZ hb hM hS hL)
theorem x_imul {x y : Int32} (hd : decode Y.2.1 pc = .ok (.imul, 1)) (K : X Y rm sc F (pc + 1) lv (.int (x * y) :: st) μ kc ks) : X Y rm sc F pc lv (.int y :: .int x :: st) μ kc ks :=
  fun p l e s m args below meth c b base D cI cZ H locs ls hC hK hZ hb hM hS hL => lv_imul hC.1 hC.2.1 hd (K p l e s m args below meth c b base D cI cZ H locs ls hC hK hZ hb hM hS hL)
theorem x_iand {x y : Int32} (hd : decode Y.2.1 pc = .ok (.iand, 1)) (K : X Y rm sc F (pc + 1) lv (.int (x &&& y) :: st) μ kc ks) : X Y rm sc F pc lv (.int y :: .int x :: st) μ kc ks :=
  fun p l e s m args below meth c b base D cI cZ H locs ls hC hK hZ hb hM hS hL => lv_iand hC.1 hC.2.1 hd (K p l e s m args below meth c b base D cI cZ H locs ls hC hK hZ hb hM hS hL)
theorem x_ior {x y : Int32} (hd : decode Y.2.1 pc = .ok (.ior, 1)) (K : X Y rm sc F (pc + 1) lv (.int (x ||| y) :: st) μ kc ks) : X Y rm sc F pc lv (.int y :: .int x :: st) μ kc ks :=
  fun p l e s m args below meth c b base D cI cZ H locs ls hC hK hZ hb hM hS hL => lv_ior hC.1 hC.2.1 hd (K p l e s m args below meth c b base D cI cZ H locs ls hC hK hZ hb hM hS hL)
theorem x_ixor {x y : Int32} (hd : decode Y.2.1 pc = .ok (.ixor, 1)) (K : X Y rm sc F (pc + 1) lv (.int (x ^^^ y) :: st) μ kc ks) : X Y rm sc F pc lv (.int y :: .int x :: st) μ kc ks :=
  fun p l e s m args below meth c b base D cI cZ H locs ls hC hK hZ hb hM hS hL => lv_ixor hC.1 hC.2.1 hd (K p l e s m args below meth c b base D cI cZ H locs ls hC hK hZ hb hM hS hL)
theorem x_ishl {x y : Int32} (hd : decode Y.2.1 pc = .ok (.ishl, 1)) (K : X Y rm sc F (pc + 1) lv (.int (x <<< (y &&& 31)) :: st) μ kc ks) : X Y rm sc F pc lv (.int y :: .int x :: st) μ kc ks :=
  fun p l e s m args below meth c b base D cI cZ H locs ls hC hK hZ hb hM hS hL => lv_ishl hC.1 hC.2.1 hd (K p l e s m args below meth c b base D cI cZ H locs ls hC hK hZ hb hM hS hL)
theorem x_ishr {x y : Int32} (hd : decode Y.2.1 pc = .ok (.ishr, 1)) (K : X Y rm sc F (pc + 1) lv (.int (x >>> (y &&& 31)) :: st) μ kc ks) : X Y rm sc F pc lv (.int y :: .int x :: st) μ kc ks :=
  fun p l e s m args below meth c b base D cI cZ H locs ls hC hK hZ hb hM hS hL => lv_ishr hC.1 hC.2.1 hd (K p l e s m args below meth c b base D cI cZ H locs ls hC hK hZ hb hM hS hL)
theorem x_iushr {x y v : Int32} (hd : decode Y.2.1 pc = .ok (.iushr, 1)) (hv : (x.toUInt32 >>> (y.toUInt32 &&& Int32.toUInt32 31)).toInt32 = v) (K : X Y rm sc F (pc + 1) lv (.int v :: st) μ kc ks) : X Y rm sc F pc lv (.int y :: .int x :: st) μ kc ks :=
  fun p l e s m args below meth c b base D cI cZ H locs ls hC hK hZ hb hM hS hL => lv_iushr hC.1 hC.2.1 hd hv (K p l e s m args below meth c b base D cI cZ H locs ls hC hK hZ hb hM hS hL)
theorem x_ineg {x : Int32} (hd : decode Y.2.1 pc = .ok (.ineg, 1)) (K : X Y rm sc F (pc + 1) lv (.int (-x) :: st) μ kc ks) : X Y rm sc F pc lv (.int x :: st) μ kc ks :=
  fun p l e s m args below meth c b base D cI cZ H locs ls hC hK hZ hb hM hS hL => lv_ineg hC.1 hC.2.1 hd (K p l e s m args below meth c b base D cI cZ H locs ls hC hK hZ hb hM hS hL)
theorem x_dup {v : Value} (hd : decode Y.2.1 pc = .ok (.dup, 1)) (hv : v.category = 1) (K : X Y rm sc F (pc + 1) lv (v :: v :: st) μ kc ks) : X Y rm sc F pc lv (v :: st) μ kc ks :=
  fun p l e s m args below meth c b base D cI cZ H locs ls hC hK hZ hb hM hS hL => lv_dup hC.1 hC.2.1 hd (zr_cat hv) (K p l e s m args below meth c b base D cI cZ H locs ls hC hK hZ hb hM hS hL)
theorem x_dup2 {v w : Value} (hd : decode Y.2.1 pc = .ok (.dup2, 1)) (hv : v.category = 1) (hw : w.category = 1) (K : X Y rm sc F (pc + 1) lv (v :: w :: v :: w :: st) μ kc ks) : X Y rm sc F pc lv (v :: w :: st) μ kc ks :=
  fun p l e s m args below meth c b base D cI cZ H locs ls hC hK hZ hb hM hS hL => lv_dup2_11 hC.1 hC.2.1 hd (zr_cat hv) (zr_cat hw) (K p l e s m args below meth c b base D cI cZ H locs ls hC hK hZ hb hM hS hL)
theorem x_if_eq {x : Int32} {off : Int} {tgt : Nat} (hd : decode Y.2.1 pc = .ok (.ifCond .eq off, 3)) (ht : (pc : Int) + off = (tgt : Int)) (kt : x = 0 → X Y rm sc F tgt lv st μ kc ks) (kf : ¬ x = 0 → X Y rm sc F (pc + 3) lv st μ kc ks) : X Y rm sc F pc lv (.int x :: st) μ kc ks :=
  fun p l e s m args below meth c b base D cI cZ H locs ls hC hK hZ hb hM hS hL => lv_if_eq hC.1 hC.2.1 hd ht (fun h => kt h p l e s m args below meth c b base D cI cZ H locs ls hC hK hZ hb hM hS hL) (fun h => kf h p l e s m args below meth c b base D cI cZ H locs ls hC hK hZ hb hM hS hL)
theorem x_icmp_eq {x y : Int32} {off : Int} {tgt : Nat} (hd : decode Y.2.1 pc = .ok (.if_icmp .eq off, 3)) (ht : (pc : Int) + off = (tgt : Int)) (kt : x = y → X Y rm sc F tgt lv st μ kc ks) (kf : ¬ x = y → X Y rm sc F (pc + 3) lv st μ kc ks) : X Y rm sc F pc lv (.int y :: .int x :: st) μ kc ks :=
  fun p l e s m args below meth c b base D cI cZ H locs ls hC hK hZ hb hM hS hL => lv_icmp_eq hC.1 hC.2.1 hd ht (fun h => kt h p l e s m args below meth c b base D cI cZ H locs ls hC hK hZ hb hM hS hL) (fun h => kf h p l e s m args below meth c b base D cI cZ H locs ls hC hK hZ hb hM hS hL)
theorem x_if_ne {x : Int32} {off : Int} {tgt : Nat} (hd : decode Y.2.1 pc = .ok (.ifCond .ne off, 3)) (ht : (pc : Int) + off = (tgt : Int)) (kt : ¬ x = 0 → X Y rm sc F tgt lv st μ kc ks) (kf : x = 0 → X Y rm sc F (pc + 3) lv st μ kc ks) : X Y rm sc F pc lv (.int x :: st) μ kc ks :=
  fun p l e s m args below meth c b base D cI cZ H locs ls hC hK hZ hb hM hS hL => lv_if_ne hC.1 hC.2.1 hd ht (fun h => kt h p l e s m args below meth c b base D cI cZ H locs ls hC hK hZ hb hM hS hL) (fun h => kf h p l e s m args below meth c b base D cI cZ H locs ls hC hK hZ hb hM hS hL)
theorem x_icmp_ne {x y : Int32} {off : Int} {tgt : Nat} (hd : decode Y.2.1 pc = .ok (.if_icmp .ne off, 3)) (ht : (pc : Int) + off = (tgt : Int)) (kt : ¬ x = y → X Y rm sc F tgt lv st μ kc ks) (kf : x = y → X Y rm sc F (pc + 3) lv st μ kc ks) : X Y rm sc F pc lv (.int y :: .int x :: st) μ kc ks :=
  fun p l e s m args below meth c b base D cI cZ H locs ls hC hK hZ hb hM hS hL => lv_icmp_ne hC.1 hC.2.1 hd ht (fun h => kt h p l e s m args below meth c b base D cI cZ H locs ls hC hK hZ hb hM hS hL) (fun h => kf h p l e s m args below meth c b base D cI cZ H locs ls hC hK hZ hb hM hS hL)
theorem x_if_lt {x : Int32} {off : Int} {tgt : Nat} (hd : decode Y.2.1 pc = .ok (.ifCond .lt off, 3)) (ht : (pc : Int) + off = (tgt : Int)) (kt : x < 0 → X Y rm sc F tgt lv st μ kc ks) (kf : ¬ x < 0 → X Y rm sc F (pc + 3) lv st μ kc ks) : X Y rm sc F pc lv (.int x :: st) μ kc ks :=
  fun p l e s m args below meth c b base D cI cZ H locs ls hC hK hZ hb hM hS hL => lv_if_lt hC.1 hC.2.1 hd ht (fun h => kt h p l e s m args below meth c b base D cI cZ H locs ls hC hK hZ hb hM hS hL) (fun h => kf h p l e s m args below meth c b base D cI cZ H locs ls hC hK hZ hb hM hS hL)
theorem x_icmp_lt {x y : Int32} {off : Int} {tgt : Nat} (hd : decode Y.2.1 pc = .ok (.if_icmp .lt off, 3)) (ht : (pc : Int) + off = (tgt : Int)) (kt : x < y → X Y rm sc F tgt lv st μ kc ks) (kf : ¬ x < y → X Y rm sc F (pc + 3) lv st μ kc ks) : X Y rm sc F pc lv (.int y :: .int x :: st) μ kc ks :=
  fun p l e s m args below meth c b base D cI cZ H locs ls hC hK hZ hb hM hS hL => lv_icmp_lt hC.1 hC.2.1 hd ht (fun h => kt h p l e s m args below meth c b base D cI cZ H locs ls hC hK hZ hb hM hS hL) (fun h => kf h p l e s m args below meth c b base D cI cZ H locs ls hC hK hZ hb hM hS hL)
theorem x_if_ge {x : Int32} {off : Int} {tgt : Nat} (hd : decode Y.2.1 pc = .ok (.ifCond .ge off, 3)) (ht : (pc : Int) + off = (tgt : Int)) (kt : 0 ≤ x → X Y rm sc F tgt lv st μ kc ks) (kf : ¬ 0 ≤ x → X Y rm sc F (pc + 3) lv st μ kc ks) : X Y rm sc F pc lv (.int x :: st) μ kc ks :=
  fun p l e s m args below meth c b base D cI cZ H locs ls hC hK hZ hb hM hS hL => lv_if_ge hC.1 hC.2.1 hd ht (fun h => kt h p l e s m args below meth c b base D cI cZ H locs ls hC hK hZ hb hM hS hL) (fun h => kf h p l e s m args below meth c b base D cI cZ H locs ls hC hK hZ hb hM hS hL)
theorem x_icmp_ge {x y : Int32} {off : Int} {tgt : Nat} (hd : decode Y.2.1 pc = .ok (.if_icmp .ge off, 3)) (ht : (pc : Int) + off = (tgt : Int)) (kt : y ≤ x → X Y rm sc F tgt lv st μ kc ks) (kf : ¬ y ≤ x → X Y rm sc F (pc + 3) lv st μ kc ks) : X Y rm sc F pc lv (.int y :: .int x :: st) μ kc ks :=
  fun p l e s m args below meth c b base D cI cZ H locs ls hC hK hZ hb hM hS hL => lv_icmp_ge hC.1 hC.2.1 hd ht (fun h => kt h p l e s m args below meth c b base D cI cZ H locs ls hC hK hZ hb hM hS hL) (fun h => kf h p l e s m args below meth c b base D cI cZ H locs ls hC hK hZ hb hM hS hL)
theorem x_if_gt {x : Int32} {off : Int} {tgt : Nat} (hd : decode Y.2.1 pc = .ok (.ifCond .gt off, 3)) (ht : (pc : Int) + off = (tgt : Int)) (kt : 0 < x → X Y rm sc F tgt lv st μ kc ks) (kf : ¬ 0 < x → X Y rm sc F (pc + 3) lv st μ kc ks) : X Y rm sc F pc lv (.int x :: st) μ kc ks :=
  fun p l e s m args below meth c b base D cI cZ H locs ls hC hK hZ hb hM hS hL => lv_if_gt hC.1 hC.2.1 hd ht (fun h => kt h p l e s m args below meth c b base D cI cZ H locs ls hC hK hZ hb hM hS hL) (fun h => kf h p l e s m args below meth c b base D cI cZ H locs ls hC hK hZ hb hM hS hL)
theorem x_icmp_gt {x y : Int32} {off : Int} {tgt : Nat} (hd : decode Y.2.1 pc = .ok (.if_icmp .gt off, 3)) (ht : (pc : Int) + off = (tgt : Int)) (kt : y < x → X Y rm sc F tgt lv st μ kc ks) (kf : ¬ y < x → X Y rm sc F (pc + 3) lv st μ kc ks) : X Y rm sc F pc lv (.int y :: .int x :: st) μ kc ks :=
  fun p l e s m args below meth c b base D cI cZ H locs ls hC hK hZ hb hM hS hL => lv_icmp_gt hC.1 hC.2.1 hd ht (fun h => kt h p l e s m args below meth c b base D cI cZ H locs ls hC hK hZ hb hM hS hL) (fun h => kf h p l e s m args below meth c b base D cI cZ H locs ls hC hK hZ hb hM hS hL)
theorem x_if_le {x : Int32} {off : Int} {tgt : Nat} (hd : decode Y.2.1 pc = .ok (.ifCond .le off, 3)) (ht : (pc : Int) + off = (tgt : Int)) (kt : x ≤ 0 → X Y rm sc F tgt lv st μ kc ks) (kf : ¬ x ≤ 0 → X Y rm sc F (pc + 3) lv st μ kc ks) : X Y rm sc F pc lv (.int x :: st) μ kc ks :=
  fun p l e s m args below meth c b base D cI cZ H locs ls hC hK hZ hb hM hS hL => lv_if_le hC.1 hC.2.1 hd ht (fun h => kt h p l e s m args below meth c b base D cI cZ H locs ls hC hK hZ hb hM hS hL) (fun h => kf h p l e s m args below meth c b base D cI cZ H locs ls hC hK hZ hb hM hS hL)
theorem x_icmp_le {x y : Int32} {off : Int} {tgt : Nat} (hd : decode Y.2.1 pc = .ok (.if_icmp .le off, 3)) (ht : (pc : Int) + off = (tgt : Int)) (kt : x ≤ y → X Y rm sc F tgt lv st μ kc ks) (kf : ¬ x ≤ y → X Y rm sc F (pc + 3) lv st μ kc ks) : X Y rm sc F pc lv (.int y :: .int x :: st) μ kc ks :=
  fun p l e s m args below meth c b base D cI cZ H locs ls hC hK hZ hb hM hS hL => lv_icmp_le hC.1 hC.2.1 hd ht (fun h => kt h p l e s m args below meth c b base D cI cZ H locs ls hC hK hZ hb hM hS hL) (fun h => kf h p l e s m args below meth c b base D cI cZ H locs ls hC hK hZ hb hM hS hL)
theorem x_goto {off : Int} {tgt : Nat} (hd : decode Y.2.1 pc = .ok (.goto off, 3)) (ht : (pc : Int) + off = (tgt : Int)) (K : X Y rm sc F tgt lv st μ kc ks) : X Y rm sc F pc lv st μ kc ks :=
  fun p l e s m args below meth c b base D cI cZ H locs ls hC hK hZ hb hM hS hL => lv_goto hC.1 hC.2.1 hd ht (K p l e s m args below meth c b base D cI cZ H locs ls hC hK hZ hb hM hS hL)
theorem x_sw_out {dflt lo hi : Int} {offs : Array Int} {len : Nat} {x : Int32} {tgt : Nat} (hd : decode Y.2.1 pc = .ok (.tableswitch dflt lo hi offs, len)) (h : x.toInt < lo ∨ hi < x.toInt) (ht : (pc : Int) + dflt = (tgt : Int)) (K : X Y rm sc F tgt lv st μ kc ks) : X Y rm sc F pc lv (.int x :: st) μ kc ks :=
  fun p l e s m args below meth c b base D cI cZ H locs ls hC hK hZ hb hM hS hL => lv_tableOut hC.1 hC.2.1 hd h ht (K p l e s m args below meth c b base D cI cZ H locs ls hC hK hZ hb hM hS hL)
theorem x_sw_in {dflt lo hi : Int} {offs : Array Int} {len : Nat} {x : Int32} {off : Int} {tgt : Nat} (hd : decode Y.2.1 pc = .ok (.tableswitch dflt lo hi offs, len)) (h1 : ¬ x.toInt < lo) (h2 : ¬ hi < x.toInt) (ho : offs[(x.toInt - lo).toNat]? = some off) (ht : (pc : Int) + off = (tgt : Int)) (K : X Y rm sc F tgt lv st μ kc ks) : X Y rm sc F pc lv (.int x :: st) μ kc ks :=
  fun p l e s m args below meth c b base D cI cZ H locs ls hC hK hZ hb hM hS hL => lv_tableIn hC.1 hC.2.1 hd h1 h2 ho ht (K p l e s m args below meth c b base D cI cZ H locs ls hC hK hZ hb hM hS hL)
/-- fewer known locals -/
theorem x_drop {lv' : List Value} (hl : lv'.length = lv.length) (hc : ∀ v ∈ lv', v.category = 1) (hs : ∀ (i : Nat) (v : Value), lv'[i]? = some v → zknown v = true → lv[i]? = some v) (K : X Y rm sc F pc lv' st μ kc ks) : X Y rm sc F pc lv st μ kc ks :=
  fun p l e s m args below meth c b base D cI cZ H locs ls hC hK hZ hb hM hS hL => K p l e s m args below meth c b base D cI cZ H locs ls hC hK hZ hb hM hS (zL_drop hL hl hc hs)
theorem x_get {i k ci j N : Nat} {C ref nm ds : String} {T : u_T} {fs : List Value} {v : Value} (hd : decode Y.2.1 pc = .ok (.getfield i, 3)) (hw : Cond.fieldLink Y.2.2.2.2 i ref nm ds ∈ zt) (hm : μ[k]? = some (.inr (ci, fs))) (hc : zcl[ci]? = some (C, T, N)) (hj : j < N) (hT : ((T j).1, (T j).2.1, (T j).2.2.1) = (ref, nm, ds)) (hv : fs[j]? = some v) (ho : zok v = true) (K : X Y rm sc F (pc + 3) lv (v :: st) μ kc ks) : X Y rm sc F pc lv (.ref k :: st) μ kc ks := by
  intro p l e s m args below meth c b base D cI cZ H locs ls hC hK hZ hb hM hS hL
  have e1 : (T j).1 = ref := congrArg (fun q : String × String × String => q.1) hT
  have e2 : (T j).2.1 = nm := congrArg (fun q : String × String × String => q.2.1) hT
  have e3 : (T j).2.2.1 = ds := congrArg (fun q : String × String × String => q.2.2) hT
  subst e1 e2 e3
  refine va_get (D := D) (ci := ci) (v := zr base b v) (C := C) (T := T) (N := N) (ref := (T j).1) hC.1 hC.2.1 hC.2.2.2.2.1 (zcl_in ci _ hc) hC.2.2.2.1 hK.1 hM.2 k (zw_get hm) hc j hj (hC.2.2.2.2.1 _ hw) (fun _ h => h) ?_ hd (K p l e s m args below meth c b base D cI cZ H locs ls hC hK hZ hb hM hS hL)
  rw [List.getElem?_map, hv, zr_ok ho base b 0]; rfl
end XR
end
section
section XR2
variable {Y : zY} {rm : Room} {sc : Nat × (Nat → Int32)} {F : zFin} {pc : Nat} {lv st : List Value} {μ : zMem} {kc ks : Nat}
theorem zM_set {D : va_G} {cI cZ : ClassId} {base : Nat} {μ : zMem} {H H1 : Heap} {k : Nat} {c0 c1 : zE} (h : zM D cI cZ base μ H) (h0 : μ[k]? = some c0) (hz : H1.size = H.size) (ha : va_at D zcl (base + k, ze cI cZ base c1) H1) (hq : ∀ q : Nat, q ≠ base + k → H1[q]? = H[q]?) : zM D cI cZ base (μ.set k c1) H1 := by
  refine ⟨by rw [hz, h.1, List.length_set], ?_⟩
  rw [← zw_set]
  exact h.2.set (zw_D cI cZ base μ) (zw_get h0) ha hq
theorem zr_sum {base b : Nat} : ∀ {st : List Value}, (∀ v ∈ st, v.category = 1) → ((st.map (zr base b)).map fun v => v.category).sum = (st.map fun v => v.category).sum
  | [], _ => rfl
  | v :: st, h => by
    simp only [List.map_cons, List.sum_cons]
    rw [zr_sum (fun w hw => h w (List.mem_cons_of_mem _ hw)), zr_cat (h v List.mem_cons_self), h v List.mem_cons_self]
theorem x_put {i k ci j N : Nat} {C ref nm ds : String} {T : u_T} {fs : List Value} {v : Value} {μ' : zMem} (hd : decode Y.2.1 pc = .ok (.putfield i, 3)) (hw : Cond.fieldLink Y.2.2.2.2 i ref nm ds ∈ zt) (hm : μ[k]? = some (.inr (ci, fs))) (hc : zcl[ci]? = some (C, T, N)) (hj : j < N) (hT : T j = (ref, nm, ds, false)) (hf : j < fs.length) (ho : zok v = true) (hn : ∀ base b, narrow (zty ci j) (zr base b v) = zr base b v) (hfit : ∀ base b, fits (zty ci j) (zr base b v) = true) (hμ : μ.set k (.inr (ci, fs.set j v)) = μ') (K : X Y rm sc F (pc + 3) lv st μ' kc ks) : X Y rm sc F pc lv (v :: .ref k :: st) μ kc ks := by
  subst hμ
  intro p l e s m args below meth c b base D cI cZ H locs ls hC hK hZ hb hM hS hL
  have e1 : (T j).1 = ref := by rw [hT]
  have e2 : (T j).2.1 = nm := by rw [hT]
  have e3 : (T j).2.2.1 = ds := by rw [hT]
  have e4 : (T j).2.2.2 = false := by rw [hT]
  subst e1 e2 e3
  have hap := va_apart (own := Y.2.2.2.2) hC.2.2.2.2.1 (zcl_in ci _ hc) (zty ci) (zcl_ty ci _ hc) (zcl_nm ci _ hc) hK.1 hc
  have hat : va_at D zcl (base + k, .inr (ci, fs.map (zr base 0))) H := hM.2 k _ (zw_get hm)
  obtain ⟨r, h1, cell, q1, q2, q3, q4⟩ := hat
  have hr : r = (C, T, N) := Option.some.inj (h1.symm.trans hc)
  subst hr
  obtain ⟨hSl, hfc, kC, hkC, hkind⟩ := hK.1.1 ci _ hc
  obtain ⟨cf, kf, fi, f, hi, hsl⟩ := hSl j hj
  have hlay := hC.2.2.2.2.1 _ (zcl_in ci _ hc _ (u_in_lay hj))
  unfold u_lay at hlay
  rw [if_neg (by rw [e4]; decide)] at hlay
  have hst := (u_facts hfc hkC (u_lays hC.2.2.2.2.1 (zcl_in ci _ hc) hj) hi).1
  have h6 := u_store hfc hkC hkind hlay hi (zcl_ty ci _ hc j hj) (hn base b) (hfit base b)
  refine W.putK hC.1 hC.2.1 (f := f) ⟨hC.2.2.2.1, hC.2.2.2.2.1 _ hw, ⟨_, _, _, hi⟩, hst⟩ (by rw [q2]; exact h6) q1 q3 (by rw [hsl]; exact k2_hasslot (q4 j hj)) rfl rfl hd fun H' e1 e2 e3 => ?_
  rw [hsl] at e1 ⊢
  refine K p l e s m args below meth c b base D cI cZ H' _ ls hC hK hZ hb (zM_set (c1 := .inr (ci, fs.set j v)) hM hm e2 ?_ e3) (hS.put e2 e3 (Nat.le_add_right _ _)) hL
  refine ⟨_, hc, t_OB.to (V := updV (vp_V (fs.map (zr base 0))) j (zr base b v)) ⟨_, e1, q2, q3, t_set q4 hap hj (zr base b v)⟩ (fun x _ => ?_)⟩
  rw [vp_updV_set (by rw [List.length_map]; exact hf) (zr base b v) x, zr_ok ho base b 0, List.map_set]
theorem x_putF {i k ci j N : Nat} {C ref nm ds : String} {T : u_T} {fs : List Value} {v : Value} {μ' : zMem} (hd : decode Y.2.1 pc = .ok (.putfield i, 3)) (hw : Cond.fieldLink Y.2.2.2.2 i ref nm ds ∈ zt) (hm : μ[k]? = some (.inr (ci, fs))) (hc : zcl[ci]? = some (C, T, N)) (hj : j < N) (hT : T j = (ref, nm, ds, true)) (hf : j < fs.length) (ho : zok v = true) (hn : ∀ base b, narrow (zty ci j) (zr base b v) = zr base b v) (hfit : ∀ base b, fits (zty ci j) (zr base b v) = true) (hdecl : (T j).1 = Y.2.2.2.2) (hin2 : Y.1.name = "<init>") (hμ : μ.set k (.inr (ci, fs.set j v)) = μ') (K : X Y rm sc F (pc + 3) lv st μ' kc ks) : X Y rm sc F pc lv (v :: .ref k :: st) μ kc ks := by
  subst hμ
  intro p l e s m args below meth c b base D cI cZ H locs ls hC hK hZ hb hM hS hL
  have e1 : (T j).1 = ref := by rw [hT]
  have e2 : (T j).2.1 = nm := by rw [hT]
  have e3 : (T j).2.2.1 = ds := by rw [hT]
  have e4 : (T j).2.2.2 = true := by rw [hT]
  subst e1 e2 e3
  have hap := va_apart (own := Y.2.2.2.2) hC.2.2.2.2.1 (zcl_in ci _ hc) (zty ci) (zcl_ty ci _ hc) (zcl_nm ci _ hc) hK.1 hc
  have hat : va_at D zcl (base + k, .inr (ci, fs.map (zr base 0))) H := hM.2 k _ (zw_get hm)
  obtain ⟨r, h1, cell, q1, q2, q3, q4⟩ := hat
  have hr : r = (C, T, N) := Option.some.inj (h1.symm.trans hc)
  subst hr
  obtain ⟨hSl, hfc, kC, hkC, hkind⟩ := hK.1.1 ci _ hc
  obtain ⟨cf, kf, fi, f, hi, hsl⟩ := hSl j hj
  have hlay := hC.2.2.2.2.1 _ (zcl_in ci _ hc _ (u_in_lay hj))
  unfold u_lay at hlay
  rw [if_pos e4] at hlay
  have hst := (u_facts hfc hkC (u_lays hC.2.2.2.2.1 (zcl_in ci _ hc) hj) hi).1
  have hcf : m.cls = cf := by
    obtain ⟨_, _, c', _, _, _, -, -, hf', -, -, -, hown2, -⟩ := Cond.laysFinal_spec hlay
    have e1 : c' = cf := by have := hi.symm.trans hf'; simp at this; exact this.1.symm
    rw [hdecl] at hown2
    rw [← e1]; exact Option.some.inj (hC.2.2.2.1.symm.trans hown2)
  have h6 := u_fits hfc hkC hkind (Or.inr hlay) hi (zcl_ty ci _ hc j hj) (hn base b) (hfit base b)
  refine W.putFinK hC.1 hC.2.1 hC.2.2.2.1 (hC.2.2.2.2.1 _ hw) hi hst hcf (hC.2.2.2.2.2.2.2.trans hin2) (by rw [q2]; exact h6) q1 q3 (by rw [hsl]; exact k2_hasslot (q4 j hj)) rfl rfl hd fun H' e1 e2 e3 => ?_
  rw [hsl] at e1 ⊢
  refine K p l e s m args below meth c b base D cI cZ H' _ ls hC hK hZ hb (zM_set (c1 := .inr (ci, fs.set j v)) hM hm e2 ?_ e3) (hS.put e2 e3 (Nat.le_add_right _ _)) hL
  refine ⟨_, hc, t_OB.to (V := updV (vp_V (fs.map (zr base 0))) j (zr base b v)) ⟨_, e1, q2, q3, t_set q4 hap hj (zr base b v)⟩ (fun x _ => ?_)⟩
  rw [vp_updV_set (by rw [List.length_map]; exact hf) (zr base b v) x, zr_ok ho base b 0, List.map_set]
theorem x_iald {k n : Nat} {f : Nat → Int32} {i : Int32} (hd : decode Y.2.1 pc = .ok (.iaload, 1)) (hm : μ[k]? = some (.inl (false, n, f))) (hin : vp_in i n) (K : X Y rm sc F (pc + 1) lv (.int (f i.toNatClampNeg) :: st) μ kc ks) : X Y rm sc F pc lv (.int i :: .ref k :: st) μ kc ks :=
  fun p l e s m args below meth c b base D cI cZ H locs ls hC hK hZ hb hM hS hL => va_iald hC.1 hC.2.1 hK.1 hM.2 k 0 (zw_get hm) rfl hin hd (K p l e s m args below meth c b base D cI cZ H locs ls hC hK hZ hb hM hS hL)
theorem x_zald {k n : Nat} {f : Nat → Int32} {i : Int32} (hd : decode Y.2.1 pc = .ok (.baload, 1)) (hm : μ[k]? = some (.inl (true, n, f))) (hin : vp_in i n) (K : X Y rm sc F (pc + 1) lv (.int (f i.toNatClampNeg) :: st) μ kc ks) : X Y rm sc F pc lv (.int i :: .ref k :: st) μ kc ks :=
  fun p l e s m args below meth c b base D cI cZ H locs ls hC hK hZ hb hM hS hL => va_zald hC.1 hC.2.1 hK.1 hM.2 k 1 (zw_get hm) rfl hin hd (K p l e s m args below meth c b base D cI cZ H locs ls hC hK hZ hb hM hS hL)
theorem x_iast {k n : Nat} {f : Nat → Int32} {i x : Int32} {μ' : zMem} (hd : decode Y.2.1 pc = .ok (.iastore, 1)) (hm : μ[k]? = some (.inl (false, n, f))) (hμ : μ.set k (.inl (false, n, upd f i.toNatClampNeg x)) = μ') (hin : vp_in i n) (K : X Y rm sc F (pc + 1) lv st μ' kc ks) : X Y rm sc F pc lv (.int x :: .int i :: .ref k :: st) μ kc ks := by
  subst hμ
  intro p l e s m args below meth c b base D cI cZ H locs ls hC hK hZ hb hM hS hL
  have hat : va_at D zcl (base + k, .inl (cI, n, .inl f)) H := hM.2 k _ (zw_get hm)
  refine W.iast hC.1 hC.2.1 hat ((hK.1.2 0 (cI, .int) rfl).1 n (fun j => .int (f j))) (fun q => by cases q) (by show ¬ (i < 0 ∨ (arrV _ _ _).slots.size ≤ _); rw [arrV_size]; exact hin) rfl rfl hd fun H1 e9 z oq => ?_
  refine K p l e s m args below meth c b base D cI cZ H1 _ ls hC hK hZ hb (zM_set (c1 := .inl (false, n, upd f i.toNatClampNeg x)) hM hm z ?_ oq) (hS.put z oq (Nat.le_add_right _ _)) hL
  show H1[base + k]? = some (vp_cell _ _)
  rw [show H1[base + k]? = _ from e9]
  rw [vp_cell_i, vp_cell_i, arrV_store]
  congr 2
  funext q
  by_cases hq : q = i.toNatClampNeg
  · subst hq
    simp [updV, upd]
    try rfl
  · simp [updV, upd, hq]
theorem x_zast {k n : Nat} {f : Nat → Int32} {i x : Int32} {μ' : zMem} (hd : decode Y.2.1 pc = .ok (.bastore, 1)) (hm : μ[k]? = some (.inl (true, n, f))) (hμ : μ.set k (.inl (true, n, upd f i.toNatClampNeg (vp_nar .boolean x))) = μ') (hin : vp_in i n) (K : X Y rm sc F (pc + 1) lv st μ' kc ks) : X Y rm sc F pc lv (.int x :: .int i :: .ref k :: st) μ kc ks := by
  subst hμ
  intro p l e s m args below meth c b base D cI cZ H locs ls hC hK hZ hb hM hS hL
  have hat : va_at D zcl (base + k, .inl (cZ, n, .inl f)) H := hM.2 k _ (zw_get hm)
  refine W.zast hC.1 hC.2.1 hat ((hK.1.2 1 (cZ, .boolean) rfl).1 n (fun j => .int (f j))) (fun q => by cases q) (by show ¬ (i < 0 ∨ (arrV _ _ _).slots.size ≤ _); rw [arrV_size]; exact hin) rfl rfl hd fun H1 e9 z oq => ?_
  refine K p l e s m args below meth c b base D cI cZ H1 _ ls hC hK hZ hb (zM_set (c1 := .inl (true, n, upd f i.toNatClampNeg (vp_nar .boolean x))) hM hm z ?_ oq) (hS.put z oq (Nat.le_add_right _ _)) hL
  show H1[base + k]? = some (vp_cell _ _)
  rw [show H1[base + k]? = _ from e9]
  rw [vp_cell_i, vp_cell_i, arrV_store]
  congr 2
  funext q
  by_cases hq : q = i.toNatClampNeg
  · subst hq
    simp [updV, upd, vp_nar]
    try rfl
  · simp [updV, upd, hq]
theorem x_alen {k n : Nat} {f : Nat → Int32} {v : Int32} (hd : decode Y.2.1 pc = .ok (.arraylength, 1)) (hm : μ[k]? = some (.inl (false, n, f))) (hv : Int32.ofNat n = v) (K : X Y rm sc F (pc + 1) lv (.int v :: st) μ kc ks) : X Y rm sc F pc lv (.ref k :: st) μ kc ks :=
  fun p l e s m args below meth c b base D cI cZ H locs ls hC hK hZ hb hM hS hL => va_alen hC.1 hC.2.1 hK.1 hM.2 k 0 (zw_get hm) (ty := .int) rfl hv hd (K p l e s m args below meth c b base D cI cZ H locs ls hC hK hZ hb hM hS hL)
theorem x_sld {i : Int32} {u : UInt32} (hd : decode Y.2.1 pc = .ok (.iaload, 1)) (hY : Y.2.2.2.2 = "CircuitWaysLaw") (hin : vp_in i sc.1) (K : X Y rm sc F (pc + 1) lv (.int (sc.2 i.toNatClampNeg) :: st) μ kc ks) : X Y rm sc F pc lv (.int i :: .float u :: st) μ kc ks :=
  fun p l e s m args below meth c b base D cI cZ H locs ls hC hK hZ hb hM hS hL => va_sld hC.1 hC.2.1 (hZ hY).2.2 (hZ hY).2.1 (Nat.not_le.mpr (hZ hY).1) hS hin hd (K p l e s m args below meth c b base D cI cZ H locs ls hC hK hZ hb hM hS hL)
theorem x_slen {u : UInt32} (hd : decode Y.2.1 pc = .ok (.arraylength, 1)) (hY : Y.2.2.2.2 = "CircuitWaysLaw") (K : X Y rm sc F (pc + 1) lv (.int (Int32.ofNat sc.1) :: st) μ kc ks) : X Y rm sc F pc lv (.float u :: st) μ kc ks :=
  fun p l e s m args below meth c b base D cI cZ H locs ls hC hK hZ hb hM hS hL => va_slen hC.1 hC.2.1 (hZ hY).2.2 (hZ hY).2.1 (Nat.not_le.mpr (hZ hY).1) hS hd (K p l e s m args below meth c b base D cI cZ H locs ls hC hK hZ hb hM hS hL)
theorem x_min {i : Nat} {x y : Int32} (hd : decode Y.2.1 pc = .ok (.invokestatic i, 3)) (hw : Cond.methodLink Y.2.2.2.2 i Lib.Math.min.name ∈ zt) (hf : 1 ≤ rm.frames) (hl : (st.map fun v => v.category).sum + 13 ≤ rm.locals) (hk : kc ≤ rm.cells ∧ ks ≤ rm.slots) (hst : ∀ v ∈ st, v.category = 1) (K : X Y rm sc F (pc + 3) lv (.int (if y < x then y else x) :: st) μ kc ks) : X Y rm sc F pc lv (.int y :: .int x :: st) μ kc ks :=
  fun p l e s m args below meth c b base D cI cZ H locs ls hC hK hZ hb hM hS hL => va_mmin hC.1 hC.2.1 (by rw [hL.2.2.1]; exact hC.2.2.1) hC.2.2.2.1 (hC.2.2.2.2.1 _ hw) (hC.2.2.2.2.1 _ k_min_static) (hC.2.2.2.2.1 _ k_min_init) (hC.2.2.2.2.1 _ k_min_code) hf (by rw [zr_sum hst]; exact hl) hk.1 hk.2 hd (K p l e s m args below meth c b base D cI cZ H locs ls hC hK hZ hb hM hS hL)
end XR2
/-- a method's end -/
def zQc (Q : Option Value → zMem → Prop) (base : Nat) (D : va_G) (cI cZ : ClassId) : Array Value → State → Outcome → State → Prop := fun _ st oc t =>
  ∃ (r : Option Value) (μ' : zMem), oc = .returned (r.map (zr base 0)) ∧ Q r μ' ∧ zM D cI cZ base μ' t.heap ∧ va_F (zA base) st t
def zP (av : List Value) (base : Nat) (D : va_G) (cI cZ : ClassId) (μ : zMem) : Array Value → State → Prop := va_Pc (av.map (zr base 0)) (fun U => zM D cI cZ base μ U.heap ∧ zK D cI cZ U)
def zFm (Q : Option Value → zMem → Prop) (rm : Room) : zFin := fun base D cI cZ below args s => MQ below (zQc Q base D cI cZ) args s rm.cells rm.slots (zA base)
/-- a method's contract: from the memory μ, with these arguments, it ends, and its answer and the memory behind it have Q -/
def Ctr (Y : zY) (rm : Room) (av : List Value) (μ : zMem) (Q : Option Value → zMem → Prop) : Prop :=
  ∀ (l : Launch) (base : Nat) (D : va_G) (cI cZ : ClassId), Met l Y.1 (Cond.code Y.1 Y.2.1 Y.2.2.1 Y.2.2.2.1 :: zt) rm (zP av base D cI cZ μ) (zQc Q base D cI cZ) rm.cells rm.slots (zA base)
theorem lg_sl_1 : ∀ (vs : List Value), (∀ v ∈ vs, v.category = 1) → lg_sl vs = vs.map Slot.val
  | [], _ => rfl
  | v :: vs, h => by
    have h1 := h v List.mem_cons_self
    have h2 := lg_sl_1 vs (fun w hw => h w (List.mem_cons_of_mem _ hw))
    simp only [lg_sl, List.flatMap_cons, List.map_cons] at h2 ⊢
    rw [h2, h1]; rfl
theorem lv_args_1 : ∀ (vs : List Value) (i : Nat), (∀ v ∈ vs, v.category = 1) → ∀ (j : Nat) (v : Value), vs[j]? = some v → (i + j, v) ∈ lv_args i vs
  | [], _, _, j, v, h => by simp at h
  | w :: vs, i, hc, 0, v, h => by
    simp only [List.getElem?_cons_zero, Option.some.injEq] at h
    subst h
    exact List.mem_cons_self
  | w :: vs, i, hc, j + 1, v, h => by
    have h1 := hc w List.mem_cons_self
    have h2 := lv_args_1 vs (i + 1) (fun w hw => hc w (List.mem_cons_of_mem _ hw)) j v (by simpa using h)
    simp only [lv_args]
    rw [if_neg (by omega)]
    exact List.mem_cons_of_mem _ (by rw [show i + (j + 1) = i + 1 + j by omega]; exact h2)
theorem Ctr.of {Y : zY} {rm : Room} {av lv : List Value} {μ : zMem} {Q : Option Value → zMem → Prop} (hW : zWm Y) (hO : Y.1.cls = Y.2.2.2.2) (hN : Y.2.2.2.2 ≠ "CircuitWaysLaw") (ha : av.all zok = true) (hlv : av ++ List.replicate (Y.2.2.1 - av.length) zu = lv) (hn : av.length ≤ Y.2.2.1)
    (hX : X Y rm (0, fun _ => 0) (zFm Q rm) 0 lv [] μ 0 0) : Ctr Y rm av μ Q := by
  subst hlv
  intro l base D cI cZ
  have hac : ∀ v ∈ av, v.category = 1 := fun v hv => by
    have := List.all_eq_true.mp ha v hv
    cases v <;> first | rfl | (simp [zok] at this)
  refine Met.ofW (cc := Y.2.1) (maxL := Y.2.2.1) (ret := Y.2.2.2.1) hW.2.2.2 rfl ?_
  intro p e s m args below meth c s₁ B hml hv
  obtain ⟨rfl, hM, hK⟩ := hv
  have hts := atoms_spec (ws := Cond.code Y.1 Y.2.1 Y.2.2.1 Y.2.2.2.1 :: zt) B.pre
  have hown : s.vm.findClass Y.2.2.2.2 = some m.cls := by rw [← hO]; exact findClass_of_methodNamed B.named
  have hcz : ∀ v ∈ av.map (zr base 0), v.category = 1 := fun v hv => by
    obtain ⟨w, hw, rfl⟩ := List.mem_map.mp hv
    exact zr_cat (hac w hw)
  have hlen : (lg_sl (av.map (zr base 0))).length = av.length := by rw [lg_sl_1 _ hcz]; simp
  have hl := lv_entry (av.map (zr base 0)) (n := Y.2.2.1) (by rw [hlen]; exact hn)
  rw [lg_entry_eq]
  generalize (lg_sl (av.map (zr base 0)) ++ List.replicate (Y.2.2.1 - (lg_sl (av.map (zr base 0))).length) Slot.unset).toArray = ls at hl ⊢
  refine hX p l e s m _ below meth c 0 base D cI cZ s.heap [] ls ⟨B.exec, B.bytes, hml, hown, fun w hw => hts w (List.mem_cons_of_mem _ hw), B.returns, B.notSynchronized, (name_of_methodNamed B.named B.method).1⟩ hK (fun h => absurd h hN) (by rw [hM.1]; exact Nat.le_add_right _ _) hM va_S.rf ⟨by simp; omega, fun v hv => ?_, hl.1, hl.2.1, fun i v hi hk => ?_⟩
  · rcases List.mem_append.mp hv with h | h
    · exact hac v h
    · rw [List.eq_of_mem_replicate h]; rfl
  · by_cases hlt : i < av.length
    · rw [List.getElem?_append_left hlt] at hi
      have := lv_args_1 (av.map (zr base 0)) 0 hcz i (zr base 0 v) (by rw [List.getElem?_map, hi]; rfl)
      have := hl.2.2 _ this
      simpa using this
    · rw [List.getElem?_append_right (by omega)] at hi
      have := List.eq_of_mem_replicate (List.mem_of_getElem? hi)
      subst this
      simp [zknown] at hk
section XR3
variable {Y : zY} {rm : Room} {sc : Nat × (Nat → Int32)} {F : zFin} {Q : Option Value → zMem → Prop} {pc : Nat} {lv st : List Value} {μ : zMem} {kc ks : Nat}
theorem x_iret {v : Int32} (hd : decode Y.2.1 pc = .ok (.ireturn, 1)) (hr : Y.2.2.2.1 = some .int) (hk : kc ≤ rm.cells ∧ ks ≤ rm.slots) (hq : Q (some (.int v)) μ) : X Y rm sc (zFm Q rm) pc lv [.int v] μ kc ks :=
  fun p l e s m args below meth c b base D cI cZ H locs ls hC hK hZ hb hM hS hL => W.widen hk.1 hk.2 (W.iret hC.1 hC.2.1 (hC.2.2.2.2.2.1.trans hr) (fun t ht hW => ⟨some (.int v), μ, rfl, hq, by rw [ht]; exact hM, hS.F ht⟩) hS.2.2 hd (hlocks := hC.2.2.2.2.2.2.1))
theorem x_zret {v : Int32} {ty : FieldType} (hd : decode Y.2.1 pc = .ok (.ireturn, 1)) (hr : Y.2.2.2.1 = some ty) (hn : narrow ty (.int v) = .int v) (hk : kc ≤ rm.cells ∧ ks ≤ rm.slots) (hq : Q (some (.int v)) μ) : X Y rm sc (zFm Q rm) pc lv [.int v] μ kc ks :=
  fun p l e s m args below meth c b base D cI cZ H locs ls hC hK hZ hb hM hS hL => W.widen hk.1 hk.2 (W.zret hC.1 hC.2.1 (hC.2.2.2.2.2.1.trans hr) hn (fun t ht hW => ⟨some (.int v), μ, rfl, hq, by rw [ht]; exact hM, hS.F ht⟩) hS.2.2 hd (hlocks := hC.2.2.2.2.2.2.1))
theorem x_vret (hd : decode Y.2.1 pc = .ok (.return_, 1)) (hr : Y.2.2.2.1 = none) (hk : kc ≤ rm.cells ∧ ks ≤ rm.slots) (hq : Q none μ) : X Y rm sc (zFm Q rm) pc lv [] μ kc ks :=
  fun p l e s m args below meth c b base D cI cZ H locs ls hC hK hZ hb hM hS hL => W.widen hk.1 hk.2 (W.vret hC.1 hC.2.1 (hC.2.2.2.2.2.1.trans hr) (fun t ht hW => ⟨none, μ, rfl, hq, by rw [ht]; exact hM, hS.F ht⟩) hS.2.2 hd (hlocks := hC.2.2.2.2.2.2.1))
/-- behind a call -/
theorem x_back {rm' : Room} {rest st0 : List Value} {Qc : Option Value → zMem → Prop} {p : Program} {l : Launch} {e : Env} {s : State} {m : MethodId} {args : Array Value} {below : List Frame} {meth : Method} {c : Code} {b base : Nat} {D : va_G} {cI cZ : ClassId} {H : Heap} {locs : List Loc} {ls : Array Slot} {a : Array Value}
    (hr : va_Run p l e rm s m args below meth c H locs kc ks rm'.cells rm'.slots (F0 m pc ls (st0.map (zr base b))) (rest.map (zr base b)) (zQc Qc base D cI cZ a) (zA base))
    (hC : zC Y p s m args meth c) (hK : zK D cI cZ s) (hZ : zS sc b base Y.2.2.2.2 s) (hb : base ≤ s.heap.size) (hS : va_S (zA base) s.heap H locs) (hL : zL base b Y.2.2.1 lv ls) (hov : ∀ r μ', Qc r μ' → ∀ v, r = some v → zok v = true)
    (K : ∀ r μ', Qc r μ' → X Y rm sc F (pc + 3) lv (r.toList ++ rest) μ' (kc + rm'.cells) (ks + rm'.slots)) : W p l e rm s m args below meth c H locs kc ks (F base D cI cZ below args s) (F0 m pc ls (st0.map (zr base b))) := by
  intro T hT XX
  obtain ⟨v, st₀, t, T', L, h0, X', hLo, e1, e2, ⟨r, μ', hv, hq, hM', hF⟩, st⟩ := hr T hT XX
  cases hv
  obtain ⟨hz, hk⟩ := hF
  rw [h0] at hz hk
  have hS' : va_S (zA base) s.heap T'.heap (locs ++ L) := ⟨Nat.le_trans hS.1 (by rw [e1]; exact hz), fun q h1 h2 => by rw [e1, hk q (Nat.lt_of_lt_of_le h1 hS.1) h2]; exact hS.2.1 q h1 h2, fun q hq => by
      rcases List.mem_append.mp hq with h | h
      · exact hS.2.2 q h
      · exact hLo q h⟩
  have hw := K r μ' hq p l e s m args below meth c b base D cI cZ T'.heap (locs ++ L) ls hC hK hZ hb (by rw [e1]; exact hM') hS' hL
  have hst : ((r.toList ++ rest).map (zr base b)) = (r.map (zr base 0)).toList ++ rest.map (zr base b) := by
    cases r with
    | none => rfl
    | some w => simp [zr_ok (hov _ _ hq w rfl) base b 0]
  rw [hst] at hw
  obtain ⟨t2, a1, b1⟩ := hw T' rfl X'
  exact ⟨t2, st t2 a1, b1⟩
theorem zgood {Y' : zY} (hW : zWm Y') {args : Array Value} {s : State} (hts : ∀ w ∈ zt, w.before args s = true) : ∀ w ∈ (Cond.code Y'.1 Y'.2.1 Y'.2.2.1 Y'.2.2.2.1 :: zt), ∀ (a' : Array Value) (U : State), s.WarmedH U.vm → w.before a' U = true := by
  intro w hw a' U hU
  have hm : w ∈ zt := by
    rcases List.mem_cons.mp hw with h | h
    · rw [h]; exact hW.1
    · exact h
  exact word_at hU (good_of_word (zt_good hm)) (hts w hm)
theorem zcallB {Y' : zY} {rm' : Room} {i : Nat} {n : Nat} (hW : zWm Y') (hl : Cond.methodLink Y.2.2.2.2 i Y'.1 ∈ zt) (hn : (parseMethodDescriptor Y'.1.desc).map (fun d => d.parameters.length) = some n) (hR : rm'.frames + 1 ≤ rm.frames ∧ 8 + (Y'.2.2.1 + 11) + rm'.locals ≤ rm.locals) {args : Array Value} {s : State} (hts : ∀ w ∈ zt, w.before args s = true) :
    CallB rm s args Y.2.2.2.2 i Y'.1 Y'.2.1 Y'.2.2.1 Y'.2.2.2.1 (Cond.code Y'.1 Y'.2.1 Y'.2.2.1 Y'.2.2.2.1 :: zt) rm' rm'.cells rm'.slots n := by
  refine ⟨rfl, rfl, hR.1, hR.2, zgood hW hts, List.mem_cons_self, hts _ hW.1, hts _ hW.2.1, hW.2.2.1, fun sig h => ?_, hts _ hl⟩
  rw [h] at hn
  exact (Option.some.inj hn).symm
theorem zpre {av : List Value} {base : Nat} {D : va_G} {cI cZ : ClassId} {s : State} {H : Heap} (hM : zM D cI cZ base μ H) (hK : zK D cI cZ s) : FrameBlind (zP av base D cI cZ μ) ∧ ∀ U : State, U.heap = H → s.WarmedH U.vm → zP av base D cI cZ μ (av.map (zr base 0)).toArray U :=
  ⟨fun a U g mk q => ⟨q.1, q.2.1, zK_same (s := U) (U := U.calling g mk a) rfl q.2.2⟩, fun U hU hW => ⟨rfl, by rw [hU]; exact hM, zK_moved hW hK⟩⟩
theorem x_callV {Y' : zY} {rm' : Room} {i k ci N : Nat} {C : String} {T : u_T} {fs av rest st0 : List Value} {Qc : Option Value → zMem → Prop} (hCt : Ctr Y' rm' (.ref k :: av) μ Qc) (hW : zWv Y') (hd : decode Y.2.1 pc = .ok (.invokevirtual i, 3)) (hl : Cond.methodLink Y.2.2.2.2 i Y'.1 ∈ zt) (hm : μ[k]? = some (.inr (ci, fs))) (hc : zcl[ci]? = some (C, T, N)) (hcls : Y'.1.cls = C) (hst : av.reverse ++ .ref k :: rest = st0) (ha : av.all zok = true) (hcr : ∀ v ∈ rest, v.category = 1)
    (hn : (parseMethodDescriptor Y'.1.desc).map (fun d => d.parameters.length) = some av.length) (hR : rm'.frames + 1 ≤ rm.frames ∧ 8 + (Y'.2.2.1 + 11) + rm'.locals ≤ rm.locals) (hk : kc + rm'.cells ≤ rm.cells ∧ ks + rm'.slots ≤ rm.slots) (hsum : (rest.map fun v => v.category).sum ≤ 8) (hov : ∀ r μ', Qc r μ' → ∀ v, r = some v → zok v = true)
    (K : ∀ r μ', Qc r μ' → X Y rm sc F (pc + 3) lv (r.toList ++ rest) μ' (kc + rm'.cells) (ks + rm'.slots)) : X Y rm sc F pc lv st0 μ kc ks := by
  subst hst
  intro p l e s m args below meth c b base D cI cZ H locs ls hC hK hZ hb hM hS hL
  have hp := zpre (av := .ref k :: av) hM hK
  refine x_back (rest := rest) (va_runV (b := base + k) (As := av.map (zr base 0)) (C := C) ⟨hC.1, hC.2.1, hC.2.2.1, hC.2.2.2.1, hC.2.2.2.2.1⟩ (hCt l base D cI cZ) ⟨zcallB hW.1 hl hn hR hC.2.2.2.2.1, hC.2.2.2.2.1 _ hW.2.1, by rw [← hcls]; exact hC.2.2.2.2.1 _ hW.2.2⟩ ⟨hp.1, va_recv hK.1 hM.2 hc (zw_get hm), hp.2⟩ rfl (by rw [List.length_map]) hL.2.2.1 ?_ (by rw [zr_sum hcr]; show 2 * 0 + _ ≤ 8; omega) hd hk) hC hK hZ hb hS hL hov K
  show (av.reverse ++ .ref k :: rest).map (zr base b) = (av.map (zr base 0)).reverse ++ .ref (base + k) :: rest.map (zr base b)
  rw [List.map_append, List.map_reverse, zr_map_ok ha base b 0]
  rfl
theorem x_callS {Y' : zY} {rm' : Room} {i : Nat} {av rest st0 : List Value} {Qc : Option Value → zMem → Prop} (hCt : Ctr Y' rm' av μ Qc) (hW : zWs Y') (hd : decode Y.2.1 pc = .ok (.invokestatic i, 3)) (hl : Cond.methodLink Y.2.2.2.2 i Y'.1 ∈ zt) (hst : av.reverse ++ rest = st0) (ha : av.all zok = true) (hcr : ∀ v ∈ rest, v.category = 1)
    (hn : (parseMethodDescriptor Y'.1.desc).map (fun d => d.parameters.length) = some av.length) (hR : rm'.frames + 1 ≤ rm.frames ∧ 8 + (Y'.2.2.1 + 11) + rm'.locals ≤ rm.locals) (hk : kc + rm'.cells ≤ rm.cells ∧ ks + rm'.slots ≤ rm.slots) (hsum : (rest.map fun v => v.category).sum ≤ 8) (hov : ∀ r μ', Qc r μ' → ∀ v, r = some v → zok v = true)
    (K : ∀ r μ', Qc r μ' → X Y rm sc F (pc + 3) lv (r.toList ++ rest) μ' (kc + rm'.cells) (ks + rm'.slots)) : X Y rm sc F pc lv st0 μ kc ks := by
  subst hst
  intro p l e s m args below meth c b base D cI cZ H locs ls hC hK hZ hb hM hS hL
  have hp := zpre (av := av) hM hK
  refine x_back (rest := rest) (va_runS (As := av.map (zr base 0)) ⟨hC.1, hC.2.1, hC.2.2.1, hC.2.2.2.1, hC.2.2.2.2.1⟩ (hCt l base D cI cZ) ⟨zcallB hW.1 hl hn hR hC.2.2.2.2.1, hC.2.2.2.2.1 _ hW.2⟩ ⟨hp.1, hp.2⟩ rfl (by rw [List.length_map]) hL.2.2.1 ?_ (by rw [zr_sum hcr]; show 2 * 0 + _ ≤ 8; omega) hd hk) hC hK hZ hb hS hL hov K
  show (av.reverse ++ rest).map (zr base b) = (av.map (zr base 0)).reverse ++ rest.map (zr base b)
  rw [List.map_append, List.map_reverse, zr_map_ok ha base b 0]
theorem x_callN {Y' : zY} {rm' : Room} {i : Nat} {host : String} {av rest st0 : List Value} {Qc : Option Value → zMem → Prop} (hCt : Ctr Y' rm' av μ Qc) (hW : zWs Y') (hd : decode Y.2.1 pc = .ok (.invokestatic i, 3)) (hl : Cond.methodLinkNest Y.2.2.2.2 i Y'.1 host ∈ znest) (hst : av.reverse ++ rest = st0) (ha : av.all zok = true) (hcr : ∀ v ∈ rest, v.category = 1)
    (hn : (parseMethodDescriptor Y'.1.desc).map (fun d => d.parameters.length) = some av.length) (hR : rm'.frames + 1 ≤ rm.frames ∧ 8 + (Y'.2.2.1 + 11) + rm'.locals ≤ rm.locals) (hk : kc + rm'.cells ≤ rm.cells ∧ ks + rm'.slots ≤ rm.slots) (hsum : (rest.map fun v => v.category).sum ≤ 8) (hov : ∀ r μ', Qc r μ' → ∀ v, r = some v → zok v = true)
    (K : ∀ r μ', Qc r μ' → X Y rm sc F (pc + 3) lv (r.toList ++ rest) μ' (kc + rm'.cells) (ks + rm'.slots)) : X Y rm sc F pc lv st0 μ kc ks := by
  subst hst
  intro p l e s m args below meth c b base D cI cZ H locs ls hC hK hZ hb hM hS hL
  have hp := zpre (av := av) hM hK
  have hcn : va_CN rm s args Y.2.2.2.2 i Y'.1 host Y'.2.1 Y'.2.2.1 Y'.2.2.2.1 (Cond.code Y'.1 Y'.2.1 Y'.2.2.1 Y'.2.2.2.1 :: zt) rm' rm'.cells rm'.slots av.length := by
    refine ⟨⟨rfl, rfl, hR.1, hR.2, zgood hW.1 hC.2.2.2.2.1, List.mem_cons_self⟩, hC.2.2.2.2.1 _ hW.1.1, hC.2.2.2.2.1 _ hW.1.2.1, hW.1.2.2.1, fun sig h => ?_, va_Nw.use rfl (hK.2 _ hl)⟩
    rw [h] at hn
    exact (Option.some.inj hn).symm
  refine x_back (rest := rest) (va_runSN (As := av.map (zr base 0)) ⟨hC.1, hC.2.1, hC.2.2.1, hC.2.2.2.1, hC.2.2.2.2.1⟩ (hCt l base D cI cZ) ⟨hcn, hC.2.2.2.2.1 _ hW.2, trivial⟩ ⟨hp.1, hp.2⟩ rfl (by rw [List.length_map]) hL.2.2.1 ?_ (by rw [zr_sum hcr]; show 2 * 0 + _ ≤ 8; omega) hd hk) hC hK hZ hb hS hL hov K
  show (av.reverse ++ rest).map (zr base b) = (av.map (zr base 0)).reverse ++ rest.map (zr base b)
  rw [List.map_append, List.map_reverse, zr_map_ok ha base b 0]
theorem x_callI {Y' : zY} {rm' : Room} {i k : Nat} {av rest st0 : List Value} {Qc : Option Value → zMem → Prop} (hCt : Ctr Y' rm' (.ref k :: av) μ Qc) (hW : zWi Y') (hret : Y'.2.2.2.1 = none) (hd : decode Y.2.1 pc = .ok (.invokespecial i, 3)) (hl : Cond.methodLink Y.2.2.2.2 i Y'.1 ∈ zt) (hst : av.reverse ++ .ref k :: rest = st0) (ha : av.all zok = true) (hcr : ∀ v ∈ rest, v.category = 1)
    (hn : (parseMethodDescriptor Y'.1.desc).map (fun d => d.parameters.length) = some av.length) (hR : rm'.frames + 1 ≤ rm.frames ∧ 8 + (Y'.2.2.1 + 11) + rm'.locals ≤ rm.locals) (hk : kc + rm'.cells ≤ rm.cells ∧ ks + rm'.slots ≤ rm.slots) (hsum : (rest.map fun v => v.category).sum ≤ 8) (hov : ∀ r μ', Qc r μ' → ∀ v, r = some v → zok v = true)
    (K : ∀ r μ', Qc r μ' → X Y rm sc F (pc + 3) lv (r.toList ++ rest) μ' (kc + rm'.cells) (ks + rm'.slots)) : X Y rm sc F pc lv st0 μ kc ks := by
  subst hst
  intro p l e s m args below meth c b base D cI cZ H locs ls hC hK hZ hb hM hS hL
  have hp := zpre (av := .ref k :: av) hM hK
  have hB := zcallB (Y := Y) (rm := rm) (rm' := rm') hW.1 hl hn hR hC.2.2.2.2.1
  have hCl := hCt l base D cI cZ
  rw [hret] at hB hCl
  refine x_back (rest := rest) (va_runI (b := base + k) (As := av.map (zr base 0)) ⟨hC.1, hC.2.1, hC.2.2.1, hC.2.2.2.1, hC.2.2.2.2.1⟩ hCl ⟨hB, hW.2.2, hC.2.2.2.2.1 _ hW.2.1⟩ ⟨hp.1, hp.2⟩ rfl (by rw [List.length_map]) hL.2.2.1 ?_ (by rw [zr_sum hcr]; show 2 * 0 + _ ≤ 8; omega) hd hk) hC hK hZ hb hS hL hov K
  show (av.reverse ++ .ref k :: rest).map (zr base b) = (av.map (zr base 0)).reverse ++ .ref (base + k) :: rest.map (zr base b)
  rw [List.map_append, List.map_reverse, zr_map_ok ha base b 0]
  rfl
end XR3
end
