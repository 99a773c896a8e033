set_option maxRecDepth 100000 in
set_option maxHeartbeats 4000000 in
theorem c_Mo_in (V A : zV) (x a b : Int32) : CQ Y_Mo_in 0 [.int x, .int a, .int b] V A (fun r V' A' => ((r = 1 ∧ (a ≤ x ∧ x ≤ b)) ∨ (r = 0 ∧ ¬ (a ≤ x ∧ x ≤ b))) ∧ V' = V ∧ A' = A) := by
  refine CQ.of (lv := [.int x, .int a, .int b]) k_Mo_in.1 rfl (by decide) rfl rfl (Nat.le_of_ble_eq_true rfl) ?_
  refine x_iload_n (pc := 0) d_Mo_in_0 rfl ?_
  refine x_iload_n (pc := 1) d_Mo_in_1 rfl ?_
  refine x_icmp_lt (pc := 2) (tgt := 14) d_Mo_in_2 (by decide) (fun h2 => ?_) (fun h2 => ?_)
  · refine x_iconst (pc := 14) (v := 0) d_Mo_in_14 (by decide) ?_
    refine y_zret (pc := 15) d_Mo_in_15 rfl rfl ?_
    exact ⟨Or.inr ⟨rfl, by simp only [zv_eq, Nat.reduceEqDiff, reduceIte, and_false, false_and, and_true, true_and, if_false, if_true, eq_self, z_lt, z_le, z_eq, z_t0, z_t1, z_l100, z_l9, z_l8, z_l2, z_l20, z_l1000, z_lm1000, z_l2000, z_lm1] at *; omega⟩, rfl, rfl⟩
  · refine x_iload_n (pc := 5) d_Mo_in_5 rfl ?_
    refine x_iload_n (pc := 6) d_Mo_in_6 rfl ?_
    refine x_icmp_gt (pc := 7) (tgt := 14) d_Mo_in_7 (by decide) (fun h7 => ?_) (fun h7 => ?_)
    · refine x_iconst (pc := 14) (v := 0) d_Mo_in_14 (by decide) ?_
      refine y_zret (pc := 15) d_Mo_in_15 rfl rfl ?_
      exact ⟨Or.inr ⟨rfl, by simp only [zv_eq, Nat.reduceEqDiff, reduceIte, and_false, false_and, and_true, true_and, if_false, if_true, eq_self, z_lt, z_le, z_eq, z_t0, z_t1, z_l100, z_l9, z_l8, z_l2, z_l20, z_l1000, z_lm1000, z_l2000, z_lm1] at *; omega⟩, rfl, rfl⟩
    · refine x_iconst (pc := 10) (v := 1) d_Mo_in_10 (by decide) ?_
      refine x_goto (pc := 11) (tgt := 15) d_Mo_in_11 (by decide) ?_
      refine y_zret (pc := 15) d_Mo_in_15 rfl rfl ?_
      exact ⟨Or.inl ⟨rfl, by simp only [zv_eq, Nat.reduceEqDiff, reduceIte, and_false, false_and, and_true, true_and, if_false, if_true, eq_self, z_lt, z_le, z_eq, z_t0, z_t1, z_l100, z_l9, z_l8, z_l2, z_l20, z_l1000, z_lm1000, z_l2000, z_lm1] at *; omega⟩, rfl, rfl⟩
set_option maxRecDepth 100000 in
set_option maxHeartbeats 4000000 in
theorem c_Mo_told (V A : zV) (a : Int32) : CQ Y_Mo_told 0 [.int a] V A (fun r V' A' => r = (if a = 900000 then (-1000000) else a) ∧ V' = V ∧ A' = A) := by
  refine CQ.of (lv := [.int a]) k_Mo_told.1 rfl (by decide) rfl rfl (Nat.le_of_ble_eq_true rfl) ?_
  refine x_iload_n (pc := 0) d_Mo_told_0 rfl ?_
  refine x_ldc (pc := 1) (v := 900000) d_Mo_told_1 i_Mo_101 ?_
  refine x_icmp_ne (pc := 3) (tgt := 11) d_Mo_told_3 (by decide) (fun h3 => ?_) (fun h3 => ?_)
  · refine x_iload_n (pc := 11) d_Mo_told_11 rfl ?_
    refine y_iret (pc := 12) d_Mo_told_12 rfl ?_
    exact ⟨by simp_all, rfl, rfl⟩
  · refine x_ldc (pc := 6) (v := (-1000000)) d_Mo_told_6 i_Mo_88 ?_
    refine x_goto (pc := 8) (tgt := 12) d_Mo_told_8 (by decide) ?_
    refine y_iret (pc := 12) d_Mo_told_12 rfl ?_
    exact ⟨by simp_all, rfl, rfl⟩
set_option maxRecDepth 100000 in
set_option maxHeartbeats 4000000 in
theorem c_Mo_noNode (V A : zV) (v : Int32) (n : Nat) (hn : V 36 1 = nI n) (h1 : 1 ≤ n) (h9 : n ≤ 9) : CQ Y_Mo_noNode 1 [.ref 36, .int v] V A (fun r V' A' => ((r = 1 ∧ ¬ (0 ≤ v ∧ v < nI n)) ∨ (r = 0 ∧ ¬ ¬ (0 ≤ v ∧ v < nI n))) ∧ V' = V ∧ A' = A) := by
  have hni : (nI n).toInt = (n : Int) := nI_toInt (by omega)
  have hni1 : (nI n - 1).toInt = (n : Int) - 1 := by rw [show (1 : Int32) = nI 1 from rfl, pk_sub h1, nI_toInt (by omega)]; omega
  refine CQ.of (lv := [.ref 36, .int v]) k_Mo_noNode.1 rfl (by decide) rfl rfl (Nat.le_of_ble_eq_true rfl) ?_
  refine x_iload_n (pc := 0) d_Mo_noNode_0 rfl ?_
  refine x_iconst (pc := 1) (v := 0) d_Mo_noNode_1 (by decide) ?_
  refine x_aload_n (pc := 2) d_Mo_noNode_2 rfl ?_
  refine x_get (pc := 3) (j := 1) d_Mo_noNode_3 f_Mo_13 rfl rfl (Nat.le_of_ble_eq_true rfl) rfl rfl rfl ?_
  refine x_iconst (pc := 6) (v := 1) d_Mo_noNode_6 (by decide) ?_
  refine x_isub (pc := 7) d_Mo_noNode_7 ?_
  refine y_bS (pc := 8) (c_Mo_in _ _ _ _ _) k_Mo_in d_Mo_noNode_8 m_Mo_70 (by decide) rfl p_Mo_in (K1 := fun q8 => ?_) (K0 := fun q8 => ?_)
  · refine x_if_ne (pc := 11) (tgt := 18) d_Mo_noNode_11 (by decide) (fun _ => ?_) (fun h => absurd h (by decide))
    refine x_iconst (pc := 18) (v := 0) d_Mo_noNode_18 (by decide) ?_
    refine y_zret (pc := 19) d_Mo_noNode_19 rfl rfl ?_
    exact ⟨Or.inr ⟨rfl, by (try rw [hn] at *); simp only [zv_eq, Nat.reduceEqDiff, reduceIte, and_false, false_and, and_true, true_and, if_false, if_true, eq_self, z_lt, z_le, z_eq, z_t0, z_t1, z_l100, z_l9, z_l8, z_l2, z_l20, z_l1000, z_lm1000, z_l2000, z_lm1] at *; omega⟩, rfl, rfl⟩
  · refine x_if_ne (pc := 11) (tgt := 18) d_Mo_noNode_11 (by decide) (fun h => absurd h (by decide)) (fun _ => ?_)
    refine x_iconst (pc := 14) (v := 1) d_Mo_noNode_14 (by decide) ?_
    refine x_goto (pc := 15) (tgt := 19) d_Mo_noNode_15 (by decide) ?_
    refine y_zret (pc := 19) d_Mo_noNode_19 rfl rfl ?_
    exact ⟨Or.inl ⟨rfl, by (try rw [hn] at *); simp only [zv_eq, Nat.reduceEqDiff, reduceIte, and_false, false_and, and_true, true_and, if_false, if_true, eq_self, z_lt, z_le, z_eq, z_t0, z_t1, z_l100, z_l9, z_l8, z_l2, z_l20, z_l1000, z_lm1000, z_l2000, z_lm1] at *; omega⟩, rfl, rfl⟩
set_option maxRecDepth 100000 in
set_option maxHeartbeats 4000000 in
theorem c_Mo_noTwo (V A : zV) (a b : Int32) (n : Nat) (hn : V 36 1 = nI n) (h1 : 1 ≤ n) (h9 : n ≤ 9) : CQ Y_Mo_noTwo 2 [.ref 36, .int a, .int b] V A (fun r V' A' => ((r = 1 ∧ ¬ ((0 ≤ a ∧ a < nI n) ∧ (0 ≤ b ∧ b < nI n) ∧ ¬ a = b)) ∨ (r = 0 ∧ ¬ ¬ ((0 ≤ a ∧ a < nI n) ∧ (0 ≤ b ∧ b < nI n) ∧ ¬ a = b))) ∧ V' = V ∧ A' = A) := by
  have hni : (nI n).toInt = (n : Int) := nI_toInt (by omega)
  have hni1 : (nI n - 1).toInt = (n : Int) - 1 := by rw [show (1 : Int32) = nI 1 from rfl, pk_sub h1, nI_toInt (by omega)]; omega
  refine CQ.of (lv := [.ref 36, .int a, .int b]) k_Mo_noTwo.1 rfl (by decide) rfl rfl (Nat.le_of_ble_eq_true rfl) ?_
  refine x_aload_n (pc := 0) d_Mo_noTwo_0 rfl ?_
  refine x_iload_n (pc := 1) d_Mo_noTwo_1 rfl ?_
  refine y_bV (pc := 2) (c_Mo_noNode _ _ _ n hn h1 h9) k_Mo_noNode d_Mo_noTwo_2 m_Mo_74 (by decide) rfl rfl rfl rfl p_Mo_noNode (K1 := fun q2 => ?_) (K0 := fun q2 => ?_)
  · refine x_if_ne (pc := 5) (tgt := 21) d_Mo_noTwo_5 (by decide) (fun _ => ?_) (fun h => absurd h (by decide))
    refine x_iconst (pc := 21) (v := 1) d_Mo_noTwo_21 (by decide) ?_
    refine x_goto (pc := 22) (tgt := 26) d_Mo_noTwo_22 (by decide) ?_
    refine y_zret (pc := 26) d_Mo_noTwo_26 rfl rfl ?_
    exact ⟨Or.inl ⟨rfl, by (try rw [hn] at *); simp only [zv_eq, Nat.reduceEqDiff, reduceIte, and_false, false_and, and_true, true_and, if_false, if_true, eq_self, z_lt, z_le, z_eq, z_t0, z_t1, z_l100, z_l9, z_l8, z_l2, z_l20, z_l1000, z_lm1000, z_l2000, z_lm1] at *; omega⟩, rfl, rfl⟩
  · refine x_if_ne (pc := 5) (tgt := 21) d_Mo_noTwo_5 (by decide) (fun h => absurd h (by decide)) (fun _ => ?_)
    refine x_aload_n (pc := 8) d_Mo_noTwo_8 rfl ?_
    refine x_iload_n (pc := 9) d_Mo_noTwo_9 rfl ?_
    refine y_bV (pc := 10) (c_Mo_noNode _ _ _ n hn h1 h9) k_Mo_noNode d_Mo_noTwo_10 m_Mo_74 (by decide) rfl rfl rfl rfl p_Mo_noNode (K1 := fun q10 => ?_) (K0 := fun q10 => ?_)
    · refine x_if_ne (pc := 13) (tgt := 21) d_Mo_noTwo_13 (by decide) (fun _ => ?_) (fun h => absurd h (by decide))
      refine x_iconst (pc := 21) (v := 1) d_Mo_noTwo_21 (by decide) ?_
      refine x_goto (pc := 22) (tgt := 26) d_Mo_noTwo_22 (by decide) ?_
      refine y_zret (pc := 26) d_Mo_noTwo_26 rfl rfl ?_
      exact ⟨Or.inl ⟨rfl, by (try rw [hn] at *); simp only [zv_eq, Nat.reduceEqDiff, reduceIte, and_false, false_and, and_true, true_and, if_false, if_true, eq_self, z_lt, z_le, z_eq, z_t0, z_t1, z_l100, z_l9, z_l8, z_l2, z_l20, z_l1000, z_lm1000, z_l2000, z_lm1] at *; omega⟩, rfl, rfl⟩
    · refine x_if_ne (pc := 13) (tgt := 21) d_Mo_noTwo_13 (by decide) (fun h => absurd h (by decide)) (fun _ => ?_)
      refine x_iload_n (pc := 16) d_Mo_noTwo_16 rfl ?_
      refine x_iload_n (pc := 17) d_Mo_noTwo_17 rfl ?_
      refine x_icmp_ne (pc := 18) (tgt := 25) d_Mo_noTwo_18 (by decide) (fun h18 => ?_) (fun h18 => ?_)
      · refine x_iconst (pc := 25) (v := 0) d_Mo_noTwo_25 (by decide) ?_
        refine y_zret (pc := 26) d_Mo_noTwo_26 rfl rfl ?_
        exact ⟨Or.inr ⟨rfl, by (try rw [hn] at *); simp only [zv_eq, Nat.reduceEqDiff, reduceIte, and_false, false_and, and_true, true_and, if_false, if_true, eq_self, z_lt, z_le, z_eq, z_t0, z_t1, z_l100, z_l9, z_l8, z_l2, z_l20, z_l1000, z_lm1000, z_l2000, z_lm1] at *; omega⟩, rfl, rfl⟩
      · refine x_iconst (pc := 21) (v := 1) d_Mo_noTwo_21 (by decide) ?_
        refine x_goto (pc := 22) (tgt := 26) d_Mo_noTwo_22 (by decide) ?_
        refine y_zret (pc := 26) d_Mo_noTwo_26 rfl rfl ?_
        exact ⟨Or.inl ⟨rfl, by (try rw [hn] at *); simp only [zv_eq, Nat.reduceEqDiff, reduceIte, and_false, false_and, and_true, true_and, if_false, if_true, eq_self, z_lt, z_le, z_eq, z_t0, z_t1, z_l100, z_l9, z_l8, z_l2, z_l20, z_l1000, z_lm1000, z_l2000, z_lm1] at *; omega⟩, rfl, rfl⟩
set_option maxRecDepth 100000 in
set_option maxHeartbeats 4000000 in
theorem c_Mo_node (V A : zV) (x : Int32) (n : Nat) (hn : V 36 1 = nI n) (h1 : 1 ≤ n) (h9 : n ≤ 9) : CQ Y_Mo_node 1 [.ref 36, .int x] V A (fun r V' A' => (¬ (0 ≤ x ∧ x ≤ 100) ∧ r = (-2000000) ∧ V' = (zv V 36 0 0) ∧ A' = A) ∨ (((0 ≤ x ∧ x ≤ 100) ∧ V 36 1 = 9) ∧ r = (-3000000) ∧ V' = (zv V 36 0 0) ∧ A' = A) ∨ (((0 ≤ x ∧ x ≤ 100) ∧ ¬ V 36 1 = 9) ∧ r = V 36 1 + 1 - 1 ∧ V' = (zv (zv (zv V 36 0 0) 36 1 (V 36 1 + 1)) 36 13 0) ∧ A' = za A 37 (upd (A 37) (V 36 1).toNatClampNeg x))) := by
  have hni : (nI n).toInt = (n : Int) := nI_toInt (by omega)
  have hni1 : (nI n - 1).toInt = (n : Int) - 1 := by rw [show (1 : Int32) = nI 1 from rfl, pk_sub h1, nI_toInt (by omega)]; omega
  refine CQ.of (lv := [.ref 36, .int x]) k_Mo_node.1 rfl (by decide) rfl rfl (Nat.le_of_ble_eq_true rfl) ?_
  refine x_aload_n (pc := 0) d_Mo_node_0 rfl ?_
  refine x_iconst (pc := 1) (v := 0) d_Mo_node_1 (by decide) ?_
  refine y_put (pc := 2) (j := 0) d_Mo_node_2 f_Mo_1 rfl rfl (Nat.le_of_ble_eq_true rfl) rfl (Nat.le_of_ble_eq_true rfl) rfl rfl (fun _ => rfl) ?_
  refine x_iload_n (pc := 5) d_Mo_node_5 rfl ?_
  refine x_iconst (pc := 6) (v := 0) d_Mo_node_6 (by decide) ?_
  refine x_bipush (pc := 7) (v := 100) d_Mo_node_7 (by decide) ?_
  refine y_bS (pc := 9) (c_Mo_in _ _ _ _ _) k_Mo_in d_Mo_node_9 m_Mo_70 (by decide) rfl p_Mo_in (K1 := fun q9 => ?_) (K0 := fun q9 => ?_)
  · refine x_if_ne (pc := 12) (tgt := 18) d_Mo_node_12 (by decide) (fun _ => ?_) (fun h => absurd h (by decide))
    refine x_aload_n (pc := 18) d_Mo_node_18 rfl ?_
    refine x_get (pc := 19) (j := 1) d_Mo_node_19 f_Mo_13 rfl rfl (Nat.le_of_ble_eq_true rfl) rfl rfl rfl ?_
    refine x_bipush (pc := 22) (v := 9) d_Mo_node_22 (by decide) ?_
    refine x_icmp_ne (pc := 24) (tgt := 30) d_Mo_node_24 (by decide) (fun h24 => ?_) (fun h24 => ?_)
    · refine x_aload_n (pc := 30) d_Mo_node_30 rfl ?_
      refine x_get (pc := 31) (j := 2) d_Mo_node_31 f_Mo_16 rfl rfl (Nat.le_of_ble_eq_true rfl) rfl rfl rfl ?_
      refine x_aload_n (pc := 34) d_Mo_node_34 rfl ?_
      refine x_get (pc := 35) (j := 1) d_Mo_node_35 f_Mo_13 rfl rfl (Nat.le_of_ble_eq_true rfl) rfl rfl rfl ?_
      refine x_iload_n (pc := 38) d_Mo_node_38 rfl ?_
      refine y_iast (pc := 39) d_Mo_node_39 rfl (fun _ => rfl) (by show vp_in (V 36 1) 9; rw [hn]; refine vp_in_nI ?_ (by decide); simp only [zv_eq, Nat.reduceEqDiff, reduceIte, and_false, false_and, and_true, true_and, if_false, if_true, eq_self, z_lt, z_le, z_eq, z_t0, z_t1, z_l100, z_l9, z_l8, z_l2, z_l20, z_l1000, z_lm1000, z_l2000, z_lm1] at *; omega) ?_
      refine x_aload_n (pc := 40) d_Mo_node_40 rfl ?_
      refine x_dup (pc := 41) d_Mo_node_41 rfl ?_
      refine x_get (pc := 42) (j := 1) d_Mo_node_42 f_Mo_13 rfl rfl (Nat.le_of_ble_eq_true rfl) rfl rfl rfl ?_
      refine x_iconst (pc := 45) (v := 1) d_Mo_node_45 (by decide) ?_
      refine x_iadd (pc := 46) d_Mo_node_46 ?_
      refine y_put (pc := 47) (j := 1) d_Mo_node_47 f_Mo_13 rfl rfl (Nat.le_of_ble_eq_true rfl) rfl (Nat.le_of_ble_eq_true rfl) rfl rfl (fun _ => rfl) ?_
      refine x_aload_n (pc := 50) d_Mo_node_50 rfl ?_
      refine x_iconst (pc := 51) (v := 0) d_Mo_node_51 (by decide) ?_
      refine y_put (pc := 52) (j := 13) d_Mo_node_52 f_Mo_80 rfl rfl (Nat.le_of_ble_eq_true rfl) rfl (Nat.le_of_ble_eq_true rfl) rfl rfl (fun _ => rfl) ?_
      refine x_aload_n (pc := 55) d_Mo_node_55 rfl ?_
      refine x_get (pc := 56) (j := 1) d_Mo_node_56 f_Mo_13 rfl rfl (Nat.le_of_ble_eq_true rfl) rfl rfl rfl ?_
      refine x_iconst (pc := 59) (v := 1) d_Mo_node_59 (by decide) ?_
      refine x_isub (pc := 60) d_Mo_node_60 ?_
      refine y_iret (pc := 61) d_Mo_node_61 rfl ?_
      first | exact Or.inl (⟨by simp only [zv_eq, Nat.reduceEqDiff, reduceIte, and_false, false_and, and_true, true_and, if_false, if_true, eq_self, z_lt, z_le, z_eq, z_t0, z_t1, z_l100, z_l9, z_l8, z_l2, z_l20, z_l1000, z_lm1000, z_l2000, z_lm1] at *; omega, rfl, rfl, rfl⟩) | exact Or.inr (Or.inl (⟨by simp only [zv_eq, Nat.reduceEqDiff, reduceIte, and_false, false_and, and_true, true_and, if_false, if_true, eq_self, z_lt, z_le, z_eq, z_t0, z_t1, z_l100, z_l9, z_l8, z_l2, z_l20, z_l1000, z_lm1000, z_l2000, z_lm1] at *; omega, rfl, rfl, rfl⟩)) | exact Or.inr (Or.inr (⟨by simp only [zv_eq, Nat.reduceEqDiff, reduceIte, and_false, false_and, and_true, true_and, if_false, if_true, eq_self, z_lt, z_le, z_eq, z_t0, z_t1, z_l100, z_l9, z_l8, z_l2, z_l20, z_l1000, z_lm1000, z_l2000, z_lm1] at *; omega, rfl, rfl, rfl⟩))
    · refine x_ldc (pc := 27) (v := (-3000000)) d_Mo_node_27 i_Mo_79 ?_
      refine y_iret (pc := 29) d_Mo_node_29 rfl ?_
      first | exact Or.inl (⟨by simp only [zv_eq, Nat.reduceEqDiff, reduceIte, and_false, false_and, and_true, true_and, if_false, if_true, eq_self, z_lt, z_le, z_eq, z_t0, z_t1, z_l100, z_l9, z_l8, z_l2, z_l20, z_l1000, z_lm1000, z_l2000, z_lm1] at *; omega, rfl, rfl, rfl⟩) | exact Or.inr (Or.inl (⟨by simp only [zv_eq, Nat.reduceEqDiff, reduceIte, and_false, false_and, and_true, true_and, if_false, if_true, eq_self, z_lt, z_le, z_eq, z_t0, z_t1, z_l100, z_l9, z_l8, z_l2, z_l20, z_l1000, z_lm1000, z_l2000, z_lm1] at *; omega, rfl, rfl, rfl⟩)) | exact Or.inr (Or.inr (⟨by simp only [zv_eq, Nat.reduceEqDiff, reduceIte, and_false, false_and, and_true, true_and, if_false, if_true, eq_self, z_lt, z_le, z_eq, z_t0, z_t1, z_l100, z_l9, z_l8, z_l2, z_l20, z_l1000, z_lm1000, z_l2000, z_lm1] at *; omega, rfl, rfl, rfl⟩))
  · refine x_if_ne (pc := 12) (tgt := 18) d_Mo_node_12 (by decide) (fun h => absurd h (by decide)) (fun _ => ?_)
    refine x_ldc (pc := 15) (v := (-2000000)) d_Mo_node_15 i_Mo_78 ?_
    refine y_iret (pc := 17) d_Mo_node_17 rfl ?_
    first | exact Or.inl (⟨by simp only [zv_eq, Nat.reduceEqDiff, reduceIte, and_false, false_and, and_true, true_and, if_false, if_true, eq_self, z_lt, z_le, z_eq, z_t0, z_t1, z_l100, z_l9, z_l8, z_l2, z_l20, z_l1000, z_lm1000, z_l2000, z_lm1] at *; omega, rfl, rfl, rfl⟩) | exact Or.inr (Or.inl (⟨by simp only [zv_eq, Nat.reduceEqDiff, reduceIte, and_false, false_and, and_true, true_and, if_false, if_true, eq_self, z_lt, z_le, z_eq, z_t0, z_t1, z_l100, z_l9, z_l8, z_l2, z_l20, z_l1000, z_lm1000, z_l2000, z_lm1] at *; omega, rfl, rfl, rfl⟩)) | exact Or.inr (Or.inr (⟨by simp only [zv_eq, Nat.reduceEqDiff, reduceIte, and_false, false_and, and_true, true_and, if_false, if_true, eq_self, z_lt, z_le, z_eq, z_t0, z_t1, z_l100, z_l9, z_l8, z_l2, z_l20, z_l1000, z_lm1000, z_l2000, z_lm1] at *; omega, rfl, rfl, rfl⟩))
set_option maxRecDepth 100000 in
set_option maxHeartbeats 4000000 in
theorem c_Mo_arc (V A : zV) (a b c : Int32) (n : Nat) (hn : V 36 1 = nI n) (h1 : 1 ≤ n) (h9 : n ≤ 9) : CQ Y_Mo_arc 3 [.ref 36, .int a, .int b, .int c] V A (fun r V' A' => (¬ (((0 ≤ a ∧ a < nI n) ∧ (0 ≤ b ∧ b < nI n) ∧ ¬ a = b) ∧ (-1000) ≤ c ∧ c ≤ 1000) ∧ r = (-2000000) ∧ V' = (zv V 36 0 0) ∧ A' = A) ∨ ((((0 ≤ a ∧ a < nI n) ∧ (0 ≤ b ∧ b < nI n) ∧ ¬ a = b) ∧ (-1000) ≤ c ∧ c ≤ 1000) ∧ r = (if A 38 (9 * a + b).toNatClampNeg = 1000000 then (-1000000) else A 38 (9 * a + b).toNatClampNeg) ∧ V' = (zv (zv V 36 0 0) 36 13 0) ∧ A' = za A 38 (upd (A 38) (9 * a + b).toNatClampNeg c))) := by
  have hni : (nI n).toInt = (n : Int) := nI_toInt (by omega)
  have hni1 : (nI n - 1).toInt = (n : Int) - 1 := by rw [show (1 : Int32) = nI 1 from rfl, pk_sub h1, nI_toInt (by omega)]; omega
  refine CQ.of (lv := [.ref 36, .int a, .int b, .int c, zu]) k_Mo_arc.1 rfl (by decide) rfl rfl (Nat.le_of_ble_eq_true rfl) ?_
  refine x_aload_n (pc := 0) d_Mo_arc_0 rfl ?_
  refine x_iconst (pc := 1) (v := 0) d_Mo_arc_1 (by decide) ?_
  refine y_put (pc := 2) (j := 0) d_Mo_arc_2 f_Mo_1 rfl rfl (Nat.le_of_ble_eq_true rfl) rfl (Nat.le_of_ble_eq_true rfl) rfl rfl (fun _ => rfl) ?_
  refine x_aload_n (pc := 5) d_Mo_arc_5 rfl ?_
  refine x_iload_n (pc := 6) d_Mo_arc_6 rfl ?_
  refine x_iload_n (pc := 7) d_Mo_arc_7 rfl ?_
  refine y_bV (pc := 8) (c_Mo_noTwo _ _ _ _ n hn h1 h9) k_Mo_noTwo d_Mo_arc_8 m_Mo_84 (by decide) rfl rfl rfl rfl p_Mo_noTwo (K1 := fun q8 => ?_) (K0 := fun q8 => ?_)
  · refine x_if_ne (pc := 11) (tgt := 27) d_Mo_arc_11 (by decide) (fun _ => ?_) (fun h => absurd h (by decide))
    refine x_ldc (pc := 27) (v := (-2000000)) d_Mo_arc_27 i_Mo_78 ?_
    refine y_iret (pc := 29) d_Mo_arc_29 rfl ?_
    first | exact Or.inl (⟨by simp only [zv_eq, Nat.reduceEqDiff, reduceIte, and_false, false_and, and_true, true_and, if_false, if_true, eq_self, z_lt, z_le, z_eq, z_t0, z_t1, z_l100, z_l9, z_l8, z_l2, z_l20, z_l1000, z_lm1000, z_l2000, z_lm1] at *; omega, by first | rfl | (rw [if_pos (by assumption)]) | (rw [if_neg (by assumption)]) | simp_all, rfl, rfl⟩) | exact Or.inr (⟨by simp only [zv_eq, Nat.reduceEqDiff, reduceIte, and_false, false_and, and_true, true_and, if_false, if_true, eq_self, z_lt, z_le, z_eq, z_t0, z_t1, z_l100, z_l9, z_l8, z_l2, z_l20, z_l1000, z_lm1000, z_l2000, z_lm1] at *; omega, by first | rfl | (rw [if_pos (by assumption)]) | (rw [if_neg (by assumption)]) | simp_all, rfl, rfl⟩)
  · refine x_if_ne (pc := 11) (tgt := 27) d_Mo_arc_11 (by decide) (fun h => absurd h (by decide)) (fun _ => ?_)
    refine x_iload_n (pc := 14) d_Mo_arc_14 rfl ?_
    refine x_sipush (pc := 15) (v := (-1000)) d_Mo_arc_15 (by decide) ?_
    refine x_sipush (pc := 18) (v := 1000) d_Mo_arc_18 (by decide) ?_
    refine y_bS (pc := 21) (c_Mo_in _ _ _ _ _) k_Mo_in d_Mo_arc_21 m_Mo_70 (by decide) rfl p_Mo_in (K1 := fun q21 => ?_) (K0 := fun q21 => ?_)
    · refine x_if_ne (pc := 24) (tgt := 30) d_Mo_arc_24 (by decide) (fun _ => ?_) (fun h => absurd h (by decide))
      refine x_aload_n (pc := 30) d_Mo_arc_30 rfl ?_
      refine x_get (pc := 31) (j := 3) d_Mo_arc_31 f_Mo_20 rfl rfl (Nat.le_of_ble_eq_true rfl) rfl rfl rfl ?_
      refine x_bipush (pc := 34) (v := 9) d_Mo_arc_34 (by decide) ?_
      refine x_iload_n (pc := 36) d_Mo_arc_36 rfl ?_
      refine x_imul (pc := 37) d_Mo_arc_37 ?_
      refine x_iload_n (pc := 38) d_Mo_arc_38 rfl ?_
      refine x_iadd (pc := 39) d_Mo_arc_39 ?_
      refine x_iald (pc := 40) d_Mo_arc_40 rfl (by have hq := Classical.not_not.mp q8; exact z_ix' hq.1.1 hq.1.2 hq.2.1.1 hq.2.1.2 h9) ?_
      refine y_ist4 (pc := 41) d_Mo_arc_41 ?_
      refine x_aload_n (pc := 43) d_Mo_arc_43 rfl ?_
      refine x_get (pc := 44) (j := 3) d_Mo_arc_44 f_Mo_20 rfl rfl (Nat.le_of_ble_eq_true rfl) rfl rfl rfl ?_
      refine x_bipush (pc := 47) (v := 9) d_Mo_arc_47 (by decide) ?_
      refine x_iload_n (pc := 49) d_Mo_arc_49 rfl ?_
      refine x_imul (pc := 50) d_Mo_arc_50 ?_
      refine x_iload_n (pc := 51) d_Mo_arc_51 rfl ?_
      refine x_iadd (pc := 52) d_Mo_arc_52 ?_
      refine x_iload_n (pc := 53) d_Mo_arc_53 rfl ?_
      refine y_iast (pc := 54) d_Mo_arc_54 rfl (fun _ => rfl) (by have hq := Classical.not_not.mp q8; exact z_ix' hq.1.1 hq.1.2 hq.2.1.1 hq.2.1.2 h9) ?_
      refine x_aload_n (pc := 55) d_Mo_arc_55 rfl ?_
      refine x_iconst (pc := 56) (v := 0) d_Mo_arc_56 (by decide) ?_
      refine y_put (pc := 57) (j := 13) d_Mo_arc_57 f_Mo_80 rfl rfl (Nat.le_of_ble_eq_true rfl) rfl (Nat.le_of_ble_eq_true rfl) rfl rfl (fun _ => rfl) ?_
      refine x_iload (pc := 60) d_Mo_arc_60 rfl ?_
      refine x_ldc (pc := 62) (v := 1000000) d_Mo_arc_62 i_Mo_69 ?_
      refine x_icmp_ne (pc := 64) (tgt := 72) d_Mo_arc_64 (by decide) (fun h64 => ?_) (fun h64 => ?_)
      · refine x_iload (pc := 72) d_Mo_arc_72 rfl ?_
        refine y_iret (pc := 74) d_Mo_arc_74 rfl ?_
        first | exact Or.inl (⟨by simp only [zv_eq, Nat.reduceEqDiff, reduceIte, and_false, false_and, and_true, true_and, if_false, if_true, eq_self, z_lt, z_le, z_eq, z_t0, z_t1, z_l100, z_l9, z_l8, z_l2, z_l20, z_l1000, z_lm1000, z_l2000, z_lm1] at *; omega, by first | rfl | (rw [if_pos (by assumption)]) | (rw [if_neg (by assumption)]) | simp_all, rfl, rfl⟩) | exact Or.inr (⟨by simp only [zv_eq, Nat.reduceEqDiff, reduceIte, and_false, false_and, and_true, true_and, if_false, if_true, eq_self, z_lt, z_le, z_eq, z_t0, z_t1, z_l100, z_l9, z_l8, z_l2, z_l20, z_l1000, z_lm1000, z_l2000, z_lm1] at *; omega, by first | rfl | (rw [if_pos (by assumption)]) | (rw [if_neg (by assumption)]) | simp_all, rfl, rfl⟩)
      · refine x_ldc (pc := 67) (v := (-1000000)) d_Mo_arc_67 i_Mo_88 ?_
        refine x_goto (pc := 69) (tgt := 74) d_Mo_arc_69 (by decide) ?_
        refine y_iret (pc := 74) d_Mo_arc_74 rfl ?_
        first | exact Or.inl (⟨by simp only [zv_eq, Nat.reduceEqDiff, reduceIte, and_false, false_and, and_true, true_and, if_false, if_true, eq_self, z_lt, z_le, z_eq, z_t0, z_t1, z_l100, z_l9, z_l8, z_l2, z_l20, z_l1000, z_lm1000, z_l2000, z_lm1] at *; omega, by first | rfl | (rw [if_pos (by assumption)]) | (rw [if_neg (by assumption)]) | simp_all, rfl, rfl⟩) | exact Or.inr (⟨by simp only [zv_eq, Nat.reduceEqDiff, reduceIte, and_false, false_and, and_true, true_and, if_false, if_true, eq_self, z_lt, z_le, z_eq, z_t0, z_t1, z_l100, z_l9, z_l8, z_l2, z_l20, z_l1000, z_lm1000, z_l2000, z_lm1] at *; omega, by first | rfl | (rw [if_pos (by assumption)]) | (rw [if_neg (by assumption)]) | simp_all, rfl, rfl⟩)
    · refine x_if_ne (pc := 24) (tgt := 30) d_Mo_arc_24 (by decide) (fun h => absurd h (by decide)) (fun _ => ?_)
      refine x_ldc (pc := 27) (v := (-2000000)) d_Mo_arc_27 i_Mo_78 ?_
      refine y_iret (pc := 29) d_Mo_arc_29 rfl ?_
      first | exact Or.inl (⟨by simp only [zv_eq, Nat.reduceEqDiff, reduceIte, and_false, false_and, and_true, true_and, if_false, if_true, eq_self, z_lt, z_le, z_eq, z_t0, z_t1, z_l100, z_l9, z_l8, z_l2, z_l20, z_l1000, z_lm1000, z_l2000, z_lm1] at *; omega, by first | rfl | (rw [if_pos (by assumption)]) | (rw [if_neg (by assumption)]) | simp_all, rfl, rfl⟩) | exact Or.inr (⟨by simp only [zv_eq, Nat.reduceEqDiff, reduceIte, and_false, false_and, and_true, true_and, if_false, if_true, eq_self, z_lt, z_le, z_eq, z_t0, z_t1, z_l100, z_l9, z_l8, z_l2, z_l20, z_l1000, z_lm1000, z_l2000, z_lm1] at *; omega, by first | rfl | (rw [if_pos (by assumption)]) | (rw [if_neg (by assumption)]) | simp_all, rfl, rfl⟩)
set_option maxRecDepth 100000 in
set_option maxHeartbeats 4000000 in
theorem c_Mo_lose (V A : zV) (a b : Int32) (n : Nat) (hn : V 36 1 = nI n) (h1 : 1 ≤ n) (h9 : n ≤ 9) : CQ Y_Mo_lose 3 [.ref 36, .int a, .int b] V A (fun r V' A' => (¬ ((0 ≤ a ∧ a < nI n) ∧ (0 ≤ b ∧ b < nI n) ∧ ¬ a = b) ∧ r = (-2000000) ∧ V' = (zv V 36 0 0) ∧ A' = A) ∨ (((0 ≤ a ∧ a < nI n) ∧ (0 ≤ b ∧ b < nI n) ∧ ¬ a = b) ∧ r = (if A 38 (9 * a + b).toNatClampNeg = 1000000 then (-1000000) else A 38 (9 * a + b).toNatClampNeg) ∧ V' = (zv (zv V 36 0 0) 36 13 0) ∧ A' = za A 38 (upd (A 38) (9 * a + b).toNatClampNeg 1000000))) := by
  have hni : (nI n).toInt = (n : Int) := nI_toInt (by omega)
  have hni1 : (nI n - 1).toInt = (n : Int) - 1 := by rw [show (1 : Int32) = nI 1 from rfl, pk_sub h1, nI_toInt (by omega)]; omega
  refine CQ.of (lv := [.ref 36, .int a, .int b, zu]) k_Mo_lose.1 rfl (by decide) rfl rfl (Nat.le_of_ble_eq_true rfl) ?_
  refine x_aload_n (pc := 0) d_Mo_lose_0 rfl ?_
  refine x_iconst (pc := 1) (v := 0) d_Mo_lose_1 (by decide) ?_
  refine y_put (pc := 2) (j := 0) d_Mo_lose_2 f_Mo_1 rfl rfl (Nat.le_of_ble_eq_true rfl) rfl (Nat.le_of_ble_eq_true rfl) rfl rfl (fun _ => rfl) ?_
  refine x_aload_n (pc := 5) d_Mo_lose_5 rfl ?_
  refine x_iload_n (pc := 6) d_Mo_lose_6 rfl ?_
  refine x_iload_n (pc := 7) d_Mo_lose_7 rfl ?_
  refine y_bV (pc := 8) (c_Mo_noTwo _ _ _ _ n hn h1 h9) k_Mo_noTwo d_Mo_lose_8 m_Mo_84 (by decide) rfl rfl rfl rfl p_Mo_noTwo (K1 := fun q8 => ?_) (K0 := fun q8 => ?_)
  · refine x_if_eq (pc := 11) (tgt := 17) d_Mo_lose_11 (by decide) (fun h => absurd h (by decide)) (fun _ => ?_)
    refine x_ldc (pc := 14) (v := (-2000000)) d_Mo_lose_14 i_Mo_78 ?_
    refine y_iret (pc := 16) d_Mo_lose_16 rfl ?_
    first | exact Or.inl (⟨by simp only [zv_eq, Nat.reduceEqDiff, reduceIte, and_false, false_and, and_true, true_and, if_false, if_true, eq_self, z_lt, z_le, z_eq, z_t0, z_t1, z_l100, z_l9, z_l8, z_l2, z_l20, z_l1000, z_lm1000, z_l2000, z_lm1] at *; omega, by first | rfl | (rw [if_pos (by assumption)]) | (rw [if_neg (by assumption)]) | simp_all, rfl, rfl⟩) | exact Or.inr (⟨by simp only [zv_eq, Nat.reduceEqDiff, reduceIte, and_false, false_and, and_true, true_and, if_false, if_true, eq_self, z_lt, z_le, z_eq, z_t0, z_t1, z_l100, z_l9, z_l8, z_l2, z_l20, z_l1000, z_lm1000, z_l2000, z_lm1] at *; omega, by first | rfl | (rw [if_pos (by assumption)]) | (rw [if_neg (by assumption)]) | simp_all, rfl, rfl⟩)
  · refine x_if_eq (pc := 11) (tgt := 17) d_Mo_lose_11 (by decide) (fun _ => ?_) (fun h => absurd h (by decide))
    refine x_aload_n (pc := 17) d_Mo_lose_17 rfl ?_
    refine x_get (pc := 18) (j := 3) d_Mo_lose_18 f_Mo_20 rfl rfl (Nat.le_of_ble_eq_true rfl) rfl rfl rfl ?_
    refine x_bipush (pc := 21) (v := 9) d_Mo_lose_21 (by decide) ?_
    refine x_iload_n (pc := 23) d_Mo_lose_23 rfl ?_
    refine x_imul (pc := 24) d_Mo_lose_24 ?_
    refine x_iload_n (pc := 25) d_Mo_lose_25 rfl ?_
    refine x_iadd (pc := 26) d_Mo_lose_26 ?_
    refine x_iald (pc := 27) d_Mo_lose_27 rfl (by have hq := Classical.not_not.mp q8; exact z_ix' hq.1.1 hq.1.2 hq.2.1.1 hq.2.1.2 h9) ?_
    refine y_ist3 (pc := 28) d_Mo_lose_28 ?_
    refine x_aload_n (pc := 29) d_Mo_lose_29 rfl ?_
    refine x_get (pc := 30) (j := 3) d_Mo_lose_30 f_Mo_20 rfl rfl (Nat.le_of_ble_eq_true rfl) rfl rfl rfl ?_
    refine x_bipush (pc := 33) (v := 9) d_Mo_lose_33 (by decide) ?_
    refine x_iload_n (pc := 35) d_Mo_lose_35 rfl ?_
    refine x_imul (pc := 36) d_Mo_lose_36 ?_
    refine x_iload_n (pc := 37) d_Mo_lose_37 rfl ?_
    refine x_iadd (pc := 38) d_Mo_lose_38 ?_
    refine x_ldc (pc := 39) (v := 1000000) d_Mo_lose_39 i_Mo_69 ?_
    refine y_iast (pc := 41) d_Mo_lose_41 rfl (fun _ => rfl) (by have hq := Classical.not_not.mp q8; exact z_ix' hq.1.1 hq.1.2 hq.2.1.1 hq.2.1.2 h9) ?_
    refine x_aload_n (pc := 42) d_Mo_lose_42 rfl ?_
    refine x_iconst (pc := 43) (v := 0) d_Mo_lose_43 (by decide) ?_
    refine y_put (pc := 44) (j := 13) d_Mo_lose_44 f_Mo_80 rfl rfl (Nat.le_of_ble_eq_true rfl) rfl (Nat.le_of_ble_eq_true rfl) rfl rfl (fun _ => rfl) ?_
    refine x_iload_n (pc := 47) d_Mo_lose_47 rfl ?_
    refine x_ldc (pc := 48) (v := 1000000) d_Mo_lose_48 i_Mo_69 ?_
    refine x_icmp_ne (pc := 50) (tgt := 58) d_Mo_lose_50 (by decide) (fun h50 => ?_) (fun h50 => ?_)
    · refine x_iload_n (pc := 58) d_Mo_lose_58 rfl ?_
      refine y_iret (pc := 59) d_Mo_lose_59 rfl ?_
      first | exact Or.inl (⟨by simp only [zv_eq, Nat.reduceEqDiff, reduceIte, and_false, false_and, and_true, true_and, if_false, if_true, eq_self, z_lt, z_le, z_eq, z_t0, z_t1, z_l100, z_l9, z_l8, z_l2, z_l20, z_l1000, z_lm1000, z_l2000, z_lm1] at *; omega, by first | rfl | (rw [if_pos (by assumption)]) | (rw [if_neg (by assumption)]) | simp_all, rfl, rfl⟩) | exact Or.inr (⟨by simp only [zv_eq, Nat.reduceEqDiff, reduceIte, and_false, false_and, and_true, true_and, if_false, if_true, eq_self, z_lt, z_le, z_eq, z_t0, z_t1, z_l100, z_l9, z_l8, z_l2, z_l20, z_l1000, z_lm1000, z_l2000, z_lm1] at *; omega, by first | rfl | (rw [if_pos (by assumption)]) | (rw [if_neg (by assumption)]) | simp_all, rfl, rfl⟩)
    · refine x_ldc (pc := 53) (v := (-1000000)) d_Mo_lose_53 i_Mo_88 ?_
      refine x_goto (pc := 55) (tgt := 59) d_Mo_lose_55 (by decide) ?_
      refine y_iret (pc := 59) d_Mo_lose_59 rfl ?_
      first | exact Or.inl (⟨by simp only [zv_eq, Nat.reduceEqDiff, reduceIte, and_false, false_and, and_true, true_and, if_false, if_true, eq_self, z_lt, z_le, z_eq, z_t0, z_t1, z_l100, z_l9, z_l8, z_l2, z_l20, z_l1000, z_lm1000, z_l2000, z_lm1] at *; omega, by first | rfl | (rw [if_pos (by assumption)]) | (rw [if_neg (by assumption)]) | simp_all, rfl, rfl⟩) | exact Or.inr (⟨by simp only [zv_eq, Nat.reduceEqDiff, reduceIte, and_false, false_and, and_true, true_and, if_false, if_true, eq_self, z_lt, z_le, z_eq, z_t0, z_t1, z_l100, z_l9, z_l8, z_l2, z_l20, z_l1000, z_lm1000, z_l2000, z_lm1] at *; omega, by first | rfl | (rw [if_pos (by assumption)]) | (rw [if_neg (by assumption)]) | simp_all, rfl, rfl⟩)
set_option maxRecDepth 100000 in
set_option maxHeartbeats 4000000 in
theorem c_Mo_price (V A : zV) (v p : Int32) (n : Nat) (hn : V 36 1 = nI n) (h1 : 1 ≤ n) (h9 : n ≤ 9) : CQ Y_Mo_price 2 [.ref 36, .int v, .int p] V A (fun r V' A' => (¬ ((0 < v ∧ v < nI n) ∧ (-1) ≤ p ∧ p ≤ 2000) ∧ r = (-2000000) ∧ V' = (zv V 36 0 0) ∧ A' = A) ∨ (((0 < v ∧ v < nI n) ∧ (-1) ≤ p ∧ p ≤ 2000) ∧ r = A 39 v.toNatClampNeg ∧ V' = (zv (zv V 36 0 0) 36 13 0) ∧ A' = za A 39 (upd (A 39) v.toNatClampNeg p))) := by
  have hni : (nI n).toInt = (n : Int) := nI_toInt (by omega)
  have hni1 : (nI n - 1).toInt = (n : Int) - 1 := by rw [show (1 : Int32) = nI 1 from rfl, pk_sub h1, nI_toInt (by omega)]; omega
  refine CQ.of (lv := [.ref 36, .int v, .int p, zu]) k_Mo_price.1 rfl (by decide) rfl rfl (Nat.le_of_ble_eq_true rfl) ?_
  refine x_aload_n (pc := 0) d_Mo_price_0 rfl ?_
  refine x_iconst (pc := 1) (v := 0) d_Mo_price_1 (by decide) ?_
  refine y_put (pc := 2) (j := 0) d_Mo_price_2 f_Mo_1 rfl rfl (Nat.le_of_ble_eq_true rfl) rfl (Nat.le_of_ble_eq_true rfl) rfl rfl (fun _ => rfl) ?_
  refine x_aload_n (pc := 5) d_Mo_price_5 rfl ?_
  refine x_iload_n (pc := 6) d_Mo_price_6 rfl ?_
  refine y_bV (pc := 7) (c_Mo_noNode _ _ _ n hn h1 h9) k_Mo_noNode d_Mo_price_7 m_Mo_74 (by decide) rfl rfl rfl rfl p_Mo_noNode (K1 := fun q7 => ?_) (K0 := fun q7 => ?_)
  · refine x_if_ne (pc := 10) (tgt := 28) d_Mo_price_10 (by decide) (fun _ => ?_) (fun h => absurd h (by decide))
    refine x_ldc (pc := 28) (v := (-2000000)) d_Mo_price_28 i_Mo_78 ?_
    refine y_iret (pc := 30) d_Mo_price_30 rfl ?_
    first | exact Or.inl (⟨by simp only [zv_eq, Nat.reduceEqDiff, reduceIte, and_false, false_and, and_true, true_and, if_false, if_true, eq_self, z_lt, z_le, z_eq, z_t0, z_t1, z_l100, z_l9, z_l8, z_l2, z_l20, z_l1000, z_lm1000, z_l2000, z_lm1] at *; omega, by first | rfl | (rw [if_pos (by assumption)]) | (rw [if_neg (by assumption)]) | simp_all, rfl, rfl⟩) | exact Or.inr (⟨by simp only [zv_eq, Nat.reduceEqDiff, reduceIte, and_false, false_and, and_true, true_and, if_false, if_true, eq_self, z_lt, z_le, z_eq, z_t0, z_t1, z_l100, z_l9, z_l8, z_l2, z_l20, z_l1000, z_lm1000, z_l2000, z_lm1] at *; omega, by first | rfl | (rw [if_pos (by assumption)]) | (rw [if_neg (by assumption)]) | simp_all, rfl, rfl⟩)
  · refine x_if_ne (pc := 10) (tgt := 28) d_Mo_price_10 (by decide) (fun h => absurd h (by decide)) (fun _ => ?_)
    refine x_iload_n (pc := 13) d_Mo_price_13 rfl ?_
    refine x_if_eq (pc := 14) (tgt := 28) d_Mo_price_14 (by decide) (fun h14 => ?_) (fun h14 => ?_)
    · refine x_ldc (pc := 28) (v := (-2000000)) d_Mo_price_28 i_Mo_78 ?_
      refine y_iret (pc := 30) d_Mo_price_30 rfl ?_
      first | exact Or.inl (⟨by simp only [zv_eq, Nat.reduceEqDiff, reduceIte, and_false, false_and, and_true, true_and, if_false, if_true, eq_self, z_lt, z_le, z_eq, z_t0, z_t1, z_l100, z_l9, z_l8, z_l2, z_l20, z_l1000, z_lm1000, z_l2000, z_lm1] at *; omega, by first | rfl | (rw [if_pos (by assumption)]) | (rw [if_neg (by assumption)]) | simp_all, rfl, rfl⟩) | exact Or.inr (⟨by simp only [zv_eq, Nat.reduceEqDiff, reduceIte, and_false, false_and, and_true, true_and, if_false, if_true, eq_self, z_lt, z_le, z_eq, z_t0, z_t1, z_l100, z_l9, z_l8, z_l2, z_l20, z_l1000, z_lm1000, z_l2000, z_lm1] at *; omega, by first | rfl | (rw [if_pos (by assumption)]) | (rw [if_neg (by assumption)]) | simp_all, rfl, rfl⟩)
    · refine x_iload_n (pc := 17) d_Mo_price_17 rfl ?_
      refine x_iconst (pc := 18) (v := (-1)) d_Mo_price_18 (by decide) ?_
      refine x_sipush (pc := 19) (v := 2000) d_Mo_price_19 (by decide) ?_
      refine y_bS (pc := 22) (c_Mo_in _ _ _ _ _) k_Mo_in d_Mo_price_22 m_Mo_70 (by decide) rfl p_Mo_in (K1 := fun q22 => ?_) (K0 := fun q22 => ?_)
      · refine x_if_ne (pc := 25) (tgt := 31) d_Mo_price_25 (by decide) (fun _ => ?_) (fun h => absurd h (by decide))
        refine x_aload_n (pc := 31) d_Mo_price_31 rfl ?_
        refine x_get (pc := 32) (j := 4) d_Mo_price_32 f_Mo_23 rfl rfl (Nat.le_of_ble_eq_true rfl) rfl rfl rfl ?_
        refine x_iload_n (pc := 35) d_Mo_price_35 rfl ?_
        refine x_iald (pc := 36) d_Mo_price_36 rfl (by refine z_vin ?_ ?_ <;> simp only [zv_eq, Nat.reduceEqDiff, reduceIte, and_false, false_and, and_true, true_and, if_false, if_true, eq_self, z_lt, z_le, z_eq, z_t0, z_t1, z_l100, z_l9, z_l8, z_l2, z_l20, z_l1000, z_lm1000, z_l2000, z_lm1] at * <;> omega) ?_
        refine y_ist3 (pc := 37) d_Mo_price_37 ?_
        refine x_aload_n (pc := 38) d_Mo_price_38 rfl ?_
        refine x_get (pc := 39) (j := 4) d_Mo_price_39 f_Mo_23 rfl rfl (Nat.le_of_ble_eq_true rfl) rfl rfl rfl ?_
        refine x_iload_n (pc := 42) d_Mo_price_42 rfl ?_
        refine x_iload_n (pc := 43) d_Mo_price_43 rfl ?_
        refine y_iast (pc := 44) d_Mo_price_44 rfl (fun _ => rfl) (by refine z_vin ?_ ?_ <;> simp only [zv_eq, Nat.reduceEqDiff, reduceIte, and_false, false_and, and_true, true_and, if_false, if_true, eq_self, z_lt, z_le, z_eq, z_t0, z_t1, z_l100, z_l9, z_l8, z_l2, z_l20, z_l1000, z_lm1000, z_l2000, z_lm1] at * <;> omega) ?_
        refine x_aload_n (pc := 45) d_Mo_price_45 rfl ?_
        refine x_iconst (pc := 46) (v := 0) d_Mo_price_46 (by decide) ?_
        refine y_put (pc := 47) (j := 13) d_Mo_price_47 f_Mo_80 rfl rfl (Nat.le_of_ble_eq_true rfl) rfl (Nat.le_of_ble_eq_true rfl) rfl rfl (fun _ => rfl) ?_
        refine x_iload_n (pc := 50) d_Mo_price_50 rfl ?_
        refine y_iret (pc := 51) d_Mo_price_51 rfl ?_
        first | exact Or.inl (⟨by simp only [zv_eq, Nat.reduceEqDiff, reduceIte, and_false, false_and, and_true, true_and, if_false, if_true, eq_self, z_lt, z_le, z_eq, z_t0, z_t1, z_l100, z_l9, z_l8, z_l2, z_l20, z_l1000, z_lm1000, z_l2000, z_lm1] at *; omega, by first | rfl | (rw [if_pos (by assumption)]) | (rw [if_neg (by assumption)]) | simp_all, rfl, rfl⟩) | exact Or.inr (⟨by simp only [zv_eq, Nat.reduceEqDiff, reduceIte, and_false, false_and, and_true, true_and, if_false, if_true, eq_self, z_lt, z_le, z_eq, z_t0, z_t1, z_l100, z_l9, z_l8, z_l2, z_l20, z_l1000, z_lm1000, z_l2000, z_lm1] at *; omega, by first | rfl | (rw [if_pos (by assumption)]) | (rw [if_neg (by assumption)]) | simp_all, rfl, rfl⟩)
      · refine x_if_ne (pc := 25) (tgt := 31) d_Mo_price_25 (by decide) (fun h => absurd h (by decide)) (fun _ => ?_)
        refine x_ldc (pc := 28) (v := (-2000000)) d_Mo_price_28 i_Mo_78 ?_
        refine y_iret (pc := 30) d_Mo_price_30 rfl ?_
        first | exact Or.inl (⟨by simp only [zv_eq, Nat.reduceEqDiff, reduceIte, and_false, false_and, and_true, true_and, if_false, if_true, eq_self, z_lt, z_le, z_eq, z_t0, z_t1, z_l100, z_l9, z_l8, z_l2, z_l20, z_l1000, z_lm1000, z_l2000, z_lm1] at *; omega, by first | rfl | (rw [if_pos (by assumption)]) | (rw [if_neg (by assumption)]) | simp_all, rfl, rfl⟩) | exact Or.inr (⟨by simp only [zv_eq, Nat.reduceEqDiff, reduceIte, and_false, false_and, and_true, true_and, if_false, if_true, eq_self, z_lt, z_le, z_eq, z_t0, z_t1, z_l100, z_l9, z_l8, z_l2, z_l20, z_l1000, z_lm1000, z_l2000, z_lm1] at *; omega, by first | rfl | (rw [if_pos (by assumption)]) | (rw [if_neg (by assumption)]) | simp_all, rfl, rfl⟩)
set_option maxRecDepth 100000 in
set_option maxHeartbeats 4000000 in
theorem c_Mo_ahead (V A : zV) (a b on : Int32) (n : Nat) (hn : V 36 1 = nI n) (h1 : 1 ≤ n) (h9 : n ≤ 9) : CQ Y_Mo_ahead 3 [.ref 36, .int a, .int b, .int on] V A (fun r V' A' => (¬ (((0 ≤ a ∧ a < nI n) ∧ (0 ≤ b ∧ b < nI n) ∧ ¬ a = b) ∧ ¬ a = 0 ∧ ¬ b = 0) ∧ r = (-2000000) ∧ V' = (zv V 36 0 0) ∧ A' = A) ∨ ((((0 ≤ a ∧ a < nI n) ∧ (0 ≤ b ∧ b < nI n) ∧ ¬ a = b) ∧ ¬ a = 0 ∧ ¬ b = 0) ∧ r = (if A 40 (9 * a + b).toNatClampNeg = 0 then 0 else 1) ∧ V' = (zv (zv V 36 0 0) 36 13 0) ∧ A' = za A 40 (upd (A 40) (9 * a + b).toNatClampNeg (vp_nar .boolean on)))) := by
  have hni : (nI n).toInt = (n : Int) := nI_toInt (by omega)
  have hni1 : (nI n - 1).toInt = (n : Int) - 1 := by rw [show (1 : Int32) = nI 1 from rfl, pk_sub h1, nI_toInt (by omega)]; omega
  refine CQ.of (lv := [.ref 36, .int a, .int b, .int on, zu]) k_Mo_ahead.1 rfl (by decide) rfl rfl (Nat.le_of_ble_eq_true rfl) ?_
  refine x_aload_n (pc := 0) d_Mo_ahead_0 rfl ?_
  refine x_iconst (pc := 1) (v := 0) d_Mo_ahead_1 (by decide) ?_
  refine y_put (pc := 2) (j := 0) d_Mo_ahead_2 f_Mo_1 rfl rfl (Nat.le_of_ble_eq_true rfl) rfl (Nat.le_of_ble_eq_true rfl) rfl rfl (fun _ => rfl) ?_
  refine x_aload_n (pc := 5) d_Mo_ahead_5 rfl ?_
  refine x_iload_n (pc := 6) d_Mo_ahead_6 rfl ?_
  refine x_iload_n (pc := 7) d_Mo_ahead_7 rfl ?_
  refine y_bV (pc := 8) (c_Mo_noTwo _ _ _ _ n hn h1 h9) k_Mo_noTwo d_Mo_ahead_8 m_Mo_84 (by decide) rfl rfl rfl rfl p_Mo_noTwo (K1 := fun q8 => ?_) (K0 := fun q8 => ?_)
  · refine x_if_ne (pc := 11) (tgt := 22) d_Mo_ahead_11 (by decide) (fun _ => ?_) (fun h => absurd h (by decide))
    refine x_ldc (pc := 22) (v := (-2000000)) d_Mo_ahead_22 i_Mo_78 ?_
    refine y_iret (pc := 24) d_Mo_ahead_24 rfl ?_
    first | exact Or.inl (⟨by simp only [zv_eq, Nat.reduceEqDiff, reduceIte, and_false, false_and, and_true, true_and, if_false, if_true, eq_self, z_lt, z_le, z_eq, z_t0, z_t1, z_l100, z_l9, z_l8, z_l2, z_l20, z_l1000, z_lm1000, z_l2000, z_lm1] at *; omega, by first | rfl | (rw [if_pos (by assumption)]) | (rw [if_neg (by assumption)]) | simp_all, rfl, rfl⟩) | exact Or.inr (⟨by simp only [zv_eq, Nat.reduceEqDiff, reduceIte, and_false, false_and, and_true, true_and, if_false, if_true, eq_self, z_lt, z_le, z_eq, z_t0, z_t1, z_l100, z_l9, z_l8, z_l2, z_l20, z_l1000, z_lm1000, z_l2000, z_lm1] at *; omega, by first | rfl | (rw [if_pos (by assumption)]) | (rw [if_neg (by assumption)]) | simp_all, rfl, rfl⟩)
  · refine x_if_ne (pc := 11) (tgt := 22) d_Mo_ahead_11 (by decide) (fun h => absurd h (by decide)) (fun _ => ?_)
    refine x_iload_n (pc := 14) d_Mo_ahead_14 rfl ?_
    refine x_if_eq (pc := 15) (tgt := 22) d_Mo_ahead_15 (by decide) (fun h15 => ?_) (fun h15 => ?_)
    · refine x_ldc (pc := 22) (v := (-2000000)) d_Mo_ahead_22 i_Mo_78 ?_
      refine y_iret (pc := 24) d_Mo_ahead_24 rfl ?_
      first | exact Or.inl (⟨by simp only [zv_eq, Nat.reduceEqDiff, reduceIte, and_false, false_and, and_true, true_and, if_false, if_true, eq_self, z_lt, z_le, z_eq, z_t0, z_t1, z_l100, z_l9, z_l8, z_l2, z_l20, z_l1000, z_lm1000, z_l2000, z_lm1] at *; omega, by first | rfl | (rw [if_pos (by assumption)]) | (rw [if_neg (by assumption)]) | simp_all, rfl, rfl⟩) | exact Or.inr (⟨by simp only [zv_eq, Nat.reduceEqDiff, reduceIte, and_false, false_and, and_true, true_and, if_false, if_true, eq_self, z_lt, z_le, z_eq, z_t0, z_t1, z_l100, z_l9, z_l8, z_l2, z_l20, z_l1000, z_lm1000, z_l2000, z_lm1] at *; omega, by first | rfl | (rw [if_pos (by assumption)]) | (rw [if_neg (by assumption)]) | simp_all, rfl, rfl⟩)
    · refine x_iload_n (pc := 18) d_Mo_ahead_18 rfl ?_
      refine x_if_ne (pc := 19) (tgt := 25) d_Mo_ahead_19 (by decide) (fun h19 => ?_) (fun h19 => ?_)
      · refine x_aload_n (pc := 25) d_Mo_ahead_25 rfl ?_
        refine x_get (pc := 26) (j := 5) d_Mo_ahead_26 f_Mo_26 rfl rfl (Nat.le_of_ble_eq_true rfl) rfl rfl rfl ?_
        refine x_bipush (pc := 29) (v := 9) d_Mo_ahead_29 (by decide) ?_
        refine x_iload_n (pc := 31) d_Mo_ahead_31 rfl ?_
        refine x_imul (pc := 32) d_Mo_ahead_32 ?_
        refine x_iload_n (pc := 33) d_Mo_ahead_33 rfl ?_
        refine x_iadd (pc := 34) d_Mo_ahead_34 ?_
        refine x_zald (pc := 35) d_Mo_ahead_35 rfl (by have hq := Classical.not_not.mp q8; exact z_ix' hq.1.1 hq.1.2 hq.2.1.1 hq.2.1.2 h9) ?_
        refine y_ist4 (pc := 36) d_Mo_ahead_36 ?_
        refine x_aload_n (pc := 38) d_Mo_ahead_38 rfl ?_
        refine x_get (pc := 39) (j := 5) d_Mo_ahead_39 f_Mo_26 rfl rfl (Nat.le_of_ble_eq_true rfl) rfl rfl rfl ?_
        refine x_bipush (pc := 42) (v := 9) d_Mo_ahead_42 (by decide) ?_
        refine x_iload_n (pc := 44) d_Mo_ahead_44 rfl ?_
        refine x_imul (pc := 45) d_Mo_ahead_45 ?_
        refine x_iload_n (pc := 46) d_Mo_ahead_46 rfl ?_
        refine x_iadd (pc := 47) d_Mo_ahead_47 ?_
        refine x_iload_n (pc := 48) d_Mo_ahead_48 rfl ?_
        refine y_zast (pc := 49) d_Mo_ahead_49 rfl (fun _ => rfl) (by have hq := Classical.not_not.mp q8; exact z_ix' hq.1.1 hq.1.2 hq.2.1.1 hq.2.1.2 h9) ?_
        refine x_aload_n (pc := 50) d_Mo_ahead_50 rfl ?_
        refine x_iconst (pc := 51) (v := 0) d_Mo_ahead_51 (by decide) ?_
        refine y_put (pc := 52) (j := 13) d_Mo_ahead_52 f_Mo_80 rfl rfl (Nat.le_of_ble_eq_true rfl) rfl (Nat.le_of_ble_eq_true rfl) rfl rfl (fun _ => rfl) ?_
        refine x_iload (pc := 55) d_Mo_ahead_55 rfl ?_
        refine x_if_eq (pc := 57) (tgt := 64) d_Mo_ahead_57 (by decide) (fun h57 => ?_) (fun h57 => ?_)
        · refine x_iconst (pc := 64) (v := 0) d_Mo_ahead_64 (by decide) ?_
          refine y_iret (pc := 65) d_Mo_ahead_65 rfl ?_
          first | exact Or.inl (⟨by simp only [zv_eq, Nat.reduceEqDiff, reduceIte, and_false, false_and, and_true, true_and, if_false, if_true, eq_self, z_lt, z_le, z_eq, z_t0, z_t1, z_l100, z_l9, z_l8, z_l2, z_l20, z_l1000, z_lm1000, z_l2000, z_lm1] at *; omega, by first | rfl | (rw [if_pos (by assumption)]) | (rw [if_neg (by assumption)]) | simp_all, rfl, rfl⟩) | exact Or.inr (⟨by simp only [zv_eq, Nat.reduceEqDiff, reduceIte, and_false, false_and, and_true, true_and, if_false, if_true, eq_self, z_lt, z_le, z_eq, z_t0, z_t1, z_l100, z_l9, z_l8, z_l2, z_l20, z_l1000, z_lm1000, z_l2000, z_lm1] at *; omega, by first | rfl | (rw [if_pos (by assumption)]) | (rw [if_neg (by assumption)]) | simp_all, rfl, rfl⟩)
        · refine x_iconst (pc := 60) (v := 1) d_Mo_ahead_60 (by decide) ?_
          refine x_goto (pc := 61) (tgt := 65) d_Mo_ahead_61 (by decide) ?_
          refine y_iret (pc := 65) d_Mo_ahead_65 rfl ?_
          first | exact Or.inl (⟨by simp only [zv_eq, Nat.reduceEqDiff, reduceIte, and_false, false_and, and_true, true_and, if_false, if_true, eq_self, z_lt, z_le, z_eq, z_t0, z_t1, z_l100, z_l9, z_l8, z_l2, z_l20, z_l1000, z_lm1000, z_l2000, z_lm1] at *; omega, by first | rfl | (rw [if_pos (by assumption)]) | (rw [if_neg (by assumption)]) | simp_all, rfl, rfl⟩) | exact Or.inr (⟨by simp only [zv_eq, Nat.reduceEqDiff, reduceIte, and_false, false_and, and_true, true_and, if_false, if_true, eq_self, z_lt, z_le, z_eq, z_t0, z_t1, z_l100, z_l9, z_l8, z_l2, z_l20, z_l1000, z_lm1000, z_l2000, z_lm1] at *; omega, by first | rfl | (rw [if_pos (by assumption)]) | (rw [if_neg (by assumption)]) | simp_all, rfl, rfl⟩)
      · refine x_ldc (pc := 22) (v := (-2000000)) d_Mo_ahead_22 i_Mo_78 ?_
        refine y_iret (pc := 24) d_Mo_ahead_24 rfl ?_
        first | exact Or.inl (⟨by simp only [zv_eq, Nat.reduceEqDiff, reduceIte, and_false, false_and, and_true, true_and, if_false, if_true, eq_self, z_lt, z_le, z_eq, z_t0, z_t1, z_l100, z_l9, z_l8, z_l2, z_l20, z_l1000, z_lm1000, z_l2000, z_lm1] at *; omega, by first | rfl | (rw [if_pos (by assumption)]) | (rw [if_neg (by assumption)]) | simp_all, rfl, rfl⟩) | exact Or.inr (⟨by simp only [zv_eq, Nat.reduceEqDiff, reduceIte, and_false, false_and, and_true, true_and, if_false, if_true, eq_self, z_lt, z_le, z_eq, z_t0, z_t1, z_l100, z_l9, z_l8, z_l2, z_l20, z_l1000, z_lm1000, z_l2000, z_lm1] at *; omega, by first | rfl | (rw [if_pos (by assumption)]) | (rw [if_neg (by assumption)]) | simp_all, rfl, rfl⟩)
set_option maxRecDepth 100000 in
set_option maxHeartbeats 4000000 in
theorem c_Mo_weight (V A : zV) (v w : Int32) (n : Nat) (hn : V 36 1 = nI n) (h1 : 1 ≤ n) (h9 : n ≤ 9) : CQ Y_Mo_weight 2 [.ref 36, .int v, .int w] V A (fun r V' A' => (¬ ((0 ≤ v ∧ v < nI n) ∧ (-1000) ≤ w ∧ w ≤ 1000) ∧ r = (-2000000) ∧ V' = (zv V 36 0 0) ∧ A' = A) ∨ (((0 ≤ v ∧ v < nI n) ∧ (-1000) ≤ w ∧ w ≤ 1000) ∧ r = A 41 v.toNatClampNeg ∧ V' = (zv V 36 0 0) ∧ A' = za A 41 (upd (A 41) v.toNatClampNeg w))) := by
  have hni : (nI n).toInt = (n : Int) := nI_toInt (by omega)
  have hni1 : (nI n - 1).toInt = (n : Int) - 1 := by rw [show (1 : Int32) = nI 1 from rfl, pk_sub h1, nI_toInt (by omega)]; omega
  refine CQ.of (lv := [.ref 36, .int v, .int w, zu]) k_Mo_weight.1 rfl (by decide) rfl rfl (Nat.le_of_ble_eq_true rfl) ?_
  refine x_aload_n (pc := 0) d_Mo_weight_0 rfl ?_
  refine x_iconst (pc := 1) (v := 0) d_Mo_weight_1 (by decide) ?_
  refine y_put (pc := 2) (j := 0) d_Mo_weight_2 f_Mo_1 rfl rfl (Nat.le_of_ble_eq_true rfl) rfl (Nat.le_of_ble_eq_true rfl) rfl rfl (fun _ => rfl) ?_
  refine x_aload_n (pc := 5) d_Mo_weight_5 rfl ?_
  refine x_iload_n (pc := 6) d_Mo_weight_6 rfl ?_
  refine y_bV (pc := 7) (c_Mo_noNode _ _ _ n hn h1 h9) k_Mo_noNode d_Mo_weight_7 m_Mo_74 (by decide) rfl rfl rfl rfl p_Mo_noNode (K1 := fun q7 => ?_) (K0 := fun q7 => ?_)
  · refine x_if_ne (pc := 10) (tgt := 26) d_Mo_weight_10 (by decide) (fun _ => ?_) (fun h => absurd h (by decide))
    refine x_ldc (pc := 26) (v := (-2000000)) d_Mo_weight_26 i_Mo_78 ?_
    refine y_iret (pc := 28) d_Mo_weight_28 rfl ?_
    first | exact Or.inl (⟨by simp only [zv_eq, Nat.reduceEqDiff, reduceIte, and_false, false_and, and_true, true_and, if_false, if_true, eq_self, z_lt, z_le, z_eq, z_t0, z_t1, z_l100, z_l9, z_l8, z_l2, z_l20, z_l1000, z_lm1000, z_l2000, z_lm1] at *; omega, by first | rfl | (rw [if_pos (by assumption)]) | (rw [if_neg (by assumption)]) | simp_all, rfl, rfl⟩) | exact Or.inr (⟨by simp only [zv_eq, Nat.reduceEqDiff, reduceIte, and_false, false_and, and_true, true_and, if_false, if_true, eq_self, z_lt, z_le, z_eq, z_t0, z_t1, z_l100, z_l9, z_l8, z_l2, z_l20, z_l1000, z_lm1000, z_l2000, z_lm1] at *; omega, by first | rfl | (rw [if_pos (by assumption)]) | (rw [if_neg (by assumption)]) | simp_all, rfl, rfl⟩)
  · refine x_if_ne (pc := 10) (tgt := 26) d_Mo_weight_10 (by decide) (fun h => absurd h (by decide)) (fun _ => ?_)
    refine x_iload_n (pc := 13) d_Mo_weight_13 rfl ?_
    refine x_sipush (pc := 14) (v := (-1000)) d_Mo_weight_14 (by decide) ?_
    refine x_sipush (pc := 17) (v := 1000) d_Mo_weight_17 (by decide) ?_
    refine y_bS (pc := 20) (c_Mo_in _ _ _ _ _) k_Mo_in d_Mo_weight_20 m_Mo_70 (by decide) rfl p_Mo_in (K1 := fun q20 => ?_) (K0 := fun q20 => ?_)
    · refine x_if_ne (pc := 23) (tgt := 29) d_Mo_weight_23 (by decide) (fun _ => ?_) (fun h => absurd h (by decide))
      refine x_aload_n (pc := 29) d_Mo_weight_29 rfl ?_
      refine x_get (pc := 30) (j := 9) d_Mo_weight_30 f_Mo_36 rfl rfl (Nat.le_of_ble_eq_true rfl) rfl rfl rfl ?_
      refine x_iload_n (pc := 33) d_Mo_weight_33 rfl ?_
      refine x_iald (pc := 34) d_Mo_weight_34 rfl (by refine z_vin ?_ ?_ <;> simp only [zv_eq, Nat.reduceEqDiff, reduceIte, and_false, false_and, and_true, true_and, if_false, if_true, eq_self, z_lt, z_le, z_eq, z_t0, z_t1, z_l100, z_l9, z_l8, z_l2, z_l20, z_l1000, z_lm1000, z_l2000, z_lm1] at * <;> omega) ?_
      refine y_ist3 (pc := 35) d_Mo_weight_35 ?_
      refine x_aload_n (pc := 36) d_Mo_weight_36 rfl ?_
      refine x_get (pc := 37) (j := 9) d_Mo_weight_37 f_Mo_36 rfl rfl (Nat.le_of_ble_eq_true rfl) rfl rfl rfl ?_
      refine x_iload_n (pc := 40) d_Mo_weight_40 rfl ?_
      refine x_iload_n (pc := 41) d_Mo_weight_41 rfl ?_
      refine y_iast (pc := 42) d_Mo_weight_42 rfl (fun _ => rfl) (by refine z_vin ?_ ?_ <;> simp only [zv_eq, Nat.reduceEqDiff, reduceIte, and_false, false_and, and_true, true_and, if_false, if_true, eq_self, z_lt, z_le, z_eq, z_t0, z_t1, z_l100, z_l9, z_l8, z_l2, z_l20, z_l1000, z_lm1000, z_l2000, z_lm1] at * <;> omega) ?_
      refine x_iload_n (pc := 43) d_Mo_weight_43 rfl ?_
      refine y_iret (pc := 44) d_Mo_weight_44 rfl ?_
      first | exact Or.inl (⟨by simp only [zv_eq, Nat.reduceEqDiff, reduceIte, and_false, false_and, and_true, true_and, if_false, if_true, eq_self, z_lt, z_le, z_eq, z_t0, z_t1, z_l100, z_l9, z_l8, z_l2, z_l20, z_l1000, z_lm1000, z_l2000, z_lm1] at *; omega, by first | rfl | (rw [if_pos (by assumption)]) | (rw [if_neg (by assumption)]) | simp_all, rfl, rfl⟩) | exact Or.inr (⟨by simp only [zv_eq, Nat.reduceEqDiff, reduceIte, and_false, false_and, and_true, true_and, if_false, if_true, eq_self, z_lt, z_le, z_eq, z_t0, z_t1, z_l100, z_l9, z_l8, z_l2, z_l20, z_l1000, z_lm1000, z_l2000, z_lm1] at *; omega, by first | rfl | (rw [if_pos (by assumption)]) | (rw [if_neg (by assumption)]) | simp_all, rfl, rfl⟩)
    · refine x_if_ne (pc := 23) (tgt := 29) d_Mo_weight_23 (by decide) (fun h => absurd h (by decide)) (fun _ => ?_)
      refine x_ldc (pc := 26) (v := (-2000000)) d_Mo_weight_26 i_Mo_78 ?_
      refine y_iret (pc := 28) d_Mo_weight_28 rfl ?_
      first | exact Or.inl (⟨by simp only [zv_eq, Nat.reduceEqDiff, reduceIte, and_false, false_and, and_true, true_and, if_false, if_true, eq_self, z_lt, z_le, z_eq, z_t0, z_t1, z_l100, z_l9, z_l8, z_l2, z_l20, z_l1000, z_lm1000, z_l2000, z_lm1] at *; omega, by first | rfl | (rw [if_pos (by assumption)]) | (rw [if_neg (by assumption)]) | simp_all, rfl, rfl⟩) | exact Or.inr (⟨by simp only [zv_eq, Nat.reduceEqDiff, reduceIte, and_false, false_and, and_true, true_and, if_false, if_true, eq_self, z_lt, z_le, z_eq, z_t0, z_t1, z_l100, z_l9, z_l8, z_l2, z_l20, z_l1000, z_lm1000, z_l2000, z_lm1] at *; omega, by first | rfl | (rw [if_pos (by assumption)]) | (rw [if_neg (by assumption)]) | simp_all, rfl, rfl⟩)
set_option maxRecDepth 100000 in
set_option maxHeartbeats 4000000 in
theorem c_Mo_next (V A : zV) (a b : Int32) (n : Nat) (hn : V 36 1 = nI n) (h1 : 1 ≤ n) (h9 : n ≤ 9) : CQ Y_Mo_next 2 [.ref 36, .int a, .int b] V A (fun r V' A' => (¬ ((0 ≤ a ∧ a < nI n) ∧ ¬ a = b ∧ (b = (-1) ∨ (0 ≤ b ∧ b < nI n))) ∧ r = (-2000000) ∧ V' = (zv V 36 0 0) ∧ A' = A) ∨ (((0 ≤ a ∧ a < nI n) ∧ ¬ a = b ∧ (b = (-1) ∨ (0 ≤ b ∧ b < nI n))) ∧ r = A 42 a.toNatClampNeg ∧ V' = (zv V 36 0 0) ∧ A' = za A 42 (upd (A 42) a.toNatClampNeg b))) := by
  have hni : (nI n).toInt = (n : Int) := nI_toInt (by omega)
  have hni1 : (nI n - 1).toInt = (n : Int) - 1 := by rw [show (1 : Int32) = nI 1 from rfl, pk_sub h1, nI_toInt (by omega)]; omega
  refine CQ.of (lv := [.ref 36, .int a, .int b, zu]) k_Mo_next.1 rfl (by decide) rfl rfl (Nat.le_of_ble_eq_true rfl) ?_
  refine x_aload_n (pc := 0) d_Mo_next_0 rfl ?_
  refine x_iconst (pc := 1) (v := 0) d_Mo_next_1 (by decide) ?_
  refine y_put (pc := 2) (j := 0) d_Mo_next_2 f_Mo_1 rfl rfl (Nat.le_of_ble_eq_true rfl) rfl (Nat.le_of_ble_eq_true rfl) rfl rfl (fun _ => rfl) ?_
  refine x_aload_n (pc := 5) d_Mo_next_5 rfl ?_
  refine x_iload_n (pc := 6) d_Mo_next_6 rfl ?_
  refine y_bV (pc := 7) (c_Mo_noNode _ _ _ n hn h1 h9) k_Mo_noNode d_Mo_next_7 m_Mo_74 (by decide) rfl rfl rfl rfl p_Mo_noNode (K1 := fun q7 => ?_) (K0 := fun q7 => ?_)
  · refine x_if_ne (pc := 10) (tgt := 31) d_Mo_next_10 (by decide) (fun _ => ?_) (fun h => absurd h (by decide))
    refine x_ldc (pc := 31) (v := (-2000000)) d_Mo_next_31 i_Mo_78 ?_
    refine y_iret (pc := 33) d_Mo_next_33 rfl ?_
    first | exact Or.inl (⟨by simp only [zv_eq, Nat.reduceEqDiff, reduceIte, and_false, false_and, and_true, true_and, if_false, if_true, eq_self, z_lt, z_le, z_eq, z_t0, z_t1, z_l100, z_l9, z_l8, z_l2, z_l20, z_l1000, z_lm1000, z_l2000, z_lm1] at *; omega, by first | rfl | (rw [if_pos (by assumption)]) | (rw [if_neg (by assumption)]) | simp_all, rfl, rfl⟩) | exact Or.inr (⟨by simp only [zv_eq, Nat.reduceEqDiff, reduceIte, and_false, false_and, and_true, true_and, if_false, if_true, eq_self, z_lt, z_le, z_eq, z_t0, z_t1, z_l100, z_l9, z_l8, z_l2, z_l20, z_l1000, z_lm1000, z_l2000, z_lm1] at *; omega, by first | rfl | (rw [if_pos (by assumption)]) | (rw [if_neg (by assumption)]) | simp_all, rfl, rfl⟩)
  · refine x_if_ne (pc := 10) (tgt := 31) d_Mo_next_10 (by decide) (fun h => absurd h (by decide)) (fun _ => ?_)
    refine x_iload_n (pc := 13) d_Mo_next_13 rfl ?_
    refine x_iconst (pc := 14) (v := (-1)) d_Mo_next_14 (by decide) ?_
    refine x_icmp_eq (pc := 15) (tgt := 26) d_Mo_next_15 (by decide) (fun h15 => ?_) (fun h15 => ?_)
    · refine x_iload_n (pc := 26) d_Mo_next_26 rfl ?_
      refine x_iload_n (pc := 27) d_Mo_next_27 rfl ?_
      refine x_icmp_ne (pc := 28) (tgt := 34) d_Mo_next_28 (by decide) (fun h28 => ?_) (fun h28 => ?_)
      · refine x_aload_n (pc := 34) d_Mo_next_34 rfl ?_
        refine x_get (pc := 35) (j := 10) d_Mo_next_35 f_Mo_39 rfl rfl (Nat.le_of_ble_eq_true rfl) rfl rfl rfl ?_
        refine x_iload_n (pc := 38) d_Mo_next_38 rfl ?_
        refine x_iald (pc := 39) d_Mo_next_39 rfl (by refine z_vin ?_ ?_ <;> simp only [zv_eq, Nat.reduceEqDiff, reduceIte, and_false, false_and, and_true, true_and, if_false, if_true, eq_self, z_lt, z_le, z_eq, z_t0, z_t1, z_l100, z_l9, z_l8, z_l2, z_l20, z_l1000, z_lm1000, z_l2000, z_lm1] at * <;> omega) ?_
        refine y_ist3 (pc := 40) d_Mo_next_40 ?_
        refine x_aload_n (pc := 41) d_Mo_next_41 rfl ?_
        refine x_get (pc := 42) (j := 10) d_Mo_next_42 f_Mo_39 rfl rfl (Nat.le_of_ble_eq_true rfl) rfl rfl rfl ?_
        refine x_iload_n (pc := 45) d_Mo_next_45 rfl ?_
        refine x_iload_n (pc := 46) d_Mo_next_46 rfl ?_
        refine y_iast (pc := 47) d_Mo_next_47 rfl (fun _ => rfl) (by refine z_vin ?_ ?_ <;> simp only [zv_eq, Nat.reduceEqDiff, reduceIte, and_false, false_and, and_true, true_and, if_false, if_true, eq_self, z_lt, z_le, z_eq, z_t0, z_t1, z_l100, z_l9, z_l8, z_l2, z_l20, z_l1000, z_lm1000, z_l2000, z_lm1] at * <;> omega) ?_
        refine x_iload_n (pc := 48) d_Mo_next_48 rfl ?_
        refine y_iret (pc := 49) d_Mo_next_49 rfl ?_
        first | exact Or.inl (⟨by simp only [zv_eq, Nat.reduceEqDiff, reduceIte, and_false, false_and, and_true, true_and, if_false, if_true, eq_self, z_lt, z_le, z_eq, z_t0, z_t1, z_l100, z_l9, z_l8, z_l2, z_l20, z_l1000, z_lm1000, z_l2000, z_lm1] at *; omega, by first | rfl | (rw [if_pos (by assumption)]) | (rw [if_neg (by assumption)]) | simp_all, rfl, rfl⟩) | exact Or.inr (⟨by simp only [zv_eq, Nat.reduceEqDiff, reduceIte, and_false, false_and, and_true, true_and, if_false, if_true, eq_self, z_lt, z_le, z_eq, z_t0, z_t1, z_l100, z_l9, z_l8, z_l2, z_l20, z_l1000, z_lm1000, z_l2000, z_lm1] at *; omega, by first | rfl | (rw [if_pos (by assumption)]) | (rw [if_neg (by assumption)]) | simp_all, rfl, rfl⟩)
      · refine x_ldc (pc := 31) (v := (-2000000)) d_Mo_next_31 i_Mo_78 ?_
        refine y_iret (pc := 33) d_Mo_next_33 rfl ?_
        first | exact Or.inl (⟨by simp only [zv_eq, Nat.reduceEqDiff, reduceIte, and_false, false_and, and_true, true_and, if_false, if_true, eq_self, z_lt, z_le, z_eq, z_t0, z_t1, z_l100, z_l9, z_l8, z_l2, z_l20, z_l1000, z_lm1000, z_l2000, z_lm1] at *; omega, by first | rfl | (rw [if_pos (by assumption)]) | (rw [if_neg (by assumption)]) | simp_all, rfl, rfl⟩) | exact Or.inr (⟨by simp only [zv_eq, Nat.reduceEqDiff, reduceIte, and_false, false_and, and_true, true_and, if_false, if_true, eq_self, z_lt, z_le, z_eq, z_t0, z_t1, z_l100, z_l9, z_l8, z_l2, z_l20, z_l1000, z_lm1000, z_l2000, z_lm1] at *; omega, by first | rfl | (rw [if_pos (by assumption)]) | (rw [if_neg (by assumption)]) | simp_all, rfl, rfl⟩)
    · refine x_aload_n (pc := 18) d_Mo_next_18 rfl ?_
      refine x_iload_n (pc := 19) d_Mo_next_19 rfl ?_
      refine y_bV (pc := 20) (c_Mo_noNode _ _ _ n hn h1 h9) k_Mo_noNode d_Mo_next_20 m_Mo_74 (by decide) rfl rfl rfl rfl p_Mo_noNode (K1 := fun q20 => ?_) (K0 := fun q20 => ?_)
      · refine x_if_ne (pc := 23) (tgt := 31) d_Mo_next_23 (by decide) (fun _ => ?_) (fun h => absurd h (by decide))
        refine x_ldc (pc := 31) (v := (-2000000)) d_Mo_next_31 i_Mo_78 ?_
        refine y_iret (pc := 33) d_Mo_next_33 rfl ?_
        first | exact Or.inl (⟨by simp only [zv_eq, Nat.reduceEqDiff, reduceIte, and_false, false_and, and_true, true_and, if_false, if_true, eq_self, z_lt, z_le, z_eq, z_t0, z_t1, z_l100, z_l9, z_l8, z_l2, z_l20, z_l1000, z_lm1000, z_l2000, z_lm1] at *; omega, by first | rfl | (rw [if_pos (by assumption)]) | (rw [if_neg (by assumption)]) | simp_all, rfl, rfl⟩) | exact Or.inr (⟨by simp only [zv_eq, Nat.reduceEqDiff, reduceIte, and_false, false_and, and_true, true_and, if_false, if_true, eq_self, z_lt, z_le, z_eq, z_t0, z_t1, z_l100, z_l9, z_l8, z_l2, z_l20, z_l1000, z_lm1000, z_l2000, z_lm1] at *; omega, by first | rfl | (rw [if_pos (by assumption)]) | (rw [if_neg (by assumption)]) | simp_all, rfl, rfl⟩)
      · refine x_if_ne (pc := 23) (tgt := 31) d_Mo_next_23 (by decide) (fun h => absurd h (by decide)) (fun _ => ?_)
        refine x_iload_n (pc := 26) d_Mo_next_26 rfl ?_
        refine x_iload_n (pc := 27) d_Mo_next_27 rfl ?_
        refine x_icmp_ne (pc := 28) (tgt := 34) d_Mo_next_28 (by decide) (fun h28 => ?_) (fun h28 => ?_)
        · refine x_aload_n (pc := 34) d_Mo_next_34 rfl ?_
          refine x_get (pc := 35) (j := 10) d_Mo_next_35 f_Mo_39 rfl rfl (Nat.le_of_ble_eq_true rfl) rfl rfl rfl ?_
          refine x_iload_n (pc := 38) d_Mo_next_38 rfl ?_
          refine x_iald (pc := 39) d_Mo_next_39 rfl (by refine z_vin ?_ ?_ <;> simp only [zv_eq, Nat.reduceEqDiff, reduceIte, and_false, false_and, and_true, true_and, if_false, if_true, eq_self, z_lt, z_le, z_eq, z_t0, z_t1, z_l100, z_l9, z_l8, z_l2, z_l20, z_l1000, z_lm1000, z_l2000, z_lm1] at * <;> omega) ?_
          refine y_ist3 (pc := 40) d_Mo_next_40 ?_
          refine x_aload_n (pc := 41) d_Mo_next_41 rfl ?_
          refine x_get (pc := 42) (j := 10) d_Mo_next_42 f_Mo_39 rfl rfl (Nat.le_of_ble_eq_true rfl) rfl rfl rfl ?_
          refine x_iload_n (pc := 45) d_Mo_next_45 rfl ?_
          refine x_iload_n (pc := 46) d_Mo_next_46 rfl ?_
          refine y_iast (pc := 47) d_Mo_next_47 rfl (fun _ => rfl) (by refine z_vin ?_ ?_ <;> simp only [zv_eq, Nat.reduceEqDiff, reduceIte, and_false, false_and, and_true, true_and, if_false, if_true, eq_self, z_lt, z_le, z_eq, z_t0, z_t1, z_l100, z_l9, z_l8, z_l2, z_l20, z_l1000, z_lm1000, z_l2000, z_lm1] at * <;> omega) ?_
          refine x_iload_n (pc := 48) d_Mo_next_48 rfl ?_
          refine y_iret (pc := 49) d_Mo_next_49 rfl ?_
          first | exact Or.inl (⟨by simp only [zv_eq, Nat.reduceEqDiff, reduceIte, and_false, false_and, and_true, true_and, if_false, if_true, eq_self, z_lt, z_le, z_eq, z_t0, z_t1, z_l100, z_l9, z_l8, z_l2, z_l20, z_l1000, z_lm1000, z_l2000, z_lm1] at *; omega, by first | rfl | (rw [if_pos (by assumption)]) | (rw [if_neg (by assumption)]) | simp_all, rfl, rfl⟩) | exact Or.inr (⟨by simp only [zv_eq, Nat.reduceEqDiff, reduceIte, and_false, false_and, and_true, true_and, if_false, if_true, eq_self, z_lt, z_le, z_eq, z_t0, z_t1, z_l100, z_l9, z_l8, z_l2, z_l20, z_l1000, z_lm1000, z_l2000, z_lm1] at *; omega, by first | rfl | (rw [if_pos (by assumption)]) | (rw [if_neg (by assumption)]) | simp_all, rfl, rfl⟩)
        · refine x_ldc (pc := 31) (v := (-2000000)) d_Mo_next_31 i_Mo_78 ?_
          refine y_iret (pc := 33) d_Mo_next_33 rfl ?_
          first | exact Or.inl (⟨by simp only [zv_eq, Nat.reduceEqDiff, reduceIte, and_false, false_and, and_true, true_and, if_false, if_true, eq_self, z_lt, z_le, z_eq, z_t0, z_t1, z_l100, z_l9, z_l8, z_l2, z_l20, z_l1000, z_lm1000, z_l2000, z_lm1] at *; omega, by first | rfl | (rw [if_pos (by assumption)]) | (rw [if_neg (by assumption)]) | simp_all, rfl, rfl⟩) | exact Or.inr (⟨by simp only [zv_eq, Nat.reduceEqDiff, reduceIte, and_false, false_and, and_true, true_and, if_false, if_true, eq_self, z_lt, z_le, z_eq, z_t0, z_t1, z_l100, z_l9, z_l8, z_l2, z_l20, z_l1000, z_lm1000, z_l2000, z_lm1] at *; omega, by first | rfl | (rw [if_pos (by assumption)]) | (rw [if_neg (by assumption)]) | simp_all, rfl, rfl⟩)
set_option maxRecDepth 100000 in
set_option maxHeartbeats 4000000 in
theorem c_Mo_put (V A : zV) (v : Int32) (hr : 0 ≤ V 36 12) (hr2 : V 36 12 ≤ 20) (n : Nat) (hn : V 36 1 = nI n) (h1 : 1 ≤ n) (h9 : n ≤ 9) : CQ Y_Mo_put 2 [.ref 36, .int v] V A (fun r V' A' => (¬ (0 ≤ v ∧ v < nI n) ∧ r = (-2000000) ∧ V' = (zv V 36 0 0) ∧ A' = A) ∨ (((0 ≤ v ∧ v < nI n) ∧ V 36 12 = 20) ∧ r = (-3000000) ∧ V' = (zv V 36 0 0) ∧ A' = A) ∨ (((0 ≤ v ∧ v < nI n) ∧ ¬ V 36 12 = 20) ∧ r = V 36 12 + 1 ∧ V' = (zv (zv V 36 0 0) 36 12 (V 36 12 + 1)) ∧ A' = za A 43 (upd (A 43) (V 36 12).toNatClampNeg v))) := by
  have hni : (nI n).toInt = (n : Int) := nI_toInt (by omega)
  have hni1 : (nI n - 1).toInt = (n : Int) - 1 := by rw [show (1 : Int32) = nI 1 from rfl, pk_sub h1, nI_toInt (by omega)]; omega
  refine CQ.of (lv := [.ref 36, .int v]) k_Mo_put.1 rfl (by decide) rfl rfl (Nat.le_of_ble_eq_true rfl) ?_
  refine x_aload_n (pc := 0) d_Mo_put_0 rfl ?_
  refine x_iconst (pc := 1) (v := 0) d_Mo_put_1 (by decide) ?_
  refine y_put (pc := 2) (j := 0) d_Mo_put_2 f_Mo_1 rfl rfl (Nat.le_of_ble_eq_true rfl) rfl (Nat.le_of_ble_eq_true rfl) rfl rfl (fun _ => rfl) ?_
  refine x_aload_n (pc := 5) d_Mo_put_5 rfl ?_
  refine x_iload_n (pc := 6) d_Mo_put_6 rfl ?_
  refine y_bV (pc := 7) (c_Mo_noNode _ _ _ n hn h1 h9) k_Mo_noNode d_Mo_put_7 m_Mo_74 (by decide) rfl rfl rfl rfl p_Mo_noNode (K1 := fun q7 => ?_) (K0 := fun q7 => ?_)
  · refine x_if_eq (pc := 10) (tgt := 16) d_Mo_put_10 (by decide) (fun h => absurd h (by decide)) (fun _ => ?_)
    refine x_ldc (pc := 13) (v := (-2000000)) d_Mo_put_13 i_Mo_78 ?_
    refine y_iret (pc := 15) d_Mo_put_15 rfl ?_
    first | exact Or.inl (⟨by simp only [zv_eq, Nat.reduceEqDiff, reduceIte, and_false, false_and, and_true, true_and, if_false, if_true, eq_self, z_lt, z_le, z_eq, z_t0, z_t1, z_l100, z_l9, z_l8, z_l2, z_l20, z_l1000, z_lm1000, z_l2000, z_lm1] at *; omega, by first | rfl | (rw [if_pos (by assumption)]) | (rw [if_neg (by assumption)]) | simp_all, rfl, rfl⟩) | exact Or.inr (Or.inl (⟨by simp only [zv_eq, Nat.reduceEqDiff, reduceIte, and_false, false_and, and_true, true_and, if_false, if_true, eq_self, z_lt, z_le, z_eq, z_t0, z_t1, z_l100, z_l9, z_l8, z_l2, z_l20, z_l1000, z_lm1000, z_l2000, z_lm1] at *; omega, by first | rfl | (rw [if_pos (by assumption)]) | (rw [if_neg (by assumption)]) | simp_all, rfl, rfl⟩)) | exact Or.inr (Or.inr (⟨by simp only [zv_eq, Nat.reduceEqDiff, reduceIte, and_false, false_and, and_true, true_and, if_false, if_true, eq_self, z_lt, z_le, z_eq, z_t0, z_t1, z_l100, z_l9, z_l8, z_l2, z_l20, z_l1000, z_lm1000, z_l2000, z_lm1] at *; omega, by first | rfl | (rw [if_pos (by assumption)]) | (rw [if_neg (by assumption)]) | simp_all, rfl, rfl⟩))
  · refine x_if_eq (pc := 10) (tgt := 16) d_Mo_put_10 (by decide) (fun _ => ?_) (fun h => absurd h (by decide))
    refine x_aload_n (pc := 16) d_Mo_put_16 rfl ?_
    refine x_get (pc := 17) (j := 12) d_Mo_put_17 f_Mo_181 rfl rfl (Nat.le_of_ble_eq_true rfl) rfl rfl rfl ?_
    refine x_bipush (pc := 20) (v := 20) d_Mo_put_20 (by decide) ?_
    refine x_icmp_ne (pc := 22) (tgt := 28) d_Mo_put_22 (by decide) (fun h22 => ?_) (fun h22 => ?_)
    · refine x_aload_n (pc := 28) d_Mo_put_28 rfl ?_
      refine x_get (pc := 29) (j := 11) d_Mo_put_29 f_Mo_42 rfl rfl (Nat.le_of_ble_eq_true rfl) rfl rfl rfl ?_
      refine x_aload_n (pc := 32) d_Mo_put_32 rfl ?_
      refine x_get (pc := 33) (j := 12) d_Mo_put_33 f_Mo_181 rfl rfl (Nat.le_of_ble_eq_true rfl) rfl rfl rfl ?_
      refine x_iload_n (pc := 36) d_Mo_put_36 rfl ?_
      refine y_iast (pc := 37) d_Mo_put_37 rfl (fun _ => rfl) (by show vp_in (V 36 12) 21; refine z_vin ?_ ?_ <;> simp only [zv_eq, Nat.reduceEqDiff, reduceIte, and_false, false_and, and_true, true_and, if_false, if_true, eq_self, z_lt, z_le, z_eq, z_t0, z_t1, z_l100, z_l9, z_l8, z_l2, z_l20, z_l1000, z_lm1000, z_l2000, z_lm1] at * <;> omega) ?_
      refine x_aload_n (pc := 38) d_Mo_put_38 rfl ?_
      refine x_dup (pc := 39) d_Mo_put_39 rfl ?_
      refine x_get (pc := 40) (j := 12) d_Mo_put_40 f_Mo_181 rfl rfl (Nat.le_of_ble_eq_true rfl) rfl rfl rfl ?_
      refine x_iconst (pc := 43) (v := 1) d_Mo_put_43 (by decide) ?_
      refine x_iadd (pc := 44) d_Mo_put_44 ?_
      refine y_put (pc := 45) (j := 12) d_Mo_put_45 f_Mo_181 rfl rfl (Nat.le_of_ble_eq_true rfl) rfl (Nat.le_of_ble_eq_true rfl) rfl rfl (fun _ => rfl) ?_
      refine x_aload_n (pc := 48) d_Mo_put_48 rfl ?_
      refine x_get (pc := 49) (j := 12) d_Mo_put_49 f_Mo_181 rfl rfl (Nat.le_of_ble_eq_true rfl) rfl rfl rfl ?_
      refine y_iret (pc := 52) d_Mo_put_52 rfl ?_
      first | exact Or.inl (⟨by simp only [zv_eq, Nat.reduceEqDiff, reduceIte, and_false, false_and, and_true, true_and, if_false, if_true, eq_self, z_lt, z_le, z_eq, z_t0, z_t1, z_l100, z_l9, z_l8, z_l2, z_l20, z_l1000, z_lm1000, z_l2000, z_lm1] at *; omega, by first | rfl | (rw [if_pos (by assumption)]) | (rw [if_neg (by assumption)]) | simp_all, rfl, rfl⟩) | exact Or.inr (Or.inl (⟨by simp only [zv_eq, Nat.reduceEqDiff, reduceIte, and_false, false_and, and_true, true_and, if_false, if_true, eq_self, z_lt, z_le, z_eq, z_t0, z_t1, z_l100, z_l9, z_l8, z_l2, z_l20, z_l1000, z_lm1000, z_l2000, z_lm1] at *; omega, by first | rfl | (rw [if_pos (by assumption)]) | (rw [if_neg (by assumption)]) | simp_all, rfl, rfl⟩)) | exact Or.inr (Or.inr (⟨by simp only [zv_eq, Nat.reduceEqDiff, reduceIte, and_false, false_and, and_true, true_and, if_false, if_true, eq_self, z_lt, z_le, z_eq, z_t0, z_t1, z_l100, z_l9, z_l8, z_l2, z_l20, z_l1000, z_lm1000, z_l2000, z_lm1] at *; omega, by first | rfl | (rw [if_pos (by assumption)]) | (rw [if_neg (by assumption)]) | simp_all, rfl, rfl⟩))
    · refine x_ldc (pc := 25) (v := (-3000000)) d_Mo_put_25 i_Mo_79 ?_
      refine y_iret (pc := 27) d_Mo_put_27 rfl ?_
      first | exact Or.inl (⟨by simp only [zv_eq, Nat.reduceEqDiff, reduceIte, and_false, false_and, and_true, true_and, if_false, if_true, eq_self, z_lt, z_le, z_eq, z_t0, z_t1, z_l100, z_l9, z_l8, z_l2, z_l20, z_l1000, z_lm1000, z_l2000, z_lm1] at *; omega, by first | rfl | (rw [if_pos (by assumption)]) | (rw [if_neg (by assumption)]) | simp_all, rfl, rfl⟩) | exact Or.inr (Or.inl (⟨by simp only [zv_eq, Nat.reduceEqDiff, reduceIte, and_false, false_and, and_true, true_and, if_false, if_true, eq_self, z_lt, z_le, z_eq, z_t0, z_t1, z_l100, z_l9, z_l8, z_l2, z_l20, z_l1000, z_lm1000, z_l2000, z_lm1] at *; omega, by first | rfl | (rw [if_pos (by assumption)]) | (rw [if_neg (by assumption)]) | simp_all, rfl, rfl⟩)) | exact Or.inr (Or.inr (⟨by simp only [zv_eq, Nat.reduceEqDiff, reduceIte, and_false, false_and, and_true, true_and, if_false, if_true, eq_self, z_lt, z_le, z_eq, z_t0, z_t1, z_l100, z_l9, z_l8, z_l2, z_l20, z_l1000, z_lm1000, z_l2000, z_lm1] at *; omega, by first | rfl | (rw [if_pos (by assumption)]) | (rw [if_neg (by assumption)]) | simp_all, rfl, rfl⟩))
set_option maxRecDepth 100000 in
set_option maxHeartbeats 4000000 in
theorem c_Mo_keep (V A : zV) (v : Int32) : CQ Y_Mo_keep 1 [.ref 36, .int v] V A (fun r V' A' => (¬ (0 ≤ v ∧ v ≤ V 36 12) ∧ r = (-2000000) ∧ V' = (zv V 36 0 0) ∧ A' = A) ∨ ((0 ≤ v ∧ v ≤ V 36 12) ∧ r = V 36 12 ∧ V' = (zv (zv V 36 0 0) 36 12 v) ∧ A' = A)) := by
  refine CQ.of (lv := [.ref 36, .int v, zu]) k_Mo_keep.1 rfl (by decide) rfl rfl (Nat.le_of_ble_eq_true rfl) ?_
  refine x_aload_n (pc := 0) d_Mo_keep_0 rfl ?_
  refine x_iconst (pc := 1) (v := 0) d_Mo_keep_1 (by decide) ?_
  refine y_put (pc := 2) (j := 0) d_Mo_keep_2 f_Mo_1 rfl rfl (Nat.le_of_ble_eq_true rfl) rfl (Nat.le_of_ble_eq_true rfl) rfl rfl (fun _ => rfl) ?_
  refine x_iload_n (pc := 5) d_Mo_keep_5 rfl ?_
  refine x_iconst (pc := 6) (v := 0) d_Mo_keep_6 (by decide) ?_
  refine x_aload_n (pc := 7) d_Mo_keep_7 rfl ?_
  refine x_get (pc := 8) (j := 12) d_Mo_keep_8 f_Mo_181 rfl rfl (Nat.le_of_ble_eq_true rfl) rfl rfl rfl ?_
  refine y_bS (pc := 11) (c_Mo_in _ _ _ _ _) k_Mo_in d_Mo_keep_11 m_Mo_70 (by decide) rfl p_Mo_in (K1 := fun q11 => ?_) (K0 := fun q11 => ?_)
  · refine x_if_ne (pc := 14) (tgt := 20) d_Mo_keep_14 (by decide) (fun _ => ?_) (fun h => absurd h (by decide))
    refine x_aload_n (pc := 20) d_Mo_keep_20 rfl ?_
    refine x_get (pc := 21) (j := 12) d_Mo_keep_21 f_Mo_181 rfl rfl (Nat.le_of_ble_eq_true rfl) rfl rfl rfl ?_
    refine y_ist2 (pc := 24) d_Mo_keep_24 ?_
    refine x_aload_n (pc := 25) d_Mo_keep_25 rfl ?_
    refine x_iload_n (pc := 26) d_Mo_keep_26 rfl ?_
    refine y_put (pc := 27) (j := 12) d_Mo_keep_27 f_Mo_181 rfl rfl (Nat.le_of_ble_eq_true rfl) rfl (Nat.le_of_ble_eq_true rfl) rfl rfl (fun _ => rfl) ?_
    refine x_iload_n (pc := 30) d_Mo_keep_30 rfl ?_
    refine y_iret (pc := 31) d_Mo_keep_31 rfl ?_
    first | exact Or.inl (⟨by simp only [zv_eq, Nat.reduceEqDiff, reduceIte, and_false, false_and, and_true, true_and, if_false, if_true, eq_self, z_lt, z_le, z_eq, z_t0, z_t1, z_l100, z_l9, z_l8, z_l2, z_l20, z_l1000, z_lm1000, z_l2000, z_lm1] at *; omega, by first | rfl | (rw [if_pos (by assumption)]) | (rw [if_neg (by assumption)]) | simp_all, rfl, rfl⟩) | exact Or.inr (⟨by simp only [zv_eq, Nat.reduceEqDiff, reduceIte, and_false, false_and, and_true, true_and, if_false, if_true, eq_self, z_lt, z_le, z_eq, z_t0, z_t1, z_l100, z_l9, z_l8, z_l2, z_l20, z_l1000, z_lm1000, z_l2000, z_lm1] at *; omega, by first | rfl | (rw [if_pos (by assumption)]) | (rw [if_neg (by assumption)]) | simp_all, rfl, rfl⟩)
  · refine x_if_ne (pc := 14) (tgt := 20) d_Mo_keep_14 (by decide) (fun h => absurd h (by decide)) (fun _ => ?_)
    refine x_ldc (pc := 17) (v := (-2000000)) d_Mo_keep_17 i_Mo_78 ?_
    refine y_iret (pc := 19) d_Mo_keep_19 rfl ?_
    first | exact Or.inl (⟨by simp only [zv_eq, Nat.reduceEqDiff, reduceIte, and_false, false_and, and_true, true_and, if_false, if_true, eq_self, z_lt, z_le, z_eq, z_t0, z_t1, z_l100, z_l9, z_l8, z_l2, z_l20, z_l1000, z_lm1000, z_l2000, z_lm1] at *; omega, by first | rfl | (rw [if_pos (by assumption)]) | (rw [if_neg (by assumption)]) | simp_all, rfl, rfl⟩) | exact Or.inr (⟨by simp only [zv_eq, Nat.reduceEqDiff, reduceIte, and_false, false_and, and_true, true_and, if_false, if_true, eq_self, z_lt, z_le, z_eq, z_t0, z_t1, z_l100, z_l9, z_l8, z_l2, z_l20, z_l1000, z_lm1000, z_l2000, z_lm1] at *; omega, by first | rfl | (rw [if_pos (by assumption)]) | (rw [if_neg (by assumption)]) | simp_all, rfl, rfl⟩)
set_option maxRecDepth 100000 in
set_option maxHeartbeats 4000000 in
theorem c_Mo_rule0 (V A : zV) (v : Int32) : CQ Y_Mo_rule 1 [.ref 36, .int 0, .int v] V A (fun r V' A' => (¬ (1 ≤ v ∧ v ≤ 8) ∧ r = (-2000000) ∧ V' = (zv V 36 0 0) ∧ A' = A) ∨ ((1 ≤ v ∧ v ≤ 8) ∧ r = V 36 6 ∧ V' = (zv (zv (zv (zv (zv V 36 0 0) 36 6 (v)) 36 7 (V 36 7)) 36 8 (V 36 8)) 36 13 0) ∧ A' = A)) := by
  refine CQ.of (lv := [.ref 36, .int 0, .int v, zu, zu]) k_Mo_rule.1 rfl (by decide) rfl rfl (Nat.le_of_ble_eq_true rfl) ?_
  refine x_aload_n (pc := 0) d_Mo_rule_0 rfl ?_
  refine x_iconst (pc := 1) (v := 0) d_Mo_rule_1 (by decide) ?_
  refine y_put (pc := 2) (j := 0) d_Mo_rule_2 f_Mo_1 rfl rfl (Nat.le_of_ble_eq_true rfl) rfl (Nat.le_of_ble_eq_true rfl) rfl rfl (fun _ => rfl) ?_
  refine x_iload_n (pc := 5) d_Mo_rule_5 rfl ?_
  refine x_if_ne (pc := 6) (tgt := 19) d_Mo_rule_6 (by decide) (fun h => absurd h (by decide)) (fun _ => ?_)
  refine x_iload_n (pc := 9) d_Mo_rule_9 rfl ?_
  refine x_iconst (pc := 10) (v := 1) d_Mo_rule_10 (by decide) ?_
  refine x_bipush (pc := 11) (v := 8) d_Mo_rule_11 (by decide) ?_
  refine y_bS (pc := 13) (c_Mo_in _ _ _ _ _) k_Mo_in d_Mo_rule_13 m_Mo_70 (by decide) rfl p_Mo_in (K1 := fun q13 => ?_) (K0 := fun q13 => ?_)
  · refine x_goto (pc := 16) (tgt := 54) d_Mo_rule_16 (by decide) ?_
    refine y_ist3 (pc := 54) d_Mo_rule_54 ?_
    refine x_iload_n (pc := 55) d_Mo_rule_55 rfl ?_
    refine x_if_ne (pc := 56) (tgt := 62) d_Mo_rule_56 (by decide) (fun _ => ?_) (fun h => absurd h (by decide))
    refine x_iload_n (pc := 62) d_Mo_rule_62 rfl ?_
    refine x_if_ne (pc := 63) (tgt := 73) d_Mo_rule_63 (by decide) (fun h => absurd h (by decide)) (fun _ => ?_)
    refine x_aload_n (pc := 66) d_Mo_rule_66 rfl ?_
    refine x_get (pc := 67) (j := 6) d_Mo_rule_67 f_Mo_30 rfl rfl (Nat.le_of_ble_eq_true rfl) rfl rfl rfl ?_
    refine x_goto (pc := 70) (tgt := 89) d_Mo_rule_70 (by decide) ?_
    refine y_ist4 (pc := 89) d_Mo_rule_89 ?_
    refine x_aload_n (pc := 91) d_Mo_rule_91 rfl ?_
    refine x_iload_n (pc := 92) d_Mo_rule_92 rfl ?_
    refine x_if_ne (pc := 93) (tgt := 100) d_Mo_rule_93 (by decide) (fun h => absurd h (by decide)) (fun _ => ?_)
    refine x_iload_n (pc := 96) d_Mo_rule_96 rfl ?_
    refine x_goto (pc := 97) (tgt := 104) d_Mo_rule_97 (by decide) ?_
    refine y_put (pc := 104) (j := 6) d_Mo_rule_104 f_Mo_30 rfl rfl (Nat.le_of_ble_eq_true rfl) rfl (Nat.le_of_ble_eq_true rfl) rfl rfl (fun _ => rfl) ?_
    refine x_aload_n (pc := 107) d_Mo_rule_107 rfl ?_
    refine x_iload_n (pc := 108) d_Mo_rule_108 rfl ?_
    refine x_iconst (pc := 109) (v := 1) d_Mo_rule_109 (by decide) ?_
    refine x_icmp_ne (pc := 110) (tgt := 117) d_Mo_rule_110 (by decide) (fun _ => ?_) (fun h => absurd h (by decide))
    refine x_aload_n (pc := 117) d_Mo_rule_117 rfl ?_
    refine x_get (pc := 118) (j := 7) d_Mo_rule_118 f_Mo_33 rfl rfl (Nat.le_of_ble_eq_true rfl) rfl rfl rfl ?_
    refine y_put (pc := 121) (j := 7) d_Mo_rule_121 f_Mo_33 rfl rfl (Nat.le_of_ble_eq_true rfl) rfl (Nat.le_of_ble_eq_true rfl) rfl rfl (fun _ => rfl) ?_
    refine x_aload_n (pc := 124) d_Mo_rule_124 rfl ?_
    refine x_iload_n (pc := 125) d_Mo_rule_125 rfl ?_
    refine x_iconst (pc := 126) (v := 2) d_Mo_rule_126 (by decide) ?_
    refine x_icmp_ne (pc := 127) (tgt := 134) d_Mo_rule_127 (by decide) (fun _ => ?_) (fun h => absurd h (by decide))
    refine x_aload_n (pc := 134) d_Mo_rule_134 rfl ?_
    refine x_get (pc := 135) (j := 8) d_Mo_rule_135 f_Mo_89 rfl rfl (Nat.le_of_ble_eq_true rfl) rfl rfl rfl ?_
    refine y_put (pc := 138) (j := 8) d_Mo_rule_138 f_Mo_89 rfl rfl (Nat.le_of_ble_eq_true rfl) rfl (Nat.le_of_ble_eq_true rfl) rfl rfl (fun _ => rfl) ?_
    refine x_aload_n (pc := 141) d_Mo_rule_141 rfl ?_
    refine x_iconst (pc := 142) (v := 0) d_Mo_rule_142 (by decide) ?_
    refine y_put (pc := 143) (j := 13) d_Mo_rule_143 f_Mo_80 rfl rfl (Nat.le_of_ble_eq_true rfl) rfl (Nat.le_of_ble_eq_true rfl) rfl rfl (fun _ => rfl) ?_
    refine x_iload (pc := 146) d_Mo_rule_146 rfl ?_
    refine y_iret (pc := 148) d_Mo_rule_148 rfl ?_
    first | exact Or.inl (⟨by simp only [zv_eq, Nat.reduceEqDiff, reduceIte, and_false, false_and, and_true, true_and, if_false, if_true, eq_self, z_lt, z_le, z_eq, z_t0, z_t1, z_l100, z_l9, z_l8, z_l2, z_l20, z_l1000, z_lm1000, z_l2000, z_lm1] at *; omega, by first | rfl | (rw [if_pos (by assumption)]) | (rw [if_neg (by assumption)]) | simp_all, rfl, rfl⟩) | exact Or.inr (⟨by simp only [zv_eq, Nat.reduceEqDiff, reduceIte, and_false, false_and, and_true, true_and, if_false, if_true, eq_self, z_lt, z_le, z_eq, z_t0, z_t1, z_l100, z_l9, z_l8, z_l2, z_l20, z_l1000, z_lm1000, z_l2000, z_lm1] at *; omega, by first | rfl | (rw [if_pos (by assumption)]) | (rw [if_neg (by assumption)]) | simp_all, rfl, rfl⟩)
  · refine x_goto (pc := 16) (tgt := 54) d_Mo_rule_16 (by decide) ?_
    refine y_ist3 (pc := 54) d_Mo_rule_54 ?_
    refine x_iload_n (pc := 55) d_Mo_rule_55 rfl ?_
    refine x_if_ne (pc := 56) (tgt := 62) d_Mo_rule_56 (by decide) (fun h => absurd h (by decide)) (fun _ => ?_)
    refine x_ldc (pc := 59) (v := (-2000000)) d_Mo_rule_59 i_Mo_78 ?_
    refine y_iret (pc := 61) d_Mo_rule_61 rfl ?_
    first | exact Or.inl (⟨by simp only [zv_eq, Nat.reduceEqDiff, reduceIte, and_false, false_and, and_true, true_and, if_false, if_true, eq_self, z_lt, z_le, z_eq, z_t0, z_t1, z_l100, z_l9, z_l8, z_l2, z_l20, z_l1000, z_lm1000, z_l2000, z_lm1] at *; omega, by first | rfl | (rw [if_pos (by assumption)]) | (rw [if_neg (by assumption)]) | simp_all, rfl, rfl⟩) | exact Or.inr (⟨by simp only [zv_eq, Nat.reduceEqDiff, reduceIte, and_false, false_and, and_true, true_and, if_false, if_true, eq_self, z_lt, z_le, z_eq, z_t0, z_t1, z_l100, z_l9, z_l8, z_l2, z_l20, z_l1000, z_lm1000, z_l2000, z_lm1] at *; omega, by first | rfl | (rw [if_pos (by assumption)]) | (rw [if_neg (by assumption)]) | simp_all, rfl, rfl⟩)
set_option maxRecDepth 100000 in
set_option maxHeartbeats 4000000 in
theorem c_Mo_rule1 (V A : zV) (v : Int32) : CQ Y_Mo_rule 1 [.ref 36, .int 1, .int v] V A (fun r V' A' => (¬ (0 ≤ v ∧ v ≤ 1000) ∧ r = (-2000000) ∧ V' = (zv V 36 0 0) ∧ A' = A) ∨ ((0 ≤ v ∧ v ≤ 1000) ∧ r = V 36 7 ∧ V' = (zv (zv (zv (zv (zv V 36 0 0) 36 6 (V 36 6)) 36 7 (v)) 36 8 (V 36 8)) 36 13 0) ∧ A' = A)) := by
  refine CQ.of (lv := [.ref 36, .int 1, .int v, zu, zu]) k_Mo_rule.1 rfl (by decide) rfl rfl (Nat.le_of_ble_eq_true rfl) ?_
  refine x_aload_n (pc := 0) d_Mo_rule_0 rfl ?_
  refine x_iconst (pc := 1) (v := 0) d_Mo_rule_1 (by decide) ?_
  refine y_put (pc := 2) (j := 0) d_Mo_rule_2 f_Mo_1 rfl rfl (Nat.le_of_ble_eq_true rfl) rfl (Nat.le_of_ble_eq_true rfl) rfl rfl (fun _ => rfl) ?_
  refine x_iload_n (pc := 5) d_Mo_rule_5 rfl ?_
  refine x_if_ne (pc := 6) (tgt := 19) d_Mo_rule_6 (by decide) (fun _ => ?_) (fun h => absurd h (by decide))
  refine x_iload_n (pc := 19) d_Mo_rule_19 rfl ?_
  refine x_iconst (pc := 20) (v := 1) d_Mo_rule_20 (by decide) ?_
  refine x_icmp_ne (pc := 21) (tgt := 35) d_Mo_rule_21 (by decide) (fun h => absurd h (by decide)) (fun _ => ?_)
  refine x_iload_n (pc := 24) d_Mo_rule_24 rfl ?_
  refine x_iconst (pc := 25) (v := 0) d_Mo_rule_25 (by decide) ?_
  refine x_sipush (pc := 26) (v := 1000) d_Mo_rule_26 (by decide) ?_
  refine y_bS (pc := 29) (c_Mo_in _ _ _ _ _) k_Mo_in d_Mo_rule_29 m_Mo_70 (by decide) rfl p_Mo_in (K1 := fun q29 => ?_) (K0 := fun q29 => ?_)
  · refine x_goto (pc := 32) (tgt := 54) d_Mo_rule_32 (by decide) ?_
    refine y_ist3 (pc := 54) d_Mo_rule_54 ?_
    refine x_iload_n (pc := 55) d_Mo_rule_55 rfl ?_
    refine x_if_ne (pc := 56) (tgt := 62) d_Mo_rule_56 (by decide) (fun _ => ?_) (fun h => absurd h (by decide))
    refine x_iload_n (pc := 62) d_Mo_rule_62 rfl ?_
    refine x_if_ne (pc := 63) (tgt := 73) d_Mo_rule_63 (by decide) (fun _ => ?_) (fun h => absurd h (by decide))
    refine x_iload_n (pc := 73) d_Mo_rule_73 rfl ?_
    refine x_iconst (pc := 74) (v := 1) d_Mo_rule_74 (by decide) ?_
    refine x_icmp_ne (pc := 75) (tgt := 85) d_Mo_rule_75 (by decide) (fun h => absurd h (by decide)) (fun _ => ?_)
    refine x_aload_n (pc := 78) d_Mo_rule_78 rfl ?_
    refine x_get (pc := 79) (j := 7) d_Mo_rule_79 f_Mo_33 rfl rfl (Nat.le_of_ble_eq_true rfl) rfl rfl rfl ?_
    refine x_goto (pc := 82) (tgt := 89) d_Mo_rule_82 (by decide) ?_
    refine y_ist4 (pc := 89) d_Mo_rule_89 ?_
    refine x_aload_n (pc := 91) d_Mo_rule_91 rfl ?_
    refine x_iload_n (pc := 92) d_Mo_rule_92 rfl ?_
    refine x_if_ne (pc := 93) (tgt := 100) d_Mo_rule_93 (by decide) (fun _ => ?_) (fun h => absurd h (by decide))
    refine x_aload_n (pc := 100) d_Mo_rule_100 rfl ?_
    refine x_get (pc := 101) (j := 6) d_Mo_rule_101 f_Mo_30 rfl rfl (Nat.le_of_ble_eq_true rfl) rfl rfl rfl ?_
    refine y_put (pc := 104) (j := 6) d_Mo_rule_104 f_Mo_30 rfl rfl (Nat.le_of_ble_eq_true rfl) rfl (Nat.le_of_ble_eq_true rfl) rfl rfl (fun _ => rfl) ?_
    refine x_aload_n (pc := 107) d_Mo_rule_107 rfl ?_
    refine x_iload_n (pc := 108) d_Mo_rule_108 rfl ?_
    refine x_iconst (pc := 109) (v := 1) d_Mo_rule_109 (by decide) ?_
    refine x_icmp_ne (pc := 110) (tgt := 117) d_Mo_rule_110 (by decide) (fun h => absurd h (by decide)) (fun _ => ?_)
    refine x_iload_n (pc := 113) d_Mo_rule_113 rfl ?_
    refine x_goto (pc := 114) (tgt := 121) d_Mo_rule_114 (by decide) ?_
    refine y_put (pc := 121) (j := 7) d_Mo_rule_121 f_Mo_33 rfl rfl (Nat.le_of_ble_eq_true rfl) rfl (Nat.le_of_ble_eq_true rfl) rfl rfl (fun _ => rfl) ?_
    refine x_aload_n (pc := 124) d_Mo_rule_124 rfl ?_
    refine x_iload_n (pc := 125) d_Mo_rule_125 rfl ?_
    refine x_iconst (pc := 126) (v := 2) d_Mo_rule_126 (by decide) ?_
    refine x_icmp_ne (pc := 127) (tgt := 134) d_Mo_rule_127 (by decide) (fun _ => ?_) (fun h => absurd h (by decide))
    refine x_aload_n (pc := 134) d_Mo_rule_134 rfl ?_
    refine x_get (pc := 135) (j := 8) d_Mo_rule_135 f_Mo_89 rfl rfl (Nat.le_of_ble_eq_true rfl) rfl rfl rfl ?_
    refine y_put (pc := 138) (j := 8) d_Mo_rule_138 f_Mo_89 rfl rfl (Nat.le_of_ble_eq_true rfl) rfl (Nat.le_of_ble_eq_true rfl) rfl rfl (fun _ => rfl) ?_
    refine x_aload_n (pc := 141) d_Mo_rule_141 rfl ?_
    refine x_iconst (pc := 142) (v := 0) d_Mo_rule_142 (by decide) ?_
    refine y_put (pc := 143) (j := 13) d_Mo_rule_143 f_Mo_80 rfl rfl (Nat.le_of_ble_eq_true rfl) rfl (Nat.le_of_ble_eq_true rfl) rfl rfl (fun _ => rfl) ?_
    refine x_iload (pc := 146) d_Mo_rule_146 rfl ?_
    refine y_iret (pc := 148) d_Mo_rule_148 rfl ?_
    first | exact Or.inl (⟨by simp only [zv_eq, Nat.reduceEqDiff, reduceIte, and_false, false_and, and_true, true_and, if_false, if_true, eq_self, z_lt, z_le, z_eq, z_t0, z_t1, z_l100, z_l9, z_l8, z_l2, z_l20, z_l1000, z_lm1000, z_l2000, z_lm1] at *; omega, by first | rfl | (rw [if_pos (by assumption)]) | (rw [if_neg (by assumption)]) | simp_all, rfl, rfl⟩) | exact Or.inr (⟨by simp only [zv_eq, Nat.reduceEqDiff, reduceIte, and_false, false_and, and_true, true_and, if_false, if_true, eq_self, z_lt, z_le, z_eq, z_t0, z_t1, z_l100, z_l9, z_l8, z_l2, z_l20, z_l1000, z_lm1000, z_l2000, z_lm1] at *; omega, by first | rfl | (rw [if_pos (by assumption)]) | (rw [if_neg (by assumption)]) | simp_all, rfl, rfl⟩)
  · refine x_goto (pc := 32) (tgt := 54) d_Mo_rule_32 (by decide) ?_
    refine y_ist3 (pc := 54) d_Mo_rule_54 ?_
    refine x_iload_n (pc := 55) d_Mo_rule_55 rfl ?_
    refine x_if_ne (pc := 56) (tgt := 62) d_Mo_rule_56 (by decide) (fun h => absurd h (by decide)) (fun _ => ?_)
    refine x_ldc (pc := 59) (v := (-2000000)) d_Mo_rule_59 i_Mo_78 ?_
    refine y_iret (pc := 61) d_Mo_rule_61 rfl ?_
    first | exact Or.inl (⟨by simp only [zv_eq, Nat.reduceEqDiff, reduceIte, and_false, false_and, and_true, true_and, if_false, if_true, eq_self, z_lt, z_le, z_eq, z_t0, z_t1, z_l100, z_l9, z_l8, z_l2, z_l20, z_l1000, z_lm1000, z_l2000, z_lm1] at *; omega, by first | rfl | (rw [if_pos (by assumption)]) | (rw [if_neg (by assumption)]) | simp_all, rfl, rfl⟩) | exact Or.inr (⟨by simp only [zv_eq, Nat.reduceEqDiff, reduceIte, and_false, false_and, and_true, true_and, if_false, if_true, eq_self, z_lt, z_le, z_eq, z_t0, z_t1, z_l100, z_l9, z_l8, z_l2, z_l20, z_l1000, z_lm1000, z_l2000, z_lm1] at *; omega, by first | rfl | (rw [if_pos (by assumption)]) | (rw [if_neg (by assumption)]) | simp_all, rfl, rfl⟩)
set_option maxRecDepth 100000 in
set_option maxHeartbeats 4000000 in
theorem c_Mo_rule2 (V A : zV) (v : Int32) : CQ Y_Mo_rule 1 [.ref 36, .int 2, .int v] V A (fun r V' A' => (¬ (0 ≤ v ∧ v ≤ 1) ∧ r = (-2000000) ∧ V' = (zv V 36 0 0) ∧ A' = A) ∨ ((0 ≤ v ∧ v ≤ 1) ∧ r = V 36 8 ∧ V' = (zv (zv (zv (zv (zv V 36 0 0) 36 6 (V 36 6)) 36 7 (V 36 7)) 36 8 (v)) 36 13 0) ∧ A' = A)) := by
  refine CQ.of (lv := [.ref 36, .int 2, .int v, zu, zu]) k_Mo_rule.1 rfl (by decide) rfl rfl (Nat.le_of_ble_eq_true rfl) ?_
  refine x_aload_n (pc := 0) d_Mo_rule_0 rfl ?_
  refine x_iconst (pc := 1) (v := 0) d_Mo_rule_1 (by decide) ?_
  refine y_put (pc := 2) (j := 0) d_Mo_rule_2 f_Mo_1 rfl rfl (Nat.le_of_ble_eq_true rfl) rfl (Nat.le_of_ble_eq_true rfl) rfl rfl (fun _ => rfl) ?_
  refine x_iload_n (pc := 5) d_Mo_rule_5 rfl ?_
  refine x_if_ne (pc := 6) (tgt := 19) d_Mo_rule_6 (by decide) (fun _ => ?_) (fun h => absurd h (by decide))
  refine x_iload_n (pc := 19) d_Mo_rule_19 rfl ?_
  refine x_iconst (pc := 20) (v := 1) d_Mo_rule_20 (by decide) ?_
  refine x_icmp_ne (pc := 21) (tgt := 35) d_Mo_rule_21 (by decide) (fun _ => ?_) (fun h => absurd h (by decide))
  refine x_iload_n (pc := 35) d_Mo_rule_35 rfl ?_
  refine x_iconst (pc := 36) (v := 2) d_Mo_rule_36 (by decide) ?_
  refine x_icmp_ne (pc := 37) (tgt := 53) d_Mo_rule_37 (by decide) (fun h => absurd h (by decide)) (fun _ => ?_)
  refine x_iload_n (pc := 40) d_Mo_rule_40 rfl ?_
  refine x_iconst (pc := 41) (v := 0) d_Mo_rule_41 (by decide) ?_
  refine x_iconst (pc := 42) (v := 1) d_Mo_rule_42 (by decide) ?_
  refine y_bS (pc := 43) (c_Mo_in _ _ _ _ _) k_Mo_in d_Mo_rule_43 m_Mo_70 (by decide) rfl p_Mo_in (K1 := fun q43 => ?_) (K0 := fun q43 => ?_)
  · refine x_if_eq (pc := 46) (tgt := 53) d_Mo_rule_46 (by decide) (fun h => absurd h (by decide)) (fun _ => ?_)
    refine x_iconst (pc := 49) (v := 1) d_Mo_rule_49 (by decide) ?_
    refine x_goto (pc := 50) (tgt := 54) d_Mo_rule_50 (by decide) ?_
    refine y_ist3 (pc := 54) d_Mo_rule_54 ?_
    refine x_iload_n (pc := 55) d_Mo_rule_55 rfl ?_
    refine x_if_ne (pc := 56) (tgt := 62) d_Mo_rule_56 (by decide) (fun _ => ?_) (fun h => absurd h (by decide))
    refine x_iload_n (pc := 62) d_Mo_rule_62 rfl ?_
    refine x_if_ne (pc := 63) (tgt := 73) d_Mo_rule_63 (by decide) (fun _ => ?_) (fun h => absurd h (by decide))
    refine x_iload_n (pc := 73) d_Mo_rule_73 rfl ?_
    refine x_iconst (pc := 74) (v := 1) d_Mo_rule_74 (by decide) ?_
    refine x_icmp_ne (pc := 75) (tgt := 85) d_Mo_rule_75 (by decide) (fun _ => ?_) (fun h => absurd h (by decide))
    refine x_aload_n (pc := 85) d_Mo_rule_85 rfl ?_
    refine x_get (pc := 86) (j := 8) d_Mo_rule_86 f_Mo_89 rfl rfl (Nat.le_of_ble_eq_true rfl) rfl rfl rfl ?_
    refine y_ist4 (pc := 89) d_Mo_rule_89 ?_
    refine x_aload_n (pc := 91) d_Mo_rule_91 rfl ?_
    refine x_iload_n (pc := 92) d_Mo_rule_92 rfl ?_
    refine x_if_ne (pc := 93) (tgt := 100) d_Mo_rule_93 (by decide) (fun _ => ?_) (fun h => absurd h (by decide))
    refine x_aload_n (pc := 100) d_Mo_rule_100 rfl ?_
    refine x_get (pc := 101) (j := 6) d_Mo_rule_101 f_Mo_30 rfl rfl (Nat.le_of_ble_eq_true rfl) rfl rfl rfl ?_
    refine y_put (pc := 104) (j := 6) d_Mo_rule_104 f_Mo_30 rfl rfl (Nat.le_of_ble_eq_true rfl) rfl (Nat.le_of_ble_eq_true rfl) rfl rfl (fun _ => rfl) ?_
    refine x_aload_n (pc := 107) d_Mo_rule_107 rfl ?_
    refine x_iload_n (pc := 108) d_Mo_rule_108 rfl ?_
    refine x_iconst (pc := 109) (v := 1) d_Mo_rule_109 (by decide) ?_
    refine x_icmp_ne (pc := 110) (tgt := 117) d_Mo_rule_110 (by decide) (fun _ => ?_) (fun h => absurd h (by decide))
    refine x_aload_n (pc := 117) d_Mo_rule_117 rfl ?_
    refine x_get (pc := 118) (j := 7) d_Mo_rule_118 f_Mo_33 rfl rfl (Nat.le_of_ble_eq_true rfl) rfl rfl rfl ?_
    refine y_put (pc := 121) (j := 7) d_Mo_rule_121 f_Mo_33 rfl rfl (Nat.le_of_ble_eq_true rfl) rfl (Nat.le_of_ble_eq_true rfl) rfl rfl (fun _ => rfl) ?_
    refine x_aload_n (pc := 124) d_Mo_rule_124 rfl ?_
    refine x_iload_n (pc := 125) d_Mo_rule_125 rfl ?_
    refine x_iconst (pc := 126) (v := 2) d_Mo_rule_126 (by decide) ?_
    refine x_icmp_ne (pc := 127) (tgt := 134) d_Mo_rule_127 (by decide) (fun h => absurd h (by decide)) (fun _ => ?_)
    refine x_iload_n (pc := 130) d_Mo_rule_130 rfl ?_
    refine x_goto (pc := 131) (tgt := 138) d_Mo_rule_131 (by decide) ?_
    refine y_put (pc := 138) (j := 8) d_Mo_rule_138 f_Mo_89 rfl rfl (Nat.le_of_ble_eq_true rfl) rfl (Nat.le_of_ble_eq_true rfl) rfl rfl (fun _ => rfl) ?_
    refine x_aload_n (pc := 141) d_Mo_rule_141 rfl ?_
    refine x_iconst (pc := 142) (v := 0) d_Mo_rule_142 (by decide) ?_
    refine y_put (pc := 143) (j := 13) d_Mo_rule_143 f_Mo_80 rfl rfl (Nat.le_of_ble_eq_true rfl) rfl (Nat.le_of_ble_eq_true rfl) rfl rfl (fun _ => rfl) ?_
    refine x_iload (pc := 146) d_Mo_rule_146 rfl ?_
    refine y_iret (pc := 148) d_Mo_rule_148 rfl ?_
    first | exact Or.inl (⟨by simp only [zv_eq, Nat.reduceEqDiff, reduceIte, and_false, false_and, and_true, true_and, if_false, if_true, eq_self, z_lt, z_le, z_eq, z_t0, z_t1, z_l100, z_l9, z_l8, z_l2, z_l20, z_l1000, z_lm1000, z_l2000, z_lm1] at *; omega, by first | rfl | (rw [if_pos (by assumption)]) | (rw [if_neg (by assumption)]) | simp_all, rfl, rfl⟩) | exact Or.inr (⟨by simp only [zv_eq, Nat.reduceEqDiff, reduceIte, and_false, false_and, and_true, true_and, if_false, if_true, eq_self, z_lt, z_le, z_eq, z_t0, z_t1, z_l100, z_l9, z_l8, z_l2, z_l20, z_l1000, z_lm1000, z_l2000, z_lm1] at *; omega, by first | rfl | (rw [if_pos (by assumption)]) | (rw [if_neg (by assumption)]) | simp_all, rfl, rfl⟩)
  · refine x_if_eq (pc := 46) (tgt := 53) d_Mo_rule_46 (by decide) (fun _ => ?_) (fun h => absurd h (by decide))
    refine x_iconst (pc := 53) (v := 0) d_Mo_rule_53 (by decide) ?_
    refine y_ist3 (pc := 54) d_Mo_rule_54 ?_
    refine x_iload_n (pc := 55) d_Mo_rule_55 rfl ?_
    refine x_if_ne (pc := 56) (tgt := 62) d_Mo_rule_56 (by decide) (fun h => absurd h (by decide)) (fun _ => ?_)
    refine x_ldc (pc := 59) (v := (-2000000)) d_Mo_rule_59 i_Mo_78 ?_
    refine y_iret (pc := 61) d_Mo_rule_61 rfl ?_
    first | exact Or.inl (⟨by simp only [zv_eq, Nat.reduceEqDiff, reduceIte, and_false, false_and, and_true, true_and, if_false, if_true, eq_self, z_lt, z_le, z_eq, z_t0, z_t1, z_l100, z_l9, z_l8, z_l2, z_l20, z_l1000, z_lm1000, z_l2000, z_lm1] at *; omega, by first | rfl | (rw [if_pos (by assumption)]) | (rw [if_neg (by assumption)]) | simp_all, rfl, rfl⟩) | exact Or.inr (⟨by simp only [zv_eq, Nat.reduceEqDiff, reduceIte, and_false, false_and, and_true, true_and, if_false, if_true, eq_self, z_lt, z_le, z_eq, z_t0, z_t1, z_l100, z_l9, z_l8, z_l2, z_l20, z_l1000, z_lm1000, z_l2000, z_lm1] at *; omega, by first | rfl | (rw [if_pos (by assumption)]) | (rw [if_neg (by assumption)]) | simp_all, rfl, rfl⟩)
set_option maxRecDepth 100000 in
set_option maxHeartbeats 4000000 in
theorem c_Mo_rulex (V A : zV) (w v : Int32) (hw0 : ¬ w = 0) (hw1 : ¬ w = 1) (hw2 : ¬ w = 2) : CQ Y_Mo_rule 1 [.ref 36, .int w, .int v] V A (fun r V' A' => r = (-2000000) ∧ V' = (zv V 36 0 0) ∧ A' = A) := by
  refine CQ.of (lv := [.ref 36, .int w, .int v, zu, zu]) k_Mo_rule.1 rfl (by decide) rfl rfl (Nat.le_of_ble_eq_true rfl) ?_
  refine x_aload_n (pc := 0) d_Mo_rule_0 rfl ?_
  refine x_iconst (pc := 1) (v := 0) d_Mo_rule_1 (by decide) ?_
  refine y_put (pc := 2) (j := 0) d_Mo_rule_2 f_Mo_1 rfl rfl (Nat.le_of_ble_eq_true rfl) rfl (Nat.le_of_ble_eq_true rfl) rfl rfl (fun _ => rfl) ?_
  refine x_iload_n (pc := 5) d_Mo_rule_5 rfl ?_
  refine x_if_ne (pc := 6) (tgt := 19) d_Mo_rule_6 (by decide) (fun h6 => ?_) (fun h => absurd h hw0)
  refine x_iload_n (pc := 19) d_Mo_rule_19 rfl ?_
  refine x_iconst (pc := 20) (v := 1) d_Mo_rule_20 (by decide) ?_
  refine x_icmp_ne (pc := 21) (tgt := 35) d_Mo_rule_21 (by decide) (fun h21 => ?_) (fun h => absurd h hw1)
  refine x_iload_n (pc := 35) d_Mo_rule_35 rfl ?_
  refine x_iconst (pc := 36) (v := 2) d_Mo_rule_36 (by decide) ?_
  refine x_icmp_ne (pc := 37) (tgt := 53) d_Mo_rule_37 (by decide) (fun h37 => ?_) (fun h => absurd h hw2)
  refine x_iconst (pc := 53) (v := 0) d_Mo_rule_53 (by decide) ?_
  refine y_ist3 (pc := 54) d_Mo_rule_54 ?_
  refine x_iload_n (pc := 55) d_Mo_rule_55 rfl ?_
  refine x_if_ne (pc := 56) (tgt := 62) d_Mo_rule_56 (by decide) (fun h => absurd h (by decide)) (fun _ => ?_)
  refine x_ldc (pc := 59) (v := (-2000000)) d_Mo_rule_59 i_Mo_78 ?_
  refine y_iret (pc := 61) d_Mo_rule_61 rfl ?_
  exact ⟨rfl, rfl, rfl⟩
