theorem z_l100 : (100 : Int32).toInt = 100 := rfl
theorem z_l9 : (9 : Int32).toInt = 9 := rfl
theorem z_l8 : (8 : Int32).toInt = 8 := rfl
theorem z_l2 : (2 : Int32).toInt = 2 := rfl
theorem z_l20 : (20 : Int32).toInt = 20 := rfl
theorem z_l1000 : (1000 : Int32).toInt = 1000 := rfl
theorem z_lm1000 : (-1000 : Int32).toInt = -1000 := rfl
theorem z_l2000 : (2000 : Int32).toInt = 2000 := rfl
theorem z_lm1 : (-1 : Int32).toInt = -1 := rfl
theorem z_vin {x : Int32} {k : Nat} (h0 : 0 ≤ x.toInt) (h : x.toInt < k) : vp_in x k := vp_in_iff.mpr ⟨h0, h⟩
theorem z_nat {x : Int32} {n : Nat} (h0 : 0 ≤ x) (h : x < nI n) (hn : n < 2 ^ 31) : ∃ i, i < n ∧ x = nI i := by
  have hni : (nI n).toInt = (n : Int) := nI_toInt hn
  refine vp_in_of (z_vin (k := n) ?_ ?_) hn <;> simp only [z_lt, z_le, z_t0] at * <;> omega
theorem z_ix {a b : Int32} {n : Nat} (ha0 : 0 ≤ a) (ha : a < nI n) (hb0 : 0 ≤ b) (hb : b < nI n) (h9 : n ≤ 9) : vp_in (a * 9 + b) 81 := by
  obtain ⟨i, hi, rfl⟩ := z_nat ha0 ha (by omega)
  obtain ⟨j, hj, rfl⟩ := z_nat hb0 hb (by omega)
  rw [show (9 : Int32) = nI 9 from rfl, pk_mul, nI_add]
  exact vp_in_nI (by omega) (by decide)
theorem z_ix' {a b : Int32} {n : Nat} (ha0 : 0 ≤ a) (ha : a < nI n) (hb0 : 0 ≤ b) (hb : b < nI n) (h9 : n ≤ 9) : vp_in (9 * a + b) 81 := by
  have h := z_ix ha0 ha hb0 hb h9
  rwa [show a * 9 = 9 * a from Int32.mul_comm a 9] at h
set_option maxRecDepth 100000 in
set_option maxHeartbeats 4000000 in
theorem c_CW_node (V A : zV) (x : Int32) (n : Nat) (hn : V 1 4 = nI n) (h1 : 1 ≤ n) (h9 : n ≤ 9) : CQ Y_CW_node 1 [.ref 0, .int x] V A (fun r V' A' => (¬ (0 ≤ x ∧ x ≤ 100) ∧ r = (-2000000) ∧ V' = V ∧ A' = A) ∨ (((0 ≤ x ∧ x ≤ 100) ∧ ¬ V 1 4 < 9) ∧ r = (-3000000) ∧ V' = V ∧ A' = A) ∨ (((0 ≤ x ∧ x ≤ 100) ∧ V 1 4 < 9) ∧ r = V 1 4 ∧ V' = zv (zv V 1 4 (V 1 4 + 1)) 1 8 (V 1 8 + 1) ∧ A' = za A 2 (upd (A 2) (V 1 4).toNatClampNeg x))) := by
  have hni : (nI n).toInt = (n : Int) := nI_toInt (by omega)
  refine CQ.of (lv := [.ref 0, .int x]) k_CW_node.1 rfl (by decide) rfl rfl (Nat.le_of_ble_eq_true rfl) ?_
  refine x_iload_n (pc := 0) d_CW_node_0 rfl ?_
  refine x_if_lt (pc := 1) (tgt := 10) d_CW_node_1 (by decide) (fun h1 => ?_) (fun h1 => ?_)
  · refine x_ldc (pc := 10) (v := (-2000000)) d_CW_node_10 i_CW_83 ?_
    refine y_iret (pc := 12) d_CW_node_12 rfl ?_
    first | exact Or.inl (⟨by simp only [z_lt, z_le, z_eq, z_t0, z_t1, z_l100, z_l9, z_l8, z_l2, z_l20, z_l1000, z_lm1000, z_l2000, z_lm1] at *; omega, rfl, rfl, rfl⟩) | exact Or.inr (Or.inl (⟨by simp only [z_lt, z_le, z_eq, z_t0, z_t1, z_l100, z_l9, z_l8, z_l2, z_l20, z_l1000, z_lm1000, z_l2000, z_lm1] at *; omega, rfl, rfl, rfl⟩)) | exact Or.inr (Or.inr (⟨by simp only [z_lt, z_le, z_eq, z_t0, z_t1, z_l100, z_l9, z_l8, z_l2, z_l20, z_l1000, z_lm1000, z_l2000, z_lm1] at *; omega, rfl, rfl, rfl⟩))
  · refine x_iload_n (pc := 4) d_CW_node_4 rfl ?_
    refine x_bipush (pc := 5) (v := 100) d_CW_node_5 (by decide) ?_
    refine x_icmp_le (pc := 7) (tgt := 13) d_CW_node_7 (by decide) (fun h7 => ?_) (fun h7 => ?_)
    · refine x_aload_n (pc := 13) d_CW_node_13 rfl ?_
      refine x_get (pc := 14) (j := 0) d_CW_node_14 f_CW_10 rfl rfl (Nat.le_of_ble_eq_true rfl) rfl rfl rfl ?_
      refine x_get (pc := 17) (j := 4) d_CW_node_17 f_CW_84 rfl rfl (Nat.le_of_ble_eq_true rfl) rfl rfl rfl ?_
      refine x_bipush (pc := 20) (v := 9) d_CW_node_20 (by decide) ?_
      refine x_icmp_lt (pc := 22) (tgt := 28) d_CW_node_22 (by decide) (fun h22 => ?_) (fun h22 => ?_)
      · refine x_aload_n (pc := 28) d_CW_node_28 rfl ?_
        refine x_get (pc := 29) (j := 0) d_CW_node_29 f_CW_10 rfl rfl (Nat.le_of_ble_eq_true rfl) rfl rfl rfl ?_
        refine x_iload_n (pc := 32) d_CW_node_32 rfl ?_
        refine y_fV (pc := 33) (c_Net_addNode _ _ _ (by rw [hn]; refine vp_in_nI ?_ (by decide); simp only [z_lt, z_le, z_eq, z_t0, z_t1, z_l100, z_l9, z_l8, z_l2, z_l20, z_l1000, z_lm1000, z_l2000, z_lm1] at *; omega)) k_Net_addNode d_CW_node_33 m_CW_89 (by decide) rfl rfl rfl rfl p_Net_addNode (K := ?_)
        refine y_iret (pc := 36) d_CW_node_36 rfl ?_
        first | exact Or.inl (⟨by simp only [z_lt, z_le, z_eq, z_t0, z_t1, z_l100, z_l9, z_l8, z_l2, z_l20, z_l1000, z_lm1000, z_l2000, z_lm1] at *; omega, rfl, rfl, rfl⟩) | exact Or.inr (Or.inl (⟨by simp only [z_lt, z_le, z_eq, z_t0, z_t1, z_l100, z_l9, z_l8, z_l2, z_l20, z_l1000, z_lm1000, z_l2000, z_lm1] at *; omega, rfl, rfl, rfl⟩)) | exact Or.inr (Or.inr (⟨by simp only [z_lt, z_le, z_eq, z_t0, z_t1, z_l100, z_l9, z_l8, z_l2, z_l20, z_l1000, z_lm1000, z_l2000, z_lm1] at *; omega, rfl, rfl, rfl⟩))
      · refine x_ldc (pc := 25) (v := (-3000000)) d_CW_node_25 i_CW_88 ?_
        refine y_iret (pc := 27) d_CW_node_27 rfl ?_
        first | exact Or.inl (⟨by simp only [z_lt, z_le, z_eq, z_t0, z_t1, z_l100, z_l9, z_l8, z_l2, z_l20, z_l1000, z_lm1000, z_l2000, z_lm1] at *; omega, rfl, rfl, rfl⟩) | exact Or.inr (Or.inl (⟨by simp only [z_lt, z_le, z_eq, z_t0, z_t1, z_l100, z_l9, z_l8, z_l2, z_l20, z_l1000, z_lm1000, z_l2000, z_lm1] at *; omega, rfl, rfl, rfl⟩)) | exact Or.inr (Or.inr (⟨by simp only [z_lt, z_le, z_eq, z_t0, z_t1, z_l100, z_l9, z_l8, z_l2, z_l20, z_l1000, z_lm1000, z_l2000, z_lm1] at *; omega, rfl, rfl, rfl⟩))
    · refine x_ldc (pc := 10) (v := (-2000000)) d_CW_node_10 i_CW_83 ?_
      refine y_iret (pc := 12) d_CW_node_12 rfl ?_
      first | exact Or.inl (⟨by simp only [z_lt, z_le, z_eq, z_t0, z_t1, z_l100, z_l9, z_l8, z_l2, z_l20, z_l1000, z_lm1000, z_l2000, z_lm1] at *; omega, rfl, rfl, rfl⟩) | exact Or.inr (Or.inl (⟨by simp only [z_lt, z_le, z_eq, z_t0, z_t1, z_l100, z_l9, z_l8, z_l2, z_l20, z_l1000, z_lm1000, z_l2000, z_lm1] at *; omega, rfl, rfl, rfl⟩)) | exact Or.inr (Or.inr (⟨by simp only [z_lt, z_le, z_eq, z_t0, z_t1, z_l100, z_l9, z_l8, z_l2, z_l20, z_l1000, z_lm1000, z_l2000, z_lm1] at *; omega, rfl, rfl, rfl⟩))
set_option maxRecDepth 100000 in
set_option maxHeartbeats 4000000 in
theorem c_CW_arc (V A : zV) (a b c : Int32) (n : Nat) (hn : V 1 4 = nI n) (h1 : 1 ≤ n) (h9 : n ≤ 9) : CQ Y_CW_arc 2 [.ref 0, .int a, .int b, .int c] V A (fun r V' A' => (¬ (((0 ≤ a ∧ a < V 1 4) ∧ (0 ≤ b ∧ b < V 1 4) ∧ ¬ a = b) ∧ (-1000) ≤ c ∧ c ≤ 1000) ∧ r = (-2000000) ∧ V' = V ∧ A' = A) ∨ ((((0 ≤ a ∧ a < V 1 4) ∧ (0 ≤ b ∧ b < V 1 4) ∧ ¬ a = b) ∧ (-1000) ≤ c ∧ c ≤ 1000) ∧ r = (if A 3 (a * 9 + b).toNatClampNeg = 1000000000 then (-1000000) else A 3 (a * 9 + b).toNatClampNeg) ∧ V' = (if c = A 3 (a * 9 + b).toNatClampNeg then V else zv V 1 8 (V 1 8 + 1)) ∧ A' = za A 3 (upd (A 3) (a * 9 + b).toNatClampNeg c))) := by
  have hni : (nI n).toInt = (n : Int) := nI_toInt (by omega)
  refine CQ.of (lv := [.ref 0, .int a, .int b, .int c]) k_CW_arc.1 rfl (by decide) rfl rfl (Nat.le_of_ble_eq_true rfl) ?_
  refine x_aload_n (pc := 0) d_CW_arc_0 rfl ?_
  refine x_get (pc := 1) (j := 0) d_CW_arc_1 f_CW_10 rfl rfl (Nat.le_of_ble_eq_true rfl) rfl rfl rfl ?_
  refine x_iload_n (pc := 4) d_CW_arc_4 rfl ?_
  refine x_iload_n (pc := 5) d_CW_arc_5 rfl ?_
  refine y_bV (pc := 6) (c_Net_areTwo _ _ _ _) k_Net_areTwo d_CW_arc_6 m_CW_93 (by decide) rfl rfl rfl rfl p_Net_areTwo (K1 := fun q6 => ?_) (K0 := fun q6 => ?_)
  · refine x_if_eq (pc := 9) (tgt := 26) d_CW_arc_9 (by decide) (fun h => absurd h (by decide)) (fun _ => ?_)
    refine x_iload_n (pc := 12) d_CW_arc_12 rfl ?_
    refine x_sipush (pc := 13) (v := (-1000)) d_CW_arc_13 (by decide) ?_
    refine x_icmp_lt (pc := 16) (tgt := 26) d_CW_arc_16 (by decide) (fun h16 => ?_) (fun h16 => ?_)
    · refine x_ldc (pc := 26) (v := (-2000000)) d_CW_arc_26 i_CW_83 ?_
      refine y_iret (pc := 28) d_CW_arc_28 rfl ?_
      first | exact Or.inl (⟨by simp only [z_lt, z_le, z_eq, z_t0, z_t1, z_l100, z_l9, z_l8, z_l2, z_l20, z_l1000, z_lm1000, z_l2000, z_lm1] at *; omega, rfl, rfl, rfl⟩) | exact Or.inr (⟨by simp only [z_lt, z_le, z_eq, z_t0, z_t1, z_l100, z_l9, z_l8, z_l2, z_l20, z_l1000, z_lm1000, z_l2000, z_lm1] at *; omega, rfl, rfl, rfl⟩)
    · refine x_iload_n (pc := 19) d_CW_arc_19 rfl ?_
      refine x_sipush (pc := 20) (v := 1000) d_CW_arc_20 (by decide) ?_
      refine x_icmp_le (pc := 23) (tgt := 29) d_CW_arc_23 (by decide) (fun h23 => ?_) (fun h23 => ?_)
      · refine x_aload_n (pc := 29) d_CW_arc_29 rfl ?_
        refine x_get (pc := 30) (j := 0) d_CW_arc_30 f_CW_10 rfl rfl (Nat.le_of_ble_eq_true rfl) rfl rfl rfl ?_
        refine x_iload_n (pc := 33) d_CW_arc_33 rfl ?_
        refine x_iload_n (pc := 34) d_CW_arc_34 rfl ?_
        refine x_iload_n (pc := 35) d_CW_arc_35 rfl ?_
        refine y_fV (pc := 36) (c_Net_changeCost _ _ _ _ _ (by rw [hn] at q6; exact z_ix q6.1.1 q6.1.2 q6.2.1.1 q6.2.1.2 h9)) k_Net_changeCost d_CW_arc_36 m_CW_97 (by decide) rfl rfl rfl rfl p_Net_changeCost (K := ?_)
        refine y_fS (pc := 39) (c_CW_orNone _ _ _) k_CW_orNone d_CW_arc_39 m_CW_101 (by decide) rfl p_CW_orNone (K := ?_)
        refine y_iret (pc := 42) d_CW_arc_42 rfl ?_
        first | exact Or.inl (⟨by simp only [z_lt, z_le, z_eq, z_t0, z_t1, z_l100, z_l9, z_l8, z_l2, z_l20, z_l1000, z_lm1000, z_l2000, z_lm1] at *; omega, rfl, rfl, rfl⟩) | exact Or.inr (⟨by simp only [z_lt, z_le, z_eq, z_t0, z_t1, z_l100, z_l9, z_l8, z_l2, z_l20, z_l1000, z_lm1000, z_l2000, z_lm1] at *; omega, rfl, rfl, rfl⟩)
      · refine x_ldc (pc := 26) (v := (-2000000)) d_CW_arc_26 i_CW_83 ?_
        refine y_iret (pc := 28) d_CW_arc_28 rfl ?_
        first | exact Or.inl (⟨by simp only [z_lt, z_le, z_eq, z_t0, z_t1, z_l100, z_l9, z_l8, z_l2, z_l20, z_l1000, z_lm1000, z_l2000, z_lm1] at *; omega, rfl, rfl, rfl⟩) | exact Or.inr (⟨by simp only [z_lt, z_le, z_eq, z_t0, z_t1, z_l100, z_l9, z_l8, z_l2, z_l20, z_l1000, z_lm1000, z_l2000, z_lm1] at *; omega, rfl, rfl, rfl⟩)
  · refine x_if_eq (pc := 9) (tgt := 26) d_CW_arc_9 (by decide) (fun _ => ?_) (fun h => absurd h (by decide))
    refine x_ldc (pc := 26) (v := (-2000000)) d_CW_arc_26 i_CW_83 ?_
    refine y_iret (pc := 28) d_CW_arc_28 rfl ?_
    first | exact Or.inl (⟨by simp only [z_lt, z_le, z_eq, z_t0, z_t1, z_l100, z_l9, z_l8, z_l2, z_l20, z_l1000, z_lm1000, z_l2000, z_lm1] at *; omega, rfl, rfl, rfl⟩) | exact Or.inr (⟨by simp only [z_lt, z_le, z_eq, z_t0, z_t1, z_l100, z_l9, z_l8, z_l2, z_l20, z_l1000, z_lm1000, z_l2000, z_lm1] at *; omega, rfl, rfl, rfl⟩)
set_option maxRecDepth 100000 in
set_option maxHeartbeats 4000000 in
theorem c_CW_lose (V A : zV) (a b : Int32) (n : Nat) (hn : V 1 4 = nI n) (h1 : 1 ≤ n) (h9 : n ≤ 9) : CQ Y_CW_lose 2 [.ref 0, .int a, .int b] V A (fun r V' A' => (¬ ((0 ≤ a ∧ a < V 1 4) ∧ (0 ≤ b ∧ b < V 1 4) ∧ ¬ a = b) ∧ r = (-2000000) ∧ V' = V ∧ A' = A) ∨ (((0 ≤ a ∧ a < V 1 4) ∧ (0 ≤ b ∧ b < V 1 4) ∧ ¬ a = b) ∧ r = (if A 3 (a * 9 + b).toNatClampNeg = 1000000000 then (-1000000) else A 3 (a * 9 + b).toNatClampNeg) ∧ V' = (if 1000000000 = A 3 (a * 9 + b).toNatClampNeg then V else zv V 1 8 (V 1 8 + 1)) ∧ A' = za A 3 (upd (A 3) (a * 9 + b).toNatClampNeg 1000000000))) := by
  have hni : (nI n).toInt = (n : Int) := nI_toInt (by omega)
  refine CQ.of (lv := [.ref 0, .int a, .int b]) k_CW_lose.1 rfl (by decide) rfl rfl (Nat.le_of_ble_eq_true rfl) ?_
  refine x_aload_n (pc := 0) d_CW_lose_0 rfl ?_
  refine x_get (pc := 1) (j := 0) d_CW_lose_1 f_CW_10 rfl rfl (Nat.le_of_ble_eq_true rfl) rfl rfl rfl ?_
  refine x_iload_n (pc := 4) d_CW_lose_4 rfl ?_
  refine x_iload_n (pc := 5) d_CW_lose_5 rfl ?_
  refine y_bV (pc := 6) (c_Net_areTwo _ _ _ _) k_Net_areTwo d_CW_lose_6 m_CW_93 (by decide) rfl rfl rfl rfl p_Net_areTwo (K1 := fun q6 => ?_) (K0 := fun q6 => ?_)
  · refine x_if_ne (pc := 9) (tgt := 15) d_CW_lose_9 (by decide) (fun _ => ?_) (fun h => absurd h (by decide))
    refine x_aload_n (pc := 15) d_CW_lose_15 rfl ?_
    refine x_get (pc := 16) (j := 0) d_CW_lose_16 f_CW_10 rfl rfl (Nat.le_of_ble_eq_true rfl) rfl rfl rfl ?_
    refine x_iload_n (pc := 19) d_CW_lose_19 rfl ?_
    refine x_iload_n (pc := 20) d_CW_lose_20 rfl ?_
    refine x_ldc (pc := 21) (v := 1000000000) d_CW_lose_21 i_CW_104 ?_
    refine y_fV (pc := 23) (c_Net_changeCost _ _ _ _ _ (by rw [hn] at q6; exact z_ix q6.1.1 q6.1.2 q6.2.1.1 q6.2.1.2 h9)) k_Net_changeCost d_CW_lose_23 m_CW_97 (by decide) rfl rfl rfl rfl p_Net_changeCost (K := ?_)
    refine y_fS (pc := 26) (c_CW_orNone _ _ _) k_CW_orNone d_CW_lose_26 m_CW_101 (by decide) rfl p_CW_orNone (K := ?_)
    refine y_iret (pc := 29) d_CW_lose_29 rfl ?_
    first | exact Or.inl (⟨by simp only [z_lt, z_le, z_eq, z_t0, z_t1, z_l100, z_l9, z_l8, z_l2, z_l20, z_l1000, z_lm1000, z_l2000, z_lm1] at *; omega, rfl, rfl, rfl⟩) | exact Or.inr (⟨by simp only [z_lt, z_le, z_eq, z_t0, z_t1, z_l100, z_l9, z_l8, z_l2, z_l20, z_l1000, z_lm1000, z_l2000, z_lm1] at *; omega, rfl, rfl, rfl⟩)
  · refine x_if_ne (pc := 9) (tgt := 15) d_CW_lose_9 (by decide) (fun h => absurd h (by decide)) (fun _ => ?_)
    refine x_ldc (pc := 12) (v := (-2000000)) d_CW_lose_12 i_CW_83 ?_
    refine y_iret (pc := 14) d_CW_lose_14 rfl ?_
    first | exact Or.inl (⟨by simp only [z_lt, z_le, z_eq, z_t0, z_t1, z_l100, z_l9, z_l8, z_l2, z_l20, z_l1000, z_lm1000, z_l2000, z_lm1] at *; omega, rfl, rfl, rfl⟩) | exact Or.inr (⟨by simp only [z_lt, z_le, z_eq, z_t0, z_t1, z_l100, z_l9, z_l8, z_l2, z_l20, z_l1000, z_lm1000, z_l2000, z_lm1] at *; omega, rfl, rfl, rfl⟩)
set_option maxRecDepth 100000 in
set_option maxHeartbeats 4000000 in
theorem c_CW_price (V A : zV) (v p : Int32) (n : Nat) (hn : V 1 4 = nI n) (h1 : 1 ≤ n) (h9 : n ≤ 9) : CQ Y_CW_price 1 [.ref 0, .int v, .int p] V A (fun r V' A' => (¬ ((0 < v ∧ v < V 1 4) ∧ (-1) ≤ p ∧ p ≤ 2000) ∧ r = (-2000000) ∧ V' = V ∧ A' = A) ∨ (((0 < v ∧ v < V 1 4) ∧ (-1) ≤ p ∧ p ≤ 2000) ∧ r = A 4 v.toNatClampNeg ∧ V' = zv V 1 8 (V 1 8 + 1) ∧ A' = za A 4 (upd (A 4) v.toNatClampNeg p))) := by
  have hni : (nI n).toInt = (n : Int) := nI_toInt (by omega)
  refine CQ.of (lv := [.ref 0, .int v, .int p]) k_CW_price.1 rfl (by decide) rfl rfl (Nat.le_of_ble_eq_true rfl) ?_
  refine x_aload_n (pc := 0) d_CW_price_0 rfl ?_
  refine x_get (pc := 1) (j := 0) d_CW_price_1 f_CW_10 rfl rfl (Nat.le_of_ble_eq_true rfl) rfl rfl rfl ?_
  refine x_iload_n (pc := 4) d_CW_price_4 rfl ?_
  refine y_bV (pc := 5) (c_Net_isPlace _ _ _) k_Net_isPlace d_CW_price_5 m_CW_105 (by decide) rfl rfl rfl rfl p_Net_isPlace (K1 := fun q5 => ?_) (K0 := fun q5 => ?_)
  · refine x_if_eq (pc := 8) (tgt := 23) d_CW_price_8 (by decide) (fun h => absurd h (by decide)) (fun _ => ?_)
    refine x_iload_n (pc := 11) d_CW_price_11 rfl ?_
    refine x_iconst (pc := 12) (v := (-1)) d_CW_price_12 (by decide) ?_
    refine x_icmp_lt (pc := 13) (tgt := 23) d_CW_price_13 (by decide) (fun h13 => ?_) (fun h13 => ?_)
    · refine x_ldc (pc := 23) (v := (-2000000)) d_CW_price_23 i_CW_83 ?_
      refine y_iret (pc := 25) d_CW_price_25 rfl ?_
      first | exact Or.inl (⟨by simp only [z_lt, z_le, z_eq, z_t0, z_t1, z_l100, z_l9, z_l8, z_l2, z_l20, z_l1000, z_lm1000, z_l2000, z_lm1] at *; omega, rfl, rfl, rfl⟩) | exact Or.inr (⟨by simp only [z_lt, z_le, z_eq, z_t0, z_t1, z_l100, z_l9, z_l8, z_l2, z_l20, z_l1000, z_lm1000, z_l2000, z_lm1] at *; omega, rfl, rfl, rfl⟩)
    · refine x_iload_n (pc := 16) d_CW_price_16 rfl ?_
      refine x_sipush (pc := 17) (v := 2000) d_CW_price_17 (by decide) ?_
      refine x_icmp_le (pc := 20) (tgt := 26) d_CW_price_20 (by decide) (fun h20 => ?_) (fun h20 => ?_)
      · refine x_aload_n (pc := 26) d_CW_price_26 rfl ?_
        refine x_get (pc := 27) (j := 0) d_CW_price_27 f_CW_10 rfl rfl (Nat.le_of_ble_eq_true rfl) rfl rfl rfl ?_
        refine x_iload_n (pc := 30) d_CW_price_30 rfl ?_
        refine x_iload_n (pc := 31) d_CW_price_31 rfl ?_
        refine y_fV (pc := 32) (c_Net_changePrice _ _ _ _ (by refine z_vin ?_ ?_ <;> simp only [z_lt, z_le, z_eq, z_t0, z_t1, z_l100, z_l9, z_l8, z_l2, z_l20, z_l1000, z_lm1000, z_l2000, z_lm1] at * <;> omega)) k_Net_changePrice d_CW_price_32 m_CW_109 (by decide) rfl rfl rfl rfl p_Net_changePrice (K := ?_)
        refine y_iret (pc := 35) d_CW_price_35 rfl ?_
        first | exact Or.inl (⟨by simp only [z_lt, z_le, z_eq, z_t0, z_t1, z_l100, z_l9, z_l8, z_l2, z_l20, z_l1000, z_lm1000, z_l2000, z_lm1] at *; omega, rfl, rfl, rfl⟩) | exact Or.inr (⟨by simp only [z_lt, z_le, z_eq, z_t0, z_t1, z_l100, z_l9, z_l8, z_l2, z_l20, z_l1000, z_lm1000, z_l2000, z_lm1] at *; omega, rfl, rfl, rfl⟩)
      · refine x_ldc (pc := 23) (v := (-2000000)) d_CW_price_23 i_CW_83 ?_
        refine y_iret (pc := 25) d_CW_price_25 rfl ?_
        first | exact Or.inl (⟨by simp only [z_lt, z_le, z_eq, z_t0, z_t1, z_l100, z_l9, z_l8, z_l2, z_l20, z_l1000, z_lm1000, z_l2000, z_lm1] at *; omega, rfl, rfl, rfl⟩) | exact Or.inr (⟨by simp only [z_lt, z_le, z_eq, z_t0, z_t1, z_l100, z_l9, z_l8, z_l2, z_l20, z_l1000, z_lm1000, z_l2000, z_lm1] at *; omega, rfl, rfl, rfl⟩)
  · refine x_if_eq (pc := 8) (tgt := 23) d_CW_price_8 (by decide) (fun _ => ?_) (fun h => absurd h (by decide))
    refine x_ldc (pc := 23) (v := (-2000000)) d_CW_price_23 i_CW_83 ?_
    refine y_iret (pc := 25) d_CW_price_25 rfl ?_
    first | exact Or.inl (⟨by simp only [z_lt, z_le, z_eq, z_t0, z_t1, z_l100, z_l9, z_l8, z_l2, z_l20, z_l1000, z_lm1000, z_l2000, z_lm1] at *; omega, rfl, rfl, rfl⟩) | exact Or.inr (⟨by simp only [z_lt, z_le, z_eq, z_t0, z_t1, z_l100, z_l9, z_l8, z_l2, z_l20, z_l1000, z_lm1000, z_l2000, z_lm1] at *; omega, rfl, rfl, rfl⟩)
set_option maxRecDepth 100000 in
set_option maxHeartbeats 4000000 in
theorem c_CW_ahead (V A : zV) (a b on : Int32) (n : Nat) (hn : V 1 4 = nI n) (h1 : 1 ≤ n) (h9 : n ≤ 9) : CQ Y_CW_ahead 2 [.ref 0, .int a, .int b, .int on] V A (fun r V' A' => (¬ (((0 ≤ a ∧ a < V 1 4) ∧ (0 ≤ b ∧ b < V 1 4) ∧ ¬ a = b) ∧ ¬ a = 0 ∧ ¬ b = 0) ∧ r = (-2000000) ∧ V' = V ∧ A' = A) ∨ ((((0 ≤ a ∧ a < V 1 4) ∧ (0 ≤ b ∧ b < V 1 4) ∧ ¬ a = b) ∧ ¬ a = 0 ∧ ¬ b = 0) ∧ r = (if A 5 b.toNatClampNeg &&& ((1 : Int32) <<< ((a - 1) &&& 31)) = 0 then 0 else 1) ∧ V' = zv V 1 8 (V 1 8 + 1) ∧ A' = za A 5 (upd (A 5) b.toNatClampNeg (if on = 0 then A 5 b.toNatClampNeg &&& (((1 : Int32) <<< ((a - 1) &&& 31)) ^^^ (-1)) else A 5 b.toNatClampNeg ||| ((1 : Int32) <<< ((a - 1) &&& 31)))))) := by
  have hni : (nI n).toInt = (n : Int) := nI_toInt (by omega)
  refine CQ.of (lv := [.ref 0, .int a, .int b, .int on]) k_CW_ahead.1 rfl (by decide) rfl rfl (Nat.le_of_ble_eq_true rfl) ?_
  refine x_aload_n (pc := 0) d_CW_ahead_0 rfl ?_
  refine x_get (pc := 1) (j := 0) d_CW_ahead_1 f_CW_10 rfl rfl (Nat.le_of_ble_eq_true rfl) rfl rfl rfl ?_
  refine x_iload_n (pc := 4) d_CW_ahead_4 rfl ?_
  refine x_iload_n (pc := 5) d_CW_ahead_5 rfl ?_
  refine y_bV (pc := 6) (c_Net_areTwo _ _ _ _) k_Net_areTwo d_CW_ahead_6 m_CW_93 (by decide) rfl rfl rfl rfl p_Net_areTwo (K1 := fun q6 => ?_) (K0 := fun q6 => ?_)
  · refine x_if_eq (pc := 9) (tgt := 20) d_CW_ahead_9 (by decide) (fun h => absurd h (by decide)) (fun _ => ?_)
    refine x_iload_n (pc := 12) d_CW_ahead_12 rfl ?_
    refine x_if_eq (pc := 13) (tgt := 20) d_CW_ahead_13 (by decide) (fun h13 => ?_) (fun h13 => ?_)
    · refine x_ldc (pc := 20) (v := (-2000000)) d_CW_ahead_20 i_CW_83 ?_
      refine y_iret (pc := 22) d_CW_ahead_22 rfl ?_
      first | exact Or.inl (⟨by simp only [z_lt, z_le, z_eq, z_t0, z_t1, z_l100, z_l9, z_l8, z_l2, z_l20, z_l1000, z_lm1000, z_l2000, z_lm1] at *; omega, rfl, rfl, rfl⟩) | exact Or.inr (⟨by simp only [z_lt, z_le, z_eq, z_t0, z_t1, z_l100, z_l9, z_l8, z_l2, z_l20, z_l1000, z_lm1000, z_l2000, z_lm1] at *; omega, rfl, rfl, rfl⟩)
    · refine x_iload_n (pc := 16) d_CW_ahead_16 rfl ?_
      refine x_if_ne (pc := 17) (tgt := 23) d_CW_ahead_17 (by decide) (fun h17 => ?_) (fun h17 => ?_)
      · refine x_aload_n (pc := 23) d_CW_ahead_23 rfl ?_
        refine x_get (pc := 24) (j := 0) d_CW_ahead_24 f_CW_10 rfl rfl (Nat.le_of_ble_eq_true rfl) rfl rfl rfl ?_
        refine x_iload_n (pc := 27) d_CW_ahead_27 rfl ?_
        refine x_iload_n (pc := 28) d_CW_ahead_28 rfl ?_
        refine x_iload_n (pc := 29) d_CW_ahead_29 rfl ?_
        refine y_fV (pc := 30) (c_Net_changeEarlier _ _ _ _ _ (by refine z_vin ?_ ?_ <;> simp only [z_lt, z_le, z_eq, z_t0, z_t1, z_l100, z_l9, z_l8, z_l2, z_l20, z_l1000, z_lm1000, z_l2000, z_lm1] at * <;> omega)) k_Net_changeEarlier d_CW_ahead_30 m_CW_113 (by decide) rfl rfl rfl rfl p_Net_changeEarlier (K := ?_)
        refine y_iret (pc := 33) d_CW_ahead_33 rfl ?_
        first | exact Or.inl (⟨by simp only [z_lt, z_le, z_eq, z_t0, z_t1, z_l100, z_l9, z_l8, z_l2, z_l20, z_l1000, z_lm1000, z_l2000, z_lm1] at *; omega, rfl, rfl, rfl⟩) | exact Or.inr (⟨by simp only [z_lt, z_le, z_eq, z_t0, z_t1, z_l100, z_l9, z_l8, z_l2, z_l20, z_l1000, z_lm1000, z_l2000, z_lm1] at *; omega, rfl, rfl, rfl⟩)
      · refine x_ldc (pc := 20) (v := (-2000000)) d_CW_ahead_20 i_CW_83 ?_
        refine y_iret (pc := 22) d_CW_ahead_22 rfl ?_
        first | exact Or.inl (⟨by simp only [z_lt, z_le, z_eq, z_t0, z_t1, z_l100, z_l9, z_l8, z_l2, z_l20, z_l1000, z_lm1000, z_l2000, z_lm1] at *; omega, rfl, rfl, rfl⟩) | exact Or.inr (⟨by simp only [z_lt, z_le, z_eq, z_t0, z_t1, z_l100, z_l9, z_l8, z_l2, z_l20, z_l1000, z_lm1000, z_l2000, z_lm1] at *; omega, rfl, rfl, rfl⟩)
  · refine x_if_eq (pc := 9) (tgt := 20) d_CW_ahead_9 (by decide) (fun _ => ?_) (fun h => absurd h (by decide))
    refine x_ldc (pc := 20) (v := (-2000000)) d_CW_ahead_20 i_CW_83 ?_
    refine y_iret (pc := 22) d_CW_ahead_22 rfl ?_
    first | exact Or.inl (⟨by simp only [z_lt, z_le, z_eq, z_t0, z_t1, z_l100, z_l9, z_l8, z_l2, z_l20, z_l1000, z_lm1000, z_l2000, z_lm1] at *; omega, rfl, rfl, rfl⟩) | exact Or.inr (⟨by simp only [z_lt, z_le, z_eq, z_t0, z_t1, z_l100, z_l9, z_l8, z_l2, z_l20, z_l1000, z_lm1000, z_l2000, z_lm1] at *; omega, rfl, rfl, rfl⟩)
set_option maxRecDepth 100000 in
set_option maxHeartbeats 4000000 in
theorem c_CW_rule0 (V A : zV) (v : Int32) : CQ Y_CW_rule 1 [.ref 0, .int 0, .int v] V A (fun r V' A' => (¬ (1 ≤ v ∧ v ≤ 8) ∧ r = (-2000000) ∧ V' = V ∧ A' = A) ∨ ((1 ≤ v ∧ v ≤ 8) ∧ r = V 1 5 ∧ V' = zv (zv V 1 5 v) 1 8 (V 1 8 + 1) ∧ A' = A)) := by
  refine CQ.of (lv := [.ref 0, .int 0, .int v]) k_CW_rule.1 rfl (by decide) rfl rfl (Nat.le_of_ble_eq_true rfl) ?_
  refine x_iload_n (pc := 0) d_CW_rule_0 rfl ?_
  refine x_sw_in (pc := 1) (off := 27) (tgt := 28) d_CW_rule_1 (by decide) (by decide) rfl (by decide) ?_
  refine x_iload_n (pc := 28) d_CW_rule_28 rfl ?_
  refine x_iconst (pc := 29) (v := 1) d_CW_rule_29 (by decide) ?_
  refine x_icmp_lt (pc := 30) (tgt := 39) d_CW_rule_30 (by decide) (fun h30 => ?_) (fun h30 => ?_)
  · refine x_ldc (pc := 39) (v := (-2000000)) d_CW_rule_39 i_CW_83 ?_
    refine x_goto (pc := 41) (tgt := 52) d_CW_rule_41 (by decide) ?_
    refine y_iret (pc := 52) d_CW_rule_52 rfl ?_
    first | exact Or.inl (⟨by simp only [z_lt, z_le, z_eq, z_t0, z_t1, z_l100, z_l9, z_l8, z_l2, z_l20, z_l1000, z_lm1000, z_l2000, z_lm1] at *; omega, rfl, rfl, rfl⟩) | exact Or.inr (⟨by simp only [z_lt, z_le, z_eq, z_t0, z_t1, z_l100, z_l9, z_l8, z_l2, z_l20, z_l1000, z_lm1000, z_l2000, z_lm1] at *; omega, rfl, rfl, rfl⟩)
  · refine x_iload_n (pc := 33) d_CW_rule_33 rfl ?_
    refine x_bipush (pc := 34) (v := 8) d_CW_rule_34 (by decide) ?_
    refine x_icmp_le (pc := 36) (tgt := 44) d_CW_rule_36 (by decide) (fun h36 => ?_) (fun h36 => ?_)
    · refine x_aload_n (pc := 44) d_CW_rule_44 rfl ?_
      refine x_get (pc := 45) (j := 0) d_CW_rule_45 f_CW_10 rfl rfl (Nat.le_of_ble_eq_true rfl) rfl rfl rfl ?_
      refine x_iload_n (pc := 48) d_CW_rule_48 rfl ?_
      refine y_fV (pc := 49) (c_Net_changeMost _ _ _) k_Net_changeMost d_CW_rule_49 m_CW_117 (by decide) rfl rfl rfl rfl p_Net_changeMost (K := ?_)
      refine y_iret (pc := 52) d_CW_rule_52 rfl ?_
      first | exact Or.inl (⟨by simp only [z_lt, z_le, z_eq, z_t0, z_t1, z_l100, z_l9, z_l8, z_l2, z_l20, z_l1000, z_lm1000, z_l2000, z_lm1] at *; omega, rfl, rfl, rfl⟩) | exact Or.inr (⟨by simp only [z_lt, z_le, z_eq, z_t0, z_t1, z_l100, z_l9, z_l8, z_l2, z_l20, z_l1000, z_lm1000, z_l2000, z_lm1] at *; omega, rfl, rfl, rfl⟩)
    · refine x_ldc (pc := 39) (v := (-2000000)) d_CW_rule_39 i_CW_83 ?_
      refine x_goto (pc := 41) (tgt := 52) d_CW_rule_41 (by decide) ?_
      refine y_iret (pc := 52) d_CW_rule_52 rfl ?_
      first | exact Or.inl (⟨by simp only [z_lt, z_le, z_eq, z_t0, z_t1, z_l100, z_l9, z_l8, z_l2, z_l20, z_l1000, z_lm1000, z_l2000, z_lm1] at *; omega, rfl, rfl, rfl⟩) | exact Or.inr (⟨by simp only [z_lt, z_le, z_eq, z_t0, z_t1, z_l100, z_l9, z_l8, z_l2, z_l20, z_l1000, z_lm1000, z_l2000, z_lm1] at *; omega, rfl, rfl, rfl⟩)
set_option maxRecDepth 100000 in
set_option maxHeartbeats 4000000 in
theorem c_CW_rule1 (V A : zV) (v : Int32) : CQ Y_CW_rule 1 [.ref 0, .int 1, .int v] V A (fun r V' A' => (¬ (0 ≤ v ∧ v ≤ 1000) ∧ r = (-2000000) ∧ V' = V ∧ A' = A) ∨ ((0 ≤ v ∧ v ≤ 1000) ∧ r = V 1 6 ∧ V' = zv (zv V 1 6 v) 1 8 (V 1 8 + 1) ∧ A' = A)) := by
  refine CQ.of (lv := [.ref 0, .int 1, .int v]) k_CW_rule.1 rfl (by decide) rfl rfl (Nat.le_of_ble_eq_true rfl) ?_
  refine x_iload_n (pc := 0) d_CW_rule_0 rfl ?_
  refine x_sw_in (pc := 1) (off := 52) (tgt := 53) d_CW_rule_1 (by decide) (by decide) rfl (by decide) ?_
  refine x_iload_n (pc := 53) d_CW_rule_53 rfl ?_
  refine x_if_lt (pc := 54) (tgt := 64) d_CW_rule_54 (by decide) (fun h54 => ?_) (fun h54 => ?_)
  · refine x_ldc (pc := 64) (v := (-2000000)) d_CW_rule_64 i_CW_83 ?_
    refine x_goto (pc := 66) (tgt := 77) d_CW_rule_66 (by decide) ?_
    refine y_iret (pc := 77) d_CW_rule_77 rfl ?_
    first | exact Or.inl (⟨by simp only [z_lt, z_le, z_eq, z_t0, z_t1, z_l100, z_l9, z_l8, z_l2, z_l20, z_l1000, z_lm1000, z_l2000, z_lm1] at *; omega, rfl, rfl, rfl⟩) | exact Or.inr (⟨by simp only [z_lt, z_le, z_eq, z_t0, z_t1, z_l100, z_l9, z_l8, z_l2, z_l20, z_l1000, z_lm1000, z_l2000, z_lm1] at *; omega, rfl, rfl, rfl⟩)
  · refine x_iload_n (pc := 57) d_CW_rule_57 rfl ?_
    refine x_sipush (pc := 58) (v := 1000) d_CW_rule_58 (by decide) ?_
    refine x_icmp_le (pc := 61) (tgt := 69) d_CW_rule_61 (by decide) (fun h61 => ?_) (fun h61 => ?_)
    · refine x_aload_n (pc := 69) d_CW_rule_69 rfl ?_
      refine x_get (pc := 70) (j := 0) d_CW_rule_70 f_CW_10 rfl rfl (Nat.le_of_ble_eq_true rfl) rfl rfl rfl ?_
      refine x_iload_n (pc := 73) d_CW_rule_73 rfl ?_
      refine y_fV (pc := 74) (c_Net_changeRoom _ _ _) k_Net_changeRoom d_CW_rule_74 m_CW_120 (by decide) rfl rfl rfl rfl p_Net_changeRoom (K := ?_)
      refine y_iret (pc := 77) d_CW_rule_77 rfl ?_
      first | exact Or.inl (⟨by simp only [z_lt, z_le, z_eq, z_t0, z_t1, z_l100, z_l9, z_l8, z_l2, z_l20, z_l1000, z_lm1000, z_l2000, z_lm1] at *; omega, rfl, rfl, rfl⟩) | exact Or.inr (⟨by simp only [z_lt, z_le, z_eq, z_t0, z_t1, z_l100, z_l9, z_l8, z_l2, z_l20, z_l1000, z_lm1000, z_l2000, z_lm1] at *; omega, rfl, rfl, rfl⟩)
    · refine x_ldc (pc := 64) (v := (-2000000)) d_CW_rule_64 i_CW_83 ?_
      refine x_goto (pc := 66) (tgt := 77) d_CW_rule_66 (by decide) ?_
      refine y_iret (pc := 77) d_CW_rule_77 rfl ?_
      first | exact Or.inl (⟨by simp only [z_lt, z_le, z_eq, z_t0, z_t1, z_l100, z_l9, z_l8, z_l2, z_l20, z_l1000, z_lm1000, z_l2000, z_lm1] at *; omega, rfl, rfl, rfl⟩) | exact Or.inr (⟨by simp only [z_lt, z_le, z_eq, z_t0, z_t1, z_l100, z_l9, z_l8, z_l2, z_l20, z_l1000, z_lm1000, z_l2000, z_lm1] at *; omega, rfl, rfl, rfl⟩)
set_option maxRecDepth 100000 in
set_option maxHeartbeats 4000000 in
theorem c_CW_rule2 (V A : zV) (v : Int32) : CQ Y_CW_rule 1 [.ref 0, .int 2, .int v] V A (fun r V' A' => (¬ (0 ≤ v ∧ v ≤ 1) ∧ r = (-2000000) ∧ V' = V ∧ A' = A) ∨ ((0 ≤ v ∧ v ≤ 1) ∧ r = V 1 7 ∧ V' = zv (zv V 1 7 v) 1 8 (V 1 8 + 1) ∧ A' = A)) := by
  refine CQ.of (lv := [.ref 0, .int 2, .int v]) k_CW_rule.1 rfl (by decide) rfl rfl (Nat.le_of_ble_eq_true rfl) ?_
  refine x_iload_n (pc := 0) d_CW_rule_0 rfl ?_
  refine x_sw_in (pc := 1) (off := 77) (tgt := 78) d_CW_rule_1 (by decide) (by decide) rfl (by decide) ?_
  refine x_iload_n (pc := 78) d_CW_rule_78 rfl ?_
  refine x_if_lt (pc := 79) (tgt := 87) d_CW_rule_79 (by decide) (fun h79 => ?_) (fun h79 => ?_)
  · refine x_ldc (pc := 87) (v := (-2000000)) d_CW_rule_87 i_CW_83 ?_
    refine x_goto (pc := 89) (tgt := 100) d_CW_rule_89 (by decide) ?_
    refine y_iret (pc := 100) d_CW_rule_100 rfl ?_
    first | exact Or.inl (⟨by simp only [z_lt, z_le, z_eq, z_t0, z_t1, z_l100, z_l9, z_l8, z_l2, z_l20, z_l1000, z_lm1000, z_l2000, z_lm1] at *; omega, rfl, rfl, rfl⟩) | exact Or.inr (⟨by simp only [z_lt, z_le, z_eq, z_t0, z_t1, z_l100, z_l9, z_l8, z_l2, z_l20, z_l1000, z_lm1000, z_l2000, z_lm1] at *; omega, rfl, rfl, rfl⟩)
  · refine x_iload_n (pc := 82) d_CW_rule_82 rfl ?_
    refine x_iconst (pc := 83) (v := 1) d_CW_rule_83 (by decide) ?_
    refine x_icmp_le (pc := 84) (tgt := 92) d_CW_rule_84 (by decide) (fun h84 => ?_) (fun h84 => ?_)
    · refine x_aload_n (pc := 92) d_CW_rule_92 rfl ?_
      refine x_get (pc := 93) (j := 0) d_CW_rule_93 f_CW_10 rfl rfl (Nat.le_of_ble_eq_true rfl) rfl rfl rfl ?_
      refine x_iload_n (pc := 96) d_CW_rule_96 rfl ?_
      refine y_fV (pc := 97) (c_Net_changeOpen _ _ _) k_Net_changeOpen d_CW_rule_97 m_CW_123 (by decide) rfl rfl rfl rfl p_Net_changeOpen (K := ?_)
      refine y_iret (pc := 100) d_CW_rule_100 rfl ?_
      first | exact Or.inl (⟨by simp only [z_lt, z_le, z_eq, z_t0, z_t1, z_l100, z_l9, z_l8, z_l2, z_l20, z_l1000, z_lm1000, z_l2000, z_lm1] at *; omega, rfl, rfl, rfl⟩) | exact Or.inr (⟨by simp only [z_lt, z_le, z_eq, z_t0, z_t1, z_l100, z_l9, z_l8, z_l2, z_l20, z_l1000, z_lm1000, z_l2000, z_lm1] at *; omega, rfl, rfl, rfl⟩)
    · refine x_ldc (pc := 87) (v := (-2000000)) d_CW_rule_87 i_CW_83 ?_
      refine x_goto (pc := 89) (tgt := 100) d_CW_rule_89 (by decide) ?_
      refine y_iret (pc := 100) d_CW_rule_100 rfl ?_
      first | exact Or.inl (⟨by simp only [z_lt, z_le, z_eq, z_t0, z_t1, z_l100, z_l9, z_l8, z_l2, z_l20, z_l1000, z_lm1000, z_l2000, z_lm1] at *; omega, rfl, rfl, rfl⟩) | exact Or.inr (⟨by simp only [z_lt, z_le, z_eq, z_t0, z_t1, z_l100, z_l9, z_l8, z_l2, z_l20, z_l1000, z_lm1000, z_l2000, z_lm1] at *; omega, rfl, rfl, rfl⟩)
set_option maxRecDepth 100000 in
set_option maxHeartbeats 4000000 in
theorem c_CW_rulex (V A : zV) (w v : Int32) (hw : w.toInt < 0 ∨ 2 < w.toInt) : CQ Y_CW_rule 1 [.ref 0, .int w, .int v] V A (fun r V' A' => r = (-2000000) ∧ V' = V ∧ A' = A) := by
  refine CQ.of (lv := [.ref 0, .int w, .int v]) k_CW_rule.1 rfl (by decide) rfl rfl (Nat.le_of_ble_eq_true rfl) ?_
  refine x_iload_n (pc := 0) d_CW_rule_0 rfl ?_
  refine x_sw_out (pc := 1) (tgt := 101) d_CW_rule_1 hw (by decide) ?_
  refine x_ldc (pc := 101) (v := (-2000000)) d_CW_rule_101 i_CW_83 ?_
  refine y_iret (pc := 103) d_CW_rule_103 rfl ?_
  exact ⟨rfl, rfl, rfl⟩
set_option maxRecDepth 100000 in
set_option maxHeartbeats 4000000 in
theorem c_Tre_changeWeight (V A : zV) (v w : Int32) (hv : vp_in v 9) : CQ Y_Tre_changeWeight 0 [.ref 21, .int v, .int w] V A (fun r V' A' => r = A 22 v.toNatClampNeg ∧ V' = V ∧ A' = za A 22 (upd (A 22) v.toNatClampNeg w)) := by
  refine CQ.of (lv := [.ref 21, .int v, .int w, zu]) k_Tre_changeWeight.1 rfl (by decide) rfl rfl (Nat.le_of_ble_eq_true rfl) ?_
  refine x_aload_n (pc := 0) d_Tre_changeWeight_0 rfl ?_
  refine x_get (pc := 1) (j := 1) d_Tre_changeWeight_1 f_Tre_9 rfl rfl (Nat.le_of_ble_eq_true rfl) rfl rfl rfl ?_
  refine x_iload_n (pc := 4) d_Tre_changeWeight_4 rfl ?_
  refine x_iald (pc := 5) d_Tre_changeWeight_5 rfl hv ?_
  refine y_ist3 (pc := 6) d_Tre_changeWeight_6 ?_
  refine x_aload_n (pc := 7) d_Tre_changeWeight_7 rfl ?_
  refine x_get (pc := 8) (j := 1) d_Tre_changeWeight_8 f_Tre_9 rfl rfl (Nat.le_of_ble_eq_true rfl) rfl rfl rfl ?_
  refine x_iload_n (pc := 11) d_Tre_changeWeight_11 rfl ?_
  refine x_iload_n (pc := 12) d_Tre_changeWeight_12 rfl ?_
  refine y_iast (pc := 13) d_Tre_changeWeight_13 rfl (fun _ => rfl) hv ?_
  refine x_iload_n (pc := 14) d_Tre_changeWeight_14 rfl ?_
  refine y_iret (pc := 15) d_Tre_changeWeight_15 rfl ?_
  exact ⟨rfl, rfl, rfl⟩
set_option maxRecDepth 100000 in
set_option maxHeartbeats 4000000 in
theorem c_Cir_changeFollower (V A : zV) (v w : Int32) (hv : vp_in v 9) : CQ Y_Cir_changeFollower 0 [.ref 28, .int v, .int w] V A (fun r V' A' => r = A 29 v.toNatClampNeg ∧ V' = V ∧ A' = za A 29 (upd (A 29) v.toNatClampNeg w)) := by
  refine CQ.of (lv := [.ref 28, .int v, .int w, zu]) k_Cir_changeFollower.1 rfl (by decide) rfl rfl (Nat.le_of_ble_eq_true rfl) ?_
  refine x_aload_n (pc := 0) d_Cir_changeFollower_0 rfl ?_
  refine x_get (pc := 1) (j := 1) d_Cir_changeFollower_1 f_Cir_9 rfl rfl (Nat.le_of_ble_eq_true rfl) rfl rfl rfl ?_
  refine x_iload_n (pc := 4) d_Cir_changeFollower_4 rfl ?_
  refine x_iald (pc := 5) d_Cir_changeFollower_5 rfl hv ?_
  refine y_ist3 (pc := 6) d_Cir_changeFollower_6 ?_
  refine x_aload_n (pc := 7) d_Cir_changeFollower_7 rfl ?_
  refine x_get (pc := 8) (j := 1) d_Cir_changeFollower_8 f_Cir_9 rfl rfl (Nat.le_of_ble_eq_true rfl) rfl rfl rfl ?_
  refine x_iload_n (pc := 11) d_Cir_changeFollower_11 rfl ?_
  refine x_iload_n (pc := 12) d_Cir_changeFollower_12 rfl ?_
  refine y_iast (pc := 13) d_Cir_changeFollower_13 rfl (fun _ => rfl) hv ?_
  refine x_iload_n (pc := 14) d_Cir_changeFollower_14 rfl ?_
  refine y_iret (pc := 15) d_Cir_changeFollower_15 rfl ?_
  exact ⟨rfl, rfl, rfl⟩
set_option maxRecDepth 100000 in
set_option maxHeartbeats 4000000 in
theorem c_Row_append (V A : zV) (v : Int32) (hv : vp_in (V 33 3) 20) : CQ Y_Row_append 0 [.ref 33, .int v] V A (fun r V' A' => r = V 33 3 + 1 ∧ V' = zv V 33 3 (V 33 3 + 1) ∧ A' = za A 34 (upd (A 34) (V 33 3).toNatClampNeg v)) := by
  refine CQ.of (lv := [.ref 33, .int v]) k_Row_append.1 rfl (by decide) rfl rfl (Nat.le_of_ble_eq_true rfl) ?_
  refine x_aload_n (pc := 0) d_Row_append_0 rfl ?_
  refine x_get (pc := 1) (j := 1) d_Row_append_1 f_Row_9 rfl rfl (Nat.le_of_ble_eq_true rfl) rfl rfl rfl ?_
  refine x_aload_n (pc := 4) d_Row_append_4 rfl ?_
  refine x_get (pc := 5) (j := 3) d_Row_append_5 f_Row_18 rfl rfl (Nat.le_of_ble_eq_true rfl) rfl rfl rfl ?_
  refine x_iload_n (pc := 8) d_Row_append_8 rfl ?_
  refine y_iast (pc := 9) d_Row_append_9 rfl (fun _ => rfl) hv ?_
  refine x_aload_n (pc := 10) d_Row_append_10 rfl ?_
  refine x_dup (pc := 11) d_Row_append_11 rfl ?_
  refine x_get (pc := 12) (j := 3) d_Row_append_12 f_Row_18 rfl rfl (Nat.le_of_ble_eq_true rfl) rfl rfl rfl ?_
  refine x_iconst (pc := 15) (v := 1) d_Row_append_15 (by decide) ?_
  refine x_iadd (pc := 16) d_Row_append_16 ?_
  refine y_put (pc := 17) (j := 3) d_Row_append_17 f_Row_18 rfl rfl (Nat.le_of_ble_eq_true rfl) rfl (Nat.le_of_ble_eq_true rfl) rfl rfl (fun _ => rfl) ?_
  refine x_aload_n (pc := 20) d_Row_append_20 rfl ?_
  refine x_get (pc := 21) (j := 3) d_Row_append_21 f_Row_18 rfl rfl (Nat.le_of_ble_eq_true rfl) rfl rfl rfl ?_
  refine y_iret (pc := 24) d_Row_append_24 rfl ?_
  exact ⟨rfl, rfl, rfl⟩
set_option maxRecDepth 100000 in
set_option maxHeartbeats 4000000 in
theorem c_Row_cut (V A : zV) (v : Int32) : CQ Y_Row_cut 0 [.ref 33, .int v] V A (fun r V' A' => r = V 33 3 ∧ V' = zv V 33 3 v ∧ A' = A) := by
  refine CQ.of (lv := [.ref 33, .int v, zu]) k_Row_cut.1 rfl (by decide) rfl rfl (Nat.le_of_ble_eq_true rfl) ?_
  refine x_aload_n (pc := 0) d_Row_cut_0 rfl ?_
  refine x_get (pc := 1) (j := 3) d_Row_cut_1 f_Row_18 rfl rfl (Nat.le_of_ble_eq_true rfl) rfl rfl rfl ?_
  refine y_ist2 (pc := 4) d_Row_cut_4 ?_
  refine x_aload_n (pc := 5) d_Row_cut_5 rfl ?_
  refine x_iload_n (pc := 6) d_Row_cut_6 rfl ?_
  refine y_put (pc := 7) (j := 3) d_Row_cut_7 f_Row_18 rfl rfl (Nat.le_of_ble_eq_true rfl) rfl (Nat.le_of_ble_eq_true rfl) rfl rfl (fun _ => rfl) ?_
  refine x_iload_n (pc := 10) d_Row_cut_10 rfl ?_
  refine y_iret (pc := 11) d_Row_cut_11 rfl ?_
  exact ⟨rfl, rfl, rfl⟩
set_option maxRecDepth 100000 in
set_option maxHeartbeats 4000000 in
theorem c_CW_weight (V A : zV) (v w : Int32) (n : Nat) (hn : V 1 4 = nI n) (h1 : 1 ≤ n) (h9 : n ≤ 9) : CQ Y_CW_weight 1 [.ref 0, .int v, .int w] V A (fun r V' A' => (¬ ((0 ≤ v ∧ v < V 1 4) ∧ (-1000) ≤ w ∧ w ≤ 1000) ∧ r = (-2000000) ∧ V' = V ∧ A' = A) ∨ (((0 ≤ v ∧ v < V 1 4) ∧ (-1000) ≤ w ∧ w ≤ 1000) ∧ r = A 22 v.toNatClampNeg ∧ V' = V ∧ A' = za A 22 (upd (A 22) v.toNatClampNeg w))) := by
  have hni : (nI n).toInt = (n : Int) := nI_toInt (by omega)
  refine CQ.of (lv := [.ref 0, .int v, .int w]) k_CW_weight.1 rfl (by decide) rfl rfl (Nat.le_of_ble_eq_true rfl) ?_
  refine x_aload_n (pc := 0) d_CW_weight_0 rfl ?_
  refine x_get (pc := 1) (j := 0) d_CW_weight_1 f_CW_10 rfl rfl (Nat.le_of_ble_eq_true rfl) rfl rfl rfl ?_
  refine x_iload_n (pc := 4) d_CW_weight_4 rfl ?_
  refine y_bV (pc := 5) (c_Net_isNode _ _ _) k_Net_isNode d_CW_weight_5 m_CW_165 (by decide) rfl rfl rfl rfl p_Net_isNode (K1 := fun q5 => ?_) (K0 := fun q5 => ?_)
  · refine x_if_eq (pc := 8) (tgt := 25) d_CW_weight_8 (by decide) (fun h => absurd h (by decide)) (fun _ => ?_)
    refine x_iload_n (pc := 11) d_CW_weight_11 rfl ?_
    refine x_sipush (pc := 12) (v := (-1000)) d_CW_weight_12 (by decide) ?_
    refine x_icmp_lt (pc := 15) (tgt := 25) d_CW_weight_15 (by decide) (fun h15 => ?_) (fun h15 => ?_)
    · refine x_ldc (pc := 25) (v := (-2000000)) d_CW_weight_25 i_CW_83 ?_
      refine y_iret (pc := 27) d_CW_weight_27 rfl ?_
      first | exact Or.inl (⟨by simp only [z_lt, z_le, z_eq, z_t0, z_t1, z_l100, z_l9, z_l8, z_l2, z_l20, z_l1000, z_lm1000, z_l2000, z_lm1] at *; omega, rfl, rfl, rfl⟩) | exact Or.inr (⟨by simp only [z_lt, z_le, z_eq, z_t0, z_t1, z_l100, z_l9, z_l8, z_l2, z_l20, z_l1000, z_lm1000, z_l2000, z_lm1] at *; omega, rfl, rfl, rfl⟩)
    · refine x_iload_n (pc := 18) d_CW_weight_18 rfl ?_
      refine x_sipush (pc := 19) (v := 1000) d_CW_weight_19 (by decide) ?_
      refine x_icmp_le (pc := 22) (tgt := 28) d_CW_weight_22 (by decide) (fun h22 => ?_) (fun h22 => ?_)
      · refine x_aload_n (pc := 28) d_CW_weight_28 rfl ?_
        refine x_get (pc := 29) (j := 4) d_CW_weight_29 f_CW_51 rfl rfl (Nat.le_of_ble_eq_true rfl) rfl rfl rfl ?_
        refine x_iload_n (pc := 32) d_CW_weight_32 rfl ?_
        refine x_iload_n (pc := 33) d_CW_weight_33 rfl ?_
        refine y_fV (pc := 34) (c_Tre_changeWeight _ _ _ _ (by refine z_vin ?_ ?_ <;> simp only [z_lt, z_le, z_eq, z_t0, z_t1, z_l100, z_l9, z_l8, z_l2, z_l20, z_l1000, z_lm1000, z_l2000, z_lm1] at * <;> omega)) k_Tre_changeWeight d_CW_weight_34 m_CW_168 (by decide) rfl rfl rfl rfl p_Tre_changeWeight (K := ?_)
        refine y_iret (pc := 37) d_CW_weight_37 rfl ?_
        first | exact Or.inl (⟨by simp only [z_lt, z_le, z_eq, z_t0, z_t1, z_l100, z_l9, z_l8, z_l2, z_l20, z_l1000, z_lm1000, z_l2000, z_lm1] at *; omega, rfl, rfl, rfl⟩) | exact Or.inr (⟨by simp only [z_lt, z_le, z_eq, z_t0, z_t1, z_l100, z_l9, z_l8, z_l2, z_l20, z_l1000, z_lm1000, z_l2000, z_lm1] at *; omega, rfl, rfl, rfl⟩)
      · refine x_ldc (pc := 25) (v := (-2000000)) d_CW_weight_25 i_CW_83 ?_
        refine y_iret (pc := 27) d_CW_weight_27 rfl ?_
        first | exact Or.inl (⟨by simp only [z_lt, z_le, z_eq, z_t0, z_t1, z_l100, z_l9, z_l8, z_l2, z_l20, z_l1000, z_lm1000, z_l2000, z_lm1] at *; omega, rfl, rfl, rfl⟩) | exact Or.inr (⟨by simp only [z_lt, z_le, z_eq, z_t0, z_t1, z_l100, z_l9, z_l8, z_l2, z_l20, z_l1000, z_lm1000, z_l2000, z_lm1] at *; omega, rfl, rfl, rfl⟩)
  · refine x_if_eq (pc := 8) (tgt := 25) d_CW_weight_8 (by decide) (fun _ => ?_) (fun h => absurd h (by decide))
    refine x_ldc (pc := 25) (v := (-2000000)) d_CW_weight_25 i_CW_83 ?_
    refine y_iret (pc := 27) d_CW_weight_27 rfl ?_
    first | exact Or.inl (⟨by simp only [z_lt, z_le, z_eq, z_t0, z_t1, z_l100, z_l9, z_l8, z_l2, z_l20, z_l1000, z_lm1000, z_l2000, z_lm1] at *; omega, rfl, rfl, rfl⟩) | exact Or.inr (⟨by simp only [z_lt, z_le, z_eq, z_t0, z_t1, z_l100, z_l9, z_l8, z_l2, z_l20, z_l1000, z_lm1000, z_l2000, z_lm1] at *; omega, rfl, rfl, rfl⟩)
set_option maxRecDepth 100000 in
set_option maxHeartbeats 4000000 in
theorem c_CW_next (V A : zV) (a b : Int32) (n : Nat) (hn : V 1 4 = nI n) (h1 : 1 ≤ n) (h9 : n ≤ 9) : CQ Y_CW_next 1 [.ref 0, .int a, .int b] V A (fun r V' A' => (¬ ((0 ≤ a ∧ a < V 1 4) ∧ ¬ a = b ∧ (b = (-1) ∨ (0 ≤ b ∧ b < V 1 4))) ∧ r = (-2000000) ∧ V' = V ∧ A' = A) ∨ (((0 ≤ a ∧ a < V 1 4) ∧ ¬ a = b ∧ (b = (-1) ∨ (0 ≤ b ∧ b < V 1 4))) ∧ r = A 29 a.toNatClampNeg ∧ V' = V ∧ A' = za A 29 (upd (A 29) a.toNatClampNeg b))) := by
  have hni : (nI n).toInt = (n : Int) := nI_toInt (by omega)
  refine CQ.of (lv := [.ref 0, .int a, .int b]) k_CW_next.1 rfl (by decide) rfl rfl (Nat.le_of_ble_eq_true rfl) ?_
  refine x_aload_n (pc := 0) d_CW_next_0 rfl ?_
  refine x_get (pc := 1) (j := 0) d_CW_next_1 f_CW_10 rfl rfl (Nat.le_of_ble_eq_true rfl) rfl rfl rfl ?_
  refine x_iload_n (pc := 4) d_CW_next_4 rfl ?_
  refine y_bV (pc := 5) (c_Net_isNode _ _ _) k_Net_isNode d_CW_next_5 m_CW_165 (by decide) rfl rfl rfl rfl p_Net_isNode (K1 := fun q5 => ?_) (K0 := fun q5 => ?_)
  · refine x_if_eq (pc := 8) (tgt := 32) d_CW_next_8 (by decide) (fun h => absurd h (by decide)) (fun _ => ?_)
    refine x_iload_n (pc := 11) d_CW_next_11 rfl ?_
    refine x_iload_n (pc := 12) d_CW_next_12 rfl ?_
    refine x_icmp_eq (pc := 13) (tgt := 32) d_CW_next_13 (by decide) (fun h13 => ?_) (fun h13 => ?_)
    · refine x_ldc (pc := 32) (v := (-2000000)) d_CW_next_32 i_CW_83 ?_
      refine y_iret (pc := 34) d_CW_next_34 rfl ?_
      first | exact Or.inl (⟨by simp only [z_lt, z_le, z_eq, z_t0, z_t1, z_l100, z_l9, z_l8, z_l2, z_l20, z_l1000, z_lm1000, z_l2000, z_lm1] at *; omega, rfl, rfl, rfl⟩) | exact Or.inr (⟨by simp only [z_lt, z_le, z_eq, z_t0, z_t1, z_l100, z_l9, z_l8, z_l2, z_l20, z_l1000, z_lm1000, z_l2000, z_lm1] at *; omega, rfl, rfl, rfl⟩)
    · refine x_iload_n (pc := 16) d_CW_next_16 rfl ?_
      refine x_iconst (pc := 17) (v := (-1)) d_CW_next_17 (by decide) ?_
      refine x_icmp_eq (pc := 18) (tgt := 35) d_CW_next_18 (by decide) (fun h18 => ?_) (fun h18 => ?_)
      · refine x_aload_n (pc := 35) d_CW_next_35 rfl ?_
        refine x_get (pc := 36) (j := 6) d_CW_next_36 f_CW_65 rfl rfl (Nat.le_of_ble_eq_true rfl) rfl rfl rfl ?_
        refine x_iload_n (pc := 39) d_CW_next_39 rfl ?_
        refine x_iload_n (pc := 40) d_CW_next_40 rfl ?_
        refine y_fV (pc := 41) (c_Cir_changeFollower _ _ _ _ (by refine z_vin ?_ ?_ <;> simp only [z_lt, z_le, z_eq, z_t0, z_t1, z_l100, z_l9, z_l8, z_l2, z_l20, z_l1000, z_lm1000, z_l2000, z_lm1] at * <;> omega)) k_Cir_changeFollower d_CW_next_41 m_CW_191 (by decide) rfl rfl rfl rfl p_Cir_changeFollower (K := ?_)
        refine y_iret (pc := 44) d_CW_next_44 rfl ?_
        first | exact Or.inl (⟨by simp only [z_lt, z_le, z_eq, z_t0, z_t1, z_l100, z_l9, z_l8, z_l2, z_l20, z_l1000, z_lm1000, z_l2000, z_lm1] at *; omega, rfl, rfl, rfl⟩) | exact Or.inr (⟨by simp only [z_lt, z_le, z_eq, z_t0, z_t1, z_l100, z_l9, z_l8, z_l2, z_l20, z_l1000, z_lm1000, z_l2000, z_lm1] at *; omega, rfl, rfl, rfl⟩)
      · refine x_aload_n (pc := 21) d_CW_next_21 rfl ?_
        refine x_get (pc := 22) (j := 0) d_CW_next_22 f_CW_10 rfl rfl (Nat.le_of_ble_eq_true rfl) rfl rfl rfl ?_
        refine x_iload_n (pc := 25) d_CW_next_25 rfl ?_
        refine y_bV (pc := 26) (c_Net_isNode _ _ _) k_Net_isNode d_CW_next_26 m_CW_165 (by decide) rfl rfl rfl rfl p_Net_isNode (K1 := fun q26 => ?_) (K0 := fun q26 => ?_)
        · refine x_if_ne (pc := 29) (tgt := 35) d_CW_next_29 (by decide) (fun _ => ?_) (fun h => absurd h (by decide))
          refine x_aload_n (pc := 35) d_CW_next_35 rfl ?_
          refine x_get (pc := 36) (j := 6) d_CW_next_36 f_CW_65 rfl rfl (Nat.le_of_ble_eq_true rfl) rfl rfl rfl ?_
          refine x_iload_n (pc := 39) d_CW_next_39 rfl ?_
          refine x_iload_n (pc := 40) d_CW_next_40 rfl ?_
          refine y_fV (pc := 41) (c_Cir_changeFollower _ _ _ _ (by refine z_vin ?_ ?_ <;> simp only [z_lt, z_le, z_eq, z_t0, z_t1, z_l100, z_l9, z_l8, z_l2, z_l20, z_l1000, z_lm1000, z_l2000, z_lm1] at * <;> omega)) k_Cir_changeFollower d_CW_next_41 m_CW_191 (by decide) rfl rfl rfl rfl p_Cir_changeFollower (K := ?_)
          refine y_iret (pc := 44) d_CW_next_44 rfl ?_
          first | exact Or.inl (⟨by simp only [z_lt, z_le, z_eq, z_t0, z_t1, z_l100, z_l9, z_l8, z_l2, z_l20, z_l1000, z_lm1000, z_l2000, z_lm1] at *; omega, rfl, rfl, rfl⟩) | exact Or.inr (⟨by simp only [z_lt, z_le, z_eq, z_t0, z_t1, z_l100, z_l9, z_l8, z_l2, z_l20, z_l1000, z_lm1000, z_l2000, z_lm1] at *; omega, rfl, rfl, rfl⟩)
        · refine x_if_ne (pc := 29) (tgt := 35) d_CW_next_29 (by decide) (fun h => absurd h (by decide)) (fun _ => ?_)
          refine x_ldc (pc := 32) (v := (-2000000)) d_CW_next_32 i_CW_83 ?_
          refine y_iret (pc := 34) d_CW_next_34 rfl ?_
          first | exact Or.inl (⟨by simp only [z_lt, z_le, z_eq, z_t0, z_t1, z_l100, z_l9, z_l8, z_l2, z_l20, z_l1000, z_lm1000, z_l2000, z_lm1] at *; omega, rfl, rfl, rfl⟩) | exact Or.inr (⟨by simp only [z_lt, z_le, z_eq, z_t0, z_t1, z_l100, z_l9, z_l8, z_l2, z_l20, z_l1000, z_lm1000, z_l2000, z_lm1] at *; omega, rfl, rfl, rfl⟩)
  · refine x_if_eq (pc := 8) (tgt := 32) d_CW_next_8 (by decide) (fun _ => ?_) (fun h => absurd h (by decide))
    refine x_ldc (pc := 32) (v := (-2000000)) d_CW_next_32 i_CW_83 ?_
    refine y_iret (pc := 34) d_CW_next_34 rfl ?_
    first | exact Or.inl (⟨by simp only [z_lt, z_le, z_eq, z_t0, z_t1, z_l100, z_l9, z_l8, z_l2, z_l20, z_l1000, z_lm1000, z_l2000, z_lm1] at *; omega, rfl, rfl, rfl⟩) | exact Or.inr (⟨by simp only [z_lt, z_le, z_eq, z_t0, z_t1, z_l100, z_l9, z_l8, z_l2, z_l20, z_l1000, z_lm1000, z_l2000, z_lm1] at *; omega, rfl, rfl, rfl⟩)
set_option maxRecDepth 100000 in
set_option maxHeartbeats 4000000 in
theorem c_CW_put (V A : zV) (v : Int32) (hr : 0 ≤ V 33 3) (n : Nat) (hn : V 1 4 = nI n) (h1 : 1 ≤ n) (h9 : n ≤ 9) : CQ Y_CW_put 1 [.ref 0, .int v] V A (fun r V' A' => (¬ (0 ≤ v ∧ v < V 1 4) ∧ r = (-2000000) ∧ V' = V ∧ A' = A) ∨ (((0 ≤ v ∧ v < V 1 4) ∧ ¬ V 33 3 < 20) ∧ r = (-3000000) ∧ V' = V ∧ A' = A) ∨ (((0 ≤ v ∧ v < V 1 4) ∧ V 33 3 < 20) ∧ r = V 33 3 + 1 ∧ V' = zv V 33 3 (V 33 3 + 1) ∧ A' = za A 34 (upd (A 34) (V 33 3).toNatClampNeg v))) := by
  have hni : (nI n).toInt = (n : Int) := nI_toInt (by omega)
  refine CQ.of (lv := [.ref 0, .int v]) k_CW_put.1 rfl (by decide) rfl rfl (Nat.le_of_ble_eq_true rfl) ?_
  refine x_aload_n (pc := 0) d_CW_put_0 rfl ?_
  refine x_get (pc := 1) (j := 0) d_CW_put_1 f_CW_10 rfl rfl (Nat.le_of_ble_eq_true rfl) rfl rfl rfl ?_
  refine x_iload_n (pc := 4) d_CW_put_4 rfl ?_
  refine y_bV (pc := 5) (c_Net_isNode _ _ _) k_Net_isNode d_CW_put_5 m_CW_165 (by decide) rfl rfl rfl rfl p_Net_isNode (K1 := fun q5 => ?_) (K0 := fun q5 => ?_)
  · refine x_if_ne (pc := 8) (tgt := 14) d_CW_put_8 (by decide) (fun _ => ?_) (fun h => absurd h (by decide))
    refine x_aload_n (pc := 14) d_CW_put_14 rfl ?_
    refine x_get (pc := 15) (j := 8) d_CW_put_15 f_CW_79 rfl rfl (Nat.le_of_ble_eq_true rfl) rfl rfl rfl ?_
    refine x_get (pc := 18) (j := 3) d_CW_put_18 f_CW_203 rfl rfl (Nat.le_of_ble_eq_true rfl) rfl rfl rfl ?_
    refine x_bipush (pc := 21) (v := 20) d_CW_put_21 (by decide) ?_
    refine x_icmp_lt (pc := 23) (tgt := 31) d_CW_put_23 (by decide) (fun h23 => ?_) (fun h23 => ?_)
    · refine x_aload_n (pc := 31) d_CW_put_31 rfl ?_
      refine x_get (pc := 32) (j := 8) d_CW_put_32 f_CW_79 rfl rfl (Nat.le_of_ble_eq_true rfl) rfl rfl rfl ?_
      refine x_iload_n (pc := 35) d_CW_put_35 rfl ?_
      refine y_fV (pc := 36) (c_Row_append _ _ _ (by refine z_vin ?_ ?_ <;> simp only [z_lt, z_le, z_eq, z_t0, z_t1, z_l100, z_l9, z_l8, z_l2, z_l20, z_l1000, z_lm1000, z_l2000, z_lm1] at * <;> omega)) k_Row_append d_CW_put_36 m_CW_204 (by decide) rfl rfl rfl rfl p_Row_append (K := ?_)
      refine y_iret (pc := 39) d_CW_put_39 rfl ?_
      first | exact Or.inl (⟨by simp only [z_lt, z_le, z_eq, z_t0, z_t1, z_l100, z_l9, z_l8, z_l2, z_l20, z_l1000, z_lm1000, z_l2000, z_lm1] at *; omega, rfl, rfl, rfl⟩) | exact Or.inr (Or.inl (⟨by simp only [z_lt, z_le, z_eq, z_t0, z_t1, z_l100, z_l9, z_l8, z_l2, z_l20, z_l1000, z_lm1000, z_l2000, z_lm1] at *; omega, rfl, rfl, rfl⟩)) | exact Or.inr (Or.inr (⟨by simp only [z_lt, z_le, z_eq, z_t0, z_t1, z_l100, z_l9, z_l8, z_l2, z_l20, z_l1000, z_lm1000, z_l2000, z_lm1] at *; omega, rfl, rfl, rfl⟩))
    · refine x_ldc (pc := 26) (v := (-3000000)) d_CW_put_26 i_CW_88 ?_
      refine x_goto (pc := 28) (tgt := 39) d_CW_put_28 (by decide) ?_
      refine y_iret (pc := 39) d_CW_put_39 rfl ?_
      first | exact Or.inl (⟨by simp only [z_lt, z_le, z_eq, z_t0, z_t1, z_l100, z_l9, z_l8, z_l2, z_l20, z_l1000, z_lm1000, z_l2000, z_lm1] at *; omega, rfl, rfl, rfl⟩) | exact Or.inr (Or.inl (⟨by simp only [z_lt, z_le, z_eq, z_t0, z_t1, z_l100, z_l9, z_l8, z_l2, z_l20, z_l1000, z_lm1000, z_l2000, z_lm1] at *; omega, rfl, rfl, rfl⟩)) | exact Or.inr (Or.inr (⟨by simp only [z_lt, z_le, z_eq, z_t0, z_t1, z_l100, z_l9, z_l8, z_l2, z_l20, z_l1000, z_lm1000, z_l2000, z_lm1] at *; omega, rfl, rfl, rfl⟩))
  · refine x_if_ne (pc := 8) (tgt := 14) d_CW_put_8 (by decide) (fun h => absurd h (by decide)) (fun _ => ?_)
    refine x_ldc (pc := 11) (v := (-2000000)) d_CW_put_11 i_CW_83 ?_
    refine y_iret (pc := 13) d_CW_put_13 rfl ?_
    first | exact Or.inl (⟨by simp only [z_lt, z_le, z_eq, z_t0, z_t1, z_l100, z_l9, z_l8, z_l2, z_l20, z_l1000, z_lm1000, z_l2000, z_lm1] at *; omega, rfl, rfl, rfl⟩) | exact Or.inr (Or.inl (⟨by simp only [z_lt, z_le, z_eq, z_t0, z_t1, z_l100, z_l9, z_l8, z_l2, z_l20, z_l1000, z_lm1000, z_l2000, z_lm1] at *; omega, rfl, rfl, rfl⟩)) | exact Or.inr (Or.inr (⟨by simp only [z_lt, z_le, z_eq, z_t0, z_t1, z_l100, z_l9, z_l8, z_l2, z_l20, z_l1000, z_lm1000, z_l2000, z_lm1] at *; omega, rfl, rfl, rfl⟩))
set_option maxRecDepth 100000 in
set_option maxHeartbeats 4000000 in
theorem c_CW_keep (V A : zV) (v : Int32) : CQ Y_CW_keep 1 [.ref 0, .int v] V A (fun r V' A' => (¬ (0 ≤ v ∧ v ≤ V 33 3) ∧ r = (-2000000) ∧ V' = V ∧ A' = A) ∨ ((0 ≤ v ∧ v ≤ V 33 3) ∧ r = V 33 3 ∧ V' = zv V 33 3 v ∧ A' = A)) := by
  refine CQ.of (lv := [.ref 0, .int v]) k_CW_keep.1 rfl (by decide) rfl rfl (Nat.le_of_ble_eq_true rfl) ?_
  refine x_iload_n (pc := 0) d_CW_keep_0 rfl ?_
  refine x_if_lt (pc := 1) (tgt := 15) d_CW_keep_1 (by decide) (fun h1 => ?_) (fun h1 => ?_)
  · refine x_ldc (pc := 15) (v := (-2000000)) d_CW_keep_15 i_CW_83 ?_
    refine y_iret (pc := 17) d_CW_keep_17 rfl ?_
    first | exact Or.inl (⟨by simp only [z_lt, z_le, z_eq, z_t0, z_t1, z_l100, z_l9, z_l8, z_l2, z_l20, z_l1000, z_lm1000, z_l2000, z_lm1] at *; omega, rfl, rfl, rfl⟩) | exact Or.inr (⟨by simp only [z_lt, z_le, z_eq, z_t0, z_t1, z_l100, z_l9, z_l8, z_l2, z_l20, z_l1000, z_lm1000, z_l2000, z_lm1] at *; omega, rfl, rfl, rfl⟩)
  · refine x_iload_n (pc := 4) d_CW_keep_4 rfl ?_
    refine x_aload_n (pc := 5) d_CW_keep_5 rfl ?_
    refine x_get (pc := 6) (j := 8) d_CW_keep_6 f_CW_79 rfl rfl (Nat.le_of_ble_eq_true rfl) rfl rfl rfl ?_
    refine x_get (pc := 9) (j := 3) d_CW_keep_9 f_CW_203 rfl rfl (Nat.le_of_ble_eq_true rfl) rfl rfl rfl ?_
    refine x_icmp_le (pc := 12) (tgt := 18) d_CW_keep_12 (by decide) (fun h12 => ?_) (fun h12 => ?_)
    · refine x_aload_n (pc := 18) d_CW_keep_18 rfl ?_
      refine x_get (pc := 19) (j := 8) d_CW_keep_19 f_CW_79 rfl rfl (Nat.le_of_ble_eq_true rfl) rfl rfl rfl ?_
      refine x_iload_n (pc := 22) d_CW_keep_22 rfl ?_
      refine y_fV (pc := 23) (c_Row_cut _ _ _) k_Row_cut d_CW_keep_23 m_CW_207 (by decide) rfl rfl rfl rfl p_Row_cut (K := ?_)
      refine y_iret (pc := 26) d_CW_keep_26 rfl ?_
      first | exact Or.inl (⟨by simp only [z_lt, z_le, z_eq, z_t0, z_t1, z_l100, z_l9, z_l8, z_l2, z_l20, z_l1000, z_lm1000, z_l2000, z_lm1] at *; omega, rfl, rfl, rfl⟩) | exact Or.inr (⟨by simp only [z_lt, z_le, z_eq, z_t0, z_t1, z_l100, z_l9, z_l8, z_l2, z_l20, z_l1000, z_lm1000, z_l2000, z_lm1] at *; omega, rfl, rfl, rfl⟩)
    · refine x_ldc (pc := 15) (v := (-2000000)) d_CW_keep_15 i_CW_83 ?_
      refine y_iret (pc := 17) d_CW_keep_17 rfl ?_
      first | exact Or.inl (⟨by simp only [z_lt, z_le, z_eq, z_t0, z_t1, z_l100, z_l9, z_l8, z_l2, z_l20, z_l1000, z_lm1000, z_l2000, z_lm1] at *; omega, rfl, rfl, rfl⟩) | exact Or.inr (⟨by simp only [z_lt, z_le, z_eq, z_t0, z_t1, z_l100, z_l9, z_l8, z_l2, z_l20, z_l1000, z_lm1000, z_l2000, z_lm1] at *; omega, rfl, rfl, rfl⟩)
set_option maxRecDepth 100000 in
set_option maxHeartbeats 4000000 in
theorem c_CW_count0 (V A : zV)  : CQ Y_CW_count 2 [.ref 0, .int 0] V A (fun r V' A' => r = V 1 4 ∧ V' = V ∧ A' = A) := by
  refine CQ.of (lv := [.ref 0, .int 0]) k_CW_count.1 rfl (by decide) rfl rfl (Nat.le_of_ble_eq_true rfl) ?_
  refine x_iload_n (pc := 0) d_CW_count_0 rfl ?_
  refine x_sw_in (pc := 1) (off := 43) (tgt := 44) d_CW_count_1 (by decide) (by decide) rfl (by decide) ?_
  refine x_aload_n (pc := 44) d_CW_count_44 rfl ?_
  refine x_get (pc := 45) (j := 0) d_CW_count_45 f_CW_10 rfl rfl (Nat.le_of_ble_eq_true rfl) rfl rfl rfl ?_
  refine x_get (pc := 48) (j := 4) d_CW_count_48 f_CW_84 rfl rfl (Nat.le_of_ble_eq_true rfl) rfl rfl rfl ?_
  refine y_iret (pc := 51) d_CW_count_51 rfl ?_
  exact ⟨rfl, rfl, rfl⟩
set_option maxRecDepth 100000 in
set_option maxHeartbeats 4000000 in
theorem c_CW_count1 (V A : zV)  : CQ Y_CW_count 2 [.ref 0, .int 1] V A (fun r V' A' => r = zf (fun i a => if A 3 i = 1000000000 then a else a + 1) 0 81 ∧ V' = V ∧ A' = A) := by
  refine CQ.of (lv := [.ref 0, .int 1]) k_CW_count.1 rfl (by decide) rfl rfl (Nat.le_of_ble_eq_true rfl) ?_
  refine x_iload_n (pc := 0) d_CW_count_0 rfl ?_
  refine x_sw_in (pc := 1) (off := 51) (tgt := 52) d_CW_count_1 (by decide) (by decide) rfl (by decide) ?_
  refine x_aload_n (pc := 52) d_CW_count_52 rfl ?_
  refine x_get (pc := 53) (j := 0) d_CW_count_53 f_CW_10 rfl rfl (Nat.le_of_ble_eq_true rfl) rfl rfl rfl ?_
  refine y_fV (pc := 56) (c_Net_arcs _ _) k_Net_arcs d_CW_count_56 m_CW_216 (by decide) rfl rfl rfl rfl p_Net_arcs (K := ?_)
  refine y_iret (pc := 59) d_CW_count_59 rfl ?_
  exact ⟨rfl, rfl, rfl⟩
set_option maxRecDepth 100000 in
set_option maxHeartbeats 4000000 in
theorem c_CW_count2 (V A : zV)  (n : Nat) (hn : V 1 4 = nI n) (h1 : 1 ≤ n) (h9 : n ≤ 9) : CQ Y_CW_count 2 [.ref 0, .int 2] V A (fun r V' A' => r = zf (fun i a => a + zbc (A 5 (i + 1))) 0 (n - 1) ∧ V' = V ∧ A' = A) := by
  refine CQ.of (lv := [.ref 0, .int 2]) k_CW_count.1 rfl (by decide) rfl rfl (Nat.le_of_ble_eq_true rfl) ?_
  refine x_iload_n (pc := 0) d_CW_count_0 rfl ?_
  refine x_sw_in (pc := 1) (off := 59) (tgt := 60) d_CW_count_1 (by decide) (by decide) rfl (by decide) ?_
  refine x_aload_n (pc := 60) d_CW_count_60 rfl ?_
  refine x_get (pc := 61) (j := 0) d_CW_count_61 f_CW_10 rfl rfl (Nat.le_of_ble_eq_true rfl) rfl rfl rfl ?_
  refine y_fV (pc := 64) (c_Net_pairsAhead _ _ n hn h1 h9) k_Net_pairsAhead d_CW_count_64 m_CW_219 (by decide) rfl rfl rfl rfl p_Net_pairsAhead (K := ?_)
  refine y_iret (pc := 67) d_CW_count_67 rfl ?_
  exact ⟨rfl, rfl, rfl⟩
set_option maxRecDepth 100000 in
set_option maxHeartbeats 4000000 in
theorem c_CW_count3 (V A : zV)  : CQ Y_CW_count 2 [.ref 0, .int 3] V A (fun r V' A' => r = V 1 5 ∧ V' = V ∧ A' = A) := by
  refine CQ.of (lv := [.ref 0, .int 3]) k_CW_count.1 rfl (by decide) rfl rfl (Nat.le_of_ble_eq_true rfl) ?_
  refine x_iload_n (pc := 0) d_CW_count_0 rfl ?_
  refine x_sw_in (pc := 1) (off := 67) (tgt := 68) d_CW_count_1 (by decide) (by decide) rfl (by decide) ?_
  refine x_aload_n (pc := 68) d_CW_count_68 rfl ?_
  refine x_get (pc := 69) (j := 0) d_CW_count_69 f_CW_10 rfl rfl (Nat.le_of_ble_eq_true rfl) rfl rfl rfl ?_
  refine x_get (pc := 72) (j := 5) d_CW_count_72 f_CW_148 rfl rfl (Nat.le_of_ble_eq_true rfl) rfl rfl rfl ?_
  refine y_iret (pc := 75) d_CW_count_75 rfl ?_
  exact ⟨rfl, rfl, rfl⟩
set_option maxRecDepth 100000 in
set_option maxHeartbeats 4000000 in
theorem c_CW_count4 (V A : zV)  : CQ Y_CW_count 2 [.ref 0, .int 4] V A (fun r V' A' => r = V 1 6 ∧ V' = V ∧ A' = A) := by
  refine CQ.of (lv := [.ref 0, .int 4]) k_CW_count.1 rfl (by decide) rfl rfl (Nat.le_of_ble_eq_true rfl) ?_
  refine x_iload_n (pc := 0) d_CW_count_0 rfl ?_
  refine x_sw_in (pc := 1) (off := 75) (tgt := 76) d_CW_count_1 (by decide) (by decide) rfl (by decide) ?_
  refine x_aload_n (pc := 76) d_CW_count_76 rfl ?_
  refine x_get (pc := 77) (j := 0) d_CW_count_77 f_CW_10 rfl rfl (Nat.le_of_ble_eq_true rfl) rfl rfl rfl ?_
  refine x_get (pc := 80) (j := 6) d_CW_count_80 f_CW_222 rfl rfl (Nat.le_of_ble_eq_true rfl) rfl rfl rfl ?_
  refine y_iret (pc := 83) d_CW_count_83 rfl ?_
  exact ⟨rfl, rfl, rfl⟩
set_option maxRecDepth 100000 in
set_option maxHeartbeats 4000000 in
theorem c_CW_count5 (V A : zV)  : CQ Y_CW_count 2 [.ref 0, .int 5] V A (fun r V' A' => r = V 1 7 ∧ V' = V ∧ A' = A) := by
  refine CQ.of (lv := [.ref 0, .int 5]) k_CW_count.1 rfl (by decide) rfl rfl (Nat.le_of_ble_eq_true rfl) ?_
  refine x_iload_n (pc := 0) d_CW_count_0 rfl ?_
  refine x_sw_in (pc := 1) (off := 83) (tgt := 84) d_CW_count_1 (by decide) (by decide) rfl (by decide) ?_
  refine x_aload_n (pc := 84) d_CW_count_84 rfl ?_
  refine x_get (pc := 85) (j := 0) d_CW_count_85 f_CW_10 rfl rfl (Nat.le_of_ble_eq_true rfl) rfl rfl rfl ?_
  refine x_get (pc := 88) (j := 7) d_CW_count_88 f_CW_225 rfl rfl (Nat.le_of_ble_eq_true rfl) rfl rfl rfl ?_
  refine y_iret (pc := 91) d_CW_count_91 rfl ?_
  exact ⟨rfl, rfl, rfl⟩
set_option maxRecDepth 100000 in
set_option maxHeartbeats 4000000 in
theorem c_CW_count6 (V A : zV)  : CQ Y_CW_count 2 [.ref 0, .int 6] V A (fun r V' A' => r = V 33 3 ∧ V' = V ∧ A' = A) := by
  refine CQ.of (lv := [.ref 0, .int 6]) k_CW_count.1 rfl (by decide) rfl rfl (Nat.le_of_ble_eq_true rfl) ?_
  refine x_iload_n (pc := 0) d_CW_count_0 rfl ?_
  refine x_sw_in (pc := 1) (off := 91) (tgt := 92) d_CW_count_1 (by decide) (by decide) rfl (by decide) ?_
  refine x_aload_n (pc := 92) d_CW_count_92 rfl ?_
  refine x_get (pc := 93) (j := 8) d_CW_count_93 f_CW_79 rfl rfl (Nat.le_of_ble_eq_true rfl) rfl rfl rfl ?_
  refine x_get (pc := 96) (j := 3) d_CW_count_96 f_CW_203 rfl rfl (Nat.le_of_ble_eq_true rfl) rfl rfl rfl ?_
  refine y_iret (pc := 99) d_CW_count_99 rfl ?_
  exact ⟨rfl, rfl, rfl⟩
set_option maxRecDepth 100000 in
set_option maxHeartbeats 4000000 in
theorem c_CW_countx (V A : zV) (w : Int32) (hw : w.toInt < 0 ∨ 6 < w.toInt) : CQ Y_CW_count 2 [.ref 0, .int w] V A (fun r V' A' => r = (-2000000) ∧ V' = V ∧ A' = A) := by
  refine CQ.of (lv := [.ref 0, .int w]) k_CW_count.1 rfl (by decide) rfl rfl (Nat.le_of_ble_eq_true rfl) ?_
  refine x_iload_n (pc := 0) d_CW_count_0 rfl ?_
  refine x_sw_out (pc := 1) (tgt := 100) d_CW_count_1 hw (by decide) ?_
  refine x_ldc (pc := 100) (v := (-2000000)) d_CW_count_100 i_CW_83 ?_
  refine y_iret (pc := 102) d_CW_count_102 rfl ?_
  exact ⟨rfl, rfl, rfl⟩
