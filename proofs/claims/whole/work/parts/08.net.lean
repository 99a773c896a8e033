theorem z_lt {x y : Int32} : x < y ↔ x.toInt < y.toInt := Int32.lt_iff_toInt_lt
theorem z_le {x y : Int32} : x ≤ y ↔ x.toInt ≤ y.toInt := Int32.le_iff_toInt_le
theorem z_eq {x y : Int32} : x = y ↔ x.toInt = y.toInt := Int32.toInt_inj.symm
theorem z_t0 : (0 : Int32).toInt = 0 := rfl
theorem z_t1 : (1 : Int32).toInt = 1 := rfl
set_option maxRecDepth 100000 in
set_option maxHeartbeats 4000000 in
theorem c_CW_sum (V A : zV) (a b : Int32) : CQ Y_CW_sum 0 [.int a, .int b] V A (fun r V' A' => r = (if a = 1000000000 ∨ b = 1000000000 then 1000000000 else a + b) ∧ V' = V ∧ A' = A) := by
  refine CQ.of (lv := [.int a, .int b]) k_CW_sum.1 rfl (by decide) rfl rfl (Nat.le_of_ble_eq_true rfl) ?_
  refine x_iload_n (pc := 0) d_CW_sum_0 rfl ?_
  refine x_ldc (pc := 1) (v := 1000000000) d_CW_sum_1 i_CW_104 ?_
  refine x_icmp_eq (pc := 3) (tgt := 12) d_CW_sum_3 (by decide) (fun h3 => ?_) (fun h3 => ?_)
  · refine x_ldc (pc := 12) (v := 1000000000) d_CW_sum_12 i_CW_104 ?_
    refine x_goto (pc := 14) (tgt := 20) d_CW_sum_14 (by decide) ?_
    refine y_iret (pc := 20) d_CW_sum_20 rfl ?_
    exact ⟨by simp_all, rfl, rfl⟩
  · refine x_iload_n (pc := 6) d_CW_sum_6 rfl ?_
    refine x_ldc (pc := 7) (v := 1000000000) d_CW_sum_7 i_CW_104 ?_
    refine x_icmp_ne (pc := 9) (tgt := 17) d_CW_sum_9 (by decide) (fun h9 => ?_) (fun h9 => ?_)
    · refine x_iload_n (pc := 17) d_CW_sum_17 rfl ?_
      refine x_iload_n (pc := 18) d_CW_sum_18 rfl ?_
      refine x_iadd (pc := 19) d_CW_sum_19 ?_
      refine y_iret (pc := 20) d_CW_sum_20 rfl ?_
      exact ⟨by simp_all, rfl, rfl⟩
    · refine x_ldc (pc := 12) (v := 1000000000) d_CW_sum_12 i_CW_104 ?_
      refine x_goto (pc := 14) (tgt := 20) d_CW_sum_14 (by decide) ?_
      refine y_iret (pc := 20) d_CW_sum_20 rfl ?_
      exact ⟨by simp_all, rfl, rfl⟩
set_option maxRecDepth 100000 in
set_option maxHeartbeats 4000000 in
theorem c_CW_orNone (V A : zV) (a : Int32) : CQ Y_CW_orNone 0 [.int a] V A (fun r V' A' => r = (if a = 1000000000 then (-1000000) else a) ∧ V' = V ∧ A' = A) := by
  refine CQ.of (lv := [.int a]) k_CW_orNone.1 rfl (by decide) rfl rfl (Nat.le_of_ble_eq_true rfl) ?_
  refine x_iload_n (pc := 0) d_CW_orNone_0 rfl ?_
  refine x_ldc (pc := 1) (v := 1000000000) d_CW_orNone_1 i_CW_104 ?_
  refine x_icmp_ne (pc := 3) (tgt := 11) d_CW_orNone_3 (by decide) (fun h3 => ?_) (fun h3 => ?_)
  · refine x_iload_n (pc := 11) d_CW_orNone_11 rfl ?_
    refine y_iret (pc := 12) d_CW_orNone_12 rfl ?_
    exact ⟨by simp_all, rfl, rfl⟩
  · refine x_ldc (pc := 6) (v := (-1000000)) d_CW_orNone_6 i_CW_136 ?_
    refine x_goto (pc := 8) (tgt := 12) d_CW_orNone_8 (by decide) ?_
    refine y_iret (pc := 12) d_CW_orNone_12 rfl ?_
    exact ⟨by simp_all, rfl, rfl⟩
set_option maxRecDepth 100000 in
set_option maxHeartbeats 4000000 in
theorem c_CW_bit (V A : zV) (a : Int32) : CQ Y_CW_bit 0 [.int a] V A (fun r V' A' => r = (1 : Int32) <<< ((a - 1) &&& 31) ∧ V' = V ∧ A' = A) := by
  refine CQ.of (lv := [.int a]) k_CW_bit.1 rfl (by decide) rfl rfl (Nat.le_of_ble_eq_true rfl) ?_
  refine x_iconst (pc := 0) (v := 1) d_CW_bit_0 (by decide) ?_
  refine x_iload_n (pc := 1) d_CW_bit_1 rfl ?_
  refine x_iconst (pc := 2) (v := 1) d_CW_bit_2 (by decide) ?_
  refine x_isub (pc := 3) d_CW_bit_3 ?_
  refine x_ishl (pc := 4) d_CW_bit_4 ?_
  refine y_iret (pc := 5) d_CW_bit_5 rfl ?_
  exact ⟨rfl, rfl, rfl⟩
set_option maxRecDepth 100000 in
set_option maxHeartbeats 4000000 in
theorem c_Net_isNode (V A : zV) (v : Int32) : CQ Y_Net_isNode 0 [.ref 1, .int v] V A (fun r V' A' => ((r = 1 ∧ (0 ≤ v ∧ v < V 1 4)) ∨ (r = 0 ∧ ¬ (0 ≤ v ∧ v < V 1 4))) ∧ V' = V ∧ A' = A) := by
  refine CQ.of (lv := [.ref 1, .int v]) k_Net_isNode.1 rfl (by decide) rfl rfl (Nat.le_of_ble_eq_true rfl) ?_
  refine x_iload_n (pc := 0) d_Net_isNode_0 rfl ?_
  refine x_if_lt (pc := 1) (tgt := 16) d_Net_isNode_1 (by decide) (fun h1 => ?_) (fun h1 => ?_)
  · refine x_iconst (pc := 16) (v := 0) d_Net_isNode_16 (by decide) ?_
    refine y_zret (pc := 17) d_Net_isNode_17 rfl rfl ?_
    exact ⟨Or.inr ⟨rfl, by simp only [z_lt, z_le, z_eq, z_t0, z_t1] at *; omega⟩, rfl, rfl⟩
  · refine x_iload_n (pc := 4) d_Net_isNode_4 rfl ?_
    refine x_aload_n (pc := 5) d_Net_isNode_5 rfl ?_
    refine x_get (pc := 6) (j := 4) d_Net_isNode_6 f_Net_24 rfl rfl (Nat.le_of_ble_eq_true rfl) rfl rfl rfl ?_
    refine x_icmp_ge (pc := 9) (tgt := 16) d_Net_isNode_9 (by decide) (fun h9 => ?_) (fun h9 => ?_)
    · refine x_iconst (pc := 16) (v := 0) d_Net_isNode_16 (by decide) ?_
      refine y_zret (pc := 17) d_Net_isNode_17 rfl rfl ?_
      exact ⟨Or.inr ⟨rfl, by simp only [z_lt, z_le, z_eq, z_t0, z_t1] at *; omega⟩, rfl, rfl⟩
    · refine x_iconst (pc := 12) (v := 1) d_Net_isNode_12 (by decide) ?_
      refine x_goto (pc := 13) (tgt := 17) d_Net_isNode_13 (by decide) ?_
      refine y_zret (pc := 17) d_Net_isNode_17 rfl rfl ?_
      exact ⟨Or.inl ⟨rfl, by simp only [z_lt, z_le, z_eq, z_t0, z_t1] at *; omega⟩, rfl, rfl⟩
set_option maxRecDepth 100000 in
set_option maxHeartbeats 4000000 in
theorem c_Net_isPlace (V A : zV) (v : Int32) : CQ Y_Net_isPlace 0 [.ref 1, .int v] V A (fun r V' A' => ((r = 1 ∧ (0 < v ∧ v < V 1 4)) ∨ (r = 0 ∧ ¬ (0 < v ∧ v < V 1 4))) ∧ V' = V ∧ A' = A) := by
  refine CQ.of (lv := [.ref 1, .int v]) k_Net_isPlace.1 rfl (by decide) rfl rfl (Nat.le_of_ble_eq_true rfl) ?_
  refine x_iload_n (pc := 0) d_Net_isPlace_0 rfl ?_
  refine x_if_le (pc := 1) (tgt := 16) d_Net_isPlace_1 (by decide) (fun h1 => ?_) (fun h1 => ?_)
  · refine x_iconst (pc := 16) (v := 0) d_Net_isPlace_16 (by decide) ?_
    refine y_zret (pc := 17) d_Net_isPlace_17 rfl rfl ?_
    exact ⟨Or.inr ⟨rfl, by simp only [z_lt, z_le, z_eq, z_t0, z_t1] at *; omega⟩, rfl, rfl⟩
  · refine x_iload_n (pc := 4) d_Net_isPlace_4 rfl ?_
    refine x_aload_n (pc := 5) d_Net_isPlace_5 rfl ?_
    refine x_get (pc := 6) (j := 4) d_Net_isPlace_6 f_Net_24 rfl rfl (Nat.le_of_ble_eq_true rfl) rfl rfl rfl ?_
    refine x_icmp_ge (pc := 9) (tgt := 16) d_Net_isPlace_9 (by decide) (fun h9 => ?_) (fun h9 => ?_)
    · refine x_iconst (pc := 16) (v := 0) d_Net_isPlace_16 (by decide) ?_
      refine y_zret (pc := 17) d_Net_isPlace_17 rfl rfl ?_
      exact ⟨Or.inr ⟨rfl, by simp only [z_lt, z_le, z_eq, z_t0, z_t1] at *; omega⟩, rfl, rfl⟩
    · refine x_iconst (pc := 12) (v := 1) d_Net_isPlace_12 (by decide) ?_
      refine x_goto (pc := 13) (tgt := 17) d_Net_isPlace_13 (by decide) ?_
      refine y_zret (pc := 17) d_Net_isPlace_17 rfl rfl ?_
      exact ⟨Or.inl ⟨rfl, by simp only [z_lt, z_le, z_eq, z_t0, z_t1] at *; omega⟩, rfl, rfl⟩
set_option maxRecDepth 100000 in
set_option maxHeartbeats 4000000 in
theorem c_Net_areTwo (V A : zV) (a b : Int32) : CQ Y_Net_areTwo 1 [.ref 1, .int a, .int b] V A (fun r V' A' => ((r = 1 ∧ ((0 ≤ a ∧ a < V 1 4) ∧ (0 ≤ b ∧ b < V 1 4) ∧ ¬ a = b)) ∨ (r = 0 ∧ ¬ ((0 ≤ a ∧ a < V 1 4) ∧ (0 ≤ b ∧ b < V 1 4) ∧ ¬ a = b))) ∧ V' = V ∧ A' = A) := by
  refine CQ.of (lv := [.ref 1, .int a, .int b]) k_Net_areTwo.1 rfl (by decide) rfl rfl (Nat.le_of_ble_eq_true rfl) ?_
  refine x_aload_n (pc := 0) d_Net_areTwo_0 rfl ?_
  refine x_iload_n (pc := 1) d_Net_areTwo_1 rfl ?_
  refine y_bV (pc := 2) (c_Net_isNode _ _ _) k_Net_isNode d_Net_areTwo_2 m_Net_41 (by decide) rfl rfl rfl rfl p_Net_isNode (K1 := fun q2 => ?_) (K0 := fun q2 => ?_)
  · refine x_if_eq (pc := 5) (tgt := 25) d_Net_areTwo_5 (by decide) (fun h => absurd h (by decide)) (fun _ => ?_)
    refine x_aload_n (pc := 8) d_Net_areTwo_8 rfl ?_
    refine x_iload_n (pc := 9) d_Net_areTwo_9 rfl ?_
    refine y_bV (pc := 10) (c_Net_isNode _ _ _) k_Net_isNode d_Net_areTwo_10 m_Net_41 (by decide) rfl rfl rfl rfl p_Net_isNode (K1 := fun q10 => ?_) (K0 := fun q10 => ?_)
    · refine x_if_eq (pc := 13) (tgt := 25) d_Net_areTwo_13 (by decide) (fun h => absurd h (by decide)) (fun _ => ?_)
      refine x_iload_n (pc := 16) d_Net_areTwo_16 rfl ?_
      refine x_iload_n (pc := 17) d_Net_areTwo_17 rfl ?_
      refine x_icmp_eq (pc := 18) (tgt := 25) d_Net_areTwo_18 (by decide) (fun h18 => ?_) (fun h18 => ?_)
      · refine x_iconst (pc := 25) (v := 0) d_Net_areTwo_25 (by decide) ?_
        refine y_zret (pc := 26) d_Net_areTwo_26 rfl rfl ?_
        exact ⟨Or.inr ⟨rfl, by simp only [z_lt, z_le, z_eq, z_t0, z_t1] at *; omega⟩, rfl, rfl⟩
      · refine x_iconst (pc := 21) (v := 1) d_Net_areTwo_21 (by decide) ?_
        refine x_goto (pc := 22) (tgt := 26) d_Net_areTwo_22 (by decide) ?_
        refine y_zret (pc := 26) d_Net_areTwo_26 rfl rfl ?_
        exact ⟨Or.inl ⟨rfl, by simp only [z_lt, z_le, z_eq, z_t0, z_t1] at *; omega⟩, rfl, rfl⟩
    · refine x_if_eq (pc := 13) (tgt := 25) d_Net_areTwo_13 (by decide) (fun _ => ?_) (fun h => absurd h (by decide))
      refine x_iconst (pc := 25) (v := 0) d_Net_areTwo_25 (by decide) ?_
      refine y_zret (pc := 26) d_Net_areTwo_26 rfl rfl ?_
      exact ⟨Or.inr ⟨rfl, by simp only [z_lt, z_le, z_eq, z_t0, z_t1] at *; omega⟩, rfl, rfl⟩
  · refine x_if_eq (pc := 5) (tgt := 25) d_Net_areTwo_5 (by decide) (fun _ => ?_) (fun h => absurd h (by decide))
    refine x_iconst (pc := 25) (v := 0) d_Net_areTwo_25 (by decide) ?_
    refine y_zret (pc := 26) d_Net_areTwo_26 rfl rfl ?_
    exact ⟨Or.inr ⟨rfl, by simp only [z_lt, z_le, z_eq, z_t0, z_t1] at *; omega⟩, rfl, rfl⟩
set_option maxRecDepth 100000 in
set_option maxHeartbeats 4000000 in
theorem c_Net_allPlaces (V A : zV)  : CQ Y_Net_allPlaces 0 [.ref 1] V A (fun r V' A' => r = (1 : Int32) <<< ((V 1 4 - 1) &&& 31) - 1 ∧ V' = V ∧ A' = A) := by
  refine CQ.of (lv := [.ref 1]) k_Net_allPlaces.1 rfl (by decide) rfl rfl (Nat.le_of_ble_eq_true rfl) ?_
  refine x_iconst (pc := 0) (v := 1) d_Net_allPlaces_0 (by decide) ?_
  refine x_aload_n (pc := 1) d_Net_allPlaces_1 rfl ?_
  refine x_get (pc := 2) (j := 4) d_Net_allPlaces_2 f_Net_24 rfl rfl (Nat.le_of_ble_eq_true rfl) rfl rfl rfl ?_
  refine x_iconst (pc := 5) (v := 1) d_Net_allPlaces_5 (by decide) ?_
  refine x_isub (pc := 6) d_Net_allPlaces_6 ?_
  refine x_ishl (pc := 7) d_Net_allPlaces_7 ?_
  refine x_iconst (pc := 8) (v := 1) d_Net_allPlaces_8 (by decide) ?_
  refine x_isub (pc := 9) d_Net_allPlaces_9 ?_
  refine y_iret (pc := 10) d_Net_allPlaces_10 rfl ?_
  exact ⟨rfl, rfl, rfl⟩
set_option maxRecDepth 100000 in
set_option maxHeartbeats 4000000 in
theorem c_Net_changeMost (V A : zV) (v : Int32) : CQ Y_Net_changeMost 0 [.ref 1, .int v] V A (fun r V' A' => r = V 1 5 ∧ V' = zv (zv V 1 5 v) 1 8 (V 1 8 + 1) ∧ A' = A) := by
  refine CQ.of (lv := [.ref 1, .int v, zu]) k_Net_changeMost.1 rfl (by decide) rfl rfl (Nat.le_of_ble_eq_true rfl) ?_
  refine x_aload_n (pc := 0) d_Net_changeMost_0 rfl ?_
  refine x_get (pc := 1) (j := 5) d_Net_changeMost_1 f_Net_28 rfl rfl (Nat.le_of_ble_eq_true rfl) rfl rfl rfl ?_
  refine y_ist2 (pc := 4) d_Net_changeMost_4 ?_
  refine x_aload_n (pc := 5) d_Net_changeMost_5 rfl ?_
  refine x_iload_n (pc := 6) d_Net_changeMost_6 rfl ?_
  refine y_put (pc := 7) (j := 5) d_Net_changeMost_7 f_Net_28 rfl rfl (Nat.le_of_ble_eq_true rfl) rfl (Nat.le_of_ble_eq_true rfl) rfl rfl (fun _ => rfl) ?_
  refine x_aload_n (pc := 10) d_Net_changeMost_10 rfl ?_
  refine x_dup (pc := 11) d_Net_changeMost_11 rfl ?_
  refine x_get (pc := 12) (j := 8) d_Net_changeMost_12 f_Net_37 rfl rfl (Nat.le_of_ble_eq_true rfl) rfl rfl rfl ?_
  refine x_iconst (pc := 15) (v := 1) d_Net_changeMost_15 (by decide) ?_
  refine x_iadd (pc := 16) d_Net_changeMost_16 ?_
  refine y_put (pc := 17) (j := 8) d_Net_changeMost_17 f_Net_37 rfl rfl (Nat.le_of_ble_eq_true rfl) rfl (Nat.le_of_ble_eq_true rfl) rfl rfl (fun _ => rfl) ?_
  refine x_iload_n (pc := 20) d_Net_changeMost_20 rfl ?_
  refine y_iret (pc := 21) d_Net_changeMost_21 rfl ?_
  exact ⟨rfl, rfl, rfl⟩
set_option maxRecDepth 100000 in
set_option maxHeartbeats 4000000 in
theorem c_Net_changeRoom (V A : zV) (v : Int32) : CQ Y_Net_changeRoom 0 [.ref 1, .int v] V A (fun r V' A' => r = V 1 6 ∧ V' = zv (zv V 1 6 v) 1 8 (V 1 8 + 1) ∧ A' = A) := by
  refine CQ.of (lv := [.ref 1, .int v, zu]) k_Net_changeRoom.1 rfl (by decide) rfl rfl (Nat.le_of_ble_eq_true rfl) ?_
  refine x_aload_n (pc := 0) d_Net_changeRoom_0 rfl ?_
  refine x_get (pc := 1) (j := 6) d_Net_changeRoom_1 f_Net_31 rfl rfl (Nat.le_of_ble_eq_true rfl) rfl rfl rfl ?_
  refine y_ist2 (pc := 4) d_Net_changeRoom_4 ?_
  refine x_aload_n (pc := 5) d_Net_changeRoom_5 rfl ?_
  refine x_iload_n (pc := 6) d_Net_changeRoom_6 rfl ?_
  refine y_put (pc := 7) (j := 6) d_Net_changeRoom_7 f_Net_31 rfl rfl (Nat.le_of_ble_eq_true rfl) rfl (Nat.le_of_ble_eq_true rfl) rfl rfl (fun _ => rfl) ?_
  refine x_aload_n (pc := 10) d_Net_changeRoom_10 rfl ?_
  refine x_dup (pc := 11) d_Net_changeRoom_11 rfl ?_
  refine x_get (pc := 12) (j := 8) d_Net_changeRoom_12 f_Net_37 rfl rfl (Nat.le_of_ble_eq_true rfl) rfl rfl rfl ?_
  refine x_iconst (pc := 15) (v := 1) d_Net_changeRoom_15 (by decide) ?_
  refine x_iadd (pc := 16) d_Net_changeRoom_16 ?_
  refine y_put (pc := 17) (j := 8) d_Net_changeRoom_17 f_Net_37 rfl rfl (Nat.le_of_ble_eq_true rfl) rfl (Nat.le_of_ble_eq_true rfl) rfl rfl (fun _ => rfl) ?_
  refine x_iload_n (pc := 20) d_Net_changeRoom_20 rfl ?_
  refine y_iret (pc := 21) d_Net_changeRoom_21 rfl ?_
  exact ⟨rfl, rfl, rfl⟩
set_option maxRecDepth 100000 in
set_option maxHeartbeats 4000000 in
theorem c_Net_changeOpen (V A : zV) (v : Int32) : CQ Y_Net_changeOpen 0 [.ref 1, .int v] V A (fun r V' A' => r = V 1 7 ∧ V' = zv (zv V 1 7 v) 1 8 (V 1 8 + 1) ∧ A' = A) := by
  refine CQ.of (lv := [.ref 1, .int v, zu]) k_Net_changeOpen.1 rfl (by decide) rfl rfl (Nat.le_of_ble_eq_true rfl) ?_
  refine x_aload_n (pc := 0) d_Net_changeOpen_0 rfl ?_
  refine x_get (pc := 1) (j := 7) d_Net_changeOpen_1 f_Net_34 rfl rfl (Nat.le_of_ble_eq_true rfl) rfl rfl rfl ?_
  refine y_ist2 (pc := 4) d_Net_changeOpen_4 ?_
  refine x_aload_n (pc := 5) d_Net_changeOpen_5 rfl ?_
  refine x_iload_n (pc := 6) d_Net_changeOpen_6 rfl ?_
  refine y_put (pc := 7) (j := 7) d_Net_changeOpen_7 f_Net_34 rfl rfl (Nat.le_of_ble_eq_true rfl) rfl (Nat.le_of_ble_eq_true rfl) rfl rfl (fun _ => rfl) ?_
  refine x_aload_n (pc := 10) d_Net_changeOpen_10 rfl ?_
  refine x_dup (pc := 11) d_Net_changeOpen_11 rfl ?_
  refine x_get (pc := 12) (j := 8) d_Net_changeOpen_12 f_Net_37 rfl rfl (Nat.le_of_ble_eq_true rfl) rfl rfl rfl ?_
  refine x_iconst (pc := 15) (v := 1) d_Net_changeOpen_15 (by decide) ?_
  refine x_iadd (pc := 16) d_Net_changeOpen_16 ?_
  refine y_put (pc := 17) (j := 8) d_Net_changeOpen_17 f_Net_37 rfl rfl (Nat.le_of_ble_eq_true rfl) rfl (Nat.le_of_ble_eq_true rfl) rfl rfl (fun _ => rfl) ?_
  refine x_iload_n (pc := 20) d_Net_changeOpen_20 rfl ?_
  refine y_iret (pc := 21) d_Net_changeOpen_21 rfl ?_
  exact ⟨rfl, rfl, rfl⟩
set_option maxRecDepth 100000 in
set_option maxHeartbeats 4000000 in
theorem c_Net_changePrice (V A : zV) (v p : Int32) (hv : vp_in v 9) : CQ Y_Net_changePrice 0 [.ref 1, .int v, .int p] V A (fun r V' A' => r = A 4 v.toNatClampNeg ∧ V' = zv V 1 8 (V 1 8 + 1) ∧ A' = za A 4 (upd (A 4) v.toNatClampNeg p)) := by
  refine CQ.of (lv := [.ref 1, .int v, .int p, zu]) k_Net_changePrice.1 rfl (by decide) rfl rfl (Nat.le_of_ble_eq_true rfl) ?_
  refine x_aload_n (pc := 0) d_Net_changePrice_0 rfl ?_
  refine x_get (pc := 1) (j := 2) d_Net_changePrice_1 f_Net_18 rfl rfl (Nat.le_of_ble_eq_true rfl) rfl rfl rfl ?_
  refine x_iload_n (pc := 4) d_Net_changePrice_4 rfl ?_
  refine x_iald (pc := 5) d_Net_changePrice_5 rfl hv ?_
  refine y_ist3 (pc := 6) d_Net_changePrice_6 ?_
  refine x_aload_n (pc := 7) d_Net_changePrice_7 rfl ?_
  refine x_get (pc := 8) (j := 2) d_Net_changePrice_8 f_Net_18 rfl rfl (Nat.le_of_ble_eq_true rfl) rfl rfl rfl ?_
  refine x_iload_n (pc := 11) d_Net_changePrice_11 rfl ?_
  refine x_iload_n (pc := 12) d_Net_changePrice_12 rfl ?_
  refine y_iast (pc := 13) d_Net_changePrice_13 rfl (fun _ => rfl) hv ?_
  refine x_aload_n (pc := 14) d_Net_changePrice_14 rfl ?_
  refine x_dup (pc := 15) d_Net_changePrice_15 rfl ?_
  refine x_get (pc := 16) (j := 8) d_Net_changePrice_16 f_Net_37 rfl rfl (Nat.le_of_ble_eq_true rfl) rfl rfl rfl ?_
  refine x_iconst (pc := 19) (v := 1) d_Net_changePrice_19 (by decide) ?_
  refine x_iadd (pc := 20) d_Net_changePrice_20 ?_
  refine y_put (pc := 21) (j := 8) d_Net_changePrice_21 f_Net_37 rfl rfl (Nat.le_of_ble_eq_true rfl) rfl (Nat.le_of_ble_eq_true rfl) rfl rfl (fun _ => rfl) ?_
  refine x_iload_n (pc := 24) d_Net_changePrice_24 rfl ?_
  refine y_iret (pc := 25) d_Net_changePrice_25 rfl ?_
  exact ⟨rfl, rfl, rfl⟩
set_option maxRecDepth 100000 in
set_option maxHeartbeats 4000000 in
theorem c_Net_changeCost (V A : zV) (a b c : Int32) (hv : vp_in (a * 9 + b) 81) : CQ Y_Net_changeCost 0 [.ref 1, .int a, .int b, .int c] V A (fun r V' A' => r = A 3 (a * 9 + b).toNatClampNeg ∧ V' = (if c = A 3 (a * 9 + b).toNatClampNeg then V else zv V 1 8 (V 1 8 + 1)) ∧ A' = za A 3 (upd (A 3) (a * 9 + b).toNatClampNeg c)) := by
  refine CQ.of (lv := [.ref 1, .int a, .int b, .int c, zu]) k_Net_changeCost.1 rfl (by decide) rfl rfl (Nat.le_of_ble_eq_true rfl) ?_
  refine x_aload_n (pc := 0) d_Net_changeCost_0 rfl ?_
  refine x_get (pc := 1) (j := 1) d_Net_changeCost_1 f_Net_15 rfl rfl (Nat.le_of_ble_eq_true rfl) rfl rfl rfl ?_
  refine x_iload_n (pc := 4) d_Net_changeCost_4 rfl ?_
  refine x_bipush (pc := 5) (v := 9) d_Net_changeCost_5 (by decide) ?_
  refine x_imul (pc := 7) d_Net_changeCost_7 ?_
  refine x_iload_n (pc := 8) d_Net_changeCost_8 rfl ?_
  refine x_iadd (pc := 9) d_Net_changeCost_9 ?_
  refine x_iald (pc := 10) d_Net_changeCost_10 rfl hv ?_
  refine y_ist4 (pc := 11) d_Net_changeCost_11 ?_
  refine x_aload_n (pc := 13) d_Net_changeCost_13 rfl ?_
  refine x_get (pc := 14) (j := 1) d_Net_changeCost_14 f_Net_15 rfl rfl (Nat.le_of_ble_eq_true rfl) rfl rfl rfl ?_
  refine x_iload_n (pc := 17) d_Net_changeCost_17 rfl ?_
  refine x_bipush (pc := 18) (v := 9) d_Net_changeCost_18 (by decide) ?_
  refine x_imul (pc := 20) d_Net_changeCost_20 ?_
  refine x_iload_n (pc := 21) d_Net_changeCost_21 rfl ?_
  refine x_iadd (pc := 22) d_Net_changeCost_22 ?_
  refine x_iload_n (pc := 23) d_Net_changeCost_23 rfl ?_
  refine y_iast (pc := 24) d_Net_changeCost_24 rfl (fun _ => rfl) hv ?_
  refine x_iload_n (pc := 25) d_Net_changeCost_25 rfl ?_
  refine x_iload (pc := 26) d_Net_changeCost_26 rfl ?_
  refine x_icmp_eq (pc := 28) (tgt := 41) d_Net_changeCost_28 (by decide) (fun h28 => ?_) (fun h28 => ?_)
  · refine x_iload (pc := 41) d_Net_changeCost_41 rfl ?_
    refine y_iret (pc := 43) d_Net_changeCost_43 rfl ?_
    exact ⟨rfl, by simp_all, rfl⟩
  · refine x_aload_n (pc := 31) d_Net_changeCost_31 rfl ?_
    refine x_dup (pc := 32) d_Net_changeCost_32 rfl ?_
    refine x_get (pc := 33) (j := 8) d_Net_changeCost_33 f_Net_37 rfl rfl (Nat.le_of_ble_eq_true rfl) rfl rfl rfl ?_
    refine x_iconst (pc := 36) (v := 1) d_Net_changeCost_36 (by decide) ?_
    refine x_iadd (pc := 37) d_Net_changeCost_37 ?_
    refine y_put (pc := 38) (j := 8) d_Net_changeCost_38 f_Net_37 rfl rfl (Nat.le_of_ble_eq_true rfl) rfl (Nat.le_of_ble_eq_true rfl) rfl rfl (fun _ => rfl) ?_
    refine x_iload (pc := 41) d_Net_changeCost_41 rfl ?_
    refine y_iret (pc := 43) d_Net_changeCost_43 rfl ?_
    exact ⟨rfl, by simp_all, rfl⟩
set_option maxRecDepth 100000 in
set_option maxHeartbeats 4000000 in
theorem c_Net_addNode (V A : zV) (x : Int32) (hv : vp_in (V 1 4) 9) : CQ Y_Net_addNode 0 [.ref 1, .int x] V A (fun r V' A' => r = V 1 4 ∧ V' = zv (zv V 1 4 (V 1 4 + 1)) 1 8 (V 1 8 + 1) ∧ A' = za A 2 (upd (A 2) (V 1 4).toNatClampNeg x)) := by
  refine CQ.of (lv := [.ref 1, .int x, zu]) k_Net_addNode.1 rfl (by decide) rfl rfl (Nat.le_of_ble_eq_true rfl) ?_
  refine x_aload_n (pc := 0) d_Net_addNode_0 rfl ?_
  refine x_get (pc := 1) (j := 4) d_Net_addNode_1 f_Net_24 rfl rfl (Nat.le_of_ble_eq_true rfl) rfl rfl rfl ?_
  refine y_ist2 (pc := 4) d_Net_addNode_4 ?_
  refine x_aload_n (pc := 5) d_Net_addNode_5 rfl ?_
  refine x_get (pc := 6) (j := 0) d_Net_addNode_6 f_Net_9 rfl rfl (Nat.le_of_ble_eq_true rfl) rfl rfl rfl ?_
  refine x_iload_n (pc := 9) d_Net_addNode_9 rfl ?_
  refine x_iload_n (pc := 10) d_Net_addNode_10 rfl ?_
  refine y_iast (pc := 11) d_Net_addNode_11 rfl (fun _ => rfl) hv ?_
  refine x_aload_n (pc := 12) d_Net_addNode_12 rfl ?_
  refine x_dup (pc := 13) d_Net_addNode_13 rfl ?_
  refine x_get (pc := 14) (j := 4) d_Net_addNode_14 f_Net_24 rfl rfl (Nat.le_of_ble_eq_true rfl) rfl rfl rfl ?_
  refine x_iconst (pc := 17) (v := 1) d_Net_addNode_17 (by decide) ?_
  refine x_iadd (pc := 18) d_Net_addNode_18 ?_
  refine y_put (pc := 19) (j := 4) d_Net_addNode_19 f_Net_24 rfl rfl (Nat.le_of_ble_eq_true rfl) rfl (Nat.le_of_ble_eq_true rfl) rfl rfl (fun _ => rfl) ?_
  refine x_aload_n (pc := 22) d_Net_addNode_22 rfl ?_
  refine x_dup (pc := 23) d_Net_addNode_23 rfl ?_
  refine x_get (pc := 24) (j := 8) d_Net_addNode_24 f_Net_37 rfl rfl (Nat.le_of_ble_eq_true rfl) rfl rfl rfl ?_
  refine x_iconst (pc := 27) (v := 1) d_Net_addNode_27 (by decide) ?_
  refine x_iadd (pc := 28) d_Net_addNode_28 ?_
  refine y_put (pc := 29) (j := 8) d_Net_addNode_29 f_Net_37 rfl rfl (Nat.le_of_ble_eq_true rfl) rfl (Nat.le_of_ble_eq_true rfl) rfl rfl (fun _ => rfl) ?_
  refine x_iload_n (pc := 32) d_Net_addNode_32 rfl ?_
  refine y_iret (pc := 33) d_Net_addNode_33 rfl ?_
  exact ⟨rfl, rfl, rfl⟩
set_option maxRecDepth 100000 in
set_option maxHeartbeats 4000000 in
theorem c_Net_changeEarlier (V A : zV) (a b on : Int32) (hv : vp_in b 9) : CQ Y_Net_changeEarlier 1 [.ref 1, .int a, .int b, .int on] V A (fun r V' A' => r = (if A 5 b.toNatClampNeg &&& ((1 : Int32) <<< ((a - 1) &&& 31)) = 0 then 0 else 1) ∧ V' = zv V 1 8 (V 1 8 + 1) ∧ A' = za A 5 (upd (A 5) b.toNatClampNeg (if on = 0 then A 5 b.toNatClampNeg &&& (((1 : Int32) <<< ((a - 1) &&& 31)) ^^^ (-1)) else A 5 b.toNatClampNeg ||| ((1 : Int32) <<< ((a - 1) &&& 31))))) := by
  refine CQ.of (lv := [.ref 1, .int a, .int b, .int on, zu]) k_Net_changeEarlier.1 rfl (by decide) rfl rfl (Nat.le_of_ble_eq_true rfl) ?_
  refine x_aload_n (pc := 0) d_Net_changeEarlier_0 rfl ?_
  refine x_get (pc := 1) (j := 3) d_Net_changeEarlier_1 f_Net_21 rfl rfl (Nat.le_of_ble_eq_true rfl) rfl rfl rfl ?_
  refine x_iload_n (pc := 4) d_Net_changeEarlier_4 rfl ?_
  refine x_iald (pc := 5) d_Net_changeEarlier_5 rfl hv ?_
  refine x_iload_n (pc := 6) d_Net_changeEarlier_6 rfl ?_
  refine y_fN (pc := 7) (c_CW_bit _ _ _) k_CW_bit d_Net_changeEarlier_7 n_Net_45 (by decide) rfl p_CW_bit (K := ?_)
  refine x_iand (pc := 10) d_Net_changeEarlier_10 ?_
  refine x_if_ne (pc := 11) (tgt := 18) d_Net_changeEarlier_11 (by decide) (fun h11 => ?_) (fun h11 => ?_)
  · refine x_iconst (pc := 18) (v := 1) d_Net_changeEarlier_18 (by decide) ?_
    refine y_ist4 (pc := 19) d_Net_changeEarlier_19 ?_
    refine x_aload_n (pc := 21) d_Net_changeEarlier_21 rfl ?_
    refine x_get (pc := 22) (j := 3) d_Net_changeEarlier_22 f_Net_21 rfl rfl (Nat.le_of_ble_eq_true rfl) rfl rfl rfl ?_
    refine x_iload_n (pc := 25) d_Net_changeEarlier_25 rfl ?_
    refine x_iload_n (pc := 26) d_Net_changeEarlier_26 rfl ?_
    refine x_if_eq (pc := 27) (tgt := 44) d_Net_changeEarlier_27 (by decide) (fun h27 => ?_) (fun h27 => ?_)
    · refine x_aload_n (pc := 44) d_Net_changeEarlier_44 rfl ?_
      refine x_get (pc := 45) (j := 3) d_Net_changeEarlier_45 f_Net_21 rfl rfl (Nat.le_of_ble_eq_true rfl) rfl rfl rfl ?_
      refine x_iload_n (pc := 48) d_Net_changeEarlier_48 rfl ?_
      refine x_iald (pc := 49) d_Net_changeEarlier_49 rfl hv ?_
      refine x_iload_n (pc := 50) d_Net_changeEarlier_50 rfl ?_
      refine y_fN (pc := 51) (c_CW_bit _ _ _) k_CW_bit d_Net_changeEarlier_51 n_Net_45 (by decide) rfl p_CW_bit (K := ?_)
      refine x_iconst (pc := 54) (v := (-1)) d_Net_changeEarlier_54 (by decide) ?_
      refine x_ixor (pc := 55) d_Net_changeEarlier_55 ?_
      refine x_iand (pc := 56) d_Net_changeEarlier_56 ?_
      refine y_iast (pc := 57) d_Net_changeEarlier_57 rfl (fun _ => rfl) hv ?_
      refine x_aload_n (pc := 58) d_Net_changeEarlier_58 rfl ?_
      refine x_dup (pc := 59) d_Net_changeEarlier_59 rfl ?_
      refine x_get (pc := 60) (j := 8) d_Net_changeEarlier_60 f_Net_37 rfl rfl (Nat.le_of_ble_eq_true rfl) rfl rfl rfl ?_
      refine x_iconst (pc := 63) (v := 1) d_Net_changeEarlier_63 (by decide) ?_
      refine x_iadd (pc := 64) d_Net_changeEarlier_64 ?_
      refine y_put (pc := 65) (j := 8) d_Net_changeEarlier_65 f_Net_37 rfl rfl (Nat.le_of_ble_eq_true rfl) rfl (Nat.le_of_ble_eq_true rfl) rfl rfl (fun _ => rfl) ?_
      refine x_iload (pc := 68) d_Net_changeEarlier_68 rfl ?_
      refine y_iret (pc := 70) d_Net_changeEarlier_70 rfl ?_
      exact ⟨by simp_all, rfl, by simp_all⟩
    · refine x_aload_n (pc := 30) d_Net_changeEarlier_30 rfl ?_
      refine x_get (pc := 31) (j := 3) d_Net_changeEarlier_31 f_Net_21 rfl rfl (Nat.le_of_ble_eq_true rfl) rfl rfl rfl ?_
      refine x_iload_n (pc := 34) d_Net_changeEarlier_34 rfl ?_
      refine x_iald (pc := 35) d_Net_changeEarlier_35 rfl hv ?_
      refine x_iload_n (pc := 36) d_Net_changeEarlier_36 rfl ?_
      refine y_fN (pc := 37) (c_CW_bit _ _ _) k_CW_bit d_Net_changeEarlier_37 n_Net_45 (by decide) rfl p_CW_bit (K := ?_)
      refine x_ior (pc := 40) d_Net_changeEarlier_40 ?_
      refine x_goto (pc := 41) (tgt := 57) d_Net_changeEarlier_41 (by decide) ?_
      refine y_iast (pc := 57) d_Net_changeEarlier_57 rfl (fun _ => rfl) hv ?_
      refine x_aload_n (pc := 58) d_Net_changeEarlier_58 rfl ?_
      refine x_dup (pc := 59) d_Net_changeEarlier_59 rfl ?_
      refine x_get (pc := 60) (j := 8) d_Net_changeEarlier_60 f_Net_37 rfl rfl (Nat.le_of_ble_eq_true rfl) rfl rfl rfl ?_
      refine x_iconst (pc := 63) (v := 1) d_Net_changeEarlier_63 (by decide) ?_
      refine x_iadd (pc := 64) d_Net_changeEarlier_64 ?_
      refine y_put (pc := 65) (j := 8) d_Net_changeEarlier_65 f_Net_37 rfl rfl (Nat.le_of_ble_eq_true rfl) rfl (Nat.le_of_ble_eq_true rfl) rfl rfl (fun _ => rfl) ?_
      refine x_iload (pc := 68) d_Net_changeEarlier_68 rfl ?_
      refine y_iret (pc := 70) d_Net_changeEarlier_70 rfl ?_
      exact ⟨by simp_all, rfl, by simp_all⟩
  · refine x_iconst (pc := 14) (v := 0) d_Net_changeEarlier_14 (by decide) ?_
    refine x_goto (pc := 15) (tgt := 19) d_Net_changeEarlier_15 (by decide) ?_
    refine y_ist4 (pc := 19) d_Net_changeEarlier_19 ?_
    refine x_aload_n (pc := 21) d_Net_changeEarlier_21 rfl ?_
    refine x_get (pc := 22) (j := 3) d_Net_changeEarlier_22 f_Net_21 rfl rfl (Nat.le_of_ble_eq_true rfl) rfl rfl rfl ?_
    refine x_iload_n (pc := 25) d_Net_changeEarlier_25 rfl ?_
    refine x_iload_n (pc := 26) d_Net_changeEarlier_26 rfl ?_
    refine x_if_eq (pc := 27) (tgt := 44) d_Net_changeEarlier_27 (by decide) (fun h27 => ?_) (fun h27 => ?_)
    · refine x_aload_n (pc := 44) d_Net_changeEarlier_44 rfl ?_
      refine x_get (pc := 45) (j := 3) d_Net_changeEarlier_45 f_Net_21 rfl rfl (Nat.le_of_ble_eq_true rfl) rfl rfl rfl ?_
      refine x_iload_n (pc := 48) d_Net_changeEarlier_48 rfl ?_
      refine x_iald (pc := 49) d_Net_changeEarlier_49 rfl hv ?_
      refine x_iload_n (pc := 50) d_Net_changeEarlier_50 rfl ?_
      refine y_fN (pc := 51) (c_CW_bit _ _ _) k_CW_bit d_Net_changeEarlier_51 n_Net_45 (by decide) rfl p_CW_bit (K := ?_)
      refine x_iconst (pc := 54) (v := (-1)) d_Net_changeEarlier_54 (by decide) ?_
      refine x_ixor (pc := 55) d_Net_changeEarlier_55 ?_
      refine x_iand (pc := 56) d_Net_changeEarlier_56 ?_
      refine y_iast (pc := 57) d_Net_changeEarlier_57 rfl (fun _ => rfl) hv ?_
      refine x_aload_n (pc := 58) d_Net_changeEarlier_58 rfl ?_
      refine x_dup (pc := 59) d_Net_changeEarlier_59 rfl ?_
      refine x_get (pc := 60) (j := 8) d_Net_changeEarlier_60 f_Net_37 rfl rfl (Nat.le_of_ble_eq_true rfl) rfl rfl rfl ?_
      refine x_iconst (pc := 63) (v := 1) d_Net_changeEarlier_63 (by decide) ?_
      refine x_iadd (pc := 64) d_Net_changeEarlier_64 ?_
      refine y_put (pc := 65) (j := 8) d_Net_changeEarlier_65 f_Net_37 rfl rfl (Nat.le_of_ble_eq_true rfl) rfl (Nat.le_of_ble_eq_true rfl) rfl rfl (fun _ => rfl) ?_
      refine x_iload (pc := 68) d_Net_changeEarlier_68 rfl ?_
      refine y_iret (pc := 70) d_Net_changeEarlier_70 rfl ?_
      exact ⟨by simp_all, rfl, by simp_all⟩
    · refine x_aload_n (pc := 30) d_Net_changeEarlier_30 rfl ?_
      refine x_get (pc := 31) (j := 3) d_Net_changeEarlier_31 f_Net_21 rfl rfl (Nat.le_of_ble_eq_true rfl) rfl rfl rfl ?_
      refine x_iload_n (pc := 34) d_Net_changeEarlier_34 rfl ?_
      refine x_iald (pc := 35) d_Net_changeEarlier_35 rfl hv ?_
      refine x_iload_n (pc := 36) d_Net_changeEarlier_36 rfl ?_
      refine y_fN (pc := 37) (c_CW_bit _ _ _) k_CW_bit d_Net_changeEarlier_37 n_Net_45 (by decide) rfl p_CW_bit (K := ?_)
      refine x_ior (pc := 40) d_Net_changeEarlier_40 ?_
      refine x_goto (pc := 41) (tgt := 57) d_Net_changeEarlier_41 (by decide) ?_
      refine y_iast (pc := 57) d_Net_changeEarlier_57 rfl (fun _ => rfl) hv ?_
      refine x_aload_n (pc := 58) d_Net_changeEarlier_58 rfl ?_
      refine x_dup (pc := 59) d_Net_changeEarlier_59 rfl ?_
      refine x_get (pc := 60) (j := 8) d_Net_changeEarlier_60 f_Net_37 rfl rfl (Nat.le_of_ble_eq_true rfl) rfl rfl rfl ?_
      refine x_iconst (pc := 63) (v := 1) d_Net_changeEarlier_63 (by decide) ?_
      refine x_iadd (pc := 64) d_Net_changeEarlier_64 ?_
      refine y_put (pc := 65) (j := 8) d_Net_changeEarlier_65 f_Net_37 rfl rfl (Nat.le_of_ble_eq_true rfl) rfl (Nat.le_of_ble_eq_true rfl) rfl rfl (fun _ => rfl) ?_
      refine x_iload (pc := 68) d_Net_changeEarlier_68 rfl ?_
      refine y_iret (pc := 70) d_Net_changeEarlier_70 rfl ?_
      exact ⟨by simp_all, rfl, by simp_all⟩
set_option maxRecDepth 100000 in
set_option maxHeartbeats 4000000 in
theorem c_Net_costBack (V A : zV) (x : Int32) (hv : vp_in (x * 9) 81) : CQ Y_Net_costBack 0 [.ref 1, .int x] V A (fun r V' A' => r = (if V 1 7 = 1 then 0 else A 3 (x * 9).toNatClampNeg) ∧ V' = V ∧ A' = A) := by
  refine CQ.of (lv := [.ref 1, .int x]) k_Net_costBack.1 rfl (by decide) rfl rfl (Nat.le_of_ble_eq_true rfl) ?_
  refine x_aload_n (pc := 0) d_Net_costBack_0 rfl ?_
  refine x_get (pc := 1) (j := 7) d_Net_costBack_1 f_Net_34 rfl rfl (Nat.le_of_ble_eq_true rfl) rfl rfl rfl ?_
  refine x_iconst (pc := 4) (v := 1) d_Net_costBack_4 (by decide) ?_
  refine x_icmp_ne (pc := 5) (tgt := 12) d_Net_costBack_5 (by decide) (fun h5 => ?_) (fun h5 => ?_)
  · refine x_aload_n (pc := 12) d_Net_costBack_12 rfl ?_
    refine x_get (pc := 13) (j := 1) d_Net_costBack_13 f_Net_15 rfl rfl (Nat.le_of_ble_eq_true rfl) rfl rfl rfl ?_
    refine x_iload_n (pc := 16) d_Net_costBack_16 rfl ?_
    refine x_bipush (pc := 17) (v := 9) d_Net_costBack_17 (by decide) ?_
    refine x_imul (pc := 19) d_Net_costBack_19 ?_
    refine x_iald (pc := 20) d_Net_costBack_20 rfl hv ?_
    refine y_iret (pc := 21) d_Net_costBack_21 rfl ?_
    exact ⟨by simp_all, rfl, rfl⟩
  · refine x_iconst (pc := 8) (v := 0) d_Net_costBack_8 (by decide) ?_
    refine x_goto (pc := 9) (tgt := 21) d_Net_costBack_9 (by decide) ?_
    refine y_iret (pc := 21) d_Net_costBack_21 rfl ?_
    exact ⟨by simp_all, rfl, rfl⟩
