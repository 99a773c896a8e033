set_option maxRecDepth 100000 in
set_option maxHeartbeats 4000000 in
theorem c_Net_isNode (V A : zV) (v : Int32) : CQ Y_Net_isNode 0 [.ref 1, .int v] V A (fun r V' A' => r = (if 0 ≤ v ∧ v < V 1 4 then 1 else 0) ∧ V' = V ∧ A' = A) := by
  refine CQ.of (lv := [.ref 1, .int v]) k_Net_isNode.1 rfl (by decide) rfl rfl (Nat.le_of_ble_eq_true rfl) ?_
  refine x_iload_n (pc := 0) d_Net_isNode_0 rfl ?_
  refine x_if_lt (pc := 1) (tgt := 16) d_Net_isNode_1 (by decide) (fun h1 => ?_) (fun h1 => ?_)
  · refine x_iconst (pc := 16) (v := 0) d_Net_isNode_16 (by decide) ?_
    exact y_zret (pc := 17) d_Net_isNode_17 rfl rfl ⟨by rw [if_neg]; intro h; exact absurd h1 (Int32.not_lt.mpr h.1), rfl, rfl⟩
  · refine x_iload_n (pc := 4) d_Net_isNode_4 rfl ?_
    refine x_aload_n (pc := 5) d_Net_isNode_5 rfl ?_
    refine x_get (pc := 6) (j := 4) d_Net_isNode_6 f_Net_24 rfl rfl (Nat.le_of_ble_eq_true rfl) rfl rfl rfl ?_
    refine x_icmp_ge (pc := 9) (tgt := 16) d_Net_isNode_9 (by decide) (fun h9 => ?_) (fun h9 => ?_)
    · refine x_iconst (pc := 16) (v := 0) d_Net_isNode_16 (by decide) ?_
      exact y_zret (pc := 17) d_Net_isNode_17 rfl rfl ⟨by rw [if_neg]; intro h; exact absurd h.2 (Int32.not_lt.mpr h9), rfl, rfl⟩
    · refine x_iconst (pc := 12) (v := 1) d_Net_isNode_12 (by decide) ?_
      refine x_goto (pc := 13) (tgt := 17) d_Net_isNode_13 (by decide) ?_
      exact y_zret (pc := 17) d_Net_isNode_17 rfl rfl ⟨by rw [if_pos]; exact ⟨Int32.not_lt.mp h1, Int32.not_le.mp h9⟩, rfl, rfl⟩
