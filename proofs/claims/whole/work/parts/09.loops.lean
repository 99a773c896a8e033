theorem z_down {S : Nat → Prop} {N : Nat} (hend : S N) (hstep : ∀ k, k < N → S (k + 1) → S k) : ∀ k, k ≤ N → S k := by
  intro k hk
  obtain ⟨j, rfl⟩ : ∃ j, N = k + j := ⟨N - k, by omega⟩
  induction j generalizing k with
  | zero => exact hend
  | succ j ih => exact hstep k (by omega) (ih (k + 1) (by rw [show k + 1 + j = k + (j + 1) by omega]; exact hend) (by rw [show k + 1 + j = k + (j + 1) by omega]; exact hstep) (by omega))
/-- a loop's value: one step for each number below k -/
def zf {α : Type} (f : Nat → α → α) (a : α) : Nat → α
  | 0 => a
  | k + 1 => f k (zf f a k)
theorem zf_s {α : Type} (f : Nat → α → α) (a : α) (k : Nat) : zf f a (k + 1) = f k (zf f a k) := rfl
theorem zf_congr {α : Type} {f g : Nat → α → α} {a : α} {n : Nat} (h : ∀ k x, k < n → f k x = g k x) : zf f a n = zf g a n := by
  induction n with
  | zero => rfl
  | succ n ih => rw [zf_s, zf_s, ih (fun k x hk => h k x (by omega)), h n _ (by omega)]
set_option maxRecDepth 100000 in
set_option maxHeartbeats 4000000 in
theorem c_Net_arcs (V A : zV)  : CQ Y_Net_arcs 0 [.ref 1] V A (fun r V' A' => r = zf (fun i a => if A 3 i = 1000000000 then a else a + 1) 0 81 ∧ V' = V ∧ A' = A) := by
  have hS : ∀ k, k ≤ 81 → X Y_Net_arcs (zrm 0) (0, fun _ => 0) (zFq 0 (fun r V' A' => r = zf (fun i a => if A 3 i = 1000000000 then a else a + 1) 0 81 ∧ V' = V ∧ A' = A)) 4 [.ref 1, .int (zf (fun i a => if A 3 i = 1000000000 then a else a + 1) 0 k), .int (nI k)] [] (cells V A) 0 0 := by
    refine z_down ?_ (fun k hk hs => ?_)
    · refine x_iload_n (pc := 4) d_Net_arcs_4 rfl ?_
      refine x_aload_n (pc := 5) d_Net_arcs_5 rfl ?_
      refine x_get (pc := 6) (j := 1) d_Net_arcs_6 f_Net_15 rfl rfl (Nat.le_of_ble_eq_true rfl) rfl rfl rfl ?_
      refine x_alen (pc := 9) d_Net_arcs_9 rfl rfl ?_
      refine x_icmp_ge (pc := 10) (tgt := 33) d_Net_arcs_10 (by decide) (fun h10 => ?_) (fun h => absurd (nI_le (Nat.le_refl _) (by decide)) h)
      refine x_iload_n (pc := 33) d_Net_arcs_33 rfl ?_
      refine y_iret (pc := 34) d_Net_arcs_34 rfl ?_
      exact ⟨rfl, rfl, rfl⟩
    · rw [zf_s _ _ k, nI_succ k] at hs
      refine x_iload_n (pc := 4) d_Net_arcs_4 rfl ?_
      refine x_aload_n (pc := 5) d_Net_arcs_5 rfl ?_
      refine x_get (pc := 6) (j := 1) d_Net_arcs_6 f_Net_15 rfl rfl (Nat.le_of_ble_eq_true rfl) rfl rfl rfl ?_
      refine x_alen (pc := 9) d_Net_arcs_9 rfl rfl ?_
      refine x_icmp_ge (pc := 10) (tgt := 33) d_Net_arcs_10 (by decide) (fun h => absurd h (nI_ge hk (by decide))) (fun h10 => ?_)
      refine x_aload_n (pc := 13) d_Net_arcs_13 rfl ?_
      refine x_get (pc := 14) (j := 1) d_Net_arcs_14 f_Net_15 rfl rfl (Nat.le_of_ble_eq_true rfl) rfl rfl rfl ?_
      refine x_iload_n (pc := 17) d_Net_arcs_17 rfl ?_
      refine x_iald (pc := 18) d_Net_arcs_18 rfl (vp_in_nI hk (by decide)) ?_
      refine x_ldc (pc := 19) (v := 1000000000) d_Net_arcs_19 i_Net_40 ?_
      refine x_icmp_eq (pc := 21) (tgt := 27) d_Net_arcs_21 (by decide) (fun h21 => ?_) (fun h21 => ?_)
      · refine y_inc2 (pc := 27) (v := 1) d_Net_arcs_27 (by decide) ?_
        refine x_goto (pc := 30) (tgt := 4) d_Net_arcs_30 (by decide) ?_
        (rw [nI_clamp (by omega)] at h21; first | (rw [if_pos h21] at hs; exact hs) | (rw [if_neg h21] at hs; exact hs))
      · refine y_inc1 (pc := 24) (v := 1) d_Net_arcs_24 (by decide) ?_
        refine y_inc2 (pc := 27) (v := 1) d_Net_arcs_27 (by decide) ?_
        refine x_goto (pc := 30) (tgt := 4) d_Net_arcs_30 (by decide) ?_
        (rw [nI_clamp (by omega)] at h21; first | (rw [if_pos h21] at hs; exact hs) | (rw [if_neg h21] at hs; exact hs))
  have hS := hS 0 (by omega)
  refine CQ.of (lv := [.ref 1, zu, zu]) k_Net_arcs.1 rfl (by decide) rfl rfl (Nat.le_of_ble_eq_true rfl) ?_
  refine x_iconst (pc := 0) (v := 0) d_Net_arcs_0 (by decide) ?_
  refine y_ist1 (pc := 1) d_Net_arcs_1 ?_
  refine x_iconst (pc := 2) (v := 0) d_Net_arcs_2 (by decide) ?_
  refine y_ist2 (pc := 3) d_Net_arcs_3 ?_
  exact hS
def zu1 (x : Int32) (k : Int32) : Int32 := (x.toUInt32 >>> (k.toUInt32 &&& Int32.toUInt32 31)).toInt32
def zbc (x : Int32) : Int32 :=
  let a := x - (zu1 x 1 &&& 1431655765)
  let b := (a &&& 858993459) + (zu1 a 2 &&& 858993459)
  let c := (b + zu1 b 4) &&& 252645135
  let e := c + zu1 c 8
  let f := e + zu1 e 16
  f &&& 63
set_option maxRecDepth 100000 in
set_option maxHeartbeats 4000000 in
theorem c_JI_bitCount (V A : zV) (x : Int32) : CQ Y_JI_bitCount 0 [.int x] V A (fun r V' A' => r = zbc x ∧ V' = V ∧ A' = A) := by
  refine CQ.of (lv := [.int x]) k_JI_bitCount.1 rfl (by decide) rfl rfl (Nat.le_of_ble_eq_true rfl) ?_
  refine x_iload_n (pc := 0) d_JI_bitCount_0 rfl ?_
  refine x_iload_n (pc := 1) d_JI_bitCount_1 rfl ?_
  refine x_iconst (pc := 2) (v := 1) d_JI_bitCount_2 (by decide) ?_
  refine x_iushr (pc := 3) d_JI_bitCount_3 rfl ?_
  refine x_ldcw (pc := 4) (v := 1431655765) d_JI_bitCount_4 i_JI_265 ?_
  refine x_iand (pc := 7) d_JI_bitCount_7 ?_
  refine x_isub (pc := 8) d_JI_bitCount_8 ?_
  refine y_ist0 (pc := 9) d_JI_bitCount_9 ?_
  refine x_iload_n (pc := 10) d_JI_bitCount_10 rfl ?_
  refine x_ldcw (pc := 11) (v := 858993459) d_JI_bitCount_11 i_JI_266 ?_
  refine x_iand (pc := 14) d_JI_bitCount_14 ?_
  refine x_iload_n (pc := 15) d_JI_bitCount_15 rfl ?_
  refine x_iconst (pc := 16) (v := 2) d_JI_bitCount_16 (by decide) ?_
  refine x_iushr (pc := 17) d_JI_bitCount_17 rfl ?_
  refine x_ldcw (pc := 18) (v := 858993459) d_JI_bitCount_18 i_JI_266 ?_
  refine x_iand (pc := 21) d_JI_bitCount_21 ?_
  refine x_iadd (pc := 22) d_JI_bitCount_22 ?_
  refine y_ist0 (pc := 23) d_JI_bitCount_23 ?_
  refine x_iload_n (pc := 24) d_JI_bitCount_24 rfl ?_
  refine x_iload_n (pc := 25) d_JI_bitCount_25 rfl ?_
  refine x_iconst (pc := 26) (v := 4) d_JI_bitCount_26 (by decide) ?_
  refine x_iushr (pc := 27) d_JI_bitCount_27 rfl ?_
  refine x_iadd (pc := 28) d_JI_bitCount_28 ?_
  refine x_ldcw (pc := 29) (v := 252645135) d_JI_bitCount_29 i_JI_267 ?_
  refine x_iand (pc := 32) d_JI_bitCount_32 ?_
  refine y_ist0 (pc := 33) d_JI_bitCount_33 ?_
  refine x_iload_n (pc := 34) d_JI_bitCount_34 rfl ?_
  refine x_iload_n (pc := 35) d_JI_bitCount_35 rfl ?_
  refine x_bipush (pc := 36) (v := 8) d_JI_bitCount_36 (by decide) ?_
  refine x_iushr (pc := 38) d_JI_bitCount_38 rfl ?_
  refine x_iadd (pc := 39) d_JI_bitCount_39 ?_
  refine y_ist0 (pc := 40) d_JI_bitCount_40 ?_
  refine x_iload_n (pc := 41) d_JI_bitCount_41 rfl ?_
  refine x_iload_n (pc := 42) d_JI_bitCount_42 rfl ?_
  refine x_bipush (pc := 43) (v := 16) d_JI_bitCount_43 (by decide) ?_
  refine x_iushr (pc := 45) d_JI_bitCount_45 rfl ?_
  refine x_iadd (pc := 46) d_JI_bitCount_46 ?_
  refine y_ist0 (pc := 47) d_JI_bitCount_47 ?_
  refine x_iload_n (pc := 48) d_JI_bitCount_48 rfl ?_
  refine x_bipush (pc := 49) (v := 63) d_JI_bitCount_49 (by decide) ?_
  refine x_iand (pc := 51) d_JI_bitCount_51 ?_
  refine y_iret (pc := 52) d_JI_bitCount_52 rfl ?_
  exact ⟨rfl, rfl, rfl⟩
set_option maxRecDepth 100000 in
set_option maxHeartbeats 4000000 in
theorem c_Net_pairsAhead (V A : zV)  (n : Nat) (hn : V 1 4 = nI n) (h1 : 1 ≤ n) (h9 : n ≤ 9) : CQ Y_Net_pairsAhead 1 [.ref 1] V A (fun r V' A' => r = zf (fun i a => a + zbc (A 5 (i + 1))) 0 (n - 1) ∧ V' = V ∧ A' = A) := by
  have hS : ∀ k, k ≤ (n - 1) → X Y_Net_pairsAhead (zrm 1) (0, fun _ => 0) (zFq 1 (fun r V' A' => r = zf (fun i a => a + zbc (A 5 (i + 1))) 0 (n - 1) ∧ V' = V ∧ A' = A)) 4 [.ref 1, .int (zf (fun i a => a + zbc (A 5 (i + 1))) 0 k), .int (nI (k + 1))] [] (cells V A) 0 0 := by
    refine z_down ?_ (fun k hk hs => ?_)
    · rw [show n - 1 + 1 = n by omega]
      refine x_iload_n (pc := 4) d_Net_pairsAhead_4 rfl ?_
      refine x_aload_n (pc := 5) d_Net_pairsAhead_5 rfl ?_
      refine x_get (pc := 6) (j := 4) d_Net_pairsAhead_6 f_Net_24 rfl rfl (Nat.le_of_ble_eq_true rfl) rfl rfl rfl ?_
      refine x_icmp_ge (pc := 9) (tgt := 30) d_Net_pairsAhead_9 (by decide) (fun h9 => ?_) (fun h => by rw [hn] at h; exact absurd (nI_le (by omega) (by omega)) h)
      refine x_iload_n (pc := 30) d_Net_pairsAhead_30 rfl ?_
      refine y_iret (pc := 31) d_Net_pairsAhead_31 rfl ?_
      exact ⟨rfl, rfl, rfl⟩
    · rw [zf_s _ _ k, nI_succ (k + 1)] at hs
      refine x_iload_n (pc := 4) d_Net_pairsAhead_4 rfl ?_
      refine x_aload_n (pc := 5) d_Net_pairsAhead_5 rfl ?_
      refine x_get (pc := 6) (j := 4) d_Net_pairsAhead_6 f_Net_24 rfl rfl (Nat.le_of_ble_eq_true rfl) rfl rfl rfl ?_
      refine x_icmp_ge (pc := 9) (tgt := 30) d_Net_pairsAhead_9 (by decide) (fun h => by rw [hn] at h; exact absurd h (nI_ge (by omega) (by omega))) (fun h9 => ?_)
      refine x_iload_n (pc := 12) d_Net_pairsAhead_12 rfl ?_
      refine x_aload_n (pc := 13) d_Net_pairsAhead_13 rfl ?_
      refine x_get (pc := 14) (j := 3) d_Net_pairsAhead_14 f_Net_21 rfl rfl (Nat.le_of_ble_eq_true rfl) rfl rfl rfl ?_
      refine x_iload_n (pc := 17) d_Net_pairsAhead_17 rfl ?_
      refine x_iald (pc := 18) d_Net_pairsAhead_18 rfl (vp_in_nI (by omega) (by decide)) ?_
      refine y_fS (pc := 19) (c_JI_bitCount _ _ _) k_JI_bitCount d_Net_pairsAhead_19 m_Net_49 (by decide) rfl p_JI_bitCount (K := ?_)
      refine x_iadd (pc := 22) d_Net_pairsAhead_22 ?_
      refine y_ist1 (pc := 23) d_Net_pairsAhead_23 ?_
      refine y_inc2 (pc := 24) (v := 1) d_Net_pairsAhead_24 (by decide) ?_
      refine x_goto (pc := 27) (tgt := 4) d_Net_pairsAhead_27 (by decide) ?_
      (rw [nI_clamp (by omega)]; exact hs)
  have hS := hS 0 (by omega)
  refine CQ.of (lv := [.ref 1, zu, zu]) k_Net_pairsAhead.1 rfl (by decide) rfl rfl (Nat.le_of_ble_eq_true rfl) ?_
  refine x_iconst (pc := 0) (v := 0) d_Net_pairsAhead_0 (by decide) ?_
  refine y_ist1 (pc := 1) d_Net_pairsAhead_1 ?_
  refine x_iconst (pc := 2) (v := 1) d_Net_pairsAhead_2 (by decide) ?_
  refine y_ist2 (pc := 3) d_Net_pairsAhead_3 ?_
  exact hS
def zsum (a b : Int32) : Int32 := if a = 1000000000 ∨ b = 1000000000 then 1000000000 else a + b
set_option maxRecDepth 100000 in
set_option maxHeartbeats 4000000 in
theorem c_Net_costOut (V A : zV) (s : Int32) (n : Nat) (hn : V 1 4 = nI n) (h1 : 1 ≤ n) (h9 : n ≤ 9) : CQ Y_Net_costOut 1 [.ref 1, .int s] V A (fun r V' A' => r = zf (fun i a => if s &&& ((1 : Int32) <<< ((nI (i + 1) - 1) &&& 31)) = 0 then a else zsum a (if A 4 (i + 1) < 0 then 1000000000 else A 4 (i + 1))) 0 (n - 1) ∧ V' = V ∧ A' = A) := by
  have hS : ∀ k, k ≤ (n - 1) → X Y_Net_costOut (zrm 1) (0, fun _ => 0) (zFq 1 (fun r V' A' => r = zf (fun i a => if s &&& ((1 : Int32) <<< ((nI (i + 1) - 1) &&& 31)) = 0 then a else zsum a (if A 4 (i + 1) < 0 then 1000000000 else A 4 (i + 1))) 0 (n - 1) ∧ V' = V ∧ A' = A)) 4 [.ref 1, .int s, .int (zf (fun i a => if s &&& ((1 : Int32) <<< ((nI (i + 1) - 1) &&& 31)) = 0 then a else zsum a (if A 4 (i + 1) < 0 then 1000000000 else A 4 (i + 1))) 0 k), .int (nI (k + 1))] [] (cells V A) 0 0 := by
    refine z_down ?_ (fun k hk hs => ?_)
    · rw [show n - 1 + 1 = n by omega]
      refine x_iload_n (pc := 4) d_Net_costOut_4 rfl ?_
      refine x_aload_n (pc := 5) d_Net_costOut_5 rfl ?_
      refine x_get (pc := 6) (j := 4) d_Net_costOut_6 f_Net_24 rfl rfl (Nat.le_of_ble_eq_true rfl) rfl rfl rfl ?_
      refine x_icmp_ge (pc := 9) (tgt := 52) d_Net_costOut_9 (by decide) (fun h9 => ?_) (fun h => by rw [hn] at h; exact absurd (nI_le (by omega) (by omega)) h)
      refine x_iload_n (pc := 52) d_Net_costOut_52 rfl ?_
      refine y_iret (pc := 53) d_Net_costOut_53 rfl ?_
      exact ⟨rfl, rfl, rfl⟩
    · rw [zf_s _ _ k, nI_succ (k + 1)] at hs
      have hc : (nI (k + 1)).toNatClampNeg = k + 1 := nI_clamp (by omega)
      refine x_iload_n (pc := 4) d_Net_costOut_4 rfl ?_
      refine x_aload_n (pc := 5) d_Net_costOut_5 rfl ?_
      refine x_get (pc := 6) (j := 4) d_Net_costOut_6 f_Net_24 rfl rfl (Nat.le_of_ble_eq_true rfl) rfl rfl rfl ?_
      refine x_icmp_ge (pc := 9) (tgt := 52) d_Net_costOut_9 (by decide) (fun h => by rw [hn] at h; exact absurd h (nI_ge (by omega) (by omega))) (fun h9 => ?_)
      refine x_iload_n (pc := 12) d_Net_costOut_12 rfl ?_
      refine x_iload_n (pc := 13) d_Net_costOut_13 rfl ?_
      refine y_fN (pc := 14) (c_CW_bit _ _ _) k_CW_bit d_Net_costOut_14 n_Net_45 (by decide) rfl p_CW_bit (K := ?_)
      refine x_iand (pc := 17) d_Net_costOut_17 ?_
      refine x_if_eq (pc := 18) (tgt := 46) d_Net_costOut_18 (by decide) (fun h18 => ?_) (fun h18 => ?_)
      · refine y_inc3 (pc := 46) (v := 1) d_Net_costOut_46 (by decide) ?_
        refine x_goto (pc := 49) (tgt := 4) d_Net_costOut_49 (by decide) ?_
        (first | (rw [if_pos h18] at hs; exact hs) | (rw [if_neg h18] at hs; rw [hc] at h28; first | (rw [if_neg (Int32.not_lt.mpr h28)] at hs; rw [hc]; exact hs) | (rw [if_pos (Int32.not_le.mp h28)] at hs; exact hs)))
      · refine x_iload_n (pc := 21) d_Net_costOut_21 rfl ?_
        refine x_aload_n (pc := 22) d_Net_costOut_22 rfl ?_
        refine x_get (pc := 23) (j := 2) d_Net_costOut_23 f_Net_18 rfl rfl (Nat.le_of_ble_eq_true rfl) rfl rfl rfl ?_
        refine x_iload_n (pc := 26) d_Net_costOut_26 rfl ?_
        refine x_iald (pc := 27) d_Net_costOut_27 rfl (vp_in_nI (by omega) (by decide)) ?_
        refine x_if_ge (pc := 28) (tgt := 36) d_Net_costOut_28 (by decide) (fun h28 => ?_) (fun h28 => ?_)
        · refine x_aload_n (pc := 36) d_Net_costOut_36 rfl ?_
          refine x_get (pc := 37) (j := 2) d_Net_costOut_37 f_Net_18 rfl rfl (Nat.le_of_ble_eq_true rfl) rfl rfl rfl ?_
          refine x_iload_n (pc := 40) d_Net_costOut_40 rfl ?_
          refine x_iald (pc := 41) d_Net_costOut_41 rfl (vp_in_nI (by omega) (by decide)) ?_
          refine y_fN (pc := 42) (c_CW_sum _ _ _ _) k_CW_sum d_Net_costOut_42 n_Net_54 (by decide) rfl p_CW_sum (K := ?_)
          refine y_ist2 (pc := 45) d_Net_costOut_45 ?_
          refine y_inc3 (pc := 46) (v := 1) d_Net_costOut_46 (by decide) ?_
          refine x_goto (pc := 49) (tgt := 4) d_Net_costOut_49 (by decide) ?_
          (first | (rw [if_pos h18] at hs; exact hs) | (rw [if_neg h18] at hs; rw [hc] at h28; first | (rw [if_neg (Int32.not_lt.mpr h28)] at hs; rw [hc]; exact hs) | (rw [if_pos (Int32.not_le.mp h28)] at hs; exact hs)))
        · refine x_ldc (pc := 31) (v := 1000000000) d_Net_costOut_31 i_Net_40 ?_
          refine x_goto (pc := 33) (tgt := 42) d_Net_costOut_33 (by decide) ?_
          refine y_fN (pc := 42) (c_CW_sum _ _ _ _) k_CW_sum d_Net_costOut_42 n_Net_54 (by decide) rfl p_CW_sum (K := ?_)
          refine y_ist2 (pc := 45) d_Net_costOut_45 ?_
          refine y_inc3 (pc := 46) (v := 1) d_Net_costOut_46 (by decide) ?_
          refine x_goto (pc := 49) (tgt := 4) d_Net_costOut_49 (by decide) ?_
          (first | (rw [if_pos h18] at hs; exact hs) | (rw [if_neg h18] at hs; rw [hc] at h28; first | (rw [if_neg (Int32.not_lt.mpr h28)] at hs; rw [hc]; exact hs) | (rw [if_pos (Int32.not_le.mp h28)] at hs; exact hs)))
  have hS := hS 0 (by omega)
  refine CQ.of (lv := [.ref 1, .int s, zu, zu]) k_Net_costOut.1 rfl (by decide) rfl rfl (Nat.le_of_ble_eq_true rfl) ?_
  refine x_iconst (pc := 0) (v := 0) d_Net_costOut_0 (by decide) ?_
  refine y_ist2 (pc := 1) d_Net_costOut_1 ?_
  refine x_iconst (pc := 2) (v := 1) d_Net_costOut_2 (by decide) ?_
  refine y_ist3 (pc := 3) d_Net_costOut_3 ?_
  exact hS
