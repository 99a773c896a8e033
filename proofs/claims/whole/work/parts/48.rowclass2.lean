set_option maxRecDepth 100000 in
set_option maxHeartbeats 4000000 in
theorem c_Row_cost {W : zW} (V A : zV) (hW : zWok W) (hC : WC W V A) (x : Nat → Nat) (L : Nat) (hs : V 33 3 = nI L) (hL : L ≤ 20) (hx : ∀ i, i < L → A 34 i = nI (x i) ∧ x i < W.n) : CQ Y_Row_cost 3 [.ref 33] V A (fun r V' A' => r = zEc (zPC W x L) ∧ V' = V ∧ A' = A) := by
  refine CQ.of (lv := [.ref 33]) k_Row_cost.1 rfl (by decide) rfl rfl (Nat.le_of_ble_eq_true rfl) ?_
  refine x_aload_n (pc := 0) d_Row_cost_0 rfl ?_
  refine x_aload_n (pc := 1) d_Row_cost_1 rfl ?_
  refine x_get (pc := 2) (j := 1) d_Row_cost_2 f_Row_9 rfl rfl (Nat.le_of_ble_eq_true rfl) rfl rfl rfl ?_
  refine x_aload_n (pc := 5) d_Row_cost_5 rfl ?_
  refine x_get (pc := 6) (j := 3) d_Row_cost_6 f_Row_18 rfl rfl (Nat.le_of_ble_eq_true rfl) rfl rfl rfl ?_
  rw [hs]
  refine y_fV (pc := 9) (c_Row_planCost_34 _ _ hW hC x L hL hx) k_Row_planCost d_Row_cost_9 m_Row_26 (by decide) rfl rfl rfl rfl p_Row_planCost (K := ?_)
  refine y_iret (pc := 12) d_Row_cost_12 rfl ?_
  exact ⟨rfl, rfl, rfl⟩
def xi (x : Nat → Nat) (v p k : Nat) : Nat := if k < p then x k else if k = p then v else x (k - 1)
def zIp (W : zW) (x : Nat → Nat) (v L : Nat) : Nat → Option Int × Int32 := fun p => zf (fun p st => if oltb (zPC W (xi x v p) (L + 1)) st.1 = true then (zPC W (xi x v p) (L + 1), nI p) else st) (none, (-1000000)) p
theorem zIp_s (W : zW) (x : Nat → Nat) (v L p : Nat) : zIp W x v L (p + 1) = if oltb (zPC W (xi x v p) (L + 1)) (zIp W x v L p).1 = true then (zPC W (xi x v p) (L + 1), nI p) else zIp W x v L p := zf_s _ _ p
theorem zIp_B {W : zW} (hW : zWok W) (x : Nat → Nat) (v : Nat) {L : Nat} (hL : L ≤ 20) : ∀ p, oB 40000 (zIp W x v L p).1
  | 0 => oB_n _
  | p + 1 => by
    rw [zIp_s]
    split
    · exact zPC_B hW _ (by omega)
    · exact zIp_B hW x v hL p
set_option maxRecDepth 100000 in
set_option maxHeartbeats 4000000 in
theorem c_Row_cheapestPlace {W : zW} (V A : zV) (hW : zWok W) (hC : WC W V A) (x : Nat → Nat) (L : Nat) (hs : V 33 3 = nI L) (v : Nat) (hL : L ≤ 19) (hx : ∀ i, i < L → A 34 i = nI (x i) ∧ x i < W.n) (hv : v < W.n) : CQ Y_Row_cheapestPlace 3 [.ref 33, .int (nI v)] V A (fun r V' A' => r = (zIp W x v L (L + 1)).2 ∧ V' = V ∧ ∃ f, A' = za A 35 f) := by
  have h9 := hW.h9
  have hS : ∀ k, k ≤ L + 1 → ∀ (f : Nat → Int32) (q : Value), q.category = 1 → X Y_Row_cheapestPlace (zrm 3) (0, fun _ => 0) (zFq 3 (fun r V' A' => r = (zIp W x v L (L + 1)).2 ∧ V' = V ∧ ∃ f, A' = za A 35 f)) 9 [.ref 33, .int (nI v), .int (zEc (zIp W x v L k).1), .int (zIp W x v L k).2, .int (nI k), q] [] (cells V (za A 35 f)) 0 0 := by
    refine z_down (fun f q hq => ?_) (fun k hk ih f q hq => ?_)
    · refine x_iload (pc := 9) d_Row_cheapestPlace_9 rfl ?_
      refine x_aload_n (pc := 11) d_Row_cheapestPlace_11 rfl ?_
      refine x_get (pc := 12) (j := 3) d_Row_cheapestPlace_12 f_Row_18 rfl rfl (Nat.le_of_ble_eq_true rfl) rfl rfl rfl ?_
      rw [hs]
      refine x_icmp_gt (pc := 15) (tgt := 106) d_Row_cheapestPlace_15 (by decide) (fun h15 => ?_) (fun h => absurd (nI_lt (by omega) (by omega)) h)
      refine x_iload_n (pc := 106) d_Row_cheapestPlace_106 rfl ?_
      refine y_iret (pc := 107) d_Row_cheapestPlace_107 rfl ?_
      exact ⟨rfl, rfl, f, rfl⟩
    · have hT : ∀ j, j ≤ L → ∀ (f : Nat → Int32), (∀ i, i < j → f (if i < k then i else i + 1) = nI (x i)) → X Y_Row_cheapestPlace (zrm 3) (0, fun _ => 0) (zFq 3 (fun r V' A' => r = (zIp W x v L (L + 1)).2 ∧ V' = V ∧ ∃ f, A' = za A 35 f)) 21 [.ref 33, .int (nI v), .int (zEc (zIp W x v L k).1), .int (zIp W x v L k).2, .int (nI k), .int (nI j)] [] (cells V (za A 35 f)) 0 0 := by
        refine z_down (fun f hf => ?_) (fun j hj ihj f hf => ?_)
        · refine x_iload (pc := 21) d_Row_cheapestPlace_21 rfl ?_
          refine x_aload_n (pc := 23) d_Row_cheapestPlace_23 rfl ?_
          refine x_get (pc := 24) (j := 3) d_Row_cheapestPlace_24 f_Row_18 rfl rfl (Nat.le_of_ble_eq_true rfl) rfl rfl rfl ?_
          rw [hs]
          refine x_icmp_ge (pc := 27) (tgt := 64) d_Row_cheapestPlace_27 (by decide) (fun h27 => ?_) (fun h => absurd (nI_le (by omega) (by omega)) h)
          refine x_aload_n (pc := 64) d_Row_cheapestPlace_64 rfl ?_
          refine x_get (pc := 65) (j := 2) d_Row_cheapestPlace_65 f_Row_15 rfl rfl (Nat.le_of_ble_eq_true rfl) rfl rfl rfl ?_
          refine x_iload (pc := 68) d_Row_cheapestPlace_68 rfl ?_
          refine x_iload_n (pc := 70) d_Row_cheapestPlace_70 rfl ?_
          refine y_iast (pc := 71) d_Row_cheapestPlace_71 rfl (fun _ => rfl) (vp_in_nI (by omega) (by decide)) ?_
          refine x_aload_n (pc := 72) d_Row_cheapestPlace_72 rfl ?_
          refine x_aload_n (pc := 73) d_Row_cheapestPlace_73 rfl ?_
          refine x_get (pc := 74) (j := 2) d_Row_cheapestPlace_74 f_Row_15 rfl rfl (Nat.le_of_ble_eq_true rfl) rfl rfl rfl ?_
          refine x_aload_n (pc := 77) d_Row_cheapestPlace_77 rfl ?_
          refine x_get (pc := 78) (j := 3) d_Row_cheapestPlace_78 f_Row_18 rfl rfl (Nat.le_of_ble_eq_true rfl) rfl rfl rfl ?_
          refine x_iconst (pc := 81) (v := 1) d_Row_cheapestPlace_81 (by decide) ?_
          refine x_iadd (pc := 82) d_Row_cheapestPlace_82 ?_
          rw [za_za, nI_clamp (by omega), hs, show nI L + 1 = nI (L + 1) from (nI_succ L).symm]
          have hC2 : WC W V (za A 35 (upd f k (nI v))) := hC.same (fun _ => rfl) (fun k hk => by rw [za_eq, if_neg (by omega)])
          have hx2 : ∀ i, i < L + 1 → (za A 35 (upd f k (nI v))) 35 i = nI (xi x v k i) ∧ xi x v k i < W.n := by
            intro i hi
            show upd f k (nI v) i = nI (xi x v k i) ∧ xi x v k i < W.n
            unfold xi
            by_cases h1 : i < k
            · rw [if_pos h1, upd_ne _ _ (by omega)]
              have := hf i (by omega)
              rw [if_pos h1] at this
              exact ⟨this, (hx i (by omega)).2⟩
            · rw [if_neg h1]
              by_cases h2 : i = k
              · rw [if_pos h2, h2, upd_at]; exact ⟨rfl, hv⟩
              · rw [if_neg h2, upd_ne _ _ h2]
                have := hf (i - 1) (by omega)
                rw [if_neg (by omega), show i - 1 + 1 = i by omega] at this
                exact ⟨this, (hx (i - 1) (by omega)).2⟩
          have hb1 := zPC_B hW (xi x v k) (L := L + 1) (by omega)
          have hb2 := zIp_B hW x v (L := L) (by omega) k
          have hst := zIp_s W x v L k
          refine y_fV (pc := 83) (c_Row_planCost_35 _ _ hW hC2 (xi x v k) (L + 1) (by omega) hx2) k_Row_planCost d_Row_cheapestPlace_83 m_Row_26 (by decide) rfl rfl rfl rfl p_Row_planCost (K := ?_)
          refine y_ist5 (pc := 86) d_Row_cheapestPlace_86 ?_
          refine x_iload (pc := 88) d_Row_cheapestPlace_88 rfl ?_
          refine x_iload_n (pc := 90) d_Row_cheapestPlace_90 rfl ?_
          refine x_icmp_ge (pc := 91) (tgt := 100) d_Row_cheapestPlace_91 (by decide) (fun h91' => ?_) (fun h91' => ?_)
          · refine y_inc4 (pc := 100) (v := 1) d_Row_cheapestPlace_100 (by decide) ?_
            refine x_goto (pc := 103) (tgt := 9) d_Row_cheapestPlace_103 (by decide) ?_
            rw [show nI k + 1 = nI (k + 1) from (nI_succ k).symm]
            rw [if_neg (fun z => (Int32.not_lt.mpr h91') ((zEc_lt (by omega) hb1 hb2).mpr ((oltb_iff _ _).mp z)))] at hst
            rw [hst] at ih
            exact ih _ _ rfl
          · refine x_iload (pc := 94) d_Row_cheapestPlace_94 rfl ?_
            refine y_ist2 (pc := 96) d_Row_cheapestPlace_96 ?_
            refine x_iload (pc := 97) d_Row_cheapestPlace_97 rfl ?_
            refine y_ist3 (pc := 99) d_Row_cheapestPlace_99 ?_
            refine y_inc4 (pc := 100) (v := 1) d_Row_cheapestPlace_100 (by decide) ?_
            refine x_goto (pc := 103) (tgt := 9) d_Row_cheapestPlace_103 (by decide) ?_
            rw [show nI k + 1 = nI (k + 1) from (nI_succ k).symm]
            rw [if_pos ((oltb_iff _ _).mpr ((zEc_lt (by omega) hb1 hb2).mp (Int32.not_le.mp h91')))] at hst
            rw [hst] at ih
            exact ih _ _ rfl
        · obtain ⟨hv0, hv2⟩ := hx j hj
          have cj : (nI j).toNatClampNeg = j := nI_clamp (by omega)
          refine x_iload (pc := 21) d_Row_cheapestPlace_21 rfl ?_
          refine x_aload_n (pc := 23) d_Row_cheapestPlace_23 rfl ?_
          refine x_get (pc := 24) (j := 3) d_Row_cheapestPlace_24 f_Row_18 rfl rfl (Nat.le_of_ble_eq_true rfl) rfl rfl rfl ?_
          rw [hs]
          refine x_icmp_ge (pc := 27) (tgt := 64) d_Row_cheapestPlace_27 (by decide) (fun h => absurd h (nI_ge (by omega) (by omega))) (fun h27 => ?_)
          refine x_aload_n (pc := 30) d_Row_cheapestPlace_30 rfl ?_
          refine x_get (pc := 31) (j := 2) d_Row_cheapestPlace_31 f_Row_15 rfl rfl (Nat.le_of_ble_eq_true rfl) rfl rfl rfl ?_
          refine x_iload (pc := 34) d_Row_cheapestPlace_34 rfl ?_
          refine x_iload (pc := 36) d_Row_cheapestPlace_36 rfl ?_
          refine x_icmp_ge (pc := 38) (tgt := 46) d_Row_cheapestPlace_38 (by decide) (fun h38 => ?_) (fun h38 => ?_)
          · refine x_iload (pc := 46) d_Row_cheapestPlace_46 rfl ?_
            refine x_iconst (pc := 48) (v := 1) d_Row_cheapestPlace_48 (by decide) ?_
            refine x_iadd (pc := 49) d_Row_cheapestPlace_49 ?_
            refine x_aload_n (pc := 50) d_Row_cheapestPlace_50 rfl ?_
            refine x_get (pc := 51) (j := 1) d_Row_cheapestPlace_51 f_Row_9 rfl rfl (Nat.le_of_ble_eq_true rfl) rfl rfl rfl ?_
            refine x_iload (pc := 54) d_Row_cheapestPlace_54 rfl ?_
            refine x_iald (pc := 56) d_Row_cheapestPlace_56 rfl (vp_in_nI (by omega) (by decide)) ?_
            refine y_iast (pc := 57) d_Row_cheapestPlace_57 rfl (fun _ => rfl) (by rw [show nI j + 1 = nI (j + 1) from (nI_succ j).symm]; exact vp_in_nI (by omega) (by decide)) ?_
            refine y_inc5 (pc := 58) (v := 1) d_Row_cheapestPlace_58 (by decide) ?_
            refine x_goto (pc := 61) (tgt := 21) d_Row_cheapestPlace_61 (by decide) ?_
            rw [za_za, show nI j + 1 = nI (j + 1) from (nI_succ j).symm, nI_clamp (by omega), cj, show (za A 35 f) 34 j = nI (x j) from hv0]
            refine ihj _ (fun i hi => ?_)
            have hkj : ¬ j < k := fun z => absurd h38 (nI_ge z (by omega))
            by_cases hij : i = j
            · rw [hij, if_neg hkj, upd_at]
            · show upd f (j + 1) (nI (x j)) _ = _
              rw [upd_ne _ _ (by split <;> omega)]; exact hf i (by omega)
          · refine x_iload (pc := 41) d_Row_cheapestPlace_41 rfl ?_
            refine x_goto (pc := 43) (tgt := 50) d_Row_cheapestPlace_43 (by decide) ?_
            refine x_aload_n (pc := 50) d_Row_cheapestPlace_50 rfl ?_
            refine x_get (pc := 51) (j := 1) d_Row_cheapestPlace_51 f_Row_9 rfl rfl (Nat.le_of_ble_eq_true rfl) rfl rfl rfl ?_
            refine x_iload (pc := 54) d_Row_cheapestPlace_54 rfl ?_
            refine x_iald (pc := 56) d_Row_cheapestPlace_56 rfl (vp_in_nI (by omega) (by decide)) ?_
            refine y_iast (pc := 57) d_Row_cheapestPlace_57 rfl (fun _ => rfl) (vp_in_nI (by omega) (by decide)) ?_
            refine y_inc5 (pc := 58) (v := 1) d_Row_cheapestPlace_58 (by decide) ?_
            refine x_goto (pc := 61) (tgt := 21) d_Row_cheapestPlace_61 (by decide) ?_
            rw [za_za, show nI j + 1 = nI (j + 1) from (nI_succ j).symm, cj, show (za A 35 f) 34 j = nI (x j) from hv0]
            refine ihj _ (fun i hi => ?_)
            have hkj : j < k := by
              rcases Nat.lt_or_ge j k with z | z
              · exact z
              · exact absurd (nI_le z (by omega)) h38
            by_cases hij : i = j
            · rw [hij, if_pos hkj, upd_at]
            · show upd f j (nI (x j)) _ = _
              rw [upd_ne _ _ (by split <;> omega)]; exact hf i (by omega)
      refine x_iload (pc := 9) d_Row_cheapestPlace_9 rfl ?_
      refine x_aload_n (pc := 11) d_Row_cheapestPlace_11 rfl ?_
      refine x_get (pc := 12) (j := 3) d_Row_cheapestPlace_12 f_Row_18 rfl rfl (Nat.le_of_ble_eq_true rfl) rfl rfl rfl ?_
      rw [hs]
      refine x_icmp_gt (pc := 15) (tgt := 106) d_Row_cheapestPlace_15 (by decide) (fun h => absurd h (nI_nlt (by omega) (by omega))) (fun h15 => ?_)
      refine x_iconst (pc := 18) (v := 0) d_Row_cheapestPlace_18 (by decide) ?_
      refine y_ist5 (pc := 19) d_Row_cheapestPlace_19 ?_
      exact hT 0 (Nat.zero_le _) f (fun i hi => absurd hi (Nat.not_lt_zero i))
  refine CQ.of (lv := [.ref 33, .int (nI v), zu, zu, zu, zu]) k_Row_cheapestPlace.1 rfl (by decide) rfl rfl (Nat.le_of_ble_eq_true rfl) ?_
  refine x_ldc (pc := 0) (v := 1000000000) d_Row_cheapestPlace_0 i_Row_30 ?_
  refine y_ist2 (pc := 2) d_Row_cheapestPlace_2 ?_
  refine x_ldc (pc := 3) (v := (-1000000)) d_Row_cheapestPlace_3 i_Row_31 ?_
  refine y_ist3 (pc := 5) d_Row_cheapestPlace_5 ?_
  refine x_iconst (pc := 6) (v := 0) d_Row_cheapestPlace_6 (by decide) ?_
  refine y_ist4 (pc := 7) d_Row_cheapestPlace_7 ?_
  have h0 := hS 0 (Nat.zero_le _) (A 35) zu rfl
  rw [za_self] at h0
  exact h0
set_option maxRecDepth 100000 in
set_option maxHeartbeats 4000000 in
theorem c_CW_check {W : zW} (V A : zV) (hW : zWok W) (hC : WC W V A) (x : Nat → Nat) (L : Nat) (hs : V 33 3 = nI L) (hL : L ≤ 20) (hx : ∀ i, i < L → A 34 i = nI (x i) ∧ x i < W.n) : CQ Y_CW_check 10 [.ref 0] V A (fun r V' A' => r = (if zPC W x L = none then (-1000000) else zEc (zPC W x L)) ∧ V' = V ∧ A' = A) := by
  refine CQ.of (lv := [.ref 0]) k_CW_check.1 rfl (by decide) rfl rfl (Nat.le_of_ble_eq_true rfl) ?_
  refine x_aload_n (pc := 0) d_CW_check_0 rfl ?_
  refine x_get (pc := 1) (j := 8) d_CW_check_1 f_CW_79 rfl rfl (Nat.le_of_ble_eq_true rfl) rfl rfl rfl ?_
  refine y_fV (pc := 4) (c_Row_cost _ _ hW hC x L hs hL hx) k_Row_cost d_CW_check_4 m_CW_210 (by decide) rfl rfl rfl rfl p_Row_cost (K := ?_)
  refine y_fS (pc := 7) (c_CW_orNone _ _ _) k_CW_orNone d_CW_check_7 m_CW_101 (by decide) rfl p_CW_orNone (K := ?_)
  refine y_iret (pc := 10) d_CW_check_10 rfl ?_
  exact ⟨by by_cases hz : zPC W x L = none; rw [if_pos hz, if_pos ((zEc_no (b := 40000) (by omega) (zPC_B hW x (by omega))).mpr hz)]; rw [if_neg hz, if_neg (fun q => hz ((zEc_no (b := 40000) (by omega) (zPC_B hW x (by omega))).mp q))], rfl, rfl⟩
