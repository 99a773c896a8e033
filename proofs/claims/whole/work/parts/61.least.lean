theorem th_noarc {W : zW} (hW : zWok W) (r x y : Nat) (h : W.ar x y = none) : (mkH W x y (r + 1) (2 ^ (W.n - 1) - 1) 0).2 = none := by
  refine th_none hW r x y ⟨fun a i => ?_, fun a => ?_⟩
  · show (if a = x ∧ i + 1 = y then zar W a (i + 1) else none) = none
    by_cases z : a = x ∧ i + 1 = y
    · rw [if_pos z, z.1, z.2]; unfold zar; rw [h]; rfl
    · rw [if_neg z]
  · show (if W.op = false ∧ a = x ∧ 0 = y then zbs W a else none) = none
    by_cases z : W.op = false ∧ a = x ∧ 0 = y
    · rw [if_pos z, z.2.1]; unfold zbs zbk; rw [z.1, if_neg (by simp), z.2.2, h]; rfl
    · rw [if_neg z]
theorem th_open {W : zW} (hW : zWok W) (r x : Nat) (hop : W.op = true) : (mkH W x 0 (r + 1) (2 ^ (W.n - 1) - 1) 0).2 = none := by
  refine th_none hW r x 0 ⟨fun a i => if_neg (fun z => by omega), fun a => if_neg (fun z => by rw [hop] at z; exact absurd z.1 (by simp))⟩
def thO (T o : Option Int) (en : Int32) : Prop := o = T ∨ (¬ o = none ∧ zEc o ≤ en ∧ ole T o)
set_option maxRecDepth 100000 in
set_option maxHeartbeats 4000000 in
theorem c_Tai_leastThrough {W : zW} (V A : zV) (hW : zWok W) (hC : WC W V A) (hsh : shOK W (zta A)) (r : Nat) (hr : r + 1 = W.mo) (hT : TF (2 ^ (W.n - 1) - 1) r V) (htb : tab W (2 ^ (W.n - 1) - 1) r (A 17)) (x y : Nat) (en : Int32) (hx : x < W.n) (hy : y < W.n) : CQ Y_Tai_leastThrough 2 [.ref 16, .int (nI x), .int (nI y), .int en] V A (fun ρ V' A' => (∃ o, ρ = zEc o ∧ oB 200000 o ∧ thO (sc (mkH W x y (r + 1) (2 ^ (W.n - 1) - 1) 0).2) o en) ∧ V' = V ∧ A' = A) := by
  have h9 := hW.h9
  have hp := pw_le h9
  have hm8 := hW.m8
  have h0p : 0 < 2 ^ (W.n - 1) := Nat.pos_of_ne_zero (by simp)
  have hall : 2 ^ (W.n - 1) - 1 < 2 ^ (W.n - 1) := by omega
  have ix1 : nI x * 9 + nI y = nI (x * 9 + y) := by rw [show (9 : Int32) = nI 9 from rfl, pk_mul, nI_add]
  have c1 : (nI (x * 9 + y)).toNatClampNeg = x * 9 + y := nI_clamp (by omega)
  have har := hC.ar x y (by omega) (by omega)
  have hnone : (mkH W x y (r + 1) (2 ^ (W.n - 1) - 1) 0).2 = none → ∃ o, (1000000000 : Int32) = zEc o ∧ oB 200000 o ∧ thO (sc (mkH W x y (r + 1) (2 ^ (W.n - 1) - 1) 0).2) o en := fun z => ⟨none, rfl, oB_n _, Or.inl (by rw [z]; rfl)⟩
  cases y with
  | zero =>
    have hcl : W.op = false → ¬ x = 0 → (mkH W x 0 (r + 1) (2 ^ (W.n - 1) - 1) 0).2 = thB W r x (2 ^ (W.n - 1)) := fun z1 z2 => th_B hW r x (by omega) z2 z1
    by_cases hgood : W.op = false ∧ ¬ x = 0
    · have hS : ∀ k, k ≤ 2 ^ (W.n - 1) → ∀ (q7 q8 : Value), q7.category = 1 → q8.category = 1 → X Y_Tai_leastThrough (zrm 2) (0, fun _ => 0) (zFq 2 (fun ρ V' A' => (∃ o, ρ = zEc o ∧ oB 200000 o ∧ thO (sc (mkH W x (0) (r + 1) (2 ^ (W.n - 1) - 1) 0).2) o en) ∧ V' = V ∧ A' = A)) 53 [.ref 16, .int (nI x), .int (nI 0), .int en, .int (zEc (sc (thB W r x k))), .int (nI (2 ^ (W.n - 1) - 1)), .int (nI k), q7, q8] [] (cells V A) 0 0 := by
        refine z_down (fun q7 q8 h7 h8 => ?_) (fun k hk ih q7 q8 h7 h8 => ?_)
        · refine x_iload (pc := 53) d_Tai_leastThrough_53 rfl ?_
          refine x_iload (pc := 55) d_Tai_leastThrough_55 rfl ?_
          refine x_icmp_gt (pc := 57) (tgt := 141) d_Tai_leastThrough_57 (by decide) (fun h57 => ?_) (fun h => absurd (nI_lt (by omega) (by omega)) h)
          refine x_iload (pc := 141) d_Tai_leastThrough_141 rfl ?_
          refine y_iret (pc := 143) d_Tai_leastThrough_143 rfl ?_
          exact ⟨⟨_, rfl, thB_B hW (show r ≤ 8 by omega) x _, Or.inl (by rw [hcl hgood.1 hgood.2])⟩, rfl, rfl⟩
        · have ixk : nI k * 9 + nI x = nI (k * 9 + x) := by rw [show (9 : Int32) = nI 9 from rfl, pk_mul, nI_add]
          have ck : (nI (k * 9 + x)).toNatClampNeg = k * 9 + x := nI_clamp (by omega)
          have hpk : A 9 (k * 9 + x) = _ := hsh.2.1 (k * 9 + x) (by omega)
          have hst : thB W r x (k + 1) = sa (thB W r x k) (sm (wT W (2 ^ (W.n - 1) * 9) (k * 9 + x)) (sm (zbs W x) (wP W r (zdf (2 ^ (W.n - 1) - 1) k)))) := rfl
          have hBk := thB_B hW (show r ≤ 8 by omega) x k
          refine x_iload (pc := 53) d_Tai_leastThrough_53 rfl ?_
          refine x_iload (pc := 55) d_Tai_leastThrough_55 rfl ?_
          refine x_icmp_gt (pc := 57) (tgt := 141) d_Tai_leastThrough_57 (by decide) (fun h => absurd h (nI_nlt (by omega) (by omega))) (fun h57 => ?_)
          refine x_iload (pc := 60) d_Tai_leastThrough_60 rfl ?_
          refine x_iload_n (pc := 62) d_Tai_leastThrough_62 rfl ?_
          refine x_icmp_gt (pc := 63) (tgt := 73) d_Tai_leastThrough_63 (by decide) (fun h63 => ?_) (fun h63 => ?_)
          · refine x_aload_n (pc := 73) d_Tai_leastThrough_73 rfl ?_
            refine x_get (pc := 74) (j := 1) d_Tai_leastThrough_74 f_Tai_33 rfl rfl (Nat.le_of_ble_eq_true rfl) rfl rfl rfl ?_
            refine x_get (pc := 77) (j := 3) d_Tai_leastThrough_77 f_Tai_94 rfl rfl (Nat.le_of_ble_eq_true rfl) rfl rfl rfl ?_
            refine x_iload (pc := 80) d_Tai_leastThrough_80 rfl ?_
            refine x_bipush (pc := 82) (v := 9) d_Tai_leastThrough_82 (by decide) ?_
            refine x_imul (pc := 84) d_Tai_leastThrough_84 ?_
            refine x_iload_n (pc := 85) d_Tai_leastThrough_85 rfl ?_
            refine x_iadd (pc := 86) d_Tai_leastThrough_86 ?_
            refine x_iald (pc := 87) d_Tai_leastThrough_87 rfl (by rw [ixk]; exact vp_in_nI (by omega) (by decide)) ?_
            rw [ixk, ck, hpk]
            refine y_ist7 (pc := 88) d_Tai_leastThrough_88 ?_
            refine x_iload (pc := 90) d_Tai_leastThrough_90 rfl ?_
            refine x_ldc (pc := 92) (v := 1000000000) d_Tai_leastThrough_92 i_Tai_62 ?_
            refine x_icmp_eq (pc := 94) (tgt := 135) d_Tai_leastThrough_94 (by decide) (fun h94 => ?_) (fun h94 => ?_)
            · refine y_inc6 (pc := 135) (v := 1) d_Tai_leastThrough_135 (by decide) ?_
              refine x_goto (pc := 138) (tgt := 53) d_Tai_leastThrough_138 (by decide) ?_
              rw [show nI k + 1 = nI (k + 1) from (nI_succ k).symm]
              have hn : wT W (2 ^ (W.n - 1) * 9) (k * 9 + x) = none := sc_n.mp ((zEc_no (b := 8000) (by omega) (wT_B hW _ _)).mp h94)
              rw [hn, sm_nl, sa_nr] at hst
              rw [hst] at ih
              exact ih _ _ rfl h8
            · have hBt : bB 200000 (sm (wT W (2 ^ (W.n - 1) * 9) (k * 9 + x)) (sm (zbs W x) (wP W r (zdf (2 ^ (W.n - 1) - 1) k)))) := bB_mono (bB_m (wT_B hW _ _) (bB_m (zbs_B hW _) (wP_B hW (by omega) _))) (by omega)
              refine x_iload_n (pc := 97) d_Tai_leastThrough_97 rfl ?_
              refine x_if_ne (pc := 98) (tgt := 111) d_Tai_leastThrough_98 (by decide) (fun h => absurd rfl h) (fun h98 => ?_)
              refine x_aload_n (pc := 101) d_Tai_leastThrough_101 rfl ?_
              refine x_iload (pc := 102) d_Tai_leastThrough_102 rfl ?_
              refine x_iload_n (pc := 104) d_Tai_leastThrough_104 rfl ?_
              refine y_fV (pc := 105) (c_Tai_costClosing _ _ hW hC hsh (2 ^ (W.n - 1) - 1) r hall (by omega) hT k x (by omega)) k_Tai_costClosing d_Tai_leastThrough_105 m_Tai_75 (by decide) rfl rfl rfl rfl p_Tai_costClosing (K := ?_)
              refine x_goto (pc := 108) (tgt := 119) d_Tai_leastThrough_108 (by decide) ?_
              refine y_ist8 (pc := 119) d_Tai_leastThrough_119 ?_
              refine x_iload (pc := 121) d_Tai_leastThrough_121 rfl ?_
              refine x_iload (pc := 123) d_Tai_leastThrough_123 rfl ?_
              refine x_iload (pc := 125) d_Tai_leastThrough_125 rfl ?_
              refine y_fN (pc := 127) (w_sum _ _ (oB_mono (wT_B hW _ _) (by omega)) (oB_mono (bB_m (zbs_B hW _) (wP_B hW (by omega) _)) (by omega))) k_CW_sum d_Tai_leastThrough_127 n_Tai_66 (by decide) rfl p_CW_sum (K := ?_)
              rw [← sc_sm]
              refine y_min (pc := 130) d_Tai_leastThrough_130 m_Tai_82 (by decide) (K := ?_)
              rw [zEc_min (b := 200000) (by omega) hBk hBt, ← sc_sa, ← hst]
              refine y_ist4 (pc := 133) d_Tai_leastThrough_133 ?_
              refine y_inc6 (pc := 135) (v := 1) d_Tai_leastThrough_135 (by decide) ?_
              refine x_goto (pc := 138) (tgt := 53) d_Tai_leastThrough_138 (by decide) ?_
              rw [show nI k + 1 = nI (k + 1) from (nI_succ k).symm]
              exact ih _ _ rfl rfl
          · refine x_iload (pc := 66) d_Tai_leastThrough_66 rfl ?_
            refine x_ldc (pc := 68) (v := 1000000000) d_Tai_leastThrough_68 i_Tai_62 ?_
            refine x_icmp_ne (pc := 70) (tgt := 141) d_Tai_leastThrough_70 (by decide) (fun h70 => ?_) (fun h70 => ?_)
            · refine x_iload (pc := 141) d_Tai_leastThrough_141 rfl ?_
              refine y_iret (pc := 143) d_Tai_leastThrough_143 rfl ?_
              exact ⟨⟨_, rfl, hBk, Or.inr ⟨fun z => h70 (by rw [z]; rfl), Int32.not_lt.mp h63, by rw [hcl hgood.1 hgood.2]; exact sle_pre (by omega)⟩⟩, rfl, rfl⟩
            · refine x_aload_n (pc := 73) d_Tai_leastThrough_73 rfl ?_
              refine x_get (pc := 74) (j := 1) d_Tai_leastThrough_74 f_Tai_33 rfl rfl (Nat.le_of_ble_eq_true rfl) rfl rfl rfl ?_
              refine x_get (pc := 77) (j := 3) d_Tai_leastThrough_77 f_Tai_94 rfl rfl (Nat.le_of_ble_eq_true rfl) rfl rfl rfl ?_
              refine x_iload (pc := 80) d_Tai_leastThrough_80 rfl ?_
              refine x_bipush (pc := 82) (v := 9) d_Tai_leastThrough_82 (by decide) ?_
              refine x_imul (pc := 84) d_Tai_leastThrough_84 ?_
              refine x_iload_n (pc := 85) d_Tai_leastThrough_85 rfl ?_
              refine x_iadd (pc := 86) d_Tai_leastThrough_86 ?_
              refine x_iald (pc := 87) d_Tai_leastThrough_87 rfl (by rw [ixk]; exact vp_in_nI (by omega) (by decide)) ?_
              rw [ixk, ck, hpk]
              refine y_ist7 (pc := 88) d_Tai_leastThrough_88 ?_
              refine x_iload (pc := 90) d_Tai_leastThrough_90 rfl ?_
              refine x_ldc (pc := 92) (v := 1000000000) d_Tai_leastThrough_92 i_Tai_62 ?_
              refine x_icmp_eq (pc := 94) (tgt := 135) d_Tai_leastThrough_94 (by decide) (fun h94 => ?_) (fun h94 => ?_)
              · refine y_inc6 (pc := 135) (v := 1) d_Tai_leastThrough_135 (by decide) ?_
                refine x_goto (pc := 138) (tgt := 53) d_Tai_leastThrough_138 (by decide) ?_
                rw [show nI k + 1 = nI (k + 1) from (nI_succ k).symm]
                have hn : wT W (2 ^ (W.n - 1) * 9) (k * 9 + x) = none := sc_n.mp ((zEc_no (b := 8000) (by omega) (wT_B hW _ _)).mp h94)
                rw [hn, sm_nl, sa_nr] at hst
                rw [hst] at ih
                exact ih _ _ rfl h8
              · have hBt : bB 200000 (sm (wT W (2 ^ (W.n - 1) * 9) (k * 9 + x)) (sm (zbs W x) (wP W r (zdf (2 ^ (W.n - 1) - 1) k)))) := bB_mono (bB_m (wT_B hW _ _) (bB_m (zbs_B hW _) (wP_B hW (by omega) _))) (by omega)
                refine x_iload_n (pc := 97) d_Tai_leastThrough_97 rfl ?_
                refine x_if_ne (pc := 98) (tgt := 111) d_Tai_leastThrough_98 (by decide) (fun h => absurd rfl h) (fun h98 => ?_)
                refine x_aload_n (pc := 101) d_Tai_leastThrough_101 rfl ?_
                refine x_iload (pc := 102) d_Tai_leastThrough_102 rfl ?_
                refine x_iload_n (pc := 104) d_Tai_leastThrough_104 rfl ?_
                refine y_fV (pc := 105) (c_Tai_costClosing _ _ hW hC hsh (2 ^ (W.n - 1) - 1) r hall (by omega) hT k x (by omega)) k_Tai_costClosing d_Tai_leastThrough_105 m_Tai_75 (by decide) rfl rfl rfl rfl p_Tai_costClosing (K := ?_)
                refine x_goto (pc := 108) (tgt := 119) d_Tai_leastThrough_108 (by decide) ?_
                refine y_ist8 (pc := 119) d_Tai_leastThrough_119 ?_
                refine x_iload (pc := 121) d_Tai_leastThrough_121 rfl ?_
                refine x_iload (pc := 123) d_Tai_leastThrough_123 rfl ?_
                refine x_iload (pc := 125) d_Tai_leastThrough_125 rfl ?_
                refine y_fN (pc := 127) (w_sum _ _ (oB_mono (wT_B hW _ _) (by omega)) (oB_mono (bB_m (zbs_B hW _) (wP_B hW (by omega) _)) (by omega))) k_CW_sum d_Tai_leastThrough_127 n_Tai_66 (by decide) rfl p_CW_sum (K := ?_)
                rw [← sc_sm]
                refine y_min (pc := 130) d_Tai_leastThrough_130 m_Tai_82 (by decide) (K := ?_)
                rw [zEc_min (b := 200000) (by omega) hBk hBt, ← sc_sa, ← hst]
                refine y_ist4 (pc := 133) d_Tai_leastThrough_133 ?_
                refine y_inc6 (pc := 135) (v := 1) d_Tai_leastThrough_135 (by decide) ?_
                refine x_goto (pc := 138) (tgt := 53) d_Tai_leastThrough_138 (by decide) ?_
                rw [show nI k + 1 = nI (k + 1) from (nI_succ k).symm]
                exact ih _ _ rfl rfl
      refine CQ.of (lv := [.ref 16, .int (nI x), .int (nI 0), .int en, zu, zu, zu, zu, zu]) k_Tai_leastThrough.1 rfl (by decide) rfl rfl (Nat.le_of_ble_eq_true rfl) ?_
      refine x_aload_n (pc := 0) d_Tai_leastThrough_0 rfl ?_
      refine x_get (pc := 1) (j := 0) d_Tai_leastThrough_1 f_Tai_29 rfl rfl (Nat.le_of_ble_eq_true rfl) rfl rfl rfl ?_
      refine x_get (pc := 4) (j := 1) d_Tai_leastThrough_4 f_Tai_63 rfl rfl (Nat.le_of_ble_eq_true rfl) rfl rfl rfl ?_
      refine x_iload_n (pc := 7) d_Tai_leastThrough_7 rfl ?_
      refine x_bipush (pc := 8) (v := 9) d_Tai_leastThrough_8 (by decide) ?_
      refine x_imul (pc := 10) d_Tai_leastThrough_10 ?_
      refine x_iload_n (pc := 11) d_Tai_leastThrough_11 rfl ?_
      refine x_iadd (pc := 12) d_Tai_leastThrough_12 ?_
      refine x_iald (pc := 13) d_Tai_leastThrough_13 rfl (by rw [ix1]; exact vp_in_nI (by omega) (by decide)) ?_
      rw [ix1, c1, har]
      refine x_ldc (pc := 14) (v := 1000000000) d_Tai_leastThrough_14 i_Tai_62 ?_
      refine x_icmp_eq (pc := 16) (tgt := 34) d_Tai_leastThrough_16 (by decide) (fun h16 => ?_) (fun h16 => ?_)
      · refine x_ldc (pc := 34) (v := 1000000000) d_Tai_leastThrough_34 i_Tai_62 ?_
        refine y_iret (pc := 36) d_Tai_leastThrough_36 rfl ?_
        exact ⟨hnone (th_noarc hW r x 0 ((zEc_no (b := 1000) (by omega) (hW.arB x 0)).mp h16)), rfl, rfl⟩
      · refine x_iload_n (pc := 19) d_Tai_leastThrough_19 rfl ?_
        refine x_if_ne (pc := 20) (tgt := 37) d_Tai_leastThrough_20 (by decide) (fun h => absurd rfl h) (fun h20 => ?_)
        refine x_aload_n (pc := 23) d_Tai_leastThrough_23 rfl ?_
        refine x_get (pc := 24) (j := 0) d_Tai_leastThrough_24 f_Tai_29 rfl rfl (Nat.le_of_ble_eq_true rfl) rfl rfl rfl ?_
        refine x_get (pc := 27) (j := 7) d_Tai_leastThrough_27 f_Tai_87 rfl rfl (Nat.le_of_ble_eq_true rfl) rfl rfl rfl ?_
        refine x_iconst (pc := 30) (v := 1) d_Tai_leastThrough_30 (by decide) ?_
        refine x_icmp_ne (pc := 31) (tgt := 37) d_Tai_leastThrough_31 (by decide) (fun h31 => ?_) (fun h => absurd (by have z : V 1 7 = 1 := h; rw [hC.op, hgood.1] at z; exact absurd z (by decide) : False) (fun z => z))
        refine x_ldc (pc := 37) (v := 1000000000) d_Tai_leastThrough_37 i_Tai_62 ?_
        refine y_ist4 (pc := 39) d_Tai_leastThrough_39 ?_
        refine x_aload_n (pc := 41) d_Tai_leastThrough_41 rfl ?_
        refine x_get (pc := 42) (j := 0) d_Tai_leastThrough_42 f_Tai_29 rfl rfl (Nat.le_of_ble_eq_true rfl) rfl rfl rfl ?_
        refine y_fV (pc := 45) (w_allPlaces _ _ hW hC) k_Net_allPlaces d_Tai_leastThrough_45 m_Tai_90 (by decide) rfl rfl rfl rfl p_Net_allPlaces (K := ?_)
        refine y_ist5 (pc := 48) d_Tai_leastThrough_48 ?_
        refine x_iconst (pc := 50) (v := 0) d_Tai_leastThrough_50 (by decide) ?_
        refine y_ist6 (pc := 51) d_Tai_leastThrough_51 ?_
        exact hS 0 (Nat.zero_le _) _ _ rfl rfl
    · have hz : (mkH W x 0 (r + 1) (2 ^ (W.n - 1) - 1) 0).2 = none := by
        cases hop : W.op with
        | true => exact th_open hW r x hop
        | false =>
          have hx0 : x = 0 := Classical.byContradiction (fun z => hgood ⟨hop, z⟩)
          refine th_noarc hW r x 0 ?_
          cases hq : W.ar x 0 with
          | none => rfl
          | some y => have := hW.ar _ _ _ hq; omega
      have hno31 : ¬ zEc (W.ar x 0) = 1000000000 → ¬ ¬ V 1 7 = 1 := by
        intro h16 h31
        cases hop : W.op with
        | true => rw [hC.op, hop] at h31; exact h31 rfl
        | false =>
          have hx0 : x = 0 := Classical.byContradiction (fun z => hgood ⟨hop, z⟩)
          refine h16 ((zEc_no (b := 1000) (by omega) (hW.arB x 0)).mpr ?_)
          cases hq : W.ar x 0 with
          | none => rfl
          | some y => have := hW.ar _ _ _ hq; omega
      refine CQ.of (lv := [.ref 16, .int (nI x), .int (nI 0), .int en, zu, zu, zu, zu, zu]) k_Tai_leastThrough.1 rfl (by decide) rfl rfl (Nat.le_of_ble_eq_true rfl) ?_
      refine x_aload_n (pc := 0) d_Tai_leastThrough_0 rfl ?_
      refine x_get (pc := 1) (j := 0) d_Tai_leastThrough_1 f_Tai_29 rfl rfl (Nat.le_of_ble_eq_true rfl) rfl rfl rfl ?_
      refine x_get (pc := 4) (j := 1) d_Tai_leastThrough_4 f_Tai_63 rfl rfl (Nat.le_of_ble_eq_true rfl) rfl rfl rfl ?_
      refine x_iload_n (pc := 7) d_Tai_leastThrough_7 rfl ?_
      refine x_bipush (pc := 8) (v := 9) d_Tai_leastThrough_8 (by decide) ?_
      refine x_imul (pc := 10) d_Tai_leastThrough_10 ?_
      refine x_iload_n (pc := 11) d_Tai_leastThrough_11 rfl ?_
      refine x_iadd (pc := 12) d_Tai_leastThrough_12 ?_
      refine x_iald (pc := 13) d_Tai_leastThrough_13 rfl (by rw [ix1]; exact vp_in_nI (by omega) (by decide)) ?_
      rw [ix1, c1, har]
      refine x_ldc (pc := 14) (v := 1000000000) d_Tai_leastThrough_14 i_Tai_62 ?_
      refine x_icmp_eq (pc := 16) (tgt := 34) d_Tai_leastThrough_16 (by decide) (fun h16 => ?_) (fun h16 => ?_)
      · refine x_ldc (pc := 34) (v := 1000000000) d_Tai_leastThrough_34 i_Tai_62 ?_
        refine y_iret (pc := 36) d_Tai_leastThrough_36 rfl ?_
        exact ⟨hnone hz, rfl, rfl⟩
      · refine x_iload_n (pc := 19) d_Tai_leastThrough_19 rfl ?_
        refine x_if_ne (pc := 20) (tgt := 37) d_Tai_leastThrough_20 (by decide) (fun h => absurd rfl h) (fun h20 => ?_)
        refine x_aload_n (pc := 23) d_Tai_leastThrough_23 rfl ?_
        refine x_get (pc := 24) (j := 0) d_Tai_leastThrough_24 f_Tai_29 rfl rfl (Nat.le_of_ble_eq_true rfl) rfl rfl rfl ?_
        refine x_get (pc := 27) (j := 7) d_Tai_leastThrough_27 f_Tai_87 rfl rfl (Nat.le_of_ble_eq_true rfl) rfl rfl rfl ?_
        refine x_iconst (pc := 30) (v := 1) d_Tai_leastThrough_30 (by decide) ?_
        refine x_icmp_ne (pc := 31) (tgt := 37) d_Tai_leastThrough_31 (by decide) (fun h => absurd h (hno31 h16)) (fun h31 => ?_)
        refine x_ldc (pc := 34) (v := 1000000000) d_Tai_leastThrough_34 i_Tai_62 ?_
        refine y_iret (pc := 36) d_Tai_leastThrough_36 rfl ?_
        exact ⟨hnone hz, rfl, rfl⟩
  | succ j =>
    have hj : j < W.n - 1 := by omega
    have hj0 : ¬ nI (j + 1) = 0 := fun z => by have := (nI_z (by omega)).mp z; omega
    have hfull := th_P hW r x j (by omega) hj
    have hS : ∀ k, k ≤ 2 ^ (W.n - 1) → ∀ (q7 q8 : Value), q7.category = 1 → q8.category = 1 → X Y_Tai_leastThrough (zrm 2) (0, fun _ => 0) (zFq 2 (fun ρ V' A' => (∃ o, ρ = zEc o ∧ oB 200000 o ∧ thO (sc (mkH W x (j + 1) (r + 1) (2 ^ (W.n - 1) - 1) 0).2) o en) ∧ V' = V ∧ A' = A)) 53 [.ref 16, .int (nI x), .int (nI (j + 1)), .int en, .int (zEc (sc (thP W r x j k))), .int (nI (2 ^ (W.n - 1) - 1)), .int (nI k), q7, q8] [] (cells V A) 0 0 := by
      refine z_down (fun q7 q8 h7 h8 => ?_) (fun k hk ih q7 q8 h7 h8 => ?_)
      · refine x_iload (pc := 53) d_Tai_leastThrough_53 rfl ?_
        refine x_iload (pc := 55) d_Tai_leastThrough_55 rfl ?_
        refine x_icmp_gt (pc := 57) (tgt := 141) d_Tai_leastThrough_57 (by decide) (fun h57 => ?_) (fun h => absurd (nI_lt (by omega) (by omega)) h)
        refine x_iload (pc := 141) d_Tai_leastThrough_141 rfl ?_
        refine y_iret (pc := 143) d_Tai_leastThrough_143 rfl ?_
        exact ⟨⟨_, rfl, thP_B hW (show r ≤ 8 by omega) x j _, Or.inl (by rw [hfull])⟩, rfl, rfl⟩
      · have ixk : nI k * 9 + nI x = nI (k * 9 + x) := by rw [show (9 : Int32) = nI 9 from rfl, pk_mul, nI_add]
        have ck : (nI (k * 9 + x)).toNatClampNeg = k * 9 + x := nI_clamp (by omega)
        have hpk : A 9 (k * 9 + x) = _ := hsh.2.1 (k * 9 + x) (by omega)
        have hst : thP W r x j (k + 1) = sa (thP W r x j k) (sm (wT W (2 ^ (W.n - 1) * 9) (k * 9 + x)) (if (zfo W k j && (2 ^ (W.n - 1) - 1).testBit j) = true then sm (zar W x (j + 1)) (wE W r (2 ^ (W.n - 1) - 1) (k ||| 2 ^ j) (j + 1)) else none)) := rfl
        have hBk := thP_B hW (show r ≤ 8 by omega) x j k
        refine x_iload (pc := 53) d_Tai_leastThrough_53 rfl ?_
        refine x_iload (pc := 55) d_Tai_leastThrough_55 rfl ?_
        refine x_icmp_gt (pc := 57) (tgt := 141) d_Tai_leastThrough_57 (by decide) (fun h => absurd h (nI_nlt (by omega) (by omega))) (fun h57 => ?_)
        refine x_iload (pc := 60) d_Tai_leastThrough_60 rfl ?_
        refine x_iload_n (pc := 62) d_Tai_leastThrough_62 rfl ?_
        refine x_icmp_gt (pc := 63) (tgt := 73) d_Tai_leastThrough_63 (by decide) (fun h63 => ?_) (fun h63 => ?_)
        · refine x_aload_n (pc := 73) d_Tai_leastThrough_73 rfl ?_
          refine x_get (pc := 74) (j := 1) d_Tai_leastThrough_74 f_Tai_33 rfl rfl (Nat.le_of_ble_eq_true rfl) rfl rfl rfl ?_
          refine x_get (pc := 77) (j := 3) d_Tai_leastThrough_77 f_Tai_94 rfl rfl (Nat.le_of_ble_eq_true rfl) rfl rfl rfl ?_
          refine x_iload (pc := 80) d_Tai_leastThrough_80 rfl ?_
          refine x_bipush (pc := 82) (v := 9) d_Tai_leastThrough_82 (by decide) ?_
          refine x_imul (pc := 84) d_Tai_leastThrough_84 ?_
          refine x_iload_n (pc := 85) d_Tai_leastThrough_85 rfl ?_
          refine x_iadd (pc := 86) d_Tai_leastThrough_86 ?_
          refine x_iald (pc := 87) d_Tai_leastThrough_87 rfl (by rw [ixk]; exact vp_in_nI (by omega) (by decide)) ?_
          rw [ixk, ck, hpk]
          refine y_ist7 (pc := 88) d_Tai_leastThrough_88 ?_
          refine x_iload (pc := 90) d_Tai_leastThrough_90 rfl ?_
          refine x_ldc (pc := 92) (v := 1000000000) d_Tai_leastThrough_92 i_Tai_62 ?_
          refine x_icmp_eq (pc := 94) (tgt := 135) d_Tai_leastThrough_94 (by decide) (fun h94 => ?_) (fun h94 => ?_)
          · refine y_inc6 (pc := 135) (v := 1) d_Tai_leastThrough_135 (by decide) ?_
            refine x_goto (pc := 138) (tgt := 53) d_Tai_leastThrough_138 (by decide) ?_
            rw [show nI k + 1 = nI (k + 1) from (nI_succ k).symm]
            have hn : wT W (2 ^ (W.n - 1) * 9) (k * 9 + x) = none := sc_n.mp ((zEc_no (b := 8000) (by omega) (wT_B hW _ _)).mp h94)
            rw [hn, sm_nl, sa_nr] at hst
            rw [hst] at ih
            exact ih _ _ rfl h8
          · have hBt : bB 200000 (sm (wT W (2 ^ (W.n - 1) * 9) (k * 9 + x)) (if (zfo W k j && (2 ^ (W.n - 1) - 1).testBit j) = true then sm (zar W x (j + 1)) (wE W r (2 ^ (W.n - 1) - 1) (k ||| 2 ^ j) (j + 1)) else none)) := bB_mono (bB_m (wT_B hW _ _) (bB_i (fun _ => bB_m (zar_B hW _ _) (wE_B hW (by omega) _ _ _)) (fun _ => bB_n 101000))) (by omega)
            have hkN : k ||| 2 ^ j < 2 ^ (W.n - 1) := Nat.or_lt_two_pow hk (Nat.pow_lt_pow_right (by decide) hj)
            refine x_iload_n (pc := 97) d_Tai_leastThrough_97 rfl ?_
            refine x_if_ne (pc := 98) (tgt := 111) d_Tai_leastThrough_98 (by decide) (fun h98 => ?_) (fun h => absurd h hj0)
            refine x_aload_n (pc := 111) d_Tai_leastThrough_111 rfl ?_
            refine x_iload (pc := 112) d_Tai_leastThrough_112 rfl ?_
            refine x_iload_n (pc := 114) d_Tai_leastThrough_114 rfl ?_
            refine x_iload_n (pc := 115) d_Tai_leastThrough_115 rfl ?_
            refine y_fV (pc := 116) (c_Tai_costOver _ _ hW hC hsh (2 ^ (W.n - 1) - 1) r hall (by omega) hT k x j hk (by omega) hj (fun _ => htb (k ||| 2 ^ j) j (by rw [Nat.and_two_pow_sub_one_eq_mod]; exact Nat.mod_eq_of_lt hkN) hj (by rw [tb_or]; simp))) k_Tai_costOver d_Tai_leastThrough_116 m_Tai_78 (by decide) rfl rfl rfl rfl p_Tai_costOver (K := ?_)
            refine y_ist8 (pc := 119) d_Tai_leastThrough_119 ?_
            refine x_iload (pc := 121) d_Tai_leastThrough_121 rfl ?_
            refine x_iload (pc := 123) d_Tai_leastThrough_123 rfl ?_
            refine x_iload (pc := 125) d_Tai_leastThrough_125 rfl ?_
            refine y_fN (pc := 127) (w_sum _ _ (oB_mono (wT_B hW _ _) (by omega)) (oB_mono (bB_i (fun _ => bB_m (zar_B hW _ _) (wE_B hW (by omega) _ _ _)) (fun _ => bB_n 101000) : bB 101000 _) (by omega))) k_CW_sum d_Tai_leastThrough_127 n_Tai_66 (by decide) rfl p_CW_sum (K := ?_)
            rw [← sc_sm]
            refine y_min (pc := 130) d_Tai_leastThrough_130 m_Tai_82 (by decide) (K := ?_)
            rw [zEc_min (b := 200000) (by omega) hBk hBt, ← sc_sa, ← hst]
            refine y_ist4 (pc := 133) d_Tai_leastThrough_133 ?_
            refine y_inc6 (pc := 135) (v := 1) d_Tai_leastThrough_135 (by decide) ?_
            refine x_goto (pc := 138) (tgt := 53) d_Tai_leastThrough_138 (by decide) ?_
            rw [show nI k + 1 = nI (k + 1) from (nI_succ k).symm]
            exact ih _ _ rfl rfl
        · refine x_iload (pc := 66) d_Tai_leastThrough_66 rfl ?_
          refine x_ldc (pc := 68) (v := 1000000000) d_Tai_leastThrough_68 i_Tai_62 ?_
          refine x_icmp_ne (pc := 70) (tgt := 141) d_Tai_leastThrough_70 (by decide) (fun h70 => ?_) (fun h70 => ?_)
          · refine x_iload (pc := 141) d_Tai_leastThrough_141 rfl ?_
            refine y_iret (pc := 143) d_Tai_leastThrough_143 rfl ?_
            exact ⟨⟨_, rfl, hBk, Or.inr ⟨fun z => h70 (by rw [z]; rfl), Int32.not_lt.mp h63, by rw [hfull]; exact sle_pre (by omega)⟩⟩, rfl, rfl⟩
          · refine x_aload_n (pc := 73) d_Tai_leastThrough_73 rfl ?_
            refine x_get (pc := 74) (j := 1) d_Tai_leastThrough_74 f_Tai_33 rfl rfl (Nat.le_of_ble_eq_true rfl) rfl rfl rfl ?_
            refine x_get (pc := 77) (j := 3) d_Tai_leastThrough_77 f_Tai_94 rfl rfl (Nat.le_of_ble_eq_true rfl) rfl rfl rfl ?_
            refine x_iload (pc := 80) d_Tai_leastThrough_80 rfl ?_
            refine x_bipush (pc := 82) (v := 9) d_Tai_leastThrough_82 (by decide) ?_
            refine x_imul (pc := 84) d_Tai_leastThrough_84 ?_
            refine x_iload_n (pc := 85) d_Tai_leastThrough_85 rfl ?_
            refine x_iadd (pc := 86) d_Tai_leastThrough_86 ?_
            refine x_iald (pc := 87) d_Tai_leastThrough_87 rfl (by rw [ixk]; exact vp_in_nI (by omega) (by decide)) ?_
            rw [ixk, ck, hpk]
            refine y_ist7 (pc := 88) d_Tai_leastThrough_88 ?_
            refine x_iload (pc := 90) d_Tai_leastThrough_90 rfl ?_
            refine x_ldc (pc := 92) (v := 1000000000) d_Tai_leastThrough_92 i_Tai_62 ?_
            refine x_icmp_eq (pc := 94) (tgt := 135) d_Tai_leastThrough_94 (by decide) (fun h94 => ?_) (fun h94 => ?_)
            · refine y_inc6 (pc := 135) (v := 1) d_Tai_leastThrough_135 (by decide) ?_
              refine x_goto (pc := 138) (tgt := 53) d_Tai_leastThrough_138 (by decide) ?_
              rw [show nI k + 1 = nI (k + 1) from (nI_succ k).symm]
              have hn : wT W (2 ^ (W.n - 1) * 9) (k * 9 + x) = none := sc_n.mp ((zEc_no (b := 8000) (by omega) (wT_B hW _ _)).mp h94)
              rw [hn, sm_nl, sa_nr] at hst
              rw [hst] at ih
              exact ih _ _ rfl h8
            · have hBt : bB 200000 (sm (wT W (2 ^ (W.n - 1) * 9) (k * 9 + x)) (if (zfo W k j && (2 ^ (W.n - 1) - 1).testBit j) = true then sm (zar W x (j + 1)) (wE W r (2 ^ (W.n - 1) - 1) (k ||| 2 ^ j) (j + 1)) else none)) := bB_mono (bB_m (wT_B hW _ _) (bB_i (fun _ => bB_m (zar_B hW _ _) (wE_B hW (by omega) _ _ _)) (fun _ => bB_n 101000))) (by omega)
              have hkN : k ||| 2 ^ j < 2 ^ (W.n - 1) := Nat.or_lt_two_pow hk (Nat.pow_lt_pow_right (by decide) hj)
              refine x_iload_n (pc := 97) d_Tai_leastThrough_97 rfl ?_
              refine x_if_ne (pc := 98) (tgt := 111) d_Tai_leastThrough_98 (by decide) (fun h98 => ?_) (fun h => absurd h hj0)
              refine x_aload_n (pc := 111) d_Tai_leastThrough_111 rfl ?_
              refine x_iload (pc := 112) d_Tai_leastThrough_112 rfl ?_
              refine x_iload_n (pc := 114) d_Tai_leastThrough_114 rfl ?_
              refine x_iload_n (pc := 115) d_Tai_leastThrough_115 rfl ?_
              refine y_fV (pc := 116) (c_Tai_costOver _ _ hW hC hsh (2 ^ (W.n - 1) - 1) r hall (by omega) hT k x j hk (by omega) hj (fun _ => htb (k ||| 2 ^ j) j (by rw [Nat.and_two_pow_sub_one_eq_mod]; exact Nat.mod_eq_of_lt hkN) hj (by rw [tb_or]; simp))) k_Tai_costOver d_Tai_leastThrough_116 m_Tai_78 (by decide) rfl rfl rfl rfl p_Tai_costOver (K := ?_)
              refine y_ist8 (pc := 119) d_Tai_leastThrough_119 ?_
              refine x_iload (pc := 121) d_Tai_leastThrough_121 rfl ?_
              refine x_iload (pc := 123) d_Tai_leastThrough_123 rfl ?_
              refine x_iload (pc := 125) d_Tai_leastThrough_125 rfl ?_
              refine y_fN (pc := 127) (w_sum _ _ (oB_mono (wT_B hW _ _) (by omega)) (oB_mono (bB_i (fun _ => bB_m (zar_B hW _ _) (wE_B hW (by omega) _ _ _)) (fun _ => bB_n 101000) : bB 101000 _) (by omega))) k_CW_sum d_Tai_leastThrough_127 n_Tai_66 (by decide) rfl p_CW_sum (K := ?_)
              rw [← sc_sm]
              refine y_min (pc := 130) d_Tai_leastThrough_130 m_Tai_82 (by decide) (K := ?_)
              rw [zEc_min (b := 200000) (by omega) hBk hBt, ← sc_sa, ← hst]
              refine y_ist4 (pc := 133) d_Tai_leastThrough_133 ?_
              refine y_inc6 (pc := 135) (v := 1) d_Tai_leastThrough_135 (by decide) ?_
              refine x_goto (pc := 138) (tgt := 53) d_Tai_leastThrough_138 (by decide) ?_
              rw [show nI k + 1 = nI (k + 1) from (nI_succ k).symm]
              exact ih _ _ rfl rfl
    refine CQ.of (lv := [.ref 16, .int (nI x), .int (nI (j + 1)), .int en, zu, zu, zu, zu, zu]) k_Tai_leastThrough.1 rfl (by decide) rfl rfl (Nat.le_of_ble_eq_true rfl) ?_
    refine x_aload_n (pc := 0) d_Tai_leastThrough_0 rfl ?_
    refine x_get (pc := 1) (j := 0) d_Tai_leastThrough_1 f_Tai_29 rfl rfl (Nat.le_of_ble_eq_true rfl) rfl rfl rfl ?_
    refine x_get (pc := 4) (j := 1) d_Tai_leastThrough_4 f_Tai_63 rfl rfl (Nat.le_of_ble_eq_true rfl) rfl rfl rfl ?_
    refine x_iload_n (pc := 7) d_Tai_leastThrough_7 rfl ?_
    refine x_bipush (pc := 8) (v := 9) d_Tai_leastThrough_8 (by decide) ?_
    refine x_imul (pc := 10) d_Tai_leastThrough_10 ?_
    refine x_iload_n (pc := 11) d_Tai_leastThrough_11 rfl ?_
    refine x_iadd (pc := 12) d_Tai_leastThrough_12 ?_
    refine x_iald (pc := 13) d_Tai_leastThrough_13 rfl (by rw [ix1]; exact vp_in_nI (by omega) (by decide)) ?_
    rw [ix1, c1, har]
    refine x_ldc (pc := 14) (v := 1000000000) d_Tai_leastThrough_14 i_Tai_62 ?_
    refine x_icmp_eq (pc := 16) (tgt := 34) d_Tai_leastThrough_16 (by decide) (fun h16 => ?_) (fun h16 => ?_)
    · refine x_ldc (pc := 34) (v := 1000000000) d_Tai_leastThrough_34 i_Tai_62 ?_
      refine y_iret (pc := 36) d_Tai_leastThrough_36 rfl ?_
      exact ⟨hnone (th_noarc hW r x (j + 1) ((zEc_no (b := 1000) (by omega) (hW.arB x (j + 1))).mp h16)), rfl, rfl⟩
    · refine x_iload_n (pc := 19) d_Tai_leastThrough_19 rfl ?_
      refine x_if_ne (pc := 20) (tgt := 37) d_Tai_leastThrough_20 (by decide) (fun h20 => ?_) (fun h => absurd h hj0)
      refine x_ldc (pc := 37) (v := 1000000000) d_Tai_leastThrough_37 i_Tai_62 ?_
      refine y_ist4 (pc := 39) d_Tai_leastThrough_39 ?_
      refine x_aload_n (pc := 41) d_Tai_leastThrough_41 rfl ?_
      refine x_get (pc := 42) (j := 0) d_Tai_leastThrough_42 f_Tai_29 rfl rfl (Nat.le_of_ble_eq_true rfl) rfl rfl rfl ?_
      refine y_fV (pc := 45) (w_allPlaces _ _ hW hC) k_Net_allPlaces d_Tai_leastThrough_45 m_Tai_90 (by decide) rfl rfl rfl rfl p_Net_allPlaces (K := ?_)
      refine y_ist5 (pc := 48) d_Tai_leastThrough_48 ?_
      refine x_iconst (pc := 50) (v := 0) d_Tai_leastThrough_50 (by decide) ?_
      refine y_ist6 (pc := 51) d_Tai_leastThrough_51 ?_
      exact hS 0 (Nat.zero_le _) _ _ rfl rfl
