theorem zEc_min {b : Int} {o p : Option Int} (hb : b < 1000000000) (h : oB b o) (h' : oB b p) : (if zEc p < zEc o then zEc p else zEc o) = zEc (omin o p) := by
  by_cases q : zEc p < zEc o
  · rw [if_pos q, omin_gt ((zEc_lt hb h' h).mp q)]
  · rw [if_neg q]
    by_cases e : o = p
    · rw [e, omin_eq]
    · rw [omin_lt (olt_tri (fun z => q ((zEc_lt hb h' h).mpr z)) (fun z => e z.symm))]
/-- the tails' own numbers -/
def TF (F r : Nat) (V : zV) : Prop := V 16 6 = nI F ∧ V 16 7 = nI (r + 1)
set_option maxRecDepth 100000 in
set_option maxHeartbeats 4000000 in
theorem c_Tai_costClosing {W : zW} (V A : zV) (hW : zWok W) (hC : WC W V A) (hsh : shOK W (zta A)) (F r : Nat) (hF : F < 2 ^ (W.n - 1)) (hr : r + 1 ≤ W.mo) (hT : TF F r V) (S a : Nat) (ha : a < 9) : CQ Y_Tai_costClosing 1 [.ref 16, .int (nI S), .int (nI a)] V A (fun ρ V' A' => ρ = zEc (sc (sm (zbs W a) (wP W r (zdf F S)))) ∧ V' = V ∧ A' = A) := by
  have h9 := hW.h9
  have hp := pw_le h9
  have hm8 := hW.m8
  have hd : zdf F S < 2 ^ (W.n - 1) := Nat.lt_of_le_of_lt Nat.and_le_left hF
  have e1 : (nI (r + 1) - 1) * 256 + (nI F &&& (nI S ^^^ (-1))) = nI (r * 256 + zdf F S) := by rw [nI_pred, zz_not (by omega), show (256 : Int32) = nI 256 from rfl, pk_mul, nI_add]; rfl
  have c1 : (nI (r * 256 + zdf F S)).toNatClampNeg = r * 256 + zdf F S := nI_clamp (by omega)
  have hz : A 14 (r * 256 + zdf F S) = _ := (hsh.2.2 r _ (by omega) hd).1
  refine CQ.of (lv := [.ref 16, .int (nI S), .int (nI a)]) k_Tai_costClosing.1 rfl (by decide) rfl rfl (Nat.le_of_ble_eq_true rfl) ?_
  refine x_aload_n (pc := 0) d_Tai_costClosing_0 rfl ?_
  refine x_get (pc := 1) (j := 0) d_Tai_costClosing_1 f_Tai_29 rfl rfl (Nat.le_of_ble_eq_true rfl) rfl rfl rfl ?_
  refine x_iload_n (pc := 4) d_Tai_costClosing_4 rfl ?_
  refine y_fV (pc := 5) (w_costBack _ _ a hC ha) k_Net_costBack d_Tai_costClosing_5 m_Tai_69 (by decide) rfl rfl rfl rfl p_Net_costBack (K := ?_)
  refine x_aload_n (pc := 8) d_Tai_costClosing_8 rfl ?_
  refine x_get (pc := 9) (j := 2) d_Tai_costClosing_9 f_Tai_37 rfl rfl (Nat.le_of_ble_eq_true rfl) rfl rfl rfl ?_
  refine x_get (pc := 12) (j := 2) d_Tai_costClosing_12 f_Tai_72 rfl rfl (Nat.le_of_ble_eq_true rfl) rfl rfl rfl ?_
  refine x_aload_n (pc := 15) d_Tai_costClosing_15 rfl ?_
  refine x_get (pc := 16) (j := 7) d_Tai_costClosing_16 f_Tai_26 rfl rfl (Nat.le_of_ble_eq_true rfl) rfl rfl rfl ?_
  rw [hT.2]
  refine x_iconst (pc := 19) (v := 1) d_Tai_costClosing_19 (by decide) ?_
  refine x_isub (pc := 20) d_Tai_costClosing_20 ?_
  refine x_sipush (pc := 21) (v := 256) d_Tai_costClosing_21 (by decide) ?_
  refine x_imul (pc := 24) d_Tai_costClosing_24 ?_
  refine x_aload_n (pc := 25) d_Tai_costClosing_25 rfl ?_
  refine x_get (pc := 26) (j := 6) d_Tai_costClosing_26 f_Tai_23 rfl rfl (Nat.le_of_ble_eq_true rfl) rfl rfl rfl ?_
  rw [hT.1]
  refine x_iload_n (pc := 29) d_Tai_costClosing_29 rfl ?_
  refine x_iconst (pc := 30) (v := (-1)) d_Tai_costClosing_30 (by decide) ?_
  refine x_ixor (pc := 31) d_Tai_costClosing_31 ?_
  refine x_iand (pc := 32) d_Tai_costClosing_32 ?_
  refine x_iadd (pc := 33) d_Tai_costClosing_33 ?_
  rw [e1]
  refine x_iald (pc := 34) d_Tai_costClosing_34 rfl (vp_in_nI (by omega) (by decide)) ?_
  rw [c1, hz]
  refine y_fN (pc := 35) (w_sum _ _ (oB_mono (hW.bkB a) (by omega)) (oB_mono (wP_B hW (by omega) _) (by omega))) k_CW_sum d_Tai_costClosing_35 n_Tai_66 (by decide) rfl p_CW_sum (K := ?_)
  refine y_iret (pc := 38) d_Tai_costClosing_38 rfl ?_
  exact ⟨by rw [sc_sm]; unfold zbs; rw [sc_se], rfl, rfl⟩
set_option maxRecDepth 100000 in
set_option maxHeartbeats 4000000 in
theorem c_Tai_costOver {W : zW} (V A : zV) (hW : zWok W) (hC : WC W V A) (hsh : shOK W (zta A)) (F r : Nat) (hF : F < 2 ^ (W.n - 1)) (hr : r + 1 ≤ W.mo) (hT : TF F r V) (S a i : Nat) (hS : S < 2 ^ (W.n - 1)) (ha : a < 9) (hi : i < W.n - 1) (ht : (zfo W S i && F.testBit i) = true → A 17 ((S ||| 2 ^ i) * 9 + (i + 1)) = zEc (sc (wE W r F (S ||| 2 ^ i) (i + 1)))) : CQ Y_Tai_costOver 1 [.ref 16, .int (nI S), .int (nI a), .int (nI (i + 1))] V A (fun ρ V' A' => ρ = zEc (sc (if (zfo W S i && F.testBit i) = true then sm (zar W a (i + 1)) (wE W r F (S ||| 2 ^ i) (i + 1)) else none)) ∧ V' = V ∧ A' = A) := by
  have h9 := hW.h9
  have hp := pw_le h9
  have hm8 := hW.m8
  have cs : (nI S).toNatClampNeg = S := nI_clamp (by omega)
  have hfl : A 8 S = nI (zfS W S (W.n - 1)) := hsh.1 S hS
  have hfS := zfS_lt W S (W.n - 1) (by omega)
  have hb : (zfS W S (W.n - 1) &&& F).testBit i = (zfo W S i && F.testBit i) := by rw [Nat.testBit_and, zfS_tb, decide_eq_true hi, Bool.true_and]
  have hto : S ||| 2 ^ i < 2 ^ (W.n - 1) := Nat.or_lt_two_pow hS (Nat.pow_lt_pow_right (by decide) hi)
  have ix1 : nI a * 9 + nI (i + 1) = nI (a * 9 + (i + 1)) := by rw [show (9 : Int32) = nI 9 from rfl, pk_mul, nI_add]
  have c1 : (nI (a * 9 + (i + 1))).toNatClampNeg = a * 9 + (i + 1) := nI_clamp (by omega)
  have ix2 : (nI S ||| nI (2 ^ i)) * 9 + nI (i + 1) = nI ((S ||| 2 ^ i) * 9 + (i + 1)) := by rw [nx_or, show (9 : Int32) = nI 9 from rfl, pk_mul, nI_add]
  have c2 : (nI ((S ||| 2 ^ i) * 9 + (i + 1))).toNatClampNeg = (S ||| 2 ^ i) * 9 + (i + 1) := nI_clamp (by omega)
  have har := hC.ar a (i + 1) ha (by omega)
  refine CQ.of (lv := [.ref 16, .int (nI S), .int (nI a), .int (nI (i + 1))]) k_Tai_costOver.1 rfl (by decide) rfl rfl (Nat.le_of_ble_eq_true rfl) ?_
  refine x_aload_n (pc := 0) d_Tai_costOver_0 rfl ?_
  refine x_get (pc := 1) (j := 1) d_Tai_costOver_1 f_Tai_33 rfl rfl (Nat.le_of_ble_eq_true rfl) rfl rfl rfl ?_
  refine x_get (pc := 4) (j := 2) d_Tai_costOver_4 f_Tai_57 rfl rfl (Nat.le_of_ble_eq_true rfl) rfl rfl rfl ?_
  refine x_iload_n (pc := 7) d_Tai_costOver_7 rfl ?_
  refine x_iald (pc := 8) d_Tai_costOver_8 rfl (vp_in_nI (by omega) (by decide)) ?_
  rw [cs, hfl]
  refine x_aload_n (pc := 9) d_Tai_costOver_9 rfl ?_
  refine x_get (pc := 10) (j := 6) d_Tai_costOver_10 f_Tai_23 rfl rfl (Nat.le_of_ble_eq_true rfl) rfl rfl rfl ?_
  refine x_iand (pc := 13) d_Tai_costOver_13 ?_
  rw [hT.1, nx_and]
  refine x_iload_n (pc := 14) d_Tai_costOver_14 rfl ?_
  refine y_fN (pc := 15) (w_bit _ _ (i + 1) (by omega) (by omega)) k_CW_bit d_Tai_costOver_15 n_Tai_49 (by decide) rfl p_CW_bit (K := ?_)
  rw [show i + 1 - 1 = i from rfl]
  refine x_iand (pc := 18) d_Tai_costOver_18 ?_
  refine x_if_ne (pc := 19) (tgt := 25) d_Tai_costOver_19 (by decide) (fun h19 => ?_) (fun h19 => ?_)
  · have hyes : (zfo W S i && F.testBit i) = true := by
      rw [← hb]
      cases hz : (zfS W S (W.n - 1) &&& F).testBit i with
      | true => rfl
      | false => exact absurd ((zz_in (and256 hfS) (by omega)).mpr hz) h19
    rw [if_pos hyes]
    refine x_aload_n (pc := 25) d_Tai_costOver_25 rfl ?_
    refine x_get (pc := 26) (j := 0) d_Tai_costOver_26 f_Tai_29 rfl rfl (Nat.le_of_ble_eq_true rfl) rfl rfl rfl ?_
    refine x_get (pc := 29) (j := 1) d_Tai_costOver_29 f_Tai_63 rfl rfl (Nat.le_of_ble_eq_true rfl) rfl rfl rfl ?_
    refine x_iload_n (pc := 32) d_Tai_costOver_32 rfl ?_
    refine x_bipush (pc := 33) (v := 9) d_Tai_costOver_33 (by decide) ?_
    refine x_imul (pc := 35) d_Tai_costOver_35 ?_
    refine x_iload_n (pc := 36) d_Tai_costOver_36 rfl ?_
    refine x_iadd (pc := 37) d_Tai_costOver_37 ?_
    refine x_iald (pc := 38) d_Tai_costOver_38 rfl (by rw [ix1]; exact vp_in_nI (by omega) (by decide)) ?_
    rw [ix1, c1, har]
    refine x_aload_n (pc := 39) d_Tai_costOver_39 rfl ?_
    refine x_get (pc := 40) (j := 3) d_Tai_costOver_40 f_Tai_9 rfl rfl (Nat.le_of_ble_eq_true rfl) rfl rfl rfl ?_
    refine x_iload_n (pc := 43) d_Tai_costOver_43 rfl ?_
    refine x_iload_n (pc := 44) d_Tai_costOver_44 rfl ?_
    refine y_fN (pc := 45) (w_bit _ _ (i + 1) (by omega) (by omega)) k_CW_bit d_Tai_costOver_45 n_Tai_49 (by decide) rfl p_CW_bit (K := ?_)
    refine x_ior (pc := 48) d_Tai_costOver_48 ?_
    refine x_bipush (pc := 49) (v := 9) d_Tai_costOver_49 (by decide) ?_
    refine x_imul (pc := 51) d_Tai_costOver_51 ?_
    refine x_iload_n (pc := 52) d_Tai_costOver_52 rfl ?_
    refine x_iadd (pc := 53) d_Tai_costOver_53 ?_
    rw [show i + 1 - 1 = i from rfl, ix2]
    refine x_iald (pc := 54) d_Tai_costOver_54 rfl (vp_in_nI (by omega) (by decide)) ?_
    rw [c2, ht hyes]
    refine y_fN (pc := 55) (w_sum _ _ (oB_mono (hW.arB _ _) (by omega)) (oB_mono (wE_B hW (by omega) _ _ _) (by omega))) k_CW_sum d_Tai_costOver_55 n_Tai_66 (by decide) rfl p_CW_sum (K := ?_)
    refine y_iret (pc := 58) d_Tai_costOver_58 rfl ?_
    exact ⟨by rw [sc_sm]; unfold zar; rw [sc_se], rfl, rfl⟩
  · refine x_ldc (pc := 22) (v := 1000000000) d_Tai_costOver_22 i_Tai_62 ?_
    refine y_iret (pc := 24) d_Tai_costOver_24 rfl ?_
    have hno : ¬ (zfo W S i && F.testBit i) = true := by
      rw [← hb, (zz_in (and256 hfS) (by omega)).mp h19]; simp
    exact ⟨by rw [if_neg hno]; rfl, rfl, rfl⟩
set_option maxRecDepth 100000 in
set_option maxHeartbeats 4000000 in
theorem c_Tai_leastBehind {W : zW} (V A : zV) (hW : zWok W) (hC : WC W V A) (hsh : shOK W (zta A)) (F r : Nat) (hF : F < 2 ^ (W.n - 1)) (hr : r + 1 ≤ W.mo) (hT : TF F r V) (S a : Nat) (hS : S < 2 ^ (W.n - 1)) (ha : a < 9) (ht : ∀ i, i < W.n - 1 → (zfo W S i && F.testBit i) = true → A 17 ((S ||| 2 ^ i) * 9 + (i + 1)) = zEc (sc (wE W r F (S ||| 2 ^ i) (i + 1)))) : CQ Y_Tai_leastBehind 2 [.ref 16, .int (nI S), .int (nI a)] V A (fun ρ V' A' => ρ = zEc (sc (wE W r F S a)) ∧ V' = V ∧ A' = A) := by
  have h9 := hW.h9
  have hp := pw_le h9
  have hm8 := hW.m8
  have cs : (nI S).toNatClampNeg = S := nI_clamp (by omega)
  have hfl : A 8 S = nI (zfS W S (W.n - 1)) := hsh.1 S hS
  have hfS := zfS_lt W S (W.n - 1) (by omega)
  have hL : ∀ k, k ≤ W.n - 1 → X Y_Tai_leastBehind (zrm 2) (0, fun _ => 0) (zFq 2 (fun ρ V' A' => ρ = zEc (sc (wE W r F S a)) ∧ V' = V ∧ A' = A)) 26 [.ref 16, .int (nI S), .int (nI a), .int (zEc (sc (sa (sm (zbs W a) (wP W r (zdf F S))) (zMS.s (fun i => (if (zfo W S i && F.testBit i) = true then sm (zar W a (i + 1)) (wE W r F (S ||| 2 ^ i) (i + 1)) else none)) k)))), .int (nI (zfS W S (W.n - 1) &&& F)), .int (nI (k + 1))] [] (cells V A) 0 0 := by
    refine z_down ?_ (fun k hk ih => ?_)
    · refine x_iload (pc := 26) d_Tai_leastBehind_26 rfl ?_
      refine x_aload_n (pc := 28) d_Tai_leastBehind_28 rfl ?_
      refine x_get (pc := 29) (j := 0) d_Tai_leastBehind_29 f_Tai_29 rfl rfl (Nat.le_of_ble_eq_true rfl) rfl rfl rfl ?_
      refine x_get (pc := 32) (j := 4) d_Tai_leastBehind_32 f_Tai_46 rfl rfl (Nat.le_of_ble_eq_true rfl) rfl rfl rfl ?_
      rw [hC.n]
      refine x_icmp_ge (pc := 35) (tgt := 68) d_Tai_leastBehind_35 (by decide) (fun h35 => ?_) (fun h => absurd (nI_le (by omega) (by omega)) h)
      refine x_iload_n (pc := 68) d_Tai_leastBehind_68 rfl ?_
      refine y_iret (pc := 69) d_Tai_leastBehind_69 rfl ?_
      exact ⟨by rw [wE_eq], rfl, rfl⟩
    · have hb : (zfS W S (W.n - 1) &&& F).testBit k = (zfo W S k && F.testBit k) := by rw [Nat.testBit_and, zfS_tb, decide_eq_true hk, Bool.true_and]
      have hBt : ∀ i, bB 101000 (if (zfo W S i && F.testBit i) = true then sm (zar W a (i + 1)) (wE W r F (S ||| 2 ^ i) (i + 1)) else none) := fun i => bB_i (fun _ => bB_m (zar_B hW _ _) (wE_B hW (by omega) _ _ _)) (fun _ => bB_n _)
      have hBs : bB 101000 (sa (sm (zbs W a) (wP W r (zdf F S))) (zMS.s (fun i => (if (zfo W S i && F.testBit i) = true then sm (zar W a (i + 1)) (wE W r F (S ||| 2 ^ i) (i + 1)) else none)) k)) := bB_a (bB_mono (bB_m (zbs_B hW a) (wP_B hW (by omega) _)) (by omega)) (bB_s (fun i _ => hBt i))
      have hst : sa (sm (zbs W a) (wP W r (zdf F S))) (zMS.s (fun i => (if (zfo W S i && F.testBit i) = true then sm (zar W a (i + 1)) (wE W r F (S ||| 2 ^ i) (i + 1)) else none)) (k + 1)) = sa (sa (sm (zbs W a) (wP W r (zdf F S))) (zMS.s (fun i => (if (zfo W S i && F.testBit i) = true then sm (zar W a (i + 1)) (wE W r F (S ||| 2 ^ i) (i + 1)) else none)) k)) (if (zfo W S k && F.testBit k) = true then sm (zar W a (k + 1)) (wE W r F (S ||| 2 ^ k) (k + 1)) else none) := (zMS_SR.pa _ _ _).symm
      refine x_iload (pc := 26) d_Tai_leastBehind_26 rfl ?_
      refine x_aload_n (pc := 28) d_Tai_leastBehind_28 rfl ?_
      refine x_get (pc := 29) (j := 0) d_Tai_leastBehind_29 f_Tai_29 rfl rfl (Nat.le_of_ble_eq_true rfl) rfl rfl rfl ?_
      refine x_get (pc := 32) (j := 4) d_Tai_leastBehind_32 f_Tai_46 rfl rfl (Nat.le_of_ble_eq_true rfl) rfl rfl rfl ?_
      rw [hC.n]
      refine x_icmp_ge (pc := 35) (tgt := 68) d_Tai_leastBehind_35 (by decide) (fun h => absurd h (nI_ge (by omega) (by omega))) (fun h35 => ?_)
      refine x_iload (pc := 38) d_Tai_leastBehind_38 rfl ?_
      refine x_iload (pc := 40) d_Tai_leastBehind_40 rfl ?_
      refine y_fN (pc := 42) (w_bit _ _ (k + 1) (by omega) (by omega)) k_CW_bit d_Tai_leastBehind_42 n_Tai_49 (by decide) rfl p_CW_bit (K := ?_)
      rw [show k + 1 - 1 = k from rfl]
      refine x_iand (pc := 45) d_Tai_leastBehind_45 ?_
      refine x_if_eq (pc := 46) (tgt := 62) d_Tai_leastBehind_46 (by decide) (fun h46 => ?_) (fun h46 => ?_)
      · refine y_inc5 (pc := 62) (v := 1) d_Tai_leastBehind_62 (by decide) ?_
        refine x_goto (pc := 65) (tgt := 26) d_Tai_leastBehind_65 (by decide) ?_
        rw [show nI (k + 1) + 1 = nI (k + 1 + 1) from (nI_succ (k + 1)).symm]
        have hno : ¬ (zfo W S k && F.testBit k) = true := by
          rw [← hb, (zz_in (and256 hfS) (by omega)).mp h46]; simp
        rw [if_neg hno, sa_nr] at hst
        rw [hst] at ih
        exact ih
      · refine x_iload_n (pc := 49) d_Tai_leastBehind_49 rfl ?_
        refine x_aload_n (pc := 50) d_Tai_leastBehind_50 rfl ?_
        refine x_iload_n (pc := 51) d_Tai_leastBehind_51 rfl ?_
        refine x_iload_n (pc := 52) d_Tai_leastBehind_52 rfl ?_
        refine x_iload (pc := 53) d_Tai_leastBehind_53 rfl ?_
        refine y_fV (pc := 55) (c_Tai_costOver _ _ hW hC hsh F r hF hr hT S a k hS ha hk (ht k hk)) k_Tai_costOver d_Tai_leastBehind_55 m_Tai_78 (by decide) rfl rfl rfl rfl p_Tai_costOver (K := ?_)
        refine y_min (pc := 58) d_Tai_leastBehind_58 m_Tai_82 (by decide) (K := ?_)
        rw [zEc_min (b := 101000) (by omega) hBs (hBt k), ← sc_sa, ← hst]
        refine y_ist3 (pc := 61) d_Tai_leastBehind_61 ?_
        refine y_inc5 (pc := 62) (v := 1) d_Tai_leastBehind_62 (by decide) ?_
        refine x_goto (pc := 65) (tgt := 26) d_Tai_leastBehind_65 (by decide) ?_
        rw [show nI (k + 1) + 1 = nI (k + 1 + 1) from (nI_succ (k + 1)).symm]
        exact ih
  refine CQ.of (lv := [.ref 16, .int (nI S), .int (nI a), zu, zu, zu]) k_Tai_leastBehind.1 rfl (by decide) rfl rfl (Nat.le_of_ble_eq_true rfl) ?_
  refine x_aload_n (pc := 0) d_Tai_leastBehind_0 rfl ?_
  refine x_iload_n (pc := 1) d_Tai_leastBehind_1 rfl ?_
  refine x_iload_n (pc := 2) d_Tai_leastBehind_2 rfl ?_
  refine y_fV (pc := 3) (c_Tai_costClosing _ _ hW hC hsh F r hF hr hT S a ha) k_Tai_costClosing d_Tai_leastBehind_3 m_Tai_75 (by decide) rfl rfl rfl rfl p_Tai_costClosing (K := ?_)
  refine y_ist3 (pc := 6) d_Tai_leastBehind_6 ?_
  refine x_aload_n (pc := 7) d_Tai_leastBehind_7 rfl ?_
  refine x_get (pc := 8) (j := 1) d_Tai_leastBehind_8 f_Tai_33 rfl rfl (Nat.le_of_ble_eq_true rfl) rfl rfl rfl ?_
  refine x_get (pc := 11) (j := 2) d_Tai_leastBehind_11 f_Tai_57 rfl rfl (Nat.le_of_ble_eq_true rfl) rfl rfl rfl ?_
  refine x_iload_n (pc := 14) d_Tai_leastBehind_14 rfl ?_
  refine x_iald (pc := 15) d_Tai_leastBehind_15 rfl (vp_in_nI (by omega) (by decide)) ?_
  rw [cs, hfl]
  refine x_aload_n (pc := 16) d_Tai_leastBehind_16 rfl ?_
  refine x_get (pc := 17) (j := 6) d_Tai_leastBehind_17 f_Tai_23 rfl rfl (Nat.le_of_ble_eq_true rfl) rfl rfl rfl ?_
  refine x_iand (pc := 20) d_Tai_leastBehind_20 ?_
  rw [hT.1, nx_and]
  refine y_ist4 (pc := 21) d_Tai_leastBehind_21 ?_
  refine x_iconst (pc := 23) (v := 1) d_Tai_leastBehind_23 (by decide) ?_
  refine y_ist5 (pc := 24) d_Tai_leastBehind_24 ?_
  have h0 := hL 0 (Nat.zero_le _)
  rw [show zMS.s (fun i => (if (zfo W S i && F.testBit i) = true then sm (zar W a (i + 1)) (wE W r F (S ||| 2 ^ i) (i + 1)) else none)) 0 = none from rfl, sa_nr] at h0
  exact h0
def tfr (V V1 : zV) : Prop := ∀ k j, ¬ (k = 16 ∧ (j = 5 ∨ j = 6 ∨ j = 7)) → V1 k j = V k j
def tfa (A A1 : zV) : Prop := ∀ k, ¬ k = 17 → A1 k = A k
def tab (W : zW) (F r : Nat) (t : Nat → Int32) : Prop := ∀ S i, S &&& F = S → i < W.n - 1 → S.testBit i = true → t (S * 9 + (i + 1)) = zEc (sc (wE W r F S (i + 1)))
theorem tfa.S {W : zW} {A A1 : zV} (h : tfa A A1) (hs : shOK W (zta A)) : shOK W (zta A1) := by
  have : zta A1 = zta A := by
    funext k
    unfold zta
    split <;> exact h _ (by decide)
  rw [this]; exact hs
set_option maxRecDepth 100000 in
set_option maxHeartbeats 4000000 in
theorem c_Tai_fill {W : zW} (V A : zV) (hW : zWok W) (hC : WC W V A) (hsh : shOK W (zta A)) (F r : Nat) (hF : F < 2 ^ (W.n - 1)) (hr : r + 1 ≤ W.mo) (hta : V 16 5 = V 1 8 → taOK W (V 16 6) (V 16 7) (A 17)) : CU Y_Tai_fill 3 [.ref 16, .int (nI F), .int (nI (r + 1))] V A (fun V' A' => tfr V V' ∧ tfa A A' ∧ V' 16 5 = V 1 8 ∧ TF F r V' ∧ tab W F r (A' 17)) := by
  have h9 := hW.h9
  have hp := pw_le h9
  have hm8 := hW.m8
  have hC3 : ∀ A1, tfa A A1 → WC W (zv (zv (zv V 16 5 (V 1 8)) 16 6 (nI F)) 16 7 (nI (r + 1))) A1 := fun A1 h => hC.same (fun j => by rw [zv_eq, if_neg (by omega), zv_eq, if_neg (by omega), zv_eq, if_neg (by omega)]) (fun k hk => h k (by omega))
  have hTF : TF F r (zv (zv (zv V 16 5 (V 1 8)) 16 6 (nI F)) 16 7 (nI (r + 1))) := ⟨rfl, rfl⟩
  have hL : ∀ p, p &&& F = p → ∀ (A1 : zV) (q : Value), q.category = 1 → tfa A A1 → (∀ S i, S &&& F = S → p < S → i < W.n - 1 → S.testBit i = true → A1 17 (S * 9 + (i + 1)) = zEc (sc (wE W r F S (i + 1)))) → X Y_Tai_fill (zrm 3) (0, fun _ => 0) (zFu 3 (fun V' A' => tfr V V' ∧ tfa A A' ∧ V' 16 5 = V 1 8 ∧ TF F r V' ∧ tab W F r (A' 17))) 57 [.ref 16, .int (nI F), .int (nI (r + 1)), .int (nI p), q] [] (cells (zv (zv (zv V 16 5 (V 1 8)) 16 6 (nI F)) 16 7 (nI (r + 1))) A1) 0 0 := by
    intro p
    induction p using Nat.strongRecOn with
    | _ p ih =>
      intro hpF A1 q hq hA1 htab
      have hple := sub_le hpF
      have hpN : p < 2 ^ (W.n - 1) := by omega
      by_cases hp0 : p = 0
      · subst hp0
        refine x_iload_n (pc := 57) d_Tai_fill_57 rfl ?_
        refine x_if_le (pc := 58) (tgt := 123) d_Tai_fill_58 (by decide) (fun h58 => ?_) (fun h => absurd (by decide) h)
        refine y_vret (pc := 123) d_Tai_fill_123 rfl ?_
        refine ⟨fun k j z => ?_, hA1, rfl, hTF, fun S i z1 z2 z3 => htab S i z1 ?_ z2 z3⟩
        · rw [zv_eq, if_neg (by omega), zv_eq, if_neg (by omega), zv_eq, if_neg (by omega)]
        · rcases Nat.eq_zero_or_pos S with z | z
          · rw [z, Nat.zero_testBit] at z3; exact absurd z3 (by simp)
          · exact z
      · have hpp : 0 < p := by omega
        have hI : ∀ k, k ≤ W.n - 1 → ∀ (A1 : zV), tfa A A1 → (∀ S i, S &&& F = S → p < S → i < W.n - 1 → S.testBit i = true → A1 17 (S * 9 + (i + 1)) = zEc (sc (wE W r F S (i + 1)))) → (∀ i, i < k → p.testBit i = true → A1 17 (p * 9 + (i + 1)) = zEc (sc (wE W r F p (i + 1)))) → X Y_Tai_fill (zrm 3) (0, fun _ => 0) (zFu 3 (fun V' A' => tfr V V' ∧ tfa A A' ∧ V' 16 5 = V 1 8 ∧ TF F r V' ∧ tab W F r (A' 17))) 64 [.ref 16, .int (nI F), .int (nI (r + 1)), .int (nI p), .int (nI (k + 1))] [] (cells (zv (zv (zv V 16 5 (V 1 8)) 16 6 (nI F)) 16 7 (nI (r + 1))) A1) 0 0 := by
          refine z_down (fun A1 hA1 htab hrow => ?_) (fun k hk ihk A1 hA1 htab hrow => ?_)
          · refine x_iload (pc := 64) d_Tai_fill_64 rfl ?_
            refine x_aload_n (pc := 66) d_Tai_fill_66 rfl ?_
            refine x_get (pc := 67) (j := 0) d_Tai_fill_67 f_Tai_29 rfl rfl (Nat.le_of_ble_eq_true rfl) rfl rfl rfl ?_
            refine x_get (pc := 70) (j := 4) d_Tai_fill_70 f_Tai_46 rfl rfl (Nat.le_of_ble_eq_true rfl) rfl rfl rfl ?_
            rw [(hC3 A1 hA1).n]
            refine x_icmp_ge (pc := 73) (tgt := 111) d_Tai_fill_73 (by decide) (fun h73 => ?_) (fun h => absurd (nI_le (by omega) (by omega)) h)
            refine x_iload_n (pc := 111) d_Tai_fill_111 rfl ?_
            refine x_iconst (pc := 112) (v := 1) d_Tai_fill_112 (by decide) ?_
            refine x_isub (pc := 113) d_Tai_fill_113 ?_
            refine x_aload_n (pc := 114) d_Tai_fill_114 rfl ?_
            refine x_get (pc := 115) (j := 6) d_Tai_fill_115 f_Tai_23 rfl rfl (Nat.le_of_ble_eq_true rfl) rfl rfl rfl ?_
            refine x_iand (pc := 118) d_Tai_fill_118 ?_
            refine y_ist3 (pc := 119) d_Tai_fill_119 ?_
            refine x_goto (pc := 120) (tgt := 57) d_Tai_fill_120 (by decide) ?_
            rw [show nI p - 1 = nI (p - 1) by rw [show p = p - 1 + 1 by omega, nI_pred]; rfl, show (zv (zv (zv V 16 5 (V 1 8)) 16 6 (nI F)) 16 7 (nI (r + 1))) 16 6 = nI F from rfl, nx_and]
            have hlt : (p - 1) &&& F < p := by have : (p - 1) &&& F ≤ p - 1 := Nat.and_le_left; omega
            refine ih _ hlt (by rw [Nat.and_assoc, Nat.and_self]) A1 _ rfl hA1 (fun S i z1 z2 z3 z4 => ?_)
            rcases Nat.lt_trichotomy S p with y | y | y
            · have := sub_next F p S hpp hpF z1 y; omega
            · rw [y]; rw [y] at z4; exact hrow i z3 z4
            · exact htab S i z1 y z3 z4
          · have ix1 : nI p * 9 + nI (k + 1) = nI (p * 9 + (k + 1)) := by rw [show (9 : Int32) = nI 9 from rfl, pk_mul, nI_add]
            have c1 : (nI (p * 9 + (k + 1))).toNatClampNeg = p * 9 + (k + 1) := nI_clamp (by omega)
            refine x_iload (pc := 64) d_Tai_fill_64 rfl ?_
            refine x_aload_n (pc := 66) d_Tai_fill_66 rfl ?_
            refine x_get (pc := 67) (j := 0) d_Tai_fill_67 f_Tai_29 rfl rfl (Nat.le_of_ble_eq_true rfl) rfl rfl rfl ?_
            refine x_get (pc := 70) (j := 4) d_Tai_fill_70 f_Tai_46 rfl rfl (Nat.le_of_ble_eq_true rfl) rfl rfl rfl ?_
            rw [(hC3 A1 hA1).n]
            refine x_icmp_ge (pc := 73) (tgt := 111) d_Tai_fill_73 (by decide) (fun h => absurd h (nI_ge (by omega) (by omega))) (fun h73 => ?_)
            refine x_iload_n (pc := 76) d_Tai_fill_76 rfl ?_
            refine x_iload (pc := 77) d_Tai_fill_77 rfl ?_
            refine y_fN (pc := 79) (w_bit _ _ (k + 1) (by omega) (by omega)) k_CW_bit d_Tai_fill_79 n_Tai_49 (by decide) rfl p_CW_bit (K := ?_)
            rw [show k + 1 - 1 = k from rfl]
            refine x_iand (pc := 82) d_Tai_fill_82 ?_
            refine x_if_eq (pc := 83) (tgt := 105) d_Tai_fill_83 (by decide) (fun h83 => ?_) (fun h83 => ?_)
            · refine y_inc4 (pc := 105) (v := 1) d_Tai_fill_105 (by decide) ?_
              refine x_goto (pc := 108) (tgt := 64) d_Tai_fill_108 (by decide) ?_
              rw [show nI (k + 1) + 1 = nI (k + 1 + 1) from (nI_succ (k + 1)).symm]
              have hno := (zz_in (e := p) (by omega) (by omega)).mp h83
              refine ihk A1 hA1 htab (fun i z1 z2 => ?_)
              by_cases e : i = k
              · rw [e, hno] at z2; exact absurd z2 (by simp)
              · exact hrow i (by omega) z2
            · refine x_aload_n (pc := 86) d_Tai_fill_86 rfl ?_
              refine x_get (pc := 87) (j := 3) d_Tai_fill_87 f_Tai_9 rfl rfl (Nat.le_of_ble_eq_true rfl) rfl rfl rfl ?_
              refine x_iload_n (pc := 90) d_Tai_fill_90 rfl ?_
              refine x_bipush (pc := 91) (v := 9) d_Tai_fill_91 (by decide) ?_
              refine x_imul (pc := 93) d_Tai_fill_93 ?_
              refine x_iload (pc := 94) d_Tai_fill_94 rfl ?_
              refine x_iadd (pc := 96) d_Tai_fill_96 ?_
              rw [ix1]
              refine x_aload_n (pc := 97) d_Tai_fill_97 rfl ?_
              refine x_iload_n (pc := 98) d_Tai_fill_98 rfl ?_
              refine x_iload (pc := 99) d_Tai_fill_99 rfl ?_
              refine y_fV (pc := 101) (c_Tai_leastBehind _ _ hW (hC3 A1 hA1) (hA1.S hsh) F r hF hr hTF p (k + 1) hpN (by omega) (fun i z1 z2 => by have z : zfo W p i = true ∧ F.testBit i = true := Bool.and_eq_true _ _ ▸ z2; exact htab (p ||| 2 ^ i) i ((sub_iff _ _).mpr (fun j hj => by rw [tb_or] at hj; rcases Bool.or_eq_true _ _ ▸ hj with y | y; exact (sub_iff _ _).mp hpF j y; rw [← of_decide_eq_true y]; exact z.2)) (or_gt (zfo_Fo W p i z.1)) z1 (by rw [tb_or]; simp))) k_Tai_leastBehind d_Tai_fill_101 m_Tai_53 (by decide) rfl rfl rfl rfl p_Tai_leastBehind (K := ?_)
              refine y_iast (pc := 104) d_Tai_fill_104 rfl (fun _ => rfl) (vp_in_nI (by omega) (by decide)) ?_
              refine y_inc4 (pc := 105) (v := 1) d_Tai_fill_105 (by decide) ?_
              refine x_goto (pc := 108) (tgt := 64) d_Tai_fill_108 (by decide) ?_
              rw [show nI (k + 1) + 1 = nI (k + 1 + 1) from (nI_succ (k + 1)).symm]
              rw [c1]
              refine ihk _ (fun j hj => by rw [za_eq, if_neg hj]; exact hA1 j hj) (fun S i z1 z2 z3 z4 => ?_) (fun i z1 z2 => ?_)
              · exact (upd_ne _ _ (by omega)).trans (htab S i z1 z2 z3 z4)
              · by_cases e : i = k
                · rw [e]; exact upd_at _ _ _
                · exact (upd_ne _ _ (by omega)).trans (hrow i (by omega) z2)
        refine x_iload_n (pc := 57) d_Tai_fill_57 rfl ?_
        refine x_if_le (pc := 58) (tgt := 123) d_Tai_fill_58 (by decide) (fun h => absurd h (nI_nle hpp (by omega))) (fun h58 => ?_)
        refine x_iconst (pc := 61) (v := 1) d_Tai_fill_61 (by decide) ?_
        refine y_ist4 (pc := 62) d_Tai_fill_62 ?_
        exact hI 0 (Nat.zero_le _) A1 hA1 htab (fun i z => absurd z (Nat.not_lt_zero i))
  refine CU.of (lv := [.ref 16, .int (nI F), .int (nI (r + 1)), zu, zu]) k_Tai_fill.1 rfl (by decide) rfl rfl (Nat.le_of_ble_eq_true rfl) ?_
  refine x_aload_n (pc := 0) d_Tai_fill_0 rfl ?_
  refine x_get (pc := 1) (j := 5) d_Tai_fill_1 f_Tai_19 rfl rfl (Nat.le_of_ble_eq_true rfl) rfl rfl rfl ?_
  refine x_aload_n (pc := 4) d_Tai_fill_4 rfl ?_
  refine x_get (pc := 5) (j := 0) d_Tai_fill_5 f_Tai_29 rfl rfl (Nat.le_of_ble_eq_true rfl) rfl rfl rfl ?_
  refine x_get (pc := 8) (j := 8) d_Tai_fill_8 f_Tai_41 rfl rfl (Nat.le_of_ble_eq_true rfl) rfl rfl rfl ?_
  refine x_icmp_ne (pc := 11) (tgt := 31) d_Tai_fill_11 (by decide) (fun h11 => ?_) (fun h11 => ?_)
  · refine x_aload_n (pc := 31) d_Tai_fill_31 rfl ?_
    refine x_aload_n (pc := 32) d_Tai_fill_32 rfl ?_
    refine x_get (pc := 33) (j := 0) d_Tai_fill_33 f_Tai_29 rfl rfl (Nat.le_of_ble_eq_true rfl) rfl rfl rfl ?_
    refine x_get (pc := 36) (j := 8) d_Tai_fill_36 f_Tai_41 rfl rfl (Nat.le_of_ble_eq_true rfl) rfl rfl rfl ?_
    refine y_put (pc := 39) (j := 5) d_Tai_fill_39 f_Tai_19 rfl rfl (Nat.le_of_ble_eq_true rfl) rfl (Nat.le_of_ble_eq_true rfl) rfl rfl (fun _ => rfl) ?_
    refine x_aload_n (pc := 42) d_Tai_fill_42 rfl ?_
    refine x_iload_n (pc := 43) d_Tai_fill_43 rfl ?_
    refine y_put (pc := 44) (j := 6) d_Tai_fill_44 f_Tai_23 rfl rfl (Nat.le_of_ble_eq_true rfl) rfl (Nat.le_of_ble_eq_true rfl) rfl rfl (fun _ => rfl) ?_
    refine x_aload_n (pc := 47) d_Tai_fill_47 rfl ?_
    refine x_iload_n (pc := 48) d_Tai_fill_48 rfl ?_
    refine y_put (pc := 49) (j := 7) d_Tai_fill_49 f_Tai_26 rfl rfl (Nat.le_of_ble_eq_true rfl) rfl (Nat.le_of_ble_eq_true rfl) rfl rfl (fun _ => rfl) ?_
    refine x_aload_n (pc := 52) d_Tai_fill_52 rfl ?_
    refine x_get (pc := 53) (j := 6) d_Tai_fill_53 f_Tai_23 rfl rfl (Nat.le_of_ble_eq_true rfl) rfl rfl rfl ?_
    refine y_ist3 (pc := 56) d_Tai_fill_56 ?_
    exact hL F (Nat.and_self F) A _ rfl (fun _ _ => rfl) (fun S i z1 z2 z3 z4 => by have := sub_le z1; omega)
  · refine x_aload_n (pc := 14) d_Tai_fill_14 rfl ?_
    refine x_get (pc := 15) (j := 6) d_Tai_fill_15 f_Tai_23 rfl rfl (Nat.le_of_ble_eq_true rfl) rfl rfl rfl ?_
    refine x_iload_n (pc := 18) d_Tai_fill_18 rfl ?_
    refine x_icmp_ne (pc := 19) (tgt := 31) d_Tai_fill_19 (by decide) (fun h19 => ?_) (fun h19 => ?_)
    · refine x_aload_n (pc := 31) d_Tai_fill_31 rfl ?_
      refine x_aload_n (pc := 32) d_Tai_fill_32 rfl ?_
      refine x_get (pc := 33) (j := 0) d_Tai_fill_33 f_Tai_29 rfl rfl (Nat.le_of_ble_eq_true rfl) rfl rfl rfl ?_
      refine x_get (pc := 36) (j := 8) d_Tai_fill_36 f_Tai_41 rfl rfl (Nat.le_of_ble_eq_true rfl) rfl rfl rfl ?_
      refine y_put (pc := 39) (j := 5) d_Tai_fill_39 f_Tai_19 rfl rfl (Nat.le_of_ble_eq_true rfl) rfl (Nat.le_of_ble_eq_true rfl) rfl rfl (fun _ => rfl) ?_
      refine x_aload_n (pc := 42) d_Tai_fill_42 rfl ?_
      refine x_iload_n (pc := 43) d_Tai_fill_43 rfl ?_
      refine y_put (pc := 44) (j := 6) d_Tai_fill_44 f_Tai_23 rfl rfl (Nat.le_of_ble_eq_true rfl) rfl (Nat.le_of_ble_eq_true rfl) rfl rfl (fun _ => rfl) ?_
      refine x_aload_n (pc := 47) d_Tai_fill_47 rfl ?_
      refine x_iload_n (pc := 48) d_Tai_fill_48 rfl ?_
      refine y_put (pc := 49) (j := 7) d_Tai_fill_49 f_Tai_26 rfl rfl (Nat.le_of_ble_eq_true rfl) rfl (Nat.le_of_ble_eq_true rfl) rfl rfl (fun _ => rfl) ?_
      refine x_aload_n (pc := 52) d_Tai_fill_52 rfl ?_
      refine x_get (pc := 53) (j := 6) d_Tai_fill_53 f_Tai_23 rfl rfl (Nat.le_of_ble_eq_true rfl) rfl rfl rfl ?_
      refine y_ist3 (pc := 56) d_Tai_fill_56 ?_
      exact hL F (Nat.and_self F) A _ rfl (fun _ _ => rfl) (fun S i z1 z2 z3 z4 => by have := sub_le z1; omega)
    · refine x_aload_n (pc := 22) d_Tai_fill_22 rfl ?_
      refine x_get (pc := 23) (j := 7) d_Tai_fill_23 f_Tai_26 rfl rfl (Nat.le_of_ble_eq_true rfl) rfl rfl rfl ?_
      refine x_iload_n (pc := 26) d_Tai_fill_26 rfl ?_
      refine x_icmp_ne (pc := 27) (tgt := 31) d_Tai_fill_27 (by decide) (fun h27 => ?_) (fun h27 => ?_)
      · refine x_aload_n (pc := 31) d_Tai_fill_31 rfl ?_
        refine x_aload_n (pc := 32) d_Tai_fill_32 rfl ?_
        refine x_get (pc := 33) (j := 0) d_Tai_fill_33 f_Tai_29 rfl rfl (Nat.le_of_ble_eq_true rfl) rfl rfl rfl ?_
        refine x_get (pc := 36) (j := 8) d_Tai_fill_36 f_Tai_41 rfl rfl (Nat.le_of_ble_eq_true rfl) rfl rfl rfl ?_
        refine y_put (pc := 39) (j := 5) d_Tai_fill_39 f_Tai_19 rfl rfl (Nat.le_of_ble_eq_true rfl) rfl (Nat.le_of_ble_eq_true rfl) rfl rfl (fun _ => rfl) ?_
        refine x_aload_n (pc := 42) d_Tai_fill_42 rfl ?_
        refine x_iload_n (pc := 43) d_Tai_fill_43 rfl ?_
        refine y_put (pc := 44) (j := 6) d_Tai_fill_44 f_Tai_23 rfl rfl (Nat.le_of_ble_eq_true rfl) rfl (Nat.le_of_ble_eq_true rfl) rfl rfl (fun _ => rfl) ?_
        refine x_aload_n (pc := 47) d_Tai_fill_47 rfl ?_
        refine x_iload_n (pc := 48) d_Tai_fill_48 rfl ?_
        refine y_put (pc := 49) (j := 7) d_Tai_fill_49 f_Tai_26 rfl rfl (Nat.le_of_ble_eq_true rfl) rfl (Nat.le_of_ble_eq_true rfl) rfl rfl (fun _ => rfl) ?_
        refine x_aload_n (pc := 52) d_Tai_fill_52 rfl ?_
        refine x_get (pc := 53) (j := 6) d_Tai_fill_53 f_Tai_23 rfl rfl (Nat.le_of_ble_eq_true rfl) rfl rfl rfl ?_
        refine y_ist3 (pc := 56) d_Tai_fill_56 ?_
        exact hL F (Nat.and_self F) A _ rfl (fun _ _ => rfl) (fun S i z1 z2 z3 z4 => by have := sub_le z1; omega)
      · refine y_vret (pc := 30) d_Tai_fill_30 rfl ?_
        obtain ⟨F', r', f1, f2, f3, f4, f5⟩ := hta h11
        obtain rfl : F' = F := (nI_eq (by omega) (by omega)).mp (f1.symm.trans h19)
        obtain rfl : r' = r := by have := (nI_eq (by omega) (by omega)).mp (f2.symm.trans h27); omega
        exact ⟨fun _ _ _ => rfl, fun _ _ => rfl, h11, ⟨h19, h27⟩, f5⟩
