def wQ (W : zW) (T : Nat → Option (Int × Nat)) (S k : Nat) : Option (Int × Nat) := zMS.s (fun k => sm (T (S * 9 + (k + 1))) (zbs W (k + 1))) k
theorem wQ_s (W : zW) (T : Nat → Option (Int × Nat)) (S k : Nat) : wQ W T S (k + 1) = sa (wQ W T S k) (sm (T (S * 9 + (k + 1))) (zbs W (k + 1))) := rfl
theorem zXt_supp {W : zW} (T : Nat → Option (Int × Nat)) (S a : Nat) {i : Nat} (hi : i % 9 = 0 ∨ W.n - 1 < i % 9) (h9 : W.n ≤ 9) : ∀ k, k ≤ W.n - 1 → zXt zMS (zfo W) (zar W) T S a k i = T i
  | 0, _ => rfl
  | k + 1, hk => by
    rw [zXt]
    split
    · unfold zX1
      rw [if_neg (by omega)]; exact zXt_supp T S a hi h9 k (by omega)
    · exact zXt_supp T S a hi h9 k (by omega)
theorem wT_supp {W : zW} (h9 : W.n ≤ 9) {i : Nat} (h0 : ¬ i = 0) (hi : i % 9 = 0 ∨ W.n - 1 < i % 9) : ∀ j, wT W j i = none
  | 0 => if_neg h0
  | j + 1 => (zXt_supp (wT W j) (j / 9) (j % 9) hi h9 (W.n - 1) (Nat.le_refl _)).trans (wT_supp h9 h0 hi j)
theorem wT_s {W : zW} (s a : Nat) (ha : a < 9) : wT W (s * 9 + a + 1) = zXt zMS (zfo W) (zar W) (wT W (s * 9 + a)) s a (W.n - 1) := by
  show zXt zMS (zfo W) (zar W) (wT W (s * 9 + a)) ((s * 9 + a) / 9) ((s * 9 + a) % 9) (W.n - 1) = _
  rw [show (s * 9 + a) / 9 = s by omega, show (s * 9 + a) % 9 = a by omega]
theorem wT_skip {W : zW} (hW : zWok W) (s : Nat) {a : Nat} (ha : W.n ≤ a) : ∀ d, a + d ≤ 9 → wT W (s * 9 + a + d) = wT W (s * 9 + a)
  | 0, _ => rfl
  | d + 1, h => by
    rw [show s * 9 + a + (d + 1) = s * 9 + (a + d) + 1 by omega, wT_s s (a + d) (by omega), zXt_n2 _ _ _ (fun b => ?_), show s * 9 + (a + d) = s * 9 + a + d by omega, wT_skip hW s ha d (by omega)]
    cases hq : W.ar (a + d) b with
    | none => rfl
    | some x => have := hW.ar _ _ _ hq; omega
theorem wR_Q {W : zW} (h9 : W.n ≤ 9) {S : Nat} (h0 : ¬ S = 0) (hS : S < 2 ^ (W.n - 1)) : wR W S = wQ W (wT W (2 ^ (W.n - 1) * 9)) S (W.n - 1) := by
  unfold wR
  rw [zRv_T zMS_SR (by omega) (zfo_Fo W) _ _ h0 hS, show (9 : Nat) = 8 + 1 from rfl, zs_shift zMS_SR]
  have e1 := zs_ext zMS_SR (f := fun i => sm (wT W (2 ^ (W.n - 1) * (8 + 1)) (S * (8 + 1) + (i + 1))) (zbs W (i + 1))) (k := W.n - 1) (8 - (W.n - 1)) (fun i h1 h2 => by
    show sm (wT W (2 ^ (W.n - 1) * 9) (S * 9 + (i + 1))) (zbs W (i + 1)) = none
    rw [wT_supp h9 (by omega) (by omega), sm_nl])
  rw [show W.n - 1 + (8 - (W.n - 1)) = 8 by omega] at e1
  refine Eq.trans ?_ e1
  refine Eq.trans ?_ (sa_nl _)
  rw [zMS_p]
  congr 1
  show sm (wT W (2 ^ (W.n - 1) * 9) (S * 9 + 0)) _ = none
  rw [wT_supp h9 (by omega) (by omega), sm_nl]
theorem wQ_B {W : zW} (hW : zWok W) {T : Nat → Option (Int × Nat)} (hT : ∀ i, bB 8000 (T i)) (S k : Nat) : bB 9000 (wQ W T S k) := bB_s (fun i _ => bB_m (hT _) (zbs_B hW _))
def pfr (A A1 : zV) : Prop := ∀ k, ¬ (7 ≤ k ∧ k ≤ 12) → A1 k = A k
theorem pfr.C {W : zW} {V A A1 : zV} (h : pfr A A1) (hC : WC W V A) : WC W V A1 := hC.same (fun _ => rfl) (fun k hk => h k (by omega))
theorem pfr.up {A A1 : zV} (h : pfr A A1) {k : Nat} (hk : 7 ≤ k ∧ k ≤ 12) (f : Nat → Int32) : pfr A (za A1 k f) := fun j hj => by
  rw [za_eq, if_neg (fun z => hj (by rw [z]; exact hk)), h j hj]
set_option maxRecDepth 100000 in
set_option maxHeartbeats 4000000 in
theorem c_Pat_closeRound {W : zW} (V A : zV) (hW : zWok W) (hC : WC W V A) (T : Nat → Option (Int × Nat)) (S : Nat) (hS2 : S < 2 ^ (W.n - 1)) (hTB : ∀ i, bB 8000 (T i)) (ht : tb2 (2 ^ (W.n - 1) * 9) T (A 9) (A 10)) : CU Y_Pat_closeRound 1 [.ref 6, .int (nI S)] V A (fun V' A' => V' = V ∧ A' = za (za A 11 (upd (A 11) S (zEc (sc (wQ W T S (W.n - 1)))))) 12 (upd (A 12) S (nI (sw (wQ W T S (W.n - 1)))))) := by
  have h9 := hW.h9
  have hp := pw_le h9
  have cs : (nI S).toNatClampNeg = S := nI_clamp (by omega)
  have hL : ∀ k, k ≤ W.n - 1 → ∀ q : Value, q.category = 1 → X Y_Pat_closeRound (zrm 1) (0, fun _ => 0) (zFu 1 (fun V' A' => V' = V ∧ A' = za (za A 11 (upd (A 11) S (zEc (sc (wQ W T S (W.n - 1)))))) 12 (upd (A 12) S (nI (sw (wQ W T S (W.n - 1))))))) 8 [.ref 6, .int (nI S), .int (zEc (sc (wQ W T S k))), .int (nI (sw (wQ W T S k))), .int (nI (k + 1)), q] [] (cells V A) 0 0 := by
    refine z_down (fun q hq => ?_) (fun k hk ih q hq => ?_)
    · refine x_iload (pc := 8) d_Pat_closeRound_8 rfl ?_
      refine x_aload_n (pc := 10) d_Pat_closeRound_10 rfl ?_
      refine x_get (pc := 11) (j := 0) d_Pat_closeRound_11 f_Pat_30 rfl rfl (Nat.le_of_ble_eq_true rfl) rfl rfl rfl ?_
      refine x_get (pc := 14) (j := 4) d_Pat_closeRound_14 f_Pat_50 rfl rfl (Nat.le_of_ble_eq_true rfl) rfl rfl rfl ?_
      rw [hC.n]
      refine x_icmp_ge (pc := 17) (tgt := 105) d_Pat_closeRound_17 (by decide) (fun h17 => ?_) (fun h => absurd (nI_le (by omega) (by omega)) h)
      refine x_aload_n (pc := 105) d_Pat_closeRound_105 rfl ?_
      refine x_get (pc := 106) (j := 5) d_Pat_closeRound_106 f_Pat_24 rfl rfl (Nat.le_of_ble_eq_true rfl) rfl rfl rfl ?_
      refine x_iload_n (pc := 109) d_Pat_closeRound_109 rfl ?_
      refine x_iload_n (pc := 110) d_Pat_closeRound_110 rfl ?_
      refine y_iast (pc := 111) d_Pat_closeRound_111 rfl (fun _ => rfl) (vp_in_nI (by omega) (by decide)) ?_
      refine x_aload_n (pc := 112) d_Pat_closeRound_112 rfl ?_
      refine x_get (pc := 113) (j := 6) d_Pat_closeRound_113 f_Pat_27 rfl rfl (Nat.le_of_ble_eq_true rfl) rfl rfl rfl ?_
      refine x_iload_n (pc := 116) d_Pat_closeRound_116 rfl ?_
      refine x_iload_n (pc := 117) d_Pat_closeRound_117 rfl ?_
      refine y_iast (pc := 118) d_Pat_closeRound_118 rfl (fun _ => rfl) (vp_in_nI (by omega) (by decide)) ?_
      refine y_vret (pc := 119) d_Pat_closeRound_119 rfl ?_
      rw [cs]
      exact ⟨rfl, rfl⟩
    · have ix1 : nI S * 9 + nI (k + 1) = nI (S * 9 + (k + 1)) := by rw [show (9 : Int32) = nI 9 from rfl, pk_mul, nI_add]
      have c1 : (nI (S * 9 + (k + 1))).toNatClampNeg = S * 9 + (k + 1) := nI_clamp (by omega)
      have hti := ht (S * 9 + (k + 1)) (by omega)
      have hTi := hTB (S * 9 + (k + 1))
      have hst := wQ_s W T S k
      have hBQ := wQ_B hW hTB S k
      have hBx : bB 9000 (sm (T (S * 9 + (k + 1))) (zbs W (k + 1))) := bB_m hTi (zbs_B hW _)
      have hsx : oad (sc (T (S * 9 + (k + 1)))) (zbk W (k + 1)) = sc (sm (T (S * 9 + (k + 1))) (zbs W (k + 1))) := by rw [sc_sm]; unfold zbs; rw [sc_se]
      have hwx : ¬ sc (sm (T (S * 9 + (k + 1))) (zbs W (k + 1))) = none → sw (T (S * 9 + (k + 1))) = sw (sm (T (S * 9 + (k + 1))) (zbs W (k + 1))) := by
        intro z
        rw [sw_sm]
        unfold zbs
        cases hb : zbk W (k + 1) with
        | none => rw [← hsx, hb, oad_nr] at z; exact absurd rfl z
        | some y => exact (Nat.mul_one _).symm
      generalize sm (T (S * 9 + (k + 1))) (zbs W (k + 1)) = x at hst hBx hsx hwx
      generalize wQ W T S k = P at hst hBQ ih ⊢
      refine x_iload (pc := 8) d_Pat_closeRound_8 rfl ?_
      refine x_aload_n (pc := 10) d_Pat_closeRound_10 rfl ?_
      refine x_get (pc := 11) (j := 0) d_Pat_closeRound_11 f_Pat_30 rfl rfl (Nat.le_of_ble_eq_true rfl) rfl rfl rfl ?_
      refine x_get (pc := 14) (j := 4) d_Pat_closeRound_14 f_Pat_50 rfl rfl (Nat.le_of_ble_eq_true rfl) rfl rfl rfl ?_
      rw [hC.n]
      refine x_icmp_ge (pc := 17) (tgt := 105) d_Pat_closeRound_17 (by decide) (fun h => absurd h (nI_ge (by omega) (by omega))) (fun h17 => ?_)
      refine x_aload_n (pc := 20) d_Pat_closeRound_20 rfl ?_
      refine x_get (pc := 21) (j := 3) d_Pat_closeRound_21 f_Pat_18 rfl rfl (Nat.le_of_ble_eq_true rfl) rfl rfl rfl ?_
      refine x_iload_n (pc := 24) d_Pat_closeRound_24 rfl ?_
      refine x_bipush (pc := 25) (v := 9) d_Pat_closeRound_25 (by decide) ?_
      refine x_imul (pc := 27) d_Pat_closeRound_27 ?_
      refine x_iload (pc := 28) d_Pat_closeRound_28 rfl ?_
      refine x_iadd (pc := 30) d_Pat_closeRound_30 ?_
      refine x_iald (pc := 31) d_Pat_closeRound_31 rfl (by rw [ix1]; exact vp_in_nI (by omega) (by decide)) ?_
      rw [ix1, c1, hti.1]
      refine x_aload_n (pc := 32) d_Pat_closeRound_32 rfl ?_
      refine x_get (pc := 33) (j := 0) d_Pat_closeRound_33 f_Pat_30 rfl rfl (Nat.le_of_ble_eq_true rfl) rfl rfl rfl ?_
      refine x_iload (pc := 36) d_Pat_closeRound_36 rfl ?_
      refine y_fV (pc := 38) (w_costBack _ _ (k + 1) hC (by omega)) k_Net_costBack d_Pat_closeRound_38 m_Pat_78 (by decide) rfl rfl rfl rfl p_Net_costBack (K := ?_)
      refine y_fN (pc := 41) (w_sum _ _ (oB_mono hTi (by omega)) (oB_mono (hW.bkB _) (by omega))) k_CW_sum d_Pat_closeRound_41 n_Pat_81 (by decide) rfl p_CW_sum (K := ?_)
      rw [hsx]
      refine y_ist5 (pc := 44) d_Pat_closeRound_44 ?_
      refine x_iload (pc := 46) d_Pat_closeRound_46 rfl ?_
      refine x_iload_n (pc := 48) d_Pat_closeRound_48 rfl ?_
      refine x_icmp_ge (pc := 49) (tgt := 71) d_Pat_closeRound_49 (by decide) (fun h49 => ?_) (fun h49 => ?_)
      · refine x_iload (pc := 71) d_Pat_closeRound_71 rfl ?_
        refine x_iload_n (pc := 73) d_Pat_closeRound_73 rfl ?_
        refine x_icmp_ne (pc := 74) (tgt := 99) d_Pat_closeRound_74 (by decide) (fun h74 => ?_) (fun h74 => ?_)
        · refine y_inc4 (pc := 99) (v := 1) d_Pat_closeRound_99 (by decide) ?_
          refine x_goto (pc := 102) (tgt := 8) d_Pat_closeRound_102 (by decide) ?_
          rw [show nI (k + 1) + 1 = nI (k + 1 + 1) from (nI_succ (k + 1)).symm]
          have hnl : ¬ olt (sc x) (sc P) := fun z => absurd h49 (Int32.not_le.mpr ((zEc_lt (b := 9000) (by omega) hBx hBQ).mpr z))
          have hgt := olt_tri hnl (fun z => h74 (congrArg zEc z))
          have e1 : sc (sa P x) = sc P := by rw [sc_sa, omin_lt hgt]
          have e2 : sw (sa P x) = sw P := by rw [sw_sa, if_neg (fun z => hnl ((oltb_iff _ _).mp z)), if_pos ((oltb_iff _ _).mpr hgt)]
          rw [hst, e1, e2] at ih
          exact ih _ rfl
        · refine x_iload (pc := 77) d_Pat_closeRound_77 rfl ?_
          refine x_ldc (pc := 79) (v := 1000000000) d_Pat_closeRound_79 i_Pat_54 ?_
          refine x_icmp_eq (pc := 81) (tgt := 99) d_Pat_closeRound_81 (by decide) (fun h81 => ?_) (fun h81 => ?_)
          · refine y_inc4 (pc := 99) (v := 1) d_Pat_closeRound_99 (by decide) ?_
            refine x_goto (pc := 102) (tgt := 8) d_Pat_closeRound_102 (by decide) ?_
            rw [show nI (k + 1) + 1 = nI (k + 1 + 1) from (nI_succ (k + 1)).symm]
            have heq : sc x = sc P := zEc_inj (b := 9000) (by omega) hBx hBQ h74
            have hx0 : sc x = none := (zEc_no (b := 9000) (by omega) hBx).mp h81
            have hP0 : P = none := sc_n.mp (heq.symm.trans hx0)
            have hx1 : x = none := sc_n.mp hx0
            rw [hst, hx1, sa_nr] at ih
            exact ih _ rfl
          · refine x_iload_n (pc := 84) d_Pat_closeRound_84 rfl ?_
            refine x_aload_n (pc := 85) d_Pat_closeRound_85 rfl ?_
            refine x_get (pc := 86) (j := 4) d_Pat_closeRound_86 f_Pat_21 rfl rfl (Nat.le_of_ble_eq_true rfl) rfl rfl rfl ?_
            refine x_iload_n (pc := 89) d_Pat_closeRound_89 rfl ?_
            refine x_bipush (pc := 90) (v := 9) d_Pat_closeRound_90 (by decide) ?_
            refine x_imul (pc := 92) d_Pat_closeRound_92 ?_
            refine x_iload (pc := 93) d_Pat_closeRound_93 rfl ?_
            refine x_iadd (pc := 95) d_Pat_closeRound_95 ?_
            refine x_iald (pc := 96) d_Pat_closeRound_96 rfl (by rw [ix1]; exact vp_in_nI (by omega) (by decide)) ?_
            refine x_iadd (pc := 97) d_Pat_closeRound_97 ?_
            refine y_ist3 (pc := 98) d_Pat_closeRound_98 ?_
            refine y_inc4 (pc := 99) (v := 1) d_Pat_closeRound_99 (by decide) ?_
            refine x_goto (pc := 102) (tgt := 8) d_Pat_closeRound_102 (by decide) ?_
            rw [show nI (k + 1) + 1 = nI (k + 1 + 1) from (nI_succ (k + 1)).symm]
            have hnl : ¬ olt (sc x) (sc P) := fun z => absurd h49 (Int32.not_le.mpr ((zEc_lt (b := 9000) (by omega) hBx hBQ).mpr z))
            have heq : sc x = sc P := zEc_inj (b := 9000) (by omega) hBx hBQ h74
            have hnn : ¬ sc x = none := fun z => h81 (by rw [z]; rfl)
            rw [ix1, c1, hti.2, hwx hnn, nI_add]
            have e1 : sc (sa P x) = sc P := by rw [sc_sa, heq, omin_eq]
            have e2 : sw (sa P x) = sw P + sw x := by rw [sw_sa, if_neg (fun z => hnl ((oltb_iff _ _).mp z)), if_neg (fun z => olt_irr (heq ▸ (oltb_iff _ _).mp z))]
            rw [hst, e1, e2] at ih
            exact ih _ rfl
      · refine x_iload (pc := 52) d_Pat_closeRound_52 rfl ?_
        refine y_ist2 (pc := 54) d_Pat_closeRound_54 ?_
        refine x_aload_n (pc := 55) d_Pat_closeRound_55 rfl ?_
        refine x_get (pc := 56) (j := 4) d_Pat_closeRound_56 f_Pat_21 rfl rfl (Nat.le_of_ble_eq_true rfl) rfl rfl rfl ?_
        refine x_iload_n (pc := 59) d_Pat_closeRound_59 rfl ?_
        refine x_bipush (pc := 60) (v := 9) d_Pat_closeRound_60 (by decide) ?_
        refine x_imul (pc := 62) d_Pat_closeRound_62 ?_
        refine x_iload (pc := 63) d_Pat_closeRound_63 rfl ?_
        refine x_iadd (pc := 65) d_Pat_closeRound_65 ?_
        refine x_iald (pc := 66) d_Pat_closeRound_66 rfl (by rw [ix1]; exact vp_in_nI (by omega) (by decide)) ?_
        refine y_ist3 (pc := 67) d_Pat_closeRound_67 ?_
        refine x_goto (pc := 68) (tgt := 99) d_Pat_closeRound_68 (by decide) ?_
        refine y_inc4 (pc := 99) (v := 1) d_Pat_closeRound_99 (by decide) ?_
        refine x_goto (pc := 102) (tgt := 8) d_Pat_closeRound_102 (by decide) ?_
        rw [show nI (k + 1) + 1 = nI (k + 1 + 1) from (nI_succ (k + 1)).symm]
        have hlt := (zEc_lt (b := 9000) (by omega) hBx hBQ).mp (Int32.not_le.mp h49)
        have hnn : ¬ sc x = none := fun z => by rw [z] at hlt; exact hlt
        rw [ix1, c1, hti.2, hwx hnn]
        have e1 : sc (sa P x) = sc x := by rw [sc_sa, omin_gt hlt]
        have e2 : sw (sa P x) = sw x := by rw [sw_sa, if_pos ((oltb_iff _ _).mpr hlt)]
        rw [hst, e1, e2] at ih
        exact ih _ rfl
  refine CU.of (lv := [.ref 6, .int (nI S), zu, zu, zu, zu]) k_Pat_closeRound.1 rfl (by decide) rfl rfl (Nat.le_of_ble_eq_true rfl) ?_
  refine x_ldc (pc := 0) (v := 1000000000) d_Pat_closeRound_0 i_Pat_54 ?_
  refine y_ist2 (pc := 2) d_Pat_closeRound_2 ?_
  refine x_iconst (pc := 3) (v := 0) d_Pat_closeRound_3 (by decide) ?_
  refine y_ist3 (pc := 4) d_Pat_closeRound_4 ?_
  refine x_iconst (pc := 5) (v := 1) d_Pat_closeRound_5 (by decide) ?_
  refine y_ist4 (pc := 6) d_Pat_closeRound_6 ?_
  exact hL 0 (Nat.zero_le _) _ rfl
set_option maxRecDepth 100000 in
set_option maxHeartbeats 4000000 in
theorem c_Pat_compute {W : zW} (V A : zV) (hW : zWok W) (hC : WC W V A) (h70 : A 7 0 = 0) : CU Y_Pat_compute 2 [.ref 6] V A (fun V' A' => V' = V ∧ pfr A A' ∧ A' 7 0 = 0 ∧ (∀ S, S < 2 ^ (W.n - 1) → A' 8 S = nI (zfS W S (W.n - 1))) ∧ tb2 (2 ^ (W.n - 1) * 9) (wT W (2 ^ (W.n - 1) * 9)) (A' 9) (A' 10) ∧ ∀ S, 1 ≤ S → S < 2 ^ (W.n - 1) → A' 11 S = zEc (sc (wR W S)) ∧ A' 12 S = nI (sw (wR W S))) := by
  have h9 := hW.h9
  have hp := pw_le h9
  have h0 : 0 < 2 ^ (W.n - 1) := Nat.pos_of_ne_zero (by simp)
  have hR : ∀ s, s ≤ 2 ^ (W.n - 1) → 1 ≤ s → ∀ (A1 : zV) (q : Value), q.category = 1 → pfr A A1 → A1 7 0 = 0 → (∀ S, S < 2 ^ (W.n - 1) → A1 8 S = nI (zfS W S (W.n - 1))) → tb2 (2 ^ (W.n - 1) * 9) (wT W (2 ^ (W.n - 1) * 9)) (A1 9) (A1 10) → (∀ S, 1 ≤ S → S < s → A1 11 S = zEc (sc (wR W S)) ∧ A1 12 S = nI (sw (wR W S))) → X Y_Pat_compute (zrm 2) (0, fun _ => 0) (zFu 2 (fun V' A' => V' = V ∧ pfr A A' ∧ A' 7 0 = 0 ∧ (∀ S, S < 2 ^ (W.n - 1) → A' 8 S = nI (zfS W S (W.n - 1))) ∧ tb2 (2 ^ (W.n - 1) * 9) (wT W (2 ^ (W.n - 1) * 9)) (A' 9) (A' 10) ∧ ∀ S, 1 ≤ S → S < 2 ^ (W.n - 1) → A' 11 S = zEc (sc (wR W S)) ∧ A' 12 S = nI (sw (wR W S)))) 83 [.ref 6, .int (nI (2 ^ (W.n - 1) - 1)), .int (nI s), q] [] (cells V A1) 0 0 := by
    refine z_down (fun hs1 A1 q hq hF h7 h8 ht hr => ?_) (fun s hs ih hs1 A1 q hq hF h7 h8 ht hr => ?_)
    · refine x_iload_n (pc := 83) d_Pat_compute_83 rfl ?_
      refine x_iload_n (pc := 84) d_Pat_compute_84 rfl ?_
      refine x_icmp_gt (pc := 85) (tgt := 99) d_Pat_compute_85 (by decide) (fun h85 => ?_) (fun h => absurd (nI_lt (by omega) (by omega)) h)
      refine y_vret (pc := 99) d_Pat_compute_99 rfl ?_
      exact ⟨rfl, hF, h7, h8, ht, hr⟩
    · refine x_iload_n (pc := 83) d_Pat_compute_83 rfl ?_
      refine x_iload_n (pc := 84) d_Pat_compute_84 rfl ?_
      refine x_icmp_gt (pc := 85) (tgt := 99) d_Pat_compute_85 (by decide) (fun h => absurd h (nI_nlt (by omega) (by omega))) (fun h85 => ?_)
      refine x_aload_n (pc := 88) d_Pat_compute_88 rfl ?_
      refine x_iload_n (pc := 89) d_Pat_compute_89 rfl ?_
      refine y_callVu (pc := 90) (c_Pat_closeRound _ _ hW (hF.C hC) _ s (by omega) (wT_B hW _) ht) k_Pat_closeRound d_Pat_compute_90 m_Pat_59 (by decide) rfl rfl rfl rfl p_Pat_closeRound (K := fun V' A' hq' => ?_)
      obtain ⟨rfl, rfl⟩ := hq'
      refine y_inc2 (pc := 93) (v := 1) d_Pat_compute_93 (by decide) ?_
      refine x_goto (pc := 96) (tgt := 83) d_Pat_compute_96 (by decide) ?_
      rw [show nI s + 1 = nI (s + 1) from (nI_succ s).symm]
      refine ih (by omega) _ _ hq ((hF.up (by omega) _).up (by omega) _) h7 h8 ht (fun S z1 z2 => ?_)
      have eR := wR_Q h9 (S := s) (by omega) (by omega)
      by_cases e : S = s
      · rw [e, eR]; exact ⟨upd_at _ _ _, upd_at _ _ _⟩
      · have z := hr S z1 (by omega)
        exact ⟨(upd_ne _ _ e).trans z.1, (upd_ne _ _ e).trans z.2⟩
  have hS : ∀ s, s ≤ 2 ^ (W.n - 1) → ∀ (A1 : zV) (q : Value), q.category = 1 → pfr A A1 → (∀ S, S < 2 ^ (W.n - 1) → A1 7 S = nI (zLda W S)) → (∀ S, S < s → A1 8 S = nI (zfS W S (W.n - 1))) → tb2 (2 ^ (W.n - 1) * 9) (wT W (s * 9)) (A1 9) (A1 10) → X Y_Pat_compute (zrm 2) (0, fun _ => 0) (zFu 2 (fun V' A' => V' = V ∧ pfr A A' ∧ A' 7 0 = 0 ∧ (∀ S, S < 2 ^ (W.n - 1) → A' 8 S = nI (zfS W S (W.n - 1))) ∧ tb2 (2 ^ (W.n - 1) * 9) (wT W (2 ^ (W.n - 1) * 9)) (A' 9) (A' 10) ∧ ∀ S, 1 ≤ S → S < 2 ^ (W.n - 1) → A' 11 S = zEc (sc (wR W S)) ∧ A' 12 S = nI (sw (wR W S)))) 18 [.ref 6, .int (nI (2 ^ (W.n - 1) - 1)), .int (nI s), q] [] (cells V A1) 0 0 := by
    refine z_down (fun A1 q hq hF h7 h8 ht => ?_) (fun s hs ih A1 q hq hF h7 h8 ht => ?_)
    · refine x_iload_n (pc := 18) d_Pat_compute_18 rfl ?_
      refine x_iload_n (pc := 19) d_Pat_compute_19 rfl ?_
      refine x_icmp_gt (pc := 20) (tgt := 81) d_Pat_compute_20 (by decide) (fun h20 => ?_) (fun h => absurd (nI_lt (by omega) (by omega)) h)
      refine x_iconst (pc := 81) (v := 1) d_Pat_compute_81 (by decide) ?_
      refine y_ist2 (pc := 82) d_Pat_compute_82 ?_
      exact hR 1 (by omega) (Nat.le_refl _) A1 _ hq hF (by rw [h7 0 h0, zLda_0]; rfl) h8 ht (fun S z1 z2 => by omega)
    · have cs : (nI s).toNatClampNeg = s := nI_clamp (by omega)
      have hT : ∀ a, a ≤ W.n → ∀ (A1 : zV), pfr A A1 → (∀ S, S < 2 ^ (W.n - 1) → A1 7 S = nI (zLda W S)) → (∀ S, S < s + 1 → A1 8 S = nI (zfS W S (W.n - 1))) → tb2 (2 ^ (W.n - 1) * 9) (wT W (s * 9 + a)) (A1 9) (A1 10) → X Y_Pat_compute (zrm 2) (0, fun _ => 0) (zFu 2 (fun V' A' => V' = V ∧ pfr A A' ∧ A' 7 0 = 0 ∧ (∀ S, S < 2 ^ (W.n - 1) → A' 8 S = nI (zfS W S (W.n - 1))) ∧ tb2 (2 ^ (W.n - 1) * 9) (wT W (2 ^ (W.n - 1) * 9)) (A' 9) (A' 10) ∧ ∀ S, 1 ≤ S → S < 2 ^ (W.n - 1) → A' 11 S = zEc (sc (wR W S)) ∧ A' 12 S = nI (sw (wR W S)))) 36 [.ref 6, .int (nI (2 ^ (W.n - 1) - 1)), .int (nI s), .int (nI a)] [] (cells V A1) 0 0 := by
        refine z_down (fun A1 hF h7 h8 ht => ?_) (fun a ha iha A1 hF h7 h8 ht => ?_)
        · refine x_iload_n (pc := 36) d_Pat_compute_36 rfl ?_
          refine x_aload_n (pc := 37) d_Pat_compute_37 rfl ?_
          refine x_get (pc := 38) (j := 0) d_Pat_compute_38 f_Pat_30 rfl rfl (Nat.le_of_ble_eq_true rfl) rfl rfl rfl ?_
          refine x_get (pc := 41) (j := 4) d_Pat_compute_41 f_Pat_50 rfl rfl (Nat.le_of_ble_eq_true rfl) rfl rfl rfl ?_
          rw [(hF.C hC).n]
          refine x_icmp_ge (pc := 44) (tgt := 75) d_Pat_compute_44 (by decide) (fun h44 => ?_) (fun h => absurd (nI_le (by omega) (by omega)) h)
          refine y_inc2 (pc := 75) (v := 1) d_Pat_compute_75 (by decide) ?_
          refine x_goto (pc := 78) (tgt := 18) d_Pat_compute_78 (by decide) ?_
          rw [show nI s + 1 = nI (s + 1) from (nI_succ s).symm]
          refine ih A1 _ rfl hF h7 h8 ?_
          rw [show (s + 1) * 9 = s * 9 + W.n + (9 - W.n) by omega, wT_skip hW s (Nat.le_refl _) (9 - W.n) (by omega)]
          exact ht
        · have ix1 : nI s * 9 + nI a = nI (s * 9 + a) := by rw [show (9 : Int32) = nI 9 from rfl, pk_mul, nI_add]
          have c1 : (nI (s * 9 + a)).toNatClampNeg = s * 9 + a := nI_clamp (by omega)
          have hti := ht (s * 9 + a) (by omega)
          have hts := wT_s (W := W) s a (by omega)
          refine x_iload_n (pc := 36) d_Pat_compute_36 rfl ?_
          refine x_aload_n (pc := 37) d_Pat_compute_37 rfl ?_
          refine x_get (pc := 38) (j := 0) d_Pat_compute_38 f_Pat_30 rfl rfl (Nat.le_of_ble_eq_true rfl) rfl rfl rfl ?_
          refine x_get (pc := 41) (j := 4) d_Pat_compute_41 f_Pat_50 rfl rfl (Nat.le_of_ble_eq_true rfl) rfl rfl rfl ?_
          rw [(hF.C hC).n]
          refine x_icmp_ge (pc := 44) (tgt := 75) d_Pat_compute_44 (by decide) (fun h => absurd h (nI_ge (by omega) (by omega))) (fun h44 => ?_)
          refine x_aload_n (pc := 47) d_Pat_compute_47 rfl ?_
          refine x_get (pc := 48) (j := 3) d_Pat_compute_48 f_Pat_18 rfl rfl (Nat.le_of_ble_eq_true rfl) rfl rfl rfl ?_
          refine x_iload_n (pc := 51) d_Pat_compute_51 rfl ?_
          refine x_bipush (pc := 52) (v := 9) d_Pat_compute_52 (by decide) ?_
          refine x_imul (pc := 54) d_Pat_compute_54 ?_
          refine x_iload_n (pc := 55) d_Pat_compute_55 rfl ?_
          refine x_iadd (pc := 56) d_Pat_compute_56 ?_
          refine x_iald (pc := 57) d_Pat_compute_57 rfl (by rw [ix1]; exact vp_in_nI (by omega) (by decide)) ?_
          rw [ix1, c1, hti.1]
          refine x_ldc (pc := 58) (v := 1000000000) d_Pat_compute_58 i_Pat_54 ?_
          refine x_icmp_eq (pc := 60) (tgt := 69) d_Pat_compute_60 (by decide) (fun h60 => ?_) (fun h60 => ?_)
          · refine y_inc3 (pc := 69) (v := 1) d_Pat_compute_69 (by decide) ?_
            refine x_goto (pc := 72) (tgt := 36) d_Pat_compute_72 (by decide) ?_
            rw [show nI a + 1 = nI (a + 1) from (nI_succ a).symm]
            have hn : wT W (s * 9 + a) (s * 9 + a) = none := sc_n.mp ((zEc_no (b := 8000) (by omega) (wT_B hW _ _)).mp h60)
            rw [zXt_n1 _ _ _ hn] at hts
            exact iha A1 hF h7 h8 (by rw [show s * 9 + (a + 1) = s * 9 + a + 1 by omega, hts]; exact ht)
          · cases hTs : wT W (s * 9 + a) (s * 9 + a) with
            | none => exact absurd (by rw [hTs]; rfl) h60
            | some cw =>
              refine x_aload_n (pc := 63) d_Pat_compute_63 rfl ?_
              refine x_iload_n (pc := 64) d_Pat_compute_64 rfl ?_
              refine x_iload_n (pc := 65) d_Pat_compute_65 rfl ?_
              refine y_callVu (pc := 66) (c_Pat_extend _ _ hW (hF.C hC) _ s a hs ha cw hTs (wT_B1 hW _) (h8 s (by omega)) ht) k_Pat_extend d_Pat_compute_66 m_Pat_55 (by decide) rfl rfl rfl rfl p_Pat_extend (K := fun V' A' hq' => ?_)
              obtain ⟨rfl, f, g, rfl, hfg⟩ := hq'
              refine y_inc3 (pc := 69) (v := 1) d_Pat_compute_69 (by decide) ?_
              refine x_goto (pc := 72) (tgt := 36) d_Pat_compute_72 (by decide) ?_
              rw [show nI a + 1 = nI (a + 1) from (nI_succ a).symm]
              refine iha _ ((hF.up (by omega) _).up (by omega) _) h7 h8 ?_
              rw [show s * 9 + (a + 1) = s * 9 + a + 1 by omega, hts]
              exact hfg
      refine x_iload_n (pc := 18) d_Pat_compute_18 rfl ?_
      refine x_iload_n (pc := 19) d_Pat_compute_19 rfl ?_
      refine x_icmp_gt (pc := 20) (tgt := 81) d_Pat_compute_20 (by decide) (fun h => absurd h (nI_nlt (by omega) (by omega))) (fun h20 => ?_)
      refine x_aload_n (pc := 23) d_Pat_compute_23 rfl ?_
      refine x_get (pc := 24) (j := 2) d_Pat_compute_24 f_Pat_15 rfl rfl (Nat.le_of_ble_eq_true rfl) rfl rfl rfl ?_
      refine x_iload_n (pc := 27) d_Pat_compute_27 rfl ?_
      refine x_aload_n (pc := 28) d_Pat_compute_28 rfl ?_
      refine x_iload_n (pc := 29) d_Pat_compute_29 rfl ?_
      refine y_fV (pc := 30) (c_Pat_followersOf _ _ hW (hF.C hC) s (by omega) (h7 s hs)) k_Pat_followersOf d_Pat_compute_30 m_Pat_46 (by decide) rfl rfl rfl rfl p_Pat_followersOf (K := ?_)
      refine y_iast (pc := 33) d_Pat_compute_33 rfl (fun _ => rfl) (vp_in_nI (by omega) (by decide)) ?_
      refine x_iconst (pc := 34) (v := 0) d_Pat_compute_34 (by decide) ?_
      refine y_ist3 (pc := 35) d_Pat_compute_35 ?_
      rw [cs]
      refine hT 0 (Nat.zero_le _) _ (hF.up (by omega) _) h7 (fun S hS => ?_) ht
      by_cases e : S = s
      · rw [e]; exact upd_at _ _ _
      · exact (upd_ne _ _ e).trans (h8 S (by omega))
  refine CU.of (lv := [.ref 6, zu, zu, zu]) k_Pat_compute.1 rfl (by decide) rfl rfl (Nat.le_of_ble_eq_true rfl) ?_
  refine x_aload_n (pc := 0) d_Pat_compute_0 rfl ?_
  refine y_callVu (pc := 1) (c_Pat_addLoads _ _ hW hC h70) k_Pat_addLoads d_Pat_compute_1 m_Pat_34 (by decide) rfl rfl rfl rfl p_Pat_addLoads (K := fun V' A' hq' => ?_)
  obtain ⟨rfl, f7, rfl, hf7⟩ := hq'
  have hF0 : pfr A A := fun k hk => rfl
  have hF7 := hF0.up (k := 7) (by omega) f7
  have hC7 := hF7.C hC
  refine x_aload_n (pc := 4) d_Pat_compute_4 rfl ?_
  refine y_callVu (pc := 5) (c_Pat_clearPaths _ _ hW hC7) k_Pat_clearPaths d_Pat_compute_5 m_Pat_37 (by decide) rfl rfl rfl rfl p_Pat_clearPaths (K := fun V' A' hq' => ?_)
  obtain ⟨rfl, f9, g9, rfl, hf9⟩ := hq'
  have hF9 := (hF7.up (k := 9) (by omega) f9).up (k := 10) (by omega) g9
  have hC9 := hF9.C hC
  refine x_aload_n (pc := 8) d_Pat_compute_8 rfl ?_
  refine x_get (pc := 9) (j := 0) d_Pat_compute_9 f_Pat_30 rfl rfl (Nat.le_of_ble_eq_true rfl) rfl rfl rfl ?_
  refine y_fV (pc := 12) (w_allPlaces _ _ hW hC9) k_Net_allPlaces d_Pat_compute_12 m_Pat_40 (by decide) rfl rfl rfl rfl p_Net_allPlaces (K := ?_)
  refine y_ist1 (pc := 15) d_Pat_compute_15 ?_
  refine x_iconst (pc := 16) (v := 0) d_Pat_compute_16 (by decide) ?_
  refine y_ist2 (pc := 17) d_Pat_compute_17 ?_
  exact hS 0 (Nat.zero_le _) _ _ rfl hF9 hf7 (fun S hS => absurd hS (Nat.not_lt_zero S)) (by rw [Nat.zero_mul]; exact hf9)
