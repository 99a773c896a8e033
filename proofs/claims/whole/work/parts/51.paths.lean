theorem or_add {s k : Nat} (h : s < 2 ^ k) : s ||| 2 ^ k = s + 2 ^ k := by
  have := Nat.two_pow_add_eq_or_of_lt h 1
  rw [Nat.mul_one] at this
  rw [Nat.or_comm, ← this, Nat.add_comm]
theorem tb_lo {s k : Nat} (h : s < 2 ^ k) : s.testBit k = false := Nat.testBit_lt_two_pow h
theorem za3 (A : zV) {k l : Nat} (hkl : ¬ k = l) (f f' g : Nat → Int32) : za (za (za A k f) l g) k f' = za (za A k f') l g := by
  funext a
  rw [za_eq, za_eq, za_eq, za_eq, za_eq]
  by_cases h1 : a = k
  · rw [if_pos h1, if_neg (fun z => hkl (h1.symm.trans z)), if_pos h1]
  · rw [if_neg h1, if_neg h1, if_neg h1]
theorem zlsm_le {W : zW} (hW : zWok W) (S : Nat) : ∀ n, n ≤ 8 → zlsm W S n ≤ 100 * n
  | 0, _ => Nat.le_refl _
  | n + 1, h => by
    have := zlsm_le hW S n (by omega)
    have := hW.lo (n + 1) (by omega)
    rw [zlsm]; split <;> omega
theorem zLda_le {W : zW} (hW : zWok W) (S : Nat) : zLda W S ≤ 800 := by
  have := zlsm_le hW S (W.n - 1) (by have := hW.h9; omega)
  have := hW.h9
  unfold zLda; omega
theorem nI0 : nI 0 = 0 := rfl
set_option maxRecDepth 100000 in
set_option maxHeartbeats 4000000 in
theorem c_Pat_addLoads {W : zW} (V A : zV) (hW : zWok W) (hC : WC W V A) (h70 : A 7 0 = 0) : CU Y_Pat_addLoads 1 [.ref 6] V A (fun V' A' => V' = V ∧ ∃ f, A' = za A 7 f ∧ ∀ S, S < 2 ^ (W.n - 1) → f S = nI (zLda W S)) := by
  have h9 := hW.h9
  have hS : ∀ k, k ≤ W.n - 1 → ∀ (f : Nat → Int32) (q : Value), q.category = 1 → (∀ S, S < 2 ^ k → f S = nI (zLda W S)) → X Y_Pat_addLoads (zrm 1) (0, fun _ => 0) (zFu 1 (fun V' A' => V' = V ∧ ∃ f, A' = za A 7 f ∧ ∀ S, S < 2 ^ (W.n - 1) → f S = nI (zLda W S))) 2 [.ref 6, .int (nI (k + 1)), q] [] (cells V (za A 7 f)) 0 0 := by
    refine z_down (fun f q hq hf => ?_) (fun k hk ih f q hq hf => ?_)
    · refine x_iload_n (pc := 2) d_Pat_addLoads_2 rfl ?_
      refine x_aload_n (pc := 3) d_Pat_addLoads_3 rfl ?_
      refine x_get (pc := 4) (j := 0) d_Pat_addLoads_4 f_Pat_30 rfl rfl (Nat.le_of_ble_eq_true rfl) rfl rfl rfl ?_
      refine x_get (pc := 7) (j := 4) d_Pat_addLoads_7 f_Pat_50 rfl rfl (Nat.le_of_ble_eq_true rfl) rfl rfl rfl ?_
      rw [hC.n]
      refine x_icmp_ge (pc := 10) (tgt := 62) d_Pat_addLoads_10 (by decide) (fun h10 => ?_) (fun h => absurd (nI_le (by omega) (by omega)) h)
      refine y_vret (pc := 62) d_Pat_addLoads_62 rfl ?_
      exact ⟨rfl, f, rfl, hf⟩
    · have hk8 : k < 8 := by omega
      have hp := zz_bit hk8
      have hT : ∀ j, j ≤ 2 ^ k → ∀ (f : Nat → Int32), (∀ S, S < 2 ^ k → f S = nI (zLda W S)) → (∀ s, s < j → f (s + 2 ^ k) = nI (zLda W (s ||| 2 ^ k))) → X Y_Pat_addLoads (zrm 1) (0, fun _ => 0) (zFu 1 (fun V' A' => V' = V ∧ ∃ f, A' = za A 7 f ∧ ∀ S, S < 2 ^ (W.n - 1) → f S = nI (zLda W S))) 15 [.ref 6, .int (nI (k + 1)), .int (nI j)] [] (cells V (za A 7 f)) 0 0 := by
        refine z_down (fun f hf hg => ?_) (fun j hj ihj f hf hg => ?_)
        · refine x_iload_n (pc := 15) d_Pat_addLoads_15 rfl ?_
          refine x_iload_n (pc := 16) d_Pat_addLoads_16 rfl ?_
          refine y_fN (pc := 17) (w_bit _ _ (k + 1) (by omega) (by omega)) k_CW_bit d_Pat_addLoads_17 n_Pat_69 (by decide) rfl p_CW_bit (K := ?_)
          rw [show k + 1 - 1 = k from rfl]
          refine x_icmp_ge (pc := 20) (tgt := 56) d_Pat_addLoads_20 (by decide) (fun h20 => ?_) (fun h => absurd (nI_le (by omega) (by omega)) h)
          refine y_inc1 (pc := 56) (v := 1) d_Pat_addLoads_56 (by decide) ?_
          refine x_goto (pc := 59) (tgt := 2) d_Pat_addLoads_59 (by decide) ?_
          rw [show nI (k + 1) + 1 = nI (k + 1 + 1) from (nI_succ (k + 1)).symm]
          refine ih f _ rfl (fun S hS => ?_)
          rw [Nat.pow_succ] at hS
          rcases Nat.lt_or_ge S (2 ^ k) with z | z
          · exact hf S z
          · have e := hg (S - 2 ^ k) (by omega)
            rw [or_add (by omega), show S - 2 ^ k + 2 ^ k = S by omega] at e
            exact e
        · have cj : (nI j).toNatClampNeg = j := nI_clamp (by omega)
          have ck : (nI (k + 1)).toNatClampNeg = k + 1 := nI_clamp (by omega)
          have hlo := hC.lo (k + 1) (by omega)
          have ex : nI j ||| nI (2 ^ k) = nI (j + 2 ^ k) := by rw [nx_or, or_add hj]
          have hx8 : j + 2 ^ k < 256 := by rw [← or_add hj]; exact or256 (by omega) hp
          have cx : (nI (j + 2 ^ k)).toNatClampNeg = j + 2 ^ k := nI_clamp (by omega)
          refine x_iload_n (pc := 15) d_Pat_addLoads_15 rfl ?_
          refine x_iload_n (pc := 16) d_Pat_addLoads_16 rfl ?_
          refine y_fN (pc := 17) (w_bit _ _ (k + 1) (by omega) (by omega)) k_CW_bit d_Pat_addLoads_17 n_Pat_69 (by decide) rfl p_CW_bit (K := ?_)
          rw [show k + 1 - 1 = k from rfl]
          refine x_icmp_ge (pc := 20) (tgt := 56) d_Pat_addLoads_20 (by decide) (fun h => absurd h (nI_ge (by omega) (by omega))) (fun h20 => ?_)
          refine x_aload_n (pc := 23) d_Pat_addLoads_23 rfl ?_
          refine x_get (pc := 24) (j := 1) d_Pat_addLoads_24 f_Pat_9 rfl rfl (Nat.le_of_ble_eq_true rfl) rfl rfl rfl ?_
          refine x_iload_n (pc := 27) d_Pat_addLoads_27 rfl ?_
          refine x_iload_n (pc := 28) d_Pat_addLoads_28 rfl ?_
          refine y_fN (pc := 29) (w_bit _ _ (k + 1) (by omega) (by omega)) k_CW_bit d_Pat_addLoads_29 n_Pat_69 (by decide) rfl p_CW_bit (K := ?_)
          refine x_ior (pc := 32) d_Pat_addLoads_32 ?_
          rw [show k + 1 - 1 = k from rfl, ex]
          refine x_aload_n (pc := 33) d_Pat_addLoads_33 rfl ?_
          refine x_get (pc := 34) (j := 1) d_Pat_addLoads_34 f_Pat_9 rfl rfl (Nat.le_of_ble_eq_true rfl) rfl rfl rfl ?_
          refine x_iload_n (pc := 37) d_Pat_addLoads_37 rfl ?_
          refine x_iald (pc := 38) d_Pat_addLoads_38 rfl (vp_in_nI (by omega) (by decide)) ?_
          refine x_aload_n (pc := 39) d_Pat_addLoads_39 rfl ?_
          refine x_get (pc := 40) (j := 0) d_Pat_addLoads_40 f_Pat_30 rfl rfl (Nat.le_of_ble_eq_true rfl) rfl rfl rfl ?_
          refine x_get (pc := 43) (j := 0) d_Pat_addLoads_43 f_Pat_63 rfl rfl (Nat.le_of_ble_eq_true rfl) rfl rfl rfl ?_
          refine x_iload_n (pc := 46) d_Pat_addLoads_46 rfl ?_
          refine x_iald (pc := 47) d_Pat_addLoads_47 rfl (vp_in_nI (by omega) (by decide)) ?_
          refine x_iadd (pc := 48) d_Pat_addLoads_48 ?_
          refine y_iast (pc := 49) d_Pat_addLoads_49 rfl (fun _ => rfl) (vp_in_nI (by omega) (by decide)) ?_
          refine y_inc2 (pc := 50) (v := 1) d_Pat_addLoads_50 (by decide) ?_
          refine x_goto (pc := 53) (tgt := 15) d_Pat_addLoads_53 (by decide) ?_
          rw [za_za, cx, cj, ck, show (za A 7 f) 2 (k + 1) = nI (W.lo (k + 1)) from hlo, show (za A 7 f) 7 j = nI (zLda W j) from hf j hj, nI_add, show nI j + 1 = nI (j + 1) from (nI_succ j).symm]
          refine ihj _ (fun S hS => ?_) (fun s hs => ?_)
          · show upd f _ _ S = _
            rw [upd_ne _ _ (by omega)]; exact hf S hS
          · show upd f _ _ _ = _
            by_cases hsj : s = j
            · rw [hsj, upd_at, zLda_or (tb_lo hj) hk]
            · rw [upd_ne _ _ (by omega)]; exact hg s (by omega)
      refine x_iload_n (pc := 2) d_Pat_addLoads_2 rfl ?_
      refine x_aload_n (pc := 3) d_Pat_addLoads_3 rfl ?_
      refine x_get (pc := 4) (j := 0) d_Pat_addLoads_4 f_Pat_30 rfl rfl (Nat.le_of_ble_eq_true rfl) rfl rfl rfl ?_
      refine x_get (pc := 7) (j := 4) d_Pat_addLoads_7 f_Pat_50 rfl rfl (Nat.le_of_ble_eq_true rfl) rfl rfl rfl ?_
      rw [hC.n]
      refine x_icmp_ge (pc := 10) (tgt := 62) d_Pat_addLoads_10 (by decide) (fun h => absurd h (nI_ge (by omega) (by omega))) (fun h10 => ?_)
      refine x_iconst (pc := 13) (v := 0) d_Pat_addLoads_13 (by decide) ?_
      refine y_ist2 (pc := 14) d_Pat_addLoads_14 ?_
      exact hT 0 (Nat.zero_le _) f hf (fun s hs => absurd hs (Nat.not_lt_zero s))
  refine CU.of (lv := [.ref 6, zu, zu]) k_Pat_addLoads.1 rfl (by decide) rfl rfl (Nat.le_of_ble_eq_true rfl) ?_
  refine x_iconst (pc := 0) (v := 1) d_Pat_addLoads_0 (by decide) ?_
  refine y_ist1 (pc := 1) d_Pat_addLoads_1 ?_
  have h0 := hS 0 (Nat.zero_le _) (A 7) zu rfl (fun S hS => by rw [show S = 0 by omega, h70, zLda_0]; rfl)
  rw [za_self] at h0
  exact h0
set_option maxRecDepth 100000 in
set_option maxHeartbeats 4000000 in
theorem c_Pat_clearPaths {W : zW} (V A : zV) (hW : zWok W) (hC : WC W V A) : CU Y_Pat_clearPaths 1 [.ref 6] V A (fun V' A' => V' = V ∧ ∃ f g, A' = za (za A 9 f) 10 g ∧ ∀ i, i < 2 ^ (W.n - 1) * 9 → f i = zEc (sc (wT W 0 i)) ∧ g i = nI (sw (wT W 0 i))) := by
  have h9 := hW.h9
  have hp := pw_le h9
  have h0 : 0 < 2 ^ (W.n - 1) := Nat.pos_of_ne_zero (by simp)
  generalize hK : 2 ^ (W.n - 1) * 9 = K
  have hS : ∀ j, j ≤ K → ∀ f g, (∀ i, i < j → f i = 1000000000 ∧ g i = 0) → X Y_Pat_clearPaths (zrm 1) (0, fun _ => 0) (zFu 1 (fun V' A' => V' = V ∧ ∃ f g, A' = za (za A 9 f) 10 g ∧ ∀ i, i < K → f i = zEc (sc (wT W 0 i)) ∧ g i = nI (sw (wT W 0 i)))) 15 [.ref 6, .int (nI K), .int (nI j)] [] (cells V (za (za A 9 f) 10 g)) 0 0 := by
    refine z_down (fun f g hf => ?_) (fun j hj ih f g hf => ?_)
    · refine x_iload_n (pc := 15) d_Pat_clearPaths_15 rfl ?_
      refine x_iload_n (pc := 16) d_Pat_clearPaths_16 rfl ?_
      refine x_icmp_ge (pc := 17) (tgt := 41) d_Pat_clearPaths_17 (by decide) (fun h17 => ?_) (fun h => absurd (nI_le (by omega) (by omega)) h)
      refine x_aload_n (pc := 41) d_Pat_clearPaths_41 rfl ?_
      refine x_get (pc := 42) (j := 3) d_Pat_clearPaths_42 f_Pat_18 rfl rfl (Nat.le_of_ble_eq_true rfl) rfl rfl rfl ?_
      refine x_iconst (pc := 45) (v := 0) d_Pat_clearPaths_45 (by decide) ?_
      refine x_iconst (pc := 46) (v := 0) d_Pat_clearPaths_46 (by decide) ?_
      refine y_iast (pc := 47) d_Pat_clearPaths_47 rfl (fun _ => rfl) (show vp_in (nI 0) _ from vp_in_nI (by omega) (by decide)) ?_
      refine x_aload_n (pc := 48) d_Pat_clearPaths_48 rfl ?_
      refine x_get (pc := 49) (j := 4) d_Pat_clearPaths_49 f_Pat_21 rfl rfl (Nat.le_of_ble_eq_true rfl) rfl rfl rfl ?_
      refine x_iconst (pc := 52) (v := 0) d_Pat_clearPaths_52 (by decide) ?_
      refine x_iconst (pc := 53) (v := 1) d_Pat_clearPaths_53 (by decide) ?_
      refine y_iast (pc := 54) d_Pat_clearPaths_54 rfl (fun _ => rfl) (show vp_in (nI 0) _ from vp_in_nI (by omega) (by decide)) ?_
      refine y_vret (pc := 55) d_Pat_clearPaths_55 rfl ?_
      rw [za3 A (by decide), za_za]
      refine ⟨rfl, _, _, rfl, fun i hi => ?_⟩
      by_cases hi0 : i = 0
      · subst hi0; exact ⟨rfl, rfl⟩
      · have e1 : wT W 0 i = none := if_neg hi0
        rw [e1]
        exact ⟨(upd_ne _ _ hi0).trans (hf i hi).1, (upd_ne _ _ hi0).trans (hf i hi).2⟩
    · have cj : (nI j).toNatClampNeg = j := nI_clamp (by omega)
      refine x_iload_n (pc := 15) d_Pat_clearPaths_15 rfl ?_
      refine x_iload_n (pc := 16) d_Pat_clearPaths_16 rfl ?_
      refine x_icmp_ge (pc := 17) (tgt := 41) d_Pat_clearPaths_17 (by decide) (fun h => absurd h (nI_ge (by omega) (by omega))) (fun h17 => ?_)
      refine x_aload_n (pc := 20) d_Pat_clearPaths_20 rfl ?_
      refine x_get (pc := 21) (j := 3) d_Pat_clearPaths_21 f_Pat_18 rfl rfl (Nat.le_of_ble_eq_true rfl) rfl rfl rfl ?_
      refine x_iload_n (pc := 24) d_Pat_clearPaths_24 rfl ?_
      refine x_ldc (pc := 25) (v := 1000000000) d_Pat_clearPaths_25 i_Pat_54 ?_
      refine y_iast (pc := 27) d_Pat_clearPaths_27 rfl (fun _ => rfl) (vp_in_nI (by omega) (by decide)) ?_
      refine x_aload_n (pc := 28) d_Pat_clearPaths_28 rfl ?_
      refine x_get (pc := 29) (j := 4) d_Pat_clearPaths_29 f_Pat_21 rfl rfl (Nat.le_of_ble_eq_true rfl) rfl rfl rfl ?_
      refine x_iload_n (pc := 32) d_Pat_clearPaths_32 rfl ?_
      refine x_iconst (pc := 33) (v := 0) d_Pat_clearPaths_33 (by decide) ?_
      refine y_iast (pc := 34) d_Pat_clearPaths_34 rfl (fun _ => rfl) (vp_in_nI (by omega) (by decide)) ?_
      refine y_inc2 (pc := 35) (v := 1) d_Pat_clearPaths_35 (by decide) ?_
      refine x_goto (pc := 38) (tgt := 15) d_Pat_clearPaths_38 (by decide) ?_
      rw [za3 A (by decide), za_za, cj, show nI j + 1 = nI (j + 1) from (nI_succ j).symm]
      refine ih _ _ (fun i hi => ?_)
      by_cases hij : i = j
      · rw [hij]; exact ⟨upd_at _ _ _, upd_at _ _ _⟩
      · exact ⟨(upd_ne _ _ hij).trans (hf i (by omega)).1, (upd_ne _ _ hij).trans (hf i (by omega)).2⟩
  refine CU.of (lv := [.ref 6, zu, zu]) k_Pat_clearPaths.1 rfl (by decide) rfl rfl (Nat.le_of_ble_eq_true rfl) ?_
  refine x_aload_n (pc := 0) d_Pat_clearPaths_0 rfl ?_
  refine x_get (pc := 1) (j := 0) d_Pat_clearPaths_1 f_Pat_30 rfl rfl (Nat.le_of_ble_eq_true rfl) rfl rfl rfl ?_
  refine y_fV (pc := 4) (w_allPlaces _ _ hW hC) k_Net_allPlaces d_Pat_clearPaths_4 m_Pat_40 (by decide) rfl rfl rfl rfl p_Net_allPlaces (K := ?_)
  refine x_iconst (pc := 7) (v := 1) d_Pat_clearPaths_7 (by decide) ?_
  refine x_iadd (pc := 8) d_Pat_clearPaths_8 ?_
  refine x_bipush (pc := 9) (v := 9) d_Pat_clearPaths_9 (by decide) ?_
  refine x_imul (pc := 11) d_Pat_clearPaths_11 ?_
  rw [show nI (2 ^ (W.n - 1) - 1) + 1 = nI (2 ^ (W.n - 1)) by rw [← nI_succ, show 2 ^ (W.n - 1) - 1 + 1 = 2 ^ (W.n - 1) by omega], show (9 : Int32) = nI 9 from rfl, pk_mul, hK]
  refine y_ist1 (pc := 12) d_Pat_clearPaths_12 ?_
  refine x_iconst (pc := 13) (v := 0) d_Pat_clearPaths_13 (by decide) ?_
  refine y_ist2 (pc := 14) d_Pat_clearPaths_14 ?_
  have h0 := hS 0 (Nat.zero_le _) (A 9) (A 10) (fun i hi => absurd hi (Nat.not_lt_zero i))
  rw [za_self, za_self] at h0
  exact h0
set_option maxRecDepth 100000 in
set_option maxHeartbeats 4000000 in
theorem c_Pat_followersOf {W : zW} (V A : zV) (hW : zWok W) (hC : WC W V A) (S : Nat) (hS2 : S < 256) (hls : A 7 S = nI (zLda W S)) : CQ Y_Pat_followersOf 1 [.ref 6, .int (nI S)] V A (fun r V' A' => r = nI (zfS W S (W.n - 1)) ∧ V' = V ∧ A' = A) := by
  have h9 := hW.h9
  have hle := zLda_le hW S
  have hrm := hW.rm
  have cs : (nI S).toNatClampNeg = S := nI_clamp (by omega)
  have hL : ∀ k, k ≤ W.n - 1 → ∀ q : Value, q.category = 1 → X Y_Pat_followersOf (zrm 1) (0, fun _ => 0) (zFq 1 (fun r V' A' => r = nI (zfS W S (W.n - 1)) ∧ V' = V ∧ A' = A)) 4 [.ref 6, .int (nI S), .int (nI (zfS W S k)), .int (nI (k + 1)), q] [] (cells V A) 0 0 := by
    refine z_down (fun q hq => ?_) (fun k hk ih q hq => ?_)
    · refine x_iload_n (pc := 4) d_Pat_followersOf_4 rfl ?_
      refine x_aload_n (pc := 5) d_Pat_followersOf_5 rfl ?_
      refine x_get (pc := 6) (j := 0) d_Pat_followersOf_6 f_Pat_30 rfl rfl (Nat.le_of_ble_eq_true rfl) rfl rfl rfl ?_
      refine x_get (pc := 9) (j := 4) d_Pat_followersOf_9 f_Pat_50 rfl rfl (Nat.le_of_ble_eq_true rfl) rfl rfl rfl ?_
      rw [hC.n]
      refine x_icmp_ge (pc := 12) (tgt := 91) d_Pat_followersOf_12 (by decide) (fun h12 => ?_) (fun h => absurd (nI_le (by omega) (by omega)) h)
      refine x_iload_n (pc := 91) d_Pat_followersOf_91 rfl ?_
      refine y_iret (pc := 92) d_Pat_followersOf_92 rfl ?_
      exact ⟨rfl, rfl, rfl⟩
    · have ck : (nI (k + 1)).toNatClampNeg = k + 1 := nI_clamp (by omega)
      have hlo := hC.lo (k + 1) (by omega)
      have hlo1 := hW.lo (k + 1) (by omega)
      have hea := hC.ea (k + 1) (by omega)
      have hea1 := hW.ea (k + 1) (by omega)
      have hst : zfS W S (k + 1) = if zfo W S k = true then zfS W S k ||| 2 ^ k else zfS W S k := rfl
      have hfo := zfo_iff W S k
      refine x_iload_n (pc := 4) d_Pat_followersOf_4 rfl ?_
      refine x_aload_n (pc := 5) d_Pat_followersOf_5 rfl ?_
      refine x_get (pc := 6) (j := 0) d_Pat_followersOf_6 f_Pat_30 rfl rfl (Nat.le_of_ble_eq_true rfl) rfl rfl rfl ?_
      refine x_get (pc := 9) (j := 4) d_Pat_followersOf_9 f_Pat_50 rfl rfl (Nat.le_of_ble_eq_true rfl) rfl rfl rfl ?_
      rw [hC.n]
      refine x_icmp_ge (pc := 12) (tgt := 91) d_Pat_followersOf_12 (by decide) (fun h => absurd h (nI_ge (by omega) (by omega))) (fun h12 => ?_)
      refine x_aload_n (pc := 15) d_Pat_followersOf_15 rfl ?_
      refine x_get (pc := 16) (j := 1) d_Pat_followersOf_16 f_Pat_9 rfl rfl (Nat.le_of_ble_eq_true rfl) rfl rfl rfl ?_
      refine x_iload_n (pc := 19) d_Pat_followersOf_19 rfl ?_
      refine x_iald (pc := 20) d_Pat_followersOf_20 rfl (vp_in_nI (by omega) (by decide)) ?_
      refine x_aload_n (pc := 21) d_Pat_followersOf_21 rfl ?_
      refine x_get (pc := 22) (j := 0) d_Pat_followersOf_22 f_Pat_30 rfl rfl (Nat.le_of_ble_eq_true rfl) rfl rfl rfl ?_
      refine x_get (pc := 25) (j := 0) d_Pat_followersOf_25 f_Pat_63 rfl rfl (Nat.le_of_ble_eq_true rfl) rfl rfl rfl ?_
      refine x_iload_n (pc := 28) d_Pat_followersOf_28 rfl ?_
      refine x_iald (pc := 29) d_Pat_followersOf_29 rfl (vp_in_nI (by omega) (by decide)) ?_
      refine x_iadd (pc := 30) d_Pat_followersOf_30 ?_
      refine x_aload_n (pc := 31) d_Pat_followersOf_31 rfl ?_
      refine x_get (pc := 32) (j := 0) d_Pat_followersOf_32 f_Pat_30 rfl rfl (Nat.le_of_ble_eq_true rfl) rfl rfl rfl ?_
      refine x_get (pc := 35) (j := 6) d_Pat_followersOf_35 f_Pat_66 rfl rfl (Nat.le_of_ble_eq_true rfl) rfl rfl rfl ?_
      rw [cs, ck, hls, hlo, nI_add, hC.rm]
      refine x_icmp_gt (pc := 38) (tgt := 45) d_Pat_followersOf_38 (by decide) (fun h38 => ?_) (fun h38 => ?_)
      · refine x_iconst (pc := 45) (v := 0) d_Pat_followersOf_45 (by decide) ?_
        refine y_ist4 (pc := 46) d_Pat_followersOf_46 ?_
        refine x_iload (pc := 48) d_Pat_followersOf_48 rfl ?_
        refine x_if_eq (pc := 50) (tgt := 85) d_Pat_followersOf_50 (by decide) (fun _ => ?_) (fun h => absurd h (by decide))
        refine y_inc3 (pc := 85) (v := 1) d_Pat_followersOf_85 (by decide) ?_
        refine x_goto (pc := 88) (tgt := 4) d_Pat_followersOf_88 (by decide) ?_
        rw [show nI (k + 1) + 1 = nI (k + 1 + 1) from (nI_succ (k + 1)).symm]
        rw [if_neg (fun z => absurd h38 (nI_nlt ((hfo.mp z).1) (by omega)))] at hst
        rw [hst] at ih
        exact ih _ rfl
      · refine x_iconst (pc := 41) (v := 1) d_Pat_followersOf_41 (by decide) ?_
        refine x_goto (pc := 42) (tgt := 46) d_Pat_followersOf_42 (by decide) ?_
        refine y_ist4 (pc := 46) d_Pat_followersOf_46 ?_
        refine x_iload (pc := 48) d_Pat_followersOf_48 rfl ?_
        refine x_if_eq (pc := 50) (tgt := 85) d_Pat_followersOf_50 (by decide) (fun h => absurd h (by decide)) (fun _ => ?_)
        refine x_iload_n (pc := 53) d_Pat_followersOf_53 rfl ?_
        refine x_iload_n (pc := 54) d_Pat_followersOf_54 rfl ?_
        refine y_fN (pc := 55) (w_bit _ _ (k + 1) (by omega) (by omega)) k_CW_bit d_Pat_followersOf_55 n_Pat_69 (by decide) rfl p_CW_bit (K := ?_)
        refine x_iand (pc := 58) d_Pat_followersOf_58 ?_
        refine x_if_ne (pc := 59) (tgt := 85) d_Pat_followersOf_59 (by decide) (fun h59 => ?_) (fun h59 => ?_)
        · refine y_inc3 (pc := 85) (v := 1) d_Pat_followersOf_85 (by decide) ?_
          refine x_goto (pc := 88) (tgt := 4) d_Pat_followersOf_88 (by decide) ?_
          rw [show nI (k + 1) + 1 = nI (k + 1 + 1) from (nI_succ (k + 1)).symm]
          rw [if_neg (fun z => h59 (by rw [show k + 1 - 1 = k from rfl]; exact (zz_in hS2 (by omega)).mpr (hfo.mp z).2.1))] at hst
          rw [hst] at ih
          exact ih _ rfl
        · refine x_aload_n (pc := 62) d_Pat_followersOf_62 rfl ?_
          refine x_get (pc := 63) (j := 0) d_Pat_followersOf_63 f_Pat_30 rfl rfl (Nat.le_of_ble_eq_true rfl) rfl rfl rfl ?_
          refine x_get (pc := 66) (j := 3) d_Pat_followersOf_66 f_Pat_72 rfl rfl (Nat.le_of_ble_eq_true rfl) rfl rfl rfl ?_
          refine x_iload_n (pc := 69) d_Pat_followersOf_69 rfl ?_
          refine x_iald (pc := 70) d_Pat_followersOf_70 rfl (vp_in_nI (by omega) (by decide)) ?_
          refine x_iload_n (pc := 71) d_Pat_followersOf_71 rfl ?_
          refine x_iconst (pc := 72) (v := (-1)) d_Pat_followersOf_72 (by decide) ?_
          refine x_ixor (pc := 73) d_Pat_followersOf_73 ?_
          refine x_iand (pc := 74) d_Pat_followersOf_74 ?_
          refine x_if_ne (pc := 75) (tgt := 85) d_Pat_followersOf_75 (by decide) (fun h75 => ?_) (fun h75 => ?_)
          · refine y_inc3 (pc := 85) (v := 1) d_Pat_followersOf_85 (by decide) ?_
            refine x_goto (pc := 88) (tgt := 4) d_Pat_followersOf_88 (by decide) ?_
            rw [show nI (k + 1) + 1 = nI (k + 1 + 1) from (nI_succ (k + 1)).symm]
            rw [if_neg (fun z => h75 (by rw [ck, hea, zz_not hea1, (hfo.mp z).2.2]; rfl))] at hst
            rw [hst] at ih
            exact ih _ rfl
          · refine x_iload_n (pc := 78) d_Pat_followersOf_78 rfl ?_
            refine x_iload_n (pc := 79) d_Pat_followersOf_79 rfl ?_
            refine y_fN (pc := 80) (w_bit _ _ (k + 1) (by omega) (by omega)) k_CW_bit d_Pat_followersOf_80 n_Pat_69 (by decide) rfl p_CW_bit (K := ?_)
            refine x_ior (pc := 83) d_Pat_followersOf_83 ?_
            refine y_ist2 (pc := 84) d_Pat_followersOf_84 ?_
            refine y_inc3 (pc := 85) (v := 1) d_Pat_followersOf_85 (by decide) ?_
            refine x_goto (pc := 88) (tgt := 4) d_Pat_followersOf_88 (by decide) ?_
            rw [show nI (k + 1) + 1 = nI (k + 1 + 1) from (nI_succ (k + 1)).symm]
            rw [if_pos (hfo.mpr ⟨?_, ?_, ?_⟩)] at hst
            · rw [hst] at ih
              rw [show k + 1 - 1 = k from rfl, nx_or]
              exact ih _ rfl
            · rcases Nat.lt_or_ge W.rm (zLda W S + W.lo (k + 1)) with z | z
              · exact absurd (nI_lt z (by omega)) h38
              · exact z
            · exact (zz_in hS2 (by omega)).mp h59
            · rw [ck, hea, zz_not hea1] at h75
              exact (nI_256 (and256 hea1)).mp h75
  refine CQ.of (lv := [.ref 6, .int (nI S), zu, zu, zu]) k_Pat_followersOf.1 rfl (by decide) rfl rfl (Nat.le_of_ble_eq_true rfl) ?_
  refine x_iconst (pc := 0) (v := 0) d_Pat_followersOf_0 (by decide) ?_
  refine y_ist2 (pc := 1) d_Pat_followersOf_1 ?_
  refine x_iconst (pc := 2) (v := 1) d_Pat_followersOf_2 (by decide) ?_
  refine y_ist3 (pc := 3) d_Pat_followersOf_3 ?_
  exact hL 0 (Nat.zero_le _) _ rfl
theorem zXt_from {W : zW} (T : Nat → Option (Int × Nat)) (S a : Nat) : ∀ k, zXt zMS (zfo W) (zar W) T S a k (S * 9 + a) = T (S * 9 + a) ∨ 9 ≤ a
  | 0 => Or.inl rfl
  | k + 1 => by
    rcases Nat.lt_or_ge a 9 with ha | ha
    · left
      rcases zXt_from (W := W) T S a k with ih | ih
      · rw [zXt]
        by_cases q : zfo W S k = true
        · rw [if_pos q]
          have := or_gt (zfo_Fo W S k q)
          unfold zX1
          rw [if_neg (by omega), ih]
        · rw [if_neg q, ih]
      · omega
    · exact Or.inr ha
theorem zX1_n (T : Nat → Option (Int × Nat)) (p : Nat) : zX1 zMS T p none = T := by
  funext i
  unfold zX1
  rw [zMS_p, sa_nr]
  split <;> rfl
theorem zXt_n1 {W : zW} (T : Nat → Option (Int × Nat)) (S a : Nat) (h : T (S * 9 + a) = none) : ∀ k, zXt zMS (zfo W) (zar W) T S a k = T
  | 0 => rfl
  | k + 1 => by
    rw [zXt, zXt_n1 T S a h k, h, zMS_m, sm_nl, zX1_n]
    split <;> rfl
theorem zXt_n2 {W : zW} (T : Nat → Option (Int × Nat)) (S a : Nat) (h : ∀ b, W.ar a b = none) : ∀ k, zXt zMS (zfo W) (zar W) T S a k = T
  | 0 => rfl
  | k + 1 => by
    rw [zXt, zXt_n2 T S a h k, zMS_m, show zar W a (k + 1) = none from (by unfold zar; rw [h]; rfl), sm_nr, zX1_n]
    split <;> rfl
/-- a table of values in two arrays -/
def tb2 (K : Nat) (T : Nat → Option (Int × Nat)) (f g : Nat → Int32) : Prop := ∀ i, i < K → f i = zEc (sc (T i)) ∧ g i = nI (sw (T i))
theorem olt_tri {o p : Option Int} (h1 : ¬ olt o p) (h2 : ¬ o = p) : olt p o := by
  cases o with
  | none => cases p with
    | none => exact absurd rfl h2
    | some y => exact trivial
  | some x => cases p with
    | none => exact absurd trivial h1
    | some y =>
      show y < x
      have h1 : ¬ x < y := h1
      have h2 : ¬ x = y := fun z => h2 (by rw [z])
      omega
theorem olt_irr {o : Option Int} (h : olt o o) : False := by
  cases o with
  | none => exact h
  | some x => exact absurd (show x < x from h) (by omega)
theorem omin_lt {o p : Option Int} (h : olt o p) : omin o p = o := by
  cases o with
  | none => exact absurd h (by simp [olt])
  | some x => cases p with
    | none => rfl
    | some y =>
      have h : x < y := h
      show some (if y < x then y else x) = some x
      rw [if_neg (by omega)]
theorem omin_gt {o p : Option Int} (h : olt p o) : omin o p = p := by rw [omin_cm]; exact omin_lt h
theorem omin_eq (o : Option Int) : omin o o = o := by
  cases o with
  | none => rfl
  | some x => show some (if x < x then x else x) = some x; rw [ite_self]
set_option maxRecDepth 100000 in
set_option maxHeartbeats 4000000 in
theorem c_Pat_extend {W : zW} (V A : zV) (hW : zWok W) (hC : WC W V A) (T : Nat → Option (Int × Nat)) (S a : Nat) (hS2 : S < 2 ^ (W.n - 1)) (ha : a < W.n) (cw : Int × Nat) (hTs : T (S * 9 + a) = some cw) (hTB : ∀ i, bB (1000 * zpk (i / 9) 8) (T i)) (hfl : A 8 S = nI (zfS W S (W.n - 1))) (ht : tb2 (2 ^ (W.n - 1) * 9) T (A 9) (A 10)) : CU Y_Pat_extend 1 [.ref 6, .int (nI S), .int (nI a)] V A (fun V' A' => V' = V ∧ ∃ f g, A' = za (za A 9 f) 10 g ∧ tb2 (2 ^ (W.n - 1) * 9) (zXt zMS (zfo W) (zar W) T S a (W.n - 1)) f g) := by
  have h9 := hW.h9
  have hp := pw_le h9
  have hfr : S * 9 + a < 2 ^ (W.n - 1) * 9 := by omega
  have e0 : nI S * 9 + nI a = nI (S * 9 + a) := by rw [show (9 : Int32) = nI 9 from rfl, pk_mul, nI_add]
  have cfr : (nI (S * 9 + a)).toNatClampNeg = S * 9 + a := nI_clamp (by omega)
  have cs : (nI S).toNatClampNeg = S := nI_clamp (by omega)
  have hfS := zfS_lt W S (W.n - 1) (by omega)
  have hL : ∀ k, k ≤ W.n - 1 → ∀ f g, tb2 (2 ^ (W.n - 1) * 9) (zXt zMS (zfo W) (zar W) T S a k) f g → ∀ q5 q6 q7 : Value, q5.category = 1 → q6.category = 1 → q7.category = 1 → X Y_Pat_extend (zrm 1) (0, fun _ => 0) (zFu 1 (fun V' A' => V' = V ∧ ∃ f g, A' = za (za A 9 f) 10 g ∧ tb2 (2 ^ (W.n - 1) * 9) (zXt zMS (zfo W) (zar W) T S a (W.n - 1)) f g)) 10 [.ref 6, .int (nI S), .int (nI a), .int (nI (S * 9 + a)), .int (nI (k + 1)), q5, q6, q7] [] (cells V (za (za A 9 f) 10 g)) 0 0 := by
    refine z_down (fun f g hfg q5 q6 q7 c5 c6 c7 => ?_) (fun k hk ih f g hfg q5 q6 q7 c5 c6 c7 => ?_)
    · refine x_iload (pc := 10) d_Pat_extend_10 rfl ?_
      refine x_aload_n (pc := 12) d_Pat_extend_12 rfl ?_
      refine x_get (pc := 13) (j := 0) d_Pat_extend_13 f_Pat_30 rfl rfl (Nat.le_of_ble_eq_true rfl) rfl rfl rfl ?_
      refine x_get (pc := 16) (j := 4) d_Pat_extend_16 f_Pat_50 rfl rfl (Nat.le_of_ble_eq_true rfl) rfl rfl rfl ?_
      rw [hC.n]
      refine x_icmp_ge (pc := 19) (tgt := 161) d_Pat_extend_19 (by decide) (fun h19 => ?_) (fun h => absurd (nI_le (by omega) (by omega)) h)
      refine y_vret (pc := 161) d_Pat_extend_161 rfl ?_
      exact ⟨rfl, f, g, rfl, hfg⟩
    · have ck : (nI (k + 1)).toNatClampNeg = k + 1 := nI_clamp (by omega)
      have ix1 : nI a * 9 + nI (k + 1) = nI (a * 9 + (k + 1)) := by rw [show (9 : Int32) = nI 9 from rfl, pk_mul, nI_add]
      have c1 : (nI (a * 9 + (k + 1))).toNatClampNeg = a * 9 + (k + 1) := nI_clamp (by omega)
      have har := hC.ar a (k + 1) (by omega) (by omega)
      have hst : zXt zMS (zfo W) (zar W) T S a (k + 1) = if zfo W S k = true then zX1 zMS (zXt zMS (zfo W) (zar W) T S a k) ((S ||| 2 ^ k) * 9 + (k + 1)) (zMS.m (T (S * 9 + a)) (zar W a (k + 1))) else zXt zMS (zfo W) (zar W) T S a k := rfl
      have hfb : (zfS W S (W.n - 1)).testBit k = zfo W S k := by rw [zfS_tb, decide_eq_true hk, Bool.true_and]
      have hk2 := zz_bit (a := k) (by omega)
      have hto : (S ||| 2 ^ k) < 2 ^ (W.n - 1) := Nat.or_lt_two_pow hS2 (Nat.pow_lt_pow_right (by decide) hk)
      have ixt : (nI S ||| nI (2 ^ k)) * 9 + nI (k + 1) = nI ((S ||| 2 ^ k) * 9 + (k + 1)) := by rw [nx_or, show (9 : Int32) = nI 9 from rfl, pk_mul, nI_add]
      have ct : (nI ((S ||| 2 ^ k) * 9 + (k + 1))).toNatClampNeg = (S ||| 2 ^ k) * 9 + (k + 1) := nI_clamp (by omega)
      refine x_iload (pc := 10) d_Pat_extend_10 rfl ?_
      refine x_aload_n (pc := 12) d_Pat_extend_12 rfl ?_
      refine x_get (pc := 13) (j := 0) d_Pat_extend_13 f_Pat_30 rfl rfl (Nat.le_of_ble_eq_true rfl) rfl rfl rfl ?_
      refine x_get (pc := 16) (j := 4) d_Pat_extend_16 f_Pat_50 rfl rfl (Nat.le_of_ble_eq_true rfl) rfl rfl rfl ?_
      rw [hC.n]
      refine x_icmp_ge (pc := 19) (tgt := 161) d_Pat_extend_19 (by decide) (fun h => absurd h (nI_ge (by omega) (by omega))) (fun h19 => ?_)
      refine x_aload_n (pc := 22) d_Pat_extend_22 rfl ?_
      refine x_get (pc := 23) (j := 0) d_Pat_extend_23 f_Pat_30 rfl rfl (Nat.le_of_ble_eq_true rfl) rfl rfl rfl ?_
      refine x_get (pc := 26) (j := 1) d_Pat_extend_26 f_Pat_75 rfl rfl (Nat.le_of_ble_eq_true rfl) rfl rfl rfl ?_
      refine x_iload_n (pc := 29) d_Pat_extend_29 rfl ?_
      refine x_bipush (pc := 30) (v := 9) d_Pat_extend_30 (by decide) ?_
      refine x_imul (pc := 32) d_Pat_extend_32 ?_
      refine x_iload (pc := 33) d_Pat_extend_33 rfl ?_
      refine x_iadd (pc := 35) d_Pat_extend_35 ?_
      refine x_iald (pc := 36) d_Pat_extend_36 rfl (by rw [ix1]; exact vp_in_nI (by omega) (by decide)) ?_
      rw [ix1, c1, show (za (za A 9 f) 10 g) 3 (a * 9 + (k + 1)) = zEc (W.ar a (k + 1)) from har]
      refine y_ist5 (pc := 37) d_Pat_extend_37 ?_
      refine x_iload (pc := 39) d_Pat_extend_39 rfl ?_
      refine x_ldc (pc := 41) (v := 1000000000) d_Pat_extend_41 i_Pat_54 ?_
      refine x_icmp_eq (pc := 43) (tgt := 155) d_Pat_extend_43 (by decide) (fun h43 => ?_) (fun h43 => ?_)
      · refine y_inc4 (pc := 155) (v := 1) d_Pat_extend_155 (by decide) ?_
        refine x_goto (pc := 158) (tgt := 10) d_Pat_extend_158 (by decide) ?_
        rw [show nI (k + 1) + 1 = nI (k + 1 + 1) from (nI_succ (k + 1)).symm]
        have hn : W.ar a (k + 1) = none := (zEc_no (b := 1000) (by omega) (hW.arB a (k + 1))).mp h43
        rw [show zMS.m (T (S * 9 + a)) (zar W a (k + 1)) = none from (by unfold zar; rw [hn]; exact sm_nr _), zX1_n, ite_self] at hst
        rw [hst] at ih
        exact ih f g hfg _ _ _ rfl c6 c7
      · refine x_aload_n (pc := 46) d_Pat_extend_46 rfl ?_
        refine x_get (pc := 47) (j := 2) d_Pat_extend_47 f_Pat_15 rfl rfl (Nat.le_of_ble_eq_true rfl) rfl rfl rfl ?_
        refine x_iload_n (pc := 50) d_Pat_extend_50 rfl ?_
        refine x_iald (pc := 51) d_Pat_extend_51 rfl (vp_in_nI (by omega) (by decide)) ?_
        rw [cs, show (za (za A 9 f) 10 g) 8 S = nI (zfS W S (W.n - 1)) from hfl]
        refine x_iload (pc := 52) d_Pat_extend_52 rfl ?_
        refine y_fN (pc := 54) (w_bit _ _ (k + 1) (by omega) (by omega)) k_CW_bit d_Pat_extend_54 n_Pat_69 (by decide) rfl p_CW_bit (K := ?_)
        refine x_iand (pc := 57) d_Pat_extend_57 ?_
        rw [show k + 1 - 1 = k from rfl]
        refine x_if_ne (pc := 58) (tgt := 64) d_Pat_extend_58 (by decide) (fun h58 => ?_) (fun h58 => ?_)
        · have hyes : zfo W S k = true := by
            rw [← hfb]
            cases hz : (zfS W S (W.n - 1)).testBit k with
            | true => rfl
            | false => exact absurd ((zz_in hfS (by omega)).mpr hz) h58
          rw [if_pos hyes] at hst
          cases hy : W.ar a (k + 1) with
          | none => exact absurd (by rw [hy]; rfl) h43
          | some y =>
            have hT0 : zXt zMS (zfo W) (zar W) T S a k (S * 9 + a) = T (S * 9 + a) := by
              rcases zXt_from (W := W) T S a k with z | z
              · exact z
              · omega
            have hfr2 := hfg (S * 9 + a) hfr
            rw [hT0, hTs] at hfr2
            have hto2 := hfg ((S ||| 2 ^ k) * 9 + (k + 1)) (by omega)
            have hBk := zXt_B hW hTB S a (by omega) k (by omega)
            have hB1 := hTB (S * 9 + a)
            have hz1 := zpk_le ((S * 9 + a) / 9) 8
            have hz2 := zpk_le (((S ||| 2 ^ k) * 9 + (k + 1)) / 9) 8
            have hB2 : bB 8000 (zXt zMS (zfo W) (zar W) T S a k ((S ||| 2 ^ k) * 9 + (k + 1))) := bB_mono (hBk _) (by omega)
            have hB3 : bB 9000 (some (cw.1 + y, cw.2)) := by
              have z : bB 9000 (sm (T (S * 9 + a)) (zar W a (k + 1))) := bB_mono (bB_m (bB_mono hB1 (show _ ≤ (8000 : Int) by omega)) (zar_B hW a (k + 1))) (by omega)
              rw [hTs, show zar W a (k + 1) = some (y, 1) from (by unfold zar; rw [hy]; rfl)] at z
              exact z
            rw [show zMS.m (T (S * 9 + a)) (zar W a (k + 1)) = some (cw.1 + y, cw.2) from (by unfold zar; rw [hTs, hy]; show some (cw.1 + y, cw.2 * 1) = _; rw [Nat.mul_one])] at hst
            rw [show zEc (some y) = Int32.ofInt y from rfl]
            refine x_iload_n (pc := 64) d_Pat_extend_64 rfl ?_
            refine x_iload (pc := 65) d_Pat_extend_65 rfl ?_
            refine y_fN (pc := 67) (w_bit _ _ (k + 1) (by omega) (by omega)) k_CW_bit d_Pat_extend_67 n_Pat_69 (by decide) rfl p_CW_bit (K := ?_)
            refine x_ior (pc := 70) d_Pat_extend_70 ?_
            refine x_bipush (pc := 71) (v := 9) d_Pat_extend_71 (by decide) ?_
            refine x_imul (pc := 73) d_Pat_extend_73 ?_
            refine x_iload (pc := 74) d_Pat_extend_74 rfl ?_
            refine x_iadd (pc := 76) d_Pat_extend_76 ?_
            rw [show k + 1 - 1 = k from rfl, ixt]
            refine y_ist6 (pc := 77) d_Pat_extend_77 ?_
            refine x_aload_n (pc := 79) d_Pat_extend_79 rfl ?_
            refine x_get (pc := 80) (j := 3) d_Pat_extend_80 f_Pat_18 rfl rfl (Nat.le_of_ble_eq_true rfl) rfl rfl rfl ?_
            refine x_iload_n (pc := 83) d_Pat_extend_83 rfl ?_
            refine x_iald (pc := 84) d_Pat_extend_84 rfl (vp_in_nI (by omega) (by decide)) ?_
            refine x_iload (pc := 85) d_Pat_extend_85 rfl ?_
            refine x_iadd (pc := 87) d_Pat_extend_87 ?_
            rw [cfr, show (za (za A 9 f) 10 g) 9 (S * 9 + a) = Int32.ofInt cw.1 from hfr2.1, ← Int32.ofInt_add]
            refine y_ist7 (pc := 88) d_Pat_extend_88 ?_
            refine x_iload (pc := 90) d_Pat_extend_90 rfl ?_
            refine x_aload_n (pc := 92) d_Pat_extend_92 rfl ?_
            refine x_get (pc := 93) (j := 3) d_Pat_extend_93 f_Pat_18 rfl rfl (Nat.le_of_ble_eq_true rfl) rfl rfl rfl ?_
            refine x_iload (pc := 96) d_Pat_extend_96 rfl ?_
            refine x_iald (pc := 98) d_Pat_extend_98 rfl (vp_in_nI (by omega) (by decide)) ?_
            rw [ct, show (za (za A 9 f) 10 g) 9 ((S ||| 2 ^ k) * 9 + (k + 1)) = _ from hto2.1]
            rw [show Int32.ofInt (cw.1 + y) = zEc (sc (some (cw.1 + y, cw.2))) from rfl]
            refine x_icmp_ge (pc := 99) (tgt := 127) d_Pat_extend_99 (by decide) (fun h99 => ?_) (fun h99 => ?_)
            · refine x_iload (pc := 127) d_Pat_extend_127 rfl ?_
              refine x_aload_n (pc := 129) d_Pat_extend_129 rfl ?_
              refine x_get (pc := 130) (j := 3) d_Pat_extend_130 f_Pat_18 rfl rfl (Nat.le_of_ble_eq_true rfl) rfl rfl rfl ?_
              refine x_iload (pc := 133) d_Pat_extend_133 rfl ?_
              refine x_iald (pc := 135) d_Pat_extend_135 rfl (vp_in_nI (by omega) (by decide)) ?_
              rw [ct, show (za (za A 9 f) 10 g) 9 ((S ||| 2 ^ k) * 9 + (k + 1)) = _ from hto2.1]
              refine x_icmp_ne (pc := 136) (tgt := 155) d_Pat_extend_136 (by decide) (fun h136 => ?_) (fun h136 => ?_)
              · refine y_inc4 (pc := 155) (v := 1) d_Pat_extend_155 (by decide) ?_
                refine x_goto (pc := 158) (tgt := 10) d_Pat_extend_158 (by decide) ?_
                have hnl : ¬ olt (sc (some (cw.1 + y, cw.2))) (sc (zXt zMS (zfo W) (zar W) T S a k ((S ||| 2 ^ k) * 9 + (k + 1)))) := fun z => absurd h99 (Int32.not_le.mpr ((zEc_lt (b := 9000) (by omega) hB3 (bB_mono hB2 (by omega))).mpr z))
                have hne : ¬ sc (some (cw.1 + y, cw.2)) = sc (zXt zMS (zfo W) (zar W) T S a k ((S ||| 2 ^ k) * 9 + (k + 1))) := fun z => h136 (congrArg zEc z)
                have hgt := olt_tri hnl hne
                rw [show nI (k + 1) + 1 = nI (k + 1 + 1) from (nI_succ (k + 1)).symm]
                rw [hst] at ih
                refine ih _ _ (fun i hi => ?_) _ _ _ rfl rfl rfl
                show _ = zEc (sc (zX1 zMS _ _ _ i)) ∧ _ = nI (sw (zX1 zMS _ _ _ i))
                unfold zX1
                rw [zMS_p]
                by_cases hip : i = (S ||| 2 ^ k) * 9 + (k + 1)
                · rw [if_pos hip, hip, sc_sa, sw_sa]
                  rw [if_neg (fun z => hnl ((oltb_iff _ _).mp z)), if_pos ((oltb_iff _ _).mpr hgt), omin_lt hgt]
                  exact hto2
                · rw [if_neg hip]
                  have z := hfg i hi
                  exact ⟨z.1, z.2⟩
              · refine x_aload_n (pc := 139) d_Pat_extend_139 rfl ?_
                refine x_get (pc := 140) (j := 4) d_Pat_extend_140 f_Pat_21 rfl rfl (Nat.le_of_ble_eq_true rfl) rfl rfl rfl ?_
                refine x_iload (pc := 143) d_Pat_extend_143 rfl ?_
                refine x_dup2 (pc := 145) d_Pat_extend_145 rfl rfl ?_
                refine x_iald (pc := 146) d_Pat_extend_146 rfl (vp_in_nI (by omega) (by decide)) ?_
                refine x_aload_n (pc := 147) d_Pat_extend_147 rfl ?_
                refine x_get (pc := 148) (j := 4) d_Pat_extend_148 f_Pat_21 rfl rfl (Nat.le_of_ble_eq_true rfl) rfl rfl rfl ?_
                refine x_iload_n (pc := 151) d_Pat_extend_151 rfl ?_
                refine x_iald (pc := 152) d_Pat_extend_152 rfl (vp_in_nI (by omega) (by decide)) ?_
                refine x_iadd (pc := 153) d_Pat_extend_153 ?_
                refine y_iast (pc := 154) d_Pat_extend_154 rfl (fun _ => rfl) (vp_in_nI (by omega) (by decide)) ?_
                refine y_inc4 (pc := 155) (v := 1) d_Pat_extend_155 (by decide) ?_
                refine x_goto (pc := 158) (tgt := 10) d_Pat_extend_158 (by decide) ?_
                have hnl : ¬ olt (sc (some (cw.1 + y, cw.2))) (sc (zXt zMS (zfo W) (zar W) T S a k ((S ||| 2 ^ k) * 9 + (k + 1)))) := fun z => absurd h99 (Int32.not_le.mpr ((zEc_lt (b := 9000) (by omega) hB3 (bB_mono hB2 (by omega))).mpr z))
                have heq : sc (some (cw.1 + y, cw.2)) = sc (zXt zMS (zfo W) (zar W) T S a k ((S ||| 2 ^ k) * 9 + (k + 1))) := zEc_inj (b := 9000) (by omega) hB3 (bB_mono hB2 (by omega)) h136
                simp only [ct, cfr]
                rw [za_za]
                rw [show nI (k + 1) + 1 = nI (k + 1 + 1) from (nI_succ (k + 1)).symm]
                rw [hst] at ih
                refine ih _ _ (fun i hi => ?_) _ _ _ rfl rfl rfl
                show _ = zEc (sc (zX1 zMS _ _ _ i)) ∧ _ = nI (sw (zX1 zMS _ _ _ i))
                unfold zX1
                rw [zMS_p]
                by_cases hip : i = (S ||| 2 ^ k) * 9 + (k + 1)
                · rw [if_pos hip, hip, sc_sa, sw_sa]
                  rw [if_neg (fun z => hnl ((oltb_iff _ _).mp z)), if_neg (fun z => olt_irr (heq ▸ (oltb_iff _ _).mp z)), ← heq, omin_eq]
                  exact ⟨hto2.1.trans (by rw [heq]), (upd_at _ _ _).trans (by rw [show (za (za A 9 f) 10 g) 10 ((S ||| 2 ^ k) * 9 + (k + 1)) = _ from hto2.2, show (za (za A 9 f) 10 g) 10 (S * 9 + a) = _ from hfr2.2, nI_add]; rfl)⟩
                · rw [if_neg hip]
                  have z := hfg i hi
                  exact ⟨z.1, (upd_ne _ _ hip).trans z.2⟩
            · refine x_aload_n (pc := 102) d_Pat_extend_102 rfl ?_
              refine x_get (pc := 103) (j := 3) d_Pat_extend_103 f_Pat_18 rfl rfl (Nat.le_of_ble_eq_true rfl) rfl rfl rfl ?_
              refine x_iload (pc := 106) d_Pat_extend_106 rfl ?_
              refine x_iload (pc := 108) d_Pat_extend_108 rfl ?_
              refine y_iast (pc := 110) d_Pat_extend_110 rfl (fun _ => rfl) (vp_in_nI (by omega) (by decide)) ?_
              refine x_aload_n (pc := 111) d_Pat_extend_111 rfl ?_
              refine x_get (pc := 112) (j := 4) d_Pat_extend_112 f_Pat_21 rfl rfl (Nat.le_of_ble_eq_true rfl) rfl rfl rfl ?_
              refine x_iload (pc := 115) d_Pat_extend_115 rfl ?_
              refine x_aload_n (pc := 117) d_Pat_extend_117 rfl ?_
              refine x_get (pc := 118) (j := 4) d_Pat_extend_118 f_Pat_21 rfl rfl (Nat.le_of_ble_eq_true rfl) rfl rfl rfl ?_
              refine x_iload_n (pc := 121) d_Pat_extend_121 rfl ?_
              refine x_iald (pc := 122) d_Pat_extend_122 rfl (vp_in_nI (by omega) (by decide)) ?_
              refine y_iast (pc := 123) d_Pat_extend_123 rfl (fun _ => rfl) (vp_in_nI (by omega) (by decide)) ?_
              refine x_goto (pc := 124) (tgt := 155) d_Pat_extend_124 (by decide) ?_
              refine y_inc4 (pc := 155) (v := 1) d_Pat_extend_155 (by decide) ?_
              refine x_goto (pc := 158) (tgt := 10) d_Pat_extend_158 (by decide) ?_
              have hlt := (zEc_lt (b := 9000) (by omega) hB3 (bB_mono hB2 (by omega))).mp (Int32.not_le.mp h99)
              simp only [ct, cfr]
              rw [za3 A (by decide), za_za]
              rw [show nI (k + 1) + 1 = nI (k + 1 + 1) from (nI_succ (k + 1)).symm]
              rw [hst] at ih
              refine ih _ _ (fun i hi => ?_) _ _ _ rfl rfl rfl
              show _ = zEc (sc (zX1 zMS _ _ _ i)) ∧ _ = nI (sw (zX1 zMS _ _ _ i))
              unfold zX1
              rw [zMS_p]
              by_cases hip : i = (S ||| 2 ^ k) * 9 + (k + 1)
              · rw [if_pos hip, hip, sc_sa, sw_sa]
                rw [if_pos ((oltb_iff _ _).mpr hlt), omin_gt hlt]
                exact ⟨upd_at _ _ _, (upd_at _ _ _).trans hfr2.2⟩
              · rw [if_neg hip]
                have z := hfg i hi
                exact ⟨(upd_ne _ _ hip).trans z.1, (upd_ne _ _ hip).trans z.2⟩
        · refine x_goto (pc := 61) (tgt := 155) d_Pat_extend_61 (by decide) ?_
          refine y_inc4 (pc := 155) (v := 1) d_Pat_extend_155 (by decide) ?_
          refine x_goto (pc := 158) (tgt := 10) d_Pat_extend_158 (by decide) ?_
          rw [show nI (k + 1) + 1 = nI (k + 1 + 1) from (nI_succ (k + 1)).symm]
          have hno : ¬ zfo W S k = true := by
            rw [← hfb]
            have z : nI (zfS W S (W.n - 1)) &&& nI (2 ^ k) = 0 := h58
            rw [(zz_in hfS (by omega)).mp z]; simp
          rw [if_neg hno] at hst
          rw [hst] at ih
          exact ih f g hfg _ _ _ rfl c6 c7
  refine CU.of (lv := [.ref 6, .int (nI S), .int (nI a), zu, zu, zu, zu, zu]) k_Pat_extend.1 rfl (by decide) rfl rfl (Nat.le_of_ble_eq_true rfl) ?_
  refine x_iload_n (pc := 0) d_Pat_extend_0 rfl ?_
  refine x_bipush (pc := 1) (v := 9) d_Pat_extend_1 (by decide) ?_
  refine x_imul (pc := 3) d_Pat_extend_3 ?_
  refine x_iload_n (pc := 4) d_Pat_extend_4 rfl ?_
  refine x_iadd (pc := 5) d_Pat_extend_5 ?_
  rw [e0]
  refine y_ist3 (pc := 6) d_Pat_extend_6 ?_
  refine x_iconst (pc := 7) (v := 1) d_Pat_extend_7 (by decide) ?_
  refine y_ist4 (pc := 8) d_Pat_extend_8 ?_
  have h0 := hL 0 (Nat.zero_le _) (A 9) (A 10) ht zu zu zu rfl rfl rfl
  rw [za_self, za_self] at h0
  exact h0
