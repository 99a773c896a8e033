theorem zFs_tr {V V1 V2 : zV} (h : zFs V V1) (h' : zFs V1 V2) : zFs V V2 := fun k j q => (h' k j q).trans (h k j q)
theorem zFs_rf (V : zV) : zFs V V := fun _ _ _ => rfl
set_option maxRecDepth 100000 in
set_option maxHeartbeats 4000000 in
theorem c_Mo_costOf_a {W : zW} (V A : zV) (hW : zWok W) (hR : WR W V A) (x : Nat → Nat) (L : Nat) (hL : L ≤ 20) (hs : V 36 12 = nI L) (hx : ∀ i, i < L → A 43 i = nI (x i) ∧ x i < W.n) : CQ Y_Mo_costOf 1 [.ref 36, .int 0, .int (-1)] V A (fun r V' A' => r = zEf (zPC W x L) ∧ zFs V V' ∧ A' = A) := by
  have hl := l_Mo_costOf V A hW hR x L (by omega) (fun i hi => (hx i hi).2) 0 (-1) (fun k hk V1 hF c a m q hX => ?_)
  · refine CQ.of (lv := [.ref 36, .int 0, .int (-1), zu, zu, zu, zu, zu, zu]) k_Mo_costOf.1 rfl (by decide) rfl rfl (Nat.le_of_ble_eq_true rfl) ?_
    refine x_iload_n (pc := 0) d_Mo_costOf_0 rfl ?_
    refine x_if_ge (pc := 1) (tgt := 11) d_Mo_costOf_1 (by decide) (fun h => absurd h (by decide)) (fun _ => ?_)
    refine x_aload_n (pc := 4) d_Mo_costOf_4 rfl ?_
    refine x_get (pc := 5) (j := 12) d_Mo_costOf_5 f_Mo_181 rfl rfl (Nat.le_of_ble_eq_true rfl) rfl rfl rfl ?_
    refine x_goto (pc := 8) (tgt := 17) d_Mo_costOf_8 (by decide) ?_
    rw [hs]
    refine y_ist3 (pc := 17) d_Mo_costOf_17 ?_
    refine x_iconst (pc := 18) (v := 0) d_Mo_costOf_18 (by decide) ?_
    refine y_ist4 (pc := 19) d_Mo_costOf_19 ?_
    refine x_iconst (pc := 21) (v := 0) d_Mo_costOf_21 (by decide) ?_
    refine y_ist5 (pc := 22) d_Mo_costOf_22 ?_
    refine x_iconst (pc := 24) (v := 0) d_Mo_costOf_24 (by decide) ?_
    refine y_ist6 (pc := 25) d_Mo_costOf_25 ?_
    refine x_aload_n (pc := 27) d_Mo_costOf_27 rfl ?_
    refine x_iconst (pc := 28) (v := 0) d_Mo_costOf_28 (by decide) ?_
    refine y_put (pc := 29) (j := 22) d_Mo_costOf_29 f_Mo_92 rfl rfl (Nat.le_of_ble_eq_true rfl) rfl (Nat.le_of_ble_eq_true rfl) rfl rfl (fun _ => rfl) ?_
    refine x_aload_n (pc := 32) d_Mo_costOf_32 rfl ?_
    refine x_iconst (pc := 33) (v := 0) d_Mo_costOf_33 (by decide) ?_
    refine y_put (pc := 34) (j := 23) d_Mo_costOf_34 f_Mo_98 rfl rfl (Nat.le_of_ble_eq_true rfl) rfl (Nat.le_of_ble_eq_true rfl) rfl rfl (fun _ => rfl) ?_
    refine x_aload_n (pc := 37) d_Mo_costOf_37 rfl ?_
    refine x_iconst (pc := 38) (v := 0) d_Mo_costOf_38 (by decide) ?_
    refine y_put (pc := 39) (j := 24) d_Mo_costOf_39 f_Mo_95 rfl rfl (Nat.le_of_ble_eq_true rfl) rfl (Nat.le_of_ble_eq_true rfl) rfl rfl (fun _ => rfl) ?_
    refine x_iconst (pc := 42) (v := 0) d_Mo_costOf_42 (by decide) ?_
    refine y_ist7 (pc := 43) d_Mo_costOf_43 ?_
    exact hl 0 (Nat.zero_le _) 0 0 0 0 0 0 _ _ rfl rfl ((((zFs_rf V).up (Or.inl rfl) 0).up (Or.inr (Or.inl rfl)) 0).up (Or.inr (Or.inr rfl)) 0) rfl rfl rfl (by omega) (by omega) (by omega) hW.h1 (Nat.le_refl _) (fun z _ => z.symm)
  · have ck : (nI k).toNatClampNeg = k := nI_clamp (by omega)
    refine x_iload_n (pc := 51) d_Mo_costOf_51 rfl ?_
    refine x_if_lt (pc := 52) (tgt := 61) d_Mo_costOf_52 (by decide) (fun _ => ?_) (fun h => absurd h (by decide))
    refine x_aload_n (pc := 61) d_Mo_costOf_61 rfl ?_
    refine x_get (pc := 62) (j := 11) d_Mo_costOf_62 f_Mo_42 rfl rfl (Nat.le_of_ble_eq_true rfl) rfl rfl rfl ?_
    refine x_iload (pc := 65) d_Mo_costOf_65 rfl ?_
    refine x_iald (pc := 67) d_Mo_costOf_67 rfl (vp_in_nI (by omega) (by decide)) ?_
    refine x_goto (pc := 68) (tgt := 90) d_Mo_costOf_68 (by decide) ?_
    rw [ck, (hx k hk).1]
    exact hX
set_option maxRecDepth 100000 in
set_option maxHeartbeats 4000000 in
theorem c_Mo_costOf_b {W : zW} (V A : zV) (hW : zWok W) (hR : WR W V A) (x : Nat → Nat) (L v p : Nat) (hL : L ≤ 19) (hs : V 36 12 = nI L) (hx : ∀ i, i < L → A 43 i = nI (x i) ∧ x i < W.n) (hv : v < W.n) (hp : p ≤ L) : CQ Y_Mo_costOf 1 [.ref 36, .int (nI v), .int (nI p)] V A (fun r V' A' => r = zEf (zPC W (xi x v p) (L + 1)) ∧ zFs V V' ∧ A' = A) := by
  have hpn : ¬ nI p < 0 := by rw [show (0 : Int32) = nI 0 from rfl]; exact nI_nlt (Nat.zero_le p) (by omega)
  have hpg : 0 ≤ nI p := by rw [show (0 : Int32) = nI 0 from rfl]; exact nI_le (Nat.zero_le p) (by omega)
  have hxi : ∀ i, i < L + 1 → xi x v p i < W.n := by
    intro i hi
    unfold xi
    split
    · exact (hx i (by omega)).2
    · split
      · exact hv
      · exact (hx (i - 1) (by omega)).2
  have hl := l_Mo_costOf V A hW hR (xi x v p) (L + 1) (by omega) hxi (nI v) (nI p) (fun k hk V1 hF c a m q hX => ?_)
  · refine CQ.of (lv := [.ref 36, .int (nI v), .int (nI p), zu, zu, zu, zu, zu, zu]) k_Mo_costOf.1 rfl (by decide) rfl rfl (Nat.le_of_ble_eq_true rfl) ?_
    refine x_iload_n (pc := 0) d_Mo_costOf_0 rfl ?_
    refine x_if_ge (pc := 1) (tgt := 11) d_Mo_costOf_1 (by decide) (fun h1 => ?_) (fun h => absurd hpg h)
    refine x_aload_n (pc := 11) d_Mo_costOf_11 rfl ?_
    refine x_get (pc := 12) (j := 12) d_Mo_costOf_12 f_Mo_181 rfl rfl (Nat.le_of_ble_eq_true rfl) rfl rfl rfl ?_
    refine x_iconst (pc := 15) (v := 1) d_Mo_costOf_15 (by decide) ?_
    refine x_iadd (pc := 16) d_Mo_costOf_16 ?_
    rw [hs, show nI L + 1 = nI (L + 1) from (nI_succ L).symm]
    refine y_ist3 (pc := 17) d_Mo_costOf_17 ?_
    refine x_iconst (pc := 18) (v := 0) d_Mo_costOf_18 (by decide) ?_
    refine y_ist4 (pc := 19) d_Mo_costOf_19 ?_
    refine x_iconst (pc := 21) (v := 0) d_Mo_costOf_21 (by decide) ?_
    refine y_ist5 (pc := 22) d_Mo_costOf_22 ?_
    refine x_iconst (pc := 24) (v := 0) d_Mo_costOf_24 (by decide) ?_
    refine y_ist6 (pc := 25) d_Mo_costOf_25 ?_
    refine x_aload_n (pc := 27) d_Mo_costOf_27 rfl ?_
    refine x_iconst (pc := 28) (v := 0) d_Mo_costOf_28 (by decide) ?_
    refine y_put (pc := 29) (j := 22) d_Mo_costOf_29 f_Mo_92 rfl rfl (Nat.le_of_ble_eq_true rfl) rfl (Nat.le_of_ble_eq_true rfl) rfl rfl (fun _ => rfl) ?_
    refine x_aload_n (pc := 32) d_Mo_costOf_32 rfl ?_
    refine x_iconst (pc := 33) (v := 0) d_Mo_costOf_33 (by decide) ?_
    refine y_put (pc := 34) (j := 23) d_Mo_costOf_34 f_Mo_98 rfl rfl (Nat.le_of_ble_eq_true rfl) rfl (Nat.le_of_ble_eq_true rfl) rfl rfl (fun _ => rfl) ?_
    refine x_aload_n (pc := 37) d_Mo_costOf_37 rfl ?_
    refine x_iconst (pc := 38) (v := 0) d_Mo_costOf_38 (by decide) ?_
    refine y_put (pc := 39) (j := 24) d_Mo_costOf_39 f_Mo_95 rfl rfl (Nat.le_of_ble_eq_true rfl) rfl (Nat.le_of_ble_eq_true rfl) rfl rfl (fun _ => rfl) ?_
    refine x_iconst (pc := 42) (v := 0) d_Mo_costOf_42 (by decide) ?_
    refine y_ist7 (pc := 43) d_Mo_costOf_43 ?_
    exact hl 0 (Nat.zero_le _) 0 0 0 0 0 0 _ _ rfl rfl ((((zFs_rf V).up (Or.inl rfl) 0).up (Or.inr (Or.inl rfl)) 0).up (Or.inr (Or.inr rfl)) 0) rfl rfl rfl (by omega) (by omega) (by omega) hW.h1 (Nat.le_refl _) (fun z _ => z.symm)
  · have ck : (nI k).toNatClampNeg = k := nI_clamp (by omega)
    have hxk : xi x v p k = if k < p then x k else if k = p then v else x (k - 1) := rfl
    refine x_iload_n (pc := 51) d_Mo_costOf_51 rfl ?_
    refine x_if_lt (pc := 52) (tgt := 61) d_Mo_costOf_52 (by decide) (fun h => absurd h hpn) (fun h52 => ?_)
    refine x_iload (pc := 55) d_Mo_costOf_55 rfl ?_
    refine x_iload_n (pc := 57) d_Mo_costOf_57 rfl ?_
    refine x_icmp_ge (pc := 58) (tgt := 71) d_Mo_costOf_58 (by decide) (fun h58 => ?_) (fun h58 => ?_)
    · refine x_iload (pc := 71) d_Mo_costOf_71 rfl ?_
      refine x_iload_n (pc := 73) d_Mo_costOf_73 rfl ?_
      refine x_icmp_ne (pc := 74) (tgt := 81) d_Mo_costOf_74 (by decide) (fun h74 => ?_) (fun h74 => ?_)
      · refine x_aload_n (pc := 81) d_Mo_costOf_81 rfl ?_
        refine x_get (pc := 82) (j := 11) d_Mo_costOf_82 f_Mo_42 rfl rfl (Nat.le_of_ble_eq_true rfl) rfl rfl rfl ?_
        refine x_iload (pc := 85) d_Mo_costOf_85 rfl ?_
        refine x_iconst (pc := 87) (v := 1) d_Mo_costOf_87 (by decide) ?_
        refine x_isub (pc := 88) d_Mo_costOf_88 ?_
        refine x_iald (pc := 89) d_Mo_costOf_89 rfl (by rw [show nI k - 1 = nI (k - 1) from (by have hkp : ¬ k = p := fun z => h74 (by rw [z]); have hkp2 : ¬ k < p := fun z => absurd h58 (nI_ge z (by omega)); rw [show k = k - 1 + 1 by omega, nI_pred]; rfl)]; exact vp_in_nI (by omega) (by decide)) ?_
        have hkp : ¬ k = p := fun z => h74 (by rw [z])
        have hkp2 : ¬ k < p := fun z => absurd h58 (nI_ge z (by omega))
        rw [hxk, if_neg hkp2, if_neg hkp] at hX
        have e1 : nI k - 1 = nI (k - 1) := by rw [show k = k - 1 + 1 by omega, nI_pred]; rfl
        rw [e1, nI_clamp (by omega), (hx (k - 1) (by omega)).1]
        exact hX
      · refine x_iload_n (pc := 77) d_Mo_costOf_77 rfl ?_
        refine x_goto (pc := 78) (tgt := 90) d_Mo_costOf_78 (by decide) ?_
        have hkp : k = p := (nI_eq (by omega) (by omega)).mp h74
        rw [hxk, if_neg (by omega), if_pos hkp] at hX
        exact hX
    · refine x_aload_n (pc := 61) d_Mo_costOf_61 rfl ?_
      refine x_get (pc := 62) (j := 11) d_Mo_costOf_62 f_Mo_42 rfl rfl (Nat.le_of_ble_eq_true rfl) rfl rfl rfl ?_
      refine x_iload (pc := 65) d_Mo_costOf_65 rfl ?_
      refine x_iald (pc := 67) d_Mo_costOf_67 rfl (vp_in_nI (by omega) (by decide)) ?_
      refine x_goto (pc := 68) (tgt := 90) d_Mo_costOf_68 (by decide) ?_
      have hkp : k < p := by
        rcases Nat.lt_or_ge k p with z | z
        · exact z
        · exact absurd (nI_le z (by omega)) h58
      rw [hxk, if_pos hkp] at hX
      rw [ck, (hx k (by omega)).1]
      exact hX
set_option maxRecDepth 100000 in
set_option maxHeartbeats 4000000 in
theorem c_Mo_check {W : zW} (V A : zV) (hW : zWok W) (hR : WR W V A) (x : Nat → Nat) (L : Nat) (hL : L ≤ 20) (hs : V 36 12 = nI L) (hx : ∀ i, i < L → A 43 i = nI (x i) ∧ x i < W.n) : CQ Y_Mo_check 10 [.ref 36] V A (fun r V' A' => r = (if zPC W x L = none then (-1000000) else zEf (zPC W x L)) ∧ zFs (zv V 36 0 0) V' ∧ A' = A) := by
  have hR0 : WR W (zv V 36 0 0) A := hR.same (fun j h1 h2 => by rw [zv_eq, if_neg (by omega)]) (fun _ _ _ => rfl)
  refine CQ.of (lv := [.ref 36]) k_Mo_check.1 rfl (by decide) rfl rfl (Nat.le_of_ble_eq_true rfl) ?_
  refine x_aload_n (pc := 0) d_Mo_check_0 rfl ?_
  refine x_iconst (pc := 1) (v := 0) d_Mo_check_1 (by decide) ?_
  refine y_put (pc := 2) (j := 0) d_Mo_check_2 f_Mo_1 rfl rfl (Nat.le_of_ble_eq_true rfl) rfl (Nat.le_of_ble_eq_true rfl) rfl rfl (fun _ => rfl) ?_
  refine x_aload_n (pc := 5) d_Mo_check_5 rfl ?_
  refine x_iconst (pc := 6) (v := 0) d_Mo_check_6 (by decide) ?_
  refine x_iconst (pc := 7) (v := (-1)) d_Mo_check_7 (by decide) ?_
  refine y_callV (pc := 8) (c_Mo_costOf_a _ _ hW hR0 x L hL hs hx) k_Mo_costOf d_Mo_check_8 m_Mo_184 (by decide) rfl rfl rfl rfl p_Mo_costOf (K := fun v' V' A' hq => ?_)
  obtain ⟨rfl, hF, rfl⟩ := hq
  refine y_fS (pc := 11) (c_Mo_told _ _ _) k_Mo_told d_Mo_check_11 m_Mo_147 (by decide) rfl p_Mo_told (K := ?_)
  refine y_iret (pc := 14) d_Mo_check_14 rfl ?_
  exact ⟨by by_cases hz : zPC W x L = none; rw [if_pos hz, if_pos ((zEf_no (b := 40000) (by omega) (zPC_B hW x (by omega))).mpr hz)]; rw [if_neg hz, if_neg (fun q => hz ((zEf_no (b := 40000) (by omega) (zPC_B hW x (by omega))).mp q))], hF, rfl⟩
set_option maxRecDepth 100000 in
set_option maxHeartbeats 4000000 in
theorem c_CW_insert {W : zW} (V A : zV) (hW : zWok W) (hC : WC W V A) (x : Nat → Nat) (L : Nat) (hs : V 33 3 = nI L) (v : Int32) (hL : L ≤ 20) (hx : ∀ i, i < L → A 34 i = nI (x i) ∧ x i < W.n) : CQ Y_CW_insert 10 [.ref 0, .int v] V A (fun r V' A' => (¬ (0 < v ∧ v < nI W.n) ∧ r = (-2000000) ∧ V' = V ∧ A' = A) ∨ ((0 < v ∧ v < nI W.n) ∧ L = 20 ∧ r = (-3000000) ∧ V' = V ∧ A' = A) ∨ ∃ j, v = nI j ∧ 1 ≤ j ∧ j < W.n ∧ L < 20 ∧ r = (zIp W x j L (L + 1)).2 ∧ V' = V ∧ ∃ f, A' = za A 35 f) := by
  have h9 := hW.h9
  refine CQ.of (lv := [.ref 0, .int v]) k_CW_insert.1 rfl (by decide) rfl rfl (Nat.le_of_ble_eq_true rfl) ?_
  refine x_aload_n (pc := 0) d_CW_insert_0 rfl ?_
  refine x_get (pc := 1) (j := 0) d_CW_insert_1 f_CW_10 rfl rfl (Nat.le_of_ble_eq_true rfl) rfl rfl rfl ?_
  refine x_iload_n (pc := 4) d_CW_insert_4 rfl ?_
  refine y_bV (pc := 5) (c_Net_isPlace _ _ _) k_Net_isPlace d_CW_insert_5 m_CW_105 (by decide) rfl rfl rfl rfl p_Net_isPlace (K1 := fun q5 => ?_) (K0 := fun q5 => ?_)
  · refine x_if_ne (pc := 8) (tgt := 14) d_CW_insert_8 (by decide) (fun _ => ?_) (fun h => absurd h (by decide))
    refine x_aload_n (pc := 14) d_CW_insert_14 rfl ?_
    refine x_get (pc := 15) (j := 8) d_CW_insert_15 f_CW_79 rfl rfl (Nat.le_of_ble_eq_true rfl) rfl rfl rfl ?_
    refine x_get (pc := 18) (j := 3) d_CW_insert_18 f_CW_203 rfl rfl (Nat.le_of_ble_eq_true rfl) rfl rfl rfl ?_
    rw [hs]
    rw [hC.n] at q5
    refine x_bipush (pc := 21) (v := 20) d_CW_insert_21 (by decide) ?_
    refine x_icmp_lt (pc := 23) (tgt := 31) d_CW_insert_23 (by decide) (fun h23 => ?_) (fun h23 => ?_)
    · have hL2 : L < 20 := by
        rcases Nat.lt_or_ge L 20 with z | z
        · exact z
        · rw [show (20 : Int32) = nI 20 from rfl] at h23; exact absurd h23 (nI_nlt z (by omega))
      obtain ⟨j, hj, rfl⟩ := z_nat (Int32.le_of_lt q5.1) q5.2 (by omega)
      have hj1 : 1 ≤ j := by
        rcases Nat.eq_zero_or_pos j with z | z
        · subst z; exact absurd q5.1 (by decide)
        · exact z
      refine x_aload_n (pc := 31) d_CW_insert_31 rfl ?_
      refine x_get (pc := 32) (j := 8) d_CW_insert_32 f_CW_79 rfl rfl (Nat.le_of_ble_eq_true rfl) rfl rfl rfl ?_
      refine x_iload_n (pc := 35) d_CW_insert_35 rfl ?_
      refine y_callV (pc := 36) (c_Row_cheapestPlace _ _ hW hC x L hs j (by omega) hx hj) k_Row_cheapestPlace d_CW_insert_36 m_CW_213 (by decide) rfl rfl rfl rfl p_Row_cheapestPlace (K := fun v' V' A' hq => ?_)
      obtain ⟨rfl, rfl, f, rfl⟩ := hq
      refine y_iret (pc := 39) d_CW_insert_39 rfl ?_
      exact Or.inr (Or.inr ⟨j, rfl, hj1, hj, hL2, rfl, rfl, f, rfl⟩)
    · refine x_ldc (pc := 26) (v := (-3000000)) d_CW_insert_26 i_CW_88 ?_
      refine x_goto (pc := 28) (tgt := 39) d_CW_insert_28 (by decide) ?_
      refine y_iret (pc := 39) d_CW_insert_39 rfl ?_
      exact Or.inr (Or.inl ⟨q5, by rcases Nat.lt_or_ge L 20 with z | z; exact absurd (by rw [show (20 : Int32) = nI 20 from rfl]; exact nI_lt z (by omega)) h23; omega, rfl, rfl, rfl⟩)
  · refine x_if_ne (pc := 8) (tgt := 14) d_CW_insert_8 (by decide) (fun h => absurd h (by decide)) (fun _ => ?_)
    refine x_ldc (pc := 11) (v := (-2000000)) d_CW_insert_11 i_CW_83 ?_
    refine y_iret (pc := 13) d_CW_insert_13 rfl ?_
    exact Or.inl ⟨fun z => q5 (by rw [hC.n]; exact z), rfl, rfl, rfl⟩
set_option maxRecDepth 100000 in
set_option maxHeartbeats 4000000 in
theorem c_Mo_insert {W : zW} (V A : zV) (hW : zWok W) (hR : WR W V A) (x : Nat → Nat) (L : Nat) (hs : V 36 12 = nI L) (v : Int32) (hL : L ≤ 20) (hx : ∀ i, i < L → A 43 i = nI (x i) ∧ x i < W.n) : CQ Y_Mo_insert 10 [.ref 36, .int v] V A (fun r V' A' => (¬ (0 < v ∧ v < nI W.n) ∧ r = (-2000000) ∧ V' = zv V 36 0 0 ∧ A' = A) ∨ ((0 < v ∧ v < nI W.n) ∧ L = 20 ∧ r = (-3000000) ∧ V' = zv V 36 0 0 ∧ A' = A) ∨ ∃ j, v = nI j ∧ 1 ≤ j ∧ j < W.n ∧ L < 20 ∧ r = (zIp W x j L (L + 1)).2 ∧ zFs (zv V 36 0 0) V' ∧ A' = A) := by
  have h9 := hW.h9
  have hR0 : WR W (zv V 36 0 0) A := hR.same (fun j h1 h2 => by rw [zv_eq, if_neg (by omega)]) (fun _ _ _ => rfl)
  have hS : ∀ j, v = nI j → 1 ≤ j → j < W.n → L < 20 → ∀ k, k ≤ L + 1 → ∀ (V1 : zV) (q : Value), q.category = 1 → zFs (zv V 36 0 0) V1 → X Y_Mo_insert (zrm 10) (0, fun _ => 0) (zFq 10 (fun r V' A' => (¬ (0 < v ∧ v < nI W.n) ∧ r = (-2000000) ∧ V' = zv V 36 0 0 ∧ A' = A) ∨ ((0 < v ∧ v < nI W.n) ∧ L = 20 ∧ r = (-3000000) ∧ V' = zv V 36 0 0 ∧ A' = A) ∨ ∃ j, v = nI j ∧ 1 ≤ j ∧ j < W.n ∧ L < 20 ∧ r = (zIp W x j L (L + 1)).2 ∧ zFs (zv V 36 0 0) V' ∧ A' = A)) 41 [.ref 36, .int v, .int (zIp W x j L k).2, .int (zEf (zIp W x j L k).1), .int (nI k), q] [] (cells V1 A) 0 0 := by
    intro j hj0 hj1 hj2 hL2
    refine z_down (fun V1 q hq hF => ?_) (fun k hk ih V1 q hq hF => ?_)
    · refine x_iload (pc := 41) d_Mo_insert_41 rfl ?_
      refine x_aload_n (pc := 43) d_Mo_insert_43 rfl ?_
      refine x_get (pc := 44) (j := 12) d_Mo_insert_44 f_Mo_181 rfl rfl (Nat.le_of_ble_eq_true rfl) rfl rfl rfl ?_
      rw [show V1 36 12 = nI L from (hF 36 12 (by omega)).trans hs]
      refine x_icmp_gt (pc := 47) (tgt := 77) d_Mo_insert_47 (by decide) (fun h47 => ?_) (fun h => absurd (nI_lt (by omega) (by omega)) h)
      refine x_iload_n (pc := 77) d_Mo_insert_77 rfl ?_
      refine y_iret (pc := 78) d_Mo_insert_78 rfl ?_
      exact Or.inr (Or.inr ⟨j, hj0, hj1, hj2, hL2, rfl, hF, rfl⟩)
    · have hb1 := zPC_B hW (xi x j k) (L := L + 1) (by omega)
      have hb2 := zIp_B hW x j (L := L) (by omega) k
      have hst := zIp_s W x j L k
      refine x_iload (pc := 41) d_Mo_insert_41 rfl ?_
      refine x_aload_n (pc := 43) d_Mo_insert_43 rfl ?_
      refine x_get (pc := 44) (j := 12) d_Mo_insert_44 f_Mo_181 rfl rfl (Nat.le_of_ble_eq_true rfl) rfl rfl rfl ?_
      rw [show V1 36 12 = nI L from (hF 36 12 (by omega)).trans hs]
      refine x_icmp_gt (pc := 47) (tgt := 77) d_Mo_insert_47 (by decide) (fun h => absurd h (nI_nlt (by omega) (by omega))) (fun h47 => ?_)
      refine x_aload_n (pc := 50) d_Mo_insert_50 rfl ?_
      refine x_iload_n (pc := 51) d_Mo_insert_51 rfl ?_
      refine x_iload (pc := 52) d_Mo_insert_52 rfl ?_
      rw [hj0]
      refine y_callV (pc := 54) (c_Mo_costOf_b _ _ hW (hF.R hR0) x L j k (by omega) ((hF 36 12 (by omega)).trans hs) hx hj2 (by omega)) k_Mo_costOf d_Mo_insert_54 m_Mo_184 (by decide) rfl rfl rfl rfl p_Mo_costOf (K := fun v' V' A' hq => ?_)
      obtain ⟨rfl, hF2, rfl⟩ := hq
      refine y_ist5 (pc := 57) d_Mo_insert_57 ?_
      refine x_iload (pc := 59) d_Mo_insert_59 rfl ?_
      refine x_iload_n (pc := 61) d_Mo_insert_61 rfl ?_
      refine x_icmp_ge (pc := 62) (tgt := 71) d_Mo_insert_62 (by decide) (fun h62 => ?_) (fun h62 => ?_)
      · refine y_inc4 (pc := 71) (v := 1) d_Mo_insert_71 (by decide) ?_
        refine x_goto (pc := 74) (tgt := 41) d_Mo_insert_74 (by decide) ?_
        rw [show nI k + 1 = nI (k + 1) from (nI_succ k).symm]
        rw [if_neg (fun z => (Int32.not_lt.mpr h62) ((zEf_lt (by omega) hb1 hb2).mpr ((oltb_iff _ _).mp z)))] at hst
        rw [hst, hj0] at ih
        exact ih _ _ rfl (zFs_tr hF hF2)
      · refine x_iload (pc := 65) d_Mo_insert_65 rfl ?_
        refine y_ist3 (pc := 67) d_Mo_insert_67 ?_
        refine x_iload (pc := 68) d_Mo_insert_68 rfl ?_
        refine y_ist2 (pc := 70) d_Mo_insert_70 ?_
        refine y_inc4 (pc := 71) (v := 1) d_Mo_insert_71 (by decide) ?_
        refine x_goto (pc := 74) (tgt := 41) d_Mo_insert_74 (by decide) ?_
        rw [show nI k + 1 = nI (k + 1) from (nI_succ k).symm]
        rw [if_pos ((oltb_iff _ _).mpr ((zEf_lt (by omega) hb1 hb2).mp (Int32.not_le.mp h62)))] at hst
        rw [hst, hj0] at ih
        exact ih _ _ rfl (zFs_tr hF hF2)
  refine CQ.of (lv := [.ref 36, .int v, zu, zu, zu, zu]) k_Mo_insert.1 rfl (by decide) rfl rfl (Nat.le_of_ble_eq_true rfl) ?_
  refine x_aload_n (pc := 0) d_Mo_insert_0 rfl ?_
  refine x_iconst (pc := 1) (v := 0) d_Mo_insert_1 (by decide) ?_
  refine y_put (pc := 2) (j := 0) d_Mo_insert_2 f_Mo_1 rfl rfl (Nat.le_of_ble_eq_true rfl) rfl (Nat.le_of_ble_eq_true rfl) rfl rfl (fun _ => rfl) ?_
  refine x_aload_n (pc := 5) d_Mo_insert_5 rfl ?_
  refine x_iload_n (pc := 6) d_Mo_insert_6 rfl ?_
  refine y_bV (pc := 7) (c_Mo_noNode _ _ v W.n hR0.n hW.h1 hW.h9) k_Mo_noNode d_Mo_insert_7 m_Mo_74 (by decide) rfl rfl rfl rfl p_Mo_noNode (K1 := fun q7 => ?_) (K0 := fun q7 => ?_)
  · refine x_if_ne (pc := 10) (tgt := 17) d_Mo_insert_10 (by decide) (fun _ => ?_) (fun h => absurd h (by decide))
    refine x_ldc (pc := 17) (v := (-2000000)) d_Mo_insert_17 i_Mo_78 ?_
    refine y_iret (pc := 19) d_Mo_insert_19 rfl ?_
    exact Or.inl ⟨fun z => q7 ⟨Int32.le_of_lt z.1, z.2⟩, rfl, rfl, rfl⟩
  · refine x_if_ne (pc := 10) (tgt := 17) d_Mo_insert_10 (by decide) (fun h => absurd h (by decide)) (fun _ => ?_)
    refine x_iload_n (pc := 13) d_Mo_insert_13 rfl ?_
    refine x_if_ne (pc := 14) (tgt := 20) d_Mo_insert_14 (by decide) (fun h14 => ?_) (fun h14 => ?_)
    · refine x_aload_n (pc := 20) d_Mo_insert_20 rfl ?_
      refine x_get (pc := 21) (j := 12) d_Mo_insert_21 f_Mo_181 rfl rfl (Nat.le_of_ble_eq_true rfl) rfl rfl rfl ?_
      refine x_bipush (pc := 24) (v := 20) d_Mo_insert_24 (by decide) ?_
      refine x_icmp_ne (pc := 26) (tgt := 32) d_Mo_insert_26 (by decide) (fun h26 => ?_) (fun h26 => ?_)
      · refine x_ldc (pc := 32) (v := (-1000000)) d_Mo_insert_32 i_Mo_88 ?_
        refine y_ist2 (pc := 34) d_Mo_insert_34 ?_
        refine x_ldc (pc := 35) (v := 900000) d_Mo_insert_35 i_Mo_101 ?_
        refine y_ist3 (pc := 37) d_Mo_insert_37 ?_
        refine x_iconst (pc := 38) (v := 0) d_Mo_insert_38 (by decide) ?_
        refine y_ist4 (pc := 39) d_Mo_insert_39 ?_
        have hL2 : L < 20 := by
          rcases Nat.lt_or_ge L 20 with z | z
          · exact z
          · exact absurd (by show V 36 12 = 20; rw [hs, show L = 20 by omega]; rfl) h26
        have q7' := Classical.byContradiction q7
        obtain ⟨j, hj, hj0⟩ := z_nat q7'.1 q7'.2 (by omega)
        have hj1 : 1 ≤ j := by
          rcases Nat.eq_zero_or_pos j with z | z
          · rw [hj0, z] at h14; exact absurd rfl h14
          · exact z
        exact hS j hj0 hj1 hj hL2 0 (Nat.zero_le _) _ _ rfl (zFs_rf _)
      · refine x_ldc (pc := 29) (v := (-3000000)) d_Mo_insert_29 i_Mo_79 ?_
        refine y_iret (pc := 31) d_Mo_insert_31 rfl ?_
        have q7' := Classical.byContradiction q7
        have h26 : V 36 12 = 20 := h26
        rw [hs] at h26
        have hL2 : L = 20 := (nI_eq (by omega) (by omega)).mp h26
        refine Or.inr (Or.inl ⟨⟨?_, q7'.2⟩, hL2, rfl, rfl, rfl⟩)
        rw [z_lt, z_t0]
        have z1 := q7'.1
        rw [z_le, z_t0] at z1
        rw [z_eq, z_t0] at h14
        omega
    · refine x_ldc (pc := 17) (v := (-2000000)) d_Mo_insert_17 i_Mo_78 ?_
      refine y_iret (pc := 19) d_Mo_insert_19 rfl ?_
      exact Or.inl ⟨fun z => by rw [h14] at z; exact absurd z.1 (by decide), rfl, rfl, rfl⟩
section P9
variable {SH : Int32 → Int32 → Int32 → Int32 → (Nat → Int32) → (Nat → Int32) → (Nat → Int32) → (Nat → Int32) → (Nat → Nat → Int32) → Prop}
variable {TA : Int32 → Int32 → Int32 → Int32 → (Nat → Int32) → (Nat → Int32) → (Nat → Int32) → (Nat → Int32) → Int32 → Int32 → (Nat → Int32) → Prop}
variable {FI : Int32 → Int32 → Int32 → Int32 → (Nat → Int32) → (Nat → Int32) → (Nat → Int32) → (Nat → Int32) → Int32 → (Nat → Int32) → Prop}
variable {KN : Int32 → Int32 → Int32 → Int32 → (Nat → Int32) → (Nat → Int32) → (Nat → Int32) → (Nat → Int32) → Int32 → Int32 → Int32 → (Nat → Int32) → (Nat → Int32) → (Nat → Int32) → Prop}
theorem Inv.row {c : Nat} {V A : zV} (hI : Inv SH TA FI KN c V A) : ∃ W, zWok W ∧ WC W V A ∧ WR W V A ∧ ∃ (x : Nat → Nat) (L : Nat), V 33 3 = nI L ∧ V 36 12 = nI L ∧ L ≤ 20 ∧ (∀ i, i < L → A 34 i = nI (x i) ∧ x i < W.n) ∧ ∀ i, i < L → A 43 i = nI (x i) ∧ x i < W.n := by
  obtain ⟨W, hW, hC, hR⟩ := hI.W
  have h9 := hW.h9
  obtain ⟨n, ch, ⟨⟨h1, h9'⟩, hn, hn'⟩, -, -, -, -, -, -, -, ⟨q1, L, q2, q3, q4⟩, -, -, -⟩ := hI
  have en : n = W.n := (nI_eq (by omega) (by omega)).mp (hn.symm.trans hC.n)
  subst en
  have e : ∀ i, i < L → A 34 i = nI (A 34 i).toNatClampNeg ∧ (A 34 i).toNatClampNeg < W.n := by
    intro i hi
    obtain ⟨-, j, hj, hj2⟩ := q4 i hi
    rw [hj2, nI_clamp (by omega)]
    exact ⟨rfl, hj⟩
  exact ⟨W, hW, hC, hR, fun i => (A 34 i).toNatClampNeg, L, q3, q1.trans q3, q2, e, fun i hi => ⟨((q4 i hi).1).trans (e i hi).1, (e i hi).2⟩⟩
theorem zFs_k {V V' : zV} (h : zFs (zv V 36 0 0) V') (k j : Nat) (hk : zkV k j = true) : V' k j = V k j := by
  have : ¬ (k = 36 ∧ (j = 22 ∨ j = 23 ∨ j = 24)) ∧ ¬ (k = 36 ∧ j = 0) := by
    constructor
    · rintro ⟨rfl, rfl | rfl | rfl⟩ <;> exact absurd hk (by decide)
    · rintro ⟨rfl, rfl⟩; exact absurd hk (by decide)
  rw [h k j this.1, zv_eq, if_neg this.2]
theorem zEc_zEf {b : Int} {o : Option Int} (hb : b < 900000) (h : oB b o) : (if o = none then (-1000000) else zEc o) = (if o = none then (-1000000) else zEf o) := by
  cases o with
  | none => rfl
  | some x => rfl
theorem pr_check : Pair SH TA FI KN Y_CW_check Y_Mo_check 10 10 [] := by
  intro c V A hc hI
  obtain ⟨W, hW, hC, hR, x, L, s1, s2, hL, x1, x2⟩ := hI.row
  refine CQ.mono (c_CW_check V A hW hC x L s1 hL x1) (fun r V1 A1 h => ?_)
  obtain ⟨rfl, rfl, rfl⟩ := h
  refine CQ.mono (c_Mo_check _ _ hW hR x L hL s2 x2) (fun r' V2 A2 h2 => ?_)
  obtain ⟨rfl, hF, rfl⟩ := h2
  exact ⟨zEc_zEf (b := 40000) (by omega) (zPC_B hW x (by omega)), hI.same (zFs_k hF) (fun _ _ => rfl)⟩
theorem pr_insert (v : Int32) : Pair SH TA FI KN Y_CW_insert Y_Mo_insert 10 10 [.int v] := by
  intro c V A hc hI
  obtain ⟨W, hW, hC, hR, x, L, s1, s2, hL, x1, x2⟩ := hI.row
  have h9 := hW.h9
  refine CQ.mono (c_CW_insert V A hW hC x L s1 v hL x1) (fun r V1 A1 h => ?_)
  rcases h with ⟨q, rfl, rfl, rfl⟩ | ⟨q, q1, rfl, rfl, rfl⟩ | ⟨j, rfl, j1, j2, q1, rfl, rfl, f, rfl⟩
  · refine CQ.mono (c_Mo_insert _ _ hW hR x L s2 v hL x2) (fun r' V2 A2 h2 => ?_)
    rcases h2 with ⟨-, rfl, rfl, rfl⟩ | ⟨z, -⟩ | ⟨j, rfl, j1, j2, -⟩
    · exact ⟨rfl, hI.same (zFs_k (zFs_rf _)) (fun _ _ => rfl)⟩
    · exact absurd z q
    · exact absurd ⟨by rw [show (0 : Int32) = nI 0 from rfl]; exact nI_lt j1 (by omega), nI_lt j2 (by omega)⟩ q
  · refine CQ.mono (c_Mo_insert _ _ hW hR x L s2 v hL x2) (fun r' V2 A2 h2 => ?_)
    rcases h2 with ⟨z, -⟩ | ⟨-, -, rfl, rfl, rfl⟩ | ⟨j, -, -, -, z, -⟩
    · exact absurd q z
    · exact ⟨rfl, hI.same (zFs_k (zFs_rf _)) (fun _ _ => rfl)⟩
    · omega
  · have hR2 : WR W V1 (za A 35 f) := hR.same (fun _ _ _ => rfl) (fun k h1 h2 => by rw [za_eq, if_neg (by omega)])
    refine CQ.mono (c_Mo_insert _ _ hW hR2 x L s2 (nI j) hL x2) (fun r' V2 A2 h2 => ?_)
    rcases h2 with ⟨z, -⟩ | ⟨-, z, -⟩ | ⟨j', e, -, j2', -, rfl, hF, rfl⟩
    · exact absurd ⟨by rw [show (0 : Int32) = nI 0 from rfl]; exact nI_lt j1 (by omega), nI_lt j2 (by omega)⟩ z
    · omega
    · rw [(nI_eq (by omega) (by omega)).mp e]
      refine ⟨rfl, hI.same (zFs_k hF) (fun k hk => ?_)⟩
      rw [za_eq, if_neg (fun z => by rw [z] at hk; exact absurd hk (by decide))]
end P9
