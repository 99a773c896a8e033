set_option maxRecDepth 100000 in
set_option maxHeartbeats 4000000 in
theorem c_Row_roundCost_34 {W : zW} (V A : zV) (hW : zWok W) (hC : WC W V A) (x : Nat → Nat) (s e : Nat) (hse : s ≤ e) (he : e ≤ 20) (hx : ∀ i, s ≤ i → i < e → A 34 i = nI (x i) ∧ 1 ≤ x i ∧ x i < W.n) : CQ Y_Row_roundCost 1 [.ref 33, .ref 34, .int (nI s), .int (nI e)] V A (fun r V' A' => r = zEc (zRC W x s (e - s)) ∧ V' = V ∧ A' = A) := by
  have h9 := hW.h9
  have hS : ∀ k, k ≤ e - s → ∀ (o : Option Int) (H l a : Nat), oB (1000 * k) o → H < 256 → l ≤ 100 * k → a < 9 → zPS W x s k = o.map (fun c => (c, H, l, a)) → ∀ q : Value, q.category = 1 → X Y_Row_roundCost (zrm 1) (0, fun _ => 0) (zFq 1 (fun r V' A' => r = zEc (zRC W x s (e - s)) ∧ V' = V ∧ A' = A)) 15 [.ref 33, .ref 34, .int (nI s), .int (nI e), .int (zEc o), .int (nI H), .int (nI l), .int (nI a), .int (nI (s + k)), q] [] (cells V A) 0 0 := by
    refine z_down (fun o H l a hB hH hl ha hP q hq => ?_) (fun k hk ih o H l a hB hH hl ha hP q hq => ?_)
    · have hR := zRC_map hP
      refine x_iload (pc := 15) d_Row_roundCost_15 rfl ?_
      refine x_iload_n (pc := 17) d_Row_roundCost_17 rfl ?_
      refine x_icmp_ge (pc := 18) (tgt := 106) d_Row_roundCost_18 (by decide) (fun h18 => ?_) (fun h => absurd (nI_le (by omega) (by omega)) h)
      refine x_iload (pc := 106) d_Row_roundCost_106 rfl ?_
      refine x_if_eq (pc := 108) (tgt := 123) d_Row_roundCost_108 (by decide) (fun h108 => ?_) (fun h108 => ?_)
      · refine x_ldc (pc := 123) (v := 1000000000) d_Row_roundCost_123 i_Row_30 ?_
        refine x_goto (pc := 125) (tgt := 142) d_Row_roundCost_125 (by decide) ?_
        refine y_iret (pc := 142) d_Row_roundCost_142 rfl ?_
        exact ⟨by rw [hR, if_pos (Or.inl ((nI_256 hH).mp h108))]; rfl, rfl, rfl⟩
      · refine x_iload (pc := 111) d_Row_roundCost_111 rfl ?_
        refine x_aload_n (pc := 113) d_Row_roundCost_113 rfl ?_
        refine x_get (pc := 114) (j := 0) d_Row_roundCost_114 f_Row_22 rfl rfl (Nat.le_of_ble_eq_true rfl) rfl rfl rfl ?_
        refine x_get (pc := 117) (j := 6) d_Row_roundCost_117 f_Row_65 rfl rfl (Nat.le_of_ble_eq_true rfl) rfl rfl rfl ?_
        refine x_icmp_le (pc := 120) (tgt := 128) d_Row_roundCost_120 (by decide) (fun h120 => ?_) (fun h120 => ?_)
        · refine x_iload (pc := 128) d_Row_roundCost_128 rfl ?_
          refine x_aload_n (pc := 130) d_Row_roundCost_130 rfl ?_
          refine x_get (pc := 131) (j := 0) d_Row_roundCost_131 f_Row_22 rfl rfl (Nat.le_of_ble_eq_true rfl) rfl rfl rfl ?_
          refine x_iload (pc := 134) d_Row_roundCost_134 rfl ?_
          refine y_fV (pc := 136) (w_costBack _ _ a hC ha) k_Net_costBack d_Row_roundCost_136 m_Row_68 (by decide) rfl rfl rfl rfl p_Net_costBack (K := ?_)
          refine y_fN (pc := 139) (w_sum _ _ (oB_mono hB (by omega)) (oB_mono (hW.bkB a) (by omega))) k_CW_sum d_Row_roundCost_139 n_Row_40 (by decide) rfl p_CW_sum (K := ?_)
          refine y_iret (pc := 142) d_Row_roundCost_142 rfl ?_
          exact ⟨by rw [hR, if_neg (by rintro (z | z); exact h108 ((nI_256 hH).mpr z); rw [hC.rm] at h120; exact absurd h120 (nI_ge z (by omega)))], rfl, rfl⟩
        · refine x_ldc (pc := 123) (v := 1000000000) d_Row_roundCost_123 i_Row_30 ?_
          refine x_goto (pc := 125) (tgt := 142) d_Row_roundCost_125 (by decide) ?_
          refine y_iret (pc := 142) d_Row_roundCost_142 rfl ?_
          exact ⟨by rw [hR, if_pos (Or.inr (by rw [hC.rm] at h120; rcases Nat.lt_or_ge W.rm l with z | z; exact z; exact absurd (nI_le z (by have := hW.rm; omega)) h120))]; rfl, rfl, rfl⟩
    · obtain ⟨hv0, hv1, hv2⟩ := hx (s + k) (by omega) (by omega)
      have hPk := zPS_map hP
      generalize hv : x (s + k) = v at hv0 hv1 hv2 hPk
      have cv : (nI v).toNatClampNeg = v := nI_clamp (by omega)
      have cs : (nI (s + k)).toNatClampNeg = s + k := nI_clamp (by omega)
      have hea := hC.ea v (by omega)
      have hlo := hC.lo v (by omega)
      have hlo1 := hW.lo v (by omega)
      have hea1 := hW.ea v (by omega)
      have ix1 : nI a * 9 + nI v = nI (a * 9 + v) := by rw [show (9 : Int32) = nI 9 from rfl, pk_mul, nI_add]
      have c1 : (nI (a * 9 + v)).toNatClampNeg = a * 9 + v := nI_clamp (by omega)
      have har := hC.ar a v ha (by omega)
      refine x_iload (pc := 15) d_Row_roundCost_15 rfl ?_
      refine x_iload_n (pc := 17) d_Row_roundCost_17 rfl ?_
      refine x_icmp_ge (pc := 18) (tgt := 106) d_Row_roundCost_18 (by decide) (fun h => absurd h (nI_ge (by omega) (by omega))) (fun h18 => ?_)
      refine x_aload_n (pc := 21) d_Row_roundCost_21 rfl ?_
      refine x_iload (pc := 22) d_Row_roundCost_22 rfl ?_
      refine x_iald (pc := 24) d_Row_roundCost_24 rfl (vp_in_nI (by omega) (by decide)) ?_
      rw [cs, hv0]
      refine y_ist9 (pc := 25) d_Row_roundCost_25 ?_
      refine x_aload_n (pc := 27) d_Row_roundCost_27 rfl ?_
      refine x_get (pc := 28) (j := 0) d_Row_roundCost_28 f_Row_22 rfl rfl (Nat.le_of_ble_eq_true rfl) rfl rfl rfl ?_
      refine x_get (pc := 31) (j := 3) d_Row_roundCost_31 f_Row_56 rfl rfl (Nat.le_of_ble_eq_true rfl) rfl rfl rfl ?_
      refine x_iload (pc := 34) d_Row_roundCost_34 rfl ?_
      refine x_iald (pc := 36) d_Row_roundCost_36 rfl (vp_in_nI (by omega) (by decide)) ?_
      refine x_iload (pc := 37) d_Row_roundCost_37 rfl ?_
      refine x_iconst (pc := 39) (v := (-1)) d_Row_roundCost_39 (by decide) ?_
      refine x_ixor (pc := 40) d_Row_roundCost_40 ?_
      refine x_iand (pc := 41) d_Row_roundCost_41 ?_
      refine x_if_eq (pc := 42) (tgt := 48) d_Row_roundCost_42 (by decide) (fun h42 => ?_) (fun h42 => ?_)
      · have hz : W.ea v &&& (255 ^^^ H) = 0 := by
          rw [cv, hea, zz_not hea1] at h42
          exact (nI_256 (and256 hea1)).mp h42
        rw [if_pos hz] at hPk
        refine x_iload (pc := 48) d_Row_roundCost_48 rfl ?_
        refine x_aload_n (pc := 50) d_Row_roundCost_50 rfl ?_
        refine x_get (pc := 51) (j := 0) d_Row_roundCost_51 f_Row_22 rfl rfl (Nat.le_of_ble_eq_true rfl) rfl rfl rfl ?_
        refine x_get (pc := 54) (j := 1) d_Row_roundCost_54 f_Row_59 rfl rfl (Nat.le_of_ble_eq_true rfl) rfl rfl rfl ?_
        refine x_iload (pc := 57) d_Row_roundCost_57 rfl ?_
        refine x_bipush (pc := 59) (v := 9) d_Row_roundCost_59 (by decide) ?_
        refine x_imul (pc := 61) d_Row_roundCost_61 ?_
        refine x_iload (pc := 62) d_Row_roundCost_62 rfl ?_
        refine x_iadd (pc := 64) d_Row_roundCost_64 ?_
        refine x_iald (pc := 65) d_Row_roundCost_65 rfl (by rw [ix1]; exact vp_in_nI (by omega) (by decide)) ?_
        rw [ix1, c1, har]
        refine y_fN (pc := 66) (w_sum _ _ (oB_mono hB (by omega)) (oB_mono (hW.arB a v) (by omega))) k_CW_sum d_Row_roundCost_66 n_Row_40 (by decide) rfl p_CW_sum (K := ?_)
        refine y_ist4 (pc := 69) d_Row_roundCost_69 ?_
        refine x_iload (pc := 71) d_Row_roundCost_71 rfl ?_
        refine x_iload (pc := 73) d_Row_roundCost_73 rfl ?_
        refine y_fN (pc := 75) (w_bit _ _ v hv1 (by omega)) k_CW_bit d_Row_roundCost_75 n_Row_32 (by decide) rfl p_CW_bit (K := ?_)
        refine x_ior (pc := 78) d_Row_roundCost_78 ?_
        refine y_ist5 (pc := 79) d_Row_roundCost_79 ?_
        refine x_iload (pc := 81) d_Row_roundCost_81 rfl ?_
        refine x_aload_n (pc := 83) d_Row_roundCost_83 rfl ?_
        refine x_get (pc := 84) (j := 0) d_Row_roundCost_84 f_Row_22 rfl rfl (Nat.le_of_ble_eq_true rfl) rfl rfl rfl ?_
        refine x_get (pc := 87) (j := 0) d_Row_roundCost_87 f_Row_62 rfl rfl (Nat.le_of_ble_eq_true rfl) rfl rfl rfl ?_
        refine x_iload (pc := 90) d_Row_roundCost_90 rfl ?_
        refine x_iald (pc := 92) d_Row_roundCost_92 rfl (vp_in_nI (by omega) (by decide)) ?_
        refine x_iadd (pc := 93) d_Row_roundCost_93 ?_
        refine y_ist6 (pc := 94) d_Row_roundCost_94 ?_
        refine x_iload (pc := 96) d_Row_roundCost_96 rfl ?_
        refine y_ist7 (pc := 98) d_Row_roundCost_98 ?_
        refine y_inc8 (pc := 100) (v := 1) d_Row_roundCost_100 (by decide) ?_
        refine x_goto (pc := 103) (tgt := 15) d_Row_roundCost_103 (by decide) ?_
        rw [cv, hlo, nI_add, nx_or, show nI (s + k) + 1 = nI (s + (k + 1)) from (nI_succ (s + k)).symm]
        exact ih _ _ _ _ (oB_mono (oB_add hB (hW.arB a v)) (by omega)) (or256 hH (zz_bit (by omega))) (by omega) (by omega) hPk _ rfl
      · refine x_ldc (pc := 45) (v := 1000000000) d_Row_roundCost_45 i_Row_30 ?_
        refine y_iret (pc := 47) d_Row_roundCost_47 rfl ?_
        exact ⟨by rw [zRC_none (zPS_none (by rw [hPk, if_neg (fun z => h42 (by rw [cv, hea, zz_not hea1, z]; rfl))] : zPS W x s (k + 1) = none) (e - s) (by omega))]; rfl, rfl, rfl⟩
  refine CQ.of (lv := [.ref 33, .ref 34, .int (nI s), .int (nI e), zu, zu, zu, zu, zu, zu]) k_Row_roundCost.1 rfl (by decide) rfl rfl (Nat.le_of_ble_eq_true rfl) ?_
  refine x_iconst (pc := 0) (v := 0) d_Row_roundCost_0 (by decide) ?_
  refine y_ist4 (pc := 1) d_Row_roundCost_1 ?_
  refine x_iconst (pc := 3) (v := 0) d_Row_roundCost_3 (by decide) ?_
  refine y_ist5 (pc := 4) d_Row_roundCost_4 ?_
  refine x_iconst (pc := 6) (v := 0) d_Row_roundCost_6 (by decide) ?_
  refine y_ist6 (pc := 7) d_Row_roundCost_7 ?_
  refine x_iconst (pc := 9) (v := 0) d_Row_roundCost_9 (by decide) ?_
  refine y_ist7 (pc := 10) d_Row_roundCost_10 ?_
  refine x_iload_n (pc := 12) d_Row_roundCost_12 rfl ?_
  refine y_ist8 (pc := 13) d_Row_roundCost_13 ?_
  exact hS 0 (Nat.zero_le _) (some 0) 0 0 0 (oB_s (by omega) (by omega)) (by omega) (by omega) (by omega) rfl _ rfl
set_option maxRecDepth 100000 in
set_option maxHeartbeats 4000000 in
theorem c_Row_planCost_34 {W : zW} (V A : zV) (hW : zWok W) (hC : WC W V A) (x : Nat → Nat) (L : Nat) (hL : L ≤ 20) (hx : ∀ i, i < L → A 34 i = nI (x i) ∧ x i < W.n) : CQ Y_Row_planCost 2 [.ref 33, .ref 34, .int (nI L)] V A (fun r V' A' => r = zEc (zPC W x L) ∧ V' = V ∧ A' = A) := by
  have h9 := hW.h9
  have hm8 := hW.m8
  have hZ : ∀ (oc : Option Int) (U r : Nat), oB 30000 oc → U < 256 → r ≤ 21 → zPC W x L = (if W.mo < r then none else oad oc (zOt W (zRst W U))) → ∀ p q : Value, p.category = 1 → q.category = 1 → X Y_Row_planCost (zrm 2) (0, fun _ => 0) (zFq 2 (fun r V' A' => r = zEc (zPC W x L) ∧ V' = V ∧ A' = A)) 114 [.ref 33, .ref 34, .int (nI L), .int (zEc oc), .int (nI U), .int (nI r), p, q] [] (cells V A) 0 0 := by
    intro oc U r hB hU hr hP p q hp hq
    refine x_iload (pc := 114) d_Row_planCost_114 rfl ?_
    refine x_aload_n (pc := 116) d_Row_planCost_116 rfl ?_
    refine x_get (pc := 117) (j := 0) d_Row_planCost_117 f_Row_22 rfl rfl (Nat.le_of_ble_eq_true rfl) rfl rfl rfl ?_
    refine x_get (pc := 120) (j := 5) d_Row_planCost_120 f_Row_44 rfl rfl (Nat.le_of_ble_eq_true rfl) rfl rfl rfl ?_
    refine x_icmp_le (pc := 123) (tgt := 131) d_Row_planCost_123 (by decide) (fun h123 => ?_) (fun h123 => ?_)
    · refine x_iload_n (pc := 131) d_Row_planCost_131 rfl ?_
      refine x_aload_n (pc := 132) d_Row_planCost_132 rfl ?_
      refine x_get (pc := 133) (j := 0) d_Row_planCost_133 f_Row_22 rfl rfl (Nat.le_of_ble_eq_true rfl) rfl rfl rfl ?_
      refine x_aload_n (pc := 136) d_Row_planCost_136 rfl ?_
      refine x_get (pc := 137) (j := 0) d_Row_planCost_137 f_Row_22 rfl rfl (Nat.le_of_ble_eq_true rfl) rfl rfl rfl ?_
      refine y_fV (pc := 140) (w_allPlaces _ _ hW hC) k_Net_allPlaces d_Row_planCost_140 m_Row_49 (by decide) rfl rfl rfl rfl p_Net_allPlaces (K := ?_)
      refine x_iload (pc := 143) d_Row_planCost_143 rfl ?_
      refine x_iconst (pc := 145) (v := (-1)) d_Row_planCost_145 (by decide) ?_
      refine x_ixor (pc := 146) d_Row_planCost_146 ?_
      refine x_iand (pc := 147) d_Row_planCost_147 ?_
      rw [zz_not (zall_lt hW)]
      refine y_fV (pc := 148) (w_costOut _ _ _ hW hC (and256 (zall_lt hW))) k_Net_costOut d_Row_planCost_148 m_Row_53 (by decide) rfl rfl rfl rfl p_Net_costOut (K := ?_)
      refine y_fN (pc := 151) (w_sum _ _ (oB_mono hB (by omega)) (oB_mono (hW.otB _) (by omega))) k_CW_sum d_Row_planCost_151 n_Row_40 (by decide) rfl p_CW_sum (K := ?_)
      refine y_iret (pc := 154) d_Row_planCost_154 rfl ?_
      exact ⟨by rw [hP, if_neg (fun z => by rw [hC.mo] at h123; exact absurd h123 (nI_ge z (by omega)))]; rfl, rfl, rfl⟩
    · refine x_ldc (pc := 126) (v := 1000000000) d_Row_planCost_126 i_Row_30 ?_
      refine x_goto (pc := 128) (tgt := 154) d_Row_planCost_128 (by decide) ?_
      refine y_iret (pc := 154) d_Row_planCost_154 rfl ?_
      exact ⟨by rw [hP, if_pos (by rw [hC.mo] at h123; rcases Nat.lt_or_ge W.mo r with z | z; exact z; exact absurd (nI_le z (by omega)) h123)]; rfl, rfl, rfl⟩
  have hS : ∀ i, i ≤ L → ∀ (oc : Option Int) (U r s : Nat), s ≤ i → r ≤ i → U < 256 → oB (1000 * s) oc → (∀ j, s ≤ j → j < i → ¬ x j = 0) → zQ W x i = zCm W.rm oc (zPS W x s (i - s)) r U (i - s) → X Y_Row_planCost (zrm 2) (0, fun _ => 0) (zFq 2 (fun r V' A' => r = zEc (zPC W x L) ∧ V' = V ∧ A' = A)) 14 [.ref 33, .ref 34, .int (nI L), .int (zEc oc), .int (nI U), .int (nI r), .int (nI s), .int (nI i)] [] (cells V A) 0 0 := by
    refine z_down (fun oc U r s hs hr hU hB hne hQ => ?_) (fun i hi ih oc U r s hs hr hU hB hne hQ => ?_)
    · refine x_iload (pc := 14) d_Row_planCost_14 rfl ?_
      refine x_iload_n (pc := 16) d_Row_planCost_16 rfl ?_
      refine x_icmp_ge (pc := 17) (tgt := 94) d_Row_planCost_17 (by decide) (fun h17 => ?_) (fun h => absurd (nI_le (by omega) (by omega)) h)
      refine x_iload_n (pc := 94) d_Row_planCost_94 rfl ?_
      refine x_if_le (pc := 95) (tgt := 114) d_Row_planCost_95 (by decide) (fun h95 => ?_) (fun h95 => ?_)
      · have hL0 : L = 0 := by
          rcases Nat.eq_zero_or_pos L with z | z
          · exact z
          · exact absurd h95 (nI_nle z (by omega))
        have hU0 : zQ W x L = some (0, 0, 0, 0, 0, 0) := by rw [hL0]; rfl
        rw [hQ] at hU0
        have hs0 : s = 0 := by omega
        have hr0 : r = 0 := by omega
        rw [hs0, hL0, hr0] at hU0
        cases oc with
        | none => rw [zCm_n1] at hU0; exact absurd hU0 (by simp)
        | some c =>
          have hU1 : (if 0 ≤ W.rm then some (c + 0, 0, if 0 = 0 then 0 else 0 + 1, U, 0, 0) else none) = some ((0 : Int), 0, 0, 0, 0, 0) := hU0
          rw [if_pos (Nat.zero_le _), if_pos rfl] at hU1
          simp only [Option.some.injEq, Prod.mk.injEq, Int.add_zero, true_and, and_true] at hU1
          obtain ⟨rfl, rfl⟩ := hU1
          exact hZ _ _ _ (oB_s (by omega) (by omega)) (by omega) (by omega) (by rw [hL0, hr0, zPC_0, if_neg (by omega), oad_0l]) _ _ rfl rfl
      · refine x_iload_n (pc := 98) d_Row_planCost_98 rfl ?_
        refine x_aload_n (pc := 99) d_Row_planCost_99 rfl ?_
        refine x_aload_n (pc := 100) d_Row_planCost_100 rfl ?_
        refine x_iload (pc := 101) d_Row_planCost_101 rfl ?_
        refine x_iload_n (pc := 103) d_Row_planCost_103 rfl ?_
        refine y_fV (pc := 104) (c_Row_roundCost_34 _ _ hW hC x s L (by omega) (by omega) (fun j h1 h2 => by have z := hx j (by omega); have z2 := hne j h1 h2; exact ⟨z.1, by omega, z.2⟩)) k_Row_roundCost d_Row_planCost_104 m_Row_36 (by decide) rfl rfl rfl rfl p_Row_roundCost (K := ?_)
        refine y_fN (pc := 107) (w_sum _ _ (oB_mono hB (by omega)) (oB_mono (zRC_B hW x s (L - s)) (by omega))) k_CW_sum d_Row_planCost_107 n_Row_40 (by decide) rfl p_CW_sum (K := ?_)
        refine y_ist3 (pc := 110) d_Row_planCost_110 ?_
        refine y_inc5 (pc := 111) (v := 1) d_Row_planCost_111 (by decide) ?_
        have hL0 : 0 < L := by
          rcases Nat.eq_zero_or_pos L with z | z
          · subst z; exact absurd (by decide) h95
          · exact z
        rw [show nI r + 1 = nI (r + 1) from (nI_succ r).symm]
        exact hZ _ _ _ (oB_mono (oB_add hB (zRC_B hW x s (L - s))) (by omega)) hU (by omega) (zPC_end hL0 hs hne hQ) _ _ rfl rfl
    · obtain ⟨hv0, hv2⟩ := hx i hi
      have ci : (nI i).toNatClampNeg = i := nI_clamp (by omega)
      by_cases h0 : x i = 0
      · refine x_iload (pc := 14) d_Row_planCost_14 rfl ?_
        refine x_iload_n (pc := 16) d_Row_planCost_16 rfl ?_
        refine x_icmp_ge (pc := 17) (tgt := 94) d_Row_planCost_17 (by decide) (fun h => absurd h (nI_ge (by omega) (by omega))) (fun h17 => ?_)
        refine x_aload_n (pc := 20) d_Row_planCost_20 rfl ?_
        refine x_iload (pc := 21) d_Row_planCost_21 rfl ?_
        refine x_iald (pc := 23) d_Row_planCost_23 rfl (vp_in_nI (by omega) (by decide)) ?_
        rw [ci, hv0, h0]
        refine x_if_eq (pc := 24) (tgt := 43) d_Row_planCost_24 (by decide) (fun h24 => ?_) (fun h => absurd rfl h)
        refine x_aload_n (pc := 43) d_Row_planCost_43 rfl ?_
        refine x_iload (pc := 44) d_Row_planCost_44 rfl ?_
        refine x_iald (pc := 46) d_Row_planCost_46 rfl (vp_in_nI (by omega) (by decide)) ?_
        rw [ci, hv0, h0]
        refine x_if_eq (pc := 47) (tgt := 65) d_Row_planCost_47 (by decide) (fun h47 => ?_) (fun h => absurd rfl h)
        refine x_iload_n (pc := 65) d_Row_planCost_65 rfl ?_
        refine x_aload_n (pc := 66) d_Row_planCost_66 rfl ?_
        refine x_aload_n (pc := 67) d_Row_planCost_67 rfl ?_
        refine x_iload (pc := 68) d_Row_planCost_68 rfl ?_
        refine x_iload (pc := 70) d_Row_planCost_70 rfl ?_
        refine y_fV (pc := 72) (c_Row_roundCost_34 _ _ hW hC x s i (by omega) (by omega) (fun j h1 h2 => by have z := hx j (by omega); have z2 := hne j h1 h2; exact ⟨z.1, by omega, z.2⟩)) k_Row_roundCost d_Row_planCost_72 m_Row_36 (by decide) rfl rfl rfl rfl p_Row_roundCost (K := ?_)
        refine y_fN (pc := 75) (w_sum _ _ (oB_mono hB (by omega)) (oB_mono (zRC_B hW x s (i - s)) (by omega))) k_CW_sum d_Row_planCost_75 n_Row_40 (by decide) rfl p_CW_sum (K := ?_)
        refine y_ist3 (pc := 78) d_Row_planCost_78 ?_
        refine y_inc5 (pc := 79) (v := 1) d_Row_planCost_79 (by decide) ?_
        refine x_iload (pc := 82) d_Row_planCost_82 rfl ?_
        refine x_iconst (pc := 84) (v := 1) d_Row_planCost_84 (by decide) ?_
        refine x_iadd (pc := 85) d_Row_planCost_85 ?_
        refine y_ist6 (pc := 86) d_Row_planCost_86 ?_
        refine y_inc7 (pc := 88) (v := 1) d_Row_planCost_88 (by decide) ?_
        refine x_goto (pc := 91) (tgt := 14) d_Row_planCost_91 (by decide) ?_
        rw [show nI r + 1 = nI (r + 1) from (nI_succ r).symm, show nI i + 1 = nI (i + 1) from (nI_succ i).symm]
        refine ih _ U (r + 1) (i + 1) (Nat.le_refl _) (by omega) hU (oB_mono (oB_add hB (zRC_B hW x s (i - s))) ?_) (fun j h1 h2 => by omega) ?_
        · have : s ≤ i := hs; omega
        · rw [Nat.sub_self]; exact zQ_house hs hne hQ h0
      · have h1v : 1 ≤ x i := by omega
        have hi0 : ¬ nI (x i) = 0 := fun z => h0 ((nI_z (by omega)).mp z)
        refine x_iload (pc := 14) d_Row_planCost_14 rfl ?_
        refine x_iload_n (pc := 16) d_Row_planCost_16 rfl ?_
        refine x_icmp_ge (pc := 17) (tgt := 94) d_Row_planCost_17 (by decide) (fun h => absurd h (nI_ge (by omega) (by omega))) (fun h17 => ?_)
        refine x_aload_n (pc := 20) d_Row_planCost_20 rfl ?_
        refine x_iload (pc := 21) d_Row_planCost_21 rfl ?_
        refine x_iald (pc := 23) d_Row_planCost_23 rfl (vp_in_nI (by omega) (by decide)) ?_
        rw [ci, hv0]
        refine x_if_eq (pc := 24) (tgt := 43) d_Row_planCost_24 (by decide) (fun h => absurd h hi0) (fun h24 => ?_)
        refine x_iload (pc := 27) d_Row_planCost_27 rfl ?_
        refine x_aload_n (pc := 29) d_Row_planCost_29 rfl ?_
        refine x_iload (pc := 30) d_Row_planCost_30 rfl ?_
        refine x_iald (pc := 32) d_Row_planCost_32 rfl (vp_in_nI (by omega) (by decide)) ?_
        rw [ci, hv0]
        refine y_fN (pc := 33) (w_bit _ _ (x i) h1v (by omega)) k_CW_bit d_Row_planCost_33 n_Row_32 (by decide) rfl p_CW_bit (K := ?_)
        refine x_iand (pc := 36) d_Row_planCost_36 ?_
        refine x_if_eq (pc := 37) (tgt := 43) d_Row_planCost_37 (by decide) (fun h37 => ?_) (fun h37 => ?_)
        · refine x_aload_n (pc := 43) d_Row_planCost_43 rfl ?_
          refine x_iload (pc := 44) d_Row_planCost_44 rfl ?_
          refine x_iald (pc := 46) d_Row_planCost_46 rfl (vp_in_nI (by omega) (by decide)) ?_
          rw [ci, hv0]
          refine x_if_eq (pc := 47) (tgt := 65) d_Row_planCost_47 (by decide) (fun h => absurd h hi0) (fun h47 => ?_)
          refine x_iload (pc := 50) d_Row_planCost_50 rfl ?_
          refine x_aload_n (pc := 52) d_Row_planCost_52 rfl ?_
          refine x_iload (pc := 53) d_Row_planCost_53 rfl ?_
          refine x_iald (pc := 55) d_Row_planCost_55 rfl (vp_in_nI (by omega) (by decide)) ?_
          rw [ci, hv0]
          refine y_fN (pc := 56) (w_bit _ _ (x i) h1v (by omega)) k_CW_bit d_Row_planCost_56 n_Row_32 (by decide) rfl p_CW_bit (K := ?_)
          refine x_ior (pc := 59) d_Row_planCost_59 ?_
          refine y_ist4 (pc := 60) d_Row_planCost_60 ?_
          refine x_goto (pc := 62) (tgt := 88) d_Row_planCost_62 (by decide) ?_
          refine y_inc7 (pc := 88) (v := 1) d_Row_planCost_88 (by decide) ?_
          refine x_goto (pc := 91) (tgt := 14) d_Row_planCost_91 (by decide) ?_
          rw [nx_or, show nI i + 1 = nI (i + 1) from (nI_succ i).symm]
          exact ih _ _ r s (by omega) (by omega) (or256 hU (zz_bit (by omega))) (oB_mono hB (by omega)) (fun j h1 h2 => by by_cases hj : j = i; rw [hj]; exact h0; exact hne j h1 (by omega)) (zQ_node hs hne hQ h0 ((zz_in hU (by omega)).mp h37))
        · refine x_ldc (pc := 40) (v := 1000000000) d_Row_planCost_40 i_Row_30 ?_
          refine y_iret (pc := 42) d_Row_planCost_42 rfl ?_
          exact ⟨by rw [zPC_none (zQ_dup hQ h0 (fun z => h37 ((zz_in hU (by omega)).mpr z))) (by omega)]; rfl, rfl, rfl⟩
  refine CQ.of (lv := [.ref 33, .ref 34, .int (nI L), zu, zu, zu, zu, zu]) k_Row_planCost.1 rfl (by decide) rfl rfl (Nat.le_of_ble_eq_true rfl) ?_
  refine x_iconst (pc := 0) (v := 0) d_Row_planCost_0 (by decide) ?_
  refine y_ist3 (pc := 1) d_Row_planCost_1 ?_
  refine x_iconst (pc := 2) (v := 0) d_Row_planCost_2 (by decide) ?_
  refine y_ist4 (pc := 3) d_Row_planCost_3 ?_
  refine x_iconst (pc := 5) (v := 0) d_Row_planCost_5 (by decide) ?_
  refine y_ist5 (pc := 6) d_Row_planCost_6 ?_
  refine x_iconst (pc := 8) (v := 0) d_Row_planCost_8 (by decide) ?_
  refine y_ist6 (pc := 9) d_Row_planCost_9 ?_
  refine x_iconst (pc := 11) (v := 0) d_Row_planCost_11 (by decide) ?_
  refine y_ist7 (pc := 12) d_Row_planCost_12 ?_
  exact hS 0 (Nat.zero_le _) (some 0) 0 0 0 (Nat.le_refl _) (Nat.le_refl _) (by omega) (oB_s (by omega) (by omega)) (fun j h1 h2 => by omega) rfl
set_option maxRecDepth 100000 in
set_option maxHeartbeats 4000000 in
theorem c_Row_roundCost_35 {W : zW} (V A : zV) (hW : zWok W) (hC : WC W V A) (x : Nat → Nat) (s e : Nat) (hse : s ≤ e) (he : e ≤ 20) (hx : ∀ i, s ≤ i → i < e → A 35 i = nI (x i) ∧ 1 ≤ x i ∧ x i < W.n) : CQ Y_Row_roundCost 1 [.ref 33, .ref 35, .int (nI s), .int (nI e)] V A (fun r V' A' => r = zEc (zRC W x s (e - s)) ∧ V' = V ∧ A' = A) := by
  have h9 := hW.h9
  have hS : ∀ k, k ≤ e - s → ∀ (o : Option Int) (H l a : Nat), oB (1000 * k) o → H < 256 → l ≤ 100 * k → a < 9 → zPS W x s k = o.map (fun c => (c, H, l, a)) → ∀ q : Value, q.category = 1 → X Y_Row_roundCost (zrm 1) (0, fun _ => 0) (zFq 1 (fun r V' A' => r = zEc (zRC W x s (e - s)) ∧ V' = V ∧ A' = A)) 15 [.ref 33, .ref 35, .int (nI s), .int (nI e), .int (zEc o), .int (nI H), .int (nI l), .int (nI a), .int (nI (s + k)), q] [] (cells V A) 0 0 := by
    refine z_down (fun o H l a hB hH hl ha hP q hq => ?_) (fun k hk ih o H l a hB hH hl ha hP q hq => ?_)
    · have hR := zRC_map hP
      refine x_iload (pc := 15) d_Row_roundCost_15 rfl ?_
      refine x_iload_n (pc := 17) d_Row_roundCost_17 rfl ?_
      refine x_icmp_ge (pc := 18) (tgt := 106) d_Row_roundCost_18 (by decide) (fun h18 => ?_) (fun h => absurd (nI_le (by omega) (by omega)) h)
      refine x_iload (pc := 106) d_Row_roundCost_106 rfl ?_
      refine x_if_eq (pc := 108) (tgt := 123) d_Row_roundCost_108 (by decide) (fun h108 => ?_) (fun h108 => ?_)
      · refine x_ldc (pc := 123) (v := 1000000000) d_Row_roundCost_123 i_Row_30 ?_
        refine x_goto (pc := 125) (tgt := 142) d_Row_roundCost_125 (by decide) ?_
        refine y_iret (pc := 142) d_Row_roundCost_142 rfl ?_
        exact ⟨by rw [hR, if_pos (Or.inl ((nI_256 hH).mp h108))]; rfl, rfl, rfl⟩
      · refine x_iload (pc := 111) d_Row_roundCost_111 rfl ?_
        refine x_aload_n (pc := 113) d_Row_roundCost_113 rfl ?_
        refine x_get (pc := 114) (j := 0) d_Row_roundCost_114 f_Row_22 rfl rfl (Nat.le_of_ble_eq_true rfl) rfl rfl rfl ?_
        refine x_get (pc := 117) (j := 6) d_Row_roundCost_117 f_Row_65 rfl rfl (Nat.le_of_ble_eq_true rfl) rfl rfl rfl ?_
        refine x_icmp_le (pc := 120) (tgt := 128) d_Row_roundCost_120 (by decide) (fun h120 => ?_) (fun h120 => ?_)
        · refine x_iload (pc := 128) d_Row_roundCost_128 rfl ?_
          refine x_aload_n (pc := 130) d_Row_roundCost_130 rfl ?_
          refine x_get (pc := 131) (j := 0) d_Row_roundCost_131 f_Row_22 rfl rfl (Nat.le_of_ble_eq_true rfl) rfl rfl rfl ?_
          refine x_iload (pc := 134) d_Row_roundCost_134 rfl ?_
          refine y_fV (pc := 136) (w_costBack _ _ a hC ha) k_Net_costBack d_Row_roundCost_136 m_Row_68 (by decide) rfl rfl rfl rfl p_Net_costBack (K := ?_)
          refine y_fN (pc := 139) (w_sum _ _ (oB_mono hB (by omega)) (oB_mono (hW.bkB a) (by omega))) k_CW_sum d_Row_roundCost_139 n_Row_40 (by decide) rfl p_CW_sum (K := ?_)
          refine y_iret (pc := 142) d_Row_roundCost_142 rfl ?_
          exact ⟨by rw [hR, if_neg (by rintro (z | z); exact h108 ((nI_256 hH).mpr z); rw [hC.rm] at h120; exact absurd h120 (nI_ge z (by omega)))], rfl, rfl⟩
        · refine x_ldc (pc := 123) (v := 1000000000) d_Row_roundCost_123 i_Row_30 ?_
          refine x_goto (pc := 125) (tgt := 142) d_Row_roundCost_125 (by decide) ?_
          refine y_iret (pc := 142) d_Row_roundCost_142 rfl ?_
          exact ⟨by rw [hR, if_pos (Or.inr (by rw [hC.rm] at h120; rcases Nat.lt_or_ge W.rm l with z | z; exact z; exact absurd (nI_le z (by have := hW.rm; omega)) h120))]; rfl, rfl, rfl⟩
    · obtain ⟨hv0, hv1, hv2⟩ := hx (s + k) (by omega) (by omega)
      have hPk := zPS_map hP
      generalize hv : x (s + k) = v at hv0 hv1 hv2 hPk
      have cv : (nI v).toNatClampNeg = v := nI_clamp (by omega)
      have cs : (nI (s + k)).toNatClampNeg = s + k := nI_clamp (by omega)
      have hea := hC.ea v (by omega)
      have hlo := hC.lo v (by omega)
      have hlo1 := hW.lo v (by omega)
      have hea1 := hW.ea v (by omega)
      have ix1 : nI a * 9 + nI v = nI (a * 9 + v) := by rw [show (9 : Int32) = nI 9 from rfl, pk_mul, nI_add]
      have c1 : (nI (a * 9 + v)).toNatClampNeg = a * 9 + v := nI_clamp (by omega)
      have har := hC.ar a v ha (by omega)
      refine x_iload (pc := 15) d_Row_roundCost_15 rfl ?_
      refine x_iload_n (pc := 17) d_Row_roundCost_17 rfl ?_
      refine x_icmp_ge (pc := 18) (tgt := 106) d_Row_roundCost_18 (by decide) (fun h => absurd h (nI_ge (by omega) (by omega))) (fun h18 => ?_)
      refine x_aload_n (pc := 21) d_Row_roundCost_21 rfl ?_
      refine x_iload (pc := 22) d_Row_roundCost_22 rfl ?_
      refine x_iald (pc := 24) d_Row_roundCost_24 rfl (vp_in_nI (by omega) (by decide)) ?_
      rw [cs, hv0]
      refine y_ist9 (pc := 25) d_Row_roundCost_25 ?_
      refine x_aload_n (pc := 27) d_Row_roundCost_27 rfl ?_
      refine x_get (pc := 28) (j := 0) d_Row_roundCost_28 f_Row_22 rfl rfl (Nat.le_of_ble_eq_true rfl) rfl rfl rfl ?_
      refine x_get (pc := 31) (j := 3) d_Row_roundCost_31 f_Row_56 rfl rfl (Nat.le_of_ble_eq_true rfl) rfl rfl rfl ?_
      refine x_iload (pc := 34) d_Row_roundCost_34 rfl ?_
      refine x_iald (pc := 36) d_Row_roundCost_36 rfl (vp_in_nI (by omega) (by decide)) ?_
      refine x_iload (pc := 37) d_Row_roundCost_37 rfl ?_
      refine x_iconst (pc := 39) (v := (-1)) d_Row_roundCost_39 (by decide) ?_
      refine x_ixor (pc := 40) d_Row_roundCost_40 ?_
      refine x_iand (pc := 41) d_Row_roundCost_41 ?_
      refine x_if_eq (pc := 42) (tgt := 48) d_Row_roundCost_42 (by decide) (fun h42 => ?_) (fun h42 => ?_)
      · have hz : W.ea v &&& (255 ^^^ H) = 0 := by
          rw [cv, hea, zz_not hea1] at h42
          exact (nI_256 (and256 hea1)).mp h42
        rw [if_pos hz] at hPk
        refine x_iload (pc := 48) d_Row_roundCost_48 rfl ?_
        refine x_aload_n (pc := 50) d_Row_roundCost_50 rfl ?_
        refine x_get (pc := 51) (j := 0) d_Row_roundCost_51 f_Row_22 rfl rfl (Nat.le_of_ble_eq_true rfl) rfl rfl rfl ?_
        refine x_get (pc := 54) (j := 1) d_Row_roundCost_54 f_Row_59 rfl rfl (Nat.le_of_ble_eq_true rfl) rfl rfl rfl ?_
        refine x_iload (pc := 57) d_Row_roundCost_57 rfl ?_
        refine x_bipush (pc := 59) (v := 9) d_Row_roundCost_59 (by decide) ?_
        refine x_imul (pc := 61) d_Row_roundCost_61 ?_
        refine x_iload (pc := 62) d_Row_roundCost_62 rfl ?_
        refine x_iadd (pc := 64) d_Row_roundCost_64 ?_
        refine x_iald (pc := 65) d_Row_roundCost_65 rfl (by rw [ix1]; exact vp_in_nI (by omega) (by decide)) ?_
        rw [ix1, c1, har]
        refine y_fN (pc := 66) (w_sum _ _ (oB_mono hB (by omega)) (oB_mono (hW.arB a v) (by omega))) k_CW_sum d_Row_roundCost_66 n_Row_40 (by decide) rfl p_CW_sum (K := ?_)
        refine y_ist4 (pc := 69) d_Row_roundCost_69 ?_
        refine x_iload (pc := 71) d_Row_roundCost_71 rfl ?_
        refine x_iload (pc := 73) d_Row_roundCost_73 rfl ?_
        refine y_fN (pc := 75) (w_bit _ _ v hv1 (by omega)) k_CW_bit d_Row_roundCost_75 n_Row_32 (by decide) rfl p_CW_bit (K := ?_)
        refine x_ior (pc := 78) d_Row_roundCost_78 ?_
        refine y_ist5 (pc := 79) d_Row_roundCost_79 ?_
        refine x_iload (pc := 81) d_Row_roundCost_81 rfl ?_
        refine x_aload_n (pc := 83) d_Row_roundCost_83 rfl ?_
        refine x_get (pc := 84) (j := 0) d_Row_roundCost_84 f_Row_22 rfl rfl (Nat.le_of_ble_eq_true rfl) rfl rfl rfl ?_
        refine x_get (pc := 87) (j := 0) d_Row_roundCost_87 f_Row_62 rfl rfl (Nat.le_of_ble_eq_true rfl) rfl rfl rfl ?_
        refine x_iload (pc := 90) d_Row_roundCost_90 rfl ?_
        refine x_iald (pc := 92) d_Row_roundCost_92 rfl (vp_in_nI (by omega) (by decide)) ?_
        refine x_iadd (pc := 93) d_Row_roundCost_93 ?_
        refine y_ist6 (pc := 94) d_Row_roundCost_94 ?_
        refine x_iload (pc := 96) d_Row_roundCost_96 rfl ?_
        refine y_ist7 (pc := 98) d_Row_roundCost_98 ?_
        refine y_inc8 (pc := 100) (v := 1) d_Row_roundCost_100 (by decide) ?_
        refine x_goto (pc := 103) (tgt := 15) d_Row_roundCost_103 (by decide) ?_
        rw [cv, hlo, nI_add, nx_or, show nI (s + k) + 1 = nI (s + (k + 1)) from (nI_succ (s + k)).symm]
        exact ih _ _ _ _ (oB_mono (oB_add hB (hW.arB a v)) (by omega)) (or256 hH (zz_bit (by omega))) (by omega) (by omega) hPk _ rfl
      · refine x_ldc (pc := 45) (v := 1000000000) d_Row_roundCost_45 i_Row_30 ?_
        refine y_iret (pc := 47) d_Row_roundCost_47 rfl ?_
        exact ⟨by rw [zRC_none (zPS_none (by rw [hPk, if_neg (fun z => h42 (by rw [cv, hea, zz_not hea1, z]; rfl))] : zPS W x s (k + 1) = none) (e - s) (by omega))]; rfl, rfl, rfl⟩
  refine CQ.of (lv := [.ref 33, .ref 35, .int (nI s), .int (nI e), zu, zu, zu, zu, zu, zu]) k_Row_roundCost.1 rfl (by decide) rfl rfl (Nat.le_of_ble_eq_true rfl) ?_
  refine x_iconst (pc := 0) (v := 0) d_Row_roundCost_0 (by decide) ?_
  refine y_ist4 (pc := 1) d_Row_roundCost_1 ?_
  refine x_iconst (pc := 3) (v := 0) d_Row_roundCost_3 (by decide) ?_
  refine y_ist5 (pc := 4) d_Row_roundCost_4 ?_
  refine x_iconst (pc := 6) (v := 0) d_Row_roundCost_6 (by decide) ?_
  refine y_ist6 (pc := 7) d_Row_roundCost_7 ?_
  refine x_iconst (pc := 9) (v := 0) d_Row_roundCost_9 (by decide) ?_
  refine y_ist7 (pc := 10) d_Row_roundCost_10 ?_
  refine x_iload_n (pc := 12) d_Row_roundCost_12 rfl ?_
  refine y_ist8 (pc := 13) d_Row_roundCost_13 ?_
  exact hS 0 (Nat.zero_le _) (some 0) 0 0 0 (oB_s (by omega) (by omega)) (by omega) (by omega) (by omega) rfl _ rfl
set_option maxRecDepth 100000 in
set_option maxHeartbeats 4000000 in
theorem c_Row_planCost_35 {W : zW} (V A : zV) (hW : zWok W) (hC : WC W V A) (x : Nat → Nat) (L : Nat) (hL : L ≤ 20) (hx : ∀ i, i < L → A 35 i = nI (x i) ∧ x i < W.n) : CQ Y_Row_planCost 2 [.ref 33, .ref 35, .int (nI L)] V A (fun r V' A' => r = zEc (zPC W x L) ∧ V' = V ∧ A' = A) := by
  have h9 := hW.h9
  have hm8 := hW.m8
  have hZ : ∀ (oc : Option Int) (U r : Nat), oB 30000 oc → U < 256 → r ≤ 21 → zPC W x L = (if W.mo < r then none else oad oc (zOt W (zRst W U))) → ∀ p q : Value, p.category = 1 → q.category = 1 → X Y_Row_planCost (zrm 2) (0, fun _ => 0) (zFq 2 (fun r V' A' => r = zEc (zPC W x L) ∧ V' = V ∧ A' = A)) 114 [.ref 33, .ref 35, .int (nI L), .int (zEc oc), .int (nI U), .int (nI r), p, q] [] (cells V A) 0 0 := by
    intro oc U r hB hU hr hP p q hp hq
    refine x_iload (pc := 114) d_Row_planCost_114 rfl ?_
    refine x_aload_n (pc := 116) d_Row_planCost_116 rfl ?_
    refine x_get (pc := 117) (j := 0) d_Row_planCost_117 f_Row_22 rfl rfl (Nat.le_of_ble_eq_true rfl) rfl rfl rfl ?_
    refine x_get (pc := 120) (j := 5) d_Row_planCost_120 f_Row_44 rfl rfl (Nat.le_of_ble_eq_true rfl) rfl rfl rfl ?_
    refine x_icmp_le (pc := 123) (tgt := 131) d_Row_planCost_123 (by decide) (fun h123 => ?_) (fun h123 => ?_)
    · refine x_iload_n (pc := 131) d_Row_planCost_131 rfl ?_
      refine x_aload_n (pc := 132) d_Row_planCost_132 rfl ?_
      refine x_get (pc := 133) (j := 0) d_Row_planCost_133 f_Row_22 rfl rfl (Nat.le_of_ble_eq_true rfl) rfl rfl rfl ?_
      refine x_aload_n (pc := 136) d_Row_planCost_136 rfl ?_
      refine x_get (pc := 137) (j := 0) d_Row_planCost_137 f_Row_22 rfl rfl (Nat.le_of_ble_eq_true rfl) rfl rfl rfl ?_
      refine y_fV (pc := 140) (w_allPlaces _ _ hW hC) k_Net_allPlaces d_Row_planCost_140 m_Row_49 (by decide) rfl rfl rfl rfl p_Net_allPlaces (K := ?_)
      refine x_iload (pc := 143) d_Row_planCost_143 rfl ?_
      refine x_iconst (pc := 145) (v := (-1)) d_Row_planCost_145 (by decide) ?_
      refine x_ixor (pc := 146) d_Row_planCost_146 ?_
      refine x_iand (pc := 147) d_Row_planCost_147 ?_
      rw [zz_not (zall_lt hW)]
      refine y_fV (pc := 148) (w_costOut _ _ _ hW hC (and256 (zall_lt hW))) k_Net_costOut d_Row_planCost_148 m_Row_53 (by decide) rfl rfl rfl rfl p_Net_costOut (K := ?_)
      refine y_fN (pc := 151) (w_sum _ _ (oB_mono hB (by omega)) (oB_mono (hW.otB _) (by omega))) k_CW_sum d_Row_planCost_151 n_Row_40 (by decide) rfl p_CW_sum (K := ?_)
      refine y_iret (pc := 154) d_Row_planCost_154 rfl ?_
      exact ⟨by rw [hP, if_neg (fun z => by rw [hC.mo] at h123; exact absurd h123 (nI_ge z (by omega)))]; rfl, rfl, rfl⟩
    · refine x_ldc (pc := 126) (v := 1000000000) d_Row_planCost_126 i_Row_30 ?_
      refine x_goto (pc := 128) (tgt := 154) d_Row_planCost_128 (by decide) ?_
      refine y_iret (pc := 154) d_Row_planCost_154 rfl ?_
      exact ⟨by rw [hP, if_pos (by rw [hC.mo] at h123; rcases Nat.lt_or_ge W.mo r with z | z; exact z; exact absurd (nI_le z (by omega)) h123)]; rfl, rfl, rfl⟩
  have hS : ∀ i, i ≤ L → ∀ (oc : Option Int) (U r s : Nat), s ≤ i → r ≤ i → U < 256 → oB (1000 * s) oc → (∀ j, s ≤ j → j < i → ¬ x j = 0) → zQ W x i = zCm W.rm oc (zPS W x s (i - s)) r U (i - s) → X Y_Row_planCost (zrm 2) (0, fun _ => 0) (zFq 2 (fun r V' A' => r = zEc (zPC W x L) ∧ V' = V ∧ A' = A)) 14 [.ref 33, .ref 35, .int (nI L), .int (zEc oc), .int (nI U), .int (nI r), .int (nI s), .int (nI i)] [] (cells V A) 0 0 := by
    refine z_down (fun oc U r s hs hr hU hB hne hQ => ?_) (fun i hi ih oc U r s hs hr hU hB hne hQ => ?_)
    · refine x_iload (pc := 14) d_Row_planCost_14 rfl ?_
      refine x_iload_n (pc := 16) d_Row_planCost_16 rfl ?_
      refine x_icmp_ge (pc := 17) (tgt := 94) d_Row_planCost_17 (by decide) (fun h17 => ?_) (fun h => absurd (nI_le (by omega) (by omega)) h)
      refine x_iload_n (pc := 94) d_Row_planCost_94 rfl ?_
      refine x_if_le (pc := 95) (tgt := 114) d_Row_planCost_95 (by decide) (fun h95 => ?_) (fun h95 => ?_)
      · have hL0 : L = 0 := by
          rcases Nat.eq_zero_or_pos L with z | z
          · exact z
          · exact absurd h95 (nI_nle z (by omega))
        have hU0 : zQ W x L = some (0, 0, 0, 0, 0, 0) := by rw [hL0]; rfl
        rw [hQ] at hU0
        have hs0 : s = 0 := by omega
        have hr0 : r = 0 := by omega
        rw [hs0, hL0, hr0] at hU0
        cases oc with
        | none => rw [zCm_n1] at hU0; exact absurd hU0 (by simp)
        | some c =>
          have hU1 : (if 0 ≤ W.rm then some (c + 0, 0, if 0 = 0 then 0 else 0 + 1, U, 0, 0) else none) = some ((0 : Int), 0, 0, 0, 0, 0) := hU0
          rw [if_pos (Nat.zero_le _), if_pos rfl] at hU1
          simp only [Option.some.injEq, Prod.mk.injEq, Int.add_zero, true_and, and_true] at hU1
          obtain ⟨rfl, rfl⟩ := hU1
          exact hZ _ _ _ (oB_s (by omega) (by omega)) (by omega) (by omega) (by rw [hL0, hr0, zPC_0, if_neg (by omega), oad_0l]) _ _ rfl rfl
      · refine x_iload_n (pc := 98) d_Row_planCost_98 rfl ?_
        refine x_aload_n (pc := 99) d_Row_planCost_99 rfl ?_
        refine x_aload_n (pc := 100) d_Row_planCost_100 rfl ?_
        refine x_iload (pc := 101) d_Row_planCost_101 rfl ?_
        refine x_iload_n (pc := 103) d_Row_planCost_103 rfl ?_
        refine y_fV (pc := 104) (c_Row_roundCost_35 _ _ hW hC x s L (by omega) (by omega) (fun j h1 h2 => by have z := hx j (by omega); have z2 := hne j h1 h2; exact ⟨z.1, by omega, z.2⟩)) k_Row_roundCost d_Row_planCost_104 m_Row_36 (by decide) rfl rfl rfl rfl p_Row_roundCost (K := ?_)
        refine y_fN (pc := 107) (w_sum _ _ (oB_mono hB (by omega)) (oB_mono (zRC_B hW x s (L - s)) (by omega))) k_CW_sum d_Row_planCost_107 n_Row_40 (by decide) rfl p_CW_sum (K := ?_)
        refine y_ist3 (pc := 110) d_Row_planCost_110 ?_
        refine y_inc5 (pc := 111) (v := 1) d_Row_planCost_111 (by decide) ?_
        have hL0 : 0 < L := by
          rcases Nat.eq_zero_or_pos L with z | z
          · subst z; exact absurd (by decide) h95
          · exact z
        rw [show nI r + 1 = nI (r + 1) from (nI_succ r).symm]
        exact hZ _ _ _ (oB_mono (oB_add hB (zRC_B hW x s (L - s))) (by omega)) hU (by omega) (zPC_end hL0 hs hne hQ) _ _ rfl rfl
    · obtain ⟨hv0, hv2⟩ := hx i hi
      have ci : (nI i).toNatClampNeg = i := nI_clamp (by omega)
      by_cases h0 : x i = 0
      · refine x_iload (pc := 14) d_Row_planCost_14 rfl ?_
        refine x_iload_n (pc := 16) d_Row_planCost_16 rfl ?_
        refine x_icmp_ge (pc := 17) (tgt := 94) d_Row_planCost_17 (by decide) (fun h => absurd h (nI_ge (by omega) (by omega))) (fun h17 => ?_)
        refine x_aload_n (pc := 20) d_Row_planCost_20 rfl ?_
        refine x_iload (pc := 21) d_Row_planCost_21 rfl ?_
        refine x_iald (pc := 23) d_Row_planCost_23 rfl (vp_in_nI (by omega) (by decide)) ?_
        rw [ci, hv0, h0]
        refine x_if_eq (pc := 24) (tgt := 43) d_Row_planCost_24 (by decide) (fun h24 => ?_) (fun h => absurd rfl h)
        refine x_aload_n (pc := 43) d_Row_planCost_43 rfl ?_
        refine x_iload (pc := 44) d_Row_planCost_44 rfl ?_
        refine x_iald (pc := 46) d_Row_planCost_46 rfl (vp_in_nI (by omega) (by decide)) ?_
        rw [ci, hv0, h0]
        refine x_if_eq (pc := 47) (tgt := 65) d_Row_planCost_47 (by decide) (fun h47 => ?_) (fun h => absurd rfl h)
        refine x_iload_n (pc := 65) d_Row_planCost_65 rfl ?_
        refine x_aload_n (pc := 66) d_Row_planCost_66 rfl ?_
        refine x_aload_n (pc := 67) d_Row_planCost_67 rfl ?_
        refine x_iload (pc := 68) d_Row_planCost_68 rfl ?_
        refine x_iload (pc := 70) d_Row_planCost_70 rfl ?_
        refine y_fV (pc := 72) (c_Row_roundCost_35 _ _ hW hC x s i (by omega) (by omega) (fun j h1 h2 => by have z := hx j (by omega); have z2 := hne j h1 h2; exact ⟨z.1, by omega, z.2⟩)) k_Row_roundCost d_Row_planCost_72 m_Row_36 (by decide) rfl rfl rfl rfl p_Row_roundCost (K := ?_)
        refine y_fN (pc := 75) (w_sum _ _ (oB_mono hB (by omega)) (oB_mono (zRC_B hW x s (i - s)) (by omega))) k_CW_sum d_Row_planCost_75 n_Row_40 (by decide) rfl p_CW_sum (K := ?_)
        refine y_ist3 (pc := 78) d_Row_planCost_78 ?_
        refine y_inc5 (pc := 79) (v := 1) d_Row_planCost_79 (by decide) ?_
        refine x_iload (pc := 82) d_Row_planCost_82 rfl ?_
        refine x_iconst (pc := 84) (v := 1) d_Row_planCost_84 (by decide) ?_
        refine x_iadd (pc := 85) d_Row_planCost_85 ?_
        refine y_ist6 (pc := 86) d_Row_planCost_86 ?_
        refine y_inc7 (pc := 88) (v := 1) d_Row_planCost_88 (by decide) ?_
        refine x_goto (pc := 91) (tgt := 14) d_Row_planCost_91 (by decide) ?_
        rw [show nI r + 1 = nI (r + 1) from (nI_succ r).symm, show nI i + 1 = nI (i + 1) from (nI_succ i).symm]
        refine ih _ U (r + 1) (i + 1) (Nat.le_refl _) (by omega) hU (oB_mono (oB_add hB (zRC_B hW x s (i - s))) ?_) (fun j h1 h2 => by omega) ?_
        · have : s ≤ i := hs; omega
        · rw [Nat.sub_self]; exact zQ_house hs hne hQ h0
      · have h1v : 1 ≤ x i := by omega
        have hi0 : ¬ nI (x i) = 0 := fun z => h0 ((nI_z (by omega)).mp z)
        refine x_iload (pc := 14) d_Row_planCost_14 rfl ?_
        refine x_iload_n (pc := 16) d_Row_planCost_16 rfl ?_
        refine x_icmp_ge (pc := 17) (tgt := 94) d_Row_planCost_17 (by decide) (fun h => absurd h (nI_ge (by omega) (by omega))) (fun h17 => ?_)
        refine x_aload_n (pc := 20) d_Row_planCost_20 rfl ?_
        refine x_iload (pc := 21) d_Row_planCost_21 rfl ?_
        refine x_iald (pc := 23) d_Row_planCost_23 rfl (vp_in_nI (by omega) (by decide)) ?_
        rw [ci, hv0]
        refine x_if_eq (pc := 24) (tgt := 43) d_Row_planCost_24 (by decide) (fun h => absurd h hi0) (fun h24 => ?_)
        refine x_iload (pc := 27) d_Row_planCost_27 rfl ?_
        refine x_aload_n (pc := 29) d_Row_planCost_29 rfl ?_
        refine x_iload (pc := 30) d_Row_planCost_30 rfl ?_
        refine x_iald (pc := 32) d_Row_planCost_32 rfl (vp_in_nI (by omega) (by decide)) ?_
        rw [ci, hv0]
        refine y_fN (pc := 33) (w_bit _ _ (x i) h1v (by omega)) k_CW_bit d_Row_planCost_33 n_Row_32 (by decide) rfl p_CW_bit (K := ?_)
        refine x_iand (pc := 36) d_Row_planCost_36 ?_
        refine x_if_eq (pc := 37) (tgt := 43) d_Row_planCost_37 (by decide) (fun h37 => ?_) (fun h37 => ?_)
        · refine x_aload_n (pc := 43) d_Row_planCost_43 rfl ?_
          refine x_iload (pc := 44) d_Row_planCost_44 rfl ?_
          refine x_iald (pc := 46) d_Row_planCost_46 rfl (vp_in_nI (by omega) (by decide)) ?_
          rw [ci, hv0]
          refine x_if_eq (pc := 47) (tgt := 65) d_Row_planCost_47 (by decide) (fun h => absurd h hi0) (fun h47 => ?_)
          refine x_iload (pc := 50) d_Row_planCost_50 rfl ?_
          refine x_aload_n (pc := 52) d_Row_planCost_52 rfl ?_
          refine x_iload (pc := 53) d_Row_planCost_53 rfl ?_
          refine x_iald (pc := 55) d_Row_planCost_55 rfl (vp_in_nI (by omega) (by decide)) ?_
          rw [ci, hv0]
          refine y_fN (pc := 56) (w_bit _ _ (x i) h1v (by omega)) k_CW_bit d_Row_planCost_56 n_Row_32 (by decide) rfl p_CW_bit (K := ?_)
          refine x_ior (pc := 59) d_Row_planCost_59 ?_
          refine y_ist4 (pc := 60) d_Row_planCost_60 ?_
          refine x_goto (pc := 62) (tgt := 88) d_Row_planCost_62 (by decide) ?_
          refine y_inc7 (pc := 88) (v := 1) d_Row_planCost_88 (by decide) ?_
          refine x_goto (pc := 91) (tgt := 14) d_Row_planCost_91 (by decide) ?_
          rw [nx_or, show nI i + 1 = nI (i + 1) from (nI_succ i).symm]
          exact ih _ _ r s (by omega) (by omega) (or256 hU (zz_bit (by omega))) (oB_mono hB (by omega)) (fun j h1 h2 => by by_cases hj : j = i; rw [hj]; exact h0; exact hne j h1 (by omega)) (zQ_node hs hne hQ h0 ((zz_in hU (by omega)).mp h37))
        · refine x_ldc (pc := 40) (v := 1000000000) d_Row_planCost_40 i_Row_30 ?_
          refine y_iret (pc := 42) d_Row_planCost_42 rfl ?_
          exact ⟨by rw [zPC_none (zQ_dup hQ h0 (fun z => h37 ((zz_in hU (by omega)).mpr z))) (by omega)]; rfl, rfl, rfl⟩
  refine CQ.of (lv := [.ref 33, .ref 35, .int (nI L), zu, zu, zu, zu, zu]) k_Row_planCost.1 rfl (by decide) rfl rfl (Nat.le_of_ble_eq_true rfl) ?_
  refine x_iconst (pc := 0) (v := 0) d_Row_planCost_0 (by decide) ?_
  refine y_ist3 (pc := 1) d_Row_planCost_1 ?_
  refine x_iconst (pc := 2) (v := 0) d_Row_planCost_2 (by decide) ?_
  refine y_ist4 (pc := 3) d_Row_planCost_3 ?_
  refine x_iconst (pc := 5) (v := 0) d_Row_planCost_5 (by decide) ?_
  refine y_ist5 (pc := 6) d_Row_planCost_6 ?_
  refine x_iconst (pc := 8) (v := 0) d_Row_planCost_8 (by decide) ?_
  refine y_ist6 (pc := 9) d_Row_planCost_9 ?_
  refine x_iconst (pc := 11) (v := 0) d_Row_planCost_11 (by decide) ?_
  refine y_ist7 (pc := 12) d_Row_planCost_12 ?_
  exact hS 0 (Nat.zero_le _) (some 0) 0 0 0 (Nat.le_refl _) (Nat.le_refl _) (by omega) (oB_s (by omega) (by omega)) (fun j h1 h2 => by omega) rfl
