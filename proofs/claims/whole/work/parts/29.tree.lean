def ECc (cs wt : Nat → Int32) (a b : Nat) : Int32 := zsum (if cs (b * 9 + a) < cs (a * 9 + b) then cs (b * 9 + a) else cs (a * 9 + b)) (wt a + wt b)
def ECr (ar wt : Nat → Int32) (a b : Nat) : Int32 := if (if ar (9 * a + b) < ar (9 * b + a) then ar (9 * a + b) else ar (9 * b + a)) = 1000000 then 900000 else (if ar (9 * a + b) < ar (9 * b + a) then ar (9 * a + b) else ar (9 * b + a)) + wt a + wt b
set_option maxRecDepth 100000 in
set_option maxHeartbeats 4000000 in
theorem c_Tre_edgeCost (V A : zV) (a b : Nat) (ha : a < 9) (hb : b < 9) : CQ Y_Tre_edgeCost 1 [.ref 21, .int (nI a), .int (nI b)] V A (fun r V' A' => r = ECc (A 3) (A 22) a b ∧ V' = V ∧ A' = A) := by
  have ix1 : nI a * 9 + nI b = nI (a * 9 + b) := by rw [show (9 : Int32) = nI 9 from rfl, pk_mul, nI_add]
  have ix2 : nI b * 9 + nI a = nI (b * 9 + a) := by rw [show (9 : Int32) = nI 9 from rfl, pk_mul, nI_add]
  have c1 : (nI (a * 9 + b)).toNatClampNeg = a * 9 + b := nI_clamp (by omega)
  have c2 : (nI (b * 9 + a)).toNatClampNeg = b * 9 + a := nI_clamp (by omega)
  have c3 : (nI a).toNatClampNeg = a := nI_clamp (by omega)
  have c4 : (nI b).toNatClampNeg = b := nI_clamp (by omega)
  refine CQ.of (lv := [.ref 21, .int (nI a), .int (nI b), zu]) k_Tre_edgeCost.1 rfl (by decide) rfl rfl (Nat.le_of_ble_eq_true rfl) ?_
  refine x_aload_n (pc := 0) d_Tre_edgeCost_0 rfl ?_
  refine x_get (pc := 1) (j := 0) d_Tre_edgeCost_1 f_Tre_31 rfl rfl (Nat.le_of_ble_eq_true rfl) rfl rfl rfl ?_
  refine x_get (pc := 4) (j := 1) d_Tre_edgeCost_4 f_Tre_48 rfl rfl (Nat.le_of_ble_eq_true rfl) rfl rfl rfl ?_
  refine x_iload_n (pc := 7) d_Tre_edgeCost_7 rfl ?_
  refine x_bipush (pc := 8) (v := 9) d_Tre_edgeCost_8 (by decide) ?_
  refine x_imul (pc := 10) d_Tre_edgeCost_10 ?_
  refine x_iload_n (pc := 11) d_Tre_edgeCost_11 rfl ?_
  refine x_iadd (pc := 12) d_Tre_edgeCost_12 ?_
  refine x_iald (pc := 13) d_Tre_edgeCost_13 rfl (by rw [ix1]; exact vp_in_nI (by omega) (by decide)) ?_
  refine x_aload_n (pc := 14) d_Tre_edgeCost_14 rfl ?_
  refine x_get (pc := 15) (j := 0) d_Tre_edgeCost_15 f_Tre_31 rfl rfl (Nat.le_of_ble_eq_true rfl) rfl rfl rfl ?_
  refine x_get (pc := 18) (j := 1) d_Tre_edgeCost_18 f_Tre_48 rfl rfl (Nat.le_of_ble_eq_true rfl) rfl rfl rfl ?_
  refine x_iload_n (pc := 21) d_Tre_edgeCost_21 rfl ?_
  refine x_bipush (pc := 22) (v := 9) d_Tre_edgeCost_22 (by decide) ?_
  refine x_imul (pc := 24) d_Tre_edgeCost_24 ?_
  refine x_iload_n (pc := 25) d_Tre_edgeCost_25 rfl ?_
  refine x_iadd (pc := 26) d_Tre_edgeCost_26 ?_
  refine x_iald (pc := 27) d_Tre_edgeCost_27 rfl (by rw [ix2]; exact vp_in_nI (by omega) (by decide)) ?_
  refine y_min (pc := 28) d_Tre_edgeCost_28 m_Tre_51 (by decide) (K := ?_)
  refine y_ist3 (pc := 31) d_Tre_edgeCost_31 ?_
  refine x_iload_n (pc := 32) d_Tre_edgeCost_32 rfl ?_
  refine x_aload_n (pc := 33) d_Tre_edgeCost_33 rfl ?_
  refine x_get (pc := 34) (j := 1) d_Tre_edgeCost_34 f_Tre_9 rfl rfl (Nat.le_of_ble_eq_true rfl) rfl rfl rfl ?_
  refine x_iload_n (pc := 37) d_Tre_edgeCost_37 rfl ?_
  refine x_iald (pc := 38) d_Tre_edgeCost_38 rfl (vp_in_nI (by omega) (by decide)) ?_
  refine x_aload_n (pc := 39) d_Tre_edgeCost_39 rfl ?_
  refine x_get (pc := 40) (j := 1) d_Tre_edgeCost_40 f_Tre_9 rfl rfl (Nat.le_of_ble_eq_true rfl) rfl rfl rfl ?_
  refine x_iload_n (pc := 43) d_Tre_edgeCost_43 rfl ?_
  refine x_iald (pc := 44) d_Tre_edgeCost_44 rfl (vp_in_nI (by omega) (by decide)) ?_
  refine x_iadd (pc := 45) d_Tre_edgeCost_45 ?_
  refine y_fN (pc := 46) (c_CW_sum _ _ _ _) k_CW_sum d_Tre_edgeCost_46 n_Tre_57 (by decide) rfl p_CW_sum (K := ?_)
  refine y_iret (pc := 49) d_Tre_edgeCost_49 rfl ?_
  exact ⟨by rw [ix1, ix2, c1, c2, c3, c4]; rfl, rfl, rfl⟩
set_option maxRecDepth 100000 in
set_option maxHeartbeats 4000000 in
theorem c_Mo_edgeCost (V A : zV) (a b : Nat) (ha : a < 9) (hb : b < 9) : CQ Y_Mo_edgeCost 0 [.ref 36, .int (nI a), .int (nI b)] V A (fun r V' A' => r = ECr (A 38) (A 41) a b ∧ V' = V ∧ A' = A) := by
  have ix1 : 9 * nI a + nI b = nI (9 * a + b) := by rw [show (9 : Int32) = nI 9 from rfl, pk_mul, nI_add]
  have ix2 : 9 * nI b + nI a = nI (9 * b + a) := by rw [show (9 : Int32) = nI 9 from rfl, pk_mul, nI_add]
  have c1 : (nI (9 * a + b)).toNatClampNeg = 9 * a + b := nI_clamp (by omega)
  have c2 : (nI (9 * b + a)).toNatClampNeg = 9 * b + a := nI_clamp (by omega)
  have c3 : (nI a).toNatClampNeg = a := nI_clamp (by omega)
  have c4 : (nI b).toNatClampNeg = b := nI_clamp (by omega)
  refine CQ.of (lv := [.ref 36, .int (nI a), .int (nI b), zu]) k_Mo_edgeCost.1 rfl (by decide) rfl rfl (Nat.le_of_ble_eq_true rfl) ?_
  refine x_aload_n (pc := 0) d_Mo_edgeCost_0 rfl ?_
  refine x_get (pc := 1) (j := 3) d_Mo_edgeCost_1 f_Mo_20 rfl rfl (Nat.le_of_ble_eq_true rfl) rfl rfl rfl ?_
  refine x_bipush (pc := 4) (v := 9) d_Mo_edgeCost_4 (by decide) ?_
  refine x_iload_n (pc := 6) d_Mo_edgeCost_6 rfl ?_
  refine x_imul (pc := 7) d_Mo_edgeCost_7 ?_
  refine x_iload_n (pc := 8) d_Mo_edgeCost_8 rfl ?_
  refine x_iadd (pc := 9) d_Mo_edgeCost_9 ?_
  refine x_iald (pc := 10) d_Mo_edgeCost_10 rfl (by rw [ix1]; exact vp_in_nI (by omega) (by decide)) ?_
  refine x_aload_n (pc := 11) d_Mo_edgeCost_11 rfl ?_
  refine x_get (pc := 12) (j := 3) d_Mo_edgeCost_12 f_Mo_20 rfl rfl (Nat.le_of_ble_eq_true rfl) rfl rfl rfl ?_
  refine x_bipush (pc := 15) (v := 9) d_Mo_edgeCost_15 (by decide) ?_
  refine x_iload_n (pc := 17) d_Mo_edgeCost_17 rfl ?_
  refine x_imul (pc := 18) d_Mo_edgeCost_18 ?_
  refine x_iload_n (pc := 19) d_Mo_edgeCost_19 rfl ?_
  refine x_iadd (pc := 20) d_Mo_edgeCost_20 ?_
  refine x_iald (pc := 21) d_Mo_edgeCost_21 rfl (by rw [ix2]; exact vp_in_nI (by omega) (by decide)) ?_
  refine x_icmp_ge (pc := 22) (tgt := 39) d_Mo_edgeCost_22 (by decide) (fun h22 => ?_) (fun h22 => ?_)
  · refine x_aload_n (pc := 39) d_Mo_edgeCost_39 rfl ?_
    refine x_get (pc := 40) (j := 3) d_Mo_edgeCost_40 f_Mo_20 rfl rfl (Nat.le_of_ble_eq_true rfl) rfl rfl rfl ?_
    refine x_bipush (pc := 43) (v := 9) d_Mo_edgeCost_43 (by decide) ?_
    refine x_iload_n (pc := 45) d_Mo_edgeCost_45 rfl ?_
    refine x_imul (pc := 46) d_Mo_edgeCost_46 ?_
    refine x_iload_n (pc := 47) d_Mo_edgeCost_47 rfl ?_
    refine x_iadd (pc := 48) d_Mo_edgeCost_48 ?_
    refine x_iald (pc := 49) d_Mo_edgeCost_49 rfl (by rw [ix2]; exact vp_in_nI (by omega) (by decide)) ?_
    refine y_ist3 (pc := 50) d_Mo_edgeCost_50 ?_
    refine x_iload_n (pc := 51) d_Mo_edgeCost_51 rfl ?_
    refine x_ldc (pc := 52) (v := 1000000) d_Mo_edgeCost_52 i_Mo_69 ?_
    refine x_icmp_ne (pc := 54) (tgt := 62) d_Mo_edgeCost_54 (by decide) (fun h54 => ?_) (fun h54 => ?_)
    · refine x_iload_n (pc := 62) d_Mo_edgeCost_62 rfl ?_
      refine x_aload_n (pc := 63) d_Mo_edgeCost_63 rfl ?_
      refine x_get (pc := 64) (j := 9) d_Mo_edgeCost_64 f_Mo_36 rfl rfl (Nat.le_of_ble_eq_true rfl) rfl rfl rfl ?_
      refine x_iload_n (pc := 67) d_Mo_edgeCost_67 rfl ?_
      refine x_iald (pc := 68) d_Mo_edgeCost_68 rfl (vp_in_nI (by omega) (by decide)) ?_
      refine x_iadd (pc := 69) d_Mo_edgeCost_69 ?_
      refine x_aload_n (pc := 70) d_Mo_edgeCost_70 rfl ?_
      refine x_get (pc := 71) (j := 9) d_Mo_edgeCost_71 f_Mo_36 rfl rfl (Nat.le_of_ble_eq_true rfl) rfl rfl rfl ?_
      refine x_iload_n (pc := 74) d_Mo_edgeCost_74 rfl ?_
      refine x_iald (pc := 75) d_Mo_edgeCost_75 rfl (vp_in_nI (by omega) (by decide)) ?_
      refine x_iadd (pc := 76) d_Mo_edgeCost_76 ?_
      refine y_iret (pc := 77) d_Mo_edgeCost_77 rfl ?_
      rw [ix1, ix2, c1, c2] at h22
      rw [ix2, c2] at h54
      refine ⟨?_, rfl, rfl⟩
      unfold ECr
      rw [if_neg (Int32.not_lt.mpr h22), if_neg h54]
      rw [ix2, c2, c3, c4]
    · refine x_ldc (pc := 57) (v := 900000) d_Mo_edgeCost_57 i_Mo_101 ?_
      refine x_goto (pc := 59) (tgt := 77) d_Mo_edgeCost_59 (by decide) ?_
      refine y_iret (pc := 77) d_Mo_edgeCost_77 rfl ?_
      rw [ix1, ix2, c1, c2] at h22
      rw [ix2, c2] at h54
      refine ⟨?_, rfl, rfl⟩
      unfold ECr
      rw [if_neg (Int32.not_lt.mpr h22), if_pos h54]
  · refine x_aload_n (pc := 25) d_Mo_edgeCost_25 rfl ?_
    refine x_get (pc := 26) (j := 3) d_Mo_edgeCost_26 f_Mo_20 rfl rfl (Nat.le_of_ble_eq_true rfl) rfl rfl rfl ?_
    refine x_bipush (pc := 29) (v := 9) d_Mo_edgeCost_29 (by decide) ?_
    refine x_iload_n (pc := 31) d_Mo_edgeCost_31 rfl ?_
    refine x_imul (pc := 32) d_Mo_edgeCost_32 ?_
    refine x_iload_n (pc := 33) d_Mo_edgeCost_33 rfl ?_
    refine x_iadd (pc := 34) d_Mo_edgeCost_34 ?_
    refine x_iald (pc := 35) d_Mo_edgeCost_35 rfl (by rw [ix1]; exact vp_in_nI (by omega) (by decide)) ?_
    refine x_goto (pc := 36) (tgt := 50) d_Mo_edgeCost_36 (by decide) ?_
    refine y_ist3 (pc := 50) d_Mo_edgeCost_50 ?_
    refine x_iload_n (pc := 51) d_Mo_edgeCost_51 rfl ?_
    refine x_ldc (pc := 52) (v := 1000000) d_Mo_edgeCost_52 i_Mo_69 ?_
    refine x_icmp_ne (pc := 54) (tgt := 62) d_Mo_edgeCost_54 (by decide) (fun h54 => ?_) (fun h54 => ?_)
    · refine x_iload_n (pc := 62) d_Mo_edgeCost_62 rfl ?_
      refine x_aload_n (pc := 63) d_Mo_edgeCost_63 rfl ?_
      refine x_get (pc := 64) (j := 9) d_Mo_edgeCost_64 f_Mo_36 rfl rfl (Nat.le_of_ble_eq_true rfl) rfl rfl rfl ?_
      refine x_iload_n (pc := 67) d_Mo_edgeCost_67 rfl ?_
      refine x_iald (pc := 68) d_Mo_edgeCost_68 rfl (vp_in_nI (by omega) (by decide)) ?_
      refine x_iadd (pc := 69) d_Mo_edgeCost_69 ?_
      refine x_aload_n (pc := 70) d_Mo_edgeCost_70 rfl ?_
      refine x_get (pc := 71) (j := 9) d_Mo_edgeCost_71 f_Mo_36 rfl rfl (Nat.le_of_ble_eq_true rfl) rfl rfl rfl ?_
      refine x_iload_n (pc := 74) d_Mo_edgeCost_74 rfl ?_
      refine x_iald (pc := 75) d_Mo_edgeCost_75 rfl (vp_in_nI (by omega) (by decide)) ?_
      refine x_iadd (pc := 76) d_Mo_edgeCost_76 ?_
      refine y_iret (pc := 77) d_Mo_edgeCost_77 rfl ?_
      rw [ix1, ix2, c1, c2] at h22
      rw [ix1, c1] at h54
      refine ⟨?_, rfl, rfl⟩
      unfold ECr
      rw [if_pos (Int32.not_le.mp h22), if_neg h54]
      rw [ix1, c1, c3, c4]
    · refine x_ldc (pc := 57) (v := 900000) d_Mo_edgeCost_57 i_Mo_101 ?_
      refine x_goto (pc := 59) (tgt := 77) d_Mo_edgeCost_59 (by decide) ?_
      refine y_iret (pc := 77) d_Mo_edgeCost_77 rfl ?_
      rw [ix1, ix2, c1, c2] at h22
      rw [ix1, c1] at h54
      refine ⟨?_, rfl, rfl⟩
      unfold ECr
      rw [if_pos (Int32.not_le.mp h22), if_pos h54]
theorem ec_rel {n : Nat} {cs ar wt wt' : Nat → Int32} (hC : IvC n cs ar) (hW : IvW wt wt') {a b : Nat} (ha : a < 9) (hb : b < 9) : zq 3000 (ECc cs wt a b) (ECr ar wt' a b) := by
  have h1 := hC.1 (a * 9 + b) (by omega)
  have h2 := hC.1 (b * 9 + a) (by omega)
  obtain ⟨w1, w2, w3⟩ := hW a ha
  obtain ⟨w4, w5, w6⟩ := hW b hb
  rw [z_le, z_lm1000] at w2 w5
  rw [z_le, z_l1000] at w3 w6
  unfold ECc ECr
  rw [show 9 * a + b = a * 9 + b by omega, show 9 * b + a = b * 9 + a by omega, w1, w4]
  have hsum := z_add (x := wt a) (y := wt b) (by omega) (by omega) (by omega) (by omega)
  -- the lesser arc
  have key : zcc (if cs (b * 9 + a) < cs (a * 9 + b) then cs (b * 9 + a) else cs (a * 9 + b)) (if ar (a * 9 + b) < ar (b * 9 + a) then ar (a * 9 + b) else ar (b * 9 + a)) := by
    rcases h1 with ⟨e1, e2⟩ | ⟨e1, e2, e3⟩
    · rcases h2 with ⟨f1, f2⟩ | ⟨f1, f2, f3⟩
      · rw [e1, e2, f1, f2]; exact Or.inl ⟨rfl, rfl⟩
      · rw [z_le, z_lm1000] at f2
        rw [z_le, z_l1000] at f3
        have g1 : cs (b * 9 + a) < cs (a * 9 + b) := by rw [e1, z_lt, z_lNO]; omega
        have g2 : ¬ ar (a * 9 + b) < ar (b * 9 + a) := by rw [e2, ← f1, z_lt, z_lNA]; omega
        rw [if_pos g1, if_neg g2]
        exact Or.inr ⟨f1, by rw [z_le, z_lm1000]; omega, by rw [z_le, z_l1000]; omega⟩
    · rw [z_le, z_lm1000] at e2
      rw [z_le, z_l1000] at e3
      rcases h2 with ⟨f1, f2⟩ | ⟨f1, f2, f3⟩
      · have g1 : ¬ cs (b * 9 + a) < cs (a * 9 + b) := by rw [f1, z_lt, z_lNO]; omega
        have g2 : ar (a * 9 + b) < ar (b * 9 + a) := by rw [f2, ← e1, z_lt, z_lNA]; omega
        rw [if_neg g1, if_pos g2]
        exact Or.inr ⟨e1, by rw [z_le, z_lm1000]; omega, by rw [z_le, z_l1000]; omega⟩
      · rw [z_le, z_lm1000] at f2
        rw [z_le, z_l1000] at f3
        rw [← e1, ← f1]
        refine Or.inr ⟨?_, ?_, ?_⟩
        · by_cases g1 : cs (b * 9 + a) < cs (a * 9 + b)
          · rw [if_pos g1, if_neg (fun q => by rw [z_lt] at g1 q; omega)]
          · by_cases g2 : cs (a * 9 + b) < cs (b * 9 + a)
            · rw [if_neg g1, if_pos g2]
            · rw [if_neg g1, if_neg g2]
              exact Int32.toInt_inj.mp (by rw [z_lt] at g1 g2; omega)
        · split <;> (rw [z_le, z_lm1000]; omega)
        · split <;> (rw [z_le, z_l1000]; omega)
  generalize (if cs (b * 9 + a) < cs (a * 9 + b) then cs (b * 9 + a) else cs (a * 9 + b)) = p at key ⊢
  generalize (if ar (a * 9 + b) < ar (b * 9 + a) then ar (a * 9 + b) else ar (b * 9 + a)) = q at key ⊢
  unfold zsum
  rcases key with ⟨rfl, rfl⟩ | ⟨rfl, k1, k2⟩
  · rw [if_pos (Or.inl rfl), if_pos rfl]; exact Or.inl ⟨rfl, rfl⟩
  · rw [z_le, z_lm1000] at k1
    rw [z_le, z_l1000] at k2
    have g1 : ¬ (p = 1000000000 ∨ wt a + wt b = 1000000000) := by
      rintro (q | q)
      · rw [q, z_lNO] at k2; omega
      · have := congrArg Int32.toInt q; rw [hsum, z_lNO] at this; omega
    have g2 : ¬ p = 1000000 := fun q => by rw [q, z_lNA] at k2; omega
    rw [if_neg g1, if_neg g2, Int32.add_assoc]
    have hs2 := z_add (x := p) (y := wt a + wt b) (by omega) (by omega) (by omega) (by omega)
    exact Or.inr ⟨rfl, by omega, by omega⟩
