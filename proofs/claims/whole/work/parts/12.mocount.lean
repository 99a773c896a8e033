set_option maxRecDepth 100000 in
set_option maxHeartbeats 4000000 in
theorem c_Mo_count1 (V A : zV)  : CQ Y_Mo_count 0 [.ref 36, .int 1] V A (fun r V' A' => r = zf (fun i a => if A 38 i = 1000000 then a else a + 1) 0 81 ∧ V' = (zv V 36 0 0) ∧ A' = A) := by
  have hS : ∀ k, k ≤ 81 → X Y_Mo_count (zrm 0) (0, fun _ => 0) (zFq 0 (fun r V' A' => r = zf (fun i a => if A 38 i = 1000000 then a else a + 1) 0 81 ∧ V' = (zv V 36 0 0) ∧ A' = A)) 59 [.ref 36, .int 1, .int (zf (fun i a => if A 38 i = 1000000 then a else a + 1) 0 k), .int (nI k)] [] (cells (zv V 36 0 0) A) 0 0 := by
    refine z_down ?_ (fun k hk hs => ?_)
    · refine x_iload_n (pc := 59) d_Mo_count_59 rfl ?_
      refine x_bipush (pc := 60) (v := 81) d_Mo_count_60 (by decide) ?_
      refine x_icmp_ge (pc := 62) (tgt := 90) d_Mo_count_62 (by decide) (fun h62 => ?_) (fun h => absurd (nI_le (Nat.le_refl _) (by decide)) h)
      refine x_iload_n (pc := 90) d_Mo_count_90 rfl ?_
      refine y_iret (pc := 91) d_Mo_count_91 rfl ?_
      exact ⟨rfl, rfl, rfl⟩
    · rw [zf_s _ _ k, nI_succ k] at hs
      refine x_iload_n (pc := 59) d_Mo_count_59 rfl ?_
      refine x_bipush (pc := 60) (v := 81) d_Mo_count_60 (by decide) ?_
      refine x_icmp_ge (pc := 62) (tgt := 90) d_Mo_count_62 (by decide) (fun h => absurd h (nI_ge hk (by decide))) (fun h62 => ?_)
      refine x_aload_n (pc := 65) d_Mo_count_65 rfl ?_
      refine x_get (pc := 66) (j := 3) d_Mo_count_66 f_Mo_20 rfl rfl (Nat.le_of_ble_eq_true rfl) rfl rfl rfl ?_
      refine x_iload_n (pc := 69) d_Mo_count_69 rfl ?_
      refine x_iald (pc := 70) d_Mo_count_70 rfl (vp_in_nI hk (by decide)) ?_
      refine x_ldc (pc := 71) (v := 1000000) d_Mo_count_71 i_Mo_69 ?_
      refine x_icmp_eq (pc := 73) (tgt := 82) d_Mo_count_73 (by decide) (fun h73 => ?_) (fun h73 => ?_)
      · refine x_iload_n (pc := 82) d_Mo_count_82 rfl ?_
        refine y_ist2 (pc := 83) d_Mo_count_83 ?_
        refine y_inc3 (pc := 84) (v := 1) d_Mo_count_84 (by decide) ?_
        refine x_goto (pc := 87) (tgt := 59) d_Mo_count_87 (by decide) ?_
        (rw [nI_clamp (by omega)] at h73; first | (rw [if_pos h73] at hs; exact hs) | (rw [if_neg h73] at hs; exact hs))
      · refine x_iload_n (pc := 76) d_Mo_count_76 rfl ?_
        refine x_iconst (pc := 77) (v := 1) d_Mo_count_77 (by decide) ?_
        refine x_iadd (pc := 78) d_Mo_count_78 ?_
        refine x_goto (pc := 79) (tgt := 83) d_Mo_count_79 (by decide) ?_
        refine y_ist2 (pc := 83) d_Mo_count_83 ?_
        refine y_inc3 (pc := 84) (v := 1) d_Mo_count_84 (by decide) ?_
        refine x_goto (pc := 87) (tgt := 59) d_Mo_count_87 (by decide) ?_
        (rw [nI_clamp (by omega)] at h73; first | (rw [if_pos h73] at hs; exact hs) | (rw [if_neg h73] at hs; exact hs))
  have hS := hS 0 (by omega)
  refine CQ.of (lv := [.ref 36, .int 1, zu, zu]) k_Mo_count.1 rfl (by decide) rfl rfl (Nat.le_of_ble_eq_true rfl) ?_
  refine x_aload_n (pc := 0) d_Mo_count_0 rfl ?_
  refine x_iconst (pc := 1) (v := 0) d_Mo_count_1 (by decide) ?_
  refine y_put (pc := 2) (j := 0) d_Mo_count_2 f_Mo_1 rfl rfl (Nat.le_of_ble_eq_true rfl) rfl (Nat.le_of_ble_eq_true rfl) rfl rfl (fun _ => rfl) ?_
  refine x_iconst (pc := 5) (v := 0) d_Mo_count_5 (by decide) ?_
  refine y_ist2 (pc := 6) d_Mo_count_6 ?_
  refine x_iload_n (pc := 7) d_Mo_count_7 rfl ?_
  refine x_sw_in (pc := 8) (off := 49) (tgt := 57) d_Mo_count_8 (by decide) (by decide) rfl (by decide) ?_
  refine x_iconst (pc := 57) (v := 0) d_Mo_count_57 (by decide) ?_
  refine y_ist3 (pc := 58) d_Mo_count_58 ?_
  exact hS
set_option maxRecDepth 100000 in
set_option maxHeartbeats 4000000 in
theorem c_Mo_count2 (V A : zV)  : CQ Y_Mo_count 0 [.ref 36, .int 2] V A (fun r V' A' => r = zf (fun i a => if A 40 i = 0 then a else a + 1) 0 81 ∧ V' = (zv V 36 0 0) ∧ A' = A) := by
  have hS : ∀ k, k ≤ 81 → X Y_Mo_count (zrm 0) (0, fun _ => 0) (zFq 0 (fun r V' A' => r = zf (fun i a => if A 40 i = 0 then a else a + 1) 0 81 ∧ V' = (zv V 36 0 0) ∧ A' = A)) 94 [.ref 36, .int 2, .int (zf (fun i a => if A 40 i = 0 then a else a + 1) 0 k), .int (nI k)] [] (cells (zv V 36 0 0) A) 0 0 := by
    refine z_down ?_ (fun k hk hs => ?_)
    · refine x_iload_n (pc := 94) d_Mo_count_94 rfl ?_
      refine x_bipush (pc := 95) (v := 81) d_Mo_count_95 (by decide) ?_
      refine x_icmp_ge (pc := 97) (tgt := 123) d_Mo_count_97 (by decide) (fun h97 => ?_) (fun h => absurd (nI_le (Nat.le_refl _) (by decide)) h)
      refine x_iload_n (pc := 123) d_Mo_count_123 rfl ?_
      refine y_iret (pc := 124) d_Mo_count_124 rfl ?_
      exact ⟨rfl, rfl, rfl⟩
    · rw [zf_s _ _ k, nI_succ k] at hs
      refine x_iload_n (pc := 94) d_Mo_count_94 rfl ?_
      refine x_bipush (pc := 95) (v := 81) d_Mo_count_95 (by decide) ?_
      refine x_icmp_ge (pc := 97) (tgt := 123) d_Mo_count_97 (by decide) (fun h => absurd h (nI_ge hk (by decide))) (fun h97 => ?_)
      refine x_aload_n (pc := 100) d_Mo_count_100 rfl ?_
      refine x_get (pc := 101) (j := 5) d_Mo_count_101 f_Mo_26 rfl rfl (Nat.le_of_ble_eq_true rfl) rfl rfl rfl ?_
      refine x_iload_n (pc := 104) d_Mo_count_104 rfl ?_
      refine x_zald (pc := 105) d_Mo_count_105 rfl (vp_in_nI hk (by decide)) ?_
      refine x_if_eq (pc := 106) (tgt := 115) d_Mo_count_106 (by decide) (fun h106 => ?_) (fun h106 => ?_)
      · refine x_iload_n (pc := 115) d_Mo_count_115 rfl ?_
        refine y_ist2 (pc := 116) d_Mo_count_116 ?_
        refine y_inc3 (pc := 117) (v := 1) d_Mo_count_117 (by decide) ?_
        refine x_goto (pc := 120) (tgt := 94) d_Mo_count_120 (by decide) ?_
        (rw [nI_clamp (by omega)] at h106; first | (rw [if_pos h106] at hs; exact hs) | (rw [if_neg h106] at hs; exact hs))
      · refine x_iload_n (pc := 109) d_Mo_count_109 rfl ?_
        refine x_iconst (pc := 110) (v := 1) d_Mo_count_110 (by decide) ?_
        refine x_iadd (pc := 111) d_Mo_count_111 ?_
        refine x_goto (pc := 112) (tgt := 116) d_Mo_count_112 (by decide) ?_
        refine y_ist2 (pc := 116) d_Mo_count_116 ?_
        refine y_inc3 (pc := 117) (v := 1) d_Mo_count_117 (by decide) ?_
        refine x_goto (pc := 120) (tgt := 94) d_Mo_count_120 (by decide) ?_
        (rw [nI_clamp (by omega)] at h106; first | (rw [if_pos h106] at hs; exact hs) | (rw [if_neg h106] at hs; exact hs))
  have hS := hS 0 (by omega)
  refine CQ.of (lv := [.ref 36, .int 2, zu, zu]) k_Mo_count.1 rfl (by decide) rfl rfl (Nat.le_of_ble_eq_true rfl) ?_
  refine x_aload_n (pc := 0) d_Mo_count_0 rfl ?_
  refine x_iconst (pc := 1) (v := 0) d_Mo_count_1 (by decide) ?_
  refine y_put (pc := 2) (j := 0) d_Mo_count_2 f_Mo_1 rfl rfl (Nat.le_of_ble_eq_true rfl) rfl (Nat.le_of_ble_eq_true rfl) rfl rfl (fun _ => rfl) ?_
  refine x_iconst (pc := 5) (v := 0) d_Mo_count_5 (by decide) ?_
  refine y_ist2 (pc := 6) d_Mo_count_6 ?_
  refine x_iload_n (pc := 7) d_Mo_count_7 rfl ?_
  refine x_sw_in (pc := 8) (off := 84) (tgt := 92) d_Mo_count_8 (by decide) (by decide) rfl (by decide) ?_
  refine x_iconst (pc := 92) (v := 0) d_Mo_count_92 (by decide) ?_
  refine y_ist3 (pc := 93) d_Mo_count_93 ?_
  exact hS
set_option maxRecDepth 100000 in
set_option maxHeartbeats 4000000 in
theorem c_Mo_count0 (V A : zV)  : CQ Y_Mo_count 0 [.ref 36, .int 0] V A (fun r V' A' => r = V 36 1 ∧ V' = (zv V 36 0 0) ∧ A' = A) := by
  refine CQ.of (lv := [.ref 36, .int 0, zu, zu]) k_Mo_count.1 rfl (by decide) rfl rfl (Nat.le_of_ble_eq_true rfl) ?_
  refine x_aload_n (pc := 0) d_Mo_count_0 rfl ?_
  refine x_iconst (pc := 1) (v := 0) d_Mo_count_1 (by decide) ?_
  refine y_put (pc := 2) (j := 0) d_Mo_count_2 f_Mo_1 rfl rfl (Nat.le_of_ble_eq_true rfl) rfl (Nat.le_of_ble_eq_true rfl) rfl rfl (fun _ => rfl) ?_
  refine x_iconst (pc := 5) (v := 0) d_Mo_count_5 (by decide) ?_
  refine y_ist2 (pc := 6) d_Mo_count_6 ?_
  refine x_iload_n (pc := 7) d_Mo_count_7 rfl ?_
  refine x_sw_in (pc := 8) (off := 44) (tgt := 52) d_Mo_count_8 (by decide) (by decide) rfl (by decide) ?_
  refine x_aload_n (pc := 52) d_Mo_count_52 rfl ?_
  refine x_get (pc := 53) (j := 1) d_Mo_count_53 f_Mo_13 rfl rfl (Nat.le_of_ble_eq_true rfl) rfl rfl rfl ?_
  refine y_iret (pc := 56) d_Mo_count_56 rfl ?_
  exact ⟨rfl, rfl, rfl⟩
set_option maxRecDepth 100000 in
set_option maxHeartbeats 4000000 in
theorem c_Mo_count3 (V A : zV)  : CQ Y_Mo_count 0 [.ref 36, .int 3] V A (fun r V' A' => r = V 36 6 ∧ V' = (zv V 36 0 0) ∧ A' = A) := by
  refine CQ.of (lv := [.ref 36, .int 3, zu, zu]) k_Mo_count.1 rfl (by decide) rfl rfl (Nat.le_of_ble_eq_true rfl) ?_
  refine x_aload_n (pc := 0) d_Mo_count_0 rfl ?_
  refine x_iconst (pc := 1) (v := 0) d_Mo_count_1 (by decide) ?_
  refine y_put (pc := 2) (j := 0) d_Mo_count_2 f_Mo_1 rfl rfl (Nat.le_of_ble_eq_true rfl) rfl (Nat.le_of_ble_eq_true rfl) rfl rfl (fun _ => rfl) ?_
  refine x_iconst (pc := 5) (v := 0) d_Mo_count_5 (by decide) ?_
  refine y_ist2 (pc := 6) d_Mo_count_6 ?_
  refine x_iload_n (pc := 7) d_Mo_count_7 rfl ?_
  refine x_sw_in (pc := 8) (off := 117) (tgt := 125) d_Mo_count_8 (by decide) (by decide) rfl (by decide) ?_
  refine x_aload_n (pc := 125) d_Mo_count_125 rfl ?_
  refine x_get (pc := 126) (j := 6) d_Mo_count_126 f_Mo_30 rfl rfl (Nat.le_of_ble_eq_true rfl) rfl rfl rfl ?_
  refine y_iret (pc := 129) d_Mo_count_129 rfl ?_
  exact ⟨rfl, rfl, rfl⟩
set_option maxRecDepth 100000 in
set_option maxHeartbeats 4000000 in
theorem c_Mo_count4 (V A : zV)  : CQ Y_Mo_count 0 [.ref 36, .int 4] V A (fun r V' A' => r = V 36 7 ∧ V' = (zv V 36 0 0) ∧ A' = A) := by
  refine CQ.of (lv := [.ref 36, .int 4, zu, zu]) k_Mo_count.1 rfl (by decide) rfl rfl (Nat.le_of_ble_eq_true rfl) ?_
  refine x_aload_n (pc := 0) d_Mo_count_0 rfl ?_
  refine x_iconst (pc := 1) (v := 0) d_Mo_count_1 (by decide) ?_
  refine y_put (pc := 2) (j := 0) d_Mo_count_2 f_Mo_1 rfl rfl (Nat.le_of_ble_eq_true rfl) rfl (Nat.le_of_ble_eq_true rfl) rfl rfl (fun _ => rfl) ?_
  refine x_iconst (pc := 5) (v := 0) d_Mo_count_5 (by decide) ?_
  refine y_ist2 (pc := 6) d_Mo_count_6 ?_
  refine x_iload_n (pc := 7) d_Mo_count_7 rfl ?_
  refine x_sw_in (pc := 8) (off := 122) (tgt := 130) d_Mo_count_8 (by decide) (by decide) rfl (by decide) ?_
  refine x_aload_n (pc := 130) d_Mo_count_130 rfl ?_
  refine x_get (pc := 131) (j := 7) d_Mo_count_131 f_Mo_33 rfl rfl (Nat.le_of_ble_eq_true rfl) rfl rfl rfl ?_
  refine y_iret (pc := 134) d_Mo_count_134 rfl ?_
  exact ⟨rfl, rfl, rfl⟩
set_option maxRecDepth 100000 in
set_option maxHeartbeats 4000000 in
theorem c_Mo_count5 (V A : zV)  : CQ Y_Mo_count 0 [.ref 36, .int 5] V A (fun r V' A' => r = V 36 8 ∧ V' = (zv V 36 0 0) ∧ A' = A) := by
  refine CQ.of (lv := [.ref 36, .int 5, zu, zu]) k_Mo_count.1 rfl (by decide) rfl rfl (Nat.le_of_ble_eq_true rfl) ?_
  refine x_aload_n (pc := 0) d_Mo_count_0 rfl ?_
  refine x_iconst (pc := 1) (v := 0) d_Mo_count_1 (by decide) ?_
  refine y_put (pc := 2) (j := 0) d_Mo_count_2 f_Mo_1 rfl rfl (Nat.le_of_ble_eq_true rfl) rfl (Nat.le_of_ble_eq_true rfl) rfl rfl (fun _ => rfl) ?_
  refine x_iconst (pc := 5) (v := 0) d_Mo_count_5 (by decide) ?_
  refine y_ist2 (pc := 6) d_Mo_count_6 ?_
  refine x_iload_n (pc := 7) d_Mo_count_7 rfl ?_
  refine x_sw_in (pc := 8) (off := 127) (tgt := 135) d_Mo_count_8 (by decide) (by decide) rfl (by decide) ?_
  refine x_aload_n (pc := 135) d_Mo_count_135 rfl ?_
  refine x_get (pc := 136) (j := 8) d_Mo_count_136 f_Mo_89 rfl rfl (Nat.le_of_ble_eq_true rfl) rfl rfl rfl ?_
  refine y_iret (pc := 139) d_Mo_count_139 rfl ?_
  exact ⟨rfl, rfl, rfl⟩
set_option maxRecDepth 100000 in
set_option maxHeartbeats 4000000 in
theorem c_Mo_count6 (V A : zV)  : CQ Y_Mo_count 0 [.ref 36, .int 6] V A (fun r V' A' => r = V 36 12 ∧ V' = (zv V 36 0 0) ∧ A' = A) := by
  refine CQ.of (lv := [.ref 36, .int 6, zu, zu]) k_Mo_count.1 rfl (by decide) rfl rfl (Nat.le_of_ble_eq_true rfl) ?_
  refine x_aload_n (pc := 0) d_Mo_count_0 rfl ?_
  refine x_iconst (pc := 1) (v := 0) d_Mo_count_1 (by decide) ?_
  refine y_put (pc := 2) (j := 0) d_Mo_count_2 f_Mo_1 rfl rfl (Nat.le_of_ble_eq_true rfl) rfl (Nat.le_of_ble_eq_true rfl) rfl rfl (fun _ => rfl) ?_
  refine x_iconst (pc := 5) (v := 0) d_Mo_count_5 (by decide) ?_
  refine y_ist2 (pc := 6) d_Mo_count_6 ?_
  refine x_iload_n (pc := 7) d_Mo_count_7 rfl ?_
  refine x_sw_in (pc := 8) (off := 132) (tgt := 140) d_Mo_count_8 (by decide) (by decide) rfl (by decide) ?_
  refine x_aload_n (pc := 140) d_Mo_count_140 rfl ?_
  refine x_get (pc := 141) (j := 12) d_Mo_count_141 f_Mo_181 rfl rfl (Nat.le_of_ble_eq_true rfl) rfl rfl rfl ?_
  refine y_iret (pc := 144) d_Mo_count_144 rfl ?_
  exact ⟨rfl, rfl, rfl⟩
set_option maxRecDepth 100000 in
set_option maxHeartbeats 4000000 in
theorem c_Mo_countx (V A : zV) (w : Int32) (hw : w.toInt < 0 ∨ 6 < w.toInt) : CQ Y_Mo_count 0 [.ref 36, .int w] V A (fun r V' A' => r = (-2000000) ∧ V' = (zv V 36 0 0) ∧ A' = A) := by
  refine CQ.of (lv := [.ref 36, .int w, zu, zu]) k_Mo_count.1 rfl (by decide) rfl rfl (Nat.le_of_ble_eq_true rfl) ?_
  refine x_aload_n (pc := 0) d_Mo_count_0 rfl ?_
  refine x_iconst (pc := 1) (v := 0) d_Mo_count_1 (by decide) ?_
  refine y_put (pc := 2) (j := 0) d_Mo_count_2 f_Mo_1 rfl rfl (Nat.le_of_ble_eq_true rfl) rfl (Nat.le_of_ble_eq_true rfl) rfl rfl (fun _ => rfl) ?_
  refine x_iconst (pc := 5) (v := 0) d_Mo_count_5 (by decide) ?_
  refine y_ist2 (pc := 6) d_Mo_count_6 ?_
  refine x_iload_n (pc := 7) d_Mo_count_7 rfl ?_
  refine x_sw_out (pc := 8) (tgt := 145) d_Mo_count_8 hw (by decide) ?_
  refine x_ldc (pc := 145) (v := (-2000000)) d_Mo_count_145 i_Mo_78 ?_
  refine y_iret (pc := 147) d_Mo_count_147 rfl ?_
  exact ⟨rfl, rfl, rfl⟩
