set_option maxRecDepth 100000 in
set_option maxHeartbeats 4000000 in
theorem c_CW_pairing (V A : zV)  (n : Nat) (hn : V 1 4 = nI n) (h1 : 1 ≤ n) (h9 : n ≤ 9) : CQ Y_CW_pairing 10 [.ref 0] V A (fun r V' A' => ∃ f, r = (if f (2 ^ n - 1) = 1000000000 then (-1000000) else f (2 ^ n - 1)) ∧ pcR (A 3) f n (2 ^ n) ∧ V' = V ∧ A' = za A 27 f) := by
  refine CQ.of (lv := [.ref 0]) k_CW_pairing.1 rfl (by decide) rfl rfl (Nat.le_of_ble_eq_true rfl) ?_
  refine x_aload_n (pc := 0) d_CW_pairing_0 rfl ?_
  refine x_get (pc := 1) (j := 5) d_CW_pairing_1 f_CW_58 rfl rfl (Nat.le_of_ble_eq_true rfl) rfl rfl rfl ?_
  refine y_callV (pc := 4) (c_Pai_leastCost _ _ n hn h1 h9) k_Pai_leastCost d_CW_pairing_4 m_CW_190 (by decide) rfl rfl rfl rfl p_Pai_leastCost (K := fun v' V' A' hq => ?_)
  obtain ⟨f, hv, hf, hV, hA⟩ := hq; rw [hV, hA, hv]
  refine y_fS (pc := 7) (c_CW_orNone _ _ _) k_CW_orNone d_CW_pairing_7 m_CW_101 (by decide) rfl p_CW_orNone (K := ?_)
  refine y_iret (pc := 10) d_CW_pairing_10 rfl ?_
  exact ⟨f, rfl, hf, rfl, rfl⟩
theorem prR_up {ar g : Nat → Int32} {n s : Nat} (h9 : n ≤ 9) (hs : s < 512) (h0 : 1 ≤ s) (h : prR ar g n s) : prR ar (upd g s (prF ar g n s)) n (s + 1) := by
  refine ⟨fun _ => by simp only [z_upd]; rw [if_neg (by omega)]; exact h.1 (by omega), fun t h1 h2 => ?_⟩
  have e : prF ar (upd g s (prF ar g n s)) n t = prF ar g n t := prF_congr h9 (by omega) (fun u hu => by simp only [z_upd]; rw [if_neg (by omega)])
  rw [e]
  simp only [z_upd]
  by_cases ht : t = s
  · rw [if_pos ht, ht]
  · rw [if_neg ht]; exact h.2 t h1 (by omega)
theorem prR_0 {ar g : Nat → Int32} {n : Nat} : prR ar (upd g 0 0) n 1 := ⟨fun _ => by simp [z_upd], fun t h1 h2 => by omega⟩
theorem upd_upd (f : Nat → Int32) (k : Nat) (x y : Int32) : upd (upd f k x) k y = upd f k y := by
  funext j
  simp only [z_upd]
  by_cases h : j = k <;> simp [h]
theorem upd_at (f : Nat → Int32) (k : Nat) (x : Int32) : upd f k x k = x := by simp [z_upd]
theorem upd_ne (f : Nat → Int32) {k j : Nat} (x : Int32) (h : j ≠ k) : upd f k x j = f j := by simp [z_upd, h]
theorem za_self (A : zV) (k : Nat) : za A k (A k) = A := by
  funext a
  simp only [za_eq]
  by_cases h : a = k <;> simp [h]
def pracc (ar g : Nat → Int32) (s k : Nat) : Int32 := zf (fun o a => if s.testBit o = true ∧ ¬ zpc s - 1 = o ∧ ¬ ar (9 * (zpc s - 1) + o) = 1000000 ∧ ¬ g (s &&& (511 ^^^ 2 ^ o)) = 900000 then zmin a (g (s &&& (511 ^^^ 2 ^ o)) + ar (9 * (zpc s - 1) + o)) else a) 900000 k
set_option maxRecDepth 100000 in
set_option maxHeartbeats 4000000 in
theorem c_Mo_pairing (V A : zV)  (n : Nat) (hn : V 36 1 = nI n) (h1 : 1 ≤ n) (h9 : n ≤ 9) : CQ Y_Mo_pairing 10 [.ref 36] V A (fun r V' A' => ∃ g, r = (if g (2 ^ n - 1) = 900000 then (-1000000) else g (2 ^ n - 1)) ∧ prR (A 38) g n (2 ^ n) ∧ V' = zv V 36 0 0 ∧ A' = za A 51 g) := by
  have hp2 : 2 ^ n ≤ 512 := by have := Nat.pow_le_pow_right (n := 2) (by omega) h9; simpa using this
  have hp1 : 2 ≤ 2 ^ n := by have := Nat.pow_le_pow_right (n := 2) (by omega) h1; simpa using this
  have hall : nI (2 ^ n) - 1 = nI (2 ^ n - 1) := by rw [show (1 : Int32) = nI 1 from rfl, pk_sub (by omega)]
  have hS : ∀ s, s ≤ 2 ^ n → ∀ g, prR (A 38) g n s → X Y_Mo_pairing (zrm 10) (0, fun _ => 0) (zFq 10 (fun r V' A' => ∃ g, r = (if g (2 ^ n - 1) = 900000 then (-1000000) else g (2 ^ n - 1)) ∧ prR (A 38) g n (2 ^ n) ∧ V' = zv V 36 0 0 ∧ A' = za A 51 g)) 7 [.ref 36, .int (nI s), zu, zu, zu] [] (cells (zv V 36 0 0) (za A 51 g)) 0 0 := by
    refine z_down (fun g hg => ?_) (fun s hs0 hs g hg => ?_)
    · refine x_iload_n (pc := 7) d_Mo_pairing_7 rfl ?_
      refine x_iconst (pc := 8) (v := 1) d_Mo_pairing_8 (by decide) ?_
      refine x_aload_n (pc := 9) d_Mo_pairing_9 rfl ?_
      refine x_get (pc := 10) (j := 1) d_Mo_pairing_10 f_Mo_13 rfl rfl (Nat.le_of_ble_eq_true rfl) rfl rfl rfl ?_
      refine x_ishl (pc := 13) d_Mo_pairing_13 ?_
      refine x_icmp_ge (pc := 14) (tgt := 163) d_Mo_pairing_14 (by decide) (fun h14 => ?_) (fun h => by rw [show zv V 36 0 0 36 1 = V 36 1 from rfl, hn, z_shl n h9] at h; exact absurd (nI_le (by omega) (by omega)) h)
      refine x_aload_n (pc := 163) d_Mo_pairing_163 rfl ?_
      refine x_get (pc := 164) (j := 30) d_Mo_pairing_164 f_Mo_66 rfl rfl (Nat.le_of_ble_eq_true rfl) rfl rfl rfl ?_
      refine x_iconst (pc := 167) (v := 1) d_Mo_pairing_167 (by decide) ?_
      refine x_aload_n (pc := 168) d_Mo_pairing_168 rfl ?_
      refine x_get (pc := 169) (j := 1) d_Mo_pairing_169 f_Mo_13 rfl rfl (Nat.le_of_ble_eq_true rfl) rfl rfl rfl ?_
      refine x_ishl (pc := 172) d_Mo_pairing_172 ?_
      refine x_iconst (pc := 173) (v := 1) d_Mo_pairing_173 (by decide) ?_
      refine x_isub (pc := 174) d_Mo_pairing_174 ?_
      refine x_iald (pc := 175) d_Mo_pairing_175 rfl (by rw [show zv V 36 0 0 36 1 = V 36 1 from rfl, hn, z_shl n h9, hall]; exact vp_in_nI (by omega) (by decide)) ?_
      refine y_fS (pc := 176) (c_Mo_told _ _ _) k_Mo_told d_Mo_pairing_176 m_Mo_147 (by decide) rfl p_Mo_told (K := ?_)
      refine y_iret (pc := 179) d_Mo_pairing_179 rfl ?_
      (refine ⟨g, ?_, hg, rfl, rfl⟩; rw [show zv V 36 0 0 36 1 = V 36 1 from rfl, hn, z_shl n h9, hall, nI_clamp (by omega)]; rfl)
    · have hpop := z9_pop s (by omega)
      by_cases hz : s = 0
      · subst hz
        have hT : ∀ k, k ≤ n → X Y_Mo_pairing (zrm 10) (0, fun _ => 0) (zFq 10 (fun r V' A' => ∃ g, r = (if g (2 ^ n - 1) = 900000 then (-1000000) else g (2 ^ n - 1)) ∧ prR (A 38) g n (2 ^ n) ∧ V' = zv V 36 0 0 ∧ A' = za A 51 g)) 42 [.ref 36, .int (nI 0), .int (-1), .int (nI k), zu] [] (cells (zv V 36 0 0) (za A 51 (upd g 0 0))) 0 0 := by
          refine z_down ?_ (fun k hk hs2 => ?_)
          · refine x_iload_n (pc := 42) d_Mo_pairing_42 rfl ?_
            refine x_aload_n (pc := 43) d_Mo_pairing_43 rfl ?_
            refine x_get (pc := 44) (j := 1) d_Mo_pairing_44 f_Mo_13 rfl rfl (Nat.le_of_ble_eq_true rfl) rfl rfl rfl ?_
            refine x_icmp_ge (pc := 47) (tgt := 157) d_Mo_pairing_47 (by decide) (fun h47 => ?_) (fun h => by rw [show zv V 36 0 0 36 1 = V 36 1 from rfl, hn] at h; exact absurd (nI_le (by omega) (by omega)) h)
            refine y_inc1 (pc := 157) (v := 1) d_Mo_pairing_157 (by decide) ?_
            refine x_goto (pc := 160) (tgt := 7) d_Mo_pairing_160 (by decide) ?_
            (exact y_tail (p := [_, _]) (t := [_, _, _]) rfl rfl (by simp [Value.category]) (hs _ prR_0))
          · refine x_iload_n (pc := 42) d_Mo_pairing_42 rfl ?_
            refine x_aload_n (pc := 43) d_Mo_pairing_43 rfl ?_
            refine x_get (pc := 44) (j := 1) d_Mo_pairing_44 f_Mo_13 rfl rfl (Nat.le_of_ble_eq_true rfl) rfl rfl rfl ?_
            refine x_icmp_ge (pc := 47) (tgt := 157) d_Mo_pairing_47 (by decide) (fun h => by rw [show zv V 36 0 0 36 1 = V 36 1 from rfl, hn] at h; exact absurd h (nI_ge (by omega) (by omega))) (fun h47 => ?_)
            refine x_iload_n (pc := 50) d_Mo_pairing_50 rfl ?_
            refine x_iload_n (pc := 51) d_Mo_pairing_51 rfl ?_
            refine x_ishr (pc := 52) d_Mo_pairing_52 ?_
            refine x_iconst (pc := 53) (v := 1) d_Mo_pairing_53 (by decide) ?_
            refine x_iand (pc := 54) d_Mo_pairing_54 ?_
            refine x_iconst (pc := 55) (v := 1) d_Mo_pairing_55 (by decide) ?_
            refine x_icmp_ne (pc := 56) (tgt := 151) d_Mo_pairing_56 (by decide) (fun h56 => ?_) (fun h => absurd h (fun q => by have := (z9_shr 0 (by omega) k (by omega)).mp q; rw [Nat.zero_testBit] at this; cases this))
            refine y_inc3 (pc := 151) (v := 1) d_Mo_pairing_151 (by decide) ?_
            refine x_goto (pc := 154) (tgt := 42) d_Mo_pairing_154 (by decide) ?_
            (rw [nI_succ k] at hs2; exact hs2)
        refine x_iload_n (pc := 7) d_Mo_pairing_7 rfl ?_
        refine x_iconst (pc := 8) (v := 1) d_Mo_pairing_8 (by decide) ?_
        refine x_aload_n (pc := 9) d_Mo_pairing_9 rfl ?_
        refine x_get (pc := 10) (j := 1) d_Mo_pairing_10 f_Mo_13 rfl rfl (Nat.le_of_ble_eq_true rfl) rfl rfl rfl ?_
        refine x_ishl (pc := 13) d_Mo_pairing_13 ?_
        refine x_icmp_ge (pc := 14) (tgt := 163) d_Mo_pairing_14 (by decide) (fun h => by rw [show zv V 36 0 0 36 1 = V 36 1 from rfl, hn, z_shl n h9] at h; exact absurd h (nI_ge (by omega) (by omega))) (fun h14 => ?_)
        refine x_iload_n (pc := 17) d_Mo_pairing_17 rfl ?_
        refine y_fS (pc := 18) (c_JI_bitCount _ _ _) k_JI_bitCount d_Mo_pairing_18 m_Mo_167 (by decide) rfl p_JI_bitCount (K := ?_)
        refine x_iconst (pc := 21) (v := 1) d_Mo_pairing_21 (by decide) ?_
        refine x_isub (pc := 22) d_Mo_pairing_22 ?_
        refine y_ist2 (pc := 23) d_Mo_pairing_23 ?_
        refine x_aload_n (pc := 24) d_Mo_pairing_24 rfl ?_
        refine x_get (pc := 25) (j := 30) d_Mo_pairing_25 f_Mo_66 rfl rfl (Nat.le_of_ble_eq_true rfl) rfl rfl rfl ?_
        refine x_iload_n (pc := 28) d_Mo_pairing_28 rfl ?_
        refine x_iload_n (pc := 29) d_Mo_pairing_29 rfl ?_
        refine x_if_ne (pc := 30) (tgt := 37) d_Mo_pairing_30 (by decide) (fun h => absurd rfl h) (fun h30 => ?_)
        refine x_iconst (pc := 33) (v := 0) d_Mo_pairing_33 (by decide) ?_
        refine x_goto (pc := 34) (tgt := 39) d_Mo_pairing_34 (by decide) ?_
        refine y_iast (pc := 39) d_Mo_pairing_39 rfl (fun _ => rfl) (show vp_in (nI 0) 512 from vp_in_nI (by omega) (by decide)) ?_
        refine x_iconst (pc := 40) (v := 0) d_Mo_pairing_40 (by decide) ?_
        refine y_ist3 (pc := 41) d_Mo_pairing_41 ?_
        (rw [za_za, show zbc (nI 0) - 1 = -1 by decide]; exact hT 0 (Nat.zero_le _))
      · have hfrom : nI (zpc s) - 1 = nI (zpc s - 1) := by rw [show (1 : Int32) = nI 1 from rfl, pk_sub (by omega)]
        have hT : ∀ k, k ≤ n → X Y_Mo_pairing (zrm 10) (0, fun _ => 0) (zFq 10 (fun r V' A' => ∃ g, r = (if g (2 ^ n - 1) = 900000 then (-1000000) else g (2 ^ n - 1)) ∧ prR (A 38) g n (2 ^ n) ∧ V' = zv V 36 0 0 ∧ A' = za A 51 g)) 42 [.ref 36, .int (nI s), .int (nI (zpc s - 1)), .int (nI k), zu] [] (cells (zv V 36 0 0) (za A 51 (upd g s (pracc (A 38) g s k)))) 0 0 := by
          refine z_down ?_ (fun k hk hs2 => ?_)
          · refine x_iload_n (pc := 42) d_Mo_pairing_42 rfl ?_
            refine x_aload_n (pc := 43) d_Mo_pairing_43 rfl ?_
            refine x_get (pc := 44) (j := 1) d_Mo_pairing_44 f_Mo_13 rfl rfl (Nat.le_of_ble_eq_true rfl) rfl rfl rfl ?_
            refine x_icmp_ge (pc := 47) (tgt := 157) d_Mo_pairing_47 (by decide) (fun h47 => ?_) (fun h => by rw [show zv V 36 0 0 36 1 = V 36 1 from rfl, hn] at h; exact absurd (nI_le (by omega) (by omega)) h)
            refine y_inc1 (pc := 157) (v := 1) d_Mo_pairing_157 (by decide) ?_
            refine x_goto (pc := 160) (tgt := 7) d_Mo_pairing_160 (by decide) ?_
            (rw [show nI s + 1 = nI (s + 1) from (nI_succ s).symm]; exact y_tail (p := [_, _]) (t := [_, _, _]) rfl rfl (by simp [Value.category]) (hs _ (prR_up h9 (by omega) (by omega) hg)))
          · have hdel := z9_del s (by omega) k (by omega)
            have hsh := z9_shr s (by omega) k (by omega)
            have hix : (9 * nI (zpc s - 1) + nI k) = nI (9 * (zpc s - 1) + k) := by rw [show (9 : Int32) = nI 9 from rfl, pk_mul, nI_add]
            have hcl : (nI (9 * (zpc s - 1) + k)).toNatClampNeg = 9 * (zpc s - 1) + k := nI_clamp (by omega)
            have hcs : (nI s).toNatClampNeg = s := nI_clamp (by omega)
            have hcd : (nI (s &&& (511 ^^^ 2 ^ k))).toNatClampNeg = s &&& (511 ^^^ 2 ^ k) := nI_clamp (by omega)
            have hac : pracc (A 38) g s (k + 1) = (if s.testBit k = true ∧ ¬ zpc s - 1 = k ∧ ¬ A 38 (9 * (zpc s - 1) + k) = 1000000 ∧ ¬ g (s &&& (511 ^^^ 2 ^ k)) = 900000 then zmin (pracc (A 38) g s k) (g (s &&& (511 ^^^ 2 ^ k)) + A 38 (9 * (zpc s - 1) + k)) else pracc (A 38) g s k) := rfl
            rw [nI_succ k] at hs2
            refine x_iload_n (pc := 42) d_Mo_pairing_42 rfl ?_
            refine x_aload_n (pc := 43) d_Mo_pairing_43 rfl ?_
            refine x_get (pc := 44) (j := 1) d_Mo_pairing_44 f_Mo_13 rfl rfl (Nat.le_of_ble_eq_true rfl) rfl rfl rfl ?_
            refine x_icmp_ge (pc := 47) (tgt := 157) d_Mo_pairing_47 (by decide) (fun h => by rw [show zv V 36 0 0 36 1 = V 36 1 from rfl, hn] at h; exact absurd h (nI_ge (by omega) (by omega))) (fun h47 => ?_)
            refine x_iload_n (pc := 50) d_Mo_pairing_50 rfl ?_
            refine x_iload_n (pc := 51) d_Mo_pairing_51 rfl ?_
            refine x_ishr (pc := 52) d_Mo_pairing_52 ?_
            refine x_iconst (pc := 53) (v := 1) d_Mo_pairing_53 (by decide) ?_
            refine x_iand (pc := 54) d_Mo_pairing_54 ?_
            refine x_iconst (pc := 55) (v := 1) d_Mo_pairing_55 (by decide) ?_
            refine x_icmp_ne (pc := 56) (tgt := 151) d_Mo_pairing_56 (by decide) (fun h56 => ?_) (fun h56 => ?_)
            · refine y_inc3 (pc := 151) (v := 1) d_Mo_pairing_151 (by decide) ?_
              refine x_goto (pc := 154) (tgt := 42) d_Mo_pairing_154 (by decide) ?_
              rw [hac, if_neg (fun q => h56 (hsh.mpr q.1))] at hs2
              exact hs2
            · refine x_iload_n (pc := 59) d_Mo_pairing_59 rfl ?_
              refine x_iload_n (pc := 60) d_Mo_pairing_60 rfl ?_
              refine x_icmp_eq (pc := 61) (tgt := 151) d_Mo_pairing_61 (by decide) (fun h61 => ?_) (fun h61 => ?_)
              · refine y_inc3 (pc := 151) (v := 1) d_Mo_pairing_151 (by decide) ?_
                refine x_goto (pc := 154) (tgt := 42) d_Mo_pairing_154 (by decide) ?_
                rw [hac, if_neg (fun q => q.2.1 ((nI_eq (by omega) (by omega)).mp h61))] at hs2
                exact hs2
              · refine x_aload_n (pc := 64) d_Mo_pairing_64 rfl ?_
                refine x_get (pc := 65) (j := 3) d_Mo_pairing_65 f_Mo_20 rfl rfl (Nat.le_of_ble_eq_true rfl) rfl rfl rfl ?_
                refine x_bipush (pc := 68) (v := 9) d_Mo_pairing_68 (by decide) ?_
                refine x_iload_n (pc := 70) d_Mo_pairing_70 rfl ?_
                refine x_imul (pc := 71) d_Mo_pairing_71 ?_
                refine x_iload_n (pc := 72) d_Mo_pairing_72 rfl ?_
                refine x_iadd (pc := 73) d_Mo_pairing_73 ?_
                refine x_iald (pc := 74) d_Mo_pairing_74 rfl (by rw [hix]; exact vp_in_nI (by omega) (by decide)) ?_
                refine x_ldc (pc := 75) (v := 1000000) d_Mo_pairing_75 i_Mo_69 ?_
                refine x_icmp_eq (pc := 77) (tgt := 151) d_Mo_pairing_77 (by decide) (fun h77 => ?_) (fun h77 => ?_)
                · refine y_inc3 (pc := 151) (v := 1) d_Mo_pairing_151 (by decide) ?_
                  refine x_goto (pc := 154) (tgt := 42) d_Mo_pairing_154 (by decide) ?_
                  rw [hix, hcl] at h77
                  rw [hac, if_neg (fun q => q.2.2.1 h77)] at hs2
                  exact hs2
                · refine x_aload_n (pc := 80) d_Mo_pairing_80 rfl ?_
                  refine x_get (pc := 81) (j := 30) d_Mo_pairing_81 f_Mo_66 rfl rfl (Nat.le_of_ble_eq_true rfl) rfl rfl rfl ?_
                  refine x_iload_n (pc := 84) d_Mo_pairing_84 rfl ?_
                  refine x_iconst (pc := 85) (v := 1) d_Mo_pairing_85 (by decide) ?_
                  refine x_iload_n (pc := 86) d_Mo_pairing_86 rfl ?_
                  refine x_ishl (pc := 87) d_Mo_pairing_87 ?_
                  refine x_iconst (pc := 88) (v := (-1)) d_Mo_pairing_88 (by decide) ?_
                  refine x_ixor (pc := 89) d_Mo_pairing_89 ?_
                  refine x_iand (pc := 90) d_Mo_pairing_90 ?_
                  refine x_iald (pc := 91) d_Mo_pairing_91 rfl (by rw [hdel.1]; exact vp_in_nI (by omega) (by decide)) ?_
                  refine x_ldc (pc := 92) (v := 900000) d_Mo_pairing_92 i_Mo_101 ?_
                  refine x_icmp_eq (pc := 94) (tgt := 151) d_Mo_pairing_94 (by decide) (fun h94 => ?_) (fun h94 => ?_)
                  · refine y_inc3 (pc := 151) (v := 1) d_Mo_pairing_151 (by decide) ?_
                    refine x_goto (pc := 154) (tgt := 42) d_Mo_pairing_154 (by decide) ?_
                    have hbt : s.testBit k = true := hsh.mp h56
                    have hne := (z9_lt s (by omega) k (by omega) hbt).1
                    rw [hix, hcl] at h77
                    rw [hdel.1, hcd] at h94
                    have h94' : (upd g s (pracc (A 38) g s k)) (s &&& (511 ^^^ 2 ^ k)) = 900000 := h94
                    rw [upd_ne _ _ (by omega)] at h94'
                    rw [hac, if_neg (fun q => q.2.2.2 h94')] at hs2
                    exact hs2
                  · refine x_aload_n (pc := 97) d_Mo_pairing_97 rfl ?_
                    refine x_get (pc := 98) (j := 30) d_Mo_pairing_98 f_Mo_66 rfl rfl (Nat.le_of_ble_eq_true rfl) rfl rfl rfl ?_
                    refine x_iload_n (pc := 101) d_Mo_pairing_101 rfl ?_
                    refine x_iconst (pc := 102) (v := 1) d_Mo_pairing_102 (by decide) ?_
                    refine x_iload_n (pc := 103) d_Mo_pairing_103 rfl ?_
                    refine x_ishl (pc := 104) d_Mo_pairing_104 ?_
                    refine x_iconst (pc := 105) (v := (-1)) d_Mo_pairing_105 (by decide) ?_
                    refine x_ixor (pc := 106) d_Mo_pairing_106 ?_
                    refine x_iand (pc := 107) d_Mo_pairing_107 ?_
                    refine x_iald (pc := 108) d_Mo_pairing_108 rfl (by rw [hdel.1]; exact vp_in_nI (by omega) (by decide)) ?_
                    refine x_aload_n (pc := 109) d_Mo_pairing_109 rfl ?_
                    refine x_get (pc := 110) (j := 3) d_Mo_pairing_110 f_Mo_20 rfl rfl (Nat.le_of_ble_eq_true rfl) rfl rfl rfl ?_
                    refine x_bipush (pc := 113) (v := 9) d_Mo_pairing_113 (by decide) ?_
                    refine x_iload_n (pc := 115) d_Mo_pairing_115 rfl ?_
                    refine x_imul (pc := 116) d_Mo_pairing_116 ?_
                    refine x_iload_n (pc := 117) d_Mo_pairing_117 rfl ?_
                    refine x_iadd (pc := 118) d_Mo_pairing_118 ?_
                    refine x_iald (pc := 119) d_Mo_pairing_119 rfl (by rw [hix]; exact vp_in_nI (by omega) (by decide)) ?_
                    refine x_iadd (pc := 120) d_Mo_pairing_120 ?_
                    refine y_ist4 (pc := 121) d_Mo_pairing_121 ?_
                    refine x_aload_n (pc := 123) d_Mo_pairing_123 rfl ?_
                    refine x_get (pc := 124) (j := 30) d_Mo_pairing_124 f_Mo_66 rfl rfl (Nat.le_of_ble_eq_true rfl) rfl rfl rfl ?_
                    refine x_iload_n (pc := 127) d_Mo_pairing_127 rfl ?_
                    refine x_iload (pc := 128) d_Mo_pairing_128 rfl ?_
                    refine x_aload_n (pc := 130) d_Mo_pairing_130 rfl ?_
                    refine x_get (pc := 131) (j := 30) d_Mo_pairing_131 f_Mo_66 rfl rfl (Nat.le_of_ble_eq_true rfl) rfl rfl rfl ?_
                    refine x_iload_n (pc := 134) d_Mo_pairing_134 rfl ?_
                    refine x_iald (pc := 135) d_Mo_pairing_135 rfl (vp_in_nI (by omega) (by decide)) ?_
                    refine x_icmp_ge (pc := 136) (tgt := 144) d_Mo_pairing_136 (by decide) (fun h136 => ?_) (fun h136 => ?_)
                    · refine x_aload_n (pc := 144) d_Mo_pairing_144 rfl ?_
                      refine x_get (pc := 145) (j := 30) d_Mo_pairing_145 f_Mo_66 rfl rfl (Nat.le_of_ble_eq_true rfl) rfl rfl rfl ?_
                      refine x_iload_n (pc := 148) d_Mo_pairing_148 rfl ?_
                      refine x_iald (pc := 149) d_Mo_pairing_149 rfl (vp_in_nI (by omega) (by decide)) ?_
                      refine y_iast (pc := 150) d_Mo_pairing_150 rfl (fun _ => rfl) (vp_in_nI (by omega) (by decide)) ?_
                      refine y_inc3 (pc := 151) (v := 1) d_Mo_pairing_151 (by decide) ?_
                      refine x_goto (pc := 154) (tgt := 42) d_Mo_pairing_154 (by decide) ?_
                      have hbt : s.testBit k = true := hsh.mp h56
                      have hne := (z9_lt s (by omega) k (by omega) hbt).1
                      rw [hix, hcl] at h77
                      rw [hdel.1, hcd] at h94
                      have h94' : ¬ (upd g s (pracc (A 38) g s k)) (s &&& (511 ^^^ 2 ^ k)) = 900000 := h94
                      rw [upd_ne _ _ (by omega)] at h94'
                      rw [hac, if_pos ⟨hbt, fun q => h61 (by rw [q]), h77, h94'⟩] at hs2
                      have hcell : za A 51 (upd g s (pracc (A 38) g s k)) 51 = upd g s (pracc (A 38) g s k) := rfl
                      have h38 : za A 51 (upd g s (pracc (A 38) g s k)) 38 = A 38 := rfl
                      simp only [hdel.1, hcd, hix, hcl, hcs, hcell, h38, upd_ne g (pracc (A 38) g s k) (show s &&& (511 ^^^ 2 ^ k) ≠ s by omega), upd_at, za_za, upd_upd] at h136 ⊢
                      refine y_tail (p := [_, _, _, _]) (t := [_]) rfl rfl (by simp [Value.category]) ?_
                      rw [zmin, if_neg (Int32.not_lt.mpr h136)] at hs2
                      exact hs2
                    · refine x_iload (pc := 139) d_Mo_pairing_139 rfl ?_
                      refine x_goto (pc := 141) (tgt := 150) d_Mo_pairing_141 (by decide) ?_
                      refine y_iast (pc := 150) d_Mo_pairing_150 rfl (fun _ => rfl) (vp_in_nI (by omega) (by decide)) ?_
                      refine y_inc3 (pc := 151) (v := 1) d_Mo_pairing_151 (by decide) ?_
                      refine x_goto (pc := 154) (tgt := 42) d_Mo_pairing_154 (by decide) ?_
                      have hbt : s.testBit k = true := hsh.mp h56
                      have hne := (z9_lt s (by omega) k (by omega) hbt).1
                      rw [hix, hcl] at h77
                      rw [hdel.1, hcd] at h94
                      have h94' : ¬ (upd g s (pracc (A 38) g s k)) (s &&& (511 ^^^ 2 ^ k)) = 900000 := h94
                      rw [upd_ne _ _ (by omega)] at h94'
                      rw [hac, if_pos ⟨hbt, fun q => h61 (by rw [q]), h77, h94'⟩] at hs2
                      have hcell : za A 51 (upd g s (pracc (A 38) g s k)) 51 = upd g s (pracc (A 38) g s k) := rfl
                      have h38 : za A 51 (upd g s (pracc (A 38) g s k)) 38 = A 38 := rfl
                      simp only [hdel.1, hcd, hix, hcl, hcs, hcell, h38, upd_ne g (pracc (A 38) g s k) (show s &&& (511 ^^^ 2 ^ k) ≠ s by omega), upd_at, za_za, upd_upd] at h136 ⊢
                      refine y_tail (p := [_, _, _, _]) (t := [_]) rfl rfl (by simp [Value.category]) ?_
                      rw [zmin, if_pos (Int32.not_le.mp h136)] at hs2
                      exact hs2
        refine x_iload_n (pc := 7) d_Mo_pairing_7 rfl ?_
        refine x_iconst (pc := 8) (v := 1) d_Mo_pairing_8 (by decide) ?_
        refine x_aload_n (pc := 9) d_Mo_pairing_9 rfl ?_
        refine x_get (pc := 10) (j := 1) d_Mo_pairing_10 f_Mo_13 rfl rfl (Nat.le_of_ble_eq_true rfl) rfl rfl rfl ?_
        refine x_ishl (pc := 13) d_Mo_pairing_13 ?_
        refine x_icmp_ge (pc := 14) (tgt := 163) d_Mo_pairing_14 (by decide) (fun h => by rw [show zv V 36 0 0 36 1 = V 36 1 from rfl, hn, z_shl n h9] at h; exact absurd h (nI_ge (by omega) (by omega))) (fun h14 => ?_)
        refine x_iload_n (pc := 17) d_Mo_pairing_17 rfl ?_
        refine y_fS (pc := 18) (c_JI_bitCount _ _ _) k_JI_bitCount d_Mo_pairing_18 m_Mo_167 (by decide) rfl p_JI_bitCount (K := ?_)
        refine x_iconst (pc := 21) (v := 1) d_Mo_pairing_21 (by decide) ?_
        refine x_isub (pc := 22) d_Mo_pairing_22 ?_
        refine y_ist2 (pc := 23) d_Mo_pairing_23 ?_
        refine x_aload_n (pc := 24) d_Mo_pairing_24 rfl ?_
        refine x_get (pc := 25) (j := 30) d_Mo_pairing_25 f_Mo_66 rfl rfl (Nat.le_of_ble_eq_true rfl) rfl rfl rfl ?_
        refine x_iload_n (pc := 28) d_Mo_pairing_28 rfl ?_
        refine x_iload_n (pc := 29) d_Mo_pairing_29 rfl ?_
        refine x_if_ne (pc := 30) (tgt := 37) d_Mo_pairing_30 (by decide) (fun h30 => ?_) (fun h => absurd h (nI_ne0 (by omega) (by omega)))
        refine x_ldc (pc := 37) (v := 900000) d_Mo_pairing_37 i_Mo_101 ?_
        refine y_iast (pc := 39) d_Mo_pairing_39 rfl (fun _ => rfl) (vp_in_nI (by omega) (by decide)) ?_
        refine x_iconst (pc := 40) (v := 0) d_Mo_pairing_40 (by decide) ?_
        refine y_ist3 (pc := 41) d_Mo_pairing_41 ?_
        (rw [za_za, hpop.1, hfrom, nI_clamp (by omega)]; exact hT 0 (Nat.zero_le _))
  refine CQ.of (lv := [.ref 36, zu, zu, zu, zu]) k_Mo_pairing.1 rfl (by decide) rfl rfl (Nat.le_of_ble_eq_true rfl) ?_
  refine x_aload_n (pc := 0) d_Mo_pairing_0 rfl ?_
  refine x_iconst (pc := 1) (v := 0) d_Mo_pairing_1 (by decide) ?_
  refine y_put (pc := 2) (j := 0) d_Mo_pairing_2 f_Mo_1 rfl rfl (Nat.le_of_ble_eq_true rfl) rfl (Nat.le_of_ble_eq_true rfl) rfl rfl (fun _ => rfl) ?_
  refine x_iconst (pc := 5) (v := 0) d_Mo_pairing_5 (by decide) ?_
  refine y_ist1 (pc := 6) d_Mo_pairing_6 ?_
  (have hz := hS 0 (Nat.zero_le _) (A 51) ⟨fun h => absurd h (by omega), fun t q1 q2 => by omega⟩; rw [za_self] at hz; exact hz)
