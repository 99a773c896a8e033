def fpr (V V1 : zV) : Prop := ∀ k j, ¬ (k = 19 ∧ (j = 4 ∨ j = 5 ∨ j = 6 ∨ j = 7)) → ¬ (k = 16 ∧ (j = 5 ∨ j = 6 ∨ j = 7)) → V1 k j = V k j
def fpa (A A1 : zV) : Prop := ∀ k, ¬ k = 17 → ¬ k = 20 → A1 k = A k
def TD (W : zW) (V A V' A' : zV) : Prop := (V' 16 5 = V 16 5 ∧ V' 16 6 = V 16 6 ∧ V' 16 7 = V 16 7 ∧ A' 17 = A 17) ∨ (V' 16 5 = V 1 8 ∧ taOK W (V' 16 6) (V' 16 7) (A' 17))
theorem fp_C {W : zW} {V A V1 A1 : zV} (h : fpr V V1) (h' : fpa A A1) (hC : WC W V A) : WC W V1 A1 := hC.same (fun j => h 1 j (by omega) (by omega)) (fun k hk => h' k (by omega) (by omega))
theorem fpa.S {W : zW} {A A1 : zV} (h : fpa A A1) (hs : shOK W (zta A)) : shOK W (zta A1) := by
  have : zta A1 = zta A := by
    funext k
    unfold zta
    split <;> exact h _ (by decide) (by decide)
  rw [this]; exact hs
theorem TD.get {W : zW} {V A V1 A1 : zV} (h : TD W V A V1 A1) (e8 : V1 1 8 = V 1 8) (hta : V 16 5 = V 1 8 → taOK W (V 16 6) (V 16 7) (A 17)) : V1 16 5 = V1 1 8 → taOK W (V1 16 6) (V1 16 7) (A1 17) := by
  intro z
  rcases h with ⟨h1, h2, h3, h4⟩ | ⟨h1, h2⟩
  · rw [h2, h3, h4]; exact hta (by rw [← h1, ← e8]; exact z)
  · exact h2
set_option maxRecDepth 100000 in
set_option maxHeartbeats 4000000 in
theorem c_Fir_refresh {W : zW} (V A : zV) (hW : zWok W) (hC : WC W V A) (hsh : shOK W (zta A)) (B : Int) (hB : sc (wP W W.mo (2 ^ (W.n - 1) - 1)) = some B) (hta : V 16 5 = V 1 8 → taOK W (V 16 6) (V 16 7) (A 17)) (hfi : V 19 5 = V 1 8 → fiOK W (V 19 4) (A 20)) : CU Y_Fir_refresh 4 [.ref 19] V A (fun V' A' => fpr V V' ∧ fpa A A' ∧ V' 19 5 = V 1 8 ∧ fiOK W (V' 19 4) (A' 20) ∧ TD W V A V' A') := by
  have hn9 := hW.h9
  have hp := pw_le hn9
  have hm8 := hW.m8
  have h0p : 0 < 2 ^ (W.n - 1) := Nat.pos_of_ne_zero (by simp)
  have hEnd : ∀ (V1 A1 : zV) (r : Nat) (q : Value), q.category = 1 → fpr V V1 → fpa A A1 → V1 19 5 = V 1 8 → TD W V A V1 A1 → (∃ c U wr last d, FH W B (zHL W W.mo 0 0 [] 0) r c U wr last d ∧ zwd wr (V1 19 4) (A1 20) ∧ 2 * zc U (W.n - 1) + wr.length ≤ 16 ∧ sc (zos W (zdf (2 ^ (W.n - 1) - 1) U)) = some d) → X Y_Fir_refresh (zrm 4) (0, fun _ => 0) (zFu 4 (fun V' A' => fpr V V' ∧ fpa A A' ∧ V' 19 5 = V 1 8 ∧ fiOK W (V' 19 4) (A' 20) ∧ TD W V A V' A')) 118 [.ref 19, q] [] (cells V1 A1) 0 0 := by
    intro V1 A1 r q hq g1 g2 g3 g4 ⟨c, U, wr, last, d, e1, e2, e3, e4⟩
    have hl := FH_end hn9 hB e1 e4
    refine y_vret (pc := 118) d_Fir_refresh_118 rfl ?_
    exact ⟨g1, g2, g3, ⟨B, wr, hl, e2.1, by omega, e2.2⟩, g4⟩
  have hS : ∀ ρ, ρ ≤ W.mo → ∀ (V1 A1 : zV), fpr V V1 → fpa A A1 → V1 19 5 = V 1 8 → TD W V A V1 A1 → FHm W B (zHL W W.mo 0 0 [] 0) ρ V1 A1 → X Y_Fir_refresh (zrm 4) (0, fun _ => 0) (zFu 4 (fun V' A' => fpr V V' ∧ fpa A A' ∧ V' 19 5 = V 1 8 ∧ fiOK W (V' 19 4) (A' 20) ∧ TD W V A V' A')) 61 [.ref 19, .int (nI ρ)] [] (cells V1 A1) 0 0 := by
    intro ρ
    induction ρ with
    | zero =>
      intro _ V1 A1 g1 g2 g3 g4 ⟨c, U, wr, last, d, e1, e2, e3, e4, e5⟩
      refine x_iload_n (pc := 61) d_Fir_refresh_61 rfl ?_
      refine x_if_le (pc := 62) (tgt := 118) d_Fir_refresh_62 (by decide) (fun h62 => ?_) (fun h => absurd (by decide) h)
      exact hEnd V1 A1 0 _ rfl g1 g2 g3 g4 ⟨c, U, wr, last, d, e1, e4, e5, by have z := e1.2.2.2.1.1; rw [wP_0] at z; exact z⟩
    | succ r ih =>
      intro hr V1 A1 g1 g2 g3 g4 ⟨c, U, wr, last, d, e1, e2, e3, e4, e5⟩
      have hC1 := fp_C g1 g2 hC
      have hsh1 := g2.S hsh
      have e8 : V1 1 8 = V 1 8 := g1 1 8 (by omega) (by omega)
      have hF : zdf (2 ^ (W.n - 1) - 1) U < 2 ^ (W.n - 1) := Nat.lt_of_le_of_lt Nat.and_le_left (by omega)
      have cF : (nI (zdf (2 ^ (W.n - 1) - 1) U)).toNatClampNeg = zdf (2 ^ (W.n - 1) - 1) U := nI_clamp (by omega)
      have hz : A1 14 (zdf (2 ^ (W.n - 1) - 1) U) = zEc (sc (zos W (zdf (2 ^ (W.n - 1) - 1) U))) := by
        have z : A1 14 (0 * 256 + zdf (2 ^ (W.n - 1) - 1) U) = _ := (hsh1.2.2 0 _ (Nat.zero_le _) hF).1
        rw [wP_0, Nat.zero_mul, Nat.zero_add] at z; exact z
      have hdB := wP_B hW (r := r + 1) (by omega) _ d e1.2.2.2.1.1
      have hBo : oB 101000 (sc (zos W (zdf (2 ^ (W.n - 1) - 1) U))) := oB_mono (zos_B hW _) (by omega)
      have hrest : ¬ sc (zos W (zdf (2 ^ (W.n - 1) - 1) U)) = some d → ∀ (V2 A2 : zV), fpr V V2 → fpa A A2 → V2 19 5 = V 1 8 → TD W V A V2 A2 → V2 19 6 = Int32.ofInt d → V2 19 7 = nI (zdf (2 ^ (W.n - 1) - 1) U) → zwd (zsep wr) (V2 19 4) (A2 20) → X Y_Fir_refresh (zrm 4) (0, fun _ => 0) (zFu 4 (fun V' A' => fpr V V' ∧ fpa A A' ∧ V' 19 5 = V 1 8 ∧ fiOK W (V' 19 4) (A' 20) ∧ TD W V A V' A')) 96 [.ref 19, .int (nI (r + 1))] [] (cells V2 A2) 0 0 := by
        intro hno V2 A2 k1 k2 k3 k4 k5 k6 k7
        have hC2 := fp_C k1 k2 hC
        have hsh2 := k2.S hsh
        have e82 : V2 1 8 = V 1 8 := k1 1 8 (by omega) (by omega)
        have hta2 := k4.get e82 hta
        refine x_aload_n (pc := 96) d_Fir_refresh_96 rfl ?_
        refine x_get (pc := 97) (j := 2) d_Fir_refresh_97 f_Fir_36 rfl rfl (Nat.le_of_ble_eq_true rfl) rfl rfl rfl ?_
        refine x_aload_n (pc := 100) d_Fir_refresh_100 rfl ?_
        refine x_get (pc := 101) (j := 7) d_Fir_refresh_101 f_Fir_25 rfl rfl (Nat.le_of_ble_eq_true rfl) rfl rfl rfl ?_
        rw [k6]
        refine x_iload_n (pc := 104) d_Fir_refresh_104 rfl ?_
        refine y_callVu (pc := 105) (c_Tai_fill _ _ hW hC2 hsh2 (zdf (2 ^ (W.n - 1) - 1) U) r hF hr hta2) k_Tai_fill d_Fir_refresh_105 m_Fir_64 (by decide) rfl rfl rfl rfl p_Tai_fill (K := fun V3 A3 hq => ?_)
        obtain ⟨f1, f2, f3, f4, f5⟩ := hq
        refine x_aload_n (pc := 108) d_Fir_refresh_108 rfl ?_
        refine y_callVu (pc := 109) (c_Fir_writeRound _ _ hW (tf_C f1 f2 hC2) (f2.S hsh2) B (zHL W W.mo 0 0 [] 0) r hr c U wr last d e1 hno f4 f5 ((f1 19 6 (by omega)).trans k5) ((f1 19 7 (by omega)).trans k6) (by rw [f1 19 4 (by omega), f2 20 (by omega)]; exact k7) e5) k_Fir_writeRound d_Fir_refresh_109 m_Fir_70 (by decide) rfl rfl rfl rfl p_Fir_writeRound (K := fun V4 A4 hq4 => ?_)
        obtain ⟨w1, w2, w3, w4⟩ := hq4
        refine y_inc1 (pc := 112) (v := (-1)) d_Fir_refresh_112 (by decide) ?_
        refine x_goto (pc := 115) (tgt := 61) d_Fir_refresh_115 (by decide) ?_
        rw [show nI (r + 1) + (-1) = nI r from (by rw [← Int32.sub_eq_add_neg]; exact nI_pred r)]
        refine ih (by omega) V4 A4 (fun k j z1 z2 => (w1 k j z1).trans ((f1 k j z2).trans (k1 k j z1 z2))) (fun k z1 z2 => (w3 k z2).trans ((f2 k z1).trans (k2 k z1 z2))) ?_ (Or.inr ⟨?_, ?_⟩) w4
        · rw [w2, f1 19 5 (by omega)]; exact k3
        · rw [w1 16 5 (by omega), f3]; exact e82
        · rw [w1 16 6 (by omega), w1 16 7 (by omega), w3 17 (by omega)]
          exact ⟨_, r, f4.1, f4.2, hF, hr, f5⟩
      refine x_iload_n (pc := 61) d_Fir_refresh_61 rfl ?_
      refine x_if_le (pc := 62) (tgt := 118) d_Fir_refresh_62 (by decide) (fun h => absurd h (nI_nle (Nat.succ_pos r) (by omega))) (fun h62 => ?_)
      refine x_aload_n (pc := 65) d_Fir_refresh_65 rfl ?_
      refine x_get (pc := 66) (j := 1) d_Fir_refresh_66 f_Fir_32 rfl rfl (Nat.le_of_ble_eq_true rfl) rfl rfl rfl ?_
      refine x_get (pc := 69) (j := 2) d_Fir_refresh_69 f_Fir_57 rfl rfl (Nat.le_of_ble_eq_true rfl) rfl rfl rfl ?_
      refine x_aload_n (pc := 72) d_Fir_refresh_72 rfl ?_
      refine x_get (pc := 73) (j := 7) d_Fir_refresh_73 f_Fir_25 rfl rfl (Nat.le_of_ble_eq_true rfl) rfl rfl rfl ?_
      rw [e3]
      refine x_iald (pc := 76) d_Fir_refresh_76 rfl (vp_in_nI (by omega) (by decide)) ?_
      rw [cF, hz]
      refine x_aload_n (pc := 77) d_Fir_refresh_77 rfl ?_
      refine x_get (pc := 78) (j := 6) d_Fir_refresh_78 f_Fir_22 rfl rfl (Nat.le_of_ble_eq_true rfl) rfl rfl rfl ?_
      rw [e2]
      refine x_icmp_eq (pc := 81) (tgt := 118) d_Fir_refresh_81 (by decide) (fun h81 => ?_) (fun h81 => ?_)
      · exact hEnd V1 A1 (r + 1) _ rfl g1 g2 g3 g4 ⟨c, U, wr, last, d, e1, e4, e5, (zEc_is (b := 101000) (by omega) hBo (by omega)).mp h81⟩
      · have hno : ¬ sc (zos W (zdf (2 ^ (W.n - 1) - 1) U)) = some d := fun z => h81 ((zEc_is (b := 101000) (by omega) hBo (by omega)).mpr z)
        refine x_aload_n (pc := 84) d_Fir_refresh_84 rfl ?_
        refine x_get (pc := 85) (j := 4) d_Fir_refresh_85 f_Fir_15 rfl rfl (Nat.le_of_ble_eq_true rfl) rfl rfl rfl ?_
        rw [e4.1]
        by_cases hwr : wr = []
        · have hwl0 : nI wr.length = 0 := by rw [hwr]; rfl
          refine x_if_le (pc := 88) (tgt := 96) d_Fir_refresh_88 (by decide) (fun h88 => ?_) (fun h => absurd (by rw [hwl0]; decide) h)
          exact hrest hno V1 A1 g1 g2 g3 g4 e2 e3 (by rw [show zsep wr = wr from (by rw [hwr]; rfl)]; exact e4)
        · have hwp : 0 < wr.length := List.length_pos_iff.mpr hwr
          have hsep : zsep wr = wr ++ [0] := by
            cases wr with
            | nil => exact absurd rfl hwr
            | cons y w => rfl
          refine x_if_le (pc := 88) (tgt := 96) d_Fir_refresh_88 (by decide) (fun h => absurd h (nI_nle hwp (by omega))) (fun h88 => ?_)
          refine x_aload_n (pc := 91) d_Fir_refresh_91 rfl ?_
          refine x_iconst (pc := 92) (v := 0) d_Fir_refresh_92 (by decide) ?_
          refine y_fU (pc := 93) (c_Fir_write _ _ 0 wr.length (by omega) e4.1) k_Fir_write d_Fir_refresh_93 m_Fir_60 (by decide) rfl rfl rfl rfl p_Fir_write (K := ?_)
          refine hrest hno _ _ (fun k j z1 z2 => ?_) (fun k z1 z2 => ?_) g3 g4 e2 e3 (by rw [hsep]; exact zwd_snoc e4 0)
          · rw [zv_eq, if_neg (by omega)]; exact g1 k j z1 z2
          · rw [za_eq, if_neg z2]; exact g2 k z1 z2
  refine CU.of (lv := [.ref 19, zu]) k_Fir_refresh.1 rfl (by decide) rfl rfl (Nat.le_of_ble_eq_true rfl) ?_
  refine x_aload_n (pc := 0) d_Fir_refresh_0 rfl ?_
  refine x_get (pc := 1) (j := 5) d_Fir_refresh_1 f_Fir_19 rfl rfl (Nat.le_of_ble_eq_true rfl) rfl rfl rfl ?_
  refine x_aload_n (pc := 4) d_Fir_refresh_4 rfl ?_
  refine x_get (pc := 5) (j := 0) d_Fir_refresh_5 f_Fir_28 rfl rfl (Nat.le_of_ble_eq_true rfl) rfl rfl rfl ?_
  refine x_get (pc := 8) (j := 8) d_Fir_refresh_8 f_Fir_40 rfl rfl (Nat.le_of_ble_eq_true rfl) rfl rfl rfl ?_
  refine x_icmp_ne (pc := 11) (tgt := 15) d_Fir_refresh_11 (by decide) (fun h11 => ?_) (fun h11 => ?_)
  · have hC2 : WC W (zv (zv V 19 5 (V 1 8)) 19 4 0) A := hC.same (fun j => by rw [zv_eq, if_neg (by omega), zv_eq, if_neg (by omega)]) (fun _ _ => rfl)
    have hC3 : WC W (zv (zv (zv V 19 5 (V 1 8)) 19 4 0) 19 6 (zEc (sc (wP W W.mo (2 ^ (W.n - 1) - 1))))) A := hC.same (fun j => by rw [zv_eq, if_neg (by omega), zv_eq, if_neg (by omega), zv_eq, if_neg (by omega)]) (fun _ _ => rfl)
    refine x_aload_n (pc := 15) d_Fir_refresh_15 rfl ?_
    refine x_aload_n (pc := 16) d_Fir_refresh_16 rfl ?_
    refine x_get (pc := 17) (j := 0) d_Fir_refresh_17 f_Fir_28 rfl rfl (Nat.le_of_ble_eq_true rfl) rfl rfl rfl ?_
    refine x_get (pc := 20) (j := 8) d_Fir_refresh_20 f_Fir_40 rfl rfl (Nat.le_of_ble_eq_true rfl) rfl rfl rfl ?_
    refine y_put (pc := 23) (j := 5) d_Fir_refresh_23 f_Fir_19 rfl rfl (Nat.le_of_ble_eq_true rfl) rfl (Nat.le_of_ble_eq_true rfl) rfl rfl (fun _ => rfl) ?_
    refine x_aload_n (pc := 26) d_Fir_refresh_26 rfl ?_
    refine x_iconst (pc := 27) (v := 0) d_Fir_refresh_27 (by decide) ?_
    refine y_put (pc := 28) (j := 4) d_Fir_refresh_28 f_Fir_15 rfl rfl (Nat.le_of_ble_eq_true rfl) rfl (Nat.le_of_ble_eq_true rfl) rfl rfl (fun _ => rfl) ?_
    refine x_aload_n (pc := 31) d_Fir_refresh_31 rfl ?_
    refine x_aload_n (pc := 32) d_Fir_refresh_32 rfl ?_
    refine x_get (pc := 33) (j := 1) d_Fir_refresh_33 f_Fir_32 rfl rfl (Nat.le_of_ble_eq_true rfl) rfl rfl rfl ?_
    refine y_fV (pc := 36) (c_Sha_leastCost _ _ hW hC2 hsh) k_Sha_leastCost d_Fir_refresh_36 m_Fir_45 (by decide) rfl rfl rfl rfl p_Sha_leastCost (K := ?_)
    refine y_put (pc := 39) (j := 6) d_Fir_refresh_39 f_Fir_22 rfl rfl (Nat.le_of_ble_eq_true rfl) rfl (Nat.le_of_ble_eq_true rfl) rfl rfl (fun _ => rfl) ?_
    refine x_aload_n (pc := 42) d_Fir_refresh_42 rfl ?_
    refine x_aload_n (pc := 43) d_Fir_refresh_43 rfl ?_
    refine x_get (pc := 44) (j := 0) d_Fir_refresh_44 f_Fir_28 rfl rfl (Nat.le_of_ble_eq_true rfl) rfl rfl rfl ?_
    refine y_fV (pc := 47) (w_allPlaces _ _ hW hC3) k_Net_allPlaces d_Fir_refresh_47 m_Fir_51 (by decide) rfl rfl rfl rfl p_Net_allPlaces (K := ?_)
    refine y_put (pc := 50) (j := 7) d_Fir_refresh_50 f_Fir_25 rfl rfl (Nat.le_of_ble_eq_true rfl) rfl (Nat.le_of_ble_eq_true rfl) rfl rfl (fun _ => rfl) ?_
    refine x_aload_n (pc := 53) d_Fir_refresh_53 rfl ?_
    refine x_get (pc := 54) (j := 0) d_Fir_refresh_54 f_Fir_28 rfl rfl (Nat.le_of_ble_eq_true rfl) rfl rfl rfl ?_
    refine x_get (pc := 57) (j := 5) d_Fir_refresh_57 f_Fir_54 rfl rfl (Nat.le_of_ble_eq_true rfl) rfl rfl rfl ?_
    rw [show (zv (zv (zv (zv V 19 5 (V 1 8)) 19 4 0) 19 6 (zEc (sc (wP W W.mo (2 ^ (W.n - 1) - 1))))) 19 7 (nI (2 ^ (W.n - 1) - 1))) 1 5 = nI W.mo from hC.mo]
    refine y_ist1 (pc := 60) d_Fir_refresh_60 ?_
    refine hS W.mo (Nat.le_refl _) _ _ (fun k j z1 z2 => ?_) (fun _ _ _ => rfl) rfl (Or.inl ⟨rfl, rfl, rfl, rfl⟩) ⟨0, 0, [], 0, B, FH_0 hn9 hB, ?_, ?_, ⟨rfl, fun i hi => absurd hi (Nat.not_lt_zero i)⟩, ?_⟩
    · rw [zv_eq, if_neg (by omega), zv_eq, if_neg (by omega), zv_eq, if_neg (by omega), zv_eq, if_neg (by omega)]
    · show zEc (sc (wP W W.mo (2 ^ (W.n - 1) - 1))) = _
      rw [hB]; rfl
    · rw [zdf_0 (by omega)]; rfl
    · have := zc_le 0 (W.n - 1)
      show 2 * zc 0 (W.n - 1) + 0 ≤ 16
      omega
  · refine y_vret (pc := 14) d_Fir_refresh_14 rfl ?_
    exact ⟨fun _ _ _ _ => rfl, fun _ _ _ => rfl, h11, hfi h11, Or.inl ⟨rfl, rfl, rfl, rfl⟩⟩
def ansF (w : List Nat) (i : Int32) : Int32 := if i = (-1) then nI w.length else if 0 ≤ i ∧ i < nI w.length then nI (w.getD i.toNatClampNeg 0) else (-2000000)
def PFF (W : zW) (V A V2 A2 : zV) : Prop := ∃ V1 A1, (sfr V V1 ∧ sfa A A1 ∧ V1 13 6 = V 1 8 ∧ A1 7 0 = 0 ∧ shOK W (zta A1)) ∧ fpr V1 V2 ∧ fpa A1 A2 ∧ V2 19 5 = V1 1 8 ∧ fiOK W (V2 19 4) (A2 20) ∧ TD W V1 A1 V2 A2
theorem getD_at {w : List Nat} {k : Nat} (h : k < w.length) : w.getD k 0 = w[k] := by
  rw [List.getD_eq_getElem?_getD, List.getElem?_eq_getElem h]; rfl
set_option maxRecDepth 100000 in
set_option maxHeartbeats 4000000 in
theorem c_CW_first {W : zW} (V A : zV) (hW : zWok W) (hC : WC W V A) (h70 : A 7 0 = 0) (hsh : V 13 6 = V 1 8 → shOK W (zta A)) (hta : V 16 5 = V 1 8 → taOK W (V 16 6) (V 16 7) (A 17)) (hfi : V 19 5 = V 1 8 → fiOK W (V 19 4) (A 20)) (i : Int32) : CQ Y_CW_first 30 [.ref 0, .int i] V A (fun ρ V' A' => (sc (wP W W.mo (2 ^ (W.n - 1) - 1)) = none ∧ ρ = (-1000000) ∧ sfr V V' ∧ sfa A A' ∧ V' 13 6 = V 1 8 ∧ A' 7 0 = 0 ∧ shOK W (zta A')) ∨ ∃ B w, sc (wP W W.mo (2 ^ (W.n - 1) - 1)) = some B ∧ lxf W (zHL W W.mo 0 0 [] 0) = some (B, w) ∧ ρ = ansF w i ∧ PFF W V A V' A') := by
  refine CQ.of (lv := [.ref 0, .int i]) k_CW_first.1 rfl (by decide) rfl rfl (Nat.le_of_ble_eq_true rfl) ?_
  refine x_aload_n (pc := 0) d_CW_first_0 rfl ?_
  refine x_get (pc := 1) (j := 1) d_CW_first_1 f_CW_26 rfl rfl (Nat.le_of_ble_eq_true rfl) rfl rfl rfl ?_
  refine y_callVu (pc := 4) (c_Sha_refresh _ _ hW hC h70 hsh) k_Sha_refresh d_CW_first_4 m_CW_126 (by decide) rfl rfl rfl rfl p_Sha_refresh (K := fun V1 A1 hq => ?_)
  obtain ⟨g1, g2, g3, g4, g5⟩ := hq
  refine x_aload_n (pc := 7) d_CW_first_7 rfl ?_
  refine x_get (pc := 8) (j := 1) d_CW_first_8 f_CW_26 rfl rfl (Nat.le_of_ble_eq_true rfl) rfl rfl rfl ?_
  refine y_fV (pc := 11) (c_Sha_leastCost _ _ hW (g1.C g2 hC) g5) k_Sha_leastCost d_CW_first_11 m_CW_129 (by decide) rfl rfl rfl rfl p_Sha_leastCost (K := ?_)
  refine x_ldc (pc := 14) (v := 1000000000) d_CW_first_14 i_CW_104 ?_
  refine x_icmp_ne (pc := 16) (tgt := 22) d_CW_first_16 (by decide) (fun h16 => ?_) (fun h16 => ?_)
  · cases hB : sc (wP W W.mo (2 ^ (W.n - 1) - 1)) with
    | none => exact absurd (by rw [hB]; rfl) h16
    | some B =>
      have hta1 : V1 16 5 = V1 1 8 → taOK W (V1 16 6) (V1 16 7) (A1 17) := by
        rw [g1 16 5 (by omega), g1 16 6 (by omega), g1 16 7 (by omega), g1 1 8 (by omega), g2 17 (by omega)]; exact hta
      have hfi1 : V1 19 5 = V1 1 8 → fiOK W (V1 19 4) (A1 20) := by
        rw [g1 19 5 (by omega), g1 19 4 (by omega), g1 1 8 (by omega), g2 20 (by omega)]; exact hfi
      refine x_aload_n (pc := 22) d_CW_first_22 rfl ?_
      refine x_get (pc := 23) (j := 3) d_CW_first_23 f_CW_44 rfl rfl (Nat.le_of_ble_eq_true rfl) rfl rfl rfl ?_
      refine y_callVu (pc := 26) (c_Fir_refresh _ _ hW (g1.C g2 hC) g5 B hB hta1 hfi1) k_Fir_refresh d_CW_first_26 m_CW_137 (by decide) rfl rfl rfl rfl p_Fir_refresh (K := fun V2 A2 hq => ?_)
      obtain ⟨f1, f2, f3, f4, f5⟩ := hq
      have hPF : PFF W V A V2 A2 := ⟨V1, A1, ⟨g1, g2, g3, g4, g5⟩, f1, f2, f3, f4, f5⟩
      obtain ⟨B', w, l1, l2, l3, l4⟩ := f4
      have hBB : B' = B := by
        have z := lxf_c W (zHL W W.mo 0 0 [] 0)
        rw [l1, L0_sum hW] at z
        exact Option.some.inj (z.trans hB)
      subst hBB
      refine x_iload_n (pc := 29) d_CW_first_29 rfl ?_
      refine x_iconst (pc := 30) (v := (-1)) d_CW_first_30 (by decide) ?_
      refine x_icmp_ne (pc := 31) (tgt := 42) d_CW_first_31 (by decide) (fun h31 => ?_) (fun h31 => ?_)
      · refine x_iload_n (pc := 42) d_CW_first_42 rfl ?_
        refine x_if_lt (pc := 43) (tgt := 57) d_CW_first_43 (by decide) (fun h43 => ?_) (fun h43 => ?_)
        · refine x_ldc (pc := 57) (v := (-2000000)) d_CW_first_57 i_CW_83 ?_
          refine x_goto (pc := 59) (tgt := 71) d_CW_first_59 (by decide) ?_
          refine y_iret (pc := 71) d_CW_first_71 rfl ?_
          refine Or.inr ⟨B', w, rfl, l1, ?_, hPF⟩
          unfold ansF
          rw [if_neg h31, if_neg (fun z => absurd h43 (Int32.not_lt.mpr z.1))]
        · refine x_iload_n (pc := 46) d_CW_first_46 rfl ?_
          refine x_aload_n (pc := 47) d_CW_first_47 rfl ?_
          refine x_get (pc := 48) (j := 3) d_CW_first_48 f_CW_44 rfl rfl (Nat.le_of_ble_eq_true rfl) rfl rfl rfl ?_
          refine x_get (pc := 51) (j := 4) d_CW_first_51 f_CW_138 rfl rfl (Nat.le_of_ble_eq_true rfl) rfl rfl rfl ?_
          refine x_icmp_lt (pc := 54) (tgt := 62) d_CW_first_54 (by decide) (fun h54 => ?_) (fun h54 => ?_)
          · have h54 : i < V2 19 4 := h54
            rw [l2] at h54
            have hi0 : 0 ≤ i := Int32.not_lt.mp h43
            obtain ⟨j, hj, rfl⟩ := z_nat hi0 h54 (by omega)
            have cj : (nI j).toNatClampNeg = j := nI_clamp (by omega)
            refine x_aload_n (pc := 62) d_CW_first_62 rfl ?_
            refine x_get (pc := 63) (j := 3) d_CW_first_63 f_CW_44 rfl rfl (Nat.le_of_ble_eq_true rfl) rfl rfl rfl ?_
            refine x_get (pc := 66) (j := 3) d_CW_first_66 f_CW_141 rfl rfl (Nat.le_of_ble_eq_true rfl) rfl rfl rfl ?_
            refine x_iload_n (pc := 69) d_CW_first_69 rfl ?_
            refine x_iald (pc := 70) d_CW_first_70 rfl (vp_in_nI (by omega) (by decide)) ?_
            refine y_iret (pc := 71) d_CW_first_71 rfl ?_
            refine Or.inr ⟨B', w, rfl, l1, ?_, hPF⟩
            unfold ansF
            rw [if_neg h31, if_pos ⟨hi0, h54⟩, cj, getD_at hj]
            exact l4 j hj
          · refine x_ldc (pc := 57) (v := (-2000000)) d_CW_first_57 i_CW_83 ?_
            refine x_goto (pc := 59) (tgt := 71) d_CW_first_59 (by decide) ?_
            refine y_iret (pc := 71) d_CW_first_71 rfl ?_
            refine Or.inr ⟨B', w, rfl, l1, ?_, hPF⟩
            unfold ansF
            rw [if_neg h31, if_neg (fun z => h54 (by rw [l2]; exact z.2))]
      · refine x_aload_n (pc := 34) d_CW_first_34 rfl ?_
        refine x_get (pc := 35) (j := 3) d_CW_first_35 f_CW_44 rfl rfl (Nat.le_of_ble_eq_true rfl) rfl rfl rfl ?_
        refine x_get (pc := 38) (j := 4) d_CW_first_38 f_CW_138 rfl rfl (Nat.le_of_ble_eq_true rfl) rfl rfl rfl ?_
        refine y_iret (pc := 41) d_CW_first_41 rfl ?_
        refine Or.inr ⟨B', w, rfl, l1, ?_, hPF⟩
        unfold ansF
        rw [if_pos h31]
        exact l2
  · refine x_ldc (pc := 19) (v := (-1000000)) d_CW_first_19 i_CW_136 ?_
    refine y_iret (pc := 21) d_CW_first_21 rfl ?_
    exact Or.inl ⟨(zEc_no (b := 88000) (by omega) (wP_B hW hW.m8 _)).mp h16, rfl, g1, g2, g3, g4, g5⟩
set_option maxRecDepth 100000 in
set_option maxHeartbeats 4000000 in
theorem c_Mo_first {W : zW} (V A : zV) (hW : zWok W) (hR : WR W V A) (hk : V 36 13 = 0 ∨ (V 36 13 = 1 ∧ KN0 W V A)) (i : Int32) : CQ Y_Mo_first 50 [.ref 36, .int i] V A (fun ρ V' A' => ((sc (lsum W (zos W) (zHL W W.mo 0 0 [] 0)) = none ∧ ρ = (-1000000)) ∨ ∃ q, lxf W (zHL W W.mo 0 0 [] 0) = some q ∧ ρ = ansF q.2 i) ∧ KF V A V' A' ∧ V' 36 13 = 1 ∧ KN0 W V' A') := by
  have hF0 : KF V A (zv V 36 0 0) A := (KF_rf V A).V (by omega) _
  have hk0 : (zv V 36 0 0) 36 13 = 0 ∨ ((zv V 36 0 0) 36 13 = 1 ∧ KN0 W (zv V 36 0 0) A) := hk
  refine CQ.of (lv := [.ref 36, .int i]) k_Mo_first.1 rfl (by decide) rfl rfl (Nat.le_of_ble_eq_true rfl) ?_
  refine x_aload_n (pc := 0) d_Mo_first_0 rfl ?_
  refine x_iconst (pc := 1) (v := 0) d_Mo_first_1 (by decide) ?_
  refine y_put (pc := 2) (j := 0) d_Mo_first_2 f_Mo_1 rfl rfl (Nat.le_of_ble_eq_true rfl) rfl (Nat.le_of_ble_eq_true rfl) rfl rfl (fun _ => rfl) ?_
  refine x_aload_n (pc := 5) d_Mo_first_5 rfl ?_
  refine y_callVu (pc := 6) (c_Mo_know _ _ hW (hF0.R hR) hk0) k_Mo_know d_Mo_first_6 m_Mo_144 (by decide) rfl rfl rfl rfl p_Mo_know (K := fun V2 A2 hq => ?_)
  obtain ⟨g1, -, g2, g3⟩ := hq
  refine x_aload_n (pc := 9) d_Mo_first_9 rfl ?_
  refine x_get (pc := 10) (j := 15) d_Mo_first_10 f_Mo_105 rfl rfl (Nat.le_of_ble_eq_true rfl) rfl rfl rfl ?_
  refine x_if_ne (pc := 13) (tgt := 19) d_Mo_first_13 (by decide) (fun h13 => ?_) (fun h13 => ?_)
  · have h13 : ¬ V2 36 15 = 0 := h13
    have hsome : ¬ sc (lsum W (zos W) (zHL W W.mo 0 0 [] 0)) = none := fun z => h13 (by rw [g3.1.2]; exact (many_0 hW).mpr z)
    have hl3 := g3.2.1
    have hlc := lxf_c W (zHL W W.mo 0 0 [] 0)
    cases hl : lxf W (zHL W W.mo 0 0 [] 0) with
    | none => rw [hl] at hlc; exact absurd hlc.symm hsome
    | some q =>
      rw [hl] at hl3
      obtain ⟨⟨l1, l2⟩, l3, l4⟩ := hl3
      refine x_iload_n (pc := 19) d_Mo_first_19 rfl ?_
      refine x_iconst (pc := 20) (v := (-1)) d_Mo_first_20 (by decide) ?_
      refine x_aload_n (pc := 21) d_Mo_first_21 rfl ?_
      refine x_get (pc := 22) (j := 19) d_Mo_first_22 f_Mo_108 rfl rfl (Nat.le_of_ble_eq_true rfl) rfl rfl rfl ?_
      rw [l1]
      have hs1 : (nI q.2.length - 1).toInt = (q.2.length : Int) - 1 := by
        cases hq2 : q.2.length with
        | zero => decide
        | succ m => rw [nI_pred, nI_toInt (by omega)]; omega
      have hm1 : (-1 : Int32) ≤ nI q.2.length - 1 := by rw [z_le, hs1, z_lm1]; omega
      refine x_iconst (pc := 25) (v := 1) d_Mo_first_25 (by decide) ?_
      refine x_isub (pc := 26) d_Mo_first_26 ?_
      refine y_bS (pc := 27) (c_Mo_in _ _ _ _ _) k_Mo_in d_Mo_first_27 m_Mo_70 (by decide) rfl p_Mo_in (K1 := fun q27 => ?_) (K0 := fun q27 => ?_)
      · refine x_if_ne (pc := 30) (tgt := 38) d_Mo_first_30 (by decide) (fun _ => ?_) (fun h => absurd h (by decide))
        refine x_iload_n (pc := 38) d_Mo_first_38 rfl ?_
        refine x_if_ge (pc := 39) (tgt := 49) d_Mo_first_39 (by decide) (fun h39 => ?_) (fun h39 => ?_)
        · have hi0 : 0 ≤ i := h39
          have hilt : i < nI q.2.length := by
            have z2 := q27.2
            rw [z_le, hs1] at z2
            rw [z_lt, nI_toInt (by omega)]; omega
          obtain ⟨j, hj, rfl⟩ := z_nat hi0 hilt (by omega)
          have cj : (nI j).toNatClampNeg = j := nI_clamp (by omega)
          have hne : ¬ nI j = (-1) := fun z => by
            have := congrArg Int32.toInt z
            rw [nI_toInt (by omega), z_lm1] at this
            omega
          refine x_aload_n (pc := 49) d_Mo_first_49 rfl ?_
          refine x_get (pc := 50) (j := 18) d_Mo_first_50 f_Mo_51 rfl rfl (Nat.le_of_ble_eq_true rfl) rfl rfl rfl ?_
          refine x_iload_n (pc := 53) d_Mo_first_53 rfl ?_
          refine x_iald (pc := 54) d_Mo_first_54 rfl (vp_in_nI (by omega) (by decide)) ?_
          refine y_iret (pc := 55) d_Mo_first_55 rfl ?_
          refine ⟨Or.inr ⟨q, rfl, ?_⟩, KF_tr hF0 g1, g2, g3⟩
          unfold ansF
          rw [if_neg hne, if_pos ⟨hi0, hilt⟩, cj, getD_at hj]
          exact l2 j hj
        · refine x_aload_n (pc := 42) d_Mo_first_42 rfl ?_
          refine x_get (pc := 43) (j := 19) d_Mo_first_43 f_Mo_108 rfl rfl (Nat.le_of_ble_eq_true rfl) rfl rfl rfl ?_
          refine x_goto (pc := 46) (tgt := 55) d_Mo_first_46 (by decide) ?_
          refine y_iret (pc := 55) d_Mo_first_55 rfl ?_
          refine ⟨Or.inr ⟨q, rfl, ?_⟩, KF_tr hF0 g1, g2, g3⟩
          unfold ansF
          have hi : i = (-1) := by
            have z1 := q27.1
            have z2 : ¬ 0 ≤ i := h39
            rw [z_le, z_t0] at z2
            rw [z_le, z_lm1] at z1
            rw [z_eq, z_lm1]; omega
          rw [if_pos hi]
          exact l1
      · refine x_if_ne (pc := 30) (tgt := 38) d_Mo_first_30 (by decide) (fun h => absurd h (by decide)) (fun _ => ?_)
        refine x_ldc (pc := 33) (v := (-2000000)) d_Mo_first_33 i_Mo_78 ?_
        refine x_goto (pc := 35) (tgt := 55) d_Mo_first_35 (by decide) ?_
        refine y_iret (pc := 55) d_Mo_first_55 rfl ?_
        refine ⟨Or.inr ⟨q, rfl, ?_⟩, KF_tr hF0 g1, g2, g3⟩
        unfold ansF
        rw [if_neg (fun z => q27 ⟨by rw [z]; decide, by rw [z]; exact hm1⟩), if_neg (fun z => q27 ⟨Int32.le_trans (by decide) z.1, by have z2 := z.2; rw [z_lt, nI_toInt (by omega)] at z2; rw [z_le, hs1]; omega⟩)]
  · refine x_ldc (pc := 16) (v := (-1000000)) d_Mo_first_16 i_Mo_88 ?_
    refine y_iret (pc := 18) d_Mo_first_18 rfl ?_
    exact ⟨Or.inl ⟨(many_0 hW).mp (by rw [← g3.1.2]; exact h13), rfl⟩, KF_tr hF0 g1, g2, g3⟩
theorem PFF_R {W : zW} {V A V2 A2 : zV} (hp : PFF W V A V2 A2) (hR : WR W V A) : WR W V2 A2 := by
  obtain ⟨V1, A1, ⟨g1, g2, -⟩, f1, f2, -⟩ := hp
  exact hR.same (fun j z1 z2 => (f1 36 j (by omega) (by omega)).trans (g1 36 j (by omega))) (fun k z1 z2 => (f2 k (by omega) (by omega)).trans (g2 k (by omega)))
theorem PFF_K {W : zW} {V A V2 A2 : zV} (hp : PFF W V A V2 A2) (hk : V 36 13 = 0 ∨ (V 36 13 = 1 ∧ KN0 W V A)) : V2 36 13 = 0 ∨ (V2 36 13 = 1 ∧ KN0 W V2 A2) := by
  obtain ⟨V1, A1, ⟨g1, g2, -⟩, f1, f2, -⟩ := hp
  unfold KN0 at hk ⊢
  rw [f1 36 13 (by omega) (by omega), f1 36 14 (by omega) (by omega), f1 36 15 (by omega) (by omega), f1 36 19 (by omega) (by omega), f2 44 (by omega) (by omega), f2 45 (by omega) (by omega), f2 46 (by omega) (by omega), g1 36 13 (by omega), g1 36 14 (by omega), g1 36 15 (by omega), g1 36 19 (by omega), g2 44 (by omega), g2 45 (by omega), g2 46 (by omega)]
  exact hk
theorem InvP.after3 {c : Nat} {V A V2 A2 V3 A3 : zV} (hI : InvP c V A) {W : zW} (hW : zWok W) (hWc : zWc W) (hC : WC W V A) (hR : WR W V A) (hp : PFF W V A V2 A2) (k1 : KF V2 A2 V3 A3) (k2 : V3 36 13 = 1) (k3 : KN0 W V3 A3) : InvP (c + 1) V3 A3 := by
  obtain ⟨V1, A1, ⟨g1, g2, g3, g4, g5⟩, f1, f2, f3, f4, f5⟩ := hp
  have v1 : ∀ k j, ¬ (k = 13 ∧ (j = 4 ∨ j = 5 ∨ j = 6)) → ¬ (k = 16 ∧ (j = 5 ∨ j = 6 ∨ j = 7)) → ¬ (k = 19 ∧ (j = 4 ∨ j = 5 ∨ j = 6 ∨ j = 7)) → ¬ (k = 36 ∧ (j = 0 ∨ j = 13 ∨ j = 14 ∨ j = 15 ∨ j = 19 ∨ j = 21 ∨ j = 22 ∨ j = 23 ∨ j = 24 ∨ j = 25)) → V3 k j = V k j := fun k j z1 z2 z4 z3 => (k1.1 k j z3).trans ((f1 k j z4 z2).trans (g1 k j z1))
  have v2 : ∀ k, ¬ ((7 ≤ k ∧ k ≤ 12) ∨ k = 14 ∨ k = 15) → ¬ k = 17 → ¬ k = 20 → ¬ (44 ≤ k ∧ k ≤ 47) → A3 k = A k := fun k z1 z2 z4 z3 => (k1.2 k z3).trans ((f2 k z2 z4).trans (g2 k z1))
  have hzta : zta A3 = zta A1 := by
    funext k
    unfold zta
    split <;> exact (k1.2 _ (by omega)).trans (f2 _ (by omega) (by omega))
  have a17 : A3 17 = A2 17 := k1.2 17 (by omega)
  refine hI.upd (fun k j z1 z2 => v1 k j ?_ ?_ ?_ ?_) (fun k z1 z2 => v2 k ?_ ?_ ?_ ?_) hW hWc (hC.same (fun j => v1 1 j (by omega) (by omega) (by omega) (by omega)) (fun k hk => v2 k (by omega) (by omega) (by omega) (by omega))) (hR.same (fun j z1 z2 => v1 36 j (by omega) (by omega) (by omega) (by omega)) (fun k z1 z2 => v2 k (by omega) (by omega) (by omega) (by omega))) ((congrFun ((k1.2 7 (by omega)).trans (f2 7 (by omega) (by omega))) 0).trans g4) (Or.inr ⟨((k1.1 13 6 (by omega)).trans (f1 13 6 (by omega) (by omega))).trans g3, by rw [hzta]; exact g5⟩) ?_ (Or.inr ⟨((k1.1 19 5 (by omega)).trans f3).trans (g1 1 8 (by omega)), by rw [k1.1 19 4 (by omega), k1.2 20 (by omega)]; exact f4⟩) (Or.inr ⟨k2, k3⟩)
  · rintro ⟨rfl, rfl | rfl | rfl⟩
    · exact absurd z1 (by decide)
    · exact absurd z1 (by decide)
    · exact absurd z2 (by decide)
  · rintro ⟨rfl, rfl | rfl | rfl⟩ <;> exact absurd z2 (by decide)
  · rintro ⟨rfl, rfl | rfl | rfl | rfl⟩
    · exact absurd z2 (by decide)
    · exact absurd z2 (by decide)
    · exact absurd z1 (by decide)
    · exact absurd z1 (by decide)
  · rintro ⟨rfl, rfl | rfl | rfl | rfl | rfl | rfl | rfl | rfl | rfl | rfl⟩
    · exact absurd z1 (by decide)
    · exact absurd z2 (by decide)
    · exact absurd z2 (by decide)
    · exact absurd z2 (by decide)
    · exact absurd z2 (by decide)
    · exact absurd z1 (by decide)
    · exact absurd z1 (by decide)
    · exact absurd z1 (by decide)
    · exact absurd z1 (by decide)
    · exact absurd z1 (by decide)
  · intro z
    have : (zpA k) = true := by
      rcases z with z | z | z
      · obtain rfl | rfl | rfl | rfl | rfl | rfl : k = 7 ∨ k = 8 ∨ k = 9 ∨ k = 10 ∨ k = 11 ∨ k = 12 := by omega
        all_goals rfl
      · rw [z]; rfl
      · rw [z]; rfl
    rw [this] at z2; exact absurd z2 (by simp)
  · rintro rfl; exact absurd z2 (by decide)
  · rintro rfl; exact absurd z2 (by decide)
  · intro z
    obtain rfl | rfl | rfl | rfl : k = 44 ∨ k = 45 ∨ k = 46 ∨ k = 47 := by omega
    · exact absurd z2 (by decide)
    · exact absurd z2 (by decide)
    · exact absurd z2 (by decide)
    · exact absurd z1 (by decide)
  · rw [k1.1 16 5 (by omega), k1.1 16 6 (by omega), k1.1 16 7 (by omega), a17]
    rcases f5 with ⟨y1, y2, y3, y4⟩ | ⟨y1, y2⟩
    · exact Or.inl ⟨y1.trans (g1 16 5 (by omega)), y2.trans (g1 16 6 (by omega)), y3.trans (g1 16 7 (by omega)), y4.trans (g2 17 (by omega))⟩
    · exact Or.inr ⟨y1.trans (g1 1 8 (by omega)), y2⟩
theorem pr_first (i : Int32) : Pair SHp TAp FIp KNp Y_CW_first Y_Mo_first 30 50 [.int i] := by
  intro c V A hc hI
  obtain ⟨W, hW, hWc, hC, hR, h70, hsh, hta, hfi, hkn⟩ := InvP.facts hI hc
  have hL0 : lsum W (zos W) (zHL W W.mo 0 0 [] 0) = wP W W.mo (2 ^ (W.n - 1) - 1) := L0_sum hW _
  refine CQ.mono (c_CW_first V A hW hC h70 hsh hta hfi i) (fun r V1 A1 h => ?_)
  rcases h with ⟨q, rfl, g1, g2, g3, g4, g5⟩ | ⟨B, w, hB, hl, rfl, hp⟩
  · refine CQ.mono (c_Mo_first _ _ hW (sf_R g1 g2 hR) (sf_K g1 g2 hkn) i) (fun r' V2 A2 h2 => ?_)
    obtain ⟨h2, k1, k2, k3⟩ := h2
    refine ⟨?_, InvP.after hI hW hWc hC hR g1 g2 g3 g4 g5 k1 k2 k3⟩
    rcases h2 with ⟨-, rfl⟩ | ⟨p, z, -⟩
    · rfl
    · have e := lxf_c W (zHL W W.mo 0 0 [] 0)
      rw [z, hL0, q] at e
      exact absurd e (by simp)
  · refine CQ.mono (c_Mo_first _ _ hW (PFF_R hp hR) (PFF_K hp hkn) i) (fun r' V2 A2 h2 => ?_)
    obtain ⟨h2, k1, k2, k3⟩ := h2
    refine ⟨?_, InvP.after3 hI hW hWc hC hR hp k1 k2 k3⟩
    rcases h2 with ⟨z, -⟩ | ⟨p, z, rfl⟩
    · rw [hL0, hB] at z; exact absurd z (by simp)
    · rw [hl] at z
      rw [← Option.some.inj z]
