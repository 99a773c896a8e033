theorem zEc_lo {o : Option Int} (h : oB 200000 o) (hn : ¬ o = none) : ¬ zEc o ≤ (-1000000000) := by
  cases o with
  | none => exact absurd rfl hn
  | some x =>
    have := h x rfl
    intro q
    rw [z_le, show zEc (some x) = Int32.ofInt x from rfl, zi_toInt (by omega) (by omega)] at q
    have e : (-1000000000 : Int32).toInt = -1000000000 := by decide
    rw [e] at q
    omega
/-- behind refresh and fill -/
def PFT (W : zW) (V A V2 A2 : zV) : Prop := ∃ V1 A1, (sfr V V1 ∧ sfa A A1 ∧ V1 13 6 = V 1 8 ∧ A1 7 0 = 0 ∧ shOK W (zta A1)) ∧ tfr V1 V2 ∧ tfa A1 A2 ∧ V2 16 5 = V1 1 8 ∧ TF (2 ^ (W.n - 1) - 1) (W.mo - 1) V2 ∧ tab W (2 ^ (W.n - 1) - 1) (W.mo - 1) (A2 17)
theorem tf_C {W : zW} {V A V1 A1 : zV} (h : tfr V V1) (h' : tfa A A1) (hC : WC W V A) : WC W V1 A1 := hC.same (fun j => h 1 j (by omega)) (fun k hk => h' k (by omega))
set_option maxRecDepth 100000 in
set_option maxHeartbeats 4000000 in
theorem c_CW_with {W : zW} (V A : zV) (hW : zWok W) (hC : WC W V A) (h70 : A 7 0 = 0) (hsh : V 13 6 = V 1 8 → shOK W (zta A)) (hta : V 16 5 = V 1 8 → taOK W (V 16 6) (V 16 7) (A 17)) (a b : Int32) : CQ Y_CW_with 30 [.ref 0, .int a, .int b] V A (fun ρ V' A' => (¬ ((0 ≤ a ∧ a < nI W.n) ∧ (0 ≤ b ∧ b < nI W.n) ∧ ¬ a = b) ∧ ρ = (-2000000) ∧ V' = V ∧ A' = A) ∨ ((0 ≤ a ∧ a < nI W.n) ∧ (0 ≤ b ∧ b < nI W.n) ∧ ¬ a = b) ∧ ∃ x y, a = nI x ∧ b = nI y ∧ x < W.n ∧ y < W.n ∧ oB 200000 (sc (mkH W x y W.mo (2 ^ (W.n - 1) - 1) 0).2) ∧ ρ = (if sc (mkH W x y W.mo (2 ^ (W.n - 1) - 1) 0).2 = none then (-1000000) else zEc (sc (mkH W x y W.mo (2 ^ (W.n - 1) - 1) 0).2)) ∧ PFT W V A V' A') := by
  have h9 := hW.h9
  have hm1 := hW.m1
  have h0p : 0 < 2 ^ (W.n - 1) := Nat.pos_of_ne_zero (by simp)
  have hall : 2 ^ (W.n - 1) - 1 < 2 ^ (W.n - 1) := by omega
  refine CQ.of (lv := [.ref 0, .int a, .int b]) k_CW_with.1 rfl (by decide) rfl rfl (Nat.le_of_ble_eq_true rfl) ?_
  refine x_aload_n (pc := 0) d_CW_with_0 rfl ?_
  refine x_get (pc := 1) (j := 0) d_CW_with_1 f_CW_10 rfl rfl (Nat.le_of_ble_eq_true rfl) rfl rfl rfl ?_
  refine x_iload_n (pc := 4) d_CW_with_4 rfl ?_
  refine x_iload_n (pc := 5) d_CW_with_5 rfl ?_
  refine y_bV (pc := 6) (c_Net_areTwo _ _ _ _) k_Net_areTwo d_CW_with_6 m_CW_93 (by decide) rfl rfl rfl rfl p_Net_areTwo (K1 := fun q6 => ?_) (K0 := fun q6 => ?_)
  · refine x_if_ne (pc := 9) (tgt := 15) d_CW_with_9 (by decide) (fun _ => ?_) (fun h => absurd h (by decide))
    rw [hC.n] at q6
    obtain ⟨x, hx, rfl⟩ := z_nat q6.1.1 q6.1.2 (by omega)
    obtain ⟨y, hy, rfl⟩ := z_nat q6.2.1.1 q6.2.1.2 (by omega)
    refine x_aload_n (pc := 15) d_CW_with_15 rfl ?_
    refine x_get (pc := 16) (j := 1) d_CW_with_16 f_CW_26 rfl rfl (Nat.le_of_ble_eq_true rfl) rfl rfl rfl ?_
    refine y_callVu (pc := 19) (c_Sha_refresh _ _ hW hC h70 hsh) k_Sha_refresh d_CW_with_19 m_CW_126 (by decide) rfl rfl rfl rfl p_Sha_refresh (K := fun V1 A1 hq => ?_)
    obtain ⟨g1, g2, g3, g4, g5⟩ := hq
    have hta2 : V1 16 5 = V1 1 8 → taOK W (V1 16 6) (V1 16 7) (A1 17) := by
      rw [g1 16 5 (by omega), g1 16 6 (by omega), g1 16 7 (by omega), g1 1 8 (by omega), g2 17 (by omega)]; exact hta
    refine x_aload_n (pc := 22) d_CW_with_22 rfl ?_
    refine x_get (pc := 23) (j := 2) d_CW_with_23 f_CW_35 rfl rfl (Nat.le_of_ble_eq_true rfl) rfl rfl rfl ?_
    refine x_aload_n (pc := 26) d_CW_with_26 rfl ?_
    refine x_get (pc := 27) (j := 0) d_CW_with_27 f_CW_10 rfl rfl (Nat.le_of_ble_eq_true rfl) rfl rfl rfl ?_
    refine y_fV (pc := 30) (w_allPlaces _ _ hW (g1.C g2 hC)) k_Net_allPlaces d_CW_with_30 m_CW_145 (by decide) rfl rfl rfl rfl p_Net_allPlaces (K := ?_)
    refine x_aload_n (pc := 33) d_CW_with_33 rfl ?_
    refine x_get (pc := 34) (j := 0) d_CW_with_34 f_CW_10 rfl rfl (Nat.le_of_ble_eq_true rfl) rfl rfl rfl ?_
    refine x_get (pc := 37) (j := 5) d_CW_with_37 f_CW_148 rfl rfl (Nat.le_of_ble_eq_true rfl) rfl rfl rfl ?_
    rw [show V1 1 5 = nI (W.mo - 1 + 1) from (by rw [(g1.C g2 hC).mo, show W.mo - 1 + 1 = W.mo by omega])]
    refine y_callVu (pc := 40) (c_Tai_fill _ _ hW (g1.C g2 hC) g5 (2 ^ (W.n - 1) - 1) (W.mo - 1) hall (by omega) hta2) k_Tai_fill d_CW_with_40 m_CW_151 (by decide) rfl rfl rfl rfl p_Tai_fill (K := fun V2 A2 hq2 => ?_)
    obtain ⟨f1, f2, f3, f4, f5⟩ := hq2
    refine x_aload_n (pc := 43) d_CW_with_43 rfl ?_
    refine x_get (pc := 44) (j := 2) d_CW_with_44 f_CW_35 rfl rfl (Nat.le_of_ble_eq_true rfl) rfl rfl rfl ?_
    refine x_iload_n (pc := 47) d_CW_with_47 rfl ?_
    refine x_iload_n (pc := 48) d_CW_with_48 rfl ?_
    refine x_ldc (pc := 49) (v := (-1000000000)) d_CW_with_49 i_CW_155 ?_
    refine y_callV (pc := 51) (c_Tai_leastThrough _ _ hW (tf_C f1 f2 (g1.C g2 hC)) (f2.S g5) (W.mo - 1) (by omega) f4 f5 x y _ hx hy) k_Tai_leastThrough d_CW_with_51 m_CW_156 (by decide) rfl rfl rfl rfl p_Tai_leastThrough (K := fun v3 V3 A3 hq3 => ?_)
    obtain ⟨⟨o, rfl, ho, hth⟩, rfl, rfl⟩ := hq3
    have hoT : o = sc (mkH W x y W.mo (2 ^ (W.n - 1) - 1) 0).2 := by
      rcases hth with z | ⟨z1, z2, -⟩
      · rw [show W.mo - 1 + 1 = W.mo by omega] at z; exact z
      · exact absurd z2 (zEc_lo ho z1)
    subst hoT
    refine y_fS (pc := 54) (c_CW_orNone _ _ _) k_CW_orNone d_CW_with_54 m_CW_101 (by decide) rfl p_CW_orNone (K := ?_)
    refine y_iret (pc := 57) d_CW_with_57 rfl ?_
    exact Or.inr ⟨q6, x, y, rfl, rfl, hx, hy, ho, zEc_or (b := 200000) (by omega) ho, V1, A1, ⟨g1, g2, g3, g4, g5⟩, f1, f2, f3, f4, f5⟩
  · refine x_if_ne (pc := 9) (tgt := 15) d_CW_with_9 (by decide) (fun h => absurd h (by decide)) (fun _ => ?_)
    refine x_ldc (pc := 12) (v := (-2000000)) d_CW_with_12 i_CW_83 ?_
    refine y_iret (pc := 14) d_CW_with_14 rfl ?_
    exact Or.inl ⟨fun z => q6 (by rw [hC.n]; exact z), rfl, rfl, rfl⟩
set_option maxRecDepth 100000 in
set_option maxHeartbeats 4000000 in
theorem c_Mo_with {W : zW} (V A : zV) (hW : zWok W) (hR : WR W V A) (hk : V 36 13 = 0 ∨ (V 36 13 = 1 ∧ KN0 W V A)) (a b : Int32) (hB : ∀ x y, x < W.n → y < W.n → oB 200000 (sc (mkH W x y W.mo (2 ^ (W.n - 1) - 1) 0).2)) : CQ Y_Mo_with 50 [.ref 36, .int a, .int b] V A (fun ρ V' A' => (¬ ((0 ≤ a ∧ a < nI W.n) ∧ (0 ≤ b ∧ b < nI W.n) ∧ ¬ a = b) ∧ ρ = (-2000000) ∧ V' = zv V 36 0 0 ∧ A' = A) ∨ ((0 ≤ a ∧ a < nI W.n) ∧ (0 ≤ b ∧ b < nI W.n) ∧ ¬ a = b) ∧ ∃ x y, a = nI x ∧ b = nI y ∧ x < W.n ∧ y < W.n ∧ ρ = (if sc (mkH W x y W.mo (2 ^ (W.n - 1) - 1) 0).2 = none then (-1000000) else zEf (sc (mkH W x y W.mo (2 ^ (W.n - 1) - 1) 0).2)) ∧ KF V A V' A' ∧ V' 36 13 = 1 ∧ KN0 W V' A') := by
  have h9 := hW.h9
  have hF0 : KF V A (zv V 36 0 0) A := (KF_rf V A).V (by omega) _
  have hk0 : (zv V 36 0 0) 36 13 = 0 ∨ ((zv V 36 0 0) 36 13 = 1 ∧ KN0 W (zv V 36 0 0) A) := hk
  refine CQ.of (lv := [.ref 36, .int a, .int b]) k_Mo_with.1 rfl (by decide) rfl rfl (Nat.le_of_ble_eq_true rfl) ?_
  refine x_aload_n (pc := 0) d_Mo_with_0 rfl ?_
  refine x_iconst (pc := 1) (v := 0) d_Mo_with_1 (by decide) ?_
  refine y_put (pc := 2) (j := 0) d_Mo_with_2 f_Mo_1 rfl rfl (Nat.le_of_ble_eq_true rfl) rfl (Nat.le_of_ble_eq_true rfl) rfl rfl (fun _ => rfl) ?_
  refine x_aload_n (pc := 5) d_Mo_with_5 rfl ?_
  refine x_iload_n (pc := 6) d_Mo_with_6 rfl ?_
  refine x_iload_n (pc := 7) d_Mo_with_7 rfl ?_
  refine y_bV (pc := 8) (c_Mo_noTwo _ _ a b W.n (hF0.R hR).n hW.h1 hW.h9) k_Mo_noTwo d_Mo_with_8 m_Mo_84 (by decide) rfl rfl rfl rfl p_Mo_noTwo (K1 := fun q8 => ?_) (K0 := fun q8 => ?_)
  · refine x_if_eq (pc := 11) (tgt := 17) d_Mo_with_11 (by decide) (fun h => absurd h (by decide)) (fun _ => ?_)
    refine x_ldc (pc := 14) (v := (-2000000)) d_Mo_with_14 i_Mo_78 ?_
    refine y_iret (pc := 16) d_Mo_with_16 rfl ?_
    exact Or.inl ⟨q8, rfl, rfl, rfl⟩
  · refine x_if_eq (pc := 11) (tgt := 17) d_Mo_with_11 (by decide) (fun _ => ?_) (fun h => absurd h (by decide))
    have q6 := Classical.byContradiction q8
    obtain ⟨x, hx, rfl⟩ := z_nat q6.1.1 q6.1.2 (by omega)
    obtain ⟨y, hy, rfl⟩ := z_nat q6.2.1.1 q6.2.1.2 (by omega)
    have ix1 : 9 * nI x + nI y = nI (9 * x + y) := by rw [show (9 : Int32) = nI 9 from rfl, pk_mul, nI_add]
    have c1 : (nI (9 * x + y)).toNatClampNeg = 9 * x + y := nI_clamp (by omega)
    refine x_aload_n (pc := 17) d_Mo_with_17 rfl ?_
    refine y_callVu (pc := 18) (c_Mo_know _ _ hW (hF0.R hR) hk0) k_Mo_know d_Mo_with_18 m_Mo_144 (by decide) rfl rfl rfl rfl p_Mo_know (K := fun V2 A2 hq => ?_)
    obtain ⟨g1, -, g2, g3⟩ := hq
    refine x_aload_n (pc := 21) d_Mo_with_21 rfl ?_
    refine x_get (pc := 22) (j := 16) d_Mo_with_22 f_Mo_45 rfl rfl (Nat.le_of_ble_eq_true rfl) rfl rfl rfl ?_
    refine x_bipush (pc := 25) (v := 9) d_Mo_with_25 (by decide) ?_
    refine x_iload_n (pc := 27) d_Mo_with_27 rfl ?_
    refine x_imul (pc := 28) d_Mo_with_28 ?_
    refine x_iload_n (pc := 29) d_Mo_with_29 rfl ?_
    refine x_iadd (pc := 30) d_Mo_with_30 ?_
    rw [ix1]
    refine x_iald (pc := 31) d_Mo_with_31 rfl (vp_in_nI (by omega) (by decide)) ?_
    rw [c1, g3.2.2.2 x y (by omega) (by omega)]
    refine y_fS (pc := 32) (c_Mo_told _ _ _) k_Mo_told d_Mo_with_32 m_Mo_147 (by decide) rfl p_Mo_told (K := ?_)
    refine y_iret (pc := 35) d_Mo_with_35 rfl ?_
    exact Or.inr ⟨q6, x, y, rfl, rfl, hx, hy, zEf_or (b := 200000) (by omega) (hB x y hx hy), KF_tr hF0 g1, g2, g3⟩
theorem mkH_B {W : zW} (hW : zWok W) (x y : Nat) (hx : x < W.n) (hy : y < W.n) : oB 200000 (sc (mkH W x y W.mo (2 ^ (W.n - 1) - 1) 0).2) := by
  have h9 := hW.h9
  have hm1 := hW.m1
  have hm8 := hW.m8
  rw [show W.mo = W.mo - 1 + 1 by omega]
  cases y with
  | succ j => rw [th_P hW _ x j (by omega) (by omega)]; exact thP_B hW (by omega) x j _
  | zero =>
    cases hop : W.op with
    | true => rw [th_open hW _ x hop]; exact oB_n _
    | false =>
      by_cases hx0 : x = 0
      · rw [th_noarc hW _ x 0 (by
          cases hq : W.ar x 0 with
          | none => rfl
          | some y => have := hW.ar _ _ _ hq; omega)]
        exact oB_n _
      · rw [th_B hW _ x (by omega) hx0 hop]; exact thB_B hW (by omega) x _
theorem InvP.after2 {c : Nat} {V A V2 A2 V3 A3 : zV} (hI : InvP c V A) {W : zW} (hW : zWok W) (hWc : zWc W) (hC : WC W V A) (hR : WR W V A) (hp : PFT W V A V2 A2) (k1 : KF V2 A2 V3 A3) (k2 : V3 36 13 = 1) (k3 : KN0 W V3 A3) : InvP (c + 1) V3 A3 := by
  have hm1 := hW.m1
  have h0p : 0 < 2 ^ (W.n - 1) := Nat.pos_of_ne_zero (by simp)
  obtain ⟨V1, A1, ⟨g1, g2, g3, g4, g5⟩, f1, f2, f3, f4, f5⟩ := hp
  have v1 : ∀ k j, ¬ (k = 13 ∧ (j = 4 ∨ j = 5 ∨ j = 6)) → ¬ (k = 16 ∧ (j = 5 ∨ j = 6 ∨ j = 7)) → ¬ (k = 36 ∧ (j = 0 ∨ j = 13 ∨ j = 14 ∨ j = 15 ∨ j = 19 ∨ j = 21 ∨ j = 22 ∨ j = 23 ∨ j = 24 ∨ j = 25)) → V3 k j = V k j := fun k j z1 z2 z3 => (k1.1 k j z3).trans ((f1 k j z2).trans (g1 k j z1))
  have v2 : ∀ k, ¬ ((7 ≤ k ∧ k ≤ 12) ∨ k = 14 ∨ k = 15) → ¬ k = 17 → ¬ (44 ≤ k ∧ k ≤ 47) → A3 k = A k := fun k z1 z2 z3 => (k1.2 k z3).trans ((f2 k z2).trans (g2 k z1))
  have hzta : zta A3 = zta A1 := by
    funext k
    unfold zta
    split <;> exact (k1.2 _ (by omega)).trans (f2 _ (by omega))
  refine hI.upd (fun k j z1 z2 => v1 k j ?_ ?_ ?_) (fun k z1 z2 => v2 k ?_ ?_ ?_) hW hWc (hC.same (fun j => v1 1 j (by omega) (by omega) (by omega)) (fun k hk => v2 k (by omega) (by omega) (by omega))) (hR.same (fun j z1 z2 => v1 36 j (by omega) (by omega) (by omega)) (fun k z1 z2 => v2 k (by omega) (by omega) (by omega))) ((congrFun ((k1.2 7 (by omega)).trans (f2 7 (by omega))) 0).trans g4) (Or.inr ⟨((k1.1 13 6 (by omega)).trans (f1 13 6 (by omega))).trans g3, by rw [hzta]; exact g5⟩) (Or.inr ⟨((k1.1 16 5 (by omega)).trans f3).trans (g1 1 8 (by omega)), ?_⟩) (Or.inl ⟨v1 19 5 (by omega) (by omega) (by omega), v1 19 4 (by omega) (by omega) (by omega), v2 20 (by omega) (by omega) (by omega)⟩) (Or.inr ⟨k2, k3⟩)
  · rintro ⟨rfl, rfl | rfl | rfl⟩
    · exact absurd z1 (by decide)
    · exact absurd z1 (by decide)
    · exact absurd z2 (by decide)
  · rintro ⟨rfl, rfl | rfl | rfl⟩ <;> exact absurd z2 (by decide)
  · rintro ⟨rfl, rfl | rfl | rfl | rfl | rfl | rfl | rfl | rfl | rfl | rfl⟩
    · exact absurd z1 (by decide)
    · exact absurd z2 (by decide)
    · exact absurd z2 (by decide)
    · exact absurd z2 (by decide)
    · exact absurd z2 (by decide)
    · exact absurd z1 (by decide)
    · exact absurd z1 (by decide)
    · exact absurd z1 (by decide)
    · exact absurd z1 (by decide)
    · exact absurd z1 (by decide)
  · intro z
    have : (zpA k) = true := by
      rcases z with z | z | z
      · obtain rfl | rfl | rfl | rfl | rfl | rfl : k = 7 ∨ k = 8 ∨ k = 9 ∨ k = 10 ∨ k = 11 ∨ k = 12 := by omega
        all_goals rfl
      · rw [z]; rfl
      · rw [z]; rfl
    rw [this] at z2; exact absurd z2 (by simp)
  · rintro rfl; exact absurd z2 (by decide)
  · intro z
    obtain rfl | rfl | rfl | rfl : k = 44 ∨ k = 45 ∨ k = 46 ∨ k = 47 := by omega
    · exact absurd z2 (by decide)
    · exact absurd z2 (by decide)
    · exact absurd z2 (by decide)
    · exact absurd z1 (by decide)
  · exact ⟨2 ^ (W.n - 1) - 1, W.mo - 1, (k1.1 16 6 (by omega)).trans f4.1, (k1.1 16 7 (by omega)).trans f4.2, by omega, by omega, by rw [k1.2 17 (by omega)]; exact f5⟩
theorem PFT_R {W : zW} {V A V2 A2 : zV} (hp : PFT W V A V2 A2) (hR : WR W V A) : WR W V2 A2 := by
  obtain ⟨V1, A1, ⟨g1, g2, -⟩, f1, f2, -⟩ := hp
  exact hR.same (fun j z1 z2 => (f1 36 j (by omega)).trans (g1 36 j (by omega))) (fun k z1 z2 => (f2 k (by omega)).trans (g2 k (by omega)))
theorem PFT_K {W : zW} {V A V2 A2 : zV} (hp : PFT W V A V2 A2) (hk : V 36 13 = 0 ∨ (V 36 13 = 1 ∧ KN0 W V A)) : V2 36 13 = 0 ∨ (V2 36 13 = 1 ∧ KN0 W V2 A2) := by
  obtain ⟨V1, A1, ⟨g1, g2, -⟩, f1, f2, -⟩ := hp
  unfold KN0 at hk ⊢
  rw [f1 36 13 (by omega), f1 36 14 (by omega), f1 36 15 (by omega), f1 36 19 (by omega), f2 44 (by omega), f2 45 (by omega), f2 46 (by omega), g1 36 13 (by omega), g1 36 14 (by omega), g1 36 15 (by omega), g1 36 19 (by omega), g2 44 (by omega), g2 45 (by omega), g2 46 (by omega)]
  exact hk
theorem pr_with (a b : Int32) : Pair SHp TAp FIp KNp Y_CW_with Y_Mo_with 30 50 [.int a, .int b] := by
  intro c V A hc hI
  obtain ⟨W, hW, hWc, hC, hR, h70, hsh, hta, hfi, hkn⟩ := InvP.facts hI hc
  have h9 := hW.h9
  refine CQ.mono (c_CW_with V A hW hC h70 hsh hta a b) (fun r V1 A1 h => ?_)
  rcases h with ⟨q, rfl, rfl, rfl⟩ | ⟨q, x, y, rfl, rfl, hx, hy, hB, rfl, hp⟩
  · refine CQ.mono (c_Mo_with _ _ hW hR hkn a b (mkH_B hW)) (fun r' V2 A2 h2 => ?_)
    rcases h2 with ⟨-, rfl, rfl, rfl⟩ | ⟨q2, -⟩
    · exact ⟨rfl, hI.same (zFs_k (zFs_rf _)) (fun _ _ => rfl)⟩
    · exact absurd q2 q
  · refine CQ.mono (c_Mo_with _ _ hW (PFT_R hp hR) (PFT_K hp hkn) _ _ (mkH_B hW)) (fun r' V2 A2 h2 => ?_)
    rcases h2 with ⟨q2, -⟩ | ⟨-, x', y', e1, e2, hx', hy', rfl, k1, k2, k3⟩
    · exact absurd q q2
    · rw [← (nI_eq (by omega) (by omega)).mp e1, ← (nI_eq (by omega) (by omega)).mp e2]
      exact ⟨zEc_zEf (b := 200000) (by omega) hB, InvP.after2 hI hW hWc hC hR hp k1 k2 k3⟩
