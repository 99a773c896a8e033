/-! what the reference knows -/
def KF (V A V' A' : zV) : Prop := (∀ k j, ¬ (k = 36 ∧ (j = 0 ∨ j = 13 ∨ j = 14 ∨ j = 15 ∨ j = 19 ∨ j = 21 ∨ j = 22 ∨ j = 23 ∨ j = 24 ∨ j = 25)) → V' k j = V k j) ∧ ∀ k, ¬ (44 ≤ k ∧ k ≤ 47) → A' k = A k
theorem KF.R {W : zW} {V A V' A' : zV} (h : KF V A V' A') (hR : WR W V A) : WR W V' A' := hR.same (fun j h1 h2 => h.1 36 j (by omega)) (fun k h1 h2 => h.2 k (by omega))
theorem KF_rf (V A : zV) : KF V A V A := ⟨fun _ _ _ => rfl, fun _ _ => rfl⟩
theorem KF.V {V A V' A' : zV} (h : KF V A V' A') {j : Nat} (hj : j = 0 ∨ j = 13 ∨ j = 14 ∨ j = 15 ∨ j = 19 ∨ j = 21 ∨ j = 22 ∨ j = 23 ∨ j = 24 ∨ j = 25) (x : Int32) : KF V A (zv V' 36 j x) A' := ⟨fun k i q => by rw [zv_eq, if_neg (fun z => q ⟨z.1, by rw [z.2]; exact hj⟩), h.1 k i q], h.2⟩
theorem KF.A {V A V' A' : zV} (h : KF V A V' A') {k : Nat} (hk : 44 ≤ k ∧ k ≤ 47) (f : Nat → Int32) : KF V A V' (za A' k f) := ⟨h.1, fun j q => by rw [za_eq, if_neg (fun z => q (by rw [z]; exact hk)), h.2 j q]⟩
theorem KF.D {V A V1 A1 V2 A2 : zV} (h : KF V A V1 A1) (h' : DF V1 A1 V2 A2) : KF V A V2 A2 := ⟨fun k j q => (h'.1 k j (by omega)).trans (h.1 k j q), fun k q => (h'.2 k q).trans (h.2 k q)⟩
def KN0 (W : zW) (V A : zV) : Prop := AC W (zHL W W.mo 0 0 [] 0) (fun x y => sc (mkH W x y W.mo (2 ^ (W.n - 1) - 1) 0).2) (V 36 14) (V 36 15) (V 36 19) (A 44) (A 45) (A 46)
set_option maxRecDepth 100000 in
set_option maxHeartbeats 4000000 in
theorem c_Mo_know {W : zW} (V A : zV) (hW : zWok W) (hR : WR W V A) (hk : V 36 13 = 0 ∨ (V 36 13 = 1 ∧ KN0 W V A)) : CU Y_Mo_know 20 [.ref 36] V A (fun V' A' => KF V A V' A' ∧ V' 36 0 = V 36 0 ∧ V' 36 13 = 1 ∧ KN0 W V' A') := by
  have h9 := hW.h9
  have hp := pw_le h9
  have h0 : 0 < 2 ^ (W.n - 1) := Nat.pos_of_ne_zero (by simp)
  have hS2 : ∀ k, k ≤ 9 → ∀ (f g : Nat → Int32), (∀ i, i < 81 → f i = 900000) → (∀ i, i < k → g i = 900000) → X Y_Mo_know (zrm 20) (0, fun _ => 0) (zFu 20 (fun V' A' => KF V A V' A' ∧ V' 36 0 = V 36 0 ∧ V' 36 13 = 1 ∧ KN0 W V' A')) 53 [.ref 36, .int (nI k)] [] (cells (zv (zv (zv (zv V 36 13 1) 36 14 900000) 36 15 0) 36 19 (-1)) (za (za A 44 f) 45 g)) 0 0 := by
    refine z_down (fun f g hf hg => ?_) (fun k hk2 ih f g hf hg => ?_)
    · refine x_iload_n (pc := 53) d_Mo_know_53 rfl ?_
      refine x_bipush (pc := 54) (v := 9) d_Mo_know_54 (by decide) ?_
      refine x_icmp_ge (pc := 56) (tgt := 73) d_Mo_know_56 (by decide) (fun h56 => ?_) (fun h => absurd (show nI 9 ≤ nI 9 by decide) h)
      refine x_aload_n (pc := 73) d_Mo_know_73 rfl ?_
      refine x_iconst (pc := 74) (v := 0) d_Mo_know_74 (by decide) ?_
      refine y_put (pc := 75) (j := 22) d_Mo_know_75 f_Mo_92 rfl rfl (Nat.le_of_ble_eq_true rfl) rfl (Nat.le_of_ble_eq_true rfl) rfl rfl (fun _ => rfl) ?_
      refine x_aload_n (pc := 78) d_Mo_know_78 rfl ?_
      refine x_iconst (pc := 79) (v := 0) d_Mo_know_79 (by decide) ?_
      refine y_put (pc := 80) (j := 23) d_Mo_know_80 f_Mo_98 rfl rfl (Nat.le_of_ble_eq_true rfl) rfl (Nat.le_of_ble_eq_true rfl) rfl rfl (fun _ => rfl) ?_
      refine x_aload_n (pc := 83) d_Mo_know_83 rfl ?_
      refine x_iconst (pc := 84) (v := 0) d_Mo_know_84 (by decide) ?_
      refine y_put (pc := 85) (j := 24) d_Mo_know_85 f_Mo_95 rfl rfl (Nat.le_of_ble_eq_true rfl) rfl (Nat.le_of_ble_eq_true rfl) rfl rfl (fun _ => rfl) ?_
      refine x_aload_n (pc := 88) d_Mo_know_88 rfl ?_
      refine x_iconst (pc := 89) (v := 0) d_Mo_know_89 (by decide) ?_
      refine y_put (pc := 90) (j := 25) d_Mo_know_90 f_Mo_122 rfl rfl (Nat.le_of_ble_eq_true rfl) rfl (Nat.le_of_ble_eq_true rfl) rfl rfl (fun _ => rfl) ?_
      refine x_aload_n (pc := 93) d_Mo_know_93 rfl ?_
      refine x_iconst (pc := 94) (v := 0) d_Mo_know_94 (by decide) ?_
      refine y_put (pc := 95) (j := 21) d_Mo_know_95 f_Mo_115 rfl rfl (Nat.le_of_ble_eq_true rfl) rfl (Nat.le_of_ble_eq_true rfl) rfl rfl (fun _ => rfl) ?_
      refine x_aload_n (pc := 98) d_Mo_know_98 rfl ?_
      refine x_iconst (pc := 99) (v := 0) d_Mo_know_99 (by decide) ?_
      refine x_iconst (pc := 100) (v := 0) d_Mo_know_100 (by decide) ?_
      have hF0 : KF V A (zv (zv (zv (zv (zv (zv (zv (zv (zv V 36 13 1) 36 14 900000) 36 15 0) 36 19 (-1)) 36 22 0) 36 23 0) 36 24 0) 36 25 0) 36 21 0) (za (za A 44 f) 45 g) := ((((((((((((KF_rf V A).V (by omega) _).V (by omega) _).V (by omega) _).V (by omega) _).A (by omega) _).A (by omega) _).V (by omega) _).V (by omega) _).V (by omega) _).V (by omega) _).V (by omega) _)
      have hD0 : DSt W 0 0 [] [] (fun _ _ => none) (zv (zv (zv (zv (zv (zv (zv (zv (zv V 36 13 1) 36 14 900000) 36 15 0) 36 19 (-1)) 36 22 0) 36 23 0) 36 24 0) 36 25 0) 36 21 0) (za (za A 44 f) 45 g) := by
        refine ⟨hF0.R hR, ⟨rfl, rfl⟩, ⟨rfl, fun i hi => absurd hi (Nat.not_lt_zero i)⟩, ⟨⟨rfl, rfl⟩, rfl, fun l hl => hg (l + 1) (by omega), fun x y hx hy => hf (9 * x + y) (by omega)⟩, fun x hx => absurd hx (by simp), fun _ _ => oB_n _⟩
      have hz := zc_le 0 (W.n - 1)
      have hHc := (search_C hW 8).1 W.mo 0 0 [] 0 0 [] (fun _ _ => none) _ _ h0 (Nat.zero_le _) (by omega) (by omega) (by omega) (by show 2 * zc 0 (W.n - 1) + 0 ≤ 16; omega) (fun x hx => absurd hx (by simp)) hD0
      rw [show (Int32.ofInt 0) = (0 : Int32) from rfl, show nI 0 = (0 : Int32) from rfl] at hHc
      refine y_callS (pc := 101) hHc k_Mo_atHouse d_Mo_know_101 m_Mo_136 (by decide) rfl p_Mo_atHouse (K := fun v2 V2 A2 hq => ?_)
      obtain ⟨rfl, g1, g2⟩ := hq
      refine y_ist1 (pc := 104) d_Mo_know_104 ?_
      refine y_vret (pc := 105) d_Mo_know_105 rfl ?_
      refine ⟨hF0.D g1, ?_, ?_, ?_⟩
      · rw [g1.1 36 0 (by omega)]; rfl
      · rw [g1.1 36 13 (by omega)]; rfl
      · have z := (g2.wi (wi' := fun x y => sc (mkH W x y W.mo (2 ^ (W.n - 1) - 1) 0).2) (fun x y => ?_)).2.2.2.1
        · rw [List.nil_append] at z; exact z
        · rw [omin_nl, zdf_0 (by omega)]
          exact congrArg sc (zMS_SR.im _)
    · have ck : (nI k).toNatClampNeg = k := nI_clamp (by omega)
      refine x_iload_n (pc := 53) d_Mo_know_53 rfl ?_
      refine x_bipush (pc := 54) (v := 9) d_Mo_know_54 (by decide) ?_
      refine x_icmp_ge (pc := 56) (tgt := 73) d_Mo_know_56 (by decide) (fun h => absurd h (nI_ge (by omega) (by decide))) (fun h56 => ?_)
      refine x_aload_n (pc := 59) d_Mo_know_59 rfl ?_
      refine x_get (pc := 60) (j := 17) d_Mo_know_60 f_Mo_48 rfl rfl (Nat.le_of_ble_eq_true rfl) rfl rfl rfl ?_
      refine x_iload_n (pc := 63) d_Mo_know_63 rfl ?_
      refine x_ldc (pc := 64) (v := 900000) d_Mo_know_64 i_Mo_101 ?_
      refine y_iast (pc := 66) d_Mo_know_66 rfl (fun _ => rfl) (vp_in_nI (by omega) (by decide)) ?_
      refine y_inc1 (pc := 67) (v := 1) d_Mo_know_67 (by decide) ?_
      refine x_goto (pc := 70) (tgt := 53) d_Mo_know_70 (by decide) ?_
      rw [za_za, ck, show nI k + 1 = nI (k + 1) from (nI_succ k).symm]
      refine ih _ _ hf (fun i hi => ?_)
      by_cases e : i = k
      · rw [e]; exact upd_at _ _ _
      · exact (upd_ne _ _ e).trans (hg i (by omega))
  have hS1 : ∀ k, k ≤ 81 → ∀ (f : Nat → Int32), (∀ i, i < k → f i = 900000) → X Y_Mo_know (zrm 20) (0, fun _ => 0) (zFu 20 (fun V' A' => KF V A V' A' ∧ V' 36 0 = V 36 0 ∧ V' 36 13 = 1 ∧ KN0 W V' A')) 31 [.ref 36, .int (nI k)] [] (cells (zv (zv (zv (zv V 36 13 1) 36 14 900000) 36 15 0) 36 19 (-1)) (za A 44 f)) 0 0 := by
    refine z_down (fun f hf => ?_) (fun k hk2 ih f hf => ?_)
    · refine x_iload_n (pc := 31) d_Mo_know_31 rfl ?_
      refine x_bipush (pc := 32) (v := 81) d_Mo_know_32 (by decide) ?_
      refine x_icmp_ge (pc := 34) (tgt := 51) d_Mo_know_34 (by decide) (fun h34 => ?_) (fun h => absurd (show nI 81 ≤ nI 81 by decide) h)
      refine x_iconst (pc := 51) (v := 0) d_Mo_know_51 (by decide) ?_
      refine y_ist1 (pc := 52) d_Mo_know_52 ?_
      have h0' := hS2 0 (Nat.zero_le _) f (A 45) hf (fun i hi => absurd hi (Nat.not_lt_zero i))
      rw [show za (za A 44 f) 45 (A 45) = za A 44 f from za_self (za A 44 f) 45] at h0'
      exact h0'
    · have ck : (nI k).toNatClampNeg = k := nI_clamp (by omega)
      refine x_iload_n (pc := 31) d_Mo_know_31 rfl ?_
      refine x_bipush (pc := 32) (v := 81) d_Mo_know_32 (by decide) ?_
      refine x_icmp_ge (pc := 34) (tgt := 51) d_Mo_know_34 (by decide) (fun h => absurd h (nI_ge (by omega) (by decide))) (fun h34 => ?_)
      refine x_aload_n (pc := 37) d_Mo_know_37 rfl ?_
      refine x_get (pc := 38) (j := 16) d_Mo_know_38 f_Mo_45 rfl rfl (Nat.le_of_ble_eq_true rfl) rfl rfl rfl ?_
      refine x_iload_n (pc := 41) d_Mo_know_41 rfl ?_
      refine x_ldc (pc := 42) (v := 900000) d_Mo_know_42 i_Mo_101 ?_
      refine y_iast (pc := 44) d_Mo_know_44 rfl (fun _ => rfl) (vp_in_nI (by omega) (by decide)) ?_
      refine y_inc1 (pc := 45) (v := 1) d_Mo_know_45 (by decide) ?_
      refine x_goto (pc := 48) (tgt := 31) d_Mo_know_48 (by decide) ?_
      rw [za_za, ck, show nI k + 1 = nI (k + 1) from (nI_succ k).symm]
      refine ih _ (fun i hi => ?_)
      by_cases e : i = k
      · rw [e]; exact upd_at _ _ _
      · exact (upd_ne _ _ e).trans (hf i (by omega))
  refine CU.of (lv := [.ref 36, zu]) k_Mo_know.1 rfl (by decide) rfl rfl (Nat.le_of_ble_eq_true rfl) ?_
  refine x_aload_n (pc := 0) d_Mo_know_0 rfl ?_
  refine x_get (pc := 1) (j := 13) d_Mo_know_1 f_Mo_80 rfl rfl (Nat.le_of_ble_eq_true rfl) rfl rfl rfl ?_
  refine x_if_eq (pc := 4) (tgt := 8) d_Mo_know_4 (by decide) (fun h4 => ?_) (fun h4 => ?_)
  · refine x_aload_n (pc := 8) d_Mo_know_8 rfl ?_
    refine x_iconst (pc := 9) (v := 1) d_Mo_know_9 (by decide) ?_
    refine y_put (pc := 10) (j := 13) d_Mo_know_10 f_Mo_80 rfl rfl (Nat.le_of_ble_eq_true rfl) rfl (Nat.le_of_ble_eq_true rfl) rfl rfl (fun _ => rfl) ?_
    refine x_aload_n (pc := 13) d_Mo_know_13 rfl ?_
    refine x_ldc (pc := 14) (v := 900000) d_Mo_know_14 i_Mo_101 ?_
    refine y_put (pc := 16) (j := 14) d_Mo_know_16 f_Mo_102 rfl rfl (Nat.le_of_ble_eq_true rfl) rfl (Nat.le_of_ble_eq_true rfl) rfl rfl (fun _ => rfl) ?_
    refine x_aload_n (pc := 19) d_Mo_know_19 rfl ?_
    refine x_iconst (pc := 20) (v := 0) d_Mo_know_20 (by decide) ?_
    refine y_put (pc := 21) (j := 15) d_Mo_know_21 f_Mo_105 rfl rfl (Nat.le_of_ble_eq_true rfl) rfl (Nat.le_of_ble_eq_true rfl) rfl rfl (fun _ => rfl) ?_
    refine x_aload_n (pc := 24) d_Mo_know_24 rfl ?_
    refine x_iconst (pc := 25) (v := (-1)) d_Mo_know_25 (by decide) ?_
    refine y_put (pc := 26) (j := 19) d_Mo_know_26 f_Mo_108 rfl rfl (Nat.le_of_ble_eq_true rfl) rfl (Nat.le_of_ble_eq_true rfl) rfl rfl (fun _ => rfl) ?_
    refine x_iconst (pc := 29) (v := 0) d_Mo_know_29 (by decide) ?_
    refine y_ist1 (pc := 30) d_Mo_know_30 ?_
    have h0' := hS1 0 (Nat.zero_le _) (A 44) (fun i hi => absurd hi (Nat.not_lt_zero i))
    rw [za_self] at h0'
    exact h0'
  · refine y_vret (pc := 7) d_Mo_know_7 rfl ?_
    rcases hk with z | ⟨z, hk⟩
    · exact absurd z h4
    · exact ⟨KF_rf V A, rfl, z, hk⟩
theorem ztH_le {m : Nat} (hm : m ≤ 8) : ztH m ≤ 8508985 := by
  have h7 : ztN 7 = 1063623 := by decide +kernel
  cases m with
  | zero => decide
  | succ m =>
    have := ztN_mono (show m ≤ 7 by omega)
    rw [h7] at this
    rw [ztH]
    have h2 : (m + 1) * ztN m ≤ 8 * 1063623 := Nat.mul_le_mul (by omega) this
    omega
theorem sw_pos (W : zW) : ∀ l, ¬ lsum W (zos W) l = none → 1 ≤ sw (lsum W (zos W) l)
  | [], h => absurd rfl h
  | x :: l, h => by
    have h1 : sm (some (x.1, 1)) (zos W (zdf (2 ^ (W.n - 1) - 1) x.2.1)) = none ∨ sw (sm (some (x.1, 1)) (zos W (zdf (2 ^ (W.n - 1) - 1) x.2.1))) = 1 := by
      unfold zos
      cases zOt W (zdf (2 ^ (W.n - 1) - 1) x.2.1) with
      | none => exact Or.inl rfl
      | some y => exact Or.inr rfl
    have ih := sw_pos W l
    rw [lsum] at h ⊢
    generalize sm (some (x.1, 1)) (zos W (zdf (2 ^ (W.n - 1) - 1) x.2.1)) = a at h h1 ⊢
    generalize lsum W (zos W) l = b at h ih ⊢
    rcases h1 with rfl | h1
    · rw [sa_nl] at h ⊢; exact ih h
    · rw [sw_sa]
      split
      · rename_i hq
        refine ih (fun z => ?_)
        rw [z] at hq; exact absurd hq (by simp [sc, oltb])
      · split <;> omega
theorem many_0 {W : zW} (hW : zWok W) : nI (sw (lsum W (zos W) (zHL W W.mo 0 0 [] 0))) = 0 ↔ sc (lsum W (zos W) (zHL W W.mo 0 0 [] 0)) = none := by
  have h9 := hW.h9
  have h1 := sw_lsum W (zHL W W.mo 0 0 [] 0)
  have h2 := len_HL (W := W) W.mo _ 0 0 [] 0 rfl
  have h3 := ztH_le (m := zc 0 (W.n - 1)) (by have := zc_le 0 (W.n - 1); omega)
  constructor
  · intro h
    have hz0 : sw (lsum W (zos W) (zHL W W.mo 0 0 [] 0)) = 0 := (nI_eq (by omega) (by decide)).mp (h.trans (show (0 : Int32) = nI 0 from rfl))
    apply Classical.byContradiction
    intro z
    have := sw_pos W (zHL W W.mo 0 0 [] 0) (fun e => z (by rw [e]; rfl))
    omega
  · intro h
    rw [sc_n.mp h]; rfl
theorem L0_sum {W : zW} (hW : zWok W) (out : Nat → Option (Int × Nat)) : lsum W out (zHL W W.mo 0 0 [] 0) = zPl zMS (W.n - 1) (zfo W) (zar W) (zbs W) out W.mo (2 ^ (W.n - 1) - 1) := by
  have h9 := hW.h9
  have hp := pw_le h9
  have h0 : 0 < 2 ^ (W.n - 1) := Nat.pos_of_ne_zero (by simp)
  rw [lsum_HL h9 out W.mo 0 0 [] 0 h0, zdf_0 (by omega), zH_zP zMS_SR (by omega) (zfo_Fo W) _ _ _ _ _ (by omega)]
  exact zMS_SR.im _
theorem KF_tr {V A V1 A1 V2 A2 : zV} (h : KF V A V1 A1) (h' : KF V1 A1 V2 A2) : KF V A V2 A2 := ⟨fun k j q => (h'.1 k j q).trans (h.1 k j q), fun k q => (h'.2 k q).trans (h.2 k q)⟩
set_option maxRecDepth 100000 in
set_option maxHeartbeats 4000000 in
theorem c_Mo_best {W : zW} (V A : zV) (hW : zWok W) (hR : WR W V A) (hk : V 36 13 = 0 ∨ (V 36 13 = 1 ∧ KN0 W V A)) : CQ Y_Mo_best 50 [.ref 36] V A (fun r V' A' => r = (if sc (lsum W (zos W) (zHL W W.mo 0 0 [] 0)) = none then (-1000000) else zEf (sc (lsum W (zos W) (zHL W W.mo 0 0 [] 0)))) ∧ KF V A V' A' ∧ V' 36 13 = 1 ∧ KN0 W V' A') := by
  have hF0 : KF V A (zv V 36 0 0) A := (KF_rf V A).V (by omega) _
  have hk0 : (zv V 36 0 0) 36 13 = 0 ∨ ((zv V 36 0 0) 36 13 = 1 ∧ KN0 W (zv V 36 0 0) A) := hk
  refine CQ.of (lv := [.ref 36]) k_Mo_best.1 rfl (by decide) rfl rfl (Nat.le_of_ble_eq_true rfl) ?_
  refine x_aload_n (pc := 0) d_Mo_best_0 rfl ?_
  refine x_iconst (pc := 1) (v := 0) d_Mo_best_1 (by decide) ?_
  refine y_put (pc := 2) (j := 0) d_Mo_best_2 f_Mo_1 rfl rfl (Nat.le_of_ble_eq_true rfl) rfl (Nat.le_of_ble_eq_true rfl) rfl rfl (fun _ => rfl) ?_
  refine x_aload_n (pc := 5) d_Mo_best_5 rfl ?_
  refine y_callVu (pc := 6) (c_Mo_know _ _ hW (hF0.R hR) hk0) k_Mo_know d_Mo_best_6 m_Mo_144 (by decide) rfl rfl rfl rfl p_Mo_know (K := fun V2 A2 hq => ?_)
  obtain ⟨g1, -, g2, g3⟩ := hq
  refine x_aload_n (pc := 9) d_Mo_best_9 rfl ?_
  refine x_get (pc := 10) (j := 15) d_Mo_best_10 f_Mo_105 rfl rfl (Nat.le_of_ble_eq_true rfl) rfl rfl rfl ?_
  refine x_if_ne (pc := 13) (tgt := 21) d_Mo_best_13 (by decide) (fun h13 => ?_) (fun h13 => ?_)
  · refine x_aload_n (pc := 21) d_Mo_best_21 rfl ?_
    refine x_get (pc := 22) (j := 14) d_Mo_best_22 f_Mo_102 rfl rfl (Nat.le_of_ble_eq_true rfl) rfl rfl rfl ?_
    refine y_iret (pc := 25) d_Mo_best_25 rfl ?_
    have h13 : ¬ V2 36 15 = 0 := h13
    rw [g3.1.2] at h13
    exact ⟨by rw [if_neg (fun z => h13 ((many_0 hW).mpr z))]; exact g3.1.1, KF_tr hF0 g1, g2, g3⟩
  · refine x_ldc (pc := 16) (v := (-1000000)) d_Mo_best_16 i_Mo_88 ?_
    refine x_goto (pc := 18) (tgt := 25) d_Mo_best_18 (by decide) ?_
    refine y_iret (pc := 25) d_Mo_best_25 rfl ?_
    have h13 : V2 36 15 = 0 := h13
    rw [g3.1.2] at h13
    exact ⟨by rw [if_pos ((many_0 hW).mp h13)], KF_tr hF0 g1, g2, g3⟩
set_option maxRecDepth 100000 in
set_option maxHeartbeats 4000000 in
theorem c_Mo_many {W : zW} (V A : zV) (hW : zWok W) (hR : WR W V A) (hk : V 36 13 = 0 ∨ (V 36 13 = 1 ∧ KN0 W V A)) : CQ Y_Mo_many 50 [.ref 36] V A (fun r V' A' => r = nI (sw (lsum W (zos W) (zHL W W.mo 0 0 [] 0))) ∧ KF V A V' A' ∧ V' 36 13 = 1 ∧ KN0 W V' A') := by
  have hF0 : KF V A (zv V 36 0 0) A := (KF_rf V A).V (by omega) _
  have hk0 : (zv V 36 0 0) 36 13 = 0 ∨ ((zv V 36 0 0) 36 13 = 1 ∧ KN0 W (zv V 36 0 0) A) := hk
  refine CQ.of (lv := [.ref 36]) k_Mo_many.1 rfl (by decide) rfl rfl (Nat.le_of_ble_eq_true rfl) ?_
  refine x_aload_n (pc := 0) d_Mo_many_0 rfl ?_
  refine x_iconst (pc := 1) (v := 0) d_Mo_many_1 (by decide) ?_
  refine y_put (pc := 2) (j := 0) d_Mo_many_2 f_Mo_1 rfl rfl (Nat.le_of_ble_eq_true rfl) rfl (Nat.le_of_ble_eq_true rfl) rfl rfl (fun _ => rfl) ?_
  refine x_aload_n (pc := 5) d_Mo_many_5 rfl ?_
  refine y_callVu (pc := 6) (c_Mo_know _ _ hW (hF0.R hR) hk0) k_Mo_know d_Mo_many_6 m_Mo_144 (by decide) rfl rfl rfl rfl p_Mo_know (K := fun V2 A2 hq => ?_)
  obtain ⟨g1, -, g2, g3⟩ := hq
  refine x_aload_n (pc := 9) d_Mo_many_9 rfl ?_
  refine x_get (pc := 10) (j := 15) d_Mo_many_10 f_Mo_105 rfl rfl (Nat.le_of_ble_eq_true rfl) rfl rfl rfl ?_
  refine y_iret (pc := 13) d_Mo_many_13 rfl ?_
  exact ⟨g3.1.2, KF_tr hF0 g1, g2, g3⟩
theorem zEf_or {b : Int} {o : Option Int} (hb : b < 900000) (h : oB b o) : (if zEf o = 900000 then (-1000000) else zEf o) = (if o = none then (-1000000) else zEf o) := by
  by_cases hz : o = none
  · rw [if_pos hz, if_pos ((zEf_no hb h).mpr hz)]
  · rw [if_neg hz, if_neg (fun q => hz ((zEf_no hb h).mp q))]
set_option maxRecDepth 100000 in
set_option maxHeartbeats 4000000 in
theorem c_Mo_without {W : zW} (V A : zV) (hW : zWok W) (hR : WR W V A) (hk : V 36 13 = 0 ∨ (V 36 13 = 1 ∧ KN0 W V A)) (v : Int32) : CQ Y_Mo_without 50 [.ref 36, .int v] V A (fun r V' A' => (¬ (0 < v ∧ v < nI W.n) ∧ r = (-2000000) ∧ V' = zv V 36 0 0 ∧ A' = A) ∨ ∃ l, l < W.n - 1 ∧ v = nI (l + 1) ∧ r = (if sc (lsum W (zov W l) (zHL W W.mo 0 0 [] 0)) = none then (-1000000) else zEf (sc (lsum W (zov W l) (zHL W W.mo 0 0 [] 0)))) ∧ KF V A V' A' ∧ V' 36 13 = 1 ∧ KN0 W V' A') := by
  have hF0 : KF V A (zv V 36 0 0) A := (KF_rf V A).V (by omega) _
  have hk0 : (zv V 36 0 0) 36 13 = 0 ∨ ((zv V 36 0 0) 36 13 = 1 ∧ KN0 W (zv V 36 0 0) A) := hk
  have h9 := hW.h9
  refine CQ.of (lv := [.ref 36, .int v]) k_Mo_without.1 rfl (by decide) rfl rfl (Nat.le_of_ble_eq_true rfl) ?_
  refine x_aload_n (pc := 0) d_Mo_without_0 rfl ?_
  refine x_iconst (pc := 1) (v := 0) d_Mo_without_1 (by decide) ?_
  refine y_put (pc := 2) (j := 0) d_Mo_without_2 f_Mo_1 rfl rfl (Nat.le_of_ble_eq_true rfl) rfl (Nat.le_of_ble_eq_true rfl) rfl rfl (fun _ => rfl) ?_
  refine x_aload_n (pc := 5) d_Mo_without_5 rfl ?_
  refine x_iload_n (pc := 6) d_Mo_without_6 rfl ?_
  refine y_bV (pc := 7) (c_Mo_noNode _ _ v W.n (hF0.R hR).n hW.h1 hW.h9) k_Mo_noNode d_Mo_without_7 m_Mo_74 (by decide) rfl rfl rfl rfl p_Mo_noNode (K1 := fun q7 => ?_) (K0 := fun q7 => ?_)
  · refine x_if_ne (pc := 10) (tgt := 17) d_Mo_without_10 (by decide) (fun _ => ?_) (fun h => absurd h (by decide))
    refine x_ldc (pc := 17) (v := (-2000000)) d_Mo_without_17 i_Mo_78 ?_
    refine y_iret (pc := 19) d_Mo_without_19 rfl ?_
    exact Or.inl ⟨fun z => q7 ⟨Int32.le_of_lt z.1, z.2⟩, rfl, rfl, rfl⟩
  · refine x_if_ne (pc := 10) (tgt := 17) d_Mo_without_10 (by decide) (fun h => absurd h (by decide)) (fun _ => ?_)
    refine x_iload_n (pc := 13) d_Mo_without_13 rfl ?_
    refine x_if_ne (pc := 14) (tgt := 20) d_Mo_without_14 (by decide) (fun h14 => ?_) (fun h14 => ?_)
    · have q7' := Classical.byContradiction q7
      obtain ⟨j, hj, rfl⟩ := z_nat q7'.1 q7'.2 (by omega)
      obtain ⟨l, rfl⟩ : ∃ l, j = l + 1 := ⟨j - 1, by rcases Nat.eq_zero_or_pos j with z | z; subst z; exact absurd rfl h14; omega⟩
      have hl : l < W.n - 1 := by omega
      have cl : (nI (l + 1)).toNatClampNeg = l + 1 := nI_clamp (by omega)
      have hBv : bB 100000 (lsum W (zov W l) (zHL W W.mo 0 0 [] 0)) := by
        rw [L0_sum hW]
        refine bB_mono (zZ_B (c := 9000) (by omega) (zov_B hW l) _ (fun x hx => ?_) W.mo _) (by have := hW.m8; omega)
        obtain ⟨M, -, rfl⟩ := zLs_mem hx
        exact wR_B hW M
      refine x_aload_n (pc := 20) d_Mo_without_20 rfl ?_
      refine y_callVu (pc := 21) (c_Mo_know _ _ hW (hF0.R hR) hk0) k_Mo_know d_Mo_without_21 m_Mo_144 (by decide) rfl rfl rfl rfl p_Mo_know (K := fun V2 A2 hq => ?_)
      obtain ⟨g1, -, g2, g3⟩ := hq
      refine x_aload_n (pc := 24) d_Mo_without_24 rfl ?_
      refine x_get (pc := 25) (j := 17) d_Mo_without_25 f_Mo_48 rfl rfl (Nat.le_of_ble_eq_true rfl) rfl rfl rfl ?_
      refine x_iload_n (pc := 28) d_Mo_without_28 rfl ?_
      refine x_iald (pc := 29) d_Mo_without_29 rfl (vp_in_nI (by omega) (by decide)) ?_
      rw [cl, g3.2.2.1 l hl]
      refine y_fS (pc := 30) (c_Mo_told _ _ _) k_Mo_told d_Mo_without_30 m_Mo_147 (by decide) rfl p_Mo_told (K := ?_)
      refine y_iret (pc := 33) d_Mo_without_33 rfl ?_
      exact Or.inr ⟨l, hl, rfl, zEf_or (b := 100000) (by omega) hBv, KF_tr hF0 g1, g2, g3⟩
    · refine x_ldc (pc := 17) (v := (-2000000)) d_Mo_without_17 i_Mo_78 ?_
      refine y_iret (pc := 19) d_Mo_without_19 rfl ?_
      exact Or.inl ⟨fun z => by rw [h14] at z; exact absurd z.1 (by decide), rfl, rfl, rfl⟩
/-! the invariant with what the tables say -/
def InvP (c : Nat) (V A : zV) : Prop := Inv SHp TAp FIp KNp c V A
theorem IvS.get {ch : Nat} {s : Int32} {G : Prop} (h : IvS ch s G) (hc : ch ≤ 100 * 512) (e : s = nI ch) : G := by
  rcases h with h | ⟨q, h1, h2, h3⟩
  · rw [e] at h
    have := congrArg Int32.toInt h
    rw [nI_toInt (by omega), z_lm1] at this
    omega
  · exact h3 ((nI_eq (by omega) (by omega)).mp (h2.symm.trans e))
theorem InvP.facts {c : Nat} {V A : zV} (hI : InvP c V A) (hc : c < 512) : ∃ W, zWok W ∧ zWc W ∧ WC W V A ∧ WR W V A ∧ A 7 0 = 0 ∧ (V 13 6 = V 1 8 → shOK W (zta A)) ∧ (V 16 5 = V 1 8 → taOK W (V 16 6) (V 16 7) (A 17)) ∧ (V 19 5 = V 1 8 → fiOK W (V 19 4) (A 20)) ∧ (V 36 13 = 0 ∨ (V 36 13 = 1 ∧ KN0 W V A)) := by
  obtain ⟨W, hW, hWc, hC, hR⟩ := Inv.Wc hI
  obtain ⟨n, ch, hN, hR', hL, hC', hP, hA, hW', hX, hQ, ⟨hch1, hch2⟩, ⟨⟨h70, t1⟩, t2, t3⟩, hK⟩ := hI
  refine ⟨W, hW, hWc, hC, hR, h70, fun e => ?_, fun e => ?_, fun e => ?_, ?_⟩
  · obtain ⟨W', a1, a2, a3, a4⟩ := t1.get (by omega) (e.trans hch1)
    rw [← WC_uq a1 hW a2 hWc a3 hC]; exact a4
  · obtain ⟨W', a1, a2, a3, a4⟩ := t2.get (by omega) (e.trans hch1)
    rw [← WC_uq a1 hW a2 hWc a3 hC]; exact a4
  · obtain ⟨W', a1, a2, a3, a4⟩ := t3.get (by omega) (e.trans hch1)
    rw [← WC_uq a1 hW a2 hWc a3 hC]; exact a4
  · rcases hK with z | ⟨z, W', a1, a2, a3, a4⟩
    · exact Or.inl z
    · right
      refine ⟨z, ?_⟩
      have e := WR_uq a1 hW a2 hWc a3 hR
      subst e
      exact a4
/-- the cells that the plans' tables stand in -/
def zpV (k j : Nat) : Bool := (k == 13 && j == 6) || (k == 16 && (j == 5 || j == 6 || j == 7)) || (k == 19 && (j == 4 || j == 5)) || (k == 36 && (j == 13 || j == 14 || j == 15 || j == 19))
def zpA (k : Nat) : Bool := (6 < k && k < 13) || k == 14 || k == 15 || k == 17 || k == 20 || (43 < k && k < 47)
theorem InvP.upd {c : Nat} {V A V' A' : zV} (hI : InvP c V A) (hV : ∀ k j, zkV k j = true → zpV k j = false → V' k j = V k j) (hA : ∀ k, zkA k = true → zpA k = false → A' k = A k) {W : zW} (hW : zWok W) (hWc : zWc W) (hC : WC W V' A') (hR : WR W V' A') (h70 : A' 7 0 = 0) (hsh : V' 13 6 = V 13 6 ∧ zta A' = zta A ∨ V' 13 6 = V 1 8 ∧ shOK W (zta A')) (hta : (V' 16 5 = V 16 5 ∧ V' 16 6 = V 16 6 ∧ V' 16 7 = V 16 7 ∧ A' 17 = A 17) ∨ V' 16 5 = V 1 8 ∧ taOK W (V' 16 6) (V' 16 7) (A' 17)) (hfi : (V' 19 5 = V 19 5 ∧ V' 19 4 = V 19 4 ∧ A' 20 = A 20) ∨ V' 19 5 = V 1 8 ∧ fiOK W (V' 19 4) (A' 20)) (hkn : V' 36 13 = 0 ∨ (V' 36 13 = 1 ∧ KN0 W V' A')) : InvP (c + 1) V' A' := by
  obtain ⟨n, ch, ⟨h19, hn, hn'⟩, hR', hL, hC', hP, hAh, hW', hX, hQ, ⟨hch1, hch2⟩, ⟨⟨t0, t1⟩, t2, t3⟩, hK⟩ := hI
  have e14 := hV 1 4 rfl rfl
  have e15 := hV 1 5 rfl rfl
  have e16 := hV 1 6 rfl rfl
  have e17 := hV 1 7 rfl rfl
  have a2 := hA 2 rfl rfl
  have a3 := hA 3 rfl rfl
  have a4 := hA 4 rfl rfl
  have a5 := hA 5 rfl rfl
  refine ⟨n, ch, ⟨h19, ?_, ?_⟩, ?_, ?_, ?_, ?_, ?_, ?_, ?_, ?_, ⟨?_, by omega⟩, ⟨⟨h70, ?_⟩, ?_, ?_⟩, ?_⟩
  · rw [e14]; exact hn
  · rw [hV 36 1 rfl rfl]; exact hn'
  · unfold IvR; rw [hV 36 6 rfl rfl, e15, hV 36 7 rfl rfl, e16, hV 36 8 rfl rfl, e17]; exact hR'
  · rw [a2, hA 37 rfl rfl]; exact hL
  · rw [a3, hA 38 rfl rfl]; exact hC'
  · rw [a4, hA 39 rfl rfl]; exact hP
  · rw [a5, hA 40 rfl rfl]; exact hAh
  · rw [hA 22 rfl rfl, hA 41 rfl rfl]; exact hW'
  · rw [hA 29 rfl rfl, hA 42 rfl rfl]; exact hX
  · rw [hV 33 3 rfl rfl, hV 36 12 rfl rfl, hA 34 rfl rfl, hA 43 rfl rfl]; exact hQ
  · rw [hV 1 8 rfl rfl]; exact hch1
  · rcases hsh with ⟨z1, z2⟩ | ⟨z1, z2⟩
    · rw [z1, z2, e14, e15, e16, e17, a2, a3, a4, a5]; exact t1
    · exact Or.inr ⟨ch, Nat.le_refl _, z1.trans hch1, fun _ => ⟨W, hW, hWc, hC, z2⟩⟩
  · rcases hta with ⟨z1, z2, z3, z4⟩ | ⟨z1, z2⟩
    · rw [z1, z2, z3, z4, e14, e15, e16, e17, a2, a3, a4, a5]; exact t2
    · exact Or.inr ⟨ch, Nat.le_refl _, z1.trans hch1, fun _ => ⟨W, hW, hWc, hC, z2⟩⟩
  · rcases hfi with ⟨z1, z2, z3⟩ | ⟨z1, z2⟩
    · rw [z1, z2, z3, e14, e15, e16, e17, a2, a3, a4, a5]; exact t3
    · exact Or.inr ⟨ch, Nat.le_refl _, z1.trans hch1, fun _ => ⟨W, hW, hWc, hC, z2⟩⟩
  · rcases hkn with z | ⟨z1, z2⟩
    · exact Or.inl z
    · exact Or.inr ⟨z1, W, hW, hWc, hR, z2⟩
theorem b_nf {a b : Bool} (h : (a || b) = false) : a = false ∧ b = false := by cases a <;> cases b <;> simp_all
/-- behind refresh and know -/
theorem InvP.after {c : Nat} {V A V1 A1 V2 A2 : zV} (hI : InvP c V A) {W : zW} (hW : zWok W) (hWc : zWc W) (hC : WC W V A) (hR : WR W V A) (g1 : sfr V V1) (g2 : sfa A A1) (g3 : V1 13 6 = V 1 8) (g4 : A1 7 0 = 0) (g5 : shOK W (zta A1)) (k1 : KF V1 A1 V2 A2) (k2 : V2 36 13 = 1) (k3 : KN0 W V2 A2) : InvP (c + 1) V2 A2 := by
  have v1 : ∀ k j, ¬ (k = 13 ∧ (j = 4 ∨ j = 5 ∨ j = 6)) → ¬ (k = 36 ∧ (j = 0 ∨ j = 13 ∨ j = 14 ∨ j = 15 ∨ j = 19 ∨ j = 21 ∨ j = 22 ∨ j = 23 ∨ j = 24 ∨ j = 25)) → V2 k j = V k j := fun k j z1 z2 => (k1.1 k j z2).trans (g1 k j z1)
  have v2 : ∀ k, ¬ ((7 ≤ k ∧ k ≤ 12) ∨ k = 14 ∨ k = 15) → ¬ (44 ≤ k ∧ k ≤ 47) → A2 k = A k := fun k z1 z2 => (k1.2 k z2).trans (g2 k z1)
  have hzta : zta A2 = zta A1 := by
    funext k
    unfold zta
    split <;> exact k1.2 _ (by omega)
  refine hI.upd (fun k j z1 z2 => v1 k j ?_ ?_) (fun k z1 z2 => v2 k ?_ ?_) hW hWc (hC.same (fun j => v1 1 j (by omega) (by omega)) (fun k hk => v2 k (by omega) (by omega))) (hR.same (fun j z1 z2 => v1 36 j (by omega) (by omega)) (fun k z1 z2 => v2 k (by omega) (by omega))) ((congrFun (k1.2 7 (by omega)) 0).trans g4) (Or.inr ⟨(k1.1 13 6 (by omega)).trans g3, by rw [hzta]; exact g5⟩) (Or.inl ⟨v1 16 5 (by omega) (by omega), v1 16 6 (by omega) (by omega), v1 16 7 (by omega) (by omega), v2 17 (by omega) (by omega)⟩) (Or.inl ⟨v1 19 5 (by omega) (by omega), v1 19 4 (by omega) (by omega), v2 20 (by omega) (by omega)⟩) (Or.inr ⟨k2, k3⟩)
  · rintro ⟨rfl, rfl | rfl | rfl⟩
    · exact absurd z1 (by decide)
    · exact absurd z1 (by decide)
    · exact absurd z2 (by decide)
  · rintro ⟨rfl, rfl | rfl | rfl | rfl | rfl | rfl | rfl | rfl | rfl | rfl⟩
    · exact absurd z1 (by decide)
    · exact absurd z2 (by decide)
    · exact absurd z2 (by decide)
    · exact absurd z2 (by decide)
    · exact absurd z2 (by decide)
    · exact absurd z1 (by decide)
    · exact absurd z1 (by decide)
    · exact absurd z1 (by decide)
    · exact absurd z1 (by decide)
    · exact absurd z1 (by decide)
  · intro z
    have : (zpA k) = true := by
      rcases z with z | z | z
      · obtain rfl | rfl | rfl | rfl | rfl | rfl : k = 7 ∨ k = 8 ∨ k = 9 ∨ k = 10 ∨ k = 11 ∨ k = 12 := by omega
        all_goals rfl
      · rw [z]; rfl
      · rw [z]; rfl
    rw [this] at z2; exact absurd z2 (by simp)
  · intro z
    obtain rfl | rfl | rfl | rfl : k = 44 ∨ k = 45 ∨ k = 46 ∨ k = 47 := by omega
    · exact absurd z2 (by decide)
    · exact absurd z2 (by decide)
    · exact absurd z2 (by decide)
    · exact absurd z1 (by decide)
theorem sf_R {W : zW} {V A V1 A1 : zV} (g1 : sfr V V1) (g2 : sfa A A1) (hR : WR W V A) : WR W V1 A1 := hR.same (fun j z1 z2 => g1 36 j (by omega)) (fun k z1 z2 => g2 k (by omega))
theorem sf_K {W : zW} {V A V1 A1 : zV} (g1 : sfr V V1) (g2 : sfa A A1) (hk : V 36 13 = 0 ∨ (V 36 13 = 1 ∧ KN0 W V A)) : V1 36 13 = 0 ∨ (V1 36 13 = 1 ∧ KN0 W V1 A1) := by
  unfold KN0 at hk ⊢
  rw [g1 36 13 (by omega), g1 36 14 (by omega), g1 36 15 (by omega), g1 36 19 (by omega), g2 44 (by omega), g2 45 (by omega), g2 46 (by omega)]
  exact hk
theorem pr_best : Pair SHp TAp FIp KNp Y_CW_best Y_Mo_best 30 50 [] := by
  intro c V A hc hI
  obtain ⟨W, hW, hWc, hC, hR, h70, hsh, hta, hfi, hkn⟩ := InvP.facts hI hc
  refine CQ.mono (c_CW_best V A hW hC h70 hsh) (fun r V1 A1 h => ?_)
  obtain ⟨rfl, g1, g2, g3, g4, g5⟩ := h
  refine CQ.mono (c_Mo_best _ _ hW (sf_R g1 g2 hR) (sf_K g1 g2 hkn)) (fun r' V2 A2 h2 => ?_)
  obtain ⟨rfl, k1, k2, k3⟩ := h2
  refine ⟨?_, InvP.after hI hW hWc hC hR g1 g2 g3 g4 g5 k1 k2 k3⟩
  rw [L0_sum hW]
  exact zEc_zEf (b := 88000) (by omega) (wP_B hW hW.m8 _)
theorem pr_many : Pair SHp TAp FIp KNp Y_CW_many Y_Mo_many 30 50 [] := by
  intro c V A hc hI
  obtain ⟨W, hW, hWc, hC, hR, h70, hsh, hta, hfi, hkn⟩ := InvP.facts hI hc
  refine CQ.mono (c_CW_many V A hW hC h70 hsh) (fun r V1 A1 h => ?_)
  obtain ⟨rfl, g1, g2, g3, g4, g5⟩ := h
  refine CQ.mono (c_Mo_many _ _ hW (sf_R g1 g2 hR) (sf_K g1 g2 hkn)) (fun r' V2 A2 h2 => ?_)
  obtain ⟨rfl, k1, k2, k3⟩ := h2
  refine ⟨?_, InvP.after hI hW hWc hC hR g1 g2 g3 g4 g5 k1 k2 k3⟩
  rw [L0_sum hW]
  rfl
theorem wo_eq {W : zW} (hW : zWok W) {l : Nat} (hl : l < W.n - 1) : lsum W (zov W l) (zHL W W.mo 0 0 [] 0) = sm (se (W.pr (l + 1))) (wP W W.mo (zdf (2 ^ (W.n - 1) - 1) (2 ^ l))) := by
  have h9 := hW.h9
  have hp := pw_le h9
  have h0 : 0 < 2 ^ (W.n - 1) := Nat.pos_of_ne_zero (by simp)
  rw [L0_sum hW]
  exact zPl_wo zMS_SR (zar W) (zbs W) (zos W) (zos_l hl) W.mo (2 ^ (W.n - 1) - 1) (by omega) (by rw [tb_all]; exact decide_eq_true hl)
theorem pr_without (v : Int32) : Pair SHp TAp FIp KNp Y_CW_without Y_Mo_without 30 50 [.int v] := by
  intro c V A hc hI
  obtain ⟨W, hW, hWc, hC, hR, h70, hsh, hta, hfi, hkn⟩ := InvP.facts hI hc
  have h9 := hW.h9
  refine CQ.mono (c_CW_without V A hW hC h70 hsh v) (fun r V1 A1 h => ?_)
  rcases h with ⟨q, rfl, rfl, rfl⟩ | ⟨l, hl, rfl, rfl, g1, g2, g3, g4, g5⟩
  · refine CQ.mono (c_Mo_without _ _ hW hR hkn v) (fun r' V2 A2 h2 => ?_)
    rcases h2 with ⟨-, rfl, rfl, rfl⟩ | ⟨l, hl, rfl, -⟩
    · exact ⟨rfl, hI.same (zFs_k (zFs_rf _)) (fun _ _ => rfl)⟩
    · exact absurd ⟨by rw [show (0 : Int32) = nI 0 from rfl]; exact nI_lt (by omega) (by omega), nI_lt (by omega) (by omega)⟩ q
  · refine CQ.mono (c_Mo_without _ _ hW (sf_R g1 g2 hR) (sf_K g1 g2 hkn) _) (fun r' V2 A2 h2 => ?_)
    rcases h2 with ⟨q, -⟩ | ⟨l', hl', e, rfl, k1, k2, k3⟩
    · exact absurd ⟨by rw [show (0 : Int32) = nI 0 from rfl]; exact nI_lt (by omega) (by omega), nI_lt (by omega) (by omega)⟩ q
    · have e2 : l' = l := by have := (nI_eq (by omega) (by omega)).mp e; omega
      subst e2
      refine ⟨?_, InvP.after hI hW hWc hC hR g1 g2 g3 g4 g5 k1 k2 k3⟩
      rw [wo_eq hW hl]
      exact zEc_zEf (b := 90000) (by omega) (bB_m (bB_e (hW.prB _)) (wP_B hW hW.m8 _))
