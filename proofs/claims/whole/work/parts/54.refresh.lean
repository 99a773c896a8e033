def sfr (V V1 : zV) : Prop := ∀ k j, ¬ (k = 13 ∧ (j = 4 ∨ j = 5 ∨ j = 6)) → V1 k j = V k j
def sfa (A A1 : zV) : Prop := ∀ k, ¬ ((7 ≤ k ∧ k ≤ 12) ∨ k = 14 ∨ k = 15) → A1 k = A k
def sf2 (A A1 : zV) : Prop := ∀ k, ¬ (k = 14 ∨ k = 15) → A1 k = A k
theorem sf2.up {A A1 : zV} (h : sf2 A A1) {k : Nat} (hk : k = 14 ∨ k = 15) (f : Nat → Int32) : sf2 A (za A1 k f) := fun j hj => by
  rw [za_eq, if_neg (fun z => hj (by rw [z]; exact hk)), h j hj]
theorem sfr.C {W : zW} {V V1 A A1 : zV} (h : sfr V V1) (h' : sfa A A1) (hC : WC W V A) : WC W V1 A1 := hC.same (fun j => h 1 j (by omega)) (fun k hk => h' k (by omega))
/-- a row of the shares -/
def shr (W : zW) (A : zV) (r S : Nat) : Prop := A 14 (r * 256 + S) = zEc (sc (wP W r S)) ∧ A 15 (r * 256 + S) = nI (sw (wP W r S))
theorem shr_w {W : zW} {A : zV} {r S : Nat} (h : shr W A r S) {r' S' : Nat} (hS : S < 256) (hS' : S' < 256) (hne : ¬ (r = r' ∧ S = S')) (x y : Int32) : shr W (za (za A 14 (upd (A 14) (r' * 256 + S') x)) 15 (upd (A 15) (r' * 256 + S') y)) r S :=
  ⟨(upd_ne _ _ (by omega)).trans h.1, (upd_ne _ _ (by omega)).trans h.2⟩
set_option maxRecDepth 100000 in
set_option maxHeartbeats 4000000 in
theorem c_Sha_refresh {W : zW} (V A : zV) (hW : zWok W) (hC : WC W V A) (h70 : A 7 0 = 0) (hsh : V 13 6 = V 1 8 → shOK W (zta A)) : CU Y_Sha_refresh 3 [.ref 13] V A (fun V' A' => sfr V V' ∧ sfa A A' ∧ V' 13 6 = V 1 8 ∧ A' 7 0 = 0 ∧ shOK W (zta A')) := by
  have h9 := hW.h9
  have hp := pw_le h9
  have hm8 := hW.m8
  have h0 : 0 < 2 ^ (W.n - 1) := Nat.pos_of_ne_zero (by simp)
  have hC0 : WC W (zv V 13 6 (V 1 8)) A := hC.same (fun j => by rw [zv_eq, if_neg (by omega)]) (fun _ _ => rfl)
  have hmain : ∀ Ac : zV, pfr A Ac → Ac 7 0 = 0 → (∀ S, S < 2 ^ (W.n - 1) → Ac 8 S = nI (zfS W S (W.n - 1))) → tb2 (2 ^ (W.n - 1) * 9) (wT W (2 ^ (W.n - 1) * 9)) (Ac 9) (Ac 10) → (∀ S, 1 ≤ S → S < 2 ^ (W.n - 1) → Ac 11 S = zEc (sc (wR W S)) ∧ Ac 12 S = nI (sw (wR W S))) → ∀ q3 : Value, q3.category = 1 → X Y_Sha_refresh (zrm 3) (0, fun _ => 0) (zFu 3 (fun V' A' => sfr V V' ∧ sfa A A' ∧ V' 13 6 = V 1 8 ∧ A' 7 0 = 0 ∧ shOK W (zta A'))) 43 [.ref 13, .int (nI (2 ^ (W.n - 1) - 1)), .int (nI 0), q3] [] (cells (zv V 13 6 (V 1 8)) Ac) 0 0 := by
    intro Ac hF h7 h8 ht hr
    have hCc : ∀ V1 A1, sf (zv V 13 6 (V 1 8)) V1 → sf2 Ac A1 → WC W V1 A1 := fun V1 A1 k1 k2 => (hF.C hC0).same (fun j => k1 1 j (by omega)) (fun k hk => k2 k (by omega))
    have hS1 : ∀ r, r ≤ W.mo → ∀ (V1 A1 : zV) (q : Value), q.category = 1 → sf (zv V 13 6 (V 1 8)) V1 → sf2 Ac A1 → (∀ r' S, r' ≤ r → S < 2 ^ (W.n - 1) → shr W A1 r' S) → X Y_Sha_refresh (zrm 3) (0, fun _ => 0) (zFu 3 (fun V' A' => sfr V V' ∧ sfa A A' ∧ V' 13 6 = V 1 8 ∧ A' 7 0 = 0 ∧ shOK W (zta A'))) 89 [.ref 13, .int (nI (2 ^ (W.n - 1) - 1)), .int (nI (r + 1)), q] [] (cells V1 A1) 0 0 := by
      refine z_down (fun V1 A1 q hq k1 k2 k3 => ?_) (fun r hr1 ih V1 A1 q hq k1 k2 k3 => ?_)
      · refine x_iload_n (pc := 89) d_Sha_refresh_89 rfl ?_
        refine x_aload_n (pc := 90) d_Sha_refresh_90 rfl ?_
        refine x_get (pc := 91) (j := 0) d_Sha_refresh_91 f_Sha_29 rfl rfl (Nat.le_of_ble_eq_true rfl) rfl rfl rfl ?_
        refine x_get (pc := 94) (j := 5) d_Sha_refresh_94 f_Sha_55 rfl rfl (Nat.le_of_ble_eq_true rfl) rfl rfl rfl ?_
        rw [(hCc V1 A1 k1 k2).mo]
        refine x_icmp_gt (pc := 97) (tgt := 164) d_Sha_refresh_97 (by decide) (fun h97 => ?_) (fun h => absurd (nI_lt (by omega) (by omega)) h)
        refine y_vret (pc := 164) d_Sha_refresh_164 rfl ?_
        refine ⟨fun k j z => ?_, fun k z => ?_, ?_, ?_, fun S hS => ?_, fun i hi => ?_, fun r S z1 z2 => k3 r S z1 z2⟩
        · rw [k1 k j (by omega), zv_eq, if_neg (by omega)]
        · rw [k2 k (by omega), hF k (by omega)]
        · rw [k1 13 6 (by omega)]; rfl
        · rw [k2 7 (by omega)]; exact h7
        · show A1 8 S = _
          rw [k2 8 (by omega)]; exact h8 S hS
        · show A1 9 i = _
          rw [k2 9 (by omega)]; exact (ht i hi).1
      · have hS2 : ∀ s, s ≤ 2 ^ (W.n - 1) → 1 ≤ s → ∀ (V1 A1 : zV), sf (zv V 13 6 (V 1 8)) V1 → sf2 Ac A1 → (∀ r' S, r' ≤ r → S < 2 ^ (W.n - 1) → shr W A1 r' S) → (∀ S, S < s → shr W A1 (r + 1) S) → X Y_Sha_refresh (zrm 3) (0, fun _ => 0) (zFu 3 (fun V' A' => sfr V V' ∧ sfa A A' ∧ V' 13 6 = V 1 8 ∧ A' 7 0 = 0 ∧ shOK W (zta A'))) 124 [.ref 13, .int (nI (2 ^ (W.n - 1) - 1)), .int (nI (r + 1)), .int (nI s)] [] (cells V1 A1) 0 0 := by
          refine z_down (fun hs1 V1 A1 k1 k2 k3 k4 => ?_) (fun s hs ihs hs1 V1 A1 k1 k2 k3 k4 => ?_)
          · refine x_iload_n (pc := 124) d_Sha_refresh_124 rfl ?_
            refine x_iload_n (pc := 125) d_Sha_refresh_125 rfl ?_
            refine x_icmp_gt (pc := 126) (tgt := 158) d_Sha_refresh_126 (by decide) (fun h126 => ?_) (fun h => absurd (nI_lt (by omega) (by omega)) h)
            refine y_inc2 (pc := 158) (v := 1) d_Sha_refresh_158 (by decide) ?_
            refine x_goto (pc := 161) (tgt := 89) d_Sha_refresh_161 (by decide) ?_
            rw [show nI (r + 1) + 1 = nI (r + 1 + 1) from (nI_succ (r + 1)).symm]
            refine ih V1 A1 _ rfl k1 k2 (fun r' S z1 z2 => ?_)
            by_cases e : r' = r + 1
            · rw [e]; exact k4 S z2
            · exact k3 r' S (by omega) z2
          · have hs2 : s < 256 := by omega
            have hfin : ∀ (V2 A2 : zV), sf (zv V 13 6 (V 1 8)) V2 → A2 = za (za A1 14 (upd (A1 14) ((r + 1) * 256 + s) (zEc (sc (wP W (r + 1) s))))) 15 (upd (A1 15) ((r + 1) * 256 + s) (nI (sw (wP W (r + 1) s)))) → X Y_Sha_refresh (zrm 3) (0, fun _ => 0) (zFu 3 (fun V' A' => sfr V V' ∧ sfa A A' ∧ V' 13 6 = V 1 8 ∧ A' 7 0 = 0 ∧ shOK W (zta A'))) 124 [.ref 13, .int (nI (2 ^ (W.n - 1) - 1)), .int (nI (r + 1)), .int (nI (s + 1))] [] (cells V2 A2) 0 0 := by
              intro V2 A2 k5 e2
              subst e2
              refine ihs (by omega) V2 _ k5 ((k2.up (Or.inl rfl) _).up (Or.inr rfl) _) (fun r' S z1 z2 => shr_w (k3 r' S z1 z2) (by omega) hs2 (by omega) _ _) (fun S hS => ?_)
              by_cases e : S = s
              · rw [e]; exact ⟨upd_at _ _ _, upd_at _ _ _⟩
              · exact shr_w (k4 S (by omega)) (by omega) hs2 (by omega) _ _
            refine x_iload_n (pc := 124) d_Sha_refresh_124 rfl ?_
            refine x_iload_n (pc := 125) d_Sha_refresh_125 rfl ?_
            refine x_icmp_gt (pc := 126) (tgt := 158) d_Sha_refresh_126 (by decide) (fun h => absurd h (nI_nlt (by omega) (by omega))) (fun h126 => ?_)
            refine x_iload_n (pc := 129) d_Sha_refresh_129 rfl ?_
            refine y_fS (pc := 130) (c_JI_bitCount _ _ _) k_JI_bitCount d_Sha_refresh_130 m_Sha_58 (by decide) rfl p_JI_bitCount (K := ?_)
            refine x_iload_n (pc := 133) d_Sha_refresh_133 rfl ?_
            rw [zbc_k s hs2]
            refine x_icmp_ge (pc := 134) (tgt := 146) d_Sha_refresh_134 (by decide) (fun h134 => ?_) (fun h134 => ?_)
            · refine x_aload_n (pc := 146) d_Sha_refresh_146 rfl ?_
              refine x_iload_n (pc := 147) d_Sha_refresh_147 rfl ?_
              refine x_iload_n (pc := 148) d_Sha_refresh_148 rfl ?_
              refine y_callVu (pc := 149) (c_Sha_share _ _ hW r s (by omega) (by omega) hs (fun S z1 z2 => by rw [k2 11 (by omega), k2 12 (by omega)]; exact hr S z1 z2) (fun S z => by have y := (k3 0 S (Nat.zero_le _) z).1; rw [Nat.zero_mul, Nat.zero_add] at y; exact y) (fun S z => k3 r S (Nat.le_refl _) z) (fun S z => k4 S z)) k_Sha_share d_Sha_refresh_149 m_Sha_67 (by decide) rfl rfl rfl rfl p_Sha_share (K := fun V2 A2 hq => ?_)
              obtain ⟨hsf, rfl⟩ := hq
              refine y_inc3 (pc := 152) (v := 1) d_Sha_refresh_152 (by decide) ?_
              refine x_goto (pc := 155) (tgt := 124) d_Sha_refresh_155 (by decide) ?_
              rw [show nI s + 1 = nI (s + 1) from (nI_succ s).symm]
              exact hfin V2 _ (sf_tr k1 hsf) rfl
            · refine x_aload_n (pc := 137) d_Sha_refresh_137 rfl ?_
              refine x_iload_n (pc := 138) d_Sha_refresh_138 rfl ?_
              refine x_iload_n (pc := 139) d_Sha_refresh_139 rfl ?_
              refine y_callVu (pc := 140) (c_Sha_copyShare _ _ r s (by omega) hs2) k_Sha_copyShare d_Sha_refresh_140 m_Sha_63 (by decide) rfl rfl rfl rfl p_Sha_copyShare (K := fun V2 A2 hq => ?_)
              obtain ⟨rfl, rfl⟩ := hq
              refine x_goto (pc := 143) (tgt := 152) d_Sha_refresh_143 (by decide) ?_
              refine y_inc3 (pc := 152) (v := 1) d_Sha_refresh_152 (by decide) ?_
              refine x_goto (pc := 155) (tgt := 124) d_Sha_refresh_155 (by decide) ?_
              rw [show nI s + 1 = nI (s + 1) from (nI_succ s).symm]
              refine hfin _ _ k1 ?_
              have hmore := wP_more (W := W) h9 (r + 1) s hs2 (by rcases Nat.lt_or_ge (zpk s 8) (r + 1) with z | z; exact z; exact absurd (nI_le z (by have := zpk_le s 8; omega)) h134)
              have z := k3 r s (Nat.le_refl _) hs
              rw [show r + 1 - 1 = r from rfl] at hmore
              rw [hmore, ← z.1, ← z.2]
        have er : nI (r + 1) * 256 = nI ((r + 1) * 256 + 0) := by rw [show (256 : Int32) = nI 256 from rfl, pk_mul]; rfl
        have cr : (nI ((r + 1) * 256 + 0)).toNatClampNeg = (r + 1) * 256 + 0 := nI_clamp (by omega)
        refine x_iload_n (pc := 89) d_Sha_refresh_89 rfl ?_
        refine x_aload_n (pc := 90) d_Sha_refresh_90 rfl ?_
        refine x_get (pc := 91) (j := 0) d_Sha_refresh_91 f_Sha_29 rfl rfl (Nat.le_of_ble_eq_true rfl) rfl rfl rfl ?_
        refine x_get (pc := 94) (j := 5) d_Sha_refresh_94 f_Sha_55 rfl rfl (Nat.le_of_ble_eq_true rfl) rfl rfl rfl ?_
        rw [(hCc V1 A1 k1 k2).mo]
        refine x_icmp_gt (pc := 97) (tgt := 164) d_Sha_refresh_97 (by decide) (fun h => absurd h (nI_nlt (by omega) (by omega))) (fun h97 => ?_)
        refine x_aload_n (pc := 100) d_Sha_refresh_100 rfl ?_
        refine x_get (pc := 101) (j := 2) d_Sha_refresh_101 f_Sha_9 rfl rfl (Nat.le_of_ble_eq_true rfl) rfl rfl rfl ?_
        refine x_iload_n (pc := 104) d_Sha_refresh_104 rfl ?_
        refine x_sipush (pc := 105) (v := 256) d_Sha_refresh_105 (by decide) ?_
        refine x_imul (pc := 108) d_Sha_refresh_108 ?_
        rw [er]
        refine x_iconst (pc := 109) (v := 0) d_Sha_refresh_109 (by decide) ?_
        refine y_iast (pc := 110) d_Sha_refresh_110 rfl (fun _ => rfl) (vp_in_nI (by omega) (by decide)) ?_
        refine x_aload_n (pc := 111) d_Sha_refresh_111 rfl ?_
        refine x_get (pc := 112) (j := 3) d_Sha_refresh_112 f_Sha_15 rfl rfl (Nat.le_of_ble_eq_true rfl) rfl rfl rfl ?_
        refine x_iload_n (pc := 115) d_Sha_refresh_115 rfl ?_
        refine x_sipush (pc := 116) (v := 256) d_Sha_refresh_116 (by decide) ?_
        refine x_imul (pc := 119) d_Sha_refresh_119 ?_
        rw [er, cr]
        refine x_iconst (pc := 120) (v := 1) d_Sha_refresh_120 (by decide) ?_
        refine y_iast (pc := 121) d_Sha_refresh_121 rfl (fun _ => rfl) (vp_in_nI (by omega) (by decide)) ?_
        refine x_iconst (pc := 122) (v := 1) d_Sha_refresh_122 (by decide) ?_
        refine y_ist3 (pc := 123) d_Sha_refresh_123 ?_
        rw [cr]
        refine hS2 1 (by omega) (Nat.le_refl _) V1 _ k1 ((k2.up (Or.inl rfl) _).up (Or.inr rfl) _) (fun r' S z1 z2 => shr_w (k3 r' S z1 z2) (by omega) (by omega) (by omega) _ _) (fun S hS => ?_)
        rw [show S = 0 by omega]
        unfold shr
        rw [wP_e h9]
        exact ⟨upd_at _ _ _, upd_at _ _ _⟩
    have hS0 : ∀ s, s ≤ 2 ^ (W.n - 1) → ∀ (A1 : zV) (q : Value), q.category = 1 → sf2 Ac A1 → (∀ S, S < s → shr W A1 0 S) → X Y_Sha_refresh (zrm 3) (0, fun _ => 0) (zFu 3 (fun V' A' => sfr V V' ∧ sfa A A' ∧ V' 13 6 = V 1 8 ∧ A' 7 0 = 0 ∧ shOK W (zta A'))) 43 [.ref 13, .int (nI (2 ^ (W.n - 1) - 1)), .int (nI s), q] [] (cells (zv V 13 6 (V 1 8)) A1) 0 0 := by
      refine z_down (fun A1 q hq k2 k3 => ?_) (fun s hs ih A1 q hq k2 k3 => ?_)
      · refine x_iload_n (pc := 43) d_Sha_refresh_43 rfl ?_
        refine x_iload_n (pc := 44) d_Sha_refresh_44 rfl ?_
        refine x_icmp_gt (pc := 45) (tgt := 87) d_Sha_refresh_45 (by decide) (fun h45 => ?_) (fun h => absurd (nI_lt (by omega) (by omega)) h)
        refine x_iconst (pc := 87) (v := 1) d_Sha_refresh_87 (by decide) ?_
        refine y_ist2 (pc := 88) d_Sha_refresh_88 ?_
        exact hS1 0 (Nat.zero_le _) _ A1 _ hq (sf_rf _) k2 (fun r' S z1 z2 => by rw [show r' = 0 by omega]; exact k3 S z2)
      · have cs : (nI s).toNatClampNeg = s := nI_clamp (by omega)
        have hso : zOt W s = sc (zos W s) := (sc_se _).symm
        have hsw1 : sc (zos W s) = none → sw (zos W s) = 0 := fun z => by rw [sc_n.mp z]; rfl
        have hsw2 : ¬ sc (zos W s) = none → sw (zos W s) = 1 := fun z => by
          unfold zos at z ⊢
          cases hz : zOt W s with
          | none => rw [hz] at z; exact absurd rfl z
          | some y => rfl
        have hfin : ∀ y, y = nI (sw (zos W s)) → X Y_Sha_refresh (zrm 3) (0, fun _ => 0) (zFu 3 (fun V' A' => sfr V V' ∧ sfa A A' ∧ V' 13 6 = V 1 8 ∧ A' 7 0 = 0 ∧ shOK W (zta A'))) 43 [.ref 13, .int (nI (2 ^ (W.n - 1) - 1)), .int (nI (s + 1)), .int (zEc (sc (zos W s)))] [] (cells (zv V 13 6 (V 1 8)) (za (za A1 14 (upd (A1 14) s (zEc (sc (zos W s))))) 15 (upd (A1 15) s y))) 0 0 := by
          intro y hy
          refine ih _ _ rfl ((k2.up (Or.inl rfl) _).up (Or.inr rfl) _) (fun S hS => ?_)
          have hz := k3 S
          unfold shr at hz ⊢
          rw [wP_0, Nat.zero_mul, Nat.zero_add] at hz ⊢
          by_cases e : S = s
          · rw [e, ← hy]; exact ⟨upd_at _ _ _, upd_at _ _ _⟩
          · have z := hz (by omega)
            exact ⟨(upd_ne _ _ e).trans z.1, (upd_ne _ _ e).trans z.2⟩
        refine x_iload_n (pc := 43) d_Sha_refresh_43 rfl ?_
        refine x_iload_n (pc := 44) d_Sha_refresh_44 rfl ?_
        refine x_icmp_gt (pc := 45) (tgt := 87) d_Sha_refresh_45 (by decide) (fun h => absurd h (nI_nlt (by omega) (by omega))) (fun h45 => ?_)
        refine x_aload_n (pc := 48) d_Sha_refresh_48 rfl ?_
        refine x_get (pc := 49) (j := 0) d_Sha_refresh_49 f_Sha_29 rfl rfl (Nat.le_of_ble_eq_true rfl) rfl rfl rfl ?_
        refine x_iload_n (pc := 52) d_Sha_refresh_52 rfl ?_
        refine y_fV (pc := 53) (w_costOut _ _ s hW (hCc _ A1 (sf_rf _) k2) (by omega)) k_Net_costOut d_Sha_refresh_53 m_Sha_51 (by decide) rfl rfl rfl rfl p_Net_costOut (K := ?_)
        rw [hso]
        refine y_ist3 (pc := 56) d_Sha_refresh_56 ?_
        refine x_aload_n (pc := 57) d_Sha_refresh_57 rfl ?_
        refine x_get (pc := 58) (j := 2) d_Sha_refresh_58 f_Sha_9 rfl rfl (Nat.le_of_ble_eq_true rfl) rfl rfl rfl ?_
        refine x_iload_n (pc := 61) d_Sha_refresh_61 rfl ?_
        refine x_iload_n (pc := 62) d_Sha_refresh_62 rfl ?_
        refine y_iast (pc := 63) d_Sha_refresh_63 rfl (fun _ => rfl) (vp_in_nI (by omega) (by decide)) ?_
        refine x_aload_n (pc := 64) d_Sha_refresh_64 rfl ?_
        refine x_get (pc := 65) (j := 3) d_Sha_refresh_65 f_Sha_15 rfl rfl (Nat.le_of_ble_eq_true rfl) rfl rfl rfl ?_
        refine x_iload_n (pc := 68) d_Sha_refresh_68 rfl ?_
        refine x_iload_n (pc := 69) d_Sha_refresh_69 rfl ?_
        refine x_ldc (pc := 70) (v := 1000000000) d_Sha_refresh_70 i_Sha_18 ?_
        rw [cs]
        refine x_icmp_ne (pc := 72) (tgt := 79) d_Sha_refresh_72 (by decide) (fun h72 => ?_) (fun h72 => ?_)
        · refine x_iconst (pc := 79) (v := 1) d_Sha_refresh_79 (by decide) ?_
          refine y_iast (pc := 80) d_Sha_refresh_80 rfl (fun _ => rfl) (vp_in_nI (by omega) (by decide)) ?_
          refine y_inc2 (pc := 81) (v := 1) d_Sha_refresh_81 (by decide) ?_
          refine x_goto (pc := 84) (tgt := 43) d_Sha_refresh_84 (by decide) ?_
          rw [cs, show nI s + 1 = nI (s + 1) from (nI_succ s).symm]
          exact hfin _ (by rw [hsw2 (fun z => h72 (by rw [z]; rfl))]; rfl)
        · refine x_iconst (pc := 75) (v := 0) d_Sha_refresh_75 (by decide) ?_
          refine x_goto (pc := 76) (tgt := 80) d_Sha_refresh_76 (by decide) ?_
          refine y_iast (pc := 80) d_Sha_refresh_80 rfl (fun _ => rfl) (vp_in_nI (by omega) (by decide)) ?_
          refine y_inc2 (pc := 81) (v := 1) d_Sha_refresh_81 (by decide) ?_
          refine x_goto (pc := 84) (tgt := 43) d_Sha_refresh_84 (by decide) ?_
          rw [cs, show nI s + 1 = nI (s + 1) from (nI_succ s).symm]
          exact hfin _ (by rw [hsw1 ((zEc_no (b := 16000) (by omega) (zos_B hW s)).mp h72)]; rfl)
    intro q3 hq3
    exact hS0 0 (Nat.zero_le _) Ac _ hq3 (fun _ _ => rfl) (fun S hS => absurd hS (Nat.not_lt_zero S))
  refine CU.of (lv := [.ref 13, zu, zu, zu]) k_Sha_refresh.1 rfl (by decide) rfl rfl (Nat.le_of_ble_eq_true rfl) ?_
  refine x_aload_n (pc := 0) d_Sha_refresh_0 rfl ?_
  refine x_get (pc := 1) (j := 6) d_Sha_refresh_1 f_Sha_26 rfl rfl (Nat.le_of_ble_eq_true rfl) rfl rfl rfl ?_
  refine x_aload_n (pc := 4) d_Sha_refresh_4 rfl ?_
  refine x_get (pc := 5) (j := 0) d_Sha_refresh_5 f_Sha_29 rfl rfl (Nat.le_of_ble_eq_true rfl) rfl rfl rfl ?_
  refine x_get (pc := 8) (j := 8) d_Sha_refresh_8 f_Sha_37 rfl rfl (Nat.le_of_ble_eq_true rfl) rfl rfl rfl ?_
  refine x_icmp_ne (pc := 11) (tgt := 15) d_Sha_refresh_11 (by decide) (fun h11 => ?_) (fun h11 => ?_)
  · refine x_aload_n (pc := 15) d_Sha_refresh_15 rfl ?_
    refine x_aload_n (pc := 16) d_Sha_refresh_16 rfl ?_
    refine x_get (pc := 17) (j := 0) d_Sha_refresh_17 f_Sha_29 rfl rfl (Nat.le_of_ble_eq_true rfl) rfl rfl rfl ?_
    refine x_get (pc := 20) (j := 8) d_Sha_refresh_20 f_Sha_37 rfl rfl (Nat.le_of_ble_eq_true rfl) rfl rfl rfl ?_
    refine y_put (pc := 23) (j := 6) d_Sha_refresh_23 f_Sha_26 rfl rfl (Nat.le_of_ble_eq_true rfl) rfl (Nat.le_of_ble_eq_true rfl) rfl rfl (fun _ => rfl) ?_
    refine x_aload_n (pc := 26) d_Sha_refresh_26 rfl ?_
    refine x_get (pc := 27) (j := 1) d_Sha_refresh_27 f_Sha_33 rfl rfl (Nat.le_of_ble_eq_true rfl) rfl rfl rfl ?_
    refine y_callVu (pc := 30) (c_Pat_compute _ _ hW hC0 h70) k_Pat_compute d_Sha_refresh_30 m_Sha_42 (by decide) rfl rfl rfl rfl p_Pat_compute (K := fun V2 A2 hq => ?_)
    obtain ⟨rfl, g1, g2, g3, g4, g5⟩ := hq
    refine x_aload_n (pc := 33) d_Sha_refresh_33 rfl ?_
    refine x_get (pc := 34) (j := 0) d_Sha_refresh_34 f_Sha_29 rfl rfl (Nat.le_of_ble_eq_true rfl) rfl rfl rfl ?_
    refine y_fV (pc := 37) (w_allPlaces _ _ hW (g1.C hC0)) k_Net_allPlaces d_Sha_refresh_37 m_Sha_47 (by decide) rfl rfl rfl rfl p_Net_allPlaces (K := ?_)
    refine y_ist1 (pc := 40) d_Sha_refresh_40 ?_
    refine x_iconst (pc := 41) (v := 0) d_Sha_refresh_41 (by decide) ?_
    refine y_ist2 (pc := 42) d_Sha_refresh_42 ?_
    exact hmain A2 g1 g2 g3 g4 g5 _ rfl
  · refine y_vret (pc := 14) d_Sha_refresh_14 rfl ?_
    exact ⟨fun _ _ _ => rfl, fun _ _ => rfl, h11, h70, hsh h11⟩
set_option maxRecDepth 100000 in
set_option maxHeartbeats 4000000 in
theorem c_Sha_leastCost {W : zW} (V A : zV) (hW : zWok W) (hC : WC W V A) (hsh : shOK W (zta A)) : CQ Y_Sha_leastCost 1 [.ref 13] V A (fun r V' A' => r = zEc (sc (wP W W.mo (2 ^ (W.n - 1) - 1))) ∧ V' = V ∧ A' = A) := by
  have h9 := hW.h9
  have hp := pw_le h9
  have hm8 := hW.m8
  have h0 : 0 < 2 ^ (W.n - 1) := Nat.pos_of_ne_zero (by simp)
  have e1 : nI W.mo * 256 + nI (2 ^ (W.n - 1) - 1) = nI (W.mo * 256 + (2 ^ (W.n - 1) - 1)) := by rw [show (256 : Int32) = nI 256 from rfl, pk_mul, nI_add]
  have c1 : (nI (W.mo * 256 + (2 ^ (W.n - 1) - 1))).toNatClampNeg = W.mo * 256 + (2 ^ (W.n - 1) - 1) := nI_clamp (by omega)
  have hz := hsh.2.2 W.mo (2 ^ (W.n - 1) - 1) (Nat.le_refl _) (by omega)
  refine CQ.of (lv := [.ref 13]) k_Sha_leastCost.1 rfl (by decide) rfl rfl (Nat.le_of_ble_eq_true rfl) ?_
  refine x_aload_n (pc := 0) d_Sha_leastCost_0 rfl ?_
  refine x_get (pc := 1) (j := 2) d_Sha_leastCost_1 f_Sha_9 rfl rfl (Nat.le_of_ble_eq_true rfl) rfl rfl rfl ?_
  refine x_aload_n (pc := 4) d_Sha_leastCost_4 rfl ?_
  refine x_get (pc := 5) (j := 0) d_Sha_leastCost_5 f_Sha_29 rfl rfl (Nat.le_of_ble_eq_true rfl) rfl rfl rfl ?_
  refine x_get (pc := 8) (j := 5) d_Sha_leastCost_8 f_Sha_55 rfl rfl (Nat.le_of_ble_eq_true rfl) rfl rfl rfl ?_
  rw [hC.mo]
  refine x_sipush (pc := 11) (v := 256) d_Sha_leastCost_11 (by decide) ?_
  refine x_imul (pc := 14) d_Sha_leastCost_14 ?_
  refine x_aload_n (pc := 15) d_Sha_leastCost_15 rfl ?_
  refine x_get (pc := 16) (j := 0) d_Sha_leastCost_16 f_Sha_29 rfl rfl (Nat.le_of_ble_eq_true rfl) rfl rfl rfl ?_
  refine y_fV (pc := 19) (w_allPlaces _ _ hW hC) k_Net_allPlaces d_Sha_leastCost_19 m_Sha_47 (by decide) rfl rfl rfl rfl p_Net_allPlaces (K := ?_)
  refine x_iadd (pc := 22) d_Sha_leastCost_22 ?_
  rw [e1]
  refine x_iald (pc := 23) d_Sha_leastCost_23 rfl (vp_in_nI (by omega) (by decide)) ?_
  refine y_iret (pc := 24) d_Sha_leastCost_24 rfl ?_
  rw [c1]
  exact ⟨hz.1, rfl, rfl⟩
set_option maxRecDepth 100000 in
set_option maxHeartbeats 4000000 in
theorem c_Sha_leastWays {W : zW} (V A : zV) (hW : zWok W) (hC : WC W V A) (hsh : shOK W (zta A)) : CQ Y_Sha_leastWays 1 [.ref 13] V A (fun r V' A' => r = nI (sw (wP W W.mo (2 ^ (W.n - 1) - 1))) ∧ V' = V ∧ A' = A) := by
  have h9 := hW.h9
  have hp := pw_le h9
  have hm8 := hW.m8
  have h0 : 0 < 2 ^ (W.n - 1) := Nat.pos_of_ne_zero (by simp)
  have e1 : nI W.mo * 256 + nI (2 ^ (W.n - 1) - 1) = nI (W.mo * 256 + (2 ^ (W.n - 1) - 1)) := by rw [show (256 : Int32) = nI 256 from rfl, pk_mul, nI_add]
  have c1 : (nI (W.mo * 256 + (2 ^ (W.n - 1) - 1))).toNatClampNeg = W.mo * 256 + (2 ^ (W.n - 1) - 1) := nI_clamp (by omega)
  have hz := hsh.2.2 W.mo (2 ^ (W.n - 1) - 1) (Nat.le_refl _) (by omega)
  refine CQ.of (lv := [.ref 13]) k_Sha_leastWays.1 rfl (by decide) rfl rfl (Nat.le_of_ble_eq_true rfl) ?_
  refine x_aload_n (pc := 0) d_Sha_leastWays_0 rfl ?_
  refine x_get (pc := 1) (j := 3) d_Sha_leastWays_1 f_Sha_15 rfl rfl (Nat.le_of_ble_eq_true rfl) rfl rfl rfl ?_
  refine x_aload_n (pc := 4) d_Sha_leastWays_4 rfl ?_
  refine x_get (pc := 5) (j := 0) d_Sha_leastWays_5 f_Sha_29 rfl rfl (Nat.le_of_ble_eq_true rfl) rfl rfl rfl ?_
  refine x_get (pc := 8) (j := 5) d_Sha_leastWays_8 f_Sha_55 rfl rfl (Nat.le_of_ble_eq_true rfl) rfl rfl rfl ?_
  rw [hC.mo]
  refine x_sipush (pc := 11) (v := 256) d_Sha_leastWays_11 (by decide) ?_
  refine x_imul (pc := 14) d_Sha_leastWays_14 ?_
  refine x_aload_n (pc := 15) d_Sha_leastWays_15 rfl ?_
  refine x_get (pc := 16) (j := 0) d_Sha_leastWays_16 f_Sha_29 rfl rfl (Nat.le_of_ble_eq_true rfl) rfl rfl rfl ?_
  refine y_fV (pc := 19) (w_allPlaces _ _ hW hC) k_Net_allPlaces d_Sha_leastWays_19 m_Sha_47 (by decide) rfl rfl rfl rfl p_Net_allPlaces (K := ?_)
  refine x_iadd (pc := 22) d_Sha_leastWays_22 ?_
  rw [e1]
  refine x_iald (pc := 23) d_Sha_leastWays_23 rfl (vp_in_nI (by omega) (by decide)) ?_
  refine y_iret (pc := 24) d_Sha_leastWays_24 rfl ?_
  rw [c1]
  exact ⟨hz.2, rfl, rfl⟩
set_option maxRecDepth 100000 in
set_option maxHeartbeats 4000000 in
theorem c_Sha_leastLeavingOut {W : zW} (V A : zV) (hW : zWok W) (hC : WC W V A) (l : Nat) (hl : l < W.n - 1) (hsh : shOK W (zta A)) : CQ Y_Sha_leastLeavingOut 1 [.ref 13, .int (nI (l + 1))] V A (fun r V' A' => r = zEc (sc (sm (se (W.pr (l + 1))) (wP W W.mo (zdf (2 ^ (W.n - 1) - 1) (2 ^ l))))) ∧ V' = V ∧ A' = A) := by
  have h9 := hW.h9
  have hp := pw_le h9
  have hm8 := hW.m8
  have h0 : 0 < 2 ^ (W.n - 1) := Nat.pos_of_ne_zero (by simp)
  have h2l : 2 ^ l < 2 ^ (W.n - 1) := Nat.pow_lt_pow_right (by decide) hl
  have hd : zdf (2 ^ (W.n - 1) - 1) (2 ^ l) < 2 ^ (W.n - 1) := Nat.lt_of_le_of_lt Nat.and_le_left (by omega)
  have e0 : nI (2 ^ (W.n - 1) - 1) &&& (nI (2 ^ l) ^^^ (-1)) = nI (zdf (2 ^ (W.n - 1) - 1) (2 ^ l)) := zz_not (by omega)
  have e1 : nI W.mo * 256 + nI (zdf (2 ^ (W.n - 1) - 1) (2 ^ l)) = nI (W.mo * 256 + zdf (2 ^ (W.n - 1) - 1) (2 ^ l)) := by rw [show (256 : Int32) = nI 256 from rfl, pk_mul, nI_add]
  have c1 : (nI (W.mo * 256 + zdf (2 ^ (W.n - 1) - 1) (2 ^ l))).toNatClampNeg = W.mo * 256 + zdf (2 ^ (W.n - 1) - 1) (2 ^ l) := nI_clamp (by omega)
  have cl : (nI (2 ^ l)).toNatClampNeg = 2 ^ l := nI_clamp (by omega)
  have hz : A 14 (W.mo * 256 + zdf (2 ^ (W.n - 1) - 1) (2 ^ l)) = _ := (hsh.2.2 W.mo _ (Nat.le_refl _) hd).1
  have hy : A 14 (0 * 256 + 2 ^ l) = _ := (hsh.2.2 0 (2 ^ l) (Nat.zero_le _) h2l).1
  rw [wP_0, zos_2l hl (by omega), sc_se, Nat.zero_mul, Nat.zero_add] at hy
  refine CQ.of (lv := [.ref 13, .int (nI (l + 1))]) k_Sha_leastLeavingOut.1 rfl (by decide) rfl rfl (Nat.le_of_ble_eq_true rfl) ?_
  refine x_aload_n (pc := 0) d_Sha_leastLeavingOut_0 rfl ?_
  refine x_get (pc := 1) (j := 2) d_Sha_leastLeavingOut_1 f_Sha_9 rfl rfl (Nat.le_of_ble_eq_true rfl) rfl rfl rfl ?_
  refine x_iload_n (pc := 4) d_Sha_leastLeavingOut_4 rfl ?_
  refine y_fN (pc := 5) (w_bit _ _ (l + 1) (by omega) (by omega)) k_CW_bit d_Sha_leastLeavingOut_5 n_Sha_70 (by decide) rfl p_CW_bit (K := ?_)
  rw [show l + 1 - 1 = l from rfl]
  refine x_iald (pc := 8) d_Sha_leastLeavingOut_8 rfl (vp_in_nI (by omega) (by decide)) ?_
  refine x_aload_n (pc := 9) d_Sha_leastLeavingOut_9 rfl ?_
  refine x_get (pc := 10) (j := 2) d_Sha_leastLeavingOut_10 f_Sha_9 rfl rfl (Nat.le_of_ble_eq_true rfl) rfl rfl rfl ?_
  refine x_aload_n (pc := 13) d_Sha_leastLeavingOut_13 rfl ?_
  refine x_get (pc := 14) (j := 0) d_Sha_leastLeavingOut_14 f_Sha_29 rfl rfl (Nat.le_of_ble_eq_true rfl) rfl rfl rfl ?_
  refine x_get (pc := 17) (j := 5) d_Sha_leastLeavingOut_17 f_Sha_55 rfl rfl (Nat.le_of_ble_eq_true rfl) rfl rfl rfl ?_
  rw [cl, hy, hC.mo]
  refine x_sipush (pc := 20) (v := 256) d_Sha_leastLeavingOut_20 (by decide) ?_
  refine x_imul (pc := 23) d_Sha_leastLeavingOut_23 ?_
  refine x_aload_n (pc := 24) d_Sha_leastLeavingOut_24 rfl ?_
  refine x_get (pc := 25) (j := 0) d_Sha_leastLeavingOut_25 f_Sha_29 rfl rfl (Nat.le_of_ble_eq_true rfl) rfl rfl rfl ?_
  refine y_fV (pc := 28) (w_allPlaces _ _ hW hC) k_Net_allPlaces d_Sha_leastLeavingOut_28 m_Sha_47 (by decide) rfl rfl rfl rfl p_Net_allPlaces (K := ?_)
  refine x_iload_n (pc := 31) d_Sha_leastLeavingOut_31 rfl ?_
  refine y_fN (pc := 32) (w_bit _ _ (l + 1) (by omega) (by omega)) k_CW_bit d_Sha_leastLeavingOut_32 n_Sha_70 (by decide) rfl p_CW_bit (K := ?_)
  refine x_iconst (pc := 35) (v := (-1)) d_Sha_leastLeavingOut_35 (by decide) ?_
  refine x_ixor (pc := 36) d_Sha_leastLeavingOut_36 ?_
  refine x_iand (pc := 37) d_Sha_leastLeavingOut_37 ?_
  refine x_iadd (pc := 38) d_Sha_leastLeavingOut_38 ?_
  rw [show l + 1 - 1 = l from rfl, e0, e1]
  refine x_iald (pc := 39) d_Sha_leastLeavingOut_39 rfl (vp_in_nI (by omega) (by decide)) ?_
  rw [c1, hz]
  refine y_fN (pc := 40) (w_sum _ _ (oB_mono (hW.prB _) (by omega)) (oB_mono (wP_B hW hm8 _) (by omega))) k_CW_sum d_Sha_leastLeavingOut_40 n_Sha_73 (by decide) rfl p_CW_sum (K := ?_)
  refine y_iret (pc := 43) d_Sha_leastLeavingOut_43 rfl ?_
  exact ⟨by rw [sc_sm, sc_se], rfl, rfl⟩
theorem zEc_or {b : Int} {o : Option Int} (hb : b < 1000000000) (h : oB b o) : (if zEc o = 1000000000 then (-1000000) else zEc o) = (if o = none then (-1000000) else zEc o) := by
  by_cases hz : o = none
  · rw [if_pos hz, if_pos ((zEc_no hb h).mpr hz)]
  · rw [if_neg hz, if_neg (fun q => hz ((zEc_no hb h).mp q))]
set_option maxRecDepth 100000 in
set_option maxHeartbeats 4000000 in
theorem c_CW_best {W : zW} (V A : zV) (hW : zWok W) (hC : WC W V A) (h70 : A 7 0 = 0) (hsh : V 13 6 = V 1 8 → shOK W (zta A)) : CQ Y_CW_best 30 [.ref 0] V A (fun r V' A' => r = (if sc (wP W W.mo (2 ^ (W.n - 1) - 1)) = none then (-1000000) else zEc (sc (wP W W.mo (2 ^ (W.n - 1) - 1)))) ∧ sfr V V' ∧ sfa A A' ∧ V' 13 6 = V 1 8 ∧ A' 7 0 = 0 ∧ shOK W (zta A')) := by
  refine CQ.of (lv := [.ref 0]) k_CW_best.1 rfl (by decide) rfl rfl (Nat.le_of_ble_eq_true rfl) ?_
  refine x_aload_n (pc := 0) d_CW_best_0 rfl ?_
  refine x_get (pc := 1) (j := 1) d_CW_best_1 f_CW_26 rfl rfl (Nat.le_of_ble_eq_true rfl) rfl rfl rfl ?_
  refine y_callVu (pc := 4) (c_Sha_refresh _ _ hW hC h70 hsh) k_Sha_refresh d_CW_best_4 m_CW_126 (by decide) rfl rfl rfl rfl p_Sha_refresh (K := fun V2 A2 hq => ?_)
  obtain ⟨g1, g2, g3, g4, g5⟩ := hq
  refine x_aload_n (pc := 7) d_CW_best_7 rfl ?_
  refine x_get (pc := 8) (j := 1) d_CW_best_8 f_CW_26 rfl rfl (Nat.le_of_ble_eq_true rfl) rfl rfl rfl ?_
  refine y_fV (pc := 11) (c_Sha_leastCost _ _ hW (g1.C g2 hC) g5) k_Sha_leastCost d_CW_best_11 m_CW_129 (by decide) rfl rfl rfl rfl p_Sha_leastCost (K := ?_)
  refine y_fS (pc := 14) (c_CW_orNone _ _ _) k_CW_orNone d_CW_best_14 m_CW_101 (by decide) rfl p_CW_orNone (K := ?_)
  refine y_iret (pc := 17) d_CW_best_17 rfl ?_
  exact ⟨zEc_or (b := 88000) (by omega) (wP_B hW hW.m8 _), g1, g2, g3, g4, g5⟩
set_option maxRecDepth 100000 in
set_option maxHeartbeats 4000000 in
theorem c_CW_many {W : zW} (V A : zV) (hW : zWok W) (hC : WC W V A) (h70 : A 7 0 = 0) (hsh : V 13 6 = V 1 8 → shOK W (zta A)) : CQ Y_CW_many 30 [.ref 0] V A (fun r V' A' => r = nI (sw (wP W W.mo (2 ^ (W.n - 1) - 1))) ∧ sfr V V' ∧ sfa A A' ∧ V' 13 6 = V 1 8 ∧ A' 7 0 = 0 ∧ shOK W (zta A')) := by
  refine CQ.of (lv := [.ref 0]) k_CW_many.1 rfl (by decide) rfl rfl (Nat.le_of_ble_eq_true rfl) ?_
  refine x_aload_n (pc := 0) d_CW_many_0 rfl ?_
  refine x_get (pc := 1) (j := 1) d_CW_many_1 f_CW_26 rfl rfl (Nat.le_of_ble_eq_true rfl) rfl rfl rfl ?_
  refine y_callVu (pc := 4) (c_Sha_refresh _ _ hW hC h70 hsh) k_Sha_refresh d_CW_many_4 m_CW_126 (by decide) rfl rfl rfl rfl p_Sha_refresh (K := fun V2 A2 hq => ?_)
  obtain ⟨g1, g2, g3, g4, g5⟩ := hq
  refine x_aload_n (pc := 7) d_CW_many_7 rfl ?_
  refine x_get (pc := 8) (j := 1) d_CW_many_8 f_CW_26 rfl rfl (Nat.le_of_ble_eq_true rfl) rfl rfl rfl ?_
  refine y_fV (pc := 11) (c_Sha_leastWays _ _ hW (g1.C g2 hC) g5) k_Sha_leastWays d_CW_many_11 m_CW_133 (by decide) rfl rfl rfl rfl p_Sha_leastWays (K := ?_)
  refine y_iret (pc := 14) d_CW_many_14 rfl ?_
  exact ⟨rfl, g1, g2, g3, g4, g5⟩
set_option maxRecDepth 100000 in
set_option maxHeartbeats 4000000 in
theorem c_CW_without {W : zW} (V A : zV) (hW : zWok W) (hC : WC W V A) (h70 : A 7 0 = 0) (hsh : V 13 6 = V 1 8 → shOK W (zta A)) (v : Int32) : CQ Y_CW_without 30 [.ref 0, .int v] V A (fun r V' A' => (¬ (0 < v ∧ v < nI W.n) ∧ r = (-2000000) ∧ V' = V ∧ A' = A) ∨ ∃ l, l < W.n - 1 ∧ v = nI (l + 1) ∧ r = (if sc (sm (se (W.pr (l + 1))) (wP W W.mo (zdf (2 ^ (W.n - 1) - 1) (2 ^ l)))) = none then (-1000000) else zEc (sc (sm (se (W.pr (l + 1))) (wP W W.mo (zdf (2 ^ (W.n - 1) - 1) (2 ^ l)))))) ∧ sfr V V' ∧ sfa A A' ∧ V' 13 6 = V 1 8 ∧ A' 7 0 = 0 ∧ shOK W (zta A')) := by
  have h9 := hW.h9
  refine CQ.of (lv := [.ref 0, .int v]) k_CW_without.1 rfl (by decide) rfl rfl (Nat.le_of_ble_eq_true rfl) ?_
  refine x_aload_n (pc := 0) d_CW_without_0 rfl ?_
  refine x_get (pc := 1) (j := 0) d_CW_without_1 f_CW_10 rfl rfl (Nat.le_of_ble_eq_true rfl) rfl rfl rfl ?_
  refine x_iload_n (pc := 4) d_CW_without_4 rfl ?_
  refine y_bV (pc := 5) (c_Net_isPlace _ _ _) k_Net_isPlace d_CW_without_5 m_CW_105 (by decide) rfl rfl rfl rfl p_Net_isPlace (K1 := fun q5 => ?_) (K0 := fun q5 => ?_)
  · refine x_if_ne (pc := 8) (tgt := 14) d_CW_without_8 (by decide) (fun _ => ?_) (fun h => absurd h (by decide))
    rw [hC.n] at q5
    obtain ⟨j, hj, rfl⟩ := z_nat (Int32.le_of_lt q5.1) q5.2 (by omega)
    obtain ⟨l, rfl⟩ : ∃ l, j = l + 1 := ⟨j - 1, by rcases Nat.eq_zero_or_pos j with z | z; subst z; exact absurd q5.1 (by decide); omega⟩
    have hl : l < W.n - 1 := by omega
    refine x_aload_n (pc := 14) d_CW_without_14 rfl ?_
    refine x_get (pc := 15) (j := 1) d_CW_without_15 f_CW_26 rfl rfl (Nat.le_of_ble_eq_true rfl) rfl rfl rfl ?_
    refine y_callVu (pc := 18) (c_Sha_refresh _ _ hW hC h70 hsh) k_Sha_refresh d_CW_without_18 m_CW_126 (by decide) rfl rfl rfl rfl p_Sha_refresh (K := fun V2 A2 hq => ?_)
    obtain ⟨g1, g2, g3, g4, g5⟩ := hq
    refine x_aload_n (pc := 21) d_CW_without_21 rfl ?_
    refine x_get (pc := 22) (j := 1) d_CW_without_22 f_CW_26 rfl rfl (Nat.le_of_ble_eq_true rfl) rfl rfl rfl ?_
    refine x_iload_n (pc := 25) d_CW_without_25 rfl ?_
    refine y_fV (pc := 26) (c_Sha_leastLeavingOut _ _ hW (g1.C g2 hC) l hl g5) k_Sha_leastLeavingOut d_CW_without_26 m_CW_159 (by decide) rfl rfl rfl rfl p_Sha_leastLeavingOut (K := ?_)
    refine y_fS (pc := 29) (c_CW_orNone _ _ _) k_CW_orNone d_CW_without_29 m_CW_101 (by decide) rfl p_CW_orNone (K := ?_)
    refine y_iret (pc := 32) d_CW_without_32 rfl ?_
    exact Or.inr ⟨l, hl, rfl, zEc_or (b := 90000) (by omega) (bB_m (bB_e (hW.prB _)) (wP_B hW hW.m8 _)), g1, g2, g3, g4, g5⟩
  · refine x_if_ne (pc := 8) (tgt := 14) d_CW_without_8 (by decide) (fun h => absurd h (by decide)) (fun _ => ?_)
    refine x_ldc (pc := 11) (v := (-2000000)) d_CW_without_11 i_CW_83 ?_
    refine y_iret (pc := 13) d_CW_without_13 rfl ?_
    exact Or.inl ⟨fun z => q5 (by rw [hC.n]; exact z), rfl, rfl, rfl⟩
