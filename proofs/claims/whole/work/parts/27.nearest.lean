/-- d leads to v, by the sets that are reached without each -/
def zLd (E : Nat → Nat) (d v : Nat) : Prop := ¬ d = v ∧ ¬ v = 0 ∧ ¬ (E d).testBit v = true
def zNr (E : Nat → Nat) (n d v : Nat) : Prop := zLd E d v ∧ ∀ e, e < n → ¬ e = d → zLd E e v → zLd E e d
theorem nI_z {v : Nat} (h : v < 9) : nI v = 0 ↔ v = 0 := by
  rw [← nI_0]
  exact nI_eq (by omega) (by omega)
theorem nI_e {a b : Nat} (h : a < 9) (h2 : b < 9) : nI a = nI b ↔ a = b := nI_eq (by omega) (by omega)
theorem z_tf {e v : Nat} : e.testBit v = false ↔ ¬ e.testBit v = true := by
  cases e.testBit v <;> simp
set_option maxRecDepth 100000 in
set_option maxHeartbeats 4000000 in
theorem c_Way_leads (V A : zV) (d v : Nat) (n : Nat) (h9 : n ≤ 9) (E : Nat → Nat) (hE : ∀ i, i < n → A 32 i = nI (E i) ∧ E i < 512) (hd : d < n) (hv : v < n) : CQ Y_Way_leads 0 [.ref 31, .int (nI d), .int (nI v)] V A (fun r V' A' => ((r = 1 ∧ zLd E d v) ∨ (r = 0 ∧ ¬ zLd E d v)) ∧ V' = V ∧ A' = A) := by
  refine CQ.of (lv := [.ref 31, .int (nI d), .int (nI v)]) k_Way_leads.1 rfl (by decide) rfl rfl (Nat.le_of_ble_eq_true rfl) ?_
  refine x_iload_n (pc := 0) d_Way_leads_0 rfl ?_
  refine x_iload_n (pc := 1) d_Way_leads_1 rfl ?_
  refine x_icmp_eq (pc := 2) (tgt := 26) d_Way_leads_2 (by decide) (fun h2 => ?_) (fun h2 => ?_)
  · refine x_iconst (pc := 26) (v := 0) d_Way_leads_26 (by decide) ?_
    refine y_zret (pc := 27) d_Way_leads_27 rfl rfl ?_
    exact ⟨Or.inr ⟨rfl, fun q => q.1 ((nI_e (by omega) (by omega)).mp h2)⟩, rfl, rfl⟩
  · refine x_iload_n (pc := 5) d_Way_leads_5 rfl ?_
    refine x_if_eq (pc := 6) (tgt := 26) d_Way_leads_6 (by decide) (fun h6 => ?_) (fun h6 => ?_)
    · refine x_iconst (pc := 26) (v := 0) d_Way_leads_26 (by decide) ?_
      refine y_zret (pc := 27) d_Way_leads_27 rfl rfl ?_
      exact ⟨Or.inr ⟨rfl, fun q => q.2.1 ((nI_z (by omega)).mp h6)⟩, rfl, rfl⟩
    · refine x_aload_n (pc := 9) d_Way_leads_9 rfl ?_
      refine x_get (pc := 10) (j := 1) d_Way_leads_10 f_Way_9 rfl rfl (Nat.le_of_ble_eq_true rfl) rfl rfl rfl ?_
      refine x_iload_n (pc := 13) d_Way_leads_13 rfl ?_
      refine x_iald (pc := 14) d_Way_leads_14 rfl (vp_in_nI (by omega) (by decide)) ?_
      refine x_iconst (pc := 15) (v := 1) d_Way_leads_15 (by decide) ?_
      refine x_iload_n (pc := 16) d_Way_leads_16 rfl ?_
      refine x_ishl (pc := 17) d_Way_leads_17 ?_
      refine x_iand (pc := 18) d_Way_leads_18 ?_
      refine x_if_ne (pc := 19) (tgt := 26) d_Way_leads_19 (by decide) (fun h19 => ?_) (fun h19 => ?_)
      · refine x_iconst (pc := 26) (v := 0) d_Way_leads_26 (by decide) ?_
        refine y_zret (pc := 27) d_Way_leads_27 rfl rfl ?_
        exact ⟨Or.inr ⟨rfl, fun q => h19 (by rw [nI_clamp (by omega), (hE d hd).1]; exact (z9_and _ (hE d hd).2 v (by omega)).mpr (z_tf.mpr q.2.2))⟩, rfl, rfl⟩
      · refine x_iconst (pc := 22) (v := 1) d_Way_leads_22 (by decide) ?_
        refine x_goto (pc := 23) (tgt := 27) d_Way_leads_23 (by decide) ?_
        refine y_zret (pc := 27) d_Way_leads_27 rfl rfl ?_
        exact ⟨Or.inl ⟨rfl, fun q => h2 (by rw [q]), fun q => h6 (by rw [q]; rfl), z_tf.mp ((z9_and _ (hE d hd).2 v (by omega)).mp (by rw [nI_clamp (by omega), (hE d hd).1] at h19; exact h19))⟩, rfl, rfl⟩
set_option maxRecDepth 100000 in
set_option maxHeartbeats 4000000 in
theorem c_Way_isNearest (V A : zV) (d v : Nat) (n : Nat) (hn : V 1 4 = nI n) (h1 : 1 ≤ n) (h9 : n ≤ 9) (E : Nat → Nat) (hE : ∀ i, i < n → A 32 i = nI (E i) ∧ E i < 512) (hd : d < n) (hv : v < n) : CQ Y_Way_isNearest 1 [.ref 31, .int (nI d), .int (nI v)] V A (fun r V' A' => ((r = 1 ∧ (∀ e, e < n → ¬ e = d → zLd E e v → zLd E e d)) ∨ (r = 0 ∧ ¬ (∀ e, e < n → ¬ e = d → zLd E e v → zLd E e d))) ∧ V' = V ∧ A' = A) := by
  have hS : ∀ k, k ≤ n → (∀ e, e < k → ¬ e = d → zLd E e v → zLd E e d) → X Y_Way_isNearest (zrm 1) (0, fun _ => 0) (zFq 1 (fun r V' A' => ((r = 1 ∧ (∀ e, e < n → ¬ e = d → zLd E e v → zLd E e d)) ∨ (r = 0 ∧ ¬ (∀ e, e < n → ¬ e = d → zLd E e v → zLd E e d))) ∧ V' = V ∧ A' = A)) 2 [.ref 31, .int (nI d), .int (nI v), .int (nI k)] [] (cells V A) 0 0 := by
    refine z_down (fun hk => ?_) (fun k hk ih hkk => ?_)
    · refine x_iload_n (pc := 2) d_Way_isNearest_2 rfl ?_
      refine x_aload_n (pc := 3) d_Way_isNearest_3 rfl ?_
      refine x_get (pc := 4) (j := 0) d_Way_isNearest_4 f_Way_15 rfl rfl (Nat.le_of_ble_eq_true rfl) rfl rfl rfl ?_
      refine x_get (pc := 7) (j := 4) d_Way_isNearest_7 f_Way_24 rfl rfl (Nat.le_of_ble_eq_true rfl) rfl rfl rfl ?_
      refine x_icmp_ge (pc := 10) (tgt := 44) d_Way_isNearest_10 (by decide) (fun h10 => ?_) (fun h => by rw [hn] at h; exact absurd (nI_le (by omega) (by omega)) h)
      refine x_iconst (pc := 44) (v := 1) d_Way_isNearest_44 (by decide) ?_
      refine y_zret (pc := 45) d_Way_isNearest_45 rfl rfl ?_
      exact ⟨Or.inl ⟨rfl, hk⟩, rfl, rfl⟩
    · refine x_iload_n (pc := 2) d_Way_isNearest_2 rfl ?_
      refine x_aload_n (pc := 3) d_Way_isNearest_3 rfl ?_
      refine x_get (pc := 4) (j := 0) d_Way_isNearest_4 f_Way_15 rfl rfl (Nat.le_of_ble_eq_true rfl) rfl rfl rfl ?_
      refine x_get (pc := 7) (j := 4) d_Way_isNearest_7 f_Way_24 rfl rfl (Nat.le_of_ble_eq_true rfl) rfl rfl rfl ?_
      refine x_icmp_ge (pc := 10) (tgt := 44) d_Way_isNearest_10 (by decide) (fun h => by rw [hn] at h; exact absurd h (nI_ge (by omega) (by omega))) (fun h10 => ?_)
      refine x_iload_n (pc := 13) d_Way_isNearest_13 rfl ?_
      refine x_iload_n (pc := 14) d_Way_isNearest_14 rfl ?_
      refine x_icmp_eq (pc := 15) (tgt := 38) d_Way_isNearest_15 (by decide) (fun h15 => ?_) (fun h15 => ?_)
      · refine y_inc3 (pc := 38) (v := 1) d_Way_isNearest_38 (by decide) ?_
        refine x_goto (pc := 41) (tgt := 2) d_Way_isNearest_41 (by decide) ?_
        rw [show nI k + 1 = nI (k + 1) from (nI_succ k).symm]
        refine ih (fun e he h1' h2' => ?_)
        by_cases hek : e = k
        · subst hek
          exact absurd ((nI_e (by omega) (by omega)).mp h15) h1'
        · exact hkk e (by omega) h1' h2'
      · refine x_aload_n (pc := 18) d_Way_isNearest_18 rfl ?_
        refine x_iload_n (pc := 19) d_Way_isNearest_19 rfl ?_
        refine x_iload_n (pc := 20) d_Way_isNearest_20 rfl ?_
        refine y_bV (pc := 21) (c_Way_leads _ _ k v n h9 E hE hk hv) k_Way_leads d_Way_isNearest_21 m_Way_30 (by decide) rfl rfl rfl rfl p_Way_leads (K1 := fun q21 => ?_) (K0 := fun q21 => ?_)
        · refine x_if_eq (pc := 24) (tgt := 38) d_Way_isNearest_24 (by decide) (fun h => absurd h (by decide)) (fun _ => ?_)
          refine x_aload_n (pc := 27) d_Way_isNearest_27 rfl ?_
          refine x_iload_n (pc := 28) d_Way_isNearest_28 rfl ?_
          refine x_iload_n (pc := 29) d_Way_isNearest_29 rfl ?_
          refine y_bV (pc := 30) (c_Way_leads _ _ k d n h9 E hE hk hd) k_Way_leads d_Way_isNearest_30 m_Way_30 (by decide) rfl rfl rfl rfl p_Way_leads (K1 := fun q30 => ?_) (K0 := fun q30 => ?_)
          · refine x_if_ne (pc := 33) (tgt := 38) d_Way_isNearest_33 (by decide) (fun _ => ?_) (fun h => absurd h (by decide))
            refine y_inc3 (pc := 38) (v := 1) d_Way_isNearest_38 (by decide) ?_
            refine x_goto (pc := 41) (tgt := 2) d_Way_isNearest_41 (by decide) ?_
            rw [show nI k + 1 = nI (k + 1) from (nI_succ k).symm]
            refine ih (fun e he h1' h2' => ?_)
            by_cases hek : e = k
            · subst hek
              exact q30
            · exact hkk e (by omega) h1' h2'
          · refine x_if_ne (pc := 33) (tgt := 38) d_Way_isNearest_33 (by decide) (fun h => absurd h (by decide)) (fun _ => ?_)
            refine x_iconst (pc := 36) (v := 0) d_Way_isNearest_36 (by decide) ?_
            refine y_zret (pc := 37) d_Way_isNearest_37 rfl rfl ?_
            exact ⟨Or.inr ⟨rfl, fun q => q30 (q k hk (fun z => h15 (by rw [z])) q21)⟩, rfl, rfl⟩
        · refine x_if_eq (pc := 24) (tgt := 38) d_Way_isNearest_24 (by decide) (fun _ => ?_) (fun h => absurd h (by decide))
          refine y_inc3 (pc := 38) (v := 1) d_Way_isNearest_38 (by decide) ?_
          refine x_goto (pc := 41) (tgt := 2) d_Way_isNearest_41 (by decide) ?_
          rw [show nI k + 1 = nI (k + 1) from (nI_succ k).symm]
          refine ih (fun e he h1' h2' => ?_)
          by_cases hek : e = k
          · subst hek
            exact absurd h2' q21
          · exact hkk e (by omega) h1' h2'
  refine CQ.of (lv := [.ref 31, .int (nI d), .int (nI v), zu]) k_Way_isNearest.1 rfl (by decide) rfl rfl (Nat.le_of_ble_eq_true rfl) ?_
  refine x_iconst (pc := 0) (v := 0) d_Way_isNearest_0 (by decide) ?_
  refine y_ist3 (pc := 1) d_Way_isNearest_1 ?_
  exact hS 0 (Nat.zero_le _) (fun e he => absurd he (Nat.not_lt_zero e))
theorem zRS_ex {n : Nat} (h1 : 1 ≤ n) (h9 : n ≤ 9) (P : Nat → Nat → Prop) (wo : Int32) : ∃ e, e < 512 ∧ zRS n P wo e := by
  by_cases hw : wo = 0
  · exact ⟨0, by omega, Or.inl ⟨hw, rfl⟩⟩
  · -- the largest good set is closed
    have key : ∀ m e, zG n P wo e → 9 ≤ zpc e + m → ∃ e, e < 512 ∧ zRS n P wo e := by
      intro m
      induction m with
      | zero =>
        intro e hG hm
        by_cases hc : zCl n P wo e
        · exact ⟨e, hG.1, Or.inr ⟨hw, hG, hc⟩⟩
        · exact absurd (fun a b _ hb _ _ _ => zpc_full h9 hG.2.1 (by omega) b hb) hc
      | succ m ih =>
        intro e hG hm
        by_cases hc : zCl n P wo e
        · exact ⟨e, hG.1, Or.inr ⟨hw, hG, hc⟩⟩
        · have hx : ∃ a b, a < n ∧ b < n ∧ e.testBit a = true ∧ ¬ nI b = wo ∧ P a b ∧ ¬ e.testBit b = true := by
            apply Classical.byContradiction
            intro hno
            exact hc (fun a b ha hb h3 h4 h5 => Classical.byContradiction (fun h6 => hno ⟨a, b, ha, hb, h3, h4, h5, h6⟩))
          obtain ⟨a, b, ha, hb, h3, h4, h5, h6⟩ := hx
          have hor : ∀ k, (e ||| 2 ^ b).testBit k = true ↔ (e.testBit k = true ∨ k = b) := fun k => tb_set e b k
          have hG' : zG n P wo (e ||| 2 ^ b) := by
            refine ⟨or512 hG.1 (p2lt (by omega)), fun k hk => ?_, (hor 0).mpr (Or.inl hG.2.2.1), fun Q q0 q1 k hk => ?_⟩
            · rcases (hor k).mp hk with q | q
              · exact hG.2.1 k q
              · omega
            · rcases (hor k).mp hk with q | q
              · exact hG.2.2.2 Q q0 q1 k q
              · subst q; exact q1 a k ha hb (hG.2.2.2 Q q0 q1 a h3) h4 h5
          have hlt := zpc_lt (e := e) hG'.1 (fun k hk => (hor k).mpr (Or.inl hk)) (fun q => h6 (by rw [q]; exact (hor b).mpr (Or.inr rfl)))
          exact ih _ hG' (by omega)
    refine key 9 1 ⟨by omega, fun k hk => ?_, rfl, fun Q q0 _ k hk => ?_⟩ (by omega)
    · have h0 : k = 0 := by
        apply Classical.byContradiction
        intro q
        rw [show (1 : Nat) = 2 ^ 0 from rfl, Nat.testBit_two_pow] at hk
        simp at hk; omega
      omega
    · have h0 : k = 0 := by
        apply Classical.byContradiction
        intro q
        rw [show (1 : Nat) = 2 ^ 0 from rfl, Nat.testBit_two_pow] at hk
        simp at hk; omega
      rw [h0]; exact q0
set_option maxRecDepth 100000 in
set_option maxHeartbeats 4000000 in
theorem c_Way_nearestLeading (V A : zV) (v : Nat) (n : Nat) (hn : V 1 4 = nI n) (h1 : 1 ≤ n) (h9 : n ≤ 9) (hv : v < n) : CQ Y_Way_nearestLeading 2 [.ref 31, .int (nI v)] V A (fun r V' A' => ∃ E0 E, (E0 < 512 ∧ zRS n (fun a b => ¬ A 3 (a * 9 + b) = 1000000000) (-1) E0) ∧ V' = V ∧ (((v = 0 ∨ ¬ E0.testBit v = true) ∧ r = (-1000000) ∧ A' = A) ∨ ((¬ v = 0 ∧ E0.testBit v = true) ∧ (∀ i, i < n → E i < 512 ∧ zRS n (fun a b => ¬ A 3 (a * 9 + b) = 1000000000) (nI i) (E i)) ∧ (∃ f, A' = za A 32 f) ∧ ((∃ d, d < n ∧ zNr E n d v ∧ (∀ e, e < d → ¬ zNr E n e v) ∧ r = nI d) ∨ ((∀ e, e < n → ¬ zNr E n e v) ∧ r = (-1000000)))))) := by
  have hB : ∀ (E0 : Nat) (E : Nat → Nat) (f : Nat → Int32), E0 < 512 ∧ zRS n (fun a b => ¬ A 3 (a * 9 + b) = 1000000000) (-1) E0 → ¬ v = 0 ∧ E0.testBit v = true → (∀ i, i < n → E i < 512 ∧ zRS n (fun a b => ¬ A 3 (a * 9 + b) = 1000000000) (nI i) (E i)) → (∀ i, i < n → f i = nI (E i)) → ∀ k, k ≤ n → (∀ e, e < k → ¬ zNr E n e v) → X Y_Way_nearestLeading (zrm 2) (0, fun _ => 0) (zFq 2 (fun r V' A' => ∃ E0 E, (E0 < 512 ∧ zRS n (fun a b => ¬ A 3 (a * 9 + b) = 1000000000) (-1) E0) ∧ V' = V ∧ (((v = 0 ∨ ¬ E0.testBit v = true) ∧ r = (-1000000) ∧ A' = A) ∨ ((¬ v = 0 ∧ E0.testBit v = true) ∧ (∀ i, i < n → E i < 512 ∧ zRS n (fun a b => ¬ A 3 (a * 9 + b) = 1000000000) (nI i) (E i)) ∧ (∃ f, A' = za A 32 f) ∧ ((∃ d, d < n ∧ zNr E n d v ∧ (∀ e, e < d → ¬ zNr E n e v) ∧ r = nI d) ∨ ((∀ e, e < n → ¬ zNr E n e v) ∧ r = (-1000000))))))) 51 [.ref 31, .int (nI v), .int (nI k)] [] (cells V (za A 32 f)) 0 0 := by
    intro E0 E f hE0 hv0 hER hf
    have hE : ∀ i, i < n → (za A 32 f) 32 i = nI (E i) ∧ E i < 512 := fun i hi => ⟨hf i hi, (hER i hi).1⟩
    refine z_down (fun hk => ?_) (fun k hk ih hkk => ?_)
    · refine x_iload_n (pc := 51) d_Way_nearestLeading_51 rfl ?_
      refine x_aload_n (pc := 52) d_Way_nearestLeading_52 rfl ?_
      refine x_get (pc := 53) (j := 0) d_Way_nearestLeading_53 f_Way_15 rfl rfl (Nat.le_of_ble_eq_true rfl) rfl rfl rfl ?_
      refine x_get (pc := 56) (j := 4) d_Way_nearestLeading_56 f_Way_24 rfl rfl (Nat.le_of_ble_eq_true rfl) rfl rfl rfl ?_
      refine x_icmp_ge (pc := 59) (tgt := 88) d_Way_nearestLeading_59 (by decide) (fun h59 => ?_) (fun h => by rw [hn] at h; exact absurd (nI_le (by omega) (by omega)) h)
      refine x_ldc (pc := 88) (v := (-1000000)) d_Way_nearestLeading_88 i_Way_23 ?_
      refine y_iret (pc := 90) d_Way_nearestLeading_90 rfl ?_
      exact ⟨E0, E, hE0, rfl, Or.inr ⟨hv0, hER, ⟨f, rfl⟩, Or.inr ⟨hk, rfl⟩⟩⟩
    · refine x_iload_n (pc := 51) d_Way_nearestLeading_51 rfl ?_
      refine x_aload_n (pc := 52) d_Way_nearestLeading_52 rfl ?_
      refine x_get (pc := 53) (j := 0) d_Way_nearestLeading_53 f_Way_15 rfl rfl (Nat.le_of_ble_eq_true rfl) rfl rfl rfl ?_
      refine x_get (pc := 56) (j := 4) d_Way_nearestLeading_56 f_Way_24 rfl rfl (Nat.le_of_ble_eq_true rfl) rfl rfl rfl ?_
      refine x_icmp_ge (pc := 59) (tgt := 88) d_Way_nearestLeading_59 (by decide) (fun h => by rw [hn] at h; exact absurd h (nI_ge (by omega) (by omega))) (fun h59 => ?_)
      refine x_aload_n (pc := 62) d_Way_nearestLeading_62 rfl ?_
      refine x_iload_n (pc := 63) d_Way_nearestLeading_63 rfl ?_
      refine x_iload_n (pc := 64) d_Way_nearestLeading_64 rfl ?_
      refine y_bV (pc := 65) (c_Way_leads _ _ k v n h9 E hE hk hv) k_Way_leads d_Way_nearestLeading_65 m_Way_30 (by decide) rfl rfl rfl rfl p_Way_leads (K1 := fun q65 => ?_) (K0 := fun q65 => ?_)
      · refine x_if_eq (pc := 68) (tgt := 82) d_Way_nearestLeading_68 (by decide) (fun h => absurd h (by decide)) (fun _ => ?_)
        refine x_aload_n (pc := 71) d_Way_nearestLeading_71 rfl ?_
        refine x_iload_n (pc := 72) d_Way_nearestLeading_72 rfl ?_
        refine x_iload_n (pc := 73) d_Way_nearestLeading_73 rfl ?_
        refine y_bV (pc := 74) (c_Way_isNearest _ _ k v n hn h1 h9 E hE hk hv) k_Way_isNearest d_Way_nearestLeading_74 m_Way_34 (by decide) rfl rfl rfl rfl p_Way_isNearest (K1 := fun q74 => ?_) (K0 := fun q74 => ?_)
        · refine x_if_eq (pc := 77) (tgt := 82) d_Way_nearestLeading_77 (by decide) (fun h => absurd h (by decide)) (fun _ => ?_)
          refine x_iload_n (pc := 80) d_Way_nearestLeading_80 rfl ?_
          refine y_iret (pc := 81) d_Way_nearestLeading_81 rfl ?_
          exact ⟨E0, E, hE0, rfl, Or.inr ⟨hv0, hER, ⟨f, rfl⟩, Or.inl ⟨k, hk, ⟨q65, q74⟩, hkk, rfl⟩⟩⟩
        · refine x_if_eq (pc := 77) (tgt := 82) d_Way_nearestLeading_77 (by decide) (fun _ => ?_) (fun h => absurd h (by decide))
          refine y_inc2 (pc := 82) (v := 1) d_Way_nearestLeading_82 (by decide) ?_
          refine x_goto (pc := 85) (tgt := 51) d_Way_nearestLeading_85 (by decide) ?_
          rw [show nI k + 1 = nI (k + 1) from (nI_succ k).symm]
          refine ih (fun e he => ?_)
          by_cases hek : e = k
          · subst hek
            exact fun z => q74 z.2
          · exact hkk e (by omega)
      · refine x_if_eq (pc := 68) (tgt := 82) d_Way_nearestLeading_68 (by decide) (fun _ => ?_) (fun h => absurd h (by decide))
        refine y_inc2 (pc := 82) (v := 1) d_Way_nearestLeading_82 (by decide) ?_
        refine x_goto (pc := 85) (tgt := 51) d_Way_nearestLeading_85 (by decide) ?_
        rw [show nI k + 1 = nI (k + 1) from (nI_succ k).symm]
        refine ih (fun e he => ?_)
        by_cases hek : e = k
        · subst hek
          exact fun z => q65 z.1
        · exact hkk e (by omega)
  have hA : ∀ E0, E0 < 512 ∧ zRS n (fun a b => ¬ A 3 (a * 9 + b) = 1000000000) (-1) E0 → ¬ v = 0 ∧ E0.testBit v = true → ∀ k, k ≤ n → ∀ (E : Nat → Nat) (f : Nat → Int32), (∀ i, i < k → E i < 512 ∧ zRS n (fun a b => ¬ A 3 (a * 9 + b) = 1000000000) (nI i) (E i)) → (∀ i, i < k → f i = nI (E i)) → X Y_Way_nearestLeading (zrm 2) (0, fun _ => 0) (zFq 2 (fun r V' A' => ∃ E0 E, (E0 < 512 ∧ zRS n (fun a b => ¬ A 3 (a * 9 + b) = 1000000000) (-1) E0) ∧ V' = V ∧ (((v = 0 ∨ ¬ E0.testBit v = true) ∧ r = (-1000000) ∧ A' = A) ∨ ((¬ v = 0 ∧ E0.testBit v = true) ∧ (∀ i, i < n → E i < 512 ∧ zRS n (fun a b => ¬ A 3 (a * 9 + b) = 1000000000) (nI i) (E i)) ∧ (∃ f, A' = za A 32 f) ∧ ((∃ d, d < n ∧ zNr E n d v ∧ (∀ e, e < d → ¬ zNr E n e v) ∧ r = nI d) ∨ ((∀ e, e < n → ¬ zNr E n e v) ∧ r = (-1000000))))))) 21 [.ref 31, .int (nI v), .int (nI k)] [] (cells V (za A 32 f)) 0 0 := by
    intro E0 hE0 hv0
    refine z_down (fun E f hER hf => ?_) (fun k hk ih E f hER hf => ?_)
    · refine x_iload_n (pc := 21) d_Way_nearestLeading_21 rfl ?_
      refine x_aload_n (pc := 22) d_Way_nearestLeading_22 rfl ?_
      refine x_get (pc := 23) (j := 0) d_Way_nearestLeading_23 f_Way_15 rfl rfl (Nat.le_of_ble_eq_true rfl) rfl rfl rfl ?_
      refine x_get (pc := 26) (j := 4) d_Way_nearestLeading_26 f_Way_24 rfl rfl (Nat.le_of_ble_eq_true rfl) rfl rfl rfl ?_
      refine x_icmp_ge (pc := 29) (tgt := 49) d_Way_nearestLeading_29 (by decide) (fun h29 => ?_) (fun h => by rw [hn] at h; exact absurd (nI_le (by omega) (by omega)) h)
      refine x_iconst (pc := 49) (v := 0) d_Way_nearestLeading_49 (by decide) ?_
      refine y_ist2 (pc := 50) d_Way_nearestLeading_50 ?_
      exact hB E0 E f hE0 hv0 hER hf 0 (Nat.zero_le _) (fun e he => absurd he (Nat.not_lt_zero e))
    · refine x_iload_n (pc := 21) d_Way_nearestLeading_21 rfl ?_
      refine x_aload_n (pc := 22) d_Way_nearestLeading_22 rfl ?_
      refine x_get (pc := 23) (j := 0) d_Way_nearestLeading_23 f_Way_15 rfl rfl (Nat.le_of_ble_eq_true rfl) rfl rfl rfl ?_
      refine x_get (pc := 26) (j := 4) d_Way_nearestLeading_26 f_Way_24 rfl rfl (Nat.le_of_ble_eq_true rfl) rfl rfl rfl ?_
      refine x_icmp_ge (pc := 29) (tgt := 49) d_Way_nearestLeading_29 (by decide) (fun h => by rw [hn] at h; exact absurd h (nI_ge (by omega) (by omega))) (fun h29 => ?_)
      refine x_aload_n (pc := 32) d_Way_nearestLeading_32 rfl ?_
      refine x_get (pc := 33) (j := 1) d_Way_nearestLeading_33 f_Way_9 rfl rfl (Nat.le_of_ble_eq_true rfl) rfl rfl rfl ?_
      refine x_iload_n (pc := 36) d_Way_nearestLeading_36 rfl ?_
      refine x_aload_n (pc := 37) d_Way_nearestLeading_37 rfl ?_
      refine x_iload_n (pc := 38) d_Way_nearestLeading_38 rfl ?_
      refine y_callV (pc := 39) (c_Way_reached _ _ (nI k) n hn h1 h9) k_Way_reached d_Way_nearestLeading_39 m_Way_19 (by decide) rfl rfl rfl rfl p_Way_reached (K := fun v' V' A' hq => ?_)
      obtain ⟨⟨e, hv', he1, he2⟩, hV, hA⟩ := hq; rw [hV, hA, hv']
      refine y_iast (pc := 42) d_Way_nearestLeading_42 rfl (fun _ => rfl) (vp_in_nI (by omega) (by decide)) ?_
      refine y_inc2 (pc := 43) (v := 1) d_Way_nearestLeading_43 (by decide) ?_
      refine x_goto (pc := 46) (tgt := 21) d_Way_nearestLeading_46 (by decide) ?_
      rw [show nI k + 1 = nI (k + 1) from (nI_succ k).symm, za_za, nI_clamp (by omega)]
      refine ih (fun i => if i = k then e else E i) _ (fun i hi => ?_) (fun i hi => ?_)
      · by_cases hik : i = k
        · simp only [hik, if_true]; exact ⟨he1, he2⟩
        · simp only [hik, if_false]; exact hER i (by omega)
      · show upd f k (nI e) i = _
        by_cases hik : i = k
        · simp only [hik, if_true]; exact upd_at _ _ _
        · simp only [hik, if_false]; rw [upd_ne _ _ hik]; exact hf i (by omega)
  by_cases hv0 : v = 0
  · have hz : ∃ E0, E0 < 512 ∧ zRS n (fun a b => ¬ A 3 (a * 9 + b) = 1000000000) (-1) E0 := zRS_ex h1 h9 _ _
    obtain ⟨E0, hE0⟩ := hz
    refine CQ.of (lv := [.ref 31, .int (nI v), zu]) k_Way_nearestLeading.1 rfl (by decide) rfl rfl (Nat.le_of_ble_eq_true rfl) ?_
    refine x_iload_n (pc := 0) d_Way_nearestLeading_0 rfl ?_
    refine x_if_eq (pc := 1) (tgt := 16) d_Way_nearestLeading_1 (by decide) (fun h1 => ?_) (fun h => absurd ((nI_z (by omega)).mpr hv0) h)
    refine x_ldc (pc := 16) (v := (-1000000)) d_Way_nearestLeading_16 i_Way_23 ?_
    refine y_iret (pc := 18) d_Way_nearestLeading_18 rfl ?_
    exact ⟨E0, fun _ => 0, hE0, rfl, Or.inl ⟨Or.inl hv0, rfl, rfl⟩⟩
  · refine CQ.of (lv := [.ref 31, .int (nI v), zu]) k_Way_nearestLeading.1 rfl (by decide) rfl rfl (Nat.le_of_ble_eq_true rfl) ?_
    refine x_iload_n (pc := 0) d_Way_nearestLeading_0 rfl ?_
    refine x_if_eq (pc := 1) (tgt := 16) d_Way_nearestLeading_1 (by decide) (fun h => absurd ((nI_z (by omega)).mp h) hv0) (fun h1 => ?_)
    refine x_aload_n (pc := 4) d_Way_nearestLeading_4 rfl ?_
    refine x_iconst (pc := 5) (v := (-1)) d_Way_nearestLeading_5 (by decide) ?_
    refine y_callV (pc := 6) (c_Way_reached _ _ (-1) n hn (by omega) h9) k_Way_reached d_Way_nearestLeading_6 m_Way_19 (by decide) rfl rfl rfl rfl p_Way_reached (K := fun v' V' A' hq => ?_)
    obtain ⟨⟨e0, hv', hz1, hz2⟩, hV, hAA⟩ := hq; rw [hV, hAA, hv']
    refine x_iconst (pc := 9) (v := 1) d_Way_nearestLeading_9 (by decide) ?_
    refine x_iload_n (pc := 10) d_Way_nearestLeading_10 rfl ?_
    refine x_ishl (pc := 11) d_Way_nearestLeading_11 ?_
    refine x_iand (pc := 12) d_Way_nearestLeading_12 ?_
    refine x_if_ne (pc := 13) (tgt := 19) d_Way_nearestLeading_13 (by decide) (fun h13 => ?_) (fun h13 => ?_)
    · refine x_iconst (pc := 19) (v := 0) d_Way_nearestLeading_19 (by decide) ?_
      refine y_ist2 (pc := 20) d_Way_nearestLeading_20 ?_
      have hz := hA e0 ⟨hz1, hz2⟩ ⟨hv0, by cases hq2 : e0.testBit v with | true => rfl | false => exact absurd ((z9_and _ hz1 v (by omega)).mpr hq2) h13⟩ 0 (Nat.zero_le _) (fun _ => 0) (A 32) (fun i hi => absurd hi (Nat.not_lt_zero i)) (fun i hi => absurd hi (Nat.not_lt_zero i))
      rw [za_self] at hz
      exact hz
    · refine x_ldc (pc := 16) (v := (-1000000)) d_Way_nearestLeading_16 i_Way_23 ?_
      refine y_iret (pc := 18) d_Way_nearestLeading_18 rfl ?_
      exact ⟨e0, fun _ => 0, ⟨hz1, hz2⟩, rfl, Or.inl ⟨Or.inr (z_tf.mp ((z9_and _ hz1 v (by omega)).mp h13)), rfl, rfl⟩⟩
set_option maxRecDepth 100000 in
set_option maxHeartbeats 4000000 in
theorem c_CW_nearest (V A : zV) (x : Int32) (n : Nat) (hn : V 1 4 = nI n) (h1 : 1 ≤ n) (h9 : n ≤ 9) : CQ Y_CW_nearest 10 [.ref 0, .int x] V A (fun r V' A' => (¬ (0 ≤ x ∧ x < nI n) ∧ r = (-2000000) ∧ V' = V ∧ A' = A) ∨ ∃ v, v < n ∧ x = nI v ∧ ∃ E0 E, (E0 < 512 ∧ zRS n (fun a b => ¬ A 3 (a * 9 + b) = 1000000000) (-1) E0) ∧ V' = V ∧ (((v = 0 ∨ ¬ E0.testBit v = true) ∧ r = (-1000000) ∧ A' = A) ∨ ((¬ v = 0 ∧ E0.testBit v = true) ∧ (∀ i, i < n → E i < 512 ∧ zRS n (fun a b => ¬ A 3 (a * 9 + b) = 1000000000) (nI i) (E i)) ∧ (∃ f, A' = za A 32 f) ∧ ((∃ d, d < n ∧ zNr E n d v ∧ (∀ e, e < d → ¬ zNr E n e v) ∧ r = nI d) ∨ ((∀ e, e < n → ¬ zNr E n e v) ∧ r = (-1000000)))))) := by
  refine CQ.of (lv := [.ref 0, .int x]) k_CW_nearest.1 rfl (by decide) rfl rfl (Nat.le_of_ble_eq_true rfl) ?_
  refine x_aload_n (pc := 0) d_CW_nearest_0 rfl ?_
  refine x_get (pc := 1) (j := 0) d_CW_nearest_1 f_CW_10 rfl rfl (Nat.le_of_ble_eq_true rfl) rfl rfl rfl ?_
  refine x_iload_n (pc := 4) d_CW_nearest_4 rfl ?_
  refine y_bV (pc := 5) (c_Net_isNode _ _ _) k_Net_isNode d_CW_nearest_5 m_CW_165 (by decide) rfl rfl rfl rfl p_Net_isNode (K1 := fun q5 => ?_) (K0 := fun q5 => ?_)
  · refine x_if_ne (pc := 8) (tgt := 14) d_CW_nearest_8 (by decide) (fun _ => ?_) (fun h => absurd h (by decide))
    refine x_aload_n (pc := 14) d_CW_nearest_14 rfl ?_
    refine x_get (pc := 15) (j := 7) d_CW_nearest_15 f_CW_72 rfl rfl (Nat.le_of_ble_eq_true rfl) rfl rfl rfl ?_
    refine x_iload_n (pc := 18) d_CW_nearest_18 rfl ?_
    obtain ⟨v, hvn, rfl⟩ := z_nat (n := n) q5.1 (by have := q5.2; rw [hn] at this; exact this) (by omega)
    refine y_callV (pc := 19) (c_Way_nearestLeading _ _ v n hn h1 h9 hvn) k_Way_nearestLeading d_CW_nearest_19 m_CW_200 (by decide) rfl rfl rfl rfl p_Way_nearestLeading (K := fun v' V' A' hq => ?_)
    refine y_iret (pc := 22) d_CW_nearest_22 rfl ?_
    exact Or.inr ⟨v, hvn, rfl, hq⟩
  · refine x_if_ne (pc := 8) (tgt := 14) d_CW_nearest_8 (by decide) (fun h => absurd h (by decide)) (fun _ => ?_)
    refine x_ldc (pc := 11) (v := (-2000000)) d_CW_nearest_11 i_CW_83 ?_
    refine y_iret (pc := 13) d_CW_nearest_13 rfl ?_
    exact Or.inl ⟨by rw [hn] at q5; exact q5, rfl, rfl, rfl⟩
def zLr (E0 : Nat) (E : Nat → Nat) (d v : Nat) : Prop := ¬ d = v ∧ ¬ v = 0 ∧ E0.testBit v = true ∧ ¬ (E d).testBit v = true
theorem z_sh0 {e a : Nat} (he : e < 512) (ha : a < 9) (h : ¬ e.testBit a = true) : (nI e >>> (nI a &&& 31)) &&& 1 = 0 := by
  have key : ∀ e, e < 512 → ∀ a, a < 9 → e.testBit a = false → (nI e >>> (nI a &&& 31)) &&& 1 = 0 := by decide +kernel
  exact key e he a ha (z_tf.mpr h)
set_option maxRecDepth 100000 in
set_option maxHeartbeats 4000000 in
theorem c_Mo_leads (V A : zV) (d v : Nat) (n : Nat) (hn : V 36 1 = nI n) (h1 : 1 ≤ n) (h9 : n ≤ 9) (E0 : Nat) (E : Nat → Nat) (hE0 : E0 < 512 ∧ zRS n (fun a b => ¬ A 38 (9 * a + b) = 1000000) (-1) E0) (hE : ∀ i, i < n → E i < 512 ∧ zRS n (fun a b => ¬ A 38 (9 * a + b) = 1000000) (nI i) (E i)) (hd : d < n) (hv : v < n) : CQ Y_Mo_leads 1 [.ref 36, .int (nI d), .int (nI v)] V A (fun r V' A' => ((r = 1 ∧ zLr E0 E d v) ∨ (r = 0 ∧ ¬ zLr E0 E d v)) ∧ V' = V ∧ A' = A) := by
  refine CQ.of (lv := [.ref 36, .int (nI d), .int (nI v)]) k_Mo_leads.1 rfl (by decide) rfl rfl (Nat.le_of_ble_eq_true rfl) ?_
  refine x_iload_n (pc := 0) d_Mo_leads_0 rfl ?_
  refine x_iload_n (pc := 1) d_Mo_leads_1 rfl ?_
  refine x_icmp_eq (pc := 2) (tgt := 38) d_Mo_leads_2 (by decide) (fun h2 => ?_) (fun h2 => ?_)
  · refine x_iconst (pc := 38) (v := 0) d_Mo_leads_38 (by decide) ?_
    refine y_zret (pc := 39) d_Mo_leads_39 rfl rfl ?_
    exact ⟨Or.inr ⟨rfl, fun q => q.1 ((nI_e (by omega) (by omega)).mp h2)⟩, rfl, rfl⟩
  · refine x_iload_n (pc := 5) d_Mo_leads_5 rfl ?_
    refine x_if_eq (pc := 6) (tgt := 38) d_Mo_leads_6 (by decide) (fun h6 => ?_) (fun h6 => ?_)
    · refine x_iconst (pc := 38) (v := 0) d_Mo_leads_38 (by decide) ?_
      refine y_zret (pc := 39) d_Mo_leads_39 rfl rfl ?_
      exact ⟨Or.inr ⟨rfl, fun q => q.2.1 ((nI_z (by omega)).mp h6)⟩, rfl, rfl⟩
    · refine x_aload_n (pc := 9) d_Mo_leads_9 rfl ?_
      refine x_iconst (pc := 10) (v := (-1)) d_Mo_leads_10 (by decide) ?_
      refine y_callV (pc := 11) (c_Mo_reached _ _ (-1) n hn h1 h9) k_Mo_reached d_Mo_leads_11 m_Mo_175 (by decide) rfl rfl rfl rfl p_Mo_reached (K := fun v' V' A' hq => ?_)
      obtain ⟨⟨e, hv', hz1, hz2⟩, hV, hAA⟩ := hq; rw [hV, hAA, hv']; have he : e = E0 := zRS_one (fun _ _ _ _ => Iff.rfl) hz2 hE0.2; rw [he]
      refine x_iload_n (pc := 14) d_Mo_leads_14 rfl ?_
      refine x_ishr (pc := 15) d_Mo_leads_15 ?_
      refine x_iconst (pc := 16) (v := 1) d_Mo_leads_16 (by decide) ?_
      refine x_iand (pc := 17) d_Mo_leads_17 ?_
      refine x_iconst (pc := 18) (v := 1) d_Mo_leads_18 (by decide) ?_
      refine x_icmp_ne (pc := 19) (tgt := 38) d_Mo_leads_19 (by decide) (fun h19 => ?_) (fun h19 => ?_)
      · refine x_iconst (pc := 38) (v := 0) d_Mo_leads_38 (by decide) ?_
        refine y_zret (pc := 39) d_Mo_leads_39 rfl rfl ?_
        exact ⟨Or.inr ⟨rfl, fun q => h19 ((z9_shr _ hE0.1 v (by omega)).mpr q.2.2.1)⟩, rfl, rfl⟩
      · refine x_aload_n (pc := 22) d_Mo_leads_22 rfl ?_
        refine x_iload_n (pc := 23) d_Mo_leads_23 rfl ?_
        refine y_callV (pc := 24) (c_Mo_reached _ _ (nI d) n hn h1 h9) k_Mo_reached d_Mo_leads_24 m_Mo_175 (by decide) rfl rfl rfl rfl p_Mo_reached (K := fun v' V' A' hq => ?_)
        obtain ⟨⟨e, hv', hz1, hz2⟩, hV, hAA⟩ := hq; rw [hV, hAA, hv']; have he : e = E d := zRS_one (fun _ _ _ _ => Iff.rfl) hz2 (hE d hd).2; rw [he]
        refine x_iload_n (pc := 27) d_Mo_leads_27 rfl ?_
        refine x_ishr (pc := 28) d_Mo_leads_28 ?_
        refine x_iconst (pc := 29) (v := 1) d_Mo_leads_29 (by decide) ?_
        refine x_iand (pc := 30) d_Mo_leads_30 ?_
        refine x_if_ne (pc := 31) (tgt := 38) d_Mo_leads_31 (by decide) (fun h31 => ?_) (fun h31 => ?_)
        · refine x_iconst (pc := 38) (v := 0) d_Mo_leads_38 (by decide) ?_
          refine y_zret (pc := 39) d_Mo_leads_39 rfl rfl ?_
          exact ⟨Or.inr ⟨rfl, fun q => q.2.2.2 (Classical.byContradiction (fun w => h31 (z_sh0 (hE d hd).1 (by omega) w)))⟩, rfl, rfl⟩
        · refine x_iconst (pc := 34) (v := 1) d_Mo_leads_34 (by decide) ?_
          refine x_goto (pc := 35) (tgt := 39) d_Mo_leads_35 (by decide) ?_
          refine y_zret (pc := 39) d_Mo_leads_39 rfl rfl ?_
          exact ⟨Or.inl ⟨rfl, fun q => h2 (by rw [q]), fun q => h6 (by rw [q]; rfl), (z9_shr _ hE0.1 v (by omega)).mp h19, fun q => absurd ((z9_shr _ (hE d hd).1 v (by omega)).mpr q) (by rw [h31]; decide)⟩, rfl, rfl⟩
