def zNl (E0 : Nat) (E : Nat → Nat) (n d v : Nat) : Prop := zLr E0 E d v ∧ ∀ e, e < n → e = d ∨ ¬ zLr E0 E e v ∨ zLr E0 E e d
set_option maxRecDepth 100000 in
set_option maxHeartbeats 4000000 in
theorem c_Mo_nearest (V A : zV) (x : Int32) (n : Nat) (hn : V 36 1 = nI n) (h1 : 1 ≤ n) (h9 : n ≤ 9) (E0 : Nat) (E : Nat → Nat) (hE0 : E0 < 512 ∧ zRS n (fun a b => ¬ A 38 (9 * a + b) = 1000000) (-1) E0) (hE : ∀ i, i < n → E i < 512 ∧ zRS n (fun a b => ¬ A 38 (9 * a + b) = 1000000) (nI i) (E i)) : CQ Y_Mo_nearest 10 [.ref 36, .int x] V A (fun r V' A' => (¬ (0 ≤ x ∧ x < nI n) ∧ r = (-2000000) ∧ V' = zv V 36 0 0 ∧ A' = A) ∨ ∃ u, u < n ∧ x = nI u ∧ ((∃ d, d < n ∧ zNl E0 E n d u ∧ (∀ e, e < d → ¬ zNl E0 E n e u) ∧ r = nI d) ∨ ((∀ e, e < n → ¬ zNl E0 E n e u) ∧ r = (-1000000))) ∧ V' = zv V 36 0 0 ∧ A' = A) := by
  have hS : ∀ v, v < n → x = nI v → ∀ k, k ≤ n → (∀ e, e < k → ¬ zNl E0 E n e v) → X Y_Mo_nearest (zrm 10) (0, fun _ => 0) (zFq 10 (fun r V' A' => (¬ (0 ≤ x ∧ x < nI n) ∧ r = (-2000000) ∧ V' = zv V 36 0 0 ∧ A' = A) ∨ ∃ u, u < n ∧ x = nI u ∧ ((∃ d, d < n ∧ zNl E0 E n d u ∧ (∀ e, e < d → ¬ zNl E0 E n e u) ∧ r = nI d) ∨ ((∀ e, e < n → ¬ zNl E0 E n e u) ∧ r = (-1000000))) ∧ V' = zv V 36 0 0 ∧ A' = A)) 18 [.ref 36, .int x, .int (nI k), zu, zu] [] (cells (zv V 36 0 0) A) 0 0 := by
    intro v hv hxv
    refine z_down (fun hk => ?_) (fun k hk ih hkk => ?_)
    · refine x_iload_n (pc := 18) d_Mo_nearest_18 rfl ?_
      refine x_aload_n (pc := 19) d_Mo_nearest_19 rfl ?_
      refine x_get (pc := 20) (j := 1) d_Mo_nearest_20 f_Mo_13 rfl rfl (Nat.le_of_ble_eq_true rfl) rfl rfl rfl ?_
      refine x_icmp_ge (pc := 23) (tgt := 99) d_Mo_nearest_23 (by decide) (fun h23 => ?_) (fun h => by rw [show zv V 36 0 0 36 1 = V 36 1 from rfl, hn] at h; exact absurd (nI_le (by omega) (by omega)) h)
      refine x_ldc (pc := 99) (v := (-1000000)) d_Mo_nearest_99 i_Mo_88 ?_
      refine y_iret (pc := 101) d_Mo_nearest_101 rfl ?_
      exact Or.inr ⟨v, hv, hxv, Or.inr ⟨hk, rfl⟩, rfl, rfl⟩
    · subst hxv
      have hno : ¬ zNl E0 E n k v → ∀ j : Int32, X Y_Mo_nearest (zrm 10) (0, fun _ => 0) (zFq 10 (fun r V' A' => (¬ (0 ≤ nI v ∧ nI v < nI n) ∧ r = (-2000000) ∧ V' = zv V 36 0 0 ∧ A' = A) ∨ ∃ u, u < n ∧ nI v = nI u ∧ ((∃ d, d < n ∧ zNl E0 E n d u ∧ (∀ e, e < d → ¬ zNl E0 E n e u) ∧ r = nI d) ∨ ((∀ e, e < n → ¬ zNl E0 E n e u) ∧ r = (-1000000))) ∧ V' = zv V 36 0 0 ∧ A' = A)) 87 [.ref 36, .int (nI v), .int (nI k), .int 0, .int j] [] (cells (zv V 36 0 0) A) 0 0 := by
        intro hq j
        refine x_iload_n (pc := 87) d_Mo_nearest_87 rfl ?_
        refine x_if_eq (pc := 88) (tgt := 93) d_Mo_nearest_88 (by decide) (fun _ => ?_) (fun h => absurd h (by decide))
        refine y_inc2 (pc := 93) (v := 1) d_Mo_nearest_93 (by decide) ?_
        refine x_goto (pc := 96) (tgt := 18) d_Mo_nearest_96 (by decide) ?_
        rw [show nI k + 1 = nI (k + 1) from (nI_succ k).symm]
        refine y_tail (p := [_, _, _]) (t := [_, _]) rfl rfl (by simp [Value.category]) (ih (fun e he => ?_))
        by_cases hek : e = k
        · subst hek; exact hq
        · exact hkk e (by omega)
      have hno2 : ¬ zNl E0 E n k v → ∀ j : Nat, j ≤ n → X Y_Mo_nearest (zrm 10) (0, fun _ => 0) (zFq 10 (fun r V' A' => (¬ (0 ≤ nI v ∧ nI v < nI n) ∧ r = (-2000000) ∧ V' = zv V 36 0 0 ∧ A' = A) ∨ ∃ u, u < n ∧ nI v = nI u ∧ ((∃ d, d < n ∧ zNl E0 E n d u ∧ (∀ e, e < d → ¬ zNl E0 E n e u) ∧ r = nI d) ∨ ((∀ e, e < n → ¬ zNl E0 E n e u) ∧ r = (-1000000))) ∧ V' = zv V 36 0 0 ∧ A' = A)) 36 [.ref 36, .int (nI v), .int (nI k), .int 0, .int (nI j)] [] (cells (zv V 36 0 0) A) 0 0 := by
        intro hq j hj
        by_cases hjn : j = n
        · subst hjn
          refine x_iload (pc := 36) d_Mo_nearest_36 rfl ?_
          refine x_aload_n (pc := 38) d_Mo_nearest_38 rfl ?_
          refine x_get (pc := 39) (j := 1) d_Mo_nearest_39 f_Mo_13 rfl rfl (Nat.le_of_ble_eq_true rfl) rfl rfl rfl ?_
          refine x_icmp_ge (pc := 42) (tgt := 87) d_Mo_nearest_42 (by decide) (fun h42 => ?_) (fun h => by rw [show zv V 36 0 0 36 1 = V 36 1 from rfl, hn] at h; exact absurd (nI_le (by omega) (by omega)) h)
          exact hno hq _
        · refine x_iload (pc := 36) d_Mo_nearest_36 rfl ?_
          refine x_aload_n (pc := 38) d_Mo_nearest_38 rfl ?_
          refine x_get (pc := 39) (j := 1) d_Mo_nearest_39 f_Mo_13 rfl rfl (Nat.le_of_ble_eq_true rfl) rfl rfl rfl ?_
          refine x_icmp_ge (pc := 42) (tgt := 87) d_Mo_nearest_42 (by decide) (fun h => by rw [show zv V 36 0 0 36 1 = V 36 1 from rfl, hn] at h; exact absurd h (nI_ge (by omega) (by omega))) (fun h42 => ?_)
          refine x_iload_n (pc := 45) d_Mo_nearest_45 rfl ?_
          refine x_if_eq (pc := 46) (tgt := 87) d_Mo_nearest_46 (by decide) (fun _ => ?_) (fun h => absurd h (by decide))
          exact hno hq _
      have hT : zLr E0 E k v → ∀ j, j ≤ n → (∀ e, e < j → e = k ∨ ¬ zLr E0 E e v ∨ zLr E0 E e k) → X Y_Mo_nearest (zrm 10) (0, fun _ => 0) (zFq 10 (fun r V' A' => (¬ (0 ≤ nI v ∧ nI v < nI n) ∧ r = (-2000000) ∧ V' = zv V 36 0 0 ∧ A' = A) ∨ ∃ u, u < n ∧ nI v = nI u ∧ ((∃ d, d < n ∧ zNl E0 E n d u ∧ (∀ e, e < d → ¬ zNl E0 E n e u) ∧ r = nI d) ∨ ((∀ e, e < n → ¬ zNl E0 E n e u) ∧ r = (-1000000))) ∧ V' = zv V 36 0 0 ∧ A' = A)) 36 [.ref 36, .int (nI v), .int (nI k), .int 1, .int (nI j)] [] (cells (zv V 36 0 0) A) 0 0 := by
        intro hl
        refine z_down (fun hj => ?_) (fun j hj ih2 hjj => ?_)
        · refine x_iload (pc := 36) d_Mo_nearest_36 rfl ?_
          refine x_aload_n (pc := 38) d_Mo_nearest_38 rfl ?_
          refine x_get (pc := 39) (j := 1) d_Mo_nearest_39 f_Mo_13 rfl rfl (Nat.le_of_ble_eq_true rfl) rfl rfl rfl ?_
          refine x_icmp_ge (pc := 42) (tgt := 87) d_Mo_nearest_42 (by decide) (fun h42 => ?_) (fun h => by rw [show zv V 36 0 0 36 1 = V 36 1 from rfl, hn] at h; exact absurd (nI_le (by omega) (by omega)) h)
          refine x_iload_n (pc := 87) d_Mo_nearest_87 rfl ?_
          refine x_if_eq (pc := 88) (tgt := 93) d_Mo_nearest_88 (by decide) (fun h => absurd h (by decide)) (fun _ => ?_)
          refine x_iload_n (pc := 91) d_Mo_nearest_91 rfl ?_
          refine y_iret (pc := 92) d_Mo_nearest_92 rfl ?_
          exact Or.inr ⟨v, hv, rfl, Or.inl ⟨k, hk, ⟨hl, hj⟩, hkk, rfl⟩, rfl, rfl⟩
        · refine x_iload (pc := 36) d_Mo_nearest_36 rfl ?_
          refine x_aload_n (pc := 38) d_Mo_nearest_38 rfl ?_
          refine x_get (pc := 39) (j := 1) d_Mo_nearest_39 f_Mo_13 rfl rfl (Nat.le_of_ble_eq_true rfl) rfl rfl rfl ?_
          refine x_icmp_ge (pc := 42) (tgt := 87) d_Mo_nearest_42 (by decide) (fun h => by rw [show zv V 36 0 0 36 1 = V 36 1 from rfl, hn] at h; exact absurd h (nI_ge (by omega) (by omega))) (fun h42 => ?_)
          refine x_iload_n (pc := 45) d_Mo_nearest_45 rfl ?_
          refine x_if_eq (pc := 46) (tgt := 87) d_Mo_nearest_46 (by decide) (fun h => absurd h (by decide)) (fun _ => ?_)
          refine x_iload (pc := 49) d_Mo_nearest_49 rfl ?_
          refine x_iload_n (pc := 51) d_Mo_nearest_51 rfl ?_
          refine x_icmp_eq (pc := 52) (tgt := 75) d_Mo_nearest_52 (by decide) (fun h52 => ?_) (fun h52 => ?_)
          · refine x_iconst (pc := 75) (v := 1) d_Mo_nearest_75 (by decide) ?_
            refine x_goto (pc := 76) (tgt := 80) d_Mo_nearest_76 (by decide) ?_
            refine y_ist3 (pc := 80) d_Mo_nearest_80 ?_
            refine y_inc4 (pc := 81) (v := 1) d_Mo_nearest_81 (by decide) ?_
            refine x_goto (pc := 84) (tgt := 36) d_Mo_nearest_84 (by decide) ?_
            rw [show nI j + 1 = nI (j + 1) from (nI_succ j).symm]
            refine ih2 (fun e he => ?_)
            by_cases hek : e = j
            · subst hek
              exact Or.inl ((nI_e (by omega) (by omega)).mp h52)
            · exact hjj e (by omega)
          · refine x_aload_n (pc := 55) d_Mo_nearest_55 rfl ?_
            refine x_iload (pc := 56) d_Mo_nearest_56 rfl ?_
            refine x_iload_n (pc := 58) d_Mo_nearest_58 rfl ?_
            refine y_bV (pc := 59) (c_Mo_leads _ _ j v n (by exact hn) h1 h9 E0 E hE0 hE hj hv) k_Mo_leads d_Mo_nearest_59 m_Mo_178 (by decide) rfl rfl rfl rfl p_Mo_leads (K1 := fun q59 => ?_) (K0 := fun q59 => ?_)
            · refine x_if_eq (pc := 62) (tgt := 75) d_Mo_nearest_62 (by decide) (fun h => absurd h (by decide)) (fun _ => ?_)
              refine x_aload_n (pc := 65) d_Mo_nearest_65 rfl ?_
              refine x_iload (pc := 66) d_Mo_nearest_66 rfl ?_
              refine x_iload_n (pc := 68) d_Mo_nearest_68 rfl ?_
              refine y_bV (pc := 69) (c_Mo_leads _ _ j k n (by exact hn) h1 h9 E0 E hE0 hE hj hk) k_Mo_leads d_Mo_nearest_69 m_Mo_178 (by decide) rfl rfl rfl rfl p_Mo_leads (K1 := fun q69 => ?_) (K0 := fun q69 => ?_)
              · refine x_if_eq (pc := 72) (tgt := 79) d_Mo_nearest_72 (by decide) (fun h => absurd h (by decide)) (fun _ => ?_)
                refine x_iconst (pc := 75) (v := 1) d_Mo_nearest_75 (by decide) ?_
                refine x_goto (pc := 76) (tgt := 80) d_Mo_nearest_76 (by decide) ?_
                refine y_ist3 (pc := 80) d_Mo_nearest_80 ?_
                refine y_inc4 (pc := 81) (v := 1) d_Mo_nearest_81 (by decide) ?_
                refine x_goto (pc := 84) (tgt := 36) d_Mo_nearest_84 (by decide) ?_
                rw [show nI j + 1 = nI (j + 1) from (nI_succ j).symm]
                refine ih2 (fun e he => ?_)
                by_cases hek : e = j
                · subst hek
                  exact Or.inr (Or.inr q69)
                · exact hjj e (by omega)
              · refine x_if_eq (pc := 72) (tgt := 79) d_Mo_nearest_72 (by decide) (fun _ => ?_) (fun h => absurd h (by decide))
                refine x_iconst (pc := 79) (v := 0) d_Mo_nearest_79 (by decide) ?_
                refine y_ist3 (pc := 80) d_Mo_nearest_80 ?_
                refine y_inc4 (pc := 81) (v := 1) d_Mo_nearest_81 (by decide) ?_
                refine x_goto (pc := 84) (tgt := 36) d_Mo_nearest_84 (by decide) ?_
                rw [show nI j + 1 = nI (j + 1) from (nI_succ j).symm]
                exact hno2 (fun q => by rcases q.2 j hj with w | w | w; exact h52 (by rw [w]); exact w q59; exact q69 w) (j + 1) (by omega)
            · refine x_if_eq (pc := 62) (tgt := 75) d_Mo_nearest_62 (by decide) (fun _ => ?_) (fun h => absurd h (by decide))
              refine x_iconst (pc := 75) (v := 1) d_Mo_nearest_75 (by decide) ?_
              refine x_goto (pc := 76) (tgt := 80) d_Mo_nearest_76 (by decide) ?_
              refine y_ist3 (pc := 80) d_Mo_nearest_80 ?_
              refine y_inc4 (pc := 81) (v := 1) d_Mo_nearest_81 (by decide) ?_
              refine x_goto (pc := 84) (tgt := 36) d_Mo_nearest_84 (by decide) ?_
              rw [show nI j + 1 = nI (j + 1) from (nI_succ j).symm]
              refine ih2 (fun e he => ?_)
              by_cases hek : e = j
              · subst hek
                exact Or.inr (Or.inl q59)
              · exact hjj e (by omega)
      refine x_iload_n (pc := 18) d_Mo_nearest_18 rfl ?_
      refine x_aload_n (pc := 19) d_Mo_nearest_19 rfl ?_
      refine x_get (pc := 20) (j := 1) d_Mo_nearest_20 f_Mo_13 rfl rfl (Nat.le_of_ble_eq_true rfl) rfl rfl rfl ?_
      refine x_icmp_ge (pc := 23) (tgt := 99) d_Mo_nearest_23 (by decide) (fun h => by rw [show zv V 36 0 0 36 1 = V 36 1 from rfl, hn] at h; exact absurd h (nI_ge (by omega) (by omega))) (fun h23 => ?_)
      refine x_aload_n (pc := 26) d_Mo_nearest_26 rfl ?_
      refine x_iload_n (pc := 27) d_Mo_nearest_27 rfl ?_
      refine x_iload_n (pc := 28) d_Mo_nearest_28 rfl ?_
      refine y_bV (pc := 29) (c_Mo_leads _ _ k v n (by exact hn) h1 h9 E0 E hE0 hE hk hv) k_Mo_leads d_Mo_nearest_29 m_Mo_178 (by decide) rfl rfl rfl rfl p_Mo_leads (K1 := fun q29 => ?_) (K0 := fun q29 => ?_)
      · refine y_ist3 (pc := 32) d_Mo_nearest_32 ?_
        refine x_iconst (pc := 33) (v := 0) d_Mo_nearest_33 (by decide) ?_
        refine y_ist4 (pc := 34) d_Mo_nearest_34 ?_
        exact hT q29 0 (Nat.zero_le _) (fun e he => absurd he (Nat.not_lt_zero e))
      · refine y_ist3 (pc := 32) d_Mo_nearest_32 ?_
        refine x_iconst (pc := 33) (v := 0) d_Mo_nearest_33 (by decide) ?_
        refine y_ist4 (pc := 34) d_Mo_nearest_34 ?_
        exact hno2 (fun q => q29 q.1) 0 (Nat.zero_le _)
  refine CQ.of (lv := [.ref 36, .int x, zu, zu, zu]) k_Mo_nearest.1 rfl (by decide) rfl rfl (Nat.le_of_ble_eq_true rfl) ?_
  refine x_aload_n (pc := 0) d_Mo_nearest_0 rfl ?_
  refine x_iconst (pc := 1) (v := 0) d_Mo_nearest_1 (by decide) ?_
  refine y_put (pc := 2) (j := 0) d_Mo_nearest_2 f_Mo_1 rfl rfl (Nat.le_of_ble_eq_true rfl) rfl (Nat.le_of_ble_eq_true rfl) rfl rfl (fun _ => rfl) ?_
  refine x_aload_n (pc := 5) d_Mo_nearest_5 rfl ?_
  refine x_iload_n (pc := 6) d_Mo_nearest_6 rfl ?_
  refine y_bV (pc := 7) (c_Mo_noNode _ _ _ n (by exact hn) h1 h9) k_Mo_noNode d_Mo_nearest_7 m_Mo_74 (by decide) rfl rfl rfl rfl p_Mo_noNode (K1 := fun q7 => ?_) (K0 := fun q7 => ?_)
  · refine x_if_eq (pc := 10) (tgt := 16) d_Mo_nearest_10 (by decide) (fun h => absurd h (by decide)) (fun _ => ?_)
    refine x_ldc (pc := 13) (v := (-2000000)) d_Mo_nearest_13 i_Mo_78 ?_
    refine y_iret (pc := 15) d_Mo_nearest_15 rfl ?_
    exact Or.inl ⟨q7, rfl, rfl, rfl⟩
  · refine x_if_eq (pc := 10) (tgt := 16) d_Mo_nearest_10 (by decide) (fun _ => ?_) (fun h => absurd h (by decide))
    refine x_iconst (pc := 16) (v := 0) d_Mo_nearest_16 (by decide) ?_
    refine y_ist2 (pc := 17) d_Mo_nearest_17 ?_
    obtain ⟨v, hv, hxv⟩ := z_nat (Classical.not_not.mp q7).1 (Classical.not_not.mp q7).2 (by omega)
    exact hS v hv hxv 0 (Nat.zero_le _) (fun e he => absurd he (Nat.not_lt_zero e))
theorem lr_iff {n : Nat} {P : Nat → Nat → Prop} {E0 : Nat} {E : Nat → Nat} (h9 : n ≤ 9) (h0 : zRS n P (-1) E0) (hE : ∀ i, i < n → zRS n P (nI i) (E i)) {d v : Nat} (hd : d < n) (hv : v < n) (hv0 : E0.testBit v = true) (hl : zLd E d v) : d = 0 ∨ E0.testBit d = true := by
  by_cases hd0 : d = 0
  · exact Or.inl hd0
  · refine Or.inr (Classical.byContradiction (fun hno => hl.2.2 ?_))
    have hz0 := h0
    rcases h0 with ⟨q, -⟩ | ⟨-, hG0, hC0⟩
    · exact absurd q (by decide)
    rcases hE d hd with ⟨q, -⟩ | ⟨-, hGd, hCd⟩
    · exact absurd ((nI_z (by omega)).mp q) hd0
    exact (hG0.2.2.2 (fun k => E0.testBit k = true ∧ (E d).testBit k = true) ⟨hG0.2.2.1, hGd.2.2.1⟩ (fun a b ha hb hq hb1 hp => by
      have e1 := hC0 a b ha hb hq.1 hb1 hp
      refine ⟨e1, hCd a b ha hb hq.2 (fun z => ?_) hp⟩
      have : b = d := (nI_e (by omega) (by omega)).mp z
      subst this; exact hno e1) v hv0).2
theorem nl_iff {n : Nat} {P : Nat → Nat → Prop} {E0 : Nat} {E : Nat → Nat} (h9 : n ≤ 9) (h0 : zRS n P (-1) E0) (hE : ∀ i, i < n → zRS n P (nI i) (E i)) {v : Nat} (hv : v < n) (hv0 : E0.testBit v = true) (d : Nat) (hd : d < n) : zNl E0 E n d v ↔ zNr E n d v := by
  have e1 : ∀ d, zLr E0 E d v ↔ zLd E d v := fun d => ⟨fun h => ⟨h.1, h.2.1, h.2.2.2⟩, fun h => ⟨h.1, h.2.1, hv0, h.2.2⟩⟩
  constructor
  · rintro ⟨h1, h2⟩
    refine ⟨(e1 d).mp h1, fun e he hne hl => ?_⟩
    rcases h2 e he with q | q | q
    · exact absurd q hne
    · exact absurd ((e1 e).mpr hl) q
    · exact ⟨q.1, q.2.1, q.2.2.2⟩
  · rintro ⟨h1, h2⟩
    refine ⟨(e1 d).mpr h1, fun e he => ?_⟩
    by_cases hne : e = d
    · exact Or.inl hne
    · by_cases hl : zLd E e v
      · refine Or.inr (Or.inr ?_)
        have q := h2 e he hne hl
        rcases lr_iff h9 h0 hE hd hv hv0 h1 with w | w
        · exact absurd w q.2.1
        · exact ⟨q.1, q.2.1, w, q.2.2⟩
      · exact Or.inr (Or.inl (fun q => hl ((e1 e).mp q)))
section P7
variable {SH : Int32 → Int32 → Int32 → Int32 → (Nat → Int32) → (Nat → Int32) → (Nat → Int32) → (Nat → Int32) → (Nat → Nat → Int32) → Prop}
variable {TA : Int32 → Int32 → Int32 → Int32 → (Nat → Int32) → (Nat → Int32) → (Nat → Int32) → (Nat → Int32) → Int32 → Int32 → (Nat → Int32) → Prop}
variable {FI : Int32 → Int32 → Int32 → Int32 → (Nat → Int32) → (Nat → Int32) → (Nat → Int32) → (Nat → Int32) → Int32 → (Nat → Int32) → Prop}
variable {KN : Int32 → Int32 → Int32 → Int32 → (Nat → Int32) → (Nat → Int32) → (Nat → Int32) → (Nat → Int32) → Int32 → Int32 → Int32 → (Nat → Int32) → (Nat → Int32) → (Nat → Int32) → Prop}
theorem pr_nearest (x : Int32) : Pair SH TA FI KN Y_CW_nearest Y_Mo_nearest 10 10 [.int x] := by
  intro c V A hc hI
  obtain ⟨n, ch, ⟨⟨h1, h9⟩, hn, hn'⟩, hR, hL, hC, hP, hA, hW, hX, hQ, hch, hT, hK⟩ := id hI
  have hPP : ∀ a b, a < n → b < n → ((¬ A 3 (a * 9 + b) = 1000000000) ↔ ¬ A 38 (9 * a + b) = 1000000) := by
    intro a b ha hb
    rw [show 9 * a + b = a * 9 + b by omega]
    rcases hC.1 (a * 9 + b) (by omega) with ⟨e1, e2⟩ | ⟨e1, e2, e3⟩
    · rw [e1, e2]; exact ⟨fun h => absurd rfl h, fun h => absurd rfl h⟩
    · rw [e1] at e3 ⊢
      exact ⟨fun _ q => by rw [q] at e3; exact absurd e3 (by decide), fun _ q => by rw [q] at e3; exact absurd e3 (by decide)⟩
  -- the reference's sets
  obtain ⟨E0, hE0⟩ := zRS_ex h1 h9 (fun a b => ¬ A 38 (9 * a + b) = 1000000) (-1)
  obtain ⟨E, hE⟩ := Classical.axiomOfChoice (fun i : Nat => zRS_ex h1 h9 (fun a b => ¬ A 38 (9 * a + b) = 1000000) (nI i))
  refine CQ.mono (c_CW_nearest V A x n hn h1 h9) (fun r V1 A1 h => ?_)
  rcases h with ⟨q, rfl, rfl, rfl⟩ | ⟨v, hv, rfl, F0, F1, hF0, rfl, h⟩
  · refine CQ.mono (c_Mo_nearest _ _ x n (by exact hn') h1 h9 E0 E hE0 (fun i _ => hE i)) (fun r' V2 A2 h2 => ?_)
    rcases h2 with ⟨q2, rfl, rfl, rfl⟩ | ⟨v, hv, rfl, -⟩
    · exact ⟨rfl, hI.thrown⟩
    · exact absurd ⟨nI_pos' (by omega), nI_lt hv (by omega)⟩ q
  · have hF0e : F0 = E0 := zRS_one hPP hF0.2 hE0.2
    have hA1 : (∀ f : Nat → Int32, True) := fun _ => trivial
    have main : ∀ A1 : zV, (A1 = A ∨ ∃ f, A1 = za A 32 f) → ((∃ d, d < n ∧ zNl E0 E n d v ∧ (∀ e, e < d → ¬ zNl E0 E n e v) ∧ r = nI d) ∨ ((∀ e, e < n → ¬ zNl E0 E n e v) ∧ r = (-1000000))) → CQ Y_Mo_nearest 10 [.ref 36, .int (nI v)] V1 A1 (fun r' V2 A2 => r = r' ∧ Inv SH TA FI KN (c + 1) V2 A2) := by
      intro A1 hA1 hr
      have hA38 : A1 38 = A 38 := by rcases hA1 with rfl | ⟨f, rfl⟩ <;> rfl
      refine CQ.mono (c_Mo_nearest _ _ (nI v) n (by exact hn') h1 h9 E0 E (by rw [hA38]; exact hE0) (by rw [hA38]; exact fun i _ => hE i)) (fun r' V2 A2 h2 => ?_)
      have hI2 : Inv SH TA FI KN (c + 1) (zv V1 36 0 0) A1 := by
        rcases hA1 with rfl | ⟨f, rfl⟩
        · exact hI.thrown
        · exact ⟨n, ch, ⟨⟨h1, h9⟩, hn, hn'⟩, hR, hL, hC, hP, hA, hW, hX, hQ, ⟨hch.1, by omega⟩, hT, hK⟩
      rcases h2 with ⟨q2, -⟩ | ⟨v', hv', he, h2, rfl, rfl⟩
      · exact absurd ⟨nI_pos' (by omega), nI_lt hv (by omega)⟩ q2
      · have hvv : v = v' := (nI_e (by omega) (by omega)).mp he
        subst hvv
        refine ⟨?_, hI2⟩
        rcases hr with ⟨d, hd, hnd, hmin, rfl⟩ | ⟨hno, rfl⟩
        · rcases h2 with ⟨d', hd', hnd', hmin', rfl⟩ | ⟨hno', -⟩
          · rcases Nat.lt_trichotomy d d' with w | w | w
            · exact absurd hnd (hmin' d w)
            · rw [w]
            · exact absurd hnd' (hmin d' w)
          · exact absurd hnd (hno' d hd)
        · rcases h2 with ⟨d', hd', hnd', -, -⟩ | ⟨-, rfl⟩
          · exact absurd hnd' (hno d' hd')
          · rfl
    rcases h with ⟨hz, rfl, rfl⟩ | ⟨hz, hF1, hf, h⟩
    · refine main _ (Or.inl rfl) (Or.inr ⟨fun e he hq => ?_, rfl⟩)
      rcases hz with w | w
      · exact hq.1.2.1 w
      · rw [hF0e] at w; exact w hq.1.2.2.1
    · have hFE : ∀ i, i < n → F1 i = E i := fun i hi => zRS_one hPP (hF1 i hi).2 (hE i).2
      rw [hF0e] at hz
      have hnr : ∀ d, d < n → (zNr F1 n d v ↔ zNl E0 E n d v) := by
        intro d hd
        rw [nl_iff h9 hE0.2 (fun i _ => (hE i).2) hv hz.2 d hd]
        have e1 : ∀ a b, a < n → (zLd F1 a b ↔ zLd E a b) := fun a b ha => by unfold zLd; rw [hFE a ha]
        unfold zNr
        rw [e1 d v hd]
        exact ⟨fun q => ⟨q.1, fun e he hne hl => (e1 e d he).mp (q.2 e he hne ((e1 e v he).mpr hl))⟩, fun q => ⟨q.1, fun e he hne hl => (e1 e d he).mpr (q.2 e he hne ((e1 e v he).mp hl))⟩⟩
      refine main _ (Or.inr hf) ?_
      rcases h with ⟨d, hd, h2, h3, rfl⟩ | ⟨h2, rfl⟩
      · exact Or.inl ⟨d, hd, (hnr d hd).mp h2, fun e he q => h3 e he ((hnr e (by omega)).mpr q), rfl⟩
      · exact Or.inr ⟨fun e he q => h2 e he ((hnr e he).mpr q), rfl⟩
end P7
