set_option maxRecDepth 100000 in
set_option maxHeartbeats 4000000 in
theorem c_Tre_choose (V A : zV) (a b : Nat) (n : Nat) (hn : V 1 4 = nI n) (h1 : 1 ≤ n) (h9 : n ≤ 9) (pt : Nat → Nat) (k : Nat) (hk : k < 9) (h5 : V 21 5 = nI k) (hpt : ∀ v, v < n → A 23 v = nI (pt v) ∧ pt v < 9) (ha : a < n) (hb : b < n) : CQ Y_Tre_choose 2 [.ref 21, .int (nI a), .int (nI b)] V A (fun r V' A' => r = 1 ∧ ∃ f, V' = zv (zv V 21 5 (nI (k + 1))) 21 6 (V 21 6 + (ECc (A 3) (A 22)) a b) ∧ A' = za (za (za A 24 (upd (A 24) k (nI a))) 25 (upd (A 25) k (nI b))) 23 f ∧ ∀ v, v < n → f v = nI (zMrg pt a b v)) := by
  have cb : (nI b).toNatClampNeg = b := nI_clamp (by omega)
  have ca : (nI a).toNatClampNeg = a := nI_clamp (by omega)
  have ck : (nI k).toNatClampNeg = k := nI_clamp (by omega)
  have hS : ∀ j, j ≤ n → ∀ f : Nat → Int32, (∀ v, v < n → f v = nI (if v < j then zMrg pt a b v else pt v)) → X Y_Tre_choose (zrm 2) (0, fun _ => 0) (zFq 2 (fun r V' A' => r = 1 ∧ ∃ f, V' = zv (zv V 21 5 (nI (k + 1))) 21 6 (V 21 6 + (ECc (A 3) (A 22)) a b) ∧ A' = za (za (za A 24 (upd (A 24) k (nI a))) 25 (upd (A 25) k (nI b))) 23 f ∧ ∀ v, v < n → f v = nI (zMrg pt a b v))) 66 [.ref 21, .int (nI a), .int (nI b), .int (nI (pt b)), .int (nI j)] [] (cells (zv (zv V 21 5 (nI (k + 1))) 21 6 (V 21 6 + (ECc (A 3) (A 22)) a b)) (za (za (za A 24 (upd (A 24) k (nI a))) 25 (upd (A 25) k (nI b))) 23 f)) 0 0 := by
    refine z_down (fun f hf => ?_) (fun j hj hs f hf => ?_)
    · refine x_iload (pc := 66) d_Tre_choose_66 rfl ?_
      refine x_aload_n (pc := 68) d_Tre_choose_68 rfl ?_
      refine x_get (pc := 69) (j := 0) d_Tre_choose_69 f_Tre_31 rfl rfl (Nat.le_of_ble_eq_true rfl) rfl rfl rfl ?_
      refine x_get (pc := 72) (j := 4) d_Tre_choose_72 f_Tre_35 rfl rfl (Nat.le_of_ble_eq_true rfl) rfl rfl rfl ?_
      refine x_icmp_ge (pc := 75) (tgt := 108) d_Tre_choose_75 (by decide) (fun h75 => ?_) (fun h => by change ¬ V 1 4 ≤ _ at h; rw [hn] at h; exact absurd (nI_le (by omega) (by omega)) h)
      refine x_iconst (pc := 108) (v := 1) d_Tre_choose_108 (by decide) ?_
      refine y_zret (pc := 109) d_Tre_choose_109 rfl rfl ?_
      exact ⟨rfl, f, rfl, rfl, fun v hv => by rw [hf v hv, if_pos hv]⟩
    · have cj : (nI j).toNatClampNeg = j := nI_clamp (by omega)
      have hfj := hf j hj
      rw [if_neg (Nat.lt_irrefl j)] at hfj
      have hfa : f a = nI (pt a) := by
        rw [hf a ha]; unfold zMrg; split <;> (try split) <;> rfl
      refine x_iload (pc := 66) d_Tre_choose_66 rfl ?_
      refine x_aload_n (pc := 68) d_Tre_choose_68 rfl ?_
      refine x_get (pc := 69) (j := 0) d_Tre_choose_69 f_Tre_31 rfl rfl (Nat.le_of_ble_eq_true rfl) rfl rfl rfl ?_
      refine x_get (pc := 72) (j := 4) d_Tre_choose_72 f_Tre_35 rfl rfl (Nat.le_of_ble_eq_true rfl) rfl rfl rfl ?_
      refine x_icmp_ge (pc := 75) (tgt := 108) d_Tre_choose_75 (by decide) (fun h => by change V 1 4 ≤ _ at h; rw [hn] at h; exact absurd h (nI_ge (by omega) (by omega))) (fun h75 => ?_)
      refine x_aload_n (pc := 78) d_Tre_choose_78 rfl ?_
      refine x_get (pc := 79) (j := 2) d_Tre_choose_79 f_Tre_15 rfl rfl (Nat.le_of_ble_eq_true rfl) rfl rfl rfl ?_
      refine x_iload (pc := 82) d_Tre_choose_82 rfl ?_
      refine x_iald (pc := 84) d_Tre_choose_84 rfl (vp_in_nI (by omega) (by decide)) ?_
      refine x_iload_n (pc := 85) d_Tre_choose_85 rfl ?_
      refine x_icmp_ne (pc := 86) (tgt := 102) d_Tre_choose_86 (by decide) (fun h86 => ?_) (fun h86 => ?_)
      · refine y_inc4 (pc := 102) (v := 1) d_Tre_choose_102 (by decide) ?_
        refine x_goto (pc := 105) (tgt := 66) d_Tre_choose_105 (by decide) ?_
        have h86 : ¬ f (nI j).toNatClampNeg = nI (pt b) := h86
        rw [cj, hfj, nI_eq (by have := (hpt j hj).2; omega) (by have := (hpt b hb).2; omega)] at h86
        rw [show nI j + 1 = nI (j + 1) from (nI_succ j).symm]
        refine hs f (fun v hv => ?_)
        rw [hf v hv]
        by_cases hvj : v = j
        · rw [hvj, if_neg (Nat.lt_irrefl j), if_pos (Nat.lt_succ_self j)]; unfold zMrg; rw [if_neg h86]
        · by_cases hlt : v < j
          · rw [if_pos hlt, if_pos (by omega)]
          · rw [if_neg hlt, if_neg (by omega)]
      · refine x_aload_n (pc := 89) d_Tre_choose_89 rfl ?_
        refine x_get (pc := 90) (j := 2) d_Tre_choose_90 f_Tre_15 rfl rfl (Nat.le_of_ble_eq_true rfl) rfl rfl rfl ?_
        refine x_iload (pc := 93) d_Tre_choose_93 rfl ?_
        refine x_aload_n (pc := 95) d_Tre_choose_95 rfl ?_
        refine x_get (pc := 96) (j := 2) d_Tre_choose_96 f_Tre_15 rfl rfl (Nat.le_of_ble_eq_true rfl) rfl rfl rfl ?_
        refine x_iload_n (pc := 99) d_Tre_choose_99 rfl ?_
        refine x_iald (pc := 100) d_Tre_choose_100 rfl (vp_in_nI (by omega) (by decide)) ?_
        refine y_iast (pc := 101) d_Tre_choose_101 rfl (fun _ => rfl) (vp_in_nI (by omega) (by decide)) ?_
        refine y_inc4 (pc := 102) (v := 1) d_Tre_choose_102 (by decide) ?_
        refine x_goto (pc := 105) (tgt := 66) d_Tre_choose_105 (by decide) ?_
        have h86 : f (nI j).toNatClampNeg = nI (pt b) := h86
        rw [cj, hfj, nI_eq (by have := (hpt j hj).2; omega) (by have := (hpt b hb).2; omega)] at h86
        rw [show nI j + 1 = nI (j + 1) from (nI_succ j).symm, za_za]
        refine hs _ (fun v hv => ?_)
        show upd f (nI j).toNatClampNeg (f (nI a).toNatClampNeg) v = _
        rw [cj, ca, hfa]
        by_cases hvj : v = j
        · rw [hvj, upd_at, if_pos (Nat.lt_succ_self j)]; unfold zMrg; rw [if_pos h86]
        · rw [upd_ne _ _ hvj, hf v hv]
          by_cases hlt : v < j
          · rw [if_pos hlt, if_pos (by omega)]
          · rw [if_neg hlt, if_neg (by omega)]
  refine CQ.of (lv := [.ref 21, .int (nI a), .int (nI b), zu, zu]) k_Tre_choose.1 rfl (by decide) rfl rfl (Nat.le_of_ble_eq_true rfl) ?_
  refine x_aload_n (pc := 0) d_Tre_choose_0 rfl ?_
  refine x_get (pc := 1) (j := 5) d_Tre_choose_1 f_Tre_24 rfl rfl (Nat.le_of_ble_eq_true rfl) rfl rfl rfl ?_
  refine x_bipush (pc := 4) (v := 9) d_Tre_choose_4 (by decide) ?_
  refine x_icmp_lt (pc := 6) (tgt := 11) d_Tre_choose_6 (by decide) (fun h6 => ?_) (fun h => by rw [show V 21 5 = nI k from h5] at h; exact absurd (nI_lt (b := 9) hk (by decide)) h)
  refine x_aload_n (pc := 11) d_Tre_choose_11 rfl ?_
  refine x_get (pc := 12) (j := 3) d_Tre_choose_12 f_Tre_18 rfl rfl (Nat.le_of_ble_eq_true rfl) rfl rfl rfl ?_
  refine x_aload_n (pc := 15) d_Tre_choose_15 rfl ?_
  refine x_get (pc := 16) (j := 5) d_Tre_choose_16 f_Tre_24 rfl rfl (Nat.le_of_ble_eq_true rfl) rfl rfl rfl ?_
  refine x_iload_n (pc := 19) d_Tre_choose_19 rfl ?_
  refine y_iast (pc := 20) d_Tre_choose_20 rfl (fun _ => rfl) (by rw [show V 21 5 = nI k from h5]; exact vp_in_nI (by omega) (by decide)) ?_
  refine x_aload_n (pc := 21) d_Tre_choose_21 rfl ?_
  refine x_get (pc := 22) (j := 4) d_Tre_choose_22 f_Tre_21 rfl rfl (Nat.le_of_ble_eq_true rfl) rfl rfl rfl ?_
  refine x_aload_n (pc := 25) d_Tre_choose_25 rfl ?_
  refine x_get (pc := 26) (j := 5) d_Tre_choose_26 f_Tre_24 rfl rfl (Nat.le_of_ble_eq_true rfl) rfl rfl rfl ?_
  refine x_iload_n (pc := 29) d_Tre_choose_29 rfl ?_
  refine y_iast (pc := 30) d_Tre_choose_30 rfl (fun _ => rfl) (by rw [show V 21 5 = nI k from h5]; exact vp_in_nI (by omega) (by decide)) ?_
  refine x_aload_n (pc := 31) d_Tre_choose_31 rfl ?_
  refine x_dup (pc := 32) d_Tre_choose_32 rfl ?_
  refine x_get (pc := 33) (j := 5) d_Tre_choose_33 f_Tre_24 rfl rfl (Nat.le_of_ble_eq_true rfl) rfl rfl rfl ?_
  refine x_iconst (pc := 36) (v := 1) d_Tre_choose_36 (by decide) ?_
  refine x_iadd (pc := 37) d_Tre_choose_37 ?_
  refine y_put (pc := 38) (j := 5) d_Tre_choose_38 f_Tre_24 rfl rfl (Nat.le_of_ble_eq_true rfl) rfl (Nat.le_of_ble_eq_true rfl) rfl rfl (fun _ => rfl) ?_
  refine x_aload_n (pc := 41) d_Tre_choose_41 rfl ?_
  refine x_dup (pc := 42) d_Tre_choose_42 rfl ?_
  refine x_get (pc := 43) (j := 6) d_Tre_choose_43 f_Tre_28 rfl rfl (Nat.le_of_ble_eq_true rfl) rfl rfl rfl ?_
  refine x_aload_n (pc := 46) d_Tre_choose_46 rfl ?_
  refine x_iload_n (pc := 47) d_Tre_choose_47 rfl ?_
  refine x_iload_n (pc := 48) d_Tre_choose_48 rfl ?_
  refine y_fV (pc := 49) (c_Tre_edgeCost _ _ a b (by omega) (by omega)) k_Tre_edgeCost d_Tre_choose_49 m_Tre_61 (by decide) rfl rfl rfl rfl p_Tre_edgeCost (K := ?_)
  refine x_iadd (pc := 52) d_Tre_choose_52 ?_
  refine y_put (pc := 53) (j := 6) d_Tre_choose_53 f_Tre_28 rfl rfl (Nat.le_of_ble_eq_true rfl) rfl (Nat.le_of_ble_eq_true rfl) rfl rfl (fun _ => rfl) ?_
  refine x_aload_n (pc := 56) d_Tre_choose_56 rfl ?_
  refine x_get (pc := 57) (j := 2) d_Tre_choose_57 f_Tre_15 rfl rfl (Nat.le_of_ble_eq_true rfl) rfl rfl rfl ?_
  refine x_iload_n (pc := 60) d_Tre_choose_60 rfl ?_
  refine x_iald (pc := 61) d_Tre_choose_61 rfl (vp_in_nI (by omega) (by decide)) ?_
  refine y_ist3 (pc := 62) d_Tre_choose_62 ?_
  refine x_iconst (pc := 63) (v := 0) d_Tre_choose_63 (by decide) ?_
  refine y_ist4 (pc := 64) d_Tre_choose_64 ?_
  have hz := hS 0 (Nat.zero_le _) (A 23) (fun v hv => by rw [if_neg (Nat.not_lt_zero v)]; exact (hpt v hv).1)
  refine Eq.mp ?_ hz
  have e1 : A 23 (nI b).toNatClampNeg = nI (pt b) := by rw [cb]; exact (hpt b hb).1
  have e2 : V 21 5 + 1 = nI (k + 1) := by rw [h5]; exact (nI_succ k).symm
  rw [← e2, ← e1]
  congr 1
  show cells _ _ = cells _ _
  congr 1
  show _ = za (za A 24 (upd (A 24) (V 21 5).toNatClampNeg (nI a))) 25 (upd (A 25) (V 21 5).toNatClampNeg (nI b))
  rw [h5, ck]
  funext i j
  by_cases hi : i = 23
  · subst hi; rfl
  · rw [za_eq]; simp [hi]
set_option maxRecDepth 100000 in
set_option maxHeartbeats 4000000 in
theorem c_Tre_chooseJoining (V A : zV)  (n : Nat) (hn : V 1 4 = nI n) (h1 : 1 ≤ n) (h9 : n ≤ 9) (pt : Nat → Nat) (k : Nat) (hk : k < 9) (h5 : V 21 5 = nI k) (hpt : ∀ v, v < n → A 23 v = nI (pt v) ∧ pt v < 9) (hec : ∀ a b, a < n → b < n → ECc (A 3) (A 22) a b = 1000000000 ∨ ECc (A 3) (A 22) a b < 1000000000) : CQ Y_Tre_chooseJoining 3 [.ref 21] V A (fun r V' A' => (∃ o, zOut (zPj (ECc (A 3) (A 22)) 1000000000 n pt) (ECc (A 3) (A 22)) o ∧ ((o = none ∧ r = 0 ∧ V' = V ∧ A' = A) ∨ ∃ a b, o = some (a, b) ∧ r = 1 ∧ ∃ f, V' = zv (zv V 21 5 (nI (k + 1))) 21 6 (V 21 6 + (ECc (A 3) (A 22)) a b) ∧ A' = za (za (za A 24 (upd (A 24) k (nI a))) 25 (upd (A 25) k (nI b))) 23 f ∧ ∀ v, v < n → f v = nI (zMrg pt a b v)))) := by
  have hE : ∀ o, zOut (zPj (ECc (A 3) (A 22)) 1000000000 n pt) (ECc (A 3) (A 22)) o → ∀ p q : Value, p.category = 1 → q.category = 1 → X Y_Tre_chooseJoining (zrm 3) (0, fun _ => 0) (zFq 3 (fun r V' A' => (∃ o, zOut (zPj (ECc (A 3) (A 22)) 1000000000 n pt) (ECc (A 3) (A 22)) o ∧ ((o = none ∧ r = 0 ∧ V' = V ∧ A' = A) ∨ ∃ a b, o = some (a, b) ∧ r = 1 ∧ ∃ f, V' = zv (zv V 21 5 (nI (k + 1))) 21 6 (V 21 6 + (ECc (A 3) (A 22)) a b) ∧ A' = za (za (za A 24 (upd (A 24) k (nI a))) 25 (upd (A 25) k (nI b))) 23 f ∧ ∀ v, v < n → f v = nI (zMrg pt a b v))))) 96 [.ref 21, .int (zoL (ECc (A 3) (A 22)) o), .int (zoF 0 o), .int (zoT 0 o), p, q] [] (cells V A) 0 0 := by
    intro o ho p q hp hq
    cases o with
    | none =>
      refine x_iload_n (pc := 96) d_Tre_chooseJoining_96 rfl ?_
      refine x_ldc (pc := 97) (v := 1000000000) d_Tre_chooseJoining_97 i_Tre_60 ?_
      refine x_icmp_eq (pc := 99) (tgt := 115) d_Tre_chooseJoining_99 (by decide) (fun h99 => ?_) (fun h => absurd rfl h)
      refine x_iconst (pc := 115) (v := 0) d_Tre_chooseJoining_115 (by decide) ?_
      refine y_zret (pc := 116) d_Tre_chooseJoining_116 rfl rfl ?_
      exact ⟨none, ho, Or.inl ⟨rfl, rfl, rfl, rfl⟩⟩
    | some e =>
      have hPe := ho.1
      refine x_iload_n (pc := 96) d_Tre_chooseJoining_96 rfl ?_
      refine x_ldc (pc := 97) (v := 1000000000) d_Tre_chooseJoining_97 i_Tre_60 ?_
      refine x_icmp_eq (pc := 99) (tgt := 115) d_Tre_chooseJoining_99 (by decide) (fun h => absurd h hPe.2.2.2.2) (fun h99 => ?_)
      refine x_aload_n (pc := 102) d_Tre_chooseJoining_102 rfl ?_
      refine x_iload_n (pc := 103) d_Tre_chooseJoining_103 rfl ?_
      refine x_iload_n (pc := 104) d_Tre_chooseJoining_104 rfl ?_
      refine y_callV (pc := 105) (c_Tre_choose _ _ e.1 e.2 n hn h1 h9 pt k hk h5 hpt (by have := hPe.2.1; have := hPe.2.2.1; omega) hPe.2.2.1) k_Tre_choose d_Tre_chooseJoining_105 m_Tre_64 (by decide) rfl rfl rfl rfl p_Tre_choose (K := fun v' V' A' hq => ?_)
      obtain ⟨rfl, hq⟩ := hq
      refine x_if_eq (pc := 108) (tgt := 115) d_Tre_chooseJoining_108 (by decide) (fun h => absurd h (by decide)) (fun h108 => ?_)
      refine x_iconst (pc := 111) (v := 1) d_Tre_chooseJoining_111 (by decide) ?_
      refine x_goto (pc := 112) (tgt := 116) d_Tre_chooseJoining_112 (by decide) ?_
      refine y_zret (pc := 116) d_Tre_chooseJoining_116 rfl rfl ?_
      exact ⟨some e, ho, Or.inr ⟨e.1, e.2, rfl, rfl, hq⟩⟩
  have hA : ∀ a, a ≤ n → 1 ≤ a → ∀ o, zSc (zPj (ECc (A 3) (A 22)) 1000000000 n pt) (ECc (A 3) (A 22)) a (a + 1) o → ∀ q : Value, q.category = 1 → X Y_Tre_chooseJoining (zrm 3) (0, fun _ => 0) (zFq 3 (fun r V' A' => (∃ o, zOut (zPj (ECc (A 3) (A 22)) 1000000000 n pt) (ECc (A 3) (A 22)) o ∧ ((o = none ∧ r = 0 ∧ V' = V ∧ A' = A) ∨ ∃ a b, o = some (a, b) ∧ r = 1 ∧ ∃ f, V' = zv (zv V 21 5 (nI (k + 1))) 21 6 (V 21 6 + (ECc (A 3) (A 22)) a b) ∧ A' = za (za (za A 24 (upd (A 24) k (nI a))) 25 (upd (A 25) k (nI b))) 23 f ∧ ∀ v, v < n → f v = nI (zMrg pt a b v))))) 10 [.ref 21, .int (zoL (ECc (A 3) (A 22)) o), .int (zoF 0 o), .int (zoT 0 o), .int (nI a), q] [] (cells V A) 0 0 := by
    refine z_down (fun _ o ho q hq => ?_) (fun a ha ih h1a o ho q hq => ?_)
    · refine x_iload (pc := 10) d_Tre_chooseJoining_10 rfl ?_
      refine x_aload_n (pc := 12) d_Tre_chooseJoining_12 rfl ?_
      refine x_get (pc := 13) (j := 0) d_Tre_chooseJoining_13 f_Tre_31 rfl rfl (Nat.le_of_ble_eq_true rfl) rfl rfl rfl ?_
      refine x_get (pc := 16) (j := 4) d_Tre_chooseJoining_16 f_Tre_35 rfl rfl (Nat.le_of_ble_eq_true rfl) rfl rfl rfl ?_
      refine x_icmp_ge (pc := 19) (tgt := 96) d_Tre_chooseJoining_19 (by decide) (fun h19 => ?_) (fun h => by change ¬ V 1 4 ≤ _ at h; rw [hn] at h; exact absurd (nI_le (by omega) (by omega)) h)
      exact hE o (zSc_end ho (fun a' b' h => Or.inl (by have := h.2.1; have := h.2.2.1; omega))) _ _ rfl hq
    · have hB : ∀ b, b ≤ n → a < b → ∀ o, zSc (zPj (ECc (A 3) (A 22)) 1000000000 n pt) (ECc (A 3) (A 22)) a b o → X Y_Tre_chooseJoining (zrm 3) (0, fun _ => 0) (zFq 3 (fun r V' A' => (∃ o, zOut (zPj (ECc (A 3) (A 22)) 1000000000 n pt) (ECc (A 3) (A 22)) o ∧ ((o = none ∧ r = 0 ∧ V' = V ∧ A' = A) ∨ ∃ a b, o = some (a, b) ∧ r = 1 ∧ ∃ f, V' = zv (zv V 21 5 (nI (k + 1))) 21 6 (V 21 6 + (ECc (A 3) (A 22)) a b) ∧ A' = za (za (za A 24 (upd (A 24) k (nI a))) 25 (upd (A 25) k (nI b))) 23 f ∧ ∀ v, v < n → f v = nI (zMrg pt a b v))))) 28 [.ref 21, .int (zoL (ECc (A 3) (A 22)) o), .int (zoF 0 o), .int (zoT 0 o), .int (nI a), .int (nI b)] [] (cells V A) 0 0 := by
        refine z_down (fun _ o ho => ?_) (fun b hb ihb hab o ho => ?_)
        · refine x_iload (pc := 28) d_Tre_chooseJoining_28 rfl ?_
          refine x_aload_n (pc := 30) d_Tre_chooseJoining_30 rfl ?_
          refine x_get (pc := 31) (j := 0) d_Tre_chooseJoining_31 f_Tre_31 rfl rfl (Nat.le_of_ble_eq_true rfl) rfl rfl rfl ?_
          refine x_get (pc := 34) (j := 4) d_Tre_chooseJoining_34 f_Tre_35 rfl rfl (Nat.le_of_ble_eq_true rfl) rfl rfl rfl ?_
          refine x_icmp_ge (pc := 37) (tgt := 90) d_Tre_chooseJoining_37 (by decide) (fun h37 => ?_) (fun h => by change ¬ V 1 4 ≤ _ at h; rw [hn] at h; exact absurd (nI_le (by omega) (by omega)) h)
          refine y_inc4 (pc := 90) (v := 1) d_Tre_chooseJoining_90 (by decide) ?_
          refine x_goto (pc := 93) (tgt := 10) d_Tre_chooseJoining_93 (by decide) ?_
          rw [show nI a + 1 = nI (a + 1) from (nI_succ a).symm]
          exact ih (by omega) o (zSc_to ho (fun a' b' h => by have := h.2.1; have := h.2.2.1; unfold zbf; omega)) _ rfl
        · have ca : (nI a).toNatClampNeg = a := nI_clamp (by omega)
          have cb : (nI b).toNatClampNeg = b := nI_clamp (by omega)
          have hpa := hpt a ha
          have hpb := hpt b hb
          have hlt := hec a b (by omega) hb
          refine x_iload (pc := 28) d_Tre_chooseJoining_28 rfl ?_
          refine x_aload_n (pc := 30) d_Tre_chooseJoining_30 rfl ?_
          refine x_get (pc := 31) (j := 0) d_Tre_chooseJoining_31 f_Tre_31 rfl rfl (Nat.le_of_ble_eq_true rfl) rfl rfl rfl ?_
          refine x_get (pc := 34) (j := 4) d_Tre_chooseJoining_34 f_Tre_35 rfl rfl (Nat.le_of_ble_eq_true rfl) rfl rfl rfl ?_
          refine x_icmp_ge (pc := 37) (tgt := 90) d_Tre_chooseJoining_37 (by decide) (fun h => by change V 1 4 ≤ _ at h; rw [hn] at h; exact absurd h (nI_ge (by omega) (by omega))) (fun h37 => ?_)
          refine x_aload_n (pc := 40) d_Tre_chooseJoining_40 rfl ?_
          refine x_get (pc := 41) (j := 2) d_Tre_chooseJoining_41 f_Tre_15 rfl rfl (Nat.le_of_ble_eq_true rfl) rfl rfl rfl ?_
          refine x_iload (pc := 44) d_Tre_chooseJoining_44 rfl ?_
          refine x_iald (pc := 46) d_Tre_chooseJoining_46 rfl (vp_in_nI (by omega) (by decide)) ?_
          refine x_aload_n (pc := 47) d_Tre_chooseJoining_47 rfl ?_
          refine x_get (pc := 48) (j := 2) d_Tre_chooseJoining_48 f_Tre_15 rfl rfl (Nat.le_of_ble_eq_true rfl) rfl rfl rfl ?_
          refine x_iload (pc := 51) d_Tre_chooseJoining_51 rfl ?_
          refine x_iald (pc := 53) d_Tre_chooseJoining_53 rfl (vp_in_nI (by omega) (by decide)) ?_
          refine x_icmp_eq (pc := 54) (tgt := 84) d_Tre_chooseJoining_54 (by decide) (fun h54 => ?_) (fun h54 => ?_)
          · refine y_inc5 (pc := 84) (v := 1) d_Tre_chooseJoining_84 (by decide) ?_
            refine x_goto (pc := 87) (tgt := 28) d_Tre_chooseJoining_87 (by decide) ?_
            rw [ca, cb, hpa.1, hpb.1, nI_e hpa.2 hpb.2] at h54
            rw [show nI b + 1 = nI (b + 1) from (nI_succ b).symm]
            refine ihb (by omega) o (zSc_skip ho (fun q => absurd h54 q.2.2.2.1))
          · refine x_aload_n (pc := 57) d_Tre_chooseJoining_57 rfl ?_
            refine x_iload (pc := 58) d_Tre_chooseJoining_58 rfl ?_
            refine x_iload (pc := 60) d_Tre_chooseJoining_60 rfl ?_
            refine y_fV (pc := 62) (c_Tre_edgeCost _ _ a b (by omega) (by omega)) k_Tre_edgeCost d_Tre_chooseJoining_62 m_Tre_61 (by decide) rfl rfl rfl rfl p_Tre_edgeCost (K := ?_)
            refine x_iload_n (pc := 65) d_Tre_chooseJoining_65 rfl ?_
            refine x_icmp_ge (pc := 66) (tgt := 84) d_Tre_chooseJoining_66 (by decide) (fun h66 => ?_) (fun h66 => ?_)
            · refine y_inc5 (pc := 84) (v := 1) d_Tre_chooseJoining_84 (by decide) ?_
              refine x_goto (pc := 87) (tgt := 28) d_Tre_chooseJoining_87 (by decide) ?_
              rw [show nI b + 1 = nI (b + 1) from (nI_succ b).symm]
              refine ihb (by omega) o (zSc_skip ho (fun q => ?_))
              cases o with
              | none =>
                rcases hlt with w | w
                · exact absurd w q.2.2.2.2
                · exact absurd h66 (Int32.not_le.mpr w)
              | some e => exact ⟨e, rfl, Int32.not_lt.mpr h66⟩
            · refine x_aload_n (pc := 69) d_Tre_chooseJoining_69 rfl ?_
              refine x_iload (pc := 70) d_Tre_chooseJoining_70 rfl ?_
              refine x_iload (pc := 72) d_Tre_chooseJoining_72 rfl ?_
              refine y_fV (pc := 74) (c_Tre_edgeCost _ _ a b (by omega) (by omega)) k_Tre_edgeCost d_Tre_chooseJoining_74 m_Tre_61 (by decide) rfl rfl rfl rfl p_Tre_edgeCost (K := ?_)
              refine y_ist1 (pc := 77) d_Tre_chooseJoining_77 ?_
              refine x_iload (pc := 78) d_Tre_chooseJoining_78 rfl ?_
              refine y_ist2 (pc := 80) d_Tre_chooseJoining_80 ?_
              refine x_iload (pc := 81) d_Tre_chooseJoining_81 rfl ?_
              refine y_ist3 (pc := 83) d_Tre_chooseJoining_83 ?_
              refine y_inc5 (pc := 84) (v := 1) d_Tre_chooseJoining_84 (by decide) ?_
              refine x_goto (pc := 87) (tgt := 28) d_Tre_chooseJoining_87 (by decide) ?_
              rw [ca, cb, hpa.1, hpb.1, nI_e hpa.2 hpb.2] at h54
              have h66 := Int32.not_le.mp h66
              rw [show nI b + 1 = nI (b + 1) from (nI_succ b).symm]
              refine ihb (by omega) (some (a, b)) (zSc_take ho ⟨h1a, hab, hb, h54, fun w => ?_⟩ (fun e he => by rw [he] at h66; exact h66))
              rw [w] at h66
              cases o with
              | none => exact Int32.lt_irrefl h66
              | some e =>
                have hP := zSc_P ho
                rcases hec e.1 e.2 (by have := hP.2.1; have := hP.2.2.1; omega) hP.2.2.1 with z | z
                · exact hP.2.2.2.2 z
                · have h66 : (1000000000 : Int32) < (ECc (A 3) (A 22)) e.1 e.2 := h66
                  exact Int32.lt_irrefl (Int32.lt_trans z h66)
      refine x_iload (pc := 10) d_Tre_chooseJoining_10 rfl ?_
      refine x_aload_n (pc := 12) d_Tre_chooseJoining_12 rfl ?_
      refine x_get (pc := 13) (j := 0) d_Tre_chooseJoining_13 f_Tre_31 rfl rfl (Nat.le_of_ble_eq_true rfl) rfl rfl rfl ?_
      refine x_get (pc := 16) (j := 4) d_Tre_chooseJoining_16 f_Tre_35 rfl rfl (Nat.le_of_ble_eq_true rfl) rfl rfl rfl ?_
      refine x_icmp_ge (pc := 19) (tgt := 96) d_Tre_chooseJoining_19 (by decide) (fun h => by change V 1 4 ≤ _ at h; rw [hn] at h; exact absurd h (nI_ge (by omega) (by omega))) (fun h19 => ?_)
      refine x_iload (pc := 22) d_Tre_chooseJoining_22 rfl ?_
      refine x_iconst (pc := 24) (v := 1) d_Tre_chooseJoining_24 (by decide) ?_
      refine x_iadd (pc := 25) d_Tre_chooseJoining_25 ?_
      refine y_ist5 (pc := 26) d_Tre_chooseJoining_26 ?_
      rw [show nI a + 1 = nI (a + 1) from (nI_succ a).symm]
      exact hB (a + 1) (by omega) (by omega) o ho
  refine CQ.of (lv := [.ref 21, zu, zu, zu, zu, zu]) k_Tre_chooseJoining.1 rfl (by decide) rfl rfl (Nat.le_of_ble_eq_true rfl) ?_
  refine x_ldc (pc := 0) (v := 1000000000) d_Tre_chooseJoining_0 i_Tre_60 ?_
  refine y_ist1 (pc := 2) d_Tre_chooseJoining_2 ?_
  refine x_iconst (pc := 3) (v := 0) d_Tre_chooseJoining_3 (by decide) ?_
  refine y_ist2 (pc := 4) d_Tre_chooseJoining_4 ?_
  refine x_iconst (pc := 5) (v := 0) d_Tre_chooseJoining_5 (by decide) ?_
  refine y_ist3 (pc := 6) d_Tre_chooseJoining_6 ?_
  refine x_iconst (pc := 7) (v := 1) d_Tre_chooseJoining_7 (by decide) ?_
  refine y_ist4 (pc := 8) d_Tre_chooseJoining_8 ?_
  exact hA 1 h1 (Nat.le_refl 1) none (zSc_0 (fun a' b' h => by have := h.1; have := h.2.1; unfold zbf; omega)) _ rfl
set_option maxRecDepth 100000 in
set_option maxHeartbeats 4000000 in
theorem c_Tre_chooseAtHouse (V A : zV) (u : Nat) (n : Nat) (hn : V 1 4 = nI n) (h1 : 1 ≤ n) (h9 : n ≤ 9) (pt : Nat → Nat) (k : Nat) (hk : k < 9) (h5 : V 21 5 = nI k) (hpt : ∀ v, v < n → A 23 v = nI (pt v) ∧ pt v < 9) (hec : ∀ a b, a < n → b < n → ECc (A 3) (A 22) a b = 1000000000 ∨ ECc (A 3) (A 22) a b < 1000000000) (hu : u < 9) : CQ Y_Tre_chooseAtHouse 3 [.ref 21, .int (nI u)] V A (fun r V' A' => (∃ o, zOut (zPh (ECc (A 3) (A 22)) 1000000000 n u) (ECc (A 3) (A 22)) o ∧ ((o = none ∧ r = 0 ∧ V' = V ∧ A' = A) ∨ ∃ b, o = some (0, b) ∧ r = 1 ∧ ∃ f, V' = zv (zv V 21 5 (nI (k + 1))) 21 6 (V 21 6 + (ECc (A 3) (A 22)) 0 b) ∧ A' = za (za (za A 24 (upd (A 24) k (nI 0))) 25 (upd (A 25) k (nI b))) 23 f ∧ ∀ v, v < n → f v = nI (zMrg pt 0 b v)))) := by
  have hE : ∀ o, zOut (zPh (ECc (A 3) (A 22)) 1000000000 n u) (ECc (A 3) (A 22)) o → ∀ q : Value, q.category = 1 → X Y_Tre_chooseAtHouse (zrm 3) (0, fun _ => 0) (zFq 3 (fun r V' A' => (∃ o, zOut (zPh (ECc (A 3) (A 22)) 1000000000 n u) (ECc (A 3) (A 22)) o ∧ ((o = none ∧ r = 0 ∧ V' = V ∧ A' = A) ∨ ∃ b, o = some (0, b) ∧ r = 1 ∧ ∃ f, V' = zv (zv V 21 5 (nI (k + 1))) 21 6 (V 21 6 + (ECc (A 3) (A 22)) 0 b) ∧ A' = za (za (za A 24 (upd (A 24) k (nI 0))) 25 (upd (A 25) k (nI b))) 23 f ∧ ∀ v, v < n → f v = nI (zMrg pt 0 b v))))) 54 [.ref 21, .int (nI u), .int (zoL (ECc (A 3) (A 22)) o), .int (zoT 0 o), q] [] (cells V A) 0 0 := by
    intro o ho q hq
    cases o with
    | none =>
      refine x_iload_n (pc := 54) d_Tre_chooseAtHouse_54 rfl ?_
      refine x_ldc (pc := 55) (v := 1000000000) d_Tre_chooseAtHouse_55 i_Tre_60 ?_
      refine x_icmp_eq (pc := 57) (tgt := 73) d_Tre_chooseAtHouse_57 (by decide) (fun h57 => ?_) (fun h => absurd rfl h)
      refine x_iconst (pc := 73) (v := 0) d_Tre_chooseAtHouse_73 (by decide) ?_
      refine y_zret (pc := 74) d_Tre_chooseAtHouse_74 rfl rfl ?_
      exact ⟨none, ho, Or.inl ⟨rfl, rfl, rfl, rfl⟩⟩
    | some e =>
      have hPe := ho.1
      obtain ⟨e1, e2⟩ := e
      have h0 : e1 = 0 := hPe.1
      subst h0
      have hlt : e2 < n := hPe.2.2.1
      refine x_iload_n (pc := 54) d_Tre_chooseAtHouse_54 rfl ?_
      refine x_ldc (pc := 55) (v := 1000000000) d_Tre_chooseAtHouse_55 i_Tre_60 ?_
      refine x_icmp_eq (pc := 57) (tgt := 73) d_Tre_chooseAtHouse_57 (by decide) (fun h => absurd h hPe.2.2.2.2) (fun h57 => ?_)
      refine x_aload_n (pc := 60) d_Tre_chooseAtHouse_60 rfl ?_
      refine x_iconst (pc := 61) (v := 0) d_Tre_chooseAtHouse_61 (by decide) ?_
      refine x_iload_n (pc := 62) d_Tre_chooseAtHouse_62 rfl ?_
      refine y_callV (pc := 63) (c_Tre_choose _ _ 0 e2 n hn h1 h9 pt k hk h5 hpt (by omega) hlt) k_Tre_choose d_Tre_chooseAtHouse_63 m_Tre_64 (by decide) rfl rfl rfl rfl p_Tre_choose (K := fun v' V' A' hq => ?_)
      obtain ⟨rfl, hq⟩ := hq
      refine x_if_eq (pc := 66) (tgt := 73) d_Tre_chooseAtHouse_66 (by decide) (fun h => absurd h (by decide)) (fun h66 => ?_)
      refine x_iconst (pc := 69) (v := 1) d_Tre_chooseAtHouse_69 (by decide) ?_
      refine x_goto (pc := 70) (tgt := 74) d_Tre_chooseAtHouse_70 (by decide) ?_
      refine y_zret (pc := 74) d_Tre_chooseAtHouse_74 rfl rfl ?_
      exact ⟨some (0, e2), ho, Or.inr ⟨e2, rfl, rfl, hq⟩⟩
  have hB : ∀ b, b ≤ n → 1 ≤ b → ∀ o, zSc (zPh (ECc (A 3) (A 22)) 1000000000 n u) (ECc (A 3) (A 22)) 0 b o → X Y_Tre_chooseAtHouse (zrm 3) (0, fun _ => 0) (zFq 3 (fun r V' A' => (∃ o, zOut (zPh (ECc (A 3) (A 22)) 1000000000 n u) (ECc (A 3) (A 22)) o ∧ ((o = none ∧ r = 0 ∧ V' = V ∧ A' = A) ∨ ∃ b, o = some (0, b) ∧ r = 1 ∧ ∃ f, V' = zv (zv V 21 5 (nI (k + 1))) 21 6 (V 21 6 + (ECc (A 3) (A 22)) 0 b) ∧ A' = za (za (za A 24 (upd (A 24) k (nI 0))) 25 (upd (A 25) k (nI b))) 23 f ∧ ∀ v, v < n → f v = nI (zMrg pt 0 b v))))) 8 [.ref 21, .int (nI u), .int (zoL (ECc (A 3) (A 22)) o), .int (zoT 0 o), .int (nI b)] [] (cells V A) 0 0 := by
    refine z_down (fun _ o ho => ?_) (fun b hb ihb h1b o ho => ?_)
    · refine x_iload (pc := 8) d_Tre_chooseAtHouse_8 rfl ?_
      refine x_aload_n (pc := 10) d_Tre_chooseAtHouse_10 rfl ?_
      refine x_get (pc := 11) (j := 0) d_Tre_chooseAtHouse_11 f_Tre_31 rfl rfl (Nat.le_of_ble_eq_true rfl) rfl rfl rfl ?_
      refine x_get (pc := 14) (j := 4) d_Tre_chooseAtHouse_14 f_Tre_35 rfl rfl (Nat.le_of_ble_eq_true rfl) rfl rfl rfl ?_
      refine x_icmp_ge (pc := 17) (tgt := 54) d_Tre_chooseAtHouse_17 (by decide) (fun h17 => ?_) (fun h => by change ¬ V 1 4 ≤ _ at h; rw [hn] at h; exact absurd (nI_le (by omega) (by omega)) h)
      exact hE o (zSc_end ho (fun a' b' h => Or.inr ⟨h.1, h.2.2.1⟩)) _ rfl
    · have hlt := hec 0 b (by omega) hb
      refine x_iload (pc := 8) d_Tre_chooseAtHouse_8 rfl ?_
      refine x_aload_n (pc := 10) d_Tre_chooseAtHouse_10 rfl ?_
      refine x_get (pc := 11) (j := 0) d_Tre_chooseAtHouse_11 f_Tre_31 rfl rfl (Nat.le_of_ble_eq_true rfl) rfl rfl rfl ?_
      refine x_get (pc := 14) (j := 4) d_Tre_chooseAtHouse_14 f_Tre_35 rfl rfl (Nat.le_of_ble_eq_true rfl) rfl rfl rfl ?_
      refine x_icmp_ge (pc := 17) (tgt := 54) d_Tre_chooseAtHouse_17 (by decide) (fun h => by change V 1 4 ≤ _ at h; rw [hn] at h; exact absurd h (nI_ge (by omega) (by omega))) (fun h17 => ?_)
      refine x_iload (pc := 20) d_Tre_chooseAtHouse_20 rfl ?_
      refine x_iload_n (pc := 22) d_Tre_chooseAtHouse_22 rfl ?_
      refine x_icmp_eq (pc := 23) (tgt := 48) d_Tre_chooseAtHouse_23 (by decide) (fun h23 => ?_) (fun h23 => ?_)
      · refine y_inc4 (pc := 48) (v := 1) d_Tre_chooseAtHouse_48 (by decide) ?_
        refine x_goto (pc := 51) (tgt := 8) d_Tre_chooseAtHouse_51 (by decide) ?_
        rw [nI_e (by omega) hu] at h23
        rw [show nI b + 1 = nI (b + 1) from (nI_succ b).symm]
        exact ihb (by omega) o (zSc_skip ho (fun q => absurd h23 q.2.2.2.1))
      · refine x_aload_n (pc := 26) d_Tre_chooseAtHouse_26 rfl ?_
        refine x_iconst (pc := 27) (v := 0) d_Tre_chooseAtHouse_27 (by decide) ?_
        refine x_iload (pc := 28) d_Tre_chooseAtHouse_28 rfl ?_
        refine y_fV (pc := 30) (c_Tre_edgeCost _ _ 0 b (by omega) (by omega)) k_Tre_edgeCost d_Tre_chooseAtHouse_30 m_Tre_61 (by decide) rfl rfl rfl rfl p_Tre_edgeCost (K := ?_)
        refine x_iload_n (pc := 33) d_Tre_chooseAtHouse_33 rfl ?_
        refine x_icmp_ge (pc := 34) (tgt := 48) d_Tre_chooseAtHouse_34 (by decide) (fun h34 => ?_) (fun h34 => ?_)
        · refine y_inc4 (pc := 48) (v := 1) d_Tre_chooseAtHouse_48 (by decide) ?_
          refine x_goto (pc := 51) (tgt := 8) d_Tre_chooseAtHouse_51 (by decide) ?_
          rw [show nI b + 1 = nI (b + 1) from (nI_succ b).symm]
          refine ihb (by omega) o (zSc_skip ho (fun q => ?_))
          cases o with
          | none =>
            rcases hlt with w | w
            · exact absurd w q.2.2.2.2
            · exact absurd h34 (Int32.not_le.mpr w)
          | some e => exact ⟨e, rfl, Int32.not_lt.mpr h34⟩
        · refine x_aload_n (pc := 37) d_Tre_chooseAtHouse_37 rfl ?_
          refine x_iconst (pc := 38) (v := 0) d_Tre_chooseAtHouse_38 (by decide) ?_
          refine x_iload (pc := 39) d_Tre_chooseAtHouse_39 rfl ?_
          refine y_fV (pc := 41) (c_Tre_edgeCost _ _ 0 b (by omega) (by omega)) k_Tre_edgeCost d_Tre_chooseAtHouse_41 m_Tre_61 (by decide) rfl rfl rfl rfl p_Tre_edgeCost (K := ?_)
          refine y_ist2 (pc := 44) d_Tre_chooseAtHouse_44 ?_
          refine x_iload (pc := 45) d_Tre_chooseAtHouse_45 rfl ?_
          refine y_ist3 (pc := 47) d_Tre_chooseAtHouse_47 ?_
          refine y_inc4 (pc := 48) (v := 1) d_Tre_chooseAtHouse_48 (by decide) ?_
          refine x_goto (pc := 51) (tgt := 8) d_Tre_chooseAtHouse_51 (by decide) ?_
          rw [nI_e (by omega) hu] at h23
          have h34 := Int32.not_le.mp h34
          rw [show nI b + 1 = nI (b + 1) from (nI_succ b).symm]
          refine ihb (by omega) (some (0, b)) (zSc_take ho ⟨rfl, h1b, hb, h23, fun w => ?_⟩ (fun e he => by rw [he] at h34; exact h34))
          rw [w] at h34
          cases o with
          | none => exact Int32.lt_irrefl h34
          | some e =>
            have hP := zSc_P ho
            rcases hec e.1 e.2 (by have := hP.1; have := hP.2.2.1; omega) hP.2.2.1 with z | z
            · exact hP.2.2.2.2 z
            · have h34 : (1000000000 : Int32) < (ECc (A 3) (A 22)) e.1 e.2 := h34
              exact Int32.lt_irrefl (Int32.lt_trans z h34)
  refine CQ.of (lv := [.ref 21, .int (nI u), zu, zu, zu]) k_Tre_chooseAtHouse.1 rfl (by decide) rfl rfl (Nat.le_of_ble_eq_true rfl) ?_
  refine x_ldc (pc := 0) (v := 1000000000) d_Tre_chooseAtHouse_0 i_Tre_60 ?_
  refine y_ist2 (pc := 2) d_Tre_chooseAtHouse_2 ?_
  refine x_iconst (pc := 3) (v := 0) d_Tre_chooseAtHouse_3 (by decide) ?_
  refine y_ist3 (pc := 4) d_Tre_chooseAtHouse_4 ?_
  refine x_iconst (pc := 5) (v := 1) d_Tre_chooseAtHouse_5 (by decide) ?_
  refine y_ist4 (pc := 6) d_Tre_chooseAtHouse_6 ?_
  exact hB 1 h1 (Nat.le_refl 1) none (zSc_0 (fun a' b' h => by have := h.1; have := h.2.1; unfold zbf; omega))
