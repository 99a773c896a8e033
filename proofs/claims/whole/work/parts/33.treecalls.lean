theorem zf_fold {α : Type} {F : Nat → α → α} {es : List (Nat × Nat)} {G : α → Nat × Nat → α} (h : ∀ i e s, es[i]? = some e → F i s = G s e) (a : α) : zf F a es.length = es.foldl G a := by
  have key : ∀ k, k ≤ es.length → zf F a k = (es.take k).foldl G a := by
    intro k
    induction k with
    | zero => intro _; rfl
    | succ k ih =>
      intro hk
      rw [zf_s, ih (by omega), List.take_succ, List.foldl_append, List.getElem?_eq_getElem (by omega)]
      exact h k _ _ (List.getElem?_eq_getElem (by omega))
  rw [key _ (Nat.le_refl _), List.take_length]
theorem zTree_len {c : Nat → Nat → Int32} {no : Int32} {n : Nat} {es : List (Nat × Nat)} (h : zTree c no n es) : es.length = n := by
  obtain ⟨h3, es0, pt, t1, t2, hr, -, -, rfl⟩ := h
  rw [List.length_append, List.length_append, (zRun_facts hr).1]
  show n - 2 + 1 + 1 = n
  omega
theorem zTree_mem {c : Nat → Nat → Int32} {no : Int32} {n : Nat} {es : List (Nat × Nat)} (h : zTree c no n es) : ∀ e ∈ es, e.1 < n ∧ e.2 < n ∧ ¬ c e.1 e.2 = no := by
  obtain ⟨h3, es0, pt, t1, t2, hr, ho1, ho2, rfl⟩ := h
  intro e he
  rcases List.mem_append.mp he with he | he
  · rcases List.mem_append.mp he with he | he
    · obtain ⟨q1, q2, q3, q4, q5⟩ := (zRun_facts hr).2.1 e he
      exact ⟨by omega, q3, q5⟩
    · rw [List.mem_singleton.mp he]; exact ⟨show 0 < n by omega, ho1.1.2.2.1, ho1.1.2.2.2.2⟩
  · rw [List.mem_singleton.mp he]; exact ⟨show 0 < n by omega, ho2.1.2.2.1, ho2.1.2.2.2.2⟩
set_option maxRecDepth 100000 in
set_option maxHeartbeats 4000000 in
theorem c_Tre_lowerBound (V A : zV)  (n : Nat) (hn : V 1 4 = nI n) (h1 : 1 ≤ n) (h9 : n ≤ 9) : CQ Y_Tre_lowerBound 0 [.ref 21] V A (fun r V' A' => r = V 21 6 - 2 * zf (fun i a => a + A 22 i) 0 n ∧ V' = V ∧ A' = A) := by
  have hS : ∀ k, k ≤ n → X Y_Tre_lowerBound (zrm 0) (0, fun _ => 0) (zFq 0 (fun r V' A' => r = V 21 6 - 2 * zf (fun i a => a + A 22 i) 0 n ∧ V' = V ∧ A' = A)) 4 [.ref 21, .int (zf (fun i a => a + A 22 i) 0 k), .int (nI k)] [] (cells V A) 0 0 := by
    refine z_down ?_ (fun k hk hs => ?_)
    · refine x_iload_n (pc := 4) d_Tre_lowerBound_4 rfl ?_
      refine x_aload_n (pc := 5) d_Tre_lowerBound_5 rfl ?_
      refine x_get (pc := 6) (j := 0) d_Tre_lowerBound_6 f_Tre_31 rfl rfl (Nat.le_of_ble_eq_true rfl) rfl rfl rfl ?_
      refine x_get (pc := 9) (j := 4) d_Tre_lowerBound_9 f_Tre_35 rfl rfl (Nat.le_of_ble_eq_true rfl) rfl rfl rfl ?_
      refine x_icmp_ge (pc := 12) (tgt := 30) d_Tre_lowerBound_12 (by decide) (fun h12 => ?_) (fun h => by change ¬ V 1 4 ≤ _ at h; rw [hn] at h; exact absurd (nI_le (by omega) (by omega)) h)
      refine x_aload_n (pc := 30) d_Tre_lowerBound_30 rfl ?_
      refine x_get (pc := 31) (j := 6) d_Tre_lowerBound_31 f_Tre_28 rfl rfl (Nat.le_of_ble_eq_true rfl) rfl rfl rfl ?_
      refine x_iconst (pc := 34) (v := 2) d_Tre_lowerBound_34 (by decide) ?_
      refine x_iload_n (pc := 35) d_Tre_lowerBound_35 rfl ?_
      refine x_imul (pc := 36) d_Tre_lowerBound_36 ?_
      refine x_isub (pc := 37) d_Tre_lowerBound_37 ?_
      refine y_iret (pc := 38) d_Tre_lowerBound_38 rfl ?_
      exact ⟨rfl, rfl, rfl⟩
    · have ck : (nI k).toNatClampNeg = k := nI_clamp (by omega)
      rw [zf_s _ _ k, show nI (k + 1) = nI k + 1 from nI_succ k] at hs
      refine x_iload_n (pc := 4) d_Tre_lowerBound_4 rfl ?_
      refine x_aload_n (pc := 5) d_Tre_lowerBound_5 rfl ?_
      refine x_get (pc := 6) (j := 0) d_Tre_lowerBound_6 f_Tre_31 rfl rfl (Nat.le_of_ble_eq_true rfl) rfl rfl rfl ?_
      refine x_get (pc := 9) (j := 4) d_Tre_lowerBound_9 f_Tre_35 rfl rfl (Nat.le_of_ble_eq_true rfl) rfl rfl rfl ?_
      refine x_icmp_ge (pc := 12) (tgt := 30) d_Tre_lowerBound_12 (by decide) (fun h => by change V 1 4 ≤ _ at h; rw [hn] at h; exact absurd h (nI_ge (by omega) (by omega))) (fun h12 => ?_)
      refine x_iload_n (pc := 15) d_Tre_lowerBound_15 rfl ?_
      refine x_aload_n (pc := 16) d_Tre_lowerBound_16 rfl ?_
      refine x_get (pc := 17) (j := 1) d_Tre_lowerBound_17 f_Tre_9 rfl rfl (Nat.le_of_ble_eq_true rfl) rfl rfl rfl ?_
      refine x_iload_n (pc := 20) d_Tre_lowerBound_20 rfl ?_
      refine x_iald (pc := 21) d_Tre_lowerBound_21 rfl (vp_in_nI (by omega) (by decide)) ?_
      refine x_iadd (pc := 22) d_Tre_lowerBound_22 ?_
      refine y_ist1 (pc := 23) d_Tre_lowerBound_23 ?_
      refine y_inc2 (pc := 24) (v := 1) d_Tre_lowerBound_24 (by decide) ?_
      refine x_goto (pc := 27) (tgt := 4) d_Tre_lowerBound_27 (by decide) ?_
      rw [ck]
      exact hs
  have hS := hS 0 (by omega)
  refine CQ.of (lv := [.ref 21, zu, zu]) k_Tre_lowerBound.1 rfl (by decide) rfl rfl (Nat.le_of_ble_eq_true rfl) ?_
  refine x_iconst (pc := 0) (v := 0) d_Tre_lowerBound_0 (by decide) ?_
  refine y_ist1 (pc := 1) d_Tre_lowerBound_1 ?_
  refine x_iconst (pc := 2) (v := 0) d_Tre_lowerBound_2 (by decide) ?_
  refine y_ist2 (pc := 3) d_Tre_lowerBound_3 ?_
  exact hS
set_option maxRecDepth 100000 in
set_option maxHeartbeats 4000000 in
theorem c_Tre_edgesAt (V A : zV) (w : Int32) (k9 : Nat) (h5 : V 21 5 = nI k9) (hk9 : k9 ≤ 9) : CQ Y_Tre_edgesAt 0 [.ref 21, .int w] V A (fun r V' A' => r = zf (fun i s => if A 24 i = w ∨ A 25 i = w then s + 1 else s) 0 k9 ∧ V' = V ∧ A' = A) := by
  have hS : ∀ k, k ≤ k9 → X Y_Tre_edgesAt (zrm 0) (0, fun _ => 0) (zFq 0 (fun r V' A' => r = zf (fun i s => if A 24 i = w ∨ A 25 i = w then s + 1 else s) 0 k9 ∧ V' = V ∧ A' = A)) 4 [.ref 21, .int w, .int (zf (fun i s => if A 24 i = w ∨ A 25 i = w then s + 1 else s) 0 k), .int (nI k)] [] (cells V A) 0 0 := by
    refine z_down ?_ (fun k hk hs => ?_)
    · refine x_iload_n (pc := 4) d_Tre_edgesAt_4 rfl ?_
      refine x_aload_n (pc := 5) d_Tre_edgesAt_5 rfl ?_
      refine x_get (pc := 6) (j := 5) d_Tre_edgesAt_6 f_Tre_24 rfl rfl (Nat.le_of_ble_eq_true rfl) rfl rfl rfl ?_
      refine x_icmp_ge (pc := 9) (tgt := 41) d_Tre_edgesAt_9 (by decide) (fun h9 => ?_) (fun h => by change ¬ V 21 5 ≤ _ at h; rw [h5] at h; exact absurd (nI_le (by omega) (by omega)) h)
      refine x_iload_n (pc := 41) d_Tre_edgesAt_41 rfl ?_
      refine y_iret (pc := 42) d_Tre_edgesAt_42 rfl ?_
      exact ⟨rfl, rfl, rfl⟩
    · have ck : (nI k).toNatClampNeg = k := nI_clamp (by omega)
      refine x_iload_n (pc := 4) d_Tre_edgesAt_4 rfl ?_
      refine x_aload_n (pc := 5) d_Tre_edgesAt_5 rfl ?_
      refine x_get (pc := 6) (j := 5) d_Tre_edgesAt_6 f_Tre_24 rfl rfl (Nat.le_of_ble_eq_true rfl) rfl rfl rfl ?_
      refine x_icmp_ge (pc := 9) (tgt := 41) d_Tre_edgesAt_9 (by decide) (fun h => by change V 21 5 ≤ _ at h; rw [h5] at h; exact absurd h (nI_ge (by omega) (by omega))) (fun h9 => ?_)
      refine x_aload_n (pc := 12) d_Tre_edgesAt_12 rfl ?_
      refine x_get (pc := 13) (j := 3) d_Tre_edgesAt_13 f_Tre_18 rfl rfl (Nat.le_of_ble_eq_true rfl) rfl rfl rfl ?_
      refine x_iload_n (pc := 16) d_Tre_edgesAt_16 rfl ?_
      refine x_iald (pc := 17) d_Tre_edgesAt_17 rfl (vp_in_nI (by omega) (by decide)) ?_
      refine x_iload_n (pc := 18) d_Tre_edgesAt_18 rfl ?_
      refine x_icmp_eq (pc := 19) (tgt := 32) d_Tre_edgesAt_19 (by decide) (fun h19 => ?_) (fun h19 => ?_)
      · refine y_inc2 (pc := 32) (v := 1) d_Tre_edgesAt_32 (by decide) ?_
        refine y_inc3 (pc := 35) (v := 1) d_Tre_edgesAt_35 (by decide) ?_
        refine x_goto (pc := 38) (tgt := 4) d_Tre_edgesAt_38 (by decide) ?_
        rw [ck] at h19
        rw [zf_s _ _ k, show nI (k + 1) = nI k + 1 from nI_succ k] at hs
        rw [if_pos (Or.inl h19)] at hs
        exact hs
      · refine x_aload_n (pc := 22) d_Tre_edgesAt_22 rfl ?_
        refine x_get (pc := 23) (j := 4) d_Tre_edgesAt_23 f_Tre_21 rfl rfl (Nat.le_of_ble_eq_true rfl) rfl rfl rfl ?_
        refine x_iload_n (pc := 26) d_Tre_edgesAt_26 rfl ?_
        refine x_iald (pc := 27) d_Tre_edgesAt_27 rfl (vp_in_nI (by omega) (by decide)) ?_
        refine x_iload_n (pc := 28) d_Tre_edgesAt_28 rfl ?_
        refine x_icmp_ne (pc := 29) (tgt := 35) d_Tre_edgesAt_29 (by decide) (fun h29 => ?_) (fun h29 => ?_)
        · refine y_inc3 (pc := 35) (v := 1) d_Tre_edgesAt_35 (by decide) ?_
          refine x_goto (pc := 38) (tgt := 4) d_Tre_edgesAt_38 (by decide) ?_
          rw [ck] at h19 h29
          rw [zf_s _ _ k, show nI (k + 1) = nI k + 1 from nI_succ k] at hs
          rw [if_neg (by rintro (q | q); exact h19 q; exact h29 q)] at hs
          exact hs
        · refine y_inc2 (pc := 32) (v := 1) d_Tre_edgesAt_32 (by decide) ?_
          refine y_inc3 (pc := 35) (v := 1) d_Tre_edgesAt_35 (by decide) ?_
          refine x_goto (pc := 38) (tgt := 4) d_Tre_edgesAt_38 (by decide) ?_
          rw [ck] at h29
          rw [zf_s _ _ k, show nI (k + 1) = nI k + 1 from nI_succ k] at hs
          rw [if_pos (Or.inr h29)] at hs
          exact hs
  have hS := hS 0 (by omega)
  refine CQ.of (lv := [.ref 21, .int w, zu, zu]) k_Tre_edgesAt.1 rfl (by decide) rfl rfl (Nat.le_of_ble_eq_true rfl) ?_
  refine x_iconst (pc := 0) (v := 0) d_Tre_edgesAt_0 (by decide) ?_
  refine y_ist2 (pc := 1) d_Tre_edgesAt_1 ?_
  refine x_iconst (pc := 2) (v := 0) d_Tre_edgesAt_2 (by decide) ?_
  refine y_ist3 (pc := 3) d_Tre_edgesAt_3 ?_
  exact hS
set_option maxRecDepth 100000 in
set_option maxHeartbeats 4000000 in
theorem c_CW_bound (V A : zV)  (n : Nat) (hn : V 1 4 = nI n) (h1 : 1 ≤ n) (h9 : n ≤ 9) (hec : ∀ a b, a < n → b < n → ECc (A 3) (A 22) a b = 1000000000 ∨ ECc (A 3) (A 22) a b < 1000000000) : CQ Y_CW_bound 10 [.ref 0] V A (fun r V' A' => zTf V A V' A' ∧ ((r = (-1000000) ∧ (∀ es, ¬ zTree (ECc (A 3) (A 22)) 1000000000 n es)) ∨ ∃ es, zTree (ECc (A 3) (A 22)) 1000000000 n es ∧ r = zEs (ECc (A 3) (A 22)) es - 2 * zf (fun i a => a + A 22 i) 0 n)) := by
  refine CQ.of (lv := [.ref 0]) k_CW_bound.1 rfl (by decide) rfl rfl (Nat.le_of_ble_eq_true rfl) ?_
  refine x_aload_n (pc := 0) d_CW_bound_0 rfl ?_
  refine x_get (pc := 1) (j := 4) d_CW_bound_1 f_CW_51 rfl rfl (Nat.le_of_ble_eq_true rfl) rfl rfl rfl ?_
  refine y_callV (pc := 4) (c_Tre_grow _ _ n hn h1 h9 hec) k_Tre_grow d_CW_bound_4 m_CW_171 (by decide) rfl rfl rfl rfl p_Tre_grow (K := fun v' V' A' hq => ?_)
  obtain ⟨hF, hq⟩ := hq
  rcases hq with ⟨rfl, es, ht, h5, h6, hE⟩ | ⟨rfl, hq⟩
  · refine x_if_eq (pc := 7) (tgt := 20) d_CW_bound_7 (by decide) (fun h => absurd h (by decide)) (fun _ => ?_)
    refine x_aload_n (pc := 10) d_CW_bound_10 rfl ?_
    refine x_get (pc := 11) (j := 4) d_CW_bound_11 f_CW_51 rfl rfl (Nat.le_of_ble_eq_true rfl) rfl rfl rfl ?_
    refine y_fV (pc := 14) (c_Tre_lowerBound _ _ n ((hF.1 1 4 (by omega)).trans hn) h1 h9) k_Tre_lowerBound d_CW_bound_14 m_CW_175 (by decide) rfl rfl rfl rfl p_Tre_lowerBound (K := ?_)
    refine x_goto (pc := 17) (tgt := 22) d_CW_bound_17 (by decide) ?_
    refine y_iret (pc := 22) d_CW_bound_22 rfl ?_
    refine ⟨hF, Or.inr ⟨es, ht, ?_⟩⟩
    rw [h6, hF.2 22 (by omega)]
  · refine x_if_eq (pc := 7) (tgt := 20) d_CW_bound_7 (by decide) (fun _ => ?_) (fun h => absurd h (by decide))
    refine x_ldc (pc := 20) (v := (-1000000)) d_CW_bound_20 i_CW_136 ?_
    refine y_iret (pc := 22) d_CW_bound_22 rfl ?_
    exact ⟨hF, Or.inl ⟨rfl, hq⟩⟩
set_option maxRecDepth 100000 in
set_option maxHeartbeats 4000000 in
theorem c_CW_edge (V A : zV) (u w : Int32) (n : Nat) (hn : V 1 4 = nI n) (h1 : 1 ≤ n) (h9 : n ≤ 9) (hec : ∀ a b, a < n → b < n → ECc (A 3) (A 22) a b = 1000000000 ∨ ECc (A 3) (A 22) a b < 1000000000) : CQ Y_CW_edge 10 [.ref 0, .int u, .int w] V A (fun r V' A' => zTf V A V' A' ∧ ((r = (-1000000) ∧ (∀ es, ¬ zTree (ECc (A 3) (A 22)) 1000000000 n es)) ∨ ∃ es, zTree (ECc (A 3) (A 22)) 1000000000 n es ∧ ((¬ (0 ≤ u ∧ u < nI es.length ∧ 0 ≤ w ∧ w ≤ 1) ∧ r = (-2000000)) ∨ ∃ i e, es[i]? = some e ∧ u = nI i ∧ ((w = 0 ∧ r = nI e.1) ∨ (w = 1 ∧ r = nI e.2))))) := by
  refine CQ.of (lv := [.ref 0, .int u, .int w]) k_CW_edge.1 rfl (by decide) rfl rfl (Nat.le_of_ble_eq_true rfl) ?_
  refine x_aload_n (pc := 0) d_CW_edge_0 rfl ?_
  refine x_get (pc := 1) (j := 4) d_CW_edge_1 f_CW_51 rfl rfl (Nat.le_of_ble_eq_true rfl) rfl rfl rfl ?_
  refine y_callV (pc := 4) (c_Tre_grow _ _ n hn h1 h9 hec) k_Tre_grow d_CW_edge_4 m_CW_171 (by decide) rfl rfl rfl rfl p_Tre_grow (K := fun v' V' A' hq => ?_)
  obtain ⟨hF, hq⟩ := hq
  rcases hq with ⟨rfl, es, ht, h5, h6, hE⟩ | ⟨rfl, hq⟩
  · refine x_if_ne (pc := 7) (tgt := 13) d_CW_edge_7 (by decide) (fun _ => ?_) (fun h => absurd h (by decide))
    refine x_iload_n (pc := 13) d_CW_edge_13 rfl ?_
    refine x_if_lt (pc := 14) (tgt := 37) d_CW_edge_14 (by decide) (fun h14 => ?_) (fun h14 => ?_)
    · refine x_ldc (pc := 37) (v := (-2000000)) d_CW_edge_37 i_CW_83 ?_
      refine y_iret (pc := 39) d_CW_edge_39 rfl ?_
      refine ⟨hF, Or.inr ⟨es, ht, Or.inl ⟨fun q => ?_, rfl⟩⟩⟩
      exact absurd q.1 (Int32.not_le.mpr h14)
    · refine x_iload_n (pc := 17) d_CW_edge_17 rfl ?_
      refine x_aload_n (pc := 18) d_CW_edge_18 rfl ?_
      refine x_get (pc := 19) (j := 4) d_CW_edge_19 f_CW_51 rfl rfl (Nat.le_of_ble_eq_true rfl) rfl rfl rfl ?_
      refine x_get (pc := 22) (j := 5) d_CW_edge_22 f_CW_178 rfl rfl (Nat.le_of_ble_eq_true rfl) rfl rfl rfl ?_
      refine x_icmp_ge (pc := 25) (tgt := 37) d_CW_edge_25 (by decide) (fun h25 => ?_) (fun h25 => ?_)
      · refine x_ldc (pc := 37) (v := (-2000000)) d_CW_edge_37 i_CW_83 ?_
        refine y_iret (pc := 39) d_CW_edge_39 rfl ?_
        refine ⟨hF, Or.inr ⟨es, ht, Or.inl ⟨fun q => ?_, rfl⟩⟩⟩
        change V' 21 5 ≤ u at h25; rw [h5] at h25; exact absurd q.2.1 (Int32.not_lt.mpr h25)
      · refine x_iload_n (pc := 28) d_CW_edge_28 rfl ?_
        refine x_if_lt (pc := 29) (tgt := 37) d_CW_edge_29 (by decide) (fun h29 => ?_) (fun h29 => ?_)
        · refine x_ldc (pc := 37) (v := (-2000000)) d_CW_edge_37 i_CW_83 ?_
          refine y_iret (pc := 39) d_CW_edge_39 rfl ?_
          refine ⟨hF, Or.inr ⟨es, ht, Or.inl ⟨fun q => ?_, rfl⟩⟩⟩
          exact absurd q.2.2.1 (Int32.not_le.mpr h29)
        · refine x_iload_n (pc := 32) d_CW_edge_32 rfl ?_
          refine x_iconst (pc := 33) (v := 1) d_CW_edge_33 (by decide) ?_
          refine x_icmp_le (pc := 34) (tgt := 40) d_CW_edge_34 (by decide) (fun h34 => ?_) (fun h34 => ?_)
          · have hlen := zTree_len ht
            have hu0 : 0 ≤ u := Int32.not_lt.mp h14
            have hu1 : u < nI es.length := by
              have q := Int32.not_le.mp h25
              change u < V' 21 5 at q
              rw [h5] at q; exact q
            obtain ⟨i, hi, hui⟩ := z_nat (n := es.length) hu0 hu1 (by omega)
            subst hui
            have hci : (nI i).toNatClampNeg = i := nI_clamp (by omega)
            have hEi := hE i es[i] (List.getElem?_eq_getElem hi)
            refine x_iload_n (pc := 40) d_CW_edge_40 rfl ?_
            refine x_if_ne (pc := 41) (tgt := 56) d_CW_edge_41 (by decide) (fun h41 => ?_) (fun h41 => ?_)
            · refine x_aload_n (pc := 56) d_CW_edge_56 rfl ?_
              refine x_get (pc := 57) (j := 4) d_CW_edge_57 f_CW_51 rfl rfl (Nat.le_of_ble_eq_true rfl) rfl rfl rfl ?_
              refine x_get (pc := 60) (j := 4) d_CW_edge_60 f_CW_184 rfl rfl (Nat.le_of_ble_eq_true rfl) rfl rfl rfl ?_
              refine x_iload_n (pc := 63) d_CW_edge_63 rfl ?_
              refine x_iald (pc := 64) d_CW_edge_64 rfl (vp_in_nI (by omega) (by decide)) ?_
              refine y_iret (pc := 65) d_CW_edge_65 rfl ?_
              refine ⟨hF, Or.inr ⟨es, ht, Or.inr ⟨i, es[i], List.getElem?_eq_getElem hi, rfl, Or.inr ⟨?_, ?_⟩⟩⟩⟩
              · rw [z_lt, z_t0] at h29
                rw [z_le, z_t1] at h34
                rw [z_eq, z_t0] at h41
                rw [z_eq, z_t1]; omega
              · rw [hci]; exact hEi.2
            · refine x_aload_n (pc := 44) d_CW_edge_44 rfl ?_
              refine x_get (pc := 45) (j := 4) d_CW_edge_45 f_CW_51 rfl rfl (Nat.le_of_ble_eq_true rfl) rfl rfl rfl ?_
              refine x_get (pc := 48) (j := 3) d_CW_edge_48 f_CW_181 rfl rfl (Nat.le_of_ble_eq_true rfl) rfl rfl rfl ?_
              refine x_iload_n (pc := 51) d_CW_edge_51 rfl ?_
              refine x_iald (pc := 52) d_CW_edge_52 rfl (vp_in_nI (by omega) (by decide)) ?_
              refine x_goto (pc := 53) (tgt := 65) d_CW_edge_53 (by decide) ?_
              refine y_iret (pc := 65) d_CW_edge_65 rfl ?_
              refine ⟨hF, Or.inr ⟨es, ht, Or.inr ⟨i, es[i], List.getElem?_eq_getElem hi, rfl, Or.inl ⟨h41, ?_⟩⟩⟩⟩
              rw [hci]; exact hEi.1
          · refine x_ldc (pc := 37) (v := (-2000000)) d_CW_edge_37 i_CW_83 ?_
            refine y_iret (pc := 39) d_CW_edge_39 rfl ?_
            refine ⟨hF, Or.inr ⟨es, ht, Or.inl ⟨fun q => ?_, rfl⟩⟩⟩
            exact h34 q.2.2.2
  · refine x_if_ne (pc := 7) (tgt := 13) d_CW_edge_7 (by decide) (fun h => absurd h (by decide)) (fun _ => ?_)
    refine x_ldc (pc := 10) (v := (-1000000)) d_CW_edge_10 i_CW_136 ?_
    refine y_iret (pc := 12) d_CW_edge_12 rfl ?_
    exact ⟨hF, Or.inl ⟨rfl, hq⟩⟩
set_option maxRecDepth 100000 in
set_option maxHeartbeats 4000000 in
theorem c_CW_degree (V A : zV) (w : Int32) (n : Nat) (hn : V 1 4 = nI n) (h1 : 1 ≤ n) (h9 : n ≤ 9) (hec : ∀ a b, a < n → b < n → ECc (A 3) (A 22) a b = 1000000000 ∨ ECc (A 3) (A 22) a b < 1000000000) : CQ Y_CW_degree 10 [.ref 0, .int w] V A (fun r V' A' => (¬ (0 ≤ w ∧ w < V 1 4) ∧ r = (-2000000) ∧ V' = V ∧ A' = A) ∨ ((0 ≤ w ∧ w < V 1 4) ∧ zTf V A V' A' ∧ ((r = (-1000000) ∧ (∀ es, ¬ zTree (ECc (A 3) (A 22)) 1000000000 n es)) ∨ ∃ es, zTree (ECc (A 3) (A 22)) 1000000000 n es ∧ r = es.foldl (fun s e => if nI e.1 = w ∨ nI e.2 = w then s + 1 else s) 0))) := by
  refine CQ.of (lv := [.ref 0, .int w]) k_CW_degree.1 rfl (by decide) rfl rfl (Nat.le_of_ble_eq_true rfl) ?_
  refine x_aload_n (pc := 0) d_CW_degree_0 rfl ?_
  refine x_get (pc := 1) (j := 0) d_CW_degree_1 f_CW_10 rfl rfl (Nat.le_of_ble_eq_true rfl) rfl rfl rfl ?_
  refine x_iload_n (pc := 4) d_CW_degree_4 rfl ?_
  refine y_bV (pc := 5) (c_Net_isNode _ _ w) k_Net_isNode d_CW_degree_5 m_CW_165 (by decide) rfl rfl rfl rfl p_Net_isNode (K1 := fun q5 => ?_) (K0 := fun q5 => ?_)
  · refine x_if_ne (pc := 8) (tgt := 14) d_CW_degree_8 (by decide) (fun _ => ?_) (fun h => absurd h (by decide))
    refine x_aload_n (pc := 14) d_CW_degree_14 rfl ?_
    refine x_get (pc := 15) (j := 4) d_CW_degree_15 f_CW_51 rfl rfl (Nat.le_of_ble_eq_true rfl) rfl rfl rfl ?_
    refine y_callV (pc := 18) (c_Tre_grow _ _ n hn h1 h9 hec) k_Tre_grow d_CW_degree_18 m_CW_171 (by decide) rfl rfl rfl rfl p_Tre_grow (K := fun v' V' A' hq => ?_)
    obtain ⟨hF, hq⟩ := hq
    rcases hq with ⟨rfl, es, ht, h5, h6, hE⟩ | ⟨rfl, hq⟩
    · refine x_if_eq (pc := 21) (tgt := 35) d_CW_degree_21 (by decide) (fun h => absurd h (by decide)) (fun _ => ?_)
      refine x_aload_n (pc := 24) d_CW_degree_24 rfl ?_
      refine x_get (pc := 25) (j := 4) d_CW_degree_25 f_CW_51 rfl rfl (Nat.le_of_ble_eq_true rfl) rfl rfl rfl ?_
      refine x_iload_n (pc := 28) d_CW_degree_28 rfl ?_
      refine y_fV (pc := 29) (c_Tre_edgesAt _ _ w es.length h5 (by rw [zTree_len ht]; exact h9)) k_Tre_edgesAt d_CW_degree_29 m_CW_187 (by decide) rfl rfl rfl rfl p_Tre_edgesAt (K := ?_)
      refine x_goto (pc := 32) (tgt := 37) d_CW_degree_32 (by decide) ?_
      refine y_iret (pc := 37) d_CW_degree_37 rfl ?_
      refine Or.inr ⟨q5, hF, Or.inr ⟨es, ht, ?_⟩⟩
      exact zf_fold (fun i e s q => by rw [(hE i e q).1, (hE i e q).2]) 0
    · refine x_if_eq (pc := 21) (tgt := 35) d_CW_degree_21 (by decide) (fun _ => ?_) (fun h => absurd h (by decide))
      refine x_ldc (pc := 35) (v := (-1000000)) d_CW_degree_35 i_CW_136 ?_
      refine y_iret (pc := 37) d_CW_degree_37 rfl ?_
      exact Or.inr ⟨q5, hF, Or.inl ⟨rfl, hq⟩⟩
  · refine x_if_ne (pc := 8) (tgt := 14) d_CW_degree_8 (by decide) (fun h => absurd h (by decide)) (fun _ => ?_)
    refine x_ldc (pc := 11) (v := (-2000000)) d_CW_degree_11 i_CW_83 ?_
    refine y_iret (pc := 13) d_CW_degree_13 rfl ?_
    exact Or.inl ⟨q5, rfl, rfl, rfl⟩
