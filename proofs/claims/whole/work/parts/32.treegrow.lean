def zSt (V A V' A' : zV) (n : Nat) (es : List (Nat × Nat)) (pt : Nat → Nat) : Prop := zTf V A V' A' ∧ V' 21 5 = nI es.length ∧ V' 21 6 = zEs (ECc (A 3) (A 22)) es ∧ zEd es (A' 24) (A' 25) ∧ ∀ v, v < n → A' 23 v = nI (pt v) ∧ pt v < 9
theorem zSt_push {V A V1 A1 V2 A2 : zV} {n : Nat} {es : List (Nat × Nat)} {pt : Nat → Nat} {a b k : Nat} {f : Nat → Int32} (h : zSt V A V1 A1 n es pt) (hk : k = es.length) (ha : a < n) (hV : V2 = zv (zv V1 21 5 (nI (k + 1))) 21 6 (V1 21 6 + ECc (A 3) (A 22) a b)) (hA : A2 = za (za (za A1 24 (upd (A1 24) k (nI a))) 25 (upd (A1 25) k (nI b))) 23 f) (hf : ∀ v, v < n → f v = nI (zMrg pt a b v)) : zSt V A V2 A2 n (es ++ [(a, b)]) (zMrg pt a b) := by
  obtain ⟨hT, h5, h6, hE, hp⟩ := h
  subst hk hV hA
  have e3 : A1 3 = A 3 := hT.2 3 (by omega)
  have e22 : A1 22 = A 22 := hT.2 22 (by omega)
  refine ⟨zTf_trans hT ⟨fun k j q => ?_, fun k q => ?_⟩, ?_, ?_, ?_, fun v hv => ?_⟩
  · rw [zv_eq, if_neg (fun w => q w.1), zv_eq, if_neg (fun w => q w.1)]
  · rw [za_eq, if_neg (by omega), za_eq, if_neg (by omega), za_eq, if_neg (by omega)]
  · rw [List.length_append]; rfl
  · show V1 21 6 + ECc (A 3) (A 22) a b = _
    rw [zEs_push, h6]
  · exact zEd_push hE a b
  · refine ⟨hf v hv, ?_⟩
    unfold zMrg
    split
    · exact (hp a ha).2
    · exact (hp v hv).2
set_option maxRecDepth 100000 in
set_option maxHeartbeats 4000000 in
theorem c_Tre_grow (V A : zV)  (n : Nat) (hn : V 1 4 = nI n) (h1 : 1 ≤ n) (h9 : n ≤ 9) (hec : ∀ a b, a < n → b < n → ECc (A 3) (A 22) a b = 1000000000 ∨ ECc (A 3) (A 22) a b < 1000000000) : CQ Y_Tre_grow 4 [.ref 21] V A (fun r V' A' => zTf V A V' A' ∧ ((r = 1 ∧ ∃ es, zTree (ECc (A 3) (A 22)) 1000000000 n es ∧ V' 21 5 = nI es.length ∧ V' 21 6 = zEs (ECc (A 3) (A 22)) es ∧ zEd es (A' 24) (A' 25)) ∨ (r = 0 ∧ ∀ es, ¬ zTree (ECc (A 3) (A 22)) 1000000000 n es))) := by
  have hH2 : 3 ≤ n → ∀ es0 pt0, zRun (ECc (A 3) (A 22)) 1000000000 n (n - 2) es0 pt0 → ∀ t1, zOut (zPh (ECc (A 3) (A 22)) 1000000000 n 0) (ECc (A 3) (A 22)) (some (0, t1)) → ∀ pt V' A', zSt V A V' A' n (es0 ++ [(0, t1)]) pt → ∀ q : Value, q.category = 1 → X Y_Tre_grow (zrm 4) (0, fun _ => 0) (zFq 4 (fun r V' A' => zTf V A V' A' ∧ ((r = 1 ∧ ∃ es, zTree (ECc (A 3) (A 22)) 1000000000 n es ∧ V' 21 5 = nI es.length ∧ V' 21 6 = zEs (ECc (A 3) (A 22)) es ∧ zEd es (A' 24) (A' 25)) ∨ (r = 0 ∧ ∀ es, ¬ zTree (ECc (A 3) (A 22)) 1000000000 n es)))) 85 [.ref 21, q] [] (cells V' A') 0 0 := by
    intro h3 es0 pt0 hrun t1 ho1 pt V' A' hst q hqc
    have hlen : (es0 ++ [(0, t1)]).length = n - 1 := by rw [List.length_append, (zRun_facts hrun).1]; show n - 2 + 1 = n - 1; omega
    have h5 := hst.2.1
    rw [hlen] at h5
    have e3 : A' 3 = A 3 := hst.1.2 3 (by omega)
    have e22 : A' 22 = A 22 := hst.1.2 22 (by omega)
    have hn' : V' 1 4 = nI n := (hst.1.1 1 4 (by omega)).trans hn
    have hi : V' 21 5 - 1 = nI (n - 2) := by rw [h5, show n - 1 = n - 2 + 1 by omega, nI_succ]; exact Int32.add_sub_cancel _ _
    have hcl : (nI (n - 2)).toNatClampNeg = n - 2 := nI_clamp (by omega)
    have ho : A' 25 (n - 2) = nI t1 := (hst.2.2.2.1 (n - 2) (0, t1) (by rw [List.getElem?_append_right (by rw [(zRun_facts hrun).1]; exact Nat.le_refl _), (zRun_facts hrun).1, Nat.sub_self]; rfl)).2
    have ht1 : t1 < n := ho1.1.2.2.1
    refine x_aload_n (pc := 85) d_Tre_grow_85 rfl ?_
    refine x_aload_n (pc := 86) d_Tre_grow_86 rfl ?_
    refine x_get (pc := 87) (j := 4) d_Tre_grow_87 f_Tre_21 rfl rfl (Nat.le_of_ble_eq_true rfl) rfl rfl rfl ?_
    refine x_aload_n (pc := 90) d_Tre_grow_90 rfl ?_
    refine x_get (pc := 91) (j := 5) d_Tre_grow_91 f_Tre_24 rfl rfl (Nat.le_of_ble_eq_true rfl) rfl rfl rfl ?_
    refine x_iconst (pc := 94) (v := 1) d_Tre_grow_94 (by decide) ?_
    refine x_isub (pc := 95) d_Tre_grow_95 ?_
    refine x_iald (pc := 96) d_Tre_grow_96 rfl (by rw [show V' 21 5 - 1 = nI (n - 2) from hi]; exact vp_in_nI (by omega) (by decide)) ?_
    rw [hi, hcl, ho]
    refine y_callV (pc := 97) (c_Tre_chooseAtHouse _ _ t1 n hn' h1 h9 pt (n - 1) (by omega) h5 hst.2.2.2.2 (by rw [e3, e22]; exact hec) (by omega)) k_Tre_chooseAtHouse d_Tre_grow_97 m_Tre_44 (by decide) rfl rfl rfl rfl p_Tre_chooseAtHouse (K := fun v2 V2 A2 hq => ?_)
    skip
    rw [e3, e22] at hq
    rcases hq with ⟨o, hz, ⟨rfl, rfl, rfl, rfl⟩ | ⟨t2, rfl, rfl, f, hV, hA, hf⟩⟩
    · refine x_if_eq (pc := 100) (tgt := 107) d_Tre_grow_100 (by decide) (fun _ => ?_) (fun h => absurd h (by decide))
      refine x_iconst (pc := 107) (v := 0) d_Tre_grow_107 (by decide) ?_
      refine y_zret (pc := 108) d_Tre_grow_108 rfl rfl ?_
      exact ⟨hst.1, Or.inr ⟨rfl, fun es ht => by obtain ⟨-, es1, pt1, u1, u2, hr, hu1, hu2, -⟩ := ht; have e := zOut_one ho1 hu1 (fun _ _ => Iff.rfl) (fun _ _ _ => rfl); simp only [Option.some.injEq, Prod.mk.injEq] at e; obtain ⟨-, rfl⟩ := e; exact hz 0 u2 hu2.1⟩⟩
    · refine x_if_eq (pc := 100) (tgt := 107) d_Tre_grow_100 (by decide) (fun h => absurd h (by decide)) (fun _ => ?_)
      refine x_iconst (pc := 103) (v := 1) d_Tre_grow_103 (by decide) ?_
      refine x_goto (pc := 104) (tgt := 108) d_Tre_grow_104 (by decide) ?_
      refine y_zret (pc := 108) d_Tre_grow_108 rfl rfl ?_
      have hst2 := zSt_push hst hlen.symm (by omega) hV hA hf
      exact ⟨hst2.1, Or.inl ⟨rfl, _, ⟨h3, es0, pt0, t1, t2, hrun, ho1, hz, rfl⟩, hst2.2.1, hst2.2.2.1, hst2.2.2.2.1⟩⟩
  have hH1 : 3 ≤ n → ∀ es0 pt V' A', zRun (ECc (A 3) (A 22)) 1000000000 n (n - 2) es0 pt → zSt V A V' A' n es0 pt → ∀ q : Value, q.category = 1 → X Y_Tre_grow (zrm 4) (0, fun _ => 0) (zFq 4 (fun r V' A' => zTf V A V' A' ∧ ((r = 1 ∧ ∃ es, zTree (ECc (A 3) (A 22)) 1000000000 n es ∧ V' 21 5 = nI es.length ∧ V' 21 6 = zEs (ECc (A 3) (A 22)) es ∧ zEd es (A' 24) (A' 25)) ∨ (r = 0 ∧ ∀ es, ¬ zTree (ECc (A 3) (A 22)) 1000000000 n es)))) 77 [.ref 21, q] [] (cells V' A') 0 0 := by
    intro h3 es0 pt V' A' hrun hst q hqc
    have h5 := hst.2.1
    rw [(zRun_facts hrun).1] at h5
    have e3 : A' 3 = A 3 := hst.1.2 3 (by omega)
    have e22 : A' 22 = A 22 := hst.1.2 22 (by omega)
    have hn' : V' 1 4 = nI n := (hst.1.1 1 4 (by omega)).trans hn
    refine x_aload_n (pc := 77) d_Tre_grow_77 rfl ?_
    refine x_iconst (pc := 78) (v := 0) d_Tre_grow_78 (by decide) ?_
    refine y_callV (pc := 79) (c_Tre_chooseAtHouse _ _ 0 n hn' h1 h9 pt (n - 2) (by omega) h5 hst.2.2.2.2 (by rw [e3, e22]; exact hec) (by omega)) k_Tre_chooseAtHouse d_Tre_grow_79 m_Tre_44 (by decide) rfl rfl rfl rfl p_Tre_chooseAtHouse (K := fun v2 V2 A2 hq => ?_)
    skip
    rw [e3, e22] at hq
    rcases hq with ⟨o, hz, ⟨rfl, rfl, rfl, rfl⟩ | ⟨t1, rfl, rfl, f, hV, hA, hf⟩⟩
    · refine x_if_eq (pc := 82) (tgt := 107) d_Tre_grow_82 (by decide) (fun _ => ?_) (fun h => absurd h (by decide))
      refine x_iconst (pc := 107) (v := 0) d_Tre_grow_107 (by decide) ?_
      refine y_zret (pc := 108) d_Tre_grow_108 rfl rfl ?_
      exact ⟨hst.1, Or.inr ⟨rfl, fun es ht => by obtain ⟨-, es1, pt1, u1, u2, hr, hu1, hu2, -⟩ := ht; exact hz 0 u1 hu1.1⟩⟩
    · refine x_if_eq (pc := 82) (tgt := 107) d_Tre_grow_82 (by decide) (fun h => absurd h (by decide)) (fun _ => ?_)
      exact hH2 h3 es0 pt hrun t1 hz _ _ _ (zSt_push hst (zRun_facts hrun).1.symm (by omega) hV hA hf) _ hqc
  have hJ : 3 ≤ n → ∀ k, k ≤ n - 2 → ∀ es pt V' A', zRun (ECc (A 3) (A 22)) 1000000000 n k es pt → zSt V A V' A' n es pt → X Y_Tre_grow (zrm 4) (0, fun _ => 0) (zFq 4 (fun r V' A' => zTf V A V' A' ∧ ((r = 1 ∧ ∃ es, zTree (ECc (A 3) (A 22)) 1000000000 n es ∧ V' 21 5 = nI es.length ∧ V' 21 6 = zEs (ECc (A 3) (A 22)) es ∧ zEd es (A' 24) (A' 25)) ∨ (r = 0 ∧ ∀ es, ¬ zTree (ECc (A 3) (A 22)) 1000000000 n es)))) 51 [.ref 21, .int (nI (k + 2))] [] (cells V' A') 0 0 := by
    intro h3
    refine z_down (fun es pt V' A' hrun hst => ?_) (fun k hk ih es pt V' A' hrun hst => ?_)
    · have hn' : V' 1 4 = nI n := (hst.1.1 1 4 (by omega)).trans hn
      refine x_iload_n (pc := 51) d_Tre_grow_51 rfl ?_
      refine x_aload_n (pc := 52) d_Tre_grow_52 rfl ?_
      refine x_get (pc := 53) (j := 0) d_Tre_grow_53 f_Tre_31 rfl rfl (Nat.le_of_ble_eq_true rfl) rfl rfl rfl ?_
      refine x_get (pc := 56) (j := 4) d_Tre_grow_56 f_Tre_35 rfl rfl (Nat.le_of_ble_eq_true rfl) rfl rfl rfl ?_
      refine x_icmp_ge (pc := 59) (tgt := 77) d_Tre_grow_59 (by decide) (fun h59 => ?_) (fun h => by change ¬ V' 1 4 ≤ _ at h; rw [hn'] at h; exact absurd (nI_le (by omega) (by omega)) h)
      exact hH1 h3 es pt _ _ hrun hst _ rfl
    · have hn' : V' 1 4 = nI n := (hst.1.1 1 4 (by omega)).trans hn
      have h5 := hst.2.1
      rw [(zRun_facts hrun).1] at h5
      have e3 : A' 3 = A 3 := hst.1.2 3 (by omega)
      have e22 : A' 22 = A 22 := hst.1.2 22 (by omega)
      refine x_iload_n (pc := 51) d_Tre_grow_51 rfl ?_
      refine x_aload_n (pc := 52) d_Tre_grow_52 rfl ?_
      refine x_get (pc := 53) (j := 0) d_Tre_grow_53 f_Tre_31 rfl rfl (Nat.le_of_ble_eq_true rfl) rfl rfl rfl ?_
      refine x_get (pc := 56) (j := 4) d_Tre_grow_56 f_Tre_35 rfl rfl (Nat.le_of_ble_eq_true rfl) rfl rfl rfl ?_
      refine x_icmp_ge (pc := 59) (tgt := 77) d_Tre_grow_59 (by decide) (fun h => by change V' 1 4 ≤ _ at h; rw [hn'] at h; exact absurd h (nI_ge (by omega) (by omega))) (fun h59 => ?_)
      refine x_aload_n (pc := 62) d_Tre_grow_62 rfl ?_
      refine y_callV (pc := 63) (c_Tre_chooseJoining _ _ n hn' h1 h9 pt k (by omega) h5 hst.2.2.2.2 (by rw [e3, e22]; exact hec)) k_Tre_chooseJoining d_Tre_grow_63 m_Tre_40 (by decide) rfl rfl rfl rfl p_Tre_chooseJoining (K := fun v2 V2 A2 hq => ?_)
      skip
      rw [e3, e22] at hq
      rcases hq with ⟨o, hz, ⟨rfl, rfl, rfl, rfl⟩ | ⟨a, b, rfl, rfl, f, hV, hA, hf⟩⟩
      · refine x_if_ne (pc := 66) (tgt := 71) d_Tre_grow_66 (by decide) (fun h => absurd h (by decide)) (fun _ => ?_)
        refine x_iconst (pc := 69) (v := 0) d_Tre_grow_69 (by decide) ?_
        refine y_zret (pc := 70) d_Tre_grow_70 rfl rfl ?_
        refine ⟨hst.1, Or.inr ⟨rfl, fun es ht => ?_⟩⟩
        obtain ⟨-, es1, pt1, u1, u2, hr, -, -, -⟩ := ht
        obtain ⟨es2, pt2, e, hr2, ho2⟩ := zRun_pre hr hk
        obtain ⟨rfl, rfl⟩ := zRun_one (fun _ _ _ _ => Iff.rfl) (fun _ _ _ _ _ => rfl) hrun hr2
        exact hz _ _ ho2.1
      · refine x_if_ne (pc := 66) (tgt := 71) d_Tre_grow_66 (by decide) (fun _ => ?_) (fun h => absurd h (by decide))
        refine y_inc1 (pc := 71) (v := 1) d_Tre_grow_71 (by decide) ?_
        refine x_goto (pc := 74) (tgt := 51) d_Tre_grow_74 (by decide) ?_
        rw [show nI (k + 2) + 1 = nI (k + 1 + 2) from (nI_succ (k + 2)).symm]
        exact ih _ _ _ _ ⟨es, pt, a, b, hrun, hz, rfl, rfl⟩ (zSt_push hst (zRun_facts hrun).1.symm (by have := hz.1.2.1; have := hz.1.2.2.1; omega) hV hA hf)
  have hI : 3 ≤ n → ∀ j, j ≤ n → ∀ f : Nat → Int32, (∀ v, v < j → f v = nI v) → X Y_Tre_grow (zrm 4) (0, fun _ => 0) (zFq 4 (fun r V' A' => zTf V A V' A' ∧ ((r = 1 ∧ ∃ es, zTree (ECc (A 3) (A 22)) 1000000000 n es ∧ V' 21 5 = nI es.length ∧ V' 21 6 = zEs (ECc (A 3) (A 22)) es ∧ zEd es (A' 24) (A' 25)) ∨ (r = 0 ∧ ∀ es, ¬ zTree (ECc (A 3) (A 22)) 1000000000 n es)))) 25 [.ref 21, .int (nI j)] [] (cells (zv (zv V 21 5 0) 21 6 0) (za A 23 f)) 0 0 := by
    intro h3
    have hn' := hn
    refine z_down (fun f hf => ?_) (fun j hj hs f hf => ?_)
    · refine x_iload_n (pc := 25) d_Tre_grow_25 rfl ?_
      refine x_aload_n (pc := 26) d_Tre_grow_26 rfl ?_
      refine x_get (pc := 27) (j := 0) d_Tre_grow_27 f_Tre_31 rfl rfl (Nat.le_of_ble_eq_true rfl) rfl rfl rfl ?_
      refine x_get (pc := 30) (j := 4) d_Tre_grow_30 f_Tre_35 rfl rfl (Nat.le_of_ble_eq_true rfl) rfl rfl rfl ?_
      refine x_icmp_ge (pc := 33) (tgt := 49) d_Tre_grow_33 (by decide) (fun h33 => ?_) (fun h => by change ¬ V 1 4 ≤ _ at h; rw [hn'] at h; exact absurd (nI_le (by omega) (by omega)) h)
      refine x_iconst (pc := 49) (v := 2) d_Tre_grow_49 (by decide) ?_
      refine y_ist1 (pc := 50) d_Tre_grow_50 ?_
      refine hJ h3 0 (Nat.zero_le _) [] (fun v => v) _ _ ⟨rfl, rfl⟩ ⟨⟨fun k j q => ?_, fun k q => ?_⟩, rfl, rfl, fun i e q => absurd q (by simp), fun v hv => ⟨hf v hv, show v < 9 by omega⟩⟩
      · rw [zv_eq, if_neg (fun w => q w.1), zv_eq, if_neg (fun w => q w.1)]
      · rw [za_eq, if_neg (by omega)]
    · refine x_iload_n (pc := 25) d_Tre_grow_25 rfl ?_
      refine x_aload_n (pc := 26) d_Tre_grow_26 rfl ?_
      refine x_get (pc := 27) (j := 0) d_Tre_grow_27 f_Tre_31 rfl rfl (Nat.le_of_ble_eq_true rfl) rfl rfl rfl ?_
      refine x_get (pc := 30) (j := 4) d_Tre_grow_30 f_Tre_35 rfl rfl (Nat.le_of_ble_eq_true rfl) rfl rfl rfl ?_
      refine x_icmp_ge (pc := 33) (tgt := 49) d_Tre_grow_33 (by decide) (fun h => by change V 1 4 ≤ _ at h; rw [hn'] at h; exact absurd h (nI_ge (by omega) (by omega))) (fun h33 => ?_)
      refine x_aload_n (pc := 36) d_Tre_grow_36 rfl ?_
      refine x_get (pc := 37) (j := 2) d_Tre_grow_37 f_Tre_15 rfl rfl (Nat.le_of_ble_eq_true rfl) rfl rfl rfl ?_
      refine x_iload_n (pc := 40) d_Tre_grow_40 rfl ?_
      refine x_iload_n (pc := 41) d_Tre_grow_41 rfl ?_
      refine y_iast (pc := 42) d_Tre_grow_42 rfl (fun _ => rfl) (vp_in_nI (by omega) (by decide)) ?_
      refine y_inc1 (pc := 43) (v := 1) d_Tre_grow_43 (by decide) ?_
      refine x_goto (pc := 46) (tgt := 25) d_Tre_grow_46 (by decide) ?_
      rw [show nI j + 1 = nI (j + 1) from (nI_succ j).symm, za_za]
      refine hs _ (fun v hv => ?_)
      show upd f (nI j).toNatClampNeg (nI j) v = _
      rw [nI_clamp (by omega)]
      by_cases hvj : v = j
      · rw [hvj, upd_at]
      · rw [upd_ne _ _ hvj]; exact hf v (by omega)
  refine CQ.of (lv := [.ref 21, zu]) k_Tre_grow.1 rfl (by decide) rfl rfl (Nat.le_of_ble_eq_true rfl) ?_
  refine x_aload_n (pc := 0) d_Tre_grow_0 rfl ?_
  refine x_iconst (pc := 1) (v := 0) d_Tre_grow_1 (by decide) ?_
  refine y_put (pc := 2) (j := 5) d_Tre_grow_2 f_Tre_24 rfl rfl (Nat.le_of_ble_eq_true rfl) rfl (Nat.le_of_ble_eq_true rfl) rfl rfl (fun _ => rfl) ?_
  refine x_aload_n (pc := 5) d_Tre_grow_5 rfl ?_
  refine x_iconst (pc := 6) (v := 0) d_Tre_grow_6 (by decide) ?_
  refine y_put (pc := 7) (j := 6) d_Tre_grow_7 f_Tre_28 rfl rfl (Nat.le_of_ble_eq_true rfl) rfl (Nat.le_of_ble_eq_true rfl) rfl rfl (fun _ => rfl) ?_
  refine x_aload_n (pc := 10) d_Tre_grow_10 rfl ?_
  refine x_get (pc := 11) (j := 0) d_Tre_grow_11 f_Tre_31 rfl rfl (Nat.le_of_ble_eq_true rfl) rfl rfl rfl ?_
  refine x_get (pc := 14) (j := 4) d_Tre_grow_14 f_Tre_35 rfl rfl (Nat.le_of_ble_eq_true rfl) rfl rfl rfl ?_
  refine x_iconst (pc := 17) (v := 3) d_Tre_grow_17 (by decide) ?_
  refine x_icmp_ge (pc := 18) (tgt := 23) d_Tre_grow_18 (by decide) (fun h18 => ?_) (fun h18 => ?_)
  · refine x_iconst (pc := 23) (v := 0) d_Tre_grow_23 (by decide) ?_
    refine y_ist1 (pc := 24) d_Tre_grow_24 ?_
    have h3 : 3 ≤ n := by
      change 3 ≤ V 1 4 at h18
      rw [hn] at h18
      rcases Nat.lt_or_ge n 3 with q | q
      · exact absurd h18 (nI_ge (a := n) (b := 3) q (by decide))
      · exact q
    have hz := hI h3 0 (Nat.zero_le _) (A 23) (fun v hv => absurd hv (Nat.not_lt_zero v))
    rw [za_self] at hz
    exact hz
  · refine x_iconst (pc := 21) (v := 0) d_Tre_grow_21 (by decide) ?_
    refine y_zret (pc := 22) d_Tre_grow_22 rfl rfl ?_
    refine ⟨⟨fun k j q => ?_, fun k q => rfl⟩, Or.inr ⟨rfl, fun es ht => ?_⟩⟩
    · rw [zv_eq, if_neg (fun w => q w.1), zv_eq, if_neg (fun w => q w.1)]
    · change ¬ 3 ≤ V 1 4 at h18
      rw [hn] at h18
      exact h18 (nI_le (a := 3) (b := n) ht.1 (by omega))
