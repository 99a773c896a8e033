def zRf (V A V' A' : zV) : Prop := (∀ k j, ¬ (k = 36 ∧ j = 28) → V' k j = V k j) ∧ ∀ k, ¬ (k = 48 ∨ k = 49 ∨ k = 50) → A' k = A k
theorem zRf_trans {V A V1 A1 V2 A2 : zV} (h : zRf V A V1 A1) (h2 : zRf V1 A1 V2 A2) : zRf V A V2 A2 := ⟨fun k j q => (h2.1 k j q).trans (h.1 k j q), fun k q => (h2.2 k q).trans (h.2 k q)⟩
def zSr (V A V' A' : zV) (es : List (Nat × Nat)) : Prop := zRf V A V' A' ∧ V' 36 28 = nI es.length ∧ zEd es (A' 48) (A' 49)
theorem zSr_push {V A V1 A1 V2 A2 : zV} {es : List (Nat × Nat)} {a b : Nat} (h : zSr V A V1 A1 es) (hV : V2 = zv V1 36 28 (nI (es.length + 1))) (hA : A2 = za (za A1 48 (upd (A1 48) es.length (nI a))) 49 (upd (A1 49) es.length (nI b)) ∨ ∃ f, A2 = za (za (za A1 48 (upd (A1 48) es.length (nI a))) 49 (upd (A1 49) es.length (nI b))) 50 f) : zSr V A V2 A2 (es ++ [(a, b)]) := by
  obtain ⟨hT, h5, hE⟩ := h
  subst hV
  refine ⟨zRf_trans hT ⟨fun k j q => ?_, fun k q => ?_⟩, ?_, ?_⟩
  · rw [zv_eq, if_neg q]
  · rcases hA with rfl | ⟨f, rfl⟩
    · rw [za_eq, if_neg (by omega), za_eq, if_neg (by omega)]
    · rw [za_eq, if_neg (by omega), za_eq, if_neg (by omega), za_eq, if_neg (by omega)]
  · rw [List.length_append]; rfl
  · rcases hA with rfl | ⟨f, rfl⟩ <;> exact zEd_push hE a b
set_option maxRecDepth 100000 in
set_option maxHeartbeats 4000000 in
theorem c_Mo_makeTree (V A : zV)  (n : Nat) (hn : V 36 1 = nI n) (h1 : 1 ≤ n) (h9 : n ≤ 9) : CQ Y_Mo_makeTree 2 [.ref 36] V A (fun r V' A' => zRf V A V' A' ∧ ((r = 1 ∧ ∃ es, zTree (ECr (A 38) (A 41)) 900000 n es ∧ V' 36 28 = nI es.length ∧ zEd es (A' 48) (A' 49)) ∨ (r = 0 ∧ (∀ es, ¬ zTree (ECr (A 38) (A 41)) 900000 n es)))) := by
  have h0 : (∀ es, ¬ zTree (ECr (A 38) (A 41)) 900000 n es) → ∀ V' A', zRf V A V' A' → ∀ q : Value, q.category = 1 → X Y_Mo_makeTree (zrm 2) (0, fun _ => 0) (zFq 2 (fun r V' A' => zRf V A V' A' ∧ ((r = 1 ∧ ∃ es, zTree (ECr (A 38) (A 41)) 900000 n es ∧ V' 36 28 = nI es.length ∧ zEd es (A' 48) (A' 49)) ∨ (r = 0 ∧ (∀ es, ¬ zTree (ECr (A 38) (A 41)) 900000 n es))))) 68 [.ref 36, .int 0, q] [] (cells V' A') 0 0 := by
    intro hno V' A' hF q hqc
    refine x_iload_n (pc := 68) d_Mo_makeTree_68 rfl ?_
    refine x_if_eq (pc := 69) (tgt := 92) d_Mo_makeTree_69 (by decide) (fun _ => ?_) (fun h => absurd h (by decide))
    refine x_iconst (pc := 92) (v := 0) d_Mo_makeTree_92 (by decide) ?_
    refine y_zret (pc := 93) d_Mo_makeTree_93 rfl rfl ?_
    exact ⟨hF, Or.inr ⟨rfl, hno⟩⟩
  have h00 : (∀ es, ¬ zTree (ECr (A 38) (A 41)) 900000 n es) → ∀ V' A', zRf V A V' A' → ∀ k : Int32, X Y_Mo_makeTree (zrm 2) (0, fun _ => 0) (zFq 2 (fun r V' A' => zRf V A V' A' ∧ ((r = 1 ∧ ∃ es, zTree (ECr (A 38) (A 41)) 900000 n es ∧ V' 36 28 = nI es.length ∧ zEd es (A' 48) (A' 49)) ∨ (r = 0 ∧ (∀ es, ¬ zTree (ECr (A 38) (A 41)) 900000 n es))))) 42 [.ref 36, .int 0, .int k] [] (cells V' A') 0 0 := by
    intro hno V' A' hF k
    refine x_iload_n (pc := 42) d_Mo_makeTree_42 rfl ?_
    refine x_aload_n (pc := 43) d_Mo_makeTree_43 rfl ?_
    refine x_get (pc := 44) (j := 1) d_Mo_makeTree_44 f_Mo_13 rfl rfl (Nat.le_of_ble_eq_true rfl) rfl rfl rfl ?_
    refine x_iconst (pc := 47) (v := 2) d_Mo_makeTree_47 (by decide) ?_
    refine x_isub (pc := 48) d_Mo_makeTree_48 ?_
    refine x_icmp_ge (pc := 49) (tgt := 68) d_Mo_makeTree_49 (by decide) (fun h49 => ?_) (fun h49 => ?_)
    · exact h0 hno _ _ hF _ rfl
    · refine x_iload_n (pc := 52) d_Mo_makeTree_52 rfl ?_
      refine x_if_eq (pc := 53) (tgt := 68) d_Mo_makeTree_53 (by decide) (fun _ => ?_) (fun h => absurd h (by decide))
      exact h0 hno _ _ hF _ rfl
  have hH2 : 3 ≤ n → ∀ es0 pt0, zRun (ECr (A 38) (A 41)) 900000 n (n - 2) es0 pt0 → ∀ t1, zOut (zPh (ECr (A 38) (A 41)) 900000 n 0) (ECr (A 38) (A 41)) (some (0, t1)) → ∀ V' A', zSr V A V' A' (es0 ++ [(0, t1)]) → ∀ p q : Value, p.category = 1 → q.category = 1 → X Y_Mo_makeTree (zrm 2) (0, fun _ => 0) (zFq 2 (fun r V' A' => zRf V A V' A' ∧ ((r = 1 ∧ ∃ es, zTree (ECr (A 38) (A 41)) 900000 n es ∧ V' 36 28 = nI es.length ∧ zEd es (A' 48) (A' 49)) ∨ (r = 0 ∧ (∀ es, ¬ zTree (ECr (A 38) (A 41)) 900000 n es))))) 80 [.ref 36, p, q] [] (cells V' A') 0 0 := by
    intro h3 es0 pt0 hrun t1 ho1 V' A' hst p q hpc hqc
    have hl0 := (zRun_facts hrun).1
    have hm0 := (zRun_facts hrun).2.1
    have hlen : (es0 ++ [(0, t1)]).length = n - 1 := by rw [List.length_append, hl0]; show n - 2 + 1 = n - 1; omega
    have e3 : A' 38 = A 38 := hst.1.2 38 (by omega)
    have e22 : A' 41 = A 41 := hst.1.2 41 (by omega)
    have hn' : V' 36 1 = nI n := (hst.1.1 36 1 (by omega)).trans hn
    have ht1 : t1 < n := ho1.1.2.2.1
    have hm : ∀ e ∈ es0 ++ [(0, t1)], e.1 < 9 ∧ e.2 < 9 := by
      intro e he
      rcases List.mem_append.mp he with he | he
      · obtain ⟨q1, q2, q3, -⟩ := hm0 e he
        omega
      · rw [List.mem_singleton.mp he]; exact ⟨show 0 < 9 by omega, show t1 < 9 by omega⟩
    have hes : ∀ b, 1 ≤ b → b < n → ((0, b) ∈ es0 ++ [(0, t1)] ↔ b = t1) := by
      intro b h1b hb
      constructor
      · intro he
        rcases List.mem_append.mp he with he | he
        · exact absurd (hm0 _ he).1 (show ¬ 1 ≤ 0 by decide)
        · exact (Prod.mk.inj (List.mem_singleton.mp he)).2
      · intro he; rw [he]; exact List.mem_append.mpr (Or.inr (List.mem_singleton.mpr rfl))
    refine x_aload_n (pc := 80) d_Mo_makeTree_80 rfl ?_
    refine x_iconst (pc := 81) (v := 1) d_Mo_makeTree_81 (by decide) ?_
    refine y_callV (pc := 82) (c_Mo_choose1 _ _ t1 n hn' h1 h9 _ hst.2.1 (by rw [hlen]; omega) hst.2.2 hm hes) k_Mo_choose d_Mo_makeTree_82 m_Mo_160 (by decide) rfl rfl rfl rfl p_Mo_choose (K := fun v2 V2 A2 hq => ?_)
    skip
    rw [e3, e22] at hq
    rcases hq with ⟨o, hz, ⟨rfl, rfl, rfl, rfl⟩ | ⟨t2, rfl, rfl, hV, hA⟩⟩
    · refine x_if_eq (pc := 85) (tgt := 92) d_Mo_makeTree_85 (by decide) (fun _ => ?_) (fun h => absurd h (by decide))
      refine x_iconst (pc := 92) (v := 0) d_Mo_makeTree_92 (by decide) ?_
      refine y_zret (pc := 93) d_Mo_makeTree_93 rfl rfl ?_
      exact ⟨hst.1, Or.inr ⟨rfl, fun es ht => by obtain ⟨-, es1, pt1, u1, u2, hr, hu1, hu2, -⟩ := ht; have e := zOut_one ho1 hu1 (fun _ _ => Iff.rfl) (fun _ _ _ => rfl); simp only [Option.some.injEq, Prod.mk.injEq] at e; obtain ⟨-, rfl⟩ := e; exact hz 0 u2 hu2.1⟩⟩
    · refine x_if_eq (pc := 85) (tgt := 92) d_Mo_makeTree_85 (by decide) (fun h => absurd h (by decide)) (fun _ => ?_)
      refine x_iconst (pc := 88) (v := 1) d_Mo_makeTree_88 (by decide) ?_
      refine x_goto (pc := 89) (tgt := 93) d_Mo_makeTree_89 (by decide) ?_
      refine y_zret (pc := 93) d_Mo_makeTree_93 rfl rfl ?_
      have hst2 := zSr_push hst hV (Or.inl hA)
      exact ⟨hst2.1, Or.inl ⟨rfl, _, ⟨h3, es0, pt0, t1, t2, hrun, ho1, hz, rfl⟩, hst2.2.1, hst2.2.2⟩⟩
  have hH1 : 3 ≤ n → ∀ es0 pt V' A', zRun (ECr (A 38) (A 41)) 900000 n (n - 2) es0 pt → zSr V A V' A' es0 → ∀ q : Value, q.category = 1 → X Y_Mo_makeTree (zrm 2) (0, fun _ => 0) (zFq 2 (fun r V' A' => zRf V A V' A' ∧ ((r = 1 ∧ ∃ es, zTree (ECr (A 38) (A 41)) 900000 n es ∧ V' 36 28 = nI es.length ∧ zEd es (A' 48) (A' 49)) ∨ (r = 0 ∧ (∀ es, ¬ zTree (ECr (A 38) (A 41)) 900000 n es))))) 68 [.ref 36, .int 1, q] [] (cells V' A') 0 0 := by
    intro h3 es0 pt V' A' hrun hst q hqc
    have hl0 := (zRun_facts hrun).1
    have hm0 := (zRun_facts hrun).2.1
    have e3 : A' 38 = A 38 := hst.1.2 38 (by omega)
    have e22 : A' 41 = A 41 := hst.1.2 41 (by omega)
    have hn' : V' 36 1 = nI n := (hst.1.1 36 1 (by omega)).trans hn
    have hm : ∀ e ∈ es0, e.1 < 9 ∧ e.2 < 9 := by
      intro e he
      obtain ⟨q1, q2, q3, -⟩ := hm0 e he
      omega
    have hes : ∀ b, 1 ≤ b → b < n → ((0, b) ∈ es0 ↔ b = 0) := by
      intro b h1b hb
      exact ⟨fun he => absurd (hm0 _ he).1 (show ¬ 1 ≤ 0 by decide), fun he => by omega⟩
    refine x_iload_n (pc := 68) d_Mo_makeTree_68 rfl ?_
    refine x_if_eq (pc := 69) (tgt := 92) d_Mo_makeTree_69 (by decide) (fun h => absurd h (by decide)) (fun _ => ?_)
    refine x_aload_n (pc := 72) d_Mo_makeTree_72 rfl ?_
    refine x_iconst (pc := 73) (v := 1) d_Mo_makeTree_73 (by decide) ?_
    refine y_callV (pc := 74) (c_Mo_choose1 _ _ 0 n hn' h1 h9 _ hst.2.1 (by rw [hl0]; omega) hst.2.2 hm hes) k_Mo_choose d_Mo_makeTree_74 m_Mo_160 (by decide) rfl rfl rfl rfl p_Mo_choose (K := fun v2 V2 A2 hq => ?_)
    skip
    rw [e3, e22] at hq
    rcases hq with ⟨o, hz, ⟨rfl, rfl, rfl, rfl⟩ | ⟨t1, rfl, rfl, hV, hA⟩⟩
    · refine x_if_eq (pc := 77) (tgt := 92) d_Mo_makeTree_77 (by decide) (fun _ => ?_) (fun h => absurd h (by decide))
      refine x_iconst (pc := 92) (v := 0) d_Mo_makeTree_92 (by decide) ?_
      refine y_zret (pc := 93) d_Mo_makeTree_93 rfl rfl ?_
      exact ⟨hst.1, Or.inr ⟨rfl, fun es ht => by obtain ⟨-, es1, pt1, u1, u2, hr, hu1, hu2, -⟩ := ht; exact hz 0 u1 hu1.1⟩⟩
    · refine x_if_eq (pc := 77) (tgt := 92) d_Mo_makeTree_77 (by decide) (fun h => absurd h (by decide)) (fun _ => ?_)
      exact hH2 h3 es0 pt hrun t1 hz _ _ (zSr_push hst hV (Or.inl hA)) _ _ rfl hqc
  have hJ : 3 ≤ n → ∀ k, k ≤ n - 2 → ∀ es pt V' A', zRun (ECr (A 38) (A 41)) 900000 n k es pt → zSr V A V' A' es → (∀ v, 1 ≤ v → v < n → A' 50 v = nI (pt v)) → X Y_Mo_makeTree (zrm 2) (0, fun _ => 0) (zFq 2 (fun r V' A' => zRf V A V' A' ∧ ((r = 1 ∧ ∃ es, zTree (ECr (A 38) (A 41)) 900000 n es ∧ V' 36 28 = nI es.length ∧ zEd es (A' 48) (A' 49)) ∨ (r = 0 ∧ (∀ es, ¬ zTree (ECr (A 38) (A 41)) 900000 n es))))) 42 [.ref 36, .int 1, .int (nI k)] [] (cells V' A') 0 0 := by
    intro h3
    have hs2 : nI n - 2 = nI (n - 2) := by
      rw [show n = n - 2 + 1 + 1 by omega, nI_succ, nI_succ, show n - 2 + 1 + 1 - 2 = n - 2 by omega, Int32.add_assoc]; exact Int32.add_sub_cancel _ _
    refine z_down (fun es pt V' A' hrun hst hpt => ?_) (fun k hk ih es pt V' A' hrun hst hpt => ?_)
    · have hn' : V' 36 1 = nI n := (hst.1.1 36 1 (by omega)).trans hn
      refine x_iload_n (pc := 42) d_Mo_makeTree_42 rfl ?_
      refine x_aload_n (pc := 43) d_Mo_makeTree_43 rfl ?_
      refine x_get (pc := 44) (j := 1) d_Mo_makeTree_44 f_Mo_13 rfl rfl (Nat.le_of_ble_eq_true rfl) rfl rfl rfl ?_
      refine x_iconst (pc := 47) (v := 2) d_Mo_makeTree_47 (by decide) ?_
      refine x_isub (pc := 48) d_Mo_makeTree_48 ?_
      refine x_icmp_ge (pc := 49) (tgt := 68) d_Mo_makeTree_49 (by decide) (fun h49 => ?_) (fun h => by rw [hn', hs2] at h; exact absurd (nI_le (Nat.le_refl _) (by omega)) h)
      exact hH1 h3 es pt _ _ hrun hst _ rfl
    · have hl0 := (zRun_facts hrun).1
      have hm0 := (zRun_facts hrun).2.1
      have hp0 := (zRun_facts hrun).2.2
      have e3 : A' 38 = A 38 := hst.1.2 38 (by omega)
      have e22 : A' 41 = A 41 := hst.1.2 41 (by omega)
      have hn' : V' 36 1 = nI n := (hst.1.1 36 1 (by omega)).trans hn
      have hm : ∀ e ∈ es, e.1 < 9 ∧ e.2 < 9 := by
        intro e he
        obtain ⟨q1, q2, q3, -⟩ := hm0 e he
        omega
      refine x_iload_n (pc := 42) d_Mo_makeTree_42 rfl ?_
      refine x_aload_n (pc := 43) d_Mo_makeTree_43 rfl ?_
      refine x_get (pc := 44) (j := 1) d_Mo_makeTree_44 f_Mo_13 rfl rfl (Nat.le_of_ble_eq_true rfl) rfl rfl rfl ?_
      refine x_iconst (pc := 47) (v := 2) d_Mo_makeTree_47 (by decide) ?_
      refine x_isub (pc := 48) d_Mo_makeTree_48 ?_
      refine x_icmp_ge (pc := 49) (tgt := 68) d_Mo_makeTree_49 (by decide) (fun h => by rw [hn', hs2] at h; exact absurd h (nI_ge (by omega) (by omega))) (fun h49 => ?_)
      refine x_iload_n (pc := 52) d_Mo_makeTree_52 rfl ?_
      refine x_if_eq (pc := 53) (tgt := 68) d_Mo_makeTree_53 (by decide) (fun h => absurd h (by decide)) (fun _ => ?_)
      refine x_aload_n (pc := 56) d_Mo_makeTree_56 rfl ?_
      refine x_iconst (pc := 57) (v := 0) d_Mo_makeTree_57 (by decide) ?_
      refine y_callV (pc := 58) (c_Mo_choose0 _ _ n hn' h1 h9 es hst.2.1 (by rw [hl0]; omega) hst.2.2 hm pt (fun v h1v hv => ⟨hpt v h1v hv, by have := hp0 v hv; omega⟩) (fun e he => (hm0 e he).2.2.2.1)) k_Mo_choose d_Mo_makeTree_58 m_Mo_160 (by decide) rfl rfl rfl rfl p_Mo_choose (K := fun v2 V2 A2 hq => ?_)
      skip
      rw [e3, e22] at hq
      rcases hq with ⟨o, hz, ⟨rfl, rfl, rfl, rfl⟩ | ⟨a, b, rfl, rfl, f, hV, hA, hf⟩⟩
      · refine y_ist1 (pc := 61) d_Mo_makeTree_61 ?_
        refine y_inc2 (pc := 62) (v := 1) d_Mo_makeTree_62 (by decide) ?_
        refine x_goto (pc := 65) (tgt := 42) d_Mo_makeTree_65 (by decide) ?_
        refine h00 (fun es' ht => ?_) _ _ hst.1 _
        obtain ⟨-, es1, pt1, u1, u2, hr, -, -, -⟩ := ht
        obtain ⟨es2, pt2, e, hr2, ho2⟩ := zRun_pre hr hk
        obtain ⟨rfl, rfl⟩ := zRun_one (fun _ _ _ _ => Iff.rfl) (fun _ _ _ _ _ => rfl) hrun hr2
        exact hz _ _ ho2.1
      · refine y_ist1 (pc := 61) d_Mo_makeTree_61 ?_
        refine y_inc2 (pc := 62) (v := 1) d_Mo_makeTree_62 (by decide) ?_
        refine x_goto (pc := 65) (tgt := 42) d_Mo_makeTree_65 (by decide) ?_
        rw [show nI k + 1 = nI (k + 1) from (nI_succ k).symm]
        exact ih _ _ _ _ ⟨es, pt, a, b, hrun, hz, rfl, rfl⟩ (zSr_push hst hV (Or.inr ⟨f, hA⟩)) (fun v h1v hv => by rw [hA]; exact hf v h1v hv)
  have hI : ∀ j, j ≤ 9 → ∀ f : Nat → Int32, (∀ v, v < j → f v = nI v) → X Y_Mo_makeTree (zrm 2) (0, fun _ => 0) (zFq 2 (fun r V' A' => zRf V A V' A' ∧ ((r = 1 ∧ ∃ es, zTree (ECr (A 38) (A 41)) 900000 n es ∧ V' 36 28 = nI es.length ∧ zEd es (A' 48) (A' 49)) ∨ (r = 0 ∧ (∀ es, ¬ zTree (ECr (A 38) (A 41)) 900000 n es))))) 7 [.ref 36, .int (nI j), zu] [] (cells (zv V 36 28 0) (za A 50 f)) 0 0 := by
    refine z_down (fun f hf => ?_) (fun j hj hs f hf => ?_)
    · have hF : zRf V A (zv V 36 28 0) (za A 50 f) := ⟨fun k j q => by rw [zv_eq, if_neg q], fun k q => by rw [za_eq, if_neg (by omega)]⟩
      refine x_iload_n (pc := 7) d_Mo_makeTree_7 rfl ?_
      refine x_bipush (pc := 8) (v := 9) d_Mo_makeTree_8 (by decide) ?_
      refine x_icmp_ge (pc := 10) (tgt := 26) d_Mo_makeTree_10 (by decide) (fun h10 => ?_) (fun h => absurd (nI_le (a := 9) (b := 9) (by omega) (by decide)) h)
      refine x_aload_n (pc := 26) d_Mo_makeTree_26 rfl ?_
      refine x_get (pc := 27) (j := 1) d_Mo_makeTree_27 f_Mo_13 rfl rfl (Nat.le_of_ble_eq_true rfl) rfl rfl rfl ?_
      refine x_iconst (pc := 30) (v := 3) d_Mo_makeTree_30 (by decide) ?_
      refine x_icmp_lt (pc := 31) (tgt := 38) d_Mo_makeTree_31 (by decide) (fun h31 => ?_) (fun h31 => ?_)
      · refine x_iconst (pc := 38) (v := 0) d_Mo_makeTree_38 (by decide) ?_
        refine y_ist1 (pc := 39) d_Mo_makeTree_39 ?_
        refine x_iconst (pc := 40) (v := 0) d_Mo_makeTree_40 (by decide) ?_
        refine y_ist2 (pc := 41) d_Mo_makeTree_41 ?_
        change V 36 1 < 3 at h31
        rw [hn] at h31
        exact h00 (fun es ht => absurd (nI_le (a := 3) (b := n) ht.1 (by omega)) (Int32.not_le.mpr h31)) _ _ hF _
      · refine x_iconst (pc := 34) (v := 1) d_Mo_makeTree_34 (by decide) ?_
        refine x_goto (pc := 35) (tgt := 39) d_Mo_makeTree_35 (by decide) ?_
        refine y_ist1 (pc := 39) d_Mo_makeTree_39 ?_
        refine x_iconst (pc := 40) (v := 0) d_Mo_makeTree_40 (by decide) ?_
        refine y_ist2 (pc := 41) d_Mo_makeTree_41 ?_
        change ¬ V 36 1 < 3 at h31
        rw [hn] at h31
        have h3 : 3 ≤ n := by
          rcases Nat.lt_or_ge n 3 with q | q
          · exact absurd (nI_lt (a := n) (b := 3) q (by decide)) h31
          · exact q
        exact hJ h3 0 (Nat.zero_le _) [] (fun v => v) _ _ ⟨rfl, rfl⟩ ⟨hF, rfl, fun i e q => absurd q (by simp)⟩ (fun v _ hv => hf v (by omega))
    · refine x_iload_n (pc := 7) d_Mo_makeTree_7 rfl ?_
      refine x_bipush (pc := 8) (v := 9) d_Mo_makeTree_8 (by decide) ?_
      refine x_icmp_ge (pc := 10) (tgt := 26) d_Mo_makeTree_10 (by decide) (fun h => absurd h (nI_ge (a := j) (b := 9) hj (by decide))) (fun h10 => ?_)
      refine x_aload_n (pc := 13) d_Mo_makeTree_13 rfl ?_
      refine x_get (pc := 14) (j := 29) d_Mo_makeTree_14 f_Mo_63 rfl rfl (Nat.le_of_ble_eq_true rfl) rfl rfl rfl ?_
      refine x_iload_n (pc := 17) d_Mo_makeTree_17 rfl ?_
      refine x_iload_n (pc := 18) d_Mo_makeTree_18 rfl ?_
      refine y_iast (pc := 19) d_Mo_makeTree_19 rfl (fun _ => rfl) (vp_in_nI (by omega) (by decide)) ?_
      refine y_inc1 (pc := 20) (v := 1) d_Mo_makeTree_20 (by decide) ?_
      refine x_goto (pc := 23) (tgt := 7) d_Mo_makeTree_23 (by decide) ?_
      rw [show nI j + 1 = nI (j + 1) from (nI_succ j).symm, za_za]
      refine hs _ (fun v hv => ?_)
      show upd f (nI j).toNatClampNeg (nI j) v = _
      rw [nI_clamp (by omega)]
      by_cases hvj : v = j
      · rw [hvj, upd_at]
      · rw [upd_ne _ _ hvj]; exact hf v (by omega)
  refine CQ.of (lv := [.ref 36, zu, zu]) k_Mo_makeTree.1 rfl (by decide) rfl rfl (Nat.le_of_ble_eq_true rfl) ?_
  refine x_aload_n (pc := 0) d_Mo_makeTree_0 rfl ?_
  refine x_iconst (pc := 1) (v := 0) d_Mo_makeTree_1 (by decide) ?_
  refine y_put (pc := 2) (j := 28) d_Mo_makeTree_2 f_Mo_150 rfl rfl (Nat.le_of_ble_eq_true rfl) rfl (Nat.le_of_ble_eq_true rfl) rfl rfl (fun _ => rfl) ?_
  refine x_iconst (pc := 5) (v := 0) d_Mo_makeTree_5 (by decide) ?_
  refine y_ist1 (pc := 6) d_Mo_makeTree_6 ?_
  have hz := hI 0 (Nat.zero_le _) (A 50) (fun v hv => absurd hv (Nat.not_lt_zero v))
  rw [za_self] at hz
  exact hz
set_option maxRecDepth 100000 in
set_option maxHeartbeats 4000000 in
theorem c_Mo_bound (V A : zV)  (n : Nat) (hn : V 36 1 = nI n) (h1 : 1 ≤ n) (h9 : n ≤ 9) : CQ Y_Mo_bound 10 [.ref 36] V A (fun r V' A' => zRf (zv V 36 0 0) A V' A' ∧ ((r = (-1000000) ∧ (∀ es, ¬ zTree (ECr (A 38) (A 41)) 900000 n es)) ∨ ∃ es, zTree (ECr (A 38) (A 41)) 900000 n es ∧ r = zf (fun i s => s - 2 * A 41 i) (zEs (ECr (A 38) (A 41)) es) n)) := by
  have hW : ∀ es, zTree (ECr (A 38) (A 41)) 900000 n es → ∀ V' A', zRf (zv V 36 0 0) A V' A' → V' 36 28 = nI es.length → zEd es (A' 48) (A' 49) → X Y_Mo_bound (zrm 10) (0, fun _ => 0) (zFq 10 (fun r V' A' => zRf (zv V 36 0 0) A V' A' ∧ ((r = (-1000000) ∧ (∀ es, ¬ zTree (ECr (A 38) (A 41)) 900000 n es)) ∨ ∃ es, zTree (ECr (A 38) (A 41)) 900000 n es ∧ r = zf (fun i s => s - 2 * A 41 i) (zEs (ECr (A 38) (A 41)) es) n))) 15 [.ref 36, zu, zu] [] (cells V' A') 0 0 := by
    intro es ht V' A' hF h28 hE
    have hn' : V' 36 1 = nI n := (hF.1 36 1 (by omega)).trans hn
    have e3 : A' 38 = A 38 := hF.2 38 (by omega)
    have e22 : A' 41 = A 41 := hF.2 41 (by omega)
    have hlen := zTree_len ht
    have hmem := zTree_mem ht
    have hS2 : ∀ k, k ≤ n → X Y_Mo_bound (zrm 10) (0, fun _ => 0) (zFq 10 (fun r V' A' => zRf (zv V 36 0 0) A V' A' ∧ ((r = (-1000000) ∧ (∀ es, ¬ zTree (ECr (A 38) (A 41)) 900000 n es)) ∨ ∃ es, zTree (ECr (A 38) (A 41)) 900000 n es ∧ r = zf (fun i s => s - 2 * A 41 i) (zEs (ECr (A 38) (A 41)) es) n))) 54 [.ref 36, .int (zf (fun i s => s - 2 * A 41 i) (zEs (ECr (A 38) (A 41)) es) k), .int (nI k)] [] (cells V' A') 0 0 := by
      refine z_down ?_ (fun k hk hs => ?_)
      · refine x_iload_n (pc := 54) d_Mo_bound_54 rfl ?_
        refine x_aload_n (pc := 55) d_Mo_bound_55 rfl ?_
        refine x_get (pc := 56) (j := 1) d_Mo_bound_56 f_Mo_13 rfl rfl (Nat.le_of_ble_eq_true rfl) rfl rfl rfl ?_
        refine x_icmp_ge (pc := 59) (tgt := 79) d_Mo_bound_59 (by decide) (fun h59 => ?_) (fun h => by rw [hn'] at h; exact absurd (nI_le (by omega) (by omega)) h)
        refine x_iload_n (pc := 79) d_Mo_bound_79 rfl ?_
        refine y_iret (pc := 80) d_Mo_bound_80 rfl ?_
        exact ⟨hF, Or.inr ⟨es, ht, rfl⟩⟩
      · refine x_iload_n (pc := 54) d_Mo_bound_54 rfl ?_
        refine x_aload_n (pc := 55) d_Mo_bound_55 rfl ?_
        refine x_get (pc := 56) (j := 1) d_Mo_bound_56 f_Mo_13 rfl rfl (Nat.le_of_ble_eq_true rfl) rfl rfl rfl ?_
        refine x_icmp_ge (pc := 59) (tgt := 79) d_Mo_bound_59 (by decide) (fun h => by rw [hn'] at h; exact absurd h (nI_ge (by omega) (by omega))) (fun h59 => ?_)
        refine x_iload_n (pc := 62) d_Mo_bound_62 rfl ?_
        refine x_iconst (pc := 63) (v := 2) d_Mo_bound_63 (by decide) ?_
        refine x_aload_n (pc := 64) d_Mo_bound_64 rfl ?_
        refine x_get (pc := 65) (j := 9) d_Mo_bound_65 f_Mo_36 rfl rfl (Nat.le_of_ble_eq_true rfl) rfl rfl rfl ?_
        refine x_iload_n (pc := 68) d_Mo_bound_68 rfl ?_
        refine x_iald (pc := 69) d_Mo_bound_69 rfl (vp_in_nI (by omega) (by decide)) ?_
        refine x_imul (pc := 70) d_Mo_bound_70 ?_
        refine x_isub (pc := 71) d_Mo_bound_71 ?_
        refine y_ist1 (pc := 72) d_Mo_bound_72 ?_
        refine y_inc2 (pc := 73) (v := 1) d_Mo_bound_73 (by decide) ?_
        refine x_goto (pc := 76) (tgt := 54) d_Mo_bound_76 (by decide) ?_
        rw [nI_clamp (by omega), e22]
        rw [zf_s _ _ k, show nI (k + 1) = nI k + 1 from nI_succ k] at hs
        exact hs
    have hS1 : ∀ k, k ≤ es.length → X Y_Mo_bound (zrm 10) (0, fun _ => 0) (zFq 10 (fun r V' A' => zRf (zv V 36 0 0) A V' A' ∧ ((r = (-1000000) ∧ (∀ es, ¬ zTree (ECr (A 38) (A 41)) 900000 n es)) ∨ ∃ es, zTree (ECr (A 38) (A 41)) 900000 n es ∧ r = zf (fun i s => s - 2 * A 41 i) (zEs (ECr (A 38) (A 41)) es) n))) 19 [.ref 36, .int (zf (fun i s => s + (ECr (A 38) (A 41)) (es.getD i (0, 0)).1 (es.getD i (0, 0)).2) 0 k), .int (nI k)] [] (cells V' A') 0 0 := by
      refine z_down ?_ (fun k hk hs => ?_)
      · refine x_iload_n (pc := 19) d_Mo_bound_19 rfl ?_
        refine x_aload_n (pc := 20) d_Mo_bound_20 rfl ?_
        refine x_get (pc := 21) (j := 28) d_Mo_bound_21 f_Mo_150 rfl rfl (Nat.le_of_ble_eq_true rfl) rfl rfl rfl ?_
        refine x_icmp_ge (pc := 24) (tgt := 52) d_Mo_bound_24 (by decide) (fun h24 => ?_) (fun h => by rw [h28] at h; exact absurd (nI_le (by omega) (by omega)) h)
        refine x_iconst (pc := 52) (v := 0) d_Mo_bound_52 (by decide) ?_
        refine y_ist2 (pc := 53) d_Mo_bound_53 ?_
        have hz := hS2 0 (Nat.zero_le _)
        rw [show zf (fun i s => s + (ECr (A 38) (A 41)) (es.getD i (0, 0)).1 (es.getD i (0, 0)).2) 0 es.length = zEs (ECr (A 38) (A 41)) es from zf_fold (fun i e s q => by rw [List.getD_eq_getElem?_getD, q]; rfl) 0]
        exact hz
      · have ck : (nI k).toNatClampNeg = k := nI_clamp (by omega)
        have hg : es.getD k (0, 0) = es[k] := by rw [List.getD_eq_getElem?_getD, List.getElem?_eq_getElem hk]; rfl
        have hEk := hE k es[k] (List.getElem?_eq_getElem hk)
        have hmk := hmem es[k] (List.getElem_mem hk)
        rw [zf_s _ _ k, show nI (k + 1) = nI k + 1 from nI_succ k, hg] at hs
        refine x_iload_n (pc := 19) d_Mo_bound_19 rfl ?_
        refine x_aload_n (pc := 20) d_Mo_bound_20 rfl ?_
        refine x_get (pc := 21) (j := 28) d_Mo_bound_21 f_Mo_150 rfl rfl (Nat.le_of_ble_eq_true rfl) rfl rfl rfl ?_
        refine x_icmp_ge (pc := 24) (tgt := 52) d_Mo_bound_24 (by decide) (fun h => by rw [h28] at h; exact absurd h (nI_ge (by omega) (by omega))) (fun h24 => ?_)
        refine x_iload_n (pc := 27) d_Mo_bound_27 rfl ?_
        refine x_aload_n (pc := 28) d_Mo_bound_28 rfl ?_
        refine x_aload_n (pc := 29) d_Mo_bound_29 rfl ?_
        refine x_get (pc := 30) (j := 26) d_Mo_bound_30 f_Mo_57 rfl rfl (Nat.le_of_ble_eq_true rfl) rfl rfl rfl ?_
        refine x_iload_n (pc := 33) d_Mo_bound_33 rfl ?_
        refine x_iald (pc := 34) d_Mo_bound_34 rfl (vp_in_nI (by omega) (by decide)) ?_
        refine x_aload_n (pc := 35) d_Mo_bound_35 rfl ?_
        refine x_get (pc := 36) (j := 27) d_Mo_bound_36 f_Mo_60 rfl rfl (Nat.le_of_ble_eq_true rfl) rfl rfl rfl ?_
        refine x_iload_n (pc := 39) d_Mo_bound_39 rfl ?_
        refine x_iald (pc := 40) d_Mo_bound_40 rfl (vp_in_nI (by omega) (by decide)) ?_
        rw [ck, hEk.1, hEk.2]
        refine y_fV (pc := 41) (c_Mo_edgeCost _ _ es[k].1 es[k].2 (by omega) (by omega)) k_Mo_edgeCost d_Mo_bound_41 m_Mo_153 (by decide) rfl rfl rfl rfl p_Mo_edgeCost (K := ?_)
        refine x_iadd (pc := 44) d_Mo_bound_44 ?_
        refine y_ist1 (pc := 45) d_Mo_bound_45 ?_
        refine y_inc2 (pc := 46) (v := 1) d_Mo_bound_46 (by decide) ?_
        refine x_goto (pc := 49) (tgt := 19) d_Mo_bound_49 (by decide) ?_
        rw [e3, e22]
        exact hs
    refine x_iconst (pc := 15) (v := 0) d_Mo_bound_15 (by decide) ?_
    refine y_ist1 (pc := 16) d_Mo_bound_16 ?_
    refine x_iconst (pc := 17) (v := 0) d_Mo_bound_17 (by decide) ?_
    refine y_ist2 (pc := 18) d_Mo_bound_18 ?_
    exact hS1 0 (Nat.zero_le _)
  refine CQ.of (lv := [.ref 36, zu, zu]) k_Mo_bound.1 rfl (by decide) rfl rfl (Nat.le_of_ble_eq_true rfl) ?_
  refine x_aload_n (pc := 0) d_Mo_bound_0 rfl ?_
  refine x_iconst (pc := 1) (v := 0) d_Mo_bound_1 (by decide) ?_
  refine y_put (pc := 2) (j := 0) d_Mo_bound_2 f_Mo_1 rfl rfl (Nat.le_of_ble_eq_true rfl) rfl (Nat.le_of_ble_eq_true rfl) rfl rfl (fun _ => rfl) ?_
  refine x_aload_n (pc := 5) d_Mo_bound_5 rfl ?_
  refine y_callV (pc := 6) (c_Mo_makeTree _ _ n (by exact hn) h1 h9) k_Mo_makeTree d_Mo_bound_6 m_Mo_164 (by decide) rfl rfl rfl rfl p_Mo_makeTree (K := fun v' V' A' hq => ?_)
  obtain ⟨hF, hq⟩ := hq
  rcases hq with ⟨rfl, es, ht, h28, hE⟩ | ⟨rfl, hq⟩
  · refine x_if_ne (pc := 9) (tgt := 15) d_Mo_bound_9 (by decide) (fun _ => ?_) (fun h => absurd h (by decide))
    exact hW es ht _ _ hF h28 hE
  · refine x_if_ne (pc := 9) (tgt := 15) d_Mo_bound_9 (by decide) (fun h => absurd h (by decide)) (fun _ => ?_)
    refine x_ldc (pc := 12) (v := (-1000000)) d_Mo_bound_12 i_Mo_88 ?_
    refine y_iret (pc := 14) d_Mo_bound_14 rfl ?_
    exact ⟨hF, Or.inl ⟨rfl, hq⟩⟩
set_option maxRecDepth 100000 in
set_option maxHeartbeats 4000000 in
theorem c_Mo_edge (V A : zV) (u w : Int32) (n : Nat) (hn : V 36 1 = nI n) (h1 : 1 ≤ n) (h9 : n ≤ 9) : CQ Y_Mo_edge 10 [.ref 36, .int u, .int w] V A (fun r V' A' => zRf (zv V 36 0 0) A V' A' ∧ ((r = (-1000000) ∧ (∀ es, ¬ zTree (ECr (A 38) (A 41)) 900000 n es)) ∨ ∃ es, zTree (ECr (A 38) (A 41)) 900000 n es ∧ ((¬ (0 ≤ u ∧ u < nI es.length ∧ 0 ≤ w ∧ w ≤ 1) ∧ r = (-2000000)) ∨ ∃ i e, es[i]? = some e ∧ u = nI i ∧ ((w = 0 ∧ r = nI e.1) ∨ (w = 1 ∧ r = nI e.2))))) := by
  refine CQ.of (lv := [.ref 36, .int u, .int w]) k_Mo_edge.1 rfl (by decide) rfl rfl (Nat.le_of_ble_eq_true rfl) ?_
  refine x_aload_n (pc := 0) d_Mo_edge_0 rfl ?_
  refine x_iconst (pc := 1) (v := 0) d_Mo_edge_1 (by decide) ?_
  refine y_put (pc := 2) (j := 0) d_Mo_edge_2 f_Mo_1 rfl rfl (Nat.le_of_ble_eq_true rfl) rfl (Nat.le_of_ble_eq_true rfl) rfl rfl (fun _ => rfl) ?_
  refine x_aload_n (pc := 5) d_Mo_edge_5 rfl ?_
  refine y_callV (pc := 6) (c_Mo_makeTree _ _ n (by exact hn) h1 h9) k_Mo_makeTree d_Mo_edge_6 m_Mo_164 (by decide) rfl rfl rfl rfl p_Mo_makeTree (K := fun v' V' A' hq => ?_)
  obtain ⟨hF, hq⟩ := hq
  rcases hq with ⟨rfl, es, ht, h28, hE⟩ | ⟨rfl, hq⟩
  · have hlen := zTree_len ht
    have h3 := ht.1
    have hls : u ≤ V' 36 28 - 1 ↔ u < nI es.length := by
      rw [h28, show es.length = es.length - 1 + 1 by omega, nI_succ, show nI (es.length - 1) + 1 - 1 = nI (es.length - 1) from Int32.add_sub_cancel _ _, z_le, z_lt, ← nI_succ, nI_toInt (by omega), nI_toInt (by omega)]
      omega
    refine x_if_ne (pc := 9) (tgt := 15) d_Mo_edge_9 (by decide) (fun _ => ?_) (fun h => absurd h (by decide))
    refine x_iload_n (pc := 15) d_Mo_edge_15 rfl ?_
    refine x_iconst (pc := 16) (v := 0) d_Mo_edge_16 (by decide) ?_
    refine x_aload_n (pc := 17) d_Mo_edge_17 rfl ?_
    refine x_get (pc := 18) (j := 28) d_Mo_edge_18 f_Mo_150 rfl rfl (Nat.le_of_ble_eq_true rfl) rfl rfl rfl ?_
    refine x_iconst (pc := 21) (v := 1) d_Mo_edge_21 (by decide) ?_
    refine x_isub (pc := 22) d_Mo_edge_22 ?_
    refine y_bS (pc := 23) (c_Mo_in _ _ _ _ _) k_Mo_in d_Mo_edge_23 m_Mo_70 (by decide) rfl p_Mo_in (K1 := fun q23 => ?_) (K0 := fun q23 => ?_)
    · refine x_if_eq (pc := 26) (tgt := 38) d_Mo_edge_26 (by decide) (fun h => absurd h (by decide)) (fun _ => ?_)
      refine x_iload_n (pc := 29) d_Mo_edge_29 rfl ?_
      refine x_iconst (pc := 30) (v := 0) d_Mo_edge_30 (by decide) ?_
      refine x_iconst (pc := 31) (v := 1) d_Mo_edge_31 (by decide) ?_
      refine y_bS (pc := 32) (c_Mo_in _ _ _ _ _) k_Mo_in d_Mo_edge_32 m_Mo_70 (by decide) rfl p_Mo_in (K1 := fun q32 => ?_) (K0 := fun q32 => ?_)
      · refine x_if_ne (pc := 35) (tgt := 43) d_Mo_edge_35 (by decide) (fun _ => ?_) (fun h => absurd h (by decide))
        obtain ⟨i, hi, hui⟩ := z_nat (n := es.length) q23.1 (hls.mp q23.2) (by omega)
        subst hui
        have hci : (nI i).toNatClampNeg = i := nI_clamp (by omega)
        have hEi := hE i es[i] (List.getElem?_eq_getElem hi)
        refine x_iload_n (pc := 43) d_Mo_edge_43 rfl ?_
        refine x_if_ne (pc := 44) (tgt := 56) d_Mo_edge_44 (by decide) (fun h44 => ?_) (fun h44 => ?_)
        · refine x_aload_n (pc := 56) d_Mo_edge_56 rfl ?_
          refine x_get (pc := 57) (j := 27) d_Mo_edge_57 f_Mo_60 rfl rfl (Nat.le_of_ble_eq_true rfl) rfl rfl rfl ?_
          refine x_iload_n (pc := 60) d_Mo_edge_60 rfl ?_
          refine x_iald (pc := 61) d_Mo_edge_61 rfl (vp_in_nI (by omega) (by decide)) ?_
          refine y_iret (pc := 62) d_Mo_edge_62 rfl ?_
          refine ⟨hF, Or.inr ⟨es, ht, Or.inr ⟨i, es[i], List.getElem?_eq_getElem hi, rfl, Or.inr ⟨?_, ?_⟩⟩⟩⟩
          · have z1 := q32.1
            have z2 := q32.2
            rw [z_le, z_t0] at z1
            rw [z_le, z_t1] at z2
            rw [z_eq, z_t0] at h44
            rw [z_eq, z_t1]; omega
          · rw [hci]; exact hEi.2
        · refine x_aload_n (pc := 47) d_Mo_edge_47 rfl ?_
          refine x_get (pc := 48) (j := 26) d_Mo_edge_48 f_Mo_57 rfl rfl (Nat.le_of_ble_eq_true rfl) rfl rfl rfl ?_
          refine x_iload_n (pc := 51) d_Mo_edge_51 rfl ?_
          refine x_iald (pc := 52) d_Mo_edge_52 rfl (vp_in_nI (by omega) (by decide)) ?_
          refine x_goto (pc := 53) (tgt := 62) d_Mo_edge_53 (by decide) ?_
          refine y_iret (pc := 62) d_Mo_edge_62 rfl ?_
          refine ⟨hF, Or.inr ⟨es, ht, Or.inr ⟨i, es[i], List.getElem?_eq_getElem hi, rfl, Or.inl ⟨h44, ?_⟩⟩⟩⟩
          rw [hci]; exact hEi.1
      · refine x_if_ne (pc := 35) (tgt := 43) d_Mo_edge_35 (by decide) (fun h => absurd h (by decide)) (fun _ => ?_)
        refine x_ldc (pc := 38) (v := (-2000000)) d_Mo_edge_38 i_Mo_78 ?_
        refine x_goto (pc := 40) (tgt := 62) d_Mo_edge_40 (by decide) ?_
        refine y_iret (pc := 62) d_Mo_edge_62 rfl ?_
        refine ⟨hF, Or.inr ⟨es, ht, Or.inl ⟨fun q => ?_, rfl⟩⟩⟩
        exact q32 ⟨q.2.2.1, q.2.2.2⟩
    · refine x_if_eq (pc := 26) (tgt := 38) d_Mo_edge_26 (by decide) (fun _ => ?_) (fun h => absurd h (by decide))
      refine x_ldc (pc := 38) (v := (-2000000)) d_Mo_edge_38 i_Mo_78 ?_
      refine x_goto (pc := 40) (tgt := 62) d_Mo_edge_40 (by decide) ?_
      refine y_iret (pc := 62) d_Mo_edge_62 rfl ?_
      refine ⟨hF, Or.inr ⟨es, ht, Or.inl ⟨fun q => ?_, rfl⟩⟩⟩
      exact q23 ⟨q.1, hls.mpr q.2.1⟩
  · refine x_if_ne (pc := 9) (tgt := 15) d_Mo_edge_9 (by decide) (fun h => absurd h (by decide)) (fun _ => ?_)
    refine x_ldc (pc := 12) (v := (-1000000)) d_Mo_edge_12 i_Mo_88 ?_
    refine y_iret (pc := 14) d_Mo_edge_14 rfl ?_
    exact ⟨hF, Or.inl ⟨rfl, hq⟩⟩
set_option maxRecDepth 100000 in
set_option maxHeartbeats 4000000 in
theorem c_Mo_degree (V A : zV) (w : Int32) (n : Nat) (hn : V 36 1 = nI n) (h1 : 1 ≤ n) (h9 : n ≤ 9) : CQ Y_Mo_degree 10 [.ref 36, .int w] V A (fun r V' A' => (¬ (0 ≤ w ∧ w < nI n) ∧ r = (-2000000) ∧ V' = zv V 36 0 0 ∧ A' = A) ∨ ((0 ≤ w ∧ w < nI n) ∧ zRf (zv V 36 0 0) A V' A' ∧ ((r = (-1000000) ∧ (∀ es, ¬ zTree (ECr (A 38) (A 41)) 900000 n es)) ∨ ∃ es, zTree (ECr (A 38) (A 41)) 900000 n es ∧ r = es.foldl (fun s e => if nI e.1 = w ∨ nI e.2 = w then s + 1 else s) 0))) := by
  have hW : (0 ≤ w ∧ w < nI n) → ∀ es, zTree (ECr (A 38) (A 41)) 900000 n es → ∀ V' A', zRf (zv V 36 0 0) A V' A' → V' 36 28 = nI es.length → zEd es (A' 48) (A' 49) → X Y_Mo_degree (zrm 10) (0, fun _ => 0) (zFq 10 (fun r V' A' => (¬ (0 ≤ w ∧ w < nI n) ∧ r = (-2000000) ∧ V' = zv V 36 0 0 ∧ A' = A) ∨ ((0 ≤ w ∧ w < nI n) ∧ zRf (zv V 36 0 0) A V' A' ∧ ((r = (-1000000) ∧ (∀ es, ¬ zTree (ECr (A 38) (A 41)) 900000 n es)) ∨ ∃ es, zTree (ECr (A 38) (A 41)) 900000 n es ∧ r = es.foldl (fun s e => if nI e.1 = w ∨ nI e.2 = w then s + 1 else s) 0)))) 26 [.ref 36, .int w, zu, zu] [] (cells V' A') 0 0 := by
    intro hw es ht V' A' hF h28 hE
    have hlen := zTree_len ht
    have hS : ∀ k, k ≤ es.length → X Y_Mo_degree (zrm 10) (0, fun _ => 0) (zFq 10 (fun r V' A' => (¬ (0 ≤ w ∧ w < nI n) ∧ r = (-2000000) ∧ V' = zv V 36 0 0 ∧ A' = A) ∨ ((0 ≤ w ∧ w < nI n) ∧ zRf (zv V 36 0 0) A V' A' ∧ ((r = (-1000000) ∧ (∀ es, ¬ zTree (ECr (A 38) (A 41)) 900000 n es)) ∨ ∃ es, zTree (ECr (A 38) (A 41)) 900000 n es ∧ r = es.foldl (fun s e => if nI e.1 = w ∨ nI e.2 = w then s + 1 else s) 0)))) 30 [.ref 36, .int w, .int (zf (fun i s => if A' 48 i = w ∨ A' 49 i = w then s + 1 else s) 0 k), .int (nI k)] [] (cells V' A') 0 0 := by
      refine z_down ?_ (fun k hk hs => ?_)
      · refine x_iload_n (pc := 30) d_Mo_degree_30 rfl ?_
        refine x_aload_n (pc := 31) d_Mo_degree_31 rfl ?_
        refine x_get (pc := 32) (j := 28) d_Mo_degree_32 f_Mo_150 rfl rfl (Nat.le_of_ble_eq_true rfl) rfl rfl rfl ?_
        refine x_icmp_ge (pc := 35) (tgt := 72) d_Mo_degree_35 (by decide) (fun h35 => ?_) (fun h => by rw [h28] at h; exact absurd (nI_le (by omega) (by omega)) h)
        refine x_iload_n (pc := 72) d_Mo_degree_72 rfl ?_
        refine y_iret (pc := 73) d_Mo_degree_73 rfl ?_
        exact Or.inr ⟨hw, hF, Or.inr ⟨es, ht, zf_fold (fun i e s q => by rw [(hE i e q).1, (hE i e q).2]) 0⟩⟩
      · have ck : (nI k).toNatClampNeg = k := nI_clamp (by omega)
        refine x_iload_n (pc := 30) d_Mo_degree_30 rfl ?_
        refine x_aload_n (pc := 31) d_Mo_degree_31 rfl ?_
        refine x_get (pc := 32) (j := 28) d_Mo_degree_32 f_Mo_150 rfl rfl (Nat.le_of_ble_eq_true rfl) rfl rfl rfl ?_
        refine x_icmp_ge (pc := 35) (tgt := 72) d_Mo_degree_35 (by decide) (fun h => by rw [h28] at h; exact absurd h (nI_ge (by omega) (by omega))) (fun h35 => ?_)
        refine x_aload_n (pc := 38) d_Mo_degree_38 rfl ?_
        refine x_get (pc := 39) (j := 26) d_Mo_degree_39 f_Mo_57 rfl rfl (Nat.le_of_ble_eq_true rfl) rfl rfl rfl ?_
        refine x_iload_n (pc := 42) d_Mo_degree_42 rfl ?_
        refine x_iald (pc := 43) d_Mo_degree_43 rfl (vp_in_nI (by omega) (by decide)) ?_
        refine x_iload_n (pc := 44) d_Mo_degree_44 rfl ?_
        refine x_icmp_eq (pc := 45) (tgt := 58) d_Mo_degree_45 (by decide) (fun h45 => ?_) (fun h45 => ?_)
        · refine x_iload_n (pc := 58) d_Mo_degree_58 rfl ?_
          refine x_iconst (pc := 59) (v := 1) d_Mo_degree_59 (by decide) ?_
          refine x_iadd (pc := 60) d_Mo_degree_60 ?_
          refine x_goto (pc := 61) (tgt := 65) d_Mo_degree_61 (by decide) ?_
          refine y_ist2 (pc := 65) d_Mo_degree_65 ?_
          refine y_inc3 (pc := 66) (v := 1) d_Mo_degree_66 (by decide) ?_
          refine x_goto (pc := 69) (tgt := 30) d_Mo_degree_69 (by decide) ?_
          rw [ck] at h45
          rw [zf_s _ _ k, show nI (k + 1) = nI k + 1 from nI_succ k] at hs
          rw [if_pos (Or.inl h45)] at hs
          exact hs
        · refine x_aload_n (pc := 48) d_Mo_degree_48 rfl ?_
          refine x_get (pc := 49) (j := 27) d_Mo_degree_49 f_Mo_60 rfl rfl (Nat.le_of_ble_eq_true rfl) rfl rfl rfl ?_
          refine x_iload_n (pc := 52) d_Mo_degree_52 rfl ?_
          refine x_iald (pc := 53) d_Mo_degree_53 rfl (vp_in_nI (by omega) (by decide)) ?_
          refine x_iload_n (pc := 54) d_Mo_degree_54 rfl ?_
          refine x_icmp_ne (pc := 55) (tgt := 64) d_Mo_degree_55 (by decide) (fun h55 => ?_) (fun h55 => ?_)
          · refine x_iload_n (pc := 64) d_Mo_degree_64 rfl ?_
            refine y_ist2 (pc := 65) d_Mo_degree_65 ?_
            refine y_inc3 (pc := 66) (v := 1) d_Mo_degree_66 (by decide) ?_
            refine x_goto (pc := 69) (tgt := 30) d_Mo_degree_69 (by decide) ?_
            rw [ck] at h45 h55
            rw [zf_s _ _ k, show nI (k + 1) = nI k + 1 from nI_succ k] at hs
            rw [if_neg (by rintro (q | q); exact h45 q; exact h55 q)] at hs
            exact hs
          · refine x_iload_n (pc := 58) d_Mo_degree_58 rfl ?_
            refine x_iconst (pc := 59) (v := 1) d_Mo_degree_59 (by decide) ?_
            refine x_iadd (pc := 60) d_Mo_degree_60 ?_
            refine x_goto (pc := 61) (tgt := 65) d_Mo_degree_61 (by decide) ?_
            refine y_ist2 (pc := 65) d_Mo_degree_65 ?_
            refine y_inc3 (pc := 66) (v := 1) d_Mo_degree_66 (by decide) ?_
            refine x_goto (pc := 69) (tgt := 30) d_Mo_degree_69 (by decide) ?_
            rw [ck] at h55
            rw [zf_s _ _ k, show nI (k + 1) = nI k + 1 from nI_succ k] at hs
            rw [if_pos (Or.inr h55)] at hs
            exact hs
    refine x_iconst (pc := 26) (v := 0) d_Mo_degree_26 (by decide) ?_
    refine y_ist2 (pc := 27) d_Mo_degree_27 ?_
    refine x_iconst (pc := 28) (v := 0) d_Mo_degree_28 (by decide) ?_
    refine y_ist3 (pc := 29) d_Mo_degree_29 ?_
    exact hS 0 (Nat.zero_le _)
  refine CQ.of (lv := [.ref 36, .int w, zu, zu]) k_Mo_degree.1 rfl (by decide) rfl rfl (Nat.le_of_ble_eq_true rfl) ?_
  refine x_aload_n (pc := 0) d_Mo_degree_0 rfl ?_
  refine x_iconst (pc := 1) (v := 0) d_Mo_degree_1 (by decide) ?_
  refine y_put (pc := 2) (j := 0) d_Mo_degree_2 f_Mo_1 rfl rfl (Nat.le_of_ble_eq_true rfl) rfl (Nat.le_of_ble_eq_true rfl) rfl rfl (fun _ => rfl) ?_
  refine x_aload_n (pc := 5) d_Mo_degree_5 rfl ?_
  refine x_iload_n (pc := 6) d_Mo_degree_6 rfl ?_
  refine y_bV (pc := 7) (c_Mo_noNode _ _ _ n (by exact hn) h1 h9) k_Mo_noNode d_Mo_degree_7 m_Mo_74 (by decide) rfl rfl rfl rfl p_Mo_noNode (K1 := fun q7 => ?_) (K0 := fun q7 => ?_)
  · refine x_if_eq (pc := 10) (tgt := 16) d_Mo_degree_10 (by decide) (fun h => absurd h (by decide)) (fun _ => ?_)
    refine x_ldc (pc := 13) (v := (-2000000)) d_Mo_degree_13 i_Mo_78 ?_
    refine y_iret (pc := 15) d_Mo_degree_15 rfl ?_
    exact Or.inl ⟨q7, rfl, rfl, rfl⟩
  · refine x_if_eq (pc := 10) (tgt := 16) d_Mo_degree_10 (by decide) (fun _ => ?_) (fun h => absurd h (by decide))
    refine x_aload_n (pc := 16) d_Mo_degree_16 rfl ?_
    refine y_callV (pc := 17) (c_Mo_makeTree _ _ n (by exact hn) h1 h9) k_Mo_makeTree d_Mo_degree_17 m_Mo_164 (by decide) rfl rfl rfl rfl p_Mo_makeTree (K := fun v' V' A' hq => ?_)
    obtain ⟨hF, hq⟩ := hq
    rcases hq with ⟨rfl, es, ht, h28, hE⟩ | ⟨rfl, hq⟩
    · refine x_if_ne (pc := 20) (tgt := 26) d_Mo_degree_20 (by decide) (fun _ => ?_) (fun h => absurd h (by decide))
      exact hW (Classical.not_not.mp q7) es ht _ _ hF h28 hE
    · refine x_if_ne (pc := 20) (tgt := 26) d_Mo_degree_20 (by decide) (fun h => absurd h (by decide)) (fun _ => ?_)
      refine x_ldc (pc := 23) (v := (-1000000)) d_Mo_degree_23 i_Mo_88 ?_
      refine y_iret (pc := 25) d_Mo_degree_25 rfl ?_
      exact Or.inr ⟨Classical.not_not.mp q7, hF, Or.inl ⟨rfl, hq⟩⟩
