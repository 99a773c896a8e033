set_option maxRecDepth 100000 in
set_option maxHeartbeats 4000000 in
theorem c_Mo_hasEdge (V A : zV) (a b : Nat) (es : List (Nat × Nat)) (h28 : V 36 28 = nI es.length) (hl : es.length ≤ 9) (hE : zEd es (A 48) (A 49)) (hm : ∀ e ∈ es, e.1 < 9 ∧ e.2 < 9) (ha : a < 9) (hb : b < 9) : CQ Y_Mo_hasEdge 0 [.ref 36, .int (nI a), .int (nI b)] V A (fun r V' A' => ((r = 1 ∧ (a, b) ∈ es) ∨ (r = 0 ∧ ¬ (a, b) ∈ es)) ∧ V' = V ∧ A' = A) := by
  have hT : (a, b) ∈ es → ∀ k, k ≤ es.length → X Y_Mo_hasEdge (zrm 0) (0, fun _ => 0) (zFq 0 (fun r V' A' => ((r = 1 ∧ (a, b) ∈ es) ∨ (r = 0 ∧ ¬ (a, b) ∈ es)) ∧ V' = V ∧ A' = A)) 5 [.ref 36, .int (nI a), .int (nI b), .int 1, .int (nI k)] [] (cells V A) 0 0 := by
    intro hin
    refine z_down ?_ (fun k hk hs => ?_)
    · refine x_iload (pc := 5) d_Mo_hasEdge_5 rfl ?_
      refine x_aload_n (pc := 7) d_Mo_hasEdge_7 rfl ?_
      refine x_get (pc := 8) (j := 28) d_Mo_hasEdge_8 f_Mo_150 rfl rfl (Nat.le_of_ble_eq_true rfl) rfl rfl rfl ?_
      refine x_icmp_ge (pc := 11) (tgt := 52) d_Mo_hasEdge_11 (by decide) (fun h11 => ?_) (fun h => by change ¬ V 36 28 ≤ _ at h; rw [h28] at h; exact absurd (nI_le (by omega) (by omega)) h)
      refine x_iload_n (pc := 52) d_Mo_hasEdge_52 rfl ?_
      refine y_zret (pc := 53) d_Mo_hasEdge_53 rfl rfl ?_
      exact ⟨Or.inl ⟨rfl, hin⟩, rfl, rfl⟩
    · refine x_iload (pc := 5) d_Mo_hasEdge_5 rfl ?_
      refine x_aload_n (pc := 7) d_Mo_hasEdge_7 rfl ?_
      refine x_get (pc := 8) (j := 28) d_Mo_hasEdge_8 f_Mo_150 rfl rfl (Nat.le_of_ble_eq_true rfl) rfl rfl rfl ?_
      refine x_icmp_ge (pc := 11) (tgt := 52) d_Mo_hasEdge_11 (by decide) (fun h => by change V 36 28 ≤ _ at h; rw [h28] at h; exact absurd h (nI_ge (by omega) (by omega))) (fun h11 => ?_)
      refine x_iload_n (pc := 14) d_Mo_hasEdge_14 rfl ?_
      refine x_if_ne (pc := 15) (tgt := 40) d_Mo_hasEdge_15 (by decide) (fun _ => ?_) (fun h => absurd h (by decide))
      refine x_iconst (pc := 40) (v := 1) d_Mo_hasEdge_40 (by decide) ?_
      refine x_goto (pc := 41) (tgt := 45) d_Mo_hasEdge_41 (by decide) ?_
      refine y_ist3 (pc := 45) d_Mo_hasEdge_45 ?_
      refine y_inc4 (pc := 46) (v := 1) d_Mo_hasEdge_46 (by decide) ?_
      refine x_goto (pc := 49) (tgt := 5) d_Mo_hasEdge_49 (by decide) ?_
      rw [show nI k + 1 = nI (k + 1) from (nI_succ k).symm]
      exact hs
  have hN : ∀ k, k ≤ es.length → (∀ i, i < k → ¬ es[i]? = some (a, b)) → X Y_Mo_hasEdge (zrm 0) (0, fun _ => 0) (zFq 0 (fun r V' A' => ((r = 1 ∧ (a, b) ∈ es) ∨ (r = 0 ∧ ¬ (a, b) ∈ es)) ∧ V' = V ∧ A' = A)) 5 [.ref 36, .int (nI a), .int (nI b), .int 0, .int (nI k)] [] (cells V A) 0 0 := by
    refine z_down (fun hno => ?_) (fun k hk hs hno => ?_)
    · refine x_iload (pc := 5) d_Mo_hasEdge_5 rfl ?_
      refine x_aload_n (pc := 7) d_Mo_hasEdge_7 rfl ?_
      refine x_get (pc := 8) (j := 28) d_Mo_hasEdge_8 f_Mo_150 rfl rfl (Nat.le_of_ble_eq_true rfl) rfl rfl rfl ?_
      refine x_icmp_ge (pc := 11) (tgt := 52) d_Mo_hasEdge_11 (by decide) (fun h11 => ?_) (fun h => by change ¬ V 36 28 ≤ _ at h; rw [h28] at h; exact absurd (nI_le (by omega) (by omega)) h)
      refine x_iload_n (pc := 52) d_Mo_hasEdge_52 rfl ?_
      refine y_zret (pc := 53) d_Mo_hasEdge_53 rfl rfl ?_
      exact ⟨Or.inr ⟨rfl, fun q => by obtain ⟨i, hi⟩ := List.getElem?_of_mem q; exact hno i (by rcases Nat.lt_or_ge i es.length with z | z; exact z; rw [List.getElem?_eq_none z] at hi; exact absurd hi (by simp)) hi⟩, rfl, rfl⟩
    · have ck : (nI k).toNatClampNeg = k := nI_clamp (by omega)
      have hEk := hE k es[k] (List.getElem?_eq_getElem hk)
      have hmk := hm es[k] (List.getElem_mem hk)
      refine x_iload (pc := 5) d_Mo_hasEdge_5 rfl ?_
      refine x_aload_n (pc := 7) d_Mo_hasEdge_7 rfl ?_
      refine x_get (pc := 8) (j := 28) d_Mo_hasEdge_8 f_Mo_150 rfl rfl (Nat.le_of_ble_eq_true rfl) rfl rfl rfl ?_
      refine x_icmp_ge (pc := 11) (tgt := 52) d_Mo_hasEdge_11 (by decide) (fun h => by change V 36 28 ≤ _ at h; rw [h28] at h; exact absurd h (nI_ge (by omega) (by omega))) (fun h11 => ?_)
      refine x_iload_n (pc := 14) d_Mo_hasEdge_14 rfl ?_
      refine x_if_ne (pc := 15) (tgt := 40) d_Mo_hasEdge_15 (by decide) (fun h => absurd h (by decide)) (fun _ => ?_)
      refine x_aload_n (pc := 18) d_Mo_hasEdge_18 rfl ?_
      refine x_get (pc := 19) (j := 26) d_Mo_hasEdge_19 f_Mo_57 rfl rfl (Nat.le_of_ble_eq_true rfl) rfl rfl rfl ?_
      refine x_iload (pc := 22) d_Mo_hasEdge_22 rfl ?_
      refine x_iald (pc := 24) d_Mo_hasEdge_24 rfl (vp_in_nI (by omega) (by decide)) ?_
      refine x_iload_n (pc := 25) d_Mo_hasEdge_25 rfl ?_
      refine x_icmp_ne (pc := 26) (tgt := 44) d_Mo_hasEdge_26 (by decide) (fun h26 => ?_) (fun h26 => ?_)
      · refine x_iconst (pc := 44) (v := 0) d_Mo_hasEdge_44 (by decide) ?_
        refine y_ist3 (pc := 45) d_Mo_hasEdge_45 ?_
        refine y_inc4 (pc := 46) (v := 1) d_Mo_hasEdge_46 (by decide) ?_
        refine x_goto (pc := 49) (tgt := 5) d_Mo_hasEdge_49 (by decide) ?_
        rw [ck, hEk.1, nI_e hmk.1 ha] at h26
        rw [show nI k + 1 = nI (k + 1) from (nI_succ k).symm]
        refine hs (fun i hi => ?_)
        by_cases hik : i = k
        · rw [hik, List.getElem?_eq_getElem hk]
          intro q
          have q := Option.some.inj q
          exact h26 (by rw [q])
        · exact hno i (by omega)
      · refine x_aload_n (pc := 29) d_Mo_hasEdge_29 rfl ?_
        refine x_get (pc := 30) (j := 27) d_Mo_hasEdge_30 f_Mo_60 rfl rfl (Nat.le_of_ble_eq_true rfl) rfl rfl rfl ?_
        refine x_iload (pc := 33) d_Mo_hasEdge_33 rfl ?_
        refine x_iald (pc := 35) d_Mo_hasEdge_35 rfl (vp_in_nI (by omega) (by decide)) ?_
        refine x_iload_n (pc := 36) d_Mo_hasEdge_36 rfl ?_
        refine x_icmp_ne (pc := 37) (tgt := 44) d_Mo_hasEdge_37 (by decide) (fun h37 => ?_) (fun h37 => ?_)
        · refine x_iconst (pc := 44) (v := 0) d_Mo_hasEdge_44 (by decide) ?_
          refine y_ist3 (pc := 45) d_Mo_hasEdge_45 ?_
          refine y_inc4 (pc := 46) (v := 1) d_Mo_hasEdge_46 (by decide) ?_
          refine x_goto (pc := 49) (tgt := 5) d_Mo_hasEdge_49 (by decide) ?_
          rw [ck, hEk.2, nI_e hmk.2 hb] at h37
          rw [show nI k + 1 = nI (k + 1) from (nI_succ k).symm]
          refine hs (fun i hi => ?_)
          by_cases hik : i = k
          · rw [hik, List.getElem?_eq_getElem hk]
            intro q
            have q := Option.some.inj q
            exact h37 (by rw [q])
          · exact hno i (by omega)
        · refine x_iconst (pc := 40) (v := 1) d_Mo_hasEdge_40 (by decide) ?_
          refine x_goto (pc := 41) (tgt := 45) d_Mo_hasEdge_41 (by decide) ?_
          refine y_ist3 (pc := 45) d_Mo_hasEdge_45 ?_
          refine y_inc4 (pc := 46) (v := 1) d_Mo_hasEdge_46 (by decide) ?_
          refine x_goto (pc := 49) (tgt := 5) d_Mo_hasEdge_49 (by decide) ?_
          rw [ck, hEk.1, nI_e hmk.1 ha] at h26
          rw [ck, hEk.2, nI_e hmk.2 hb] at h37
          rw [show nI k + 1 = nI (k + 1) from (nI_succ k).symm]
          exact hT (by have q := List.getElem_mem hk; rw [show es[k] = (a, b) from Prod.ext h26 h37] at q; exact q) (k + 1) hk
  refine CQ.of (lv := [.ref 36, .int (nI a), .int (nI b), zu, zu]) k_Mo_hasEdge.1 rfl (by decide) rfl rfl (Nat.le_of_ble_eq_true rfl) ?_
  refine x_iconst (pc := 0) (v := 0) d_Mo_hasEdge_0 (by decide) ?_
  refine y_ist3 (pc := 1) d_Mo_hasEdge_1 ?_
  refine x_iconst (pc := 2) (v := 0) d_Mo_hasEdge_2 (by decide) ?_
  refine y_ist4 (pc := 3) d_Mo_hasEdge_3 ?_
  exact hN 0 (Nat.zero_le _) (fun i hi => absurd hi (Nat.not_lt_zero i))
set_option maxRecDepth 100000 in
set_option maxHeartbeats 4000000 in
theorem c_Mo_choose0 (V A : zV)  (n : Nat) (hn : V 36 1 = nI n) (h1 : 1 ≤ n) (h9 : n ≤ 9) (es : List (Nat × Nat)) (h28 : V 36 28 = nI es.length) (hl : es.length ≤ 9) (hE : zEd es (A 48) (A 49)) (hm : ∀ e ∈ es, e.1 < 9 ∧ e.2 < 9) (pt : Nat → Nat) (hpt : ∀ v, 1 ≤ v → v < n → A 50 v = nI (pt v) ∧ pt v < 9) (hes : ∀ e ∈ es, pt e.1 = pt e.2) : CQ Y_Mo_choose 1 [.ref 36, .int 0] V A (fun r V' A' => (∃ o, zOut (zPj (ECr (A 38) (A 41)) 900000 n pt) (ECr (A 38) (A 41)) o ∧ ((o = none ∧ r = 0 ∧ V' = V ∧ A' = A) ∨ ∃ a b, o = some (a, b) ∧ r = 1 ∧ ∃ f, V' = zv V 36 28 (nI (es.length + 1)) ∧ A' = za (za (za A 48 (upd (A 48) es.length (nI a))) 49 (upd (A 49) es.length (nI b))) 50 f ∧ ∀ v, 1 ≤ v → v < n → f v = nI (zMrg pt a b v)))) := by
  have cl : (nI es.length).toNatClampNeg = es.length := nI_clamp (by omega)
  have hM : ∀ a b, zOut (zPj (ECr (A 38) (A 41)) 900000 n pt) (ECr (A 38) (A 41)) (some (a, b)) → ∀ j, j ≤ n → 1 ≤ j → ∀ f : Nat → Int32, (∀ v, 1 ≤ v → v < n → f v = nI (if v < j then zMrg pt a b v else pt v)) → ∀ q : Value, q.category = 1 → X Y_Mo_choose (zrm 1) (0, fun _ => 0) (zFq 1 (fun r V' A' => (∃ o, zOut (zPj (ECr (A 38) (A 41)) 900000 n pt) (ECr (A 38) (A 41)) o ∧ ((o = none ∧ r = 0 ∧ V' = V ∧ A' = A) ∨ ∃ a b, o = some (a, b) ∧ r = 1 ∧ ∃ f, V' = zv V 36 28 (nI (es.length + 1)) ∧ A' = za (za (za A 48 (upd (A 48) es.length (nI a))) 49 (upd (A 49) es.length (nI b))) 50 f ∧ ∀ v, 1 ≤ v → v < n → f v = nI (zMrg pt a b v))))) 190 [.ref 36, .int 0, .int (nI a), .int (nI b), .int (nI (pt b)), .int (nI j), q] [] (cells (zv V 36 28 (nI (es.length + 1))) (za (za (za A 48 (upd (A 48) es.length (nI a))) 49 (upd (A 49) es.length (nI b))) 50 f)) 0 0 := by
    intro a b ho
    have hP := ho.1
    have h1a : 1 ≤ a := hP.1
    have hab : a < b := hP.2.1
    have hbn : b < n := hP.2.2.1
    have ca : (nI a).toNatClampNeg = a := nI_clamp (by omega)
    refine z_down (fun _ f hf q hqc => ?_) (fun j hj hs h1j f hf q hqc => ?_)
    · refine x_iload (pc := 190) d_Mo_choose_190 rfl ?_
      refine x_aload_n (pc := 192) d_Mo_choose_192 rfl ?_
      refine x_get (pc := 193) (j := 1) d_Mo_choose_193 f_Mo_13 rfl rfl (Nat.le_of_ble_eq_true rfl) rfl rfl rfl ?_
      refine x_icmp_ge (pc := 196) (tgt := 244) d_Mo_choose_196 (by decide) (fun h196 => ?_) (fun h => by change ¬ V 36 1 ≤ _ at h; rw [hn] at h; exact absurd (nI_le (by omega) (by omega)) h)
      refine x_iconst (pc := 244) (v := 1) d_Mo_choose_244 (by decide) ?_
      refine y_zret (pc := 245) d_Mo_choose_245 rfl rfl ?_
      exact ⟨some (a, b), ho, Or.inr ⟨a, b, rfl, rfl, f, rfl, rfl, fun v h1v hv => by rw [hf v h1v hv, if_pos hv]⟩⟩
    · have cj : (nI j).toNatClampNeg = j := nI_clamp (by omega)
      have hfj := hf j h1j hj
      rw [if_neg (Nat.lt_irrefl j)] at hfj
      have hpj := (hpt j h1j hj).2
      have hpb := (hpt b (by omega) hbn).2
      have hfa : f a = nI (pt a) := by
        rw [hf a h1a (by omega)]; unfold zMrg; split <;> (try split) <;> rfl
      refine x_iload (pc := 190) d_Mo_choose_190 rfl ?_
      refine x_aload_n (pc := 192) d_Mo_choose_192 rfl ?_
      refine x_get (pc := 193) (j := 1) d_Mo_choose_193 f_Mo_13 rfl rfl (Nat.le_of_ble_eq_true rfl) rfl rfl rfl ?_
      refine x_icmp_ge (pc := 196) (tgt := 244) d_Mo_choose_196 (by decide) (fun h => by change V 36 1 ≤ _ at h; rw [hn] at h; exact absurd h (nI_ge (by omega) (by omega))) (fun h196 => ?_)
      refine x_iload_n (pc := 199) d_Mo_choose_199 rfl ?_
      refine x_if_ne (pc := 200) (tgt := 244) d_Mo_choose_200 (by decide) (fun h => absurd h (by decide)) (fun _ => ?_)
      refine x_aload_n (pc := 203) d_Mo_choose_203 rfl ?_
      refine x_get (pc := 204) (j := 29) d_Mo_choose_204 f_Mo_63 rfl rfl (Nat.le_of_ble_eq_true rfl) rfl rfl rfl ?_
      refine x_iload (pc := 207) d_Mo_choose_207 rfl ?_
      refine x_aload_n (pc := 209) d_Mo_choose_209 rfl ?_
      refine x_get (pc := 210) (j := 29) d_Mo_choose_210 f_Mo_63 rfl rfl (Nat.le_of_ble_eq_true rfl) rfl rfl rfl ?_
      refine x_iload (pc := 213) d_Mo_choose_213 rfl ?_
      refine x_iald (pc := 215) d_Mo_choose_215 rfl (vp_in_nI (by omega) (by decide)) ?_
      refine x_iload (pc := 216) d_Mo_choose_216 rfl ?_
      refine x_icmp_ne (pc := 218) (tgt := 230) d_Mo_choose_218 (by decide) (fun h218 => ?_) (fun h218 => ?_)
      · refine x_aload_n (pc := 230) d_Mo_choose_230 rfl ?_
        refine x_get (pc := 231) (j := 29) d_Mo_choose_231 f_Mo_63 rfl rfl (Nat.le_of_ble_eq_true rfl) rfl rfl rfl ?_
        refine x_iload (pc := 234) d_Mo_choose_234 rfl ?_
        refine x_iald (pc := 236) d_Mo_choose_236 rfl (vp_in_nI (by omega) (by decide)) ?_
        refine y_iast (pc := 237) d_Mo_choose_237 rfl (fun _ => rfl) (vp_in_nI (by omega) (by decide)) ?_
        refine y_inc5 (pc := 238) (v := 1) d_Mo_choose_238 (by decide) ?_
        refine x_goto (pc := 241) (tgt := 190) d_Mo_choose_241 (by decide) ?_
        have h218 : ¬ f (nI j).toNatClampNeg = nI (pt b) := h218
        rw [cj, hfj, nI_e hpj hpb] at h218
        rw [show nI j + 1 = nI (j + 1) from (nI_succ j).symm, za_za]
        refine hs (by omega) _ (fun v h1v hv => ?_) _ hqc
        show upd f (nI j).toNatClampNeg (f (nI j).toNatClampNeg) v = _
        rw [cj, hfj]
        by_cases hvj : v = j
        · rw [hvj, upd_at, if_pos (Nat.lt_succ_self j)]; unfold zMrg; rw [if_neg h218]
        · rw [upd_ne _ _ hvj, hf v h1v hv]
          by_cases hlt : v < j
          · rw [if_pos hlt, if_pos (by omega)]
          · rw [if_neg hlt, if_neg (by omega)]
      · refine x_aload_n (pc := 221) d_Mo_choose_221 rfl ?_
        refine x_get (pc := 222) (j := 29) d_Mo_choose_222 f_Mo_63 rfl rfl (Nat.le_of_ble_eq_true rfl) rfl rfl rfl ?_
        refine x_iload_n (pc := 225) d_Mo_choose_225 rfl ?_
        refine x_iald (pc := 226) d_Mo_choose_226 rfl (vp_in_nI (by omega) (by decide)) ?_
        refine x_goto (pc := 227) (tgt := 237) d_Mo_choose_227 (by decide) ?_
        refine y_iast (pc := 237) d_Mo_choose_237 rfl (fun _ => rfl) (vp_in_nI (by omega) (by decide)) ?_
        refine y_inc5 (pc := 238) (v := 1) d_Mo_choose_238 (by decide) ?_
        refine x_goto (pc := 241) (tgt := 190) d_Mo_choose_241 (by decide) ?_
        have h218 : f (nI j).toNatClampNeg = nI (pt b) := h218
        rw [cj, hfj, nI_e hpj hpb] at h218
        rw [show nI j + 1 = nI (j + 1) from (nI_succ j).symm, za_za]
        refine hs (by omega) _ (fun v h1v hv => ?_) _ hqc
        show upd f (nI j).toNatClampNeg (f (nI a).toNatClampNeg) v = _
        rw [cj, ca, hfa]
        by_cases hvj : v = j
        · rw [hvj, upd_at, if_pos (Nat.lt_succ_self j)]; unfold zMrg; rw [if_pos h218]
        · rw [upd_ne _ _ hvj, hf v h1v hv]
          by_cases hlt : v < j
          · rw [if_pos hlt, if_pos (by omega)]
          · rw [if_neg hlt, if_neg (by omega)]
  have hZ : ∀ o, zOut (zPj (ECr (A 38) (A 41)) 900000 n pt) (ECr (A 38) (A 41)) o → ∀ p q s : Value, p.category = 1 → q.category = 1 → s.category = 1 → X Y_Mo_choose (zrm 1) (0, fun _ => 0) (zFq 1 (fun r V' A' => (∃ o, zOut (zPj (ECr (A 38) (A 41)) 900000 n pt) (ECr (A 38) (A 41)) o ∧ ((o = none ∧ r = 0 ∧ V' = V ∧ A' = A) ∨ ∃ a b, o = some (a, b) ∧ r = 1 ∧ ∃ f, V' = zv V 36 28 (nI (es.length + 1)) ∧ A' = za (za (za A 48 (upd (A 48) es.length (nI a))) 49 (upd (A 49) es.length (nI b))) 50 f ∧ ∀ v, 1 ≤ v → v < n → f v = nI (zMrg pt a b v))))) 143 [.ref 36, .int 0, .int (zoF (-1) o), .int (zoT (-1) o), p, q, s] [] (cells V A) 0 0 := by
    intro o ho p q s hp hq hs
    cases o with
    | none =>
      refine x_iload_n (pc := 143) d_Mo_choose_143 rfl ?_
      refine x_if_ge (pc := 144) (tgt := 149) d_Mo_choose_144 (by decide) (fun h => absurd h (by decide)) (fun h144 => ?_)
      refine x_iconst (pc := 147) (v := 0) d_Mo_choose_147 (by decide) ?_
      refine y_zret (pc := 148) d_Mo_choose_148 rfl rfl ?_
      exact ⟨none, ho, Or.inl ⟨rfl, rfl, rfl, rfl⟩⟩
    | some e =>
      obtain ⟨a, b⟩ := e
      have hP := ho.1
      have h1a : 1 ≤ a := hP.1
      have hab : a < b := hP.2.1
      have hbn : b < n := hP.2.2.1
      have cb : (nI b).toNatClampNeg = b := nI_clamp (by omega)
      refine x_iload_n (pc := 143) d_Mo_choose_143 rfl ?_
      refine x_if_ge (pc := 144) (tgt := 149) d_Mo_choose_144 (by decide) (fun h144 => ?_) (fun h => absurd (nI_pos' (by omega)) h)
      refine x_aload_n (pc := 149) d_Mo_choose_149 rfl ?_
      refine x_get (pc := 150) (j := 26) d_Mo_choose_150 f_Mo_57 rfl rfl (Nat.le_of_ble_eq_true rfl) rfl rfl rfl ?_
      refine x_aload_n (pc := 153) d_Mo_choose_153 rfl ?_
      refine x_get (pc := 154) (j := 28) d_Mo_choose_154 f_Mo_150 rfl rfl (Nat.le_of_ble_eq_true rfl) rfl rfl rfl ?_
      refine x_iload_n (pc := 157) d_Mo_choose_157 rfl ?_
      refine y_iast (pc := 158) d_Mo_choose_158 rfl (fun _ => rfl) (by rw [show V 36 28 = nI es.length from h28]; exact vp_in_nI (by omega) (by decide)) ?_
      refine x_aload_n (pc := 159) d_Mo_choose_159 rfl ?_
      refine x_get (pc := 160) (j := 27) d_Mo_choose_160 f_Mo_60 rfl rfl (Nat.le_of_ble_eq_true rfl) rfl rfl rfl ?_
      refine x_aload_n (pc := 163) d_Mo_choose_163 rfl ?_
      refine x_get (pc := 164) (j := 28) d_Mo_choose_164 f_Mo_150 rfl rfl (Nat.le_of_ble_eq_true rfl) rfl rfl rfl ?_
      refine x_iload_n (pc := 167) d_Mo_choose_167 rfl ?_
      refine y_iast (pc := 168) d_Mo_choose_168 rfl (fun _ => rfl) (by rw [show V 36 28 = nI es.length from h28]; exact vp_in_nI (by omega) (by decide)) ?_
      refine x_aload_n (pc := 169) d_Mo_choose_169 rfl ?_
      refine x_dup (pc := 170) d_Mo_choose_170 rfl ?_
      refine x_get (pc := 171) (j := 28) d_Mo_choose_171 f_Mo_150 rfl rfl (Nat.le_of_ble_eq_true rfl) rfl rfl rfl ?_
      refine x_iconst (pc := 174) (v := 1) d_Mo_choose_174 (by decide) ?_
      refine x_iadd (pc := 175) d_Mo_choose_175 ?_
      refine y_put (pc := 176) (j := 28) d_Mo_choose_176 f_Mo_150 rfl rfl (Nat.le_of_ble_eq_true rfl) rfl (Nat.le_of_ble_eq_true rfl) rfl rfl (fun _ => rfl) ?_
      refine x_aload_n (pc := 179) d_Mo_choose_179 rfl ?_
      refine x_get (pc := 180) (j := 29) d_Mo_choose_180 f_Mo_63 rfl rfl (Nat.le_of_ble_eq_true rfl) rfl rfl rfl ?_
      refine x_iload_n (pc := 183) d_Mo_choose_183 rfl ?_
      refine x_iald (pc := 184) d_Mo_choose_184 rfl (vp_in_nI (by omega) (by decide)) ?_
      refine y_ist4 (pc := 185) d_Mo_choose_185 ?_
      refine x_iconst (pc := 187) (v := 1) d_Mo_choose_187 (by decide) ?_
      refine y_ist5 (pc := 188) d_Mo_choose_188 ?_
      have hz := hM a b ho 1 h1 (Nat.le_refl 1) (A 50) (fun v h1v hv => by rw [if_neg (by omega)]; exact (hpt v h1v hv).1) s hs
      refine Eq.mp ?_ hz
      have e1 : A 50 (nI b).toNatClampNeg = nI (pt b) := by rw [cb]; exact (hpt b (by omega) hbn).1
      have e2 : V 36 28 + 1 = nI (es.length + 1) := by rw [h28]; exact (nI_succ _).symm
      rw [← e2, ← e1]
      congr 1
      show cells _ _ = cells _ _
      congr 1
      show _ = za (za A 48 (upd (A 48) (V 36 28).toNatClampNeg (nI a))) 49 (upd (A 49) (V 36 28).toNatClampNeg (nI b))
      rw [h28, cl]
      funext i j
      by_cases hi : i = 50
      · subst hi; rfl
      · rw [za_eq]; simp [hi]
  have hA : ∀ a, a ≤ n → 1 ≤ a → ∀ o, zSc (zPj (ECr (A 38) (A 41)) 900000 n pt) (ECr (A 38) (A 41)) a (a + 1) o → ∀ q s : Value, q.category = 1 → s.category = 1 → X Y_Mo_choose (zrm 1) (0, fun _ => 0) (zFq 1 (fun r V' A' => (∃ o, zOut (zPj (ECr (A 38) (A 41)) 900000 n pt) (ECr (A 38) (A 41)) o ∧ ((o = none ∧ r = 0 ∧ V' = V ∧ A' = A) ∨ ∃ a b, o = some (a, b) ∧ r = 1 ∧ ∃ f, V' = zv V 36 28 (nI (es.length + 1)) ∧ A' = za (za (za A 48 (upd (A 48) es.length (nI a))) 49 (upd (A 49) es.length (nI b))) 50 f ∧ ∀ v, 1 ≤ v → v < n → f v = nI (zMrg pt a b v))))) 15 [.ref 36, .int 0, .int (zoF (-1) o), .int (zoT (-1) o), .int (nI a), q, s] [] (cells V A) 0 0 := by
    refine z_down (fun _ o ho q s hq hs => ?_) (fun a ha ih h1a o ho q s hq hs => ?_)
    · refine x_iload (pc := 15) d_Mo_choose_15 rfl ?_
      refine x_iload_n (pc := 17) d_Mo_choose_17 rfl ?_
      refine x_if_eq (pc := 18) (tgt := 25) d_Mo_choose_18 (by decide) (fun _ => ?_) (fun h => absurd h (by decide))
      refine x_aload_n (pc := 25) d_Mo_choose_25 rfl ?_
      refine x_get (pc := 26) (j := 1) d_Mo_choose_26 f_Mo_13 rfl rfl (Nat.le_of_ble_eq_true rfl) rfl rfl rfl ?_
      refine x_icmp_ge (pc := 29) (tgt := 143) d_Mo_choose_29 (by decide) (fun h29 => ?_) (fun h => by change ¬ V 36 1 ≤ _ at h; rw [hn] at h; exact absurd (nI_le (by omega) (by omega)) h)
      exact hZ o (zSc_end ho (fun a' b' h => Or.inl (by have := h.2.1; have := h.2.2.1; omega))) _ _ _ rfl hq hs
    · have hB : ∀ b, b ≤ n → a < b → ∀ o, zSc (zPj (ECr (A 38) (A 41)) 900000 n pt) (ECr (A 38) (A 41)) a b o → ∀ s : Value, s.category = 1 → X Y_Mo_choose (zrm 1) (0, fun _ => 0) (zFq 1 (fun r V' A' => (∃ o, zOut (zPj (ECr (A 38) (A 41)) 900000 n pt) (ECr (A 38) (A 41)) o ∧ ((o = none ∧ r = 0 ∧ V' = V ∧ A' = A) ∨ ∃ a b, o = some (a, b) ∧ r = 1 ∧ ∃ f, V' = zv V 36 28 (nI (es.length + 1)) ∧ A' = za (za (za A 48 (upd (A 48) es.length (nI a))) 49 (upd (A 49) es.length (nI b))) 50 f ∧ ∀ v, 1 ≤ v → v < n → f v = nI (zMrg pt a b v))))) 38 [.ref 36, .int 0, .int (zoF (-1) o), .int (zoT (-1) o), .int (nI a), .int (nI b), s] [] (cells V A) 0 0 := by
        refine z_down (fun _ o ho s hs => ?_) (fun b hb ihb hab o ho s hs => ?_)
        · refine x_iload (pc := 38) d_Mo_choose_38 rfl ?_
          refine x_aload_n (pc := 40) d_Mo_choose_40 rfl ?_
          refine x_get (pc := 41) (j := 1) d_Mo_choose_41 f_Mo_13 rfl rfl (Nat.le_of_ble_eq_true rfl) rfl rfl rfl ?_
          refine x_icmp_ge (pc := 44) (tgt := 137) d_Mo_choose_44 (by decide) (fun h44 => ?_) (fun h => by change ¬ V 36 1 ≤ _ at h; rw [hn] at h; exact absurd (nI_le (by omega) (by omega)) h)
          refine y_inc4 (pc := 137) (v := 1) d_Mo_choose_137 (by decide) ?_
          refine x_goto (pc := 140) (tgt := 15) d_Mo_choose_140 (by decide) ?_
          rw [show nI a + 1 = nI (a + 1) from (nI_succ a).symm]
          exact ih (by omega) o (zSc_to ho (fun a' b' h => by have := h.2.1; have := h.2.2.1; unfold zbf; omega)) _ _ rfl hs
        · have ca : (nI a).toNatClampNeg = a := nI_clamp (by omega)
          have cb : (nI b).toNatClampNeg = b := nI_clamp (by omega)
          have hpa := hpt a h1a ha
          have hpb := hpt b (by omega) hb
          cases o with
          | none =>
            refine x_iload (pc := 38) d_Mo_choose_38 rfl ?_
            refine x_aload_n (pc := 40) d_Mo_choose_40 rfl ?_
            refine x_get (pc := 41) (j := 1) d_Mo_choose_41 f_Mo_13 rfl rfl (Nat.le_of_ble_eq_true rfl) rfl rfl rfl ?_
            refine x_icmp_ge (pc := 44) (tgt := 137) d_Mo_choose_44 (by decide) (fun h => by change V 36 1 ≤ _ at h; rw [hn] at h; exact absurd h (nI_ge (by omega) (by omega))) (fun h44 => ?_)
            refine x_aload_n (pc := 47) d_Mo_choose_47 rfl ?_
            refine x_iload (pc := 48) d_Mo_choose_48 rfl ?_
            refine x_iload (pc := 50) d_Mo_choose_50 rfl ?_
            refine y_fV (pc := 52) (c_Mo_edgeCost _ _ a b (by omega) (by omega)) k_Mo_edgeCost d_Mo_choose_52 m_Mo_153 (by decide) rfl rfl rfl rfl p_Mo_edgeCost (K := ?_)
            refine x_ldc (pc := 55) (v := 900000) d_Mo_choose_55 i_Mo_101 ?_
            refine x_icmp_eq (pc := 57) (tgt := 96) d_Mo_choose_57 (by decide) (fun h57 => ?_) (fun h57 => ?_)
            · refine x_iconst (pc := 96) (v := 0) d_Mo_choose_96 (by decide) ?_
              refine y_ist6 (pc := 97) d_Mo_choose_97 ?_
              refine x_iload (pc := 99) d_Mo_choose_99 rfl ?_
              refine x_if_eq (pc := 101) (tgt := 131) d_Mo_choose_101 (by decide) (fun _ => ?_) (fun h => absurd h (by decide))
              refine y_inc5 (pc := 131) (v := 1) d_Mo_choose_131 (by decide) ?_
              refine x_goto (pc := 134) (tgt := 38) d_Mo_choose_134 (by decide) ?_
              rw [show nI b + 1 = nI (b + 1) from (nI_succ b).symm]
              exact ihb (by omega) none (zSc_skip ho (fun q => absurd h57 q.2.2.2.2)) _ rfl
            · refine x_aload_n (pc := 60) d_Mo_choose_60 rfl ?_
              refine x_iload (pc := 61) d_Mo_choose_61 rfl ?_
              refine x_iload (pc := 63) d_Mo_choose_63 rfl ?_
              refine y_bV (pc := 65) (c_Mo_hasEdge _ _ a b es h28 hl hE hm (by omega) (by omega)) k_Mo_hasEdge d_Mo_choose_65 m_Mo_157 (by decide) rfl rfl rfl rfl p_Mo_hasEdge (K1 := fun q65 => ?_) (K0 := fun q65 => ?_)
              · refine x_if_ne (pc := 68) (tgt := 96) d_Mo_choose_68 (by decide) (fun _ => ?_) (fun h => absurd h (by decide))
                refine x_iconst (pc := 96) (v := 0) d_Mo_choose_96 (by decide) ?_
                refine y_ist6 (pc := 97) d_Mo_choose_97 ?_
                refine x_iload (pc := 99) d_Mo_choose_99 rfl ?_
                refine x_if_eq (pc := 101) (tgt := 131) d_Mo_choose_101 (by decide) (fun _ => ?_) (fun h => absurd h (by decide))
                refine y_inc5 (pc := 131) (v := 1) d_Mo_choose_131 (by decide) ?_
                refine x_goto (pc := 134) (tgt := 38) d_Mo_choose_134 (by decide) ?_
                rw [show nI b + 1 = nI (b + 1) from (nI_succ b).symm]
                exact ihb (by omega) none (zSc_skip ho (fun q => absurd (hes (a, b) q65) q.2.2.2.1)) _ rfl
              · refine x_if_ne (pc := 68) (tgt := 96) d_Mo_choose_68 (by decide) (fun h => absurd h (by decide)) (fun _ => ?_)
                refine x_iload_n (pc := 71) d_Mo_choose_71 rfl ?_
                refine x_if_ne (pc := 72) (tgt := 92) d_Mo_choose_72 (by decide) (fun h => absurd h (by decide)) (fun _ => ?_)
                refine x_aload_n (pc := 75) d_Mo_choose_75 rfl ?_
                refine x_get (pc := 76) (j := 29) d_Mo_choose_76 f_Mo_63 rfl rfl (Nat.le_of_ble_eq_true rfl) rfl rfl rfl ?_
                refine x_iload (pc := 79) d_Mo_choose_79 rfl ?_
                refine x_iald (pc := 81) d_Mo_choose_81 rfl (vp_in_nI (by omega) (by decide)) ?_
                refine x_aload_n (pc := 82) d_Mo_choose_82 rfl ?_
                refine x_get (pc := 83) (j := 29) d_Mo_choose_83 f_Mo_63 rfl rfl (Nat.le_of_ble_eq_true rfl) rfl rfl rfl ?_
                refine x_iload (pc := 86) d_Mo_choose_86 rfl ?_
                refine x_iald (pc := 88) d_Mo_choose_88 rfl (vp_in_nI (by omega) (by decide)) ?_
                refine x_icmp_eq (pc := 89) (tgt := 96) d_Mo_choose_89 (by decide) (fun h89 => ?_) (fun h89 => ?_)
                · refine x_iconst (pc := 96) (v := 0) d_Mo_choose_96 (by decide) ?_
                  refine y_ist6 (pc := 97) d_Mo_choose_97 ?_
                  refine x_iload (pc := 99) d_Mo_choose_99 rfl ?_
                  refine x_if_eq (pc := 101) (tgt := 131) d_Mo_choose_101 (by decide) (fun _ => ?_) (fun h => absurd h (by decide))
                  refine y_inc5 (pc := 131) (v := 1) d_Mo_choose_131 (by decide) ?_
                  refine x_goto (pc := 134) (tgt := 38) d_Mo_choose_134 (by decide) ?_
                  rw [ca, cb, hpa.1, hpb.1, nI_e hpa.2 hpb.2] at h89
                  rw [show nI b + 1 = nI (b + 1) from (nI_succ b).symm]
                  exact ihb (by omega) none (zSc_skip ho (fun q => absurd h89 q.2.2.2.1)) _ rfl
                · refine x_iconst (pc := 92) (v := 1) d_Mo_choose_92 (by decide) ?_
                  refine x_goto (pc := 93) (tgt := 97) d_Mo_choose_93 (by decide) ?_
                  refine y_ist6 (pc := 97) d_Mo_choose_97 ?_
                  refine x_iload (pc := 99) d_Mo_choose_99 rfl ?_
                  refine x_if_eq (pc := 101) (tgt := 131) d_Mo_choose_101 (by decide) (fun h => absurd h (by decide)) (fun _ => ?_)
                  refine x_iload_n (pc := 104) d_Mo_choose_104 rfl ?_
                  refine x_if_lt (pc := 105) (tgt := 125) d_Mo_choose_105 (by decide) (fun h105 => ?_) (fun h => absurd (by decide) h)
                  refine x_iload (pc := 125) d_Mo_choose_125 rfl ?_
                  refine y_ist2 (pc := 127) d_Mo_choose_127 ?_
                  refine x_iload (pc := 128) d_Mo_choose_128 rfl ?_
                  refine y_ist3 (pc := 130) d_Mo_choose_130 ?_
                  refine y_inc5 (pc := 131) (v := 1) d_Mo_choose_131 (by decide) ?_
                  refine x_goto (pc := 134) (tgt := 38) d_Mo_choose_134 (by decide) ?_
                  rw [ca, cb, hpa.1, hpb.1, nI_e hpa.2 hpb.2] at h89
                  rw [show nI b + 1 = nI (b + 1) from (nI_succ b).symm]
                  exact ihb (by omega) (some (a, b)) (zSc_take ho ⟨h1a, hab, hb, h89, h57⟩ (fun e' he => absurd he (by simp))) _ rfl
          | some e =>
            have hPe := zSc_P ho
            have he1 : e.1 < e.2 := hPe.2.1
            have he2 : e.2 < n := hPe.2.2.1
            refine x_iload (pc := 38) d_Mo_choose_38 rfl ?_
            refine x_aload_n (pc := 40) d_Mo_choose_40 rfl ?_
            refine x_get (pc := 41) (j := 1) d_Mo_choose_41 f_Mo_13 rfl rfl (Nat.le_of_ble_eq_true rfl) rfl rfl rfl ?_
            refine x_icmp_ge (pc := 44) (tgt := 137) d_Mo_choose_44 (by decide) (fun h => by change V 36 1 ≤ _ at h; rw [hn] at h; exact absurd h (nI_ge (by omega) (by omega))) (fun h44 => ?_)
            refine x_aload_n (pc := 47) d_Mo_choose_47 rfl ?_
            refine x_iload (pc := 48) d_Mo_choose_48 rfl ?_
            refine x_iload (pc := 50) d_Mo_choose_50 rfl ?_
            refine y_fV (pc := 52) (c_Mo_edgeCost _ _ a b (by omega) (by omega)) k_Mo_edgeCost d_Mo_choose_52 m_Mo_153 (by decide) rfl rfl rfl rfl p_Mo_edgeCost (K := ?_)
            refine x_ldc (pc := 55) (v := 900000) d_Mo_choose_55 i_Mo_101 ?_
            refine x_icmp_eq (pc := 57) (tgt := 96) d_Mo_choose_57 (by decide) (fun h57 => ?_) (fun h57 => ?_)
            · refine x_iconst (pc := 96) (v := 0) d_Mo_choose_96 (by decide) ?_
              refine y_ist6 (pc := 97) d_Mo_choose_97 ?_
              refine x_iload (pc := 99) d_Mo_choose_99 rfl ?_
              refine x_if_eq (pc := 101) (tgt := 131) d_Mo_choose_101 (by decide) (fun _ => ?_) (fun h => absurd h (by decide))
              refine y_inc5 (pc := 131) (v := 1) d_Mo_choose_131 (by decide) ?_
              refine x_goto (pc := 134) (tgt := 38) d_Mo_choose_134 (by decide) ?_
              rw [show nI b + 1 = nI (b + 1) from (nI_succ b).symm]
              exact ihb (by omega) (some e) (zSc_skip ho (fun q => absurd h57 q.2.2.2.2)) _ rfl
            · refine x_aload_n (pc := 60) d_Mo_choose_60 rfl ?_
              refine x_iload (pc := 61) d_Mo_choose_61 rfl ?_
              refine x_iload (pc := 63) d_Mo_choose_63 rfl ?_
              refine y_bV (pc := 65) (c_Mo_hasEdge _ _ a b es h28 hl hE hm (by omega) (by omega)) k_Mo_hasEdge d_Mo_choose_65 m_Mo_157 (by decide) rfl rfl rfl rfl p_Mo_hasEdge (K1 := fun q65 => ?_) (K0 := fun q65 => ?_)
              · refine x_if_ne (pc := 68) (tgt := 96) d_Mo_choose_68 (by decide) (fun _ => ?_) (fun h => absurd h (by decide))
                refine x_iconst (pc := 96) (v := 0) d_Mo_choose_96 (by decide) ?_
                refine y_ist6 (pc := 97) d_Mo_choose_97 ?_
                refine x_iload (pc := 99) d_Mo_choose_99 rfl ?_
                refine x_if_eq (pc := 101) (tgt := 131) d_Mo_choose_101 (by decide) (fun _ => ?_) (fun h => absurd h (by decide))
                refine y_inc5 (pc := 131) (v := 1) d_Mo_choose_131 (by decide) ?_
                refine x_goto (pc := 134) (tgt := 38) d_Mo_choose_134 (by decide) ?_
                rw [show nI b + 1 = nI (b + 1) from (nI_succ b).symm]
                exact ihb (by omega) (some e) (zSc_skip ho (fun q => absurd (hes (a, b) q65) q.2.2.2.1)) _ rfl
              · refine x_if_ne (pc := 68) (tgt := 96) d_Mo_choose_68 (by decide) (fun h => absurd h (by decide)) (fun _ => ?_)
                refine x_iload_n (pc := 71) d_Mo_choose_71 rfl ?_
                refine x_if_ne (pc := 72) (tgt := 92) d_Mo_choose_72 (by decide) (fun h => absurd h (by decide)) (fun _ => ?_)
                refine x_aload_n (pc := 75) d_Mo_choose_75 rfl ?_
                refine x_get (pc := 76) (j := 29) d_Mo_choose_76 f_Mo_63 rfl rfl (Nat.le_of_ble_eq_true rfl) rfl rfl rfl ?_
                refine x_iload (pc := 79) d_Mo_choose_79 rfl ?_
                refine x_iald (pc := 81) d_Mo_choose_81 rfl (vp_in_nI (by omega) (by decide)) ?_
                refine x_aload_n (pc := 82) d_Mo_choose_82 rfl ?_
                refine x_get (pc := 83) (j := 29) d_Mo_choose_83 f_Mo_63 rfl rfl (Nat.le_of_ble_eq_true rfl) rfl rfl rfl ?_
                refine x_iload (pc := 86) d_Mo_choose_86 rfl ?_
                refine x_iald (pc := 88) d_Mo_choose_88 rfl (vp_in_nI (by omega) (by decide)) ?_
                refine x_icmp_eq (pc := 89) (tgt := 96) d_Mo_choose_89 (by decide) (fun h89 => ?_) (fun h89 => ?_)
                · refine x_iconst (pc := 96) (v := 0) d_Mo_choose_96 (by decide) ?_
                  refine y_ist6 (pc := 97) d_Mo_choose_97 ?_
                  refine x_iload (pc := 99) d_Mo_choose_99 rfl ?_
                  refine x_if_eq (pc := 101) (tgt := 131) d_Mo_choose_101 (by decide) (fun _ => ?_) (fun h => absurd h (by decide))
                  refine y_inc5 (pc := 131) (v := 1) d_Mo_choose_131 (by decide) ?_
                  refine x_goto (pc := 134) (tgt := 38) d_Mo_choose_134 (by decide) ?_
                  rw [ca, cb, hpa.1, hpb.1, nI_e hpa.2 hpb.2] at h89
                  rw [show nI b + 1 = nI (b + 1) from (nI_succ b).symm]
                  exact ihb (by omega) (some e) (zSc_skip ho (fun q => absurd h89 q.2.2.2.1)) _ rfl
                · refine x_iconst (pc := 92) (v := 1) d_Mo_choose_92 (by decide) ?_
                  refine x_goto (pc := 93) (tgt := 97) d_Mo_choose_93 (by decide) ?_
                  refine y_ist6 (pc := 97) d_Mo_choose_97 ?_
                  refine x_iload (pc := 99) d_Mo_choose_99 rfl ?_
                  refine x_if_eq (pc := 101) (tgt := 131) d_Mo_choose_101 (by decide) (fun h => absurd h (by decide)) (fun _ => ?_)
                  refine x_iload_n (pc := 104) d_Mo_choose_104 rfl ?_
                  refine x_if_lt (pc := 105) (tgt := 125) d_Mo_choose_105 (by decide) (fun h => absurd (nI_pos' (n := e.1) (by omega)) (Int32.not_le.mpr h)) (fun h105 => ?_)
                  refine x_aload_n (pc := 108) d_Mo_choose_108 rfl ?_
                  refine x_iload (pc := 109) d_Mo_choose_109 rfl ?_
                  refine x_iload (pc := 111) d_Mo_choose_111 rfl ?_
                  refine y_fV (pc := 113) (c_Mo_edgeCost _ _ a b (by omega) (by omega)) k_Mo_edgeCost d_Mo_choose_113 m_Mo_153 (by decide) rfl rfl rfl rfl p_Mo_edgeCost (K := ?_)
                  refine x_aload_n (pc := 116) d_Mo_choose_116 rfl ?_
                  refine x_iload_n (pc := 117) d_Mo_choose_117 rfl ?_
                  refine x_iload_n (pc := 118) d_Mo_choose_118 rfl ?_
                  refine y_fV (pc := 119) (c_Mo_edgeCost _ _ e.1 e.2 (by omega) (by omega)) k_Mo_edgeCost d_Mo_choose_119 m_Mo_153 (by decide) rfl rfl rfl rfl p_Mo_edgeCost (K := ?_)
                  refine x_icmp_ge (pc := 122) (tgt := 131) d_Mo_choose_122 (by decide) (fun h122 => ?_) (fun h122 => ?_)
                  · refine y_inc5 (pc := 131) (v := 1) d_Mo_choose_131 (by decide) ?_
                    refine x_goto (pc := 134) (tgt := 38) d_Mo_choose_134 (by decide) ?_
                    rw [ca, cb, hpa.1, hpb.1, nI_e hpa.2 hpb.2] at h89
                    rw [show nI b + 1 = nI (b + 1) from (nI_succ b).symm]
                    exact ihb (by omega) (some e) (zSc_skip ho (fun q => ⟨e, rfl, Int32.not_lt.mpr h122⟩)) _ rfl
                  · refine x_iload (pc := 125) d_Mo_choose_125 rfl ?_
                    refine y_ist2 (pc := 127) d_Mo_choose_127 ?_
                    refine x_iload (pc := 128) d_Mo_choose_128 rfl ?_
                    refine y_ist3 (pc := 130) d_Mo_choose_130 ?_
                    refine y_inc5 (pc := 131) (v := 1) d_Mo_choose_131 (by decide) ?_
                    refine x_goto (pc := 134) (tgt := 38) d_Mo_choose_134 (by decide) ?_
                    rw [ca, cb, hpa.1, hpb.1, nI_e hpa.2 hpb.2] at h89
                    rw [show nI b + 1 = nI (b + 1) from (nI_succ b).symm]
                    exact ihb (by omega) (some (a, b)) (zSc_take ho ⟨h1a, hab, hb, h89, h57⟩ (fun e' he => by rw [← Option.some.inj he]; exact Int32.not_le.mp h122)) _ rfl
      refine x_iload (pc := 15) d_Mo_choose_15 rfl ?_
      refine x_iload_n (pc := 17) d_Mo_choose_17 rfl ?_
      refine x_if_eq (pc := 18) (tgt := 25) d_Mo_choose_18 (by decide) (fun _ => ?_) (fun h => absurd h (by decide))
      refine x_aload_n (pc := 25) d_Mo_choose_25 rfl ?_
      refine x_get (pc := 26) (j := 1) d_Mo_choose_26 f_Mo_13 rfl rfl (Nat.le_of_ble_eq_true rfl) rfl rfl rfl ?_
      refine x_icmp_ge (pc := 29) (tgt := 143) d_Mo_choose_29 (by decide) (fun h => by change V 36 1 ≤ _ at h; rw [hn] at h; exact absurd h (nI_ge (by omega) (by omega))) (fun h29 => ?_)
      refine x_iload (pc := 32) d_Mo_choose_32 rfl ?_
      refine x_iconst (pc := 34) (v := 1) d_Mo_choose_34 (by decide) ?_
      refine x_iadd (pc := 35) d_Mo_choose_35 ?_
      refine y_ist5 (pc := 36) d_Mo_choose_36 ?_
      rw [show nI a + 1 = nI (a + 1) from (nI_succ a).symm]
      exact hB (a + 1) (by omega) (by omega) o ho _ hs
  refine CQ.of (lv := [.ref 36, .int 0, zu, zu, zu, zu, zu]) k_Mo_choose.1 rfl (by decide) rfl rfl (Nat.le_of_ble_eq_true rfl) ?_
  refine x_iconst (pc := 0) (v := (-1)) d_Mo_choose_0 (by decide) ?_
  refine y_ist2 (pc := 1) d_Mo_choose_1 ?_
  refine x_iconst (pc := 2) (v := (-1)) d_Mo_choose_2 (by decide) ?_
  refine y_ist3 (pc := 3) d_Mo_choose_3 ?_
  refine x_iload_n (pc := 4) d_Mo_choose_4 rfl ?_
  refine x_if_eq (pc := 5) (tgt := 12) d_Mo_choose_5 (by decide) (fun _ => ?_) (fun h => absurd h (by decide))
  refine x_iconst (pc := 12) (v := 1) d_Mo_choose_12 (by decide) ?_
  refine y_ist4 (pc := 13) d_Mo_choose_13 ?_
  exact hA 1 h1 (Nat.le_refl 1) none (zSc_0 (fun a' b' h => by have := h.1; have := h.2.1; unfold zbf; omega)) _ _ rfl rfl
set_option maxRecDepth 100000 in
set_option maxHeartbeats 4000000 in
theorem c_Mo_choose1 (V A : zV) (u : Nat) (n : Nat) (hn : V 36 1 = nI n) (h1 : 1 ≤ n) (h9 : n ≤ 9) (es : List (Nat × Nat)) (h28 : V 36 28 = nI es.length) (hl : es.length ≤ 9) (hE : zEd es (A 48) (A 49)) (hm : ∀ e ∈ es, e.1 < 9 ∧ e.2 < 9) (hes : ∀ b, 1 ≤ b → b < n → ((0, b) ∈ es ↔ b = u)) : CQ Y_Mo_choose 1 [.ref 36, .int 1] V A (fun r V' A' => (∃ o, zOut (zPh (ECr (A 38) (A 41)) 900000 n u) (ECr (A 38) (A 41)) o ∧ ((o = none ∧ r = 0 ∧ V' = V ∧ A' = A) ∨ ∃ b, o = some (0, b) ∧ r = 1 ∧ V' = zv V 36 28 (nI (es.length + 1)) ∧ A' = za (za A 48 (upd (A 48) es.length (nI 0))) 49 (upd (A 49) es.length (nI b))))) := by
  have cl : (nI es.length).toNatClampNeg = es.length := nI_clamp (by omega)
  have hZ : ∀ o, zOut (zPh (ECr (A 38) (A 41)) 900000 n u) (ECr (A 38) (A 41)) o → ∀ p q s : Value, p.category = 1 → q.category = 1 → s.category = 1 → X Y_Mo_choose (zrm 1) (0, fun _ => 0) (zFq 1 (fun r V' A' => (∃ o, zOut (zPh (ECr (A 38) (A 41)) 900000 n u) (ECr (A 38) (A 41)) o ∧ ((o = none ∧ r = 0 ∧ V' = V ∧ A' = A) ∨ ∃ b, o = some (0, b) ∧ r = 1 ∧ V' = zv V 36 28 (nI (es.length + 1)) ∧ A' = za (za A 48 (upd (A 48) es.length (nI 0))) 49 (upd (A 49) es.length (nI b)))))) 143 [.ref 36, .int 1, .int (zoF (-1) o), .int (zoT (-1) o), p, q, s] [] (cells V A) 0 0 := by
    intro o ho p q s hp hq hs
    cases o with
    | none =>
      refine x_iload_n (pc := 143) d_Mo_choose_143 rfl ?_
      refine x_if_ge (pc := 144) (tgt := 149) d_Mo_choose_144 (by decide) (fun h => absurd h (by decide)) (fun h144 => ?_)
      refine x_iconst (pc := 147) (v := 0) d_Mo_choose_147 (by decide) ?_
      refine y_zret (pc := 148) d_Mo_choose_148 rfl rfl ?_
      exact ⟨none, ho, Or.inl ⟨rfl, rfl, rfl, rfl⟩⟩
    | some e =>
      obtain ⟨a, b⟩ := e
      have hP := ho.1
      have h0 : a = 0 := hP.1
      subst h0
      have hbn : b < n := hP.2.2.1
      refine x_iload_n (pc := 143) d_Mo_choose_143 rfl ?_
      refine x_if_ge (pc := 144) (tgt := 149) d_Mo_choose_144 (by decide) (fun h144 => ?_) (fun h => absurd (nI_pos' (n := 0) (by omega)) h)
      refine x_aload_n (pc := 149) d_Mo_choose_149 rfl ?_
      refine x_get (pc := 150) (j := 26) d_Mo_choose_150 f_Mo_57 rfl rfl (Nat.le_of_ble_eq_true rfl) rfl rfl rfl ?_
      refine x_aload_n (pc := 153) d_Mo_choose_153 rfl ?_
      refine x_get (pc := 154) (j := 28) d_Mo_choose_154 f_Mo_150 rfl rfl (Nat.le_of_ble_eq_true rfl) rfl rfl rfl ?_
      refine x_iload_n (pc := 157) d_Mo_choose_157 rfl ?_
      refine y_iast (pc := 158) d_Mo_choose_158 rfl (fun _ => rfl) (by rw [show V 36 28 = nI es.length from h28]; exact vp_in_nI (by omega) (by decide)) ?_
      refine x_aload_n (pc := 159) d_Mo_choose_159 rfl ?_
      refine x_get (pc := 160) (j := 27) d_Mo_choose_160 f_Mo_60 rfl rfl (Nat.le_of_ble_eq_true rfl) rfl rfl rfl ?_
      refine x_aload_n (pc := 163) d_Mo_choose_163 rfl ?_
      refine x_get (pc := 164) (j := 28) d_Mo_choose_164 f_Mo_150 rfl rfl (Nat.le_of_ble_eq_true rfl) rfl rfl rfl ?_
      refine x_iload_n (pc := 167) d_Mo_choose_167 rfl ?_
      refine y_iast (pc := 168) d_Mo_choose_168 rfl (fun _ => rfl) (by rw [show V 36 28 = nI es.length from h28]; exact vp_in_nI (by omega) (by decide)) ?_
      refine x_aload_n (pc := 169) d_Mo_choose_169 rfl ?_
      refine x_dup (pc := 170) d_Mo_choose_170 rfl ?_
      refine x_get (pc := 171) (j := 28) d_Mo_choose_171 f_Mo_150 rfl rfl (Nat.le_of_ble_eq_true rfl) rfl rfl rfl ?_
      refine x_iconst (pc := 174) (v := 1) d_Mo_choose_174 (by decide) ?_
      refine x_iadd (pc := 175) d_Mo_choose_175 ?_
      refine y_put (pc := 176) (j := 28) d_Mo_choose_176 f_Mo_150 rfl rfl (Nat.le_of_ble_eq_true rfl) rfl (Nat.le_of_ble_eq_true rfl) rfl rfl (fun _ => rfl) ?_
      refine x_aload_n (pc := 179) d_Mo_choose_179 rfl ?_
      refine x_get (pc := 180) (j := 29) d_Mo_choose_180 f_Mo_63 rfl rfl (Nat.le_of_ble_eq_true rfl) rfl rfl rfl ?_
      refine x_iload_n (pc := 183) d_Mo_choose_183 rfl ?_
      refine x_iald (pc := 184) d_Mo_choose_184 rfl (vp_in_nI (by omega) (by decide)) ?_
      refine y_ist4 (pc := 185) d_Mo_choose_185 ?_
      refine x_iconst (pc := 187) (v := 1) d_Mo_choose_187 (by decide) ?_
      refine y_ist5 (pc := 188) d_Mo_choose_188 ?_
      refine x_iload (pc := 190) d_Mo_choose_190 rfl ?_
      refine x_aload_n (pc := 192) d_Mo_choose_192 rfl ?_
      refine x_get (pc := 193) (j := 1) d_Mo_choose_193 f_Mo_13 rfl rfl (Nat.le_of_ble_eq_true rfl) rfl rfl rfl ?_
      refine x_icmp_ge (pc := 196) (tgt := 244) d_Mo_choose_196 (by decide) (fun h196 => ?_) (fun h196 => ?_)
      · refine x_iconst (pc := 244) (v := 1) d_Mo_choose_244 (by decide) ?_
        refine y_zret (pc := 245) d_Mo_choose_245 rfl rfl ?_
        exact ⟨some (0, b), ho, Or.inr ⟨b, rfl, rfl, by rw [show V 36 28 = nI es.length from h28, nI_succ], by rw [show V 36 28 = nI es.length from h28, cl]; rfl⟩⟩
      · refine x_iload_n (pc := 199) d_Mo_choose_199 rfl ?_
        refine x_if_ne (pc := 200) (tgt := 244) d_Mo_choose_200 (by decide) (fun _ => ?_) (fun h => absurd h (by decide))
        refine x_iconst (pc := 244) (v := 1) d_Mo_choose_244 (by decide) ?_
        refine y_zret (pc := 245) d_Mo_choose_245 rfl rfl ?_
        exact ⟨some (0, b), ho, Or.inr ⟨b, rfl, rfl, by rw [show V 36 28 = nI es.length from h28, nI_succ], by rw [show V 36 28 = nI es.length from h28, cl]; rfl⟩⟩
  have hB : ∀ b, b ≤ n → 1 ≤ b → ∀ o, zSc (zPh (ECr (A 38) (A 41)) 900000 n u) (ECr (A 38) (A 41)) 0 b o → ∀ s : Value, s.category = 1 → X Y_Mo_choose (zrm 1) (0, fun _ => 0) (zFq 1 (fun r V' A' => (∃ o, zOut (zPh (ECr (A 38) (A 41)) 900000 n u) (ECr (A 38) (A 41)) o ∧ ((o = none ∧ r = 0 ∧ V' = V ∧ A' = A) ∨ ∃ b, o = some (0, b) ∧ r = 1 ∧ V' = zv V 36 28 (nI (es.length + 1)) ∧ A' = za (za A 48 (upd (A 48) es.length (nI 0))) 49 (upd (A 49) es.length (nI b)))))) 38 [.ref 36, .int 1, .int (zoF (-1) o), .int (zoT (-1) o), .int 0, .int (nI b), s] [] (cells V A) 0 0 := by
    refine z_down (fun _ o ho s hs => ?_) (fun b hb ihb h1b o ho s hs => ?_)
    · refine x_iload (pc := 38) d_Mo_choose_38 rfl ?_
      refine x_aload_n (pc := 40) d_Mo_choose_40 rfl ?_
      refine x_get (pc := 41) (j := 1) d_Mo_choose_41 f_Mo_13 rfl rfl (Nat.le_of_ble_eq_true rfl) rfl rfl rfl ?_
      refine x_icmp_ge (pc := 44) (tgt := 137) d_Mo_choose_44 (by decide) (fun h44 => ?_) (fun h => by change ¬ V 36 1 ≤ _ at h; rw [hn] at h; exact absurd (nI_le (by omega) (by omega)) h)
      refine y_inc4 (pc := 137) (v := 1) d_Mo_choose_137 (by decide) ?_
      refine x_goto (pc := 140) (tgt := 15) d_Mo_choose_140 (by decide) ?_
      refine x_iload (pc := 15) d_Mo_choose_15 rfl ?_
      refine x_iload_n (pc := 17) d_Mo_choose_17 rfl ?_
      refine x_if_eq (pc := 18) (tgt := 25) d_Mo_choose_18 (by decide) (fun h => absurd h (by decide)) (fun _ => ?_)
      refine x_iconst (pc := 21) (v := 1) d_Mo_choose_21 (by decide) ?_
      refine x_goto (pc := 22) (tgt := 29) d_Mo_choose_22 (by decide) ?_
      refine x_icmp_ge (pc := 29) (tgt := 143) d_Mo_choose_29 (by decide) (fun h29 => ?_) (fun h => absurd (by decide) h)
      exact hZ o (zSc_end ho (fun a' b' h => Or.inr ⟨h.1, h.2.2.1⟩)) _ _ _ rfl rfl hs
    · cases o with
      | none =>
        refine x_iload (pc := 38) d_Mo_choose_38 rfl ?_
        refine x_aload_n (pc := 40) d_Mo_choose_40 rfl ?_
        refine x_get (pc := 41) (j := 1) d_Mo_choose_41 f_Mo_13 rfl rfl (Nat.le_of_ble_eq_true rfl) rfl rfl rfl ?_
        refine x_icmp_ge (pc := 44) (tgt := 137) d_Mo_choose_44 (by decide) (fun h => by change V 36 1 ≤ _ at h; rw [hn] at h; exact absurd h (nI_ge (by omega) (by omega))) (fun h44 => ?_)
        refine x_aload_n (pc := 47) d_Mo_choose_47 rfl ?_
        refine x_iload (pc := 48) d_Mo_choose_48 rfl ?_
        refine x_iload (pc := 50) d_Mo_choose_50 rfl ?_
        refine y_fV (pc := 52) (c_Mo_edgeCost _ _ 0 b (by omega) (by omega)) k_Mo_edgeCost d_Mo_choose_52 m_Mo_153 (by decide) rfl rfl rfl rfl p_Mo_edgeCost (K := ?_)
        refine x_ldc (pc := 55) (v := 900000) d_Mo_choose_55 i_Mo_101 ?_
        refine x_icmp_eq (pc := 57) (tgt := 96) d_Mo_choose_57 (by decide) (fun h57 => ?_) (fun h57 => ?_)
        · refine x_iconst (pc := 96) (v := 0) d_Mo_choose_96 (by decide) ?_
          refine y_ist6 (pc := 97) d_Mo_choose_97 ?_
          refine x_iload (pc := 99) d_Mo_choose_99 rfl ?_
          refine x_if_eq (pc := 101) (tgt := 131) d_Mo_choose_101 (by decide) (fun _ => ?_) (fun h => absurd h (by decide))
          refine y_inc5 (pc := 131) (v := 1) d_Mo_choose_131 (by decide) ?_
          refine x_goto (pc := 134) (tgt := 38) d_Mo_choose_134 (by decide) ?_
          rw [show nI b + 1 = nI (b + 1) from (nI_succ b).symm]
          exact ihb (by omega) none (zSc_skip ho (fun q => absurd h57 q.2.2.2.2)) _ rfl
        · refine x_aload_n (pc := 60) d_Mo_choose_60 rfl ?_
          refine x_iload (pc := 61) d_Mo_choose_61 rfl ?_
          refine x_iload (pc := 63) d_Mo_choose_63 rfl ?_
          refine y_bV (pc := 65) (c_Mo_hasEdge _ _ 0 b es h28 hl hE hm (by omega) (by omega)) k_Mo_hasEdge d_Mo_choose_65 m_Mo_157 (by decide) rfl rfl rfl rfl p_Mo_hasEdge (K1 := fun q65 => ?_) (K0 := fun q65 => ?_)
          · refine x_if_ne (pc := 68) (tgt := 96) d_Mo_choose_68 (by decide) (fun _ => ?_) (fun h => absurd h (by decide))
            refine x_iconst (pc := 96) (v := 0) d_Mo_choose_96 (by decide) ?_
            refine y_ist6 (pc := 97) d_Mo_choose_97 ?_
            refine x_iload (pc := 99) d_Mo_choose_99 rfl ?_
            refine x_if_eq (pc := 101) (tgt := 131) d_Mo_choose_101 (by decide) (fun _ => ?_) (fun h => absurd h (by decide))
            refine y_inc5 (pc := 131) (v := 1) d_Mo_choose_131 (by decide) ?_
            refine x_goto (pc := 134) (tgt := 38) d_Mo_choose_134 (by decide) ?_
            rw [show nI b + 1 = nI (b + 1) from (nI_succ b).symm]
            exact ihb (by omega) none (zSc_skip ho (fun q => absurd ((hes b h1b hb).mp q65) q.2.2.2.1)) _ rfl
          · refine x_if_ne (pc := 68) (tgt := 96) d_Mo_choose_68 (by decide) (fun h => absurd h (by decide)) (fun _ => ?_)
            refine x_iload_n (pc := 71) d_Mo_choose_71 rfl ?_
            refine x_if_ne (pc := 72) (tgt := 92) d_Mo_choose_72 (by decide) (fun _ => ?_) (fun h => absurd h (by decide))
            refine x_iconst (pc := 92) (v := 1) d_Mo_choose_92 (by decide) ?_
            refine x_goto (pc := 93) (tgt := 97) d_Mo_choose_93 (by decide) ?_
            refine y_ist6 (pc := 97) d_Mo_choose_97 ?_
            refine x_iload (pc := 99) d_Mo_choose_99 rfl ?_
            refine x_if_eq (pc := 101) (tgt := 131) d_Mo_choose_101 (by decide) (fun h => absurd h (by decide)) (fun _ => ?_)
            refine x_iload_n (pc := 104) d_Mo_choose_104 rfl ?_
            refine x_if_lt (pc := 105) (tgt := 125) d_Mo_choose_105 (by decide) (fun h105 => ?_) (fun h => absurd (by decide) h)
            refine x_iload (pc := 125) d_Mo_choose_125 rfl ?_
            refine y_ist2 (pc := 127) d_Mo_choose_127 ?_
            refine x_iload (pc := 128) d_Mo_choose_128 rfl ?_
            refine y_ist3 (pc := 130) d_Mo_choose_130 ?_
            refine y_inc5 (pc := 131) (v := 1) d_Mo_choose_131 (by decide) ?_
            refine x_goto (pc := 134) (tgt := 38) d_Mo_choose_134 (by decide) ?_
            have hbu : ¬ b = u := fun q => q65 ((hes b h1b hb).mpr q)
            rw [show nI b + 1 = nI (b + 1) from (nI_succ b).symm]
            exact ihb (by omega) (some (0, b)) (zSc_take ho ⟨rfl, h1b, hb, hbu, h57⟩ (fun e' he => absurd he (by simp))) _ rfl
      | some e =>
        have hPe := zSc_P ho
        have he1 : e.1 = 0 := hPe.1
        have he2 : e.2 < n := hPe.2.2.1
        refine x_iload (pc := 38) d_Mo_choose_38 rfl ?_
        refine x_aload_n (pc := 40) d_Mo_choose_40 rfl ?_
        refine x_get (pc := 41) (j := 1) d_Mo_choose_41 f_Mo_13 rfl rfl (Nat.le_of_ble_eq_true rfl) rfl rfl rfl ?_
        refine x_icmp_ge (pc := 44) (tgt := 137) d_Mo_choose_44 (by decide) (fun h => by change V 36 1 ≤ _ at h; rw [hn] at h; exact absurd h (nI_ge (by omega) (by omega))) (fun h44 => ?_)
        refine x_aload_n (pc := 47) d_Mo_choose_47 rfl ?_
        refine x_iload (pc := 48) d_Mo_choose_48 rfl ?_
        refine x_iload (pc := 50) d_Mo_choose_50 rfl ?_
        refine y_fV (pc := 52) (c_Mo_edgeCost _ _ 0 b (by omega) (by omega)) k_Mo_edgeCost d_Mo_choose_52 m_Mo_153 (by decide) rfl rfl rfl rfl p_Mo_edgeCost (K := ?_)
        refine x_ldc (pc := 55) (v := 900000) d_Mo_choose_55 i_Mo_101 ?_
        refine x_icmp_eq (pc := 57) (tgt := 96) d_Mo_choose_57 (by decide) (fun h57 => ?_) (fun h57 => ?_)
        · refine x_iconst (pc := 96) (v := 0) d_Mo_choose_96 (by decide) ?_
          refine y_ist6 (pc := 97) d_Mo_choose_97 ?_
          refine x_iload (pc := 99) d_Mo_choose_99 rfl ?_
          refine x_if_eq (pc := 101) (tgt := 131) d_Mo_choose_101 (by decide) (fun _ => ?_) (fun h => absurd h (by decide))
          refine y_inc5 (pc := 131) (v := 1) d_Mo_choose_131 (by decide) ?_
          refine x_goto (pc := 134) (tgt := 38) d_Mo_choose_134 (by decide) ?_
          rw [show nI b + 1 = nI (b + 1) from (nI_succ b).symm]
          exact ihb (by omega) (some e) (zSc_skip ho (fun q => absurd h57 q.2.2.2.2)) _ rfl
        · refine x_aload_n (pc := 60) d_Mo_choose_60 rfl ?_
          refine x_iload (pc := 61) d_Mo_choose_61 rfl ?_
          refine x_iload (pc := 63) d_Mo_choose_63 rfl ?_
          refine y_bV (pc := 65) (c_Mo_hasEdge _ _ 0 b es h28 hl hE hm (by omega) (by omega)) k_Mo_hasEdge d_Mo_choose_65 m_Mo_157 (by decide) rfl rfl rfl rfl p_Mo_hasEdge (K1 := fun q65 => ?_) (K0 := fun q65 => ?_)
          · refine x_if_ne (pc := 68) (tgt := 96) d_Mo_choose_68 (by decide) (fun _ => ?_) (fun h => absurd h (by decide))
            refine x_iconst (pc := 96) (v := 0) d_Mo_choose_96 (by decide) ?_
            refine y_ist6 (pc := 97) d_Mo_choose_97 ?_
            refine x_iload (pc := 99) d_Mo_choose_99 rfl ?_
            refine x_if_eq (pc := 101) (tgt := 131) d_Mo_choose_101 (by decide) (fun _ => ?_) (fun h => absurd h (by decide))
            refine y_inc5 (pc := 131) (v := 1) d_Mo_choose_131 (by decide) ?_
            refine x_goto (pc := 134) (tgt := 38) d_Mo_choose_134 (by decide) ?_
            rw [show nI b + 1 = nI (b + 1) from (nI_succ b).symm]
            exact ihb (by omega) (some e) (zSc_skip ho (fun q => absurd ((hes b h1b hb).mp q65) q.2.2.2.1)) _ rfl
          · refine x_if_ne (pc := 68) (tgt := 96) d_Mo_choose_68 (by decide) (fun h => absurd h (by decide)) (fun _ => ?_)
            refine x_iload_n (pc := 71) d_Mo_choose_71 rfl ?_
            refine x_if_ne (pc := 72) (tgt := 92) d_Mo_choose_72 (by decide) (fun _ => ?_) (fun h => absurd h (by decide))
            refine x_iconst (pc := 92) (v := 1) d_Mo_choose_92 (by decide) ?_
            refine x_goto (pc := 93) (tgt := 97) d_Mo_choose_93 (by decide) ?_
            refine y_ist6 (pc := 97) d_Mo_choose_97 ?_
            refine x_iload (pc := 99) d_Mo_choose_99 rfl ?_
            refine x_if_eq (pc := 101) (tgt := 131) d_Mo_choose_101 (by decide) (fun h => absurd h (by decide)) (fun _ => ?_)
            refine x_iload_n (pc := 104) d_Mo_choose_104 rfl ?_
            refine x_if_lt (pc := 105) (tgt := 125) d_Mo_choose_105 (by decide) (fun h => absurd (nI_pos' (n := e.1) (by omega)) (Int32.not_le.mpr h)) (fun h105 => ?_)
            refine x_aload_n (pc := 108) d_Mo_choose_108 rfl ?_
            refine x_iload (pc := 109) d_Mo_choose_109 rfl ?_
            refine x_iload (pc := 111) d_Mo_choose_111 rfl ?_
            refine y_fV (pc := 113) (c_Mo_edgeCost _ _ 0 b (by omega) (by omega)) k_Mo_edgeCost d_Mo_choose_113 m_Mo_153 (by decide) rfl rfl rfl rfl p_Mo_edgeCost (K := ?_)
            refine x_aload_n (pc := 116) d_Mo_choose_116 rfl ?_
            refine x_iload_n (pc := 117) d_Mo_choose_117 rfl ?_
            refine x_iload_n (pc := 118) d_Mo_choose_118 rfl ?_
            refine y_fV (pc := 119) (c_Mo_edgeCost _ _ e.1 e.2 (by omega) (by omega)) k_Mo_edgeCost d_Mo_choose_119 m_Mo_153 (by decide) rfl rfl rfl rfl p_Mo_edgeCost (K := ?_)
            refine x_icmp_ge (pc := 122) (tgt := 131) d_Mo_choose_122 (by decide) (fun h122 => ?_) (fun h122 => ?_)
            · refine y_inc5 (pc := 131) (v := 1) d_Mo_choose_131 (by decide) ?_
              refine x_goto (pc := 134) (tgt := 38) d_Mo_choose_134 (by decide) ?_
              have hbu : ¬ b = u := fun q => q65 ((hes b h1b hb).mpr q)
              rw [show nI b + 1 = nI (b + 1) from (nI_succ b).symm]
              exact ihb (by omega) (some e) (zSc_skip ho (fun q => ⟨e, rfl, Int32.not_lt.mpr h122⟩)) _ rfl
            · refine x_iload (pc := 125) d_Mo_choose_125 rfl ?_
              refine y_ist2 (pc := 127) d_Mo_choose_127 ?_
              refine x_iload (pc := 128) d_Mo_choose_128 rfl ?_
              refine y_ist3 (pc := 130) d_Mo_choose_130 ?_
              refine y_inc5 (pc := 131) (v := 1) d_Mo_choose_131 (by decide) ?_
              refine x_goto (pc := 134) (tgt := 38) d_Mo_choose_134 (by decide) ?_
              have hbu : ¬ b = u := fun q => q65 ((hes b h1b hb).mpr q)
              rw [show nI b + 1 = nI (b + 1) from (nI_succ b).symm]
              exact ihb (by omega) (some (0, b)) (zSc_take ho ⟨rfl, h1b, hb, hbu, h57⟩ (fun e' he => by rw [← Option.some.inj he]; exact Int32.not_le.mp h122)) _ rfl
  refine CQ.of (lv := [.ref 36, .int 1, zu, zu, zu, zu, zu]) k_Mo_choose.1 rfl (by decide) rfl rfl (Nat.le_of_ble_eq_true rfl) ?_
  refine x_iconst (pc := 0) (v := (-1)) d_Mo_choose_0 (by decide) ?_
  refine y_ist2 (pc := 1) d_Mo_choose_1 ?_
  refine x_iconst (pc := 2) (v := (-1)) d_Mo_choose_2 (by decide) ?_
  refine y_ist3 (pc := 3) d_Mo_choose_3 ?_
  refine x_iload_n (pc := 4) d_Mo_choose_4 rfl ?_
  refine x_if_eq (pc := 5) (tgt := 12) d_Mo_choose_5 (by decide) (fun h => absurd h (by decide)) (fun _ => ?_)
  refine x_iconst (pc := 8) (v := 0) d_Mo_choose_8 (by decide) ?_
  refine x_goto (pc := 9) (tgt := 13) d_Mo_choose_9 (by decide) ?_
  refine y_ist4 (pc := 13) d_Mo_choose_13 ?_
  refine x_iload (pc := 15) d_Mo_choose_15 rfl ?_
  refine x_iload_n (pc := 17) d_Mo_choose_17 rfl ?_
  refine x_if_eq (pc := 18) (tgt := 25) d_Mo_choose_18 (by decide) (fun h => absurd h (by decide)) (fun _ => ?_)
  refine x_iconst (pc := 21) (v := 1) d_Mo_choose_21 (by decide) ?_
  refine x_goto (pc := 22) (tgt := 29) d_Mo_choose_22 (by decide) ?_
  refine x_icmp_ge (pc := 29) (tgt := 143) d_Mo_choose_29 (by decide) (fun h => absurd h (by decide)) (fun _ => ?_)
  refine x_iload (pc := 32) d_Mo_choose_32 rfl ?_
  refine x_iconst (pc := 34) (v := 1) d_Mo_choose_34 (by decide) ?_
  refine x_iadd (pc := 35) d_Mo_choose_35 ?_
  refine y_ist5 (pc := 36) d_Mo_choose_36 ?_
  exact hB 1 h1 (Nat.le_refl 1) none (zSc_0 (fun a' b' h => by have := h.1; have := h.2.1; unfold zbf; omega)) _ rfl
