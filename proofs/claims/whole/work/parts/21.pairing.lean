theorem y_tail {Y : zY} {rm : Room} {sc : Nat × (Nat → Int32)} {F : zFin} {pc : Nat} {st lv lv' p t : List Value} {μ : zMem} {kc ks : Nat} (h1 : p ++ t = lv) (h2 : p ++ List.replicate t.length zu = lv') (hp : ∀ v ∈ p, v.category = 1) (K : X Y rm sc F pc lv' st μ kc ks) : X Y rm sc F pc lv st μ kc ks := by
  subst h1 h2
  refine x_drop ?_ ?_ ?_ K
  · simp
  · intro v hv
    rcases List.mem_append.mp hv with h | h
    · exact hp v h
    · rw [List.eq_of_mem_replicate h]; rfl
  · intro i v hi hk
    by_cases hlt : i < p.length
    · rw [List.getElem?_append_left hlt] at hi ⊢
      exact hi
    · rw [List.getElem?_append_right (by omega)] at hi
      have := List.eq_of_mem_replicate (List.mem_of_getElem? hi)
      subst this
      simp [zknown] at hk
theorem za_za (A : zV) (k : Nat) (f g : Nat → Int32) : za (za A k f) k g = za A k g := by
  funext a
  simp only [za_eq]
  by_cases h : a = k <;> simp [h]
def zpc (e : Nat) : Nat := sN (fun a => if e.testBit a = true then 1 else 0) 9
theorem z_shl : ∀ n, n ≤ 9 → (1 : Int32) <<< (nI n &&& 31) = nI (2 ^ n) := by decide +kernel
theorem z9_and : ∀ e, e < 512 → ∀ a, a < 9 → (nI e &&& ((1 : Int32) <<< (nI a &&& 31)) = 0 ↔ e.testBit a = false) := by decide +kernel
theorem z9_del : ∀ e, e < 512 → ∀ a, a < 9 → nI e &&& (((1 : Int32) <<< (nI a &&& 31)) ^^^ (-1)) = nI (e &&& (511 ^^^ 2 ^ a)) ∧ e &&& (511 ^^^ 2 ^ a) < 512 := by decide +kernel
theorem z9_lt : ∀ e, e < 512 → ∀ a, a < 9 → e.testBit a = true → e &&& (511 ^^^ 2 ^ a) < e ∧ zpc e = zpc (e &&& (511 ^^^ 2 ^ a)) + 1 := by decide +kernel
theorem z9_shr : ∀ e, e < 512 → ∀ a, a < 9 → ((nI e >>> (nI a &&& 31)) &&& 1 = 1 ↔ e.testBit a = true) := by decide +kernel
theorem z9_pop : ∀ e, e < 512 → zbc (nI e) = nI (zpc e) ∧ zpc e ≤ 9 ∧ (1 ≤ e → 1 ≤ zpc e) := by decide +kernel
def zmin (a x : Int32) : Int32 := if x < a then x else a
/-- one set's row of the class, and of the reference -/
def pcF (cs f : Nat → Int32) (n t : Nat) : Int32 := zf (fun o a => if t.testBit o = true then zmin a (zsum (f (t &&& (511 ^^^ 2 ^ o))) (cs ((zpc t - 1) * 9 + o))) else a) 1000000000 n
def prF (ar g : Nat → Int32) (n t : Nat) : Int32 := zf (fun o a => if t.testBit o = true ∧ ¬ zpc t - 1 = o ∧ ¬ ar (9 * (zpc t - 1) + o) = 1000000 ∧ ¬ g (t &&& (511 ^^^ 2 ^ o)) = 900000 then zmin a (g (t &&& (511 ^^^ 2 ^ o)) + ar (9 * (zpc t - 1) + o)) else a) 900000 n
def pcR (cs f : Nat → Int32) (n s : Nat) : Prop := f 0 = 0 ∧ ∀ t, 1 ≤ t → t < s → f t = pcF cs f n t
def prR (ar g : Nat → Int32) (n s : Nat) : Prop := (0 < s → g 0 = 0) ∧ ∀ t, 1 ≤ t → t < s → g t = prF ar g n t
theorem pcF_congr {cs f g : Nat → Int32} {n t : Nat} (h9 : n ≤ 9) (ht : t < 512) (h : ∀ u, u < t → f u = g u) : pcF cs f n t = pcF cs g n t := by
  refine zf_congr (fun o x ho => ?_)
  by_cases hb : t.testBit o = true
  · rw [if_pos hb, if_pos hb, h _ (z9_lt t ht o (by omega) hb).1]
  · rw [if_neg hb, if_neg hb]
theorem prF_congr {ar f g : Nat → Int32} {n t : Nat} (h9 : n ≤ 9) (ht : t < 512) (h : ∀ u, u < t → f u = g u) : prF ar f n t = prF ar g n t := by
  refine zf_congr (fun o x ho => ?_)
  by_cases hb : t.testBit o = true
  · rw [h _ (z9_lt t ht o (by omega) hb).1]
  · rw [if_neg (fun q => hb q.1), if_neg (fun q => hb q.1)]
theorem pcR_up {cs f : Nat → Int32} {n s : Nat} (h9 : n ≤ 9) (hs : s < 512) (h0 : 1 ≤ s) (h : pcR cs f n s) : pcR cs (upd f s (pcF cs f n s)) n (s + 1) := by
  refine ⟨by simp only [z_upd]; rw [if_neg (by omega)]; exact h.1, fun t h1 h2 => ?_⟩
  have e : pcF cs (upd f s (pcF cs f n s)) n t = pcF cs f n t := pcF_congr h9 (by omega) (fun u hu => by simp only [z_upd]; rw [if_neg (by omega)])
  rw [e]
  simp only [z_upd]
  by_cases ht : t = s
  · rw [if_pos ht, ht]
  · rw [if_neg ht]; exact h.2 t h1 (by omega)
set_option maxRecDepth 100000 in
set_option maxHeartbeats 4000000 in
theorem c_Pai_leastCost (V A : zV)  (n : Nat) (hn : V 1 4 = nI n) (h1 : 1 ≤ n) (h9 : n ≤ 9) : CQ Y_Pai_leastCost 2 [.ref 26] V A (fun r V' A' => ∃ f, r = f (2 ^ n - 1) ∧ pcR (A 3) f n (2 ^ n) ∧ V' = V ∧ A' = za A 27 f) := by
  have hp2 : 2 ^ n ≤ 512 := by have := Nat.pow_le_pow_right (n := 2) (by omega) h9; simpa using this
  have hp1 : 2 ≤ 2 ^ n := by have := Nat.pow_le_pow_right (n := 2) (by omega) h1; simpa using this
  have hall : (1 : Int32) <<< (nI n &&& 31) - 1 = nI (2 ^ n - 1) := by rw [z_shl n h9, show (1 : Int32) = nI 1 from rfl, pk_sub (by omega)]
  have hS : ∀ s, s ≤ 2 ^ n - 1 → ∀ f, pcR (A 3) f n (s + 1) → X Y_Pai_leastCost (zrm 2) (0, fun _ => 0) (zFq 2 (fun r V' A' => ∃ f, r = f (2 ^ n - 1) ∧ pcR (A 3) f n (2 ^ n) ∧ V' = V ∧ A' = za A 27 f)) 21 [.ref 26, .int (nI (2 ^ n - 1)), .int (nI (s + 1)), zu, zu, zu] [] (cells V (za A 27 f)) 0 0 := by
    refine z_down (fun f hf => ?_) (fun s0 hs0 hs f hf => ?_)
    · refine x_iload_n (pc := 21) d_Pai_leastCost_21 rfl ?_
      refine x_iload_n (pc := 22) d_Pai_leastCost_22 rfl ?_
      refine x_icmp_gt (pc := 23) (tgt := 119) d_Pai_leastCost_23 (by decide) (fun h23 => ?_) (fun h => absurd (nI_lt (by omega) (by omega)) h)
      refine x_aload_n (pc := 119) d_Pai_leastCost_119 rfl ?_
      refine x_get (pc := 120) (j := 1) d_Pai_leastCost_120 f_Pai_9 rfl rfl (Nat.le_of_ble_eq_true rfl) rfl rfl rfl ?_
      refine x_iload_n (pc := 123) d_Pai_leastCost_123 rfl ?_
      refine x_iald (pc := 124) d_Pai_leastCost_124 rfl (vp_in_nI (by omega) (by decide)) ?_
      refine y_iret (pc := 125) d_Pai_leastCost_125 rfl ?_
      exact ⟨f, by rw [nI_clamp (by omega)]; rfl, by rw [show 2 ^ n = 2 ^ n - 1 + 1 by omega]; exact hf, rfl, rfl⟩
    · generalize hss : s0 + 1 = s at hf hs ⊢
      have hpop := z9_pop s (by omega)
      have hfrom : nI (zpc s) - 1 = nI (zpc s - 1) := by rw [show (1 : Int32) = nI 1 from rfl, pk_sub (by omega)]
      have hT : ∀ k, k ≤ n → X Y_Pai_leastCost (zrm 2) (0, fun _ => 0) (zFq 2 (fun r V' A' => ∃ f, r = f (2 ^ n - 1) ∧ pcR (A 3) f n (2 ^ n) ∧ V' = V ∧ A' = za A 27 f)) 40 [.ref 26, .int (nI (2 ^ n - 1)), .int (nI s), .int (nI (zpc s - 1)), .int (zf (fun o a => if s.testBit o = true then zmin a (zsum (f (s &&& (511 ^^^ 2 ^ o))) (A 3 ((zpc s - 1) * 9 + o))) else a) 1000000000 k), .int (nI k)] [] (cells V (za A 27 f)) 0 0 := by
        refine z_down ?_ (fun k hk hs2 => ?_)
        · refine x_iload (pc := 40) d_Pai_leastCost_40 rfl ?_
          refine x_aload_n (pc := 42) d_Pai_leastCost_42 rfl ?_
          refine x_get (pc := 43) (j := 0) d_Pai_leastCost_43 f_Pai_15 rfl rfl (Nat.le_of_ble_eq_true rfl) rfl rfl rfl ?_
          refine x_get (pc := 46) (j := 4) d_Pai_leastCost_46 f_Pai_19 rfl rfl (Nat.le_of_ble_eq_true rfl) rfl rfl rfl ?_
          refine x_icmp_ge (pc := 49) (tgt := 105) d_Pai_leastCost_49 (by decide) (fun h49 => ?_) (fun h => by rw [hn] at h; exact absurd (nI_le (by omega) (by omega)) h)
          refine x_aload_n (pc := 105) d_Pai_leastCost_105 rfl ?_
          refine x_get (pc := 106) (j := 1) d_Pai_leastCost_106 f_Pai_9 rfl rfl (Nat.le_of_ble_eq_true rfl) rfl rfl rfl ?_
          refine x_iload_n (pc := 109) d_Pai_leastCost_109 rfl ?_
          refine x_iload (pc := 110) d_Pai_leastCost_110 rfl ?_
          refine y_iast (pc := 112) d_Pai_leastCost_112 rfl (fun _ => rfl) (vp_in_nI (by omega) (by decide)) ?_
          refine y_inc2 (pc := 113) (v := 1) d_Pai_leastCost_113 (by decide) ?_
          refine x_goto (pc := 116) (tgt := 21) d_Pai_leastCost_116 (by decide) ?_
          (rw [za_za, nI_clamp (by omega), show nI s + 1 = nI (s + 1) from (nI_succ s).symm]; exact y_tail (p := [_, _, _]) (t := [_, _, _]) rfl rfl (by simp [Value.category]) (hs _ (pcR_up h9 (by omega) (by omega) hf)))
        · have hdel := z9_del s (by omega) k (by omega)
          refine x_iload (pc := 40) d_Pai_leastCost_40 rfl ?_
          refine x_aload_n (pc := 42) d_Pai_leastCost_42 rfl ?_
          refine x_get (pc := 43) (j := 0) d_Pai_leastCost_43 f_Pai_15 rfl rfl (Nat.le_of_ble_eq_true rfl) rfl rfl rfl ?_
          refine x_get (pc := 46) (j := 4) d_Pai_leastCost_46 f_Pai_19 rfl rfl (Nat.le_of_ble_eq_true rfl) rfl rfl rfl ?_
          refine x_icmp_ge (pc := 49) (tgt := 105) d_Pai_leastCost_49 (by decide) (fun h => by rw [hn] at h; exact absurd h (nI_ge (by omega) (by omega))) (fun h49 => ?_)
          refine x_iload_n (pc := 52) d_Pai_leastCost_52 rfl ?_
          refine x_iconst (pc := 53) (v := 1) d_Pai_leastCost_53 (by decide) ?_
          refine x_iload (pc := 54) d_Pai_leastCost_54 rfl ?_
          refine x_ishl (pc := 56) d_Pai_leastCost_56 ?_
          refine x_iand (pc := 57) d_Pai_leastCost_57 ?_
          refine x_if_eq (pc := 58) (tgt := 99) d_Pai_leastCost_58 (by decide) (fun h58 => ?_) (fun h58 => ?_)
          · refine y_inc5 (pc := 99) (v := 1) d_Pai_leastCost_99 (by decide) ?_
            refine x_goto (pc := 102) (tgt := 40) d_Pai_leastCost_102 (by decide) ?_
            (rw [zf_s _ _ k, nI_succ k] at hs2; have hba := z9_and s (by omega) k (by omega); first | (rw [if_neg (fun q => by rw [hba.mp h58] at q; cases q)] at hs2; exact hs2) | (rw [if_pos (by cases hq : s.testBit k with | true => rfl | false => exact absurd (hba.mpr hq) h58)] at hs2; rw [hdel.1, nI_clamp (by omega), show nI (zpc s - 1) * 9 + nI k = nI ((zpc s - 1) * 9 + k) by rw [show (9 : Int32) = nI 9 from rfl, pk_mul, nI_add], nI_clamp (by omega)]; exact hs2))
          · refine x_iload (pc := 61) d_Pai_leastCost_61 rfl ?_
            refine x_aload_n (pc := 63) d_Pai_leastCost_63 rfl ?_
            refine x_get (pc := 64) (j := 1) d_Pai_leastCost_64 f_Pai_9 rfl rfl (Nat.le_of_ble_eq_true rfl) rfl rfl rfl ?_
            refine x_iload_n (pc := 67) d_Pai_leastCost_67 rfl ?_
            refine x_iconst (pc := 68) (v := 1) d_Pai_leastCost_68 (by decide) ?_
            refine x_iload (pc := 69) d_Pai_leastCost_69 rfl ?_
            refine x_ishl (pc := 71) d_Pai_leastCost_71 ?_
            refine x_iconst (pc := 72) (v := (-1)) d_Pai_leastCost_72 (by decide) ?_
            refine x_ixor (pc := 73) d_Pai_leastCost_73 ?_
            refine x_iand (pc := 74) d_Pai_leastCost_74 ?_
            refine x_iald (pc := 75) d_Pai_leastCost_75 rfl (by rw [hdel.1]; exact vp_in_nI (by omega) (by decide)) ?_
            refine x_aload_n (pc := 76) d_Pai_leastCost_76 rfl ?_
            refine x_get (pc := 77) (j := 0) d_Pai_leastCost_77 f_Pai_15 rfl rfl (Nat.le_of_ble_eq_true rfl) rfl rfl rfl ?_
            refine x_get (pc := 80) (j := 1) d_Pai_leastCost_80 f_Pai_32 rfl rfl (Nat.le_of_ble_eq_true rfl) rfl rfl rfl ?_
            refine x_iload_n (pc := 83) d_Pai_leastCost_83 rfl ?_
            refine x_bipush (pc := 84) (v := 9) d_Pai_leastCost_84 (by decide) ?_
            refine x_imul (pc := 86) d_Pai_leastCost_86 ?_
            refine x_iload (pc := 87) d_Pai_leastCost_87 rfl ?_
            refine x_iadd (pc := 89) d_Pai_leastCost_89 ?_
            refine x_iald (pc := 90) d_Pai_leastCost_90 rfl (by rw [show (9 : Int32) = nI 9 from rfl, pk_mul, nI_add]; exact vp_in_nI (by omega) (by decide)) ?_
            refine y_fN (pc := 91) (c_CW_sum _ _ _ _) k_CW_sum d_Pai_leastCost_91 n_Pai_35 (by decide) rfl p_CW_sum (K := ?_)
            refine y_min (pc := 94) d_Pai_leastCost_94 m_Pai_39 (by decide) (K := ?_)
            refine y_ist4 (pc := 97) d_Pai_leastCost_97 ?_
            refine y_inc5 (pc := 99) (v := 1) d_Pai_leastCost_99 (by decide) ?_
            refine x_goto (pc := 102) (tgt := 40) d_Pai_leastCost_102 (by decide) ?_
            (rw [zf_s _ _ k, nI_succ k] at hs2; have hba := z9_and s (by omega) k (by omega); first | (rw [if_neg (fun q => by rw [hba.mp h58] at q; cases q)] at hs2; exact hs2) | (rw [if_pos (by cases hq : s.testBit k with | true => rfl | false => exact absurd (hba.mpr hq) h58)] at hs2; rw [hdel.1, nI_clamp (by omega), show nI (zpc s - 1) * 9 + nI k = nI ((zpc s - 1) * 9 + k) by rw [show (9 : Int32) = nI 9 from rfl, pk_mul, nI_add], nI_clamp (by omega)]; exact hs2))
      refine x_iload_n (pc := 21) d_Pai_leastCost_21 rfl ?_
      refine x_iload_n (pc := 22) d_Pai_leastCost_22 rfl ?_
      refine x_icmp_gt (pc := 23) (tgt := 119) d_Pai_leastCost_23 (by decide) (fun h => absurd h (nI_nlt (by omega) (by omega))) (fun h23 => ?_)
      refine x_iload_n (pc := 26) d_Pai_leastCost_26 rfl ?_
      refine y_fS (pc := 27) (c_JI_bitCount _ _ _) k_JI_bitCount d_Pai_leastCost_27 m_Pai_25 (by decide) rfl p_JI_bitCount (K := ?_)
      refine x_iconst (pc := 30) (v := 1) d_Pai_leastCost_30 (by decide) ?_
      refine x_isub (pc := 31) d_Pai_leastCost_31 ?_
      refine y_ist3 (pc := 32) d_Pai_leastCost_32 ?_
      refine x_ldc (pc := 33) (v := 1000000000) d_Pai_leastCost_33 i_Pai_31 ?_
      refine y_ist4 (pc := 35) d_Pai_leastCost_35 ?_
      refine x_iconst (pc := 37) (v := 0) d_Pai_leastCost_37 (by decide) ?_
      refine y_ist5 (pc := 38) d_Pai_leastCost_38 ?_
      (rw [hpop.1, hfrom]; exact hT 0 (Nat.zero_le _))
  refine CQ.of (lv := [.ref 26, zu, zu, zu, zu, zu]) k_Pai_leastCost.1 rfl (by decide) rfl rfl (Nat.le_of_ble_eq_true rfl) ?_
  refine x_iconst (pc := 0) (v := 1) d_Pai_leastCost_0 (by decide) ?_
  refine x_aload_n (pc := 1) d_Pai_leastCost_1 rfl ?_
  refine x_get (pc := 2) (j := 0) d_Pai_leastCost_2 f_Pai_15 rfl rfl (Nat.le_of_ble_eq_true rfl) rfl rfl rfl ?_
  refine x_get (pc := 5) (j := 4) d_Pai_leastCost_5 f_Pai_19 rfl rfl (Nat.le_of_ble_eq_true rfl) rfl rfl rfl ?_
  refine x_ishl (pc := 8) d_Pai_leastCost_8 ?_
  refine x_iconst (pc := 9) (v := 1) d_Pai_leastCost_9 (by decide) ?_
  refine x_isub (pc := 10) d_Pai_leastCost_10 ?_
  refine y_ist1 (pc := 11) d_Pai_leastCost_11 ?_
  refine x_aload_n (pc := 12) d_Pai_leastCost_12 rfl ?_
  refine x_get (pc := 13) (j := 1) d_Pai_leastCost_13 f_Pai_9 rfl rfl (Nat.le_of_ble_eq_true rfl) rfl rfl rfl ?_
  refine x_iconst (pc := 16) (v := 0) d_Pai_leastCost_16 (by decide) ?_
  refine x_iconst (pc := 17) (v := 0) d_Pai_leastCost_17 (by decide) ?_
  refine y_iast (pc := 18) d_Pai_leastCost_18 rfl (fun _ => rfl) (show vp_in (nI 0) 512 from vp_in_nI (by omega) (by decide)) ?_
  refine x_iconst (pc := 19) (v := 1) d_Pai_leastCost_19 (by decide) ?_
  refine y_ist2 (pc := 20) d_Pai_leastCost_20 ?_
  (rw [hn, hall]; exact hS 0 (by omega) _ ⟨by simp [z_upd], fun t q1 q2 => by omega⟩)
