theorem s_in : ∀ U, U < 256 → ∀ n, n < 8 → ((nI (2 * U) >>> (nI (n + 1) &&& 31)) &&& 1 = 0 ↔ U.testBit n = false) := by decide +kernel
theorem s_in1 : ∀ U, U < 256 → ∀ n, n < 8 → ((nI (2 * U) >>> (nI (n + 1) &&& 31)) &&& 1 = 1 ↔ U.testBit n = true) := by decide +kernel
theorem s_or : ∀ U, U < 256 → ∀ n, n < 8 → nI (2 * U) ||| ((1 : Int32) <<< (nI (n + 1) &&& 31)) = nI (2 * (U ||| 2 ^ n)) := by decide +kernel
theorem s_no : ∀ U, U < 256 → ∀ n, n < 8 → U.testBit n = false → nI (2 * (U ||| 2 ^ n)) &&& (((1 : Int32) <<< (nI (n + 1) &&& 31)) ^^^ (-1)) = nI (2 * U) := by decide +kernel
def zmay (W : zW) (U H l a v : Nat) : Prop := ¬ W.ar a v = none ∧ U.testBit (v - 1) = false ∧ l + W.lo v ≤ W.rm ∧ W.ea v &&& (255 ^^^ H) = 0
theorem ea_sub {W : zW} (hW : zWok W) {v H : Nat} (hv : v < 9) (hH : H < 256) : W.ea v &&& (255 ^^^ H) = 0 ↔ ∀ j, j < W.n - 1 → (W.ea v).testBit j = true → H.testBit j = true := by
  have hb := hW.ea v hv
  constructor
  · intro h j hj ht
    have := congrArg (fun z => z.testBit j) h
    simp only [Nat.testBit_and, Nat.testBit_xor, tb_255, Nat.zero_testBit, ht, Bool.true_and] at this
    have h9 := hW.h9
    rw [decide_eq_true (show j < 8 by omega)] at this
    cases hq : H.testBit j with
    | true => rfl
    | false => rw [hq] at this; exact absurd this (by simp)
  · intro h
    apply Nat.eq_of_testBit_eq
    intro j
    rw [Nat.testBit_and, Nat.testBit_xor, tb_255, Nat.zero_testBit]
    cases ht : (W.ea v).testBit j with
    | false => rfl
    | true =>
      by_cases h8 : j < 8
      · have := hW.eb v hv j h8 ht
        rw [h j (by omega) ht, decide_eq_true h8]; rfl
      · rw [tb_hi hb (by omega)] at ht; exact absurd ht (by simp)
set_option maxRecDepth 100000 in
set_option maxHeartbeats 4000000 in
theorem c_Mo_mayCome {W : zW} (V A : zV) (hW : zWok W) (hR : WR W V A) (a v U H l : Nat) (ha : a < W.n) (hv1 : 1 ≤ v) (hv : v < W.n) (hU : U < 256) (hH : H < 256) (hl : l ≤ 1000) (m22 : V 36 22 = nI (2 * U)) (m23 : V 36 23 = nI (2 * H)) (m24 : V 36 24 = nI l) : CQ Y_Mo_mayCome 0 [.ref 36, .int (nI a), .int (nI v)] V A (fun r V' A' => ((r = 1 ∧ zmay W U H l a v) ∨ (r = 0 ∧ ¬ zmay W U H l a v)) ∧ V' = V ∧ A' = A) := by
  have h9 := hW.h9
  have cv : (nI v).toNatClampNeg = v := nI_clamp (by omega)
  have hlo := hR.lo v (by omega)
  have hlo1 := hW.lo v (by omega)
  have hrm := hW.rm
  have ix1 : 9 * nI a + nI v = nI (9 * a + v) := by rw [show (9 : Int32) = nI 9 from rfl, pk_mul, nI_add]
  have c1 : (nI (9 * a + v)).toNatClampNeg = 9 * a + v := nI_clamp (by omega)
  have har := hR.ar a v (by omega) (by omega)
  have hF : ¬ zmay W U H l a v → ∀ k, X Y_Mo_mayCome (zrm 0) (0, fun _ => 0) (zFq 0 (fun r V' A' => ((r = 1 ∧ zmay W U H l a v) ∨ (r = 0 ∧ ¬ zmay W U H l a v)) ∧ V' = V ∧ A' = A)) 54 [.ref 36, .int (nI a), .int (nI v), .int 0, .int (nI k)] [] (cells V A) 0 0 := by
    intro hno k
    refine x_iload (pc := 54) d_Mo_mayCome_54 rfl ?_
    refine x_aload_n (pc := 56) d_Mo_mayCome_56 rfl ?_
    refine x_get (pc := 57) (j := 1) d_Mo_mayCome_57 f_Mo_13 rfl rfl (Nat.le_of_ble_eq_true rfl) rfl rfl rfl ?_
    refine x_icmp_ge (pc := 60) (tgt := 107) d_Mo_mayCome_60 (by decide) (fun h60 => ?_) (fun h60 => ?_)
    · refine x_iload_n (pc := 107) d_Mo_mayCome_107 rfl ?_
      refine y_zret (pc := 108) d_Mo_mayCome_108 rfl rfl ?_
      exact ⟨Or.inr ⟨rfl, hno⟩, rfl, rfl⟩
    · refine x_iload_n (pc := 63) d_Mo_mayCome_63 rfl ?_
      refine x_if_eq (pc := 64) (tgt := 107) d_Mo_mayCome_64 (by decide) (fun _ => ?_) (fun h => absurd h (by decide))
      refine x_iload_n (pc := 107) d_Mo_mayCome_107 rfl ?_
      refine y_zret (pc := 108) d_Mo_mayCome_108 rfl rfl ?_
      exact ⟨Or.inr ⟨rfl, hno⟩, rfl, rfl⟩
  have hT : ¬ W.ar a v = none ∧ U.testBit (v - 1) = false ∧ l + W.lo v ≤ W.rm → ∀ k, k ≤ W.n - 1 → (∀ j, j < k → (W.ea v).testBit j = true → H.testBit j = true) → X Y_Mo_mayCome (zrm 0) (0, fun _ => 0) (zFq 0 (fun r V' A' => ((r = 1 ∧ zmay W U H l a v) ∨ (r = 0 ∧ ¬ zmay W U H l a v)) ∧ V' = V ∧ A' = A)) 54 [.ref 36, .int (nI a), .int (nI v), .int 1, .int (nI (k + 1))] [] (cells V A) 0 0 := by
    intro h0
    refine z_down (fun hb => ?_) (fun k hk ih hb => ?_)
    · refine x_iload (pc := 54) d_Mo_mayCome_54 rfl ?_
      refine x_aload_n (pc := 56) d_Mo_mayCome_56 rfl ?_
      refine x_get (pc := 57) (j := 1) d_Mo_mayCome_57 f_Mo_13 rfl rfl (Nat.le_of_ble_eq_true rfl) rfl rfl rfl ?_
      rw [hR.n]
      refine x_icmp_ge (pc := 60) (tgt := 107) d_Mo_mayCome_60 (by decide) (fun h60 => ?_) (fun h => absurd (nI_le (by omega) (by omega)) h)
      refine x_iload_n (pc := 107) d_Mo_mayCome_107 rfl ?_
      refine y_zret (pc := 108) d_Mo_mayCome_108 rfl rfl ?_
      exact ⟨Or.inl ⟨rfl, h0.1, h0.2.1, h0.2.2, (ea_sub hW (by omega) hH).mpr hb⟩, rfl, rfl⟩
    · have ix2 : 9 * nI (k + 1) + nI v = nI (9 * (k + 1) + v) := by rw [show (9 : Int32) = nI 9 from rfl, pk_mul, nI_add]
      have c2 : (nI (9 * (k + 1) + v)).toNatClampNeg = 9 * (k + 1) + v := nI_clamp (by omega)
      have hea := hR.ea v (by omega) k (by omega)
      refine x_iload (pc := 54) d_Mo_mayCome_54 rfl ?_
      refine x_aload_n (pc := 56) d_Mo_mayCome_56 rfl ?_
      refine x_get (pc := 57) (j := 1) d_Mo_mayCome_57 f_Mo_13 rfl rfl (Nat.le_of_ble_eq_true rfl) rfl rfl rfl ?_
      rw [hR.n]
      refine x_icmp_ge (pc := 60) (tgt := 107) d_Mo_mayCome_60 (by decide) (fun h => absurd h (nI_ge (by omega) (by omega))) (fun h60 => ?_)
      refine x_iload_n (pc := 63) d_Mo_mayCome_63 rfl ?_
      refine x_if_eq (pc := 64) (tgt := 107) d_Mo_mayCome_64 (by decide) (fun h => absurd h (by decide)) (fun _ => ?_)
      refine x_aload_n (pc := 67) d_Mo_mayCome_67 rfl ?_
      refine x_get (pc := 68) (j := 5) d_Mo_mayCome_68 f_Mo_26 rfl rfl (Nat.le_of_ble_eq_true rfl) rfl rfl rfl ?_
      refine x_bipush (pc := 71) (v := 9) d_Mo_mayCome_71 (by decide) ?_
      refine x_iload (pc := 73) d_Mo_mayCome_73 rfl ?_
      refine x_imul (pc := 75) d_Mo_mayCome_75 ?_
      refine x_iload_n (pc := 76) d_Mo_mayCome_76 rfl ?_
      refine x_iadd (pc := 77) d_Mo_mayCome_77 ?_
      refine x_zald (pc := 78) d_Mo_mayCome_78 rfl (by rw [ix2]; exact vp_in_nI (by omega) (by decide)) ?_
      rw [ix2, c2, hea]
      refine x_if_eq (pc := 79) (tgt := 95) d_Mo_mayCome_79 (by decide) (fun h79 => ?_) (fun h79 => ?_)
      · refine x_iconst (pc := 95) (v := 1) d_Mo_mayCome_95 (by decide) ?_
        refine x_goto (pc := 96) (tgt := 100) d_Mo_mayCome_96 (by decide) ?_
        refine y_ist3 (pc := 100) d_Mo_mayCome_100 ?_
        refine y_inc4 (pc := 101) (v := 1) d_Mo_mayCome_101 (by decide) ?_
        refine x_goto (pc := 104) (tgt := 54) d_Mo_mayCome_104 (by decide) ?_
        rw [show nI (k + 1) + 1 = nI (k + 1 + 1) from (nI_succ (k + 1)).symm]
        refine ih (fun j hj ht => ?_)
        by_cases hjk : j = k
        · subst hjk; rw [if_pos ht] at h79; exact absurd h79 (by decide)
        · exact hb j (by omega) ht
      · refine x_aload_n (pc := 82) d_Mo_mayCome_82 rfl ?_
        refine x_get (pc := 83) (j := 23) d_Mo_mayCome_83 f_Mo_98 rfl rfl (Nat.le_of_ble_eq_true rfl) rfl rfl rfl ?_
        refine x_iload (pc := 86) d_Mo_mayCome_86 rfl ?_
        refine x_ishr (pc := 88) d_Mo_mayCome_88 ?_
        refine x_iconst (pc := 89) (v := 1) d_Mo_mayCome_89 (by decide) ?_
        refine x_iand (pc := 90) d_Mo_mayCome_90 ?_
        refine x_iconst (pc := 91) (v := 1) d_Mo_mayCome_91 (by decide) ?_
        refine x_icmp_ne (pc := 92) (tgt := 99) d_Mo_mayCome_92 (by decide) (fun h92 => ?_) (fun h92 => ?_)
        · refine x_iconst (pc := 99) (v := 0) d_Mo_mayCome_99 (by decide) ?_
          refine y_ist3 (pc := 100) d_Mo_mayCome_100 ?_
          refine y_inc4 (pc := 101) (v := 1) d_Mo_mayCome_101 (by decide) ?_
          refine x_goto (pc := 104) (tgt := 54) d_Mo_mayCome_104 (by decide) ?_
          rw [show nI (k + 1) + 1 = nI (k + 1 + 1) from (nI_succ (k + 1)).symm]
          refine hF (fun z => ?_) _
          have hea1 : (W.ea v).testBit k = true := by
            cases hq : (W.ea v).testBit k with
            | true => rfl
            | false => rw [hq] at h79; exact absurd rfl h79
          have := (ea_sub hW (by omega) hH).mp z.2.2.2 k (by omega) hea1
          rw [m23] at h92
          exact h92 ((s_in1 H hH k (by omega)).mpr this)
        · refine x_iconst (pc := 95) (v := 1) d_Mo_mayCome_95 (by decide) ?_
          refine x_goto (pc := 96) (tgt := 100) d_Mo_mayCome_96 (by decide) ?_
          refine y_ist3 (pc := 100) d_Mo_mayCome_100 ?_
          refine y_inc4 (pc := 101) (v := 1) d_Mo_mayCome_101 (by decide) ?_
          refine x_goto (pc := 104) (tgt := 54) d_Mo_mayCome_104 (by decide) ?_
          rw [show nI (k + 1) + 1 = nI (k + 1 + 1) from (nI_succ (k + 1)).symm]
          refine ih (fun j hj ht => ?_)
          by_cases hjk : j = k
          · subst hjk; rw [m23] at h92; exact (s_in1 H hH j (by omega)).mp h92
          · exact hb j (by omega) ht
  refine CQ.of (lv := [.ref 36, .int (nI a), .int (nI v), zu, zu]) k_Mo_mayCome.1 rfl (by decide) rfl rfl (Nat.le_of_ble_eq_true rfl) ?_
  refine x_aload_n (pc := 0) d_Mo_mayCome_0 rfl ?_
  refine x_get (pc := 1) (j := 3) d_Mo_mayCome_1 f_Mo_20 rfl rfl (Nat.le_of_ble_eq_true rfl) rfl rfl rfl ?_
  refine x_bipush (pc := 4) (v := 9) d_Mo_mayCome_4 (by decide) ?_
  refine x_iload_n (pc := 6) d_Mo_mayCome_6 rfl ?_
  refine x_imul (pc := 7) d_Mo_mayCome_7 ?_
  refine x_iload_n (pc := 8) d_Mo_mayCome_8 rfl ?_
  refine x_iadd (pc := 9) d_Mo_mayCome_9 ?_
  refine x_iald (pc := 10) d_Mo_mayCome_10 rfl (by rw [ix1]; exact vp_in_nI (by omega) (by decide)) ?_
  rw [ix1, c1, har]
  refine x_ldc (pc := 11) (v := 1000000) d_Mo_mayCome_11 i_Mo_69 ?_
  refine x_icmp_eq (pc := 13) (tgt := 49) d_Mo_mayCome_13 (by decide) (fun h13 => ?_) (fun h13 => ?_)
  · refine x_iconst (pc := 49) (v := 0) d_Mo_mayCome_49 (by decide) ?_
    refine y_ist3 (pc := 50) d_Mo_mayCome_50 ?_
    refine x_iconst (pc := 51) (v := 1) d_Mo_mayCome_51 (by decide) ?_
    refine y_ist4 (pc := 52) d_Mo_mayCome_52 ?_
    exact hF (fun z => z.1 ((zEa_no (b := 1000) (by omega) (hW.arB a v)).mp h13)) 1
  · refine x_aload_n (pc := 16) d_Mo_mayCome_16 rfl ?_
    refine x_get (pc := 17) (j := 22) d_Mo_mayCome_17 f_Mo_92 rfl rfl (Nat.le_of_ble_eq_true rfl) rfl rfl rfl ?_
    refine x_iload_n (pc := 20) d_Mo_mayCome_20 rfl ?_
    refine x_ishr (pc := 21) d_Mo_mayCome_21 ?_
    refine x_iconst (pc := 22) (v := 1) d_Mo_mayCome_22 (by decide) ?_
    refine x_iand (pc := 23) d_Mo_mayCome_23 ?_
    refine x_if_ne (pc := 24) (tgt := 49) d_Mo_mayCome_24 (by decide) (fun h24 => ?_) (fun h24 => ?_)
    · refine x_iconst (pc := 49) (v := 0) d_Mo_mayCome_49 (by decide) ?_
      refine y_ist3 (pc := 50) d_Mo_mayCome_50 ?_
      refine x_iconst (pc := 51) (v := 1) d_Mo_mayCome_51 (by decide) ?_
      refine y_ist4 (pc := 52) d_Mo_mayCome_52 ?_
      refine hF (fun z => h24 ?_) 1
      rw [m22, show v = v - 1 + 1 by omega]
      exact (s_in U hU (v - 1) (by omega)).mpr z.2.1
    · refine x_aload_n (pc := 27) d_Mo_mayCome_27 rfl ?_
      refine x_get (pc := 28) (j := 24) d_Mo_mayCome_28 f_Mo_95 rfl rfl (Nat.le_of_ble_eq_true rfl) rfl rfl rfl ?_
      refine x_aload_n (pc := 31) d_Mo_mayCome_31 rfl ?_
      refine x_get (pc := 32) (j := 2) d_Mo_mayCome_32 f_Mo_16 rfl rfl (Nat.le_of_ble_eq_true rfl) rfl rfl rfl ?_
      refine x_iload_n (pc := 35) d_Mo_mayCome_35 rfl ?_
      refine x_iald (pc := 36) d_Mo_mayCome_36 rfl (vp_in_nI (by omega) (by decide)) ?_
      refine x_iadd (pc := 37) d_Mo_mayCome_37 ?_
      refine x_aload_n (pc := 38) d_Mo_mayCome_38 rfl ?_
      refine x_get (pc := 39) (j := 7) d_Mo_mayCome_39 f_Mo_33 rfl rfl (Nat.le_of_ble_eq_true rfl) rfl rfl rfl ?_
      refine x_icmp_gt (pc := 42) (tgt := 49) d_Mo_mayCome_42 (by decide) (fun h42 => ?_) (fun h42 => ?_)
      · refine x_iconst (pc := 49) (v := 0) d_Mo_mayCome_49 (by decide) ?_
        refine y_ist3 (pc := 50) d_Mo_mayCome_50 ?_
        refine x_iconst (pc := 51) (v := 1) d_Mo_mayCome_51 (by decide) ?_
        refine y_ist4 (pc := 52) d_Mo_mayCome_52 ?_
        refine hF (fun z => ?_) 1
        rw [hR.rm, m24, cv, hlo, nI_add] at h42
        exact absurd h42 (nI_nlt z.2.2.1 (by omega))
      · refine x_iconst (pc := 45) (v := 1) d_Mo_mayCome_45 (by decide) ?_
        refine x_goto (pc := 46) (tgt := 50) d_Mo_mayCome_46 (by decide) ?_
        refine y_ist3 (pc := 50) d_Mo_mayCome_50 ?_
        refine x_iconst (pc := 51) (v := 1) d_Mo_mayCome_51 (by decide) ?_
        refine y_ist4 (pc := 52) d_Mo_mayCome_52 ?_
        refine hT ⟨fun z => h13 ((zEa_no (b := 1000) (by omega) (hW.arB a v)).mpr z), ?_, ?_⟩ 0 (Nat.zero_le _) (fun j hj => absurd hj (Nat.not_lt_zero j))
        · rw [m22, show v = v - 1 + 1 by omega] at h24
          exact (s_in U hU (v - 1) (by omega)).mp h24
        · rw [hR.rm, m24, cv, hlo, nI_add] at h42
          rcases Nat.lt_or_ge W.rm (l + W.lo v) with z | z
          · exact absurd (nI_lt z (by omega)) h42
          · exact z
/-- the search's own numbers may change -/
def zFs (V V' : zV) : Prop := ∀ k j, ¬ (k = 36 ∧ (j = 22 ∨ j = 23 ∨ j = 24)) → V' k j = V k j
theorem zFs.R {W : zW} {V V' A : zV} (h : zFs V V') (hR : WR W V A) : WR W V' A := hR.same (fun j h1 h2 => h 36 j (by omega)) (fun _ _ _ => rfl)
theorem zFs.up {V V' : zV} (h : zFs V V') {j : Nat} (hj : j = 22 ∨ j = 23 ∨ j = 24) (x : Int32) : zFs V (zv V' 36 j x) := fun k i q => by
  rw [zv_eq, if_neg (fun z => q ⟨z.1, by rw [z.2]; exact hj⟩), h k i q]
theorem zRst_tb {W : zW} (hW : zWok W) {U i : Nat} (hi : i < W.n - 1) : (zRst W U).testBit i = !U.testBit i := by
  have h9 := hW.h9
  unfold zRst
  rw [Nat.testBit_and, Nat.testBit_xor, tb_255, Nat.testBit_two_pow_sub_one, decide_eq_true hi, decide_eq_true (show i < 8 by omega), Bool.true_and, Bool.true_xor]
theorem zf_none {W : zW} {e : Nat} {k : Nat} (h : zf (fun i a => if e.testBit i = true then oad a (W.pr (i + 1)) else a) (some 0) k = none) : ∀ d, zf (fun i a => if e.testBit i = true then oad a (W.pr (i + 1)) else a) (some 0) (k + d) = none
  | 0 => h
  | d + 1 => by
    rw [← Nat.add_assoc, zf_s _ _ (k + d), zf_none h d]
    split
    · exact oad_nl _
    · rfl
theorem zEp_neg {o : Option Int} (h : ∀ x, o = some x → 0 ≤ x ∧ x ≤ 2000) : zEp o < 0 ↔ o = none := by
  cases o with
  | none => exact ⟨fun _ => rfl, fun _ => by decide⟩
  | some x =>
    have := h x rfl
    refine ⟨fun q => ?_, fun q => absurd q (by simp)⟩
    rw [z_lt, z_t0, show zEp (some x) = Int32.ofInt x from rfl, zi_toInt (by omega) (by omega)] at q
    omega
set_option maxRecDepth 100000 in
set_option maxHeartbeats 4000000 in
theorem l_Mo_costOf {W : zW} (V A : zV) (hW : zWok W) (hR : WR W V A) (x : Nat → Nat) (L : Nat) (hL : L ≤ 21) (hx : ∀ i, i < L → x i < W.n) (vv pl : Int32) (hRd : ∀ k, k < L → ∀ (V1 : zV), zFs V V1 → ∀ c a m q, X Y_Mo_costOf (zrm 1) (0, fun _ => 0) (zFq 1 (fun r V' A' => r = zEf (zPC W x L) ∧ zFs V V' ∧ A' = A)) 90 [.ref 36, .int vv, .int pl, .int (nI L), .int c, .int a, .int m, .int (nI k), q] [.int (nI (x k))] (cells V1 A) 0 0 → X Y_Mo_costOf (zrm 1) (0, fun _ => 0) (zFq 1 (fun r V' A' => r = zEf (zPC W x L) ∧ zFs V V' ∧ A' = A)) 51 [.ref 36, .int vv, .int pl, .int (nI L), .int c, .int a, .int m, .int (nI k), q] [] (cells V1 A) 0 0) : ∀ k, k ≤ L → ∀ (c : Int) (a m U H l : Nat) (V1 : zV) (q : Value), q.category = 1 → zQ W x k = some (c, a, m, U, H, l) → zFs V V1 → V1 36 22 = nI (2 * U) → V1 36 23 = nI (2 * H) → V1 36 24 = nI l → U < 256 → H < 256 → l ≤ 1000 → a < W.n → m ≤ k → (k = L → a = 0 → L = 0) → X Y_Mo_costOf (zrm 1) (0, fun _ => 0) (zFq 1 (fun r V' A' => r = zEf (zPC W x L) ∧ zFs V V' ∧ A' = A)) 45 [.ref 36, .int vv, .int pl, .int (nI L), .int (Int32.ofInt c), .int (nI a), .int (nI m), .int (nI k), q] [] (cells V1 A) 0 0 := by
  have h9 := hW.h9
  have h8 := hW.m8
  have hP : ∀ (U : Nat) (V1 : zV) (c1 : Int), U < 256 → zFs V V1 → V1 36 22 = nI (2 * U) → zPC W x L = oad (some c1) (zOt W (zRst W U)) → ∀ i, i ≤ W.n - 1 → ∀ (s : Int) (a m q : Value), a.category = 1 → m.category = 1 → q.category = 1 → zf (fun i a => if (zRst W U).testBit i = true then oad a (W.pr (i + 1)) else a) (some 0) i = some s → X Y_Mo_costOf (zrm 1) (0, fun _ => 0) (zFq 1 (fun r V' A' => r = zEf (zPC W x L) ∧ zFs V V' ∧ A' = A)) 352 [.ref 36, .int vv, .int pl, .int (nI L), .int (Int32.ofInt (c1 + s)), a, m, .int (nI (i + 1)), q] [] (cells V1 A) 0 0 := by
    intro U V1 c1 hU hFr m22 hPC
    have hR1 := hFr.R hR
    refine z_down (fun s a m q ha hm hq hz => ?_) (fun i hi ih s a m q ha hm hq hz => ?_)
    · refine x_iload (pc := 352) d_Mo_costOf_352 rfl ?_
      refine x_aload_n (pc := 354) d_Mo_costOf_354 rfl ?_
      refine x_get (pc := 355) (j := 1) d_Mo_costOf_355 f_Mo_13 rfl rfl (Nat.le_of_ble_eq_true rfl) rfl rfl rfl ?_
      rw [hR1.n]
      refine x_icmp_ge (pc := 358) (tgt := 404) d_Mo_costOf_358 (by decide) (fun h358 => ?_) (fun h => absurd (nI_le (by omega) (by omega)) h)
      refine x_iload (pc := 404) d_Mo_costOf_404 rfl ?_
      refine y_iret (pc := 406) d_Mo_costOf_406 rfl ?_
      exact ⟨by rw [hPC, show zOt W (zRst W U) = some s from hz]; rfl, hFr, rfl⟩
    · have ht := zRst_tb hW (U := U) hi
      have hpr := hR1.pr (i + 1) (by omega)
      have ci : (nI (i + 1)).toNatClampNeg = i + 1 := nI_clamp (by omega)
      have hzs : zf (fun i a => if (zRst W U).testBit i = true then oad a (W.pr (i + 1)) else a) (some 0) (i + 1) = if (zRst W U).testBit i = true then oad (some s) (W.pr (i + 1)) else some s := by rw [zf_s _ _ i, hz]
      refine x_iload (pc := 352) d_Mo_costOf_352 rfl ?_
      refine x_aload_n (pc := 354) d_Mo_costOf_354 rfl ?_
      refine x_get (pc := 355) (j := 1) d_Mo_costOf_355 f_Mo_13 rfl rfl (Nat.le_of_ble_eq_true rfl) rfl rfl rfl ?_
      rw [hR1.n]
      refine x_icmp_ge (pc := 358) (tgt := 404) d_Mo_costOf_358 (by decide) (fun h => absurd h (nI_ge (by omega) (by omega))) (fun h358 => ?_)
      refine x_aload_n (pc := 361) d_Mo_costOf_361 rfl ?_
      refine x_get (pc := 362) (j := 22) d_Mo_costOf_362 f_Mo_92 rfl rfl (Nat.le_of_ble_eq_true rfl) rfl rfl rfl ?_
      refine x_iload (pc := 365) d_Mo_costOf_365 rfl ?_
      refine x_ishr (pc := 367) d_Mo_costOf_367 ?_
      refine x_iconst (pc := 368) (v := 1) d_Mo_costOf_368 (by decide) ?_
      refine x_iand (pc := 369) d_Mo_costOf_369 ?_
      rw [m22]
      refine x_if_ne (pc := 370) (tgt := 398) d_Mo_costOf_370 (by decide) (fun h370 => ?_) (fun h370 => ?_)
      · refine y_inc7 (pc := 398) (v := 1) d_Mo_costOf_398 (by decide) ?_
        refine x_goto (pc := 401) (tgt := 352) d_Mo_costOf_401 (by decide) ?_
        rw [show nI (i + 1) + 1 = nI (i + 1 + 1) from (nI_succ (i + 1)).symm]
        have hUi : U.testBit i = true := by
          cases hq2 : U.testBit i with
          | true => rfl
          | false => exact absurd ((s_in U hU i (by omega)).mpr hq2) h370
        rw [ht, hUi, if_neg (by simp)] at hzs
        exact ih s a m q ha hm hq hzs
      · refine x_aload_n (pc := 373) d_Mo_costOf_373 rfl ?_
        refine x_get (pc := 374) (j := 4) d_Mo_costOf_374 f_Mo_23 rfl rfl (Nat.le_of_ble_eq_true rfl) rfl rfl rfl ?_
        refine x_iload (pc := 377) d_Mo_costOf_377 rfl ?_
        refine x_iald (pc := 379) d_Mo_costOf_379 rfl (vp_in_nI (by omega) (by decide)) ?_
        have hUi : U.testBit i = false := (s_in U hU i (by omega)).mp h370
        rw [ht, hUi, Bool.not_false, if_pos rfl] at hzs
        rw [ci, hpr]
        refine x_if_ge (pc := 380) (tgt := 386) d_Mo_costOf_380 (by decide) (fun h380 => ?_) (fun h380 => ?_)
        · refine x_iload (pc := 386) d_Mo_costOf_386 rfl ?_
          refine x_aload_n (pc := 388) d_Mo_costOf_388 rfl ?_
          refine x_get (pc := 389) (j := 4) d_Mo_costOf_389 f_Mo_23 rfl rfl (Nat.le_of_ble_eq_true rfl) rfl rfl rfl ?_
          refine x_iload (pc := 392) d_Mo_costOf_392 rfl ?_
          refine x_iald (pc := 394) d_Mo_costOf_394 rfl (vp_in_nI (by omega) (by decide)) ?_
          rw [ci, hpr]
          cases hpi : W.pr (i + 1) with
          | none => rw [hpi] at h380; exact absurd h380 (by decide)
          | some p =>
            rw [show zEp (some p) = Int32.ofInt p from rfl]
            refine x_iadd (pc := 395) d_Mo_costOf_395 ?_
            refine y_ist4 (pc := 396) d_Mo_costOf_396 ?_
            refine y_inc7 (pc := 398) (v := 1) d_Mo_costOf_398 (by decide) ?_
            refine x_goto (pc := 401) (tgt := 352) d_Mo_costOf_401 (by decide) ?_
            rw [show nI (i + 1) + 1 = nI (i + 1 + 1) from (nI_succ (i + 1)).symm]
            rw [← Int32.ofInt_add, show c1 + s + p = c1 + (s + p) by omega]
            rw [hpi] at hzs
            exact ih (s + p) a m q ha hm hq hzs
        · refine x_ldc (pc := 383) (v := 900000) d_Mo_costOf_383 i_Mo_101 ?_
          refine y_iret (pc := 385) d_Mo_costOf_385 rfl ?_
          exact ⟨by rw [hPC, show zOt W (zRst W U) = none from (by have z := zf_none (W := W) (e := zRst W U) (k := i + 1) (by rw [hzs, (zEp_neg (hW.pr (i + 1))).mp (Int32.not_le.mp h380), oad_nr]) (W.n - 1 - (i + 1)); rw [show i + 1 + (W.n - 1 - (i + 1)) = W.n - 1 by omega] at z; exact z), oad_nr]; rfl, hFr, rfl⟩
  refine z_down (fun c a m U H l V1 q hq hQ hFr m22 m23 m24 hU hH hl ha hm hend => ?_) (fun k hk ih c a m U H l V1 q hq hQ hFr m22 m23 m24 hU hH hl ha hm hend => ?_)
  · have hR1 := hFr.R hR
    have hPC : zPC W x L = if (¬ L = 0 ∧ a = 0) ∨ W.mo < m then none else oad (oad (some c) (if a = 0 then some 0 else zbk W a)) (zOt W (zRst W U)) := by unfold zPC; rw [hQ]
    refine x_iload (pc := 45) d_Mo_costOf_45 rfl ?_
    refine x_iload_n (pc := 47) d_Mo_costOf_47 rfl ?_
    refine x_icmp_ge (pc := 48) (tgt := 278) d_Mo_costOf_48 (by decide) (fun h48 => ?_) (fun h => absurd (nI_le (by omega) (by omega)) h)
    refine x_iload (pc := 278) d_Mo_costOf_278 rfl ?_
    refine x_aload_n (pc := 280) d_Mo_costOf_280 rfl ?_
    refine x_get (pc := 281) (j := 6) d_Mo_costOf_281 f_Mo_30 rfl rfl (Nat.le_of_ble_eq_true rfl) rfl rfl rfl ?_
    rw [hR1.mo]
    refine x_icmp_gt (pc := 284) (tgt := 314) d_Mo_costOf_284 (by decide) (fun h284 => ?_) (fun h284 => ?_)
    · refine x_ldc (pc := 314) (v := 900000) d_Mo_costOf_314 i_Mo_101 ?_
      refine y_iret (pc := 316) d_Mo_costOf_316 rfl ?_
      exact ⟨by rw [hPC, if_pos (Or.inr (by rcases Nat.lt_or_ge W.mo m with z | z; exact z; exact absurd h284 (nI_nlt z (by omega))))]; rfl, hFr, rfl⟩
    · have hm2 : ¬ W.mo < m := fun z => h284 (nI_lt z (by omega))
      have hPC' : zPC W x L = oad (oad (some c) (if a = 0 then some 0 else zbk W a)) (zOt W (zRst W U)) := by
        rw [hPC, if_neg (fun z => by rcases z with z | z; exact z.1 (hend rfl z.2); exact hm2 z)]
      by_cases ha0 : a = 0
      · subst ha0
        rw [if_pos rfl, oad_0] at hPC'
        refine x_iload (pc := 287) d_Mo_costOf_287 rfl ?_
        refine x_if_le (pc := 289) (tgt := 317) d_Mo_costOf_289 (by decide) (fun h289 => ?_) (fun h => absurd (by decide) h)
        refine x_iload (pc := 317) d_Mo_costOf_317 rfl ?_
        refine x_if_le (pc := 319) (tgt := 345) d_Mo_costOf_319 (by decide) (fun h319 => ?_) (fun h => absurd (by decide) h)
        refine x_iload (pc := 345) d_Mo_costOf_345 rfl ?_
        refine y_ist4 (pc := 347) d_Mo_costOf_347 ?_
        refine x_iconst (pc := 349) (v := 1) d_Mo_costOf_349 (by decide) ?_
        refine y_ist7 (pc := 350) d_Mo_costOf_350 ?_
        have hz := hP U V1 c hU hFr m22 (by rw [hPC']) 0 (Nat.zero_le _) 0
        rw [Int.add_zero] at hz
        exact hz _ _ _ rfl rfl hq rfl
      · have hap : 0 < a := by omega
        rw [if_neg ha0] at hPC'
        have ix1 : 9 * nI a = nI (9 * a + 0) := by rw [show (9 : Int32) = nI 9 from rfl, pk_mul, Nat.add_zero]
        have c1 : (nI (9 * a + 0)).toNatClampNeg = 9 * a + 0 := nI_clamp (by omega)
        have har := hR1.ar a 0 (by omega) (by omega)
        have hbk : zbk W a = if W.op = true then some 0 else W.ar a 0 := rfl
        cases hop : W.op with
        | true =>
          rw [hop, if_pos rfl] at hbk
          rw [hbk, oad_0] at hPC'
          have h8 : V1 36 8 = 1 := by rw [hR1.op, hop]; rfl
          refine x_iload (pc := 287) d_Mo_costOf_287 rfl ?_
          refine x_if_le (pc := 289) (tgt := 317) d_Mo_costOf_289 (by decide) (fun h => absurd h (nI_nle hap (by omega))) (fun h289 => ?_)
          refine x_aload_n (pc := 292) d_Mo_costOf_292 rfl ?_
          refine x_get (pc := 293) (j := 8) d_Mo_costOf_293 f_Mo_89 rfl rfl (Nat.le_of_ble_eq_true rfl) rfl rfl rfl ?_
          refine x_if_ne (pc := 296) (tgt := 317) d_Mo_costOf_296 (by decide) (fun h296 => ?_) (fun h => absurd (h8.symm.trans h) (by decide))
          refine x_iload (pc := 317) d_Mo_costOf_317 rfl ?_
          refine x_if_le (pc := 319) (tgt := 345) d_Mo_costOf_319 (by decide) (fun h => absurd h (nI_nle hap (by omega))) (fun h319 => ?_)
          refine x_aload_n (pc := 322) d_Mo_costOf_322 rfl ?_
          refine x_get (pc := 323) (j := 8) d_Mo_costOf_323 f_Mo_89 rfl rfl (Nat.le_of_ble_eq_true rfl) rfl rfl rfl ?_
          refine x_if_ne (pc := 326) (tgt := 345) d_Mo_costOf_326 (by decide) (fun h326 => ?_) (fun h => absurd (h8.symm.trans h) (by decide))
          refine x_iload (pc := 345) d_Mo_costOf_345 rfl ?_
          refine y_ist4 (pc := 347) d_Mo_costOf_347 ?_
          refine x_iconst (pc := 349) (v := 1) d_Mo_costOf_349 (by decide) ?_
          refine y_ist7 (pc := 350) d_Mo_costOf_350 ?_
          have hz := hP U V1 c hU hFr m22 (by rw [hPC']) 0 (Nat.zero_le _) 0
          rw [Int.add_zero] at hz
          exact hz _ _ _ rfl rfl hq rfl
        | false =>
          rw [hop, if_neg (by simp)] at hbk
          rw [hbk] at hPC'
          have h8 : V1 36 8 = 0 := by rw [hR1.op, hop]; rfl
          refine x_iload (pc := 287) d_Mo_costOf_287 rfl ?_
          refine x_if_le (pc := 289) (tgt := 317) d_Mo_costOf_289 (by decide) (fun h => absurd h (nI_nle hap (by omega))) (fun h289 => ?_)
          refine x_aload_n (pc := 292) d_Mo_costOf_292 rfl ?_
          refine x_get (pc := 293) (j := 8) d_Mo_costOf_293 f_Mo_89 rfl rfl (Nat.le_of_ble_eq_true rfl) rfl rfl rfl ?_
          refine x_if_ne (pc := 296) (tgt := 317) d_Mo_costOf_296 (by decide) (fun h => absurd h8 h) (fun h296 => ?_)
          refine x_aload_n (pc := 299) d_Mo_costOf_299 rfl ?_
          refine x_get (pc := 300) (j := 3) d_Mo_costOf_300 f_Mo_20 rfl rfl (Nat.le_of_ble_eq_true rfl) rfl rfl rfl ?_
          refine x_bipush (pc := 303) (v := 9) d_Mo_costOf_303 (by decide) ?_
          refine x_iload (pc := 305) d_Mo_costOf_305 rfl ?_
          refine x_imul (pc := 307) d_Mo_costOf_307 ?_
          refine x_iald (pc := 308) d_Mo_costOf_308 rfl (by rw [ix1]; exact vp_in_nI (by omega) (by decide)) ?_
          rw [ix1, c1, har]
          refine x_ldc (pc := 309) (v := 1000000) d_Mo_costOf_309 i_Mo_69 ?_
          refine x_icmp_ne (pc := 311) (tgt := 317) d_Mo_costOf_311 (by decide) (fun h311 => ?_) (fun h311 => ?_)
          · refine x_iload (pc := 317) d_Mo_costOf_317 rfl ?_
            refine x_if_le (pc := 319) (tgt := 345) d_Mo_costOf_319 (by decide) (fun h => absurd h (nI_nle hap (by omega))) (fun h319 => ?_)
            refine x_aload_n (pc := 322) d_Mo_costOf_322 rfl ?_
            refine x_get (pc := 323) (j := 8) d_Mo_costOf_323 f_Mo_89 rfl rfl (Nat.le_of_ble_eq_true rfl) rfl rfl rfl ?_
            refine x_if_ne (pc := 326) (tgt := 345) d_Mo_costOf_326 (by decide) (fun h => absurd h8 h) (fun h326 => ?_)
            refine x_iload (pc := 329) d_Mo_costOf_329 rfl ?_
            refine x_aload_n (pc := 331) d_Mo_costOf_331 rfl ?_
            refine x_get (pc := 332) (j := 3) d_Mo_costOf_332 f_Mo_20 rfl rfl (Nat.le_of_ble_eq_true rfl) rfl rfl rfl ?_
            refine x_bipush (pc := 335) (v := 9) d_Mo_costOf_335 (by decide) ?_
            refine x_iload (pc := 337) d_Mo_costOf_337 rfl ?_
            refine x_imul (pc := 339) d_Mo_costOf_339 ?_
            refine x_iald (pc := 340) d_Mo_costOf_340 rfl (by rw [ix1]; exact vp_in_nI (by omega) (by decide)) ?_
            rw [ix1, c1, har]
            cases hx0 : W.ar a 0 with
            | none => exact absurd (by rw [hx0]; rfl) h311
            | some y =>
              rw [show zEa (some y) = Int32.ofInt y from rfl]
              rw [hx0] at hPC'
              refine x_iadd (pc := 341) d_Mo_costOf_341 ?_
              refine x_goto (pc := 342) (tgt := 347) d_Mo_costOf_342 (by decide) ?_
              refine y_ist4 (pc := 347) d_Mo_costOf_347 ?_
              refine x_iconst (pc := 349) (v := 1) d_Mo_costOf_349 (by decide) ?_
              refine y_ist7 (pc := 350) d_Mo_costOf_350 ?_
              rw [← Int32.ofInt_add]
              have hz := hP U V1 (c + y) hU hFr m22 (by rw [hPC']; rfl) 0 (Nat.zero_le _) 0
              rw [Int.add_zero] at hz
              exact hz _ _ _ rfl rfl hq rfl
          · refine x_ldc (pc := 314) (v := 900000) d_Mo_costOf_314 i_Mo_101 ?_
            refine y_iret (pc := 316) d_Mo_costOf_316 rfl ?_
            exact ⟨by rw [hPC', (zEa_no (b := 1000) (by omega) (hW.arB a 0)).mp h311, oad_nr, oad_nl]; rfl, hFr, rfl⟩
  · have hR1 := hFr.R hR
    have hx2 := hx k hk
    have hB := zQ_B hW hQ
    have hB : -(1000 * (k : Int)) ≤ c ∧ c ≤ 1000 * k := hB
    have hQ1 : zQ W x (k + 1) = if x k = 0 then (if a = 0 then none else (oad (some c) (zbk W a)).map (fun c' => (c', 0, m, U, 0, 0))) else if U.testBit (x k - 1) = false ∧ l + W.lo (x k) ≤ W.rm ∧ W.ea (x k) &&& (255 ^^^ H) = 0 then (oad (some c) (W.ar a (x k))).map (fun c' => (c', x k, if a = 0 then m + 1 else m, U ||| 2 ^ (x k - 1), H ||| 2 ^ (x k - 1), l + W.lo (x k))) else none := by rw [zQ, hQ]
    have ix1 : 9 * nI a = nI (9 * a + 0) := by rw [show (9 : Int32) = nI 9 from rfl, pk_mul, Nat.add_zero]
    have c1 : (nI (9 * a + 0)).toNatClampNeg = 9 * a + 0 := nI_clamp (by omega)
    have har := hR1.ar a 0 (by omega) (by omega)
    refine x_iload (pc := 45) d_Mo_costOf_45 rfl ?_
    refine x_iload_n (pc := 47) d_Mo_costOf_47 rfl ?_
    refine x_icmp_ge (pc := 48) (tgt := 278) d_Mo_costOf_48 (by decide) (fun h => absurd h (nI_ge (by omega) (by omega))) (fun h48 => ?_)
    refine hRd k hk V1 hFr _ _ _ _ ?_
    by_cases h0 : x k = 0
    · rw [h0]
      rw [if_pos h0] at hQ1
      by_cases ha0 : a = 0
      · subst ha0
        rw [if_pos rfl] at hQ1
        refine y_ist8 (pc := 90) d_Mo_costOf_90 ?_
        refine x_iload (pc := 92) d_Mo_costOf_92 rfl ?_
        refine x_if_ne (pc := 94) (tgt := 178) d_Mo_costOf_94 (by decide) (fun h => absurd rfl h) (fun h94 => ?_)
        refine x_iload (pc := 97) d_Mo_costOf_97 rfl ?_
        refine x_if_eq (pc := 99) (tgt := 132) d_Mo_costOf_99 (by decide) (fun h99 => ?_) (fun h => absurd rfl h)
        refine x_ldc (pc := 132) (v := 900000) d_Mo_costOf_132 i_Mo_101 ?_
        refine y_iret (pc := 134) d_Mo_costOf_134 rfl ?_
        exact ⟨by rw [zPC_none hQ1 (by omega)]; rfl, hFr, rfl⟩
      · rw [if_neg ha0] at hQ1
        have hi0 : ¬ nI a = 0 := fun z => ha0 ((nI_z (by omega)).mp z)
        by_cases hkl : k + 1 = L
        · have hPCn : zPC W x L = none := by
            unfold zPC
            rw [← hkl, hQ1]
            cases oad (some c) (zbk W a) with
            | none => rfl
            | some c' =>
              show (if (¬ k + 1 = 0 ∧ 0 = 0) ∨ W.mo < m then none else _) = none
              rw [if_pos (Or.inl ⟨by omega, rfl⟩)]
          have eL : nI L - 1 = nI k := by rw [← hkl, nI_pred]
          refine y_ist8 (pc := 90) d_Mo_costOf_90 ?_
          refine x_iload (pc := 92) d_Mo_costOf_92 rfl ?_
          refine x_if_ne (pc := 94) (tgt := 178) d_Mo_costOf_94 (by decide) (fun h => absurd rfl h) (fun h94 => ?_)
          refine x_iload (pc := 97) d_Mo_costOf_97 rfl ?_
          refine x_if_eq (pc := 99) (tgt := 132) d_Mo_costOf_99 (by decide) (fun h => absurd h hi0) (fun h99 => ?_)
          refine x_iload (pc := 102) d_Mo_costOf_102 rfl ?_
          refine x_iload_n (pc := 104) d_Mo_costOf_104 rfl ?_
          refine x_iconst (pc := 105) (v := 1) d_Mo_costOf_105 (by decide) ?_
          refine x_isub (pc := 106) d_Mo_costOf_106 ?_
          refine x_icmp_eq (pc := 107) (tgt := 132) d_Mo_costOf_107 (by decide) (fun h107 => ?_) (fun h => absurd eL.symm h)
          refine x_ldc (pc := 132) (v := 900000) d_Mo_costOf_132 i_Mo_101 ?_
          refine y_iret (pc := 134) d_Mo_costOf_134 rfl ?_
          exact ⟨by rw [hPCn]; rfl, hFr, rfl⟩
        · have hbk : zbk W a = if W.op = true then some 0 else W.ar a 0 := rfl
          cases hop : W.op with
          | true =>
            rw [hop, if_pos rfl] at hbk
            rw [hbk, oad_0] at hQ1
            have h8 : V1 36 8 = 1 := by rw [hR1.op, hop]; rfl
            refine y_ist8 (pc := 90) d_Mo_costOf_90 ?_
            refine x_iload (pc := 92) d_Mo_costOf_92 rfl ?_
            refine x_if_ne (pc := 94) (tgt := 178) d_Mo_costOf_94 (by decide) (fun h => absurd rfl h) (fun h94 => ?_)
            refine x_iload (pc := 97) d_Mo_costOf_97 rfl ?_
            refine x_if_eq (pc := 99) (tgt := 132) d_Mo_costOf_99 (by decide) (fun h => absurd h hi0) (fun h99 => ?_)
            refine x_iload (pc := 102) d_Mo_costOf_102 rfl ?_
            refine x_iload_n (pc := 104) d_Mo_costOf_104 rfl ?_
            refine x_iconst (pc := 105) (v := 1) d_Mo_costOf_105 (by decide) ?_
            refine x_isub (pc := 106) d_Mo_costOf_106 ?_
            refine x_icmp_eq (pc := 107) (tgt := 132) d_Mo_costOf_107 (by decide) (fun h => absurd (by have z : nI k = nI L - 1 := h; rw [show L = L - 1 + 1 by omega, nI_pred] at z; exact (nI_eq (by omega) (by omega)).mp z) (by omega)) (fun h107 => ?_)
            refine x_aload_n (pc := 110) d_Mo_costOf_110 rfl ?_
            refine x_get (pc := 111) (j := 8) d_Mo_costOf_111 f_Mo_89 rfl rfl (Nat.le_of_ble_eq_true rfl) rfl rfl rfl ?_
            refine x_if_ne (pc := 114) (tgt := 135) d_Mo_costOf_114 (by decide) (fun h114 => ?_) (fun h => absurd (h8.symm.trans h) (by decide))
            refine x_iload (pc := 135) d_Mo_costOf_135 rfl ?_
            refine x_aload_n (pc := 137) d_Mo_costOf_137 rfl ?_
            refine x_get (pc := 138) (j := 8) d_Mo_costOf_138 f_Mo_89 rfl rfl (Nat.le_of_ble_eq_true rfl) rfl rfl rfl ?_
            refine x_iconst (pc := 141) (v := 1) d_Mo_costOf_141 (by decide) ?_
            refine x_icmp_ne (pc := 142) (tgt := 149) d_Mo_costOf_142 (by decide) (fun h => absurd h8 h) (fun h142 => ?_)
            refine x_iconst (pc := 145) (v := 0) d_Mo_costOf_145 (by decide) ?_
            refine x_goto (pc := 146) (tgt := 159) d_Mo_costOf_146 (by decide) ?_
            refine x_iadd (pc := 159) d_Mo_costOf_159 ?_
            rw [Int32.add_zero]
            refine y_ist4 (pc := 160) d_Mo_costOf_160 ?_
            refine x_iconst (pc := 162) (v := 0) d_Mo_costOf_162 (by decide) ?_
            refine y_ist5 (pc := 163) d_Mo_costOf_163 ?_
            refine x_aload_n (pc := 165) d_Mo_costOf_165 rfl ?_
            refine x_iconst (pc := 166) (v := 0) d_Mo_costOf_166 (by decide) ?_
            refine y_put (pc := 167) (j := 23) d_Mo_costOf_167 f_Mo_98 rfl rfl (Nat.le_of_ble_eq_true rfl) rfl (Nat.le_of_ble_eq_true rfl) rfl rfl (fun _ => rfl) ?_
            refine x_aload_n (pc := 170) d_Mo_costOf_170 rfl ?_
            refine x_iconst (pc := 171) (v := 0) d_Mo_costOf_171 (by decide) ?_
            refine y_put (pc := 172) (j := 24) d_Mo_costOf_172 f_Mo_95 rfl rfl (Nat.le_of_ble_eq_true rfl) rfl (Nat.le_of_ble_eq_true rfl) rfl rfl (fun _ => rfl) ?_
            refine x_goto (pc := 175) (tgt := 272) d_Mo_costOf_175 (by decide) ?_
            refine y_inc7 (pc := 272) (v := 1) d_Mo_costOf_272 (by decide) ?_
            refine x_goto (pc := 275) (tgt := 45) d_Mo_costOf_275 (by decide) ?_
            rw [show nI k + 1 = nI (k + 1) from (nI_succ k).symm]
            exact ih c 0 m U 0 0 _ _ rfl hQ1 ((hFr.up (Or.inr (Or.inl rfl)) _).up (Or.inr (Or.inr rfl)) _) m22 rfl rfl hU (by omega) (by omega) hW.h1 (by omega) (fun z => by omega)
          | false =>
            rw [hop, if_neg (by simp)] at hbk
            rw [hbk] at hQ1
            have h8 : V1 36 8 = 0 := by rw [hR1.op, hop]; rfl
            refine y_ist8 (pc := 90) d_Mo_costOf_90 ?_
            refine x_iload (pc := 92) d_Mo_costOf_92 rfl ?_
            refine x_if_ne (pc := 94) (tgt := 178) d_Mo_costOf_94 (by decide) (fun h => absurd rfl h) (fun h94 => ?_)
            refine x_iload (pc := 97) d_Mo_costOf_97 rfl ?_
            refine x_if_eq (pc := 99) (tgt := 132) d_Mo_costOf_99 (by decide) (fun h => absurd h hi0) (fun h99 => ?_)
            refine x_iload (pc := 102) d_Mo_costOf_102 rfl ?_
            refine x_iload_n (pc := 104) d_Mo_costOf_104 rfl ?_
            refine x_iconst (pc := 105) (v := 1) d_Mo_costOf_105 (by decide) ?_
            refine x_isub (pc := 106) d_Mo_costOf_106 ?_
            refine x_icmp_eq (pc := 107) (tgt := 132) d_Mo_costOf_107 (by decide) (fun h => absurd (by have z : nI k = nI L - 1 := h; rw [show L = L - 1 + 1 by omega, nI_pred] at z; exact (nI_eq (by omega) (by omega)).mp z) (by omega)) (fun h107 => ?_)
            refine x_aload_n (pc := 110) d_Mo_costOf_110 rfl ?_
            refine x_get (pc := 111) (j := 8) d_Mo_costOf_111 f_Mo_89 rfl rfl (Nat.le_of_ble_eq_true rfl) rfl rfl rfl ?_
            refine x_if_ne (pc := 114) (tgt := 135) d_Mo_costOf_114 (by decide) (fun h => absurd h8 h) (fun h114 => ?_)
            refine x_aload_n (pc := 117) d_Mo_costOf_117 rfl ?_
            refine x_get (pc := 118) (j := 3) d_Mo_costOf_118 f_Mo_20 rfl rfl (Nat.le_of_ble_eq_true rfl) rfl rfl rfl ?_
            refine x_bipush (pc := 121) (v := 9) d_Mo_costOf_121 (by decide) ?_
            refine x_iload (pc := 123) d_Mo_costOf_123 rfl ?_
            refine x_imul (pc := 125) d_Mo_costOf_125 ?_
            refine x_iald (pc := 126) d_Mo_costOf_126 rfl (by rw [ix1]; exact vp_in_nI (by omega) (by decide)) ?_
            rw [ix1, c1, har]
            refine x_ldc (pc := 127) (v := 1000000) d_Mo_costOf_127 i_Mo_69 ?_
            refine x_icmp_ne (pc := 129) (tgt := 135) d_Mo_costOf_129 (by decide) (fun h129 => ?_) (fun h129 => ?_)
            · refine x_iload (pc := 135) d_Mo_costOf_135 rfl ?_
              refine x_aload_n (pc := 137) d_Mo_costOf_137 rfl ?_
              refine x_get (pc := 138) (j := 8) d_Mo_costOf_138 f_Mo_89 rfl rfl (Nat.le_of_ble_eq_true rfl) rfl rfl rfl ?_
              refine x_iconst (pc := 141) (v := 1) d_Mo_costOf_141 (by decide) ?_
              refine x_icmp_ne (pc := 142) (tgt := 149) d_Mo_costOf_142 (by decide) (fun h142 => ?_) (fun h => absurd (h8.symm.trans h) (by decide))
              refine x_aload_n (pc := 149) d_Mo_costOf_149 rfl ?_
              refine x_get (pc := 150) (j := 3) d_Mo_costOf_150 f_Mo_20 rfl rfl (Nat.le_of_ble_eq_true rfl) rfl rfl rfl ?_
              refine x_bipush (pc := 153) (v := 9) d_Mo_costOf_153 (by decide) ?_
              refine x_iload (pc := 155) d_Mo_costOf_155 rfl ?_
              refine x_imul (pc := 157) d_Mo_costOf_157 ?_
              refine x_iald (pc := 158) d_Mo_costOf_158 rfl (by rw [ix1]; exact vp_in_nI (by omega) (by decide)) ?_
              rw [ix1, c1, har]
              cases hx0 : W.ar a 0 with
              | none => exact absurd (by rw [hx0]; rfl) h129
              | some y =>
                rw [show zEa (some y) = Int32.ofInt y from rfl]
                rw [hx0] at hQ1
                refine x_iadd (pc := 159) d_Mo_costOf_159 ?_
                refine y_ist4 (pc := 160) d_Mo_costOf_160 ?_
                refine x_iconst (pc := 162) (v := 0) d_Mo_costOf_162 (by decide) ?_
                refine y_ist5 (pc := 163) d_Mo_costOf_163 ?_
                refine x_aload_n (pc := 165) d_Mo_costOf_165 rfl ?_
                refine x_iconst (pc := 166) (v := 0) d_Mo_costOf_166 (by decide) ?_
                refine y_put (pc := 167) (j := 23) d_Mo_costOf_167 f_Mo_98 rfl rfl (Nat.le_of_ble_eq_true rfl) rfl (Nat.le_of_ble_eq_true rfl) rfl rfl (fun _ => rfl) ?_
                refine x_aload_n (pc := 170) d_Mo_costOf_170 rfl ?_
                refine x_iconst (pc := 171) (v := 0) d_Mo_costOf_171 (by decide) ?_
                refine y_put (pc := 172) (j := 24) d_Mo_costOf_172 f_Mo_95 rfl rfl (Nat.le_of_ble_eq_true rfl) rfl (Nat.le_of_ble_eq_true rfl) rfl rfl (fun _ => rfl) ?_
                refine x_goto (pc := 175) (tgt := 272) d_Mo_costOf_175 (by decide) ?_
                refine y_inc7 (pc := 272) (v := 1) d_Mo_costOf_272 (by decide) ?_
                refine x_goto (pc := 275) (tgt := 45) d_Mo_costOf_275 (by decide) ?_
                rw [show nI k + 1 = nI (k + 1) from (nI_succ k).symm]
                rw [← Int32.ofInt_add]
                exact ih (c + y) 0 m U 0 0 _ _ rfl hQ1 ((hFr.up (Or.inr (Or.inl rfl)) _).up (Or.inr (Or.inr rfl)) _) m22 rfl rfl hU (by omega) (by omega) hW.h1 (by omega) (fun z => by omega)
            · refine x_ldc (pc := 132) (v := 900000) d_Mo_costOf_132 i_Mo_101 ?_
              refine y_iret (pc := 134) d_Mo_costOf_134 rfl ?_
              exact ⟨by rw [zPC_none (by rw [hQ1, (zEa_no (b := 1000) (by omega) (hW.arB a 0)).mp h129, oad_nr]; rfl : zQ W x (k + 1) = none) (by omega)]; rfl, hFr, rfl⟩
    · rw [if_neg h0] at hQ1
      have h1v : 1 ≤ x k := by omega
      have hi0 : ¬ nI (x k) = 0 := fun z => h0 ((nI_z (by omega)).mp z)
      have cv : (nI (x k)).toNatClampNeg = x k := nI_clamp (by omega)
      have hlo := hR1.lo (x k) (by omega)
      have ix3 : 9 * nI a + nI (x k) = nI (9 * a + x k) := by rw [show (9 : Int32) = nI 9 from rfl, pk_mul, nI_add]
      have c3 : (nI (9 * a + x k)).toNatClampNeg = 9 * a + x k := nI_clamp (by omega)
      have har3 := hR1.ar a (x k) (by omega) (by omega)
      have hv1 : x k = x k - 1 + 1 := by omega
      refine y_ist8 (pc := 90) d_Mo_costOf_90 ?_
      refine x_iload (pc := 92) d_Mo_costOf_92 rfl ?_
      refine x_if_ne (pc := 94) (tgt := 178) d_Mo_costOf_94 (by decide) (fun h94 => ?_) (fun h => absurd h hi0)
      refine x_aload_n (pc := 178) d_Mo_costOf_178 rfl ?_
      refine x_iload (pc := 179) d_Mo_costOf_179 rfl ?_
      refine x_iload (pc := 181) d_Mo_costOf_181 rfl ?_
      refine y_bV (pc := 183) (c_Mo_mayCome _ _ hW hR1 a (x k) U H l ha h1v hx2 hU hH hl m22 m23 m24) k_Mo_mayCome d_Mo_costOf_183 m_Mo_125 (by decide) rfl rfl rfl rfl p_Mo_mayCome (K1 := fun q183 => ?_) (K0 := fun q183 => ?_)
      · obtain ⟨y, hy⟩ : ∃ y, W.ar a (x k) = some y := by
          cases hz2 : W.ar a (x k) with
          | none => exact absurd hz2 q183.1
          | some y => exact ⟨y, rfl⟩
        rw [if_pos q183.2, hy] at hQ1
        have hQ2 : zQ W x (k + 1) = some (c + y, x k, if a = 0 then m + 1 else m, U ||| 2 ^ (x k - 1), H ||| 2 ^ (x k - 1), l + W.lo (x k)) := hQ1
        have hrm := hW.rm
        have hl2 := q183.2.2.1
        have hUk := zz_bit (a := x k - 1) (by omega)
        refine x_if_ne (pc := 186) (tgt := 192) d_Mo_costOf_186 (by decide) (fun _ => ?_) (fun h => absurd h (by decide))
        refine x_iload (pc := 192) d_Mo_costOf_192 rfl ?_
        refine x_if_ne (pc := 194) (tgt := 204) d_Mo_costOf_194 (by decide) (fun h194 => ?_) (fun h194 => ?_)
        · refine x_iload (pc := 204) d_Mo_costOf_204 rfl ?_
          refine y_ist6 (pc := 206) d_Mo_costOf_206 ?_
          have ha0 : ¬ a = 0 := fun z => h194 (by rw [z]; rfl)
          rw [if_neg ha0] at hQ2
          refine x_iload (pc := 208) d_Mo_costOf_208 rfl ?_
          refine x_aload_n (pc := 210) d_Mo_costOf_210 rfl ?_
          refine x_get (pc := 211) (j := 3) d_Mo_costOf_211 f_Mo_20 rfl rfl (Nat.le_of_ble_eq_true rfl) rfl rfl rfl ?_
          refine x_bipush (pc := 214) (v := 9) d_Mo_costOf_214 (by decide) ?_
          refine x_iload (pc := 216) d_Mo_costOf_216 rfl ?_
          refine x_imul (pc := 218) d_Mo_costOf_218 ?_
          refine x_iload (pc := 219) d_Mo_costOf_219 rfl ?_
          refine x_iadd (pc := 221) d_Mo_costOf_221 ?_
          refine x_iald (pc := 222) d_Mo_costOf_222 rfl (by rw [ix3]; exact vp_in_nI (by omega) (by decide)) ?_
          rw [ix3, c3, har3, hy, show zEa (some y) = Int32.ofInt y from rfl]
          refine x_iadd (pc := 223) d_Mo_costOf_223 ?_
          refine y_ist4 (pc := 224) d_Mo_costOf_224 ?_
          refine x_aload_n (pc := 226) d_Mo_costOf_226 rfl ?_
          refine x_aload_n (pc := 227) d_Mo_costOf_227 rfl ?_
          refine x_get (pc := 228) (j := 22) d_Mo_costOf_228 f_Mo_92 rfl rfl (Nat.le_of_ble_eq_true rfl) rfl rfl rfl ?_
          refine x_iconst (pc := 231) (v := 1) d_Mo_costOf_231 (by decide) ?_
          refine x_iload (pc := 232) d_Mo_costOf_232 rfl ?_
          refine x_ishl (pc := 234) d_Mo_costOf_234 ?_
          refine x_ior (pc := 235) d_Mo_costOf_235 ?_
          refine y_put (pc := 236) (j := 22) d_Mo_costOf_236 f_Mo_92 rfl rfl (Nat.le_of_ble_eq_true rfl) rfl (Nat.le_of_ble_eq_true rfl) rfl rfl (fun _ => rfl) ?_
          refine x_aload_n (pc := 239) d_Mo_costOf_239 rfl ?_
          refine x_aload_n (pc := 240) d_Mo_costOf_240 rfl ?_
          refine x_get (pc := 241) (j := 23) d_Mo_costOf_241 f_Mo_98 rfl rfl (Nat.le_of_ble_eq_true rfl) rfl rfl rfl ?_
          refine x_iconst (pc := 244) (v := 1) d_Mo_costOf_244 (by decide) ?_
          refine x_iload (pc := 245) d_Mo_costOf_245 rfl ?_
          refine x_ishl (pc := 247) d_Mo_costOf_247 ?_
          refine x_ior (pc := 248) d_Mo_costOf_248 ?_
          refine y_put (pc := 249) (j := 23) d_Mo_costOf_249 f_Mo_98 rfl rfl (Nat.le_of_ble_eq_true rfl) rfl (Nat.le_of_ble_eq_true rfl) rfl rfl (fun _ => rfl) ?_
          refine x_aload_n (pc := 252) d_Mo_costOf_252 rfl ?_
          refine x_aload_n (pc := 253) d_Mo_costOf_253 rfl ?_
          refine x_get (pc := 254) (j := 24) d_Mo_costOf_254 f_Mo_95 rfl rfl (Nat.le_of_ble_eq_true rfl) rfl rfl rfl ?_
          refine x_aload_n (pc := 257) d_Mo_costOf_257 rfl ?_
          refine x_get (pc := 258) (j := 2) d_Mo_costOf_258 f_Mo_16 rfl rfl (Nat.le_of_ble_eq_true rfl) rfl rfl rfl ?_
          refine x_iload (pc := 261) d_Mo_costOf_261 rfl ?_
          refine x_iald (pc := 263) d_Mo_costOf_263 rfl (vp_in_nI (by omega) (by decide)) ?_
          refine x_iadd (pc := 264) d_Mo_costOf_264 ?_
          refine y_put (pc := 265) (j := 24) d_Mo_costOf_265 f_Mo_95 rfl rfl (Nat.le_of_ble_eq_true rfl) rfl (Nat.le_of_ble_eq_true rfl) rfl rfl (fun _ => rfl) ?_
          refine x_iload (pc := 268) d_Mo_costOf_268 rfl ?_
          refine y_ist5 (pc := 270) d_Mo_costOf_270 ?_
          refine y_inc7 (pc := 272) (v := 1) d_Mo_costOf_272 (by decide) ?_
          refine x_goto (pc := 275) (tgt := 45) d_Mo_costOf_275 (by decide) ?_
          rw [show nI k + 1 = nI (k + 1) from (nI_succ k).symm]
          rw [← Int32.ofInt_add]
          refine ih (c + y) (x k) _ (U ||| 2 ^ (x k - 1)) (H ||| 2 ^ (x k - 1)) (l + W.lo (x k)) _ _ rfl hQ2 (((hFr.up (Or.inl rfl) _).up (Or.inr (Or.inl rfl)) _).up (Or.inr (Or.inr rfl)) _) ?_ ?_ ?_ (or256 hU hUk) (or256 hH hUk) (by omega) hx2 (by omega) (fun _ z => absurd z h0)
          · show V1 36 22 ||| _ = _
            rw [m22, hv1]; exact s_or U hU (x k - 1) (by omega)
          · show V1 36 23 ||| _ = _
            rw [m23, hv1]; exact s_or H hH (x k - 1) (by omega)
          · show V1 36 24 + A 37 _ = _
            rw [m24, cv, hlo, nI_add]
        · refine x_iload (pc := 197) d_Mo_costOf_197 rfl ?_
          refine x_iconst (pc := 199) (v := 1) d_Mo_costOf_199 (by decide) ?_
          refine x_iadd (pc := 200) d_Mo_costOf_200 ?_
          refine x_goto (pc := 201) (tgt := 206) d_Mo_costOf_201 (by decide) ?_
          refine y_ist6 (pc := 206) d_Mo_costOf_206 ?_
          have ha0 : a = 0 := (nI_z (by omega)).mp h194
          rw [if_pos ha0] at hQ2
          rw [show nI m + 1 = nI (m + 1) from (nI_succ m).symm]
          refine x_iload (pc := 208) d_Mo_costOf_208 rfl ?_
          refine x_aload_n (pc := 210) d_Mo_costOf_210 rfl ?_
          refine x_get (pc := 211) (j := 3) d_Mo_costOf_211 f_Mo_20 rfl rfl (Nat.le_of_ble_eq_true rfl) rfl rfl rfl ?_
          refine x_bipush (pc := 214) (v := 9) d_Mo_costOf_214 (by decide) ?_
          refine x_iload (pc := 216) d_Mo_costOf_216 rfl ?_
          refine x_imul (pc := 218) d_Mo_costOf_218 ?_
          refine x_iload (pc := 219) d_Mo_costOf_219 rfl ?_
          refine x_iadd (pc := 221) d_Mo_costOf_221 ?_
          refine x_iald (pc := 222) d_Mo_costOf_222 rfl (by rw [ix3]; exact vp_in_nI (by omega) (by decide)) ?_
          rw [ix3, c3, har3, hy, show zEa (some y) = Int32.ofInt y from rfl]
          refine x_iadd (pc := 223) d_Mo_costOf_223 ?_
          refine y_ist4 (pc := 224) d_Mo_costOf_224 ?_
          refine x_aload_n (pc := 226) d_Mo_costOf_226 rfl ?_
          refine x_aload_n (pc := 227) d_Mo_costOf_227 rfl ?_
          refine x_get (pc := 228) (j := 22) d_Mo_costOf_228 f_Mo_92 rfl rfl (Nat.le_of_ble_eq_true rfl) rfl rfl rfl ?_
          refine x_iconst (pc := 231) (v := 1) d_Mo_costOf_231 (by decide) ?_
          refine x_iload (pc := 232) d_Mo_costOf_232 rfl ?_
          refine x_ishl (pc := 234) d_Mo_costOf_234 ?_
          refine x_ior (pc := 235) d_Mo_costOf_235 ?_
          refine y_put (pc := 236) (j := 22) d_Mo_costOf_236 f_Mo_92 rfl rfl (Nat.le_of_ble_eq_true rfl) rfl (Nat.le_of_ble_eq_true rfl) rfl rfl (fun _ => rfl) ?_
          refine x_aload_n (pc := 239) d_Mo_costOf_239 rfl ?_
          refine x_aload_n (pc := 240) d_Mo_costOf_240 rfl ?_
          refine x_get (pc := 241) (j := 23) d_Mo_costOf_241 f_Mo_98 rfl rfl (Nat.le_of_ble_eq_true rfl) rfl rfl rfl ?_
          refine x_iconst (pc := 244) (v := 1) d_Mo_costOf_244 (by decide) ?_
          refine x_iload (pc := 245) d_Mo_costOf_245 rfl ?_
          refine x_ishl (pc := 247) d_Mo_costOf_247 ?_
          refine x_ior (pc := 248) d_Mo_costOf_248 ?_
          refine y_put (pc := 249) (j := 23) d_Mo_costOf_249 f_Mo_98 rfl rfl (Nat.le_of_ble_eq_true rfl) rfl (Nat.le_of_ble_eq_true rfl) rfl rfl (fun _ => rfl) ?_
          refine x_aload_n (pc := 252) d_Mo_costOf_252 rfl ?_
          refine x_aload_n (pc := 253) d_Mo_costOf_253 rfl ?_
          refine x_get (pc := 254) (j := 24) d_Mo_costOf_254 f_Mo_95 rfl rfl (Nat.le_of_ble_eq_true rfl) rfl rfl rfl ?_
          refine x_aload_n (pc := 257) d_Mo_costOf_257 rfl ?_
          refine x_get (pc := 258) (j := 2) d_Mo_costOf_258 f_Mo_16 rfl rfl (Nat.le_of_ble_eq_true rfl) rfl rfl rfl ?_
          refine x_iload (pc := 261) d_Mo_costOf_261 rfl ?_
          refine x_iald (pc := 263) d_Mo_costOf_263 rfl (vp_in_nI (by omega) (by decide)) ?_
          refine x_iadd (pc := 264) d_Mo_costOf_264 ?_
          refine y_put (pc := 265) (j := 24) d_Mo_costOf_265 f_Mo_95 rfl rfl (Nat.le_of_ble_eq_true rfl) rfl (Nat.le_of_ble_eq_true rfl) rfl rfl (fun _ => rfl) ?_
          refine x_iload (pc := 268) d_Mo_costOf_268 rfl ?_
          refine y_ist5 (pc := 270) d_Mo_costOf_270 ?_
          refine y_inc7 (pc := 272) (v := 1) d_Mo_costOf_272 (by decide) ?_
          refine x_goto (pc := 275) (tgt := 45) d_Mo_costOf_275 (by decide) ?_
          rw [show nI k + 1 = nI (k + 1) from (nI_succ k).symm]
          rw [← Int32.ofInt_add]
          refine ih (c + y) (x k) _ (U ||| 2 ^ (x k - 1)) (H ||| 2 ^ (x k - 1)) (l + W.lo (x k)) _ _ rfl hQ2 (((hFr.up (Or.inl rfl) _).up (Or.inr (Or.inl rfl)) _).up (Or.inr (Or.inr rfl)) _) ?_ ?_ ?_ (or256 hU hUk) (or256 hH hUk) (by omega) hx2 (by omega) (fun _ z => absurd z h0)
          · show V1 36 22 ||| _ = _
            rw [m22, hv1]; exact s_or U hU (x k - 1) (by omega)
          · show V1 36 23 ||| _ = _
            rw [m23, hv1]; exact s_or H hH (x k - 1) (by omega)
          · show V1 36 24 + A 37 _ = _
            rw [m24, cv, hlo, nI_add]
      · refine x_if_ne (pc := 186) (tgt := 192) d_Mo_costOf_186 (by decide) (fun h => absurd h (by decide)) (fun _ => ?_)
        refine x_ldc (pc := 189) (v := 900000) d_Mo_costOf_189 i_Mo_101 ?_
        refine y_iret (pc := 191) d_Mo_costOf_191 rfl ?_
        have hQn : zQ W x (k + 1) = none := by
          rw [hQ1]
          by_cases hz : U.testBit (x k - 1) = false ∧ l + W.lo (x k) ≤ W.rm ∧ W.ea (x k) &&& (255 ^^^ H) = 0
          · rw [if_pos hz]
            cases hz2 : W.ar a (x k) with
            | none => rfl
            | some y => exact absurd ⟨by rw [hz2]; simp, hz⟩ q183
          · rw [if_neg hz]
        exact ⟨by rw [zPC_none hQn (by omega)]; rfl, hFr, rfl⟩
