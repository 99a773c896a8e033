theorem nx_or (a b : Nat) : nI a ||| nI b = nI (a ||| b) := by
  apply Int32.toBitVec_inj.1
  show BitVec.ofNat 32 a ||| BitVec.ofNat 32 b = BitVec.ofNat 32 (a ||| b)
  apply BitVec.eq_of_getLsbD_eq
  intro i hi
  simp [hi]
theorem or512 {a b : Nat} (ha : a < 512) (hb : b < 512) : a ||| b < 512 := Nat.or_lt_two_pow (n := 9) ha hb
theorem tb_set (s k b : Nat) : (s ||| 2 ^ k).testBit b = true ↔ (s.testBit b = true ∨ b = k) := by
  rw [Nat.testBit_or, Nat.testBit_two_pow, Bool.or_eq_true, decide_eq_true_eq]
  constructor
  · rintro (h | h)
    · exact Or.inl h
    · exact Or.inr h.symm
  · rintro (h | h)
    · exact Or.inl h
    · exact Or.inr h.symm
theorem p2lt {k : Nat} (h : k < 9) : 2 ^ k < 512 := by
  have := Nat.pow_lt_pow_right (a := 2) (by omega) h
  simpa using this
/-- what is reached without one: by arcs P, not into wo -/
def zG (n : Nat) (P : Nat → Nat → Prop) (wo : Int32) (e : Nat) : Prop := e < 512 ∧ (∀ k, e.testBit k = true → k < n) ∧ e.testBit 0 = true ∧ ∀ Q : Nat → Prop, Q 0 → (∀ a b, a < n → b < n → Q a → ¬ nI b = wo → P a b → Q b) → ∀ k, e.testBit k = true → Q k
def zCl (n : Nat) (P : Nat → Nat → Prop) (wo : Int32) (e : Nat) : Prop := ∀ a b, a < n → b < n → e.testBit a = true → ¬ nI b = wo → P a b → e.testBit b = true
def zRS (n : Nat) (P : Nat → Nat → Prop) (wo : Int32) (e : Nat) : Prop := (wo = 0 ∧ e = 0) ∨ (¬ wo = 0 ∧ zG n P wo e ∧ zCl n P wo e)
theorem zRS_one {n : Nat} {P P' : Nat → Nat → Prop} {wo : Int32} {e e' : Nat} (hP : ∀ a b, a < n → b < n → (P a b ↔ P' a b)) (h : zRS n P wo e) (h' : zRS n P' wo e') : e = e' := by
  rcases h with ⟨h0, h⟩ | ⟨h0, hG, hC⟩
  · rcases h' with ⟨-, h'⟩ | ⟨h1, -⟩
    · rw [h, h']
    · exact absurd h0 h1
  · rcases h' with ⟨h1, -⟩ | ⟨-, hG', hC'⟩
    · exact absurd h1 h0
    · apply Nat.eq_of_testBit_eq
      intro i
      have q1 : e.testBit i = true → e'.testBit i = true := hG.2.2.2 (fun k => e'.testBit k = true) hG'.2.2.1 (fun a b ha hb h1 h2 h3 => hC' a b ha hb h1 h2 ((hP a b ha hb).mp h3)) i
      have q2 : e'.testBit i = true → e.testBit i = true := hG'.2.2.2 (fun k => e.testBit k = true) hG.2.2.1 (fun a b ha hb h1 h2 h3 => hC a b ha hb h1 h2 ((hP a b ha hb).mpr h3)) i
      cases h3 : e.testBit i with
      | true => exact (q1 h3).symm
      | false =>
        cases h4 : e'.testBit i with
        | true => rw [q2 h4] at h3; cases h3
        | false => rfl
theorem sN_mono {f g : Nat → Nat} {n : Nat} (h : ∀ i, i < n → f i ≤ g i) : sN f n ≤ sN g n := by
  induction n with
  | zero => exact Nat.le_refl _
  | succ n ih => rw [sN_s, sN_s]; have := ih (fun i hi => h i (by omega)); have := h n (by omega); omega
theorem sN_strict {f g : Nat → Nat} {n k : Nat} (h : ∀ i, i < n → f i ≤ g i) (hk : k < n) (hs : f k < g k) : sN f n < sN g n := by
  induction n with
  | zero => omega
  | succ n ih =>
    rw [sN_s, sN_s]
    by_cases hkn : k = n
    · subst hkn
      have := sN_mono (n := k) (fun i hi => h i (by omega)); omega
    · have := ih (fun i hi => h i (by omega)) (by omega); have := h n (by omega); omega
theorem zpc_lt {e e' : Nat} (he' : e' < 512) (h : ∀ k, e.testBit k = true → e'.testBit k = true) (hne : e ≠ e') : zpc e < zpc e' := by
  have hk : ∃ k, e'.testBit k = true ∧ e.testBit k = false := by
    apply Classical.byContradiction
    intro hno
    apply hne
    apply Nat.eq_of_testBit_eq
    intro i
    cases h3 : e.testBit i with
    | true => exact (h i h3).symm
    | false =>
      cases h4 : e'.testBit i with
      | true => exact absurd ⟨i, h4, h3⟩ hno
      | false => rfl
  obtain ⟨k, h1, h2⟩ := hk
  have hk9 : k < 9 := by
    apply Classical.byContradiction
    intro hge
    have := Nat.testBit_lt_two_pow (x := e') (i := k) (Nat.lt_of_lt_of_le he' (by have := Nat.pow_le_pow_right (n := 2) (by omega) (show 9 ≤ k by omega); simpa using this))
    rw [h1] at this; cases this
  refine sN_strict (k := k) (fun i _ => ?_) hk9 (by simp [h1, h2])
  by_cases hi : e.testBit i = true
  · simp [hi, h i hi]
  · simp [hi]
theorem zpc_full {n e : Nat} (h9 : n ≤ 9) (hb : ∀ k, e.testBit k = true → k < n) (h : n ≤ zpc e) : ∀ k, k < n → e.testBit k = true := by
  intro k hk
  apply Classical.byContradiction
  intro hno
  have h1 : zpc e = sN (fun a => if e.testBit a = true then 1 else 0) n := by
    unfold zpc
    obtain ⟨m, hm⟩ : ∃ m, 9 = n + m := ⟨9 - n, by omega⟩
    rw [hm, sN_app]
    have : sN (fun i => if e.testBit (n + i) = true then 1 else 0) m = 0 := (sN_congr (g := fun _ => 0) (fun i hi => if_neg (fun q => by have := hb _ q; omega))).trans (sN_0 m)
    omega
  have h2 : sN (fun a => if e.testBit a = true then 1 else 0) n < sN (fun _ => 1) n := sN_strict (k := k) (fun i _ => by split <;> omega) hk (by rw [if_neg hno]; omega)
  have h3 := sN_le (f := fun _ => 1) (n := n) (b := 1) (fun _ _ => Nat.le_refl 1)
  omega
set_option maxRecDepth 100000 in
set_option maxHeartbeats 4000000 in
theorem c_Way_stepFrom (V A : zV) (a : Nat) (wo : Int32) (n : Nat) (hn : V 1 4 = nI n) (h1 : 1 ≤ n) (h9 : n ≤ 9) (ha : a < n) : CQ Y_Way_stepFrom 0 [.ref 31, .int (nI a), .int wo] V A (fun r V' A' => (∃ s, r = nI s ∧ s < 512 ∧ ∀ b, s.testBit b = true ↔ (b < n ∧ ¬ nI b = wo ∧ ¬ A 3 (a * 9 + b) = 1000000000)) ∧ V' = V ∧ A' = A) := by
  have hS : ∀ k, k ≤ n → ∀ s, (s < 512 ∧ ∀ b, s.testBit b = true ↔ (b < k ∧ ¬ nI b = wo ∧ ¬ A 3 (a * 9 + b) = 1000000000)) → X Y_Way_stepFrom (zrm 0) (0, fun _ => 0) (zFq 0 (fun r V' A' => (∃ s, r = nI s ∧ s < 512 ∧ ∀ b, s.testBit b = true ↔ (b < n ∧ ¬ nI b = wo ∧ ¬ A 3 (a * 9 + b) = 1000000000)) ∧ V' = V ∧ A' = A)) 5 [.ref 31, .int (nI a), .int wo, .int (nI s), .int (nI k)] [] (cells V A) 0 0 := by
    refine z_down (fun s hs => ?_) (fun k hk ih s hs => ?_)
    · refine x_iload (pc := 5) d_Way_stepFrom_5 rfl ?_
      refine x_aload_n (pc := 7) d_Way_stepFrom_7 rfl ?_
      refine x_get (pc := 8) (j := 0) d_Way_stepFrom_8 f_Way_15 rfl rfl (Nat.le_of_ble_eq_true rfl) rfl rfl rfl ?_
      refine x_get (pc := 11) (j := 4) d_Way_stepFrom_11 f_Way_24 rfl rfl (Nat.le_of_ble_eq_true rfl) rfl rfl rfl ?_
      refine x_icmp_ge (pc := 14) (tgt := 56) d_Way_stepFrom_14 (by decide) (fun h14 => ?_) (fun h => by rw [hn] at h; exact absurd (nI_le (by omega) (by omega)) h)
      refine x_iload_n (pc := 56) d_Way_stepFrom_56 rfl ?_
      refine y_iret (pc := 57) d_Way_stepFrom_57 rfl ?_
      exact ⟨⟨s, rfl, hs⟩, rfl, rfl⟩
    · have hix : nI a * 9 + nI k = nI (a * 9 + k) := by rw [show (9 : Int32) = nI 9 from rfl, pk_mul, nI_add]
      have hcl : (nI (a * 9 + k)).toNatClampNeg = a * 9 + k := nI_clamp (by omega)
      refine x_iload (pc := 5) d_Way_stepFrom_5 rfl ?_
      refine x_aload_n (pc := 7) d_Way_stepFrom_7 rfl ?_
      refine x_get (pc := 8) (j := 0) d_Way_stepFrom_8 f_Way_15 rfl rfl (Nat.le_of_ble_eq_true rfl) rfl rfl rfl ?_
      refine x_get (pc := 11) (j := 4) d_Way_stepFrom_11 f_Way_24 rfl rfl (Nat.le_of_ble_eq_true rfl) rfl rfl rfl ?_
      refine x_icmp_ge (pc := 14) (tgt := 56) d_Way_stepFrom_14 (by decide) (fun h => by rw [hn] at h; exact absurd h (nI_ge (by omega) (by omega))) (fun h14 => ?_)
      refine x_iload (pc := 17) d_Way_stepFrom_17 rfl ?_
      refine x_iload_n (pc := 19) d_Way_stepFrom_19 rfl ?_
      refine x_icmp_eq (pc := 20) (tgt := 50) d_Way_stepFrom_20 (by decide) (fun h20 => ?_) (fun h20 => ?_)
      · refine y_inc4 (pc := 50) (v := 1) d_Way_stepFrom_50 (by decide) ?_
        refine x_goto (pc := 53) (tgt := 5) d_Way_stepFrom_53 (by decide) ?_
        rw [show nI k + 1 = nI (k + 1) from (nI_succ k).symm]
        refine ih s ⟨hs.1, fun b => ?_⟩
        rw [hs.2 b]
        constructor
        · rintro ⟨q1, q2⟩; exact ⟨by omega, q2⟩
        · rintro ⟨q1, q2, q3⟩
          refine ⟨?_, q2, q3⟩
          by_cases hb : b = k
          · subst hb; exact absurd h20 q2
          · omega
      · refine x_aload_n (pc := 23) d_Way_stepFrom_23 rfl ?_
        refine x_get (pc := 24) (j := 0) d_Way_stepFrom_24 f_Way_15 rfl rfl (Nat.le_of_ble_eq_true rfl) rfl rfl rfl ?_
        refine x_get (pc := 27) (j := 1) d_Way_stepFrom_27 f_Way_41 rfl rfl (Nat.le_of_ble_eq_true rfl) rfl rfl rfl ?_
        refine x_iload_n (pc := 30) d_Way_stepFrom_30 rfl ?_
        refine x_bipush (pc := 31) (v := 9) d_Way_stepFrom_31 (by decide) ?_
        refine x_imul (pc := 33) d_Way_stepFrom_33 ?_
        refine x_iload (pc := 34) d_Way_stepFrom_34 rfl ?_
        refine x_iadd (pc := 36) d_Way_stepFrom_36 ?_
        refine x_iald (pc := 37) d_Way_stepFrom_37 rfl (by rw [hix]; exact vp_in_nI (by omega) (by decide)) ?_
        refine x_ldc (pc := 38) (v := 1000000000) d_Way_stepFrom_38 i_Way_44 ?_
        refine x_icmp_eq (pc := 40) (tgt := 50) d_Way_stepFrom_40 (by decide) (fun h40 => ?_) (fun h40 => ?_)
        · refine y_inc4 (pc := 50) (v := 1) d_Way_stepFrom_50 (by decide) ?_
          refine x_goto (pc := 53) (tgt := 5) d_Way_stepFrom_53 (by decide) ?_
          rw [hix, hcl] at h40
          rw [show nI k + 1 = nI (k + 1) from (nI_succ k).symm]
          refine ih s ⟨hs.1, fun b => ?_⟩
          rw [hs.2 b]
          constructor
          · rintro ⟨q1, q2⟩; exact ⟨by omega, q2⟩
          · rintro ⟨q1, q2, q3⟩
            refine ⟨?_, q2, q3⟩
            by_cases hb : b = k
            · subst hb; exact absurd h40 q3
            · omega
        · refine x_iload_n (pc := 43) d_Way_stepFrom_43 rfl ?_
          refine x_iconst (pc := 44) (v := 1) d_Way_stepFrom_44 (by decide) ?_
          refine x_iload (pc := 45) d_Way_stepFrom_45 rfl ?_
          refine x_ishl (pc := 47) d_Way_stepFrom_47 ?_
          refine x_ior (pc := 48) d_Way_stepFrom_48 ?_
          refine y_ist3 (pc := 49) d_Way_stepFrom_49 ?_
          refine y_inc4 (pc := 50) (v := 1) d_Way_stepFrom_50 (by decide) ?_
          refine x_goto (pc := 53) (tgt := 5) d_Way_stepFrom_53 (by decide) ?_
          rw [hix, hcl] at h40
          rw [show nI k + 1 = nI (k + 1) from (nI_succ k).symm, z_shl k (by omega), nx_or]
          refine ih _ ⟨or512 hs.1 (p2lt (by omega)), fun b => ?_⟩
          rw [tb_set, hs.2 b]
          constructor
          · rintro (⟨q1, q2⟩ | rfl)
            · exact ⟨by omega, q2⟩
            · exact ⟨by omega, h20, h40⟩
          · rintro ⟨q1, q2, q3⟩
            by_cases hb : b = k
            · exact Or.inr hb
            · exact Or.inl ⟨by omega, q2, q3⟩
  refine CQ.of (lv := [.ref 31, .int (nI a), .int wo, zu, zu]) k_Way_stepFrom.1 rfl (by decide) rfl rfl (Nat.le_of_ble_eq_true rfl) ?_
  refine x_iconst (pc := 0) (v := 0) d_Way_stepFrom_0 (by decide) ?_
  refine y_ist3 (pc := 1) d_Way_stepFrom_1 ?_
  refine x_iconst (pc := 2) (v := 0) d_Way_stepFrom_2 (by decide) ?_
  refine y_ist4 (pc := 3) d_Way_stepFrom_3 ?_
  exact hS 0 (Nat.zero_le _) 0 ⟨by omega, fun b => by rw [Nat.zero_testBit]; exact ⟨fun h => (by cases h), fun h => absurd h.1 (Nat.not_lt_zero b)⟩⟩
/-- a pass: from e0, with the nodes below a looked at -/
def zPs (n : Nat) (P : Nat → Nat → Prop) (wo : Int32) (e0 a e : Nat) : Prop := zG n P wo e ∧ (∀ k, e0.testBit k = true → e.testBit k = true) ∧ ∀ a' b, a' < a → b < n → e0.testBit a' = true → ¬ nI b = wo → P a' b → e.testBit b = true
theorem zPs_skip {n : Nat} {P : Nat → Nat → Prop} {wo : Int32} {e0 a e : Nat} (h : zPs n P wo e0 a e) (ha : ¬ e.testBit a = true) : zPs n P wo e0 (a + 1) e := by
  refine ⟨h.1, h.2.1, fun a' b h1 h2 h3 h4 h5 => ?_⟩
  by_cases he : a' = a
  · subst he; exact absurd (h.2.1 _ h3) ha
  · exact h.2.2 a' b (by omega) h2 h3 h4 h5
theorem zPs_step {n : Nat} {P : Nat → Nat → Prop} {wo : Int32} {e0 a e s : Nat} (h : zPs n P wo e0 a e) (han : a < n) (ha : e.testBit a = true) (hs : s < 512) (hb : ∀ b, s.testBit b = true ↔ (b < n ∧ ¬ nI b = wo ∧ P a b)) : zPs n P wo e0 (a + 1) (e ||| s) := by
  have hor : ∀ k, (e ||| s).testBit k = true ↔ (e.testBit k = true ∨ s.testBit k = true) := fun k => by rw [Nat.testBit_or, Bool.or_eq_true]
  refine ⟨⟨or512 h.1.1 hs, fun k hk => ?_, (hor 0).mpr (Or.inl h.1.2.2.1), fun Q q0 q1 k hk => ?_⟩, fun k hk => (hor k).mpr (Or.inl (h.2.1 k hk)), fun a' b h1 h2 h3 h4 h5 => ?_⟩
  · rcases (hor k).mp hk with q | q
    · exact h.1.2.1 k q
    · exact ((hb k).mp q).1
  · rcases (hor k).mp hk with q | q
    · exact h.1.2.2.2 Q q0 q1 k q
    · obtain ⟨w1, w2, w3⟩ := (hb k).mp q
      exact q1 a k han w1 (h.1.2.2.2 Q q0 q1 a ha) w2 w3
  · by_cases he : a' = a
    · subst he; exact (hor b).mpr (Or.inr ((hb b).mpr ⟨h2, h4, h5⟩))
    · exact (hor b).mpr (Or.inl (h.2.2 a' b (by omega) h2 h3 h4 h5))
/-- behind a whole pass: closed, or more than before -/
theorem zPs_end {n : Nat} {P : Nat → Nat → Prop} {wo : Int32} {e0 e : Nat} (h : zPs n P wo e0 n e) (hG0 : zG n P wo e0) : (e = e0 ∧ zCl n P wo e0) ∨ zpc e0 < zpc e := by
  by_cases he : e = e0
  · refine Or.inl ⟨he, fun a b ha hb h1 h2 h3 => ?_⟩
    have := h.2.2 a b ha hb h1 h2 h3
    rw [he] at this; exact this
  · exact Or.inr (zpc_lt h.1.1 h.2.1 (fun q => he q.symm))
set_option maxRecDepth 100000 in
set_option maxHeartbeats 4000000 in
theorem c_Way_reached (V A : zV) (wo : Int32) (n : Nat) (hn : V 1 4 = nI n) (h1 : 1 ≤ n) (h9 : n ≤ 9) : CQ Y_Way_reached 1 [.ref 31, .int wo] V A (fun r V' A' => (∃ e, r = nI e ∧ e < 512 ∧ zRS n (fun a b => ¬ A 3 (a * 9 + b) = 1000000000) wo e) ∧ V' = V ∧ A' = A) := by
  by_cases hw0 : wo = 0
  · refine CQ.of (lv := [.ref 31, .int wo, zu, zu, zu]) k_Way_reached.1 rfl (by decide) rfl rfl (Nat.le_of_ble_eq_true rfl) ?_
    refine x_iload_n (pc := 0) d_Way_reached_0 rfl ?_
    refine x_if_ne (pc := 1) (tgt := 6) d_Way_reached_1 (by decide) (fun h => absurd hw0 h) (fun h1 => ?_)
    refine x_iconst (pc := 4) (v := 0) d_Way_reached_4 (by decide) ?_
    refine y_iret (pc := 5) d_Way_reached_5 rfl ?_
    exact ⟨⟨0, rfl, by omega, Or.inl ⟨hw0, rfl⟩⟩, rfl, rfl⟩
  · have hS : ∀ i, i ≤ n → ∀ e, zG n (fun a b => ¬ A 3 (a * 9 + b) = 1000000000) wo e → (zCl n (fun a b => ¬ A 3 (a * 9 + b) = 1000000000) wo e ∨ i ≤ zpc e) → X Y_Way_reached (zrm 1) (0, fun _ => 0) (zFq 1 (fun r V' A' => (∃ e, r = nI e ∧ e < 512 ∧ zRS n (fun a b => ¬ A 3 (a * 9 + b) = 1000000000) wo e) ∧ V' = V ∧ A' = A)) 10 [.ref 31, .int wo, .int (nI e), .int (nI i), zu] [] (cells V A) 0 0 := by
      refine z_down (fun e hG hc => ?_) (fun i hi ih e hG hc => ?_)
      · have hcl : zCl n (fun a b => ¬ A 3 (a * 9 + b) = 1000000000) wo e := by
          rcases hc with q | q
          · exact q
          · exact fun a b _ hb _ _ _ => zpc_full h9 hG.2.1 q b hb
        refine x_iload_n (pc := 10) d_Way_reached_10 rfl ?_
        refine x_aload_n (pc := 11) d_Way_reached_11 rfl ?_
        refine x_get (pc := 12) (j := 0) d_Way_reached_12 f_Way_15 rfl rfl (Nat.le_of_ble_eq_true rfl) rfl rfl rfl ?_
        refine x_get (pc := 15) (j := 4) d_Way_reached_15 f_Way_24 rfl rfl (Nat.le_of_ble_eq_true rfl) rfl rfl rfl ?_
        refine x_icmp_ge (pc := 18) (tgt := 67) d_Way_reached_18 (by decide) (fun h18 => ?_) (fun h => by rw [hn] at h; exact absurd (nI_le (by omega) (by omega)) h)
        refine x_iload_n (pc := 67) d_Way_reached_67 rfl ?_
        refine y_iret (pc := 68) d_Way_reached_68 rfl ?_
        exact ⟨⟨e, rfl, hG.1, Or.inr ⟨hw0, hG, hcl⟩⟩, rfl, rfl⟩
      · have hT : ∀ a, a ≤ n → ∀ e', zPs n (fun a b => ¬ A 3 (a * 9 + b) = 1000000000) wo e a e' → X Y_Way_reached (zrm 1) (0, fun _ => 0) (zFq 1 (fun r V' A' => (∃ e, r = nI e ∧ e < 512 ∧ zRS n (fun a b => ¬ A 3 (a * 9 + b) = 1000000000) wo e) ∧ V' = V ∧ A' = A)) 24 [.ref 31, .int wo, .int (nI e'), .int (nI i), .int (nI a)] [] (cells V A) 0 0 := by
          refine z_down (fun e' hp => ?_) (fun a ha ih2 e' hp => ?_)
          · refine x_iload (pc := 24) d_Way_reached_24 rfl ?_
            refine x_aload_n (pc := 26) d_Way_reached_26 rfl ?_
            refine x_get (pc := 27) (j := 0) d_Way_reached_27 f_Way_15 rfl rfl (Nat.le_of_ble_eq_true rfl) rfl rfl rfl ?_
            refine x_get (pc := 30) (j := 4) d_Way_reached_30 f_Way_24 rfl rfl (Nat.le_of_ble_eq_true rfl) rfl rfl rfl ?_
            refine x_icmp_ge (pc := 33) (tgt := 61) d_Way_reached_33 (by decide) (fun h33 => ?_) (fun h => by rw [hn] at h; exact absurd (nI_le (by omega) (by omega)) h)
            refine y_inc3 (pc := 61) (v := 1) d_Way_reached_61 (by decide) ?_
            refine x_goto (pc := 64) (tgt := 10) d_Way_reached_64 (by decide) ?_
            rw [show nI i + 1 = nI (i + 1) from (nI_succ i).symm]
            refine y_tail (p := [_, _, _, _]) (t := [_]) rfl rfl (by simp [Value.category]) (ih e' hp.1 ?_)
            rcases zPs_end hp hG with ⟨q1, q2⟩ | q
            · rw [q1]; exact Or.inl q2
            · rcases hc with w | w
              · refine Or.inl (fun a b h1 h2 h3 h4 h5 => hp.2.1 b ?_)
                exact w a b h1 h2 (hp.1.2.2.2 (fun k => e.testBit k = true) hG.2.2.1 (fun a b g1 g2 g3 g4 g5 => w a b g1 g2 g3 g4 g5) a h3) h4 h5
              · exact Or.inr (by omega)
          · refine x_iload (pc := 24) d_Way_reached_24 rfl ?_
            refine x_aload_n (pc := 26) d_Way_reached_26 rfl ?_
            refine x_get (pc := 27) (j := 0) d_Way_reached_27 f_Way_15 rfl rfl (Nat.le_of_ble_eq_true rfl) rfl rfl rfl ?_
            refine x_get (pc := 30) (j := 4) d_Way_reached_30 f_Way_24 rfl rfl (Nat.le_of_ble_eq_true rfl) rfl rfl rfl ?_
            refine x_icmp_ge (pc := 33) (tgt := 61) d_Way_reached_33 (by decide) (fun h => by rw [hn] at h; exact absurd h (nI_ge (by omega) (by omega))) (fun h33 => ?_)
            refine x_iload_n (pc := 36) d_Way_reached_36 rfl ?_
            refine x_iconst (pc := 37) (v := 1) d_Way_reached_37 (by decide) ?_
            refine x_iload (pc := 38) d_Way_reached_38 rfl ?_
            refine x_ishl (pc := 40) d_Way_reached_40 ?_
            refine x_iand (pc := 41) d_Way_reached_41 ?_
            refine x_if_eq (pc := 42) (tgt := 55) d_Way_reached_42 (by decide) (fun h42 => ?_) (fun h42 => ?_)
            · refine y_inc4 (pc := 55) (v := 1) d_Way_reached_55 (by decide) ?_
              refine x_goto (pc := 58) (tgt := 24) d_Way_reached_58 (by decide) ?_
              rw [show nI a + 1 = nI (a + 1) from (nI_succ a).symm]
              exact ih2 e' (zPs_skip hp (fun q => by have := (z9_and e' hp.1.1 a (by omega)).mp h42; rw [q] at this; cases this))
            · refine x_iload_n (pc := 45) d_Way_reached_45 rfl ?_
              refine x_aload_n (pc := 46) d_Way_reached_46 rfl ?_
              refine x_iload (pc := 47) d_Way_reached_47 rfl ?_
              refine x_iload_n (pc := 49) d_Way_reached_49 rfl ?_
              refine y_callV (pc := 50) (c_Way_stepFrom _ _ a wo n hn h1 h9 ha) k_Way_stepFrom d_Way_reached_50 m_Way_37 (by decide) rfl rfl rfl rfl p_Way_stepFrom (K := fun v' V' A' hq => ?_)
              obtain ⟨⟨s, hv, hs1, hs2⟩, hV, hA⟩ := hq; rw [hV, hA, hv]
              refine x_ior (pc := 53) d_Way_reached_53 ?_
              rw [nx_or]
              refine y_ist2 (pc := 54) d_Way_reached_54 ?_
              refine y_inc4 (pc := 55) (v := 1) d_Way_reached_55 (by decide) ?_
              refine x_goto (pc := 58) (tgt := 24) d_Way_reached_58 (by decide) ?_
              rw [show nI a + 1 = nI (a + 1) from (nI_succ a).symm]
              exact ih2 _ (zPs_step hp ha (by cases hq : e'.testBit a with | true => rfl | false => exact absurd ((z9_and e' hp.1.1 a (by omega)).mpr hq) h42) hs1 hs2)
        refine x_iload_n (pc := 10) d_Way_reached_10 rfl ?_
        refine x_aload_n (pc := 11) d_Way_reached_11 rfl ?_
        refine x_get (pc := 12) (j := 0) d_Way_reached_12 f_Way_15 rfl rfl (Nat.le_of_ble_eq_true rfl) rfl rfl rfl ?_
        refine x_get (pc := 15) (j := 4) d_Way_reached_15 f_Way_24 rfl rfl (Nat.le_of_ble_eq_true rfl) rfl rfl rfl ?_
        refine x_icmp_ge (pc := 18) (tgt := 67) d_Way_reached_18 (by decide) (fun h => by rw [hn] at h; exact absurd h (nI_ge (by omega) (by omega))) (fun h18 => ?_)
        refine x_iconst (pc := 21) (v := 0) d_Way_reached_21 (by decide) ?_
        refine y_ist4 (pc := 22) d_Way_reached_22 ?_
        exact hT 0 (Nat.zero_le _) e ⟨hG, fun k q => q, fun a' b h1 => absurd h1 (Nat.not_lt_zero a')⟩
    refine CQ.of (lv := [.ref 31, .int wo, zu, zu, zu]) k_Way_reached.1 rfl (by decide) rfl rfl (Nat.le_of_ble_eq_true rfl) ?_
    refine x_iload_n (pc := 0) d_Way_reached_0 rfl ?_
    refine x_if_ne (pc := 1) (tgt := 6) d_Way_reached_1 (by decide) (fun h1 => ?_) (fun h => absurd h hw0)
    refine x_iconst (pc := 6) (v := 1) d_Way_reached_6 (by decide) ?_
    refine y_ist2 (pc := 7) d_Way_reached_7 ?_
    refine x_iconst (pc := 8) (v := 1) d_Way_reached_8 (by decide) ?_
    refine y_ist3 (pc := 9) d_Way_reached_9 ?_
    exact hS 1 (by omega) 1 ⟨by omega, fun k hk => by (have h0 : k = 0 := by (apply Classical.byContradiction; intro q; rw [show (1 : Nat) = 2 ^ 0 from rfl, Nat.testBit_two_pow] at hk; simp at hk; omega)); omega, rfl, fun Q q0 _ k hk => by (have h0 : k = 0 := by (apply Classical.byContradiction; intro q; rw [show (1 : Nat) = 2 ^ 0 from rfl, Nat.testBit_two_pow] at hk; simp at hk; omega)); rw [h0]; exact q0⟩ (Or.inr (by decide))
/-- inside a node's row: of the nodes below b -/
def zPb (n : Nat) (P : Nat → Nat → Prop) (wo : Int32) (e0 a b e : Nat) : Prop := zG n P wo e ∧ (∀ k, e0.testBit k = true → e.testBit k = true) ∧ (∀ a' b', a' < a → b' < n → e0.testBit a' = true → ¬ nI b' = wo → P a' b' → e.testBit b' = true) ∧ ∀ b', b' < b → e0.testBit a = true → ¬ nI b' = wo → P a b' → e.testBit b' = true
theorem zPb_0 {n : Nat} {P : Nat → Nat → Prop} {wo : Int32} {e0 a e : Nat} (h : zPs n P wo e0 a e) : zPb n P wo e0 a 0 e := ⟨h.1, h.2.1, h.2.2, fun b' hb => absurd hb (Nat.not_lt_zero b')⟩
theorem zPb_n {n : Nat} {P : Nat → Nat → Prop} {wo : Int32} {e0 a e : Nat} (h : zPb n P wo e0 a n e) : zPs n P wo e0 (a + 1) e := by
  refine ⟨h.1, h.2.1, fun a' b h1 h2 h3 h4 h5 => ?_⟩
  by_cases he : a' = a
  · subst he; exact h.2.2.2 b h2 h3 h4 h5
  · exact h.2.2.1 a' b (by omega) h2 h3 h4 h5
theorem zPb_skip {n : Nat} {P : Nat → Nat → Prop} {wo : Int32} {e0 a b e : Nat} (h : zPb n P wo e0 a b e) (hs : e0.testBit a = true → ¬ nI b = wo → P a b → e.testBit b = true) : zPb n P wo e0 a (b + 1) e := by
  refine ⟨h.1, h.2.1, h.2.2.1, fun b' h1 h2 h3 h4 => ?_⟩
  by_cases he : b' = b
  · subst he; exact hs h2 h3 h4
  · exact h.2.2.2 b' (by omega) h2 h3 h4
theorem zPb_step {n : Nat} {P : Nat → Nat → Prop} {wo : Int32} {e0 a b e : Nat} (h : zPb n P wo e0 a b e) (h9 : n ≤ 9) (han : a < n) (hbn : b < n) (ha : e.testBit a = true) (hw : ¬ nI b = wo) (hp : P a b) : zPb n P wo e0 a (b + 1) (e ||| 2 ^ b) := by
  have hor : ∀ k, (e ||| 2 ^ b).testBit k = true ↔ (e.testBit k = true ∨ k = b) := fun k => tb_set e b k
  refine ⟨⟨or512 h.1.1 (p2lt (by omega)), fun k hk => ?_, (hor 0).mpr (Or.inl h.1.2.2.1), fun Q q0 q1 k hk => ?_⟩, fun k hk => (hor k).mpr (Or.inl (h.2.1 k hk)), fun a' b' h1 h2 h3 h4 h5 => (hor b').mpr (Or.inl (h.2.2.1 a' b' h1 h2 h3 h4 h5)), fun b' h1 h2 h3 h4 => ?_⟩
  · rcases (hor k).mp hk with q | q
    · exact h.1.2.1 k q
    · omega
  · rcases (hor k).mp hk with q | q
    · exact h.1.2.2.2 Q q0 q1 k q
    · subst q; exact q1 a k han hbn (h.1.2.2.2 Q q0 q1 a ha) hw hp
  · by_cases he : b' = b
    · exact (hor b').mpr (Or.inr he)
    · exact (hor b').mpr (Or.inl (h.2.2.2 b' (by omega) h2 h3 h4))
set_option maxRecDepth 100000 in
set_option maxHeartbeats 4000000 in
theorem c_Mo_reached_0 (V A : zV)  (n : Nat) (hn : V 36 1 = nI n) (h1 : 1 ≤ n) (h9 : n ≤ 9) : CQ Y_Mo_reached 0 [.ref 36, .int 0] V A (fun r V' A' => r = 0 ∧ V' = V ∧ A' = A) := by
  have hB : ∀ a, a < n → (∀ k, k ≤ n → X Y_Mo_reached (zrm 0) (0, fun _ => 0) (zFq 0 (fun r V' A' => r = 0 ∧ V' = V ∧ A' = A)) 22 [.ref 36, .int 0, .int 0, .int 1, .int 0, .int (nI (a + 1)), zu] [] (cells V A) 0 0) → ∀ b, b ≤ n → X Y_Mo_reached (zrm 0) (0, fun _ => 0) (zFq 0 (fun r V' A' => r = 0 ∧ V' = V ∧ A' = A)) 34 [.ref 36, .int 0, .int 0, .int 1, .int 0, .int (nI a), .int (nI b)] [] (cells V A) 0 0 := by
    intro a ha hn2
    refine z_down ?_ (fun b hb ih => ?_)
    · refine x_iload (pc := 34) d_Mo_reached_34 rfl ?_
      refine x_aload_n (pc := 36) d_Mo_reached_36 rfl ?_
      refine x_get (pc := 37) (j := 1) d_Mo_reached_37 f_Mo_13 rfl rfl (Nat.le_of_ble_eq_true rfl) rfl rfl rfl ?_
      refine x_icmp_ge (pc := 40) (tgt := 90) d_Mo_reached_40 (by decide) (fun h40 => ?_) (fun h => by rw [hn] at h; exact absurd (nI_le (by omega) (by omega)) h)
      refine y_inc5 (pc := 90) (v := 1) d_Mo_reached_90 (by decide) ?_
      refine x_goto (pc := 93) (tgt := 22) d_Mo_reached_93 (by decide) ?_
      rw [show nI a + 1 = nI (a + 1) from (nI_succ a).symm]
      exact y_tail (p := [_, _, _, _, _, _]) (t := [_]) rfl rfl (by simp [Value.category]) (hn2 0 (Nat.zero_le _))
    · refine x_iload (pc := 34) d_Mo_reached_34 rfl ?_
      refine x_aload_n (pc := 36) d_Mo_reached_36 rfl ?_
      refine x_get (pc := 37) (j := 1) d_Mo_reached_37 f_Mo_13 rfl rfl (Nat.le_of_ble_eq_true rfl) rfl rfl rfl ?_
      refine x_icmp_ge (pc := 40) (tgt := 90) d_Mo_reached_40 (by decide) (fun h => by rw [hn] at h; exact absurd h (nI_ge (by omega) (by omega))) (fun h40 => ?_)
      refine x_iload_n (pc := 43) d_Mo_reached_43 rfl ?_
      refine x_iload (pc := 44) d_Mo_reached_44 rfl ?_
      refine x_ishr (pc := 46) d_Mo_reached_46 ?_
      refine x_iconst (pc := 47) (v := 1) d_Mo_reached_47 (by decide) ?_
      refine x_iand (pc := 48) d_Mo_reached_48 ?_
      refine x_iconst (pc := 49) (v := 1) d_Mo_reached_49 (by decide) ?_
      refine x_icmp_ne (pc := 50) (tgt := 84) d_Mo_reached_50 (by decide) (fun h50 => ?_) (fun h => by have := (z9_shr 0 (by omega) a (by omega)).mp h; rw [Nat.zero_testBit] at this; cases this)
      refine y_inc6 (pc := 84) (v := 1) d_Mo_reached_84 (by decide) ?_
      refine x_goto (pc := 87) (tgt := 34) d_Mo_reached_87 (by decide) ?_
      rw [show nI b + 1 = nI (b + 1) from (nI_succ b).symm]
      exact ih
  have hA : ∀ a, a ≤ n → X Y_Mo_reached (zrm 0) (0, fun _ => 0) (zFq 0 (fun r V' A' => r = 0 ∧ V' = V ∧ A' = A)) 22 [.ref 36, .int 0, .int 0, .int 1, .int 0, .int (nI a), zu] [] (cells V A) 0 0 := by
    refine z_down ?_ (fun a ha ih => ?_)
    · refine x_iload (pc := 22) d_Mo_reached_22 rfl ?_
      refine x_aload_n (pc := 24) d_Mo_reached_24 rfl ?_
      refine x_get (pc := 25) (j := 1) d_Mo_reached_25 f_Mo_13 rfl rfl (Nat.le_of_ble_eq_true rfl) rfl rfl rfl ?_
      refine x_icmp_ge (pc := 28) (tgt := 96) d_Mo_reached_28 (by decide) (fun h28 => ?_) (fun h => by rw [hn] at h; exact absurd (nI_le (by omega) (by omega)) h)
      refine x_iload_n (pc := 96) d_Mo_reached_96 rfl ?_
      refine x_iload (pc := 97) d_Mo_reached_97 rfl ?_
      refine x_icmp_eq (pc := 99) (tgt := 106) d_Mo_reached_99 (by decide) (fun h99 => ?_) (fun h => absurd rfl h)
      refine x_iconst (pc := 106) (v := 0) d_Mo_reached_106 (by decide) ?_
      refine y_ist3 (pc := 107) d_Mo_reached_107 ?_
      refine x_goto (pc := 108) (tgt := 12) d_Mo_reached_108 (by decide) ?_
      refine x_iload_n (pc := 12) d_Mo_reached_12 rfl ?_
      refine x_if_eq (pc := 13) (tgt := 111) d_Mo_reached_13 (by decide) (fun _ => ?_) (fun h => absurd h (by decide))
      refine x_iload_n (pc := 111) d_Mo_reached_111 rfl ?_
      refine y_iret (pc := 112) d_Mo_reached_112 rfl ?_
      exact ⟨rfl, rfl, rfl⟩
    · refine x_iload (pc := 22) d_Mo_reached_22 rfl ?_
      refine x_aload_n (pc := 24) d_Mo_reached_24 rfl ?_
      refine x_get (pc := 25) (j := 1) d_Mo_reached_25 f_Mo_13 rfl rfl (Nat.le_of_ble_eq_true rfl) rfl rfl rfl ?_
      refine x_icmp_ge (pc := 28) (tgt := 96) d_Mo_reached_28 (by decide) (fun h => by rw [hn] at h; exact absurd h (nI_ge (by omega) (by omega))) (fun h28 => ?_)
      refine x_iconst (pc := 31) (v := 0) d_Mo_reached_31 (by decide) ?_
      refine y_ist6 (pc := 32) d_Mo_reached_32 ?_
      exact hB a ha (fun _ _ => ih) 0 (Nat.zero_le _)
  refine CQ.of (lv := [.ref 36, .int 0, zu, zu, zu, zu, zu]) k_Mo_reached.1 rfl (by decide) rfl rfl (Nat.le_of_ble_eq_true rfl) ?_
  refine x_iload_n (pc := 0) d_Mo_reached_0 rfl ?_
  refine x_if_ne (pc := 1) (tgt := 8) d_Mo_reached_1 (by decide) (fun h => absurd h (by decide)) (fun _ => ?_)
  refine x_iconst (pc := 4) (v := 0) d_Mo_reached_4 (by decide) ?_
  refine x_goto (pc := 5) (tgt := 9) d_Mo_reached_5 (by decide) ?_
  refine y_ist2 (pc := 9) d_Mo_reached_9 ?_
  refine x_iconst (pc := 10) (v := 1) d_Mo_reached_10 (by decide) ?_
  refine y_ist3 (pc := 11) d_Mo_reached_11 ?_
  refine x_iload_n (pc := 12) d_Mo_reached_12 rfl ?_
  refine x_if_eq (pc := 13) (tgt := 111) d_Mo_reached_13 (by decide) (fun h => absurd h (by decide)) (fun _ => ?_)
  refine x_iload_n (pc := 16) d_Mo_reached_16 rfl ?_
  refine y_ist4 (pc := 17) d_Mo_reached_17 ?_
  refine x_iconst (pc := 19) (v := 0) d_Mo_reached_19 (by decide) ?_
  refine y_ist5 (pc := 20) d_Mo_reached_20 ?_
  exact hA 0 (Nat.zero_le _)
set_option maxRecDepth 100000 in
set_option maxHeartbeats 4000000 in
theorem c_Mo_reached (V A : zV) (wo : Int32) (n : Nat) (hn : V 36 1 = nI n) (h1 : 1 ≤ n) (h9 : n ≤ 9) : CQ Y_Mo_reached 0 [.ref 36, .int wo] V A (fun r V' A' => (∃ e, r = nI e ∧ e < 512 ∧ zRS n (fun a b => ¬ A 38 (9 * a + b) = 1000000) wo e) ∧ V' = V ∧ A' = A) := by
  by_cases hw0 : wo = 0
  · subst hw0
    refine CQ.mono (c_Mo_reached_0 V A n hn h1 h9) (fun r V' A' h => ⟨⟨0, h.1, by omega, Or.inl ⟨rfl, rfl⟩⟩, h.2⟩)
  have hP : ∀ e, zG n (fun a b => ¬ A 38 (9 * a + b) = 1000000) wo e → (∀ e', zPs n (fun a b => ¬ A 38 (9 * a + b) = 1000000) wo e n e' → X Y_Mo_reached (zrm 0) (0, fun _ => 0) (zFq 0 (fun r V' A' => (∃ e, r = nI e ∧ e < 512 ∧ zRS n (fun a b => ¬ A 38 (9 * a + b) = 1000000) wo e) ∧ V' = V ∧ A' = A)) 96 [.ref 36, .int wo, .int (nI e'), .int 1, .int (nI e), .int (nI n), zu] [] (cells V A) 0 0) → ∀ l5 l6 l7 : Value, l5.category = 1 → l6.category = 1 → X Y_Mo_reached (zrm 0) (0, fun _ => 0) (zFq 0 (fun r V' A' => (∃ e, r = nI e ∧ e < 512 ∧ zRS n (fun a b => ¬ A 38 (9 * a + b) = 1000000) wo e) ∧ V' = V ∧ A' = A)) 12 [.ref 36, .int wo, .int (nI e), .int 1, l5, l6, l7] [] (cells V A) 0 0 := by
    intro e hG K l5 l6 l7 g5 g6
    have hT : ∀ a, a ≤ n → ∀ e', zPs n (fun a b => ¬ A 38 (9 * a + b) = 1000000) wo e a e' → X Y_Mo_reached (zrm 0) (0, fun _ => 0) (zFq 0 (fun r V' A' => (∃ e, r = nI e ∧ e < 512 ∧ zRS n (fun a b => ¬ A 38 (9 * a + b) = 1000000) wo e) ∧ V' = V ∧ A' = A)) 22 [.ref 36, .int wo, .int (nI e'), .int 1, .int (nI e), .int (nI a), zu] [] (cells V A) 0 0 := by
      refine z_down (fun e' hp => ?_) (fun a ha ih e' hp => ?_)
      · refine x_iload (pc := 22) d_Mo_reached_22 rfl ?_
        refine x_aload_n (pc := 24) d_Mo_reached_24 rfl ?_
        refine x_get (pc := 25) (j := 1) d_Mo_reached_25 f_Mo_13 rfl rfl (Nat.le_of_ble_eq_true rfl) rfl rfl rfl ?_
        refine x_icmp_ge (pc := 28) (tgt := 96) d_Mo_reached_28 (by decide) (fun h28 => ?_) (fun h => by rw [hn] at h; exact absurd (nI_le (by omega) (by omega)) h)
        exact K e' hp
      · have hU : ∀ b, b ≤ n → ∀ e', zPb n (fun a b => ¬ A 38 (9 * a + b) = 1000000) wo e a b e' → X Y_Mo_reached (zrm 0) (0, fun _ => 0) (zFq 0 (fun r V' A' => (∃ e, r = nI e ∧ e < 512 ∧ zRS n (fun a b => ¬ A 38 (9 * a + b) = 1000000) wo e) ∧ V' = V ∧ A' = A)) 34 [.ref 36, .int wo, .int (nI e'), .int 1, .int (nI e), .int (nI a), .int (nI b)] [] (cells V A) 0 0 := by
          refine z_down (fun e' hp => ?_) (fun b hb ih2 e' hp => ?_)
          · refine x_iload (pc := 34) d_Mo_reached_34 rfl ?_
            refine x_aload_n (pc := 36) d_Mo_reached_36 rfl ?_
            refine x_get (pc := 37) (j := 1) d_Mo_reached_37 f_Mo_13 rfl rfl (Nat.le_of_ble_eq_true rfl) rfl rfl rfl ?_
            refine x_icmp_ge (pc := 40) (tgt := 90) d_Mo_reached_40 (by decide) (fun h40 => ?_) (fun h => by rw [hn] at h; exact absurd (nI_le (by omega) (by omega)) h)
            refine y_inc5 (pc := 90) (v := 1) d_Mo_reached_90 (by decide) ?_
            refine x_goto (pc := 93) (tgt := 22) d_Mo_reached_93 (by decide) ?_
            rw [show nI a + 1 = nI (a + 1) from (nI_succ a).symm]
            exact y_tail (p := [_, _, _, _, _, _]) (t := [_]) rfl rfl (by simp [Value.category]) (ih e' (zPb_n hp))
          · have hix : 9 * nI a + nI b = nI (9 * a + b) := by rw [show (9 : Int32) = nI 9 from rfl, pk_mul, nI_add]
            have hcl : (nI (9 * a + b)).toNatClampNeg = 9 * a + b := nI_clamp (by omega)
            have hsh := z9_shr e' hp.1.1 a (by omega)
            refine x_iload (pc := 34) d_Mo_reached_34 rfl ?_
            refine x_aload_n (pc := 36) d_Mo_reached_36 rfl ?_
            refine x_get (pc := 37) (j := 1) d_Mo_reached_37 f_Mo_13 rfl rfl (Nat.le_of_ble_eq_true rfl) rfl rfl rfl ?_
            refine x_icmp_ge (pc := 40) (tgt := 90) d_Mo_reached_40 (by decide) (fun h => by rw [hn] at h; exact absurd h (nI_ge (by omega) (by omega))) (fun h40 => ?_)
            refine x_iload_n (pc := 43) d_Mo_reached_43 rfl ?_
            refine x_iload (pc := 44) d_Mo_reached_44 rfl ?_
            refine x_ishr (pc := 46) d_Mo_reached_46 ?_
            refine x_iconst (pc := 47) (v := 1) d_Mo_reached_47 (by decide) ?_
            refine x_iand (pc := 48) d_Mo_reached_48 ?_
            refine x_iconst (pc := 49) (v := 1) d_Mo_reached_49 (by decide) ?_
            refine x_icmp_ne (pc := 50) (tgt := 84) d_Mo_reached_50 (by decide) (fun h50 => ?_) (fun h50 => ?_)
            · refine y_inc6 (pc := 84) (v := 1) d_Mo_reached_84 (by decide) ?_
              refine x_goto (pc := 87) (tgt := 34) d_Mo_reached_87 (by decide) ?_
              rw [show nI b + 1 = nI (b + 1) from (nI_succ b).symm]
              exact ih2 e' (zPb_skip hp (fun q => absurd (hsh.mpr (hp.2.1 a q)) h50))
            · refine x_iload (pc := 53) d_Mo_reached_53 rfl ?_
              refine x_iload_n (pc := 55) d_Mo_reached_55 rfl ?_
              refine x_icmp_eq (pc := 56) (tgt := 84) d_Mo_reached_56 (by decide) (fun h56 => ?_) (fun h56 => ?_)
              · refine y_inc6 (pc := 84) (v := 1) d_Mo_reached_84 (by decide) ?_
                refine x_goto (pc := 87) (tgt := 34) d_Mo_reached_87 (by decide) ?_
                rw [show nI b + 1 = nI (b + 1) from (nI_succ b).symm]
                exact ih2 e' (zPb_skip hp (fun _ q => absurd h56 q))
              · refine x_aload_n (pc := 59) d_Mo_reached_59 rfl ?_
                refine x_get (pc := 60) (j := 3) d_Mo_reached_60 f_Mo_20 rfl rfl (Nat.le_of_ble_eq_true rfl) rfl rfl rfl ?_
                refine x_bipush (pc := 63) (v := 9) d_Mo_reached_63 (by decide) ?_
                refine x_iload (pc := 65) d_Mo_reached_65 rfl ?_
                refine x_imul (pc := 67) d_Mo_reached_67 ?_
                refine x_iload (pc := 68) d_Mo_reached_68 rfl ?_
                refine x_iadd (pc := 70) d_Mo_reached_70 ?_
                refine x_iald (pc := 71) d_Mo_reached_71 rfl (by rw [hix]; exact vp_in_nI (by omega) (by decide)) ?_
                refine x_ldc (pc := 72) (v := 1000000) d_Mo_reached_72 i_Mo_69 ?_
                refine x_icmp_eq (pc := 74) (tgt := 84) d_Mo_reached_74 (by decide) (fun h74 => ?_) (fun h74 => ?_)
                · refine y_inc6 (pc := 84) (v := 1) d_Mo_reached_84 (by decide) ?_
                  refine x_goto (pc := 87) (tgt := 34) d_Mo_reached_87 (by decide) ?_
                  rw [hix, hcl] at h74
                  rw [show nI b + 1 = nI (b + 1) from (nI_succ b).symm]
                  exact ih2 e' (zPb_skip hp (fun _ _ q => absurd h74 q))
                · refine x_iload_n (pc := 77) d_Mo_reached_77 rfl ?_
                  refine x_iconst (pc := 78) (v := 1) d_Mo_reached_78 (by decide) ?_
                  refine x_iload (pc := 79) d_Mo_reached_79 rfl ?_
                  refine x_ishl (pc := 81) d_Mo_reached_81 ?_
                  refine x_ior (pc := 82) d_Mo_reached_82 ?_
                  refine y_ist2 (pc := 83) d_Mo_reached_83 ?_
                  refine y_inc6 (pc := 84) (v := 1) d_Mo_reached_84 (by decide) ?_
                  refine x_goto (pc := 87) (tgt := 34) d_Mo_reached_87 (by decide) ?_
                  rw [hix, hcl] at h74
                  rw [show nI b + 1 = nI (b + 1) from (nI_succ b).symm]
                  rw [z_shl b (by omega), nx_or]
                  exact ih2 _ (zPb_step hp h9 ha hb (hsh.mp h50) h56 h74)
        refine x_iload (pc := 22) d_Mo_reached_22 rfl ?_
        refine x_aload_n (pc := 24) d_Mo_reached_24 rfl ?_
        refine x_get (pc := 25) (j := 1) d_Mo_reached_25 f_Mo_13 rfl rfl (Nat.le_of_ble_eq_true rfl) rfl rfl rfl ?_
        refine x_icmp_ge (pc := 28) (tgt := 96) d_Mo_reached_28 (by decide) (fun h => by rw [hn] at h; exact absurd h (nI_ge (by omega) (by omega))) (fun h28 => ?_)
        refine x_iconst (pc := 31) (v := 0) d_Mo_reached_31 (by decide) ?_
        refine y_ist6 (pc := 32) d_Mo_reached_32 ?_
        exact hU 0 (Nat.zero_le _) e' (zPb_0 hp)
    refine x_iload_n (pc := 12) d_Mo_reached_12 rfl ?_
    refine x_if_eq (pc := 13) (tgt := 111) d_Mo_reached_13 (by decide) (fun h => absurd h (by decide)) (fun _ => ?_)
    refine x_iload_n (pc := 16) d_Mo_reached_16 rfl ?_
    refine y_ist4 (pc := 17) d_Mo_reached_17 ?_
    refine x_iconst (pc := 19) (v := 0) d_Mo_reached_19 (by decide) ?_
    refine y_ist5 (pc := 20) d_Mo_reached_20 ?_
    exact y_tail (p := [_, _, _, _, _, _]) (t := [_]) rfl rfl (by simp [Value.category]) (hT 0 (Nat.zero_le _) e ⟨hG, fun k q => q, fun a' b h1 => absurd h1 (Nat.not_lt_zero a')⟩)
  have hS : ∀ m e, zG n (fun a b => ¬ A 38 (9 * a + b) = 1000000) wo e → 9 ≤ zpc e + m → ∀ l5 l6 l7 : Value, l5.category = 1 → l6.category = 1 → X Y_Mo_reached (zrm 0) (0, fun _ => 0) (zFq 0 (fun r V' A' => (∃ e, r = nI e ∧ e < 512 ∧ zRS n (fun a b => ¬ A 38 (9 * a + b) = 1000000) wo e) ∧ V' = V ∧ A' = A)) 12 [.ref 36, .int wo, .int (nI e), .int 1, l5, l6, l7] [] (cells V A) 0 0 := by
    intro m
    induction m with
    | zero =>
      intro e hG hm l5 l6 l7 g5 g6
      refine hP e hG (fun e' hp => ?_) l5 l6 l7 g5 g6
      have hz := z9_pop e' hp.1.1
      have he := zPs_end hp hG
      by_cases hee : e' = e
      · have hcl : zCl n (fun a b => ¬ A 38 (9 * a + b) = 1000000) wo e' := by
          rcases he with ⟨q1, q2⟩ | q
          · rw [q1]; exact q2
          · rw [hee] at q; omega
        refine x_iload_n (pc := 96) d_Mo_reached_96 rfl ?_
        refine x_iload (pc := 97) d_Mo_reached_97 rfl ?_
        refine x_icmp_eq (pc := 99) (tgt := 106) d_Mo_reached_99 (by decide) (fun h99 => ?_) (fun h => absurd (by rw [hee]) h)
        refine x_iconst (pc := 106) (v := 0) d_Mo_reached_106 (by decide) ?_
        refine y_ist3 (pc := 107) d_Mo_reached_107 ?_
        refine x_goto (pc := 108) (tgt := 12) d_Mo_reached_108 (by decide) ?_
        refine x_iload_n (pc := 12) d_Mo_reached_12 rfl ?_
        refine x_if_eq (pc := 13) (tgt := 111) d_Mo_reached_13 (by decide) (fun _ => ?_) (fun h => absurd h (by decide))
        refine x_iload_n (pc := 111) d_Mo_reached_111 rfl ?_
        refine y_iret (pc := 112) d_Mo_reached_112 rfl ?_
        exact ⟨⟨e', rfl, hp.1.1, Or.inr ⟨hw0, hp.1, hcl⟩⟩, rfl, rfl⟩
      · have hlt : zpc e < zpc e' := by
          rcases he with ⟨q1, q2⟩ | q
          · exact absurd q1 hee
          · exact q
        exact absurd hlt (by omega)
    | succ m ih =>
      intro e hG hm l5 l6 l7 g5 g6
      refine hP e hG (fun e' hp => ?_) l5 l6 l7 g5 g6
      have hz := z9_pop e' hp.1.1
      have he := zPs_end hp hG
      by_cases hee : e' = e
      · have hcl : zCl n (fun a b => ¬ A 38 (9 * a + b) = 1000000) wo e' := by
          rcases he with ⟨q1, q2⟩ | q
          · rw [q1]; exact q2
          · rw [hee] at q; omega
        refine x_iload_n (pc := 96) d_Mo_reached_96 rfl ?_
        refine x_iload (pc := 97) d_Mo_reached_97 rfl ?_
        refine x_icmp_eq (pc := 99) (tgt := 106) d_Mo_reached_99 (by decide) (fun h99 => ?_) (fun h => absurd (by rw [hee]) h)
        refine x_iconst (pc := 106) (v := 0) d_Mo_reached_106 (by decide) ?_
        refine y_ist3 (pc := 107) d_Mo_reached_107 ?_
        refine x_goto (pc := 108) (tgt := 12) d_Mo_reached_108 (by decide) ?_
        refine x_iload_n (pc := 12) d_Mo_reached_12 rfl ?_
        refine x_if_eq (pc := 13) (tgt := 111) d_Mo_reached_13 (by decide) (fun _ => ?_) (fun h => absurd h (by decide))
        refine x_iload_n (pc := 111) d_Mo_reached_111 rfl ?_
        refine y_iret (pc := 112) d_Mo_reached_112 rfl ?_
        exact ⟨⟨e', rfl, hp.1.1, Or.inr ⟨hw0, hp.1, hcl⟩⟩, rfl, rfl⟩
      · have hlt : zpc e < zpc e' := by
          rcases he with ⟨q1, q2⟩ | q
          · exact absurd q1 hee
          · exact q
        refine x_iload_n (pc := 96) d_Mo_reached_96 rfl ?_
        refine x_iload (pc := 97) d_Mo_reached_97 rfl ?_
        refine x_icmp_eq (pc := 99) (tgt := 106) d_Mo_reached_99 (by decide) (fun h => absurd ((nI_eq (by have := hp.1.1; omega) (by have := hG.1; omega)).mp h) hee) (fun h99 => ?_)
        refine x_iconst (pc := 102) (v := 1) d_Mo_reached_102 (by decide) ?_
        refine x_goto (pc := 103) (tgt := 107) d_Mo_reached_103 (by decide) ?_
        refine y_ist3 (pc := 107) d_Mo_reached_107 ?_
        refine x_goto (pc := 108) (tgt := 12) d_Mo_reached_108 (by decide) ?_
        exact ih e' hp.1 (by omega) _ _ _ rfl rfl
  refine CQ.of (lv := [.ref 36, .int wo, zu, zu, zu, zu, zu]) k_Mo_reached.1 rfl (by decide) rfl rfl (Nat.le_of_ble_eq_true rfl) ?_
  refine x_iload_n (pc := 0) d_Mo_reached_0 rfl ?_
  refine x_if_ne (pc := 1) (tgt := 8) d_Mo_reached_1 (by decide) (fun h1 => ?_) (fun h => absurd h hw0)
  refine x_iconst (pc := 8) (v := 1) d_Mo_reached_8 (by decide) ?_
  refine y_ist2 (pc := 9) d_Mo_reached_9 ?_
  refine x_iconst (pc := 10) (v := 1) d_Mo_reached_10 (by decide) ?_
  refine y_ist3 (pc := 11) d_Mo_reached_11 ?_
  exact hS 9 1 ⟨by omega, fun k hk => by (have h0 : k = 0 := by (apply Classical.byContradiction; intro q; rw [show (1 : Nat) = 2 ^ 0 from rfl, Nat.testBit_two_pow] at hk; simp at hk; omega)); omega, rfl, fun Q q0 _ k hk => by (have h0 : k = 0 := by (apply Classical.byContradiction; intro q; rw [show (1 : Nat) = 2 ^ 0 from rfl, Nat.testBit_two_pow] at hk; simp at hk; omega)); rw [h0]; exact q0⟩ (by omega) _ _ _ rfl rfl
