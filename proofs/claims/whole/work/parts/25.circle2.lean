set_option maxRecDepth 100000 in
set_option maxHeartbeats 4000000 in
theorem c_CW_circle (V A : zV) (x : Int32) (n : Nat) (hn : V 1 4 = nI n) (h1 : 1 ≤ n) (h9 : n ≤ 9) (hx : ∀ i, i < 9 → A 29 i = (-1) ∨ ∃ j, j < n ∧ A 29 i = nI j) : CQ Y_CW_circle 10 [.ref 0, .int x] V A (fun r V' A' => ∃ f, ((x = (-1) ∧ r = nI (ccn (fun i => cF (A 29) i n i 0) n)) ∨ (¬ x = (-1) ∧ ¬ (0 ≤ x ∧ x < nI (ccn (fun i => cF (A 29) i n i 0) n)) ∧ r = (-2000000)) ∨ ((0 ≤ x ∧ x < nI (ccn (fun i => cF (A 29) i n i 0) n)) ∧ r = f x.toNatClampNeg)) ∧ (∀ k, k < n → ¬ (fun i => cF (A 29) i n i 0) k = 0 → f (ccn (fun i => cF (A 29) i n i 0) k) = (fun i => cF (A 29) i n i 0) k) ∧ V' = V ∧ A' = za A 30 f) := by
  refine CQ.of (lv := [.ref 0, .int x, zu]) k_CW_circle.1 rfl (by decide) rfl rfl (Nat.le_of_ble_eq_true rfl) ?_
  refine x_aload_n (pc := 0) d_CW_circle_0 rfl ?_
  refine x_get (pc := 1) (j := 6) d_CW_circle_1 f_CW_65 rfl rfl (Nat.le_of_ble_eq_true rfl) rfl rfl rfl ?_
  refine y_callV (pc := 4) (c_Cir_find _ _ n hn h1 h9 (by exact hx)) k_Cir_find d_CW_circle_4 m_CW_194 (by decide) rfl rfl rfl rfl p_Cir_find (K := fun v' V' A' hq => ?_)
  obtain ⟨f, hv, hf, hV, hA⟩ := hq; rw [hV, hA, hv]; have hle := ccn_le (fun i => cF (A 29) i n i 0) n
  refine y_ist2 (pc := 7) d_CW_circle_7 ?_
  refine x_iload_n (pc := 8) d_CW_circle_8 rfl ?_
  refine x_iconst (pc := 9) (v := (-1)) d_CW_circle_9 (by decide) ?_
  refine x_icmp_ne (pc := 10) (tgt := 15) d_CW_circle_10 (by decide) (fun h10 => ?_) (fun h10 => ?_)
  · refine x_iload_n (pc := 15) d_CW_circle_15 rfl ?_
    refine x_if_lt (pc := 16) (tgt := 24) d_CW_circle_16 (by decide) (fun h16 => ?_) (fun h16 => ?_)
    · refine x_ldc (pc := 24) (v := (-2000000)) d_CW_circle_24 i_CW_83 ?_
      refine x_goto (pc := 26) (tgt := 38) d_CW_circle_26 (by decide) ?_
      refine y_iret (pc := 38) d_CW_circle_38 rfl ?_
      exact ⟨f, Or.inr (Or.inl ⟨h10, fun q => absurd h16 (Int32.not_lt.mpr q.1), rfl⟩), hf, rfl, rfl⟩
    · refine x_iload_n (pc := 19) d_CW_circle_19 rfl ?_
      refine x_iload_n (pc := 20) d_CW_circle_20 rfl ?_
      refine x_icmp_lt (pc := 21) (tgt := 29) d_CW_circle_21 (by decide) (fun h21 => ?_) (fun h21 => ?_)
      · refine x_aload_n (pc := 29) d_CW_circle_29 rfl ?_
        refine x_get (pc := 30) (j := 6) d_CW_circle_30 f_CW_65 rfl rfl (Nat.le_of_ble_eq_true rfl) rfl rfl rfl ?_
        refine x_get (pc := 33) (j := 2) d_CW_circle_33 f_CW_197 rfl rfl (Nat.le_of_ble_eq_true rfl) rfl rfl rfl ?_
        refine x_iload_n (pc := 36) d_CW_circle_36 rfl ?_
        refine x_iald (pc := 37) d_CW_circle_37 rfl (by obtain ⟨j, hj, rfl⟩ := z_nat (Int32.not_lt.mp h16) h21 (by omega); exact vp_in_nI (by omega) (by decide)) ?_
        refine y_iret (pc := 38) d_CW_circle_38 rfl ?_
        exact ⟨f, Or.inr (Or.inr ⟨⟨Int32.not_lt.mp h16, h21⟩, rfl⟩), hf, rfl, rfl⟩
      · refine x_ldc (pc := 24) (v := (-2000000)) d_CW_circle_24 i_CW_83 ?_
        refine x_goto (pc := 26) (tgt := 38) d_CW_circle_26 (by decide) ?_
        refine y_iret (pc := 38) d_CW_circle_38 rfl ?_
        exact ⟨f, Or.inr (Or.inl ⟨h10, fun q => h21 q.2, rfl⟩), hf, rfl, rfl⟩
  · refine x_iload_n (pc := 13) d_CW_circle_13 rfl ?_
    refine y_iret (pc := 14) d_CW_circle_14 rfl ?_
    exact ⟨f, Or.inl ⟨h10, rfl⟩, hf, rfl, rfl⟩
set_option maxRecDepth 100000 in
set_option maxHeartbeats 4000000 in
theorem c_Mo_circle (V A : zV) (x : Int32) (n : Nat) (hn : V 36 1 = nI n) (h1 : 1 ≤ n) (h9 : n ≤ 9) (hx : ∀ i, i < 9 → A 42 i = (-1) ∨ ∃ j, j < n ∧ A 42 i = nI j) : CQ Y_Mo_circle 10 [.ref 36, .int x] V A (fun r V' A' => ((∃ i, i < n ∧ ¬ (fun i => rF (A 42) i 9 i 0) i = 0 ∧ x = nI (ccn (fun i => rF (A 42) i 9 i 0) i) ∧ r = (fun i => rF (A 42) i 9 i 0) i) ∨ ((∀ i, i < n → ¬ (fun i => rF (A 42) i 9 i 0) i = 0 → ¬ x = nI (ccn (fun i => rF (A 42) i 9 i 0) i)) ∧ ((x = (-1) ∧ r = nI (ccn (fun i => rF (A 42) i 9 i 0) n)) ∨ (¬ x = (-1) ∧ r = (-2000000))))) ∧ V' = zv V 36 0 0 ∧ A' = A) := by
  have hS : ∀ k, k ≤ n → (∀ i, i < k → ¬ (fun i => rF (A 42) i 9 i 0) i = 0 → ¬ x = nI (ccn (fun i => rF (A 42) i 9 i 0) i)) → X Y_Mo_circle (zrm 10) (0, fun _ => 0) (zFq 10 (fun r V' A' => ((∃ i, i < n ∧ ¬ (fun i => rF (A 42) i 9 i 0) i = 0 ∧ x = nI (ccn (fun i => rF (A 42) i 9 i 0) i) ∧ r = (fun i => rF (A 42) i 9 i 0) i) ∨ ((∀ i, i < n → ¬ (fun i => rF (A 42) i 9 i 0) i = 0 → ¬ x = nI (ccn (fun i => rF (A 42) i 9 i 0) i)) ∧ ((x = (-1) ∧ r = nI (ccn (fun i => rF (A 42) i 9 i 0) n)) ∨ (¬ x = (-1) ∧ r = (-2000000))))) ∧ V' = zv V 36 0 0 ∧ A' = A)) 9 [.ref 36, .int x, .int (nI (ccn (fun i => rF (A 42) i 9 i 0) k)), .int (nI k), zu] [] (cells (zv V 36 0 0) A) 0 0 := by
    refine z_down (fun hk => ?_) (fun k hk hs hkk => ?_)
    · refine x_iload_n (pc := 9) d_Mo_circle_9 rfl ?_
      refine x_aload_n (pc := 10) d_Mo_circle_10 rfl ?_
      refine x_get (pc := 11) (j := 1) d_Mo_circle_11 f_Mo_13 rfl rfl (Nat.le_of_ble_eq_true rfl) rfl rfl rfl ?_
      refine x_icmp_ge (pc := 14) (tgt := 46) d_Mo_circle_14 (by decide) (fun h14 => ?_) (fun h => by rw [show zv V 36 0 0 36 1 = V 36 1 from rfl, hn] at h; exact absurd (nI_le (by omega) (by omega)) h)
      refine x_iload_n (pc := 46) d_Mo_circle_46 rfl ?_
      refine x_iconst (pc := 47) (v := (-1)) d_Mo_circle_47 (by decide) ?_
      refine x_icmp_ne (pc := 48) (tgt := 55) d_Mo_circle_48 (by decide) (fun h48 => ?_) (fun h48 => ?_)
      · refine x_ldc (pc := 55) (v := (-2000000)) d_Mo_circle_55 i_Mo_78 ?_
        refine y_iret (pc := 57) d_Mo_circle_57 rfl ?_
        exact ⟨Or.inr ⟨hk, Or.inr ⟨h48, rfl⟩⟩, rfl, rfl⟩
      · refine x_iload_n (pc := 51) d_Mo_circle_51 rfl ?_
        refine x_goto (pc := 52) (tgt := 57) d_Mo_circle_52 (by decide) ?_
        refine y_iret (pc := 57) d_Mo_circle_57 rfl ?_
        exact ⟨Or.inr ⟨hk, Or.inl ⟨h48, rfl⟩⟩, rfl, rfl⟩
    · have hle := ccn_le (fun i => rF (A 42) i 9 i 0) k
      have hsu : ccn (fun i => rF (A 42) i 9 i 0) (k + 1) = ccn (fun i => rF (A 42) i 9 i 0) k + (if (fun i => rF (A 42) i 9 i 0) k = 0 then 0 else 1) := rfl
      refine x_iload_n (pc := 9) d_Mo_circle_9 rfl ?_
      refine x_aload_n (pc := 10) d_Mo_circle_10 rfl ?_
      refine x_get (pc := 11) (j := 1) d_Mo_circle_11 f_Mo_13 rfl rfl (Nat.le_of_ble_eq_true rfl) rfl rfl rfl ?_
      refine x_icmp_ge (pc := 14) (tgt := 46) d_Mo_circle_14 (by decide) (fun h => by rw [show zv V 36 0 0 36 1 = V 36 1 from rfl, hn] at h; exact absurd h (nI_ge (by omega) (by omega))) (fun h14 => ?_)
      refine x_aload_n (pc := 17) d_Mo_circle_17 rfl ?_
      refine x_iload_n (pc := 18) d_Mo_circle_18 rfl ?_
      refine y_fV (pc := 19) (c_Mo_circleOf _ _ k n h9 hk (by exact hx)) k_Mo_circleOf d_Mo_circle_19 m_Mo_172 (by decide) rfl rfl rfl rfl p_Mo_circleOf (K := ?_)
      refine y_ist4 (pc := 22) d_Mo_circle_22 ?_
      refine x_iload (pc := 24) d_Mo_circle_24 rfl ?_
      refine x_if_eq (pc := 26) (tgt := 40) d_Mo_circle_26 (by decide) (fun h26 => ?_) (fun h26 => ?_)
      · refine y_inc3 (pc := 40) (v := 1) d_Mo_circle_40 (by decide) ?_
        refine x_goto (pc := 43) (tgt := 9) d_Mo_circle_43 (by decide) ?_
        have h26 : (fun i => rF (A 42) i 9 i 0) k = 0 := h26
        rw [hsu, if_pos h26, Nat.add_zero] at hs
        rw [show nI k + 1 = nI (k + 1) from (nI_succ k).symm]
        exact y_tail (p := [_, _, _, _]) (t := [_]) rfl rfl (by simp [Value.category]) (hs (fun i hi h => by
          by_cases hik : i = k
          · subst hik; exact absurd h26 h
          · exact hkk i (by omega) h))
      · refine x_iload_n (pc := 29) d_Mo_circle_29 rfl ?_
        refine x_iload_n (pc := 30) d_Mo_circle_30 rfl ?_
        refine x_icmp_ne (pc := 31) (tgt := 37) d_Mo_circle_31 (by decide) (fun h31 => ?_) (fun h31 => ?_)
        · refine y_inc2 (pc := 37) (v := 1) d_Mo_circle_37 (by decide) ?_
          refine y_inc3 (pc := 40) (v := 1) d_Mo_circle_40 (by decide) ?_
          refine x_goto (pc := 43) (tgt := 9) d_Mo_circle_43 (by decide) ?_
          have h26 : ¬ (fun i => rF (A 42) i 9 i 0) k = 0 := h26
          rw [hsu, if_neg h26, nI_succ] at hs
          rw [show nI k + 1 = nI (k + 1) from (nI_succ k).symm]
          exact y_tail (p := [_, _, _, _]) (t := [_]) rfl rfl (by simp [Value.category]) (hs (fun i hi h => by
            by_cases hik : i = k
            · subst hik; exact fun q => h31 q.symm
            · exact hkk i (by omega) h))
        · refine x_iload (pc := 34) d_Mo_circle_34 rfl ?_
          refine y_iret (pc := 36) d_Mo_circle_36 rfl ?_
          exact ⟨Or.inl ⟨k, hk, h26, h31.symm, rfl⟩, rfl, rfl⟩
  refine CQ.of (lv := [.ref 36, .int x, zu, zu, zu]) k_Mo_circle.1 rfl (by decide) rfl rfl (Nat.le_of_ble_eq_true rfl) ?_
  refine x_aload_n (pc := 0) d_Mo_circle_0 rfl ?_
  refine x_iconst (pc := 1) (v := 0) d_Mo_circle_1 (by decide) ?_
  refine y_put (pc := 2) (j := 0) d_Mo_circle_2 f_Mo_1 rfl rfl (Nat.le_of_ble_eq_true rfl) rfl (Nat.le_of_ble_eq_true rfl) rfl rfl (fun _ => rfl) ?_
  refine x_iconst (pc := 5) (v := 0) d_Mo_circle_5 (by decide) ?_
  refine y_ist2 (pc := 6) d_Mo_circle_6 ?_
  refine x_iconst (pc := 7) (v := 0) d_Mo_circle_7 (by decide) ?_
  refine y_ist3 (pc := 8) d_Mo_circle_8 ?_
  exact hS 0 (Nat.zero_le _) (fun i hi => absurd hi (Nat.not_lt_zero i))
theorem pig : ∀ (N : Nat) (f : Nat → Nat), (∀ i, i ≤ N → f i < N) → ∃ i j, i < j ∧ j ≤ N ∧ f i = f j := by
  intro N
  induction N with
  | zero => intro f h; exact absurd (h 0 (Nat.le_refl 0)) (Nat.not_lt_zero _)
  | succ N ih =>
    intro f h
    by_cases hex : ∃ i, i ≤ N ∧ f i = f (N + 1)
    · obtain ⟨i, hi, he⟩ := hex
      exact ⟨i, N + 1, by omega, by omega, he⟩
    · have hne : ∀ i, i ≤ N → f i ≠ f (N + 1) := fun i hi he => hex ⟨i, hi, he⟩
      obtain ⟨i, j, h1, h2, h3⟩ := ih (fun i => if f i = N then f (N + 1) else f i) (fun i hi => by
        have a1 := h i (by omega)
        have a2 := h (N + 1) (by omega)
        have a3 := hne i hi
        by_cases he : f i = N
        · simp only [he, if_true]; omega
        · simp only [he, if_false]; omega)
      refine ⟨i, j, h1, by omega, ?_⟩
      have b1 := hne i (by omega)
      have b2 := hne j (by omega)
      by_cases e1 : f i = N
      · by_cases e2 : f j = N
        · rw [e1, e2]
        · simp only [e1, e2, if_true, if_false] at h3; exact absurd h3.symm b2
      · by_cases e2 : f j = N
        · simp only [e1, e2, if_true, if_false] at h3; exact absurd h3 b1
        · simp only [e1, e2, if_false] at h3; exact h3
theorem z_or_assoc (a b c : Int32) : (a ||| b) ||| c = a ||| (b ||| c) := Int32.or_assoc a b c
theorem z_or_comm (a b : Int32) : a ||| b = b ||| a := Int32.or_comm a b
theorem cr_same (f : Nat → Int32) (a : Nat) : ∀ (m v : Nat) (b b' : Int32), b ||| zbt a = b' ||| zbt v → cF f a m v b = rF f a m v b' := by
  intro m
  induction m with
  | zero => intro v b b' _; rfl
  | succ m ih =>
    intro v b b' h
    rw [cF, rF]
    cases nxO f v with
    | none => rfl
    | some w =>
      show (if w < a then 0 else if w = a then b ||| zbt w else cF f a m w (b ||| zbt w)) = (if w = a then b' ||| zbt v else if w < a then 0 else rF f a m w (b' ||| zbt v))
      by_cases h1 : w = a
      · subst h1
        rw [if_neg (Nat.lt_irrefl w), if_pos rfl, if_pos rfl]; exact h
      · by_cases h2 : w < a
        · rw [if_pos h2, if_neg h1, if_pos h2]
        · rw [if_neg h2, if_neg h1, if_neg h1, if_neg h2]
          refine ih w _ _ ?_
          rw [z_or_assoc, z_or_comm (zbt w) (zbt a), ← z_or_assoc, h]
/-- the search comes to an end within m steps -/
def St (f : Nat → Int32) (a : Nat) : Nat → Nat → Prop
  | 0, _ => False
  | m + 1, v => match nxO f v with
    | none => True
    | some w => w ≤ a ∨ St f a m w
theorem rF_St (f : Nat → Int32) (a : Nat) : ∀ (m v : Nat) (b : Int32), St f a m v → ∀ k, rF f a (m + k) v b = rF f a m v b := by
  intro m
  induction m with
  | zero => intro v b h; exact absurd h id
  | succ m ih =>
    intro v b h k
    rw [show m + 1 + k = (m + k) + 1 by omega, rF, rF]
    rw [St] at h
    cases hn : nxO f v with
    | none => rfl
    | some w =>
      rw [hn] at h
      have h : w ≤ a ∨ St f a m w := h
      show (if w = a then b ||| zbt v else if w < a then 0 else rF f a (m + k) w (b ||| zbt v)) = (if w = a then b ||| zbt v else if w < a then 0 else rF f a m w (b ||| zbt v))
      by_cases h1 : w = a
      · rw [if_pos h1, if_pos h1]
      · by_cases h2 : w < a
        · rw [if_neg h1, if_neg h1, if_pos h2, if_pos h2]
        · rw [if_neg h1, if_neg h1, if_neg h2, if_neg h2]
          exact ih w _ (by rcases h with q | q; omega; exact q) k
theorem rF_0 (f : Nat → Int32) (a : Nat) : ∀ (m v : Nat) (b : Int32), ¬ St f a m v → rF f a m v b = 0 := by
  intro m
  induction m with
  | zero => intro v b _; rfl
  | succ m ih =>
    intro v b h
    rw [rF]
    rw [St] at h
    cases hn : nxO f v with
    | none => rfl
    | some w =>
      rw [hn] at h
      have h : ¬ (w ≤ a ∨ St f a m w) := h
      have h' := not_or.mp h
      show (if w = a then b ||| zbt v else if w < a then 0 else rF f a m w (b ||| zbt v)) = 0
      rw [if_neg (by omega), if_neg (by omega)]
      exact ih w _ h'.2
def zit (g : Nat → Nat) : Nat → Nat → Nat
  | 0, v => v
  | i + 1, v => g (zit g i v)
theorem zit_add (g : Nat → Nat) (i j v : Nat) : zit g (i + j) v = zit g j (zit g i v) := by
  induction j with
  | zero => rfl
  | succ j ih => show g (zit g (i + j) v) = g (zit g j (zit g i v)); rw [ih]
theorem zit_s (g : Nat → Nat) (i v : Nat) : zit g (i + 1) v = zit g i (g v) := by
  rw [show i + 1 = 1 + i by omega, zit_add]; rfl
theorem St_iff (f : Nat → Int32) (a : Nat) (g : Nat → Nat) (hg : ∀ v w, nxO f v = some w → g v = w) : ∀ m v, ¬ St f a m v ↔ ∀ i, i < m → nxO f (zit g i v) = some (zit g (i + 1) v) ∧ a < zit g (i + 1) v := by
  intro m
  induction m with
  | zero => intro v; exact ⟨fun _ i hi => absurd hi (Nat.not_lt_zero i), fun _ h => h⟩
  | succ m ih =>
    intro v
    rw [St]
    cases hn : nxO f v with
    | none =>
      refine ⟨fun h => absurd trivial h, fun h => ?_⟩
      have := (h 0 (by omega)).1
      rw [show zit g 0 v = v from rfl, hn] at this; cases this
    | some w =>
      have hgv := hg v w hn
      show ¬ (w ≤ a ∨ St f a m w) ↔ _
      constructor
      · intro h i hi
        have h' := not_or.mp h
        cases i with
        | zero =>
          show nxO f v = some (g v) ∧ a < g v
          rw [hgv]; exact ⟨hn, by omega⟩
        | succ i =>
          rw [zit_s g i v, zit_s g (i + 1) v, hgv]
          exact (ih w).mp h'.2 i (by omega)
      · intro h
        refine not_or.mpr ⟨?_, (ih w).mpr (fun i hi => ?_)⟩
        · have := (h 0 (by omega)).2
          have e : zit g 1 v = w := by show g v = w; exact hgv
          rw [e] at this; omega
        · have := h (i + 1) (by omega)
          rw [zit_s g i v, zit_s g (i + 1) v, hgv] at this
          exact this
theorem St_all {f : Nat → Int32} {a n : Nat} (h1 : 1 ≤ n) (hx : ∀ v w, v < n → nxO f v = some w → w < n) (ha : a < n) (h : ¬ St f a n a) : ∀ m, ¬ St f a m a := by
  let g : Nat → Nat := fun v => (nxO f v).getD 0
  have hg : ∀ v w, nxO f v = some w → g v = w := fun v w h => by show (nxO f v).getD 0 = w; rw [h]; rfl
  have hP := (St_iff f a g hg n a).mp h
  have hlt : ∀ i, i ≤ n → zit g i a < n := by
    intro i
    induction i with
    | zero => intro _; exact ha
    | succ i ih => intro hi; exact hx _ _ (ih (by omega)) (hP i (by omega)).1
  obtain ⟨i, j, hij, hj, he⟩ := pig (n - 1) (fun i => zit g (i + 1) a - 1) (fun i hi => by
    have q1 := hlt (i + 1) (by omega)
    have q2 := (hP i (by omega)).2
    show zit g (i + 1) a - 1 < n - 1
    omega)
  have he : zit g (i + 1) a - 1 = zit g (j + 1) a - 1 := he
  have p1 := (hP i (by omega)).2
  have p2 := (hP j (by omega)).2
  have he2 : zit g (i + 1) a = zit g (j + 1) a := by omega
  have hall : ∀ k, nxO f (zit g k a) = some (zit g (k + 1) a) ∧ a < zit g (k + 1) a := by
    intro k
    induction k using Nat.strongRecOn with
    | ind k ih =>
      by_cases hk : k < n
      · exact hP k hk
      · have e : zit g k a = zit g (k - (j - i)) a := by
          rw [show k = (j + 1) + (k - (j + 1)) by omega, zit_add, ← he2, ← zit_add]
          congr 1; omega
        have e2 : zit g (k + 1) a = zit g (k - (j - i) + 1) a := by
          show g (zit g k a) = g (zit g (k - (j - i)) a)
          rw [e]
        rw [e, e2]
        exact ih (k - (j - i)) (by omega)
  exact fun m => (St_iff f a g hg m a).mpr (fun i _ => hall i)
theorem circ_same {f f' : Nat → Int32} {a n : Nat} (h1 : 1 ≤ n) (h9 : n ≤ 9) (hf : ∀ i, i < 9 → f' i = f i) (hx : ∀ i, i < 9 → f i = (-1) ∨ ∃ j, j < n ∧ f i = nI j) (hx' : ∀ i, i < 9 → f' i = (-1) ∨ ∃ j, j < n ∧ f' i = nI j) (ha : a < n) : cF f a n a 0 = rF f' a 9 a 0 := by
  rw [cr_same f a n a 0 0 rfl]
  have hnx : ∀ v, v < 9 → nxO f' v = nxO f v := fun v hv => by unfold nxO; rw [hf v hv]
  have hr : ∀ m v b, v < n → rF f a m v b = rF f' a m v b := by
    intro m
    induction m with
    | zero => intro v b _; rfl
    | succ m ih =>
      intro v b hv
      rw [rF, rF, hnx v (by omega)]
      rcases hx v (by omega) with q | ⟨w, hw, q⟩
      · rw [nxO_n q]
      · rw [nxO_s q (by omega)]
        show (if w = a then b ||| zbt v else if w < a then 0 else rF f a m w (b ||| zbt v)) = (if w = a then b ||| zbt v else if w < a then 0 else rF f' a m w (b ||| zbt v))
        rw [ih w _ hw]
  rw [← hr 9 a 0 ha]
  have hxx : ∀ v w, v < n → nxO f v = some w → w < n := by
    intro v w hv hw
    rcases hx v (by omega) with q | ⟨j, hj, q⟩
    · rw [nxO_n q] at hw; cases hw
    · rw [nxO_s q (by omega)] at hw; cases hw; exact hj
  by_cases hs : St f a n a
  · have := rF_St f a n a 0 hs (9 - n)
    rw [show n + (9 - n) = 9 by omega] at this
    exact this.symm
  · rw [rF_0 f a n a 0 hs, rF_0 f a 9 a 0 (St_all h1 hxx ha hs 9)]
theorem ccn_congr {g g' : Nat → Int32} {n : Nat} (h : ∀ i, i < n → g i = g' i) : ccn g n = ccn g' n := sN_congr (fun i hi => by rw [h i hi])
theorem ccn_onto {g : Nat → Int32} : ∀ {n k : Nat}, k < ccn g n → ∃ i, i < n ∧ ¬ g i = 0 ∧ ccn g i = k := by
  intro n
  induction n with
  | zero => intro k h; exact absurd h (Nat.not_lt_zero k)
  | succ n ih =>
    intro k h
    have hs : ccn g (n + 1) = ccn g n + (if g n = 0 then 0 else 1) := rfl
    by_cases hk : k < ccn g n
    · obtain ⟨i, h1, h2, h3⟩ := ih hk
      exact ⟨i, by omega, h2, h3⟩
    · by_cases hg : g n = 0
      · rw [hs, if_pos hg] at h; omega
      · rw [hs, if_neg hg] at h
        exact ⟨n, by omega, hg, by omega⟩
theorem ccn_inj {g : Nat → Int32} {i j : Nat} (hi : ¬ g i = 0) (hj : ¬ g j = 0) (h : ccn g i = ccn g j) : i = j := by
  rcases Nat.lt_trichotomy i j with q | q | q
  · have := ccn_lt q hi; omega
  · exact q
  · have := ccn_lt q hj; omega
section P6
variable {SH : Int32 → Int32 → Int32 → Int32 → (Nat → Int32) → (Nat → Int32) → (Nat → Int32) → (Nat → Int32) → (Nat → Nat → Int32) → Prop}
variable {TA : Int32 → Int32 → Int32 → Int32 → (Nat → Int32) → (Nat → Int32) → (Nat → Int32) → (Nat → Int32) → Int32 → Int32 → (Nat → Int32) → Prop}
variable {FI : Int32 → Int32 → Int32 → Int32 → (Nat → Int32) → (Nat → Int32) → (Nat → Int32) → (Nat → Int32) → Int32 → (Nat → Int32) → Prop}
variable {KN : Int32 → Int32 → Int32 → Int32 → (Nat → Int32) → (Nat → Int32) → (Nat → Int32) → (Nat → Int32) → Int32 → Int32 → Int32 → (Nat → Int32) → (Nat → Int32) → (Nat → Int32) → Prop}
theorem pr_circle (x : Int32) : Pair SH TA FI KN Y_CW_circle Y_Mo_circle 10 10 [.int x] := by
  intro c V A hc hI
  obtain ⟨n, ch, ⟨⟨h1, h9⟩, hn, hn'⟩, hR, hL, hC, hP, hA, hW, hX, hQ, hch, hT, hK⟩ := id hI
  have hx : ∀ i, i < 9 → A 29 i = (-1) ∨ ∃ j, j < n ∧ A 29 i = nI j := fun i hi => (hX i hi).2
  have hx' : ∀ i, i < 9 → A 42 i = (-1) ∨ ∃ j, j < n ∧ A 42 i = nI j := fun i hi => by rw [(hX i hi).1]; exact (hX i hi).2
  have hsame : ∀ i, i < n → cF (A 29) i n i 0 = rF (A 42) i 9 i 0 := fun i hi => circ_same h1 h9 (fun i hi => (hX i hi).1) hx hx' hi
  refine CQ.mono (c_CW_circle V A x n hn h1 h9 hx) (fun r V1 A1 h => ?_)
  obtain ⟨f, h, hf, rfl, rfl⟩ := h
  refine CQ.mono (c_Mo_circle _ _ x n (by exact hn') h1 h9 (by exact hx')) (fun r' V2 A2 h2 => ?_)
  obtain ⟨h2, rfl, rfl⟩ := h2
  have h2 : ((∃ i, i < n ∧ ¬ (fun i => rF (A 42) i 9 i 0) i = 0 ∧ x = nI (ccn (fun i => rF (A 42) i 9 i 0) i) ∧ r' = (fun i => rF (A 42) i 9 i 0) i) ∨ ((∀ i, i < n → ¬ (fun i => rF (A 42) i 9 i 0) i = 0 → ¬ x = nI (ccn (fun i => rF (A 42) i 9 i 0) i)) ∧ ((x = (-1) ∧ r' = nI (ccn (fun i => rF (A 42) i 9 i 0) n)) ∨ (¬ x = (-1) ∧ r' = (-2000000))))) := h2
  have hcn : ∀ k, k ≤ n → ccn (fun i => cF (A 29) i n i 0) k = ccn (fun i => rF (A 42) i 9 i 0) k := fun k hk => ccn_congr (fun i hi => hsame i (by omega))
  have hle := ccn_le (fun i => rF (A 42) i 9 i 0) n
  refine ⟨?_, n, ch, ⟨⟨h1, h9⟩, hn, hn'⟩, hR, hL, hC, hP, hA, hW, hX, hQ, ⟨hch.1, by omega⟩, hT, hK⟩
  rw [hcn n (Nat.le_refl n)] at h
  rcases h with ⟨rfl, rfl⟩ | ⟨hx1, hx2, rfl⟩ | ⟨hx2, rfl⟩
  · rcases h2 with ⟨i, hi, hg, he, -⟩ | ⟨-, ⟨-, rfl⟩ | ⟨hne, -⟩⟩
    · have h0 := nI_pos' (n := ccn (fun i => rF (A 42) i 9 i 0) i) (by have := ccn_le (fun i => rF (A 42) i 9 i 0) i; omega)
      rw [← he] at h0; exact absurd h0 (by decide)
    · rfl
    · exact absurd rfl hne
  · rcases h2 with ⟨i, hi, hg, he, -⟩ | ⟨-, ⟨he, -⟩ | ⟨-, rfl⟩⟩
    · have q1 := ccn_lt (g := fun i => rF (A 42) i 9 i 0) hi hg
      exact absurd ⟨by rw [he]; exact nI_pos' (by omega), by rw [he]; exact nI_lt q1 (by omega)⟩ hx2
    · exact absurd he hx1
    · rfl
  · obtain ⟨k, hk, rfl⟩ := z_nat hx2.1 hx2.2 (by omega)
    obtain ⟨i, hi, hg, he⟩ := ccn_onto hk
    rw [nI_clamp (by omega)]
    have hfi := hf i hi (by have e : (fun i => cF (A 29) i n i 0) i = (fun i => rF (A 42) i 9 i 0) i := hsame i hi; rw [e]; exact hg)
    rw [hcn i (by omega), he] at hfi
    rw [hfi]
    rcases h2 with ⟨i', hi', hg', he', rfl⟩ | ⟨hno, -⟩
    · have hle' := ccn_le (fun i => rF (A 42) i 9 i 0) i'
      have e1 : k = ccn (fun i => rF (A 42) i 9 i 0) i' := (nI_eq (by omega) (by omega)).mp he'
      have e2 : i = i' := ccn_inj (g := fun i => rF (A 42) i 9 i 0) hg hg' (by rw [he, e1])
      subst e2
      exact hsame i hi
    · exact absurd (by rw [he]) (hno i hi hg)
end P6
