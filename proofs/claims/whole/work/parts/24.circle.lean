def zbt (w : Nat) : Int32 := (1 : Int32) <<< (nI w &&& 31)
def nxO (f : Nat → Int32) (v : Nat) : Option Nat := if f v < 0 then none else some (f v).toNatClampNeg
theorem nxO_n {f : Nat → Int32} {v : Nat} (h : f v = (-1)) : nxO f v = none := by unfold nxO; rw [h]; rfl
theorem nxO_s {f : Nat → Int32} {v j : Nat} (h : f v = nI j) (hj : j < 9) : nxO f v = some j := by
  unfold nxO
  rw [h, if_neg (nI_pos (by omega)), nI_clamp (by omega)]
/-- the class's search, and the reference's -/
def cF (f : Nat → Int32) (a : Nat) : Nat → Nat → Int32 → Int32
  | 0, _, _ => 0
  | m + 1, v, b => match nxO f v with
    | none => 0
    | some w => if w < a then 0 else if w = a then b ||| zbt w else cF f a m w (b ||| zbt w)
def rF (f : Nat → Int32) (a : Nat) : Nat → Nat → Int32 → Int32
  | 0, _, _ => 0
  | m + 1, v, b => match nxO f v with
    | none => 0
    | some w => if w = a then b ||| zbt v else if w < a then 0 else rF f a m w (b ||| zbt v)
set_option maxRecDepth 100000 in
set_option maxHeartbeats 4000000 in
theorem c_Cir_circleFrom (V A : zV) (a : Nat) (n : Nat) (hn : V 1 4 = nI n) (h1 : 1 ≤ n) (h9 : n ≤ 9) (ha : a < n) (hx : ∀ i, i < 9 → A 29 i = (-1) ∨ ∃ j, j < n ∧ A 29 i = nI j) : CQ Y_Cir_circleFrom 0 [.ref 28, .int (nI a)] V A (fun r V' A' => r = cF (A 29) a n a 0 ∧ V' = V ∧ A' = A) := by
  have hS : ∀ m, m ≤ n → ∀ v b, v < n → cF (A 29) a m v b = cF (A 29) a n a 0 → X Y_Cir_circleFrom (zrm 0) (0, fun _ => 0) (zFq 0 (fun r V' A' => r = cF (A 29) a n a 0 ∧ V' = V ∧ A' = A)) 7 [.ref 28, .int (nI a), .int b, .int (nI v), .int (nI (n - m))] [] (cells V A) 0 0 := by
    intro m
    induction m with
    | zero =>
      intro _ v b hv hR
      refine x_iload (pc := 7) d_Cir_circleFrom_7 rfl ?_
      refine x_aload_n (pc := 9) d_Cir_circleFrom_9 rfl ?_
      refine x_get (pc := 10) (j := 0) d_Cir_circleFrom_10 f_Cir_18 rfl rfl (Nat.le_of_ble_eq_true rfl) rfl rfl rfl ?_
      refine x_get (pc := 13) (j := 4) d_Cir_circleFrom_13 f_Cir_22 rfl rfl (Nat.le_of_ble_eq_true rfl) rfl rfl rfl ?_
      refine x_icmp_ge (pc := 16) (tgt := 52) d_Cir_circleFrom_16 (by decide) (fun h16 => ?_) (fun h => by rw [hn] at h; exact absurd (nI_le (by omega) (by omega)) h)
      refine x_iconst (pc := 52) (v := 0) d_Cir_circleFrom_52 (by decide) ?_
      refine y_iret (pc := 53) d_Cir_circleFrom_53 rfl ?_
      exact ⟨by rw [← hR]; rfl, rfl, rfl⟩
    | succ m ih =>
      intro hm v b hv hR
      have hcv : (nI v).toNatClampNeg = v := nI_clamp (by omega)
      rcases hx v (by omega) with hv1 | ⟨w, hw, hv1⟩
      · refine x_iload (pc := 7) d_Cir_circleFrom_7 rfl ?_
        refine x_aload_n (pc := 9) d_Cir_circleFrom_9 rfl ?_
        refine x_get (pc := 10) (j := 0) d_Cir_circleFrom_10 f_Cir_18 rfl rfl (Nat.le_of_ble_eq_true rfl) rfl rfl rfl ?_
        refine x_get (pc := 13) (j := 4) d_Cir_circleFrom_13 f_Cir_22 rfl rfl (Nat.le_of_ble_eq_true rfl) rfl rfl rfl ?_
        refine x_icmp_ge (pc := 16) (tgt := 52) d_Cir_circleFrom_16 (by decide) (fun h => by rw [hn] at h; exact absurd h (nI_ge (by omega) (by omega))) (fun h16 => ?_)
        refine x_aload_n (pc := 19) d_Cir_circleFrom_19 rfl ?_
        refine x_get (pc := 20) (j := 1) d_Cir_circleFrom_20 f_Cir_9 rfl rfl (Nat.le_of_ble_eq_true rfl) rfl rfl rfl ?_
        refine x_iload_n (pc := 23) d_Cir_circleFrom_23 rfl ?_
        refine x_iald (pc := 24) d_Cir_circleFrom_24 rfl (vp_in_nI (by omega) (by decide)) ?_
        refine y_ist3 (pc := 25) d_Cir_circleFrom_25 ?_
        refine x_iload_n (pc := 26) d_Cir_circleFrom_26 rfl ?_
        refine x_iload_n (pc := 27) d_Cir_circleFrom_27 rfl ?_
        refine x_icmp_ge (pc := 28) (tgt := 33) d_Cir_circleFrom_28 (by decide) (fun h => by rw [hcv, hv1] at h; exact absurd (Int32.le_trans (nI_pos' (by omega)) h) (by decide)) (fun h28 => ?_)
        refine x_iconst (pc := 31) (v := 0) d_Cir_circleFrom_31 (by decide) ?_
        refine y_iret (pc := 32) d_Cir_circleFrom_32 rfl ?_
        exact ⟨by rw [← hR, cF, nxO_n hv1], rfl, rfl⟩
      · have hno := nxO_s hv1 (by omega)
        rw [cF, hno] at hR
        have hR : (if w < a then 0 else if w = a then b ||| zbt w else cF (A 29) a m w (b ||| zbt w)) = cF (A 29) a n a 0 := hR
        refine x_iload (pc := 7) d_Cir_circleFrom_7 rfl ?_
        refine x_aload_n (pc := 9) d_Cir_circleFrom_9 rfl ?_
        refine x_get (pc := 10) (j := 0) d_Cir_circleFrom_10 f_Cir_18 rfl rfl (Nat.le_of_ble_eq_true rfl) rfl rfl rfl ?_
        refine x_get (pc := 13) (j := 4) d_Cir_circleFrom_13 f_Cir_22 rfl rfl (Nat.le_of_ble_eq_true rfl) rfl rfl rfl ?_
        refine x_icmp_ge (pc := 16) (tgt := 52) d_Cir_circleFrom_16 (by decide) (fun h => by rw [hn] at h; exact absurd h (nI_ge (by omega) (by omega))) (fun h16 => ?_)
        refine x_aload_n (pc := 19) d_Cir_circleFrom_19 rfl ?_
        refine x_get (pc := 20) (j := 1) d_Cir_circleFrom_20 f_Cir_9 rfl rfl (Nat.le_of_ble_eq_true rfl) rfl rfl rfl ?_
        refine x_iload_n (pc := 23) d_Cir_circleFrom_23 rfl ?_
        refine x_iald (pc := 24) d_Cir_circleFrom_24 rfl (vp_in_nI (by omega) (by decide)) ?_
        refine y_ist3 (pc := 25) d_Cir_circleFrom_25 ?_
        refine x_iload_n (pc := 26) d_Cir_circleFrom_26 rfl ?_
        refine x_iload_n (pc := 27) d_Cir_circleFrom_27 rfl ?_
        refine x_icmp_ge (pc := 28) (tgt := 33) d_Cir_circleFrom_28 (by decide) (fun h28 => ?_) (fun h28 => ?_)
        · refine x_iload_n (pc := 33) d_Cir_circleFrom_33 rfl ?_
          refine x_iconst (pc := 34) (v := 1) d_Cir_circleFrom_34 (by decide) ?_
          refine x_iload_n (pc := 35) d_Cir_circleFrom_35 rfl ?_
          refine x_ishl (pc := 36) d_Cir_circleFrom_36 ?_
          refine x_ior (pc := 37) d_Cir_circleFrom_37 ?_
          refine y_ist2 (pc := 38) d_Cir_circleFrom_38 ?_
          refine x_iload_n (pc := 39) d_Cir_circleFrom_39 rfl ?_
          refine x_iload_n (pc := 40) d_Cir_circleFrom_40 rfl ?_
          refine x_icmp_ne (pc := 41) (tgt := 46) d_Cir_circleFrom_41 (by decide) (fun h41 => ?_) (fun h41 => ?_)
          · refine y_inc4 (pc := 46) (v := 1) d_Cir_circleFrom_46 (by decide) ?_
            refine x_goto (pc := 49) (tgt := 7) d_Cir_circleFrom_49 (by decide) ?_
            rw [hcv, hv1] at *
            have hwa : ¬ w < a := fun q => absurd h28 (nI_ge q (by omega))
            rw [if_neg hwa, if_neg (fun q => h41 (by rw [q]))] at hR
            rw [show nI (n - (m + 1)) + 1 = nI (n - m) by rw [show n - m = n - (m + 1) + 1 by omega, nI_succ]]
            exact ih (by omega) w _ hw hR
          · refine x_iload_n (pc := 44) d_Cir_circleFrom_44 rfl ?_
            refine y_iret (pc := 45) d_Cir_circleFrom_45 rfl ?_
            rw [hcv, hv1] at h28 h41 ⊢
            have hwa : w = a := (nI_eq (by omega) (by omega)).mp h41
            rw [if_neg (by omega), if_pos hwa] at hR
            exact ⟨hR, rfl, rfl⟩
        · refine x_iconst (pc := 31) (v := 0) d_Cir_circleFrom_31 (by decide) ?_
          refine y_iret (pc := 32) d_Cir_circleFrom_32 rfl ?_
          rw [hcv, hv1] at h28
          have hwa : w < a := by
            rcases Nat.lt_or_ge w a with q | q
            · exact q
            · exact absurd (nI_le q (by omega)) h28
          exact ⟨by rw [← hR, if_pos hwa], rfl, rfl⟩
  refine CQ.of (lv := [.ref 28, .int (nI a), zu, zu, zu]) k_Cir_circleFrom.1 rfl (by decide) rfl rfl (Nat.le_of_ble_eq_true rfl) ?_
  refine x_iconst (pc := 0) (v := 0) d_Cir_circleFrom_0 (by decide) ?_
  refine y_ist2 (pc := 1) d_Cir_circleFrom_1 ?_
  refine x_iload_n (pc := 2) d_Cir_circleFrom_2 rfl ?_
  refine y_ist3 (pc := 3) d_Cir_circleFrom_3 ?_
  refine x_iconst (pc := 4) (v := 0) d_Cir_circleFrom_4 (by decide) ?_
  refine y_ist4 (pc := 5) d_Cir_circleFrom_5 ?_
  have hz := hS n (Nat.le_refl _) a 0 ha rfl
  rw [Nat.sub_self] at hz
  exact hz
set_option maxRecDepth 100000 in
set_option maxHeartbeats 4000000 in
theorem c_Mo_circleOf (V A : zV) (a : Nat) (n : Nat) (h9 : n ≤ 9) (ha : a < n) (hx : ∀ i, i < 9 → A 42 i = (-1) ∨ ∃ j, j < n ∧ A 42 i = nI j) : CQ Y_Mo_circleOf 0 [.ref 36, .int (nI a)] V A (fun r V' A' => r = rF (A 42) a 9 a 0 ∧ V' = V ∧ A' = A) := by
  have hS : ∀ m, m ≤ 9 → ∀ v b, v < n → a ≤ v → rF (A 42) a m v b = rF (A 42) a 9 a 0 → X Y_Mo_circleOf (zrm 0) (0, fun _ => 0) (zFq 0 (fun r V' A' => r = rF (A 42) a 9 a 0 ∧ V' = V ∧ A' = A)) 7 [.ref 36, .int (nI a), .int b, .int (nI v), .int (nI (9 - m))] [] (cells V A) 0 0 := by
    intro m
    induction m with
    | zero =>
      intro _ v b hv hav hR
      refine x_iload (pc := 7) d_Mo_circleOf_7 rfl ?_
      refine x_bipush (pc := 9) (v := 9) d_Mo_circleOf_9 (by decide) ?_
      refine x_icmp_ge (pc := 11) (tgt := 45) d_Mo_circleOf_11 (by decide) (fun h11 => ?_) (fun h => absurd (nI_le (a := 9) (b := 9 - 0) (by omega) (by decide)) h)
      refine x_iconst (pc := 45) (v := 0) d_Mo_circleOf_45 (by decide) ?_
      refine y_iret (pc := 46) d_Mo_circleOf_46 rfl ?_
      exact ⟨by rw [← hR]; rfl, rfl, rfl⟩
    | succ m ih =>
      intro hm v b hv hav hR
      have hcv : (nI v).toNatClampNeg = v := nI_clamp (by omega)
      rcases hx v (by omega) with hv1 | ⟨w, hw, hv1⟩
      · refine x_iload (pc := 7) d_Mo_circleOf_7 rfl ?_
        refine x_bipush (pc := 9) (v := 9) d_Mo_circleOf_9 (by decide) ?_
        refine x_icmp_ge (pc := 11) (tgt := 45) d_Mo_circleOf_11 (by decide) (fun h => absurd h (nI_ge (a := 9 - (m + 1)) (b := 9) (by omega) (by decide))) (fun h11 => ?_)
        refine x_iload_n (pc := 14) d_Mo_circleOf_14 rfl ?_
        refine x_iload_n (pc := 15) d_Mo_circleOf_15 rfl ?_
        refine x_icmp_lt (pc := 16) (tgt := 45) d_Mo_circleOf_16 (by decide) (fun h => absurd h (nI_nlt hav (by omega))) (fun h16 => ?_)
        refine x_iload_n (pc := 19) d_Mo_circleOf_19 rfl ?_
        refine x_iconst (pc := 20) (v := 1) d_Mo_circleOf_20 (by decide) ?_
        refine x_iload_n (pc := 21) d_Mo_circleOf_21 rfl ?_
        refine x_ishl (pc := 22) d_Mo_circleOf_22 ?_
        refine x_ior (pc := 23) d_Mo_circleOf_23 ?_
        refine y_ist2 (pc := 24) d_Mo_circleOf_24 ?_
        refine x_aload_n (pc := 25) d_Mo_circleOf_25 rfl ?_
        refine x_get (pc := 26) (j := 10) d_Mo_circleOf_26 f_Mo_39 rfl rfl (Nat.le_of_ble_eq_true rfl) rfl rfl rfl ?_
        refine x_iload_n (pc := 29) d_Mo_circleOf_29 rfl ?_
        refine x_iald (pc := 30) d_Mo_circleOf_30 rfl (vp_in_nI (by omega) (by decide)) ?_
        refine y_ist3 (pc := 31) d_Mo_circleOf_31 ?_
        refine x_iload_n (pc := 32) d_Mo_circleOf_32 rfl ?_
        refine x_iload_n (pc := 33) d_Mo_circleOf_33 rfl ?_
        refine x_icmp_ne (pc := 34) (tgt := 39) d_Mo_circleOf_34 (by decide) (fun h34 => ?_) (fun h => by rw [hcv, hv1] at h; have h0 := nI_pos' (n := a) (by omega); rw [← h] at h0; exact absurd h0 (by decide))
        refine y_inc4 (pc := 39) (v := 1) d_Mo_circleOf_39 (by decide) ?_
        refine x_goto (pc := 42) (tgt := 7) d_Mo_circleOf_42 (by decide) ?_
        refine x_iload (pc := 7) d_Mo_circleOf_7 rfl ?_
        refine x_bipush (pc := 9) (v := 9) d_Mo_circleOf_9 (by decide) ?_
        refine x_icmp_ge (pc := 11) (tgt := 45) d_Mo_circleOf_11 (by decide) (fun h11 => ?_) (fun h11 => ?_)
        · refine x_iconst (pc := 45) (v := 0) d_Mo_circleOf_45 (by decide) ?_
          refine y_iret (pc := 46) d_Mo_circleOf_46 rfl ?_
          exact ⟨by rw [← hR, rF, nxO_n hv1], rfl, rfl⟩
        · refine x_iload_n (pc := 14) d_Mo_circleOf_14 rfl ?_
          refine x_iload_n (pc := 15) d_Mo_circleOf_15 rfl ?_
          refine x_icmp_lt (pc := 16) (tgt := 45) d_Mo_circleOf_16 (by decide) (fun h16 => ?_) (fun h => by rw [hcv, hv1] at h; exact absurd (Int32.lt_of_lt_of_le (show (-1 : Int32) < 0 by decide) (nI_pos' (by omega))) h)
          refine x_iconst (pc := 45) (v := 0) d_Mo_circleOf_45 (by decide) ?_
          refine y_iret (pc := 46) d_Mo_circleOf_46 rfl ?_
          exact ⟨by rw [← hR, rF, nxO_n hv1], rfl, rfl⟩
      · have hno := nxO_s hv1 (by omega)
        rw [rF, hno] at hR
        have hR : (if w = a then b ||| zbt v else if w < a then 0 else rF (A 42) a m w (b ||| zbt v)) = rF (A 42) a 9 a 0 := hR
        refine x_iload (pc := 7) d_Mo_circleOf_7 rfl ?_
        refine x_bipush (pc := 9) (v := 9) d_Mo_circleOf_9 (by decide) ?_
        refine x_icmp_ge (pc := 11) (tgt := 45) d_Mo_circleOf_11 (by decide) (fun h => absurd h (nI_ge (a := 9 - (m + 1)) (b := 9) (by omega) (by decide))) (fun h11 => ?_)
        refine x_iload_n (pc := 14) d_Mo_circleOf_14 rfl ?_
        refine x_iload_n (pc := 15) d_Mo_circleOf_15 rfl ?_
        refine x_icmp_lt (pc := 16) (tgt := 45) d_Mo_circleOf_16 (by decide) (fun h => absurd h (nI_nlt hav (by omega))) (fun h16 => ?_)
        refine x_iload_n (pc := 19) d_Mo_circleOf_19 rfl ?_
        refine x_iconst (pc := 20) (v := 1) d_Mo_circleOf_20 (by decide) ?_
        refine x_iload_n (pc := 21) d_Mo_circleOf_21 rfl ?_
        refine x_ishl (pc := 22) d_Mo_circleOf_22 ?_
        refine x_ior (pc := 23) d_Mo_circleOf_23 ?_
        refine y_ist2 (pc := 24) d_Mo_circleOf_24 ?_
        refine x_aload_n (pc := 25) d_Mo_circleOf_25 rfl ?_
        refine x_get (pc := 26) (j := 10) d_Mo_circleOf_26 f_Mo_39 rfl rfl (Nat.le_of_ble_eq_true rfl) rfl rfl rfl ?_
        refine x_iload_n (pc := 29) d_Mo_circleOf_29 rfl ?_
        refine x_iald (pc := 30) d_Mo_circleOf_30 rfl (vp_in_nI (by omega) (by decide)) ?_
        refine y_ist3 (pc := 31) d_Mo_circleOf_31 ?_
        refine x_iload_n (pc := 32) d_Mo_circleOf_32 rfl ?_
        refine x_iload_n (pc := 33) d_Mo_circleOf_33 rfl ?_
        refine x_icmp_ne (pc := 34) (tgt := 39) d_Mo_circleOf_34 (by decide) (fun h34 => ?_) (fun h34 => ?_)
        · refine y_inc4 (pc := 39) (v := 1) d_Mo_circleOf_39 (by decide) ?_
          refine x_goto (pc := 42) (tgt := 7) d_Mo_circleOf_42 (by decide) ?_
          rw [hcv, hv1] at h34 ⊢
          have hwa : ¬ w = a := fun q => h34 (by rw [q])
          rw [if_neg hwa] at hR
          rw [show nI (9 - (m + 1)) + 1 = nI (9 - m) by rw [show 9 - m = 9 - (m + 1) + 1 by omega, nI_succ]]
          by_cases hlt : w < a
          · refine x_iload (pc := 7) d_Mo_circleOf_7 rfl ?_
            refine x_bipush (pc := 9) (v := 9) d_Mo_circleOf_9 (by decide) ?_
            refine x_icmp_ge (pc := 11) (tgt := 45) d_Mo_circleOf_11 (by decide) (fun h11 => ?_) (fun h11 => ?_)
            · refine x_iconst (pc := 45) (v := 0) d_Mo_circleOf_45 (by decide) ?_
              refine y_iret (pc := 46) d_Mo_circleOf_46 rfl ?_
              exact ⟨by rw [← hR, if_pos hlt], rfl, rfl⟩
            · refine x_iload_n (pc := 14) d_Mo_circleOf_14 rfl ?_
              refine x_iload_n (pc := 15) d_Mo_circleOf_15 rfl ?_
              refine x_icmp_lt (pc := 16) (tgt := 45) d_Mo_circleOf_16 (by decide) (fun h16 => ?_) (fun h => absurd (nI_lt hlt (by omega)) h)
              refine x_iconst (pc := 45) (v := 0) d_Mo_circleOf_45 (by decide) ?_
              refine y_iret (pc := 46) d_Mo_circleOf_46 rfl ?_
              exact ⟨by rw [← hR, if_pos hlt], rfl, rfl⟩
          · rw [if_neg hlt] at hR
            exact ih (by omega) w _ hw (by omega) hR
        · refine x_iload_n (pc := 37) d_Mo_circleOf_37 rfl ?_
          refine y_iret (pc := 38) d_Mo_circleOf_38 rfl ?_
          rw [hcv, hv1] at h34
          have hwa : w = a := (nI_eq (by omega) (by omega)).mp h34
          rw [if_pos hwa] at hR
          exact ⟨hR, rfl, rfl⟩
  refine CQ.of (lv := [.ref 36, .int (nI a), zu, zu, zu]) k_Mo_circleOf.1 rfl (by decide) rfl rfl (Nat.le_of_ble_eq_true rfl) ?_
  refine x_iconst (pc := 0) (v := 0) d_Mo_circleOf_0 (by decide) ?_
  refine y_ist2 (pc := 1) d_Mo_circleOf_1 ?_
  refine x_iload_n (pc := 2) d_Mo_circleOf_2 rfl ?_
  refine y_ist3 (pc := 3) d_Mo_circleOf_3 ?_
  refine x_iconst (pc := 4) (v := 0) d_Mo_circleOf_4 (by decide) ?_
  refine y_ist4 (pc := 5) d_Mo_circleOf_5 ?_
  have hz := hS 9 (Nat.le_refl _) a 0 ha (Nat.le_refl _) rfl
  exact hz
/-- the circles found below k: how many, and the k-th of them -/
def ccn (g : Nat → Int32) (k : Nat) : Nat := sN (fun i => if g i = 0 then 0 else 1) k
theorem ccn_le (g : Nat → Int32) (k : Nat) : ccn g k ≤ k := by have := sN_le (f := fun i => if g i = 0 then 0 else 1) (n := k) (b := 1) (fun i _ => by split <;> omega); unfold ccn; omega
theorem ccn_mono (g : Nat → Int32) {i k : Nat} (h : i ≤ k) : ccn g i ≤ ccn g k := by
  obtain ⟨j, rfl⟩ : ∃ j, k = i + j := ⟨k - i, by omega⟩
  unfold ccn
  rw [sN_app]; omega
theorem ccn_lt {g : Nat → Int32} {i k : Nat} (h : i < k) (hg : ¬ g i = 0) : ccn g i < ccn g k := by
  have h1 := ccn_mono g (show i + 1 ≤ k from h)
  have h2 : ccn g (i + 1) = ccn g i + (if g i = 0 then 0 else 1) := rfl
  rw [if_neg hg] at h2; omega
set_option maxRecDepth 100000 in
set_option maxHeartbeats 4000000 in
theorem c_Cir_find (V A : zV)  (n : Nat) (hn : V 1 4 = nI n) (h1 : 1 ≤ n) (h9 : n ≤ 9) (hx : ∀ i, i < 9 → A 29 i = (-1) ∨ ∃ j, j < n ∧ A 29 i = nI j) : CQ Y_Cir_find 1 [.ref 28] V A (fun r V' A' => ∃ f, r = nI (ccn (fun i => cF (A 29) i n i 0) n) ∧ (∀ k, k < n → ¬ (fun i => cF (A 29) i n i 0) k = 0 → f (ccn (fun i => cF (A 29) i n i 0) k) = (fun i => cF (A 29) i n i 0) k) ∧ V' = V ∧ A' = za A 30 f) := by
  have hS : ∀ k, k ≤ n → ∀ f, (∀ i, i < k → ¬ (fun i => cF (A 29) i n i 0) i = 0 → f (ccn (fun i => cF (A 29) i n i 0) i) = (fun i => cF (A 29) i n i 0) i) → X Y_Cir_find (zrm 1) (0, fun _ => 0) (zFq 1 (fun r V' A' => ∃ f, r = nI (ccn (fun i => cF (A 29) i n i 0) n) ∧ (∀ k, k < n → ¬ (fun i => cF (A 29) i n i 0) k = 0 → f (ccn (fun i => cF (A 29) i n i 0) k) = (fun i => cF (A 29) i n i 0) k) ∧ V' = V ∧ A' = za A 30 f)) 4 [.ref 28, .int (nI (ccn (fun i => cF (A 29) i n i 0) k)), .int (nI k), zu] [] (cells V (za A 30 f)) 0 0 := by
    refine z_down (fun f hf => ?_) (fun k hk hs f hf => ?_)
    · refine x_iload_n (pc := 4) d_Cir_find_4 rfl ?_
      refine x_aload_n (pc := 5) d_Cir_find_5 rfl ?_
      refine x_get (pc := 6) (j := 0) d_Cir_find_6 f_Cir_18 rfl rfl (Nat.le_of_ble_eq_true rfl) rfl rfl rfl ?_
      refine x_get (pc := 9) (j := 4) d_Cir_find_9 f_Cir_22 rfl rfl (Nat.le_of_ble_eq_true rfl) rfl rfl rfl ?_
      refine x_icmp_ge (pc := 12) (tgt := 41) d_Cir_find_12 (by decide) (fun h12 => ?_) (fun h => by rw [show V 1 4 = nI n from hn] at h; exact absurd (nI_le (by omega) (by omega)) h)
      refine x_iload_n (pc := 41) d_Cir_find_41 rfl ?_
      refine y_iret (pc := 42) d_Cir_find_42 rfl ?_
      exact ⟨f, rfl, hf, rfl, rfl⟩
    · have hle := ccn_le (fun i => cF (A 29) i n i 0) k
      have hsu : ccn (fun i => cF (A 29) i n i 0) (k + 1) = ccn (fun i => cF (A 29) i n i 0) k + (if (fun i => cF (A 29) i n i 0) k = 0 then 0 else 1) := rfl
      refine x_iload_n (pc := 4) d_Cir_find_4 rfl ?_
      refine x_aload_n (pc := 5) d_Cir_find_5 rfl ?_
      refine x_get (pc := 6) (j := 0) d_Cir_find_6 f_Cir_18 rfl rfl (Nat.le_of_ble_eq_true rfl) rfl rfl rfl ?_
      refine x_get (pc := 9) (j := 4) d_Cir_find_9 f_Cir_22 rfl rfl (Nat.le_of_ble_eq_true rfl) rfl rfl rfl ?_
      refine x_icmp_ge (pc := 12) (tgt := 41) d_Cir_find_12 (by decide) (fun h => by rw [show V 1 4 = nI n from hn] at h; exact absurd h (nI_ge (by omega) (by omega))) (fun h12 => ?_)
      refine x_aload_n (pc := 15) d_Cir_find_15 rfl ?_
      refine x_iload_n (pc := 16) d_Cir_find_16 rfl ?_
      refine y_fV (pc := 17) (c_Cir_circleFrom _ _ k n hn h1 h9 hk (by exact hx)) k_Cir_circleFrom d_Cir_find_17 m_Cir_28 (by decide) rfl rfl rfl rfl p_Cir_circleFrom (K := ?_)
      refine y_ist3 (pc := 20) d_Cir_find_20 ?_
      refine x_iload_n (pc := 21) d_Cir_find_21 rfl ?_
      refine x_if_eq (pc := 22) (tgt := 35) d_Cir_find_22 (by decide) (fun h22 => ?_) (fun h22 => ?_)
      · refine y_inc2 (pc := 35) (v := 1) d_Cir_find_35 (by decide) ?_
        refine x_goto (pc := 38) (tgt := 4) d_Cir_find_38 (by decide) ?_
        have h22 : (fun i => cF (A 29) i n i 0) k = 0 := h22
        rw [hsu, if_pos h22, Nat.add_zero] at hs
        rw [show nI k + 1 = nI (k + 1) from (nI_succ k).symm]
        exact y_tail (p := [_, _, _]) (t := [_]) rfl rfl (by simp [Value.category]) (hs f (fun i hi h => by
          by_cases hik : i = k
          · subst hik; exact absurd h22 h
          · exact hf i (by omega) h))
      · refine x_aload_n (pc := 25) d_Cir_find_25 rfl ?_
        refine x_get (pc := 26) (j := 2) d_Cir_find_26 f_Cir_15 rfl rfl (Nat.le_of_ble_eq_true rfl) rfl rfl rfl ?_
        refine x_iload_n (pc := 29) d_Cir_find_29 rfl ?_
        refine x_iload_n (pc := 30) d_Cir_find_30 rfl ?_
        refine y_iast (pc := 31) d_Cir_find_31 rfl (fun _ => rfl) (vp_in_nI (by omega) (by decide)) ?_
        refine y_inc1 (pc := 32) (v := 1) d_Cir_find_32 (by decide) ?_
        refine y_inc2 (pc := 35) (v := 1) d_Cir_find_35 (by decide) ?_
        refine x_goto (pc := 38) (tgt := 4) d_Cir_find_38 (by decide) ?_
        have h22 : ¬ (fun i => cF (A 29) i n i 0) k = 0 := h22
        rw [hsu, if_neg h22, nI_succ] at hs
        rw [show nI k + 1 = nI (k + 1) from (nI_succ k).symm, za_za, nI_clamp (by omega)]
        exact y_tail (p := [_, _, _]) (t := [_]) rfl rfl (by simp [Value.category]) (hs _ (fun i hi h => by
          by_cases hik : i = k
          · subst hik; exact upd_at _ _ _
          · show upd f _ _ _ = _
            rw [upd_ne]
            · exact hf i (by omega) h
            · have h2 := ccn_lt (g := (fun i => cF (A 29) i n i 0)) (show i < k by omega) h
              omega))
  refine CQ.of (lv := [.ref 28, zu, zu, zu]) k_Cir_find.1 rfl (by decide) rfl rfl (Nat.le_of_ble_eq_true rfl) ?_
  refine x_iconst (pc := 0) (v := 0) d_Cir_find_0 (by decide) ?_
  refine y_ist1 (pc := 1) d_Cir_find_1 ?_
  refine x_iconst (pc := 2) (v := 0) d_Cir_find_2 (by decide) ?_
  refine y_ist2 (pc := 3) d_Cir_find_3 ?_
  have hz := hS 0 (Nat.zero_le _) (A 30) (fun i hi => absurd hi (Nat.not_lt_zero i))
  rw [za_self] at hz
  exact hz
