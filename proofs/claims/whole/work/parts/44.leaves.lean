/-! all plans, one by one, as the search comes to them: cost without what is left out, places used, as written -/
abbrev zLf : Type := Int × Nat × List Nat
def zfl {β : Type} (f : Nat → List β) : Nat → List β
  | 0 => []
  | k + 1 => zfl f k ++ f k
def zNL (W : zW) (k : Int → Nat → List Nat → List zLf) : Nat → Int → Nat → Nat → List Nat → Nat → List zLf
  | 0, c, U, _, wr, a => (match zbk W a with | some b => k (c + b) U wr | none => [])
  | f + 1, c, U, H, wr, a => zfl (fun i => if (zfo W H i && !U.testBit i) = true then (match W.ar a (i + 1) with | some x => zNL W k f (c + x) (U ||| 2 ^ i) (H ||| 2 ^ i) (wr ++ [i + 1]) (i + 1) | none => []) else []) (W.n - 1) ++ (match zbk W a with | some b => k (c + b) U wr | none => [])
def zsep (wr : List Nat) : List Nat := match wr with
  | [] => []
  | _ => wr ++ [0]
def zHL (W : zW) : Nat → Int → Nat → List Nat → Nat → List zLf
  | 0, c, U, wr, _ => [(c, U, wr)]
  | r + 1, c, U, wr, last => (c, U, wr) :: zfl (fun i => if (decide (last ≤ i) && (zfo W 0 i && !U.testBit i)) = true then (match W.ar 0 (i + 1) with | some x => zNL W (fun c U wr => zHL W r c U wr (i + 1)) (W.n - 1) (c + x) (U ||| 2 ^ i) (2 ^ i) (zsep wr ++ [i + 1]) (i + 1) | none => []) else []) (W.n - 1)
/-- their sum -/
def lsum (W : zW) (out : Nat → Option (Int × Nat)) : List zLf → Option (Int × Nat)
  | [] => none
  | x :: l => sa (sm (some (x.1, 1)) (out (zdf (2 ^ (W.n - 1) - 1) x.2.1))) (lsum W out l)
theorem lsum_app (W : zW) (out : Nat → Option (Int × Nat)) (m : List zLf) : ∀ l, lsum W out (l ++ m) = sa (lsum W out l) (lsum W out m)
  | [] => (sa_nl _).symm
  | x :: l => by
    show sa _ (lsum W out (l ++ m)) = sa (sa _ (lsum W out l)) (lsum W out m)
    rw [lsum_app W out m l]
    exact (zMS_SR.pa _ _ _).symm
theorem lsum_fl (W : zW) (out : Nat → Option (Int × Nat)) (f : Nat → List zLf) : ∀ k, lsum W out (zfl f k) = zMS.s (fun i => lsum W out (f i)) k
  | 0 => rfl
  | k + 1 => by rw [zfl, lsum_app, lsum_fl W out f k]; rfl
/-- places used, free at the beginning of the round, and in the round -/
def UF (W : zW) (U F H : Nat) : Prop := F < 2 ^ (W.n - 1) ∧ U < 2 ^ (W.n - 1) ∧ ∀ i, i < W.n - 1 → U.testBit i = (!F.testBit i || H.testBit i)
theorem pw_le {n : Nat} (h : n ≤ 9) : 2 ^ (n - 1) ≤ 256 := Nat.pow_le_pow_right (n := 2) (by decide) (show n - 1 ≤ 8 by omega)
theorem tb_all (N i : Nat) : (2 ^ N - 1).testBit i = decide (i < N) := Nat.testBit_two_pow_sub_one N i
theorem UF.df {W : zW} {U F H : Nat} (h9 : W.n ≤ 9) (h : UF W U F H) : zdf (2 ^ (W.n - 1) - 1) U = zdf F H := by
  have hp := pw_le h9
  have h0 : 0 < 2 ^ (W.n - 1) := Nat.pos_of_ne_zero (by simp)
  obtain ⟨h1, h2, h3⟩ := h
  apply Nat.eq_of_testBit_eq
  intro i
  rw [tb_df (by omega), tb_df (by omega), tb_all]
  by_cases hi : i < W.n - 1
  · rw [decide_eq_true hi, h3 i hi]
    cases F.testBit i <;> cases H.testBit i <;> rfl
  · have hF : F.testBit i = false := Nat.testBit_lt_two_pow (Nat.lt_of_lt_of_le h1 (Nat.pow_le_pow_right (by decide) (by omega)))
    rw [decide_eq_false hi, hF]; rfl
theorem UF.add {W : zW} {U F H i : Nat} (h : UF W U F H) (hi : i < W.n - 1) : UF W (U ||| 2 ^ i) F (H ||| 2 ^ i) := by
  refine ⟨h.1, Nat.or_lt_two_pow h.2.1 (Nat.pow_lt_pow_right (by decide) hi), fun k hk => ?_⟩
  rw [tb_or, tb_or, h.2.2 k hk, Bool.or_assoc]
theorem UF.start {W : zW} {U : Nat} (h9 : W.n ≤ 9) (hU : U < 2 ^ (W.n - 1)) : UF W U (zdf (2 ^ (W.n - 1) - 1) U) 0 := by
  have hp := pw_le h9
  have h0 : 0 < 2 ^ (W.n - 1) := Nat.pos_of_ne_zero (by simp)
  refine ⟨?_, hU, fun i hi => ?_⟩
  · refine Nat.lt_of_le_of_lt Nat.and_le_left (by omega)
  · rw [tb_df (by omega), tb_all, decide_eq_true hi, Nat.zero_testBit]
    cases U.testBit i <;> rfl
theorem zdf_0 {F : Nat} (hF : F < 256) : zdf F 0 = F := by
  apply Nat.eq_of_testBit_eq
  intro i
  rw [tb_df hF, Nat.zero_testBit, Bool.not_false, Bool.and_true]
theorem zdf_or {F S : Nat} (hF : F < 256) (i : Nat) : zdf F (S ||| 2 ^ i) = zdf (zdf F S) (2 ^ i) := by
  apply Nat.eq_of_testBit_eq
  intro k
  rw [tb_df hF, tb_df (zdf_lt hF), tb_df hF, tb_or, Nat.testBit_two_pow]
  cases F.testBit k <;> cases S.testBit k <;> cases decide (i = k) <;> rfl
theorem sm_1 (c x : Int) : sm (some (c, 1)) (se (some x)) = some (c + x, 1) := rfl
theorem sm_c (c : Int) (o : Option Int) (y : Option (Int × Nat)) : sm (some (c, 1)) (sm (se o) y) = (match o with | some x => sm (some (c + x, 1)) y | none => none) := by
  cases o with
  | none => rw [show se none = none from rfl, sm_nl, sm_nr]
  | some x => rw [← sm_as, sm_1]
theorem lsum_NL {W : zW} (h9 : W.n ≤ 9) (out : Nat → Option (Int × Nat)) (k : Int → Nat → List Nat → List zLf) (K : Nat → Option (Int × Nat)) (hk : ∀ c U wr, U < 2 ^ (W.n - 1) → lsum W out (k c U wr) = sm (some (c, 1)) (K (zdf (2 ^ (W.n - 1) - 1) U))) (F : Nat) : ∀ f c U H wr a, zc U (W.n - 1) ≤ f → UF W U F H → lsum W out (zNL W k f c U H wr a) = sm (some (c, 1)) (zBB zMS (W.n - 1) (fun S i => zfo W S i && F.testBit i) (zar W) (fun S a => sm (zbs W a) (K (zdf F S))) H a) := by
  have hf2 : zFo (fun S i => zfo W S i && F.testBit i) := fun S i q => zfo_Fo W S i ((Bool.and_eq_true _ _ ▸ q : _ ∧ _).1)
  have hcl : ∀ c U H wr a, UF W U F H → lsum W out (match zbk W a with | some b => k (c + b) U wr | none => []) = sm (some (c, 1)) (sm (zbs W a) (K (zdf F H))) := by
    intro c U H wr a hU
    rw [show zbs W a = se (zbk W a) from rfl, sm_c]
    cases zbk W a with
    | none => rfl
    | some b => exact (hk (c + b) U wr hU.2.1).trans (by rw [hU.df h9])
  intro f
  induction f with
  | zero =>
    intro c U H wr a hz hU
    rw [zNL, zBB_eq zMS_SR hf2, hcl c U H wr a hU, zs_zero zMS_SR, zMS_SR.po]
    intro i hi
    rw [if_neg]
    intro q
    have q' : zfo W H i = true ∧ F.testBit i = true := Bool.and_eq_true _ _ ▸ q
    have h1 := hU.2.2 i hi
    rw [zc_none (by omega) i hi, q'.2, zfo_Fo W H i q'.1] at h1
    exact absurd h1 (by simp)
  | succ f ih =>
    intro c U H wr a hz hU
    rw [zNL, zBB_eq zMS_SR hf2, lsum_app, hcl c U H wr a hU, lsum_fl]
    rw [show sm (some (c, 1)) (zMS.p (sm (zbs W a) (K (zdf F H))) (zMS.s (fun i => if (zfo W H i && F.testBit i) = true then zMS.m (zar W a (i + 1)) (zBB zMS (W.n - 1) (fun S i => zfo W S i && F.testBit i) (zar W) (fun S a => sm (zbs W a) (K (zdf F S))) (H ||| 2 ^ i) (i + 1)) else zMS.o) (W.n - 1))) = sa (zMS.s (fun i => sm (some (c, 1)) (if (zfo W H i && F.testBit i) = true then zMS.m (zar W a (i + 1)) (zBB zMS (W.n - 1) (fun S i => zfo W S i && F.testBit i) (zar W) (fun S a => sm (zbs W a) (K (zdf F S))) (H ||| 2 ^ i) (i + 1)) else zMS.o)) (W.n - 1)) (sm (some (c, 1)) (sm (zbs W a) (K (zdf F H)))) from by
      rw [zMS_SR.pc]
      exact (zMS_SR.md _ _ _).trans (by rw [← zs_mul zMS_SR]; rfl)]
    congr 1
    refine zs_congr zMS (fun i hi => ?_)
    by_cases q : zfo W H i = true
    · have h1 := hU.2.2 i hi
      rw [zfo_Fo W H i q, Bool.or_false] at h1
      cases hF : F.testBit i with
      | false =>
        rw [hF] at h1
        rw [if_neg (by rw [h1]; simp), if_neg (by simp)]
        exact (sm_nr _).symm
      | true =>
        rw [hF] at h1
        rw [if_pos (by rw [q, h1]; rfl), if_pos (by rw [q]; rfl)]
        show _ = sm (some (c, 1)) (sm (se (W.ar a (i + 1))) _)
        rw [sm_c]
        cases W.ar a (i + 1) with
        | none => rfl
        | some x =>
          have hz2 := zc_step (S := U) (n := W.n - 1) h1 hi
          exact ih (c + x) (U ||| 2 ^ i) (H ||| 2 ^ i) (wr ++ [i + 1]) (i + 1) (by omega) (hU.add hi)
    · rw [if_neg (by simp [q]), if_neg (by simp [q])]
      exact (sm_nr _).symm
theorem lsum_HL {W : zW} (h9 : W.n ≤ 9) (out : Nat → Option (Int × Nat)) : ∀ r c U wr last, U < 2 ^ (W.n - 1) → lsum W out (zHL W r c U wr last) = sm (some (c, 1)) (zH zMS (W.n - 1) (zfo W) (zar W) (zbs W) out r (zdf (2 ^ (W.n - 1) - 1) U) last) := by
  intro r
  induction r with
  | zero => intro c U wr last _; exact sa_nr _
  | succ r ih =>
    intro c U wr last hU
    have hS := UF.start h9 hU
    rw [zHL, zH]
    show sa (sm (some (c, 1)) (out (zdf (2 ^ (W.n - 1) - 1) U))) (lsum W out (zfl _ _)) = _
    rw [lsum_fl, show sm (some (c, 1)) (zMS.p (out (zdf (2 ^ (W.n - 1) - 1) U)) _) = sa (sm (some (c, 1)) (out (zdf (2 ^ (W.n - 1) - 1) U))) (sm (some (c, 1)) _) from zMS_SR.md _ _ _]
    congr 1
    refine Eq.trans ?_ (zs_mul zMS_SR (some (c, 1)) _ _)
    refine zs_congr zMS (fun i hi => ?_)
    show _ = sm (some (c, 1)) _
    by_cases ql : last ≤ i
    · rw [decide_eq_true ql, Bool.true_and]
      by_cases q : zfo W 0 i = true
      · have h1 := hS.2.2 i hi
        rw [Nat.zero_testBit, Bool.or_false] at h1
        cases hF : (zdf (2 ^ (W.n - 1) - 1) U).testBit i with
        | false =>
          rw [hF] at h1
          rw [if_neg (by rw [h1]; simp), if_neg (by simp)]
          exact (sm_nr _).symm
        | true =>
          rw [hF] at h1
          rw [if_pos (by rw [q, h1]; rfl), if_pos ⟨ql, by rw [q]; rfl⟩]
          show _ = sm (some (c, 1)) (sm (se (W.ar 0 (i + 1))) _)
          rw [sm_c]
          cases W.ar 0 (i + 1) with
          | none => rfl
          | some x =>
            have := lsum_NL h9 out (fun c U wr => zHL W r c U wr (i + 1)) (fun F => zH zMS (W.n - 1) (zfo W) (zar W) (zbs W) out r F (i + 1)) (fun c U wr hU => ih c U wr (i + 1) hU) (zdf (2 ^ (W.n - 1) - 1) U) (W.n - 1) (c + x) (U ||| 2 ^ i) (0 ||| 2 ^ i) (zsep wr ++ [i + 1]) (i + 1) (zc_le _ _) (hS.add hi)
            rw [Nat.zero_or] at this
            exact this
      · rw [if_neg (by simp [q]), if_neg (by simp [q])]
        exact (sm_nr _).symm
    · rw [decide_eq_false ql, Bool.false_and, if_neg (by simp), if_neg (fun z => ql z.1)]
      exact (sm_nr _).symm
/-- how many -/
def ztN : Nat → Nat
  | 0 => 1
  | m + 1 => 1 + 2 * (m + 1) * ztN m
def ztH : Nat → Nat
  | 0 => 1
  | m + 1 => 1 + (m + 1) * ztN m
theorem fl_len {β : Type} {f : Nat → List β} {U b : Nat} : ∀ k, (∀ i, i < k → (U.testBit i = true → f i = []) ∧ (f i).length ≤ b) → (zfl f k).length ≤ zc U k * b
  | 0, _ => Nat.zero_le _
  | k + 1, h => by
    have ih := fl_len k (fun i hi => h i (by omega))
    obtain ⟨h1, h2⟩ := h k (by omega)
    rw [zfl, List.length_append, zc]
    by_cases q : U.testBit k = true
    · rw [h1 q, if_pos q]; exact ih
    · rw [if_neg q, Nat.add_mul, Nat.one_mul]; omega
theorem ztN_mono : ∀ {a b : Nat}, a ≤ b → ztN a ≤ ztN b := by
  have step : ∀ m, ztN m ≤ ztN (m + 1) := fun m => by
    rw [ztN, show 2 * (m + 1) * ztN m = ztN m + (2 * m + 1) * ztN m by rw [show 2 * (m + 1) = 1 + (2 * m + 1) by omega, Nat.add_mul, Nat.one_mul]]
    omega
  intro a b h
  induction h with
  | refl => exact Nat.le_refl _
  | step _ ih => exact Nat.le_trans ih (step _)
theorem len_NL {W : zW} {k : Int → Nat → List Nat → List zLf} (hk : ∀ m c U wr, zc U (W.n - 1) = m → (k c U wr).length ≤ ztH m) : ∀ f c U H wr a, zc U (W.n - 1) ≤ f → (zNL W k f c U H wr a).length ≤ ztN (zc U (W.n - 1)) := by
  have hcl : ∀ c U wr a, (match zbk W a with | some b => k (c + b) U wr | none => []).length ≤ ztH (zc U (W.n - 1)) := by
    intro c U wr a
    cases zbk W a with
    | none => exact Nat.zero_le _
    | some b => exact hk _ (c + b) U wr rfl
  have hle : ∀ m, ztH m ≤ ztN m := fun m => by
    cases m with
    | zero => exact Nat.le_refl _
    | succ m => rw [ztH, ztN, show 2 * (m + 1) * ztN m = (m + 1) * ztN m + (m + 1) * ztN m by rw [Nat.mul_assoc, Nat.two_mul]]; omega
  intro f
  induction f with
  | zero => intro c U H wr a _; exact Nat.le_trans (hcl c U wr a) (hle _)
  | succ f ih =>
    intro c U H wr a hz
    rw [zNL, List.length_append]
    have h1 := hcl c U wr a
    cases hm : zc U (W.n - 1) with
    | zero =>
      have h2 := fl_len (U := U) (b := 0) (f := fun i => if (zfo W H i && !U.testBit i) = true then (match W.ar a (i + 1) with | some x => zNL W k f (c + x) (U ||| 2 ^ i) (H ||| 2 ^ i) (wr ++ [i + 1]) (i + 1) | none => []) else []) (W.n - 1) (fun i hi => by
        have := zc_none hm i hi
        rw [if_neg (by rw [this]; simp)]
        exact ⟨fun _ => rfl, Nat.le_refl _⟩)
      rw [hm] at h1 h2
      have := hle 0
      omega
    | succ m =>
      have h2 := fl_len (U := U) (b := ztN m) (f := fun i => if (zfo W H i && !U.testBit i) = true then (match W.ar a (i + 1) with | some x => zNL W k f (c + x) (U ||| 2 ^ i) (H ||| 2 ^ i) (wr ++ [i + 1]) (i + 1) | none => []) else []) (W.n - 1) (fun i hi => by
        by_cases q : (zfo W H i && !U.testBit i) = true
        · have q2 : U.testBit i = false := by
            have := (Bool.and_eq_true _ _ ▸ q : _ ∧ _).2
            simpa using this
          rw [if_pos q]
          refine ⟨fun z => by rw [q2] at z; exact absurd z (by simp), ?_⟩
          cases W.ar a (i + 1) with
          | none => exact Nat.zero_le _
          | some x =>
            have hs := zc_step (n := W.n - 1) q2 hi
            have := ih (c + x) (U ||| 2 ^ i) (H ||| 2 ^ i) (wr ++ [i + 1]) (i + 1) (by omega)
            rw [show zc (U ||| 2 ^ i) (W.n - 1) = m by omega] at this
            exact this
        · rw [if_neg q]; exact ⟨fun _ => rfl, Nat.zero_le _⟩)
      rw [hm] at h1 h2
      rw [ztH] at h1
      rw [ztN, show 2 * (m + 1) * ztN m = (m + 1) * ztN m + (m + 1) * ztN m by rw [Nat.mul_assoc, Nat.two_mul]]
      omega
theorem len_HL {W : zW} : ∀ r m c U wr last, zc U (W.n - 1) = m → (zHL W r c U wr last).length ≤ ztH m := by
  intro r
  induction r with
  | zero => intro m c U wr last _; show 1 ≤ ztH m; cases m with | zero => exact Nat.le_refl _ | succ m => rw [ztH]; omega
  | succ r ih =>
    intro m c U wr last hm
    rw [zHL, List.length_cons]
    cases m with
    | zero =>
      have h2 := fl_len (U := U) (b := 0) (f := fun i => if (decide (last ≤ i) && (zfo W 0 i && !U.testBit i)) = true then (match W.ar 0 (i + 1) with | some x => zNL W (fun c U wr => zHL W r c U wr (i + 1)) (W.n - 1) (c + x) (U ||| 2 ^ i) (2 ^ i) (zsep wr ++ [i + 1]) (i + 1) | none => []) else []) (W.n - 1) (fun i hi => by
        have := zc_none hm i hi
        rw [if_neg (by rw [this]; simp)]
        exact ⟨fun _ => rfl, Nat.le_refl _⟩)
      show _ ≤ 1
      omega
    | succ m =>
      have h2 := fl_len (U := U) (b := ztN m) (f := fun i => if (decide (last ≤ i) && (zfo W 0 i && !U.testBit i)) = true then (match W.ar 0 (i + 1) with | some x => zNL W (fun c U wr => zHL W r c U wr (i + 1)) (W.n - 1) (c + x) (U ||| 2 ^ i) (2 ^ i) (zsep wr ++ [i + 1]) (i + 1) | none => []) else []) (W.n - 1) (fun i hi => by
        by_cases q : (decide (last ≤ i) && (zfo W 0 i && !U.testBit i)) = true
        · have q2 : U.testBit i = false := by
            have := (Bool.and_eq_true _ _ ▸ (Bool.and_eq_true _ _ ▸ q : _ ∧ _).2 : _ ∧ _).2
            simpa using this
          rw [if_pos q]
          refine ⟨fun z => by rw [q2] at z; exact absurd z (by simp), ?_⟩
          cases W.ar 0 (i + 1) with
          | none => exact Nat.zero_le _
          | some x =>
            have hs := zc_step (n := W.n - 1) q2 hi
            have := len_NL (W := W) (k := fun c U wr => zHL W r c U wr (i + 1)) (fun m c U wr h => ih m c U wr (i + 1) h) (W.n - 1) (c + x) (U ||| 2 ^ i) (2 ^ i) (zsep wr ++ [i + 1]) (i + 1) (zc_le _ _)
            rw [show zc (U ||| 2 ^ i) (W.n - 1) = m by omega] at this
            exact this
        · rw [if_neg q]; exact ⟨fun _ => rfl, Nat.zero_le _⟩)
      rw [hm] at h2
      rw [ztH]
      omega
theorem sw_lsum (W : zW) : ∀ l, sw (lsum W (zos W) l) ≤ l.length
  | [] => Nat.le_refl _
  | x :: l => by
    have ih := sw_lsum W l
    have h1 : sw (sm (some (x.1, 1)) (zos W (zdf (2 ^ (W.n - 1) - 1) x.2.1))) ≤ 1 := by
      unfold zos
      cases zOt W (zdf (2 ^ (W.n - 1) - 1) x.2.1) with
      | none => exact Nat.zero_le _
      | some y => exact Nat.le_refl _
    show sw (sa _ (lsum W (zos W) l)) ≤ l.length + 1
    rw [sw_sa]
    split
    · omega
    · split
      · omega
      · omega
