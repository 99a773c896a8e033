/-! plans of a world -/
def zlsm (W : zW) (S : Nat) : Nat → Nat
  | 0 => 0
  | k + 1 => zlsm W S k + if S.testBit k = true then W.lo (k + 1) else 0
theorem zlsm_or {W : zW} {S i : Nat} (hS : S.testBit i = false) : ∀ n, zlsm W (S ||| 2 ^ i) n = zlsm W S n + if i < n then W.lo (i + 1) else 0
  | 0 => rfl
  | n + 1 => by
    have ih := zlsm_or (W := W) hS n
    rw [zlsm, zlsm, tb_or, ih]
    by_cases hn : i = n
    · subst hn
      rw [hS, if_neg (Nat.lt_irrefl _), if_pos (Nat.lt_succ_self _), decide_eq_true rfl, Bool.or_true, if_pos rfl, if_neg (by simp)]
    · rw [decide_eq_false hn, Bool.or_false]
      by_cases hi : i < n
      · rw [if_pos hi, if_pos (show i < n + 1 by omega)]; omega
      · rw [if_neg hi, if_neg (show ¬ i < n + 1 by omega)]; omega
def zLda (W : zW) (S : Nat) : Nat := zlsm W S (W.n - 1)
theorem zLda_or {W : zW} {S i : Nat} (hS : S.testBit i = false) (hi : i < W.n - 1) : zLda W (S ||| 2 ^ i) = zLda W S + W.lo (i + 1) := by
  unfold zLda; rw [zlsm_or hS, if_pos hi]
theorem zlsm_0 (W : zW) : ∀ n, zlsm W 0 n = 0
  | 0 => rfl
  | n + 1 => by rw [zlsm, zlsm_0 W n, Nat.zero_testBit]; rfl
theorem zLda_0 (W : zW) : zLda W 0 = 0 := zlsm_0 W _
def zfo (W : zW) (S i : Nat) : Bool := decide (zLda W S + W.lo (i + 1) ≤ W.rm) && (!S.testBit i && decide (W.ea (i + 1) &&& (255 ^^^ S) = 0))
theorem zfo_iff (W : zW) (S i : Nat) : zfo W S i = true ↔ zLda W S + W.lo (i + 1) ≤ W.rm ∧ S.testBit i = false ∧ W.ea (i + 1) &&& (255 ^^^ S) = 0 := by
  unfold zfo
  rw [Bool.and_eq_true, Bool.and_eq_true, decide_eq_true_iff, decide_eq_true_iff, Bool.not_eq_true']
theorem zfo_Fo (W : zW) : zFo (zfo W) := fun S i h => ((zfo_iff W S i).mp h).2.1
def zar (W : zW) (a b : Nat) : Option (Int × Nat) := se (W.ar a b)
def zbs (W : zW) (a : Nat) : Option (Int × Nat) := se (zbk W a)
def zos (W : zW) (F : Nat) : Option (Int × Nat) := se (zOt W F)
theorem zOt_l {W : zW} {F l : Nat} (hF : F < 256) (hl : F.testBit l = true) : ∀ k, zf (fun i a => if F.testBit i = true then oad a (W.pr (i + 1)) else a) (some 0) k = if l < k then oad (W.pr (l + 1)) (zf (fun i a => if (zdf F (2 ^ l)).testBit i = true then oad a (W.pr (i + 1)) else a) (some 0) k) else zf (fun i a => if (zdf F (2 ^ l)).testBit i = true then oad a (W.pr (i + 1)) else a) (some 0) k
  | 0 => by rw [if_neg (Nat.not_lt_zero _)]; rfl
  | k + 1 => by
    rw [zf_s _ _ k, zf_s _ _ k, zOt_l hF hl k, tb_df hF, Nat.testBit_two_pow]
    by_cases hk : l = k
    · subst hk
      rw [if_neg (Nat.lt_irrefl _), if_pos (Nat.lt_succ_self _), hl, if_pos rfl, decide_eq_true rfl, if_neg (by simp), oad_cm]
    · rw [decide_eq_false hk, Bool.not_false, Bool.and_true]
      by_cases hi : l < k
      · rw [if_pos hi, if_pos (show l < k + 1 by omega)]
        split
        · rw [oad_as]
        · rfl
      · rw [if_neg hi, if_neg (show ¬ l < k + 1 by omega)]
theorem zos_l {W : zW} {l : Nat} (hl : l < W.n - 1) : ∀ F, F < 256 → F.testBit l = true → zos W F = zMS.m (se (W.pr (l + 1))) (zos W (zdf F (2 ^ l))) := by
  intro F hF hb
  show se (zOt W F) = sm (se (W.pr (l + 1))) (se (zOt W (zdf F (2 ^ l))))
  rw [← se_oad]
  unfold zOt
  rw [zOt_l hF hb, if_pos hl]
theorem zos_0 (W : zW) : zos W 0 = some (0, 1) := by
  have : ∀ k, zf (fun i a => if (0 : Nat).testBit i = true then oad a (W.pr (i + 1)) else a) (some 0) k = some 0 := by
    intro k
    induction k with
    | zero => rfl
    | succ k ih => rw [zf_s _ _ k, ih, Nat.zero_testBit]; rfl
  unfold zos zOt
  rw [this]; rfl
/-- the plans of at most r rounds of the places F -/
def wP (W : zW) (r F : Nat) : Option (Int × Nat) := zPl zMS (W.n - 1) (zfo W) (zar W) (zbs W) (zos W) r F
/-- beginnings of rounds -/
def wT (W : zW) (j : Nat) : Nat → Option (Int × Nat) := zFw zMS (W.n - 1) (zfo W) (zar W) j
/-- rounds of just a set -/
def wR (W : zW) (M : Nat) : Option (Int × Nat) := zRv zMS (W.n - 1) (zfo W) (zar W) (zbs W) M
/-- the end of a round of F, and r rounds more -/
def wE (W : zW) (r F S a : Nat) : Option (Int × Nat) := zBB zMS (W.n - 1) (fun S k => zfo W S k && F.testBit k) (zar W) (fun S a => sm (zbs W a) (wP W r (zdf F S))) S a
theorem zMS_p (x y : Option (Int × Nat)) : zMS.p x y = sa x y := rfl
theorem zMS_m (x y : Option (Int × Nat)) : zMS.m x y = sm x y := rfl
theorem zMS_o : zMS.o = none := rfl
theorem sm_as (x y z : Option (Int × Nat)) : sm (sm x y) z = sm x (sm y z) := zMS_SR.ma x y z
theorem wE_eq (W : zW) (r F S a : Nat) : wE W r F S a = sa (sm (zbs W a) (wP W r (zdf F S))) (zMS.s (fun i => if (zfo W S i && F.testBit i) = true then sm (zar W a (i + 1)) (wE W r F (S ||| 2 ^ i) (i + 1)) else none) (W.n - 1)) :=
  zBB_eq zMS_SR (fun S i q => zfo_Fo W S i ((Bool.and_eq_true _ _ ▸ q : _ ∧ _).1)) _ _ S a
theorem wP_0 (W : zW) (F : Nat) : wP W 0 F = zos W F := zPl_0 zMS_SR _ _ _ F
theorem wP_e {W : zW} (h9 : W.n ≤ 9) (r : Nat) : wP W r 0 = some (0, 1) := (zPl_e zMS_SR (by omega) (zfo_Fo W) _ _ _ r).trans (zos_0 W)
theorem wP_more {W : zW} (h9 : W.n ≤ 9) (r F : Nat) (hF : F < 256) (hr : zpk F 8 < r) : wP W r F = wP W (r - 1) F := zPl_more zMS_SR (by omega) (zfo_Fo W) _ _ _ r F hF hr
theorem wP_low {W : zW} {l : Nat} (hl : l < W.n - 1) (r F : Nat) (hF : F < 256) (hb : F.testBit l = true) : wP W r F = sa (sm (se (W.pr (l + 1))) (wP W r (zdf F (2 ^ l)))) (zMS.s (fun M => if 0 < r ∧ M &&& F = M ∧ M.testBit l = true then sm (wR W M) (wP W (r - 1) (zdf F M)) else none) (2 ^ (W.n - 1))) :=
  zPl_low zMS_SR (zfo_Fo W) _ _ _ (zos_l hl) r F hF hb
/-- bounds -/
def bB (b : Int) (x : Option (Int × Nat)) : Prop := oB b (sc x)
theorem bB_n (b : Int) : bB b none := oB_n b
theorem bB_mono {b b' : Int} {x : Option (Int × Nat)} (h : bB b x) (hb : b ≤ b') : bB b' x := oB_mono h hb
theorem bB_m {b b' : Int} {x y : Option (Int × Nat)} (h : bB b x) (h' : bB b' y) : bB (b + b') (sm x y) := by
  unfold bB; rw [sc_sm]; exact oB_add h h'
theorem bB_a {b : Int} {x y : Option (Int × Nat)} (h : bB b x) (h' : bB b y) : bB b (sa x y) := by
  unfold bB; rw [sc_sa]
  cases hx : sc x with
  | none => rw [omin_nl]; exact h'
  | some u => cases hy : sc y with
    | none => rw [omin_nr, ← hx]; exact h
    | some v =>
      have h1 := h u hx
      have h2 := h' v hy
      show oB b (some (if v < u then v else u))
      split
      · exact oB_s (by omega) (by omega)
      · exact oB_s (by omega) (by omega)
theorem bB_s {b : Int} {f : Nat → Option (Int × Nat)} : ∀ {k : Nat}, (∀ i, i < k → bB b (f i)) → bB b (zMS.s f k)
  | 0, _ => bB_n b
  | k + 1, h => bB_a (bB_s (fun i hi => h i (by omega))) (h k (by omega))
theorem bB_e {b : Int} {o : Option Int} (h : oB b o) : bB b (se o) := by unfold bB; rw [sc_se]; exact h
theorem bB_i {b : Int} {c : Prop} [Decidable c] {x y : Option (Int × Nat)} (h : c → bB b x) (h' : ¬ c → bB b y) : bB b (if c then x else y) := by
  split
  · exact h ‹_›
  · exact h' ‹_›
theorem zar_B {W : zW} (hW : zWok W) (a b : Nat) : bB 1000 (zar W a b) := bB_e (hW.arB a b)
theorem zbs_B {W : zW} (hW : zWok W) (a : Nat) : bB 1000 (zbs W a) := bB_e (hW.bkB a)
theorem zos_B {W : zW} (hW : zWok W) (F : Nat) : bB 16000 (zos W F) := bB_e (hW.otB F)
theorem zBB_B {W : zW} (hW : zWok W) {fol : Nat → Nat → Bool} (hf : zFo fol) {b : Int} {g : Nat → Nat → Option (Int × Nat)} (hg : ∀ S a, bB b (g S a)) : ∀ S a, bB (b + 1000 * zc S (W.n - 1)) (zBB zMS (W.n - 1) fol (zar W) g S a) := by
  refine zc_ind (W.n - 1) (fun S ih a => ?_)
  rw [zBB_eq zMS_SR hf]
  refine bB_a (bB_mono (hg S a) (by omega)) (bB_s (fun i hi => bB_i (fun q => ?_) (fun _ => bB_n _)))
  have h1 := zc_step (hf S i q) hi
  exact bB_mono (bB_m (zar_B hW a (i + 1)) (ih i hi (hf S i q) (i + 1))) (by omega)
theorem zZ_B {b c : Int} (hc : 0 ≤ c) {out : Nat → Option (Int × Nat)} (ho : ∀ F, bB b (out F)) : ∀ (L : List (Nat × Option (Int × Nat))), (∀ x, x ∈ L → bB c x.2) → ∀ (r F : Nat), bB (b + c * r) (zZ zMS out L r F)
  | [], _, r, F => bB_mono (ho F) (by have := Int.mul_nonneg hc (Int.natCast_nonneg r); omega)
  | x :: L, hL, r, F => by
    rw [zZ]
    refine bB_a (zZ_B hc ho L (fun y hy => hL y (List.mem_cons_of_mem _ hy)) r F) (bB_i (fun q => ?_) (fun _ => bB_n _))
    refine bB_mono (bB_m (hL x List.mem_cons_self) (zZ_B hc ho L (fun y hy => hL y (List.mem_cons_of_mem _ hy)) (r - 1) (zdf F x.1))) ?_
    have e : ((r - 1 : Nat) : Int) = (r : Int) - 1 := by omega
    rw [e, Int.mul_sub, Int.mul_one]
    omega
theorem zLs_mem {α : Type} {w : Nat → α} {x : Nat × α} : ∀ {K : Nat}, x ∈ zLs w K → ∃ M, M < K ∧ x = (M, w M)
  | 0, h => absurd h (by simp [zLs])
  | K + 1, h => by
    rw [zLs] at h
    rcases List.mem_cons.mp h with e | e
    · exact ⟨K, Nat.lt_succ_self _, e⟩
    · obtain ⟨M, h1, h2⟩ := zLs_mem e; exact ⟨M, by omega, h2⟩
theorem wR_B {W : zW} (hW : zWok W) (M : Nat) : bB 9000 (wR W M) := by
  have h9 := hW.h9
  by_cases hM : M = 0
  · subst hM
    rw [show wR W 0 = none from zRv_0 zMS_SR (zfo_Fo W) _ _]; exact bB_n _
  · rw [show wR W M = _ from zRv_B zMS_SR (zfo_Fo W) _ _ hM]
    refine bB_mono (zBB_B hW (zfo_Fo W) (fun S a => bB_i (fun _ => zbs_B hW a) (fun _ => bB_n _)) 0 0) ?_
    have := zc_le 0 (W.n - 1)
    omega
theorem wP_B {W : zW} (hW : zWok W) {r : Nat} (hr : r ≤ 8) (F : Nat) : bB 88000 (wP W r F) := by
  refine bB_mono (zZ_B (c := 9000) (by omega) (zos_B hW) _ (fun x hx => ?_) r F) (by omega)
  obtain ⟨M, -, rfl⟩ := zLs_mem hx
  exact wR_B hW M
theorem wE_B {W : zW} (hW : zWok W) {r : Nat} (hr : r ≤ 8) (F S a : Nat) : bB 100000 (wE W r F S a) := by
  have h9 := hW.h9
  refine bB_mono (zBB_B hW (fun S i q => zfo_Fo W S i ((Bool.and_eq_true _ _ ▸ q : _ ∧ _).1)) (fun S a => bB_m (zbs_B hW a) (wP_B hW hr (zdf F S))) S a) ?_
  have := zc_le S (W.n - 1)
  omega
theorem zpk_or {S i : Nat} (hS : S.testBit i = false) : ∀ n, zpk (S ||| 2 ^ i) n = zpk S n + if i < n then 1 else 0
  | 0 => rfl
  | n + 1 => by
    have ih := zpk_or hS n
    rw [zpk, zpk, tb_or, ih]
    by_cases hn : i = n
    · subst hn
      rw [hS, if_neg (Nat.lt_irrefl _), if_pos (Nat.lt_succ_self _), decide_eq_true rfl, Bool.or_true, if_pos rfl, if_neg (by simp)]
    · rw [decide_eq_false hn, Bool.or_false]
      by_cases hi : i < n
      · rw [if_pos hi, if_pos (show i < n + 1 by omega)]; omega
      · rw [if_neg hi, if_neg (show ¬ i < n + 1 by omega)]; omega
theorem zpk_le (S : Nat) : ∀ n, zpk S n ≤ n
  | 0 => Nat.le_refl _
  | n + 1 => by
    have := zpk_le S n
    rw [zpk]; split <;> omega
theorem zXt_B {W : zW} (hW : zWok W) {T : Nat → Option (Int × Nat)} (hT : ∀ i, bB (1000 * zpk (i / 9) 8) (T i)) (S a : Nat) (ha : a < 9) : ∀ k, k ≤ 8 → ∀ i, bB (1000 * zpk (i / 9) 8) (zXt zMS (zfo W) (zar W) T S a k i) := by
  intro k
  induction k with
  | zero => intro _; exact hT
  | succ k ih =>
    intro hk i
    rw [zXt]
    by_cases q : zfo W S k = true
    · rw [if_pos q]
      refine bB_i (fun e => bB_a (ih (by omega) i) ?_) (fun _ => ih (by omega) i)
      have h1 := zpk_or (zfo_Fo W S k q) 8
      rw [if_pos (by omega)] at h1
      refine bB_mono (bB_m (hT (S * 9 + a)) (zar_B hW a (k + 1))) ?_
      rw [e, show ((S ||| 2 ^ k) * 9 + (k + 1)) / 9 = (S ||| 2 ^ k) by omega, show (S * 9 + a) / 9 = S by omega]
      omega
    · rw [if_neg q]; exact ih (by omega) i
theorem wT_B1 {W : zW} (hW : zWok W) : ∀ j i, bB (1000 * zpk (i / 9) 8) (wT W j i) := by
  have h9 := hW.h9
  intro j
  induction j with
  | zero =>
    intro i
    refine bB_i (fun _ => ?_) (fun _ => bB_n _)
    exact oB_s (by omega) (by omega)
  | succ j ih => intro i; exact zXt_B hW ih (j / 9) (j % 9) (by omega) (W.n - 1) (by omega) i
theorem wT_B {W : zW} (hW : zWok W) (j i : Nat) : bB 8000 (wT W j i) := bB_mono (wT_B1 hW j i) (by have := zpk_le (i / 9) 8; omega)
