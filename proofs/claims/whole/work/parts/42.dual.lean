/-! marks: which rounds have a mark -/
def zD {α : Type} (R : zR α) : zR (α × α) := (fun x y => (R.p x.1 y.1, R.p x.2 y.2), fun x y => (R.m x.1 y.1, R.p (R.m x.1 y.2) (R.m x.2 y.1)), (R.o, R.o), (R.i, R.o))
theorem zD_p {α : Type} (R : zR α) (x y : α × α) : (zD R).p x y = (R.p x.1 y.1, R.p x.2 y.2) := rfl
theorem zD_m {α : Type} (R : zR α) (x y : α × α) : (zD R).m x y = (R.m x.1 y.1, R.p (R.m x.1 y.2) (R.m x.2 y.1)) := rfl
theorem zD_o {α : Type} (R : zR α) : (zD R).o = (R.o, R.o) := rfl
theorem zD_i {α : Type} (R : zR α) : (zD R).i = (R.i, R.o) := rfl
theorem zD_SR {α : Type} {R : zR α} (h : zSR R) : zSR (zD R) := by
  refine ⟨fun a b => ?_, fun a b c => ?_, fun a => ?_, fun a b => ?_, fun a b c => ?_, fun a => ?_, fun a => ?_, fun a b c => ?_⟩
  · rw [zD_p, zD_p, h.pc a.1, h.pc a.2]
  · rw [zD_p, zD_p, zD_p, zD_p, h.pa, h.pa]
  · rw [zD_p, zD_o, h.po, h.po]
  · rw [zD_m, zD_m, h.mc a.1 b.1, h.pc, h.mc a.2 b.1, h.mc a.1 b.2]
  · rw [zD_m, zD_m, zD_m, zD_m]
    show (R.m (R.m a.1 b.1) c.1, R.p (R.m (R.m a.1 b.1) c.2) (R.m (R.p (R.m a.1 b.2) (R.m a.2 b.1)) c.1)) = (R.m a.1 (R.m b.1 c.1), R.p (R.m a.1 (R.p (R.m b.1 c.2) (R.m b.2 c.1))) (R.m a.2 (R.m b.1 c.1)))
    rw [h.ma, h.ma, h.dm, h.md, h.ma, h.ma, h.pa]
  · rw [zD_m, zD_i, h.mi, h.mo, h.mi, h.op]
  · rw [zD_m, zD_o, h.mo, h.mo, h.po]
  · rw [zD_p, zD_m, zD_m, zD_m, zD_p, h.md, h.md, h.md, h.p4]
theorem zD_s1 {α : Type} (R : zR α) (f : Nat → α × α) : ∀ k, ((zD R).s f k).1 = R.s (fun i => (f i).1) k
  | 0 => rfl
  | k + 1 => by rw [zR.s, zR.s, ← zD_s1 R f k]; rfl
theorem zD_s2 {α : Type} (R : zR α) (f : Nat → α × α) : ∀ k, ((zD R).s f k).2 = R.s (fun i => (f i).2) k
  | 0 => rfl
  | k + 1 => by rw [zR.s, zR.s, ← zD_s2 R f k]; rfl
theorem fst_if {α : Type} {c : Prop} [Decidable c] (x y : α × α) : (if c then x else y).1 = if c then x.1 else y.1 := by split <;> rfl
theorem snd_if {α : Type} {c : Prop} [Decidable c] (x y : α × α) : (if c then x else y).2 = if c then x.2 else y.2 := by split <;> rfl
theorem zZ_D1 {α : Type} (R : zR α) (out : Nat → α) (w u : Nat → α) : ∀ K r F, (zZ (zD R) (fun F => (out F, R.o)) (zLs (fun M => (w M, u M)) K) r F).1 = zZ R out (zLs w K) r F
  | 0, _, _ => rfl
  | K + 1, r, F => by
    show R.p (zZ (zD R) (fun F => (out F, R.o)) (zLs (fun M => (w M, u M)) K) r F).1 (if 0 < r ∧ K &&& F = K then (zD R).m (w K, u K) (zZ (zD R) (fun F => (out F, R.o)) (zLs (fun M => (w M, u M)) K) (r - 1) (zdf F K)) else (zD R).o).1 = R.p (zZ R out (zLs w K) r F) (if 0 < r ∧ K &&& F = K then R.m (w K) (zZ R out (zLs w K) (r - 1) (zdf F K)) else R.o)
    rw [fst_if, zD_m, zZ_D1 R out w u K r F, zZ_D1 R out w u K (r - 1) (zdf F K)]
    rfl
theorem zZ_D2 {α : Type} {R : zR α} (h : zSR R) (out : Nat → α) (w u : Nat → α) (h0 : w 0 = R.o) (h0' : u 0 = R.o) : ∀ K r F, F < 256 → (zZ (zD R) (fun F => (out F, R.o)) (zLs (fun M => (w M, u M)) K) r F).2 = R.s (fun M => if 0 < r ∧ M &&& F = M then R.m (u M) (zZ R out (zLs w K) (r - 1) (zdf F M)) else R.o) K
  | 0, _, _, _ => rfl
  | K + 1, r, F, hF => by
    show R.p (zZ (zD R) (fun F => (out F, R.o)) (zLs (fun M => (w M, u M)) K) r F).2 (if 0 < r ∧ K &&& F = K then (zD R).m (w K, u K) (zZ (zD R) (fun F => (out F, R.o)) (zLs (fun M => (w M, u M)) K) (r - 1) (zdf F K)) else (zD R).o).2 = R.p (R.s (fun M => if 0 < r ∧ M &&& F = M then R.m (u M) (zZ R out ((K, w K) :: zLs w K) (r - 1) (zdf F M)) else R.o) K) (if 0 < r ∧ K &&& F = K then R.m (u K) (zZ R out ((K, w K) :: zLs w K) (r - 1) (zdf F K)) else R.o)
    rw [snd_if, zD_m, zZ_D2 h out w u h0 h0' K r F hF, zZ_D2 h out w u h0 h0' K (r - 1) (zdf F K) (zdf_lt hF), zZ_D1]
    have e1 : ∀ M, M < K → (if 0 < r ∧ M &&& F = M then R.m (u M) (zZ R out ((K, w K) :: zLs w K) (r - 1) (zdf F M)) else R.o) = R.p (if 0 < r ∧ M &&& F = M then R.m (u M) (zZ R out (zLs w K) (r - 1) (zdf F M)) else R.o) (if 0 < r ∧ K &&& F = K then R.m (w K) (if 0 < r - 1 ∧ M &&& zdf F K = M then R.m (u M) (zZ R out (zLs w K) (r - 1 - 1) (zdf (zdf F K) M)) else R.o) else R.o) := by
      intro M _
      rw [zZ]
      have hc := df_cm (F := F) (M := M) (P := K) hF
      by_cases q : 0 < r ∧ M &&& F = M
      · rw [if_pos q, if_pos q, h.md]
        congr 1
        by_cases q2 : 0 < r - 1 ∧ K &&& zdf F M = K
        · have := hc.mp ⟨q.2, q2.2⟩
          rw [if_pos q2, if_pos ⟨q.1, this.1⟩, if_pos ⟨q2.1, this.2⟩, h.m3, df_df hF]
        · rw [if_neg q2, h.mo]
          by_cases q3 : 0 < r ∧ K &&& F = K
          · rw [if_pos q3, if_neg (fun z => q2 ⟨z.1, (hc.mpr ⟨q3.2, z.2⟩).2⟩), h.mo]
          · rw [if_neg q3]
      · rw [if_neg q, if_neg q, h.op]
        by_cases q3 : 0 < r ∧ K &&& F = K
        · rw [if_pos q3, if_neg (fun z => q ⟨q3.1, (hc.mpr ⟨q3.2, z.2⟩).1⟩), h.mo]
        · rw [if_neg q3]
    rw [zs_congr R e1, zs_add h, h.pa]
    congr 1
    by_cases q : 0 < r ∧ K &&& F = K
    · rw [if_pos q, if_pos q, zs_congr R (fun M _ => if_pos q), zs_mul h]
      congr 1
      rw [zZ]
      by_cases k0 : K = 0
      · subst k0
        rw [h0', h.om, h.om]
      · rw [if_neg (fun z => df_not_sub hF k0 z.2), h.po]
    · rw [if_neg q, if_neg q, zs_zero h (fun M _ => if_neg q), h.po]
      rfl
theorem zBB_D1 {α : Type} {R : zR α} (h : zSR R) {N : Nat} {fol : Nat → Nat → Bool} (hf : zFo fol) (ar g : Nat → Nat → α × α) : ∀ S a, (zBB (zD R) N fol ar g S a).1 = zBB R N fol (fun a b => (ar a b).1) (fun S a => (g S a).1) S a := by
  refine zc_ind N (fun S ih a => ?_)
  rw [zBB_eq (zD_SR h) hf, zBB_eq h hf, zD_p, zD_s1]
  show R.p _ _ = R.p _ _
  congr 1
  refine zs_congr R (fun i hi => ?_)
  rw [fst_if]
  by_cases q : fol S i = true
  · rw [if_pos q, if_pos q, zD_m, ih i hi (hf S i q)]
  · rw [if_neg q, if_neg q]; rfl
theorem zBB_D2 {α : Type} {R : zR α} (h : zSR R) {N : Nat} {fol : Nat → Nat → Bool} (hf : zFo fol) (ar g : Nat → Nat → α × α) : ∀ S a, (zBB (zD R) N fol ar g S a).2 = zBB R N fol (fun a b => (ar a b).1) (fun S a => R.p (g S a).2 (R.s (fun i => if fol S i = true then R.m (ar a (i + 1)).2 (zBB R N fol (fun a b => (ar a b).1) (fun S a => (g S a).1) (S ||| 2 ^ i) (i + 1)) else R.o) N)) S a := by
  refine zc_ind N (fun S ih a => ?_)
  rw [zBB_eq (zD_SR h) hf, zBB_eq h hf, zD_p, zD_s2, h.pa, ← zs_add h]
  show R.p _ _ = R.p _ _
  congr 1
  refine zs_congr R (fun i hi => ?_)
  rw [snd_if]
  by_cases q : fol S i = true
  · rw [if_pos q, if_pos q, if_pos q, zD_m, ih i hi (hf S i q), zBB_D1 h hf, h.pc]
  · rw [if_neg q, if_neg q, if_neg q, h.po]; rfl
/-- plans with a mark, round by round -/
theorem zPl_D2 {α : Type} {R : zR α} (h : zSR R) {N : Nat} {fol : Nat → Nat → Bool} (hf : zFo fol) (ar : Nat → Nat → α × α) (bk : Nat → α × α) (out : Nat → α) (r F : Nat) (hF : F < 256) : (zPl (zD R) N fol ar bk (fun F => (out F, R.o)) r F).2 = R.s (fun M => if 0 < r ∧ M &&& F = M then R.m (zRv (zD R) N fol ar bk M).2 (zPl R N fol (fun a b => (ar a b).1) (fun a => (bk a).1) out (r - 1) (zdf F M)) else R.o) (2 ^ N) := by
  have h0 := zRv_0 (zD_SR h) hf ar bk (N := N)
  have e1 : ∀ M, (zRv (zD R) N fol ar bk M).1 = zRv R N fol (fun a b => (ar a b).1) (fun a => (bk a).1) M := by
    intro M
    by_cases hM : M = 0
    · subst hM; rw [h0, zRv_0 h hf]; rfl
    · rw [zRv_B (zD_SR h) hf _ _ hM, zRv_B h hf _ _ hM, zBB_D1 h hf]
      congr 1
      funext S a
      rw [fst_if]; rfl
  have e2 : (fun M => zRv (zD R) N fol ar bk M) = fun M => (zRv R N fol (fun a b => (ar a b).1) (fun a => (bk a).1) M, (zRv (zD R) N fol ar bk M).2) := by
    funext M
    rw [← e1 M]
  unfold zPl
  have e3 := zZ_D2 h out (fun M => zRv R N fol (fun a b => (ar a b).1) (fun a => (bk a).1) M) (fun M => (zRv (zD R) N fol ar bk M).2) (by rw [zRv_0 h hf]) (by rw [h0]; rfl) (2 ^ N) r F hF
  rw [← e2] at e3
  exact e3
/-- the same, by beginnings and ends of the round with the mark -/
theorem zPl_mark {α : Type} {R : zR α} (h : zSR R) {N : Nat} (hN : N ≤ 8) {fol : Nat → Nat → Bool} (hf : zFo fol) (ar : Nat → Nat → α × α) (bk : Nat → α × α) (out : Nat → α) (r : Nat) : (zPl (zD R) N fol ar bk (fun F => (out F, R.o)) (r + 1) (2 ^ N - 1)).2 = R.s (fun S => R.s (fun a => R.m (zFw R N fol (fun a b => (ar a b).1) (2 ^ N * 9) (S * 9 + a)) (R.p (if S = 0 then R.o else R.m (bk a).2 (zPl R N fol (fun a b => (ar a b).1) (fun a => (bk a).1) out r (zdf (2 ^ N - 1) S))) (R.s (fun i => if fol S i = true then R.m (ar a (i + 1)).2 (zBB R N fol (fun a b => (ar a b).1) (fun S a => if S = 0 then R.o else R.m (bk a).1 (zPl R N fol (fun a b => (ar a b).1) (fun a => (bk a).1) out r (zdf (2 ^ N - 1) S))) (S ||| 2 ^ i) (i + 1)) else R.o) N))) 9) (2 ^ N) := by
  have hp : 0 < 2 ^ N := Nat.pos_of_ne_zero (by simp)
  have h8 : 2 ^ N ≤ 2 ^ 8 := Nat.pow_le_pow_right (by decide) hN
  have hsub : ∀ M, M < 2 ^ N → M &&& (2 ^ N - 1) = M := fun M hM => by rw [Nat.and_two_pow_sub_one_eq_mod]; exact Nat.mod_eq_of_lt hM
  rw [zPl_D2 h hf ar bk out (r + 1) (2 ^ N - 1) (by omega)]
  have e : ∀ M, M < 2 ^ N → (if 0 < r + 1 ∧ M &&& (2 ^ N - 1) = M then R.m (zRv (zD R) N fol ar bk M).2 (zPl R N fol (fun a b => (ar a b).1) (fun a => (bk a).1) out (r + 1 - 1) (zdf (2 ^ N - 1) M)) else R.o) = ((zD R).m (if M = 0 then (zD R).o else (zPl R N fol (fun a b => (ar a b).1) (fun a => (bk a).1) out r (zdf (2 ^ N - 1) M), R.o)) (zBB (zD R) N fol ar (fun S a => if S = M then bk a else (zD R).o) 0 0)).2 := by
    intro M hM
    rw [if_pos ⟨Nat.succ_pos _, hsub M hM⟩, zD_m]
    by_cases hM0 : M = 0
    · rw [if_pos hM0, hM0, zRv_0 (zD_SR h) hf, zD_o, h.om, h.om, h.om, h.po]
    · rw [if_neg hM0, zRv_B (zD_SR h) hf _ _ hM0, h.om, h.po, h.mc]; rfl
  rw [zs_congr R e, ← zD_s2, ← zBB_lin (zD_SR h) hf ar (fun M S a => if S = M then bk a else (zD R).o)]
  rw [zBB_congr (zD_SR h) hf ar (g' := fun S a => if S = 0 then (zD R).o else (zD R).m (bk a) (zPl R N fol (fun a b => (ar a b).1) (fun a => (bk a).1) out r (zdf (2 ^ N - 1) S), R.o)) ?_ 0 hp 0, zBB_D2 h hf, ← zFw_all h hN hf]
  · refine zs_congr R (fun S _ => zs_congr R (fun a _ => ?_))
    congr 2
    · rw [snd_if]
      by_cases q : S = 0
      · rw [if_pos q, if_pos q]; rfl
      · rw [if_neg q, if_neg q, zD_m, h.mo, h.op]
    · refine zs_congr R (fun i _ => ?_)
      by_cases q : fol S i = true
      · rw [if_pos q, if_pos q]
        congr 2
        funext S a
        rw [fst_if]; rfl
      · rw [if_neg q, if_neg q]
  · intro S a hS
    rw [zs_one (j := S) (zD_SR h) hS (fun M _ hn => by rw [if_neg (show ¬ S = M from fun z => hn z.symm), (zD_SR h).mo]), if_pos (show S = S from rfl)]
    by_cases q : S = 0
    · rw [if_pos q, if_pos q, (zD_SR h).om]
    · rw [if_neg q, if_neg q, (zD_SR h).mc]
/-- least costs and how many -/
def sa2 (x y : Int × Nat) : Int × Nat := if x.1 < y.1 then x else if y.1 < x.1 then y else (x.1, x.2 + y.2)
def sa (x y : Option (Int × Nat)) : Option (Int × Nat) := match x, y with
  | none, y => y
  | some x, none => some x
  | some x, some y => some (sa2 x y)
def sm (x y : Option (Int × Nat)) : Option (Int × Nat) := match x, y with
  | some x, some y => some (x.1 + y.1, x.2 * y.2)
  | _, _ => none
def zMS : zR (Option (Int × Nat)) := (sa, sm, none, some (0, 1))
theorem sa_nl (x : Option (Int × Nat)) : sa none x = x := by cases x <;> rfl
theorem sa_nr (x : Option (Int × Nat)) : sa x none = x := by cases x <;> rfl
theorem sm_nl (x : Option (Int × Nat)) : sm none x = none := by cases x <;> rfl
theorem sm_nr (x : Option (Int × Nat)) : sm x none = none := by cases x <;> rfl
theorem sa2_lt {x y : Int × Nat} (h : x.1 < y.1) : sa2 x y = x := if_pos h
theorem sa2_gt {x y : Int × Nat} (h : y.1 < x.1) : sa2 x y = y := by unfold sa2; rw [if_neg (by omega), if_pos h]
theorem sa2_eq {x y : Int × Nat} (h : x.1 = y.1) : sa2 x y = (x.1, x.2 + y.2) := by unfold sa2; rw [if_neg (by omega), if_neg (by omega)]
theorem sa2_cm (x y : Int × Nat) : sa2 x y = sa2 y x := by
  rcases Int.lt_trichotomy x.1 y.1 with h | h | h
  · rw [sa2_lt h, sa2_gt h]
  · rw [sa2_eq h, sa2_eq h.symm, h, Nat.add_comm]
  · rw [sa2_gt h, sa2_lt h]
theorem sa2_as (x y z : Int × Nat) : sa2 (sa2 x y) z = sa2 x (sa2 y z) := by
  rcases Int.lt_trichotomy x.1 y.1 with h | h | h <;> rcases Int.lt_trichotomy y.1 z.1 with h' | h' | h'
  · rw [sa2_lt h, sa2_lt h', sa2_lt h, sa2_lt (by omega)]
  · rw [sa2_lt h, sa2_eq h', sa2_lt (by omega), sa2_lt (by show x.1 < y.1; exact h)]
  · rw [sa2_lt h, sa2_gt h']
  · rw [sa2_eq h, sa2_lt h', sa2_eq h, sa2_lt (by show x.1 < z.1; omega)]
  · rw [sa2_eq h, sa2_eq h', sa2_eq (by show x.1 = z.1; omega), sa2_eq (by show x.1 = y.1; exact h)]
    show (x.1, x.2 + y.2 + z.2) = (x.1, x.2 + (y.2 + z.2))
    rw [Nat.add_assoc]
  · rw [sa2_eq h, sa2_gt h', sa2_gt (by show z.1 < x.1; omega), sa2_gt (by omega)]
  · rw [sa2_gt h, sa2_lt h', sa2_gt h]
  · rw [sa2_gt h, sa2_eq h', sa2_gt (by show y.1 < x.1; exact h)]
  · rw [sa2_gt h, sa2_gt h', sa2_gt (by omega)]
theorem zMS_SR : zSR zMS := by
  refine ⟨fun a b => ?_, fun a b c => ?_, fun a => ?_, fun a b => ?_, fun a b c => ?_, fun a => ?_, fun a => ?_, fun a b c => ?_⟩
  · show sa a b = sa b a
    cases a with
    | none => rw [sa_nl, sa_nr]
    | some x => cases b with
      | none => rfl
      | some y => show some (sa2 x y) = some (sa2 y x); rw [sa2_cm]
  · show sa (sa a b) c = sa a (sa b c)
    cases a with
    | none => rw [sa_nl, sa_nl]
    | some x => cases b with
      | none => rw [sa_nl]; rfl
      | some y => cases c with
        | none => rfl
        | some z => show some (sa2 (sa2 x y) z) = some (sa2 x (sa2 y z)); rw [sa2_as]
  · exact sa_nr a
  · show sm a b = sm b a
    cases a with
    | none => rw [sm_nl, sm_nr]
    | some x => cases b with
      | none => rfl
      | some y => show some (x.1 + y.1, x.2 * y.2) = some (y.1 + x.1, y.2 * x.2); rw [Int.add_comm, Nat.mul_comm]
  · show sm (sm a b) c = sm a (sm b c)
    cases a with
    | none => rw [sm_nl, sm_nl, sm_nl]
    | some x => cases b with
      | none => rw [sm_nl, sm_nr, sm_nl]
      | some y => cases c with
        | none => rfl
        | some z => show some (x.1 + y.1 + z.1, x.2 * y.2 * z.2) = some (x.1 + (y.1 + z.1), x.2 * (y.2 * z.2)); rw [Int.add_assoc, Nat.mul_assoc]
  · show sm a (some (0, 1)) = a
    cases a with
    | none => rfl
    | some x => show some (x.1 + 0, x.2 * 1) = some x; rw [Int.add_zero, Nat.mul_one]
  · exact sm_nr a
  · show sm a (sa b c) = sa (sm a b) (sm a c)
    cases a with
    | none => rw [sm_nl, sm_nl, sm_nl]; rfl
    | some x => cases b with
      | none => rw [sa_nl, sm_nr, sa_nl]
      | some y => cases c with
        | none => rfl
        | some z =>
          show some (x.1 + (sa2 y z).1, x.2 * (sa2 y z).2) = some (sa2 (x.1 + y.1, x.2 * y.2) (x.1 + z.1, x.2 * z.2))
          rcases Int.lt_trichotomy y.1 z.1 with h | h | h
          · rw [sa2_lt h, sa2_lt (by show x.1 + y.1 < x.1 + z.1; omega)]
          · rw [sa2_eq h, sa2_eq (by show x.1 + y.1 = x.1 + z.1; omega)]
            show some (x.1 + y.1, x.2 * (y.2 + z.2)) = some (x.1 + y.1, x.2 * y.2 + x.2 * z.2)
            rw [Nat.mul_add]
          · rw [sa2_gt h, sa2_gt (by show x.1 + z.1 < x.1 + y.1; omega)]
def sc (x : Option (Int × Nat)) : Option Int := match x with
  | none => none
  | some x => some x.1
def sw (x : Option (Int × Nat)) : Nat := match x with
  | none => 0
  | some x => x.2
def se (o : Option Int) : Option (Int × Nat) := match o with
  | none => none
  | some x => some (x, 1)
theorem sc_se (o : Option Int) : sc (se o) = o := by cases o <;> rfl
theorem sc_n {x : Option (Int × Nat)} : sc x = none ↔ x = none := by cases x <;> simp [sc]
theorem sc_sm (x y : Option (Int × Nat)) : sc (sm x y) = oad (sc x) (sc y) := by cases x <;> cases y <;> rfl
theorem sw_sm (x y : Option (Int × Nat)) : sw (sm x y) = sw x * sw y := by
  cases x with
  | none => rw [sm_nl]; exact (Nat.zero_mul _).symm
  | some x => cases y with
    | none => rfl
    | some y => rfl
theorem se_oad (o p : Option Int) : se (oad o p) = sm (se o) (se p) := by
  cases o with
  | none => rw [oad_nl, show se none = none from rfl, sm_nl]
  | some x => cases p with
    | none => rfl
    | some y => rfl
theorem sc_sa (x y : Option (Int × Nat)) : sc (sa x y) = omin (sc x) (sc y) := by
  cases x with
  | none => rw [sa_nl]; exact (omin_nl _).symm
  | some x => cases y with
    | none => rfl
    | some y =>
      show some (sa2 x y).1 = some (if y.1 < x.1 then y.1 else x.1)
      rcases Int.lt_trichotomy x.1 y.1 with h | h | h
      · rw [sa2_lt h, if_neg (by omega)]
      · rw [sa2_eq h, if_neg (by omega)]
      · rw [sa2_gt h, if_pos h]
def oltb (o p : Option Int) : Bool := match o, p with
  | some x, some y => decide (x < y)
  | some _, none => true
  | none, _ => false
theorem oltb_iff (o p : Option Int) : oltb o p = true ↔ olt o p := by
  cases o with
  | none => exact ⟨fun z => absurd z (by simp [oltb]), fun z => z.elim⟩
  | some x => cases p with
    | none => exact ⟨fun _ => trivial, fun _ => rfl⟩
    | some y => exact ⟨fun z => of_decide_eq_true (p := x < y) z, fun z => decide_eq_true (show x < y from z)⟩
theorem sw_sa (x y : Option (Int × Nat)) : sw (sa x y) = if oltb (sc y) (sc x) = true then sw y else if oltb (sc x) (sc y) = true then sw x else sw x + sw y := by
  cases x with
  | none => cases y with
    | none => rfl
    | some y => rfl
  | some x => cases y with
    | none => rfl
    | some y =>
      show (sa2 x y).2 = if decide (y.1 < x.1) = true then y.2 else if decide (x.1 < y.1) = true then x.2 else x.2 + y.2
      rcases Int.lt_trichotomy x.1 y.1 with h | h | h
      · rw [sa2_lt h, if_neg (by simp; omega), if_pos (by simpa using h)]
      · rw [sa2_eq h, if_neg (by simp; omega), if_neg (by simp; omega)]
      · rw [sa2_gt h, if_pos (by simpa using h)]
