/-! sums in a commutative half ring -/
def zR (α : Type) : Type := (α → α → α) × (α → α → α) × α × α
def zR.p {α : Type} (R : zR α) : α → α → α := R.1
def zR.m {α : Type} (R : zR α) : α → α → α := R.2.1
def zR.o {α : Type} (R : zR α) : α := R.2.2.1
def zR.i {α : Type} (R : zR α) : α := R.2.2.2
def zSR {α : Type} (R : zR α) : Prop := (∀ a b, R.p a b = R.p b a) ∧ (∀ a b c, R.p (R.p a b) c = R.p a (R.p b c)) ∧ (∀ a, R.p a R.o = a) ∧ (∀ a b, R.m a b = R.m b a) ∧ (∀ a b c, R.m (R.m a b) c = R.m a (R.m b c)) ∧ (∀ a, R.m a R.i = a) ∧ (∀ a, R.m a R.o = R.o) ∧ (∀ a b c, R.m a (R.p b c) = R.p (R.m a b) (R.m a c))
theorem zSR.pc {α : Type} {R : zR α} (h : zSR R) (a b : α) : R.p a b = R.p b a := h.1 a b
theorem zSR.pa {α : Type} {R : zR α} (h : zSR R) (a b c : α) : R.p (R.p a b) c = R.p a (R.p b c) := h.2.1 a b c
theorem zSR.po {α : Type} {R : zR α} (h : zSR R) (a : α) : R.p a R.o = a := h.2.2.1 a
theorem zSR.op {α : Type} {R : zR α} (h : zSR R) (a : α) : R.p R.o a = a := by rw [h.pc, h.po]
theorem zSR.mc {α : Type} {R : zR α} (h : zSR R) (a b : α) : R.m a b = R.m b a := h.2.2.2.1 a b
theorem zSR.ma {α : Type} {R : zR α} (h : zSR R) (a b c : α) : R.m (R.m a b) c = R.m a (R.m b c) := h.2.2.2.2.1 a b c
theorem zSR.mi {α : Type} {R : zR α} (h : zSR R) (a : α) : R.m a R.i = a := h.2.2.2.2.2.1 a
theorem zSR.im {α : Type} {R : zR α} (h : zSR R) (a : α) : R.m R.i a = a := by rw [h.mc, h.mi]
theorem zSR.mo {α : Type} {R : zR α} (h : zSR R) (a : α) : R.m a R.o = R.o := h.2.2.2.2.2.2.1 a
theorem zSR.om {α : Type} {R : zR α} (h : zSR R) (a : α) : R.m R.o a = R.o := by rw [h.mc, h.mo]
theorem zSR.md {α : Type} {R : zR α} (h : zSR R) (a b c : α) : R.m a (R.p b c) = R.p (R.m a b) (R.m a c) := h.2.2.2.2.2.2.2 a b c
theorem zSR.dm {α : Type} {R : zR α} (h : zSR R) (a b c : α) : R.m (R.p a b) c = R.p (R.m a c) (R.m b c) := by rw [h.mc, h.md, h.mc c a, h.mc c b]
/-- a + b + (c + d) = a + c + (b + d) -/
theorem zSR.p4 {α : Type} {R : zR α} (h : zSR R) (a b c d : α) : R.p (R.p a b) (R.p c d) = R.p (R.p a c) (R.p b d) := by
  rw [h.pa, ← h.pa b c d, h.pc b c, h.pa c b d, ← h.pa]
theorem zSR.p3 {α : Type} {R : zR α} (h : zSR R) (a b c : α) : R.p (R.p a b) c = R.p (R.p a c) b := by
  rw [h.pa, h.pc b c, ← h.pa]
theorem zSR.m3 {α : Type} {R : zR α} (h : zSR R) (a b c : α) : R.m a (R.m b c) = R.m b (R.m a c) := by
  rw [← h.ma, h.mc a b, h.ma]
/-- sum of the first k -/
def zR.s {α : Type} (R : zR α) (f : Nat → α) : Nat → α
  | 0 => R.o
  | k + 1 => R.p (zR.s R f k) (f k)
theorem zs_congr {α : Type} (R : zR α) {f g : Nat → α} : ∀ {k : Nat}, (∀ i, i < k → f i = g i) → R.s f k = R.s g k
  | 0, _ => rfl
  | k + 1, h => by
    rw [zR.s, zR.s, zs_congr R (fun i hi => h i (by omega)), h k (by omega)]
theorem zs_zero {α : Type} {R : zR α} (h : zSR R) {f : Nat → α} : ∀ {k : Nat}, (∀ i, i < k → f i = R.o) → R.s f k = R.o
  | 0, _ => rfl
  | k + 1, q => by
    rw [zR.s, zs_zero h (fun i hi => q i (by omega)), q k (by omega), h.po]
theorem zs_add {α : Type} {R : zR α} (h : zSR R) (f g : Nat → α) : ∀ k : Nat, R.s (fun i => R.p (f i) (g i)) k = R.p (R.s f k) (R.s g k)
  | 0 => (h.po _).symm
  | k + 1 => by
    rw [zR.s, zR.s, zR.s, zs_add h f g k, h.p4]
theorem zs_mul {α : Type} {R : zR α} (h : zSR R) (c : α) (f : Nat → α) : ∀ k : Nat, R.s (fun i => R.m c (f i)) k = R.m c (R.s f k)
  | 0 => (h.mo _).symm
  | k + 1 => by
    rw [zR.s, zR.s, zs_mul h c f k, h.md]
theorem zs_swap {α : Type} {R : zR α} (h : zSR R) (f : Nat → Nat → α) (n : Nat) : ∀ m : Nat, R.s (fun i => R.s (f i) n) m = R.s (fun j => R.s (fun i => f i j) m) n
  | 0 => (zs_zero h (fun _ _ => rfl)).symm
  | m + 1 => by
    rw [zR.s, zs_swap h f n m, ← zs_add h]
    rfl
theorem zs_one {α : Type} {R : zR α} (h : zSR R) {f : Nat → α} {j : Nat} : ∀ {k : Nat}, j < k → (∀ i, i < k → ¬ i = j → f i = R.o) → R.s f k = f j
  | 0, hj, _ => by omega
  | k + 1, hj, q => by
    rw [zR.s]
    by_cases hk : j = k
    · subst hk
      rw [zs_zero h (fun i hi => q i (by omega) (by omega)), h.op]
    · rw [zs_one h (by omega) (fun i hi hn => q i (by omega) hn), q k (by omega) (by omega), h.po]
theorem zs_ext {α : Type} {R : zR α} (h : zSR R) {f : Nat → α} {k : Nat} : ∀ d : Nat, (∀ i, k ≤ i → i < k + d → f i = R.o) → R.s f (k + d) = R.s f k
  | 0, _ => rfl
  | d + 1, q => by
    rw [show k + (d + 1) = (k + d) + 1 by omega, zR.s, zs_ext h d (fun i h1 h2 => q i h1 (by omega)), q (k + d) (by omega) (by omega), h.po]
theorem zs_shift {α : Type} {R : zR α} (h : zSR R) (f : Nat → α) : ∀ k : Nat, R.s f (k + 1) = R.p (f 0) (R.s (fun i => f (i + 1)) k)
  | 0 => by rw [zR.s, zR.s, zR.s, h.op, h.po]
  | k + 1 => by
    rw [zR.s, zs_shift h f k, h.pa]
    rfl
theorem zs_upd {α : Type} {R : zR α} (h : zSR R) (T c : Nat → α) (x : α) {p : Nat} : ∀ {k : Nat}, p < k → R.s (fun i => R.m (if i = p then R.p (T i) x else T i) (c i)) k = R.p (R.s (fun i => R.m (T i) (c i)) k) (R.m x (c p)) := by
  intro k hk
  have e : ∀ i, R.m (if i = p then R.p (T i) x else T i) (c i) = R.p (R.m (T i) (c i)) (if i = p then R.m x (c i) else R.o) := fun i => by
    by_cases hi : i = p
    · rw [if_pos hi, if_pos hi, h.dm]
    · rw [if_neg hi, if_neg hi, h.po]
  rw [zs_congr R (fun i _ => e i), zs_add h, zs_one (f := fun i => if i = p then R.m x (c i) else R.o) h hk (fun i _ hn => if_neg hn), if_pos rfl]
theorem zs_upd2 {α : Type} {R : zR α} (h : zSR R) (T c : Nat → α) (x : α) {p : Nat} {k : Nat} (hk : p < k) : R.s (fun i => R.m (T i) (if i = p then R.p (c i) x else c i)) k = R.p (R.s (fun i => R.m (T i) (c i)) k) (R.m (T p) x) := by
  rw [zs_congr R (g := fun i => R.m (if i = p then R.p (c i) x else c i) (T i)) (fun i _ => h.mc _ _), zs_upd h c T x hk, h.mc x, zs_congr R (fun i _ => h.mc (c i) (T i))]
theorem zs_grid {α : Type} {R : zR α} (h : zSR R) (f : Nat → α) (n : Nat) : ∀ m : Nat, R.s f (m * n) = R.s (fun S => R.s (fun a => f (S * n + a)) n) m
  | 0 => by rw [Nat.zero_mul]; rfl
  | m + 1 => by
    rw [zR.s, ← zs_grid h f n m, Nat.succ_mul]
    have : ∀ d : Nat, R.s f (m * n + d) = R.p (R.s f (m * n)) (R.s (fun a => f (m * n + a)) d) := by
      intro d
      induction d with
      | zero => exact (h.po _).symm
      | succ d ih => rw [← Nat.add_assoc, zR.s, ih, zR.s, h.pa]
    exact this n
/-- other names for the terms -/
theorem zs_reix {α : Type} {R : zR α} (h : zSR R) (f : Nat → α) (c d : Nat → Bool) (u w : Nat → Nat) {k l : Nat} (h1 : ∀ M, M < k → c M = true → u M < l ∧ d (u M) = true ∧ w (u M) = M) (h2 : ∀ P, P < l → d P = true → w P < k ∧ c (w P) = true ∧ u (w P) = P) : R.s (fun M => if c M = true then f M else R.o) k = R.s (fun P => if d P = true then f (w P) else R.o) l := by
  have e1 : ∀ M, M < k → (if c M = true then f M else R.o) = R.s (fun P => if c M = true ∧ P = u M then f M else R.o) l := by
    intro M hM
    by_cases hc : c M = true
    · rw [if_pos hc, zs_one (j := u M) h (h1 M hM hc).1 (fun P _ hn => if_neg (fun z => hn z.2)), if_pos ⟨hc, rfl⟩]
    · rw [if_neg hc, zs_zero h (fun P _ => if_neg (fun z => hc z.1))]
  rw [zs_congr R e1, zs_swap h]
  refine zs_congr R (fun P hP => ?_)
  by_cases hd : d P = true
  · obtain ⟨q1, q2, q3⟩ := h2 P hP hd
    rw [if_pos hd, zs_one (j := w P) h q1 (fun M hM hn => if_neg (fun z => hn (by rw [z.2]; exact ((h1 M hM z.1).2.2).symm))), if_pos ⟨q2, q3.symm⟩]
  · rw [if_neg hd]
    exact zs_zero h (fun M hM => if_neg (fun z => hd (by rw [z.2]; exact (h1 M hM z.1).2.1)))
/-- how many of the first n are not in a set -/
def zc (S : Nat) : Nat → Nat
  | 0 => 0
  | k + 1 => zc S k + if S.testBit k = true then 0 else 1
theorem zc_le (S : Nat) : ∀ n, zc S n ≤ n
  | 0 => Nat.le_refl _
  | n + 1 => by
    have := zc_le S n
    rw [zc]; split <;> omega
theorem tb_or (S i k : Nat) : (S ||| 2 ^ i).testBit k = (S.testBit k || decide (i = k)) := by
  rw [Nat.testBit_or, Nat.testBit_two_pow]
theorem zc_or {S i : Nat} (hS : S.testBit i = false) : ∀ n, zc (S ||| 2 ^ i) n + (if i < n then 1 else 0) = zc S n
  | 0 => rfl
  | n + 1 => by
    have ih := zc_or hS n
    rw [zc, zc, tb_or]
    by_cases hn : i = n
    · subst hn
      rw [hS]
      simp only [Nat.lt_irrefl, if_false, decide_true, Bool.or_true, if_true] at ih ⊢
      simp only [Nat.lt_succ_self, if_true, Bool.false_eq_true, if_false]
      omega
    · rw [decide_eq_false hn, Bool.or_false]
      by_cases hi : i < n
      · rw [if_pos hi] at ih; rw [if_pos (show i < n + 1 by omega)]; omega
      · rw [if_neg hi] at ih; rw [if_neg (show ¬ i < n + 1 by omega)]; omega
theorem zc_step {S i n : Nat} (hS : S.testBit i = false) (hi : i < n) : zc (S ||| 2 ^ i) n + 1 = zc S n := by
  have := zc_or hS n
  rw [if_pos hi] at this; exact this
theorem zc_none {S n : Nat} (h : zc S n = 0) : ∀ i, i < n → S.testBit i = true := by
  induction n with
  | zero => intro i hi; omega
  | succ n ih =>
    rw [zc] at h
    intro i hi
    by_cases hn : i = n
    · subst hn
      by_cases q : S.testBit i = true
      · exact q
      · rw [if_neg q] at h; omega
    · exact ih (by omega) i (by omega)
theorem zc_ind {P : Nat → Prop} (n : Nat) (h : ∀ S, (∀ i, i < n → S.testBit i = false → P (S ||| 2 ^ i)) → P S) : ∀ S, P S := by
  have : ∀ f S, zc S n ≤ f → P S := by
    intro f
    induction f with
    | zero =>
      intro S hS
      refine h S (fun i hi hb => ?_)
      rw [zc_none (by omega) i hi] at hb; exact absurd hb (by simp)
    | succ f ih =>
      intro S hS
      refine h S (fun i hi hb => ih _ ?_)
      have := zc_step hb hi
      omega
  exact fun S => this _ S (Nat.le_refl _)
/-- all ways on from a set and its last -/
def zB {α : Type} (R : zR α) (N : Nat) (fol : Nat → Nat → Bool) (ar : Nat → Nat → α) (g : Nat → Nat → α) : Nat → Nat → Nat → α
  | 0, S, a => g S a
  | f + 1, S, a => R.p (g S a) (R.s (fun i => if fol S i = true then R.m (ar a (i + 1)) (zB R N fol ar g f (S ||| 2 ^ i) (i + 1)) else R.o) N)
def zFo (fol : Nat → Nat → Bool) : Prop := ∀ S i, fol S i = true → S.testBit i = false
theorem zB_fuel {α : Type} {R : zR α} (h : zSR R) {N : Nat} {fol : Nat → Nat → Bool} (hf : zFo fol) {ar g : Nat → Nat → α} : ∀ f S a, zc S N ≤ f → zB R N fol ar g f S a = zB R N fol ar g (f + 1) S a := by
  intro f
  induction f with
  | zero =>
    intro S a hS
    rw [zB, zB, zs_zero h, h.po]
    intro i hi
    rw [if_neg]
    intro q
    have := hf S i q
    rw [zc_none (by omega) i hi] at this; exact absurd this (by simp)
  | succ f ih =>
    intro S a hS
    rw [zB, zB]
    congr 1
    refine zs_congr R (fun i hi => ?_)
    by_cases q : fol S i = true
    · rw [if_pos q, if_pos q, ih]
      have := zc_step (hf S i q) hi
      omega
    · rw [if_neg q, if_neg q]
/-- with enough -/
def zBB {α : Type} (R : zR α) (N : Nat) (fol : Nat → Nat → Bool) (ar g : Nat → Nat → α) (S a : Nat) : α := zB R N fol ar g N S a
theorem zBB_eq {α : Type} {R : zR α} (h : zSR R) {N : Nat} {fol : Nat → Nat → Bool} (hf : zFo fol) (ar g : Nat → Nat → α) (S a : Nat) : zBB R N fol ar g S a = R.p (g S a) (R.s (fun i => if fol S i = true then R.m (ar a (i + 1)) (zBB R N fol ar g (S ||| 2 ^ i) (i + 1)) else R.o) N) := by
  unfold zBB
  rw [zB_fuel h hf N S a (zc_le S N), zB]
theorem zBB_lin {α : Type} {R : zR α} (h : zSR R) {N : Nat} {fol : Nat → Nat → Bool} (hf : zFo fol) (ar : Nat → Nat → α) (g : Nat → Nat → Nat → α) (c : Nat → α) (K : Nat) : ∀ S a, zBB R N fol ar (fun S a => R.s (fun M => R.m (c M) (g M S a)) K) S a = R.s (fun M => R.m (c M) (zBB R N fol ar (g M) S a)) K := by
  refine zc_ind N (fun S ih a => ?_)
  rw [zBB_eq h hf, zs_congr R (fun M _ => congrArg (R.m (c M)) (zBB_eq h hf ar (g M) S a)), zs_congr R (fun M _ => h.md (c M) _ _), zs_add h]
  congr 1
  rw [zs_congr R (fun M _ => (zs_mul h (c M) _ N).symm), zs_swap h]
  refine zs_congr R (fun i hi => ?_)
  by_cases q : fol S i = true
  · rw [if_pos q, ih i hi (hf S i q), ← zs_mul h]
    refine zs_congr R (fun M _ => ?_)
    rw [if_pos q, h.m3]
  · rw [if_neg q]
    exact (zs_zero h (fun M _ => by rw [if_neg q, h.mo])).symm
/-- subsets -/
theorem sub_iff (S F : Nat) : S &&& F = S ↔ ∀ i, S.testBit i = true → F.testBit i = true := by
  constructor
  · intro e i hi
    rw [← e, Nat.testBit_and] at hi
    exact (Bool.and_eq_true _ _ ▸ hi : _ ∧ _).2
  · intro e
    apply Nat.eq_of_testBit_eq
    intro i
    rw [Nat.testBit_and]
    cases hi : S.testBit i with
    | false => rfl
    | true => rw [e i hi]; rfl
def zdf (F S : Nat) : Nat := F &&& (255 ^^^ S)
theorem tb_df {F S : Nat} (hF : F < 256) (i : Nat) : (zdf F S).testBit i = (F.testBit i && !S.testBit i) := by
  unfold zdf
  rw [Nat.testBit_and, Nat.testBit_xor, tb_255]
  by_cases h : i < 8
  · rw [decide_eq_true h, Bool.true_xor]
  · rw [tb_hi hF (by omega)]; rfl
theorem zdf_lt {F S : Nat} (hF : F < 256) : zdf F S < 256 := and256 hF
theorem zBB_res {α : Type} {R : zR α} (h : zSR R) {N : Nat} {fol : Nat → Nat → Bool} (hf : zFo fol) (ar g : Nat → Nat → α) (F : Nat) : ∀ S a, (¬ S &&& F = S → zBB R N fol ar (fun S a => if S &&& F = S then g S a else R.o) S a = R.o) ∧ (S &&& F = S → zBB R N fol ar (fun S a => if S &&& F = S then g S a else R.o) S a = zBB R N (fun S i => fol S i && F.testBit i) ar g S a) := by
  have hf2 : zFo (fun S i => fol S i && F.testBit i) := fun S i q => hf S i ((Bool.and_eq_true _ _ ▸ q : _ ∧ _).1)
  refine zc_ind N (fun S ih a => ⟨fun hS => ?_, fun hS => ?_⟩)
  · rw [zBB_eq h hf, if_neg hS, h.op]
    refine zs_zero h (fun i hi => ?_)
    by_cases q : fol S i = true
    · rw [if_pos q, (ih i hi (hf S i q) (i + 1)).1, h.mo]
      intro e
      refine hS ((sub_iff _ _).mpr (fun j hj => (sub_iff _ _).mp e j ?_))
      rw [tb_or, hj]; rfl
    · rw [if_neg q]
  · rw [zBB_eq h hf, zBB_eq h hf2, if_pos hS]
    congr 1
    refine zs_congr R (fun i hi => ?_)
    by_cases q : fol S i = true
    · rw [if_pos q]
      by_cases hF : F.testBit i = true
      · rw [if_pos (by rw [q, hF]; rfl), (ih i hi (hf S i q) (i + 1)).2]
        refine (sub_iff _ _).mpr (fun j hj => ?_)
        rw [tb_or] at hj
        rcases Bool.or_eq_true _ _ ▸ hj with z | z
        · exact (sub_iff _ _).mp hS j z
        · rw [← of_decide_eq_true z]; exact hF
      · rw [if_neg (by rw [q]; simpa using hF), (ih i hi (hf S i q) (i + 1)).1, h.mo]
        intro e
        exact hF ((sub_iff _ _).mp e i (by rw [tb_or]; simp))
    · rw [if_neg q, if_neg (by simp [q])]
/-- forwards -/
def zX1 {α : Type} (R : zR α) (T : Nat → α) (p : Nat) (x : α) : Nat → α := fun i => if i = p then R.p (T i) x else T i
def zXt {α : Type} (R : zR α) (fol : Nat → Nat → Bool) (ar : Nat → Nat → α) (T : Nat → α) (S a : Nat) : Nat → Nat → α
  | 0 => T
  | k + 1 => if fol S k = true then zX1 R (zXt R fol ar T S a k) ((S ||| 2 ^ k) * 9 + (k + 1)) (R.m (T (S * 9 + a)) (ar a (k + 1))) else zXt R fol ar T S a k
def zFw {α : Type} (R : zR α) (N : Nat) (fol : Nat → Nat → Bool) (ar : Nat → Nat → α) : Nat → Nat → α
  | 0 => fun i => if i = 0 then R.i else R.o
  | j + 1 => zXt R fol ar (zFw R N fol ar j) (j / 9) (j % 9) N
theorem or_gt {S i : Nat} (h : S.testBit i = false) : S < S ||| 2 ^ i := by
  have h1 : S ≤ S ||| 2 ^ i := Nat.left_le_or
  rcases Nat.lt_or_ge S (S ||| 2 ^ i) with z | z
  · exact z
  · have e : S ||| 2 ^ i = S := Nat.le_antisymm z h1
    have := tb_or S i i
    rw [e, h] at this; simp at this
theorem zXt_sum {α : Type} {R : zR α} (h : zSR R) {N : Nat} {fol : Nat → Nat → Bool} {ar : Nat → Nat → α} (T c : Nat → α) (S a K : Nat) (hK : ∀ k, k < N → fol S k = true → (S ||| 2 ^ k) * 9 + (k + 1) < K) : ∀ k, k ≤ N → R.s (fun i => R.m (zXt R fol ar T S a k i) (c i)) K = R.p (R.s (fun i => R.m (T i) (c i)) K) (R.s (fun i => if fol S i = true then R.m (R.m (T (S * 9 + a)) (ar a (i + 1))) (c ((S ||| 2 ^ i) * 9 + (i + 1))) else R.o) k) := by
  intro k
  induction k with
  | zero => intro _; exact (h.po _).symm
  | succ k ih =>
    intro hk
    rw [zXt, zR.s]
    by_cases q : fol S k = true
    · rw [if_pos q, if_pos q, ← h.pa, ← ih (by omega)]
      exact zs_upd h (zXt R fol ar T S a k) c _ (hK k (by omega) q)
    · rw [if_neg q, if_neg q, h.po, ih (by omega)]
/-- forwards and backwards say the same -/
theorem zFw_sum {α : Type} {R : zR α} (h : zSR R) {N : Nat} (hN : N ≤ 8) {fol : Nat → Nat → Bool} (hf : zFo fol) (ar g : Nat → Nat → α) : ∀ j, j ≤ 2 ^ N * 9 → R.s (fun i => R.m (zFw R N fol ar j i) (if i < j then g (i / 9) (i % 9) else zBB R N fol ar g (i / 9) (i % 9))) (2 ^ N * 9) = zBB R N fol ar g 0 0 := by
  have hp : 0 < 2 ^ N := Nat.pos_of_ne_zero (by simp)
  intro j
  induction j with
  | zero =>
    intro _
    rw [zs_one (j := 0) h (by omega) (fun i hi hn => by rw [zFw]; show R.m (if i = 0 then R.i else R.o) _ = _; rw [if_neg hn, h.om])]
    show R.m (if (0 : Nat) = 0 then R.i else R.o) (if 0 < 0 then g (0 / 9) (0 % 9) else zBB R N fol ar g (0 / 9) (0 % 9)) = _
    rw [if_pos rfl, h.im, if_neg (Nat.lt_irrefl _)]
  | succ j ih =>
    intro hj
    rw [← ih (by omega)]
    have hS : j / 9 < 2 ^ N := by omega
    have hb : ∀ k, k < N → fol (j / 9) k = true → (j / 9 ||| 2 ^ k) * 9 + (k + 1) < 2 ^ N * 9 := fun k hk q => by
      have : j / 9 ||| 2 ^ k < 2 ^ N := Nat.or_lt_two_pow hS (Nat.pow_lt_pow_right (by decide) hk)
      omega
    have e : (fun i => R.m (zFw R N fol ar j i) (if i < j then g (i / 9) (i % 9) else zBB R N fol ar g (i / 9) (i % 9))) = (fun i => R.m (zFw R N fol ar j i) (if i = j then R.p (if i < j + 1 then g (i / 9) (i % 9) else zBB R N fol ar g (i / 9) (i % 9)) (R.s (fun k => if fol (j / 9) k = true then R.m (ar (j % 9) (k + 1)) (zBB R N fol ar g (j / 9 ||| 2 ^ k) (k + 1)) else R.o) N) else (if i < j + 1 then g (i / 9) (i % 9) else zBB R N fol ar g (i / 9) (i % 9)))) := by
      funext i
      congr 1
      by_cases hi : i = j
      · rw [if_pos hi, if_neg (show ¬ i < j by omega), if_pos (show i < j + 1 by omega), hi, zBB_eq h hf]
      · rw [if_neg hi]
        by_cases hl : i < j
        · rw [if_pos hl, if_pos (by omega)]
        · rw [if_neg hl, if_neg (by omega)]
    rw [e, zs_upd2 h _ _ _ (show j < 2 ^ N * 9 by omega), zFw, zXt_sum h _ _ _ _ _ hb N (Nat.le_refl _)]
    congr 1
    rw [← zs_mul h]
    refine zs_congr R (fun k hk => ?_)
    by_cases q : fol (j / 9) k = true
    · rw [if_pos q, if_pos q]
      have h1 := or_gt (hf _ _ q)
      rw [if_neg (by omega), show ((j / 9 ||| 2 ^ k) * 9 + (k + 1)) / 9 = (j / 9 ||| 2 ^ k) by omega, show ((j / 9 ||| 2 ^ k) * 9 + (k + 1)) % 9 = k + 1 by omega, show j / 9 * 9 + j % 9 = j by omega, h.ma]
    · rw [if_neg q, if_neg q, h.mo]
theorem zFw_all {α : Type} {R : zR α} (h : zSR R) {N : Nat} (hN : N ≤ 8) {fol : Nat → Nat → Bool} (hf : zFo fol) (ar g : Nat → Nat → α) : R.s (fun S => R.s (fun a => R.m (zFw R N fol ar (2 ^ N * 9) (S * 9 + a)) (g S a)) 9) (2 ^ N) = zBB R N fol ar g 0 0 := by
  rw [← zFw_sum h hN hf ar g (2 ^ N * 9) (Nat.le_refl _), zs_grid h _ 9]
  refine zs_congr R (fun S hS => zs_congr R (fun a ha => ?_))
  rw [if_pos (by omega), show (S * 9 + a) / 9 = S by omega, show (S * 9 + a) % 9 = a by omega]
