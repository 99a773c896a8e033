/-! rounds side by side -/
def zZ {α : Type} (R : zR α) (out : Nat → α) : List (Nat × α) → Nat → Nat → α
  | [], _, F => out F
  | x :: L, r, F => R.p (zZ R out L r F) (if 0 < r ∧ x.1 &&& F = x.1 then R.m x.2 (zZ R out L (r - 1) (zdf F x.1)) else R.o)
theorem df_sub {F M P : Nat} (hF : F < 256) : P &&& zdf F M = P ↔ P &&& F = P ∧ ∀ i, P.testBit i = true → M.testBit i = false := by
  rw [sub_iff, sub_iff]
  constructor
  · intro e
    refine ⟨fun i hi => ?_, fun i hi => ?_⟩
    · have := e i hi; rw [tb_df hF] at this; simp at this; exact this.1
    · have := e i hi; rw [tb_df hF] at this; simp at this; exact this.2
  · intro e i hi
    rw [tb_df hF, e.1 i hi, e.2 i hi]; rfl
theorem df_df {F M P : Nat} (hF : F < 256) : zdf (zdf F M) P = zdf (zdf F P) M := by
  apply Nat.eq_of_testBit_eq
  intro i
  rw [tb_df (zdf_lt hF), tb_df hF, tb_df (zdf_lt hF), tb_df hF]
  cases F.testBit i <;> cases M.testBit i <;> cases P.testBit i <;> rfl
theorem df_cm {F M P : Nat} (hF : F < 256) : (M &&& F = M ∧ P &&& zdf F M = P) ↔ (P &&& F = P ∧ M &&& zdf F P = M) := by
  rw [df_sub hF, df_sub hF]
  constructor
  · rintro ⟨a, b, c⟩
    refine ⟨b, a, fun i hi => ?_⟩
    cases hp : P.testBit i with
    | false => rfl
    | true => rw [c i hp] at hi; exact absurd hi (by simp)
  · rintro ⟨a, b, c⟩
    refine ⟨b, a, fun i hi => ?_⟩
    cases hp : M.testBit i with
    | false => rfl
    | true => rw [c i hp] at hi; exact absurd hi (by simp)
theorem zZ_swap {α : Type} {R : zR α} (h : zSR R) (out : Nat → α) (x y : Nat × α) (L : List (Nat × α)) (r F : Nat) (hF : F < 256) : zZ R out (x :: y :: L) r F = zZ R out (y :: x :: L) r F := by
  rw [zZ, zZ, zZ, zZ, zZ, zZ]
  have e : R.p (zZ R out L r F) (if 0 < r ∧ y.1 &&& F = y.1 then R.m y.2 (zZ R out L (r - 1) (zdf F y.1)) else R.o) = R.p (zZ R out L r F) (if 0 < r ∧ y.1 &&& F = y.1 then R.m y.2 (zZ R out L (r - 1) (zdf F y.1)) else R.o) := rfl
  have key : ∀ a b : Nat × α, (if 0 < r ∧ a.1 &&& F = a.1 then R.m a.2 (R.p (zZ R out L (r - 1) (zdf F a.1)) (if 0 < r - 1 ∧ b.1 &&& zdf F a.1 = b.1 then R.m b.2 (zZ R out L (r - 1 - 1) (zdf (zdf F a.1) b.1)) else R.o)) else R.o) = R.p (if 0 < r ∧ a.1 &&& F = a.1 then R.m a.2 (zZ R out L (r - 1) (zdf F a.1)) else R.o) (if 1 < r ∧ a.1 &&& F = a.1 ∧ b.1 &&& zdf F a.1 = b.1 then R.m (R.m a.2 b.2) (zZ R out L (r - 1 - 1) (zdf (zdf F a.1) b.1)) else R.o) := by
    intro a b
    by_cases h1 : 0 < r ∧ a.1 &&& F = a.1
    · rw [if_pos h1, if_pos h1, h.md]
      congr 1
      by_cases h2 : 0 < r - 1 ∧ b.1 &&& zdf F a.1 = b.1
      · rw [if_pos h2, if_pos ⟨by omega, h1.2, h2.2⟩, h.ma]
      · rw [if_neg h2, if_neg (fun z => h2 ⟨by omega, z.2.2⟩), h.mo]
    · rw [if_neg h1, if_neg h1, if_neg (fun z => h1 ⟨by omega, z.2.1⟩), h.po]
  rw [key x y, key y x, ← h.pa, ← h.pa, h.p3 (zZ R out L r F)]
  congr 1
  have hc := df_cm (F := F) (M := x.1) (P := y.1) hF
  by_cases q : 1 < r ∧ x.1 &&& F = x.1 ∧ y.1 &&& zdf F x.1 = y.1
  · rw [if_pos q, if_pos ⟨q.1, hc.mp q.2⟩, h.mc x.2 y.2, df_df hF]
  · rw [if_neg q, if_neg (fun z => q ⟨z.1, hc.mpr z.2⟩)]
theorem zZ_perm {α : Type} {R : zR α} (h : zSR R) (out : Nat → α) {L L' : List (Nat × α)} (hp : L.Perm L') : ∀ r F, F < 256 → zZ R out L r F = zZ R out L' r F := by
  induction hp with
  | nil => intro r F _; rfl
  | cons x _ ih => intro r F hF; rw [zZ, zZ, ih r F hF, ih (r - 1) (zdf F x.1) (zdf_lt hF)]
  | swap x y l => intro r F hF; exact zZ_swap h out y x l r F hF
  | trans _ _ ih1 ih2 => intro r F hF; rw [ih1 r F hF, ih2 r F hF]
/-- all sets below K, with what they weigh -/
def zLs {α : Type} (w : Nat → α) : Nat → List (Nat × α)
  | 0 => []
  | k + 1 => (k, w k) :: zLs w k
theorem zZ_skip {α : Type} {R : zR α} (h : zSR R) (out : Nat → α) {w : Nat → α} {l : Nat} (L : List (Nat × α)) : ∀ K, (∀ M, M < K → M.testBit l = false → w M = R.o) → ∀ r F, F.testBit l = false → zZ R out (zLs w K ++ L) r F = zZ R out L r F
  | 0, _, r, F, _ => rfl
  | K + 1, hw, r, F, hF => by
    show R.p (zZ R out (zLs w K ++ L) r F) (if 0 < r ∧ K &&& F = K then R.m (w K) (zZ R out (zLs w K ++ L) (r - 1) (zdf F K)) else R.o) = _
    rw [zZ_skip h out L K (fun M hM => hw M (by omega)) r F hF]
    by_cases q : 0 < r ∧ K &&& F = K
    · rw [if_pos q, hw K (by omega), h.om, h.po]
      cases hk : K.testBit l with
      | false => rfl
      | true => rw [(sub_iff _ _).mp q.2 l hk] at hF; exact absurd hF (by simp)
    · rw [if_neg q, h.po]
theorem zZ_grp {α : Type} {R : zR α} (h : zSR R) (out : Nat → α) {w : Nat → α} {l : Nat} (L : List (Nat × α)) : ∀ K, (∀ M, M < K → M.testBit l = false → w M = R.o) → ∀ r F, F < 256 → zZ R out (zLs w K ++ L) r F = R.p (zZ R out L r F) (R.s (fun M => if 0 < r ∧ M &&& F = M then R.m (w M) (zZ R out L (r - 1) (zdf F M)) else R.o) K)
  | 0, _, r, F, _ => (h.po _).symm
  | K + 1, hw, r, F, hF => by
    show R.p (zZ R out (zLs w K ++ L) r F) (if 0 < r ∧ K &&& F = K then R.m (w K) (zZ R out (zLs w K ++ L) (r - 1) (zdf F K)) else R.o) = _
    rw [zZ_grp h out L K (fun M hM => hw M (by omega)) r F hF, zR.s, h.pa]
    congr 2
    by_cases q : 0 < r ∧ K &&& F = K
    · rw [if_pos q, if_pos q]
      cases hk : K.testBit l with
      | false => rw [hw K (by omega) hk, h.om, h.om]
      | true => rw [zZ_skip h out L K (fun M hM => hw M (by omega)) (r - 1) (zdf F K) (by rw [tb_df hF, hk]; simp)]
    · rw [if_neg q, if_neg q]
theorem df_not_sub {F K : Nat} (hF : F < 256) (hK : ¬ K = 0) : ¬ K &&& zdf F K = K := by
  intro e
  refine hK (Nat.eq_of_testBit_eq (fun i => ?_))
  rw [Nat.zero_testBit]
  cases hk : K.testBit i with
  | false => rfl
  | true => have := (df_sub hF).mp e; rw [this.2 i hk] at hk; exact absurd hk (by simp)
theorem zZ_mrg {α : Type} {R : zR α} (h : zSR R) (out : Nat → α) (w w' : Nat → α) (h0 : w 0 = R.o) (h0' : w' 0 = R.o) (L : List (Nat × α)) : ∀ K r F, F < 256 → zZ R out (zLs w K ++ (zLs w' K ++ L)) r F = zZ R out (zLs (fun M => R.p (w M) (w' M)) K ++ L) r F
  | 0, _, _, _ => rfl
  | K + 1, r, F, hF => by
    have hp : (zLs w (K + 1) ++ (zLs w' (K + 1) ++ L)).Perm ((K, w K) :: (K, w' K) :: (zLs w K ++ (zLs w' K ++ L))) := by
      show ((K, w K) :: (zLs w K ++ ((K, w' K) :: (zLs w' K ++ L)))).Perm _
      exact List.Perm.cons _ List.perm_middle
    rw [zZ_perm h out hp r F hF]
    show _ = R.p (zZ R out (zLs (fun M => R.p (w M) (w' M)) K ++ L) r F) (if 0 < r ∧ K &&& F = K then R.m (R.p (w K) (w' K)) (zZ R out (zLs (fun M => R.p (w M) (w' M)) K ++ L) (r - 1) (zdf F K)) else R.o)
    rw [← zZ_mrg h out w w' h0 h0' L K r F hF, ← zZ_mrg h out w w' h0 h0' L K (r - 1) (zdf F K) (zdf_lt hF), zZ, zZ, zZ]
    by_cases q : 0 < r ∧ K &&& F = K
    · rw [if_pos q, if_pos q, if_pos q]
      by_cases hK : K = 0
      · subst hK
        rw [h0, h0', h.om, h.om, h.po, h.po, h.po, h.om, h.po]
      · rw [if_neg (fun z => df_not_sub hF hK z.2), h.po, h.dm, ← h.pa, h.p3]
    · rw [if_neg q, if_neg q, if_neg q, h.po, h.po]
theorem zZ_mrg1 {α : Type} {R : zR α} (h : zSR R) (out : Nat → α) (w w' : Nat → α) (h0 : w 0 = R.o) (h0' : w' 0 = R.o) (K r F : Nat) (hF : F < 256) : zZ R out (zLs w K ++ zLs w' K) r F = zZ R out (zLs (fun M => R.p (w M) (w' M)) K) r F := by
  have := zZ_mrg h out w w' h0 h0' [] K r F hF
  rw [List.append_nil, List.append_nil] at this
  exact this
/-- groups of the first nodes from i0 on -/
def zLq {α : Type} (q : Nat → Nat → α) (K : Nat) : Nat → Nat → List (Nat × α)
  | _, 0 => []
  | i0, c + 1 => zLs (q i0) K ++ zLq q K (i0 + 1) c
theorem zZ_zero {α : Type} {R : zR α} (h : zSR R) (out : Nat → α) {w : Nat → α} (hw : ∀ M, w M = R.o) : ∀ K r F, zZ R out (zLs w K) r F = out F
  | 0, _, _ => rfl
  | K + 1, r, F => by
    show R.p (zZ R out (zLs w K) r F) (if 0 < r ∧ K &&& F = K then R.m (w K) (zZ R out (zLs w K) (r - 1) (zdf F K)) else R.o) = _
    rw [zZ_zero h out hw K r F, hw K, h.om]
    split <;> exact h.po _
theorem zZ_q {α : Type} {R : zR α} (h : zSR R) (out : Nat → α) (q : Nat → Nat → α) (hq : ∀ i M, M.testBit i = false → q i M = R.o) (K : Nat) : ∀ c i0 r F, F < 256 → zZ R out (zLq q K i0 c) r F = zZ R out (zLs (fun M => R.s (fun j => q (i0 + j) M) c) K) r F
  | 0, i0, r, F, _ => (zZ_zero h out (fun _ => rfl) K r F).symm
  | c + 1, i0, r, F, hF => by
    have hh : ∀ w : Nat → α, (∀ M, w M = R.s (fun j => q (i0 + 1 + j) M) c) → ∀ r F, F < 256 → zZ R out (zLs (q i0) K ++ zLq q K (i0 + 1) c) r F = zZ R out (zLs (q i0) K ++ zLs w K) r F := by
      intro w hw
      have hw' : w = fun M => R.s (fun j => q (i0 + 1 + j) M) c := funext hw
      subst hw'
      have gen : ∀ L : List (Nat × α), ∀ r F, F < 256 → zZ R out (L ++ zLq q K (i0 + 1) c) r F = zZ R out (L ++ zLs (fun M => R.s (fun j => q (i0 + 1 + j) M) c) K) r F := by
        intro L
        induction L with
        | nil => intro r F hF; exact zZ_q h out q hq K c (i0 + 1) r F hF
        | cons x L ih =>
          intro r F hF
          show zZ R out (x :: (L ++ _)) r F = zZ R out (x :: (L ++ _)) r F
          rw [zZ, zZ, ih r F hF, ih (r - 1) (zdf F x.1) (zdf_lt hF)]
      exact gen _
    rw [zLq, hh _ (fun _ => rfl) r F hF, zZ_mrg1 h out (q i0) (fun M => R.s (fun j => q (i0 + 1 + j) M) c) (hq i0 0 (Nat.zero_testBit _)) (zs_zero h (fun j _ => hq (i0 + 1 + j) 0 (Nat.zero_testBit _))) K r F hF]
    congr 2
    funext M
    rw [zs_shift h]
    congr 1
    exact zs_congr R (fun j _ => by rw [show i0 + (j + 1) = i0 + 1 + j by omega])
/-- rounds by their first nodes, as one goes -/
def zH {α : Type} (R : zR α) (N : Nat) (fol : Nat → Nat → Bool) (ar : Nat → Nat → α) (bk out : Nat → α) : Nat → Nat → Nat → α
  | 0, F, _ => out F
  | r + 1, F, last => R.p (out F) (R.s (fun i => if last ≤ i ∧ (fol 0 i && F.testBit i) = true then R.m (ar 0 (i + 1)) (zBB R N (fun S k => fol S k && F.testBit k) ar (fun S a => R.m (bk a) (zH R N fol ar bk out r (zdf F S) (i + 1))) (2 ^ i) (i + 1)) else R.o) N)
/-- the rounds of just a set that begin so -/
def zqu {α : Type} (R : zR α) (N : Nat) (fol : Nat → Nat → Bool) (ar : Nat → Nat → α) (bk : Nat → α) (i M : Nat) : α := if fol 0 i = true then R.m (ar 0 (i + 1)) (zBB R N fol ar (fun S a => if S = M then bk a else R.o) (2 ^ i) (i + 1)) else R.o
theorem zBB_supp {α : Type} {R : zR α} (h : zSR R) {N : Nat} {fol : Nat → Nat → Bool} (hf : zFo fol) (ar g : Nat → Nat → α) (i : Nat) (hg : ∀ S a, S.testBit i = true → g S a = R.o) : ∀ S a, S.testBit i = true → zBB R N fol ar g S a = R.o := by
  refine zc_ind N (fun S ih a hS => ?_)
  rw [zBB_eq h hf, hg S a hS, h.op]
  refine zs_zero h (fun k hk => ?_)
  by_cases q : fol S k = true
  · rw [if_pos q, ih k hk (hf S k q) (k + 1) (by rw [tb_or, hS]; rfl), h.mo]
  · rw [if_neg q]
theorem zqu_supp {α : Type} {R : zR α} (h : zSR R) {N : Nat} {fol : Nat → Nat → Bool} (hf : zFo fol) (ar : Nat → Nat → α) (bk : Nat → α) (i M : Nat) (hM : M.testBit i = false) : zqu R N fol ar bk i M = R.o := by
  unfold zqu
  by_cases q : fol 0 i = true
  · rw [if_pos q, zBB_supp h hf ar _ i (fun S a hS => if_neg (fun e => by rw [e, hM] at hS; exact absurd hS (by simp))) _ _ (by rw [Nat.testBit_two_pow]; simp), h.mo]
  · rw [if_neg q]
theorem zBB_congr {α : Type} {R : zR α} (h : zSR R) {N : Nat} {fol : Nat → Nat → Bool} (hf : zFo fol) (ar : Nat → Nat → α) {g g' : Nat → Nat → α} (hg : ∀ S a, S < 2 ^ N → g S a = g' S a) : ∀ S, S < 2 ^ N → ∀ a, zBB R N fol ar g S a = zBB R N fol ar g' S a := by
  refine zc_ind N (fun S ih hS a => ?_)
  rw [zBB_eq h hf, zBB_eq h hf, hg S a hS]
  congr 1
  refine zs_congr R (fun i hi => ?_)
  by_cases q : fol S i = true
  · rw [if_pos q, if_pos q, ih i hi (hf S i q) (Nat.or_lt_two_pow hS (Nat.pow_lt_pow_right (by decide) hi))]
  · rw [if_neg q, if_neg q]
theorem zBB_rounds {α : Type} {R : zR α} (h : zSR R) {N : Nat} {fol : Nat → Nat → Bool} (hf : zFo fol) (ar : Nat → Nat → α) (bk k : Nat → α) (F S : Nat) (hS : S < 2 ^ N) (hSF : S &&& F = S) (a : Nat) : zBB R N (fun S k => fol S k && F.testBit k) ar (fun S a => R.m (bk a) (k S)) S a = R.s (fun M => if M &&& F = M then R.m (zBB R N fol ar (fun S a => if S = M then bk a else R.o) S a) (k M) else R.o) (2 ^ N) := by
  rw [← (zBB_res h hf ar (fun S a => R.m (bk a) (k S)) F S a).2 hSF]
  have e := zBB_lin (N := N) h hf ar (fun M S a => if S = M then bk a else R.o) (fun M => if M &&& F = M then k M else R.o) (2 ^ N) S a
  rw [zBB_congr h hf ar (g' := fun S a => R.s (fun M => R.m (if M &&& F = M then k M else R.o) (if S = M then bk a else R.o)) (2 ^ N)) ?_ S hS a, e]
  · refine zs_congr R (fun M _ => ?_)
    by_cases q : M &&& F = M
    · rw [if_pos q, if_pos q, h.mc]
    · rw [if_neg q, if_neg q, h.om]
  · intro S a hS
    show (if S &&& F = S then R.m (bk a) (k S) else R.o) = _
    rw [zs_one (j := S) h hS (fun M _ hn => by rw [if_neg (show ¬ S = M from fun z => hn z.symm), h.mo]), if_pos (show S = S from rfl)]
    by_cases q : S &&& F = S
    · rw [if_pos q, if_pos q, h.mc]
    · rw [if_neg q, if_neg q, h.om]
theorem zs_from {α : Type} {R : zR α} (h : zSR R) (f : Nat → α) (l : Nat) : ∀ c, R.s (fun i => if l ≤ i then f i else R.o) (l + c) = R.s (fun j => f (l + j)) c
  | 0 => zs_zero h (fun i hi => if_neg (by omega))
  | c + 1 => by
    rw [← Nat.add_assoc, zR.s, zR.s, zs_from h f l c, if_pos (by omega)]
theorem zZ_lq {α : Type} {R : zR α} (h : zSR R) (out : Nat → α) (q : Nat → Nat → α) (hq : ∀ i M, M.testBit i = false → q i M = R.o) (K : Nat) : ∀ c i0 r F, F < 256 → zZ R out (zLq q K i0 c) r F = R.p (out F) (R.s (fun j => R.s (fun M => if 0 < r ∧ M &&& F = M then R.m (q (i0 + j) M) (zZ R out (zLq q K (i0 + j + 1) (c - (j + 1))) (r - 1) (zdf F M)) else R.o) K) c)
  | 0, i0, r, F, _ => (h.po _).symm
  | c + 1, i0, r, F, hF => by
    rw [zLq, zZ_grp (l := i0) h out _ K (fun M _ hM => hq i0 M hM) r F hF, zZ_lq h out q hq K c (i0 + 1) r F hF, zs_shift h, h.pa, h.pc (R.s _ c)]
    congr 2
    refine zs_congr R (fun j hj => zs_congr R (fun M _ => ?_))
    rw [show i0 + (j + 1) = i0 + 1 + j by omega, show c + 1 - (j + 1 + 1) = c - (j + 1) by omega]
/-- as one goes, or side by side -/
theorem zH_zZ {α : Type} {R : zR α} (h : zSR R) {N : Nat} (hN : N ≤ 8) {fol : Nat → Nat → Bool} (hf : zFo fol) (ar : Nat → Nat → α) (bk out : Nat → α) : ∀ r F last, F < 256 → last ≤ N → zH R N fol ar bk out r F last = zZ R out (zLq (zqu R N fol ar bk) (2 ^ N) last (N - last)) r F := by
  intro r
  induction r with
  | zero =>
    intro F last hF hl
    rw [zZ_lq h out _ (zqu_supp h hf ar bk) _ _ _ _ _ hF, zH, zs_zero h, h.po]
    intro j _
    exact zs_zero h (fun M _ => if_neg (fun z => absurd z.1 (Nat.lt_irrefl _)))
  | succ r ih =>
    intro F last hF hl
    rw [zZ_lq h out _ (zqu_supp h hf ar bk) _ _ _ _ _ hF, zH]
    congr 1
    have e : ∀ i, i < N → (if last ≤ i ∧ (fol 0 i && F.testBit i) = true then R.m (ar 0 (i + 1)) (zBB R N (fun S k => fol S k && F.testBit k) ar (fun S a => R.m (bk a) (zH R N fol ar bk out r (zdf F S) (i + 1))) (2 ^ i) (i + 1)) else R.o) = (if last ≤ i then R.s (fun M => if 0 < r + 1 ∧ M &&& F = M then R.m (zqu R N fol ar bk i M) (zZ R out (zLq (zqu R N fol ar bk) (2 ^ N) (i + 1) (N - (i + 1))) r (zdf F M)) else R.o) (2 ^ N) else R.o) := by
      intro i hi
      by_cases hli : last ≤ i
      · rw [if_pos hli]
        by_cases q : (fol 0 i && F.testBit i) = true
        · rw [if_pos ⟨hli, q⟩]
          have q' : fol 0 i = true ∧ F.testBit i = true := Bool.and_eq_true _ _ ▸ q
          rw [zBB_rounds h hf ar bk (fun S => zH R N fol ar bk out r (zdf F S) (i + 1)) F (2 ^ i) (Nat.pow_lt_pow_right (by decide) hi) ((sub_iff _ _).mpr (fun j hj => by rw [Nat.testBit_two_pow] at hj; rw [← of_decide_eq_true hj]; exact q'.2)) (i + 1), ← zs_mul h]
          refine zs_congr R (fun M _ => ?_)
          by_cases hM : M &&& F = M
          · rw [if_pos hM, if_pos ⟨Nat.succ_pos _, hM⟩, ih (zdf F M) (i + 1) (zdf_lt hF) (by omega), ← h.ma]
            unfold zqu
            rw [if_pos q'.1]
          · rw [if_neg hM, if_neg (fun z => hM z.2), h.mo]
        · rw [if_neg (fun z => q z.2)]
          refine (zs_zero h (fun M _ => ?_)).symm
          by_cases hM : 0 < r + 1 ∧ M &&& F = M
          · rw [if_pos hM]
            by_cases hfo : fol 0 i = true
            · have hFi : F.testBit i = false := by
                cases hFi : F.testBit i with
                | false => rfl
                | true => exact absurd (by rw [hfo, hFi]; rfl) q
              rw [zqu_supp h hf ar bk i M, h.om]
              cases hMi : M.testBit i with
              | false => rfl
              | true => rw [(sub_iff _ _).mp hM.2 i hMi] at hFi; exact absurd hFi (by simp)
            · rw [show zqu R N fol ar bk i M = R.o from if_neg hfo, h.om]
          · rw [if_neg hM]
      · rw [if_neg hli, if_neg (fun z => hli z.1)]
    rw [zs_congr R e]
    have e2 := zs_from h (fun i => R.s (fun M => if 0 < r + 1 ∧ M &&& F = M then R.m (zqu R N fol ar bk i M) (zZ R out (zLq (zqu R N fol ar bk) (2 ^ N) (i + 1) (N - (i + 1))) r (zdf F M)) else R.o) (2 ^ N)) last (N - last)
    rw [show last + (N - last) = N by omega] at e2
    rw [e2]
    refine zs_congr R (fun j hj => zs_congr R (fun M _ => ?_))
    rw [show N - (last + j + 1) = N - last - (j + 1) by omega]
    rfl
/-- what the rounds of just a set weigh -/
def zRv {α : Type} (R : zR α) (N : Nat) (fol : Nat → Nat → Bool) (ar : Nat → Nat → α) (bk : Nat → α) (M : Nat) : α := R.s (fun i => zqu R N fol ar bk i M) N
theorem zRv_0 {α : Type} {R : zR α} (h : zSR R) {N : Nat} {fol : Nat → Nat → Bool} (hf : zFo fol) (ar : Nat → Nat → α) (bk : Nat → α) : zRv R N fol ar bk 0 = R.o := zs_zero h (fun i _ => zqu_supp h hf ar bk i 0 (Nat.zero_testBit _))
theorem zRv_B {α : Type} {R : zR α} (h : zSR R) {N : Nat} {fol : Nat → Nat → Bool} (hf : zFo fol) (ar : Nat → Nat → α) (bk : Nat → α) {M : Nat} (hM : ¬ M = 0) : zRv R N fol ar bk M = zBB R N fol ar (fun S a => if S = M then bk a else R.o) 0 0 := by
  rw [zBB_eq h hf, if_neg (fun z => hM z.symm), h.op]
  refine zs_congr R (fun i _ => ?_)
  unfold zqu
  rw [Nat.zero_or]
/-- the same by the table of beginnings -/
theorem zRv_T {α : Type} {R : zR α} (h : zSR R) {N : Nat} (hN : N ≤ 8) {fol : Nat → Nat → Bool} (hf : zFo fol) (ar : Nat → Nat → α) (bk : Nat → α) {M : Nat} (hM : ¬ M = 0) (hM2 : M < 2 ^ N) : zRv R N fol ar bk M = R.s (fun a => R.m (zFw R N fol ar (2 ^ N * 9) (M * 9 + a)) (bk a)) 9 := by
  rw [zRv_B h hf ar bk hM, ← zFw_all h hN hf ar, zs_one (j := M) h hM2 (fun S _ hn => zs_zero h (fun a _ => by rw [if_neg hn, h.mo]))]
  exact zs_congr R (fun a _ => by rw [if_pos rfl])
/-- plans -/
def zPl {α : Type} (R : zR α) (N : Nat) (fol : Nat → Nat → Bool) (ar : Nat → Nat → α) (bk out : Nat → α) (r F : Nat) : α := zZ R out (zLs (zRv R N fol ar bk) (2 ^ N)) r F
theorem zH_zP {α : Type} {R : zR α} (h : zSR R) {N : Nat} (hN : N ≤ 8) {fol : Nat → Nat → Bool} (hf : zFo fol) (ar : Nat → Nat → α) (bk out : Nat → α) (r F : Nat) (hF : F < 256) : zH R N fol ar bk out r F 0 = zPl R N fol ar bk out r F := by
  rw [zH_zZ h hN hf ar bk out r F 0 hF (Nat.zero_le _), zZ_q h out _ (zqu_supp h hf ar bk) _ _ _ _ _ hF]
  unfold zPl
  congr 2
  funext M
  exact zs_congr R (fun j _ => by rw [Nat.zero_add])
theorem zZ_r0 {α : Type} {R : zR α} (h : zSR R) (out : Nat → α) : ∀ (L : List (Nat × α)) (F : Nat), zZ R out L 0 F = out F
  | [], _ => rfl
  | x :: L, F => by rw [zZ, zZ_r0 h out L F, if_neg (fun z => absurd z.1 (Nat.lt_irrefl _)), h.po]
theorem zPl_0 {α : Type} {R : zR α} (h : zSR R) {N : Nat} {fol : Nat → Nat → Bool} (ar : Nat → Nat → α) (bk out : Nat → α) (F : Nat) : zPl R N fol ar bk out 0 F = out F := zZ_r0 h out _ F
/-- a node that no round has is left out -/
theorem zZ_out {α : Type} {R : zR α} (h : zSR R) (out : Nat → α) {w : Nat → α} {l : Nat} {x : α} (ho : ∀ F, F < 256 → F.testBit l = true → out F = R.m x (out (zdf F (2 ^ l)))) : ∀ K, (∀ M, M < K → M.testBit l = true → w M = R.o) → ∀ r F, F < 256 → F.testBit l = true → zZ R out (zLs w K) r F = R.m x (zZ R out (zLs w K) r (zdf F (2 ^ l)))
  | 0, _, r, F, hF, hl => ho F hF hl
  | K + 1, hw, r, F, hF, hl => by
    show R.p (zZ R out (zLs w K) r F) (if 0 < r ∧ K &&& F = K then R.m (w K) (zZ R out (zLs w K) (r - 1) (zdf F K)) else R.o) = R.m x (R.p (zZ R out (zLs w K) r (zdf F (2 ^ l))) (if 0 < r ∧ K &&& zdf F (2 ^ l) = K then R.m (w K) (zZ R out (zLs w K) (r - 1) (zdf (zdf F (2 ^ l)) K)) else R.o))
    rw [h.md, ← zZ_out h out ho K (fun M hM => hw M (by omega)) r F hF hl]
    congr 1
    cases hk : K.testBit l with
    | true =>
      rw [hw K (by omega) hk, h.om, h.om]
      split <;> split <;> simp only [h.mo]
    | false =>
      have e : (0 < r ∧ K &&& F = K) ↔ (0 < r ∧ K &&& zdf F (2 ^ l) = K) := by
        rw [df_sub hF]
        constructor
        · rintro ⟨a, b⟩
          refine ⟨a, b, fun i hi => ?_⟩
          rw [Nat.testBit_two_pow]
          refine decide_eq_false (fun z => ?_)
          rw [← z, hk] at hi; exact absurd hi (by simp)
        · rintro ⟨a, b, -⟩; exact ⟨a, b⟩
      by_cases q : 0 < r ∧ K &&& F = K
      · rw [if_pos q, if_pos (e.mp q), zZ_out h out ho K (fun M hM => hw M (by omega)) (r - 1) (zdf F K) (zdf_lt hF) (by rw [tb_df hF, hl, hk]; rfl), h.m3, df_df hF]
      · rw [if_neg q, if_neg (fun z => q (e.mpr z)), h.mo]
theorem zPl_low {α : Type} {R : zR α} (h : zSR R) {N : Nat} {fol : Nat → Nat → Bool} (hf : zFo fol) (ar : Nat → Nat → α) (bk out : Nat → α) {l : Nat} {x : α} (ho : ∀ F, F < 256 → F.testBit l = true → out F = R.m x (out (zdf F (2 ^ l)))) (r F : Nat) (hF : F < 256) (hl : F.testBit l = true) : zPl R N fol ar bk out r F = R.p (R.m x (zPl R N fol ar bk out r (zdf F (2 ^ l)))) (R.s (fun M => if 0 < r ∧ M &&& F = M ∧ M.testBit l = true then R.m (zRv R N fol ar bk M) (zPl R N fol ar bk out (r - 1) (zdf F M)) else R.o) (2 ^ N)) := by
  have h0 := zRv_0 h hf ar bk (N := N)
  have e : ∀ r F, F < 256 → zPl R N fol ar bk out r F = zZ R out (zLs (fun M => if M.testBit l = true then zRv R N fol ar bk M else R.o) (2 ^ N) ++ zLs (fun M => if M.testBit l = true then R.o else zRv R N fol ar bk M) (2 ^ N)) r F := by
    intro r F hF
    rw [zZ_mrg1 h out _ _ (by rw [Nat.zero_testBit]; rfl) (by rw [Nat.zero_testBit]; exact h0) _ _ _ hF]
    unfold zPl
    congr 2
    funext M
    by_cases q : M.testBit l = true
    · rw [if_pos q, if_pos q, h.po]
    · rw [if_neg q, if_neg q, h.op]
  have hs : ∀ M, M < 2 ^ N → M.testBit l = false → (if M.testBit l = true then zRv R N fol ar bk M else R.o) = R.o := fun M _ q => by rw [q]; rfl
  have hn : ∀ r F, F < 256 → F.testBit l = false → zZ R out (zLs (fun M => if M.testBit l = true then R.o else zRv R N fol ar bk M) (2 ^ N)) r F = zPl R N fol ar bk out r F := fun r F hF hl => by
    rw [e r F hF, zZ_skip h out _ _ hs r F hl]
  rw [e r F hF, zZ_grp (l := l) h out _ _ hs r F hF, zZ_out h out ho _ (fun M _ q => if_pos q) r F hF hl, hn r _ (zdf_lt hF) (by rw [tb_df hF, Nat.testBit_two_pow]; simp)]
  congr 1
  refine zs_congr R (fun M _ => ?_)
  by_cases q : M.testBit l = true
  · rw [if_pos q]
    by_cases q2 : 0 < r ∧ M &&& F = M
    · rw [if_pos q2, if_pos ⟨q2.1, q2.2, q⟩, hn _ _ (zdf_lt hF) (by rw [tb_df hF, q]; simp)]
    · rw [if_neg q2, if_neg (fun z => q2 ⟨z.1, z.2.1⟩)]
  · rw [if_neg q, h.om, if_neg (c := 0 < r ∧ M &&& F = M ∧ M.testBit l = true) (fun z => q z.2.2)]
    split <;> rfl
/-- a round more than nodes -/
def zpk (F : Nat) : Nat → Nat
  | 0 => 0
  | k + 1 => zpk F k + if F.testBit k = true then 1 else 0
theorem zpk_df {F M : Nat} (hF : F < 256) (hM : M &&& F = M) : ∀ n, zpk (zdf F M) n + zpk M n = zpk F n
  | 0 => rfl
  | n + 1 => by
    have ih := zpk_df hF hM n
    rw [zpk, zpk, zpk, tb_df hF]
    have := (sub_iff _ _).mp hM n
    cases hm : M.testBit n with
    | false => simp only [Bool.not_false, Bool.and_true, Bool.false_eq_true, if_false]; omega
    | true => rw [this hm]; simp only [Bool.not_true, Bool.and_false, Bool.false_eq_true, if_false, if_true]; omega
theorem zpk_pos {M i : Nat} (hi : M.testBit i = true) : ∀ n, i < n → 0 < zpk M n
  | 0, h => by omega
  | n + 1, h => by
    rw [zpk]
    by_cases q : i = n
    · subst q; rw [if_pos hi]; omega
    · have := zpk_pos hi n (by omega); omega
theorem zZ_more {α : Type} {R : zR α} (h : zSR R) (out : Nat → α) {w : Nat → α} (h0 : w 0 = R.o) : ∀ K, K ≤ 256 → ∀ r F, F < 256 → zpk F 8 < r → zZ R out (zLs w K) r F = zZ R out (zLs w K) (r - 1) F
  | 0, _, _, _, _, _ => rfl
  | K + 1, hK, r, F, hF, hr => by
    show R.p (zZ R out (zLs w K) r F) (if 0 < r ∧ K &&& F = K then R.m (w K) (zZ R out (zLs w K) (r - 1) (zdf F K)) else R.o) = R.p (zZ R out (zLs w K) (r - 1) F) (if 0 < r - 1 ∧ K &&& F = K then R.m (w K) (zZ R out (zLs w K) (r - 1 - 1) (zdf F K)) else R.o)
    rw [zZ_more h out h0 K (by omega) r F hF hr]
    congr 1
    by_cases k0 : K = 0
    · subst k0
      rw [h0, h.om, h.om]
      split <;> split <;> rfl
    · by_cases q : K &&& F = K
      · have hd := zpk_df hF q 8
        have hpos : 0 < zpk K 8 := by
          rcases Nat.eq_zero_or_pos (zpk K 8) with z | z
          · exfalso
            refine k0 (Nat.eq_of_testBit_eq (fun i => ?_))
            rw [Nat.zero_testBit]
            cases hi : K.testBit i with
            | false => rfl
            | true =>
              by_cases h8 : i < 8
              · have := zpk_pos hi 8 h8; omega
              · rw [tb_hi (by omega) (by omega)] at hi; exact absurd hi (by simp)
          · exact z
        rw [if_pos ⟨by omega, q⟩, if_pos ⟨by omega, q⟩, zZ_more h out h0 K (by omega) (r - 1) (zdf F K) (zdf_lt hF) (by omega)]
      · rw [if_neg (fun z => q z.2), if_neg (fun z => q z.2)]
theorem zPl_more {α : Type} {R : zR α} (h : zSR R) {N : Nat} (hN : N ≤ 8) {fol : Nat → Nat → Bool} (hf : zFo fol) (ar : Nat → Nat → α) (bk out : Nat → α) (r F : Nat) (hF : F < 256) (hr : zpk F 8 < r) : zPl R N fol ar bk out r F = zPl R N fol ar bk out (r - 1) F := zZ_more h out (zRv_0 h hf ar bk) _ (by have := Nat.pow_le_pow_right (n := 2) (by decide) hN; omega) r F hF hr
theorem zPl_e {α : Type} {R : zR α} (h : zSR R) {N : Nat} (hN : N ≤ 8) {fol : Nat → Nat → Bool} (hf : zFo fol) (ar : Nat → Nat → α) (bk out : Nat → α) : ∀ r, zPl R N fol ar bk out r 0 = out 0
  | 0 => zPl_0 h ar bk out 0
  | r + 1 => by
    rw [zPl_more h hN hf ar bk out (r + 1) 0 (by decide) (by rw [show zpk 0 8 = 0 from rfl]; omega)]
    exact zPl_e h hN hf ar bk out r
/-- a node that is left out, for its price -/
theorem zZ_wo {α : Type} {R : zR α} (h : zSR R) (out : Nat → α) {l : Nat} {x : α} (ho : ∀ F, F < 256 → F.testBit l = true → out F = R.m x (out (zdf F (2 ^ l)))) : ∀ (L : List (Nat × α)) (r F : Nat), F < 256 → zZ R (fun F => if F.testBit l = true then out F else R.o) L r F = if F.testBit l = true then R.m x (zZ R out L r (zdf F (2 ^ l))) else R.o
  | [], r, F, hF => by
    show (if F.testBit l = true then out F else R.o) = if F.testBit l = true then R.m x (out (zdf F (2 ^ l))) else R.o
    by_cases q : F.testBit l = true
    · rw [if_pos q, if_pos q, ho F hF q]
    · rw [if_neg q, if_neg q]
  | y :: L, r, F, hF => by
    rw [zZ, zZ, zZ_wo h out ho L r F hF, zZ_wo h out ho L (r - 1) (zdf F y.1) (zdf_lt hF), tb_df hF]
    by_cases q : F.testBit l = true
    · rw [if_pos q, if_pos q, h.md, q, Bool.true_and]
      congr 1
      cases hk : y.1.testBit l with
      | true =>
        rw [if_neg (c := 0 < r ∧ y.1 &&& zdf F (2 ^ l) = y.1), h.mo]
        · simp only [Bool.not_true, Bool.false_eq_true, if_false, h.mo]
          split <;> rfl
        · rintro ⟨-, z⟩
          have := ((df_sub hF).mp z).2 l hk
          rw [Nat.testBit_two_pow] at this; simp at this
      | false =>
        simp only [Bool.not_false, if_true]
        have e : (0 < r ∧ y.1 &&& F = y.1) ↔ (0 < r ∧ y.1 &&& zdf F (2 ^ l) = y.1) := by
          rw [df_sub hF]
          constructor
          · rintro ⟨a, b⟩
            refine ⟨a, b, fun i hi => ?_⟩
            rw [Nat.testBit_two_pow]
            refine decide_eq_false (fun z => ?_)
            rw [← z, hk] at hi; exact absurd hi (by simp)
          · rintro ⟨a, b, -⟩; exact ⟨a, b⟩
        by_cases q2 : 0 < r ∧ y.1 &&& F = y.1
        · rw [if_pos q2, if_pos (e.mp q2), h.m3, df_df hF]
        · rw [if_neg q2, if_neg (fun z => q2 (e.mpr z)), h.mo]
    · have q' : F.testBit l = false := by simpa using q
      rw [if_neg q, if_neg q, q', Bool.false_and]
      simp only [Bool.false_eq_true, if_false, h.mo, h.op]
      split <;> rfl
theorem zPl_wo {α : Type} {R : zR α} (h : zSR R) {N : Nat} {fol : Nat → Nat → Bool} (ar : Nat → Nat → α) (bk out : Nat → α) {l : Nat} {x : α} (ho : ∀ F, F < 256 → F.testBit l = true → out F = R.m x (out (zdf F (2 ^ l)))) (r F : Nat) (hF : F < 256) (hl : F.testBit l = true) : zPl R N fol ar bk (fun F => if F.testBit l = true then out F else R.o) r F = R.m x (zPl R N fol ar bk out r (zdf F (2 ^ l))) := by
  unfold zPl
  rw [zZ_wo h out ho _ r F hF, if_pos hl]
