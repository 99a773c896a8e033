/-! what the tables say -/
def zWc (W : zW) : Prop := (∀ i, 9 ≤ i → W.lo i = 0) ∧ (∀ v, 9 ≤ v → W.pr v = none) ∧ ∀ v, 9 ≤ v → W.ea v = 0
def zWnm (W : zW) : zW := zW.mk W.n W.mo W.rm W.op (fun i => if i < 9 then W.lo i else 0) W.ar (fun v => if v < 9 then W.pr v else none) (fun v => if v < 9 then W.ea v else 0)
theorem zWnm_c (W : zW) : zWc (zWnm W) := ⟨fun i hi => if_neg (show ¬ i < 9 by omega), fun v hv => if_neg (show ¬ v < 9 by omega), fun v hv => if_neg (show ¬ v < 9 by omega)⟩
theorem zWnm_ok {W : zW} (h : zWok W) : zWok (zWnm W) := by
  refine ⟨h.h1, h.h9, h.m1, h.m8, h.rm, fun i hi => ?_, h.ar, fun v x hx => ?_, fun v hv => ?_, fun v hv a ha ht => ?_⟩
  · show (if i < 9 then W.lo i else 0) ≤ 100
    rw [if_pos hi]; exact h.lo i hi
  · have hx : (if v < 9 then W.pr v else none) = some x := hx
    split at hx
    · exact h.pr v x hx
    · exact absurd hx (by simp)
  · show (if v < 9 then W.ea v else 0) < 256
    rw [if_pos hv]; exact h.ea v hv
  · have ht : (if v < 9 then W.ea v else 0).testBit a = true := ht
    rw [if_pos hv] at ht
    exact h.eb v hv a ha ht
theorem zWnm_C {W : zW} {V A : zV} (h : WC W V A) : WC (zWnm W) V A := by
  refine ⟨h.n, h.mo, h.rm, h.op, fun i hi => ?_, h.ar, fun v hv => ?_, fun v hv => ?_⟩
  · show A 2 i = nI (if i < 9 then W.lo i else 0); rw [if_pos hi]; exact h.lo i hi
  · show A 4 v = zEp (if v < 9 then W.pr v else none); rw [if_pos hv]; exact h.pr v hv
  · show A 5 v = nI (if v < 9 then W.ea v else 0); rw [if_pos hv]; exact h.ea v hv
theorem zWnm_R {W : zW} {V A : zV} (h : WR W V A) : WR (zWnm W) V A := by
  refine ⟨h.n, h.mo, h.rm, h.op, fun i hi => ?_, h.ar, fun v hv => ?_, fun v hv a ha => ?_⟩
  · show A 37 i = nI (if i < 9 then W.lo i else 0); rw [if_pos hi]; exact h.lo i hi
  · show A 39 v = zEp (if v < 9 then W.pr v else none); rw [if_pos hv]; exact h.pr v hv
  · show A 40 (9 * (a + 1) + v) = (if (if v < 9 then W.ea v else 0).testBit a = true then 1 else 0); rw [if_pos hv]; exact h.ea v hv a ha
theorem zi_inj {x y : Int} (hx : -1000000000 ≤ x ∧ x ≤ 1000000000) (hy : -1000000000 ≤ y ∧ y ≤ 1000000000) (h : Int32.ofInt x = Int32.ofInt y) : x = y := by
  have := congrArg Int32.toInt h
  rw [zi_toInt hx.1 hx.2, zi_toInt hy.1 hy.2] at this
  exact this
theorem zEc_inj {b : Int} {o p : Option Int} (hb : b < 1000000000) (h : oB b o) (h' : oB b p) (e : zEc o = zEc p) : o = p := by
  cases o with
  | none => exact ((zEc_no hb h').mp e.symm).symm
  | some x => cases p with
    | none => exact (zEc_no hb h).mp e
    | some y =>
      have h1 := h x rfl
      have h2 := h' y rfl
      rw [zi_inj (by omega) (by omega) e]
theorem zEf_inj {b : Int} {o p : Option Int} (hb : b < 900000) (h : oB b o) (h' : oB b p) (e : zEf o = zEf p) : o = p := by
  cases o with
  | none => exact ((zEf_no hb h').mp e.symm).symm
  | some x => cases p with
    | none => exact (zEf_no hb h).mp e
    | some y =>
      have h1 := h x rfl
      have h2 := h' y rfl
      rw [zi_inj (by omega) (by omega) e]
theorem zEa_inj {b : Int} {o p : Option Int} (hb : b < 1000000) (h : oB b o) (h' : oB b p) (e : zEa o = zEa p) : o = p := by
  cases o with
  | none => exact ((zEa_no hb h').mp e.symm).symm
  | some x => cases p with
    | none => exact (zEa_no hb h).mp e
    | some y =>
      have h1 := h x rfl
      have h2 := h' y rfl
      rw [zi_inj (by omega) (by omega) e]
theorem zEp_inj {o p : Option Int} (h : ∀ x, o = some x → 0 ≤ x ∧ x ≤ 2000) (h' : ∀ x, p = some x → 0 ≤ x ∧ x ≤ 2000) (e : zEp o = zEp p) : o = p := by
  have key : ∀ x : Int, 0 ≤ x ∧ x ≤ 2000 → ¬ Int32.ofInt x = (-1) := fun x hx q => by
    have := congrArg Int32.toInt q
    rw [zi_toInt (by omega) (by omega), z_lm1] at this
    omega
  cases o with
  | none => cases p with
    | none => rfl
    | some y => exact absurd e.symm (key y (h' y rfl))
  | some x => cases p with
    | none => exact absurd e (key x (h x rfl))
    | some y =>
      have h1 := h x rfl
      have h2 := h' y rfl
      rw [zi_inj (by omega) (by omega) e]
theorem zop_inj {a b : Bool} (e : (if a = true then (1 : Int32) else 0) = (if b = true then 1 else 0)) : a = b := by
  cases a <;> cases b
  · rfl
  · exact absurd e (by decide)
  · exact absurd e (by decide)
  · rfl
theorem zW_ext {W W' : zW} (h1 : W.n = W'.n) (h2 : W.mo = W'.mo) (h3 : W.rm = W'.rm) (h4 : W.op = W'.op) (h5 : W.lo = W'.lo) (h6 : W.ar = W'.ar) (h7 : W.pr = W'.pr) (h8 : W.ea = W'.ea) : W = W' := by
  obtain ⟨a, b, c, d, e, f, g, h⟩ := W
  obtain ⟨a', b', c', d', e', f', g', h'⟩ := W'
  have h1 : a = a' := h1
  have h2 : b = b' := h2
  have h3 : c = c' := h3
  have h4 : d = d' := h4
  have h5 : e = e' := h5
  have h6 : f = f' := h6
  have h7 : g = g' := h7
  have h8 : h = h' := h8
  rw [h1, h2, h3, h4, h5, h6, h7, h8]
theorem zW_u1 {W W' : zW} (hW : zWok W) (hW' : zWok W') (hc : zWc W) (hc' : zWc W') (h1 : nI W.n = nI W'.n) (h2 : nI W.mo = nI W'.mo) (h3 : nI W.rm = nI W'.rm) (h4 : (if W.op = true then (1 : Int32) else 0) = (if W'.op = true then 1 else 0)) (h5 : ∀ i, i < 9 → nI (W.lo i) = nI (W'.lo i)) (h6 : ∀ a b, a < 9 → b < 9 → W.ar a b = W'.ar a b) (h7 : ∀ v, v < 9 → zEp (W.pr v) = zEp (W'.pr v)) (h8 : ∀ v, v < 9 → W.ea v = W'.ea v) : W = W' := by
  have a1 := hW.h9
  have a2 := hW'.h9
  have a3 := hW.m8
  have a4 := hW'.m8
  have a5 := hW.rm
  have a6 := hW'.rm
  refine zW_ext ((nI_eq (by omega) (by omega)).mp h1) ((nI_eq (by omega) (by omega)).mp h2) ((nI_eq (by omega) (by omega)).mp h3) (zop_inj h4) (funext fun i => ?_) (funext fun a => funext fun b => ?_) (funext fun v => ?_) (funext fun v => ?_)
  · by_cases hi : i < 9
    · have b1 := hW.lo i hi
      have b2 := hW'.lo i hi
      exact (nI_eq (by omega) (by omega)).mp (h5 i hi)
    · rw [hc.1 i (by omega), hc'.1 i (by omega)]
  · by_cases hi : a < 9 ∧ b < 9
    · exact h6 a b hi.1 hi.2
    · have n1 : ∀ Z : zW, zWok Z → Z.ar a b = none := fun Z hZ => by
        cases hz : Z.ar a b with
        | none => rfl
        | some x => have := hZ.ar a b x hz; have := hZ.h9; omega
      rw [n1 W hW, n1 W' hW']
  · by_cases hi : v < 9
    · exact zEp_inj (hW.pr v) (hW'.pr v) (h7 v hi)
    · rw [hc.2.1 v (by omega), hc'.2.1 v (by omega)]
  · by_cases hi : v < 9
    · exact h8 v hi
    · rw [hc.2.2 v (by omega), hc'.2.2 v (by omega)]
theorem WC_uq {W W' : zW} {V A : zV} (hW : zWok W) (hW' : zWok W') (hc : zWc W) (hc' : zWc W') (h : WC W V A) (h' : WC W' V A) : W = W' := by
  refine zW_u1 hW hW' hc hc' (h.n.symm.trans h'.n) (h.mo.symm.trans h'.mo) (h.rm.symm.trans h'.rm) (h.op.symm.trans h'.op) (fun i hi => (h.lo i hi).symm.trans (h'.lo i hi)) (fun a b ha hb => ?_) (fun v hv => (h.pr v hv).symm.trans (h'.pr v hv)) (fun v hv => ?_)
  · exact zEc_inj (b := 1000) (by omega) (hW.arB a b) (hW'.arB a b) ((h.ar a b ha hb).symm.trans (h'.ar a b ha hb))
  · have b1 := hW.ea v hv
    have b2 := hW'.ea v hv
    exact (nI_eq (by omega) (by omega)).mp ((h.ea v hv).symm.trans (h'.ea v hv))
theorem WR_uq {W W' : zW} {V A : zV} (hW : zWok W) (hW' : zWok W') (hc : zWc W) (hc' : zWc W') (h : WR W V A) (h' : WR W' V A) : W = W' := by
  refine zW_u1 hW hW' hc hc' (h.n.symm.trans h'.n) (h.mo.symm.trans h'.mo) (h.rm.symm.trans h'.rm) (h.op.symm.trans h'.op) (fun i hi => (h.lo i hi).symm.trans (h'.lo i hi)) (fun a b ha hb => ?_) (fun v hv => (h.pr v hv).symm.trans (h'.pr v hv)) (fun v hv => ?_)
  · exact zEa_inj (b := 1000) (by omega) (hW.arB a b) (hW'.arB a b) ((h.ar a b ha hb).symm.trans (h'.ar a b ha hb))
  · have b1 := hW.ea v hv
    have b2 := hW'.ea v hv
    apply Nat.eq_of_testBit_eq
    intro i
    by_cases hi : i < 8
    · exact zop_inj ((h.ea v hv i hi).symm.trans (h'.ea v hv i hi))
    · rw [tb_hi b1 (by omega), tb_hi b2 (by omega)]
/-- the class's net by its fields alone -/
def zCr (W : zW) (a b c d : Int32) (f g h e : Nat → Int32) : Prop := (a = nI W.n) ∧ (b = nI W.mo) ∧ (c = nI W.rm) ∧ (d = (if W.op = true then 1 else 0)) ∧ (∀ i, i < 9 → f i = nI (W.lo i)) ∧ (∀ a b, a < 9 → b < 9 → g (a * 9 + b) = zEc (W.ar a b)) ∧ (∀ v, v < 9 → h v = zEp (W.pr v)) ∧ (∀ v, v < 9 → e v = nI (W.ea v))
def zRr (W : zW) (a b c d : Int32) (f g h e : Nat → Int32) : Prop := (a = nI W.n) ∧ (b = nI W.mo) ∧ (c = nI W.rm) ∧ (d = (if W.op = true then 1 else 0)) ∧ (∀ i, i < 9 → f i = nI (W.lo i)) ∧ (∀ a b, a < 9 → b < 9 → g (9 * a + b) = zEa (W.ar a b)) ∧ (∀ v, v < 9 → h v = zEp (W.pr v)) ∧ (∀ v, v < 9 → ∀ a, a < 8 → e (9 * (a + 1) + v) = (if (W.ea v).testBit a = true then 1 else 0))
theorem zCr_iff (W : zW) (V A : zV) : zCr W (V 1 4) (V 1 5) (V 1 6) (V 1 7) (A 2) (A 3) (A 4) (A 5) ↔ WC W V A := Iff.rfl
theorem zRr_iff (W : zW) (V A : zV) : zRr W (V 36 1) (V 36 6) (V 36 7) (V 36 8) (A 37) (A 38) (A 39) (A 40) ↔ WR W V A := Iff.rfl
/-- the set of those that may follow -/
def zfS (W : zW) (S : Nat) : Nat → Nat
  | 0 => 0
  | k + 1 => if zfo W S k = true then zfS W S k ||| 2 ^ k else zfS W S k
theorem zfS_tb (W : zW) (S i : Nat) : ∀ k, (zfS W S k).testBit i = (decide (i < k) && zfo W S i)
  | 0 => by rw [zfS, Nat.zero_testBit]; rfl
  | k + 1 => by
    rw [zfS]
    by_cases h : zfo W S k = true
    · rw [if_pos h, tb_or, zfS_tb W S i k]
      by_cases hk : k = i
      · subst hk; rw [h]; simp
      · rw [decide_eq_false hk, Bool.or_false]
        by_cases hi : i < k
        · rw [decide_eq_true hi, decide_eq_true (show i < k + 1 by omega)]
        · rw [decide_eq_false hi, decide_eq_false (show ¬ i < k + 1 by omega)]
    · rw [if_neg h, zfS_tb W S i k]
      by_cases hk : k = i
      · subst hk
        rw [decide_eq_false (Nat.lt_irrefl _)]
        have : zfo W S k = false := by simpa using h
        rw [this, Bool.and_false, Bool.and_false]
      · by_cases hi : i < k
        · rw [decide_eq_true hi, decide_eq_true (show i < k + 1 by omega)]
        · rw [decide_eq_false hi, decide_eq_false (show ¬ i < k + 1 by omega)]
theorem zfS_lt (W : zW) (S : Nat) : ∀ k, k ≤ 8 → zfS W S k < 256
  | 0, _ => by rw [zfS]; omega
  | k + 1, h => by
    rw [zfS]
    split
    · exact or256 (zfS_lt W S k (by omega)) (zz_bit (by omega))
    · exact zfS_lt W S k (by omega)
def shOK (W : zW) (t : Nat → Nat → Int32) : Prop := (∀ S, S < 2 ^ (W.n - 1) → t 1 S = nI (zfS W S (W.n - 1))) ∧ (∀ i, i < 2 ^ (W.n - 1) * 9 → t 2 i = zEc (sc (wT W (2 ^ (W.n - 1) * 9) i))) ∧ ∀ r S, r ≤ W.mo → S < 2 ^ (W.n - 1) → t 6 (r * 256 + S) = zEc (sc (wP W r S)) ∧ t 7 (r * 256 + S) = nI (sw (wP W r S))
def taOK (W : zW) (fr ro : Int32) (t : Nat → Int32) : Prop := ∃ F r, fr = nI F ∧ ro = nI (r + 1) ∧ F < 2 ^ (W.n - 1) ∧ r + 1 ≤ W.mo ∧ ∀ S i, S &&& F = S → i < W.n - 1 → S.testBit i = true → t (S * 9 + (i + 1)) = zEc (sc (wE W r F S (i + 1)))
def fiOK (W : zW) (len : Int32) (t : Nat → Int32) : Prop := ∃ B w, lxf W (zHL W W.mo 0 0 [] 0) = some (B, w) ∧ len = nI w.length ∧ w.length ≤ 16 ∧ ∀ i (h : i < w.length), t i = nI w[i]
/-- a word in an array -/
def zwd (w : List Nat) (s : Int32) (t : Nat → Int32) : Prop := s = nI w.length ∧ ∀ i (h : i < w.length), t i = nI w[i]
def mkA (W : zW) (x y a b : Nat) : Option (Int × Nat) × Option (Int × Nat) := (zar W a b, if a = x ∧ b = y then zar W a b else none)
def mkB (W : zW) (x y a : Nat) : Option (Int × Nat) × Option (Int × Nat) := (zbs W a, if W.op = false ∧ a = x ∧ 0 = y then zbs W a else none)
def mkH (W : zW) (x y r F last : Nat) : Option (Int × Nat) × Option (Int × Nat) := zH (zD zMS) (W.n - 1) (zfo W) (mkA W x y) (mkB W x y) (fun F => (zos W F, none)) r F last
def zov (W : zW) (l F : Nat) : Option (Int × Nat) := if F.testBit l = true then zos W F else none
/-- the reference's sums over a list of plans -/
def AC (W : zW) (L : List zLf) (wi : Nat → Nat → Option Int) (best many fs : Int32) (tw to tf : Nat → Int32) : Prop :=
  (best = zEf (sc (lsum W (zos W) L)) ∧ many = nI (sw (lsum W (zos W) L))) ∧ (match lxf W L with | none => fs = (-1) | some q => zwd q.2 fs tf ∧ q.2.length ≤ 16 ∧ ∀ x, x ∈ q.2 → x < 9) ∧ (∀ l, l < W.n - 1 → to (l + 1) = zEf (sc (lsum W (zov W l) L))) ∧ ∀ x y, x < 9 → y < 9 → tw (9 * x + y) = zEf (wi x y)
def SHp (a b c d : Int32) (f g h e : Nat → Int32) (t : Nat → Nat → Int32) : Prop := ∃ W, zWok W ∧ zWc W ∧ zCr W a b c d f g h e ∧ shOK W t
def TAp (a b c d : Int32) (f g h e : Nat → Int32) (fr ro : Int32) (t : Nat → Int32) : Prop := ∃ W, zWok W ∧ zWc W ∧ zCr W a b c d f g h e ∧ taOK W fr ro t
def FIp (a b c d : Int32) (f g h e : Nat → Int32) (len : Int32) (t : Nat → Int32) : Prop := ∃ W, zWok W ∧ zWc W ∧ zCr W a b c d f g h e ∧ fiOK W len t
def KNp (a b c d : Int32) (f g h e : Nat → Int32) (best many fs : Int32) (tw to tf : Nat → Int32) : Prop := ∃ W, zWok W ∧ zWc W ∧ zRr W a b c d f g h e ∧ AC W (zHL W W.mo 0 0 [] 0) (fun x y => sc (mkH W x y W.mo (2 ^ (W.n - 1) - 1) 0).2) best many fs tw to tf
theorem Inv.Wc {SH : Int32 → Int32 → Int32 → Int32 → (Nat → Int32) → (Nat → Int32) → (Nat → Int32) → (Nat → Int32) → (Nat → Nat → Int32) → Prop} {TA : Int32 → Int32 → Int32 → Int32 → (Nat → Int32) → (Nat → Int32) → (Nat → Int32) → (Nat → Int32) → Int32 → Int32 → (Nat → Int32) → Prop} {FI : Int32 → Int32 → Int32 → Int32 → (Nat → Int32) → (Nat → Int32) → (Nat → Int32) → (Nat → Int32) → Int32 → (Nat → Int32) → Prop} {KN : Int32 → Int32 → Int32 → Int32 → (Nat → Int32) → (Nat → Int32) → (Nat → Int32) → (Nat → Int32) → Int32 → Int32 → Int32 → (Nat → Int32) → (Nat → Int32) → (Nat → Int32) → Prop} {c : Nat} {V A : zV} (hI : Inv SH TA FI KN c V A) : ∃ W, zWok W ∧ zWc W ∧ WC W V A ∧ WR W V A := by
  obtain ⟨W, h1, h2, h3⟩ := hI.W
  exact ⟨zWnm W, zWnm_ok h1, zWnm_c W, zWnm_C h2, zWnm_R h3⟩
