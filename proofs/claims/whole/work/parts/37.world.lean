/-! the world of a net: what both sides know of it -/
theorem nx_and (a b : Nat) : nI a &&& nI b = nI (a &&& b) := by
  apply Int32.toBitVec_inj.1
  show BitVec.ofNat 32 a &&& BitVec.ofNat 32 b = BitVec.ofNat 32 (a &&& b)
  apply BitVec.eq_of_getLsbD_eq
  intro i hi
  simp [hi]
theorem nx_xor (a b : Nat) : nI a ^^^ nI b = nI (a ^^^ b) := by
  apply Int32.toBitVec_inj.1
  show BitVec.ofNat 32 a ^^^ BitVec.ofNat 32 b = BitVec.ofNat 32 (a ^^^ b)
  apply BitVec.eq_of_getLsbD_eq
  intro i hi
  simp [hi]
theorem tb_hi {e i : Nat} (h : e < 256) (hi : 8 ≤ i) : e.testBit i = false := Nat.testBit_lt_two_pow (Nat.lt_of_lt_of_le h (Nat.pow_le_pow_right (n := 2) (by decide) hi))
theorem tb_255 (i : Nat) : (255 : Nat).testBit i = decide (i < 8) := by rw [show (255 : Nat) = 2 ^ 8 - 1 from rfl, Nat.testBit_two_pow_sub_one]
theorem tb_ff (i : Nat) : (4294967295 : Nat).testBit i = decide (i < 32) := by rw [show (4294967295 : Nat) = 2 ^ 32 - 1 from rfl, Nat.testBit_two_pow_sub_one]
theorem and_not8 {e s : Nat} (he : e < 256) : e &&& (s ^^^ 4294967295) = e &&& (255 ^^^ s) := by
  apply Nat.eq_of_testBit_eq
  intro i
  rw [Nat.testBit_and, Nat.testBit_and, Nat.testBit_xor, Nat.testBit_xor, tb_255, tb_ff]
  by_cases h : i < 8
  · rw [decide_eq_true h, decide_eq_true (show i < 32 by omega)]; cases e.testBit i <;> cases s.testBit i <;> rfl
  · rw [tb_hi he (by omega)]; rfl
theorem zz_not {e s : Nat} (he : e < 256) : nI e &&& (nI s ^^^ (-1)) = nI (e &&& (255 ^^^ s)) := by
  rw [show (-1 : Int32) = nI 4294967295 from rfl, nx_xor, nx_and, and_not8 he]
theorem and256 {a b : Nat} (ha : a < 256) : a &&& b < 256 := Nat.lt_of_le_of_lt Nat.and_le_left ha
theorem or256 {a b : Nat} (ha : a < 256) (hb : b < 256) : a ||| b < 256 := Nat.or_lt_two_pow (n := 8) ha hb
theorem nI_256 {e : Nat} (h : e < 256) : nI e = 0 ↔ e = 0 := by
  rw [show (0 : Int32) = nI 0 from rfl]; exact nI_eq (by omega) (by omega)
/-- costs with none -/
def oad (o p : Option Int) : Option Int := match o, p with
  | some x, some y => some (x + y)
  | _, _ => none
def oB (b : Int) (o : Option Int) : Prop := ∀ x, o = some x → -b ≤ x ∧ x ≤ b
theorem oad_nl (o : Option Int) : oad none o = none := by cases o <;> rfl
theorem oad_nr (o : Option Int) : oad o none = none := by cases o <;> rfl
theorem oad_as (a b c : Option Int) : oad (oad a b) c = oad a (oad b c) := by
  cases a <;> cases b <;> cases c <;> simp [oad, Int.add_assoc]
theorem oad_cm (a b : Option Int) : oad a b = oad b a := by
  cases a <;> cases b <;> simp [oad, Int.add_comm]
theorem oad_0 (a : Option Int) : oad a (some 0) = a := by
  cases a <;> simp [oad]
theorem oad_0l (a : Option Int) : oad (some 0) a = a := by
  cases a <;> simp [oad]
theorem oB_n (b : Int) : oB b none := fun _ h => absurd h (by simp)
theorem oB_s {b x : Int} (h1 : -b ≤ x) (h2 : x ≤ b) : oB b (some x) := fun y h => by rw [← Option.some.inj h]; exact ⟨h1, h2⟩
theorem oB_mono {b b' : Int} {o : Option Int} (h : oB b o) (hb : b ≤ b') : oB b' o := fun x q => by have := h x q; omega
theorem oB_add {b b' : Int} {o p : Option Int} (h : oB b o) (h' : oB b' p) : oB (b + b') (oad o p) := by
  cases o with
  | none => rw [oad_nl]; exact oB_n _
  | some x => cases p with
    | none => exact oB_n _
    | some y => have := h x rfl; have := h' y rfl; exact oB_s (by omega) (by omega)
def zEc : Option Int → Int32
  | none => 1000000000
  | some x => Int32.ofInt x
def zEf : Option Int → Int32
  | none => 900000
  | some x => Int32.ofInt x
def zEa : Option Int → Int32
  | none => 1000000
  | some x => Int32.ofInt x
def zEp : Option Int → Int32
  | none => (-1)
  | some x => Int32.ofInt x
theorem zi_toInt {x : Int} (h1 : -1000000000 ≤ x) (h2 : x ≤ 1000000000) : (Int32.ofInt x).toInt = x := Int32.toInt_ofInt_of_le (by show (-2147483648 : Int) ≤ x; omega) (by show x < (2147483648 : Int); omega)
theorem zi_of (x : Int32) : Int32.ofInt x.toInt = x := Int32.ofInt_toInt x
theorem zEc_no {b : Int} {o : Option Int} (hb : b < 1000000000) (h : oB b o) : zEc o = 1000000000 ↔ o = none := by
  cases o with
  | none => exact ⟨fun _ => rfl, fun _ => rfl⟩
  | some x =>
    have := h x rfl
    refine ⟨fun q => ?_, fun q => absurd q (by simp)⟩
    have e := congrArg Int32.toInt q
    rw [show zEc (some x) = Int32.ofInt x from rfl, zi_toInt (by omega) (by omega), z_lNO] at e
    omega
theorem zEf_no {b : Int} {o : Option Int} (hb : b < 900000) (h : oB b o) : zEf o = 900000 ↔ o = none := by
  cases o with
  | none => exact ⟨fun _ => rfl, fun _ => rfl⟩
  | some x =>
    have := h x rfl
    refine ⟨fun q => ?_, fun q => absurd q (by simp)⟩
    have e := congrArg Int32.toInt q
    rw [show zEf (some x) = Int32.ofInt x from rfl, zi_toInt (by omega) (by omega), z_lFAR] at e
    omega
theorem zEa_no {b : Int} {o : Option Int} (hb : b < 1000000) (h : oB b o) : zEa o = 1000000 ↔ o = none := by
  cases o with
  | none => exact ⟨fun _ => rfl, fun _ => rfl⟩
  | some x =>
    have := h x rfl
    refine ⟨fun q => ?_, fun q => absurd q (by simp)⟩
    have e := congrArg Int32.toInt q
    rw [show zEa (some x) = Int32.ofInt x from rfl, zi_toInt (by omega) (by omega), z_lNA] at e
    omega
theorem zEc_sum {o p : Option Int} (h : oB 400000000 o) (h' : oB 400000000 p) : zsum (zEc o) (zEc p) = zEc (oad o p) := by
  unfold zsum
  cases o with
  | none => rw [if_pos (show zEc none = 1000000000 ∨ zEc p = 1000000000 from Or.inl rfl), oad_nl]; rfl
  | some x => cases p with
    | none => rw [if_pos (show zEc (some x) = 1000000000 ∨ zEc none = 1000000000 from Or.inr rfl)]; rfl
    | some y =>
      rw [if_neg]
      · exact (Int32.ofInt_add x y).symm
      · rintro (q | q)
        · exact absurd ((zEc_no (by decide) h).mp q) (by simp)
        · exact absurd ((zEc_no (by decide) h').mp q) (by simp)
/-- least of two -/
def omin (o p : Option Int) : Option Int := match o, p with
  | some x, some y => some (if y < x then y else x)
  | none, p => p
  | o, none => o
theorem omin_nl (p : Option Int) : omin none p = p := by cases p <;> rfl
theorem omin_nr (p : Option Int) : omin p none = p := by cases p <;> rfl
def olt (o p : Option Int) : Prop := match o, p with
  | some x, some y => x < y
  | some _, none => True
  | none, _ => False
theorem zEc_lt {b : Int} {o p : Option Int} (hb : b < 1000000000) (h : oB b o) (h' : oB b p) : zEc o < zEc p ↔ olt o p := by
  rw [z_lt]
  cases o with
  | none => cases p with
    | none => exact ⟨fun q => absurd q (Int.lt_irrefl _), fun q => absurd q (by simp [olt])⟩
    | some y =>
      have := h' y rfl
      rw [show zEc (some y) = Int32.ofInt y from rfl, zi_toInt (by omega) (by omega)]
      exact ⟨fun q => absurd q (by rw [show zEc none = 1000000000 from rfl, z_lNO]; omega), fun q => absurd q (by simp [olt])⟩
  | some x =>
    have := h x rfl
    rw [show zEc (some x) = Int32.ofInt x from rfl, zi_toInt (by omega) (by omega)]
    cases p with
    | none => exact ⟨fun _ => trivial, fun _ => by rw [show zEc none = 1000000000 from rfl, z_lNO]; omega⟩
    | some y =>
      have := h' y rfl
      rw [show zEc (some y) = Int32.ofInt y from rfl, zi_toInt (by omega) (by omega)]
      exact Iff.rfl
theorem zEf_lt {b : Int} {o p : Option Int} (hb : b < 900000) (h : oB b o) (h' : oB b p) : zEf o < zEf p ↔ olt o p := by
  rw [z_lt]
  cases o with
  | none => cases p with
    | none => exact ⟨fun q => absurd q (Int.lt_irrefl _), fun q => absurd q (by simp [olt])⟩
    | some y =>
      have := h' y rfl
      rw [show zEf (some y) = Int32.ofInt y from rfl, zi_toInt (by omega) (by omega)]
      exact ⟨fun q => absurd q (by rw [show zEf none = 900000 from rfl, z_lFAR]; omega), fun q => absurd q (by simp [olt])⟩
  | some x =>
    have := h x rfl
    rw [show zEf (some x) = Int32.ofInt x from rfl, zi_toInt (by omega) (by omega)]
    cases p with
    | none => exact ⟨fun _ => trivial, fun _ => by rw [show zEf none = 900000 from rfl, z_lFAR]; omega⟩
    | some y =>
      have := h' y rfl
      rw [show zEf (some y) = Int32.ofInt y from rfl, zi_toInt (by omega) (by omega)]
      exact Iff.rfl
def zW : Type := (Nat) × (Nat) × (Nat) × (Bool) × (Nat → Nat) × (Nat → Nat → Option Int) × (Nat → Option Int) × (Nat → Nat)
def zW.n (W : zW) : Nat := W.1
def zW.mo (W : zW) : Nat := W.2.1
def zW.rm (W : zW) : Nat := W.2.2.1
def zW.op (W : zW) : Bool := W.2.2.2.1
def zW.lo (W : zW) : Nat → Nat := W.2.2.2.2.1
def zW.ar (W : zW) : Nat → Nat → Option Int := W.2.2.2.2.2.1
def zW.pr (W : zW) : Nat → Option Int := W.2.2.2.2.2.2.1
def zW.ea (W : zW) : Nat → Nat := W.2.2.2.2.2.2.2
def zW.mk (n : Nat) (mo : Nat) (rm : Nat) (op : Bool) (lo : Nat → Nat) (ar : Nat → Nat → Option Int) (pr : Nat → Option Int) (ea : Nat → Nat) : zW := ⟨n, mo, rm, op, lo, ar, pr, ea⟩
def zWok (W : zW) : Prop := (1 ≤ W.n) ∧ (W.n ≤ 9) ∧ (1 ≤ W.mo) ∧ (W.mo ≤ 8) ∧ (W.rm ≤ 1000) ∧ (∀ i, i < 9 → W.lo i ≤ 100) ∧ (∀ a b x, W.ar a b = some x → a < W.n ∧ b < W.n ∧ a ≠ b ∧ -1000 ≤ x ∧ x ≤ 1000) ∧ (∀ v x, W.pr v = some x → 0 ≤ x ∧ x ≤ 2000) ∧ (∀ v, v < 9 → W.ea v < 256) ∧ (∀ v, v < 9 → ∀ a, a < 8 → (W.ea v).testBit a = true → a + 1 < W.n ∧ v < W.n ∧ v ≠ 0 ∧ a + 1 ≠ v)
theorem zWok.h1 {W : zW} (h : zWok W) : 1 ≤ W.n := h.1
theorem zWok.h9 {W : zW} (h : zWok W) : W.n ≤ 9 := h.2.1
theorem zWok.m1 {W : zW} (h : zWok W) : 1 ≤ W.mo := h.2.2.1
theorem zWok.m8 {W : zW} (h : zWok W) : W.mo ≤ 8 := h.2.2.2.1
theorem zWok.rm {W : zW} (h : zWok W) : W.rm ≤ 1000 := h.2.2.2.2.1
theorem zWok.lo {W : zW} (h : zWok W) : ∀ i, i < 9 → W.lo i ≤ 100 := h.2.2.2.2.2.1
theorem zWok.ar {W : zW} (h : zWok W) : ∀ a b x, W.ar a b = some x → a < W.n ∧ b < W.n ∧ a ≠ b ∧ -1000 ≤ x ∧ x ≤ 1000 := h.2.2.2.2.2.2.1
theorem zWok.pr {W : zW} (h : zWok W) : ∀ v x, W.pr v = some x → 0 ≤ x ∧ x ≤ 2000 := h.2.2.2.2.2.2.2.1
theorem zWok.ea {W : zW} (h : zWok W) : ∀ v, v < 9 → W.ea v < 256 := h.2.2.2.2.2.2.2.2.1
theorem zWok.eb {W : zW} (h : zWok W) : ∀ v, v < 9 → ∀ a, a < 8 → (W.ea v).testBit a = true → a + 1 < W.n ∧ v < W.n ∧ v ≠ 0 ∧ a + 1 ≠ v := h.2.2.2.2.2.2.2.2.2
def WC (W : zW) (V A : zV) : Prop := (V 1 4 = nI W.n) ∧ (V 1 5 = nI W.mo) ∧ (V 1 6 = nI W.rm) ∧ (V 1 7 = (if W.op = true then 1 else 0)) ∧ (∀ i, i < 9 → A 2 i = nI (W.lo i)) ∧ (∀ a b, a < 9 → b < 9 → A 3 (a * 9 + b) = zEc (W.ar a b)) ∧ (∀ v, v < 9 → A 4 v = zEp (W.pr v)) ∧ (∀ v, v < 9 → A 5 v = nI (W.ea v))
theorem WC.n {W : zW} {V A : zV} (h : WC W V A) : V 1 4 = nI W.n := h.1
theorem WC.mo {W : zW} {V A : zV} (h : WC W V A) : V 1 5 = nI W.mo := h.2.1
theorem WC.rm {W : zW} {V A : zV} (h : WC W V A) : V 1 6 = nI W.rm := h.2.2.1
theorem WC.op {W : zW} {V A : zV} (h : WC W V A) : V 1 7 = (if W.op = true then 1 else 0) := h.2.2.2.1
theorem WC.lo {W : zW} {V A : zV} (h : WC W V A) : ∀ i, i < 9 → A 2 i = nI (W.lo i) := h.2.2.2.2.1
theorem WC.ar {W : zW} {V A : zV} (h : WC W V A) : ∀ a b, a < 9 → b < 9 → A 3 (a * 9 + b) = zEc (W.ar a b) := h.2.2.2.2.2.1
theorem WC.pr {W : zW} {V A : zV} (h : WC W V A) : ∀ v, v < 9 → A 4 v = zEp (W.pr v) := h.2.2.2.2.2.2.1
theorem WC.ea {W : zW} {V A : zV} (h : WC W V A) : ∀ v, v < 9 → A 5 v = nI (W.ea v) := h.2.2.2.2.2.2.2
def WR (W : zW) (V A : zV) : Prop := (V 36 1 = nI W.n) ∧ (V 36 6 = nI W.mo) ∧ (V 36 7 = nI W.rm) ∧ (V 36 8 = (if W.op = true then 1 else 0)) ∧ (∀ i, i < 9 → A 37 i = nI (W.lo i)) ∧ (∀ a b, a < 9 → b < 9 → A 38 (9 * a + b) = zEa (W.ar a b)) ∧ (∀ v, v < 9 → A 39 v = zEp (W.pr v)) ∧ (∀ v, v < 9 → ∀ a, a < 8 → A 40 (9 * (a + 1) + v) = (if (W.ea v).testBit a = true then 1 else 0))
theorem WR.n {W : zW} {V A : zV} (h : WR W V A) : V 36 1 = nI W.n := h.1
theorem WR.mo {W : zW} {V A : zV} (h : WR W V A) : V 36 6 = nI W.mo := h.2.1
theorem WR.rm {W : zW} {V A : zV} (h : WR W V A) : V 36 7 = nI W.rm := h.2.2.1
theorem WR.op {W : zW} {V A : zV} (h : WR W V A) : V 36 8 = (if W.op = true then 1 else 0) := h.2.2.2.1
theorem WR.lo {W : zW} {V A : zV} (h : WR W V A) : ∀ i, i < 9 → A 37 i = nI (W.lo i) := h.2.2.2.2.1
theorem WR.ar {W : zW} {V A : zV} (h : WR W V A) : ∀ a b, a < 9 → b < 9 → A 38 (9 * a + b) = zEa (W.ar a b) := h.2.2.2.2.2.1
theorem WR.pr {W : zW} {V A : zV} (h : WR W V A) : ∀ v, v < 9 → A 39 v = zEp (W.pr v) := h.2.2.2.2.2.2.1
theorem WR.ea {W : zW} {V A : zV} (h : WR W V A) : ∀ v, v < 9 → ∀ a, a < 8 → A 40 (9 * (a + 1) + v) = (if (W.ea v).testBit a = true then 1 else 0) := h.2.2.2.2.2.2.2
theorem WC.same {W : zW} {V A V' A' : zV} (h : WC W V A) (hV : ∀ j, V' 1 j = V 1 j) (hA : ∀ k, k < 6 → A' k = A k) : WC W V' A' := by
  refine ⟨?_, ?_, ?_, ?_, ?_, ?_, ?_, ?_⟩
  · rw [hV]; exact h.n
  · rw [hV]; exact h.mo
  · rw [hV]; exact h.rm
  · rw [hV]; exact h.op
  · rw [hA 2 (by omega)]; exact h.lo
  · rw [hA 3 (by omega)]; exact h.ar
  · rw [hA 4 (by omega)]; exact h.pr
  · rw [hA 5 (by omega)]; exact h.ea
theorem WR.same {W : zW} {V A V' A' : zV} (h : WR W V A) (hV : ∀ j, 1 ≤ j → j < 9 → V' 36 j = V 36 j) (hA : ∀ k, 36 < k → k < 41 → A' k = A k) : WR W V' A' := by
  refine ⟨?_, ?_, ?_, ?_, ?_, ?_, ?_, ?_⟩
  · rw [hV 1 (by omega) (by omega)]; exact h.n
  · rw [hV 6 (by omega) (by omega)]; exact h.mo
  · rw [hV 7 (by omega) (by omega)]; exact h.rm
  · rw [hV 8 (by omega) (by omega)]; exact h.op
  · rw [hA 37 (by omega) (by omega)]; exact h.lo
  · rw [hA 38 (by omega) (by omega)]; exact h.ar
  · rw [hA 39 (by omega) (by omega)]; exact h.pr
  · rw [hA 40 (by omega) (by omega)]; exact h.ea
theorem zWok.arB {W : zW} (h : zWok W) (a b : Nat) : oB 1000 (W.ar a b) := fun x q => by have := h.ar a b x q; omega
theorem zWok.prB {W : zW} (h : zWok W) (v : Nat) : oB 2000 (W.pr v) := fun x q => by have := h.pr v x q; omega
/-- ending a round -/
def zbk (W : zW) (a : Nat) : Option Int := if W.op = true then some 0 else W.ar a 0
theorem zWok.bkB {W : zW} (h : zWok W) (a : Nat) : oB 1000 (zbk W a) := by
  unfold zbk; split
  · exact oB_s (by omega) (by omega)
  · exact h.arB a 0
/-- leaving out -/
def zOt (W : zW) (e : Nat) : Option Int := zf (fun i a => if e.testBit i = true then oad a (W.pr (i + 1)) else a) (some 0) (W.n - 1)
theorem zOtB {W : zW} (h : zWok W) (e k : Nat) : oB (2000 * k) (zf (fun i a => if e.testBit i = true then oad a (W.pr (i + 1)) else a) (some 0) k) := by
  induction k with
  | zero => exact oB_s (by omega) (by omega)
  | succ k ih =>
    rw [zf_s]
    split
    · exact oB_mono (oB_add ih (h.prB (k + 1))) (by omega)
    · exact oB_mono ih (by omega)
theorem zWok.otB {W : zW} (h : zWok W) (e : Nat) : oB 16000 (zOt W e) := oB_mono (zOtB h e _) (by have := h.h9; omega)
/-- the class's net calls in the world -/
theorem zf_ot {W : zW} {V A : zV} (hW : zWok W) (hC : WC W V A) {e : Nat} (he : e < 256) : ∀ k, k ≤ W.n - 1 → zf (fun i a => if nI e &&& ((1 : Int32) <<< ((nI (i + 1) - 1) &&& 31)) = 0 then a else zsum a (if A 4 (i + 1) < 0 then 1000000000 else A 4 (i + 1))) 0 k = zEc (zf (fun i a => if e.testBit i = true then oad a (W.pr (i + 1)) else a) (some 0) k) := by
  intro k
  induction k with
  | zero => intro _; rfl
  | succ k ih =>
    intro hk
    have h9 := hW.h9
    rw [zf_s, zf_s, ih (by omega)]
    by_cases hb : e.testBit k = true
    · rw [if_neg (fun q => by rw [(z_bit1 e he k (by omega))] at q; rw [q] at hb; exact absurd hb (by simp)), if_pos hb]
      have hp := hC.pr (k + 1) (by omega)
      rw [hp]
      have e1 : (if zEp (W.pr (k + 1)) < 0 then (1000000000 : Int32) else zEp (W.pr (k + 1))) = zEc (W.pr (k + 1)) := by
        cases hq : W.pr (k + 1) with
        | none => rfl
        | some x =>
          have := hW.pr (k + 1) x hq
          rw [if_neg]
          · rfl
          · rw [z_lt, z_t0, show zEp (some x) = Int32.ofInt x from rfl, zi_toInt (by omega) (by omega)]; omega
      rw [e1]
      exact zEc_sum (oB_mono (zOtB hW e k) (by omega)) (oB_mono (hW.prB _) (by omega))
    · rw [if_pos ((z_bit1 e he k (by omega)).mpr (by cases hq : e.testBit k; rfl; exact absurd hq hb)), if_neg hb]
theorem w_costOut {W : zW} (V A : zV) (e : Nat) (hW : zWok W) (hC : WC W V A) (he : e < 256) : CQ Y_Net_costOut 1 [.ref 1, .int (nI e)] V A (fun r V' A' => r = zEc (zOt W e) ∧ V' = V ∧ A' = A) :=
  CQ.mono (c_Net_costOut V A (nI e) W.n hC.n hW.h1 hW.h9) (fun r V' A' h => ⟨by rw [h.1]; exact zf_ot hW hC he _ (Nat.le_refl _), h.2⟩)
theorem w_costBack {W : zW} (V A : zV) (a : Nat) (hC : WC W V A) (ha : a < 9) : CQ Y_Net_costBack 0 [.ref 1, .int (nI a)] V A (fun r V' A' => r = zEc (zbk W a) ∧ V' = V ∧ A' = A) := by
  have e1 : nI a * 9 = nI (a * 9) := by rw [show (9 : Int32) = nI 9 from rfl, pk_mul]
  refine CQ.mono (c_Net_costBack V A (nI a) (by rw [e1]; exact vp_in_nI (by omega) (by decide))) (fun r V' A' h => ⟨?_, h.2⟩)
  rw [h.1, e1, nI_clamp (by omega), hC.op]
  unfold zbk
  cases W.op with
  | true => rfl
  | false =>
    rw [if_neg (by decide), if_neg (by decide)]
    exact hC.ar a 0 ha (by omega)
theorem w_bit (V A : zV) (v : Nat) (h1 : 1 ≤ v) (h9 : v < 9) : CQ Y_CW_bit 0 [.int (nI v)] V A (fun r V' A' => r = nI (2 ^ (v - 1)) ∧ V' = V ∧ A' = A) := by
  refine CQ.mono (c_CW_bit V A (nI v)) (fun r V' A' h => ⟨?_, h.2⟩)
  rw [h.1, show nI v - 1 = nI (v - 1) by rw [show v = v - 1 + 1 by omega, nI_pred]; rfl]
  exact z_shl (v - 1) (by omega)
theorem w_allPlaces {W : zW} (V A : zV) (hW : zWok W) (hC : WC W V A) : CQ Y_Net_allPlaces 0 [.ref 1] V A (fun r V' A' => r = nI (2 ^ (W.n - 1) - 1) ∧ V' = V ∧ A' = A) := by
  refine CQ.mono (c_Net_allPlaces V A) (fun r V' A' h => ⟨?_, h.2⟩)
  have h1 := hW.h1
  have h9 := hW.h9
  rw [h.1, hC.n, show nI W.n - 1 = nI (W.n - 1) by rw [show W.n = W.n - 1 + 1 by omega, nI_pred]; rfl, z_shl (W.n - 1) (by omega)]
  have hp : 1 ≤ 2 ^ (W.n - 1) := Nat.one_le_two_pow
  rw [show (2 : Nat) ^ (W.n - 1) = 2 ^ (W.n - 1) - 1 + 1 by omega, nI_pred]
  rfl
theorem w_sum {o p : Option Int} (V A : zV) (h : oB 400000000 o) (h' : oB 400000000 p) : CQ Y_CW_sum 0 [.int (zEc o), .int (zEc p)] V A (fun r V' A' => r = zEc (oad o p) ∧ V' = V ∧ A' = A) :=
  CQ.mono (c_CW_sum V A (zEc o) (zEc p)) (fun r V' A' q => ⟨by rw [q.1]; exact zEc_sum h h', q.2⟩)
theorem zall_lt {W : zW} (hW : zWok W) : 2 ^ (W.n - 1) - 1 < 256 := by
  have h9 := hW.h9
  have : 2 ^ (W.n - 1) ≤ 2 ^ 8 := Nat.pow_le_pow_right (by decide) (by omega)
  omega
section WORLD
variable {SH : Int32 → Int32 → Int32 → Int32 → (Nat → Int32) → (Nat → Int32) → (Nat → Int32) → (Nat → Int32) → (Nat → Nat → Int32) → Prop}
variable {TA : Int32 → Int32 → Int32 → Int32 → (Nat → Int32) → (Nat → Int32) → (Nat → Int32) → (Nat → Int32) → Int32 → Int32 → (Nat → Int32) → Prop}
variable {FI : Int32 → Int32 → Int32 → Int32 → (Nat → Int32) → (Nat → Int32) → (Nat → Int32) → (Nat → Int32) → Int32 → (Nat → Int32) → Prop}
variable {KN : Int32 → Int32 → Int32 → Int32 → (Nat → Int32) → (Nat → Int32) → (Nat → Int32) → (Nat → Int32) → Int32 → Int32 → Int32 → (Nat → Int32) → (Nat → Int32) → (Nat → Int32) → Prop}
theorem z_nn {x : Int32} {b : Nat} (h0 : 0 ≤ x) (h : x.toInt ≤ b) (hb : b < 2 ^ 30) : x = nI x.toNatClampNeg ∧ x.toNatClampNeg ≤ b := by
  obtain ⟨i, hi, rfl⟩ := z_nat (n := b + 1) h0 (by rw [z_lt, nI_toInt (by omega)]; omega) (by omega)
  rw [nI_clamp (by omega)]
  exact ⟨rfl, by omega⟩
theorem Inv.W {c : Nat} {V A : zV} (hI : Inv SH TA FI KN c V A) : ∃ W, zWok W ∧ WC W V A ∧ WR W V A := by
  obtain ⟨n, ch, ⟨⟨h1, h9⟩, hn, hn'⟩, ⟨⟨r1, r2, r3⟩, ⟨m1, m8⟩, ⟨q0, q1⟩, ⟨o0, o1⟩⟩, hL, hC, hP, hA, -, -, -, -, -, -⟩ := hI
  rw [z_le, z_t1] at m1
  rw [z_le, z_l8] at m8
  rw [z_le, z_l1000] at q1
  have eo : V 1 7 = (if decide (V 1 7 = 1) = true then 1 else 0) := by
    by_cases hq : V 1 7 = 1
    · rw [if_pos (decide_eq_true hq)]; exact hq
    · rw [if_neg (by simpa using hq)]
      rw [z_le, z_t0] at o0
      rw [z_le, z_t1] at o1
      rw [z_eq, z_t1] at hq
      rw [z_eq, z_t0]; omega
  obtain ⟨em, em8⟩ := z_nn (x := V 1 5) (b := 8) (by rw [z_le, z_t0]; omega) (by omega) (by omega)
  obtain ⟨er, er8⟩ := z_nn (x := V 1 6) (b := 1000) q0 (by omega) (by omega)
  have hm1 : 1 ≤ (V 1 5).toNatClampNeg := by
    have e := congrArg Int32.toInt em
    rw [nI_toInt (by omega)] at e
    omega
  have hlo : ∀ i, i < 9 → A 2 i = nI (A 2 i).toNatClampNeg ∧ (A 2 i).toNatClampNeg ≤ 100 := by
    intro i hi
    obtain ⟨-, l0, l1⟩ := hL i hi
    rw [z_le, z_l100] at l1
    exact z_nn l0 (by omega) (by omega)
  have hea : ∀ b, b < 9 → (A 5 b).toNatClampNeg < 256 ∧ A 5 b = nI (A 5 b).toNatClampNeg ∧ (∀ a, a < 8 → A 40 (9 * (a + 1) + b) = (if (A 5 b).toNatClampNeg.testBit a = true then 1 else 0)) ∧ ∀ a, a < 8 → (n ≤ a + 1 ∨ n ≤ b ∨ b = 0 ∨ a + 1 = b) → (A 5 b).toNatClampNeg.testBit a = false := by
    intro b hb
    obtain ⟨e, he, e1, e2, e3⟩ := hA.1 b hb
    rw [e1, nI_clamp (by omega)]
    exact ⟨he, rfl, e2, e3⟩
  refine ⟨zW.mk n (V 1 5).toNatClampNeg (V 1 6).toNatClampNeg (decide (V 1 7 = 1)) (fun i => (A 2 i).toNatClampNeg) (fun a b => if a < 9 ∧ b < 9 ∧ ¬ A 3 (a * 9 + b) = 1000000000 then some (A 3 (a * 9 + b)).toInt else none) (fun v => if A 4 v < 0 ∨ 9 ≤ v then none else some (A 4 v).toInt) (fun v => (A 5 v).toNatClampNeg), ⟨h1, h9, hm1, em8, er8, fun i hi => (hlo i hi).2, ?_, ?_, fun v hv => (hea v hv).1, ?_⟩, ⟨hn, em, er, eo, fun i hi => (hlo i hi).1, ?_, ?_, fun v hv => (hea v hv).2.1⟩, ⟨hn', r1.trans em, r2.trans er, r3.trans eo, fun i hi => (hL i hi).1.trans (hlo i hi).1, ?_, ?_, fun v hv a ha => (hea v hv).2.2.1 a ha⟩⟩
  · intro a b x hx
    have hx : (if a < 9 ∧ b < 9 ∧ ¬ A 3 (a * 9 + b) = 1000000000 then some (A 3 (a * 9 + b)).toInt else none) = some x := hx
    split at hx
    · rename_i hq
      have hxx := Option.some.inj hx
      rcases hC.1 (a * 9 + b) (by omega) with z | ⟨-, z1, z2⟩
      · exact absurd z.1 hq.2.2
      · rw [z_le, z_lm1000] at z1
        rw [z_le, z_l1000] at z2
        have hout : ¬ (n ≤ a ∨ n ≤ b ∨ a = b) := fun w => hq.2.2 (hC.2 a b hq.1 hq.2.1 w)
        refine ⟨?_, ?_, ?_, by omega, by omega⟩
        · show a < n; omega
        · show b < n; omega
        · omega
    · exact absurd hx (by simp)
  · intro v x hx
    have hx : (if A 4 v < 0 ∨ 9 ≤ v then none else some (A 4 v).toInt) = some x := hx
    split at hx
    · exact absurd hx (by simp)
    · rename_i hq
      have hxx := Option.some.inj hx
      obtain ⟨-, -, z2⟩ := hP v (by omega)
      rw [z_le, z_l2000] at z2
      have z1 : ¬ A 4 v < 0 := fun w => hq (Or.inl w)
      rw [z_lt, z_t0] at z1
      omega
  · intro v hv a ha ht
    have hno : ¬ (n ≤ a + 1 ∨ n ≤ v ∨ v = 0 ∨ a + 1 = v) := fun w => by
      have := (hea v hv).2.2.2 a ha w
      have ht : (A 5 v).toNatClampNeg.testBit a = true := ht
      rw [this] at ht; exact absurd ht (by simp)
    refine ⟨?_, ?_, by omega, by omega⟩
    · show a + 1 < n; omega
    · show v < n; omega
  · intro a b ha hb
    show _ = zEc (if a < 9 ∧ b < 9 ∧ ¬ A 3 (a * 9 + b) = 1000000000 then some (A 3 (a * 9 + b)).toInt else none)
    split
    · exact (zi_of _).symm
    · rename_i hq
      show _ = (1000000000 : Int32)
      exact Classical.byContradiction (fun w => hq ⟨ha, hb, w⟩)
  · intro v hv
    show _ = zEp (if A 4 v < 0 ∨ 9 ≤ v then none else some (A 4 v).toInt)
    split
    · rename_i hq
      obtain ⟨-, z1, -⟩ := hP v hv
      rw [z_le, z_lm1] at z1
      rcases hq with hq | hq
      · rw [z_lt, z_t0] at hq
        show _ = (-1 : Int32)
        rw [z_eq, z_lm1]; omega
      · omega
    · exact (zi_of _).symm
  · intro a b ha hb
    show _ = zEa (if a < 9 ∧ b < 9 ∧ ¬ A 3 (a * 9 + b) = 1000000000 then some (A 3 (a * 9 + b)).toInt else none)
    rw [show 9 * a + b = a * 9 + b by omega]
    rcases hC.1 (a * 9 + b) (by omega) with ⟨z1, z2⟩ | ⟨z1, z2, z3⟩
    · rw [if_neg (fun w => w.2.2 z1)]; exact z2
    · rw [if_pos ⟨ha, hb, fun w => by rw [w] at z3; exact absurd z3 (by decide)⟩, ← z1]
      exact (zi_of _).symm
  · intro v hv
    show _ = zEp (if A 4 v < 0 ∨ 9 ≤ v then none else some (A 4 v).toInt)
    rw [(hP v hv).1]
    split
    · rename_i hq
      obtain ⟨-, z1, -⟩ := hP v hv
      rw [z_le, z_lm1] at z1
      rcases hq with hq | hq
      · rw [z_lt, z_t0] at hq
        show _ = (-1 : Int32)
        rw [z_eq, z_lm1]; omega
      · omega
    · exact (zi_of _).symm
end WORLD
