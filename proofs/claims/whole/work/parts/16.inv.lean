/-! what holds between class and reference ahead of each call -/
def zcc (x y : Int32) : Prop := (x = 1000000000 ∧ y = 1000000) ∨ (x = y ∧ (-1000) ≤ x ∧ x ≤ 1000)
/-- the net's own numbers, and its reference -/
def IvN (n : Nat) (V A : zV) : Prop := (1 ≤ n ∧ n ≤ 9) ∧ V 1 4 = nI n ∧ V 36 1 = nI n
def IvR (V : zV) : Prop := (V 36 6 = V 1 5 ∧ V 36 7 = V 1 6 ∧ V 36 8 = V 1 7) ∧ (1 ≤ V 1 5 ∧ V 1 5 ≤ 8) ∧ (0 ≤ V 1 6 ∧ V 1 6 ≤ 1000) ∧ (0 ≤ V 1 7 ∧ V 1 7 ≤ 1)
def IvL (f g : Nat → Int32) : Prop := ∀ i, i < 9 → g i = f i ∧ 0 ≤ f i ∧ f i ≤ 100
def IvC (n : Nat) (f g : Nat → Int32) : Prop := (∀ i, i < 81 → zcc (f i) (g i)) ∧ ∀ i j, i < 9 → j < 9 → (n ≤ i ∨ n ≤ j ∨ i = j) → f (i * 9 + j) = 1000000000
def IvP (f g : Nat → Int32) : Prop := ∀ i, i < 9 → g i = f i ∧ (-1) ≤ f i ∧ f i ≤ 2000
def IvA (n : Nat) (f g : Nat → Int32) : Prop := (∀ b, b < 9 → ∃ e, e < 256 ∧ f b = nI e ∧ (∀ a, a < 8 → g (9 * (a + 1) + b) = (if e.testBit a = true then 1 else 0)) ∧ ∀ a, a < 8 → (n ≤ a + 1 ∨ n ≤ b ∨ b = 0 ∨ a + 1 = b) → e.testBit a = false) ∧ ∀ b, b < 9 → g b = 0
def IvW (f g : Nat → Int32) : Prop := ∀ i, i < 9 → g i = f i ∧ (-1000) ≤ f i ∧ f i ≤ 1000
def IvX (n : Nat) (f g : Nat → Int32) : Prop := ∀ i, i < 9 → g i = f i ∧ (f i = (-1) ∨ ∃ j, j < n ∧ f i = nI j)
def IvQ (n : Nat) (s t : Int32) (f g : Nat → Int32) : Prop := t = s ∧ ∃ q, q ≤ 20 ∧ s = nI q ∧ ∀ i, i < q → g i = f i ∧ ∃ j, j < n ∧ f i = nI j
/-- a table that was made at a count of changes: none, an older one, or good -/
def IvS (ch : Nat) (seen : Int32) (G : Prop) : Prop := seen = (-1) ∨ ∃ q, q ≤ ch ∧ seen = nI q ∧ (q = ch → G)
/-- the same, beside a number that is always 0 -/
def IvS0 (ch : Nat) (seen z : Int32) (G : Prop) : Prop := z = 0 ∧ IvS ch seen G
section INV
variable (SH : Int32 → Int32 → Int32 → Int32 → (Nat → Int32) → (Nat → Int32) → (Nat → Int32) → (Nat → Int32) → (Nat → Nat → Int32) → Prop)
variable (TA : Int32 → Int32 → Int32 → Int32 → (Nat → Int32) → (Nat → Int32) → (Nat → Int32) → (Nat → Int32) → Int32 → Int32 → (Nat → Int32) → Prop)
variable (FI : Int32 → Int32 → Int32 → Int32 → (Nat → Int32) → (Nat → Int32) → (Nat → Int32) → (Nat → Int32) → Int32 → (Nat → Int32) → Prop)
variable (KN : Int32 → Int32 → Int32 → Int32 → (Nat → Int32) → (Nat → Int32) → (Nat → Int32) → (Nat → Int32) → Int32 → Int32 → Int32 → (Nat → Int32) → (Nat → Int32) → (Nat → Int32) → Prop)
/-- the class's tables of sets, as one family: 0..5 Paths (setLoad, followers, pathCost, pathWays, roundCost, roundWays), 6 7 Shares -/
def zta (A : zV) : Nat → Nat → Int32 := fun k => match k with
  | 0 => A 7
  | 1 => A 8
  | 2 => A 9
  | 3 => A 10
  | 4 => A 11
  | 5 => A 12
  | 6 => A 14
  | _ => A 15
def IvT (ch : Nat) (V A : zV) : Prop :=
  IvS0 ch (V 13 6) (zta A 0 0) (SH (V 1 4) (V 1 5) (V 1 6) (V 1 7) (A 2) (A 3) (A 4) (A 5) (zta A)) ∧
  IvS ch (V 16 5) (TA (V 1 4) (V 1 5) (V 1 6) (V 1 7) (A 2) (A 3) (A 4) (A 5) (V 16 6) (V 16 7) (A 17)) ∧
  IvS ch (V 19 5) (FI (V 1 4) (V 1 5) (V 1 6) (V 1 7) (A 2) (A 3) (A 4) (A 5) (V 19 4) (A 20))
def IvK (V A : zV) : Prop := V 36 13 = 0 ∨ (V 36 13 = 1 ∧ KN (V 36 1) (V 36 6) (V 36 7) (V 36 8) (A 37) (A 38) (A 39) (A 40) (V 36 14) (V 36 15) (V 36 19) (A 44) (A 45) (A 46))
def Inv (c : Nat) (V A : zV) : Prop := ∃ n ch, IvN n V A ∧ IvR V ∧ IvL (A 2) (A 37) ∧ IvC n (A 3) (A 38) ∧ IvP (A 4) (A 39) ∧ IvA n (A 5) (A 40) ∧ IvW (A 22) (A 41) ∧ IvX n (A 29) (A 42) ∧ IvQ n (V 33 3) (V 36 12) (A 34) (A 43) ∧ (V 1 8 = nI ch ∧ ch ≤ 100 * c) ∧ IvT SH TA FI ch V A ∧ IvK KN V A
/-- both calls of a case of the law: the class's, then the reference's, give the same answer, and the invariant holds again -/
def Pair (Yc Yr : zY) (dc dr : Nat) (av : List Value) : Prop := ∀ (c : Nat) (V A : zV), c < 512 → Inv SH TA FI KN c V A → CQ Yc dc (.ref 0 :: av) V A (fun r V1 A1 => CQ Yr dr (.ref 36 :: av) V1 A1 (fun r' V2 A2 => r = r' ∧ Inv SH TA FI KN (c + 1) V2 A2))
end INV
section CQM
variable {Y : zY} {d : Nat} {av : List Value} {V A : zV} {P P' : Int32 → zV → zV → Prop}
/-- a contract with a weaker end -/
theorem CQ.mono (h : CQ Y d av V A P) (hP : ∀ r V' A', P r V' A' → P' r V' A') : CQ Y d av V A P' := by
  intro l base D cI cZ p e ha hc hk s m args below hf hp h1 h2
  obtain ⟨k, o, h3, h4, h5, h6⟩ := h l base D cI cZ p e ha hc hk s m args below hf hp h1 h2
  obtain ⟨⟨r, μ', e1, ⟨v, V', A', e2, e3, e4⟩, e5⟩, e6⟩ := h6
  exact ⟨k, o, h3, h4, h5, ⟨r, μ', e1, ⟨v, V', A', e2, e3, hP v V' A' e4⟩, e5⟩, e6⟩
end CQM
