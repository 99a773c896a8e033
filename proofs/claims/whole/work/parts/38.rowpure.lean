/-! a row as a plan -/
theorem zz_in {e a : Nat} (he : e < 256) (ha : a < 8) : nI e &&& nI (2 ^ a) = 0 ↔ e.testBit a = false := by
  rw [← z_shl a (by omega)]; exact z9_and e (by omega) a (by omega)
theorem zz_bit {a : Nat} (ha : a < 8) : 2 ^ a < 256 := by
  have : 2 ^ a ≤ 2 ^ 7 := Nat.pow_le_pow_right (by decide) (by omega)
  omega
def zPS (W : zW) (x : Nat → Nat) (s : Nat) : Nat → Option (Int × Nat × Nat × Nat)
  | 0 => some (0, 0, 0, 0)
  | k + 1 => match zPS W x s k with
    | none => none
    | some (c, H, l, a) => if W.ea (x (s + k)) &&& (255 ^^^ H) = 0 then (oad (some c) (W.ar a (x (s + k)))).map (fun c' => (c', H ||| 2 ^ (x (s + k) - 1), l + W.lo (x (s + k)), x (s + k))) else none
def zRC (W : zW) (x : Nat → Nat) (s k : Nat) : Option Int := match zPS W x s k with
  | none => none
  | some (c, H, l, a) => if H = 0 ∨ W.rm < l then none else oad (some c) (zbk W a)
theorem zPS_none {W : zW} {x : Nat → Nat} {s k : Nat} (h : zPS W x s k = none) : ∀ j, k ≤ j → zPS W x s j = none := by
  intro j
  induction j with
  | zero => intro hj; rw [show k = 0 by omega] at h; exact h
  | succ j ih =>
    intro hj
    by_cases hk : k = j + 1
    · rw [← hk]; exact h
    · rw [zPS, ih (by omega)]
theorem zPS_map {W : zW} {x : Nat → Nat} {s k H l a : Nat} {o : Option Int} (h : zPS W x s k = o.map (fun c => (c, H, l, a))) : zPS W x s (k + 1) = if W.ea (x (s + k)) &&& (255 ^^^ H) = 0 then (oad o (W.ar a (x (s + k)))).map (fun c' => (c', H ||| 2 ^ (x (s + k) - 1), l + W.lo (x (s + k)), x (s + k))) else none := by
  rw [zPS, h]
  cases o with
  | none => simp [oad_nl]
  | some c => rfl
theorem zRC_map {W : zW} {x : Nat → Nat} {s k H l a : Nat} {o : Option Int} (h : zPS W x s k = o.map (fun c => (c, H, l, a))) : zRC W x s k = if H = 0 ∨ W.rm < l then none else oad o (zbk W a) := by
  unfold zRC
  rw [h]
  cases o with
  | none => simp [oad_nl]
  | some c => rfl
theorem zRC_none {W : zW} {x : Nat → Nat} {s k : Nat} (h : zPS W x s k = none) : zRC W x s k = none := by unfold zRC; rw [h]
/-- in one pass -/
def zQ (W : zW) (x : Nat → Nat) : Nat → Option (Int × Nat × Nat × Nat × Nat × Nat)
  | 0 => some (0, 0, 0, 0, 0, 0)
  | k + 1 => match zQ W x k with
    | none => none
    | some (c, a, m, U, H, l) =>
      if x k = 0 then (if a = 0 then none else (oad (some c) (zbk W a)).map (fun c' => (c', 0, m, U, 0, 0)))
      else if U.testBit (x k - 1) = false ∧ l + W.lo (x k) ≤ W.rm ∧ W.ea (x k) &&& (255 ^^^ H) = 0 then (oad (some c) (W.ar a (x k))).map (fun c' => (c', x k, if a = 0 then m + 1 else m, U ||| 2 ^ (x k - 1), H ||| 2 ^ (x k - 1), l + W.lo (x k))) else none
def zRst (W : zW) (U : Nat) : Nat := (2 ^ (W.n - 1) - 1) &&& (255 ^^^ U)
def zPC (W : zW) (x : Nat → Nat) (L : Nat) : Option Int := match zQ W x L with
  | none => none
  | some (c, a, m, U, _, _) => if (¬ L = 0 ∧ a = 0) ∨ W.mo < m then none else oad (oad (some c) (if a = 0 then some 0 else zbk W a)) (zOt W (zRst W U))
theorem zQ_none {W : zW} {x : Nat → Nat} {k : Nat} (h : zQ W x k = none) : ∀ j, k ≤ j → zQ W x j = none := by
  intro j
  induction j with
  | zero => intro hj; rw [show k = 0 by omega] at h; exact h
  | succ j ih =>
    intro hj
    by_cases hk : k = j + 1
    · rw [← hk]; exact h
    · rw [zQ, ih (by omega)]
theorem zPC_none {W : zW} {x : Nat → Nat} {k L : Nat} (h : zQ W x k = none) (hk : k ≤ L) : zPC W x L = none := by
  unfold zPC; rw [zQ_none h L hk]
def zCm (rm : Nat) (oc : Option Int) (ps : Option (Int × Nat × Nat × Nat)) (r U k : Nat) : Option (Int × Nat × Nat × Nat × Nat × Nat) := match oc, ps with
  | some c, some (c2, H, l, a) => if l ≤ rm then some (c + c2, a, if k = 0 then r else r + 1, U, H, l) else none
  | _, _ => none
theorem zCm_n1 (rm : Nat) (ps : Option (Int × Nat × Nat × Nat)) (r U k : Nat) : zCm rm none ps r U k = none := by cases ps <;> rfl
theorem zCm_n2 (rm : Nat) (oc : Option Int) (r U k : Nat) : zCm rm oc none r U k = none := by cases oc <;> rfl
theorem or_ne0 (H a : Nat) : ¬ (H ||| 2 ^ a) = 0 := by
  intro h
  have := congrArg (fun z => z.testBit a) h
  simp [Nat.testBit_or, Nat.testBit_two_pow] at this
theorem zPS_at {W : zW} {x : Nat → Nat} {s k c : Nat} {q : Int × Nat × Nat × Nat} (hx : ∀ j, s ≤ j → j < s + k → ¬ x j = 0) (h : zPS W x s k = some q) : (q.2.2.2 = 0 ↔ k = 0) ∧ (q.2.1 = 0 ↔ k = 0) := by
  cases k with
  | zero => rw [zPS] at h; rw [← Option.some.inj h]; simp
  | succ k =>
    rw [zPS] at h
    split at h
    · exact absurd h (by simp)
    · split at h
      · obtain ⟨c', -, hc⟩ := Option.map_eq_some_iff.mp h
        rw [← hc]
        refine ⟨⟨fun z => absurd z (hx (s + k) (by omega) (by omega)), fun z => by omega⟩, ⟨fun z => absurd z (or_ne0 _ _), fun z => by omega⟩⟩
      · exact absurd h (by simp)
theorem zQ_node {W : zW} {x : Nat → Nat} {s i r U : Nat} {oc : Option Int} (hs : s ≤ i) (hx : ∀ j, s ≤ j → j < i → ¬ x j = 0) (h : zQ W x i = zCm W.rm oc (zPS W x s (i - s)) r U (i - s)) (h0 : ¬ x i = 0) (hU : U.testBit (x i - 1) = false) : zQ W x (i + 1) = zCm W.rm oc (zPS W x s (i + 1 - s)) r (U ||| 2 ^ (x i - 1)) (i + 1 - s) := by
  rw [zQ, h, show i + 1 - s = i - s + 1 by omega]
  cases oc with
  | none => rw [zCm_n1, zCm_n1]
  | some c =>
    have hat := @zPS_at W x s (i - s) 0
    cases hp : zPS W x s (i - s) with
    | none => rw [zPS, hp]; rfl
    | some q =>
      obtain ⟨c2, H, l, a⟩ := q
      have hat := (hat (fun j h1 h2 => hx j h1 (by omega)) hp).1
      have hat : a = 0 ↔ i - s = 0 := hat
      rw [zPS, hp]
      show (match zCm W.rm (some c) (some (c2, H, l, a)) r U (i - s) with | none => none | some (c, a, m, U, H, l) => _) = zCm W.rm (some c) (if W.ea (x (s + (i - s))) &&& (255 ^^^ H) = 0 then _ else none) r _ (i - s + 1)
      rw [show s + (i - s) = i by omega]
      by_cases hl : l ≤ W.rm
      · rw [show zCm W.rm (some c) (some (c2, H, l, a)) r U (i - s) = some (c + c2, a, if i - s = 0 then r else r + 1, U, H, l) from if_pos hl]
        show (if x i = 0 then _ else _) = _
        rw [if_neg h0]
        by_cases he : W.ea (x i) &&& (255 ^^^ H) = 0
        · rw [if_pos he]
          by_cases hl2 : l + W.lo (x i) ≤ W.rm
          · rw [if_pos ⟨hU, hl2, he⟩]
            cases har : W.ar a (x i) with
            | none => rfl
            | some y =>
              show some (c + c2 + y, _, _, _, _, _) = zCm W.rm (some c) (some (c2 + y, _, _, _)) r _ _
              show _ = if l + W.lo (x i) ≤ W.rm then some (c + (c2 + y), x i, if i - s + 1 = 0 then r else r + 1, U ||| 2 ^ (x i - 1), H ||| 2 ^ (x i - 1), l + W.lo (x i)) else none
              rw [if_pos hl2, if_neg (Nat.succ_ne_zero _), Int.add_assoc]
              by_cases ha : a = 0
              · rw [if_pos ha, if_pos (hat.mp ha)]
              · rw [if_neg ha, if_neg (fun z => ha (hat.mpr z))]
          · rw [if_neg (fun z => hl2 z.2.1)]
            cases har : W.ar a (x i) with
            | none => rfl
            | some y =>
              show _ = if l + W.lo (x i) ≤ W.rm then some (c + (c2 + y), x i, if i - s + 1 = 0 then r else r + 1, U ||| 2 ^ (x i - 1), H ||| 2 ^ (x i - 1), l + W.lo (x i)) else none
              rw [if_neg hl2]
        · rw [if_neg he, if_neg (fun z => he z.2.2)]; rfl
      · rw [show zCm W.rm (some c) (some (c2, H, l, a)) r U (i - s) = none from if_neg hl]
        show none = _
        by_cases he : W.ea (x i) &&& (255 ^^^ H) = 0
        · rw [if_pos he]
          cases har : W.ar a (x i) with
          | none => rfl
          | some y =>
            show _ = if l + W.lo (x i) ≤ W.rm then some (c + (c2 + y), x i, if i - s + 1 = 0 then r else r + 1, U ||| 2 ^ (x i - 1), H ||| 2 ^ (x i - 1), l + W.lo (x i)) else none
            rw [if_neg (by omega)]
        · rw [if_neg he]; rfl
theorem zQ_dup {W : zW} {x : Nat → Nat} {i r U k : Nat} {oc : Option Int} {ps : Option (Int × Nat × Nat × Nat)} (h : zQ W x i = zCm W.rm oc ps r U k) (h0 : ¬ x i = 0) (hU : ¬ U.testBit (x i - 1) = false) : zQ W x (i + 1) = none := by
  rw [zQ, h]
  cases oc with
  | none => rw [zCm_n1]
  | some c => cases ps with
    | none => rfl
    | some q =>
      obtain ⟨c2, H, l, a⟩ := q
      by_cases hl : l ≤ W.rm
      · rw [show zCm W.rm (some c) (some (c2, H, l, a)) r U k = some (c + c2, a, if k = 0 then r else r + 1, U, H, l) from if_pos hl]
        show (if x i = 0 then _ else _) = _
        rw [if_neg h0, if_neg (fun z => hU z.1)]
      · rw [show zCm W.rm (some c) (some (c2, H, l, a)) r U k = none from if_neg hl]
theorem zQ_house {W : zW} {x : Nat → Nat} {s i r U : Nat} {oc : Option Int} (hs : s ≤ i) (hx : ∀ j, s ≤ j → j < i → ¬ x j = 0) (h : zQ W x i = zCm W.rm oc (zPS W x s (i - s)) r U (i - s)) (h0 : x i = 0) : zQ W x (i + 1) = zCm W.rm (oad oc (zRC W x s (i - s))) (zPS W x (i + 1) 0) (r + 1) U 0 := by
  rw [zQ, h]
  cases oc with
  | none => rw [zCm_n1, oad_nl, zCm_n1]
  | some c =>
    have hat := @zPS_at W x s (i - s) 0
    cases hp : zPS W x s (i - s) with
    | none => rw [zRC_none hp, oad_nr, zCm_n1]; rfl
    | some q =>
      obtain ⟨c2, H, l, a⟩ := q
      obtain ⟨ha, hH⟩ := hat (fun j h1 h2 => hx j h1 (by omega)) hp
      have ha : a = 0 ↔ i - s = 0 := ha
      have hH : H = 0 ↔ i - s = 0 := hH
      rw [zRC_map (o := some c2) (H := H) (l := l) (a := a) (by rw [hp]; rfl)]
      by_cases hl : l ≤ W.rm
      · rw [show zCm W.rm (some c) (some (c2, H, l, a)) r U (i - s) = some (c + c2, a, if i - s = 0 then r else r + 1, U, H, l) from if_pos hl]
        show (if x i = 0 then (if a = 0 then none else _) else _) = _
        rw [if_pos h0]
        by_cases hk : i - s = 0
        · rw [if_pos (ha.mpr hk), if_pos (Or.inl (hH.mpr hk)), oad_nr, zCm_n1]
        · rw [if_neg (fun z => hk (ha.mp z)), if_neg hk, if_neg (c := H = 0 ∨ W.rm < l) (fun z => by rcases z with z | z; exact hk (hH.mp z); omega)]
          cases hb : zbk W a with
          | none => rfl
          | some y =>
            show some (c + c2 + y, _, _, _, _, _) = zCm W.rm (some (c + (c2 + y))) (some (0, 0, 0, 0)) _ _ 0
            show _ = if 0 ≤ W.rm then some (c + (c2 + y) + 0, 0, if 0 = 0 then r + 1 else r + 1 + 1, U, 0, 0) else none
            rw [if_pos (Nat.zero_le _), if_pos rfl, Int.add_zero, Int.add_assoc]
      · rw [show zCm W.rm (some c) (some (c2, H, l, a)) r U (i - s) = none from if_neg hl, if_pos (Or.inr (by omega)), oad_nr, zCm_n1]
theorem zPC_end {W : zW} {x : Nat → Nat} {s L r U : Nat} {oc : Option Int} (hL : 0 < L) (hs : s ≤ L) (hx : ∀ j, s ≤ j → j < L → ¬ x j = 0) (h : zQ W x L = zCm W.rm oc (zPS W x s (L - s)) r U (L - s)) : zPC W x L = if W.mo < r + 1 then none else oad (oad oc (zRC W x s (L - s))) (zOt W (zRst W U)) := by
  unfold zPC
  rw [h]
  have hn : ∀ z : Option Int, (if W.mo < r + 1 then none else oad none z) = none := fun z => by rw [oad_nl]; split <;> rfl
  cases oc with
  | none => rw [zCm_n1, oad_nl]; exact (hn _).symm
  | some c =>
    have hat := @zPS_at W x s (L - s) 0
    cases hp : zPS W x s (L - s) with
    | none => rw [zRC_none hp, oad_nr]; exact (hn _).symm
    | some q =>
      obtain ⟨c2, H, l, a⟩ := q
      obtain ⟨ha, hH⟩ := hat (fun j h1 h2 => hx j h1 (by omega)) hp
      have ha : a = 0 ↔ L - s = 0 := ha
      have hH : H = 0 ↔ L - s = 0 := hH
      rw [zRC_map (o := some c2) (H := H) (l := l) (a := a) (by rw [hp]; rfl)]
      by_cases hl : l ≤ W.rm
      · rw [show zCm W.rm (some c) (some (c2, H, l, a)) r U (L - s) = some (c + c2, a, if L - s = 0 then r else r + 1, U, H, l) from if_pos hl]
        show (if (¬ L = 0 ∧ a = 0) ∨ W.mo < (if L - s = 0 then r else r + 1) then none else oad (oad (some (c + c2)) (if a = 0 then some 0 else zbk W a)) (zOt W (zRst W U))) = _
        by_cases hk : L - s = 0
        · rw [if_pos (Or.inl ⟨by omega, ha.mpr hk⟩), if_pos (Or.inl (hH.mpr hk)), oad_nr]; exact (hn _).symm
        · rw [if_neg hk, if_neg (fun z => hk (ha.mp z)), if_neg (c := H = 0 ∨ W.rm < l) (fun z => by rcases z with z | z; exact hk (hH.mp z); omega), ← oad_as (some c) (some c2)]
          by_cases hm : W.mo < r + 1
          · rw [if_pos (Or.inr hm), if_pos hm]
          · rw [if_neg (fun z => by rcases z with z | z; exact hk (ha.mp z.2); exact hm z), if_neg hm]; rfl
      · rw [show zCm W.rm (some c) (some (c2, H, l, a)) r U (L - s) = none from if_neg hl, if_pos (Or.inr (by omega)), oad_nr]; exact (hn _).symm
theorem zPC_0 (W : zW) (x : Nat → Nat) : zPC W x 0 = zOt W (zRst W 0) := by
  show (if (¬ (0 : Nat) = 0 ∧ (0 : Nat) = 0) ∨ W.mo < 0 then none else oad (oad (some 0) (if (0 : Nat) = 0 then some 0 else zbk W 0)) (zOt W (zRst W 0))) = _
  rw [if_neg (by omega), if_pos rfl, oad_0, oad_0l]
/-- bounds -/
theorem zPS_B {W : zW} (hW : zWok W) {x : Nat → Nat} {s : Nat} : ∀ {k : Nat} {q : Int × Nat × Nat × Nat}, zPS W x s k = some q → -(1000 * (k : Int)) ≤ q.1 ∧ q.1 ≤ 1000 * k
  | 0, q, h => by rw [← Option.some.inj h]; exact ⟨by decide, by decide⟩
  | k + 1, q, h => by
    rw [zPS] at h
    split at h
    · exact absurd h (by simp)
    · rename_i c H l a hp
      split at h
      · obtain ⟨c', hc', hc⟩ := Option.map_eq_some_iff.mp h
        have := zPS_B hW hp
        have hb := oB_add (oB_s (b := 1000 * k) (x := c) (by omega) (by omega)) (hW.arB a (x (s + k))) c' hc'
        rw [← hc]
        show _ ≤ c' ∧ c' ≤ _
        omega
      · exact absurd h (by simp)
theorem zRC_B {W : zW} (hW : zWok W) (x : Nat → Nat) (s k : Nat) : oB (1000 * k + 1000) (zRC W x s k) := by
  unfold zRC
  split
  · exact oB_n _
  · rename_i c H l a hp
    split
    · exact oB_n _
    · have := zPS_B hW hp
      exact oB_add (oB_s (by omega) (by omega)) (hW.bkB a)
theorem zQ_B {W : zW} (hW : zWok W) {x : Nat → Nat} : ∀ {k : Nat} {q : Int × Nat × Nat × Nat × Nat × Nat}, zQ W x k = some q → -(1000 * (k : Int)) ≤ q.1 ∧ q.1 ≤ 1000 * k
  | 0, q, h => by rw [← Option.some.inj h]; exact ⟨by decide, by decide⟩
  | k + 1, q, h => by
    rw [zQ] at h
    split at h
    · exact absurd h (by simp)
    · rename_i c a m U H l hp
      have := zQ_B hW hp
      split at h
      · split at h
        · exact absurd h (by simp)
        · obtain ⟨c', hc', hc⟩ := Option.map_eq_some_iff.mp h
          have hb := oB_add (oB_s (b := 1000 * k) (x := c) (by omega) (by omega)) (hW.bkB a) c' hc'
          rw [← hc]
          show _ ≤ c' ∧ c' ≤ _
          omega
      · split at h
        · obtain ⟨c', hc', hc⟩ := Option.map_eq_some_iff.mp h
          have hb := oB_add (oB_s (b := 1000 * k) (x := c) (by omega) (by omega)) (hW.arB a (x k)) c' hc'
          rw [← hc]
          show _ ≤ c' ∧ c' ≤ _
          omega
        · exact absurd h (by simp)
theorem zPC_B {W : zW} (hW : zWok W) (x : Nat → Nat) {L : Nat} (hL : L ≤ 21) : oB 40000 (zPC W x L) := by
  unfold zPC
  split
  · exact oB_n _
  · rename_i c a m U H l hp
    split
    · exact oB_n _
    · have := zQ_B hW hp
      have hb : oB 1000 (if a = 0 then some 0 else zbk W a) := by
        split
        · exact oB_s (by omega) (by omega)
        · exact hW.bkB a
      exact oB_mono (oB_add (oB_add (oB_s (b := 1000 * L) (by omega) (by omega)) hb) (hW.otB _)) (by omega)
