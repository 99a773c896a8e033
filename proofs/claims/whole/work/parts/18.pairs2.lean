theorem zcc_was {x y : Int32} (h : zcc x y) : (if x = 1000000000 then (-1000000) else x) = (if y = 1000000 then (-1000000) else y) := by
  rcases h with ⟨rfl, rfl⟩ | ⟨rfl, h1, h2⟩
  · rfl
  · rw [if_neg (fun h => by rw [h] at h2; exact absurd h2 (by decide)), if_neg (fun h => by rw [h] at h2; exact absurd h2 (by decide))]
theorem IvC.up {n : Nat} {f g : Nat → Int32} {a b : Nat} {c c' : Int32} (h : IvC n f g) (h9 : n ≤ 9) (ha : a < n) (hb : b < n) (hab : a ≠ b) (hc : zcc c c') : IvC n (upd f (a * 9 + b) c) (upd g (9 * a + b) c') := by
  have e : 9 * a + b = a * 9 + b := by omega
  rw [e]
  refine ⟨fun i hi => ?_, fun i j hi hj hij => ?_⟩
  · simp only [z_upd]
    by_cases hk : i = a * 9 + b
    · simp only [hk, if_true]; exact hc
    · simp only [hk, if_false]; exact h.1 i hi
  · simp only [z_upd]
    rw [if_neg (by omega)]
    exact h.2 i j hi hj hij
theorem z_cc (i j : Nat) (hi : i < 9) (hj : j < 9) : (nI i * 9 + nI j).toNatClampNeg = i * 9 + j := by
  rw [show (9 : Int32) = nI 9 from rfl, pk_mul, nI_add, nI_clamp (by omega)]
theorem z_cc' (i j : Nat) (hi : i < 9) (hj : j < 9) : (9 * nI i + nI j).toNatClampNeg = 9 * i + j := by
  rw [show (9 : Int32) = nI 9 from rfl, pk_mul, nI_add, nI_clamp (by omega)]
theorem upd_same {f : Nat → Int32} {k : Nat} {x : Int32} (h : x = f k) : upd f k x = f := by
  funext j
  simp only [z_upd]
  by_cases hj : j = k
  · rw [if_pos hj, h, hj]
  · rw [if_neg hj]
section P2
variable {SH : Int32 → Int32 → Int32 → Int32 → (Nat → Int32) → (Nat → Int32) → (Nat → Int32) → (Nat → Int32) → (Nat → Nat → Int32) → Prop}
variable {TA : Int32 → Int32 → Int32 → Int32 → (Nat → Int32) → (Nat → Int32) → (Nat → Int32) → (Nat → Int32) → Int32 → Int32 → (Nat → Int32) → Prop}
variable {FI : Int32 → Int32 → Int32 → Int32 → (Nat → Int32) → (Nat → Int32) → (Nat → Int32) → (Nat → Int32) → Int32 → (Nat → Int32) → Prop}
variable {KN : Int32 → Int32 → Int32 → Int32 → (Nat → Int32) → (Nat → Int32) → (Nat → Int32) → (Nat → Int32) → Int32 → Int32 → Int32 → (Nat → Int32) → (Nat → Int32) → (Nat → Int32) → Prop}
/-- an arc changes on both sides -/
theorem Inv.arc {c : Nat} {V A : zV} (hI : Inv SH TA FI KN c V A) {n i j : Nat} {x y : Int32} (hn : V 1 4 = nI n) (h9 : n ≤ 9) (hi : i < n) (hj : j < n) (hij : i ≠ j) (hxy : zcc x y) :
    (if A 3 (i * 9 + j) = 1000000000 then (-1000000) else A 3 (i * 9 + j)) = (if A 38 (9 * i + j) = 1000000 then (-1000000) else A 38 (9 * i + j)) ∧
    Inv SH TA FI KN (c + 1) (zv (zv (if x = A 3 (i * 9 + j) then V else zv V 1 8 (V 1 8 + 1)) 36 0 0) 36 13 0) (za (za A 3 (upd (A 3) (i * 9 + j) x)) 38 (upd (A 38) (9 * i + j) y)) := by
  obtain ⟨n', ch, hN, hR, hL, hC, hP, hA, hW, hX, hQ, hch, hT, hK⟩ := hI
  have hnn : n' = n := (nI_eq (by have := hN.1; omega) (by omega)).mp (hN.2.1.symm.trans hn)
  subst hnn
  have hz := hC.1 (i * 9 + j) (by omega)
  refine ⟨?_, ?_⟩
  · rw [show 9 * i + j = i * 9 + j by omega]
    exact zcc_was hz
  · by_cases hx : x = A 3 (i * 9 + j)
    · rw [if_pos hx, upd_same hx]
      have hC' := hC.up (a := i) (b := j) h9 hi hj hij hxy
      rw [upd_same hx] at hC'
      exact ⟨n', ch, hN, hR, hL, hC', hP, hA, hW, hX, hQ, ⟨hch.1, by omega⟩, hT, Or.inl rfl⟩
    · rw [if_neg hx]
      refine ⟨n', ch + 1, hN, hR, hL, hC.up h9 hi hj hij hxy, hP, hA, hW, hX, hQ, ⟨?_, by omega⟩, ⟨hT.1.up, hT.2.1.up, hT.2.2.up⟩, Or.inl rfl⟩
      show V 1 8 + 1 = nI (ch + 1)
      rw [hch.1, nI_succ]
theorem pr_arc (a b x : Int32) : Pair SH TA FI KN Y_CW_arc Y_Mo_arc 2 3 [.int a, .int b, .int x] := by
  intro c V A hc hI
  obtain ⟨n, ch, ⟨⟨h1, h9⟩, hn, hn'⟩, -⟩ := id hI
  refine CQ.mono (c_CW_arc V A a b x n hn h1 h9) (fun r V1 A1 h => ?_)
  rcases h with ⟨q, rfl, rfl, rfl⟩ | ⟨q, rfl, rfl, rfl⟩
  · refine CQ.mono (c_Mo_arc _ _ a b x n (by exact hn') h1 h9) (fun r' V2 A2 h2 => ?_)
    rcases h2 with ⟨q2, rfl, rfl, rfl⟩ | ⟨q2, rfl, rfl, rfl⟩
    · exact ⟨rfl, hI.thrown⟩
    · rw [hn] at q; exact absurd q2 q
  · refine CQ.mono (c_Mo_arc _ _ a b x n (by split <;> exact hn') h1 h9) (fun r' V2 A2 h2 => ?_)
    rw [hn] at q
    rcases h2 with ⟨q2, rfl, rfl, rfl⟩ | ⟨q2, rfl, rfl, rfl⟩
    · exact absurd q q2
    · obtain ⟨i, hi, rfl⟩ := z_nat q.1.1.1 q.1.1.2 (by omega)
      obtain ⟨j, hj, rfl⟩ := z_nat q.1.2.1.1 q.1.2.1.2 (by omega)
      rw [z_cc i j (by omega) (by omega), z_cc' i j (by omega) (by omega)]
      exact hI.arc hn h9 hi hj (fun h => q.1.2.2 (by rw [h])) (Or.inr ⟨rfl, q.2⟩)
theorem pr_lose (a b : Int32) : Pair SH TA FI KN Y_CW_lose Y_Mo_lose 2 3 [.int a, .int b] := by
  intro c V A hc hI
  obtain ⟨n, ch, ⟨⟨h1, h9⟩, hn, hn'⟩, -⟩ := id hI
  refine CQ.mono (c_CW_lose V A a b n hn h1 h9) (fun r V1 A1 h => ?_)
  rcases h with ⟨q, rfl, rfl, rfl⟩ | ⟨q, rfl, rfl, rfl⟩
  · refine CQ.mono (c_Mo_lose _ _ a b n (by exact hn') h1 h9) (fun r' V2 A2 h2 => ?_)
    rcases h2 with ⟨q2, rfl, rfl, rfl⟩ | ⟨q2, rfl, rfl, rfl⟩
    · exact ⟨rfl, hI.thrown⟩
    · rw [hn] at q; exact absurd q2 q
  · refine CQ.mono (c_Mo_lose _ _ a b n (by split <;> exact hn') h1 h9) (fun r' V2 A2 h2 => ?_)
    rw [hn] at q
    rcases h2 with ⟨q2, rfl, rfl, rfl⟩ | ⟨q2, rfl, rfl, rfl⟩
    · exact absurd q q2
    · obtain ⟨i, hi, rfl⟩ := z_nat q.1.1 q.1.2 (by omega)
      obtain ⟨j, hj, rfl⟩ := z_nat q.2.1.1 q.2.1.2 (by omega)
      rw [z_cc i j (by omega) (by omega), z_cc' i j (by omega) (by omega)]
      exact hI.arc hn h9 hi hj (fun h => q.2.2 (by rw [h])) (Or.inl ⟨rfl, rfl⟩)
theorem pr_price (v p : Int32) : Pair SH TA FI KN Y_CW_price Y_Mo_price 1 2 [.int v, .int p] := by
  intro c V A hc hI
  obtain ⟨n, ch, ⟨⟨h1, h9⟩, hn, hn'⟩, hR, hL, hC, hP, hA, hW, hX, hQ, hch, hT, hK⟩ := id hI
  refine CQ.mono (c_CW_price V A v p n hn h1 h9) (fun r V1 A1 h => ?_)
  rcases h with ⟨q, rfl, rfl, rfl⟩ | ⟨q, rfl, rfl, rfl⟩
  · refine CQ.mono (c_Mo_price _ _ v p n (by exact hn') h1 h9) (fun r' V2 A2 h2 => ?_)
    rcases h2 with ⟨q2, rfl, rfl, rfl⟩ | ⟨q2, rfl, rfl, rfl⟩
    · exact ⟨rfl, hI.thrown⟩
    · rw [hn] at q; exact absurd q2 q
  · refine CQ.mono (c_Mo_price _ _ v p n (by exact hn') h1 h9) (fun r' V2 A2 h2 => ?_)
    rw [hn] at q
    rcases h2 with ⟨q2, rfl, rfl, rfl⟩ | ⟨q2, rfl, rfl, rfl⟩
    · exact absurd q q2
    · obtain ⟨i, hi, rfl⟩ := z_nat (Int32.le_of_lt q.1.1) q.1.2 (by omega)
      rw [nI_clamp (by omega)]
      refine ⟨((hP i (by omega)).1).symm, n, ch + 1, ⟨⟨h1, h9⟩, hn, hn'⟩, hR, hL, hC, fun k hk => ?_, hA, hW, hX, hQ, ⟨?_, by omega⟩, ⟨hT.1.up, hT.2.1.up, hT.2.2.up⟩, Or.inl rfl⟩
      · show upd (A 39) i p k = upd (A 4) i p k ∧ (-1) ≤ upd (A 4) i p k ∧ upd (A 4) i p k ≤ 2000
        simp only [z_upd]
        by_cases hk2 : k = i
        · simp only [hk2, if_true]; exact ⟨trivial, q.2⟩
        · simp only [hk2, if_false]; exact hP k hk
      · show V 1 8 + 1 = nI (ch + 1)
        rw [hch.1, nI_succ]
theorem pr_weight (v w : Int32) : Pair SH TA FI KN Y_CW_weight Y_Mo_weight 1 2 [.int v, .int w] := by
  intro c V A hc hI
  obtain ⟨n, ch, ⟨⟨h1, h9⟩, hn, hn'⟩, hR, hL, hC, hP, hA, hW, hX, hQ, hch, hT, hK⟩ := id hI
  refine CQ.mono (c_CW_weight V A v w n hn h1 h9) (fun r V1 A1 h => ?_)
  rcases h with ⟨q, rfl, rfl, rfl⟩ | ⟨q, rfl, rfl, rfl⟩
  · refine CQ.mono (c_Mo_weight _ _ v w n (by exact hn') h1 h9) (fun r' V2 A2 h2 => ?_)
    rcases h2 with ⟨q2, rfl, rfl, rfl⟩ | ⟨q2, rfl, rfl, rfl⟩
    · exact ⟨rfl, hI.thrown⟩
    · rw [hn] at q; exact absurd q2 q
  · refine CQ.mono (c_Mo_weight _ _ v w n (by exact hn') h1 h9) (fun r' V2 A2 h2 => ?_)
    rw [hn] at q
    rcases h2 with ⟨q2, rfl, rfl, rfl⟩ | ⟨q2, rfl, rfl, rfl⟩
    · exact absurd q q2
    · obtain ⟨i, hi, rfl⟩ := z_nat q.1.1 q.1.2 (by omega)
      rw [nI_clamp (by omega)]
      refine ⟨((hW i (by omega)).1).symm, n, ch, ⟨⟨h1, h9⟩, hn, hn'⟩, hR, hL, hC, hP, hA, fun k hk => ?_, hX, hQ, ⟨hch.1, by omega⟩, hT, hK⟩
      show upd (A 41) i w k = upd (A 22) i w k ∧ (-1000) ≤ upd (A 22) i w k ∧ upd (A 22) i w k ≤ 1000
      simp only [z_upd]
      by_cases hk2 : k = i
      · simp only [hk2, if_true]; exact ⟨trivial, q.2⟩
      · simp only [hk2, if_false]; exact hW k hk
theorem pr_next (a b : Int32) : Pair SH TA FI KN Y_CW_next Y_Mo_next 1 2 [.int a, .int b] := by
  intro c V A hc hI
  obtain ⟨n, ch, ⟨⟨h1, h9⟩, hn, hn'⟩, hR, hL, hC, hP, hA, hW, hX, hQ, hch, hT, hK⟩ := id hI
  refine CQ.mono (c_CW_next V A a b n hn h1 h9) (fun r V1 A1 h => ?_)
  rcases h with ⟨q, rfl, rfl, rfl⟩ | ⟨q, rfl, rfl, rfl⟩
  · refine CQ.mono (c_Mo_next _ _ a b n (by exact hn') h1 h9) (fun r' V2 A2 h2 => ?_)
    rcases h2 with ⟨q2, rfl, rfl, rfl⟩ | ⟨q2, rfl, rfl, rfl⟩
    · exact ⟨rfl, hI.thrown⟩
    · rw [hn] at q; exact absurd q2 q
  · refine CQ.mono (c_Mo_next _ _ a b n (by exact hn') h1 h9) (fun r' V2 A2 h2 => ?_)
    rw [hn] at q
    rcases h2 with ⟨q2, rfl, rfl, rfl⟩ | ⟨q2, rfl, rfl, rfl⟩
    · exact absurd q q2
    · obtain ⟨i, hi, rfl⟩ := z_nat q.1.1 q.1.2 (by omega)
      rw [nI_clamp (by omega)]
      refine ⟨((hX i (by omega)).1).symm, n, ch, ⟨⟨h1, h9⟩, hn, hn'⟩, hR, hL, hC, hP, hA, hW, fun k hk => ?_, hQ, ⟨hch.1, by omega⟩, hT, hK⟩
      show upd (A 42) i b k = upd (A 29) i b k ∧ (upd (A 29) i b k = (-1) ∨ ∃ j, j < n ∧ upd (A 29) i b k = nI j)
      simp only [z_upd]
      by_cases hk2 : k = i
      · simp only [hk2, if_true]
        refine ⟨trivial, ?_⟩
        rcases q.2.2 with h | h
        · exact Or.inl h
        · obtain ⟨j, hj, rfl⟩ := z_nat h.1 h.2 (by omega)
          exact Or.inr ⟨j, hj, rfl⟩
      · simp only [hk2, if_false]; exact hX k hk
theorem pr_put (v : Int32) : Pair SH TA FI KN Y_CW_put Y_Mo_put 1 2 [.int v] := by
  intro c V A hc hI
  obtain ⟨n, ch, ⟨⟨h1, h9⟩, hn, hn'⟩, hR, hL, hC, hP, hA, hW, hX, hQ, hch, hT, hK⟩ := id hI
  obtain ⟨hQ1, s, hs, hs2, hs3⟩ := hQ
  have hst : (nI s).toInt = (s : Int) := nI_toInt (by omega)
  have hs0 : 0 ≤ V 33 3 := by rw [hs2]; exact nI_pos' (by omega)
  have hs20 : V 36 12 ≤ 20 := by rw [hQ1, hs2, z_le, hst, z_l20]; omega
  refine CQ.mono (c_CW_put V A v hs0 n hn h1 h9) (fun r V1 A1 h => ?_)
  rcases h with ⟨q, rfl, rfl, rfl⟩ | ⟨q, rfl, rfl, rfl⟩ | ⟨q, rfl, rfl, rfl⟩
  · refine CQ.mono (c_Mo_put _ _ v (by rw [hQ1]; exact hs0) hs20 n (by exact hn') h1 h9) (fun r' V2 A2 h2 => ?_)
    rw [hn] at q
    rcases h2 with ⟨q2, rfl, rfl, rfl⟩ | ⟨q2, rfl, rfl, rfl⟩ | ⟨q2, rfl, rfl, rfl⟩
    · exact ⟨rfl, hI.thrown⟩
    · exact absurd q2.1 q
    · exact absurd q2.1 q
  · refine CQ.mono (c_Mo_put _ _ v (by rw [hQ1]; exact hs0) hs20 n (by exact hn') h1 h9) (fun r' V2 A2 h2 => ?_)
    rw [hn] at q
    rcases h2 with ⟨q2, rfl, rfl, rfl⟩ | ⟨q2, rfl, rfl, rfl⟩ | ⟨q2, rfl, rfl, rfl⟩
    · exact absurd q.1 q2
    · exact ⟨rfl, hI.thrown⟩
    · have q3 := q.2
      have q4 := q2.2
      rw [hs2] at q3; rw [hQ1, hs2] at q4
      simp only [z_lt, z_eq, z_l20, hst] at q3 q4; omega
  · refine CQ.mono (c_Mo_put _ _ v (by exact (by rw [hQ1]; exact hs0 : 0 ≤ V 36 12)) (by exact hs20) n (by exact hn') h1 h9) (fun r' V2 A2 h2 => ?_)
    rw [hn] at q
    have q3 := q.2
    rw [hs2] at q3
    simp only [z_lt, z_l20, hst] at q3
    rcases h2 with ⟨q2, rfl, rfl, rfl⟩ | ⟨q2, rfl, rfl, rfl⟩ | ⟨q2, rfl, rfl, rfl⟩
    · exact absurd q.1 q2
    · have q4 : V 36 12 = 20 := q2.2
      rw [hQ1, hs2] at q4
      simp only [z_eq, z_l20, hst] at q4; omega
    · obtain ⟨i, hi, rfl⟩ := z_nat q.1.1 q.1.2 (by omega)
      refine ⟨?_, n, ch, ⟨⟨h1, h9⟩, hn, hn'⟩, hR, hL, hC, hP, hA, hW, hX, ⟨?_, s + 1, by omega, ?_, fun k hk => ?_⟩, ⟨hch.1, by omega⟩, hT, hK⟩
      · show V 33 3 + 1 = V 36 12 + 1
        rw [hQ1]
      · show V 36 12 + 1 = V 33 3 + 1
        rw [hQ1]
      · show V 33 3 + 1 = nI (s + 1)
        rw [hs2, nI_succ]
      · show upd (A 43) (V 36 12).toNatClampNeg (nI i) k = upd (A 34) (V 33 3).toNatClampNeg (nI i) k ∧ ∃ j, j < n ∧ upd (A 34) (V 33 3).toNatClampNeg (nI i) k = nI j
        rw [hQ1, hs2, nI_clamp (by omega)]
        simp only [z_upd]
        by_cases hk2 : k = s
        · simp only [hk2, if_true]; exact ⟨trivial, i, hi, rfl⟩
        · simp only [hk2, if_false]; exact hs3 k (by omega)
theorem pr_keep (v : Int32) : Pair SH TA FI KN Y_CW_keep Y_Mo_keep 1 1 [.int v] := by
  intro c V A hc hI
  obtain ⟨n, ch, hN, hR, hL, hC, hP, hA, hW, hX, hQ, hch, hT, hK⟩ := id hI
  obtain ⟨hQ1, s, hs, hs2, hs3⟩ := hQ
  have hst : (nI s).toInt = (s : Int) := nI_toInt (by omega)
  refine CQ.mono (c_CW_keep V A v) (fun r V1 A1 h => ?_)
  rcases h with ⟨q, rfl, rfl, rfl⟩ | ⟨q, rfl, rfl, rfl⟩
  · refine CQ.mono (c_Mo_keep _ _ v) (fun r' V2 A2 h2 => ?_)
    rcases h2 with ⟨q2, rfl, rfl, rfl⟩ | ⟨q2, rfl, rfl, rfl⟩
    · exact ⟨rfl, hI.thrown⟩
    · rw [hQ1] at q2; exact absurd q2 q
  · refine CQ.mono (c_Mo_keep _ _ v) (fun r' V2 A2 h2 => ?_)
    rcases h2 with ⟨q2, rfl, rfl, rfl⟩ | ⟨q2, rfl, rfl, rfl⟩
    · have q3 : ¬ (0 ≤ v ∧ v ≤ V 36 12) := q2
      rw [hQ1] at q3; exact absurd q q3
    · have hv : ∃ j, j ≤ s ∧ v = nI j := by
        have hs4 : (nI s).toInt = (s : Int) := hst
        rw [hs2] at q
        exact nI_of2 (M := nI s) hs4 (by simp only [z_lt, z_le, z_t0] at *; omega) q.2
      obtain ⟨j, hj, rfl⟩ := hv
      refine ⟨hQ1.symm, n, ch, hN, hR, hL, hC, hP, hA, hW, hX, ⟨rfl, j, by omega, rfl, fun k hk => hs3 k (by omega)⟩, ⟨hch.1, by omega⟩, hT, hK⟩
end P2
