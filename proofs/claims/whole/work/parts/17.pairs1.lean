theorem IvS.up {ch : Nat} {s : Int32} {G G' : Prop} (h : IvS ch s G) : IvS (ch + 1) s G' := by
  rcases h with h | ⟨q, h1, h2, -⟩
  · exact Or.inl h
  · exact Or.inr ⟨q, by omega, h2, fun h => by omega⟩
section P1
variable {SH : Int32 → Int32 → Int32 → Int32 → (Nat → Int32) → (Nat → Int32) → (Nat → Int32) → (Nat → Int32) → (Nat → Nat → Int32) → Prop}
variable {TA : Int32 → Int32 → Int32 → Int32 → (Nat → Int32) → (Nat → Int32) → (Nat → Int32) → (Nat → Int32) → Int32 → Int32 → (Nat → Int32) → Prop}
variable {FI : Int32 → Int32 → Int32 → Int32 → (Nat → Int32) → (Nat → Int32) → (Nat → Int32) → (Nat → Int32) → Int32 → (Nat → Int32) → Prop}
variable {KN : Int32 → Int32 → Int32 → Int32 → (Nat → Int32) → (Nat → Int32) → (Nat → Int32) → (Nat → Int32) → Int32 → Int32 → Int32 → (Nat → Int32) → (Nat → Int32) → (Nat → Int32) → Prop}
theorem IvS0.up {ch : Nat} {s z : Int32} {G G' : Prop} (h : IvS0 ch s z G) : IvS0 (ch + 1) s z G' := ⟨h.1, h.2.up⟩
theorem Inv.thrown {c : Nat} {V A : zV} (h : Inv SH TA FI KN c V A) : Inv SH TA FI KN (c + 1) (zv V 36 0 0) A := by
  obtain ⟨n, ch, hN, hR, hL, hC, hP, hA, hW, hX, hQ, hch, hT, hK⟩ := h
  exact ⟨n, ch, hN, hR, hL, hC, hP, hA, hW, hX, hQ, ⟨hch.1, by omega⟩, hT, hK⟩
theorem z_upd {f : Nat → Int32} {k : Nat} {x : Int32} {j : Nat} : upd f k x j = if j = k then x else f j := rfl
theorem pr_node (x : Int32) : Pair SH TA FI KN Y_CW_node Y_Mo_node 1 1 [.int x] := by
  intro c V A hc hI
  have hI0 := hI
  obtain ⟨n, ch, hN, hR, hL, hC, hP, hA, hW, hX, hQ, hch, hT, hK⟩ := hI
  obtain ⟨⟨h1, h9⟩, hn, hn'⟩ := hN
  have hni : (nI n).toInt = (n : Int) := nI_toInt (by omega)
  refine (c_CW_node V A x n hn h1 h9).mono (fun r V1 A1 h => ?_)
  rcases h with ⟨q, rfl, rfl, rfl⟩ | ⟨q, rfl, rfl, rfl⟩ | ⟨q, rfl, rfl, rfl⟩
  · refine CQ.mono (c_Mo_node _ _ x n (by exact hn') h1 h9) (fun r' V2 A2 h2 => ?_)
    rcases h2 with ⟨q2, rfl, rfl, rfl⟩ | ⟨q2, rfl, rfl, rfl⟩ | ⟨q2, rfl, rfl, rfl⟩
    · exact ⟨rfl, hI0.thrown⟩
    · exact absurd q2.1 q
    · exact absurd q2.1 q
  · refine CQ.mono (c_Mo_node _ _ x n (by exact hn') h1 h9) (fun r' V2 A2 h2 => ?_)
    rcases h2 with ⟨q2, rfl, rfl, rfl⟩ | ⟨q2, rfl, rfl, rfl⟩ | ⟨q2, rfl, rfl, rfl⟩
    · exact absurd q.1 q2
    · exact ⟨rfl, hI0.thrown⟩
    · rw [hn'] at q2; rw [hn] at q
      simp only [z_lt, z_le, z_eq, z_t0, z_t1, z_l100, z_l9] at *; omega
  · refine CQ.mono (c_Mo_node _ _ x n (by exact hn') h1 h9) (fun r' V2 A2 h2 => ?_)
    rcases h2 with ⟨q2, rfl, rfl, rfl⟩ | ⟨q2, rfl, rfl, rfl⟩ | ⟨q2, rfl, rfl, rfl⟩
    · exact absurd q.1 q2
    · have q3 : V 36 1 = 9 := q2.2
      rw [hn'] at q3; rw [hn] at q
      simp only [z_lt, z_le, z_eq, z_t0, z_t1, z_l100, z_l9] at *; omega
    · have hlt : n < 9 := by
        have q3 := q.2
        rw [hn] at q3
        simp only [z_lt, z_l9] at q3; omega
      have hcl : (nI n).toNatClampNeg = n := nI_clamp (by omega)
      refine ⟨?_, n + 1, ch + 1, ⟨⟨by omega, by omega⟩, ?_, ?_⟩, hR, ?_, ⟨hC.1, fun i j hi hj h => hC.2 i j hi hj (by omega)⟩, hP, ⟨fun b hb => ?_, hA.2⟩, hW, fun i hi => ⟨(hX i hi).1, ?_⟩, ⟨hQ.1, ?_⟩, ⟨?_, by omega⟩, ⟨hT.1.up, hT.2.1.up, hT.2.2.up⟩, Or.inl rfl⟩
      · show V 1 4 = V 36 1 + 1 - 1
        rw [hn, hn', Int32.add_sub_cancel]
      · show V 1 4 + 1 = nI (n + 1)
        rw [hn, nI_succ]
      · show V 36 1 + 1 = nI (n + 1)
        rw [hn', nI_succ]
      · intro i hi
        show upd (A 37) (V 36 1).toNatClampNeg x i = upd (A 2) (V 1 4).toNatClampNeg x i ∧ 0 ≤ upd (A 2) (V 1 4).toNatClampNeg x i ∧ upd (A 2) (V 1 4).toNatClampNeg x i ≤ 100
        rw [hn, hn', hcl]
        simp only [z_upd]
        by_cases hin : i = n
        · simp only [hin, if_true]
          exact ⟨trivial, q.1⟩
        · simp only [hin, if_false]
          exact hL i hi
      · obtain ⟨e, h1', h2', h3', h4'⟩ := hA.1 b hb
        exact ⟨e, h1', h2', h3', fun a ha h => h4' a ha (by omega)⟩
      · rcases (hX i hi).2 with h | ⟨j, h, h'⟩
        · exact Or.inl h
        · exact Or.inr ⟨j, by omega, h'⟩
      · obtain ⟨q0, h1', h2', h3'⟩ := hQ.2
        exact ⟨q0, h1', h2', fun i hi => ⟨(h3' i hi).1, by obtain ⟨j, h, h'⟩ := (h3' i hi).2; exact ⟨j, by omega, h'⟩⟩⟩
      · show V 1 8 + 1 = nI (ch + 1)
        rw [hch.1, nI_succ]
end P1
