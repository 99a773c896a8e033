theorem z_bit1 : ∀ e, e < 256 → ∀ a, a < 8 → (nI e &&& ((1 : Int32) <<< ((nI (a + 1) - 1) &&& 31)) = 0 ↔ e.testBit a = false) := by decide +kernel
theorem z_bit2 : ∀ e, e < 256 → ∀ a, a < 8 → nI e ||| ((1 : Int32) <<< ((nI (a + 1) - 1) &&& 31)) = nI (e ||| 2 ^ a) ∧ e ||| 2 ^ a < 256 := by decide +kernel
theorem z_bit3 : ∀ e, e < 256 → ∀ a, a < 8 → nI e &&& (((1 : Int32) <<< ((nI (a + 1) - 1) &&& 31)) ^^^ (-1)) = nI (e &&& (255 ^^^ 2 ^ a)) ∧ e &&& (255 ^^^ 2 ^ a) < 256 := by decide +kernel
theorem z_bit4 : ∀ e, e < 256 → ∀ a, a < 8 → ∀ k, k < 8 → (e ||| 2 ^ a).testBit k = (decide (k = a) || e.testBit k) ∧ (e &&& (255 ^^^ 2 ^ a)).testBit k = (!decide (k = a) && e.testBit k) := by decide +kernel
section P3
variable {SH : Int32 → Int32 → Int32 → Int32 → (Nat → Int32) → (Nat → Int32) → (Nat → Int32) → (Nat → Int32) → (Nat → Nat → Int32) → Prop}
variable {TA : Int32 → Int32 → Int32 → Int32 → (Nat → Int32) → (Nat → Int32) → (Nat → Int32) → (Nat → Int32) → Int32 → Int32 → (Nat → Int32) → Prop}
variable {FI : Int32 → Int32 → Int32 → Int32 → (Nat → Int32) → (Nat → Int32) → (Nat → Int32) → (Nat → Int32) → Int32 → (Nat → Int32) → Prop}
variable {KN : Int32 → Int32 → Int32 → Int32 → (Nat → Int32) → (Nat → Int32) → (Nat → Int32) → (Nat → Int32) → Int32 → Int32 → Int32 → (Nat → Int32) → (Nat → Int32) → (Nat → Int32) → Prop}
theorem IvA.up {n : Nat} {f g : Nat → Int32} {a b : Nat} {on x : Int32} (h : IvA n f g) (h9 : n ≤ 9) (ha : a + 1 < n) (hb : b < n) (hb0 : b ≠ 0) (hab : a + 1 ≠ b) (hon : on = 0 ∨ on = 1) (hx : x = on) :
    (if f b &&& ((1 : Int32) <<< ((nI (a + 1) - 1) &&& 31)) = 0 then (0 : Int32) else 1) = (if g (9 * (a + 1) + b) = 0 then 0 else 1) ∧
    IvA n (upd f b (if on = 0 then f b &&& (((1 : Int32) <<< ((nI (a + 1) - 1) &&& 31)) ^^^ (-1)) else f b ||| ((1 : Int32) <<< ((nI (a + 1) - 1) &&& 31)))) (upd g (9 * (a + 1) + b) x) := by
  subst hx
  obtain ⟨e, he, hfe, hg, hz⟩ := h.1 b (by omega)
  have h1 := z_bit1 e he a (by omega)
  refine ⟨?_, ⟨fun b' hb' => ?_, fun b' hb' => ?_⟩⟩
  · rw [hfe, hg a (by omega)]
    by_cases ht : e.testBit a = true
    · rw [if_neg (fun q => by have := h1.mp q; rw [ht] at this; cases this), ht]; rfl
    · have ht' : e.testBit a = false := by simpa using ht
      rw [if_pos (h1.mpr ht'), ht']; rfl
  · by_cases hbb : b' = b
    · subst hbb
      rcases hon with rfl | rfl
      · obtain ⟨e1, e2⟩ := z_bit3 e he a (by omega)
        refine ⟨e &&& (255 ^^^ 2 ^ a), e2, ?_, fun k hk => ?_, fun k hk hkz => ?_⟩
        · simp only [z_upd, if_true]; rw [hfe]; exact e1
        · rw [(z_bit4 e he a (by omega) k hk).2]
          simp only [z_upd]
          by_cases hka : k = a
          · subst hka; simp
          · rw [if_neg (by omega), hg k hk]; simp [hka]
        · rw [(z_bit4 e he a (by omega) k hk).2, hz k hk hkz]; simp
      · obtain ⟨e1, e2⟩ := z_bit2 e he a (by omega)
        refine ⟨e ||| 2 ^ a, e2, ?_, fun k hk => ?_, fun k hk hkz => ?_⟩
        · simp only [z_upd, if_true]; rw [hfe, if_neg (by decide)]; exact e1
        · rw [(z_bit4 e he a (by omega) k hk).1]
          simp only [z_upd]
          by_cases hka : k = a
          · subst hka; simp
          · rw [if_neg (by omega), hg k hk]; simp [hka]
        · rw [(z_bit4 e he a (by omega) k hk).1, hz k hk hkz]
          have : k ≠ a := by omega
          simp [this]
    · obtain ⟨e', he', hfe', hg', hz'⟩ := h.1 b' hb'
      refine ⟨e', he', ?_, fun k hk => ?_, hz'⟩
      · simp only [z_upd]; rw [if_neg hbb]; exact hfe'
      · simp only [z_upd]; rw [if_neg (by omega)]; exact hg' k hk
  · simp only [z_upd]; rw [if_neg (by omega)]; exact h.2 b' hb'
theorem pr_ahead (a b on : Int32) (hon : on = 0 ∨ on = 1) : Pair SH TA FI KN Y_CW_ahead Y_Mo_ahead 2 3 [.int a, .int b, .int on] := by
  intro c V A hc hI
  obtain ⟨n, ch, ⟨⟨h1, h9⟩, hn, hn'⟩, hR, hL, hC, hP, hA, hW, hX, hQ, hch, hT, hK⟩ := id hI
  refine CQ.mono (c_CW_ahead V A a b on n hn h1 h9) (fun r V1 A1 h => ?_)
  rcases h with ⟨q, rfl, rfl, rfl⟩ | ⟨q, rfl, rfl, rfl⟩
  · refine CQ.mono (c_Mo_ahead _ _ a b on n (by exact hn') h1 h9) (fun r' V2 A2 h2 => ?_)
    rcases h2 with ⟨q2, rfl, rfl, rfl⟩ | ⟨q2, rfl, rfl, rfl⟩
    · exact ⟨rfl, hI.thrown⟩
    · rw [hn] at q; exact absurd q2 q
  · refine CQ.mono (c_Mo_ahead _ _ a b on n (by exact hn') h1 h9) (fun r' V2 A2 h2 => ?_)
    rw [hn] at q
    rcases h2 with ⟨q2, rfl, rfl, rfl⟩ | ⟨q2, rfl, rfl, rfl⟩
    · exact absurd q q2
    · obtain ⟨i, hi, rfl⟩ := z_nat q.1.1.1 q.1.1.2 (by omega)
      obtain ⟨j, hj, rfl⟩ := z_nat q.1.2.1.1 q.1.2.1.2 (by omega)
      have hi0 : i ≠ 0 := fun h => q.2.1 (by rw [h]; rfl)
      have hj0 : j ≠ 0 := fun h => q.2.2 (by rw [h]; rfl)
      have hij : i ≠ j := fun h => q.1.2.2 (by rw [h])
      obtain ⟨k, rfl⟩ : ∃ k, i = k + 1 := ⟨i - 1, by omega⟩
      have hup := hA.up (on := on) (x := vp_nar .boolean on) h9 hi hj hj0 hij hon (by rcases hon with rfl | rfl <;> rfl)
      rw [z_cc' (k + 1) j (by omega) (by omega), nI_clamp (n := j) (by omega)]
      refine ⟨hup.1, n, ch + 1, ⟨⟨h1, h9⟩, hn, hn'⟩, hR, hL, hC, hP, hup.2, hW, hX, hQ, ⟨?_, by omega⟩, ⟨hT.1.up, hT.2.1.up, hT.2.2.up⟩, Or.inl rfl⟩
      show V 1 8 + 1 = nI (ch + 1)
      rw [hch.1, nI_succ]
theorem pr_rule0 (v : Int32) : Pair SH TA FI KN Y_CW_rule Y_Mo_rule 1 1 [.int 0, .int v] := by
  intro c V A hc hI
  obtain ⟨n, ch, hN, hR, hL, hC, hP, hA, hW, hX, hQ, hch, hT, hK⟩ := id hI
  refine CQ.mono (c_CW_rule0 V A v) (fun r V1 A1 h => ?_)
  rcases h with ⟨q, rfl, rfl, rfl⟩ | ⟨q, rfl, rfl, rfl⟩
  · refine CQ.mono (c_Mo_rule0 _ _ v) (fun r' V2 A2 h2 => ?_)
    rcases h2 with ⟨q2, rfl, rfl, rfl⟩ | ⟨q2, rfl, rfl, rfl⟩
    · exact ⟨rfl, hI.thrown⟩
    · exact absurd q2 q
  · refine CQ.mono (c_Mo_rule0 _ _ v) (fun r' V2 A2 h2 => ?_)
    rcases h2 with ⟨q2, rfl, rfl, rfl⟩ | ⟨q2, rfl, rfl, rfl⟩
    · exact absurd q q2
    · refine ⟨hR.1.1.symm, n, ch + 1, hN, ⟨⟨rfl, hR.1.2.1, hR.1.2.2⟩, q, hR.2.2⟩, hL, hC, hP, hA, hW, hX, hQ, ⟨?_, by omega⟩, ⟨hT.1.up, hT.2.1.up, hT.2.2.up⟩, Or.inl rfl⟩
      show V 1 8 + 1 = nI (ch + 1)
      rw [hch.1, nI_succ]
theorem pr_rule1 (v : Int32) : Pair SH TA FI KN Y_CW_rule Y_Mo_rule 1 1 [.int 1, .int v] := by
  intro c V A hc hI
  obtain ⟨n, ch, hN, hR, hL, hC, hP, hA, hW, hX, hQ, hch, hT, hK⟩ := id hI
  refine CQ.mono (c_CW_rule1 V A v) (fun r V1 A1 h => ?_)
  rcases h with ⟨q, rfl, rfl, rfl⟩ | ⟨q, rfl, rfl, rfl⟩
  · refine CQ.mono (c_Mo_rule1 _ _ v) (fun r' V2 A2 h2 => ?_)
    rcases h2 with ⟨q2, rfl, rfl, rfl⟩ | ⟨q2, rfl, rfl, rfl⟩
    · exact ⟨rfl, hI.thrown⟩
    · exact absurd q2 q
  · refine CQ.mono (c_Mo_rule1 _ _ v) (fun r' V2 A2 h2 => ?_)
    rcases h2 with ⟨q2, rfl, rfl, rfl⟩ | ⟨q2, rfl, rfl, rfl⟩
    · exact absurd q q2
    · refine ⟨hR.1.2.1.symm, n, ch + 1, hN, ⟨⟨hR.1.1, rfl, hR.1.2.2⟩, hR.2.1, q, hR.2.2.2⟩, hL, hC, hP, hA, hW, hX, hQ, ⟨?_, by omega⟩, ⟨hT.1.up, hT.2.1.up, hT.2.2.up⟩, Or.inl rfl⟩
      show V 1 8 + 1 = nI (ch + 1)
      rw [hch.1, nI_succ]
theorem pr_rule2 (v : Int32) : Pair SH TA FI KN Y_CW_rule Y_Mo_rule 1 1 [.int 2, .int v] := by
  intro c V A hc hI
  obtain ⟨n, ch, hN, hR, hL, hC, hP, hA, hW, hX, hQ, hch, hT, hK⟩ := id hI
  refine CQ.mono (c_CW_rule2 V A v) (fun r V1 A1 h => ?_)
  rcases h with ⟨q, rfl, rfl, rfl⟩ | ⟨q, rfl, rfl, rfl⟩
  · refine CQ.mono (c_Mo_rule2 _ _ v) (fun r' V2 A2 h2 => ?_)
    rcases h2 with ⟨q2, rfl, rfl, rfl⟩ | ⟨q2, rfl, rfl, rfl⟩
    · exact ⟨rfl, hI.thrown⟩
    · exact absurd q2 q
  · refine CQ.mono (c_Mo_rule2 _ _ v) (fun r' V2 A2 h2 => ?_)
    rcases h2 with ⟨q2, rfl, rfl, rfl⟩ | ⟨q2, rfl, rfl, rfl⟩
    · exact absurd q q2
    · refine ⟨hR.1.2.2.symm, n, ch + 1, hN, ⟨⟨hR.1.1, hR.1.2.1, rfl⟩, hR.2.1, hR.2.2.1, q⟩, hL, hC, hP, hA, hW, hX, hQ, ⟨?_, by omega⟩, ⟨hT.1.up, hT.2.1.up, hT.2.2.up⟩, Or.inl rfl⟩
      show V 1 8 + 1 = nI (ch + 1)
      rw [hch.1, nI_succ]
theorem pr_rule (w v : Int32) : Pair SH TA FI KN Y_CW_rule Y_Mo_rule 1 1 [.int w, .int v] := by
  by_cases h0 : w = 0
  · subst h0; exact pr_rule0 v
  by_cases h1 : w = 1
  · subst h1; exact pr_rule1 v
  by_cases h2 : w = 2
  · subst h2; exact pr_rule2 v
  intro c V A hc hI
  have hw : w.toInt < 0 ∨ 2 < w.toInt := by
    simp only [z_eq, z_t0, z_t1, z_l2] at h0 h1 h2; omega
  refine CQ.mono (c_CW_rulex V A w v hw) (fun r V1 A1 h => ?_)
  obtain ⟨rfl, rfl, rfl⟩ := h
  refine CQ.mono (c_Mo_rulex _ _ w v h0 h1 h2) (fun r' V2 A2 h => ?_)
  obtain ⟨rfl, rfl, rfl⟩ := h
  exact ⟨rfl, hI.thrown⟩
end P3
