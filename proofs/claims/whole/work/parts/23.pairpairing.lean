theorem z_add {x y : Int32} (h1 : -1000000000 ≤ x.toInt) (h2 : x.toInt ≤ 1000000000) (h3 : -1000000000 ≤ y.toInt) (h4 : y.toInt ≤ 1000000000) : (x + y).toInt = x.toInt + y.toInt := by
  rw [Int32.toInt_add]
  simp only [Int.bmod]
  split <;> omega
theorem z_lNO : (1000000000 : Int32).toInt = 1000000000 := rfl
theorem z_lFAR : (900000 : Int32).toInt = 900000 := rfl
theorem z_lNA : (1000000 : Int32).toInt = 1000000 := rfl
/-- the same least cost on both sides, within b -/
def zq (b : Int) (x y : Int32) : Prop := (x = 1000000000 ∧ y = 900000) ∨ (x = y ∧ -b ≤ x.toInt ∧ x.toInt ≤ b)
theorem zq_mono {b b' : Int} {x y : Int32} (h : zq b x y) (hb : b ≤ b') : zq b' x y := by
  rcases h with h | ⟨h1, h2, h3⟩
  · exact Or.inl h
  · exact Or.inr ⟨h1, by omega, by omega⟩
theorem zq_min {b : Int} {x y u v : Int32} (hb : b ≤ 100000) (h : zq b x y) (h2 : zq b u v) : zq b (zmin x u) (if v = 900000 then y else zmin y v) := by
  unfold zmin
  rcases h2 with ⟨rfl, rfl⟩ | ⟨rfl, a1, a2⟩
  · rw [if_pos rfl]
    rcases h with ⟨rfl, rfl⟩ | ⟨rfl, a1, a2⟩
    · exact Or.inl ⟨rfl, rfl⟩
    · rw [if_neg (by rw [z_lt, z_lNO]; omega)]; exact Or.inr ⟨rfl, a1, a2⟩
  · have hne : ¬ u = 900000 := fun q => by rw [q, z_lFAR] at a2; omega
    rw [if_neg hne]
    rcases h with ⟨rfl, rfl⟩ | ⟨rfl, b1, b2⟩
    · have g1 : u < 1000000000 := by rw [z_lt, z_lNO]; omega
      have g2 : u < 900000 := by rw [z_lt, z_lFAR]; omega
      rw [if_pos g1, if_pos g2]; exact Or.inr ⟨rfl, a1, a2⟩
    · by_cases hc : u < x
      · rw [if_pos hc]; exact Or.inr ⟨rfl, a1, a2⟩
      · rw [if_neg hc]; exact Or.inr ⟨rfl, b1, b2⟩
theorem zq_sum {b : Int} {x y u v : Int32} (hb0 : 0 ≤ b) (hb : b ≤ 90000) (h : zq b x y) (h2 : zcc u v) : zq (b + 1000) (zsum x u) (if v = 1000000 ∨ y = 900000 then 900000 else y + v) := by
  unfold zsum
  rcases h2 with ⟨rfl, rfl⟩ | ⟨rfl, a1, a2⟩
  · rw [if_pos (Or.inr rfl), if_pos (Or.inl rfl)]; exact Or.inl ⟨rfl, rfl⟩
  · rw [z_le, z_lm1000] at a1
    rw [z_le, z_l1000] at a2
    rcases h with ⟨rfl, rfl⟩ | ⟨rfl, b1, b2⟩
    · rw [if_pos (Or.inl rfl), if_pos (Or.inr rfl)]; exact Or.inl ⟨rfl, rfl⟩
    · have g1 : ¬ (x = 1000000000 ∨ u = 1000000000) := by
        intro q
        rcases q with q | q <;> (have := congrArg Int32.toInt q; rw [z_lNO] at this; omega)
      have g2 : ¬ (u = 1000000 ∨ x = 900000) := by
        intro q
        rcases q with q | q
        · have := congrArg Int32.toInt q; rw [z_lNA] at this; omega
        · have := congrArg Int32.toInt q; rw [z_lFAR] at this; omega
      rw [if_neg g1, if_neg g2]
      have := z_add (x := x) (y := u) (by omega) (by omega) (by omega) (by omega)
      exact Or.inr ⟨rfl, by omega, by omega⟩
theorem zf_rel {α β : Type} {R : α → β → Prop} {f : Nat → α → α} {g : Nat → β → β} {a : α} {b : β} {n : Nat} (h0 : R a b) (h : ∀ k x y, k < n → R x y → R (f k x) (g k y)) : R (zf f a n) (zf g b n) := by
  induction n with
  | zero => exact h0
  | succ n ih => rw [zf_s, zf_s]; exact h n _ _ (by omega) (ih (fun k x y hk => h k x y (by omega)))
theorem pp_rel {cs ar f g : Nat → Int32} {n : Nat} (h9 : n ≤ 9) (hC : IvC n cs ar) (hf : pcR cs f n (2 ^ n)) (hg : prR ar g n (2 ^ n)) (hp : 2 ^ n ≤ 512) : ∀ t, t < 2 ^ n → zq (1000 * (zpc t : Int)) (f t) (g t) := by
  intro t
  induction t using Nat.strongRecOn with
  | ind t ih =>
    intro ht
    by_cases h0 : t = 0
    · subst h0
      rw [hf.1, hg.1 ht]
      exact Or.inr ⟨rfl, by rw [z_t0]; omega, by rw [z_t0]; omega⟩
    · have hpop := z9_pop t (by omega)
      rw [hf.2 t (by omega) ht, hg.2 t (by omega) ht]
      refine zf_rel (R := zq (1000 * (zpc t : Int))) (Or.inl ⟨rfl, rfl⟩) (fun o x y ho hxy => ?_)
      by_cases hb : t.testBit o = true
      · obtain ⟨hlt, hz⟩ := z9_lt t (by omega) o (by omega) hb
        have hu := ih _ hlt (by omega)
        have hcc := hC.1 ((zpc t - 1) * 9 + o) (by omega)
        have e : 9 * (zpc t - 1) + o = (zpc t - 1) * 9 + o := by omega
        rw [if_pos hb, e]
        have hs := zq_sum (by omega) (by omega) hu hcc
        have hs := zq_min (by omega) hxy (zq_mono hs (b' := 1000 * (zpc t : Int)) (by omega))
        by_cases hd : zpc t - 1 = o
        · have hno := hC.2 (zpc t - 1) o (by omega) (by omega) (Or.inr (Or.inr hd))
          rw [if_neg (fun q => q.2.1 hd)]
          have hz2 : zsum (f (t &&& (511 ^^^ 2 ^ o))) (cs ((zpc t - 1) * 9 + o)) = 1000000000 := by rw [hno]; unfold zsum; rw [if_pos (Or.inr rfl)]
          rw [hz2]
          unfold zmin
          rcases hxy with ⟨rfl, rfl⟩ | ⟨rfl, a1, a2⟩
          · exact Or.inl ⟨rfl, rfl⟩
          · rw [if_neg (by rw [z_lt, z_lNO]; omega)]; exact Or.inr ⟨rfl, a1, a2⟩
        · by_cases hn : ar ((zpc t - 1) * 9 + o) = 1000000 ∨ g (t &&& (511 ^^^ 2 ^ o)) = 900000
          · rw [if_pos hn, if_pos rfl] at hs
            rw [if_neg (fun q => by rcases hn with w | w; exact q.2.2.1 w; exact q.2.2.2 w)]
            exact hs
          · rw [if_neg hn] at hs
            have hn' := not_or.mp hn
            rw [if_pos ⟨hb, hd, hn'.1, hn'.2⟩]
            rw [if_neg ?_] at hs
            · exact hs
            · intro q
              rcases hu with ⟨-, w⟩ | ⟨w, w1, w2⟩
              · exact hn'.2 w
              · rcases hcc with ⟨-, w'⟩ | ⟨w', w3, w4⟩
                · exact hn'.1 w'
                · rw [z_le, z_lm1000, w'] at w3
                  rw [z_le, z_l1000, w'] at w4
                  rw [w] at w1 w2
                  have := z_add (x := g (t &&& (511 ^^^ 2 ^ o))) (y := ar ((zpc t - 1) * 9 + o)) (by omega) (by omega) (by omega) (by omega)
                  rw [q, z_lFAR] at this; omega
      · rw [if_neg hb, if_neg (fun q => hb q.1)]
        exact hxy
theorem zq_told {b : Int} {x y : Int32} (hb : b ≤ 100000) (h : zq b x y) : (if x = 1000000000 then (-1000000 : Int32) else x) = (if y = 900000 then (-1000000) else y) := by
  rcases h with ⟨rfl, rfl⟩ | ⟨rfl, a1, a2⟩
  · rfl
  · rw [if_neg (fun q => by rw [q, z_lNO] at a2; omega), if_neg (fun q => by rw [q, z_lFAR] at a2; omega)]
section P5
variable {SH : Int32 → Int32 → Int32 → Int32 → (Nat → Int32) → (Nat → Int32) → (Nat → Int32) → (Nat → Int32) → (Nat → Nat → Int32) → Prop}
variable {TA : Int32 → Int32 → Int32 → Int32 → (Nat → Int32) → (Nat → Int32) → (Nat → Int32) → (Nat → Int32) → Int32 → Int32 → (Nat → Int32) → Prop}
variable {FI : Int32 → Int32 → Int32 → Int32 → (Nat → Int32) → (Nat → Int32) → (Nat → Int32) → (Nat → Int32) → Int32 → (Nat → Int32) → Prop}
variable {KN : Int32 → Int32 → Int32 → Int32 → (Nat → Int32) → (Nat → Int32) → (Nat → Int32) → (Nat → Int32) → Int32 → Int32 → Int32 → (Nat → Int32) → (Nat → Int32) → (Nat → Int32) → Prop}
theorem pr_pairing : Pair SH TA FI KN Y_CW_pairing Y_Mo_pairing 10 10 [] := by
  intro c V A hc hI
  obtain ⟨n, ch, ⟨⟨h1, h9⟩, hn, hn'⟩, hR, hL, hC, hP, hA, hW, hX, hQ, hch, hT, hK⟩ := id hI
  have hp2 : 2 ^ n ≤ 512 := by have := Nat.pow_le_pow_right (n := 2) (by omega) h9; simpa using this
  have hp1 : 2 ≤ 2 ^ n := by have := Nat.pow_le_pow_right (n := 2) (by omega) h1; simpa using this
  refine CQ.mono (c_CW_pairing V A n hn h1 h9) (fun r V1 A1 h => ?_)
  obtain ⟨f, rfl, hf, rfl, rfl⟩ := h
  refine CQ.mono (c_Mo_pairing _ _ n (by exact hn') h1 h9) (fun r' V2 A2 h => ?_)
  obtain ⟨g, rfl, hg, rfl, rfl⟩ := h
  have hz := pp_rel h9 hC hf hg hp2 (2 ^ n - 1) (by omega)
  have hb := z9_pop (2 ^ n - 1) (by omega)
  refine ⟨zq_told (b := 1000 * (zpc (2 ^ n - 1) : Int)) (by omega) hz, n, ch, ⟨⟨h1, h9⟩, hn, hn'⟩, hR, hL, hC, hP, hA, hW, hX, hQ, ⟨hch.1, by omega⟩, hT, hK⟩
end P5
