/-! the tree's pairs -/
section P8
variable {SH : Int32 → Int32 → Int32 → Int32 → (Nat → Int32) → (Nat → Int32) → (Nat → Int32) → (Nat → Int32) → (Nat → Nat → Int32) → Prop}
variable {TA : Int32 → Int32 → Int32 → Int32 → (Nat → Int32) → (Nat → Int32) → (Nat → Int32) → (Nat → Int32) → Int32 → Int32 → (Nat → Int32) → Prop}
variable {FI : Int32 → Int32 → Int32 → Int32 → (Nat → Int32) → (Nat → Int32) → (Nat → Int32) → (Nat → Int32) → Int32 → (Nat → Int32) → Prop}
variable {KN : Int32 → Int32 → Int32 → Int32 → (Nat → Int32) → (Nat → Int32) → (Nat → Int32) → (Nat → Int32) → Int32 → Int32 → Int32 → (Nat → Int32) → (Nat → Int32) → (Nat → Int32) → Prop}
/-- what the invariant reads -/
def zkV (k j : Nat) : Bool := (k == 1) || (k == 13 && j == 6) || (k == 16 && (j == 5 || j == 6 || j == 7)) || (k == 19 && (j == 4 || j == 5)) || (k == 33) || (k == 36 && (j == 1 || j == 6 || j == 7 || j == 8 || j == 12 || j == 13 || j == 14 || j == 15 || j == 19))
def zkA (k : Nat) : Bool := (1 < k && k < 6) || (6 < k && k < 13) || k == 14 || k == 15 || k == 17 || k == 20 || k == 22 || k == 29 || k == 34 || (36 < k && k < 47)
theorem zta_same {A A' : zV} (hA : ∀ k, zkA k = true → A' k = A k) : zta A' = zta A := by
  funext k
  unfold zta
  split <;> exact hA _ rfl
theorem Inv.same {c : Nat} {V A V' A' : zV} (hI : Inv SH TA FI KN c V A) (hV : ∀ k j, zkV k j = true → V' k j = V k j) (hA : ∀ k, zkA k = true → A' k = A k) : Inv SH TA FI KN (c + 1) V' A' := by
  obtain ⟨n, ch, ⟨h19, hn, hn'⟩, hR, hL, hC, hP, hAh, hW, hX, hQ, hch, hT, hK⟩ := hI
  refine ⟨n, ch, ⟨h19, ?_, ?_⟩, ?_, ?_, ?_, ?_, ?_, ?_, ?_, ?_, ⟨?_, by omega⟩, ?_, ?_⟩
  · rw [hV 1 4 rfl]; exact hn
  · rw [hV 36 1 rfl]; exact hn'
  · unfold IvR; rw [hV 36 6 rfl, hV 1 5 rfl, hV 36 7 rfl, hV 1 6 rfl, hV 36 8 rfl, hV 1 7 rfl]; exact hR
  · rw [hA 2 rfl, hA 37 rfl]; exact hL
  · rw [hA 3 rfl, hA 38 rfl]; exact hC
  · rw [hA 4 rfl, hA 39 rfl]; exact hP
  · rw [hA 5 rfl, hA 40 rfl]; exact hAh
  · rw [hA 22 rfl, hA 41 rfl]; exact hW
  · rw [hA 29 rfl, hA 42 rfl]; exact hX
  · rw [hV 33 3 rfl, hV 36 12 rfl, hA 34 rfl, hA 43 rfl]; exact hQ
  · rw [hV 1 8 rfl]; exact hch.1
  · unfold IvT
    rw [zta_same hA, hV 13 6 rfl, hV 1 4 rfl, hV 1 5 rfl, hV 1 6 rfl, hV 1 7 rfl, hA 2 rfl, hA 3 rfl, hA 4 rfl, hA 5 rfl, hV 16 5 rfl, hV 16 6 rfl, hV 16 7 rfl, hA 17 rfl, hV 19 5 rfl, hV 19 4 rfl, hA 20 rfl]
    exact hT
  · unfold IvK
    rw [hV 36 13 rfl, hV 36 1 rfl, hV 36 6 rfl, hV 36 7 rfl, hV 36 8 rfl, hA 37 rfl, hA 38 rfl, hA 39 rfl, hA 40 rfl, hV 36 14 rfl, hV 36 15 rfl, hV 36 19 rfl, hA 44 rfl, hA 45 rfl, hA 46 rfl]
    exact hK
theorem zkV_ne {k j : Nat} (h : zkV k j = true) : ¬ k = 21 ∧ ¬ (k = 36 ∧ j = 28) ∧ ¬ (k = 36 ∧ j = 0) := by
  refine ⟨fun q => ?_, fun q => ?_, fun q => ?_⟩
  · subst q; exact absurd h (by simp [zkV])
  · obtain ⟨rfl, rfl⟩ := q; exact absurd h (by decide)
  · obtain ⟨rfl, rfl⟩ := q; exact absurd h (by decide)
theorem zkA_ne {k : Nat} (h : zkA k = true) : ¬ (k = 23 ∨ k = 24 ∨ k = 25) ∧ ¬ (k = 48 ∨ k = 49 ∨ k = 50) := by
  refine ⟨fun q => ?_, fun q => ?_⟩
  · rcases q with rfl | rfl | rfl <;> exact absurd h (by decide)
  · rcases q with rfl | rfl | rfl <;> exact absurd h (by decide)
/-- the invariant behind the tree's two calls -/
theorem Inv.tree {c : Nat} {V A V1 A1 V2 A2 : zV} (hI : Inv SH TA FI KN c V A) (h1 : zTf V A V1 A1) (h2 : zRf (zv V1 36 0 0) A1 V2 A2) : Inv SH TA FI KN (c + 1) V2 A2 := by
  refine hI.same (fun k j h => ?_) (fun k h => ?_)
  · obtain ⟨e1, e2, e3⟩ := zkV_ne h
    rw [h2.1 k j e2, zv_eq, if_neg e3, h1.1 k j e1]
  · obtain ⟨e1, e2⟩ := zkA_ne h
    rw [h2.2 k e2, h1.2 k e1]
/-- both sides' edge costs -/
theorem ec_sides {n : Nat} {cs ar wt wt' : Nat → Int32} (h9 : n ≤ 9) (hC : IvC n cs ar) (hW : IvW wt wt') : (∀ a b, a < n → b < n → ECc cs wt a b = 1000000000 ∨ ECc cs wt a b < 1000000000) ∧ (∀ a b, a < n → b < n → (ECc cs wt a b = 1000000000 ↔ ECr ar wt' a b = 900000)) ∧ ∀ a b, a < n → b < n → ¬ ECc cs wt a b = 1000000000 → ECc cs wt a b = ECr ar wt' a b := by
  refine ⟨fun a b ha hb => ?_, fun a b ha hb => ?_, fun a b ha hb hne => ?_⟩
  · rcases ec_rel hC hW (a := a) (b := b) (by omega) (by omega) with h | h
    · exact Or.inl h.1
    · exact Or.inr (by rw [z_lt, z_lNO]; omega)
  · rcases ec_rel hC hW (a := a) (b := b) (by omega) (by omega) with h | h
    · exact ⟨fun _ => h.2, fun _ => h.1⟩
    · refine ⟨fun q => ?_, fun q => ?_⟩
      · rw [q, z_lNO] at h; omega
      · rw [← h.1] at q; rw [q, z_lFAR] at h; omega
  · rcases ec_rel hC hW (a := a) (b := b) (by omega) (by omega) with h | h
    · exact absurd h.1 hne
    · exact h.1
theorem zEs_same {c c' : Nat → Nat → Int32} {es : List (Nat × Nat)} (h : ∀ e ∈ es, c e.1 e.2 = c' e.1 e.2) : zEs c es = zEs c' es := by
  unfold zEs
  have key : ∀ (es : List (Nat × Nat)) (s : Int32), (∀ e ∈ es, c e.1 e.2 = c' e.1 e.2) → es.foldl (fun s e => s + c e.1 e.2) s = es.foldl (fun s e => s + c' e.1 e.2) s := by
    intro es
    induction es with
    | nil => intro s _; rfl
    | cons e es ih =>
      intro s h
      rw [List.foldl_cons, List.foldl_cons, h e (List.mem_cons_self ..)]
      exact ih _ (fun e' he => h e' (List.mem_cons_of_mem _ he))
  exact key es 0 h
theorem zf_sub2 (w : Nat → Int32) (s : Int32) (n : Nat) : zf (fun i s => s - 2 * w i) s n = s - 2 * zf (fun i a => a + w i) 0 n := by
  induction n with
  | zero => show s = s - 2 * 0; rw [Int32.mul_zero, Int32.sub_zero]
  | succ n ih =>
    rw [zf_s, zf_s, ih]
    generalize zf (fun i a => a + w i) 0 n = z
    rw [Int32.mul_add, Int32.sub_eq_add_neg, Int32.sub_eq_add_neg, Int32.sub_eq_add_neg, Int32.neg_add, Int32.sub_eq_add_neg, Int32.add_assoc]
theorem pr_bound : Pair SH TA FI KN Y_CW_bound Y_Mo_bound 10 10 [] := by
  intro c V A hc hI
  obtain ⟨n, ch, ⟨⟨h1, h9⟩, hn, hn'⟩, hR, hL, hC, hP, hA, hW, hX, hQ, hch, hT, hK⟩ := id hI
  obtain ⟨k1, k2, k3⟩ := ec_sides h9 hC hW
  refine CQ.mono (c_CW_bound V A n hn h1 h9 k1) (fun r V1 A1 h => ?_)
  obtain ⟨hF, h⟩ := h
  have e38 : A1 38 = A 38 := hF.2 38 (by omega)
  have e41 : A1 41 = A 41 := hF.2 41 (by omega)
  refine CQ.mono (c_Mo_bound _ _ n ((hF.1 36 1 (by omega)).trans hn') h1 h9) (fun r' V2 A2 h2 => ?_)
  obtain ⟨hF2, h2⟩ := h2
  refine ⟨?_, hI.tree hF hF2⟩
  rw [e38, e41] at h2
  rcases h with ⟨rfl, hno⟩ | ⟨es, ht, rfl⟩
  · rcases h2 with ⟨rfl, -⟩ | ⟨es', ht', -⟩
    · rfl
    · exact absurd (zTree_iff (fun a b ha hb => (k2 a b ha hb).symm) (fun a b ha hb q => (k3 a b ha hb (fun z => q ((k2 a b ha hb).mp z))).symm) ht') (hno es')
  · rcases h2 with ⟨-, hno⟩ | ⟨es', ht', rfl⟩
    · exact absurd (zTree_iff k2 k3 ht) (hno es)
    · have he := zTree_one k2 k3 ht ht'
      subst he
      have hm := zTree_mem ht
      rw [zf_sub2, zEs_same (fun e he => k3 e.1 e.2 (hm e he).1 (hm e he).2.1 (hm e he).2.2), zf_congr (f := fun i a => a + A 22 i) (g := fun i a => a + A 41 i) (fun k x hk => by rw [(hW k (by omega)).1])]
theorem pr_edge (u w : Int32) : Pair SH TA FI KN Y_CW_edge Y_Mo_edge 10 10 [.int u, .int w] := by
  intro c V A hc hI
  obtain ⟨n, ch, ⟨⟨h1, h9⟩, hn, hn'⟩, hR, hL, hC, hP, hA, hW, hX, hQ, hch, hT, hK⟩ := id hI
  obtain ⟨k1, k2, k3⟩ := ec_sides h9 hC hW
  refine CQ.mono (c_CW_edge V A u w n hn h1 h9 k1) (fun r V1 A1 h => ?_)
  obtain ⟨hF, h⟩ := h
  have e38 : A1 38 = A 38 := hF.2 38 (by omega)
  have e41 : A1 41 = A 41 := hF.2 41 (by omega)
  refine CQ.mono (c_Mo_edge _ _ u w n ((hF.1 36 1 (by omega)).trans hn') h1 h9) (fun r' V2 A2 h2 => ?_)
  obtain ⟨hF2, h2⟩ := h2
  refine ⟨?_, hI.tree hF hF2⟩
  rw [e38, e41] at h2
  rcases h with ⟨rfl, hno⟩ | ⟨es, ht, hr⟩
  · rcases h2 with ⟨rfl, -⟩ | ⟨es', ht', -⟩
    · rfl
    · exact absurd (zTree_iff (fun a b ha hb => (k2 a b ha hb).symm) (fun a b ha hb q => (k3 a b ha hb (fun z => q ((k2 a b ha hb).mp z))).symm) ht') (hno es')
  · rcases h2 with ⟨-, hno⟩ | ⟨es', ht', hr'⟩
    · exact absurd (zTree_iff k2 k3 ht) (hno es)
    · have he := zTree_one k2 k3 ht ht'
      subst he
      have hlen := zTree_len ht
      have hin : ∀ i e, es[i]? = some e → u = nI i → ∀ q : Prop, (w = 0 ∧ q) ∨ (w = 1 ∧ q) → 0 ≤ u ∧ u < nI es.length ∧ 0 ≤ w ∧ w ≤ 1 := by
        intro i e hi hu q hq
        have hil : i < es.length := by
          rcases Nat.lt_or_ge i es.length with z | z
          · exact z
          · rw [List.getElem?_eq_none z] at hi; exact absurd hi (by simp)
        rw [hu]
        refine ⟨nI_pos' (by omega), nI_lt hil (by omega), ?_⟩
        rcases hq with ⟨rfl, -⟩ | ⟨rfl, -⟩ <;> decide
      rcases hr with ⟨hb, rfl⟩ | ⟨i, e, hi, hu, hr⟩
      · rcases hr' with ⟨-, rfl⟩ | ⟨i, e, hi, hu, hr⟩
        · rfl
        · exact absurd (hin i e hi hu True (hr.imp (fun z => ⟨z.1, trivial⟩) (fun z => ⟨z.1, trivial⟩))) hb
      · rcases hr' with ⟨hb, -⟩ | ⟨i', e', hi', hu', hr'⟩
        · exact absurd (hin i e hi hu True (hr.imp (fun z => ⟨z.1, trivial⟩) (fun z => ⟨z.1, trivial⟩))) hb
        · have hii : i = i' := by
            have z1 : i < es.length := by
              rcases Nat.lt_or_ge i es.length with z | z
              · exact z
              · rw [List.getElem?_eq_none z] at hi; exact absurd hi (by simp)
            have z2 : i' < es.length := by
              rcases Nat.lt_or_ge i' es.length with z | z
              · exact z
              · rw [List.getElem?_eq_none z] at hi'; exact absurd hi' (by simp)
            exact (nI_eq (by omega) (by omega)).mp (hu.symm.trans hu')
          subst hii
          have hee : e = e' := Option.some.inj (hi.symm.trans hi')
          subst hee
          rcases hr with ⟨hw, rfl⟩ | ⟨hw, rfl⟩
          · rcases hr' with ⟨-, rfl⟩ | ⟨hw', -⟩
            · rfl
            · rw [hw] at hw'; exact absurd hw' (by decide)
          · rcases hr' with ⟨hw', -⟩ | ⟨-, rfl⟩
            · rw [hw] at hw'; exact absurd hw' (by decide)
            · rfl
theorem pr_degree (w : Int32) : Pair SH TA FI KN Y_CW_degree Y_Mo_degree 10 10 [.int w] := by
  intro c V A hc hI
  obtain ⟨n, ch, ⟨⟨h1, h9⟩, hn, hn'⟩, hR, hL, hC, hP, hA, hW, hX, hQ, hch, hT, hK⟩ := id hI
  obtain ⟨k1, k2, k3⟩ := ec_sides h9 hC hW
  refine CQ.mono (c_CW_degree V A w n hn h1 h9 k1) (fun r V1 A1 h => ?_)
  rcases h with ⟨q, rfl, rfl, rfl⟩ | ⟨q, hF, h⟩
  · refine CQ.mono (c_Mo_degree _ _ w n hn' h1 h9) (fun r' V2 A2 h2 => ?_)
    rcases h2 with ⟨-, rfl, rfl, rfl⟩ | ⟨q2, -⟩
    · exact ⟨rfl, hI.thrown⟩
    · rw [← hn] at q2; exact absurd q2 q
  · have e38 : A1 38 = A 38 := hF.2 38 (by omega)
    have e41 : A1 41 = A 41 := hF.2 41 (by omega)
    refine CQ.mono (c_Mo_degree _ _ w n ((hF.1 36 1 (by omega)).trans hn') h1 h9) (fun r' V2 A2 h2 => ?_)
    rcases h2 with ⟨q2, -⟩ | ⟨-, hF2, h2⟩
    · rw [hn] at q; exact absurd q q2
    refine ⟨?_, hI.tree hF hF2⟩
    rw [e38, e41] at h2
    rcases h with ⟨rfl, hno⟩ | ⟨es, ht, rfl⟩
    · rcases h2 with ⟨rfl, -⟩ | ⟨es', ht', -⟩
      · rfl
      · exact absurd (zTree_iff (fun a b ha hb => (k2 a b ha hb).symm) (fun a b ha hb q => (k3 a b ha hb (fun z => q ((k2 a b ha hb).mp z))).symm) ht') (hno es')
    · rcases h2 with ⟨-, hno⟩ | ⟨es', ht', rfl⟩
      · exact absurd (zTree_iff k2 k3 ht) (hno es)
      · have he := zTree_one k2 k3 ht ht'
        subst he
        rfl
end P8
