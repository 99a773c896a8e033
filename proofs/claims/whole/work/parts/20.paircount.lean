/-- sums of numbers -/
def sN (f : Nat → Nat) (n : Nat) : Nat := zf (fun i a => a + f i) 0 n
theorem sN_s (f : Nat → Nat) (n : Nat) : sN f (n + 1) = sN f n + f n := rfl
theorem sN_congr {f g : Nat → Nat} {n : Nat} (h : ∀ i, i < n → f i = g i) : sN f n = sN g n := by
  induction n with
  | zero => rfl
  | succ n ih => rw [sN_s, sN_s, ih (fun i hi => h i (by omega)), h n (by omega)]
theorem sN_add (f g : Nat → Nat) (n : Nat) : sN (fun i => f i + g i) n = sN f n + sN g n := by
  induction n with
  | zero => rfl
  | succ n ih => rw [sN_s, sN_s, sN_s, ih]; omega
theorem sN_0 (n : Nat) : sN (fun _ => 0) n = 0 := by
  induction n with
  | zero => rfl
  | succ n ih => rw [sN_s, ih]
theorem sN_swap (f : Nat → Nat → Nat) (m n : Nat) : sN (fun i => sN (fun j => f i j) n) m = sN (fun j => sN (fun i => f i j) m) n := by
  induction m with
  | zero => simp only [sN, zf]; rw [show zf (fun i a => a + 0) 0 n = sN (fun _ => 0) n from rfl, sN_0]
  | succ m ih => rw [sN_s, ih, ← sN_add]; rfl
theorem sN_app (f : Nat → Nat) (m n : Nat) : sN f (m + n) = sN f m + sN (fun i => f (m + i)) n := by
  induction n with
  | zero => rfl
  | succ n ih => rw [show m + (n + 1) = (m + n) + 1 by omega, sN_s, sN_s, ih]; omega
theorem sN_block (f : Nat → Nat) (k m : Nat) : sN f (m * k) = sN (fun i => sN (fun j => f (i * k + j)) k) m := by
  induction m with
  | zero => rw [Nat.zero_mul]; rfl
  | succ m ih => rw [Nat.succ_mul, sN_app, ih, sN_s]
theorem sN_head (f : Nat → Nat) (n : Nat) : sN f (n + 1) = f 0 + sN (fun i => f (i + 1)) n := by
  rw [show n + 1 = 1 + n by omega, sN_app]
  have : sN f 1 = f 0 := by simp [sN, zf]
  rw [this]
  congr 1
  exact sN_congr (fun i _ => by rw [Nat.add_comm])
theorem sN_le {f : Nat → Nat} {n b : Nat} (h : ∀ i, i < n → f i ≤ b) : sN f n ≤ n * b := by
  induction n with
  | zero => exact Nat.zero_le _
  | succ n ih => rw [sN_s, Nat.succ_mul]; have := ih (fun i hi => h i (by omega)); have := h n (by omega); omega
/-- counting with ints -/
theorem zf_cnt (p : Nat → Prop) (dp : ∀ i, Decidable (p i)) (n : Nat) : zf (fun i a => if p i then a else a + 1) (0 : Int32) n = nI (sN (fun i => if p i then 0 else 1) n) := by
  induction n with
  | zero => rfl
  | succ n ih =>
    rw [zf_s, sN_s, ih]
    by_cases h : p n
    · simp [h]
    · simp [h, nI_succ]
def zpop (e : Nat) : Nat := sN (fun a => if e.testBit a = true then 1 else 0) 8
theorem zbc_pop : ∀ e, e < 256 → zbc (nI e) = nI (zpop e) := by decide +kernel
theorem zf_pop (f : Nat → Int32) (g : Nat → Nat) (n : Nat) (h : ∀ i, i < n → zbc (f i) = nI (g i)) : zf (fun i a => a + zbc (f i)) (0 : Int32) n = nI (sN g n) := by
  induction n with
  | zero => rfl
  | succ n ih => rw [zf_s, sN_s, ih (fun i hi => h i (by omega)), h n (by omega), nI_add]
theorem IvA.count {n : Nat} {f g : Nat → Int32} (h : IvA n f g) (h1 : 1 ≤ n) (h9 : n ≤ 9) : zf (fun i a => a + zbc (f (i + 1))) (0 : Int32) (n - 1) = zf (fun i a => if g i = 0 then a else a + 1) 0 81 := by
  rw [zf_cnt (fun i => g i = 0) (fun _ => inferInstance)]
  -- the bits, by b and a
  have hb : ∀ b, ∃ e, b < 9 → e < 256 ∧ f b = nI e ∧ (∀ a, a < 8 → g (9 * (a + 1) + b) = (if e.testBit a = true then 1 else 0)) ∧ ∀ a, a < 8 → (n ≤ a + 1 ∨ n ≤ b ∨ b = 0 ∨ a + 1 = b) → e.testBit a = false := by
    intro b
    by_cases hb : b < 9
    · obtain ⟨e, q⟩ := h.1 b hb
      exact ⟨e, fun _ => q⟩
    · exact ⟨0, fun q => absurd q hb⟩
  obtain ⟨E, hE⟩ := Classical.axiomOfChoice hb
  rw [zf_pop (fun i => f (i + 1)) (fun i => zpop (E (i + 1))) (n - 1) (fun i hi => by rw [(hE (i + 1) (by omega)).2.1]; exact zbc_pop _ (hE (i + 1) (by omega)).1)]
  congr 1
  -- the right side by rows
  rw [show (81 : Nat) = 9 * 9 from rfl, sN_block, sN_head]
  have e0 : sN (fun j => if g (0 * 9 + j) = 0 then 0 else 1) 9 = 0 := by
    refine (sN_congr (g := fun _ => 0) (fun j hj => ?_)).trans (sN_0 9)
    rw [Nat.zero_mul, Nat.zero_add, if_pos (h.2 j hj)]
  rw [e0, Nat.zero_add, sN_swap]
  have e1 : sN (fun j => sN (fun i => if g ((i + 1) * 9 + j) = 0 then 0 else 1) 8) 9 = sN (fun j => zpop (E j)) 9 := by
    refine sN_congr (fun j hj => sN_congr (fun i hi => ?_))
    have := (hE j hj).2.2.1 i hi
    rw [show (i + 1) * 9 + j = 9 * (i + 1) + j by omega, this]
    by_cases ht : (E j).testBit i = true
    · simp [ht]
    · simp [ht]
  rw [e1, sN_head]
  have z0 : ∀ b, b < 9 → (b = 0 ∨ n ≤ b) → zpop (E b) = 0 := by
    intro b hb hz
    refine (sN_congr (g := fun _ => 0) (fun a ha => ?_)).trans (sN_0 8)
    rw [(hE b hb).2.2.2 a ha (by omega)]; rfl
  rw [z0 0 (by omega) (Or.inl rfl), Nat.zero_add]
  obtain ⟨m, hm⟩ : ∃ m, 8 = (n - 1) + m := ⟨8 - (n - 1), by omega⟩
  rw [hm, sN_app]
  have e2 : sN (fun i => zpop (E (n - 1 + i + 1))) m = 0 := by
    exact (sN_congr (g := fun _ => 0) (fun i hi => z0 _ (by omega) (Or.inr (by omega)))).trans (sN_0 m)
  rw [e2]; rfl
theorem IvC.count {n : Nat} {f g : Nat → Int32} (h : IvC n f g) : zf (fun i a => if f i = 1000000000 then a else a + 1) (0 : Int32) 81 = zf (fun i a => if g i = 1000000 then a else a + 1) 0 81 := by
  refine zf_congr (fun k x hk => ?_)
  rcases h.1 k hk with ⟨h1, h2⟩ | ⟨h1, h2, h3⟩
  · rw [h1, h2]; rfl
  · rw [if_neg (fun q => by rw [q] at h3; exact absurd h3 (by decide)), if_neg (fun q => by rw [h1, q] at h3; exact absurd h3 (by decide))]
section P4
variable {SH : Int32 → Int32 → Int32 → Int32 → (Nat → Int32) → (Nat → Int32) → (Nat → Int32) → (Nat → Int32) → (Nat → Nat → Int32) → Prop}
variable {TA : Int32 → Int32 → Int32 → Int32 → (Nat → Int32) → (Nat → Int32) → (Nat → Int32) → (Nat → Int32) → Int32 → Int32 → (Nat → Int32) → Prop}
variable {FI : Int32 → Int32 → Int32 → Int32 → (Nat → Int32) → (Nat → Int32) → (Nat → Int32) → (Nat → Int32) → Int32 → (Nat → Int32) → Prop}
variable {KN : Int32 → Int32 → Int32 → Int32 → (Nat → Int32) → (Nat → Int32) → (Nat → Int32) → (Nat → Int32) → Int32 → Int32 → Int32 → (Nat → Int32) → (Nat → Int32) → (Nat → Int32) → Prop}
theorem pr_count (w : Int32) : Pair SH TA FI KN Y_CW_count Y_Mo_count 2 0 [.int w] := by
  intro c V A hc hI
  obtain ⟨n, ch, ⟨⟨h1, h9⟩, hn, hn'⟩, hR, hL, hC, hP, hA, hW, hX, hQ, hch, hT, hK⟩ := id hI
  by_cases e0 : w = 0
  · subst e0
    refine CQ.mono (c_CW_count0 V A) (fun r V1 A1 h => ?_)
    obtain ⟨rfl, rfl, rfl⟩ := h
    refine CQ.mono (c_Mo_count0 _ _) (fun r' V2 A2 h => ?_)
    obtain ⟨rfl, rfl, rfl⟩ := h
    exact ⟨by rw [hn, hn'], hI.thrown⟩
  by_cases e1 : w = 1
  · subst e1
    refine CQ.mono (c_CW_count1 V A) (fun r V1 A1 h => ?_)
    obtain ⟨rfl, rfl, rfl⟩ := h
    refine CQ.mono (c_Mo_count1 _ _) (fun r' V2 A2 h => ?_)
    obtain ⟨rfl, rfl, rfl⟩ := h
    exact ⟨hC.count, hI.thrown⟩
  by_cases e2 : w = 2
  · subst e2
    refine CQ.mono (c_CW_count2 V A n hn h1 h9) (fun r V1 A1 h => ?_)
    obtain ⟨rfl, rfl, rfl⟩ := h
    refine CQ.mono (c_Mo_count2 _ _) (fun r' V2 A2 h => ?_)
    obtain ⟨rfl, rfl, rfl⟩ := h
    exact ⟨hA.count h1 h9, hI.thrown⟩
  by_cases e3 : w = 3
  · subst e3
    refine CQ.mono (c_CW_count3 V A) (fun r V1 A1 h => ?_)
    obtain ⟨rfl, rfl, rfl⟩ := h
    refine CQ.mono (c_Mo_count3 _ _) (fun r' V2 A2 h => ?_)
    obtain ⟨rfl, rfl, rfl⟩ := h
    exact ⟨hR.1.1.symm, hI.thrown⟩
  by_cases e4 : w = 4
  · subst e4
    refine CQ.mono (c_CW_count4 V A) (fun r V1 A1 h => ?_)
    obtain ⟨rfl, rfl, rfl⟩ := h
    refine CQ.mono (c_Mo_count4 _ _) (fun r' V2 A2 h => ?_)
    obtain ⟨rfl, rfl, rfl⟩ := h
    exact ⟨hR.1.2.1.symm, hI.thrown⟩
  by_cases e5 : w = 5
  · subst e5
    refine CQ.mono (c_CW_count5 V A) (fun r V1 A1 h => ?_)
    obtain ⟨rfl, rfl, rfl⟩ := h
    refine CQ.mono (c_Mo_count5 _ _) (fun r' V2 A2 h => ?_)
    obtain ⟨rfl, rfl, rfl⟩ := h
    exact ⟨hR.1.2.2.symm, hI.thrown⟩
  by_cases e6 : w = 6
  · subst e6
    refine CQ.mono (c_CW_count6 V A) (fun r V1 A1 h => ?_)
    obtain ⟨rfl, rfl, rfl⟩ := h
    refine CQ.mono (c_Mo_count6 _ _) (fun r' V2 A2 h => ?_)
    obtain ⟨rfl, rfl, rfl⟩ := h
    exact ⟨hQ.1.symm, hI.thrown⟩
  have hw : w.toInt < 0 ∨ 6 < w.toInt := by
    have t3 : (3 : Int32).toInt = 3 := rfl
    have t4 : (4 : Int32).toInt = 4 := rfl
    have t5 : (5 : Int32).toInt = 5 := rfl
    have t6 : (6 : Int32).toInt = 6 := rfl
    simp only [z_eq, z_t0, z_t1, z_l2, t3, t4, t5, t6] at e0 e1 e2 e3 e4 e5 e6; omega
  refine CQ.mono (c_CW_countx V A w hw) (fun r V1 A1 h => ?_)
  obtain ⟨rfl, rfl, rfl⟩ := h
  refine CQ.mono (c_Mo_countx _ _ w hw) (fun r' V2 A2 h => ?_)
  obtain ⟨rfl, rfl, rfl⟩ := h
  exact ⟨rfl, hI.thrown⟩
end P4
