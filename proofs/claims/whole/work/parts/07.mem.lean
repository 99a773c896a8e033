/-! the memory behind the constructors: V k j is field j of the object k, A k the contents of the array k -/
def cells (V A : Nat → Nat → Int32) : zMem := [
  .inr (0, [.ref 1, .ref 13, .ref 16, .ref 19, .ref 21, .ref 26, .ref 28, .ref 31, .ref 33]),
  .inr (1, [.ref 2, .ref 3, .ref 4, .ref 5, .int (V 1 4), .int (V 1 5), .int (V 1 6), .int (V 1 7), .int (V 1 8)]),
  .inl (false, 9, A 2),
  .inl (false, 81, A 3),
  .inl (false, 9, A 4),
  .inl (false, 9, A 5),
  .inr (2, [.ref 1, .ref 7, .ref 8, .ref 9, .ref 10, .ref 11, .ref 12]),
  .inl (false, 256, A 7),
  .inl (false, 256, A 8),
  .inl (false, 2304, A 9),
  .inl (false, 2304, A 10),
  .inl (false, 256, A 11),
  .inl (false, 256, A 12),
  .inr (3, [.ref 1, .ref 6, .ref 14, .ref 15, .int (V 13 4), .int (V 13 5), .int (V 13 6)]),
  .inl (false, 2304, A 14),
  .inl (false, 2304, A 15),
  .inr (4, [.ref 1, .ref 6, .ref 13, .ref 17, .ref 18, .int (V 16 5), .int (V 16 6), .int (V 16 7)]),
  .inl (false, 2304, A 17),
  .inl (true, 81, A 18),
  .inr (5, [.ref 1, .ref 13, .ref 16, .ref 20, .int (V 19 4), .int (V 19 5), .int (V 19 6), .int (V 19 7)]),
  .inl (false, 18, A 20),
  .inr (6, [.ref 1, .ref 22, .ref 23, .ref 24, .ref 25, .int (V 21 5), .int (V 21 6)]),
  .inl (false, 9, A 22),
  .inl (false, 9, A 23),
  .inl (false, 9, A 24),
  .inl (false, 9, A 25),
  .inr (7, [.ref 1, .ref 27]),
  .inl (false, 512, A 27),
  .inr (8, [.ref 1, .ref 29, .ref 30]),
  .inl (false, 9, A 29),
  .inl (false, 9, A 30),
  .inr (9, [.ref 1, .ref 32]),
  .inl (false, 9, A 32),
  .inr (10, [.ref 1, .ref 34, .ref 35, .int (V 33 3)]),
  .inl (false, 20, A 34),
  .inl (false, 20, A 35),
  .inr (11, [.int (V 36 0), .int (V 36 1), .ref 37, .ref 38, .ref 39, .ref 40, .int (V 36 6), .int (V 36 7), .int (V 36 8), .ref 41, .ref 42, .ref 43, .int (V 36 12), .int (V 36 13), .int (V 36 14), .int (V 36 15), .ref 44, .ref 45, .ref 46, .int (V 36 19), .ref 47, .int (V 36 21), .int (V 36 22), .int (V 36 23), .int (V 36 24), .int (V 36 25), .ref 48, .ref 49, .int (V 36 28), .ref 50, .ref 51]),
  .inl (false, 9, A 37),
  .inl (false, 81, A 38),
  .inl (false, 9, A 39),
  .inl (true, 81, A 40),
  .inl (false, 9, A 41),
  .inl (false, 9, A 42),
  .inl (false, 21, A 43),
  .inl (false, 81, A 44),
  .inl (false, 9, A 45),
  .inl (false, 20, A 46),
  .inl (false, 20, A 47),
  .inl (false, 10, A 48),
  .inl (false, 10, A 49),
  .inl (false, 9, A 50),
  .inl (false, 512, A 51)]
def zv (V : Nat → Nat → Int32) (k j : Nat) (x : Int32) : Nat → Nat → Int32 := fun a b => bif (Nat.beq a k && Nat.beq b j) then x else V a b
def za (A : Nat → Nat → Int32) (k : Nat) (f : Nat → Int32) : Nat → Nat → Int32 := fun a => bif Nat.beq a k then f else A a
theorem z_beq (a b : Nat) : Nat.beq a b = decide (a = b) := by
  by_cases h : a = b
  · subst h
    simp [Nat.beq_refl]
  · rw [decide_eq_false h]
    exact Bool.eq_false_iff.mpr (fun q => h (Nat.eq_of_beq_eq_true q))
theorem zv_eq (V : Nat → Nat → Int32) (k j : Nat) (x : Int32) (a b : Nat) : zv V k j x a b = if a = k ∧ b = j then x else V a b := by
  unfold zv
  rw [z_beq, z_beq]
  by_cases h1 : a = k <;> by_cases h2 : b = j <;> simp [h1, h2]
theorem za_eq (A : Nat → Nat → Int32) (k : Nat) (f : Nat → Int32) (a : Nat) : za A k f a = if a = k then f else A a := by
  unfold za
  rw [z_beq]
  by_cases h1 : a = k <;> simp [h1]
theorem za_at (A : Nat → Nat → Int32) (k : Nat) (f : Nat → Int32) : za A k f k = f := by simp [za_eq]
abbrev zrm (d : Nat) : Room := { frames := d, cells := 0, slots := 0, locals := 40 * d }
abbrev zV : Type := Nat → Nat → Int32
/-- ends and contracts over this memory: an int answer, and none -/
abbrev zFq (d : Nat) (P : Int32 → zV → zV → Prop) : zFin := zFm (fun r μ' => ∃ v V' A', r = some (.int v) ∧ μ' = cells V' A' ∧ P v V' A') (zrm d)
abbrev zFu (d : Nat) (P : zV → zV → Prop) : zFin := zFm (fun r μ' => ∃ V' A', r = none ∧ μ' = cells V' A' ∧ P V' A') (zrm d)
def CQ (Y : zY) (d : Nat) (av : List Value) (V A : zV) (P : Int32 → zV → zV → Prop) : Prop := Ctr Y (zrm d) av (cells V A) (fun r μ' => ∃ v V' A', r = some (.int v) ∧ μ' = cells V' A' ∧ P v V' A')
def CU (Y : zY) (d : Nat) (av : List Value) (V A : zV) (P : zV → zV → Prop) : Prop := Ctr Y (zrm d) av (cells V A) (fun r μ' => ∃ V' A', r = none ∧ μ' = cells V' A' ∧ P V' A')
theorem y_sum : ∀ {st : List Value}, (∀ v ∈ st, v.category = 1) → (st.map fun v => v.category).sum = st.length
  | [], _ => rfl
  | v :: st, h => by
    simp only [List.map_cons, List.sum_cons, List.length_cons]
    rw [y_sum (fun w hw => h w (List.mem_cons_of_mem _ hw)), h v List.mem_cons_self, Nat.add_comm]
section YR
variable {Y Y' : zY} {d d' : Nat} {sc : Nat × (Nat → Int32)} {F : zFin} {pc : Nat} {lv st : List Value} {V A : zV} {P : Int32 → zV → zV → Prop} {U : zV → zV → Prop}
theorem CQ.of {av lv : List Value} (hW : zWm Y) (hO : Y.1.cls = Y.2.2.2.2) (hN : Y.2.2.2.2 ≠ "CircuitWaysLaw") (ha : av.all zok = true) (hlv : av ++ List.replicate (Y.2.2.1 - av.length) zu = lv) (hn : av.length ≤ Y.2.2.1) (hX : X Y (zrm d) (0, fun _ => 0) (zFq d P) 0 lv [] (cells V A) 0 0) : CQ Y d av V A P := Ctr.of hW hO hN ha hlv hn hX
theorem CU.of {av lv : List Value} (hW : zWm Y) (hO : Y.1.cls = Y.2.2.2.2) (hN : Y.2.2.2.2 ≠ "CircuitWaysLaw") (ha : av.all zok = true) (hlv : av ++ List.replicate (Y.2.2.1 - av.length) zu = lv) (hn : av.length ≤ Y.2.2.1) (hX : X Y (zrm d) (0, fun _ => 0) (zFu d U) 0 lv [] (cells V A) 0 0) : CU Y d av V A U := Ctr.of hW hO hN ha hlv hn hX
theorem y_iret {v : Int32} (hd : decode Y.2.1 pc = .ok (.ireturn, 1)) (hr : Y.2.2.2.1 = some .int) (hq : P v V A) : X Y (zrm d) sc (zFq d P) pc lv [.int v] (cells V A) 0 0 := x_iret hd hr ⟨Nat.le_refl _, Nat.le_refl _⟩ ⟨v, V, A, rfl, rfl, hq⟩
theorem y_zret {v : Int32} (hd : decode Y.2.1 pc = .ok (.ireturn, 1)) (hr : Y.2.2.2.1 = some .boolean) (hn : narrow .boolean (.int v) = .int v) (hq : P v V A) : X Y (zrm d) sc (zFq d P) pc lv [.int v] (cells V A) 0 0 := x_zret hd hr hn ⟨Nat.le_refl _, Nat.le_refl _⟩ ⟨v, V, A, rfl, rfl, hq⟩
theorem y_vret (hd : decode Y.2.1 pc = .ok (.return_, 1)) (hr : Y.2.2.2.1 = none) (hq : U V A) : X Y (zrm d) sc (zFu d U) pc lv [] (cells V A) 0 0 := x_vret hd hr ⟨Nat.le_refl _, Nat.le_refl _⟩ ⟨V, A, rfl, rfl, hq⟩
theorem zroom {m : Nat} (h : d' < d) (hm : m ≤ 21) : (zrm d').frames + 1 ≤ (zrm d).frames ∧ 8 + (m + 11) + (zrm d').locals ≤ (zrm d).locals := ⟨h, by show 8 + (m + 11) + 40 * d' ≤ 40 * d; omega⟩
theorem y_callV {i n k ci N : Nat} {C : String} {T : u_T} {fs : List Value} {av rest st0 : List Value} (hCt : CQ Y' d' (.ref k :: av) V A P) (hW : zWv Y') (hd : decode Y.2.1 pc = .ok (.invokevirtual i, 3)) (hl : Cond.methodLink Y.2.2.2.2 i Y'.1 ∈ zt) (hlt : d' < d) (hm : (cells V A)[k]? = some (.inr (ci, fs))) (hc : zcl[ci]? = some (C, T, N)) (hcls : Y'.1.cls = C) (hst : av.reverse ++ .ref k :: rest = st0) (hn : (parseMethodDescriptor Y'.1.desc).map (fun d => d.parameters.length) = some n) (hav : av.length = n := by rfl) (ha : av.all zok = true := by rfl) (hcr : rest.all (fun v => v.category == 1) = true := by rfl) (hrl : rest.length ≤ 8 := by exact Nat.le_of_ble_eq_true rfl) (hm21 : Y'.2.2.1 ≤ 21 := by exact Nat.le_of_ble_eq_true rfl)
    (K : ∀ v V' A', P v V' A' → X Y (zrm d) sc F (pc + 3) lv (.int v :: rest) (cells V' A') 0 0) : X Y (zrm d) sc F pc lv st0 (cells V A) 0 0 := by
  have hcr' : ∀ v ∈ rest, v.category = 1 := fun v hv => by simpa using List.all_eq_true.mp hcr v hv
  subst hav
  refine x_callV hCt hW hd hl hm hc hcls hst ha hcr' hn (zroom hlt hm21) ⟨Nat.le_refl _, Nat.le_refl _⟩ (by rw [y_sum hcr']; exact hrl) (fun r μ' hq v hv => ?_) (fun r μ' hq => ?_)
  · obtain ⟨v', V', A', h1, h2, h3⟩ := hq
    rw [h1] at hv; cases hv; rfl
  · obtain ⟨v', V', A', h1, h2, h3⟩ := hq
    rw [h1, h2]
    exact K v' V' A' h3
theorem y_callVu {i n k ci N : Nat} {C : String} {T : u_T} {fs : List Value} {av rest st0 : List Value} (hCt : CU Y' d' (.ref k :: av) V A U) (hW : zWv Y') (hd : decode Y.2.1 pc = .ok (.invokevirtual i, 3)) (hl : Cond.methodLink Y.2.2.2.2 i Y'.1 ∈ zt) (hlt : d' < d) (hm : (cells V A)[k]? = some (.inr (ci, fs))) (hc : zcl[ci]? = some (C, T, N)) (hcls : Y'.1.cls = C) (hst : av.reverse ++ .ref k :: rest = st0) (hn : (parseMethodDescriptor Y'.1.desc).map (fun d => d.parameters.length) = some n) (hav : av.length = n := by rfl) (ha : av.all zok = true := by rfl) (hcr : rest.all (fun v => v.category == 1) = true := by rfl) (hrl : rest.length ≤ 8 := by exact Nat.le_of_ble_eq_true rfl) (hm21 : Y'.2.2.1 ≤ 21 := by exact Nat.le_of_ble_eq_true rfl)
    (K : ∀ V' A', U V' A' → X Y (zrm d) sc F (pc + 3) lv rest (cells V' A') 0 0) : X Y (zrm d) sc F pc lv st0 (cells V A) 0 0 := by
  have hcr' : ∀ v ∈ rest, v.category = 1 := fun v hv => by simpa using List.all_eq_true.mp hcr v hv
  subst hav
  refine x_callV hCt hW hd hl hm hc hcls hst ha hcr' hn (zroom hlt hm21) ⟨Nat.le_refl _, Nat.le_refl _⟩ (by rw [y_sum hcr']; exact hrl) (fun r μ' hq v hv => ?_) (fun r μ' hq => ?_)
  · obtain ⟨V', A', h1, h2, h3⟩ := hq
    rw [h1] at hv; cases hv
  · obtain ⟨V', A', h1, h2, h3⟩ := hq
    rw [h1, h2]
    exact K V' A' h3
theorem y_callS {i n : Nat} {av rest st0 : List Value} (hCt : CQ Y' d' av V A P) (hW : zWs Y') (hd : decode Y.2.1 pc = .ok (.invokestatic i, 3)) (hl : Cond.methodLink Y.2.2.2.2 i Y'.1 ∈ zt) (hlt : d' < d) (hst : av.reverse ++ rest = st0) (hn : (parseMethodDescriptor Y'.1.desc).map (fun d => d.parameters.length) = some n) (hav : av.length = n := by rfl) (ha : av.all zok = true := by rfl) (hcr : rest.all (fun v => v.category == 1) = true := by rfl) (hrl : rest.length ≤ 8 := by exact Nat.le_of_ble_eq_true rfl) (hm21 : Y'.2.2.1 ≤ 21 := by exact Nat.le_of_ble_eq_true rfl)
    (K : ∀ v V' A', P v V' A' → X Y (zrm d) sc F (pc + 3) lv (.int v :: rest) (cells V' A') 0 0) : X Y (zrm d) sc F pc lv st0 (cells V A) 0 0 := by
  have hcr' : ∀ v ∈ rest, v.category = 1 := fun v hv => by simpa using List.all_eq_true.mp hcr v hv
  subst hav
  refine x_callS hCt hW hd hl hst ha hcr' hn (zroom hlt hm21) ⟨Nat.le_refl _, Nat.le_refl _⟩ (by rw [y_sum hcr']; exact hrl) (fun r μ' hq v hv => ?_) (fun r μ' hq => ?_)
  · obtain ⟨v', V', A', h1, h2, h3⟩ := hq
    rw [h1] at hv; cases hv; rfl
  · obtain ⟨v', V', A', h1, h2, h3⟩ := hq
    rw [h1, h2]
    exact K v' V' A' h3
theorem y_callN {i n : Nat} {host : String} {av rest st0 : List Value} (hCt : CQ Y' d' av V A P) (hW : zWs Y') (hd : decode Y.2.1 pc = .ok (.invokestatic i, 3)) (hl : Cond.methodLinkNest Y.2.2.2.2 i Y'.1 host ∈ znest) (hlt : d' < d) (hst : av.reverse ++ rest = st0) (hn : (parseMethodDescriptor Y'.1.desc).map (fun d => d.parameters.length) = some n) (hav : av.length = n := by rfl) (ha : av.all zok = true := by rfl) (hcr : rest.all (fun v => v.category == 1) = true := by rfl) (hrl : rest.length ≤ 8 := by exact Nat.le_of_ble_eq_true rfl) (hm21 : Y'.2.2.1 ≤ 21 := by exact Nat.le_of_ble_eq_true rfl)
    (K : ∀ v V' A', P v V' A' → X Y (zrm d) sc F (pc + 3) lv (.int v :: rest) (cells V' A') 0 0) : X Y (zrm d) sc F pc lv st0 (cells V A) 0 0 := by
  have hcr' : ∀ v ∈ rest, v.category = 1 := fun v hv => by simpa using List.all_eq_true.mp hcr v hv
  subst hav
  refine x_callN hCt hW hd hl hst ha hcr' hn (zroom hlt hm21) ⟨Nat.le_refl _, Nat.le_refl _⟩ (by rw [y_sum hcr']; exact hrl) (fun r μ' hq v hv => ?_) (fun r μ' hq => ?_)
  · obtain ⟨v', V', A', h1, h2, h3⟩ := hq
    rw [h1] at hv; cases hv; rfl
  · obtain ⟨v', V', A', h1, h2, h3⟩ := hq
    rw [h1, h2]
    exact K v' V' A' h3
theorem y_fV {i n k ci N : Nat} {C : String} {T : u_T} {fs : List Value} {av rest st0 : List Value} {v0 : Int32} {V0 A0 : zV} (hCt : CQ Y' d' (.ref k :: av) V A (fun r V' A' => r = v0 ∧ V' = V0 ∧ A' = A0)) (hW : zWv Y') (hd : decode Y.2.1 pc = .ok (.invokevirtual i, 3)) (hl : Cond.methodLink Y.2.2.2.2 i Y'.1 ∈ zt) (hlt : d' < d) (hm : (cells V A)[k]? = some (.inr (ci, fs))) (hc : zcl[ci]? = some (C, T, N)) (hcls : Y'.1.cls = C) (hst : av.reverse ++ .ref k :: rest = st0) (hn : (parseMethodDescriptor Y'.1.desc).map (fun d => d.parameters.length) = some n) (hav : av.length = n := by rfl) (ha : av.all zok = true := by rfl) (hcr : rest.all (fun v => v.category == 1) = true := by rfl) (hrl : rest.length ≤ 8 := by exact Nat.le_of_ble_eq_true rfl) (hm21 : Y'.2.2.1 ≤ 21 := by exact Nat.le_of_ble_eq_true rfl)
    (K : X Y (zrm d) sc F (pc + 3) lv (.int v0 :: rest) (cells V0 A0) 0 0) : X Y (zrm d) sc F pc lv st0 (cells V A) 0 0 :=
  y_callV hCt hW hd hl hlt hm hc hcls hst hn hav ha hcr hrl hm21 (fun v' V' A' hq => by rw [hq.1, hq.2.1, hq.2.2]; exact K)
theorem y_fS {i n : Nat} {av rest st0 : List Value} {v0 : Int32} {V0 A0 : zV} (hCt : CQ Y' d' av V A (fun r V' A' => r = v0 ∧ V' = V0 ∧ A' = A0)) (hW : zWs Y') (hd : decode Y.2.1 pc = .ok (.invokestatic i, 3)) (hl : Cond.methodLink Y.2.2.2.2 i Y'.1 ∈ zt) (hlt : d' < d) (hst : av.reverse ++ rest = st0) (hn : (parseMethodDescriptor Y'.1.desc).map (fun d => d.parameters.length) = some n) (hav : av.length = n := by rfl) (ha : av.all zok = true := by rfl) (hcr : rest.all (fun v => v.category == 1) = true := by rfl) (hrl : rest.length ≤ 8 := by exact Nat.le_of_ble_eq_true rfl) (hm21 : Y'.2.2.1 ≤ 21 := by exact Nat.le_of_ble_eq_true rfl)
    (K : X Y (zrm d) sc F (pc + 3) lv (.int v0 :: rest) (cells V0 A0) 0 0) : X Y (zrm d) sc F pc lv st0 (cells V A) 0 0 :=
  y_callS hCt hW hd hl hlt hst hn hav ha hcr hrl hm21 (fun v' V' A' hq => by rw [hq.1, hq.2.1, hq.2.2]; exact K)
theorem y_fN {i n : Nat} {host : String} {av rest st0 : List Value} {v0 : Int32} {V0 A0 : zV} (hCt : CQ Y' d' av V A (fun r V' A' => r = v0 ∧ V' = V0 ∧ A' = A0)) (hW : zWs Y') (hd : decode Y.2.1 pc = .ok (.invokestatic i, 3)) (hl : Cond.methodLinkNest Y.2.2.2.2 i Y'.1 host ∈ znest) (hlt : d' < d) (hst : av.reverse ++ rest = st0) (hn : (parseMethodDescriptor Y'.1.desc).map (fun d => d.parameters.length) = some n) (hav : av.length = n := by rfl) (ha : av.all zok = true := by rfl) (hcr : rest.all (fun v => v.category == 1) = true := by rfl) (hrl : rest.length ≤ 8 := by exact Nat.le_of_ble_eq_true rfl) (hm21 : Y'.2.2.1 ≤ 21 := by exact Nat.le_of_ble_eq_true rfl)
    (K : X Y (zrm d) sc F (pc + 3) lv (.int v0 :: rest) (cells V0 A0) 0 0) : X Y (zrm d) sc F pc lv st0 (cells V A) 0 0 :=
  y_callN hCt hW hd hl hlt hst hn hav ha hcr hrl hm21 (fun v' V' A' hq => by rw [hq.1, hq.2.1, hq.2.2]; exact K)
theorem y_fU {i n k ci N : Nat} {C : String} {T : u_T} {fs : List Value} {av rest st0 : List Value} {V0 A0 : zV} (hCt : CU Y' d' (.ref k :: av) V A (fun V' A' => V' = V0 ∧ A' = A0)) (hW : zWv Y') (hd : decode Y.2.1 pc = .ok (.invokevirtual i, 3)) (hl : Cond.methodLink Y.2.2.2.2 i Y'.1 ∈ zt) (hlt : d' < d) (hm : (cells V A)[k]? = some (.inr (ci, fs))) (hc : zcl[ci]? = some (C, T, N)) (hcls : Y'.1.cls = C) (hst : av.reverse ++ .ref k :: rest = st0) (hn : (parseMethodDescriptor Y'.1.desc).map (fun d => d.parameters.length) = some n) (hav : av.length = n := by rfl) (ha : av.all zok = true := by rfl) (hcr : rest.all (fun v => v.category == 1) = true := by rfl) (hrl : rest.length ≤ 8 := by exact Nat.le_of_ble_eq_true rfl) (hm21 : Y'.2.2.1 ≤ 21 := by exact Nat.le_of_ble_eq_true rfl)
    (K : X Y (zrm d) sc F (pc + 3) lv rest (cells V0 A0) 0 0) : X Y (zrm d) sc F pc lv st0 (cells V A) 0 0 :=
  y_callVu hCt hW hd hl hlt hm hc hcls hst hn hav ha hcr hrl hm21 (fun V' A' hq => by rw [hq.1, hq.2]; exact K)
theorem y_bV {i n k ci N : Nat} {C : String} {T : u_T} {fs : List Value} {av rest st0 : List Value} {c : Prop} {V0 A0 : zV} (hCt : CQ Y' d' (.ref k :: av) V A (fun r V' A' => ((r = 1 ∧ c) ∨ (r = 0 ∧ ¬ c)) ∧ V' = V0 ∧ A' = A0)) (hW : zWv Y') (hd : decode Y.2.1 pc = .ok (.invokevirtual i, 3)) (hl : Cond.methodLink Y.2.2.2.2 i Y'.1 ∈ zt) (hlt : d' < d) (hm : (cells V A)[k]? = some (.inr (ci, fs))) (hc : zcl[ci]? = some (C, T, N)) (hcls : Y'.1.cls = C) (hst : av.reverse ++ .ref k :: rest = st0) (hn : (parseMethodDescriptor Y'.1.desc).map (fun d => d.parameters.length) = some n) (hav : av.length = n := by rfl) (ha : av.all zok = true := by rfl) (hcr : rest.all (fun v => v.category == 1) = true := by rfl) (hrl : rest.length ≤ 8 := by exact Nat.le_of_ble_eq_true rfl) (hm21 : Y'.2.2.1 ≤ 21 := by exact Nat.le_of_ble_eq_true rfl)
    (K1 : c → X Y (zrm d) sc F (pc + 3) lv (.int 1 :: rest) (cells V0 A0) 0 0) (K0 : ¬ c → X Y (zrm d) sc F (pc + 3) lv (.int 0 :: rest) (cells V0 A0) 0 0) : X Y (zrm d) sc F pc lv st0 (cells V A) 0 0 :=
  y_callV hCt hW hd hl hlt hm hc hcls hst hn hav ha hcr hrl hm21 (fun v' V' A' hq => by
    rw [hq.2.1, hq.2.2]
    rcases hq.1 with h | h
    · rw [h.1]; exact K1 h.2
    · rw [h.1]; exact K0 h.2)
theorem y_bS {i n : Nat} {av rest st0 : List Value} {c : Prop} {V0 A0 : zV} (hCt : CQ Y' d' av V A (fun r V' A' => ((r = 1 ∧ c) ∨ (r = 0 ∧ ¬ c)) ∧ V' = V0 ∧ A' = A0)) (hW : zWs Y') (hd : decode Y.2.1 pc = .ok (.invokestatic i, 3)) (hl : Cond.methodLink Y.2.2.2.2 i Y'.1 ∈ zt) (hlt : d' < d) (hst : av.reverse ++ rest = st0) (hn : (parseMethodDescriptor Y'.1.desc).map (fun d => d.parameters.length) = some n) (hav : av.length = n := by rfl) (ha : av.all zok = true := by rfl) (hcr : rest.all (fun v => v.category == 1) = true := by rfl) (hrl : rest.length ≤ 8 := by exact Nat.le_of_ble_eq_true rfl) (hm21 : Y'.2.2.1 ≤ 21 := by exact Nat.le_of_ble_eq_true rfl)
    (K1 : c → X Y (zrm d) sc F (pc + 3) lv (.int 1 :: rest) (cells V0 A0) 0 0) (K0 : ¬ c → X Y (zrm d) sc F (pc + 3) lv (.int 0 :: rest) (cells V0 A0) 0 0) : X Y (zrm d) sc F pc lv st0 (cells V A) 0 0 :=
  y_callS hCt hW hd hl hlt hst hn hav ha hcr hrl hm21 (fun v' V' A' hq => by
    rw [hq.2.1, hq.2.2]
    rcases hq.1 with h | h
    · rw [h.1]; exact K1 h.2
    · rw [h.1]; exact K0 h.2)
theorem y_min {i : Nat} {x y : Int32} (hd : decode Y.2.1 pc = .ok (.invokestatic i, 3)) (hl : Cond.methodLink Y.2.2.2.2 i Lib.Math.min.name ∈ zt) (hlt : 0 < d) (hcr : st.all (fun v => v.category == 1) = true := by rfl) (hrl : st.length ≤ 8 := by exact Nat.le_of_ble_eq_true rfl) (K : X Y (zrm d) sc F (pc + 3) lv (.int (if y < x then y else x) :: st) (cells V A) 0 0) : X Y (zrm d) sc F pc lv (.int y :: .int x :: st) (cells V A) 0 0 := by
  have hcr' : ∀ v ∈ st, v.category = 1 := fun v hv => by simpa using List.all_eq_true.mp hcr v hv
  exact x_min hd hl hlt (by rw [y_sum hcr']; show _ + 13 ≤ 40 * d; omega) ⟨Nat.le_refl _, Nat.le_refl _⟩ hcr' K
theorem y_put {i k ci j N : Nat} {C ref nm ds : String} {T : u_T} {fs : List Value} {x : Int32} (hd : decode Y.2.1 pc = .ok (.putfield i, 3)) (hw : Cond.fieldLink Y.2.2.2.2 i ref nm ds ∈ zt) (hm : (cells V A)[k]? = some (.inr (ci, fs))) (hc : zcl[ci]? = some (C, T, N)) (hj : j < N) (hT : T j = (ref, nm, ds, false)) (hf : j < fs.length) (hn : narrow (zty ci j) (.int x) = .int x) (hfit : fits (zty ci j) (.int x) = true) (hs : ∀ y, (cells V A).set k (.inr (ci, fs.set j (.int y))) = cells (zv V k j y) A) (K : X Y (zrm d) sc F (pc + 3) lv st (cells (zv V k j x) A) 0 0) : X Y (zrm d) sc F pc lv (.int x :: .ref k :: st) (cells V A) 0 0 :=
  x_put hd hw hm hc hj hT hf rfl (fun _ _ => hn) (fun _ _ => hfit) (hs x) K
theorem y_iast {k n : Nat} {i x : Int32} {f : Nat → Int32} (hd : decode Y.2.1 pc = .ok (.iastore, 1)) (hm : (cells V A)[k]? = some (.inl (false, n, f))) (hs : ∀ g, (cells V A).set k (.inl (false, n, g)) = cells V (za A k g)) (hin : vp_in i n) (K : X Y (zrm d) sc F (pc + 1) lv st (cells V (za A k (upd f i.toNatClampNeg x))) 0 0) : X Y (zrm d) sc F pc lv (.int x :: .int i :: .ref k :: st) (cells V A) 0 0 := x_iast hd hm (hs _) hin K
theorem y_zast {k n : Nat} {i x : Int32} {f : Nat → Int32} (hd : decode Y.2.1 pc = .ok (.bastore, 1)) (hm : (cells V A)[k]? = some (.inl (true, n, f))) (hs : ∀ g, (cells V A).set k (.inl (true, n, g)) = cells V (za A k g)) (hin : vp_in i n) (K : X Y (zrm d) sc F (pc + 1) lv st (cells V (za A k (upd f i.toNatClampNeg (vp_nar .boolean x)))) 0 0) : X Y (zrm d) sc F pc lv (.int x :: .int i :: .ref k :: st) (cells V A) 0 0 := x_zast hd hm (hs _) hin K
theorem y_ist0 {w0 : Value} {l : List Value} {v : Int32} {μ : zMem} {rm : Room} {kc ks : Nat} (hd : decode Y.2.1 pc = .ok (.istore_n 0, 1)) (K : X Y rm sc F (pc + 1) (.int v :: l) st μ kc ks) : X Y rm sc F pc (w0 :: l) (.int v :: st) μ kc ks := x_istore_n hd (by show (0 : Nat) < _; simp only [List.length_cons]; omega) rfl K
theorem y_inc0 {l : List Value} {x v : Int32} {n : Int} {μ : zMem} {rm : Room} {kc ks : Nat} (hd : decode Y.2.1 pc = .ok (.iinc 0 n, 3)) (hv : Int32.ofInt n = v) (K : X Y rm sc F (pc + 3) (.int (x + v) :: l) st μ kc ks) : X Y rm sc F pc (.int x :: l) st μ kc ks := x_iinc (x := x) hd (by simp) (by rw [hv]) rfl K
theorem y_ist1 {w0 w1 : Value} {l : List Value} {v : Int32} {μ : zMem} {rm : Room} {kc ks : Nat} (hd : decode Y.2.1 pc = .ok (.istore_n 1, 1)) (K : X Y rm sc F (pc + 1) (w0 :: .int v :: l) st μ kc ks) : X Y rm sc F pc (w0 :: w1 :: l) (.int v :: st) μ kc ks := x_istore_n hd (by show (1 : Nat) < _; simp only [List.length_cons]; omega) rfl K
theorem y_ast1 {w0 w1 : Value} {l : List Value} {v : Nat} {μ : zMem} {rm : Room} {kc ks : Nat} (hd : decode Y.2.1 pc = .ok (.astore_n 1, 1)) (K : X Y rm sc F (pc + 1) (w0 :: .ref v :: l) st μ kc ks) : X Y rm sc F pc (w0 :: w1 :: l) (.ref v :: st) μ kc ks := x_astore_n hd (by show (1 : Nat) < _; simp only [List.length_cons]; omega) rfl K
theorem y_inc1 {w0 : Value} {l : List Value} {x v : Int32} {n : Int} {μ : zMem} {rm : Room} {kc ks : Nat} (hd : decode Y.2.1 pc = .ok (.iinc 1 n, 3)) (hv : Int32.ofInt n = v) (K : X Y rm sc F (pc + 3) (w0 :: .int (x + v) :: l) st μ kc ks) : X Y rm sc F pc (w0 :: .int x :: l) st μ kc ks := x_iinc (x := x) hd (by simp) (by rw [hv]) rfl K
theorem y_ist2 {w0 w1 w2 : Value} {l : List Value} {v : Int32} {μ : zMem} {rm : Room} {kc ks : Nat} (hd : decode Y.2.1 pc = .ok (.istore_n 2, 1)) (K : X Y rm sc F (pc + 1) (w0 :: w1 :: .int v :: l) st μ kc ks) : X Y rm sc F pc (w0 :: w1 :: w2 :: l) (.int v :: st) μ kc ks := x_istore_n hd (by show (2 : Nat) < _; simp only [List.length_cons]; omega) rfl K
theorem y_ast2 {w0 w1 w2 : Value} {l : List Value} {v : Nat} {μ : zMem} {rm : Room} {kc ks : Nat} (hd : decode Y.2.1 pc = .ok (.astore_n 2, 1)) (K : X Y rm sc F (pc + 1) (w0 :: w1 :: .ref v :: l) st μ kc ks) : X Y rm sc F pc (w0 :: w1 :: w2 :: l) (.ref v :: st) μ kc ks := x_astore_n hd (by show (2 : Nat) < _; simp only [List.length_cons]; omega) rfl K
theorem y_inc2 {w0 w1 : Value} {l : List Value} {x v : Int32} {n : Int} {μ : zMem} {rm : Room} {kc ks : Nat} (hd : decode Y.2.1 pc = .ok (.iinc 2 n, 3)) (hv : Int32.ofInt n = v) (K : X Y rm sc F (pc + 3) (w0 :: w1 :: .int (x + v) :: l) st μ kc ks) : X Y rm sc F pc (w0 :: w1 :: .int x :: l) st μ kc ks := x_iinc (x := x) hd (by simp) (by rw [hv]) rfl K
theorem y_ist3 {w0 w1 w2 w3 : Value} {l : List Value} {v : Int32} {μ : zMem} {rm : Room} {kc ks : Nat} (hd : decode Y.2.1 pc = .ok (.istore_n 3, 1)) (K : X Y rm sc F (pc + 1) (w0 :: w1 :: w2 :: .int v :: l) st μ kc ks) : X Y rm sc F pc (w0 :: w1 :: w2 :: w3 :: l) (.int v :: st) μ kc ks := x_istore_n hd (by show (3 : Nat) < _; simp only [List.length_cons]; omega) rfl K
theorem y_ast3 {w0 w1 w2 w3 : Value} {l : List Value} {v : Nat} {μ : zMem} {rm : Room} {kc ks : Nat} (hd : decode Y.2.1 pc = .ok (.astore_n 3, 1)) (K : X Y rm sc F (pc + 1) (w0 :: w1 :: w2 :: .ref v :: l) st μ kc ks) : X Y rm sc F pc (w0 :: w1 :: w2 :: w3 :: l) (.ref v :: st) μ kc ks := x_astore_n hd (by show (3 : Nat) < _; simp only [List.length_cons]; omega) rfl K
theorem y_inc3 {w0 w1 w2 : Value} {l : List Value} {x v : Int32} {n : Int} {μ : zMem} {rm : Room} {kc ks : Nat} (hd : decode Y.2.1 pc = .ok (.iinc 3 n, 3)) (hv : Int32.ofInt n = v) (K : X Y rm sc F (pc + 3) (w0 :: w1 :: w2 :: .int (x + v) :: l) st μ kc ks) : X Y rm sc F pc (w0 :: w1 :: w2 :: .int x :: l) st μ kc ks := x_iinc (x := x) hd (by simp) (by rw [hv]) rfl K
theorem y_ist4 {w0 w1 w2 w3 w4 : Value} {l : List Value} {v : Int32} {μ : zMem} {rm : Room} {kc ks : Nat} (hd : decode Y.2.1 pc = .ok (.istore 4, 2)) (K : X Y rm sc F (pc + 2) (w0 :: w1 :: w2 :: w3 :: .int v :: l) st μ kc ks) : X Y rm sc F pc (w0 :: w1 :: w2 :: w3 :: w4 :: l) (.int v :: st) μ kc ks := x_istore hd (by show (4 : Nat) < _; simp only [List.length_cons]; omega) rfl K
theorem y_inc4 {w0 w1 w2 w3 : Value} {l : List Value} {x v : Int32} {n : Int} {μ : zMem} {rm : Room} {kc ks : Nat} (hd : decode Y.2.1 pc = .ok (.iinc 4 n, 3)) (hv : Int32.ofInt n = v) (K : X Y rm sc F (pc + 3) (w0 :: w1 :: w2 :: w3 :: .int (x + v) :: l) st μ kc ks) : X Y rm sc F pc (w0 :: w1 :: w2 :: w3 :: .int x :: l) st μ kc ks := x_iinc (x := x) hd (by simp) (by rw [hv]) rfl K
theorem y_ist5 {w0 w1 w2 w3 w4 w5 : Value} {l : List Value} {v : Int32} {μ : zMem} {rm : Room} {kc ks : Nat} (hd : decode Y.2.1 pc = .ok (.istore 5, 2)) (K : X Y rm sc F (pc + 2) (w0 :: w1 :: w2 :: w3 :: w4 :: .int v :: l) st μ kc ks) : X Y rm sc F pc (w0 :: w1 :: w2 :: w3 :: w4 :: w5 :: l) (.int v :: st) μ kc ks := x_istore hd (by show (5 : Nat) < _; simp only [List.length_cons]; omega) rfl K
theorem y_inc5 {w0 w1 w2 w3 w4 : Value} {l : List Value} {x v : Int32} {n : Int} {μ : zMem} {rm : Room} {kc ks : Nat} (hd : decode Y.2.1 pc = .ok (.iinc 5 n, 3)) (hv : Int32.ofInt n = v) (K : X Y rm sc F (pc + 3) (w0 :: w1 :: w2 :: w3 :: w4 :: .int (x + v) :: l) st μ kc ks) : X Y rm sc F pc (w0 :: w1 :: w2 :: w3 :: w4 :: .int x :: l) st μ kc ks := x_iinc (x := x) hd (by simp) (by rw [hv]) rfl K
theorem y_ist6 {w0 w1 w2 w3 w4 w5 w6 : Value} {l : List Value} {v : Int32} {μ : zMem} {rm : Room} {kc ks : Nat} (hd : decode Y.2.1 pc = .ok (.istore 6, 2)) (K : X Y rm sc F (pc + 2) (w0 :: w1 :: w2 :: w3 :: w4 :: w5 :: .int v :: l) st μ kc ks) : X Y rm sc F pc (w0 :: w1 :: w2 :: w3 :: w4 :: w5 :: w6 :: l) (.int v :: st) μ kc ks := x_istore hd (by show (6 : Nat) < _; simp only [List.length_cons]; omega) rfl K
theorem y_inc6 {w0 w1 w2 w3 w4 w5 : Value} {l : List Value} {x v : Int32} {n : Int} {μ : zMem} {rm : Room} {kc ks : Nat} (hd : decode Y.2.1 pc = .ok (.iinc 6 n, 3)) (hv : Int32.ofInt n = v) (K : X Y rm sc F (pc + 3) (w0 :: w1 :: w2 :: w3 :: w4 :: w5 :: .int (x + v) :: l) st μ kc ks) : X Y rm sc F pc (w0 :: w1 :: w2 :: w3 :: w4 :: w5 :: .int x :: l) st μ kc ks := x_iinc (x := x) hd (by simp) (by rw [hv]) rfl K
theorem y_ist7 {w0 w1 w2 w3 w4 w5 w6 w7 : Value} {l : List Value} {v : Int32} {μ : zMem} {rm : Room} {kc ks : Nat} (hd : decode Y.2.1 pc = .ok (.istore 7, 2)) (K : X Y rm sc F (pc + 2) (w0 :: w1 :: w2 :: w3 :: w4 :: w5 :: w6 :: .int v :: l) st μ kc ks) : X Y rm sc F pc (w0 :: w1 :: w2 :: w3 :: w4 :: w5 :: w6 :: w7 :: l) (.int v :: st) μ kc ks := x_istore hd (by show (7 : Nat) < _; simp only [List.length_cons]; omega) rfl K
theorem y_inc7 {w0 w1 w2 w3 w4 w5 w6 : Value} {l : List Value} {x v : Int32} {n : Int} {μ : zMem} {rm : Room} {kc ks : Nat} (hd : decode Y.2.1 pc = .ok (.iinc 7 n, 3)) (hv : Int32.ofInt n = v) (K : X Y rm sc F (pc + 3) (w0 :: w1 :: w2 :: w3 :: w4 :: w5 :: w6 :: .int (x + v) :: l) st μ kc ks) : X Y rm sc F pc (w0 :: w1 :: w2 :: w3 :: w4 :: w5 :: w6 :: .int x :: l) st μ kc ks := x_iinc (x := x) hd (by simp) (by rw [hv]) rfl K
theorem y_ist8 {w0 w1 w2 w3 w4 w5 w6 w7 w8 : Value} {l : List Value} {v : Int32} {μ : zMem} {rm : Room} {kc ks : Nat} (hd : decode Y.2.1 pc = .ok (.istore 8, 2)) (K : X Y rm sc F (pc + 2) (w0 :: w1 :: w2 :: w3 :: w4 :: w5 :: w6 :: w7 :: .int v :: l) st μ kc ks) : X Y rm sc F pc (w0 :: w1 :: w2 :: w3 :: w4 :: w5 :: w6 :: w7 :: w8 :: l) (.int v :: st) μ kc ks := x_istore hd (by show (8 : Nat) < _; simp only [List.length_cons]; omega) rfl K
theorem y_inc8 {w0 w1 w2 w3 w4 w5 w6 w7 : Value} {l : List Value} {x v : Int32} {n : Int} {μ : zMem} {rm : Room} {kc ks : Nat} (hd : decode Y.2.1 pc = .ok (.iinc 8 n, 3)) (hv : Int32.ofInt n = v) (K : X Y rm sc F (pc + 3) (w0 :: w1 :: w2 :: w3 :: w4 :: w5 :: w6 :: w7 :: .int (x + v) :: l) st μ kc ks) : X Y rm sc F pc (w0 :: w1 :: w2 :: w3 :: w4 :: w5 :: w6 :: w7 :: .int x :: l) st μ kc ks := x_iinc (x := x) hd (by simp) (by rw [hv]) rfl K
theorem y_ist9 {w0 w1 w2 w3 w4 w5 w6 w7 w8 w9 : Value} {l : List Value} {v : Int32} {μ : zMem} {rm : Room} {kc ks : Nat} (hd : decode Y.2.1 pc = .ok (.istore 9, 2)) (K : X Y rm sc F (pc + 2) (w0 :: w1 :: w2 :: w3 :: w4 :: w5 :: w6 :: w7 :: w8 :: .int v :: l) st μ kc ks) : X Y rm sc F pc (w0 :: w1 :: w2 :: w3 :: w4 :: w5 :: w6 :: w7 :: w8 :: w9 :: l) (.int v :: st) μ kc ks := x_istore hd (by show (9 : Nat) < _; simp only [List.length_cons]; omega) rfl K
theorem y_inc9 {w0 w1 w2 w3 w4 w5 w6 w7 w8 : Value} {l : List Value} {x v : Int32} {n : Int} {μ : zMem} {rm : Room} {kc ks : Nat} (hd : decode Y.2.1 pc = .ok (.iinc 9 n, 3)) (hv : Int32.ofInt n = v) (K : X Y rm sc F (pc + 3) (w0 :: w1 :: w2 :: w3 :: w4 :: w5 :: w6 :: w7 :: w8 :: .int (x + v) :: l) st μ kc ks) : X Y rm sc F pc (w0 :: w1 :: w2 :: w3 :: w4 :: w5 :: w6 :: w7 :: w8 :: .int x :: l) st μ kc ks := x_iinc (x := x) hd (by simp) (by rw [hv]) rfl K
theorem y_ist10 {w0 w1 w2 w3 w4 w5 w6 w7 w8 w9 w10 : Value} {l : List Value} {v : Int32} {μ : zMem} {rm : Room} {kc ks : Nat} (hd : decode Y.2.1 pc = .ok (.istore 10, 2)) (K : X Y rm sc F (pc + 2) (w0 :: w1 :: w2 :: w3 :: w4 :: w5 :: w6 :: w7 :: w8 :: w9 :: .int v :: l) st μ kc ks) : X Y rm sc F pc (w0 :: w1 :: w2 :: w3 :: w4 :: w5 :: w6 :: w7 :: w8 :: w9 :: w10 :: l) (.int v :: st) μ kc ks := x_istore hd (by show (10 : Nat) < _; simp only [List.length_cons]; omega) rfl K
theorem y_inc10 {w0 w1 w2 w3 w4 w5 w6 w7 w8 w9 : Value} {l : List Value} {x v : Int32} {n : Int} {μ : zMem} {rm : Room} {kc ks : Nat} (hd : decode Y.2.1 pc = .ok (.iinc 10 n, 3)) (hv : Int32.ofInt n = v) (K : X Y rm sc F (pc + 3) (w0 :: w1 :: w2 :: w3 :: w4 :: w5 :: w6 :: w7 :: w8 :: w9 :: .int (x + v) :: l) st μ kc ks) : X Y rm sc F pc (w0 :: w1 :: w2 :: w3 :: w4 :: w5 :: w6 :: w7 :: w8 :: w9 :: .int x :: l) st μ kc ks := x_iinc (x := x) hd (by simp) (by rw [hv]) rfl K
theorem y_ist11 {w0 w1 w2 w3 w4 w5 w6 w7 w8 w9 w10 w11 : Value} {l : List Value} {v : Int32} {μ : zMem} {rm : Room} {kc ks : Nat} (hd : decode Y.2.1 pc = .ok (.istore 11, 2)) (K : X Y rm sc F (pc + 2) (w0 :: w1 :: w2 :: w3 :: w4 :: w5 :: w6 :: w7 :: w8 :: w9 :: w10 :: .int v :: l) st μ kc ks) : X Y rm sc F pc (w0 :: w1 :: w2 :: w3 :: w4 :: w5 :: w6 :: w7 :: w8 :: w9 :: w10 :: w11 :: l) (.int v :: st) μ kc ks := x_istore hd (by show (11 : Nat) < _; simp only [List.length_cons]; omega) rfl K
theorem y_inc11 {w0 w1 w2 w3 w4 w5 w6 w7 w8 w9 w10 : Value} {l : List Value} {x v : Int32} {n : Int} {μ : zMem} {rm : Room} {kc ks : Nat} (hd : decode Y.2.1 pc = .ok (.iinc 11 n, 3)) (hv : Int32.ofInt n = v) (K : X Y rm sc F (pc + 3) (w0 :: w1 :: w2 :: w3 :: w4 :: w5 :: w6 :: w7 :: w8 :: w9 :: w10 :: .int (x + v) :: l) st μ kc ks) : X Y rm sc F pc (w0 :: w1 :: w2 :: w3 :: w4 :: w5 :: w6 :: w7 :: w8 :: w9 :: w10 :: .int x :: l) st μ kc ks := x_iinc (x := x) hd (by simp) (by rw [hv]) rfl K
theorem y_ist12 {w0 w1 w2 w3 w4 w5 w6 w7 w8 w9 w10 w11 w12 : Value} {l : List Value} {v : Int32} {μ : zMem} {rm : Room} {kc ks : Nat} (hd : decode Y.2.1 pc = .ok (.istore 12, 2)) (K : X Y rm sc F (pc + 2) (w0 :: w1 :: w2 :: w3 :: w4 :: w5 :: w6 :: w7 :: w8 :: w9 :: w10 :: w11 :: .int v :: l) st μ kc ks) : X Y rm sc F pc (w0 :: w1 :: w2 :: w3 :: w4 :: w5 :: w6 :: w7 :: w8 :: w9 :: w10 :: w11 :: w12 :: l) (.int v :: st) μ kc ks := x_istore hd (by show (12 : Nat) < _; simp only [List.length_cons]; omega) rfl K
theorem y_inc12 {w0 w1 w2 w3 w4 w5 w6 w7 w8 w9 w10 w11 : Value} {l : List Value} {x v : Int32} {n : Int} {μ : zMem} {rm : Room} {kc ks : Nat} (hd : decode Y.2.1 pc = .ok (.iinc 12 n, 3)) (hv : Int32.ofInt n = v) (K : X Y rm sc F (pc + 3) (w0 :: w1 :: w2 :: w3 :: w4 :: w5 :: w6 :: w7 :: w8 :: w9 :: w10 :: w11 :: .int (x + v) :: l) st μ kc ks) : X Y rm sc F pc (w0 :: w1 :: w2 :: w3 :: w4 :: w5 :: w6 :: w7 :: w8 :: w9 :: w10 :: w11 :: .int x :: l) st μ kc ks := x_iinc (x := x) hd (by simp) (by rw [hv]) rfl K
end YR
theorem p_CW_init : (parseMethodDescriptor Y_CW_init.1.desc).map (fun d => d.parameters.length) = some 0 := by decide +kernel
theorem p_Net_init : (parseMethodDescriptor Y_Net_init.1.desc).map (fun d => d.parameters.length) = some 0 := by decide +kernel
theorem p_Pat_init : (parseMethodDescriptor Y_Pat_init.1.desc).map (fun d => d.parameters.length) = some 1 := by decide +kernel
theorem p_Sha_init : (parseMethodDescriptor Y_Sha_init.1.desc).map (fun d => d.parameters.length) = some 2 := by decide +kernel
theorem p_Tai_init : (parseMethodDescriptor Y_Tai_init.1.desc).map (fun d => d.parameters.length) = some 3 := by decide +kernel
theorem p_Fir_init : (parseMethodDescriptor Y_Fir_init.1.desc).map (fun d => d.parameters.length) = some 3 := by decide +kernel
theorem p_Tre_init : (parseMethodDescriptor Y_Tre_init.1.desc).map (fun d => d.parameters.length) = some 1 := by decide +kernel
theorem p_Pai_init : (parseMethodDescriptor Y_Pai_init.1.desc).map (fun d => d.parameters.length) = some 1 := by decide +kernel
theorem p_Cir_init : (parseMethodDescriptor Y_Cir_init.1.desc).map (fun d => d.parameters.length) = some 1 := by decide +kernel
theorem p_Way_init : (parseMethodDescriptor Y_Way_init.1.desc).map (fun d => d.parameters.length) = some 1 := by decide +kernel
theorem p_Row_init : (parseMethodDescriptor Y_Row_init.1.desc).map (fun d => d.parameters.length) = some 1 := by decide +kernel
theorem p_CW_node : (parseMethodDescriptor Y_CW_node.1.desc).map (fun d => d.parameters.length) = some 1 := by decide +kernel
theorem p_Net_addNode : (parseMethodDescriptor Y_Net_addNode.1.desc).map (fun d => d.parameters.length) = some 1 := by decide +kernel
theorem p_CW_arc : (parseMethodDescriptor Y_CW_arc.1.desc).map (fun d => d.parameters.length) = some 3 := by decide +kernel
theorem p_Net_areTwo : (parseMethodDescriptor Y_Net_areTwo.1.desc).map (fun d => d.parameters.length) = some 2 := by decide +kernel
theorem p_Net_isNode : (parseMethodDescriptor Y_Net_isNode.1.desc).map (fun d => d.parameters.length) = some 1 := by decide +kernel
theorem p_Net_changeCost : (parseMethodDescriptor Y_Net_changeCost.1.desc).map (fun d => d.parameters.length) = some 3 := by decide +kernel
theorem p_CW_orNone : (parseMethodDescriptor Y_CW_orNone.1.desc).map (fun d => d.parameters.length) = some 1 := by decide +kernel
theorem p_CW_lose : (parseMethodDescriptor Y_CW_lose.1.desc).map (fun d => d.parameters.length) = some 2 := by decide +kernel
theorem p_CW_price : (parseMethodDescriptor Y_CW_price.1.desc).map (fun d => d.parameters.length) = some 2 := by decide +kernel
theorem p_Net_isPlace : (parseMethodDescriptor Y_Net_isPlace.1.desc).map (fun d => d.parameters.length) = some 1 := by decide +kernel
theorem p_Net_changePrice : (parseMethodDescriptor Y_Net_changePrice.1.desc).map (fun d => d.parameters.length) = some 2 := by decide +kernel
theorem p_CW_ahead : (parseMethodDescriptor Y_CW_ahead.1.desc).map (fun d => d.parameters.length) = some 3 := by decide +kernel
theorem p_Net_changeEarlier : (parseMethodDescriptor Y_Net_changeEarlier.1.desc).map (fun d => d.parameters.length) = some 3 := by decide +kernel
theorem p_CW_bit : (parseMethodDescriptor Y_CW_bit.1.desc).map (fun d => d.parameters.length) = some 1 := by decide +kernel
theorem p_CW_rule : (parseMethodDescriptor Y_CW_rule.1.desc).map (fun d => d.parameters.length) = some 2 := by decide +kernel
theorem p_Net_changeMost : (parseMethodDescriptor Y_Net_changeMost.1.desc).map (fun d => d.parameters.length) = some 1 := by decide +kernel
theorem p_Net_changeRoom : (parseMethodDescriptor Y_Net_changeRoom.1.desc).map (fun d => d.parameters.length) = some 1 := by decide +kernel
theorem p_Net_changeOpen : (parseMethodDescriptor Y_Net_changeOpen.1.desc).map (fun d => d.parameters.length) = some 1 := by decide +kernel
theorem p_CW_best : (parseMethodDescriptor Y_CW_best.1.desc).map (fun d => d.parameters.length) = some 0 := by decide +kernel
theorem p_Sha_refresh : (parseMethodDescriptor Y_Sha_refresh.1.desc).map (fun d => d.parameters.length) = some 0 := by decide +kernel
theorem p_Pat_compute : (parseMethodDescriptor Y_Pat_compute.1.desc).map (fun d => d.parameters.length) = some 0 := by decide +kernel
theorem p_Pat_addLoads : (parseMethodDescriptor Y_Pat_addLoads.1.desc).map (fun d => d.parameters.length) = some 0 := by decide +kernel
theorem p_Pat_clearPaths : (parseMethodDescriptor Y_Pat_clearPaths.1.desc).map (fun d => d.parameters.length) = some 0 := by decide +kernel
theorem p_Net_allPlaces : (parseMethodDescriptor Y_Net_allPlaces.1.desc).map (fun d => d.parameters.length) = some 0 := by decide +kernel
theorem p_Pat_followersOf : (parseMethodDescriptor Y_Pat_followersOf.1.desc).map (fun d => d.parameters.length) = some 1 := by decide +kernel
theorem p_Pat_extend : (parseMethodDescriptor Y_Pat_extend.1.desc).map (fun d => d.parameters.length) = some 2 := by decide +kernel
theorem p_Pat_closeRound : (parseMethodDescriptor Y_Pat_closeRound.1.desc).map (fun d => d.parameters.length) = some 1 := by decide +kernel
theorem p_Net_costBack : (parseMethodDescriptor Y_Net_costBack.1.desc).map (fun d => d.parameters.length) = some 1 := by decide +kernel
theorem p_CW_sum : (parseMethodDescriptor Y_CW_sum.1.desc).map (fun d => d.parameters.length) = some 2 := by decide +kernel
theorem p_Net_costOut : (parseMethodDescriptor Y_Net_costOut.1.desc).map (fun d => d.parameters.length) = some 1 := by decide +kernel
theorem p_JI_bitCount : (parseMethodDescriptor Y_JI_bitCount.1.desc).map (fun d => d.parameters.length) = some 1 := by decide +kernel
theorem p_Sha_copyShare : (parseMethodDescriptor Y_Sha_copyShare.1.desc).map (fun d => d.parameters.length) = some 2 := by decide +kernel
theorem p_Sha_share : (parseMethodDescriptor Y_Sha_share.1.desc).map (fun d => d.parameters.length) = some 2 := by decide +kernel
theorem p_Sha_offer : (parseMethodDescriptor Y_Sha_offer.1.desc).map (fun d => d.parameters.length) = some 2 := by decide +kernel
theorem p_Sha_leastCost : (parseMethodDescriptor Y_Sha_leastCost.1.desc).map (fun d => d.parameters.length) = some 0 := by decide +kernel
theorem p_CW_many : (parseMethodDescriptor Y_CW_many.1.desc).map (fun d => d.parameters.length) = some 0 := by decide +kernel
theorem p_Sha_leastWays : (parseMethodDescriptor Y_Sha_leastWays.1.desc).map (fun d => d.parameters.length) = some 0 := by decide +kernel
theorem p_CW_first : (parseMethodDescriptor Y_CW_first.1.desc).map (fun d => d.parameters.length) = some 1 := by decide +kernel
theorem p_Fir_refresh : (parseMethodDescriptor Y_Fir_refresh.1.desc).map (fun d => d.parameters.length) = some 0 := by decide +kernel
theorem p_Fir_write : (parseMethodDescriptor Y_Fir_write.1.desc).map (fun d => d.parameters.length) = some 1 := by decide +kernel
theorem p_Tai_fill : (parseMethodDescriptor Y_Tai_fill.1.desc).map (fun d => d.parameters.length) = some 2 := by decide +kernel
theorem p_Tai_leastBehind : (parseMethodDescriptor Y_Tai_leastBehind.1.desc).map (fun d => d.parameters.length) = some 2 := by decide +kernel
theorem p_Tai_costClosing : (parseMethodDescriptor Y_Tai_costClosing.1.desc).map (fun d => d.parameters.length) = some 2 := by decide +kernel
theorem p_Tai_costOver : (parseMethodDescriptor Y_Tai_costOver.1.desc).map (fun d => d.parameters.length) = some 3 := by decide +kernel
theorem p_Fir_writeRound : (parseMethodDescriptor Y_Fir_writeRound.1.desc).map (fun d => d.parameters.length) = some 0 := by decide +kernel
theorem p_Fir_followerDue : (parseMethodDescriptor Y_Fir_followerDue.1.desc).map (fun d => d.parameters.length) = some 2 := by decide +kernel
theorem p_CW_with : (parseMethodDescriptor Y_CW_with.1.desc).map (fun d => d.parameters.length) = some 2 := by decide +kernel
theorem p_Tai_leastThrough : (parseMethodDescriptor Y_Tai_leastThrough.1.desc).map (fun d => d.parameters.length) = some 3 := by decide +kernel
theorem p_CW_without : (parseMethodDescriptor Y_CW_without.1.desc).map (fun d => d.parameters.length) = some 1 := by decide +kernel
theorem p_Sha_leastLeavingOut : (parseMethodDescriptor Y_Sha_leastLeavingOut.1.desc).map (fun d => d.parameters.length) = some 1 := by decide +kernel
theorem p_CW_filter : (parseMethodDescriptor Y_CW_filter.1.desc).map (fun d => d.parameters.length) = some 1 := by decide +kernel
theorem p_Tai_dropArcsAbove : (parseMethodDescriptor Y_Tai_dropArcsAbove.1.desc).map (fun d => d.parameters.length) = some 1 := by decide +kernel
theorem p_CW_weight : (parseMethodDescriptor Y_CW_weight.1.desc).map (fun d => d.parameters.length) = some 2 := by decide +kernel
theorem p_Tre_changeWeight : (parseMethodDescriptor Y_Tre_changeWeight.1.desc).map (fun d => d.parameters.length) = some 2 := by decide +kernel
theorem p_CW_bound : (parseMethodDescriptor Y_CW_bound.1.desc).map (fun d => d.parameters.length) = some 0 := by decide +kernel
theorem p_Tre_grow : (parseMethodDescriptor Y_Tre_grow.1.desc).map (fun d => d.parameters.length) = some 0 := by decide +kernel
theorem p_Tre_chooseJoining : (parseMethodDescriptor Y_Tre_chooseJoining.1.desc).map (fun d => d.parameters.length) = some 0 := by decide +kernel
theorem p_Tre_edgeCost : (parseMethodDescriptor Y_Tre_edgeCost.1.desc).map (fun d => d.parameters.length) = some 2 := by decide +kernel
theorem p_Tre_choose : (parseMethodDescriptor Y_Tre_choose.1.desc).map (fun d => d.parameters.length) = some 2 := by decide +kernel
theorem p_Tre_chooseAtHouse : (parseMethodDescriptor Y_Tre_chooseAtHouse.1.desc).map (fun d => d.parameters.length) = some 1 := by decide +kernel
theorem p_Tre_lowerBound : (parseMethodDescriptor Y_Tre_lowerBound.1.desc).map (fun d => d.parameters.length) = some 0 := by decide +kernel
theorem p_CW_edge : (parseMethodDescriptor Y_CW_edge.1.desc).map (fun d => d.parameters.length) = some 2 := by decide +kernel
theorem p_CW_degree : (parseMethodDescriptor Y_CW_degree.1.desc).map (fun d => d.parameters.length) = some 1 := by decide +kernel
theorem p_Tre_edgesAt : (parseMethodDescriptor Y_Tre_edgesAt.1.desc).map (fun d => d.parameters.length) = some 1 := by decide +kernel
theorem p_CW_pairing : (parseMethodDescriptor Y_CW_pairing.1.desc).map (fun d => d.parameters.length) = some 0 := by decide +kernel
theorem p_Pai_leastCost : (parseMethodDescriptor Y_Pai_leastCost.1.desc).map (fun d => d.parameters.length) = some 0 := by decide +kernel
theorem p_CW_next : (parseMethodDescriptor Y_CW_next.1.desc).map (fun d => d.parameters.length) = some 2 := by decide +kernel
theorem p_Cir_changeFollower : (parseMethodDescriptor Y_Cir_changeFollower.1.desc).map (fun d => d.parameters.length) = some 2 := by decide +kernel
theorem p_CW_circle : (parseMethodDescriptor Y_CW_circle.1.desc).map (fun d => d.parameters.length) = some 1 := by decide +kernel
theorem p_Cir_find : (parseMethodDescriptor Y_Cir_find.1.desc).map (fun d => d.parameters.length) = some 0 := by decide +kernel
theorem p_Cir_circleFrom : (parseMethodDescriptor Y_Cir_circleFrom.1.desc).map (fun d => d.parameters.length) = some 1 := by decide +kernel
theorem p_CW_nearest : (parseMethodDescriptor Y_CW_nearest.1.desc).map (fun d => d.parameters.length) = some 1 := by decide +kernel
theorem p_Way_nearestLeading : (parseMethodDescriptor Y_Way_nearestLeading.1.desc).map (fun d => d.parameters.length) = some 1 := by decide +kernel
theorem p_Way_reached : (parseMethodDescriptor Y_Way_reached.1.desc).map (fun d => d.parameters.length) = some 1 := by decide +kernel
theorem p_Way_stepFrom : (parseMethodDescriptor Y_Way_stepFrom.1.desc).map (fun d => d.parameters.length) = some 2 := by decide +kernel
theorem p_Way_leads : (parseMethodDescriptor Y_Way_leads.1.desc).map (fun d => d.parameters.length) = some 2 := by decide +kernel
theorem p_Way_isNearest : (parseMethodDescriptor Y_Way_isNearest.1.desc).map (fun d => d.parameters.length) = some 2 := by decide +kernel
theorem p_CW_put : (parseMethodDescriptor Y_CW_put.1.desc).map (fun d => d.parameters.length) = some 1 := by decide +kernel
theorem p_Row_append : (parseMethodDescriptor Y_Row_append.1.desc).map (fun d => d.parameters.length) = some 1 := by decide +kernel
theorem p_CW_keep : (parseMethodDescriptor Y_CW_keep.1.desc).map (fun d => d.parameters.length) = some 1 := by decide +kernel
theorem p_Row_cut : (parseMethodDescriptor Y_Row_cut.1.desc).map (fun d => d.parameters.length) = some 1 := by decide +kernel
theorem p_CW_check : (parseMethodDescriptor Y_CW_check.1.desc).map (fun d => d.parameters.length) = some 0 := by decide +kernel
theorem p_Row_cost : (parseMethodDescriptor Y_Row_cost.1.desc).map (fun d => d.parameters.length) = some 0 := by decide +kernel
theorem p_Row_planCost : (parseMethodDescriptor Y_Row_planCost.1.desc).map (fun d => d.parameters.length) = some 2 := by decide +kernel
theorem p_Row_roundCost : (parseMethodDescriptor Y_Row_roundCost.1.desc).map (fun d => d.parameters.length) = some 3 := by decide +kernel
theorem p_CW_insert : (parseMethodDescriptor Y_CW_insert.1.desc).map (fun d => d.parameters.length) = some 1 := by decide +kernel
theorem p_Row_cheapestPlace : (parseMethodDescriptor Y_Row_cheapestPlace.1.desc).map (fun d => d.parameters.length) = some 1 := by decide +kernel
theorem p_CW_count : (parseMethodDescriptor Y_CW_count.1.desc).map (fun d => d.parameters.length) = some 1 := by decide +kernel
theorem p_Net_arcs : (parseMethodDescriptor Y_Net_arcs.1.desc).map (fun d => d.parameters.length) = some 0 := by decide +kernel
theorem p_Net_pairsAhead : (parseMethodDescriptor Y_Net_pairsAhead.1.desc).map (fun d => d.parameters.length) = some 0 := by decide +kernel
theorem p_Mo_init : (parseMethodDescriptor Y_Mo_init.1.desc).map (fun d => d.parameters.length) = some 0 := by decide +kernel
theorem p_Mo_node : (parseMethodDescriptor Y_Mo_node.1.desc).map (fun d => d.parameters.length) = some 1 := by decide +kernel
theorem p_Mo_in : (parseMethodDescriptor Y_Mo_in.1.desc).map (fun d => d.parameters.length) = some 3 := by decide +kernel
theorem p_Mo_arc : (parseMethodDescriptor Y_Mo_arc.1.desc).map (fun d => d.parameters.length) = some 3 := by decide +kernel
theorem p_Mo_noTwo : (parseMethodDescriptor Y_Mo_noTwo.1.desc).map (fun d => d.parameters.length) = some 2 := by decide +kernel
theorem p_Mo_noNode : (parseMethodDescriptor Y_Mo_noNode.1.desc).map (fun d => d.parameters.length) = some 1 := by decide +kernel
theorem p_Mo_lose : (parseMethodDescriptor Y_Mo_lose.1.desc).map (fun d => d.parameters.length) = some 2 := by decide +kernel
theorem p_Mo_price : (parseMethodDescriptor Y_Mo_price.1.desc).map (fun d => d.parameters.length) = some 2 := by decide +kernel
theorem p_Mo_ahead : (parseMethodDescriptor Y_Mo_ahead.1.desc).map (fun d => d.parameters.length) = some 3 := by decide +kernel
theorem p_Mo_rule : (parseMethodDescriptor Y_Mo_rule.1.desc).map (fun d => d.parameters.length) = some 2 := by decide +kernel
theorem p_Mo_best : (parseMethodDescriptor Y_Mo_best.1.desc).map (fun d => d.parameters.length) = some 0 := by decide +kernel
theorem p_Mo_know : (parseMethodDescriptor Y_Mo_know.1.desc).map (fun d => d.parameters.length) = some 0 := by decide +kernel
theorem p_Mo_atHouse : (parseMethodDescriptor Y_Mo_atHouse.1.desc).map (fun d => d.parameters.length) = some 3 := by decide +kernel
theorem p_Mo_whole : (parseMethodDescriptor Y_Mo_whole.1.desc).map (fun d => d.parameters.length) = some 1 := by decide +kernel
theorem p_Mo_isBeforeFirst : (parseMethodDescriptor Y_Mo_isBeforeFirst.1.desc).map (fun d => d.parameters.length) = some 0 := by decide +kernel
theorem p_Mo_mayCome : (parseMethodDescriptor Y_Mo_mayCome.1.desc).map (fun d => d.parameters.length) = some 2 := by decide +kernel
theorem p_Mo_write : (parseMethodDescriptor Y_Mo_write.1.desc).map (fun d => d.parameters.length) = some 1 := by decide +kernel
theorem p_Mo_atNode : (parseMethodDescriptor Y_Mo_atNode.1.desc).map (fun d => d.parameters.length) = some 5 := by decide +kernel
theorem p_Mo_note : (parseMethodDescriptor Y_Mo_note.1.desc).map (fun d => d.parameters.length) = some 3 := by decide +kernel
theorem p_Mo_many : (parseMethodDescriptor Y_Mo_many.1.desc).map (fun d => d.parameters.length) = some 0 := by decide +kernel
theorem p_Mo_first : (parseMethodDescriptor Y_Mo_first.1.desc).map (fun d => d.parameters.length) = some 1 := by decide +kernel
theorem p_Mo_with : (parseMethodDescriptor Y_Mo_with.1.desc).map (fun d => d.parameters.length) = some 2 := by decide +kernel
theorem p_Mo_told : (parseMethodDescriptor Y_Mo_told.1.desc).map (fun d => d.parameters.length) = some 1 := by decide +kernel
theorem p_Mo_without : (parseMethodDescriptor Y_Mo_without.1.desc).map (fun d => d.parameters.length) = some 1 := by decide +kernel
theorem p_Mo_filter : (parseMethodDescriptor Y_Mo_filter.1.desc).map (fun d => d.parameters.length) = some 1 := by decide +kernel
theorem p_Mo_weight : (parseMethodDescriptor Y_Mo_weight.1.desc).map (fun d => d.parameters.length) = some 2 := by decide +kernel
theorem p_Mo_bound : (parseMethodDescriptor Y_Mo_bound.1.desc).map (fun d => d.parameters.length) = some 0 := by decide +kernel
theorem p_Mo_makeTree : (parseMethodDescriptor Y_Mo_makeTree.1.desc).map (fun d => d.parameters.length) = some 0 := by decide +kernel
theorem p_Mo_choose : (parseMethodDescriptor Y_Mo_choose.1.desc).map (fun d => d.parameters.length) = some 1 := by decide +kernel
theorem p_Mo_edgeCost : (parseMethodDescriptor Y_Mo_edgeCost.1.desc).map (fun d => d.parameters.length) = some 2 := by decide +kernel
theorem p_Mo_hasEdge : (parseMethodDescriptor Y_Mo_hasEdge.1.desc).map (fun d => d.parameters.length) = some 2 := by decide +kernel
theorem p_Mo_edge : (parseMethodDescriptor Y_Mo_edge.1.desc).map (fun d => d.parameters.length) = some 2 := by decide +kernel
theorem p_Mo_degree : (parseMethodDescriptor Y_Mo_degree.1.desc).map (fun d => d.parameters.length) = some 1 := by decide +kernel
theorem p_Mo_pairing : (parseMethodDescriptor Y_Mo_pairing.1.desc).map (fun d => d.parameters.length) = some 0 := by decide +kernel
theorem p_Mo_next : (parseMethodDescriptor Y_Mo_next.1.desc).map (fun d => d.parameters.length) = some 2 := by decide +kernel
theorem p_Mo_circle : (parseMethodDescriptor Y_Mo_circle.1.desc).map (fun d => d.parameters.length) = some 1 := by decide +kernel
theorem p_Mo_circleOf : (parseMethodDescriptor Y_Mo_circleOf.1.desc).map (fun d => d.parameters.length) = some 1 := by decide +kernel
theorem p_Mo_nearest : (parseMethodDescriptor Y_Mo_nearest.1.desc).map (fun d => d.parameters.length) = some 1 := by decide +kernel
theorem p_Mo_leads : (parseMethodDescriptor Y_Mo_leads.1.desc).map (fun d => d.parameters.length) = some 2 := by decide +kernel
theorem p_Mo_reached : (parseMethodDescriptor Y_Mo_reached.1.desc).map (fun d => d.parameters.length) = some 1 := by decide +kernel
theorem p_Mo_put : (parseMethodDescriptor Y_Mo_put.1.desc).map (fun d => d.parameters.length) = some 1 := by decide +kernel
theorem p_Mo_keep : (parseMethodDescriptor Y_Mo_keep.1.desc).map (fun d => d.parameters.length) = some 1 := by decide +kernel
theorem p_Mo_check : (parseMethodDescriptor Y_Mo_check.1.desc).map (fun d => d.parameters.length) = some 0 := by decide +kernel
theorem p_Mo_costOf : (parseMethodDescriptor Y_Mo_costOf.1.desc).map (fun d => d.parameters.length) = some 2 := by decide +kernel
theorem p_Mo_insert : (parseMethodDescriptor Y_Mo_insert.1.desc).map (fun d => d.parameters.length) = some 1 := by decide +kernel
theorem p_Mo_count : (parseMethodDescriptor Y_Mo_count.1.desc).map (fun d => d.parameters.length) = some 1 := by decide +kernel
