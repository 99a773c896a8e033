/-! the tree: the first least edge, a run of choices -/
def zbf (a' b' a b : Nat) : Prop := a' < a ∨ (a' = a ∧ b' < b)
def zBst (P : Nat → Nat → Prop) (c : Nat → Nat → Int32) (a b : Nat) : Prop := P a b ∧ ∀ a' b', P a' b' → c a b < c a' b' ∨ (c a b = c a' b' ∧ (a < a' ∨ (a = a' ∧ b ≤ b')))
def zOut (P : Nat → Nat → Prop) (c : Nat → Nat → Int32) : Option (Nat × Nat) → Prop
  | none => ∀ a b, ¬ P a b
  | some e => zBst P c e.1 e.2
def zSc (P : Nat → Nat → Prop) (c : Nat → Nat → Int32) (a b : Nat) (o : Option (Nat × Nat)) : Prop := zOut (fun a' b' => P a' b' ∧ zbf a' b' a b) c o
def zoL (c : Nat → Nat → Int32) : Option (Nat × Nat) → Int32
  | none => 1000000000
  | some e => c e.1 e.2
def zoF (d : Int32) : Option (Nat × Nat) → Int32
  | none => d
  | some e => nI e.1
def zoT (d : Int32) : Option (Nat × Nat) → Int32
  | none => d
  | some e => nI e.2
theorem zBst_one {P P' : Nat → Nat → Prop} {c c' : Nat → Nat → Int32} {a b a' b' : Nat} (h : zBst P c a b) (h' : zBst P' c' a' b') (hP : ∀ a b, P a b ↔ P' a b) (hc : ∀ a b, P a b → c a b = c' a b) : a = a' ∧ b = b' := by
  have e1 := h.2 a' b' ((hP _ _).mpr h'.1)
  have e2 := h'.2 a b ((hP _ _).mp h.1)
  rw [← hc a b h.1, ← hc a' b' ((hP _ _).mpr h'.1)] at e2
  rw [z_lt, z_eq] at e1 e2
  omega
theorem zOut_one {P P' : Nat → Nat → Prop} {c c' : Nat → Nat → Int32} {o o' : Option (Nat × Nat)} (h : zOut P c o) (h' : zOut P' c' o') (hP : ∀ a b, P a b ↔ P' a b) (hc : ∀ a b, P a b → c a b = c' a b) : o = o' := by
  cases o with
  | none => cases o' with
    | none => rfl
    | some e => exact absurd ((hP _ _).mpr h'.1) (h _ _)
  | some e => cases o' with
    | none => exact absurd ((hP _ _).mp h.1) (h' _ _)
    | some e' =>
      obtain ⟨q1, q2⟩ := zBst_one h h' hP hc
      rw [show e = e' from Prod.ext q1 q2]
theorem zOut_iff {P P' : Nat → Nat → Prop} {c c' : Nat → Nat → Int32} {o : Option (Nat × Nat)} (h : zOut P c o) (hP : ∀ a b, P a b ↔ P' a b) (hc : ∀ a b, P a b → c a b = c' a b) : zOut P' c' o := by
  cases o with
  | none => exact fun a b q => h a b ((hP a b).mpr q)
  | some e =>
    refine ⟨(hP _ _).mp h.1, fun a' b' q => ?_⟩
    have q' := (hP _ _).mpr q
    rw [← hc _ _ h.1, ← hc _ _ q']
    exact h.2 a' b' q'
theorem zSc_P {P : Nat → Nat → Prop} {c : Nat → Nat → Int32} {a b : Nat} {e : Nat × Nat} (h : zSc P c a b (some e)) : P e.1 e.2 := (show zBst (fun a' b' => P a' b' ∧ zbf a' b' a b) c e.1 e.2 from h).1.1
theorem zSc_0 {P : Nat → Nat → Prop} {c : Nat → Nat → Int32} {a b : Nat} (h : ∀ a' b', P a' b' → ¬ zbf a' b' a b) : zSc P c a b none := fun a' b' q => h a' b' q.1 q.2
theorem zSc_skip {P : Nat → Nat → Prop} {c : Nat → Nat → Int32} {a b : Nat} {o : Option (Nat × Nat)} (h : zSc P c a b o) (hs : P a b → ∃ e, o = some e ∧ ¬ c a b < c e.1 e.2) : zSc P c a (b + 1) o := by
  cases o with
  | none =>
    intro a' b' q
    refine h a' b' ⟨q.1, ?_⟩
    by_cases hab : a' = a ∧ b' = b
    · rw [hab.1, hab.2] at q
      obtain ⟨e, he, -⟩ := hs q.1
      exact absurd he (by simp)
    · have := q.2; unfold zbf at this ⊢; omega
  | some e =>
    have h : zBst (fun a' b' => P a' b' ∧ zbf a' b' a b) c e.1 e.2 := h
    have hb := h.1.2
    refine ⟨⟨h.1.1, by unfold zbf at hb ⊢; omega⟩, fun a' b' q => ?_⟩
    by_cases hab : a' = a ∧ b' = b
    · rw [hab.1, hab.2] at q ⊢
      obtain ⟨e', he, hn⟩ := hs q.1
      rw [← Option.some.inj he] at hn
      rw [z_lt, z_eq] at *
      unfold zbf at hb
      omega
    · exact h.2 a' b' ⟨q.1, by have := q.2; unfold zbf at this ⊢; omega⟩
theorem zSc_take {P : Nat → Nat → Prop} {c : Nat → Nat → Int32} {a b : Nat} {o : Option (Nat × Nat)} (h : zSc P c a b o) (hp : P a b) (ht : ∀ e, o = some e → c a b < c e.1 e.2) : zSc P c a (b + 1) (some (a, b)) := by
  refine ⟨⟨hp, Or.inr ⟨rfl, Nat.lt_succ_self _⟩⟩, fun a' b' q => ?_⟩
  by_cases hab : a' = a ∧ b' = b
  · rw [hab.1, hab.2]; exact Or.inr ⟨rfl, Or.inr ⟨rfl, Nat.le_refl _⟩⟩
  · have q' : P a' b' ∧ zbf a' b' a b := ⟨q.1, by have := q.2; unfold zbf at this ⊢; omega⟩
    cases o with
    | none => exact absurd q' (h a' b')
    | some e =>
      have h1 := ht e rfl
      have h2 := (show zBst (fun a' b' => P a' b' ∧ zbf a' b' a b) c e.1 e.2 from h).2 a' b' q'
      refine Or.inl ?_
      rw [z_lt] at h1 ⊢
      rw [z_lt, z_eq] at h2
      show (c a b).toInt < _
      omega
theorem zSc_to {P : Nat → Nat → Prop} {c : Nat → Nat → Int32} {a b a2 b2 : Nat} {o : Option (Nat × Nat)} (h : zSc P c a b o) (hs : ∀ a' b', P a' b' → (zbf a' b' a b ↔ zbf a' b' a2 b2)) : zSc P c a2 b2 o :=
  zOut_iff h (fun a' b' => ⟨fun q => ⟨q.1, (hs _ _ q.1).mp q.2⟩, fun q => ⟨q.1, (hs _ _ q.1).mpr q.2⟩⟩) (fun _ _ _ => rfl)
theorem zSc_end {P : Nat → Nat → Prop} {c : Nat → Nat → Int32} {a b : Nat} {o : Option (Nat × Nat)} (h : zSc P c a b o) (hs : ∀ a' b', P a' b' → zbf a' b' a b) : zOut P c o :=
  zOut_iff h (fun a' b' => ⟨fun q => q.1, fun q => ⟨q, hs _ _ q⟩⟩) (fun _ _ _ => rfl)
def zPj (c : Nat → Nat → Int32) (no : Int32) (n : Nat) (pt : Nat → Nat) (a b : Nat) : Prop := 1 ≤ a ∧ a < b ∧ b < n ∧ ¬ pt a = pt b ∧ ¬ c a b = no
def zPh (c : Nat → Nat → Int32) (no : Int32) (n : Nat) (t : Nat) (a b : Nat) : Prop := a = 0 ∧ 1 ≤ b ∧ b < n ∧ ¬ b = t ∧ ¬ c a b = no
def zMrg (pt : Nat → Nat) (a b : Nat) (v : Nat) : Nat := if pt v = pt b then pt a else pt v
def zRun (c : Nat → Nat → Int32) (no : Int32) (n : Nat) : Nat → List (Nat × Nat) → (Nat → Nat) → Prop
  | 0, es, pt => es = [] ∧ pt = fun v => v
  | k + 1, es, pt => ∃ es0 pt0 a b, zRun c no n k es0 pt0 ∧ zOut (zPj c no n pt0) c (some (a, b)) ∧ es = es0 ++ [(a, b)] ∧ pt = zMrg pt0 a b
theorem zRun_one {c c' : Nat → Nat → Int32} {no no' : Int32} {n : Nat} (hP : ∀ a b, a < n → b < n → (c a b = no ↔ c' a b = no')) (hc : ∀ a b, a < n → b < n → ¬ c a b = no → c a b = c' a b) : ∀ {k : Nat} {es es' : List (Nat × Nat)} {pt pt' : Nat → Nat}, zRun c no n k es pt → zRun c' no' n k es' pt' → es = es' ∧ pt = pt'
  | 0, _, _, _, _, h, h' => ⟨h.1.trans h'.1.symm, h.2.trans h'.2.symm⟩
  | k + 1, _, _, _, _, h, h' => by
    obtain ⟨es0, pt0, a, b, hr, ho, rfl, rfl⟩ := h
    obtain ⟨es1, pt1, a', b', hr', ho', rfl, rfl⟩ := h'
    obtain ⟨rfl, rfl⟩ := zRun_one hP hc hr hr'
    have e := zOut_one ho ho' (fun a b => ⟨fun q => ⟨q.1, q.2.1, q.2.2.1, q.2.2.2.1, fun w => q.2.2.2.2 ((hP a b (by have := q.2.1; have := q.2.2.1; omega) q.2.2.1).mpr w)⟩, fun q => ⟨q.1, q.2.1, q.2.2.1, q.2.2.2.1, fun w => q.2.2.2.2 ((hP a b (by have := q.2.1; have := q.2.2.1; omega) q.2.2.1).mp w)⟩⟩) (fun a b q => hc a b (by have := q.2.1; have := q.2.2.1; omega) q.2.2.1 q.2.2.2.2)
    simp only [Option.some.injEq, Prod.mk.injEq] at e
    obtain ⟨rfl, rfl⟩ := e
    exact ⟨rfl, rfl⟩
theorem zRun_pre {c : Nat → Nat → Int32} {no : Int32} {n : Nat} : ∀ {m k : Nat} {es : List (Nat × Nat)} {pt : Nat → Nat}, zRun c no n m es pt → k < m → ∃ es0 pt0 e, zRun c no n k es0 pt0 ∧ zOut (zPj c no n pt0) c (some e)
  | 0, k, _, _, _, hk => absurd hk (Nat.not_lt_zero k)
  | m + 1, k, _, _, h, hk => by
    obtain ⟨es0, pt0, a, b, hr, ho, -, -⟩ := h
    by_cases hm : k = m
    · rw [hm]; exact ⟨es0, pt0, (a, b), hr, ho⟩
    · exact zRun_pre hr (by omega)
theorem zRun_facts {c : Nat → Nat → Int32} {no : Int32} {n : Nat} : ∀ {k : Nat} {es : List (Nat × Nat)} {pt : Nat → Nat}, zRun c no n k es pt → es.length = k ∧ (∀ e ∈ es, 1 ≤ e.1 ∧ e.1 < e.2 ∧ e.2 < n ∧ pt e.1 = pt e.2 ∧ ¬ c e.1 e.2 = no) ∧ ∀ v, v < n → pt v < n
  | 0, es, pt, h => by rw [h.1, h.2]; exact ⟨rfl, fun e he => absurd he (by simp), fun v hv => hv⟩
  | k + 1, es, pt, h => by
    obtain ⟨es0, pt0, a, b, hr, ho, rfl, rfl⟩ := h
    obtain ⟨h1, h2, h3⟩ := zRun_facts hr
    have ho : zPj c no n pt0 a b := ho.1
    refine ⟨by simp [h1], fun e he => ?_, fun v hv => ?_⟩
    · rcases List.mem_append.mp he with he | he
      · obtain ⟨q1, q2, q3, q4, q5⟩ := h2 e he
        refine ⟨q1, q2, q3, ?_, q5⟩
        unfold zMrg; rw [q4]
      · rw [List.mem_singleton.mp he]
        refine ⟨ho.1, ho.2.1, ho.2.2.1, ?_, ho.2.2.2.2⟩
        show zMrg pt0 a b a = zMrg pt0 a b b
        unfold zMrg; rw [if_pos rfl]; split <;> rfl
    · unfold zMrg
      split
      · exact h3 a (by have := ho.2.1; have := ho.2.2.1; omega)
      · exact h3 v hv
/-- the whole tree -/
def zTree (c : Nat → Nat → Int32) (no : Int32) (n : Nat) (es : List (Nat × Nat)) : Prop := 3 ≤ n ∧ ∃ es0 pt t1 t2, zRun c no n (n - 2) es0 pt ∧ zOut (zPh c no n 0) c (some (0, t1)) ∧ zOut (zPh c no n t1) c (some (0, t2)) ∧ es = es0 ++ [(0, t1)] ++ [(0, t2)]
theorem zPh_iff {c c' : Nat → Nat → Int32} {no no' : Int32} {n : Nat} (hP : ∀ a b, a < n → b < n → (c a b = no ↔ c' a b = no')) (t a b : Nat) : zPh c no n t a b ↔ zPh c' no' n t a b := by
  constructor
  · exact fun q => ⟨q.1, q.2.1, q.2.2.1, q.2.2.2.1, fun w => q.2.2.2.2 ((hP a b (by have := q.1; have := q.2.2.1; omega) q.2.2.1).mpr w)⟩
  · exact fun q => ⟨q.1, q.2.1, q.2.2.1, q.2.2.2.1, fun w => q.2.2.2.2 ((hP a b (by have := q.1; have := q.2.2.1; omega) q.2.2.1).mp w)⟩
theorem zTree_one {c c' : Nat → Nat → Int32} {no no' : Int32} {n : Nat} (hP : ∀ a b, a < n → b < n → (c a b = no ↔ c' a b = no')) (hc : ∀ a b, a < n → b < n → ¬ c a b = no → c a b = c' a b) {es es' : List (Nat × Nat)} (h : zTree c no n es) (h' : zTree c' no' n es') : es = es' := by
  obtain ⟨-, es0, pt, t1, t2, hr, ho1, ho2, rfl⟩ := h
  obtain ⟨-, es1, pt1, u1, u2, hr', ho1', ho2', rfl⟩ := h'
  obtain ⟨rfl, rfl⟩ := zRun_one hP hc hr hr'
  have e := zOut_one ho1 ho1' (zPh_iff hP 0) (fun a b q => hc a b (by have := q.1; have := q.2.2.1; omega) q.2.2.1 q.2.2.2.2)
  simp only [Option.some.injEq, Prod.mk.injEq] at e
  obtain ⟨-, rfl⟩ := e
  have e := zOut_one ho2 ho2' (zPh_iff hP t1) (fun a b q => hc a b (by have := q.1; have := q.2.2.1; omega) q.2.2.1 q.2.2.2.2)
  simp only [Option.some.injEq, Prod.mk.injEq] at e
  obtain ⟨-, rfl⟩ := e
  rfl
theorem zRun_iff {c c' : Nat → Nat → Int32} {no no' : Int32} {n : Nat} (hP : ∀ a b, a < n → b < n → (c a b = no ↔ c' a b = no')) (hc : ∀ a b, a < n → b < n → ¬ c a b = no → c a b = c' a b) : ∀ {k : Nat} {es : List (Nat × Nat)} {pt : Nat → Nat}, zRun c no n k es pt → zRun c' no' n k es pt
  | 0, _, _, h => h
  | k + 1, _, _, h => by
    obtain ⟨es0, pt0, a, b, hr, ho, rfl, rfl⟩ := h
    refine ⟨es0, pt0, a, b, zRun_iff hP hc hr, zOut_iff ho (fun a b => ⟨fun q => ⟨q.1, q.2.1, q.2.2.1, q.2.2.2.1, fun w => q.2.2.2.2 ((hP a b (by have := q.2.1; have := q.2.2.1; omega) q.2.2.1).mpr w)⟩, fun q => ⟨q.1, q.2.1, q.2.2.1, q.2.2.2.1, fun w => q.2.2.2.2 ((hP a b (by have := q.2.1; have := q.2.2.1; omega) q.2.2.1).mp w)⟩⟩) (fun a b q => hc a b (by have := q.2.1; have := q.2.2.1; omega) q.2.2.1 q.2.2.2.2), rfl, rfl⟩
theorem zTree_iff {c c' : Nat → Nat → Int32} {no no' : Int32} {n : Nat} (hP : ∀ a b, a < n → b < n → (c a b = no ↔ c' a b = no')) (hc : ∀ a b, a < n → b < n → ¬ c a b = no → c a b = c' a b) {es : List (Nat × Nat)} (h : zTree c no n es) : zTree c' no' n es := by
  obtain ⟨h3, es0, pt, t1, t2, hr, ho1, ho2, rfl⟩ := h
  exact ⟨h3, es0, pt, t1, t2, zRun_iff hP hc hr, zOut_iff ho1 (zPh_iff hP 0) (fun a b q => hc a b (by have := q.1; have := q.2.2.1; omega) q.2.2.1 q.2.2.2.2), zOut_iff ho2 (zPh_iff hP t1) (fun a b q => hc a b (by have := q.1; have := q.2.2.1; omega) q.2.2.1 q.2.2.2.2), rfl⟩
/-- what the tree's calls leave alone -/
def zTf (V A V' A' : zV) : Prop := (∀ k j, ¬ k = 21 → V' k j = V k j) ∧ ∀ k, ¬ (k = 23 ∨ k = 24 ∨ k = 25) → A' k = A k
theorem zTf_refl (V A : zV) : zTf V A V A := ⟨fun _ _ _ => rfl, fun _ _ => rfl⟩
theorem zTf_trans {V A V1 A1 V2 A2 : zV} (h : zTf V A V1 A1) (h2 : zTf V1 A1 V2 A2) : zTf V A V2 A2 := ⟨fun k j q => (h2.1 k j q).trans (h.1 k j q), fun k q => (h2.2 k q).trans (h.2 k q)⟩
/-- edges in two rows -/
def zEd (es : List (Nat × Nat)) (f g : Nat → Int32) : Prop := ∀ i e, es[i]? = some e → f i = nI e.1 ∧ g i = nI e.2
theorem zEd_push {es : List (Nat × Nat)} {f g : Nat → Int32} (h : zEd es f g) (a b : Nat) : zEd (es ++ [(a, b)]) (upd f es.length (nI a)) (upd g es.length (nI b)) := by
  intro i e hi
  by_cases hl : i < es.length
  · rw [List.getElem?_append_left hl] at hi
    rw [upd_ne _ _ (by omega), upd_ne _ _ (by omega)]
    exact h i e hi
  · rw [List.getElem?_append_right (by omega)] at hi
    have hi0 : i - es.length = 0 := by
      rcases Nat.eq_zero_or_pos (i - es.length) with q | q
      · exact q
      · rw [List.getElem?_eq_none (by simp only [List.length_cons, List.length_nil]; omega)] at hi; exact absurd hi (by simp)
    rw [hi0] at hi
    have he : e = (a, b) := by simpa using hi.symm
    have hie : i = es.length := by omega
    rw [hie, upd_at, upd_at, he]
    exact ⟨rfl, rfl⟩
def zEs (c : Nat → Nat → Int32) (es : List (Nat × Nat)) : Int32 := es.foldl (fun s e => s + c e.1 e.2) 0
theorem zEs_push (c : Nat → Nat → Int32) (es : List (Nat × Nat)) (a b : Nat) : zEs c (es ++ [(a, b)]) = zEs c es + c a b := by unfold zEs; rw [List.foldl_append]; rfl
