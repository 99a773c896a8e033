/-! the first of the best -/
def wlt : List Nat → List Nat → Bool
  | [], [] => false
  | [], _ :: _ => true
  | _ :: _, [] => false
  | a :: u, b :: v => if a < b then true else if b < a then false else wlt u v
theorem wlt_app (u v : List Nat) : ∀ w : List Nat, wlt (w ++ u) (w ++ v) = wlt u v
  | [] => rfl
  | a :: w => by
    show (if a < a then true else if a < a then false else wlt (w ++ u) (w ++ v)) = _
    rw [if_neg (Nat.lt_irrefl _), if_neg (Nat.lt_irrefl _), wlt_app u v w]
theorem wlt_irr : ∀ u : List Nat, wlt u u = false
  | [] => rfl
  | a :: u => by
    show (if a < a then true else if a < a then false else wlt u u) = _
    rw [if_neg (Nat.lt_irrefl _), if_neg (Nat.lt_irrefl _), wlt_irr u]
theorem wlt_tri : ∀ u v : List Nat, wlt u v = false → wlt v u = false → u = v
  | [], [], _, _ => rfl
  | [], _ :: _, h, _ => absurd h (by simp [wlt])
  | _ :: _, [], _, h => absurd h (by simp [wlt])
  | a :: u, b :: v, h, h' => by
    have h : (if a < b then true else if b < a then false else wlt u v) = false := h
    have h' : (if b < a then true else if a < b then false else wlt v u) = false := h'
    by_cases h1 : a < b
    · rw [if_pos h1] at h; exact absurd h (by simp)
    · by_cases h2 : b < a
      · rw [if_pos h2] at h'; exact absurd h' (by simp)
      · rw [if_neg h1, if_neg h2] at h
        rw [if_neg h2, if_neg h1] at h'
        rw [wlt_tri u v h h', show a = b by omega]
theorem wlt_asm : ∀ u v : List Nat, wlt u v = true → wlt v u = false
  | [], [], h => absurd h (by simp [wlt])
  | [], _ :: _, _ => rfl
  | _ :: _, [], h => absurd h (by simp [wlt])
  | a :: u, b :: v, h => by
    have h : (if a < b then true else if b < a then false else wlt u v) = true := h
    show (if b < a then true else if a < b then false else wlt v u) = false
    by_cases h1 : a < b
    · rw [if_neg (by omega), if_pos h1]
    · by_cases h2 : b < a
      · rw [if_neg h1, if_pos h2] at h; exact absurd h (by simp)
      · rw [if_neg h1, if_neg h2] at h
        rw [if_neg h2, if_neg h1, wlt_asm u v h]
theorem wlt_tr : ∀ u v w : List Nat, wlt u v = true → wlt v w = true → wlt u w = true
  | [], [], _, h, _ => absurd h (by simp [wlt])
  | [], _ :: _, [], _, h => absurd h (by simp [wlt])
  | [], _ :: _, _ :: _, _, _ => rfl
  | _ :: _, [], _, h, _ => absurd h (by simp [wlt])
  | _ :: _, _ :: _, [], _, h => absurd h (by simp [wlt])
  | a :: u, b :: v, c :: w, h, h' => by
    have h : (if a < b then true else if b < a then false else wlt u v) = true := h
    have h' : (if b < c then true else if c < b then false else wlt v w) = true := h'
    show (if a < c then true else if c < a then false else wlt u w) = true
    by_cases h1 : a < b
    · by_cases h2 : b < c
      · rw [if_pos (by omega)]
      · by_cases h3 : c < b
        · rw [if_neg h2, if_pos h3] at h'; exact absurd h' (by simp)
        · rw [if_pos (by omega)]
    · by_cases h2 : b < a
      · rw [if_neg h1, if_pos h2] at h; exact absurd h (by simp)
      · rw [if_neg h1, if_neg h2] at h
        by_cases h3 : b < c
        · rw [if_pos (by omega)]
        · by_cases h4 : c < b
          · rw [if_neg h3, if_pos h4] at h'; exact absurd h' (by simp)
          · rw [if_neg h3, if_neg h4] at h'
            rw [if_neg (by omega), if_neg (by omega), wlt_tr u v w h h']
theorem wlt_let {w u v : List Nat} {i j : Nat} (h : i < j) : wlt (w ++ (i :: u)) (w ++ (j :: v)) = true := by
  rw [wlt_app]
  show (if i < j then true else _) = true
  rw [if_pos h]
def lxs (W : zW) (acc : Option (Int × List Nat)) (x : zLf) : Option (Int × List Nat) := match ltot W x with
  | none => acc
  | some t => match acc with
    | none => some (t, x.2.2)
    | some q => if t < q.1 then some (t, x.2.2) else if t = q.1 ∧ wlt x.2.2 q.2 = true then some (t, x.2.2) else some q
def lxf (W : zW) (l : List zLf) : Option (Int × List Nat) := l.foldl (lxs W) none
theorem lxf_snoc (W : zW) (l : List zLf) (x : zLf) : lxf W (l ++ [x]) = lxs W (lxf W l) x := by
  unfold lxf; rw [List.foldl_append]; rfl
def lxg (W : zW) (acc : Option (Int × List Nat)) (l : List zLf) : Prop := match acc with
  | none => ∀ x, x ∈ l → ltot W x = none
  | some q => (∃ x, x ∈ l ∧ ltot W x = some q.1 ∧ x.2.2 = q.2) ∧ ∀ x, x ∈ l → ∀ t, ltot W x = some t → q.1 ≤ t ∧ (t = q.1 → wlt x.2.2 q.2 = false)
theorem lxg_snoc {W : zW} {acc : Option (Int × List Nat)} {l : List zLf} (x : zLf) (h : lxg W acc l) : lxg W (lxs W acc x) (l ++ [x]) := by
  unfold lxs
  cases ht : ltot W x with
  | none =>
    cases acc with
    | none =>
      intro y hy
      rcases List.mem_append.mp hy with e | e
      · exact h y e
      · rw [List.mem_singleton.mp e]; exact ht
    | some q =>
      obtain ⟨⟨z, h1, h2⟩, h3⟩ := h
      refine ⟨⟨z, List.mem_append_left _ h1, h2⟩, fun y hy t hyt => ?_⟩
      rcases List.mem_append.mp hy with e | e
      · exact h3 y e t hyt
      · rw [List.mem_singleton.mp e, ht] at hyt; exact absurd hyt (by simp)
  | some t =>
    have hx : x ∈ l ++ [x] := List.mem_append_right _ List.mem_cons_self
    cases acc with
    | none =>
      refine ⟨⟨x, hx, ht, rfl⟩, fun y hy s hys => ?_⟩
      rcases List.mem_append.mp hy with e | e
      · rw [h y e] at hys; exact absurd hys (by simp)
      · rw [List.mem_singleton.mp e] at hys ⊢
        rw [ht] at hys
        have := Option.some.inj hys
        exact ⟨by show t ≤ s; omega, fun _ => wlt_irr _⟩
    | some q =>
      obtain ⟨⟨z, h1, h2⟩, h3⟩ := h
      show lxg W (if t < q.1 then some (t, x.2.2) else if t = q.1 ∧ wlt x.2.2 q.2 = true then some (t, x.2.2) else some q) (l ++ [x])
      by_cases c1 : t < q.1
      · rw [if_pos c1]
        refine ⟨⟨x, hx, ht, rfl⟩, fun y hy s hys => ?_⟩
        rcases List.mem_append.mp hy with e | e
        · have := (h3 y e s hys).1
          exact ⟨by show t ≤ s; omega, fun z => by exfalso; have z : s = t := z; omega⟩
        · rw [List.mem_singleton.mp e] at hys ⊢
          rw [ht] at hys
          have := Option.some.inj hys
          exact ⟨by show t ≤ s; omega, fun _ => wlt_irr _⟩
      · rw [if_neg c1]
        by_cases c2 : t = q.1 ∧ wlt x.2.2 q.2 = true
        · rw [if_pos c2]
          refine ⟨⟨x, hx, ht, rfl⟩, fun y hy s hys => ?_⟩
          rcases List.mem_append.mp hy with e | e
          · have h4 := h3 y e s hys
            refine ⟨by show t ≤ s; omega, fun z => ?_⟩
            have z : s = t := z
            have h5 := h4.2 (by omega)
            cases hh : wlt y.2.2 x.2.2 with
            | false => rfl
            | true => rw [wlt_tr _ _ _ hh c2.2] at h5; exact absurd h5 (by simp)
          · rw [List.mem_singleton.mp e] at hys ⊢
            rw [ht] at hys
            have := Option.some.inj hys
            exact ⟨by show t ≤ s; omega, fun _ => wlt_irr _⟩
        · rw [if_neg c2]
          refine ⟨⟨z, List.mem_append_left _ h1, h2⟩, fun y hy s hys => ?_⟩
          rcases List.mem_append.mp hy with e | e
          · exact h3 y e s hys
          · rw [List.mem_singleton.mp e] at hys ⊢
            rw [ht] at hys
            have e2 := Option.some.inj hys
            refine ⟨by omega, fun z => ?_⟩
            cases hh : wlt x.2.2 q.2 with
            | false => rfl
            | true => exact absurd ⟨by omega, hh⟩ c2
theorem lxf_good (W : zW) (l : List zLf) : lxg W (lxf W l) l := by
  have : ∀ (l2 : List zLf) acc l1, lxg W acc l1 → lxg W (l2.foldl (lxs W) acc) (l1 ++ l2) := by
    intro l2
    induction l2 with
    | nil => intro acc l1 h; rw [List.append_nil]; exact h
    | cons x l2 ih =>
      intro acc l1 h
      have := ih _ _ (lxg_snoc x h)
      rw [List.append_assoc] at this
      exact this
  exact this l none [] (fun x hx => absurd hx (by simp))
theorem lxf_is {W : zW} {l : List zLf} {B : Int} {w : List Nat} (h1 : ∃ x, x ∈ l ∧ ltot W x = some B ∧ x.2.2 = w) (h2 : ∀ x, x ∈ l → ∀ t, ltot W x = some t → B ≤ t ∧ (t = B → wlt x.2.2 w = false)) : lxf W l = some (B, w) := by
  have hg := lxf_good W l
  obtain ⟨x, hx, hx1, hx2⟩ := h1
  cases hh : lxf W l with
  | none => rw [hh] at hg; rw [hg x hx] at hx1; exact absurd hx1 (by simp)
  | some q =>
    rw [hh] at hg
    obtain ⟨⟨z, z1, z2, z3⟩, h3⟩ := hg
    have a1 := h3 x hx B hx1
    have a2 := h2 z z1 q.1 z2
    have e : q.1 = B := by omega
    have b1 := a1.2 e.symm
    have b2 := a2.2 e
    rw [hx2] at b1
    rw [z3] at b2
    rw [wlt_tri _ _ b1 b2, ← e]
theorem lxf_c (W : zW) (l : List zLf) : (lxf W l).map Prod.fst = sc (lsum W (zos W) l) := by
  have hg := lxf_good W l
  cases hh : lxf W l with
  | none =>
    rw [hh] at hg
    cases hs : sc (lsum W (zos W) l) with
    | none => rfl
    | some t => obtain ⟨x, h1, h2⟩ := lsum_at hs; rw [hg x h1] at h2; exact absurd h2 (by simp)
  | some q =>
    rw [hh] at hg
    obtain ⟨⟨z, z1, z2, z3⟩, h3⟩ := hg
    obtain ⟨y, h1, h2⟩ := lsum_le z1 q.1 z2
    obtain ⟨x, h4, h5⟩ := lsum_at h1
    have := (h3 x h4 y h5).1
    rw [h1, show y = q.1 by omega]
    rfl
theorem fl_mem {β : Type} {f : Nat → List β} {x : β} : ∀ {k : Nat}, x ∈ zfl f k ↔ ∃ i, i < k ∧ x ∈ f i
  | 0 => ⟨fun h => absurd h (by simp [zfl]), fun ⟨i, h, _⟩ => by omega⟩
  | k + 1 => by
    rw [zfl, List.mem_append, fl_mem]
    constructor
    · rintro (⟨i, h1, h2⟩ | h)
      · exact ⟨i, by omega, h2⟩
      · exact ⟨k, Nat.lt_succ_self _, h⟩
    · rintro ⟨i, h1, h2⟩
      by_cases q : i = k
      · subst q; exact Or.inr h2
      · exact Or.inl ⟨i, by omega, h2⟩
/-- what a search has written stays -/
theorem NL_word {W : zW} {k : Int → Nat → List Nat → List zLf} (hk : ∀ c U wr x, x ∈ k c U wr → ∃ u, x.2.2 = wr ++ u) : ∀ f c U H wr a x, x ∈ zNL W k f c U H wr a → ∃ u, x.2.2 = wr ++ u := by
  have hcl : ∀ c U wr a x, x ∈ (match zbk W a with | some b => k (c + b) U wr | none => []) → ∃ u, x.2.2 = wr ++ u := by
    intro c U wr a x hx
    cases hb : zbk W a with
    | none => rw [hb] at hx; exact absurd hx (by simp)
    | some b => rw [hb] at hx; exact hk _ _ _ _ hx
  intro f
  induction f with
  | zero => intro c U H wr a x hx; exact hcl c U wr a x hx
  | succ f ih =>
    intro c U H wr a x hx
    rw [zNL] at hx
    rcases List.mem_append.mp hx with e | e
    · obtain ⟨i, hi, hx2⟩ := fl_mem.mp e
      split at hx2
      · cases har : W.ar a (i + 1) with
        | none => rw [har] at hx2; exact absurd hx2 (by simp)
        | some y =>
          rw [har] at hx2
          obtain ⟨u, hu⟩ := ih _ _ _ _ _ _ hx2
          exact ⟨(i + 1) :: u, by rw [hu, List.append_assoc]; rfl⟩
      · exact absurd hx2 (by simp)
    · exact hcl c U wr a x e
theorem sep_word (wr : List Nat) : ∃ u, zsep wr = wr ++ u := by
  cases wr with
  | nil => exact ⟨[], rfl⟩
  | cons a w => exact ⟨[0], rfl⟩
theorem HL_word {W : zW} : ∀ r c U wr last x, x ∈ zHL W r c U wr last → ∃ u, x.2.2 = wr ++ u := by
  intro r
  induction r with
  | zero => intro c U wr last x hx; rw [zHL] at hx; rw [List.mem_singleton.mp hx]; exact ⟨[], (List.append_nil _).symm⟩
  | succ r ih =>
    intro c U wr last x hx
    rw [zHL] at hx
    rcases List.mem_cons.mp hx with e | e
    · rw [e]; exact ⟨[], (List.append_nil _).symm⟩
    · obtain ⟨i, hi, hx2⟩ := fl_mem.mp e
      split at hx2
      · cases har : W.ar 0 (i + 1) with
        | none => rw [har] at hx2; exact absurd hx2 (by simp)
        | some y =>
          rw [har] at hx2
          obtain ⟨u, hu⟩ := NL_word (fun c U wr x hx => ih c U wr (i + 1) x hx) _ _ _ _ _ _ _ hx2
          obtain ⟨v, hv⟩ := sep_word wr
          exact ⟨v ++ ((i + 1) :: u), by rw [hu, hv, List.append_assoc, List.append_assoc]; rfl⟩
      · exact absurd hx2 (by simp)
/-- at the house -/
def FH (W : zW) (B : Int) (L0 : List zLf) (r : Nat) (c : Int) (U : Nat) (wr : List Nat) (last : Nat) (d : Int) : Prop :=
  U < 2 ^ (W.n - 1) ∧ (∀ x, x ∈ zHL W r c U wr last → x ∈ L0) ∧ (∀ x, x ∈ L0 → ltot W x = some B → x ∈ zHL W r c U wr last ∨ (wlt wr x.2.2 = true ∧ ∀ u, wlt (zsep wr ++ u) x.2.2 = true)) ∧ (sc (wP W r (zdf (2 ^ (W.n - 1) - 1) U)) = some d ∧ c + d = B) ∧ ∀ i, i < last → i < W.n - 1 → zfo W 0 i = true → (zdf (2 ^ (W.n - 1) - 1) U).testBit i = true → ∀ r', r = r' + 1 → ¬ sc (wO W r' (zdf (2 ^ (W.n - 1) - 1) U) i) = some d
/-- in a round -/
def FN (W : zW) (B : Int) (L0 : List zLf) (r : Nat) (c : Int) (U F H : Nat) (wr : List Nat) (a bi : Nat) (d : Int) : Prop :=
  (UF W U F H ∧ H &&& F = H ∧ H.testBit bi = true ∧ ¬ wr = []) ∧ (∃ f, zc U (W.n - 1) ≤ f ∧ (∀ x, x ∈ zNL W (fun c U wr => zHL W r c U wr (bi + 1)) f c U H wr a → x ∈ L0) ∧ (∀ x, x ∈ L0 → ltot W x = some B → x ∈ zNL W (fun c U wr => zHL W r c U wr (bi + 1)) f c U H wr a ∨ ∀ u, wlt (wr ++ u) x.2.2 = true)) ∧ (sc (wE W r F H a) = some d ∧ c + d = B) ∧ ∃ e d0 : Int, (∀ g, sle (zBB zMS (W.n - 1) (zfo W) (zar W) g 0 0) (sm (some (e, 1)) (zBB zMS (W.n - 1) (zfo W) (zar W) g H a))) ∧ d0 = e + d ∧ sc (wP W (r + 1) F) = some d0 ∧ ∀ i, i < bi → i < W.n - 1 → zfo W 0 i = true → F.testBit i = true → ¬ sc (wO W r F i) = some d0
theorem FH_step {W : zW} (h9 : W.n ≤ 9) {B : Int} {L0 : List zLf} {r : Nat} {c : Int} {U : Nat} {wr : List Nat} {last : Nat} {d x : Int} {i : Nat} (h : FH W B L0 (r + 1) c U wr last d) (ho : ¬ sc (zos W (zdf (2 ^ (W.n - 1) - 1) U)) = some d) (hi : i < W.n - 1) (hf : zfo W 0 i = true) (hF : (zdf (2 ^ (W.n - 1) - 1) U).testBit i = true) (hx : W.ar 0 (i + 1) = some x) (hw : sc (wO W r (zdf (2 ^ (W.n - 1) - 1) U) i) = some d) (hl : ∀ j, j < i → zfo W 0 j = true → (zdf (2 ^ (W.n - 1) - 1) U).testBit j = true → ¬ sc (wO W r (zdf (2 ^ (W.n - 1) - 1) U) j) = some d) : FN W B L0 r (c + x) (U ||| 2 ^ i) (zdf (2 ^ (W.n - 1) - 1) U) (2 ^ i) (zsep wr ++ [i + 1]) (i + 1) i (d - x) := by
  have hp := pw_le h9
  have h0 : 0 < 2 ^ (W.n - 1) := Nat.pos_of_ne_zero (by simp)
  obtain ⟨hU, h1, h2, ⟨h3, h4⟩, h5⟩ := h
  have hS := UF.start h9 hU
  have hall : 2 ^ (W.n - 1) - 1 < 256 := by omega
  have hlast : last ≤ i := by
    rcases Nat.lt_or_ge i last with z | z
    · exact absurd hw (h5 i z hi hf hF r rfl)
    · exact z
  have hUi : U.testBit i = false := by
    rw [tb_df hall] at hF
    have := (Bool.and_eq_true _ _ ▸ hF : _ ∧ _).2
    simpa using this
  have hadd := hS.add hi
  rw [Nat.zero_or] at hadd
  have hE : sc (wE W r (zdf (2 ^ (W.n - 1) - 1) U) (2 ^ i) (i + 1)) = some (d - x) := by
    unfold wO at hw
    rw [sc_sm, show zar W 0 (i + 1) = se (W.ar 0 (i + 1)) from rfl, sc_se, hx] at hw
    obtain ⟨a, b, e1, e2, e3⟩ := oad_at hw
    have e1' : x = a := Option.some.inj e1
    rw [e2, show b = d - x by omega]
  have sub : (2 ^ i) &&& zdf (2 ^ (W.n - 1) - 1) U = 2 ^ i := (sub_iff _ _).mpr (fun j hj => by rw [Nat.testBit_two_pow] at hj; rw [← of_decide_eq_true hj]; exact hF)
  refine ⟨⟨hadd, sub, by rw [Nat.testBit_two_pow]; simp, by simp⟩, ⟨W.n - 1, zc_le _ _, fun y hy => h1 y ?_, fun y hy hyt => ?_⟩, ⟨hE, by omega⟩, x, d, fun g => ?_, by omega, h3, fun j hj hj2 hjf hjF => hl j hj hjf hjF⟩
  · rw [zHL]
    refine List.mem_cons_of_mem _ (fl_mem.mpr ⟨i, hi, ?_⟩)
    rw [if_pos (by rw [decide_eq_true hlast, hf, hUi]; rfl), hx]
    exact hy
  · rcases h2 y hy hyt with z | z
    · rw [zHL] at z
      rcases List.mem_cons.mp z with e | e
      · exfalso
        rw [e] at hyt
        obtain ⟨a, b, e1, e2, e3⟩ := oad_at hyt
        have e1' : c = a := Option.some.inj e1
        refine ho ?_
        rw [show zos W _ = se (zOt W _) from rfl, sc_se, show zOt W (zdf (2 ^ (W.n - 1) - 1) U) = some b from e2, show b = d by omega]
      · obtain ⟨j, hj, hy2⟩ := fl_mem.mp e
        split at hy2
        · rename_i hc
          have hc1 := Bool.and_eq_true _ _ ▸ hc
          have hc2 : zfo W 0 j = true ∧ (!U.testBit j) = true := Bool.and_eq_true _ _ ▸ hc1.2
          have hUj : U.testBit j = false := by simpa using hc2.2
          have hFj : (zdf (2 ^ (W.n - 1) - 1) U).testBit j = true := by rw [tb_df hall, tb_all, decide_eq_true hj, hUj]; rfl
          cases har : W.ar 0 (j + 1) with
          | none => rw [har] at hy2; exact absurd hy2 (by simp)
          | some x' =>
            rw [har] at hy2
            have haddj := hS.add hj
            rw [Nat.zero_or] at haddj
            obtain ⟨p, hp1, hp2⟩ := LB_NL h9 haddj (zc_le _ _) hy2 hyt
            have hO : sc (wO W r (zdf (2 ^ (W.n - 1) - 1) U) j) = some (x' + p) := by
              unfold wO
              rw [sc_sm, show zar W 0 (j + 1) = se (W.ar 0 (j + 1)) from rfl, sc_se, har, hp1]; rfl
            obtain ⟨q, hq1, hq2⟩ := wO_ge r _ j (zdf_lt hall) hj hc2.1 hFj _ hO
            rw [h3] at hq1
            have hq3 := Option.some.inj hq1
            rw [show x' + p = d by omega] at hO
            rcases Nat.lt_trichotomy j i with z1 | z1 | z1
            · exact absurd hO (hl j z1 hc2.1 hFj)
            · subst z1
              rw [hx] at har
              have := Option.some.inj har
              subst this
              exact Or.inl hy2
            · right
              intro u
              obtain ⟨v, hv⟩ := NL_word (fun c U wr x hx => HL_word r c U wr (j + 1) x hx) _ _ _ _ _ _ _ hy2
              rw [hv, List.append_assoc, List.append_assoc]
              exact wlt_let (by omega)
        · exact absurd hy2 (by simp)
    · right
      intro u
      rw [List.append_assoc]
      exact z.2 _
  · have h6 := zBB_eq zMS_SR (zfo_Fo W) (zar W) g 0 0 (N := W.n - 1)
    rw [h6]
    refine ole_tr (sle_ar _ _) ?_
    have h7 := sle_s (f := fun i => if zfo W 0 i = true then zMS.m (zar W 0 (i + 1)) (zBB zMS (W.n - 1) (zfo W) (zar W) g (0 ||| 2 ^ i) (i + 1)) else zMS.o) hi
    rw [show (if zfo W 0 i = true then zMS.m (zar W 0 (i + 1)) (zBB zMS (W.n - 1) (zfo W) (zar W) g (0 ||| 2 ^ i) (i + 1)) else zMS.o) = sm (some (x, 1)) (zBB zMS (W.n - 1) (zfo W) (zar W) g (2 ^ i) (i + 1)) from by rw [if_pos hf, Nat.zero_or, show zar W 0 (i + 1) = se (W.ar 0 (i + 1)) from rfl, hx]; rfl] at h7
    exact h7
theorem FN_step {W : zW} (h9 : W.n ≤ 9) {B : Int} {L0 : List zLf} {r : Nat} {c : Int} {U F H : Nat} {wr : List Nat} {a bi : Nat} {d x : Int} {i : Nat} (h : FN W B L0 r c U F H wr a bi d) (ho : ¬ sc (sm (zbs W a) (wP W r (zdf F H))) = some d) (hi : i < W.n - 1) (hf : zfo W H i = true) (hF : F.testBit i = true) (hx : W.ar a (i + 1) = some x) (hw : sc (sm (zar W a (i + 1)) (wE W r F (H ||| 2 ^ i) (i + 1))) = some d) (hl : ∀ j, j < i → zfo W H j = true → F.testBit j = true → ¬ sc (sm (zar W a (j + 1)) (wE W r F (H ||| 2 ^ j) (j + 1))) = some d) : FN W B L0 r (c + x) (U ||| 2 ^ i) F (H ||| 2 ^ i) (wr ++ [i + 1]) (i + 1) bi (d - x) := by
  have hp := pw_le h9
  obtain ⟨⟨hU, hHF, hHb, hwr⟩, ⟨f, hfu, h1, h2⟩, ⟨h3, h4⟩, e, d0, h5, h6, h7, h8⟩ := h
  have hUi : U.testBit i = false := by
    rw [hU.2.2 i hi, hF, zfo_Fo W H i hf]; rfl
  have hE : sc (wE W r F (H ||| 2 ^ i) (i + 1)) = some (d - x) := by
    rw [sc_sm, show zar W a (i + 1) = se (W.ar a (i + 1)) from rfl, sc_se, hx] at hw
    obtain ⟨u, b, e1, e2, e3⟩ := oad_at hw
    have e1' : x = u := Option.some.inj e1
    rw [e2, show b = d - x by omega]
  have hzs := zc_step (n := W.n - 1) hUi hi
  cases f with
  | zero => omega
  | succ f =>
    refine ⟨⟨hU.add hi, (sub_iff _ _).mpr (fun j hj => ?_), by rw [tb_or, hHb]; rfl, by simp⟩, ⟨f, by omega, fun y hy => h1 y ?_, fun y hy hyt => ?_⟩, ⟨hE, by omega⟩, e + x, d0, fun g => ?_, by omega, h7, h8⟩
    · rw [tb_or] at hj
      rcases Bool.or_eq_true _ _ ▸ hj with z | z
      · exact (sub_iff _ _).mp hHF j z
      · rw [← of_decide_eq_true z]; exact hF
    · rw [zNL]
      refine List.mem_append_left _ (fl_mem.mpr ⟨i, hi, ?_⟩)
      rw [if_pos (by rw [hf, hUi]; rfl), hx]
      exact hy
    · rcases h2 y hy hyt with z | z
      · rw [zNL] at z
        rcases List.mem_append.mp z with z | z
        · obtain ⟨j, hj, hy2⟩ := fl_mem.mp z
          split at hy2
          · rename_i hc
            have hc2 : zfo W H j = true ∧ (!U.testBit j) = true := Bool.and_eq_true _ _ ▸ hc
            have hUj : U.testBit j = false := by simpa using hc2.2
            have hFj : F.testBit j = true := by
              have := hU.2.2 j hj
              rw [hUj, zfo_Fo W H j hc2.1, Bool.or_false] at this
              cases hq : F.testBit j with
              | true => rfl
              | false => rw [hq] at this; exact absurd this (by simp)
            cases har : W.ar a (j + 1) with
            | none => rw [har] at hy2; exact absurd hy2 (by simp)
            | some x' =>
              rw [har] at hy2
              have hzj := zc_step (n := W.n - 1) hUj hj
              obtain ⟨p, hp1, hp2⟩ := LB_NL h9 (hU.add hj) (by omega) hy2 hyt
              have hO : sc (sm (zar W a (j + 1)) (wE W r F (H ||| 2 ^ j) (j + 1))) = some (x' + p) := by
                rw [sc_sm, show zar W a (j + 1) = se (W.ar a (j + 1)) from rfl, sc_se, har, hp1]; rfl
              have hge : sle (wE W r F H a) (sm (zar W a (j + 1)) (wE W r F (H ||| 2 ^ j) (j + 1))) := by
                rw [wE_eq W r F H a]
                refine ole_tr (sle_ar _ _) ?_
                have hh := sle_s (f := fun i => if (zfo W H i && F.testBit i) = true then sm (zar W a (i + 1)) (wE W r F (H ||| 2 ^ i) (i + 1)) else none) hj
                rw [show (if (zfo W H j && F.testBit j) = true then sm (zar W a (j + 1)) (wE W r F (H ||| 2 ^ j) (j + 1)) else none) = sm (zar W a (j + 1)) (wE W r F (H ||| 2 ^ j) (j + 1)) from if_pos (by rw [hc2.1, hFj]; rfl)] at hh
                exact hh
              obtain ⟨q, hq1, hq2⟩ := hge _ hO
              rw [h3] at hq1
              have hq3 := Option.some.inj hq1
              rw [show x' + p = d by omega] at hO
              rcases Nat.lt_trichotomy j i with z1 | z1 | z1
              · exact absurd hO (hl j z1 hc2.1 hFj)
              · subst z1
                rw [hx] at har
                have := Option.some.inj har
                subst this
                exact Or.inl hy2
              · right
                intro u
                obtain ⟨v, hv⟩ := NL_word (fun c U wr x hx => HL_word r c U wr (bi + 1) x hx) _ _ _ _ _ _ _ hy2
                rw [hv, List.append_assoc, List.append_assoc]
                exact wlt_let (by omega)
          · exact absurd hy2 (by simp)
        · exfalso
          cases hb : zbk W a with
          | none => rw [hb] at z; exact absurd z (by simp)
          | some b =>
            rw [hb] at z
            obtain ⟨p, hp1, hp2⟩ := LB_HL h9 hU.2.1 z hyt
            rw [hU.df h9] at hp1
            have hO : sc (sm (zbs W a) (wP W r (zdf F H))) = some (b + p) := by
              rw [sc_sm, show zbs W a = se (zbk W a) from rfl, sc_se, hb, hp1]; rfl
            have hge : sle (wE W r F H a) (sm (zbs W a) (wP W r (zdf F H))) := by
              rw [wE_eq W r F H a]; exact sle_al _ _
            obtain ⟨q, hq1, hq2⟩ := hge _ hO
            rw [h3] at hq1
            have hq3 := Option.some.inj hq1
            rw [show b + p = d by omega] at hO
            exact ho hO
      · right
        intro u
        rw [List.append_assoc]
        exact z _
    · refine ole_tr (h5 g) ?_
      have h6 := zBB_eq zMS_SR (zfo_Fo W) (zar W) g H a (N := W.n - 1)
      rw [h6]
      have hh := sle_s (f := fun i => if zfo W H i = true then zMS.m (zar W a (i + 1)) (zBB zMS (W.n - 1) (zfo W) (zar W) g (H ||| 2 ^ i) (i + 1)) else zMS.o) hi
      rw [show (if zfo W H i = true then zMS.m (zar W a (i + 1)) (zBB zMS (W.n - 1) (zfo W) (zar W) g (H ||| 2 ^ i) (i + 1)) else zMS.o) = sm (some (x, 1)) (zBB zMS (W.n - 1) (zfo W) (zar W) g (H ||| 2 ^ i) (i + 1)) from by rw [if_pos hf, show zar W a (i + 1) = se (W.ar a (i + 1)) from rfl, hx]; rfl] at hh
      have h10 := sle_m (sle_rf (some (e, 1))) (ole_tr (sle_ar (g H a) _) hh : sle _ _)
      rw [← sm_as] at h10
      exact h10
theorem FN_close {W : zW} (h9 : W.n ≤ 9) {B : Int} {L0 : List zLf} {r : Nat} {c : Int} {U F H : Nat} {wr : List Nat} {a bi : Nat} {d b : Int} (h : FN W B L0 r c U F H wr a bi d) (hb : zbk W a = some b) (ho : sc (sm (zbs W a) (wP W r (zdf F H))) = some d) : FH W B L0 r (c + b) U wr (bi + 1) (d - b) := by
  have hp := pw_le h9
  obtain ⟨⟨hU, hHF, hHb, hwr⟩, ⟨f, hfu, h1, h2⟩, ⟨h3, h4⟩, e, d0, h5, h6, h7, h8⟩ := h
  have hF : F < 256 := Nat.lt_of_lt_of_le hU.1 hp
  have hH2 : H < 2 ^ (W.n - 1) := by rw [← hHF]; exact Nat.lt_of_le_of_lt Nat.and_le_right hU.1
  have hcl : (match zbk W a with | some b => zHL W r (c + b) U wr (bi + 1) | none => []) = zHL W r (c + b) U wr (bi + 1) := by rw [hb]
  have hsub : ∀ x, x ∈ zHL W r (c + b) U wr (bi + 1) → x ∈ zNL W (fun c U wr => zHL W r c U wr (bi + 1)) f c U H wr a := by
    intro x hx
    cases f with
    | zero => rw [zNL]; show x ∈ (match zbk W a with | some b => zHL W r (c + b) U wr (bi + 1) | none => []); rw [hcl]; exact hx
    | succ f => rw [zNL]; refine List.mem_append_right _ ?_; show x ∈ (match zbk W a with | some b => zHL W r (c + b) U wr (bi + 1) | none => []); rw [hcl]; exact hx
  have hPd : sc (wP W r (zdf F H)) = some (d - b) := by
    rw [sc_sm, show zbs W a = se (zbk W a) from rfl, sc_se, hb] at ho
    obtain ⟨u, v, e1, e2, e3⟩ := oad_at ho
    have e1' : b = u := Option.some.inj e1
    rw [e2, show v = d - b by omega]
  refine ⟨hU.2.1, fun x hx => h1 x (hsub x hx), fun x hx hxt => ?_, ⟨by rw [hU.df h9]; exact hPd, by omega⟩, fun i hi hi2 hif hiF r' hr' hO => ?_⟩
  · rcases h2 x hx hxt with z | z
    · have hcase : x ∈ zHL W r (c + b) U wr (bi + 1) ∨ ∃ j v, x.2.2 = wr ++ ((j + 1) :: v) := by
        cases f with
        | zero => rw [zNL] at z; left; rw [← hcl]; exact z
        | succ f =>
          rw [zNL] at z
          rcases List.mem_append.mp z with z | z
          · obtain ⟨j, hj, hy2⟩ := fl_mem.mp z
            split at hy2
            · cases har : W.ar a (j + 1) with
              | none => rw [har] at hy2; exact absurd hy2 (by simp)
              | some x' =>
                rw [har] at hy2
                obtain ⟨v, hv⟩ := NL_word (fun c U wr x hx => HL_word r c U wr (bi + 1) x hx) _ _ _ _ _ _ _ hy2
                exact Or.inr ⟨j, v, by rw [hv, List.append_assoc]; rfl⟩
            · exact absurd hy2 (by simp)
          · left; rw [← hcl]; exact z
      rcases hcase with q | ⟨j, v, hv⟩
      · exact Or.inl q
      · right
        refine ⟨?_, fun u => ?_⟩
        · have := wlt_app [] ((j + 1) :: v) wr
          rw [List.append_nil] at this
          rw [hv, this]; rfl
        · have hz : zsep wr = wr ++ [0] := by
            cases wr with
            | nil => exact absurd rfl hwr
            | cons y w => rfl
          rw [hv, hz, List.append_assoc]
          exact wlt_let (by omega)
    · right
      refine ⟨by have := z []; rw [List.append_nil] at this; exact this, fun u => ?_⟩
      obtain ⟨v, hv⟩ := sep_word wr
      rw [hv, List.append_assoc]
      exact z _
  · rw [hU.df h9] at hiF hO
    rw [tb_df hF] at hiF
    have hiF' : F.testBit i = true ∧ (!H.testBit i) = true := Bool.and_eq_true _ _ ▸ hiF
    have hne : ¬ i = bi := fun z => by rw [z, hHb] at hiF'; exact absurd hiF'.2 (by simp)
    have hlt : i < bi := by omega
    subst hr'
    have hFH : (zdf F H).testBit i = true := by rw [tb_df hF]; exact hiF
    rw [wO_sum r' (zdf F H) i hi2 hif hFH] at hO
    obtain ⟨M, hM, hs⟩ := sle_at hO
    by_cases q : M &&& zdf F H = M
    · rw [if_pos q, sc_sm] at hs
      obtain ⟨x', y', e1, e2, e3⟩ := oad_at hs
      obtain ⟨q1, q2⟩ := (df_sub hF).mp q
      have hM0 : ¬ H = 0 := fun z => by rw [z, Nat.zero_testBit] at hHb; exact absurd hHb (by simp)
      have hHM : H &&& zdf F M = H := ((df_cm (F := F) (M := H) (P := M) hF).mp ⟨hHF, q⟩).2
      -- the round at hand, behind the other
      have k1 := wP_dom' (W := W) r' (zdf_lt hF) hHM hH2 hM0
      have k2 : ole (sc (wR W H)) (some (e + b)) := by
        have := h5 (fun S a => if S = H then zbs W a else zMS.o)
        rw [show wR W H = _ from zRv_B zMS_SR (zfo_Fo W) (zar W) (zbs W) hM0]
        refine ole_tr this ?_
        rw [sc_sm]
        have h11 : sle (zBB zMS (W.n - 1) (zfo W) (zar W) (fun S a => if S = H then zbs W a else zMS.o) H a) (zbs W a) := by
          rw [zBB_eq zMS_SR (zfo_Fo W)]
          refine ole_tr (sle_al _ _) ?_
          rw [if_pos rfl]; exact ole_rf _
        have h12 := ole_oad (ole_rf (sc (some (e, 1)))) h11
        rw [show zbs W a = se (zbk W a) from rfl, sc_se, hb] at h12
        exact h12
      have k3 : ole (sc (wP W (r' + 1) (zdf F M))) (some (e + b + y')) := by
        refine ole_tr k1 ?_
        rw [sc_sm, df_df hF, e2]
        exact ole_oad k2 (ole_rf (some y'))
      have k4 : ole (sc (wO W (r' + 1) F i)) (some d0) := by
        rw [wO_sum (r' + 1) F i hi2 hif hiF'.1]
        have h13 := sle_s (f := fun M => if M &&& F = M then sm (zqu zMS (W.n - 1) (zfo W) (zar W) (zbs W) i M) (wP W (r' + 1) (zdf F M)) else none) hM
        refine ole_tr h13 ?_
        show ole (sc (if M &&& F = M then sm (zqu zMS (W.n - 1) (zfo W) (zar W) (zbs W) i M) (wP W (r' + 1) (zdf F M)) else none)) (some d0)
        rw [if_pos q1, sc_sm, e1]
        have h14 := ole_oad (ole_rf (some x')) k3
        rw [show oad (some x') (some (e + b + y')) = some d0 from by show some (x' + (e + b + y')) = some d0; rw [show x' + (e + b + y') = d0 by omega]] at h14
        exact h14
      obtain ⟨z, hz1, hz2⟩ := k4 d0 rfl
      obtain ⟨w, hw1, hw2⟩ := wO_ge (r' + 1) F i hF hi2 hif hiF'.1 z hz1
      rw [h7] at hw1
      have := Option.some.inj hw1
      refine h8 i hlt hi2 hif hiF'.1 ?_
      rw [hz1, show z = d0 by omega]
    · rw [if_neg q] at hs; exact absurd hs (by simp [sc])
theorem FH_end {W : zW} (h9 : W.n ≤ 9) {B : Int} {r0 : Nat} (hB : sc (wP W r0 (2 ^ (W.n - 1) - 1)) = some B) {r : Nat} {c : Int} {U : Nat} {wr : List Nat} {last : Nat} {d : Int} (h : FH W B (zHL W r0 0 0 [] 0) r c U wr last d) (ho : sc (zos W (zdf (2 ^ (W.n - 1) - 1) U)) = some d) : lxf W (zHL W r0 0 0 [] 0) = some (B, wr) := by
  have hp := pw_le h9
  have h0 : 0 < 2 ^ (W.n - 1) := Nat.pos_of_ne_zero (by simp)
  obtain ⟨hU, h1, h2, ⟨h3, h4⟩, h5⟩ := h
  have hmem : (c, U, wr) ∈ zHL W r c U wr last := by
    cases r with
    | zero => rw [zHL]; exact List.mem_cons_self
    | succ r => rw [zHL]; exact List.mem_cons_self
  refine lxf_is ⟨_, h1 _ hmem, ?_, rfl⟩ (fun x hx t ht => ⟨?_, fun e => ?_⟩)
  · show oad (some c) (zOt W (zdf (2 ^ (W.n - 1) - 1) U)) = some B
    rw [show zos W _ = se (zOt W _) from rfl, sc_se] at ho
    rw [ho]
    show some (c + d) = some B
    rw [h4]
  · obtain ⟨p, hp1, hp2⟩ := LB_HL h9 h0 hx ht
    rw [zdf_0 (by omega), hB] at hp1
    have := Option.some.inj hp1
    omega
  · subst e
    rcases h2 x hx ht with z | z
    · obtain ⟨u, hu⟩ := HL_word _ _ _ _ _ _ z
      rw [hu]
      have := wlt_app u [] wr
      rw [List.append_nil] at this
      rw [this]
      cases u <;> rfl
    · exact wlt_asm _ _ z.1
theorem FH_0 {W : zW} (h9 : W.n ≤ 9) {B : Int} {r0 : Nat} (hB : sc (wP W r0 (2 ^ (W.n - 1) - 1)) = some B) : FH W B (zHL W r0 0 0 [] 0) r0 0 0 [] 0 B := by
  have hp := pw_le h9
  have h0 : 0 < 2 ^ (W.n - 1) := Nat.pos_of_ne_zero (by simp)
  refine ⟨h0, fun x h => h, fun x h _ => Or.inl h, ⟨by rw [zdf_0 (by omega)]; exact hB, by omega⟩, fun i hi => by omega⟩
