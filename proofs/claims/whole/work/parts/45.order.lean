/-! less or as much -/
def ole (o p : Option Int) : Prop := ∀ y, p = some y → ∃ x, o = some x ∧ x ≤ y
theorem ole_rf (o : Option Int) : ole o o := fun y h => ⟨y, h, Int.le_refl _⟩
theorem ole_n (o : Option Int) : ole o none := fun _ h => absurd h (by simp)
theorem ole_tr {o p q : Option Int} (h : ole o p) (h' : ole p q) : ole o q := fun y e => by
  obtain ⟨x, h1, h2⟩ := h' y e
  obtain ⟨w, h3, h4⟩ := h x h1
  exact ⟨w, h3, by omega⟩
theorem ole_as {o p : Option Int} (h : ole o p) (h' : ole p o) : o = p := by
  cases o with
  | none => cases p with
    | none => rfl
    | some y => obtain ⟨x, h1, -⟩ := h y rfl; exact absurd h1 (by simp)
  | some x => cases p with
    | none => obtain ⟨x, h1, -⟩ := h' x rfl; exact absurd h1 (by simp)
    | some y =>
      obtain ⟨x', h1, h2⟩ := h y rfl
      obtain ⟨y', h3, h4⟩ := h' x rfl
      have e1 := Option.some.inj h1
      have e2 := Option.some.inj h3
      rw [show x = y by omega]
theorem omin_l (o p : Option Int) : ole (omin o p) o := by
  cases o with
  | none => exact ole_n _
  | some x => cases p with
    | none => exact ole_rf _
    | some y =>
      intro z hz
      refine ⟨if y < x then y else x, rfl, ?_⟩
      have := Option.some.inj hz
      split <;> omega
theorem omin_cm (o p : Option Int) : omin o p = omin p o := by
  cases o with
  | none => rw [omin_nl, omin_nr]
  | some x => cases p with
    | none => rfl
    | some y =>
      show some (if y < x then y else x) = some (if x < y then x else y)
      congr 1
      split <;> split <;> omega
theorem omin_r (o p : Option Int) : ole (omin o p) p := by rw [omin_cm]; exact omin_l p o
theorem omin_at {o p : Option Int} {x : Int} (h : omin o p = some x) : o = some x ∨ p = some x := by
  cases o with
  | none => rw [omin_nl] at h; exact Or.inr h
  | some u => cases p with
    | none => exact Or.inl h
    | some v =>
      have h : some (if v < u then v else u) = some x := h
      split at h
      · exact Or.inr h
      · exact Or.inl h
theorem ole_omin {q o p : Option Int} (h : ole q o) (h' : ole q p) : ole q (omin o p) := fun y e => by
  rcases omin_at e with z | z
  · exact h y z
  · exact h' y z
theorem ole_oad {o p o' p' : Option Int} (h : ole o p) (h' : ole o' p') : ole (oad o o') (oad p p') := fun y e => by
  cases p with
  | none => rw [oad_nl] at e; exact absurd e (by simp)
  | some u => cases p' with
    | none => rw [oad_nr] at e; exact absurd e (by simp)
    | some v =>
      obtain ⟨a, h1, h2⟩ := h u rfl
      obtain ⟨b, h3, h4⟩ := h' v rfl
      have e' : u + v = y := Option.some.inj e
      exact ⟨a + b, by rw [h1, h3]; rfl, by omega⟩
theorem oad_at {o p : Option Int} {x : Int} (h : oad o p = some x) : ∃ a b, o = some a ∧ p = some b ∧ a + b = x := by
  cases o with
  | none => rw [oad_nl] at h; exact absurd h (by simp)
  | some a => cases p with
    | none => rw [oad_nr] at h; exact absurd h (by simp)
    | some b => exact ⟨a, b, rfl, rfl, Option.some.inj h⟩
/-- of values -/
def sle (x y : Option (Int × Nat)) : Prop := ole (sc x) (sc y)
theorem sle_s {f : Nat → Option (Int × Nat)} {i : Nat} : ∀ {k : Nat}, i < k → sle (zMS.s f k) (f i)
  | 0, h => by omega
  | k + 1, h => by
    unfold sle
    rw [zR.s, zMS_p, sc_sa]
    by_cases q : i = k
    · subst q; exact omin_r _ _
    · exact ole_tr (omin_l _ _) (sle_s (by omega))
theorem sle_at {f : Nat → Option (Int × Nat)} {x : Int} : ∀ {k : Nat}, sc (zMS.s f k) = some x → ∃ i, i < k ∧ sc (f i) = some x
  | 0, h => absurd h (by simp [zR.s, zMS_o, sc])
  | k + 1, h => by
    rw [zR.s, zMS_p, sc_sa] at h
    rcases omin_at h with z | z
    · obtain ⟨i, h1, h2⟩ := sle_at z; exact ⟨i, by omega, h2⟩
    · exact ⟨k, Nat.lt_succ_self _, z⟩
theorem sle_a {x x' y y' : Option (Int × Nat)} (h : sle x y) (h' : sle x' y') : sle (sa x x') (sa y y') := by
  unfold sle; rw [sc_sa, sc_sa]
  exact ole_omin (ole_tr (omin_l _ _) h) (ole_tr (omin_r _ _) h')
theorem sle_m {x x' y y' : Option (Int × Nat)} (h : sle x y) (h' : sle x' y') : sle (sm x x') (sm y y') := by
  unfold sle; rw [sc_sm, sc_sm]; exact ole_oad h h'
theorem sle_rf (x : Option (Int × Nat)) : sle x x := ole_rf _
theorem sle_n (x : Option (Int × Nat)) : sle x none := ole_n _
theorem sle_ss {f g : Nat → Option (Int × Nat)} : ∀ {k : Nat}, (∀ i, i < k → sle (f i) (g i)) → sle (zMS.s f k) (zMS.s g k)
  | 0, _ => sle_rf _
  | k + 1, h => sle_a (sle_ss (fun i hi => h i (by omega))) (h k (by omega))
theorem sle_al (x y : Option (Int × Nat)) : sle (sa x y) x := by unfold sle; rw [sc_sa]; exact omin_l _ _
theorem sle_ar (x y : Option (Int × Nat)) : sle (sa x y) y := by unfold sle; rw [sc_sa]; exact omin_r _ _
theorem zBB_mono {N : Nat} {fol : Nat → Nat → Bool} (hf : zFo fol) (ar : Nat → Nat → Option (Int × Nat)) {g g' : Nat → Nat → Option (Int × Nat)} (hg : ∀ S a, sle (g S a) (g' S a)) : ∀ S a, sle (zBB zMS N fol ar g S a) (zBB zMS N fol ar g' S a) := by
  refine zc_ind N (fun S ih a => ?_)
  rw [zBB_eq zMS_SR hf, zBB_eq zMS_SR hf]
  refine sle_a (hg S a) (sle_ss (fun i hi => ?_))
  by_cases q : fol S i = true
  · rw [if_pos q, if_pos q]; exact sle_m (sle_rf _) (ih i hi (hf S i q) (i + 1))
  · rw [if_neg q, if_neg q]; exact sle_rf _
/-- the fewer rounds may come, the more it costs -/
theorem zH_mono {N : Nat} {fol : Nat → Nat → Bool} {ar : Nat → Nat → Option (Int × Nat)} {bk out : Nat → Option (Int × Nat)} (r F l : Nat) : sle (zH zMS N fol ar bk out r F 0) (zH zMS N fol ar bk out r F l) := by
  cases r with
  | zero => exact sle_rf _
  | succ r =>
    rw [zH, zH]
    refine sle_a (sle_rf _) (sle_ss (fun i hi => ?_))
    by_cases q : l ≤ i ∧ (fol 0 i && F.testBit i) = true
    · rw [if_pos q, if_pos ⟨Nat.zero_le _, q.2⟩]; exact sle_rf _
    · rw [if_neg q]; exact sle_n _
theorem zH_wP {W : zW} (h9 : W.n ≤ 9) (r F l : Nat) (hF : F < 256) : sle (wP W r F) (zH zMS (W.n - 1) (zfo W) (zar W) (zbs W) (zos W) r F l) := by
  have := zH_mono (N := W.n - 1) (fol := zfo W) (ar := zar W) (bk := zbs W) (out := zos W) r F l
  rw [zH_zP zMS_SR (by omega) (zfo_Fo W) _ _ _ r F hF] at this
  exact this
theorem wP_dom {W : zW} {r F M l : Nat} (hF : F < 256) (hM : M &&& F = M) (hM2 : M < 2 ^ (W.n - 1)) (hl : l < W.n - 1) (hb : M.testBit l = true) : sle (wP W (r + 1) F) (sm (wR W M) (wP W r (zdf F M))) := by
  rw [wP_low hl (r + 1) F hF ((sub_iff _ _).mp hM l hb)]
  have h1 := sle_s (f := fun M => if 0 < r + 1 ∧ M &&& F = M ∧ M.testBit l = true then sm (wR W M) (wP W (r + 1 - 1) (zdf F M)) else none) hM2
  have e : (if 0 < r + 1 ∧ M &&& F = M ∧ M.testBit l = true then sm (wR W M) (wP W (r + 1 - 1) (zdf F M)) else none) = sm (wR W M) (wP W r (zdf F M)) := if_pos ⟨Nat.succ_pos _, hM, hb⟩
  rw [e] at h1
  exact ole_tr (sle_ar _ _) h1
theorem exists_bit {M N : Nat} (h0 : ¬ M = 0) (hM : M < 2 ^ N) : ∃ l, l < N ∧ M.testBit l = true := by
  apply Classical.byContradiction
  intro h
  refine h0 (Nat.eq_of_testBit_eq (fun i => ?_))
  rw [Nat.zero_testBit]
  cases hi : M.testBit i with
  | false => rfl
  | true =>
    by_cases q : i < N
    · exact absurd ⟨i, q, hi⟩ h
    · rw [Nat.testBit_lt_two_pow (Nat.lt_of_lt_of_le hM (Nat.pow_le_pow_right (by decide) (by omega)))] at hi; exact absurd hi (by simp)
theorem wP_dom' {W : zW} (r : Nat) {F M : Nat} (hF : F < 256) (hM : M &&& F = M) (hM2 : M < 2 ^ (W.n - 1)) (h0 : ¬ M = 0) : sle (wP W (r + 1) F) (sm (wR W M) (wP W r (zdf F M))) := by
  obtain ⟨l, h1, h2⟩ := exists_bit h0 hM2
  exact wP_dom hF hM hM2 h1 h2
/-- the cost of going to a first place, and of all behind it -/
def wO (W : zW) (r F i : Nat) : Option (Int × Nat) := sm (zar W 0 (i + 1)) (wE W r F (2 ^ i) (i + 1))
theorem wO_sum {W : zW} (r F i : Nat) (hi : i < W.n - 1) (hf : zfo W 0 i = true) (hF : F.testBit i = true) : wO W r F i = zMS.s (fun M => if M &&& F = M then sm (zqu zMS (W.n - 1) (zfo W) (zar W) (zbs W) i M) (wP W r (zdf F M)) else none) (2 ^ (W.n - 1)) := by
  unfold wO wE
  have := zBB_rounds zMS_SR (zfo_Fo W) (zar W) (zbs W) (fun S => wP W r (zdf F S)) F (2 ^ i) (Nat.pow_lt_pow_right (by decide) hi) ((sub_iff _ _).mpr (fun j hj => by rw [Nat.testBit_two_pow] at hj; rw [← of_decide_eq_true hj]; exact hF)) (i + 1)
  refine (congrArg (sm (zar W 0 (i + 1))) this).trans ?_
  refine (zs_mul zMS_SR (zar W 0 (i + 1)) _ _).symm.trans ?_
  refine zs_congr zMS (fun M _ => ?_)
  by_cases q : M &&& F = M
  · rw [if_pos q, if_pos q]
    unfold zqu
    rw [if_pos hf]
    exact (zMS_SR.ma _ _ _).symm
  · rw [if_neg q, if_neg q]; exact sm_nr _
theorem zqu_ge {W : zW} (i M : Nat) (hi : i < W.n - 1) : sle (wR W M) (zqu zMS (W.n - 1) (zfo W) (zar W) (zbs W) i M) := sle_s (f := fun i => zqu zMS (W.n - 1) (zfo W) (zar W) (zbs W) i M) hi
theorem wO_ge {W : zW} (r F i : Nat) (hF2 : F < 256) (hi : i < W.n - 1) (hf : zfo W 0 i = true) (hF : F.testBit i = true) : sle (wP W (r + 1) F) (wO W r F i) := by
  intro y hy
  rw [wO_sum r F i hi hf hF] at hy
  obtain ⟨M, hM, hs⟩ := sle_at hy
  by_cases q : M &&& F = M
  · rw [if_pos q] at hs
    by_cases h0 : M = 0
    · subst h0
      rw [zqu_supp zMS_SR (zfo_Fo W) _ _ _ _ (Nat.zero_testBit _), zMS_o, sm_nl] at hs
      exact absurd hs (by simp [sc])
    · exact ole_tr (wP_dom' r hF2 q hM h0) (sle_m (zqu_ge i M hi) (sle_rf _)) y hs
  · rw [if_neg q] at hs; exact absurd hs (by simp [sc])
theorem wO_at {W : zW} (h9 : W.n ≤ 9) {r F : Nat} (hF : F < 256) {d : Int} (hd : sc (wP W (r + 1) F) = some d) (ho : ¬ sc (zos W F) = some d) : ∃ i, i < W.n - 1 ∧ zfo W 0 i = true ∧ F.testBit i = true ∧ sc (wO W r F i) = some d := by
  have h1 := hd
  rw [show wP W (r + 1) F = _ from (zH_zP zMS_SR (by omega) (zfo_Fo W) _ _ _ (r + 1) F hF).symm, zH, zMS_p, sc_sa] at h1
  rcases omin_at h1 with z | z
  · exact absurd z ho
  · obtain ⟨i, hi, hs⟩ := sle_at z
    by_cases q : 0 ≤ i ∧ (zfo W 0 i && F.testBit i) = true
    · rw [if_pos q] at hs
      have q' : zfo W 0 i = true ∧ F.testBit i = true := Bool.and_eq_true _ _ ▸ q.2
      refine ⟨i, hi, q'.1, q'.2, ?_⟩
      have hle : sle (wO W r F i) (sm (zar W 0 (i + 1)) (zBB zMS (W.n - 1) (fun S k => zfo W S k && F.testBit k) (zar W) (fun S a => sm (zbs W a) (zH zMS (W.n - 1) (zfo W) (zar W) (zbs W) (zos W) r (zdf F S) (i + 1))) (2 ^ i) (i + 1))) :=
        sle_m (sle_rf _) (zBB_mono (fun S i q => zfo_Fo W S i ((Bool.and_eq_true _ _ ▸ q : _ ∧ _).1)) _ (fun S a => sle_m (sle_rf _) (zH_wP h9 r (zdf F S) (i + 1) (zdf_lt hF))) _ _)
      obtain ⟨x, hx, hx2⟩ := hle d hs
      obtain ⟨y, hy, hy2⟩ := wO_ge r F i hF hi q'.1 q'.2 x hx
      rw [hd] at hy
      have := Option.some.inj hy
      rw [hx, show x = d by omega]
    · rw [if_neg q] at hs; exact absurd hs (by simp [zMS_o, sc])
/-- a list's costs -/
def ltot (W : zW) (x : zLf) : Option Int := oad (some x.1) (zOt W (zdf (2 ^ (W.n - 1) - 1) x.2.1))
theorem lsum_le {W : zW} {x : zLf} : ∀ {l : List zLf}, x ∈ l → ole (sc (lsum W (zos W) l)) (ltot W x)
  | [], h => absurd h (by simp)
  | y :: l, h => by
    rw [lsum, sc_sa]
    rcases List.mem_cons.mp h with e | e
    · subst e
      refine ole_tr (omin_l _ _) ?_
      rw [sc_sm, show zos W _ = se (zOt W _) from rfl, sc_se]
      exact ole_rf _
    · exact ole_tr (omin_r _ _) (lsum_le e)
theorem lsum_at {W : zW} {t : Int} : ∀ {l : List zLf}, sc (lsum W (zos W) l) = some t → ∃ x, x ∈ l ∧ ltot W x = some t
  | [], h => absurd h (by simp [lsum, sc])
  | y :: l, h => by
    rw [lsum, sc_sa] at h
    rcases omin_at h with z | z
    · refine ⟨y, List.mem_cons_self, ?_⟩
      rw [sc_sm, show zos W _ = se (zOt W _) from rfl, sc_se] at z
      exact z
    · obtain ⟨x, h1, h2⟩ := lsum_at z; exact ⟨x, List.mem_cons_of_mem _ h1, h2⟩
theorem LB_HL {W : zW} (h9 : W.n ≤ 9) {r : Nat} {c : Int} {U : Nat} {wr : List Nat} {last : Nat} {x : zLf} {t : Int} (hU : U < 2 ^ (W.n - 1)) (hx : x ∈ zHL W r c U wr last) (ht : ltot W x = some t) : ∃ p, sc (wP W r (zdf (2 ^ (W.n - 1) - 1) U)) = some p ∧ c + p ≤ t := by
  have hp := pw_le h9
  have h0 : 0 < 2 ^ (W.n - 1) := Nat.pos_of_ne_zero (by simp)
  obtain ⟨y, h1, h2⟩ := lsum_le hx t ht
  rw [lsum_HL h9 _ _ _ _ _ _ hU, sc_sm] at h1
  obtain ⟨a, b, e1, e2, e3⟩ := oad_at h1
  obtain ⟨p, h3, h4⟩ := zH_wP h9 r (zdf (2 ^ (W.n - 1) - 1) U) last (zdf_lt (by omega)) b e2
  have e1' : c = a := Option.some.inj e1
  exact ⟨p, h3, by omega⟩
theorem LB_NL {W : zW} (h9 : W.n ≤ 9) {r f : Nat} {c : Int} {U F H : Nat} {wr : List Nat} {a bg : Nat} {x : zLf} {t : Int} (hU : UF W U F H) (hf : zc U (W.n - 1) ≤ f) (hx : x ∈ zNL W (fun c U wr => zHL W r c U wr bg) f c U H wr a) (ht : ltot W x = some t) : ∃ p, sc (wE W r F H a) = some p ∧ c + p ≤ t := by
  have hp := pw_le h9
  have h0 : 0 < 2 ^ (W.n - 1) := Nat.pos_of_ne_zero (by simp)
  obtain ⟨y, h1, h2⟩ := lsum_le hx t ht
  rw [lsum_NL h9 (zos W) _ (fun F => zH zMS (W.n - 1) (zfo W) (zar W) (zbs W) (zos W) r F bg) (fun c U wr hU => lsum_HL h9 _ r c U wr bg hU) F f c U H wr a hf hU, sc_sm] at h1
  obtain ⟨u, b, e1, e2, e3⟩ := oad_at h1
  have hF : F < 256 := Nat.lt_of_lt_of_le hU.1 hp
  have hm := zBB_mono (N := W.n - 1) (fol := fun S i => zfo W S i && F.testBit i) (fun S i q => zfo_Fo W S i ((Bool.and_eq_true _ _ ▸ q : _ ∧ _).1)) (zar W) (g := fun S a => sm (zbs W a) (wP W r (zdf F S))) (g' := fun S a => sm (zbs W a) (zH zMS (W.n - 1) (zfo W) (zar W) (zbs W) (zos W) r (zdf F S) bg)) (fun S a => sle_m (sle_rf _) (zH_wP h9 r (zdf F S) bg (zdf_lt hF))) H a
  obtain ⟨p, h3, h4⟩ := hm b e2
  have e1' : c = u := Option.some.inj e1
  exact ⟨p, h3, by omega⟩
