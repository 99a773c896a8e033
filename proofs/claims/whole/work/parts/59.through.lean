/-! plans with an arc -/
theorem wE_all {W : zW} (h9 : W.n ≤ 9) (r : Nat) : ∀ S, ¬ S = 0 → S < 2 ^ (W.n - 1) → ∀ a, zBB zMS (W.n - 1) (zfo W) (zar W) (fun S a => if S = 0 then zMS.o else zMS.m (zbs W a) (wP W r (zdf (2 ^ (W.n - 1) - 1) S))) S a = wE W r (2 ^ (W.n - 1) - 1) S a := by
  refine zc_ind (W.n - 1) (fun S ih h0 hS a => ?_)
  rw [zBB_eq zMS_SR (zfo_Fo W), wE_eq, if_neg h0]
  show sa _ _ = sa _ _
  congr 1
  refine zs_congr zMS (fun i hi => ?_)
  rw [tb_all, decide_eq_true hi, Bool.and_true]
  by_cases q : zfo W S i = true
  · rw [if_pos q, if_pos q, ih i hi (zfo_Fo W S i q) (or_ne0 S i) (Nat.or_lt_two_pow hS (Nat.pow_lt_pow_right (by decide) hi))]
    rfl
  · rw [if_neg q, if_neg q]; rfl
theorem mkH_P {W : zW} (hW : zWok W) (x y r : Nat) : (mkH W x y (r + 1) (2 ^ (W.n - 1) - 1) 0).2 = zMS.s (fun S => zMS.s (fun a => sm (wT W (2 ^ (W.n - 1) * 9) (S * 9 + a)) (sa (if S = 0 then none else sm (mkB W x y a).2 (wP W r (zdf (2 ^ (W.n - 1) - 1) S))) (zMS.s (fun i => if zfo W S i = true then sm (mkA W x y a (i + 1)).2 (wE W r (2 ^ (W.n - 1) - 1) (S ||| 2 ^ i) (i + 1)) else none) (W.n - 1)))) 9) (2 ^ (W.n - 1)) := by
  have h9 := hW.h9
  have hp := pw_le h9
  have h0 : 0 < 2 ^ (W.n - 1) := Nat.pos_of_ne_zero (by simp)
  unfold mkH
  rw [zH_zP (zD_SR zMS_SR) (by omega) (zfo_Fo W) _ _ _ _ _ (by omega)]
  refine (zPl_mark zMS_SR (by omega) (zfo_Fo W) (mkA W x y) (mkB W x y) (zos W) r).trans ?_
  refine zs_congr zMS (fun S hS => zs_congr zMS (fun a _ => ?_))
  show sm _ (sa _ _) = sm _ (sa _ _)
  congr 2
  refine zs_congr zMS (fun i hi => ?_)
  by_cases q : zfo W S i = true
  · rw [if_pos q, if_pos q]
    show sm _ _ = sm _ _
    congr 1
    exact wE_all h9 r (S ||| 2 ^ i) (or_ne0 S i) (Nat.or_lt_two_pow hS (Nat.pow_lt_pow_right (by decide) hi)) (i + 1)
  · rw [if_neg q, if_neg q]; rfl
theorem zXt_row0 {W : zW} (T : Nat → Option (Int × Nat)) (S a : Nat) {i : Nat} (hi : i < 9) : ∀ k, zXt zMS (zfo W) (zar W) T S a k i = T i
  | 0 => rfl
  | k + 1 => by
    rw [zXt]
    split
    · unfold zX1
      have := or_ne0 S k
      rw [if_neg (by omega)]; exact zXt_row0 T S a hi k
    · exact zXt_row0 T S a hi k
theorem wT_row0 {W : zW} {i : Nat} (h0 : ¬ i = 0) (hi : i < 9) : ∀ j, wT W j i = none
  | 0 => if_neg h0
  | j + 1 => (zXt_row0 (wT W j) (j / 9) (j % 9) hi (W.n - 1)).trans (wT_row0 h0 hi j)
/-- through an arc to a place -/
def thP (W : zW) (r x j k : Nat) : Option (Int × Nat) := zMS.s (fun S => sm (wT W (2 ^ (W.n - 1) * 9) (S * 9 + x)) (if (zfo W S j && (2 ^ (W.n - 1) - 1).testBit j) = true then sm (zar W x (j + 1)) (wE W r (2 ^ (W.n - 1) - 1) (S ||| 2 ^ j) (j + 1)) else none)) k
/-- through an arc to the house -/
def thB (W : zW) (r x k : Nat) : Option (Int × Nat) := zMS.s (fun S => sm (wT W (2 ^ (W.n - 1) * 9) (S * 9 + x)) (sm (zbs W x) (wP W r (zdf (2 ^ (W.n - 1) - 1) S)))) k
theorem th_P {W : zW} (hW : zWok W) (r x j : Nat) (hx : x < 9) (hj : j < W.n - 1) : (mkH W x (j + 1) (r + 1) (2 ^ (W.n - 1) - 1) 0).2 = thP W r x j (2 ^ (W.n - 1)) := by
  rw [mkH_P hW]
  refine zs_congr zMS (fun S hS => ?_)
  have hb : ∀ a, (mkB W x (j + 1) a).2 = none := fun a => if_neg (fun z => by omega)
  have ha : ∀ a, ¬ a = x → ∀ i, (mkA W x (j + 1) a (i + 1)).2 = none := fun a h i => if_neg (fun z => h z.1)
  rw [zs_one (j := x) zMS_SR hx (fun a _ hn => ?_)]
  · congr 1
    rw [hb, sm_nl, ite_self, sa_nl, zs_one (j := j) zMS_SR hj (fun i _ hn => ?_)]
    · rw [tb_all, decide_eq_true hj, Bool.and_true, show (mkA W x (j + 1) x (j + 1)).2 = zar W x (j + 1) from if_pos ⟨rfl, rfl⟩]
    · rw [show (mkA W x (j + 1) x (i + 1)).2 = none from if_neg (fun z => hn (by omega)), sm_nl, ite_self]; rfl
  · rw [hb, sm_nl, ite_self, sa_nl]
    have z : zMS.s (fun i => if zfo W S i = true then sm (mkA W x (j + 1) a (i + 1)).2 (wE W r (2 ^ (W.n - 1) - 1) (S ||| 2 ^ i) (i + 1)) else none) (W.n - 1) = none := zs_zero zMS_SR (fun i _ => by rw [ha a hn, sm_nl, ite_self]; rfl)
    rw [z, sm_nr]; rfl
theorem th_B {W : zW} (hW : zWok W) (r x : Nat) (hx : x < 9) (hx0 : ¬ x = 0) (hop : W.op = false) : (mkH W x 0 (r + 1) (2 ^ (W.n - 1) - 1) 0).2 = thB W r x (2 ^ (W.n - 1)) := by
  have h9 := hW.h9
  rw [mkH_P hW]
  refine zs_congr zMS (fun S hS => ?_)
  have ha : ∀ a i, (mkA W x 0 a (i + 1)).2 = none := fun a i => if_neg (fun z => by omega)
  have z : ∀ a, zMS.s (fun i => if zfo W S i = true then sm (mkA W x 0 a (i + 1)).2 (wE W r (2 ^ (W.n - 1) - 1) (S ||| 2 ^ i) (i + 1)) else none) (W.n - 1) = none := fun a => zs_zero zMS_SR (fun i _ => by rw [ha, sm_nl, ite_self]; rfl)
  rw [zs_one (j := x) zMS_SR hx (fun a _ hn => ?_)]
  · rw [z, sa_nr, show (mkB W x 0 x).2 = zbs W x from if_pos ⟨hop, rfl, rfl⟩]
    by_cases h0 : S = 0
    · subst h0
      rw [if_pos rfl, sm_nr, Nat.zero_mul, Nat.zero_add, wT_row0 hx0 hx, sm_nl]
    · rw [if_neg h0]
  · rw [z, sa_nr, show (mkB W x 0 a).2 = none from if_neg (fun w => hn w.2.1), sm_nl, ite_self, sm_nr]; rfl
theorem th_none {W : zW} (hW : zWok W) (r x y : Nat) (h : (∀ a i, (mkA W x y a (i + 1)).2 = none) ∧ ∀ a, (mkB W x y a).2 = none) : (mkH W x y (r + 1) (2 ^ (W.n - 1) - 1) 0).2 = none := by
  rw [mkH_P hW]
  refine zs_zero zMS_SR (fun S _ => zs_zero zMS_SR (fun a _ => ?_))
  have z : zMS.s (fun i => if zfo W S i = true then sm (mkA W x y a (i + 1)).2 (wE W r (2 ^ (W.n - 1) - 1) (S ||| 2 ^ i) (i + 1)) else none) (W.n - 1) = none := zs_zero zMS_SR (fun i _ => by rw [h.1, sm_nl, ite_self]; rfl)
  rw [z, sa_nr, h.2, sm_nl, ite_self, sm_nr]; rfl
theorem thP_B {W : zW} (hW : zWok W) {r : Nat} (hr : r ≤ 8) (x j k : Nat) : bB 200000 (thP W r x j k) := bB_s (fun S _ => bB_mono (bB_m (wT_B hW _ _) (bB_i (fun _ => bB_m (zar_B hW _ _) (wE_B hW hr _ _ _)) (fun _ => bB_n 101000))) (by omega))
theorem thB_B {W : zW} (hW : zWok W) {r : Nat} (hr : r ≤ 8) (x k : Nat) : bB 200000 (thB W r x k) := bB_s (fun S _ => bB_mono (bB_m (wT_B hW _ _) (bB_m (zbs_B hW _) (wP_B hW hr _))) (by omega))
theorem sle_pre {f : Nat → Option (Int × Nat)} {k K : Nat} (h : k ≤ K) : sle (zMS.s f K) (zMS.s f k) := by
  induction h with
  | refl => exact sle_rf _
  | step _ ih => exact ole_tr (sle_al _ _) ih
