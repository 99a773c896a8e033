theorem zbc_k : ∀ e, e < 256 → zbc (nI e) = nI (zpk e 8) := by decide +kernel
def zlo (F : Nat) : Nat := if F.testBit 0 = true then 0 else if F.testBit 1 = true then 1 else if F.testBit 2 = true then 2 else if F.testBit 3 = true then 3 else if F.testBit 4 = true then 4 else if F.testBit 5 = true then 5 else if F.testBit 6 = true then 6 else 7
theorem zlo_is : ∀ F, F < 256 → ¬ F = 0 → F.testBit (zlo F) = true ∧ zlo F < 8 ∧ nI F &&& -(nI F) = nI (2 ^ zlo F) := by decide +kernel
/-- the next lesser part of a set -/
theorem sub_next : ∀ (o p q : Nat), 0 < p → p &&& o = p → q &&& o = q → q < p → q ≤ (p - 1) &&& o := by
  intro o
  induction o using Nat.strongRecOn with
  | _ o ih =>
    intro p q hp hpo hqo hqp
    have d2 : ∀ a b : Nat, (a &&& b) / 2 = (a / 2) &&& (b / 2) := fun a b => by have := Nat.and_div_two_pow (a := a) (b := b) (n := 1); simpa using this
    have m2 : ∀ a b : Nat, (a &&& b) % 2 = (a % 2) &&& (b % 2) := fun a b => by have := Nat.and_mod_two_pow (a := a) (b := b) (n := 1); simpa using this
    by_cases ho : o = 0
    · subst ho; rw [Nat.and_zero] at hpo; omega
    · have p2 := d2 p o
      rw [hpo] at p2
      have q2 := d2 q o
      rw [hqo] at q2
      have r2 := d2 (p - 1) o
      have rm := m2 (p - 1) o
      have qm := m2 q o
      rw [hqo] at qm
      have om : o % 2 = 0 ∨ o % 2 = 1 := by omega
      by_cases hpp : p % 2 = 1
      · rw [show (p - 1) / 2 = p / 2 by omega, ← p2] at r2
        omega
      · rw [show (p - 1) / 2 = p / 2 - 1 by omega] at r2
        rw [show (p - 1) % 2 = 1 by omega] at rm
        by_cases hq2 : q / 2 < p / 2
        · have := ih (o / 2) (by omega) (p / 2) (q / 2) (by omega) p2.symm q2.symm hq2
          rw [← r2] at this
          rcases om with z | z
          · rw [z] at qm
            have : q % 2 = 0 := by rw [qm]; exact Nat.and_zero _
            omega
          · rw [z] at rm
            have : ((p - 1) &&& o) % 2 = 1 := rm
            omega
        · omega
theorem sub_le {q o : Nat} (h : q &&& o = q) : q ≤ o := by rw [← h]; exact Nat.and_le_right
def wD (o K : Nat) (h : Nat → Option (Int × Nat)) (p : Nat) : Option (Int × Nat) := zMS.s (fun q => if p ≤ q ∧ q &&& o = q then h q else none) K
theorem wD_top {o K : Nat} (h : Nat → Option (Int × Nat)) : wD o K h (o + 1) = none := zs_zero zMS_SR (fun q _ => if_neg (fun z => by have := sub_le z.2; omega))
theorem wD_step {o K : Nat} (h : Nat → Option (Int × Nat)) {p : Nat} (hp : p < K) (hpo : p &&& o = p) : wD o K h p = sa (wD o K h (p + 1)) (h p) := by
  have e : ∀ q, (if p ≤ q ∧ q &&& o = q then h q else none) = zMS.p (if p + 1 ≤ q ∧ q &&& o = q then h q else none) (if q = p then h p else none) := by
    intro q
    by_cases hq : q = p
    · subst hq
      rw [if_pos ⟨Nat.le_refl _, hpo⟩, if_neg (fun z => by omega), if_pos rfl, zMS_p, sa_nl]
    · rw [if_neg hq, zMS_p, sa_nr]
      by_cases z : p ≤ q ∧ q &&& o = q
      · rw [if_pos z, if_pos ⟨by omega, z.2⟩]
      · rw [if_neg z, if_neg (fun w => z ⟨by omega, w.2⟩)]
  unfold wD
  rw [zs_congr zMS (fun q _ => e q), zs_add zMS_SR, zs_one (f := fun q => if q = p then h p else none) (j := p) zMS_SR hp (fun i _ hn => if_neg hn), if_pos rfl]
  rfl
theorem wD_skip {o K : Nat} (h : Nat → Option (Int × Nat)) {p : Nat} (hp : 0 < p) (hpo : p &&& o = p) : wD o K h (((p - 1) &&& o) + 1) = wD o K h p := by
  refine zs_congr zMS (fun q _ => ?_)
  by_cases z : q &&& o = q
  · have e : ((p - 1) &&& o) + 1 ≤ q ↔ p ≤ q := by
      have h1 : (p - 1) &&& o ≤ p - 1 := Nat.and_le_left
      constructor
      · intro w
        rcases Nat.lt_or_ge q p with y | y
        · have := sub_next o p q hp hpo z y; omega
        · exact y
      · intro w; omega
    by_cases y : p ≤ q
    · rw [if_pos ⟨e.mpr y, z⟩, if_pos ⟨y, z⟩]
    · rw [if_neg (fun w => y (e.mp w.1)), if_neg (fun w => y w.1)]
  · rw [if_neg (fun w => z w.2), if_neg (fun w => z w.2)]
theorem wP_share {W : zW} (hW : zWok W) {l r F : Nat} (hl : l < W.n - 1) (hF : F < 2 ^ (W.n - 1)) (hb : F.testBit l = true) : wP W (r + 1) F = sa (sm (se (W.pr (l + 1))) (wP W (r + 1) (zdf F (2 ^ l)))) (wD (zdf F (2 ^ l)) (2 ^ (W.n - 1)) (fun q => sm (wR W (q ||| 2 ^ l)) (wP W r (zdf (zdf F (2 ^ l)) q))) 0) := by
  have h9 := hW.h9
  have hp := pw_le h9
  have hF2 : F < 256 := by omega
  rw [wP_low hl (r + 1) F hF2 hb]
  congr 1
  have e1 : ∀ M, (if 0 < r + 1 ∧ M &&& F = M ∧ M.testBit l = true then sm (wR W M) (wP W (r + 1 - 1) (zdf F M)) else none) = (if (decide (M &&& F = M) && M.testBit l) = true then sm (wR W M) (wP W r (zdf F M)) else zMS.o) := by
    intro M
    by_cases z : M &&& F = M ∧ M.testBit l = true
    · rw [if_pos ⟨Nat.succ_pos _, z⟩, if_pos (by rw [decide_eq_true z.1, z.2]; rfl)]; rfl
    · rw [if_neg (fun w => z w.2), if_neg (fun w => z (by have y := Bool.and_eq_true _ _ ▸ w; exact ⟨of_decide_eq_true y.1, y.2⟩))]; rfl
  rw [zs_congr zMS (fun M _ => e1 M)]
  have h2l : 2 ^ l < 2 ^ (W.n - 1) := Nat.pow_lt_pow_right (by decide) hl
  have key := zs_reix zMS_SR (fun M => sm (wR W M) (wP W r (zdf F M))) (fun M => decide (M &&& F = M) && M.testBit l) (fun q => decide (q &&& zdf F (2 ^ l) = q)) (fun M => zdf M (2 ^ l)) (fun q => q ||| 2 ^ l) (k := 2 ^ (W.n - 1)) (l := 2 ^ (W.n - 1)) ?_ ?_
  · rw [key]
    refine zs_congr zMS (fun q hq => ?_)
    by_cases z : q &&& zdf F (2 ^ l) = q
    · rw [if_pos (decide_eq_true z), if_pos ⟨Nat.zero_le _, z⟩, zdf_or hF2, df_df hF2]
    · rw [if_neg (fun w => z (of_decide_eq_true w)), if_neg (fun w => z w.2)]; rfl
  · intro M hM hc
    have y : decide (M &&& F = M) = true ∧ M.testBit l = true := Bool.and_eq_true _ _ ▸ hc
    have y1 := of_decide_eq_true y.1
    have hM2 : M < 256 := by omega
    refine ⟨Nat.lt_of_le_of_lt Nat.and_le_left hM, decide_eq_true ((df_sub hF2).mpr ⟨(sub_iff _ _).mpr (fun i hi => ?_), fun i hi => ?_⟩), Nat.eq_of_testBit_eq (fun i => ?_)⟩
    · rw [tb_df hM2] at hi; simp at hi; exact (sub_iff _ _).mp y1 i hi.1
    · rw [tb_df hM2] at hi; simp at hi; exact hi.2
    · rw [tb_or, tb_df hM2, Nat.testBit_two_pow]
      by_cases e : l = i
      · subst e; rw [y.2]; simp
      · rw [decide_eq_false e]; simp
  · intro q hq hd
    obtain ⟨y1, y2⟩ := (df_sub hF2).mp (of_decide_eq_true hd)
    have hq2 : q < 256 := by omega
    have hql : q.testBit l = false := by
      cases hz : q.testBit l with
      | false => rfl
      | true => have := y2 l hz; rw [Nat.testBit_two_pow] at this; simp at this
    refine ⟨Nat.or_lt_two_pow hq h2l, ?_, Nat.eq_of_testBit_eq (fun i => ?_)⟩
    · rw [tb_or, decide_eq_true rfl, Bool.or_true, Bool.and_true]
      refine decide_eq_true ((sub_iff _ _).mpr (fun i hi => ?_))
      rw [tb_or] at hi
      rcases Bool.or_eq_true _ _ ▸ hi with z | z
      · exact (sub_iff _ _).mp y1 i z
      · rw [← of_decide_eq_true z]; exact hb
    · rw [tb_df (or256 hq2 (by omega)), tb_or, Nat.testBit_two_pow]
      by_cases e : l = i
      · subst e; rw [hql]; simp
      · rw [decide_eq_false e]; simp
theorem zos_2l {W : zW} {l : Nat} (hl : l < W.n - 1) (h8 : l < 8) : zos W (2 ^ l) = se (W.pr (l + 1)) := by
  rw [zos_l hl (2 ^ l) (zz_bit h8) (by rw [Nat.testBit_two_pow]; simp)]
  have : zdf (2 ^ l) (2 ^ l) = 0 := Nat.eq_of_testBit_eq (fun i => by rw [tb_df (zz_bit h8), Nat.zero_testBit]; cases (2 ^ l).testBit i <;> rfl)
  rw [this, zos_0]
  exact zMS_SR.mi _
def sf (V V1 : zV) : Prop := ∀ k j, ¬ (k = 13 ∧ (j = 4 ∨ j = 5)) → V1 k j = V k j
theorem sf.C {W : zW} {V V1 A : zV} (h : sf V V1) (hC : WC W V A) : WC W V1 A := hC.same (fun j => h 1 j (by omega)) (fun _ _ => rfl)
theorem sf.up {V V1 : zV} (h : sf V V1) {j : Nat} (hj : j = 4 ∨ j = 5) (x : Int32) : sf V (zv V1 13 j x) := fun k i q => by
  rw [zv_eq, if_neg (fun z => q ⟨z.1, by rw [z.2]; exact hj⟩), h k i q]
theorem sf_rf (V : zV) : sf V V := fun _ _ _ => rfl
theorem sf_tr {V V1 V2 : zV} (h : sf V V1) (h' : sf V1 V2) : sf V V2 := fun k j q => (h' k j q).trans (h k j q)
theorem olt_irr' {o p : Option Int} (h : olt o p) (h' : olt p o) : False := by
  cases o with
  | none => exact h
  | some x => cases p with
    | none => exact h'
    | some y => have h : x < y := h; have h' : y < x := h'; omega
set_option maxRecDepth 100000 in
set_option maxHeartbeats 4000000 in
theorem c_Sha_offer (V A : zV) (M R : Nat) (P y z : Option (Int × Nat)) (hM : M < 256) (hR : R < 2304) (m1 : A 11 M = zEc (sc y)) (m2 : A 12 M = nI (sw y)) (m3 : A 14 R = zEc (sc z)) (m4 : A 15 R = nI (sw z)) (m5 : V 13 4 = zEc (sc P)) (m6 : V 13 5 = nI (sw P)) (hBy : bB 9000 y) (hBz : bB 88000 z) (hBP : bB 97000 P) : CU Y_Sha_offer 1 [.ref 13, .int (nI M), .int (nI R)] V A (fun V' A' => A' = A ∧ sf V V' ∧ V' 13 4 = zEc (sc (sa P (sm y z))) ∧ V' 13 5 = nI (sw (sa P (sm y z)))) := by
  have cM : (nI M).toNatClampNeg = M := nI_clamp (by omega)
  have cR : (nI R).toNatClampNeg = R := nI_clamp (by omega)
  have hBx : bB 97000 (sm y z) := bB_m hBy hBz
  have hsx : oad (sc y) (sc z) = sc (sm y z) := (sc_sm y z).symm
  have hwx : nI (sw y) * nI (sw z) = nI (sw (sm y z)) := by rw [pk_mul, sw_sm]
  generalize sm y z = x at hBx hsx hwx ⊢
  refine CU.of (lv := [.ref 13, .int (nI M), .int (nI R), zu, zu]) k_Sha_offer.1 rfl (by decide) rfl rfl (Nat.le_of_ble_eq_true rfl) ?_
  refine x_aload_n (pc := 0) d_Sha_offer_0 rfl ?_
  refine x_get (pc := 1) (j := 1) d_Sha_offer_1 f_Sha_33 rfl rfl (Nat.le_of_ble_eq_true rfl) rfl rfl rfl ?_
  refine x_get (pc := 4) (j := 5) d_Sha_offer_4 f_Sha_80 rfl rfl (Nat.le_of_ble_eq_true rfl) rfl rfl rfl ?_
  refine x_iload_n (pc := 7) d_Sha_offer_7 rfl ?_
  refine x_iald (pc := 8) d_Sha_offer_8 rfl (vp_in_nI (by omega) (by decide)) ?_
  rw [cM, m1]
  refine x_aload_n (pc := 9) d_Sha_offer_9 rfl ?_
  refine x_get (pc := 10) (j := 2) d_Sha_offer_10 f_Sha_9 rfl rfl (Nat.le_of_ble_eq_true rfl) rfl rfl rfl ?_
  refine x_iload_n (pc := 13) d_Sha_offer_13 rfl ?_
  refine x_iald (pc := 14) d_Sha_offer_14 rfl (vp_in_nI (by omega) (by decide)) ?_
  rw [cR, m3]
  refine y_fN (pc := 15) (w_sum _ _ (oB_mono hBy (by omega)) (oB_mono hBz (by omega))) k_CW_sum d_Sha_offer_15 n_Sha_73 (by decide) rfl p_CW_sum (K := ?_)
  rw [hsx]
  refine y_ist3 (pc := 18) d_Sha_offer_18 ?_
  refine x_iload_n (pc := 19) d_Sha_offer_19 rfl ?_
  refine x_ldc (pc := 20) (v := 1000000000) d_Sha_offer_20 i_Sha_18 ?_
  refine x_icmp_eq (pc := 22) (tgt := 33) d_Sha_offer_22 (by decide) (fun h22 => ?_) (fun h22 => ?_)
  · refine y_vret (pc := 33) d_Sha_offer_33 rfl ?_
    have hx0 : sc x = none := (zEc_no (b := 97000) (by omega) hBx).mp h22
    rw [sc_n.mp hx0, sa_nr]
    exact ⟨rfl, sf_rf V, m5, m6⟩
  · refine x_iload_n (pc := 25) d_Sha_offer_25 rfl ?_
    refine x_aload_n (pc := 26) d_Sha_offer_26 rfl ?_
    refine x_get (pc := 27) (j := 4) d_Sha_offer_27 f_Sha_19 rfl rfl (Nat.le_of_ble_eq_true rfl) rfl rfl rfl ?_
    rw [m5]
    refine x_icmp_le (pc := 30) (tgt := 34) d_Sha_offer_30 (by decide) (fun h30 => ?_) (fun h30 => ?_)
    · refine x_aload_n (pc := 34) d_Sha_offer_34 rfl ?_
      refine x_get (pc := 35) (j := 1) d_Sha_offer_35 f_Sha_33 rfl rfl (Nat.le_of_ble_eq_true rfl) rfl rfl rfl ?_
      refine x_get (pc := 38) (j := 6) d_Sha_offer_38 f_Sha_83 rfl rfl (Nat.le_of_ble_eq_true rfl) rfl rfl rfl ?_
      refine x_iload_n (pc := 41) d_Sha_offer_41 rfl ?_
      refine x_iald (pc := 42) d_Sha_offer_42 rfl (vp_in_nI (by omega) (by decide)) ?_
      refine x_aload_n (pc := 43) d_Sha_offer_43 rfl ?_
      refine x_get (pc := 44) (j := 3) d_Sha_offer_44 f_Sha_15 rfl rfl (Nat.le_of_ble_eq_true rfl) rfl rfl rfl ?_
      refine x_iload_n (pc := 47) d_Sha_offer_47 rfl ?_
      refine x_iald (pc := 48) d_Sha_offer_48 rfl (vp_in_nI (by omega) (by decide)) ?_
      rw [cM, cR, m2, m4]
      refine x_imul (pc := 49) d_Sha_offer_49 ?_
      rw [hwx]
      refine y_ist4 (pc := 50) d_Sha_offer_50 ?_
      refine x_aload_n (pc := 52) d_Sha_offer_52 rfl ?_
      refine x_iload_n (pc := 53) d_Sha_offer_53 rfl ?_
      refine x_aload_n (pc := 54) d_Sha_offer_54 rfl ?_
      refine x_get (pc := 55) (j := 4) d_Sha_offer_55 f_Sha_19 rfl rfl (Nat.le_of_ble_eq_true rfl) rfl rfl rfl ?_
      rw [m5]
      refine x_icmp_ge (pc := 58) (tgt := 66) d_Sha_offer_58 (by decide) (fun h58 => ?_) (fun h58 => ?_)
      · refine x_aload_n (pc := 66) d_Sha_offer_66 rfl ?_
        refine x_get (pc := 67) (j := 5) d_Sha_offer_67 f_Sha_23 rfl rfl (Nat.le_of_ble_eq_true rfl) rfl rfl rfl ?_
        refine x_iload (pc := 70) d_Sha_offer_70 rfl ?_
        refine x_iadd (pc := 72) d_Sha_offer_72 ?_
        refine y_put (pc := 73) (j := 5) d_Sha_offer_73 f_Sha_23 rfl rfl (Nat.le_of_ble_eq_true rfl) rfl (Nat.le_of_ble_eq_true rfl) rfl rfl (fun _ => rfl) ?_
        refine x_aload_n (pc := 76) d_Sha_offer_76 rfl ?_
        refine x_iload_n (pc := 77) d_Sha_offer_77 rfl ?_
        refine y_put (pc := 78) (j := 4) d_Sha_offer_78 f_Sha_19 rfl rfl (Nat.le_of_ble_eq_true rfl) rfl (Nat.le_of_ble_eq_true rfl) rfl rfl (fun _ => rfl) ?_
        refine y_vret (pc := 81) d_Sha_offer_81 rfl ?_
        have heq : sc x = sc P := by
          refine zEc_inj (b := 97000) (by omega) hBx hBP (Int32.le_antisymm h30 h58)
        rw [sc_sa, sw_sa, heq, omin_eq, if_neg (fun z => olt_irr ((oltb_iff _ _).mp z)), if_neg (fun z => olt_irr ((oltb_iff _ _).mp z)), ← heq]
        refine ⟨rfl, ((sf_rf V).up (Or.inr rfl) _).up (Or.inl rfl) _, rfl, ?_⟩
        show V 13 5 + nI (sw x) = _
        rw [m6, nI_add]
      · refine x_iload (pc := 61) d_Sha_offer_61 rfl ?_
        refine x_goto (pc := 63) (tgt := 73) d_Sha_offer_63 (by decide) ?_
        refine y_put (pc := 73) (j := 5) d_Sha_offer_73 f_Sha_23 rfl rfl (Nat.le_of_ble_eq_true rfl) rfl (Nat.le_of_ble_eq_true rfl) rfl rfl (fun _ => rfl) ?_
        refine x_aload_n (pc := 76) d_Sha_offer_76 rfl ?_
        refine x_iload_n (pc := 77) d_Sha_offer_77 rfl ?_
        refine y_put (pc := 78) (j := 4) d_Sha_offer_78 f_Sha_19 rfl rfl (Nat.le_of_ble_eq_true rfl) rfl (Nat.le_of_ble_eq_true rfl) rfl rfl (fun _ => rfl) ?_
        refine y_vret (pc := 81) d_Sha_offer_81 rfl ?_
        have hlt : olt (sc x) (sc P) := (zEc_lt (b := 97000) (by omega) hBx hBP).mp (Int32.not_le.mp h58)
        rw [sc_sa, sw_sa, omin_gt hlt, if_pos ((oltb_iff _ _).mpr hlt)]
        exact ⟨rfl, ((sf_rf V).up (Or.inr rfl) _).up (Or.inl rfl) _, rfl, rfl⟩
    · refine y_vret (pc := 33) d_Sha_offer_33 rfl ?_
      have hgt : olt (sc P) (sc x) := (zEc_lt (b := 97000) (by omega) hBP hBx).mp (Int32.not_le.mp h30)
      rw [sc_sa, sw_sa, omin_lt hgt, if_neg (fun z => olt_irr' hgt ((oltb_iff _ _).mp z)), if_pos ((oltb_iff _ _).mpr hgt)]
      exact ⟨rfl, sf_rf V, m5, m6⟩
set_option maxRecDepth 100000 in
set_option maxHeartbeats 4000000 in
theorem c_Sha_copyShare (V A : zV) (r F : Nat) (hr : r + 1 ≤ 8) (hF : F < 256) : CU Y_Sha_copyShare 0 [.ref 13, .int (nI (r + 1)), .int (nI F)] V A (fun V' A' => V' = V ∧ A' = za (za A 14 (upd (A 14) ((r + 1) * 256 + F) (A 14 (r * 256 + F)))) 15 (upd (A 15) ((r + 1) * 256 + F) (A 15 (r * 256 + F)))) := by
  have e1 : nI (r + 1) * 256 + nI F = nI ((r + 1) * 256 + F) := by rw [show (256 : Int32) = nI 256 from rfl, pk_mul, nI_add]
  have e2 : (nI (r + 1) - 1) * 256 + nI F = nI (r * 256 + F) := by rw [nI_pred, show (256 : Int32) = nI 256 from rfl, pk_mul, nI_add]
  have c1 : (nI ((r + 1) * 256 + F)).toNatClampNeg = (r + 1) * 256 + F := nI_clamp (by omega)
  have c2 : (nI (r * 256 + F)).toNatClampNeg = r * 256 + F := nI_clamp (by omega)
  refine CU.of (lv := [.ref 13, .int (nI (r + 1)), .int (nI F)]) k_Sha_copyShare.1 rfl (by decide) rfl rfl (Nat.le_of_ble_eq_true rfl) ?_
  refine x_aload_n (pc := 0) d_Sha_copyShare_0 rfl ?_
  refine x_get (pc := 1) (j := 2) d_Sha_copyShare_1 f_Sha_9 rfl rfl (Nat.le_of_ble_eq_true rfl) rfl rfl rfl ?_
  refine x_iload_n (pc := 4) d_Sha_copyShare_4 rfl ?_
  refine x_sipush (pc := 5) (v := 256) d_Sha_copyShare_5 (by decide) ?_
  refine x_imul (pc := 8) d_Sha_copyShare_8 ?_
  refine x_iload_n (pc := 9) d_Sha_copyShare_9 rfl ?_
  refine x_iadd (pc := 10) d_Sha_copyShare_10 ?_
  rw [e1]
  refine x_aload_n (pc := 11) d_Sha_copyShare_11 rfl ?_
  refine x_get (pc := 12) (j := 2) d_Sha_copyShare_12 f_Sha_9 rfl rfl (Nat.le_of_ble_eq_true rfl) rfl rfl rfl ?_
  refine x_iload_n (pc := 15) d_Sha_copyShare_15 rfl ?_
  refine x_iconst (pc := 16) (v := 1) d_Sha_copyShare_16 (by decide) ?_
  refine x_isub (pc := 17) d_Sha_copyShare_17 ?_
  refine x_sipush (pc := 18) (v := 256) d_Sha_copyShare_18 (by decide) ?_
  refine x_imul (pc := 21) d_Sha_copyShare_21 ?_
  refine x_iload_n (pc := 22) d_Sha_copyShare_22 rfl ?_
  refine x_iadd (pc := 23) d_Sha_copyShare_23 ?_
  rw [e2]
  refine x_iald (pc := 24) d_Sha_copyShare_24 rfl (vp_in_nI (by omega) (by decide)) ?_
  refine y_iast (pc := 25) d_Sha_copyShare_25 rfl (fun _ => rfl) (vp_in_nI (by omega) (by decide)) ?_
  refine x_aload_n (pc := 26) d_Sha_copyShare_26 rfl ?_
  refine x_get (pc := 27) (j := 3) d_Sha_copyShare_27 f_Sha_15 rfl rfl (Nat.le_of_ble_eq_true rfl) rfl rfl rfl ?_
  refine x_iload_n (pc := 30) d_Sha_copyShare_30 rfl ?_
  refine x_sipush (pc := 31) (v := 256) d_Sha_copyShare_31 (by decide) ?_
  refine x_imul (pc := 34) d_Sha_copyShare_34 ?_
  refine x_iload_n (pc := 35) d_Sha_copyShare_35 rfl ?_
  refine x_iadd (pc := 36) d_Sha_copyShare_36 ?_
  rw [c1, c2, e1]
  refine x_aload_n (pc := 37) d_Sha_copyShare_37 rfl ?_
  refine x_get (pc := 38) (j := 3) d_Sha_copyShare_38 f_Sha_15 rfl rfl (Nat.le_of_ble_eq_true rfl) rfl rfl rfl ?_
  refine x_iload_n (pc := 41) d_Sha_copyShare_41 rfl ?_
  refine x_iconst (pc := 42) (v := 1) d_Sha_copyShare_42 (by decide) ?_
  refine x_isub (pc := 43) d_Sha_copyShare_43 ?_
  refine x_sipush (pc := 44) (v := 256) d_Sha_copyShare_44 (by decide) ?_
  refine x_imul (pc := 47) d_Sha_copyShare_47 ?_
  refine x_iload_n (pc := 48) d_Sha_copyShare_48 rfl ?_
  refine x_iadd (pc := 49) d_Sha_copyShare_49 ?_
  rw [e2]
  refine x_iald (pc := 50) d_Sha_copyShare_50 rfl (vp_in_nI (by omega) (by decide)) ?_
  refine y_iast (pc := 51) d_Sha_copyShare_51 rfl (fun _ => rfl) (vp_in_nI (by omega) (by decide)) ?_
  refine y_vret (pc := 52) d_Sha_copyShare_52 rfl ?_
  rw [c1, c2]
  exact ⟨rfl, rfl⟩
set_option maxRecDepth 100000 in
set_option maxHeartbeats 4000000 in
theorem c_Sha_share {W : zW} (V A : zV) (hW : zWok W) (r F : Nat) (hr : r + 1 ≤ 8) (hF1 : ¬ F = 0) (hF : F < 2 ^ (W.n - 1)) (tR : ∀ S, 1 ≤ S → S < 2 ^ (W.n - 1) → A 11 S = zEc (sc (wR W S)) ∧ A 12 S = nI (sw (wR W S))) (t0 : ∀ S, S < 2 ^ (W.n - 1) → A 14 S = zEc (sc (wP W 0 S))) (t1 : ∀ S, S < 2 ^ (W.n - 1) → A 14 (r * 256 + S) = zEc (sc (wP W r S)) ∧ A 15 (r * 256 + S) = nI (sw (wP W r S))) (t2 : ∀ S, S < F → A 14 ((r + 1) * 256 + S) = zEc (sc (wP W (r + 1) S)) ∧ A 15 ((r + 1) * 256 + S) = nI (sw (wP W (r + 1) S))) : CU Y_Sha_share 2 [.ref 13, .int (nI (r + 1)), .int (nI F)] V A (fun V' A' => sf V V' ∧ A' = za (za A 14 (upd (A 14) ((r + 1) * 256 + F) (zEc (sc (wP W (r + 1) F))))) 15 (upd (A 15) ((r + 1) * 256 + F) (nI (sw (wP W (r + 1) F))))) := by
  have h9 := hW.h9
  have hp := pw_le h9
  have hF2 : F < 256 := by omega
  obtain ⟨hb, hl8, elow⟩ := zlo_is F hF2 hF1
  generalize zlo F = l at hb hl8 elow
  have hl : l < W.n - 1 := by
    rcases Nat.lt_or_ge l (W.n - 1) with z | z
    · exact z
    · rw [Nat.testBit_lt_two_pow (Nat.lt_of_lt_of_le hF (Nat.pow_le_pow_right (by decide) z))] at hb; exact absurd hb (by simp)
  have h2l : 2 ^ l < 2 ^ (W.n - 1) := Nat.pow_lt_pow_right (by decide) hl
  have eoth : nI F &&& (nI (2 ^ l) ^^^ (-1)) = nI (zdf F (2 ^ l)) := zz_not hF2
  have hoF : zdf F (2 ^ l) < F := by
    have h1 : zdf F (2 ^ l) ≤ F := Nat.and_le_left
    rcases Nat.lt_or_ge (zdf F (2 ^ l)) F with z | z
    · exact z
    · have e : zdf F (2 ^ l) = F := by omega
      have := tb_df (F := F) (S := 2 ^ l) hF2 l
      rw [e, hb, Nat.testBit_two_pow] at this; simp at this
  have hsh := wP_share hW (r := r) hl hF hb
  have tl := t0 (2 ^ l) h2l
  rw [wP_0, zos_2l hl hl8, sc_se] at tl
  have to := t2 _ hoF
  generalize ho : zdf F (2 ^ l) = o at eoth hoF hsh to
  have ho2 : o < 256 := by omega
  have hob : o.testBit l = false := by rw [← ho, tb_df hF2, Nat.testBit_two_pow]; simp
  have e1 : nI (r + 1) * 256 + nI o = nI ((r + 1) * 256 + o) := by rw [show (256 : Int32) = nI 256 from rfl, pk_mul, nI_add]
  have e3 : nI (r + 1) * 256 + nI F = nI ((r + 1) * 256 + F) := by rw [show (256 : Int32) = nI 256 from rfl, pk_mul, nI_add]
  have c1 : (nI ((r + 1) * 256 + o)).toNatClampNeg = (r + 1) * 256 + o := nI_clamp (by omega)
  have c3 : (nI ((r + 1) * 256 + F)).toNatClampNeg = (r + 1) * 256 + F := nI_clamp (by omega)
  have cl : (nI (2 ^ l)).toNatClampNeg = 2 ^ l := nI_clamp (by omega)
  have hB0 : bB 90000 (sm (se (W.pr (l + 1))) (wP W (r + 1) o)) := bB_m (bB_e (hW.prB _)) (wP_B hW hr o)
  have hs0 : oad (W.pr (l + 1)) (sc (wP W (r + 1) o)) = sc (sm (se (W.pr (l + 1))) (wP W (r + 1) o)) := by rw [sc_sm, sc_se]
  have hw0 : ¬ sc (sm (se (W.pr (l + 1))) (wP W (r + 1) o)) = none → sw (wP W (r + 1) o) = sw (sm (se (W.pr (l + 1))) (wP W (r + 1) o)) := by
    intro z
    rw [sw_sm]
    cases hb2 : W.pr (l + 1) with
    | none => rw [← hs0, hb2, oad_nl] at z; exact absurd rfl z
    | some y => exact (Nat.one_mul _).symm
  have hn0 : sc (sm (se (W.pr (l + 1))) (wP W (r + 1) o)) = none → sw (sm (se (W.pr (l + 1))) (wP W (r + 1) o)) = 0 := fun z => by rw [sc_n.mp z]; rfl
  generalize sm (se (W.pr (l + 1))) (wP W (r + 1) o) = b0 at hsh hB0 hs0 hw0 hn0
  have hBh : ∀ q, bB 97000 (sm (wR W (q ||| 2 ^ l)) (wP W r (zdf o q))) := fun q => bB_m (wR_B hW _) (wP_B hW (by omega) _)
  have hBD : ∀ p, bB 97000 (sa b0 (wD o (2 ^ (W.n - 1)) (fun q => sm (wR W (q ||| 2 ^ l)) (wP W r (zdf o q))) p)) := fun p => bB_a (bB_mono hB0 (by omega)) (bB_s (fun q _ => bB_i (fun _ => hBh q) (fun _ => bB_n _)))
  have eb0 : (nI (r + 1) - 1) * 256 + nI o = nI (r * 256 + o) := by rw [nI_pred, show (256 : Int32) = nI 256 from rfl, pk_mul, nI_add]
  have hoK : o < 2 ^ (W.n - 1) := by omega
  have k01 := tR (2 ^ l) (Nat.one_le_two_pow) h2l
  have k02 := t1 o hoK
  have h2l8 : 2 ^ l < 256 := by omega
  have hst0 : wD o (2 ^ (W.n - 1)) (fun q => sm (wR W (q ||| 2 ^ l)) (wP W r (zdf o q))) 0 = sa (wD o (2 ^ (W.n - 1)) (fun q => sm (wR W (q ||| 2 ^ l)) (wP W r (zdf o q))) (0 + 1)) (sm (wR W (2 ^ l)) (wP W r o)) := by
    have z := wD_step (o := o) (K := 2 ^ (W.n - 1)) (fun q => sm (wR W (q ||| 2 ^ l)) (wP W r (zdf o q))) (p := 0) (by omega) (Nat.zero_and o)
    rw [z]
    show sa _ (sm (wR W (0 ||| 2 ^ l)) (wP W r (zdf o 0))) = _
    rw [Nat.zero_or, zdf_0 ho2]
  have hBh0 : bB 97000 (sm (wR W (2 ^ l)) (wP W r o)) := bB_m (wR_B hW _) (wP_B hW (by omega) _)
  have hfin : sa (sa b0 (sm (wR W (2 ^ l)) (wP W r o))) (wD o (2 ^ (W.n - 1)) (fun q => sm (wR W (q ||| 2 ^ l)) (wP W r (zdf o q))) (0 + 1)) = wP W (r + 1) F := by
    rw [hsh, hst0]
    exact (zMS_SR.p3 _ _ _).trans (zMS_SR.pa _ _ _)
  have hBD1 : ∀ p, bB 97000 (sa (sa b0 (sm (wR W (2 ^ l)) (wP W r o))) (wD o (2 ^ (W.n - 1)) (fun q => sm (wR W (q ||| 2 ^ l)) (wP W r (zdf o q))) p)) := fun p => bB_a (bB_a (bB_mono hB0 (by omega)) hBh0) (bB_s (fun q _ => bB_i (fun _ => hBh q) (fun _ => bB_n _)))
  generalize hb1 : sa b0 (sm (wR W (2 ^ l)) (wP W r o)) = b1 at hfin hBD1
  have hE : ∀ V1, sf V V1 → V1 13 4 = zEc (sc (wP W (r + 1) F)) → V1 13 5 = nI (sw (wP W (r + 1) F)) → X Y_Sha_share (zrm 2) (0, fun _ => 0) (zFu 2 (fun V' A' => sf V V' ∧ A' = za (za A 14 (upd (A 14) ((r + 1) * 256 + F) (zEc (sc (wP W (r + 1) F))))) 15 (upd (A 15) ((r + 1) * 256 + F) (nI (sw (wP W (r + 1) F)))))) 87 [.ref 13, .int (nI (r + 1)), .int (nI F), .int (nI (2 ^ l)), .int (nI o), .int (nI 0)] [] (cells V1 A) 0 0 := by
    intro V1 hs m4 m5
    refine x_iload (pc := 87) d_Sha_share_87 rfl ?_
    refine x_if_le (pc := 89) (tgt := 127) d_Sha_share_89 (by decide) (fun h89 => ?_) (fun h => absurd (by decide) h)
    refine x_aload_n (pc := 127) d_Sha_share_127 rfl ?_
    refine x_get (pc := 128) (j := 2) d_Sha_share_128 f_Sha_9 rfl rfl (Nat.le_of_ble_eq_true rfl) rfl rfl rfl ?_
    refine x_iload_n (pc := 131) d_Sha_share_131 rfl ?_
    refine x_sipush (pc := 132) (v := 256) d_Sha_share_132 (by decide) ?_
    refine x_imul (pc := 135) d_Sha_share_135 ?_
    refine x_iload_n (pc := 136) d_Sha_share_136 rfl ?_
    refine x_iadd (pc := 137) d_Sha_share_137 ?_
    rw [e3]
    refine x_aload_n (pc := 138) d_Sha_share_138 rfl ?_
    refine x_get (pc := 139) (j := 4) d_Sha_share_139 f_Sha_19 rfl rfl (Nat.le_of_ble_eq_true rfl) rfl rfl rfl ?_
    rw [m4]
    refine y_iast (pc := 142) d_Sha_share_142 rfl (fun _ => rfl) (vp_in_nI (by omega) (by decide)) ?_
    refine x_aload_n (pc := 143) d_Sha_share_143 rfl ?_
    refine x_get (pc := 144) (j := 3) d_Sha_share_144 f_Sha_15 rfl rfl (Nat.le_of_ble_eq_true rfl) rfl rfl rfl ?_
    refine x_iload_n (pc := 147) d_Sha_share_147 rfl ?_
    refine x_sipush (pc := 148) (v := 256) d_Sha_share_148 (by decide) ?_
    refine x_imul (pc := 151) d_Sha_share_151 ?_
    refine x_iload_n (pc := 152) d_Sha_share_152 rfl ?_
    refine x_iadd (pc := 153) d_Sha_share_153 ?_
    rw [c3, e3]
    refine x_aload_n (pc := 154) d_Sha_share_154 rfl ?_
    refine x_get (pc := 155) (j := 5) d_Sha_share_155 f_Sha_23 rfl rfl (Nat.le_of_ble_eq_true rfl) rfl rfl rfl ?_
    refine y_iast (pc := 158) d_Sha_share_158 rfl (fun _ => rfl) (vp_in_nI (by omega) (by decide)) ?_
    refine y_vret (pc := 159) d_Sha_share_159 rfl ?_
    rw [c3, m5]
    exact ⟨hs, rfl⟩
  have hL : ∀ p, p &&& o = p → ∀ V1, sf V V1 → V1 13 4 = zEc (sc (sa b1 (wD o (2 ^ (W.n - 1)) (fun q => sm (wR W (q ||| 2 ^ l)) (wP W r (zdf o q))) (p + 1)))) → V1 13 5 = nI (sw (sa b1 (wD o (2 ^ (W.n - 1)) (fun q => sm (wR W (q ||| 2 ^ l)) (wP W r (zdf o q))) (p + 1)))) → X Y_Sha_share (zrm 2) (0, fun _ => 0) (zFu 2 (fun V' A' => sf V V' ∧ A' = za (za A 14 (upd (A 14) ((r + 1) * 256 + F) (zEc (sc (wP W (r + 1) F))))) 15 (upd (A 15) ((r + 1) * 256 + F) (nI (sw (wP W (r + 1) F)))))) 87 [.ref 13, .int (nI (r + 1)), .int (nI F), .int (nI (2 ^ l)), .int (nI o), .int (nI p)] [] (cells V1 A) 0 0 := by
    intro p
    induction p using Nat.strongRecOn with
    | _ p ih =>
      intro hpo V1 hs m4 m5
      by_cases hp0 : p = 0
      · subst hp0
        rw [hfin] at m4 m5
        exact hE V1 hs m4 m5
      have hpp : 0 < p := Nat.pos_of_ne_zero hp0
      have hple := sub_le hpo
      have hpK : p < 2 ^ (W.n - 1) := by omega
      have hst := wD_step (K := 2 ^ (W.n - 1)) (fun q => sm (wR W (q ||| 2 ^ l)) (wP W r (zdf o q))) hpK hpo
      have hpl : p ||| 2 ^ l < 2 ^ (W.n - 1) := Nat.or_lt_two_pow hpK h2l
      have hpl1 : 1 ≤ p ||| 2 ^ l := by have := or_ne0 p l; omega
      have hdo : zdf o p < 2 ^ (W.n - 1) := Nat.lt_of_le_of_lt Nat.and_le_left (by omega)
      have ea : nI p ||| nI (2 ^ l) = nI (p ||| 2 ^ l) := nx_or _ _
      have eb : (nI (r + 1) - 1) * 256 + (nI o &&& (nI p ^^^ (-1))) = nI (r * 256 + zdf o p) := by rw [nI_pred, zz_not ho2, show (256 : Int32) = nI 256 from rfl, pk_mul, nI_add]; rfl
      have k1 := tR _ hpl1 hpl
      have k2 := t1 _ hdo
      refine x_iload (pc := 87) d_Sha_share_87 rfl ?_
      refine x_if_le (pc := 89) (tgt := 127) d_Sha_share_89 (by decide) (fun h => absurd h (nI_nle hpp (by omega))) (fun h89 => ?_)
      refine x_aload_n (pc := 92) d_Sha_share_92 rfl ?_
      refine x_iload (pc := 93) d_Sha_share_93 rfl ?_
      refine x_iload_n (pc := 95) d_Sha_share_95 rfl ?_
      refine x_ior (pc := 96) d_Sha_share_96 ?_
      rw [ea]
      refine x_iload_n (pc := 97) d_Sha_share_97 rfl ?_
      refine x_iconst (pc := 98) (v := 1) d_Sha_share_98 (by decide) ?_
      refine x_isub (pc := 99) d_Sha_share_99 ?_
      refine x_sipush (pc := 100) (v := 256) d_Sha_share_100 (by decide) ?_
      refine x_imul (pc := 103) d_Sha_share_103 ?_
      refine x_iload (pc := 104) d_Sha_share_104 rfl ?_
      refine x_iload (pc := 106) d_Sha_share_106 rfl ?_
      refine x_iconst (pc := 108) (v := (-1)) d_Sha_share_108 (by decide) ?_
      refine x_ixor (pc := 109) d_Sha_share_109 ?_
      refine x_iand (pc := 110) d_Sha_share_110 ?_
      refine x_iadd (pc := 111) d_Sha_share_111 ?_
      rw [eb]
      refine y_callVu (pc := 112) (c_Sha_offer _ _ (p ||| 2 ^ l) (r * 256 + zdf o p) _ (wR W (p ||| 2 ^ l)) (wP W r (zdf o p)) (by omega) (by omega) k1.1 k1.2 k2.1 k2.2 m4 m5 (wR_B hW _) (wP_B hW (by omega) _) (hBD1 _)) k_Sha_offer d_Sha_share_112 m_Sha_77 (by decide) rfl rfl rfl rfl p_Sha_offer (K := fun V2 A2 hq => ?_)
      obtain ⟨rfl, hsf, hq4, hq5⟩ := hq
      rw [show sa (sa b1 (wD o (2 ^ (W.n - 1)) (fun q => sm (wR W (q ||| 2 ^ l)) (wP W r (zdf o q))) (p + 1))) (sm (wR W (p ||| 2 ^ l)) (wP W r (zdf o p))) = sa b1 (wD o (2 ^ (W.n - 1)) (fun q => sm (wR W (q ||| 2 ^ l)) (wP W r (zdf o q))) p) from (zMS_SR.pa _ _ _).trans (by rw [hst]; rfl)] at hq4 hq5
      refine x_iload (pc := 115) d_Sha_share_115 rfl ?_
      refine x_iconst (pc := 117) (v := 1) d_Sha_share_117 (by decide) ?_
      refine x_isub (pc := 118) d_Sha_share_118 ?_
      refine x_iload (pc := 119) d_Sha_share_119 rfl ?_
      refine x_iand (pc := 121) d_Sha_share_121 ?_
      refine y_ist5 (pc := 122) d_Sha_share_122 ?_
      refine x_goto (pc := 124) (tgt := 87) d_Sha_share_124 (by decide) ?_
      have hlt : (p - 1) &&& o < p := by have : (p - 1) &&& o ≤ p - 1 := Nat.and_le_left; omega
      rw [show nI p - 1 = nI (p - 1) by rw [show p = p - 1 + 1 by omega, nI_pred]; rfl, nx_and]
      rw [← wD_skip _ hpp hpo] at hq4 hq5
      exact ih _ hlt (by rw [Nat.and_assoc, Nat.and_self]) V2 (sf_tr hs hsf) hq4 hq5
  have hI : ∀ V1, sf V V1 → V1 13 4 = zEc (sc b0) → V1 13 5 = nI (sw b0) → X Y_Sha_share (zrm 2) (0, fun _ => 0) (zFu 2 (fun V' A' => sf V V' ∧ A' = za (za A 14 (upd (A 14) ((r + 1) * 256 + F) (zEc (sc (wP W (r + 1) F))))) 15 (upd (A 15) ((r + 1) * 256 + F) (nI (sw (wP W (r + 1) F)))))) 68 [.ref 13, .int (nI (r + 1)), .int (nI F), .int (nI (2 ^ l)), .int (nI o), zu] [] (cells V1 A) 0 0 := by
    intro V1 hs m4 m5
    refine x_aload_n (pc := 68) d_Sha_share_68 rfl ?_
    refine x_iload_n (pc := 69) d_Sha_share_69 rfl ?_
    refine x_iload_n (pc := 70) d_Sha_share_70 rfl ?_
    refine x_iconst (pc := 71) (v := 1) d_Sha_share_71 (by decide) ?_
    refine x_isub (pc := 72) d_Sha_share_72 ?_
    refine x_sipush (pc := 73) (v := 256) d_Sha_share_73 (by decide) ?_
    refine x_imul (pc := 76) d_Sha_share_76 ?_
    refine x_iload (pc := 77) d_Sha_share_77 rfl ?_
    refine x_iadd (pc := 79) d_Sha_share_79 ?_
    rw [eb0]
    refine y_callVu (pc := 80) (c_Sha_offer _ _ (2 ^ l) (r * 256 + o) b0 (wR W (2 ^ l)) (wP W r o) h2l8 (by omega) k01.1 k01.2 k02.1 k02.2 m4 m5 (wR_B hW _) (wP_B hW (by omega) _) (bB_mono hB0 (by omega))) k_Sha_offer d_Sha_share_80 m_Sha_77 (by decide) rfl rfl rfl rfl p_Sha_offer (K := fun V2 A2 hq => ?_)
    obtain ⟨rfl, hsf, hq4, hq5⟩ := hq
    rw [hb1] at hq4 hq5
    refine x_iload (pc := 83) d_Sha_share_83 rfl ?_
    refine y_ist5 (pc := 85) d_Sha_share_85 ?_
    exact hL o (Nat.and_self o) V2 (sf_tr hs hsf) (by rw [wD_top, sa_nr]; exact hq4) (by rw [wD_top, sa_nr]; exact hq5)
  refine CU.of (lv := [.ref 13, .int (nI (r + 1)), .int (nI F), zu, zu, zu]) k_Sha_share.1 rfl (by decide) rfl rfl (Nat.le_of_ble_eq_true rfl) ?_
  refine x_iload_n (pc := 0) d_Sha_share_0 rfl ?_
  refine x_iload_n (pc := 1) d_Sha_share_1 rfl ?_
  refine x_ineg (pc := 2) d_Sha_share_2 ?_
  refine x_iand (pc := 3) d_Sha_share_3 ?_
  rw [elow]
  refine y_ist3 (pc := 4) d_Sha_share_4 ?_
  refine x_iload_n (pc := 5) d_Sha_share_5 rfl ?_
  refine x_iload_n (pc := 6) d_Sha_share_6 rfl ?_
  refine x_iconst (pc := 7) (v := (-1)) d_Sha_share_7 (by decide) ?_
  refine x_ixor (pc := 8) d_Sha_share_8 ?_
  refine x_iand (pc := 9) d_Sha_share_9 ?_
  rw [eoth]
  refine y_ist4 (pc := 10) d_Sha_share_10 ?_
  refine x_aload_n (pc := 12) d_Sha_share_12 rfl ?_
  refine x_aload_n (pc := 13) d_Sha_share_13 rfl ?_
  refine x_get (pc := 14) (j := 2) d_Sha_share_14 f_Sha_9 rfl rfl (Nat.le_of_ble_eq_true rfl) rfl rfl rfl ?_
  refine x_iload_n (pc := 17) d_Sha_share_17 rfl ?_
  refine x_iald (pc := 18) d_Sha_share_18 rfl (vp_in_nI (by omega) (by decide)) ?_
  rw [cl, tl]
  refine x_aload_n (pc := 19) d_Sha_share_19 rfl ?_
  refine x_get (pc := 20) (j := 2) d_Sha_share_20 f_Sha_9 rfl rfl (Nat.le_of_ble_eq_true rfl) rfl rfl rfl ?_
  refine x_iload_n (pc := 23) d_Sha_share_23 rfl ?_
  refine x_sipush (pc := 24) (v := 256) d_Sha_share_24 (by decide) ?_
  refine x_imul (pc := 27) d_Sha_share_27 ?_
  refine x_iload (pc := 28) d_Sha_share_28 rfl ?_
  refine x_iadd (pc := 30) d_Sha_share_30 ?_
  rw [e1]
  refine x_iald (pc := 31) d_Sha_share_31 rfl (vp_in_nI (by omega) (by decide)) ?_
  rw [c1, to.1]
  refine y_fN (pc := 32) (w_sum _ _ (oB_mono (hW.prB _) (by omega)) (oB_mono (wP_B hW hr o) (by omega))) k_CW_sum d_Sha_share_32 n_Sha_73 (by decide) rfl p_CW_sum (K := ?_)
  rw [hs0]
  refine y_put (pc := 35) (j := 4) d_Sha_share_35 f_Sha_19 rfl rfl (Nat.le_of_ble_eq_true rfl) rfl (Nat.le_of_ble_eq_true rfl) rfl rfl (fun _ => rfl) ?_
  refine x_aload_n (pc := 38) d_Sha_share_38 rfl ?_
  refine x_aload_n (pc := 39) d_Sha_share_39 rfl ?_
  refine x_get (pc := 40) (j := 4) d_Sha_share_40 f_Sha_19 rfl rfl (Nat.le_of_ble_eq_true rfl) rfl rfl rfl ?_
  refine x_ldc (pc := 43) (v := 1000000000) d_Sha_share_43 i_Sha_18 ?_
  refine x_icmp_ne (pc := 45) (tgt := 52) d_Sha_share_45 (by decide) (fun h45 => ?_) (fun h45 => ?_)
  · refine x_aload_n (pc := 52) d_Sha_share_52 rfl ?_
    refine x_get (pc := 53) (j := 3) d_Sha_share_53 f_Sha_15 rfl rfl (Nat.le_of_ble_eq_true rfl) rfl rfl rfl ?_
    refine x_iload_n (pc := 56) d_Sha_share_56 rfl ?_
    refine x_sipush (pc := 57) (v := 256) d_Sha_share_57 (by decide) ?_
    refine x_imul (pc := 60) d_Sha_share_60 ?_
    refine x_iload (pc := 61) d_Sha_share_61 rfl ?_
    refine x_iadd (pc := 63) d_Sha_share_63 ?_
    rw [e1]
    refine x_iald (pc := 64) d_Sha_share_64 rfl (vp_in_nI (by omega) (by decide)) ?_
    refine y_put (pc := 65) (j := 5) d_Sha_share_65 f_Sha_23 rfl rfl (Nat.le_of_ble_eq_true rfl) rfl (Nat.le_of_ble_eq_true rfl) rfl rfl (fun _ => rfl) ?_
    refine hI _ (((sf_rf V).up (Or.inl rfl) _).up (Or.inr rfl) _) ?_ ?_
    · rfl
    · show A 15 _ = _
      rw [c1, to.2, hw0 (fun z => h45 (by show zEc (sc b0) = _; rw [z]; rfl))]
  · refine x_iconst (pc := 48) (v := 0) d_Sha_share_48 (by decide) ?_
    refine x_goto (pc := 49) (tgt := 65) d_Sha_share_49 (by decide) ?_
    refine y_put (pc := 65) (j := 5) d_Sha_share_65 f_Sha_23 rfl rfl (Nat.le_of_ble_eq_true rfl) rfl (Nat.le_of_ble_eq_true rfl) rfl rfl (fun _ => rfl) ?_
    refine hI _ (((sf_rf V).up (Or.inl rfl) _).up (Or.inr rfl) _) ?_ ?_
    · rfl
    · show (0 : Int32) = _
      have h45 : zEc (sc b0) = 1000000000 := h45
      rw [hn0 ((zEc_no (b := 90000) (by omega) hB0).mp h45)]; rfl
