set_option maxRecDepth 100000 in
set_option maxHeartbeats 4000000 in
theorem c_Mo_isBeforeFirst (V A : zV) (w f : List Nat) (hw : zwd w (V 36 21) (A 47)) (hf : zwd f (V 36 19) (A 46)) (hw16 : w.length ≤ 16) (hf16 : f.length ≤ 16) (hw9 : ∀ x, x ∈ w → x < 9) (hf9 : ∀ x, x ∈ f → x < 9) : CQ Y_Mo_isBeforeFirst 0 [.ref 36] V A (fun r V' A' => ((r = 1 ∧ wlt w f = true) ∨ (r = 0 ∧ ¬ wlt w f = true)) ∧ V' = V ∧ A' = A) := by
  have hE : ∀ k, wlt w f = decide (w.length < f.length) → X Y_Mo_isBeforeFirst (zrm 0) (0, fun _ => 0) (zFq 0 (fun r V' A' => ((r = 1 ∧ wlt w f = true) ∨ (r = 0 ∧ ¬ wlt w f = true)) ∧ V' = V ∧ A' = A)) 60 [.ref 36, k] [] (cells V A) 0 0 := by
    intro k he
    refine x_aload_n (pc := 60) d_Mo_isBeforeFirst_60 rfl ?_
    refine x_get (pc := 61) (j := 21) d_Mo_isBeforeFirst_61 f_Mo_115 rfl rfl (Nat.le_of_ble_eq_true rfl) rfl rfl rfl ?_
    refine x_aload_n (pc := 64) d_Mo_isBeforeFirst_64 rfl ?_
    refine x_get (pc := 65) (j := 19) d_Mo_isBeforeFirst_65 f_Mo_108 rfl rfl (Nat.le_of_ble_eq_true rfl) rfl rfl rfl ?_
    rw [hw.1, hf.1]
    refine x_icmp_ge (pc := 68) (tgt := 75) d_Mo_isBeforeFirst_68 (by decide) (fun h68 => ?_) (fun h68 => ?_)
    · refine x_iconst (pc := 75) (v := 0) d_Mo_isBeforeFirst_75 (by decide) ?_
      refine y_zret (pc := 76) d_Mo_isBeforeFirst_76 rfl rfl ?_
      have hlt : ¬ w.length < f.length := fun z => absurd h68 (nI_ge z (by omega))
      exact ⟨Or.inr ⟨rfl, by rw [he, decide_eq_false hlt]; simp⟩, rfl, rfl⟩
    · refine x_iconst (pc := 71) (v := 1) d_Mo_isBeforeFirst_71 (by decide) ?_
      refine x_goto (pc := 72) (tgt := 76) d_Mo_isBeforeFirst_72 (by decide) ?_
      refine y_zret (pc := 76) d_Mo_isBeforeFirst_76 rfl rfl ?_
      have hlt : w.length < f.length := by
        rcases Nat.lt_or_ge w.length f.length with z | z
        · exact z
        · exact absurd (nI_le z (by omega)) h68
      exact ⟨Or.inl ⟨rfl, by rw [he]; exact decide_eq_true hlt⟩, rfl, rfl⟩
  have hS : ∀ k, k ≤ w.length → k ≤ f.length → wlt w f = wlt (w.drop k) (f.drop k) → X Y_Mo_isBeforeFirst (zrm 0) (0, fun _ => 0) (zFq 0 (fun r V' A' => ((r = 1 ∧ wlt w f = true) ∨ (r = 0 ∧ ¬ wlt w f = true)) ∧ V' = V ∧ A' = A)) 2 [.ref 36, .int (nI k)] [] (cells V A) 0 0 := by
    refine z_down (fun hkf he => ?_) (fun k hk ih hkf he => ?_)
    · refine x_iload_n (pc := 2) d_Mo_isBeforeFirst_2 rfl ?_
      refine x_aload_n (pc := 3) d_Mo_isBeforeFirst_3 rfl ?_
      refine x_get (pc := 4) (j := 21) d_Mo_isBeforeFirst_4 f_Mo_115 rfl rfl (Nat.le_of_ble_eq_true rfl) rfl rfl rfl ?_
      rw [hw.1]
      refine x_icmp_ge (pc := 7) (tgt := 60) d_Mo_isBeforeFirst_7 (by decide) (fun h7 => ?_) (fun h => absurd (nI_le (by omega) (by omega)) h)
      refine hE _ (he.trans ?_)
      rw [List.drop_of_length_le (Nat.le_refl _)]
      cases hd : f.drop w.length with
      | nil =>
        have := congrArg List.length hd
        rw [List.length_drop] at this
        have z : ¬ w.length < f.length := by have : f.length - w.length = 0 := this; omega
        rw [decide_eq_false z]; rfl
      | cons y l =>
        have := congrArg List.length hd
        rw [List.length_drop, List.length_cons] at this
        rw [decide_eq_true (show w.length < f.length by omega)]; rfl
    · have ck : (nI k).toNatClampNeg = k := nI_clamp (by omega)
      have ew := List.drop_eq_getElem_cons hk
      have hwk := hw9 w[k] (List.getElem_mem hk)
      refine x_iload_n (pc := 2) d_Mo_isBeforeFirst_2 rfl ?_
      refine x_aload_n (pc := 3) d_Mo_isBeforeFirst_3 rfl ?_
      refine x_get (pc := 4) (j := 21) d_Mo_isBeforeFirst_4 f_Mo_115 rfl rfl (Nat.le_of_ble_eq_true rfl) rfl rfl rfl ?_
      rw [hw.1]
      refine x_icmp_ge (pc := 7) (tgt := 60) d_Mo_isBeforeFirst_7 (by decide) (fun h => absurd h (nI_ge (by omega) (by omega))) (fun h7 => ?_)
      refine x_iload_n (pc := 10) d_Mo_isBeforeFirst_10 rfl ?_
      refine x_aload_n (pc := 11) d_Mo_isBeforeFirst_11 rfl ?_
      refine x_get (pc := 12) (j := 19) d_Mo_isBeforeFirst_12 f_Mo_108 rfl rfl (Nat.le_of_ble_eq_true rfl) rfl rfl rfl ?_
      rw [hf.1]
      refine x_icmp_ge (pc := 15) (tgt := 60) d_Mo_isBeforeFirst_15 (by decide) (fun h15 => ?_) (fun h15 => ?_)
      · have hkf2 : k = f.length := by
          rcases Nat.lt_or_ge k f.length with z | z
          · exact absurd h15 (nI_ge z (by omega))
          · omega
        refine hE _ (he.trans ?_)
        rw [ew, show f.drop k = [] from List.drop_of_length_le (by omega)]
        rw [decide_eq_false (show ¬ w.length < f.length by omega)]; rfl
      · have hkf2 : k < f.length := by
          rcases Nat.lt_or_ge k f.length with z | z
          · exact z
          · exact absurd (nI_le z (by omega)) h15
        have ef := List.drop_eq_getElem_cons hkf2
        have hfk := hf9 f[k] (List.getElem_mem hkf2)
        have he2 : wlt w f = if w[k] < f[k] then true else if f[k] < w[k] then false else wlt (w.drop (k + 1)) (f.drop (k + 1)) := by rw [he, ew, ef]; rfl
        refine x_aload_n (pc := 18) d_Mo_isBeforeFirst_18 rfl ?_
        refine x_get (pc := 19) (j := 20) d_Mo_isBeforeFirst_19 f_Mo_54 rfl rfl (Nat.le_of_ble_eq_true rfl) rfl rfl rfl ?_
        refine x_iload_n (pc := 22) d_Mo_isBeforeFirst_22 rfl ?_
        refine x_iald (pc := 23) d_Mo_isBeforeFirst_23 rfl (vp_in_nI (by omega) (by decide)) ?_
        refine x_aload_n (pc := 24) d_Mo_isBeforeFirst_24 rfl ?_
        refine x_get (pc := 25) (j := 18) d_Mo_isBeforeFirst_25 f_Mo_51 rfl rfl (Nat.le_of_ble_eq_true rfl) rfl rfl rfl ?_
        refine x_iload_n (pc := 28) d_Mo_isBeforeFirst_28 rfl ?_
        refine x_iald (pc := 29) d_Mo_isBeforeFirst_29 rfl (vp_in_nI (by omega) (by decide)) ?_
        rw [ck, hw.2 k hk, hf.2 k hkf2]
        refine x_icmp_eq (pc := 30) (tgt := 54) d_Mo_isBeforeFirst_30 (by decide) (fun h30 => ?_) (fun h30 => ?_)
        · refine y_inc1 (pc := 54) (v := 1) d_Mo_isBeforeFirst_54 (by decide) ?_
          refine x_goto (pc := 57) (tgt := 2) d_Mo_isBeforeFirst_57 (by decide) ?_
          have e := (nI_eq (by omega) (by omega)).mp h30
          rw [show nI k + 1 = nI (k + 1) from (nI_succ k).symm]
          exact ih (by omega) (by rw [he2, if_neg (by omega), if_neg (by omega)])
        · refine x_aload_n (pc := 33) d_Mo_isBeforeFirst_33 rfl ?_
          refine x_get (pc := 34) (j := 20) d_Mo_isBeforeFirst_34 f_Mo_54 rfl rfl (Nat.le_of_ble_eq_true rfl) rfl rfl rfl ?_
          refine x_iload_n (pc := 37) d_Mo_isBeforeFirst_37 rfl ?_
          refine x_iald (pc := 38) d_Mo_isBeforeFirst_38 rfl (vp_in_nI (by omega) (by decide)) ?_
          refine x_aload_n (pc := 39) d_Mo_isBeforeFirst_39 rfl ?_
          refine x_get (pc := 40) (j := 18) d_Mo_isBeforeFirst_40 f_Mo_51 rfl rfl (Nat.le_of_ble_eq_true rfl) rfl rfl rfl ?_
          refine x_iload_n (pc := 43) d_Mo_isBeforeFirst_43 rfl ?_
          refine x_iald (pc := 44) d_Mo_isBeforeFirst_44 rfl (vp_in_nI (by omega) (by decide)) ?_
          rw [ck, hw.2 k hk, hf.2 k hkf2]
          refine x_icmp_ge (pc := 45) (tgt := 52) d_Mo_isBeforeFirst_45 (by decide) (fun h45 => ?_) (fun h45 => ?_)
          · refine x_iconst (pc := 52) (v := 0) d_Mo_isBeforeFirst_52 (by decide) ?_
            refine y_zret (pc := 53) d_Mo_isBeforeFirst_53 rfl rfl ?_
            have hge : ¬ w[k] < f[k] := fun z => absurd h45 (nI_ge z (by omega))
            have hne : ¬ w[k] = f[k] := fun z => h30 (by rw [z])
            exact ⟨Or.inr ⟨rfl, by rw [he2, if_neg hge, if_pos (by omega)]; simp⟩, rfl, rfl⟩
          · refine x_iconst (pc := 48) (v := 1) d_Mo_isBeforeFirst_48 (by decide) ?_
            refine x_goto (pc := 49) (tgt := 53) d_Mo_isBeforeFirst_49 (by decide) ?_
            refine y_zret (pc := 53) d_Mo_isBeforeFirst_53 rfl rfl ?_
            have hlt : w[k] < f[k] := by
              rcases Nat.lt_or_ge w[k] f[k] with z | z
              · exact z
              · exact absurd (nI_le z (by omega)) h45
            exact ⟨Or.inl ⟨rfl, by rw [he2, if_pos hlt]⟩, rfl, rfl⟩
  refine CQ.of (lv := [.ref 36, zu]) k_Mo_isBeforeFirst.1 rfl (by decide) rfl rfl (Nat.le_of_ble_eq_true rfl) ?_
  refine x_iconst (pc := 0) (v := 0) d_Mo_isBeforeFirst_0 (by decide) ?_
  refine y_ist1 (pc := 1) d_Mo_isBeforeFirst_1 ?_
  exact hS 0 (Nat.zero_le _) (Nat.zero_le _) rfl
set_option maxRecDepth 100000 in
set_option maxHeartbeats 4000000 in
theorem c_Mo_write (V A : zV) (v : Int32) (m : Nat) (hm : m < 20) (hs : V 36 21 = nI m) : CU Y_Mo_write 0 [.ref 36, .int v] V A (fun V' A' => V' = zv V 36 21 (nI (m + 1)) ∧ A' = za A 47 (upd (A 47) m v)) := by
  have cm : (nI m).toNatClampNeg = m := nI_clamp (by omega)
  refine CU.of (lv := [.ref 36, .int v]) k_Mo_write.1 rfl (by decide) rfl rfl (Nat.le_of_ble_eq_true rfl) ?_
  refine x_aload_n (pc := 0) d_Mo_write_0 rfl ?_
  refine x_get (pc := 1) (j := 20) d_Mo_write_1 f_Mo_54 rfl rfl (Nat.le_of_ble_eq_true rfl) rfl rfl rfl ?_
  refine x_aload_n (pc := 4) d_Mo_write_4 rfl ?_
  refine x_get (pc := 5) (j := 21) d_Mo_write_5 f_Mo_115 rfl rfl (Nat.le_of_ble_eq_true rfl) rfl rfl rfl ?_
  rw [hs]
  refine x_iload_n (pc := 8) d_Mo_write_8 rfl ?_
  refine y_iast (pc := 9) d_Mo_write_9 rfl (fun _ => rfl) (vp_in_nI (by omega) (by decide)) ?_
  refine x_aload_n (pc := 10) d_Mo_write_10 rfl ?_
  refine x_dup (pc := 11) d_Mo_write_11 rfl ?_
  refine x_get (pc := 12) (j := 21) d_Mo_write_12 f_Mo_115 rfl rfl (Nat.le_of_ble_eq_true rfl) rfl rfl rfl ?_
  rw [cm, hs]
  refine x_iconst (pc := 15) (v := 1) d_Mo_write_15 (by decide) ?_
  refine x_iadd (pc := 16) d_Mo_write_16 ?_
  refine y_put (pc := 17) (j := 21) d_Mo_write_17 f_Mo_115 rfl rfl (Nat.le_of_ble_eq_true rfl) rfl (Nat.le_of_ble_eq_true rfl) rfl rfl (fun _ => rfl) ?_
  refine y_vret (pc := 20) d_Mo_write_20 rfl ?_
  rw [show nI m + 1 = nI (m + 1) from (nI_succ m).symm]
  exact ⟨rfl, rfl⟩
theorem zwd_snoc {w : List Nat} {s : Int32} {t : Nat → Int32} (h : zwd w s t) (v : Nat) : zwd (w ++ [v]) (nI (w.length + 1)) (upd t w.length (nI v)) := by
  refine ⟨by rw [List.length_append]; rfl, fun i hi => ?_⟩
  rw [List.length_append, List.length_singleton] at hi
  by_cases e : i = w.length
  · subst e
    rw [upd_at, List.getElem_append_right (Nat.le_refl _)]
    simp
  · rw [upd_ne _ _ e, h.2 i (by omega), List.getElem_append_left (by omega)]
set_option maxRecDepth 100000 in
set_option maxHeartbeats 4000000 in
theorem c_Mo_note (V A : zV) (a b : Nat) (o p : Option Int) (ha : a < 9) (hb : b < 9) (hm : A 44 (9 * a + b) = zEf o) (hBo : oB 200000 o) (hBp : oB 200000 p) : CU Y_Mo_note 0 [.ref 36, .int (nI a), .int (nI b), .int (zEf p)] V A (fun V' A' => V' = V ∧ A' = za A 44 (upd (A 44) (9 * a + b) (zEf (omin o p)))) := by
  have ix : 9 * nI a + nI b = nI (9 * a + b) := by rw [show (9 : Int32) = nI 9 from rfl, pk_mul, nI_add]
  have cx : (nI (9 * a + b)).toNatClampNeg = 9 * a + b := nI_clamp (by omega)
  refine CU.of (lv := [.ref 36, .int (nI a), .int (nI b), .int (zEf p)]) k_Mo_note.1 rfl (by decide) rfl rfl (Nat.le_of_ble_eq_true rfl) ?_
  refine x_aload_n (pc := 0) d_Mo_note_0 rfl ?_
  refine x_get (pc := 1) (j := 16) d_Mo_note_1 f_Mo_45 rfl rfl (Nat.le_of_ble_eq_true rfl) rfl rfl rfl ?_
  refine x_bipush (pc := 4) (v := 9) d_Mo_note_4 (by decide) ?_
  refine x_iload_n (pc := 6) d_Mo_note_6 rfl ?_
  refine x_imul (pc := 7) d_Mo_note_7 ?_
  refine x_iload_n (pc := 8) d_Mo_note_8 rfl ?_
  refine x_iadd (pc := 9) d_Mo_note_9 ?_
  rw [ix]
  refine x_iload_n (pc := 10) d_Mo_note_10 rfl ?_
  refine x_aload_n (pc := 11) d_Mo_note_11 rfl ?_
  refine x_get (pc := 12) (j := 16) d_Mo_note_12 f_Mo_45 rfl rfl (Nat.le_of_ble_eq_true rfl) rfl rfl rfl ?_
  refine x_bipush (pc := 15) (v := 9) d_Mo_note_15 (by decide) ?_
  refine x_iload_n (pc := 17) d_Mo_note_17 rfl ?_
  refine x_imul (pc := 18) d_Mo_note_18 ?_
  refine x_iload_n (pc := 19) d_Mo_note_19 rfl ?_
  refine x_iadd (pc := 20) d_Mo_note_20 ?_
  rw [ix]
  refine x_iald (pc := 21) d_Mo_note_21 rfl (vp_in_nI (by omega) (by decide)) ?_
  rw [cx, hm]
  refine x_icmp_ge (pc := 22) (tgt := 29) d_Mo_note_22 (by decide) (fun h22 => ?_) (fun h22 => ?_)
  · refine x_aload_n (pc := 29) d_Mo_note_29 rfl ?_
    refine x_get (pc := 30) (j := 16) d_Mo_note_30 f_Mo_45 rfl rfl (Nat.le_of_ble_eq_true rfl) rfl rfl rfl ?_
    refine x_bipush (pc := 33) (v := 9) d_Mo_note_33 (by decide) ?_
    refine x_iload_n (pc := 35) d_Mo_note_35 rfl ?_
    refine x_imul (pc := 36) d_Mo_note_36 ?_
    refine x_iload_n (pc := 37) d_Mo_note_37 rfl ?_
    refine x_iadd (pc := 38) d_Mo_note_38 ?_
    refine x_iald (pc := 39) d_Mo_note_39 rfl (by rw [ix]; exact vp_in_nI (by omega) (by decide)) ?_
    rw [ix, cx, hm]
    refine y_iast (pc := 40) d_Mo_note_40 rfl (fun _ => rfl) (vp_in_nI (by omega) (by decide)) ?_
    refine y_vret (pc := 41) d_Mo_note_41 rfl ?_
    rw [cx, show omin o p = o from (by by_cases e : o = p; rw [e, omin_eq]; exact omin_lt (olt_tri (fun z => absurd h22 (Int32.not_le.mpr ((zEf_lt (b := 200000) (by omega) hBp hBo).mpr z))) (fun z => e z.symm)))]
    exact ⟨rfl, rfl⟩
  · refine x_iload_n (pc := 25) d_Mo_note_25 rfl ?_
    refine x_goto (pc := 26) (tgt := 40) d_Mo_note_26 (by decide) ?_
    refine y_iast (pc := 40) d_Mo_note_40 rfl (fun _ => rfl) (vp_in_nI (by omega) (by decide)) ?_
    refine y_vret (pc := 41) d_Mo_note_41 rfl ?_
    rw [cx, omin_gt ((zEf_lt (b := 200000) (by omega) hBp hBo).mp (Int32.not_le.mp h22))]
    exact ⟨rfl, rfl⟩
def DF (V A V' A' : zV) : Prop := (∀ k j, ¬ (k = 36 ∧ (j = 14 ∨ j = 15 ∨ j = 19 ∨ j = 21 ∨ j = 22 ∨ j = 23 ∨ j = 24 ∨ j = 25)) → V' k j = V k j) ∧ ∀ k, ¬ (44 ≤ k ∧ k ≤ 47) → A' k = A k
theorem DF.R {W : zW} {V A V' A' : zV} (h : DF V A V' A') (hR : WR W V A) : WR W V' A' := hR.same (fun j h1 h2 => h.1 36 j (by omega)) (fun k h1 h2 => h.2 k (by omega))
theorem DF_tr {V A V1 A1 V2 A2 : zV} (h : DF V A V1 A1) (h' : DF V1 A1 V2 A2) : DF V A V2 A2 := ⟨fun k j q => (h'.1 k j q).trans (h.1 k j q), fun k q => (h'.2 k q).trans (h.2 k q)⟩
theorem DF_rf (V A : zV) : DF V A V A := ⟨fun _ _ _ => rfl, fun _ _ => rfl⟩
theorem DF.V {V A V' A' : zV} (h : DF V A V' A') {j : Nat} (hj : j = 14 ∨ j = 15 ∨ j = 19 ∨ j = 21 ∨ j = 22 ∨ j = 23 ∨ j = 24 ∨ j = 25) (x : Int32) : DF V A (zv V' 36 j x) A' := ⟨fun k i q => by rw [zv_eq, if_neg (fun z => q ⟨z.1, by rw [z.2]; exact hj⟩), h.1 k i q], h.2⟩
theorem DF.A {V A V' A' : zV} (h : DF V A V' A') {k : Nat} (hk : 44 ≤ k ∧ k ≤ 47) (f : Nat → Int32) : DF V A V' (za A' k f) := ⟨h.1, fun j q => by rw [za_eq, if_neg (fun z => q (by rw [z]; exact hk)), h.2 j q]⟩
theorem lsum_snoc (W : zW) (out : Nat → Option (Int × Nat)) (l : List zLf) (x : zLf) : lsum W out (l ++ [x]) = sa (lsum W out l) (sm (some (x.1, 1)) (out (zdf (2 ^ (W.n - 1) - 1) x.2.1))) := by
  rw [lsum_app]; congr 1; exact sa_nr _
theorem zov_or (W : zW) (l F : Nat) : zov W l F = if F.testBit l = true then se (zOt W F) else none := rfl
theorem AC_none {W : zW} {L : List zLf} {wi : Nat → Nat → Option Int} {best many fs : Int32} {tw to tf : Nat → Int32} (h : AC W L wi best many fs tw to tf) {x : zLf} (hx : ltot W x = none) : AC W (L ++ [x]) wi best many fs tw to tf := by
  have ho : zOt W (zdf (2 ^ (W.n - 1) - 1) x.2.1) = none := by
    unfold ltot at hx
    cases hz : zOt W (zdf (2 ^ (W.n - 1) - 1) x.2.1) with
    | none => rfl
    | some y => rw [hz] at hx; exact absurd hx (by simp [oad])
  have e1 : lsum W (zos W) (L ++ [x]) = lsum W (zos W) L := by
    rw [lsum_snoc]; unfold zos; rw [ho, show se none = none from rfl, sm_nr, sa_nr]
  have e2 : ∀ l, lsum W (zov W l) (L ++ [x]) = lsum W (zov W l) L := fun l => by
    rw [lsum_snoc, zov_or, ho, show se none = none from rfl, ite_self, sm_nr, sa_nr]
  have e3 : lxf W (L ++ [x]) = lxf W L := by rw [lxf_snoc]; unfold lxs; rw [hx]
  unfold AC
  rw [e1, e3]
  refine ⟨h.1, h.2.1, fun l hl => ?_, h.2.2.2⟩
  rw [e2]; exact h.2.2.1 l hl
theorem lxf_B {W : zW} (hW : zWok W) {L : List zLf} (hL : ∀ x, x ∈ L → -16000 ≤ x.1 ∧ x.1 ≤ 16000) (out : Nat → Option (Int × Nat)) (ho : ∀ F, bB 16000 (out F)) : bB 32000 (lsum W out L) := by
  induction L with
  | nil => exact bB_n _
  | cons x L ih =>
    refine bB_a ?_ (ih (fun y hy => hL y (List.mem_cons_of_mem _ hy)))
    have := hL x List.mem_cons_self
    have hb : bB 16000 (some (x.1, 1)) := oB_s this.1 this.2
    exact bB_m hb (ho _)
theorem zov_B {W : zW} (hW : zWok W) (l F : Nat) : bB 16000 (zov W l F) := bB_i (fun _ => zos_B hW F) (fun _ => bB_n _)
theorem se_c (c : Int) : se (some c) = some (c, 1) := rfl
set_option maxRecDepth 100000 in
set_option maxHeartbeats 4000000 in
theorem c_Mo_whole {W : zW} (V A : zV) (hW : zWok W) (hR : WR W V A) (c : Int) (U : Nat) (wr : List Nat) (L : List zLf) (wi : Nat → Nat → Option Int) (hU : U < 256) (m22 : V 36 22 = nI (2 * U)) (hwd : zwd wr (V 36 21) (A 47)) (hw16 : wr.length ≤ 16) (hw9 : ∀ x, x ∈ wr → x < 9) (hc : -16000 ≤ c ∧ c ≤ 16000) (hLB : ∀ x, x ∈ L → -16000 ≤ x.1 ∧ x.1 ≤ 16000) (hAC : AC W L wi (V 36 14) (V 36 15) (V 36 19) (A 44) (A 45) (A 46)) : CQ Y_Mo_whole 1 [.ref 36, .int (Int32.ofInt c)] V A (fun r V' A' => r = zEf (ltot W (c, U, wr)) ∧ DF V A V' A' ∧ (V' 36 21 = V 36 21 ∧ V' 36 22 = nI (2 * U) ∧ V' 36 25 = V 36 25 ∧ A' 47 = A 47) ∧ AC W (L ++ [(c, U, wr)]) wi (V' 36 14) (V' 36 15) (V' 36 19) (A' 44) (A' 45) (A' 46)) := by
  have h9 := hW.h9
  have hBz := lxf_B hW hLB (zos W) (zos_B hW)
  have hBv := fun l => lxf_B hW hLB (zov W l) (zov_B hW l)
  obtain ⟨⟨a1, a2⟩, a3, a4, a5⟩ := id hAC
  have hFt : ∀ i, i < W.n - 1 → (zdf (2 ^ (W.n - 1) - 1) U).testBit i = !U.testBit i := fun i hi => zRst_tb hW hi
  have hEnd : ∀ (t : Int) (V1 A1 : zV) (q : Value), q.category = 1 → ltot W (c, U, wr) = some t → DF V A V1 A1 → (V1 36 21 = V 36 21 ∧ V1 36 22 = nI (2 * U) ∧ V1 36 25 = V 36 25 ∧ A1 47 = A 47) → AC W (L ++ [(c, U, wr)]) wi (V1 36 14) (V1 36 15) (V1 36 19) (A1 44) (A1 45) (A1 46) → X Y_Mo_whole (zrm 1) (0, fun _ => 0) (zFq 1 (fun r V' A' => r = zEf (ltot W (c, U, wr)) ∧ DF V A V' A' ∧ (V' 36 21 = V 36 21 ∧ V' 36 22 = nI (2 * U) ∧ V' 36 25 = V 36 25 ∧ A' 47 = A 47) ∧ AC W (L ++ [(c, U, wr)]) wi (V' 36 14) (V' 36 15) (V' 36 19) (A' 44) (A' 45) (A' 46))) 185 [.ref 36, .int (Int32.ofInt c), .int (Int32.ofInt t), q] [] (cells V1 A1) 0 0 := by
    intro t V1 A1 q hq ht g1 g2 g3
    refine x_iload_n (pc := 185) d_Mo_whole_185 rfl ?_
    refine y_iret (pc := 186) d_Mo_whole_186 rfl ?_
    exact ⟨by rw [ht]; rfl, g1, g2, g3⟩
  have hCopy : ∀ (t : Int) (V1 A1 : zV) (q : Value), q.category = 1 → ltot W (c, U, wr) = some t → DF V A V1 A1 → (V1 36 21 = V 36 21 ∧ V1 36 22 = nI (2 * U) ∧ V1 36 25 = V 36 25 ∧ A1 47 = A 47) → V1 36 14 = zEf (sc (lsum W (zos W) (L ++ [(c, U, wr)]))) → V1 36 15 = nI (sw (lsum W (zos W) (L ++ [(c, U, wr)]))) → lxf W (L ++ [(c, U, wr)]) = some (t, wr) → (∀ l, l < W.n - 1 → A1 45 (l + 1) = zEf (sc (lsum W (zov W l) (L ++ [(c, U, wr)])))) → A1 44 = A 44 → X Y_Mo_whole (zrm 1) (0, fun _ => 0) (zFq 1 (fun r V' A' => r = zEf (ltot W (c, U, wr)) ∧ DF V A V' A' ∧ (V' 36 21 = V 36 21 ∧ V' 36 22 = nI (2 * U) ∧ V' 36 25 = V 36 25 ∧ A' 47 = A 47) ∧ AC W (L ++ [(c, U, wr)]) wi (V' 36 14) (V' 36 15) (V' 36 19) (A' 44) (A' 45) (A' 46))) 149 [.ref 36, .int (Int32.ofInt c), .int (Int32.ofInt t), q] [] (cells V1 A1) 0 0 := by
    intro t V1 A1 q hq ht g1 g2 g3 g4 g5 g6 g7
    have hL : ∀ k, k ≤ wr.length → ∀ f, (∀ i (h : i < wr.length), i < k → f i = nI wr[i]) → X Y_Mo_whole (zrm 1) (0, fun _ => 0) (zFq 1 (fun r V' A' => r = zEf (ltot W (c, U, wr)) ∧ DF V A V' A' ∧ (V' 36 21 = V 36 21 ∧ V' 36 22 = nI (2 * U) ∧ V' 36 25 = V 36 25 ∧ A' 47 = A 47) ∧ AC W (L ++ [(c, U, wr)]) wi (V' 36 14) (V' 36 15) (V' 36 19) (A' 44) (A' 45) (A' 46))) 159 [.ref 36, .int (Int32.ofInt c), .int (Int32.ofInt t), .int (nI k)] [] (cells (zv V1 36 19 (nI wr.length)) (za A1 46 f)) 0 0 := by
      refine z_down (fun f hf => ?_) (fun k hk ih f hf => ?_)
      · refine x_iload_n (pc := 159) d_Mo_whole_159 rfl ?_
        refine x_aload_n (pc := 160) d_Mo_whole_160 rfl ?_
        refine x_get (pc := 161) (j := 21) d_Mo_whole_161 f_Mo_115 rfl rfl (Nat.le_of_ble_eq_true rfl) rfl rfl rfl ?_
        rw [show (zv V1 36 19 (nI wr.length)) 36 21 = nI wr.length from g2.1.trans hwd.1]
        refine x_icmp_ge (pc := 164) (tgt := 185) d_Mo_whole_164 (by decide) (fun h164 => ?_) (fun h => absurd (nI_le (by omega) (by omega)) h)
        refine hEnd t _ _ _ rfl ht ((g1.V (by omega) _).A (by omega) _) g2 ⟨⟨g3, g4⟩, ?_, g6, ?_⟩
        · rw [g5]
          exact ⟨⟨rfl, fun i hi => hf i hi hi⟩, hw16, hw9⟩
        · intro x y hx hy
          show A1 44 _ = _
          rw [g7]; exact a5 x y hx hy
      · have ck : (nI k).toNatClampNeg = k := nI_clamp (by omega)
        refine x_iload_n (pc := 159) d_Mo_whole_159 rfl ?_
        refine x_aload_n (pc := 160) d_Mo_whole_160 rfl ?_
        refine x_get (pc := 161) (j := 21) d_Mo_whole_161 f_Mo_115 rfl rfl (Nat.le_of_ble_eq_true rfl) rfl rfl rfl ?_
        rw [show (zv V1 36 19 (nI wr.length)) 36 21 = nI wr.length from g2.1.trans hwd.1]
        refine x_icmp_ge (pc := 164) (tgt := 185) d_Mo_whole_164 (by decide) (fun h => absurd h (nI_ge (by omega) (by omega))) (fun h164 => ?_)
        refine x_aload_n (pc := 167) d_Mo_whole_167 rfl ?_
        refine x_get (pc := 168) (j := 18) d_Mo_whole_168 f_Mo_51 rfl rfl (Nat.le_of_ble_eq_true rfl) rfl rfl rfl ?_
        refine x_iload_n (pc := 171) d_Mo_whole_171 rfl ?_
        refine x_aload_n (pc := 172) d_Mo_whole_172 rfl ?_
        refine x_get (pc := 173) (j := 20) d_Mo_whole_173 f_Mo_54 rfl rfl (Nat.le_of_ble_eq_true rfl) rfl rfl rfl ?_
        refine x_iload_n (pc := 176) d_Mo_whole_176 rfl ?_
        refine x_iald (pc := 177) d_Mo_whole_177 rfl (vp_in_nI (by omega) (by decide)) ?_
        refine y_iast (pc := 178) d_Mo_whole_178 rfl (fun _ => rfl) (vp_in_nI (by omega) (by decide)) ?_
        refine y_inc3 (pc := 179) (v := 1) d_Mo_whole_179 (by decide) ?_
        refine x_goto (pc := 182) (tgt := 159) d_Mo_whole_182 (by decide) ?_
        rw [za_za, ck, show (za A1 46 f) 47 k = nI wr[k] from (by show A1 47 k = _; rw [g2.2.2.2]; exact hwd.2 k hk), show nI k + 1 = nI (k + 1) from (nI_succ k).symm]
        refine ih _ (fun i h1 h2 => ?_)
        by_cases e : i = k
        · subst e; exact upd_at _ _ _
        · exact (upd_ne _ _ e).trans (hf i h1 (by omega))
    refine x_aload_n (pc := 149) d_Mo_whole_149 rfl ?_
    refine x_aload_n (pc := 150) d_Mo_whole_150 rfl ?_
    refine x_get (pc := 151) (j := 21) d_Mo_whole_151 f_Mo_115 rfl rfl (Nat.le_of_ble_eq_true rfl) rfl rfl rfl ?_
    rw [show V1 36 21 = nI wr.length from g2.1.trans hwd.1]
    refine y_put (pc := 154) (j := 19) d_Mo_whole_154 f_Mo_108 rfl rfl (Nat.le_of_ble_eq_true rfl) rfl (Nat.le_of_ble_eq_true rfl) rfl rfl (fun _ => rfl) ?_
    refine x_iconst (pc := 157) (v := 0) d_Mo_whole_157 (by decide) ?_
    refine y_ist3 (pc := 158) d_Mo_whole_158 ?_
    have h0 := hL 0 (Nat.zero_le _) (A1 46) (fun i _ h => absurd h (Nat.not_lt_zero i))
    rw [za_self] at h0
    exact h0
  have hT : ∀ (t : Int) (f : Nat → Int32) (q : Value), q.category = 1 → ltot W (c, U, wr) = some t → -32000 ≤ t ∧ t ≤ 32000 → (∀ l, l < W.n - 1 → f (l + 1) = zEf (sc (lsum W (zov W l) (L ++ [(c, U, wr)])))) → X Y_Mo_whole (zrm 1) (0, fun _ => 0) (zFq 1 (fun r V' A' => r = zEf (ltot W (c, U, wr)) ∧ DF V A V' A' ∧ (V' 36 21 = V 36 21 ∧ V' 36 22 = nI (2 * U) ∧ V' 36 25 = V 36 25 ∧ A' 47 = A 47) ∧ AC W (L ++ [(c, U, wr)]) wi (V' 36 14) (V' 36 15) (V' 36 19) (A' 44) (A' 45) (A' 46))) 94 [.ref 36, .int (Int32.ofInt c), .int (Int32.ofInt t), q] [] (cells V (za A 45 f)) 0 0 := by
    intro t f q hq ht htB hf
    have hBt : bB 32000 (some (t, 1)) := oB_s htB.1 htB.2
    have hz : sm (some (c, 1)) (zos W (zdf (2 ^ (W.n - 1) - 1) U)) = some (t, 1) := by
      unfold ltot at ht
      unfold zos
      rw [← se_c, ← se_oad]
      have ht : oad (some c) (zOt W (zdf (2 ^ (W.n - 1) - 1) U)) = some t := ht
      rw [ht]; rfl
    have e1 : lsum W (zos W) (L ++ [(c, U, wr)]) = sa (lsum W (zos W) L) (some (t, 1)) := by rw [lsum_snoc]; exact congrArg _ hz
    have e3 := lxf_snoc W L (c, U, wr)
    unfold lxs at e3
    rw [ht] at e3
    have e4 := lxf_c W L
    have hFr : DF V A V (za A 45 f) := (DF_rf V A).A (by omega) f
    refine x_iload_n (pc := 94) d_Mo_whole_94 rfl ?_
    refine x_aload_n (pc := 95) d_Mo_whole_95 rfl ?_
    refine x_get (pc := 96) (j := 14) d_Mo_whole_96 f_Mo_102 rfl rfl (Nat.le_of_ble_eq_true rfl) rfl rfl rfl ?_
    rw [a1, show Int32.ofInt t = zEf (sc (some (t, 1))) from rfl]
    refine x_icmp_ge (pc := 99) (tgt := 117) d_Mo_whole_99 (by decide) (fun h99 => ?_) (fun h99 => ?_)
    · have hnl : ¬ olt (sc (some (t, 1))) (sc (lsum W (zos W) L)) := fun z => absurd h99 (Int32.not_le.mpr ((zEf_lt (b := 32000) (by omega) hBt hBz).mpr z))
      refine x_iload_n (pc := 117) d_Mo_whole_117 rfl ?_
      refine x_aload_n (pc := 118) d_Mo_whole_118 rfl ?_
      refine x_get (pc := 119) (j := 14) d_Mo_whole_119 f_Mo_102 rfl rfl (Nat.le_of_ble_eq_true rfl) rfl rfl rfl ?_
      rw [a1]
      refine x_icmp_ne (pc := 122) (tgt := 185) d_Mo_whole_122 (by decide) (fun h122 => ?_) (fun h122 => ?_)
      · have hne : ¬ sc (some (t, 1)) = sc (lsum W (zos W) L) := fun z => h122 (congrArg zEf z)
        have hgt := olt_tri hnl hne
        have n1 : sc (sa (lsum W (zos W) L) (some (t, 1))) = sc (lsum W (zos W) L) := by rw [sc_sa, omin_lt hgt]
        have n2 : sw (sa (lsum W (zos W) L) (some (t, 1))) = sw (lsum W (zos W) L) := by rw [sw_sa, if_neg (fun z => hnl ((oltb_iff _ _).mp z)), if_pos ((oltb_iff _ _).mpr hgt)]
        have n3 : lxf W (L ++ [(c, U, wr)]) = lxf W L := by
          rw [e3]
          cases hl : lxf W L with
          | none => rw [hl] at e4; rw [← e4] at hgt; exact absurd hgt (by intro z; exact z)
          | some qq =>
            rw [hl] at e4
            rw [← e4] at hgt
            have hgt : qq.1 < t := hgt
            show (if t < qq.1 then _ else if t = qq.1 ∧ _ then _ else _) = _
            rw [if_neg (by omega), if_neg (fun z => by omega)]
        refine hEnd t _ _ _ hq ht hFr ⟨rfl, m22, rfl, rfl⟩ ⟨⟨?_, ?_⟩, ?_, hf, a5⟩
        · rw [e1, n1]; exact a1
        · rw [e1, n2]; exact a2
        · rw [n3]; exact a3
      · refine x_aload_n (pc := 125) d_Mo_whole_125 rfl ?_
        refine x_dup (pc := 126) d_Mo_whole_126 rfl ?_
        refine x_get (pc := 127) (j := 15) d_Mo_whole_127 f_Mo_105 rfl rfl (Nat.le_of_ble_eq_true rfl) rfl rfl rfl ?_
        refine x_iconst (pc := 130) (v := 1) d_Mo_whole_130 (by decide) ?_
        refine x_iadd (pc := 131) d_Mo_whole_131 ?_
        refine y_put (pc := 132) (j := 15) d_Mo_whole_132 f_Mo_105 rfl rfl (Nat.le_of_ble_eq_true rfl) rfl (Nat.le_of_ble_eq_true rfl) rfl rfl (fun _ => rfl) ?_
        have heq : sc (some (t, 1)) = sc (lsum W (zos W) L) := zEf_inj (b := 32000) (by omega) hBt hBz (by rw [show zEf (sc (some (t, 1))) = Int32.ofInt t from rfl]; exact h122)
        have n1 : sc (sa (lsum W (zos W) L) (some (t, 1))) = sc (lsum W (zos W) L) := by rw [sc_sa, heq, omin_eq]
        have n2 : sw (sa (lsum W (zos W) L) (some (t, 1))) = sw (lsum W (zos W) L) + 1 := by rw [sw_sa, if_neg (fun z => hnl ((oltb_iff _ _).mp z)), if_neg (fun z => olt_irr (heq ▸ (oltb_iff _ _).mp z))]; rfl
        cases hl : lxf W L with
        | none => rw [hl] at e4; rw [← e4] at heq; exact absurd heq (by simp [sc])
        | some qq =>
          rw [hl] at e4 e3 a3
          have hq1 : qq.1 = t := by
            have z : some t = (some qq).map Prod.fst := heq.trans e4.symm
            exact (Option.some.inj z).symm
          obtain ⟨b1, b2, b3⟩ := a3
          have e3 : lxf W (L ++ [(c, U, wr)]) = if t < qq.1 then some (t, wr) else if t = qq.1 ∧ wlt wr qq.2 = true then some (t, wr) else some qq := e3
          rw [if_neg (by omega)] at e3
          have m15 : (zv V 36 15 (V 36 15 + 1)) 36 15 = nI (sw (lsum W (zos W) (L ++ [(c, U, wr)]))) := by
            show V 36 15 + 1 = _
            rw [a2, e1, n2, nI_succ]
          have hge : ¬ V 36 19 < 0 := by rw [b1.1, show (0 : Int32) = nI 0 from rfl]; exact nI_nlt (Nat.zero_le _) (by omega)
          refine x_aload_n (pc := 135) d_Mo_whole_135 rfl ?_
          refine x_get (pc := 136) (j := 19) d_Mo_whole_136 f_Mo_108 rfl rfl (Nat.le_of_ble_eq_true rfl) rfl rfl rfl ?_
          refine x_if_lt (pc := 139) (tgt := 149) d_Mo_whole_139 (by decide) (fun h => absurd h hge) (fun h139 => ?_)
          refine x_aload_n (pc := 142) d_Mo_whole_142 rfl ?_
          refine y_bV (pc := 143) (c_Mo_isBeforeFirst _ _ wr qq.2 hwd b1 hw16 b2 hw9 b3) k_Mo_isBeforeFirst d_Mo_whole_143 m_Mo_111 (by decide) rfl rfl rfl rfl p_Mo_isBeforeFirst (K1 := fun q143 => ?_) (K0 := fun q143 => ?_)
          · refine x_if_eq (pc := 146) (tgt := 185) d_Mo_whole_146 (by decide) (fun h => absurd h (by decide)) (fun _ => ?_)
            rw [if_pos ⟨hq1.symm, q143⟩] at e3
            refine hCopy t _ _ _ hq ht (hFr.V (by omega) _) ⟨rfl, m22, rfl, rfl⟩ ?_ m15 e3 hf rfl
            rw [e1, n1]; exact a1
          · refine x_if_eq (pc := 146) (tgt := 185) d_Mo_whole_146 (by decide) (fun _ => ?_) (fun h => absurd h (by decide))
            rw [if_neg (fun z => q143 z.2)] at e3
            refine hEnd t _ _ _ hq ht (hFr.V (by omega) _) ⟨rfl, m22, rfl, rfl⟩ ⟨⟨?_, m15⟩, ?_, hf, a5⟩
            · rw [e1, n1]; exact a1
            · rw [e3]; exact ⟨b1, b2, b3⟩
    · refine x_aload_n (pc := 102) d_Mo_whole_102 rfl ?_
      refine x_iload_n (pc := 103) d_Mo_whole_103 rfl ?_
      refine y_put (pc := 104) (j := 14) d_Mo_whole_104 f_Mo_102 rfl rfl (Nat.le_of_ble_eq_true rfl) rfl (Nat.le_of_ble_eq_true rfl) rfl rfl (fun _ => rfl) ?_
      refine x_aload_n (pc := 107) d_Mo_whole_107 rfl ?_
      refine x_iconst (pc := 108) (v := 0) d_Mo_whole_108 (by decide) ?_
      refine y_put (pc := 109) (j := 15) d_Mo_whole_109 f_Mo_105 rfl rfl (Nat.le_of_ble_eq_true rfl) rfl (Nat.le_of_ble_eq_true rfl) rfl rfl (fun _ => rfl) ?_
      refine x_aload_n (pc := 112) d_Mo_whole_112 rfl ?_
      refine x_iconst (pc := 113) (v := (-1)) d_Mo_whole_113 (by decide) ?_
      refine y_put (pc := 114) (j := 19) d_Mo_whole_114 f_Mo_108 rfl rfl (Nat.le_of_ble_eq_true rfl) rfl (Nat.le_of_ble_eq_true rfl) rfl rfl (fun _ => rfl) ?_
      have hlt : olt (sc (some (t, 1))) (sc (lsum W (zos W) L)) := (zEf_lt (b := 32000) (by omega) hBt hBz).mp (Int32.not_le.mp h99)
      have n1 : sc (sa (lsum W (zos W) L) (some (t, 1))) = some t := by rw [sc_sa, omin_gt hlt]; rfl
      have n2 : sw (sa (lsum W (zos W) L) (some (t, 1))) = 1 := by rw [sw_sa, if_pos ((oltb_iff _ _).mpr hlt)]; rfl
      have n3 : lxf W (L ++ [(c, U, wr)]) = some (t, wr) := by
        rw [e3]
        cases hl : lxf W L with
        | none => rfl
        | some qq =>
          rw [hl] at e4
          have hlt2 : olt (some t) (sc (lsum W (zos W) L)) := hlt
          rw [← e4] at hlt2
          have hlt3 : t < qq.1 := hlt2
          show (if t < qq.1 then _ else _) = _
          rw [if_pos hlt3]
      refine x_iload_n (pc := 117) d_Mo_whole_117 rfl ?_
      refine x_aload_n (pc := 118) d_Mo_whole_118 rfl ?_
      refine x_get (pc := 119) (j := 14) d_Mo_whole_119 f_Mo_102 rfl rfl (Nat.le_of_ble_eq_true rfl) rfl rfl rfl ?_
      refine x_icmp_ne (pc := 122) (tgt := 185) d_Mo_whole_122 (by decide) (fun h => absurd rfl h) (fun h122 => ?_)
      refine x_aload_n (pc := 125) d_Mo_whole_125 rfl ?_
      refine x_dup (pc := 126) d_Mo_whole_126 rfl ?_
      refine x_get (pc := 127) (j := 15) d_Mo_whole_127 f_Mo_105 rfl rfl (Nat.le_of_ble_eq_true rfl) rfl rfl rfl ?_
      refine x_iconst (pc := 130) (v := 1) d_Mo_whole_130 (by decide) ?_
      refine x_iadd (pc := 131) d_Mo_whole_131 ?_
      refine y_put (pc := 132) (j := 15) d_Mo_whole_132 f_Mo_105 rfl rfl (Nat.le_of_ble_eq_true rfl) rfl (Nat.le_of_ble_eq_true rfl) rfl rfl (fun _ => rfl) ?_
      refine x_aload_n (pc := 135) d_Mo_whole_135 rfl ?_
      refine x_get (pc := 136) (j := 19) d_Mo_whole_136 f_Mo_108 rfl rfl (Nat.le_of_ble_eq_true rfl) rfl rfl rfl ?_
      refine x_if_lt (pc := 139) (tgt := 149) d_Mo_whole_139 (by decide) (fun h139 => ?_) (fun h => absurd (show (-1 : Int32) < 0 by decide) h)
      refine hCopy t _ _ _ hq ht ((((hFr.V (by omega) _).V (by omega) _).V (by omega) _).V (by omega) _) ⟨rfl, m22, rfl, rfl⟩ ?_ ?_ n3 hf rfl
      · rw [e1, n1]; rfl
      · rw [e1, n2]; rfl
  have hS2 : ∀ (t : Int), ltot W (c, U, wr) = some t → -32000 ≤ t ∧ t ≤ 32000 → ∀ k, k ≤ W.n - 1 → ∀ (f : Nat → Int32), (∀ l, l < k → f (l + 1) = zEf (sc (lsum W (zov W l) (L ++ [(c, U, wr)])))) → (∀ l, k ≤ l → f (l + 1) = A 45 (l + 1)) → X Y_Mo_whole (zrm 1) (0, fun _ => 0) (zFq 1 (fun r V' A' => r = zEf (ltot W (c, U, wr)) ∧ DF V A V' A' ∧ (V' 36 21 = V 36 21 ∧ V' 36 22 = nI (2 * U) ∧ V' 36 25 = V 36 25 ∧ A' 47 = A 47) ∧ AC W (L ++ [(c, U, wr)]) wi (V' 36 14) (V' 36 15) (V' 36 19) (A' 44) (A' 45) (A' 46))) 52 [.ref 36, .int (Int32.ofInt c), .int (Int32.ofInt t), .int (nI (k + 1))] [] (cells V (za A 45 f)) 0 0 := by
    intro t ht htB
    refine z_down (fun f hf hf2 => ?_) (fun k hk ih f hf hf2 => ?_)
    · refine x_iload_n (pc := 52) d_Mo_whole_52 rfl ?_
      refine x_aload_n (pc := 53) d_Mo_whole_53 rfl ?_
      refine x_get (pc := 54) (j := 1) d_Mo_whole_54 f_Mo_13 rfl rfl (Nat.le_of_ble_eq_true rfl) rfl rfl rfl ?_
      rw [hR.n]
      refine x_icmp_ge (pc := 57) (tgt := 94) d_Mo_whole_57 (by decide) (fun h57 => ?_) (fun h => absurd (nI_le (by omega) (by omega)) h)
      exact hT t f _ rfl ht htB hf
    · have ck : (nI (k + 1)).toNatClampNeg = k + 1 := nI_clamp (by omega)
      have hFk := hFt k hk
      have ht' : oad (some c) (zOt W (zdf (2 ^ (W.n - 1) - 1) U)) = some t := ht
      have ek : sc (lsum W (zov W k) (L ++ [(c, U, wr)])) = omin (sc (lsum W (zov W k) L)) (if U.testBit k = false then some t else none) := by
        rw [lsum_snoc, sc_sa]
        congr 1
        show sc (sm (some (c, 1)) (zov W k (zdf (2 ^ (W.n - 1) - 1) U))) = _
        rw [zov_or, hFk]
        cases hb : U.testBit k with
        | false => rw [if_pos (by simp), if_pos rfl, sc_sm, sc_se]; exact ht'
        | true => rw [if_neg (by simp), if_neg (by simp), sm_nr]; rfl
      have hold : f (k + 1) = zEf (sc (lsum W (zov W k) L)) := (hf2 k (Nat.le_refl _)).trans (a4 k hk)
      have hBt : oB 32000 (some t) := oB_s htB.1 htB.2
      refine x_iload_n (pc := 52) d_Mo_whole_52 rfl ?_
      refine x_aload_n (pc := 53) d_Mo_whole_53 rfl ?_
      refine x_get (pc := 54) (j := 1) d_Mo_whole_54 f_Mo_13 rfl rfl (Nat.le_of_ble_eq_true rfl) rfl rfl rfl ?_
      rw [hR.n]
      refine x_icmp_ge (pc := 57) (tgt := 94) d_Mo_whole_57 (by decide) (fun h => absurd h (nI_ge (by omega) (by omega))) (fun h57 => ?_)
      refine x_aload_n (pc := 60) d_Mo_whole_60 rfl ?_
      refine x_get (pc := 61) (j := 22) d_Mo_whole_61 f_Mo_92 rfl rfl (Nat.le_of_ble_eq_true rfl) rfl rfl rfl ?_
      refine x_iload_n (pc := 64) d_Mo_whole_64 rfl ?_
      refine x_ishr (pc := 65) d_Mo_whole_65 ?_
      refine x_iconst (pc := 66) (v := 1) d_Mo_whole_66 (by decide) ?_
      refine x_iand (pc := 67) d_Mo_whole_67 ?_
      rw [m22]
      refine x_if_ne (pc := 68) (tgt := 88) d_Mo_whole_68 (by decide) (fun h68 => ?_) (fun h68 => ?_)
      · refine y_inc3 (pc := 88) (v := 1) d_Mo_whole_88 (by decide) ?_
        refine x_goto (pc := 91) (tgt := 52) d_Mo_whole_91 (by decide) ?_
        rw [show nI (k + 1) + 1 = nI (k + 1 + 1) from (nI_succ (k + 1)).symm]
        have hUk : ¬ U.testBit k = false := fun z => h68 ((s_in U hU k (by omega)).mpr z)
        refine ih f (fun l hl => ?_) (fun l hl => hf2 l (by omega))
        by_cases e : l = k
        · rw [e, ek, if_neg hUk, omin_nr]; exact hold
        · exact hf l (by omega)
      · have hUk : U.testBit k = false := (s_in U hU k (by omega)).mp h68
        rw [if_pos hUk] at ek
        refine x_iload_n (pc := 71) d_Mo_whole_71 rfl ?_
        refine x_aload_n (pc := 72) d_Mo_whole_72 rfl ?_
        refine x_get (pc := 73) (j := 17) d_Mo_whole_73 f_Mo_48 rfl rfl (Nat.le_of_ble_eq_true rfl) rfl rfl rfl ?_
        refine x_iload_n (pc := 76) d_Mo_whole_76 rfl ?_
        refine x_iald (pc := 77) d_Mo_whole_77 rfl (vp_in_nI (by omega) (by decide)) ?_
        rw [ck, show (za A 45 f) 45 (k + 1) = _ from hold, show Int32.ofInt t = zEf (some t) from rfl]
        refine x_icmp_ge (pc := 78) (tgt := 88) d_Mo_whole_78 (by decide) (fun h78 => ?_) (fun h78 => ?_)
        · refine y_inc3 (pc := 88) (v := 1) d_Mo_whole_88 (by decide) ?_
          refine x_goto (pc := 91) (tgt := 52) d_Mo_whole_91 (by decide) ?_
          rw [show nI (k + 1) + 1 = nI (k + 1 + 1) from (nI_succ (k + 1)).symm]
          have hle : omin (sc (lsum W (zov W k) L)) (some t) = sc (lsum W (zov W k) L) := by
            by_cases e : sc (lsum W (zov W k) L) = some t
            · rw [e, omin_eq]
            · exact omin_lt (olt_tri (fun z => absurd h78 (Int32.not_le.mpr ((zEf_lt (b := 32000) (by omega) hBt (hBv k)).mpr z))) (fun z => e z.symm))
          refine ih f (fun l hl => ?_) (fun l hl => hf2 l (by omega))
          by_cases e : l = k
          · rw [e, ek, hle]; exact hold
          · exact hf l (by omega)
        · refine x_aload_n (pc := 81) d_Mo_whole_81 rfl ?_
          refine x_get (pc := 82) (j := 17) d_Mo_whole_82 f_Mo_48 rfl rfl (Nat.le_of_ble_eq_true rfl) rfl rfl rfl ?_
          refine x_iload_n (pc := 85) d_Mo_whole_85 rfl ?_
          refine x_iload_n (pc := 86) d_Mo_whole_86 rfl ?_
          refine y_iast (pc := 87) d_Mo_whole_87 rfl (fun _ => rfl) (vp_in_nI (by omega) (by decide)) ?_
          refine y_inc3 (pc := 88) (v := 1) d_Mo_whole_88 (by decide) ?_
          refine x_goto (pc := 91) (tgt := 52) d_Mo_whole_91 (by decide) ?_
          rw [show nI (k + 1) + 1 = nI (k + 1 + 1) from (nI_succ (k + 1)).symm]
          rw [za_za, ck]
          have hlt := omin_gt ((zEf_lt (b := 32000) (by omega) hBt (hBv k)).mp (Int32.not_le.mp h78))
          refine ih _ (fun l hl => ?_) (fun l hl => ?_)
          · by_cases e : l = k
            · rw [e, ek, hlt]; exact upd_at _ _ _
            · exact (upd_ne _ _ (by omega)).trans (hf l (by omega))
          · exact (upd_ne _ _ (by omega)).trans (hf2 l (by omega))
  have hS1 : ∀ i, i ≤ W.n - 1 → ∀ (s : Int), zf (fun i a => if (zdf (2 ^ (W.n - 1) - 1) U).testBit i = true then oad a (W.pr (i + 1)) else a) (some 0) i = some s → -(2000 * (i : Int)) ≤ s ∧ s ≤ 2000 * i → X Y_Mo_whole (zrm 1) (0, fun _ => 0) (zFq 1 (fun r V' A' => r = zEf (ltot W (c, U, wr)) ∧ DF V A V' A' ∧ (V' 36 21 = V 36 21 ∧ V' 36 22 = nI (2 * U) ∧ V' 36 25 = V 36 25 ∧ A' 47 = A 47) ∧ AC W (L ++ [(c, U, wr)]) wi (V' 36 14) (V' 36 15) (V' 36 19) (A' 44) (A' 45) (A' 46))) 4 [.ref 36, .int (Int32.ofInt c), .int (Int32.ofInt (c + s)), .int (nI (i + 1))] [] (cells V A) 0 0 := by
    refine z_down (fun s hz hs => ?_) (fun i hi ih s hz hs => ?_)
    · refine x_iload_n (pc := 4) d_Mo_whole_4 rfl ?_
      refine x_aload_n (pc := 5) d_Mo_whole_5 rfl ?_
      refine x_get (pc := 6) (j := 1) d_Mo_whole_6 f_Mo_13 rfl rfl (Nat.le_of_ble_eq_true rfl) rfl rfl rfl ?_
      rw [hR.n]
      refine x_icmp_ge (pc := 9) (tgt := 50) d_Mo_whole_9 (by decide) (fun h9 => ?_) (fun h => absurd (nI_le (by omega) (by omega)) h)
      refine x_iconst (pc := 50) (v := 1) d_Mo_whole_50 (by decide) ?_
      refine y_ist3 (pc := 51) d_Mo_whole_51 ?_
      have h0 := hS2 (c + s) (by show oad (some c) (zOt W (zdf (2 ^ (W.n - 1) - 1) U)) = _; rw [show zOt W (zdf (2 ^ (W.n - 1) - 1) U) = some s from hz]; rfl) (by omega) 0 (Nat.zero_le _) (A 45) (fun l hl => absurd hl (Nat.not_lt_zero l)) (fun l _ => rfl)
      rw [za_self] at h0
      exact h0
    · have ht := hFt i hi
      have hpr := hR.pr (i + 1) (by omega)
      have ci : (nI (i + 1)).toNatClampNeg = i + 1 := nI_clamp (by omega)
      have hzs : zf (fun i a => if (zdf (2 ^ (W.n - 1) - 1) U).testBit i = true then oad a (W.pr (i + 1)) else a) (some 0) (i + 1) = if (zdf (2 ^ (W.n - 1) - 1) U).testBit i = true then oad (some s) (W.pr (i + 1)) else some s := by rw [zf_s _ _ i, hz]
      refine x_iload_n (pc := 4) d_Mo_whole_4 rfl ?_
      refine x_aload_n (pc := 5) d_Mo_whole_5 rfl ?_
      refine x_get (pc := 6) (j := 1) d_Mo_whole_6 f_Mo_13 rfl rfl (Nat.le_of_ble_eq_true rfl) rfl rfl rfl ?_
      rw [hR.n]
      refine x_icmp_ge (pc := 9) (tgt := 50) d_Mo_whole_9 (by decide) (fun h => absurd h (nI_ge (by omega) (by omega))) (fun h9 => ?_)
      refine x_aload_n (pc := 12) d_Mo_whole_12 rfl ?_
      refine x_get (pc := 13) (j := 22) d_Mo_whole_13 f_Mo_92 rfl rfl (Nat.le_of_ble_eq_true rfl) rfl rfl rfl ?_
      refine x_iload_n (pc := 16) d_Mo_whole_16 rfl ?_
      refine x_ishr (pc := 17) d_Mo_whole_17 ?_
      refine x_iconst (pc := 18) (v := 1) d_Mo_whole_18 (by decide) ?_
      refine x_iand (pc := 19) d_Mo_whole_19 ?_
      rw [m22]
      refine x_if_ne (pc := 20) (tgt := 44) d_Mo_whole_20 (by decide) (fun h20 => ?_) (fun h20 => ?_)
      · refine y_inc3 (pc := 44) (v := 1) d_Mo_whole_44 (by decide) ?_
        refine x_goto (pc := 47) (tgt := 4) d_Mo_whole_47 (by decide) ?_
        rw [show nI (i + 1) + 1 = nI (i + 1 + 1) from (nI_succ (i + 1)).symm]
        have hUi : U.testBit i = true := by
          cases hq2 : U.testBit i with
          | true => rfl
          | false => exact absurd ((s_in U hU i (by omega)).mpr hq2) h20
        rw [ht, hUi, if_neg (by simp)] at hzs
        exact ih s hzs (by omega)
      · refine x_aload_n (pc := 23) d_Mo_whole_23 rfl ?_
        refine x_get (pc := 24) (j := 4) d_Mo_whole_24 f_Mo_23 rfl rfl (Nat.le_of_ble_eq_true rfl) rfl rfl rfl ?_
        refine x_iload_n (pc := 27) d_Mo_whole_27 rfl ?_
        refine x_iald (pc := 28) d_Mo_whole_28 rfl (vp_in_nI (by omega) (by decide)) ?_
        have hUi : U.testBit i = false := (s_in U hU i (by omega)).mp h20
        rw [ht, hUi, Bool.not_false, if_pos rfl] at hzs
        rw [ci, hpr]
        refine x_if_ge (pc := 29) (tgt := 35) d_Mo_whole_29 (by decide) (fun h29 => ?_) (fun h29 => ?_)
        · refine x_iload_n (pc := 35) d_Mo_whole_35 rfl ?_
          refine x_aload_n (pc := 36) d_Mo_whole_36 rfl ?_
          refine x_get (pc := 37) (j := 4) d_Mo_whole_37 f_Mo_23 rfl rfl (Nat.le_of_ble_eq_true rfl) rfl rfl rfl ?_
          refine x_iload_n (pc := 40) d_Mo_whole_40 rfl ?_
          refine x_iald (pc := 41) d_Mo_whole_41 rfl (vp_in_nI (by omega) (by decide)) ?_
          rw [ci, hpr]
          cases hpi : W.pr (i + 1) with
          | none => rw [hpi] at h29; exact absurd h29 (by decide)
          | some p =>
            have hpb := hW.pr (i + 1) p hpi
            rw [show zEp (some p) = Int32.ofInt p from rfl]
            refine x_iadd (pc := 42) d_Mo_whole_42 ?_
            refine y_ist2 (pc := 43) d_Mo_whole_43 ?_
            refine y_inc3 (pc := 44) (v := 1) d_Mo_whole_44 (by decide) ?_
            refine x_goto (pc := 47) (tgt := 4) d_Mo_whole_47 (by decide) ?_
            rw [show nI (i + 1) + 1 = nI (i + 1 + 1) from (nI_succ (i + 1)).symm]
            rw [← Int32.ofInt_add, show c + s + p = c + (s + p) by omega]
            rw [hpi] at hzs
            exact ih (s + p) hzs (by omega)
        · refine x_ldc (pc := 32) (v := 900000) d_Mo_whole_32 i_Mo_101 ?_
          refine y_iret (pc := 34) d_Mo_whole_34 rfl ?_
          have hno : ltot W (c, U, wr) = none := by
            show oad (some c) (zOt W (zdf (2 ^ (W.n - 1) - 1) U)) = none
            have z := zf_none (W := W) (e := zdf (2 ^ (W.n - 1) - 1) U) (k := i + 1) (by rw [hzs, (zEp_neg (hW.pr (i + 1))).mp (Int32.not_le.mp h29), oad_nr]) (W.n - 1 - (i + 1))
            rw [show i + 1 + (W.n - 1 - (i + 1)) = W.n - 1 by omega] at z
            rw [show zOt W (zdf (2 ^ (W.n - 1) - 1) U) = none from z, oad_nr]
          exact ⟨by rw [hno]; rfl, DF_rf V A, ⟨rfl, m22, rfl, rfl⟩, AC_none hAC hno⟩
  refine CQ.of (lv := [.ref 36, .int (Int32.ofInt c), zu, zu]) k_Mo_whole.1 rfl (by decide) rfl rfl (Nat.le_of_ble_eq_true rfl) ?_
  refine x_iload_n (pc := 0) d_Mo_whole_0 rfl ?_
  refine y_ist2 (pc := 1) d_Mo_whole_1 ?_
  refine x_iconst (pc := 2) (v := 1) d_Mo_whole_2 (by decide) ?_
  refine y_ist3 (pc := 3) d_Mo_whole_3 ?_
  have h0 := hS1 0 (Nat.zero_le _) 0 rfl (by omega)
  rw [Int.add_zero] at h0
  exact h0
