theorem may_iff2 {W : zW} {U H a i : Nat} (hH : U.testBit i = false → H.testBit i = false) : zmay W U H (zLda W H) a (i + 1) ↔ ¬ W.ar a (i + 1) = none ∧ U.testBit i = false ∧ zfo W H i = true := by
  unfold zmay
  rw [zfo_iff, show i + 1 - 1 = i from rfl]
  constructor
  · rintro ⟨h1, h2, h3, h4⟩; exact ⟨h1, h2, h3, hH h2, h4⟩
  · rintro ⟨h1, h2, h3, -, h4⟩; exact ⟨h1, h2, h3, h4⟩
theorem sm_cx {W : zW} {a v : Nat} {x0 : Int} (hx0 : W.ar a v = some x0) (c : Int) (Y : Option (Int × Nat)) : sm (some (c, 1)) (sm (zar W a v) Y) = sm (some (c + x0, 1)) Y := by
  rw [← sm_as]; unfold zar; rw [hx0]; rfl
theorem sm_cb {W : zW} {a : Nat} {b : Int} (hb : zbk W a = some b) (c : Int) (Y : Option (Int × Nat)) : sm (some (c, 1)) (sm (zbs W a) Y) = sm (some (c + b, 1)) Y := by
  rw [← sm_as]; unfold zbs; rw [hb]; rfl
theorem node_wi (w : Option Int) {W : zW} {a v : Nat} {x0 : Int} (hx0 : W.ar a v = some x0) (c : Int) (x y : Nat) (E : Option (Int × Nat) × Option (Int × Nat)) : (if x = a ∧ y = v then omin (omin w (sc (sm (some (c + x0, 1)) E.2))) (sc (sm (some (c + x0, 1)) E.1)) else omin w (sc (sm (some (c + x0, 1)) E.2))) = omin w (sc (sm (some (c, 1)) ((zD zMS).m (mkA W x y a v) E).2)) := by
  have e : ((zD zMS).m (mkA W x y a v) E).2 = sa (sm (zar W a v) E.2) (sm (if a = x ∧ v = y then zar W a v else none) E.1) := rfl
  rw [e, ← om_add, sm_cx hx0]
  by_cases h : x = a ∧ y = v
  · rw [if_pos h, if_pos ⟨h.1.symm, h.2.symm⟩, sm_cx hx0]
  · rw [if_neg h, if_neg (fun z => h ⟨z.1.symm, z.2.symm⟩), sm_nl, om_non]
theorem close_wi (w : Option Int) {W : zW} {v : Nat} {b : Int} (hop : W.op = false) (hb : zbk W v = some b) (c : Int) (x y : Nat) (E : Option (Int × Nat) × Option (Int × Nat)) : (if x = v ∧ y = 0 then omin (omin w (sc (sm (some (c + b, 1)) E.2))) (sc (sm (some (c + b, 1)) E.1)) else omin w (sc (sm (some (c + b, 1)) E.2))) = omin w (sc (sm (some (c, 1)) (sa (sm (zbs W v) E.2) (sm (mkB W x y v).2 E.1)))) := by
  have e : (mkB W x y v).2 = if W.op = false ∧ v = x ∧ 0 = y then zbs W v else none := rfl
  rw [e, ← om_add, sm_cb hb]
  by_cases h : x = v ∧ y = 0
  · rw [if_pos h, if_pos ⟨hop, h.1.symm, h.2.symm⟩, sm_cb hb]
  · rw [if_neg h, if_neg (fun z => h ⟨z.2.1.symm, z.2.2.symm⟩), sm_nl, om_non]
theorem open_wi (w : Option Int) {W : zW} {v : Nat} {b : Int} (hop : W.op = true) (hb : zbk W v = some b) (c : Int) (x y : Nat) (E : Option (Int × Nat) × Option (Int × Nat)) : omin w (sc (sm (some (c + b, 1)) E.2)) = omin w (sc (sm (some (c, 1)) (sa (sm (zbs W v) E.2) (sm (mkB W x y v).2 E.1)))) := by
  have e : (mkB W x y v).2 = if W.op = false ∧ v = x ∧ 0 = y then zbs W v else none := rfl
  rw [e, ← om_add, sm_cb hb, if_neg (fun z => by rw [hop] at z; exact absurd z.1 (by simp)), sm_nl, om_non]
theorem none_wi (w : Option Int) {W : zW} {v : Nat} (hb : zbk W v = none) (C : Option (Int × Nat)) (x y : Nat) (E : Option (Int × Nat) × Option (Int × Nat)) : w = omin w (sc (sm C (sa (sm (zbs W v) E.2) (sm (mkB W x y v).2 E.1)))) := by
  have e : (mkB W x y v).2 = if W.op = false ∧ v = x ∧ 0 = y then zbs W v else none := rfl
  have e2 : zbs W v = none := by unfold zbs; rw [hb]; rfl
  rw [e, e2, ite_self, sm_nl, sm_nl, show sa none none = none from rfl, om_non]
set_option maxRecDepth 100000 in
set_option maxHeartbeats 4000000 in
theorem node_C {W : zW} (hW : zWok W) {m : Nat} (hN : ∀ m', m = m' + 1 → NodeC W m') (hHC : HouseC W m) : NodeC W m := by
  intro r c U F H wr a i bg rn f x0 L wi V A hi ha hbg hUi hfo hH8 hx0 hUF hzm hzf hrn hcB hwl hw9 m23 m24 hD
  have h9 := hW.h9
  have hp := pw_le h9
  have hm8 := hW.m8
  have hU8 : U < 256 := Nat.lt_of_lt_of_le hUF.2.1 hp
  have hxb := hW.ar a (i + 1) x0 hx0
  have eU := s_or U hU8 i (by omega)
  have eN := s_no U hU8 i (by omega) hUi
  have eH := s_or H hH8 i (by omega)
  have hLd := zLda_or (W := W) (zfo_Fo W H i hfo) hi
  have hUF2 := hUF.add hi
  have hz1 := zc_step (n := W.n - 1) hUi hi
  have hH28 : H ||| 2 ^ i < 256 := or256 hH8 (zz_bit (by omega))
  generalize U ||| 2 ^ i = U2 at eU eN hUF2 hz1 hzm hzf ⊢
  generalize H ||| 2 ^ i = H2 at eH hLd hUF2 hH28 ⊢
  have hU28 : U2 < 256 := Nat.lt_of_lt_of_le hUF2.2.1 hp
  have hwl2 : (wr ++ [i + 1]).length = wr.length + 1 := by rw [List.length_append]; rfl
  have hw92 : ∀ x, x ∈ wr ++ [i + 1] → x < 9 := by
    intro x hx
    rcases List.mem_append.mp hx with z | z
    · exact hw9 x z
    · rw [List.mem_singleton.mp z]; omega
  have hNL := zNL_eq (fun c U wr => zHL W r c U wr bg) (c + x0) H2 (wr ++ [i + 1]) (i + 1) hzf
  have hE1 : ∀ x y, sc (lsum W (zos W) (zNL W (fun c U wr => zHL W r c U wr bg) f (c + x0) U2 H2 (wr ++ [i + 1]) (i + 1))) = sc (sm (some (c + x0, 1)) (mkE W x y r F H2 (i + 1) bg).1) := by
    intro x y
    rw [mkE_1, lsum_NL h9 (zos W) (fun c U wr => zHL W r c U wr bg) (fun F => zH zMS (W.n - 1) (zfo W) (zar W) (zbs W) (zos W) r F bg) (fun c U wr hU => lsum_HL h9 _ r c U wr bg hU) F f (c + x0) U2 H2 (wr ++ [i + 1]) (i + 1) hzf hUF2]
  have hH1 : ∀ (c2 : Int) x y, sc (lsum W (zos W) (zHL W r c2 U2 (wr ++ [i + 1]) bg)) = sc (sm (some (c2, 1)) (mkH W x y r (zdf F H2) bg).1) := by
    intro c2 x y
    rw [mkH_1, lsum_HL h9 _ r c2 U2 _ bg hUF2.2.1, hUF2.df h9]
  have hdf := hUF2.df h9
  have hE2 := fun x y => mkE_2 W r F H2 (i + 1) bg x y
  have hFin : ∀ (V1 A1 : zV) (q12 : Value), q12.category = 1 → DF V A V1 A1 → DSt W U2 rn (wr ++ [i + 1]) (L ++ zNL W (fun c U wr => zHL W r c U wr bg) f (c + x0) U2 H2 (wr ++ [i + 1]) (i + 1)) (fun x y => omin (wi x y) (sc (sm (some (c + x0, 1)) (mkE W x y r F H2 (i + 1) bg).2))) V1 A1 → X Y_Mo_atNode (zrm (2 * m + 3)) (0, fun _ => 0) (zFq (2 * m + 3) (fun ρ V' A' => ρ = zEf (sc (lsum W (zos W) (zNL W (fun c U wr => zHL W r c U wr bg) f (c + x0) U2 H2 (wr ++ [i + 1]) (i + 1)))) ∧ DF V A V' A' ∧ (V' 36 23 = nI (2 * H) ∧ V' 36 24 = nI (zLda W H)) ∧ DSt W U rn wr (L ++ zNL W (fun c U wr => zHL W r c U wr bg) f (c + x0) U2 H2 (wr ++ [i + 1]) (i + 1)) (fun x y => omin (wi x y) (sc (sm (some (c, 1)) ((zD zMS).m (mkA W x y a (i + 1)) (mkE W x y r F H2 (i + 1) bg)).2))) V' A')) 239 [.ref 36, .int (nI a), .int (nI (i + 1)), .int (nI bg), .int (Int32.ofInt c), .int (Int32.ofInt (c + x0)), .int (nI (2 * H)), .int (nI (zLda W H)), .int (nI wr.length), .int (zEf (sc (lsum W (zos W) (zNL W (fun c U wr => zHL W r c U wr bg) f (c + x0) U2 H2 (wr ++ [i + 1]) (i + 1))))), .int (nI (2 * H2)), .int (nI (zLda W H2)), q12] [] (cells V1 A1) 0 0 := by
    intro V1 A1 q12 hq12 hF1 hD1
    have hB := lxf_B hW (L := zNL W (fun c U wr => zHL W r c U wr bg) f (c + x0) U2 H2 (wr ++ [i + 1]) (i + 1)) (fun y hy => hD1.2.2.2.2.1 y (List.mem_append_right _ hy)) (zos W) (zos_B hW)
    have hDn := hD1.note (a := a) (b := i + 1) (by omega) (by omega) hB
    refine x_aload_n (pc := 239) d_Mo_atNode_239 rfl ?_
    refine x_iload (pc := 240) d_Mo_atNode_240 rfl ?_
    refine y_put (pc := 242) (j := 23) d_Mo_atNode_242 f_Mo_98 rfl rfl (Nat.le_of_ble_eq_true rfl) rfl (Nat.le_of_ble_eq_true rfl) rfl rfl (fun _ => rfl) ?_
    refine x_aload_n (pc := 245) d_Mo_atNode_245 rfl ?_
    refine x_iload (pc := 246) d_Mo_atNode_246 rfl ?_
    refine y_put (pc := 248) (j := 24) d_Mo_atNode_248 f_Mo_95 rfl rfl (Nat.le_of_ble_eq_true rfl) rfl (Nat.le_of_ble_eq_true rfl) rfl rfl (fun _ => rfl) ?_
    refine x_aload_n (pc := 251) d_Mo_atNode_251 rfl ?_
    refine x_iload_n (pc := 252) d_Mo_atNode_252 rfl ?_
    refine x_iload_n (pc := 253) d_Mo_atNode_253 rfl ?_
    refine x_iload (pc := 254) d_Mo_atNode_254 rfl ?_
    refine y_fU (pc := 256) (c_Mo_note _ _ a (i + 1) (omin (wi a (i + 1)) (sc (sm (some (c + x0, 1)) (mkE W a (i + 1) r F H2 (i + 1) bg).2))) (sc (lsum W (zos W) (zNL W (fun c U wr => zHL W r c U wr bg) f (c + x0) U2 H2 (wr ++ [i + 1]) (i + 1)))) (by omega) (by omega) (hD1.2.2.2.1.2.2.2 a (i + 1) (by omega) (by omega)) (oB_mono (hD1.2.2.2.2.2 a (i + 1)) (by omega)) (oB_mono hB (by omega))) k_Mo_note d_Mo_atNode_256 m_Mo_140 (by omega) rfl rfl rfl rfl p_Mo_note (K := ?_)
    refine x_aload_n (pc := 259) d_Mo_atNode_259 rfl ?_
    refine x_aload_n (pc := 260) d_Mo_atNode_260 rfl ?_
    refine x_get (pc := 261) (j := 22) d_Mo_atNode_261 f_Mo_92 rfl rfl (Nat.le_of_ble_eq_true rfl) rfl rfl rfl ?_
    refine x_iconst (pc := 264) (v := 1) d_Mo_atNode_264 (by decide) ?_
    refine x_iload_n (pc := 265) d_Mo_atNode_265 rfl ?_
    refine x_ishl (pc := 266) d_Mo_atNode_266 ?_
    refine x_iconst (pc := 267) (v := (-1)) d_Mo_atNode_267 (by decide) ?_
    refine x_ixor (pc := 268) d_Mo_atNode_268 ?_
    refine x_iand (pc := 269) d_Mo_atNode_269 ?_
    rw [show (zv (zv V1 36 23 (nI (2 * H2))) 36 24 (nI (zLda W H2))) 36 22 &&& (((1 : Int32) <<< (nI (i + 1) &&& 31)) ^^^ (-1)) = nI (2 * U) from (by show V1 36 22 &&& _ = _; rw [hD1.2.1.1]; exact eN)]
    refine y_put (pc := 270) (j := 22) d_Mo_atNode_270 f_Mo_92 rfl rfl (Nat.le_of_ble_eq_true rfl) rfl (Nat.le_of_ble_eq_true rfl) rfl rfl (fun _ => rfl) ?_
    refine x_aload_n (pc := 273) d_Mo_atNode_273 rfl ?_
    refine x_iload (pc := 274) d_Mo_atNode_274 rfl ?_
    refine y_put (pc := 276) (j := 23) d_Mo_atNode_276 f_Mo_98 rfl rfl (Nat.le_of_ble_eq_true rfl) rfl (Nat.le_of_ble_eq_true rfl) rfl rfl (fun _ => rfl) ?_
    refine x_aload_n (pc := 279) d_Mo_atNode_279 rfl ?_
    refine x_iload (pc := 280) d_Mo_atNode_280 rfl ?_
    refine y_put (pc := 282) (j := 24) d_Mo_atNode_282 f_Mo_95 rfl rfl (Nat.le_of_ble_eq_true rfl) rfl (Nat.le_of_ble_eq_true rfl) rfl rfl (fun _ => rfl) ?_
    refine x_aload_n (pc := 285) d_Mo_atNode_285 rfl ?_
    refine x_iload (pc := 286) d_Mo_atNode_286 rfl ?_
    refine y_put (pc := 288) (j := 21) d_Mo_atNode_288 f_Mo_115 rfl rfl (Nat.le_of_ble_eq_true rfl) rfl (Nat.le_of_ble_eq_true rfl) rfl rfl (fun _ => rfl) ?_
    refine x_iload (pc := 291) d_Mo_atNode_291 rfl ?_
    refine y_iret (pc := 293) d_Mo_atNode_293 rfl ?_
    refine ⟨rfl, (((((((hF1.V (by omega) _).V (by omega) _).A (by omega) _).V (by omega) _).V (by omega) _).V (by omega) _).V (by omega) _), ⟨rfl, rfl⟩, ?_⟩
    obtain ⟨d1, d2, d3, d4⟩ := hDn
    refine DSt.wi (wi := fun x y => if x = a ∧ y = i + 1 then omin (omin (wi x y) (sc (sm (some (c + x0, 1)) (mkE W x y r F H2 (i + 1) bg).2))) (sc (lsum W (zos W) (zNL W (fun c U wr => zHL W r c U wr bg) f (c + x0) U2 H2 (wr ++ [i + 1]) (i + 1)))) else omin (wi x y) (sc (sm (some (c + x0, 1)) (mkE W x y r F H2 (i + 1) bg).2))) ⟨d1.same (fun j z1 z2 => ?_) (fun _ _ _ => rfl), ⟨rfl, d2.2⟩, zwd_take d3, d4⟩ (fun x y => ?_)
    · rw [zv_eq, if_neg (by omega), zv_eq, if_neg (by omega), zv_eq, if_neg (by omega), zv_eq, if_neg (by omega), zv_eq, if_neg (by omega), zv_eq, if_neg (by omega)]
    · rw [hE1 x y]; exact node_wi _ hx0 c x y _
  have hLoop : ∀ k, k ≤ W.n - 1 → ∀ (V1 A1 : zV) (q11 q12 : Value), q11.category = 1 → q12.category = 1 → DF V A V1 A1 → V1 36 23 = nI (2 * H2) → V1 36 24 = nI (zLda W H2) → DSt W U2 rn (wr ++ [i + 1]) (L ++ zfl (zfN W (fun c U wr => zHL W r c U wr bg) f (c + x0) U2 H2 (wr ++ [i + 1]) (i + 1)) k) (fun x y => omin (wi x y) (sc (sm (some (c + x0, 1)) (zMS.s (fun j => (tN W r F H2 (i + 1) bg x y j).2) k)))) V1 A1 → X Y_Mo_atNode (zrm (2 * m + 3)) (0, fun _ => 0) (zFq (2 * m + 3) (fun ρ V' A' => ρ = zEf (sc (lsum W (zos W) (zNL W (fun c U wr => zHL W r c U wr bg) f (c + x0) U2 H2 (wr ++ [i + 1]) (i + 1)))) ∧ DF V A V' A' ∧ (V' 36 23 = nI (2 * H) ∧ V' 36 24 = nI (zLda W H)) ∧ DSt W U rn wr (L ++ zNL W (fun c U wr => zHL W r c U wr bg) f (c + x0) U2 H2 (wr ++ [i + 1]) (i + 1)) (fun x y => omin (wi x y) (sc (sm (some (c, 1)) ((zD zMS).m (mkA W x y a (i + 1)) (mkE W x y r F H2 (i + 1) bg)).2))) V' A')) 81 [.ref 36, .int (nI a), .int (nI (i + 1)), .int (nI bg), .int (Int32.ofInt c), .int (Int32.ofInt (c + x0)), .int (nI (2 * H)), .int (nI (zLda W H)), .int (nI wr.length), .int (zEf (sc (lsum W (zos W) (zfl (zfN W (fun c U wr => zHL W r c U wr bg) f (c + x0) U2 H2 (wr ++ [i + 1]) (i + 1)) k)))), .int (nI (k + 1)), q11, q12] [] (cells V1 A1) 0 0 := by
    refine z_down (fun V1 A1 q11 q12 hq11 hq12 hF1 n23 n24 hD1 => ?_) (fun k hk ih V1 A1 q11 q12 hq11 hq12 hF1 n23 n24 hD1 => ?_)
    · have ix1 : 9 * nI (i + 1) = nI (9 * (i + 1) + 0) := by rw [show (9 : Int32) = nI 9 from rfl, pk_mul]; rfl
      have cx1 : (nI (9 * (i + 1) + 0)).toNatClampNeg = 9 * (i + 1) + 0 := nI_clamp (by omega)
      have har := hD1.1.ar (i + 1) 0 (by omega) (by omega)
      have hB1 := lxf_B hW (L := zfl (zfN W (fun c U wr => zHL W r c U wr bg) f (c + x0) U2 H2 (wr ++ [i + 1]) (i + 1)) (W.n - 1)) (fun y hy => hD1.2.2.2.2.1 y (List.mem_append_right _ hy)) (zos W) (zos_B hW)
      have hbk : zbk W (i + 1) = if W.op = true then some 0 else W.ar (i + 1) 0 := rfl
      refine x_iload (pc := 81) d_Mo_atNode_81 rfl ?_
      refine x_aload_n (pc := 83) d_Mo_atNode_83 rfl ?_
      refine x_get (pc := 84) (j := 1) d_Mo_atNode_84 f_Mo_13 rfl rfl (Nat.le_of_ble_eq_true rfl) rfl rfl rfl ?_
      rw [hD1.1.n]
      refine x_icmp_ge (pc := 87) (tgt := 134) d_Mo_atNode_87 (by decide) (fun h87 => ?_) (fun h => absurd (nI_le (by omega) (by omega)) h)
      refine x_aload_n (pc := 134) d_Mo_atNode_134 rfl ?_
      refine x_get (pc := 135) (j := 23) d_Mo_atNode_135 f_Mo_98 rfl rfl (Nat.le_of_ble_eq_true rfl) rfl rfl rfl ?_
      rw [n23]
      refine y_ist10 (pc := 138) d_Mo_atNode_138 ?_
      refine x_aload_n (pc := 140) d_Mo_atNode_140 rfl ?_
      refine x_get (pc := 141) (j := 24) d_Mo_atNode_141 f_Mo_95 rfl rfl (Nat.le_of_ble_eq_true rfl) rfl rfl rfl ?_
      rw [n24]
      refine y_ist11 (pc := 144) d_Mo_atNode_144 ?_
      cases hop : W.op with
      | true =>
        rw [hop, if_pos rfl] at hbk
        have h8 : V1 36 8 = 1 := by rw [hD1.1.op, hop]; rfl
        have hNL2 : zNL W (fun c U wr => zHL W r c U wr bg) f (c + x0) U2 H2 (wr ++ [i + 1]) (i + 1) = zfl (zfN W (fun c U wr => zHL W r c U wr bg) f (c + x0) U2 H2 (wr ++ [i + 1]) (i + 1)) (W.n - 1) ++ zHL W r (c + x0) U2 (wr ++ [i + 1]) bg := by
          rw [hNL, hbk]
          show _ ++ zHL W r (c + x0 + 0) U2 (wr ++ [i + 1]) bg = _
          rw [Int.add_zero]
        have hHc := hHC r (c + x0) U2 (wr ++ [i + 1]) bg rn _ _ V1 A1 hUF2.2.1 hbg hzm hrn (by omega) (by omega) hw92 hD1
        refine x_aload_n (pc := 146) d_Mo_atNode_146 rfl ?_
        refine x_get (pc := 147) (j := 8) d_Mo_atNode_147 f_Mo_89 rfl rfl (Nat.le_of_ble_eq_true rfl) rfl rfl rfl ?_
        refine x_iconst (pc := 150) (v := 1) d_Mo_atNode_150 (by decide) ?_
        refine x_icmp_ne (pc := 151) (tgt := 182) d_Mo_atNode_151 (by decide) (fun h => absurd h8 h) (fun h151 => ?_)
        refine x_aload_n (pc := 154) d_Mo_atNode_154 rfl ?_
        refine x_iload_n (pc := 155) d_Mo_atNode_155 rfl ?_
        refine x_iload (pc := 156) d_Mo_atNode_156 rfl ?_
        refine y_callS (pc := 158) hHc k_Mo_atHouse d_Mo_atNode_158 m_Mo_136 (by omega) rfl p_Mo_atHouse (K := fun v2 V2 A2 hq => ?_)
        obtain ⟨rfl, g1, g2⟩ := hq
        have hls : lsum W (zos W) (zNL W (fun c U wr => zHL W r c U wr bg) f (c + x0) U2 H2 (wr ++ [i + 1]) (i + 1)) = sa (lsum W (zos W) (zfl (zfN W (fun c U wr => zHL W r c U wr bg) f (c + x0) U2 H2 (wr ++ [i + 1]) (i + 1)) (W.n - 1))) (lsum W (zos W) (zHL W r (c + x0) U2 (wr ++ [i + 1]) bg)) := by rw [hNL2, lsum_app]
        have hB2 := lxf_B hW (L := zHL W r (c + x0) U2 (wr ++ [i + 1]) bg) (fun y hy => g2.2.2.2.2.1 y (List.mem_append_right _ hy)) (zos W) (zos_B hW)
        have hD3 : DSt W U2 rn (wr ++ [i + 1]) (L ++ zNL W (fun c U wr => zHL W r c U wr bg) f (c + x0) U2 H2 (wr ++ [i + 1]) (i + 1)) (fun x y => omin (wi x y) (sc (sm (some (c + x0, 1)) (mkE W x y r F H2 (i + 1) bg).2))) V2 A2 := by
          refine (g2.ls (by rw [hNL2, List.append_assoc])).wi (fun x y => ?_)
          rw [hE2, ← hdf]
          have e := open_wi (omin (wi x y) (sc (sm (some (c + x0, 1)) (zMS.s (fun j => (tN W r F H2 (i + 1) bg x y j).2) (W.n - 1))))) hop hbk (c + x0) x y (mkH W x y r (zdf (2 ^ (W.n - 1) - 1) U2) bg)
          rw [Int.add_zero] at e
          refine e.trans ?_
          rw [om_add, show sa (zMS.s (fun j => (tN W r F H2 (i + 1) bg x y j).2) (W.n - 1)) _ = sa _ (zMS.s (fun j => (tN W r F H2 (i + 1) bg x y j).2) (W.n - 1)) from zMS_SR.pc _ _]
        refine y_ist12 (pc := 161) d_Mo_atNode_161 ?_
        refine x_iload (pc := 163) d_Mo_atNode_163 rfl ?_
        refine x_iload (pc := 165) d_Mo_atNode_165 rfl ?_
        refine x_icmp_ge (pc := 167) (tgt := 175) d_Mo_atNode_167 (by decide) (fun h167 => ?_) (fun h167 => ?_)
        · refine x_iload (pc := 175) d_Mo_atNode_175 rfl ?_
          refine y_ist9 (pc := 177) d_Mo_atNode_177 ?_
          refine x_goto (pc := 179) (tgt := 239) d_Mo_atNode_179 (by decide) ?_
          rw [zEf_mt hB1 hB2 h167, ← sc_sa, ← hls]
          exact hFin _ _ _ rfl (DF_tr hF1 g1) hD3
        · refine x_iload (pc := 170) d_Mo_atNode_170 rfl ?_
          refine x_goto (pc := 172) (tgt := 177) d_Mo_atNode_172 (by decide) ?_
          refine y_ist9 (pc := 177) d_Mo_atNode_177 ?_
          refine x_goto (pc := 179) (tgt := 239) d_Mo_atNode_179 (by decide) ?_
          rw [zEf_mf hB1 hB2 h167, ← sc_sa, ← hls]
          exact hFin _ _ _ rfl (DF_tr hF1 g1) hD3
      | false =>
        rw [hop, if_neg (by simp)] at hbk
        have h8 : V1 36 8 = 0 := by rw [hD1.1.op, hop]; rfl
        refine x_aload_n (pc := 146) d_Mo_atNode_146 rfl ?_
        refine x_get (pc := 147) (j := 8) d_Mo_atNode_147 f_Mo_89 rfl rfl (Nat.le_of_ble_eq_true rfl) rfl rfl rfl ?_
        refine x_iconst (pc := 150) (v := 1) d_Mo_atNode_150 (by decide) ?_
        refine x_icmp_ne (pc := 151) (tgt := 182) d_Mo_atNode_151 (by decide) (fun h151 => ?_) (fun h => absurd (h8.symm.trans h) (by decide))
        refine x_aload_n (pc := 182) d_Mo_atNode_182 rfl ?_
        refine x_get (pc := 183) (j := 3) d_Mo_atNode_183 f_Mo_20 rfl rfl (Nat.le_of_ble_eq_true rfl) rfl rfl rfl ?_
        refine x_bipush (pc := 186) (v := 9) d_Mo_atNode_186 (by decide) ?_
        refine x_iload_n (pc := 188) d_Mo_atNode_188 rfl ?_
        refine x_imul (pc := 189) d_Mo_atNode_189 ?_
        refine x_iald (pc := 190) d_Mo_atNode_190 rfl (by rw [ix1]; exact vp_in_nI (by omega) (by decide)) ?_
        rw [ix1, cx1, har]
        refine x_ldc (pc := 191) (v := 1000000) d_Mo_atNode_191 i_Mo_69 ?_
        refine x_icmp_eq (pc := 193) (tgt := 239) d_Mo_atNode_193 (by decide) (fun h193 => ?_) (fun h193 => ?_)
        · have hn : W.ar (i + 1) 0 = none := (zEa_no (b := 1000) (by omega) (hW.arB _ _)).mp h193
          rw [hn] at hbk
          have hNL2 : zNL W (fun c U wr => zHL W r c U wr bg) f (c + x0) U2 H2 (wr ++ [i + 1]) (i + 1) = zfl (zfN W (fun c U wr => zHL W r c U wr bg) f (c + x0) U2 H2 (wr ++ [i + 1]) (i + 1)) (W.n - 1) := by rw [hNL, hbk]; exact List.append_nil _
          have hD3 : DSt W U2 rn (wr ++ [i + 1]) (L ++ zNL W (fun c U wr => zHL W r c U wr bg) f (c + x0) U2 H2 (wr ++ [i + 1]) (i + 1)) (fun x y => omin (wi x y) (sc (sm (some (c + x0, 1)) (mkE W x y r F H2 (i + 1) bg).2))) V1 A1 := by
            refine (hD1.ls (by rw [hNL2])).wi (fun x y => ?_)
            rw [hE2]
            refine (none_wi _ hbk (some (c + x0, 1)) x y (mkH W x y r (zdf F H2) bg)).trans ?_
            rw [om_add, show sa (zMS.s (fun j => (tN W r F H2 (i + 1) bg x y j).2) (W.n - 1)) _ = sa _ (zMS.s (fun j => (tN W r F H2 (i + 1) bg x y j).2) (W.n - 1)) from zMS_SR.pc _ _]
          rw [← hNL2]
          exact hFin _ _ _ hq12 hF1 hD3
        · cases hb0 : W.ar (i + 1) 0 with
          | none => exact absurd (by rw [hb0]; rfl) h193
          | some b =>
            rw [hb0] at hbk har
            have hbb := hW.ar (i + 1) 0 b hb0
            have hNL2 : zNL W (fun c U wr => zHL W r c U wr bg) f (c + x0) U2 H2 (wr ++ [i + 1]) (i + 1) = zfl (zfN W (fun c U wr => zHL W r c U wr bg) f (c + x0) U2 H2 (wr ++ [i + 1]) (i + 1)) (W.n - 1) ++ zHL W r (c + x0 + b) U2 (wr ++ [i + 1]) bg := by rw [hNL, hbk]
            have hHc := hHC r (c + x0 + b) U2 (wr ++ [i + 1]) bg rn _ _ V1 A1 hUF2.2.1 hbg hzm hrn (by omega) (by omega) hw92 hD1
            refine x_aload_n (pc := 196) d_Mo_atNode_196 rfl ?_
            refine x_iload_n (pc := 197) d_Mo_atNode_197 rfl ?_
            refine x_iload (pc := 198) d_Mo_atNode_198 rfl ?_
            refine x_aload_n (pc := 200) d_Mo_atNode_200 rfl ?_
            refine x_get (pc := 201) (j := 3) d_Mo_atNode_201 f_Mo_20 rfl rfl (Nat.le_of_ble_eq_true rfl) rfl rfl rfl ?_
            refine x_bipush (pc := 204) (v := 9) d_Mo_atNode_204 (by decide) ?_
            refine x_iload_n (pc := 206) d_Mo_atNode_206 rfl ?_
            refine x_imul (pc := 207) d_Mo_atNode_207 ?_
            refine x_iald (pc := 208) d_Mo_atNode_208 rfl (by rw [ix1]; exact vp_in_nI (by omega) (by decide)) ?_
            rw [ix1, cx1, har, show zEa (some b) = Int32.ofInt b from rfl]
            refine x_iadd (pc := 209) d_Mo_atNode_209 ?_
            rw [← Int32.ofInt_add]
            refine y_callS (pc := 210) hHc k_Mo_atHouse d_Mo_atNode_210 m_Mo_136 (by omega) rfl p_Mo_atHouse (K := fun v2 V2 A2 hq => ?_)
            obtain ⟨rfl, g1, g2⟩ := hq
            refine y_ist12 (pc := 213) d_Mo_atNode_213 ?_
            have hls : lsum W (zos W) (zNL W (fun c U wr => zHL W r c U wr bg) f (c + x0) U2 H2 (wr ++ [i + 1]) (i + 1)) = sa (lsum W (zos W) (zfl (zfN W (fun c U wr => zHL W r c U wr bg) f (c + x0) U2 H2 (wr ++ [i + 1]) (i + 1)) (W.n - 1))) (lsum W (zos W) (zHL W r (c + x0 + b) U2 (wr ++ [i + 1]) bg)) := by rw [hNL2, lsum_app]
            have hB2 := lxf_B hW (L := zHL W r (c + x0 + b) U2 (wr ++ [i + 1]) bg) (fun y hy => g2.2.2.2.2.1 y (List.mem_append_right _ hy)) (zos W) (zos_B hW)
            have hDn := g2.note (a := i + 1) (b := 0) (by omega) (by omega) hB2
            have hD3 := (hDn.ls (L' := L ++ zNL W (fun c U wr => zHL W r c U wr bg) f (c + x0) U2 H2 (wr ++ [i + 1]) (i + 1)) (by rw [hNL2, List.append_assoc])).wi (wi' := (fun x y => omin (wi x y) (sc (sm (some (c + x0, 1)) (mkE W x y r F H2 (i + 1) bg).2)))) (fun x y => by
              rw [hE2, ← hdf, hH1 (c + x0 + b) x y, ← hdf]
              refine (close_wi (omin (wi x y) (sc (sm (some (c + x0, 1)) (zMS.s (fun j => (tN W r F H2 (i + 1) bg x y j).2) (W.n - 1))))) hop hbk (c + x0) x y (mkH W x y r (zdf (2 ^ (W.n - 1) - 1) U2) bg)).trans ?_
              rw [om_add, show sa (zMS.s (fun j => (tN W r F H2 (i + 1) bg x y j).2) (W.n - 1)) _ = sa _ (zMS.s (fun j => (tN W r F H2 (i + 1) bg x y j).2) (W.n - 1)) from zMS_SR.pc _ _])
            refine x_aload_n (pc := 215) d_Mo_atNode_215 rfl ?_
            refine x_iload_n (pc := 216) d_Mo_atNode_216 rfl ?_
            refine x_iconst (pc := 217) (v := 0) d_Mo_atNode_217 (by decide) ?_
            refine x_iload (pc := 218) d_Mo_atNode_218 rfl ?_
            refine y_fU (pc := 220) (c_Mo_note _ _ (i + 1) 0 _ (sc (lsum W (zos W) (zHL W r (c + x0 + b) U2 (wr ++ [i + 1]) bg))) (by omega) (by omega) (g2.2.2.2.1.2.2.2 (i + 1) 0 (by omega) (by omega)) (oB_mono (g2.2.2.2.2.2 (i + 1) 0) (by omega)) (oB_mono hB2 (by omega))) k_Mo_note d_Mo_atNode_220 m_Mo_140 (by omega) rfl rfl rfl rfl p_Mo_note (K := ?_)
            refine x_iload (pc := 223) d_Mo_atNode_223 rfl ?_
            refine x_iload (pc := 225) d_Mo_atNode_225 rfl ?_
            refine x_icmp_ge (pc := 227) (tgt := 235) d_Mo_atNode_227 (by decide) (fun h227 => ?_) (fun h227 => ?_)
            · refine x_iload (pc := 235) d_Mo_atNode_235 rfl ?_
              refine y_ist9 (pc := 237) d_Mo_atNode_237 ?_
              rw [zEf_mt hB1 hB2 h227, ← sc_sa, ← hls]
              exact hFin _ _ _ rfl ((DF_tr hF1 g1).A (by omega) _) hD3
            · refine x_iload (pc := 230) d_Mo_atNode_230 rfl ?_
              refine x_goto (pc := 232) (tgt := 237) d_Mo_atNode_232 (by decide) ?_
              refine y_ist9 (pc := 237) d_Mo_atNode_237 ?_
              rw [zEf_mf hB1 hB2 h227, ← sc_sa, ← hls]
              exact hFin _ _ _ rfl ((DF_tr hF1 g1).A (by omega) _) hD3
    · have hUk := hUF2.2.2 k hk
      have hUH : U2.testBit k = false → H2.testBit k = false := fun z => by
        rw [z] at hUk
        cases hq : H2.testBit k with
        | false => rfl
        | true => rw [hq, Bool.or_true] at hUk; exact absurd hUk (by simp)
      have hmay := may_iff2 (W := W) (a := i + 1) hUH
      have hzl : zfl (zfN W (fun c U wr => zHL W r c U wr bg) f (c + x0) U2 H2 (wr ++ [i + 1]) (i + 1)) (k + 1) = zfl (zfN W (fun c U wr => zHL W r c U wr bg) f (c + x0) U2 H2 (wr ++ [i + 1]) (i + 1)) k ++ zfN W (fun c U wr => zHL W r c U wr bg) f (c + x0) U2 H2 (wr ++ [i + 1]) (i + 1) k := rfl
      have hzs : ∀ x y, zMS.s (fun j => (tN W r F H2 (i + 1) bg x y j).2) (k + 1) = sa (zMS.s (fun j => (tN W r F H2 (i + 1) bg x y j).2) k) (tN W r F H2 (i + 1) bg x y k).2 := fun x y => rfl
      have hle := zLda_le hW H2
      refine x_iload (pc := 81) d_Mo_atNode_81 rfl ?_
      refine x_aload_n (pc := 83) d_Mo_atNode_83 rfl ?_
      refine x_get (pc := 84) (j := 1) d_Mo_atNode_84 f_Mo_13 rfl rfl (Nat.le_of_ble_eq_true rfl) rfl rfl rfl ?_
      rw [hD1.1.n]
      refine x_icmp_ge (pc := 87) (tgt := 134) d_Mo_atNode_87 (by decide) (fun h => absurd h (nI_ge (by omega) (by omega))) (fun h87 => ?_)
      refine x_aload_n (pc := 90) d_Mo_atNode_90 rfl ?_
      refine x_iload_n (pc := 91) d_Mo_atNode_91 rfl ?_
      refine x_iload (pc := 92) d_Mo_atNode_92 rfl ?_
      refine y_bV (pc := 94) (c_Mo_mayCome _ _ hW hD1.1 (i + 1) (k + 1) U2 H2 (zLda W H2) (by omega) (by omega) (by omega) hU28 hH28 (by omega) hD1.2.1.1 n23 n24) k_Mo_mayCome d_Mo_atNode_94 m_Mo_125 (by omega) rfl rfl rfl rfl p_Mo_mayCome (K1 := fun q94 => ?_) (K0 := fun q94 => ?_)
      · obtain ⟨y1, y2, y3⟩ := hmay.mp q94
        obtain ⟨x1, hx1⟩ : ∃ x1, W.ar (i + 1) (k + 1) = some x1 := by
          cases hz : W.ar (i + 1) (k + 1) with
          | none => exact absurd hz y1
          | some x1 => exact ⟨x1, rfl⟩
        have hz2 := zc_step (n := W.n - 1) y2 hk
        have hfi : zfN W (fun c U wr => zHL W r c U wr bg) f (c + x0) U2 H2 (wr ++ [i + 1]) (i + 1) k = zNL W (fun c U wr => zHL W r c U wr bg) (f - 1) (c + x0 + x1) (U2 ||| 2 ^ k) (H2 ||| 2 ^ k) (wr ++ [i + 1] ++ [k + 1]) (k + 1) := by
          unfold zfN
          rw [if_pos (by rw [y3, y2]; rfl), hx1]
        have hti : ∀ x y, tN W r F H2 (i + 1) bg x y k = (zD zMS).m (mkA W x y (i + 1) (k + 1)) (mkE W x y r F (H2 ||| 2 ^ k) (k + 1) bg) := fun x y => by
          unfold tN
          rw [if_pos (by rw [y3]; rw [y2, hUH y2] at hUk; cases hq : F.testBit k with | true => rfl | false => rw [hq] at hUk; exact absurd hUk (by simp))]
        obtain ⟨m', rfl⟩ : ∃ m', m = m' + 1 := ⟨m - 1, by omega⟩
        have hNC := hN m' rfl r (c + x0) U2 F H2 (wr ++ [i + 1]) (i + 1) k bg rn (f - 1) x1 _ _ V1 A1 hk (by omega) hbg y2 y3 hH28 hx1 hUF2 (by omega) (by omega) hrn (by omega) (by omega) hw92 n23 n24 hD1
        rw [← hfi] at hNC
        refine x_if_eq (pc := 97) (tgt := 128) d_Mo_atNode_97 (by decide) (fun h => absurd h (by decide)) (fun _ => ?_)
        refine x_aload_n (pc := 100) d_Mo_atNode_100 rfl ?_
        refine x_iload_n (pc := 101) d_Mo_atNode_101 rfl ?_
        refine x_iload (pc := 102) d_Mo_atNode_102 rfl ?_
        refine x_iload_n (pc := 104) d_Mo_atNode_104 rfl ?_
        refine x_iload (pc := 105) d_Mo_atNode_105 rfl ?_
        refine y_callS (pc := 107) hNC k_Mo_atNode d_Mo_atNode_107 m_Mo_132 (by omega) rfl p_Mo_atNode (K := fun v2 V2 A2 hq => ?_)
        obtain ⟨rfl, g1, ⟨g23, g24⟩, g2⟩ := hq
        have hD4 := (g2.ls (L' := L ++ zfl (zfN W (fun c U wr => zHL W r c U wr bg) f (c + x0) U2 H2 (wr ++ [i + 1]) (i + 1)) (k + 1)) (by rw [hzl, List.append_assoc])).wi (wi' := (fun x y => omin (wi x y) (sc (sm (some (c + x0, 1)) (zMS.s (fun j => (tN W r F H2 (i + 1) bg x y j).2) (k + 1)))))) (fun x y => by rw [hzs, hti, om_add])
        have hls : lsum W (zos W) (zfl (zfN W (fun c U wr => zHL W r c U wr bg) f (c + x0) U2 H2 (wr ++ [i + 1]) (i + 1)) (k + 1)) = sa (lsum W (zos W) (zfl (zfN W (fun c U wr => zHL W r c U wr bg) f (c + x0) U2 H2 (wr ++ [i + 1]) (i + 1)) k)) (lsum W (zos W) (zfN W (fun c U wr => zHL W r c U wr bg) f (c + x0) U2 H2 (wr ++ [i + 1]) (i + 1) k)) := by rw [hzl, lsum_app]
        have hB1 := lxf_B hW (L := zfl (zfN W (fun c U wr => zHL W r c U wr bg) f (c + x0) U2 H2 (wr ++ [i + 1]) (i + 1)) k) (fun y hy => g2.2.2.2.2.1 y (List.mem_append_left _ (List.mem_append_right _ hy))) (zos W) (zos_B hW)
        have hB2 := lxf_B hW (L := zfN W (fun c U wr => zHL W r c U wr bg) f (c + x0) U2 H2 (wr ++ [i + 1]) (i + 1) k) (fun y hy => g2.2.2.2.2.1 y (List.mem_append_right _ hy)) (zos W) (zos_B hW)
        refine y_ist11 (pc := 110) d_Mo_atNode_110 ?_
        refine x_iload (pc := 112) d_Mo_atNode_112 rfl ?_
        refine x_iload (pc := 114) d_Mo_atNode_114 rfl ?_
        refine x_icmp_ge (pc := 116) (tgt := 124) d_Mo_atNode_116 (by decide) (fun h116 => ?_) (fun h116 => ?_)
        · refine x_iload (pc := 124) d_Mo_atNode_124 rfl ?_
          refine y_ist9 (pc := 126) d_Mo_atNode_126 ?_
          refine y_inc10 (pc := 128) (v := 1) d_Mo_atNode_128 (by decide) ?_
          refine x_goto (pc := 131) (tgt := 81) d_Mo_atNode_131 (by decide) ?_
          rw [show nI (k + 1) + 1 = nI (k + 1 + 1) from (nI_succ (k + 1)).symm]
          rw [zEf_mt hB1 hB2 h116, ← sc_sa, ← hls]
          exact ih _ _ _ _ rfl hq12 (DF_tr hF1 g1) g23 g24 hD4
        · refine x_iload (pc := 119) d_Mo_atNode_119 rfl ?_
          refine x_goto (pc := 121) (tgt := 126) d_Mo_atNode_121 (by decide) ?_
          refine y_ist9 (pc := 126) d_Mo_atNode_126 ?_
          refine y_inc10 (pc := 128) (v := 1) d_Mo_atNode_128 (by decide) ?_
          refine x_goto (pc := 131) (tgt := 81) d_Mo_atNode_131 (by decide) ?_
          rw [show nI (k + 1) + 1 = nI (k + 1 + 1) from (nI_succ (k + 1)).symm]
          rw [zEf_mf hB1 hB2 h116, ← sc_sa, ← hls]
          exact ih _ _ _ _ rfl hq12 (DF_tr hF1 g1) g23 g24 hD4
      · have hfi : zfN W (fun c U wr => zHL W r c U wr bg) f (c + x0) U2 H2 (wr ++ [i + 1]) (i + 1) k = [] := by
          unfold zfN
          by_cases hc2 : (zfo W H2 k && !U2.testBit k) = true
          · rw [if_pos hc2]
            have z := Bool.and_eq_true _ _ ▸ hc2
            cases hz : W.ar (i + 1) (k + 1) with
            | none => rfl
            | some x1 => exact absurd (hmay.mpr ⟨by rw [hz]; simp, by simpa using z.2, z.1⟩) q94
          · rw [if_neg hc2]
        have hti : ∀ x y, (tN W r F H2 (i + 1) bg x y k).2 = none := fun x y => by
          unfold tN
          by_cases hc2 : (zfo W H2 k && F.testBit k) = true
          · rw [if_pos hc2]
            have z : zfo W H2 k = true ∧ F.testBit k = true := Bool.and_eq_true _ _ ▸ hc2
            cases hz : W.ar (i + 1) (k + 1) with
            | none =>
              have e : mkA W x y (i + 1) (k + 1) = (none, none) := by unfold mkA zar; rw [hz]; show (none, if _ then none else none) = _; rw [ite_self]
              rw [e, zD_non]
            | some x1 => exact absurd (hmay.mpr ⟨by rw [hz]; simp, by rw [hUk, z.2, zfo_Fo W H2 k z.1]; rfl, z.1⟩) q94
          · rw [if_neg hc2]; rfl
        have hzl2 : zfl (zfN W (fun c U wr => zHL W r c U wr bg) f (c + x0) U2 H2 (wr ++ [i + 1]) (i + 1)) (k + 1) = zfl (zfN W (fun c U wr => zHL W r c U wr bg) f (c + x0) U2 H2 (wr ++ [i + 1]) (i + 1)) k := by rw [hzl, hfi, List.append_nil]
        rw [hzl2] at ih
        refine x_if_eq (pc := 97) (tgt := 128) d_Mo_atNode_97 (by decide) (fun _ => ?_) (fun h => absurd h (by decide))
        refine y_inc10 (pc := 128) (v := 1) d_Mo_atNode_128 (by decide) ?_
        refine x_goto (pc := 131) (tgt := 81) d_Mo_atNode_131 (by decide) ?_
        rw [show nI (k + 1) + 1 = nI (k + 1 + 1) from (nI_succ (k + 1)).symm]
        exact ih _ _ _ _ hq11 hq12 hF1 n23 n24 (hD1.wi (fun x y => by rw [hzs, hti, sa_nr]))
  have ix0 : 9 * nI a + nI (i + 1) = nI (9 * a + (i + 1)) := by rw [show (9 : Int32) = nI 9 from rfl, pk_mul, nI_add]
  have cx0 : (nI (9 * a + (i + 1))).toNatClampNeg = 9 * a + (i + 1) := nI_clamp (by omega)
  have har0 := hD.1.ar a (i + 1) (by omega) (by omega)
  rw [hx0] at har0
  have ci : (nI (i + 1)).toNatClampNeg = i + 1 := nI_clamp (by omega)
  have hlo := hD.1.lo (i + 1) (by omega)
  refine CQ.of (lv := [.ref 36, .int (nI a), .int (nI (i + 1)), .int (nI bg), .int (Int32.ofInt c), zu, zu, zu, zu, zu, zu, zu, zu]) k_Mo_atNode.1 rfl (by decide) rfl rfl (Nat.le_of_ble_eq_true rfl) ?_
  refine x_iload (pc := 0) d_Mo_atNode_0 rfl ?_
  refine x_aload_n (pc := 2) d_Mo_atNode_2 rfl ?_
  refine x_get (pc := 3) (j := 3) d_Mo_atNode_3 f_Mo_20 rfl rfl (Nat.le_of_ble_eq_true rfl) rfl rfl rfl ?_
  refine x_bipush (pc := 6) (v := 9) d_Mo_atNode_6 (by decide) ?_
  refine x_iload_n (pc := 8) d_Mo_atNode_8 rfl ?_
  refine x_imul (pc := 9) d_Mo_atNode_9 ?_
  refine x_iload_n (pc := 10) d_Mo_atNode_10 rfl ?_
  refine x_iadd (pc := 11) d_Mo_atNode_11 ?_
  refine x_iald (pc := 12) d_Mo_atNode_12 rfl (by rw [ix0]; exact vp_in_nI (by omega) (by decide)) ?_
  rw [ix0, cx0, har0, show zEa (some x0) = Int32.ofInt x0 from rfl]
  refine x_iadd (pc := 13) d_Mo_atNode_13 ?_
  rw [← Int32.ofInt_add]
  refine y_ist5 (pc := 14) d_Mo_atNode_14 ?_
  refine x_aload_n (pc := 16) d_Mo_atNode_16 rfl ?_
  refine x_get (pc := 17) (j := 23) d_Mo_atNode_17 f_Mo_98 rfl rfl (Nat.le_of_ble_eq_true rfl) rfl rfl rfl ?_
  rw [m23]
  refine y_ist6 (pc := 20) d_Mo_atNode_20 ?_
  refine x_aload_n (pc := 22) d_Mo_atNode_22 rfl ?_
  refine x_get (pc := 23) (j := 24) d_Mo_atNode_23 f_Mo_95 rfl rfl (Nat.le_of_ble_eq_true rfl) rfl rfl rfl ?_
  rw [m24]
  refine y_ist7 (pc := 26) d_Mo_atNode_26 ?_
  refine x_aload_n (pc := 28) d_Mo_atNode_28 rfl ?_
  refine x_get (pc := 29) (j := 21) d_Mo_atNode_29 f_Mo_115 rfl rfl (Nat.le_of_ble_eq_true rfl) rfl rfl rfl ?_
  rw [hD.2.2.1.1]
  refine y_ist8 (pc := 32) d_Mo_atNode_32 ?_
  refine x_aload_n (pc := 34) d_Mo_atNode_34 rfl ?_
  refine x_iload_n (pc := 35) d_Mo_atNode_35 rfl ?_
  refine y_fU (pc := 36) (c_Mo_write _ _ (nI (i + 1)) wr.length (by omega) hD.2.2.1.1) k_Mo_write d_Mo_atNode_36 m_Mo_128 (by omega) rfl rfl rfl rfl p_Mo_write (K := ?_)
  refine x_aload_n (pc := 39) d_Mo_atNode_39 rfl ?_
  refine x_aload_n (pc := 40) d_Mo_atNode_40 rfl ?_
  refine x_get (pc := 41) (j := 22) d_Mo_atNode_41 f_Mo_92 rfl rfl (Nat.le_of_ble_eq_true rfl) rfl rfl rfl ?_
  refine x_iconst (pc := 44) (v := 1) d_Mo_atNode_44 (by decide) ?_
  refine x_iload_n (pc := 45) d_Mo_atNode_45 rfl ?_
  refine x_ishl (pc := 46) d_Mo_atNode_46 ?_
  refine x_ior (pc := 47) d_Mo_atNode_47 ?_
  rw [show (zv V 36 21 (nI (wr.length + 1))) 36 22 ||| ((1 : Int32) <<< (nI (i + 1) &&& 31)) = nI (2 * U2) from (by show V 36 22 ||| _ = _; rw [hD.2.1.1]; exact eU)]
  refine y_put (pc := 48) (j := 22) d_Mo_atNode_48 f_Mo_92 rfl rfl (Nat.le_of_ble_eq_true rfl) rfl (Nat.le_of_ble_eq_true rfl) rfl rfl (fun _ => rfl) ?_
  refine x_aload_n (pc := 51) d_Mo_atNode_51 rfl ?_
  refine x_iload (pc := 52) d_Mo_atNode_52 rfl ?_
  refine x_iconst (pc := 54) (v := 1) d_Mo_atNode_54 (by decide) ?_
  refine x_iload_n (pc := 55) d_Mo_atNode_55 rfl ?_
  refine x_ishl (pc := 56) d_Mo_atNode_56 ?_
  refine x_ior (pc := 57) d_Mo_atNode_57 ?_
  rw [eH]
  refine y_put (pc := 58) (j := 23) d_Mo_atNode_58 f_Mo_98 rfl rfl (Nat.le_of_ble_eq_true rfl) rfl (Nat.le_of_ble_eq_true rfl) rfl rfl (fun _ => rfl) ?_
  refine x_aload_n (pc := 61) d_Mo_atNode_61 rfl ?_
  refine x_iload (pc := 62) d_Mo_atNode_62 rfl ?_
  refine x_aload_n (pc := 64) d_Mo_atNode_64 rfl ?_
  refine x_get (pc := 65) (j := 2) d_Mo_atNode_65 f_Mo_16 rfl rfl (Nat.le_of_ble_eq_true rfl) rfl rfl rfl ?_
  refine x_iload_n (pc := 68) d_Mo_atNode_68 rfl ?_
  refine x_iald (pc := 69) d_Mo_atNode_69 rfl (vp_in_nI (by omega) (by decide)) ?_
  refine x_iadd (pc := 70) d_Mo_atNode_70 ?_
  rw [ci, show (za A 47 (upd (A 47) wr.length (nI (i + 1)))) 37 (i + 1) = nI (W.lo (i + 1)) from hlo, nI_add, ← hLd]
  refine y_put (pc := 71) (j := 24) d_Mo_atNode_71 f_Mo_95 rfl rfl (Nat.le_of_ble_eq_true rfl) rfl (Nat.le_of_ble_eq_true rfl) rfl rfl (fun _ => rfl) ?_
  refine x_ldc (pc := 74) (v := 900000) d_Mo_atNode_74 i_Mo_101 ?_
  refine y_ist9 (pc := 76) d_Mo_atNode_76 ?_
  refine x_iconst (pc := 78) (v := 1) d_Mo_atNode_78 (by decide) ?_
  refine y_ist10 (pc := 79) d_Mo_atNode_79 ?_
  refine hLoop 0 (Nat.zero_le _) _ _ _ _ rfl rfl (((((DF_rf V A).V (by omega) _).A (by omega) _).V (by omega) _).V (by omega) _ |>.V (by omega) _) rfl rfl ?_
  refine DSt.wi (wi := wi) ⟨hD.1.same (fun j z1 z2 => ?_) (fun k z1 z2 => ?_), ⟨rfl, hD.2.1.2⟩, zwd_snoc hD.2.2.1 (i + 1), ?_⟩ (fun x y => (om_non (wi x y) (some (c + x0, 1))).symm)
  · rw [zv_eq, if_neg (by omega), zv_eq, if_neg (by omega), zv_eq, if_neg (by omega), zv_eq, if_neg (by omega)]
  · rw [za_eq, if_neg (by omega)]
  · rw [show L ++ zfl (zfN W (fun c U wr => zHL W r c U wr bg) f (c + x0) U2 H2 (wr ++ [i + 1]) (i + 1)) 0 = L from List.append_nil L]
    exact hD.2.2.2
theorem search_C {W : zW} (hW : zWok W) : ∀ m, HouseC W m ∧ NodeC W m
  | 0 =>
    have h : HouseC W 0 := house_C hW (fun m' e => by omega)
    ⟨h, node_C hW (fun m' e => by omega) h⟩
  | m + 1 =>
    have ih := search_C hW m
    have h : HouseC W (m + 1) := house_C hW (fun m' e => by rw [show m' = m by omega]; exact ih.2)
    ⟨h, node_C hW (fun m' e => by rw [show m' = m by omega]; exact ih.2) h⟩
