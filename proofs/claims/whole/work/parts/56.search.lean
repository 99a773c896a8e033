/-! the search -/
def mkE (W : zW) (x y r F S a bg : Nat) : Option (Int × Nat) × Option (Int × Nat) := zBB (zD zMS) (W.n - 1) (fun S k => zfo W S k && F.testBit k) (mkA W x y) (fun S a => (zD zMS).m (mkB W x y a) (mkH W x y r (zdf F S) bg)) S a
theorem folF_Fo (W : zW) (F : Nat) : zFo (fun S k => zfo W S k && F.testBit k) := fun S i q => zfo_Fo W S i ((Bool.and_eq_true _ _ ▸ q : _ ∧ _).1)
def tH (W : zW) (r F last x y i : Nat) : Option (Int × Nat) × Option (Int × Nat) := if last ≤ i ∧ (zfo W 0 i && F.testBit i) = true then (zD zMS).m (mkA W x y 0 (i + 1)) (mkE W x y r F (2 ^ i) (i + 1) (i + 1)) else (zD zMS).o
def tN (W : zW) (r F S a bg x y i : Nat) : Option (Int × Nat) × Option (Int × Nat) := if (zfo W S i && F.testBit i) = true then (zD zMS).m (mkA W x y a (i + 1)) (mkE W x y r F (S ||| 2 ^ i) (i + 1) bg) else (zD zMS).o
theorem zD_non (E : Option (Int × Nat) × Option (Int × Nat)) : ((zD zMS).m (none, none) E).2 = none := by
  show sa (sm none E.2) (sm none E.1) = none
  rw [sm_nl, sm_nl]; rfl
theorem mkH_2 (W : zW) (r F last x y : Nat) : (mkH W x y (r + 1) F last).2 = zMS.s (fun i => (tH W r F last x y i).2) (W.n - 1) := by
  have : mkH W x y (r + 1) F last = (zD zMS).p (zos W F, none) ((zD zMS).s (tH W r F last x y) (W.n - 1)) := rfl
  rw [this, zD_p]
  show zMS.p none ((zD zMS).s (tH W r F last x y) (W.n - 1)).2 = _
  rw [zMS_p, sa_nl, zD_s2]
theorem mkE_2 (W : zW) (r F S a bg x y : Nat) : (mkE W x y r F S a bg).2 = sa (sa (sm (zbs W a) (mkH W x y r (zdf F S) bg).2) (sm (mkB W x y a).2 (mkH W x y r (zdf F S) bg).1)) (zMS.s (fun i => (tN W r F S a bg x y i).2) (W.n - 1)) := by
  have : mkE W x y r F S a bg = (zD zMS).p ((zD zMS).m (mkB W x y a) (mkH W x y r (zdf F S) bg)) ((zD zMS).s (tN W r F S a bg x y) (W.n - 1)) := zBB_eq (zD_SR zMS_SR) (folF_Fo W F) _ _ S a
  rw [this, zD_p, zD_m, zD_s2]
  rfl
theorem mkH_1 (W : zW) (x y : Nat) : ∀ r F last, (mkH W x y r F last).1 = zH zMS (W.n - 1) (zfo W) (zar W) (zbs W) (zos W) r F last := by
  intro r
  induction r with
  | zero => intro F last; rfl
  | succ r ih =>
    intro F last
    have : mkH W x y (r + 1) F last = (zD zMS).p (zos W F, none) ((zD zMS).s (tH W r F last x y) (W.n - 1)) := rfl
    rw [this, zD_p, zD_s1, zH]
    show sa (zos W F) _ = sa (zos W F) _
    congr 1
    refine zs_congr zMS (fun i _ => ?_)
    unfold tH
    rw [fst_if]
    by_cases q : last ≤ i ∧ (zfo W 0 i && F.testBit i) = true
    · rw [if_pos q, if_pos q, zD_m]
      show sm (zar W 0 (i + 1)) _ = sm (zar W 0 (i + 1)) _
      congr 1
      unfold mkE
      rw [zBB_D1 zMS_SR (folF_Fo W F)]
      congr 1
      funext S a
      rw [zD_m, ih]; rfl
    · rw [if_neg q, if_neg q]; rfl
theorem mkE_1 (W : zW) (x y r F S a bg : Nat) : (mkE W x y r F S a bg).1 = zBB zMS (W.n - 1) (fun S k => zfo W S k && F.testBit k) (zar W) (fun S a => sm (zbs W a) (zH zMS (W.n - 1) (zfo W) (zar W) (zbs W) (zos W) r (zdf F S) bg)) S a := by
  unfold mkE
  rw [zBB_D1 zMS_SR (folF_Fo W F)]
  congr 1
  funext S a
  rw [zD_m, mkH_1]; rfl
theorem omin_as (o p q : Option Int) : omin (omin o p) q = omin o (omin p q) := by
  cases o with
  | none => rw [omin_nl, omin_nl]
  | some x => cases p with
    | none => rw [omin_nl]; rfl
    | some y => cases q with
      | none => rw [omin_nr, omin_nr]
      | some z =>
        show some (if z < (if y < x then y else x) then z else (if y < x then y else x)) = some (if (if z < y then z else y) < x then (if z < y then z else y) else x)
        congr 1
        repeat' split
        all_goals omega
theorem om_add (w : Option Int) (C a b : Option (Int × Nat)) : omin (omin w (sc (sm C a))) (sc (sm C b)) = omin w (sc (sm C (sa a b))) := by
  rw [show sm C (sa a b) = sa (sm C a) (sm C b) from zMS_SR.md C a b, sc_sa, omin_as]
theorem om_non (w : Option Int) (C : Option (Int × Nat)) : omin w (sc (sm C none)) = w := by rw [sm_nr]; exact omin_nr w
/-- the lists, in the reference's order -/
def zfH (W : zW) (r : Nat) (c : Int) (U : Nat) (wr : List Nat) (last : Nat) : Nat → List zLf := fun i => if (decide (last ≤ i) && (zfo W 0 i && !U.testBit i)) = true then (match W.ar 0 (i + 1) with | some x => zNL W (fun c U wr => zHL W r c U wr (i + 1)) (W.n - 1) (c + x) (U ||| 2 ^ i) (2 ^ i) (zsep wr ++ [i + 1]) (i + 1) | none => []) else []
theorem zHL_eq (W : zW) (r : Nat) (c : Int) (U : Nat) (wr : List Nat) (last : Nat) : zHL W (r + 1) c U wr last = (c, U, wr) :: zfl (zfH W r c U wr last) (W.n - 1) := rfl
def zfN (W : zW) (k : Int → Nat → List Nat → List zLf) (f : Nat) (c : Int) (U H : Nat) (wr : List Nat) (a : Nat) : Nat → List zLf := fun i => if (zfo W H i && !U.testBit i) = true then (match W.ar a (i + 1) with | some x => zNL W k (f - 1) (c + x) (U ||| 2 ^ i) (H ||| 2 ^ i) (wr ++ [i + 1]) (i + 1) | none => []) else []
theorem fl_nil {β : Type} {f : Nat → List β} : ∀ k, (∀ i, i < k → f i = []) → zfl f k = []
  | 0, _ => rfl
  | k + 1, h => by rw [zfl, fl_nil k (fun i hi => h i (by omega)), h k (by omega)]; rfl
theorem zNL_eq {W : zW} (k : Int → Nat → List Nat → List zLf) {f : Nat} (c : Int) {U : Nat} (H : Nat) (wr : List Nat) (a : Nat) (hz : zc U (W.n - 1) ≤ f) : zNL W k f c U H wr a = zfl (zfN W k f c U H wr a) (W.n - 1) ++ (match zbk W a with | some b => k (c + b) U wr | none => []) := by
  cases f with
  | zero =>
    rw [zNL, fl_nil]
    · rfl
    · intro i hi
      unfold zfN
      rw [if_neg (by rw [zc_none (by omega) i hi]; simp)]
  | succ f => rfl
def DSt (W : zW) (U rn : Nat) (wr : List Nat) (L : List zLf) (wi : Nat → Nat → Option Int) (V A : zV) : Prop := WR W V A ∧ (V 36 22 = nI (2 * U) ∧ V 36 25 = nI rn) ∧ zwd wr (V 36 21) (A 47) ∧ AC W L wi (V 36 14) (V 36 15) (V 36 19) (A 44) (A 45) (A 46) ∧ (∀ x, x ∈ L → -16000 ≤ x.1 ∧ x.1 ≤ 16000) ∧ ∀ x y, oB 32000 (wi x y)
theorem DSt.wi {W : zW} {U rn : Nat} {wr : List Nat} {L : List zLf} {wi wi' : Nat → Nat → Option Int} {V A : zV} (h : DSt W U rn wr L wi V A) (e : ∀ x y, wi x y = wi' x y) : DSt W U rn wr L wi' V A := by
  rw [← (funext fun x => funext fun y => e x y : wi = wi')]; exact h
theorem DSt.ls {W : zW} {U rn : Nat} {wr : List Nat} {L L' : List zLf} {wi : Nat → Nat → Option Int} {V A : zV} (h : DSt W U rn wr L wi V A) (e : L = L') : DSt W U rn wr L' wi V A := by rw [← e]; exact h
theorem zwd_take {w u : List Nat} {s : Int32} {t : Nat → Int32} (h : zwd (w ++ u) s t) : zwd w (nI w.length) t := by
  refine ⟨rfl, fun i hi => ?_⟩
  rw [h.2 i (by rw [List.length_append]; omega), List.getElem_append_left hi]
theorem DSt.note {W : zW} {U rn : Nat} {wr : List Nat} {L : List zLf} {wi : Nat → Nat → Option Int} {V A : zV} (h : DSt W U rn wr L wi V A) {a b : Nat} (ha : a < 9) (hb : b < 9) {p : Option Int} (hp : oB 32000 p) : DSt W U rn wr L (fun x y => if x = a ∧ y = b then omin (wi x y) p else wi x y) V (za A 44 (upd (A 44) (9 * a + b) (zEf (omin (wi a b) p)))) := by
  obtain ⟨h1, h2, h3, ⟨h4, h5, h6, h7⟩, h8, h9⟩ := h
  refine ⟨h1.same (fun _ _ _ => rfl) (fun k z1 z2 => by rw [za_eq, if_neg (by omega)]), h2, h3, ⟨h4, h5, h6, fun x y hx hy => ?_⟩, h8, fun x y => ?_⟩
  · show upd (A 44) _ _ _ = zEf (if x = a ∧ y = b then omin (wi x y) p else wi x y)
    by_cases e : x = a ∧ y = b
    · rw [if_pos e, e.1, e.2, upd_at]
    · rw [if_neg e, upd_ne _ _ (by omega)]; exact h7 x y hx hy
  · show oB 32000 (if x = a ∧ y = b then omin (wi x y) p else wi x y)
    split
    · intro z hz
      rcases omin_at hz with q | q
      · exact h9 x y z q
      · exact hp z q
    · exact h9 x y
theorem zEf_mt {o p : Option Int} (ho : oB 32000 o) (hp : oB 32000 p) (h : zEf o ≤ zEf p) : zEf o = zEf (omin o p) := by
  by_cases e : o = p
  · rw [e, omin_eq]
  · rw [omin_lt (olt_tri (fun z => absurd h (Int32.not_le.mpr ((zEf_lt (b := 32000) (by omega) hp ho).mpr z))) (fun z => e z.symm))]
theorem zEf_mf {o p : Option Int} (ho : oB 32000 o) (hp : oB 32000 p) (h : ¬ zEf o ≤ zEf p) : zEf p = zEf (omin o p) := by
  rw [omin_gt ((zEf_lt (b := 32000) (by omega) hp ho).mp (Int32.not_le.mp h))]
theorem may_iff {W : zW} {U H a i : Nat} (hH : H.testBit i = false) : zmay W U H (zLda W H) a (i + 1) ↔ ¬ W.ar a (i + 1) = none ∧ U.testBit i = false ∧ zfo W H i = true := by
  unfold zmay
  rw [zfo_iff, show i + 1 - 1 = i from rfl]
  constructor
  · rintro ⟨h1, h2, h3, h4⟩; exact ⟨h1, h2, h3, hH, h4⟩
  · rintro ⟨h1, h2, h3, -, h4⟩; exact ⟨h1, h2, h3, h4⟩
def HouseC (W : zW) (m : Nat) : Prop := ∀ (r : Nat) (c : Int) (U : Nat) (wr : List Nat) (last rn : Nat) (L : List zLf) (wi : Nat → Nat → Option Int) (V A : zV), U < 2 ^ (W.n - 1) → last ≤ W.n - 1 → zc U (W.n - 1) ≤ m → rn + r = W.mo → (2000 * (zc U (W.n - 1) : Int) + c ≤ 16000 ∧ -16000 ≤ c - 2000 * (zc U (W.n - 1) : Int)) → 2 * zc U (W.n - 1) + wr.length ≤ 16 → (∀ x, x ∈ wr → x < 9) → DSt W U rn wr L wi V A → CQ Y_Mo_atHouse (2 * m + 2) [.ref 36, .int (nI last), .int (Int32.ofInt c)] V A (fun ρ V' A' => ρ = zEf (sc (lsum W (zos W) (zHL W r c U wr last))) ∧ DF V A V' A' ∧ DSt W U rn wr (L ++ zHL W r c U wr last) (fun x y => omin (wi x y) (sc (sm (some (c, 1)) (mkH W x y r (zdf (2 ^ (W.n - 1) - 1) U) last).2))) V' A')
def NodeC (W : zW) (m : Nat) : Prop := ∀ (r : Nat) (c : Int) (U F H : Nat) (wr : List Nat) (a i bg rn f : Nat) (x0 : Int) (L : List zLf) (wi : Nat → Nat → Option Int) (V A : zV), i < W.n - 1 → a < W.n → bg ≤ W.n - 1 → U.testBit i = false → zfo W H i = true → H < 256 → W.ar a (i + 1) = some x0 → UF W U F H → zc (U ||| 2 ^ i) (W.n - 1) ≤ m → zc (U ||| 2 ^ i) (W.n - 1) ≤ f → rn + r = W.mo → (2000 * (zc U (W.n - 1) : Int) + c ≤ 16000 ∧ -16000 ≤ c - 2000 * (zc U (W.n - 1) : Int)) → 2 * zc U (W.n - 1) + wr.length ≤ 17 → (∀ x, x ∈ wr → x < 9) → V 36 23 = nI (2 * H) → V 36 24 = nI (zLda W H) → DSt W U rn wr L wi V A → CQ Y_Mo_atNode (2 * m + 3) [.ref 36, .int (nI a), .int (nI (i + 1)), .int (nI bg), .int (Int32.ofInt c)] V A (fun ρ V' A' => ρ = zEf (sc (lsum W (zos W) (zNL W (fun c U wr => zHL W r c U wr bg) f (c + x0) (U ||| 2 ^ i) (H ||| 2 ^ i) (wr ++ [i + 1]) (i + 1)))) ∧ DF V A V' A' ∧ (V' 36 23 = nI (2 * H) ∧ V' 36 24 = nI (zLda W H)) ∧ DSt W U rn wr (L ++ zNL W (fun c U wr => zHL W r c U wr bg) f (c + x0) (U ||| 2 ^ i) (H ||| 2 ^ i) (wr ++ [i + 1]) (i + 1)) (fun x y => omin (wi x y) (sc (sm (some (c, 1)) ((zD zMS).m (mkA W x y a (i + 1)) (mkE W x y r F (H ||| 2 ^ i) (i + 1) bg)).2))) V' A')
set_option maxRecDepth 100000 in
set_option maxHeartbeats 4000000 in
theorem house_C {W : zW} (hW : zWok W) {m : Nat} (hN : ∀ m', m = m' + 1 → NodeC W m') : HouseC W m := by
  intro r c U wr last rn L wi V A hU hlast hzm hrn hcB hwl hw9 hD
  have h9 := hW.h9
  have hp := pw_le h9
  have hm8 := hW.m8
  have h0p : 0 < 2 ^ (W.n - 1) := Nat.pos_of_ne_zero (by simp)
  have hall : 2 ^ (W.n - 1) - 1 < 256 := by omega
  have hU8 : U < 256 := by omega
  have hUF := UF.start h9 hU
  refine CQ.of (lv := [.ref 36, .int (nI last), .int (Int32.ofInt c), zu, zu, zu, zu]) k_Mo_atHouse.1 rfl (by decide) rfl rfl (Nat.le_of_ble_eq_true rfl) ?_
  refine x_aload_n (pc := 0) d_Mo_atHouse_0 rfl ?_
  refine x_iload_n (pc := 1) d_Mo_atHouse_1 rfl ?_
  refine y_callV (pc := 2) (c_Mo_whole _ _ hW hD.1 c U wr L wi hU8 hD.2.1.1 hD.2.2.1 (by omega) hw9 (by omega) hD.2.2.2.2.1 hD.2.2.2.1) k_Mo_whole d_Mo_atHouse_2 m_Mo_118 (by omega) rfl rfl rfl rfl p_Mo_whole (K := fun v2 V2 A2 hq => ?_)
  obtain ⟨rfl, g1, ⟨g2, g3, g4, g5⟩, g6⟩ := hq
  refine y_ist3 (pc := 5) d_Mo_atHouse_5 ?_
  have hD1 : DSt W U rn wr (L ++ [(c, U, wr)]) wi V2 A2 := ⟨g1.R hD.1, ⟨g3, g4.trans hD.2.1.2⟩, by rw [g2, g5]; exact hD.2.2.1, g6, fun y hy => by
    rcases List.mem_append.mp hy with z | z
    · exact hD.2.2.2.2.1 y z
    · rw [List.mem_singleton.mp z]; show -16000 ≤ c ∧ c ≤ 16000; omega, hD.2.2.2.2.2⟩
  have hlt0 : ltot W (c, U, wr) = sc (lsum W (zos W) [(c, U, wr)]) := by
    show _ = sc (sa (sm (some (c, 1)) (zos W (zdf (2 ^ (W.n - 1) - 1) U))) none)
    rw [sa_nr, sc_sm]; unfold zos; rw [sc_se]; rfl
  refine x_aload_n (pc := 6) d_Mo_atHouse_6 rfl ?_
  refine x_get (pc := 7) (j := 25) d_Mo_atHouse_7 f_Mo_122 rfl rfl (Nat.le_of_ble_eq_true rfl) rfl rfl rfl ?_
  refine x_aload_n (pc := 10) d_Mo_atHouse_10 rfl ?_
  refine x_get (pc := 11) (j := 6) d_Mo_atHouse_11 f_Mo_30 rfl rfl (Nat.le_of_ble_eq_true rfl) rfl rfl rfl ?_
  rw [hD1.2.1.2, hD1.1.mo]
  refine x_icmp_ne (pc := 14) (tgt := 19) d_Mo_atHouse_14 (by decide) (fun h14 => ?_) (fun h14 => ?_)
  · obtain ⟨r, rfl⟩ : ∃ r', r = r' + 1 := ⟨r - 1, by have z : ¬ rn = W.mo := fun z => h14 (by rw [z]); omega⟩
    have hloop : ∀ i, i ≤ W.n - 1 → last ≤ i → ∀ (V1 A1 : zV) (q6 : Value), q6.category = 1 → DF V A V1 A1 → DSt W U rn wr (L ++ ((c, U, wr) :: zfl (zfH W r c U wr last) i)) (fun x y => omin (wi x y) (sc (sm (some (c, 1)) (zMS.s (fun i => (tH W r (zdf (2 ^ (W.n - 1) - 1) U) last x y i).2) i)))) V1 A1 → X Y_Mo_atHouse (zrm (2 * m + 2)) (0, fun _ => 0) (zFq (2 * m + 2) (fun ρ V' A' => ρ = zEf (sc (lsum W (zos W) (zHL W (r + 1) c U wr last))) ∧ DF V A V' A' ∧ DSt W U rn wr (L ++ zHL W (r + 1) c U wr last) (fun x y => omin (wi x y) (sc (sm (some (c, 1)) (mkH W x y (r + 1) (zdf (2 ^ (W.n - 1) - 1) U) last).2))) V' A')) 30 [.ref 36, .int (nI last), .int (Int32.ofInt c), .int (zEf (sc (lsum W (zos W) ((c, U, wr) :: zfl (zfH W r c U wr last) i)))), .int (nI wr.length), .int (nI (i + 1)), q6] [] (cells V1 A1) 0 0 := by
      refine z_down (fun hli V1 A1 q6 hq6 hF1 hD1 => ?_) (fun i hi ih hli V1 A1 q6 hq6 hF1 hD1 => ?_)
      · refine x_iload (pc := 30) d_Mo_atHouse_30 rfl ?_
        refine x_aload_n (pc := 32) d_Mo_atHouse_32 rfl ?_
        refine x_get (pc := 33) (j := 1) d_Mo_atHouse_33 f_Mo_13 rfl rfl (Nat.le_of_ble_eq_true rfl) rfl rfl rfl ?_
        rw [hD1.1.n]
        refine x_icmp_ge (pc := 36) (tgt := 126) d_Mo_atHouse_36 (by decide) (fun h36 => ?_) (fun h => absurd (nI_le (by omega) (by omega)) h)
        refine x_iload_n (pc := 126) d_Mo_atHouse_126 rfl ?_
        refine y_iret (pc := 127) d_Mo_atHouse_127 rfl ?_
        refine ⟨rfl, hF1, hD1.wi (fun x y => ?_)⟩
        rw [mkH_2]
      · have hFi := hUF.2.2 i hi
        rw [Nat.zero_testBit, Bool.or_false] at hFi
        have hzl : zfl (zfH W r c U wr last) (i + 1) = zfl (zfH W r c U wr last) i ++ zfH W r c U wr last i := rfl
        have hzs : ∀ x y, zMS.s (fun i => (tH W r (zdf (2 ^ (W.n - 1) - 1) U) last x y i).2) (i + 1) = sa (zMS.s (fun i => (tH W r (zdf (2 ^ (W.n - 1) - 1) U) last x y i).2) i) (tH W r (zdf (2 ^ (W.n - 1) - 1) U) last x y i).2 := fun x y => rfl
        have hR2 : WR W (zv (zv V1 36 23 0) 36 24 0) A1 := hD1.1.same (fun j z1 z2 => by rw [zv_eq, if_neg (by omega), zv_eq, if_neg (by omega)]) (fun _ _ _ => rfl)
        have hF2 : DF V A (zv (zv V1 36 23 0) 36 24 0) A1 := (hF1.V (by omega) _).V (by omega) _
        have hD2 : DSt W U rn wr (L ++ ((c, U, wr) :: zfl (zfH W r c U wr last) i)) (fun x y => omin (wi x y) (sc (sm (some (c, 1)) (zMS.s (fun i => (tH W r (zdf (2 ^ (W.n - 1) - 1) U) last x y i).2) i)))) (zv (zv V1 36 23 0) 36 24 0) A1 := ⟨hR2, hD1.2⟩
        have hmay := may_iff (W := W) (U := U) (H := 0) (a := 0) (i := i) (Nat.zero_testBit _)
        rw [zLda_0] at hmay
        refine x_iload (pc := 30) d_Mo_atHouse_30 rfl ?_
        refine x_aload_n (pc := 32) d_Mo_atHouse_32 rfl ?_
        refine x_get (pc := 33) (j := 1) d_Mo_atHouse_33 f_Mo_13 rfl rfl (Nat.le_of_ble_eq_true rfl) rfl rfl rfl ?_
        rw [hD1.1.n]
        refine x_icmp_ge (pc := 36) (tgt := 126) d_Mo_atHouse_36 (by decide) (fun h => absurd h (nI_ge (by omega) (by omega))) (fun h36 => ?_)
        refine x_aload_n (pc := 39) d_Mo_atHouse_39 rfl ?_
        refine x_iconst (pc := 40) (v := 0) d_Mo_atHouse_40 (by decide) ?_
        refine y_put (pc := 41) (j := 23) d_Mo_atHouse_41 f_Mo_98 rfl rfl (Nat.le_of_ble_eq_true rfl) rfl (Nat.le_of_ble_eq_true rfl) rfl rfl (fun _ => rfl) ?_
        refine x_aload_n (pc := 44) d_Mo_atHouse_44 rfl ?_
        refine x_iconst (pc := 45) (v := 0) d_Mo_atHouse_45 (by decide) ?_
        refine y_put (pc := 46) (j := 24) d_Mo_atHouse_46 f_Mo_95 rfl rfl (Nat.le_of_ble_eq_true rfl) rfl (Nat.le_of_ble_eq_true rfl) rfl rfl (fun _ => rfl) ?_
        refine x_aload_n (pc := 49) d_Mo_atHouse_49 rfl ?_
        refine x_iconst (pc := 50) (v := 0) d_Mo_atHouse_50 (by decide) ?_
        refine x_iload (pc := 51) d_Mo_atHouse_51 rfl ?_
        refine y_bV (pc := 53) (c_Mo_mayCome _ _ hW hR2 0 (i + 1) U 0 0 hW.h1 (by omega) (by omega) hU8 (by omega) (by omega) hD1.2.1.1 rfl rfl) k_Mo_mayCome d_Mo_atHouse_53 m_Mo_125 (by omega) rfl rfl rfl rfl p_Mo_mayCome (K1 := fun q53 => ?_) (K0 := fun q53 => ?_)
        · obtain ⟨y1, y2, y3⟩ := hmay.mp q53
          obtain ⟨x0, hx0⟩ : ∃ x0, W.ar 0 (i + 1) = some x0 := by
            cases hz : W.ar 0 (i + 1) with
            | none => exact absurd hz y1
            | some x0 => exact ⟨x0, rfl⟩
          have hz1 := zc_step (n := W.n - 1) y2 hi
          have hfi : zfH W r c U wr last i = zNL W (fun c U wr => zHL W r c U wr (i + 1)) (W.n - 1) (c + x0) (U ||| 2 ^ i) (2 ^ i) (zsep wr ++ [i + 1]) (i + 1) := by
            unfold zfH
            rw [if_pos (by rw [decide_eq_true hli, y3, y2]; rfl), hx0]
          have hti : ∀ x y, tH W r (zdf (2 ^ (W.n - 1) - 1) U) last x y i = (zD zMS).m (mkA W x y 0 (i + 1)) (mkE W x y r (zdf (2 ^ (W.n - 1) - 1) U) (2 ^ i) (i + 1) (i + 1)) := fun x y => by
            unfold tH
            rw [if_pos ⟨hli, by rw [y3]; rw [y2] at hFi; cases hq : (zdf (2 ^ (W.n - 1) - 1) U).testBit i with | true => rfl | false => rw [hq] at hFi; exact absurd hFi (by simp)⟩]
          obtain ⟨m', rfl⟩ : ∃ m', m = m' + 1 := ⟨m - 1, by omega⟩
          have hcall : ∀ Vc Ac, DF V A Vc Ac → Vc 36 23 = 0 → Vc 36 24 = 0 → DSt W U (rn + 1) (zsep wr) (L ++ ((c, U, wr) :: zfl (zfH W r c U wr last) i)) (fun x y => omin (wi x y) (sc (sm (some (c, 1)) (zMS.s (fun i => (tH W r (zdf (2 ^ (W.n - 1) - 1) U) last x y i).2) i)))) Vc Ac → X Y_Mo_atHouse (zrm (2 * (m' + 1) + 2)) (0, fun _ => 0) (zFq (2 * (m' + 1) + 2) (fun ρ V' A' => ρ = zEf (sc (lsum W (zos W) (zHL W (r + 1) c U wr last))) ∧ DF V A V' A' ∧ DSt W U rn wr (L ++ zHL W (r + 1) c U wr last) (fun x y => omin (wi x y) (sc (sm (some (c, 1)) (mkH W x y (r + 1) (zdf (2 ^ (W.n - 1) - 1) U) last).2))) V' A')) 79 [.ref 36, .int (nI last), .int (Int32.ofInt c), .int (zEf (sc (lsum W (zos W) ((c, U, wr) :: zfl (zfH W r c U wr last) i)))), .int (nI wr.length), .int (nI (i + 1)), q6] [] (cells Vc Ac) 0 0 := by
            intro Vc Ac hFc mc1 mc2 hDc
            have hsl : (zsep wr).length ≤ wr.length + 1 := by
              cases wr with
              | nil => exact Nat.zero_le _
              | cons y w => show (y :: w ++ [0]).length ≤ _; rw [List.length_append]; exact Nat.le_refl _
            have hs9 : ∀ x, x ∈ zsep wr → x < 9 := by
              intro x hx
              cases wr with
              | nil => exact absurd hx (by simp [zsep])
              | cons y w =>
                have hx : x ∈ (y :: w) ++ [0] := hx
                rcases List.mem_append.mp hx with z | z
                · exact hw9 x z
                · rw [List.mem_singleton.mp z]; omega
            have hNC := hN m' rfl r c U (zdf (2 ^ (W.n - 1) - 1) U) 0 (zsep wr) 0 i (i + 1) (rn + 1) (W.n - 1) x0 _ _ Vc Ac hi hW.h1 (by omega) y2 y3 (by omega) hx0 hUF (by omega) (zc_le _ _) (by omega) hcB (by omega) hs9 mc1 (by rw [zLda_0]; exact mc2) hDc
            rw [Nat.zero_or] at hNC
            refine x_aload_n (pc := 79) d_Mo_atHouse_79 rfl ?_
            refine x_iconst (pc := 80) (v := 0) d_Mo_atHouse_80 (by decide) ?_
            refine x_iload (pc := 81) d_Mo_atHouse_81 rfl ?_
            refine x_iload (pc := 83) d_Mo_atHouse_83 rfl ?_
            refine x_iload_n (pc := 85) d_Mo_atHouse_85 rfl ?_
            refine y_callS (pc := 86) hNC k_Mo_atNode d_Mo_atHouse_86 m_Mo_132 (by omega) rfl p_Mo_atNode (K := fun v2 V2 A2 hq => ?_)
            obtain ⟨rfl, g1, -, g2⟩ := hq
            refine y_ist6 (pc := 89) d_Mo_atHouse_89 ?_
            refine x_aload_n (pc := 91) d_Mo_atHouse_91 rfl ?_
            refine x_dup (pc := 92) d_Mo_atHouse_92 rfl ?_
            refine x_get (pc := 93) (j := 25) d_Mo_atHouse_93 f_Mo_122 rfl rfl (Nat.le_of_ble_eq_true rfl) rfl rfl rfl ?_
            rw [g2.2.1.2]
            refine x_iconst (pc := 96) (v := 1) d_Mo_atHouse_96 (by decide) ?_
            refine x_isub (pc := 97) d_Mo_atHouse_97 ?_
            rw [show nI (rn + 1) - 1 = nI rn from nI_pred rn]
            refine y_put (pc := 98) (j := 25) d_Mo_atHouse_98 f_Mo_122 rfl rfl (Nat.le_of_ble_eq_true rfl) rfl (Nat.le_of_ble_eq_true rfl) rfl rfl (fun _ => rfl) ?_
            refine x_aload_n (pc := 101) d_Mo_atHouse_101 rfl ?_
            refine x_iload (pc := 102) d_Mo_atHouse_102 rfl ?_
            refine y_put (pc := 104) (j := 21) d_Mo_atHouse_104 f_Mo_115 rfl rfl (Nat.le_of_ble_eq_true rfl) rfl (Nat.le_of_ble_eq_true rfl) rfl rfl (fun _ => rfl) ?_
            obtain ⟨u, hu⟩ := sep_word wr
            have hD3 : DSt W U rn wr ((L ++ ((c, U, wr) :: zfl (zfH W r c U wr last) i)) ++ zNL W (fun c U wr => zHL W r c U wr (i + 1)) (W.n - 1) (c + x0) (U ||| 2 ^ i) (2 ^ i) (zsep wr ++ [i + 1]) (i + 1)) (fun x y => omin (omin (wi x y) (sc (sm (some (c, 1)) (zMS.s (fun i => (tH W r (zdf (2 ^ (W.n - 1) - 1) U) last x y i).2) i)))) (sc (sm (some (c, 1)) ((zD zMS).m (mkA W x y 0 (i + 1)) (mkE W x y r (zdf (2 ^ (W.n - 1) - 1) U) (2 ^ i) (i + 1) (i + 1))).2))) (zv (zv V2 36 25 (nI rn)) 36 21 (nI wr.length)) A2 := by
              obtain ⟨d1, d2, d3, d4⟩ := g2
              rw [hu] at d3
              exact ⟨d1.same (fun j z1 z2 => by rw [zv_eq, if_neg (by omega), zv_eq, if_neg (by omega)]) (fun _ _ _ => rfl), ⟨d2.1, rfl⟩, zwd_take d3, d4⟩
            have hF3 : DF V A (zv (zv V2 36 25 (nI rn)) 36 21 (nI wr.length)) A2 := ((DF_tr hFc g1).V (by omega) _).V (by omega) _
            rw [← hfi] at hD3 ⊢
            have hD4 := (hD3.ls (L' := L ++ ((c, U, wr) :: zfl (zfH W r c U wr last) (i + 1))) (by rw [hzl, List.append_assoc]; rfl)).wi (wi' := fun x y => omin (wi x y) (sc (sm (some (c, 1)) (zMS.s (fun i => (tH W r (zdf (2 ^ (W.n - 1) - 1) U) last x y i).2) (i + 1))))) (fun x y => by rw [hzs, hti, om_add])
            have hls : lsum W (zos W) ((c, U, wr) :: zfl (zfH W r c U wr last) (i + 1)) = sa (lsum W (zos W) ((c, U, wr) :: zfl (zfH W r c U wr last) i)) (lsum W (zos W) (zfH W r c U wr last i)) := by
              rw [hzl, ← List.cons_append, lsum_app]
            have hB1 := lxf_B hW (L := (c, U, wr) :: zfl (zfH W r c U wr last) i) (fun y hy => hD3.2.2.2.2.1 y (List.mem_append_left _ (List.mem_append_right _ hy))) (zos W) (zos_B hW)
            have hB2 := lxf_B hW (L := zfH W r c U wr last i) (fun y hy => hD3.2.2.2.2.1 y (List.mem_append_right _ hy)) (zos W) (zos_B hW)
            refine x_iload (pc := 107) d_Mo_atHouse_107 rfl ?_
            refine x_iload_n (pc := 109) d_Mo_atHouse_109 rfl ?_
            refine x_icmp_ge (pc := 110) (tgt := 118) d_Mo_atHouse_110 (by decide) (fun h110 => ?_) (fun h110 => ?_)
            · refine x_iload_n (pc := 118) d_Mo_atHouse_118 rfl ?_
              refine y_ist3 (pc := 119) d_Mo_atHouse_119 ?_
              refine y_inc5 (pc := 120) (v := 1) d_Mo_atHouse_120 (by decide) ?_
              refine x_goto (pc := 123) (tgt := 30) d_Mo_atHouse_123 (by decide) ?_
              rw [show nI (i + 1) + 1 = nI (i + 1 + 1) from (nI_succ (i + 1)).symm]
              rw [zEf_mt hB1 hB2 h110, ← sc_sa, ← hls]
              exact ih (by omega) _ _ _ rfl hF3 hD4
            · refine x_iload (pc := 113) d_Mo_atHouse_113 rfl ?_
              refine x_goto (pc := 115) (tgt := 119) d_Mo_atHouse_115 (by decide) ?_
              refine y_ist3 (pc := 119) d_Mo_atHouse_119 ?_
              refine y_inc5 (pc := 120) (v := 1) d_Mo_atHouse_120 (by decide) ?_
              refine x_goto (pc := 123) (tgt := 30) d_Mo_atHouse_123 (by decide) ?_
              rw [show nI (i + 1) + 1 = nI (i + 1 + 1) from (nI_succ (i + 1)).symm]
              rw [zEf_mf hB1 hB2 h110, ← sc_sa, ← hls]
              exact ih (by omega) _ _ _ rfl hF3 hD4
          by_cases hwr : wr = []
          · have hwl0 : nI wr.length = 0 := by rw [hwr]; rfl
            refine x_if_eq (pc := 56) (tgt := 120) d_Mo_atHouse_56 (by decide) (fun h => absurd h (by decide)) (fun _ => ?_)
            refine x_iload (pc := 59) d_Mo_atHouse_59 rfl ?_
            refine x_if_le (pc := 61) (tgt := 69) d_Mo_atHouse_61 (by decide) (fun h61 => ?_) (fun h => absurd (by rw [hwl0]; decide) h)
            refine x_aload_n (pc := 69) d_Mo_atHouse_69 rfl ?_
            refine x_dup (pc := 70) d_Mo_atHouse_70 rfl ?_
            refine x_get (pc := 71) (j := 25) d_Mo_atHouse_71 f_Mo_122 rfl rfl (Nat.le_of_ble_eq_true rfl) rfl rfl rfl ?_
            refine x_iconst (pc := 74) (v := 1) d_Mo_atHouse_74 (by decide) ?_
            refine x_iadd (pc := 75) d_Mo_atHouse_75 ?_
            refine y_put (pc := 76) (j := 25) d_Mo_atHouse_76 f_Mo_122 rfl rfl (Nat.le_of_ble_eq_true rfl) rfl (Nat.le_of_ble_eq_true rfl) rfl rfl (fun _ => rfl) ?_
            rw [show (zv (zv V1 36 23 0) 36 24 0) 36 25 + 1 = nI (rn + 1) from (by show V1 36 25 + 1 = _; rw [hD1.2.1.2, nI_succ])]
            have hsep : zsep wr = wr := by rw [hwr]; rfl
            refine hcall _ _ (hF2.V (by omega) _) rfl rfl ?_
            rw [hsep]
            exact ⟨hR2.same (fun j z1 z2 => by rw [zv_eq, if_neg (by omega)]) (fun _ _ _ => rfl), ⟨hD2.2.1.1, rfl⟩, hD2.2.2⟩
          · have hwp : 0 < wr.length := List.length_pos_iff.mpr hwr
            have hsep : zsep wr = wr ++ [0] := by
              cases wr with
              | nil => exact absurd rfl hwr
              | cons y w => rfl
            refine x_if_eq (pc := 56) (tgt := 120) d_Mo_atHouse_56 (by decide) (fun h => absurd h (by decide)) (fun _ => ?_)
            refine x_iload (pc := 59) d_Mo_atHouse_59 rfl ?_
            refine x_if_le (pc := 61) (tgt := 69) d_Mo_atHouse_61 (by decide) (fun h => absurd h (nI_nle hwp (by omega))) (fun h61 => ?_)
            refine x_aload_n (pc := 64) d_Mo_atHouse_64 rfl ?_
            refine x_iconst (pc := 65) (v := 0) d_Mo_atHouse_65 (by decide) ?_
            refine y_fU (pc := 66) (c_Mo_write _ _ 0 wr.length (by omega) hD2.2.2.1.1) k_Mo_write d_Mo_atHouse_66 m_Mo_128 (by omega) rfl rfl rfl rfl p_Mo_write (K := ?_)
            refine x_aload_n (pc := 69) d_Mo_atHouse_69 rfl ?_
            refine x_dup (pc := 70) d_Mo_atHouse_70 rfl ?_
            refine x_get (pc := 71) (j := 25) d_Mo_atHouse_71 f_Mo_122 rfl rfl (Nat.le_of_ble_eq_true rfl) rfl rfl rfl ?_
            refine x_iconst (pc := 74) (v := 1) d_Mo_atHouse_74 (by decide) ?_
            refine x_iadd (pc := 75) d_Mo_atHouse_75 ?_
            refine y_put (pc := 76) (j := 25) d_Mo_atHouse_76 f_Mo_122 rfl rfl (Nat.le_of_ble_eq_true rfl) rfl (Nat.le_of_ble_eq_true rfl) rfl rfl (fun _ => rfl) ?_
            rw [show (zv (zv (zv V1 36 23 0) 36 24 0) 36 21 (nI (wr.length + 1))) 36 25 + 1 = nI (rn + 1) from (by show V1 36 25 + 1 = _; rw [hD1.2.1.2, nI_succ])]
            refine hcall _ _ (((hF2.V (by omega) _).A (by omega) _).V (by omega) _) rfl rfl ?_
            rw [hsep]
            exact ⟨hR2.same (fun j z1 z2 => by rw [zv_eq, if_neg (by omega), zv_eq, if_neg (by omega)]) (fun k z1 z2 => by rw [za_eq, if_neg (by omega)]), ⟨hD2.2.1.1, rfl⟩, zwd_snoc hD2.2.2.1 0, hD2.2.2.2⟩
        · have hfi : zfH W r c U wr last i = [] := by
            unfold zfH
            by_cases hc2 : (decide (last ≤ i) && (zfo W 0 i && !U.testBit i)) = true
            · rw [if_pos hc2]
              have z := Bool.and_eq_true _ _ ▸ (Bool.and_eq_true _ _ ▸ hc2 : _ ∧ _).2
              cases hz : W.ar 0 (i + 1) with
              | none => rfl
              | some x0 => exact absurd (hmay.mpr ⟨by rw [hz]; simp, by simpa using z.2, z.1⟩) q53
            · rw [if_neg hc2]
          have hti : ∀ x y, (tH W r (zdf (2 ^ (W.n - 1) - 1) U) last x y i).2 = none := fun x y => by
            unfold tH
            by_cases hc2 : last ≤ i ∧ (zfo W 0 i && (zdf (2 ^ (W.n - 1) - 1) U).testBit i) = true
            · rw [if_pos hc2]
              have z : zfo W 0 i = true ∧ (zdf (2 ^ (W.n - 1) - 1) U).testBit i = true := Bool.and_eq_true _ _ ▸ hc2.2
              cases hz : W.ar 0 (i + 1) with
              | none =>
                have e : mkA W x y 0 (i + 1) = (none, none) := by unfold mkA zar; rw [hz]; show (none, if _ then none else none) = _; rw [ite_self]
                rw [e, zD_non]
              | some x0 => exact absurd (hmay.mpr ⟨by rw [hz]; simp, by rw [hFi, z.2]; rfl, z.1⟩) q53
            · rw [if_neg hc2]; rfl
          have hzl2 : zfl (zfH W r c U wr last) (i + 1) = zfl (zfH W r c U wr last) i := by rw [hzl, hfi, List.append_nil]
          rw [hzl2] at ih
          refine x_if_eq (pc := 56) (tgt := 120) d_Mo_atHouse_56 (by decide) (fun _ => ?_) (fun h => absurd h (by decide))
          refine y_inc5 (pc := 120) (v := 1) d_Mo_atHouse_120 (by decide) ?_
          refine x_goto (pc := 123) (tgt := 30) d_Mo_atHouse_123 (by decide) ?_
          rw [show nI (i + 1) + 1 = nI (i + 1 + 1) from (nI_succ (i + 1)).symm]
          exact ih (by omega) _ _ _ hq6 hF2 (hD2.wi (fun x y => by rw [hzs, hti, sa_nr]))
    refine x_aload_n (pc := 19) d_Mo_atHouse_19 rfl ?_
    refine x_get (pc := 20) (j := 21) d_Mo_atHouse_20 f_Mo_115 rfl rfl (Nat.le_of_ble_eq_true rfl) rfl rfl rfl ?_
    rw [hD1.2.2.1.1]
    refine y_ist4 (pc := 23) d_Mo_atHouse_23 ?_
    refine x_iload_n (pc := 25) d_Mo_atHouse_25 rfl ?_
    refine x_iconst (pc := 26) (v := 1) d_Mo_atHouse_26 (by decide) ?_
    refine x_iadd (pc := 27) d_Mo_atHouse_27 ?_
    rw [show nI last + 1 = nI (last + 1) from (nI_succ last).symm]
    refine y_ist5 (pc := 28) d_Mo_atHouse_28 ?_
    have hz0 : zfl (zfH W r c U wr last) last = [] := fl_nil last (fun i hi => by unfold zfH; rw [if_neg (by rw [decide_eq_false (by omega)]; simp)])
    have hz1 : ∀ x y, zMS.s (fun i => (tH W r (zdf (2 ^ (W.n - 1) - 1) U) last x y i).2) last = none := fun x y => zs_zero zMS_SR (fun i hi => by unfold tH; rw [if_neg (fun z => by omega)]; rfl)
    have hfin := hloop last hlast (Nat.le_refl _) V2 A2 zu rfl g1 (by rw [hz0]; exact hD1.wi (fun x y => by rw [hz1, om_non]))
    rw [hz0] at hfin
    rw [hlt0]
    exact hfin
  · refine x_iload_n (pc := 17) d_Mo_atHouse_17 rfl ?_
    refine y_iret (pc := 18) d_Mo_atHouse_18 rfl ?_
    have hr0 : r = 0 := by
      have z := (nI_eq (by omega) (by omega)).mp h14
      omega
    subst hr0
    refine ⟨congrArg zEf hlt0, g1, hD1.wi (fun x y => ?_)⟩
    show wi x y = omin (wi x y) (sc (sm (some (c, 1)) none))
    rw [om_non]
