/-! the first plan, as the class writes it -/
def ovr (W : zW) (r F S a i : Nat) : Option (Int × Nat) := (if (zfo W S i && F.testBit i) = true then sm (zar W a (i + 1)) (wE W r F (S ||| 2 ^ i) (i + 1)) else none)
theorem ovr_B {W : zW} (hW : zWok W) {r : Nat} (hr : r ≤ 8) (F S a i : Nat) : bB 101000 (ovr W r F S a i) := bB_i (fun _ => bB_m (zar_B hW _ _) (wE_B hW hr _ _ _)) (fun _ => bB_n _)
theorem ovr_at {W : zW} {r F S a i : Nat} {d : Int} (h : sc (ovr W r F S a i) = some d) : zfo W S i = true ∧ F.testBit i = true ∧ sc (sm (zar W a (i + 1)) (wE W r F (S ||| 2 ^ i) (i + 1))) = some d ∧ ∃ x, W.ar a (i + 1) = some x := by
  unfold ovr at h
  by_cases q : (zfo W S i && F.testBit i) = true
  · rw [if_pos q] at h
    have z : zfo W S i = true ∧ F.testBit i = true := Bool.and_eq_true _ _ ▸ q
    refine ⟨z.1, z.2, h, ?_⟩
    rw [sc_sm] at h
    obtain ⟨u, v, e1, -, -⟩ := oad_at h
    unfold zar at e1
    rw [sc_se] at e1
    exact ⟨u, e1⟩
  · rw [if_neg q] at h; exact absurd h (by simp [sc])
theorem ovr_ne {W : zW} {r F S a j : Nat} {d : Int} (h : ¬ sc (ovr W r F S a j) = some d) (h1 : zfo W S j = true) (h2 : F.testBit j = true) : ¬ sc (sm (zar W a (j + 1)) (wE W r F (S ||| 2 ^ j) (j + 1))) = some d := by
  unfold ovr at h
  rw [if_pos (by rw [h1, h2]; rfl)] at h
  exact h
theorem FN_at {W : zW} {r F H a : Nat} {d : Int} (h : sc (wE W r F H a) = some d) (ho : ¬ sc (sm (zbs W a) (wP W r (zdf F H))) = some d) : ∃ i, i < W.n - 1 ∧ sc (ovr W r F H a i) = some d := by
  rw [wE_eq, sc_sa] at h
  rcases omin_at h with z | z
  · exact absurd z ho
  · exact sle_at z
theorem wO_ovr (W : zW) (r F i : Nat) (h1 : zfo W 0 i = true) (h2 : F.testBit i = true) : ovr W r F 0 0 i = wO W r F i := by
  unfold ovr wO
  rw [if_pos (by rw [h1, h2]; rfl), Nat.zero_or]
theorem ofI_sub (d x : Int) : Int32.ofInt d - Int32.ofInt x = Int32.ofInt (d - x) := (Int32.ofInt_sub d x).symm
theorem zEc_is {b : Int} {o : Option Int} {d : Int} (hb : b < 1000000000) (h : oB b o) (hd : -b ≤ d ∧ d ≤ b) : zEc o = Int32.ofInt d ↔ o = some d := ⟨fun e => zEc_inj hb h (oB_s hd.1 hd.2) e, fun e => by rw [e]; rfl⟩
set_option maxRecDepth 100000 in
set_option maxHeartbeats 4000000 in
theorem c_Fir_write (V A : zV) (v : Int32) (m : Nat) (hm : m < 18) (hs : V 19 4 = nI m) : CU Y_Fir_write 0 [.ref 19, .int v] V A (fun V' A' => V' = zv V 19 4 (nI (m + 1)) ∧ A' = za A 20 (upd (A 20) m v)) := by
  have cm : (nI m).toNatClampNeg = m := nI_clamp (by omega)
  refine CU.of (lv := [.ref 19, .int v]) k_Fir_write.1 rfl (by decide) rfl rfl (Nat.le_of_ble_eq_true rfl) ?_
  refine x_aload_n (pc := 0) d_Fir_write_0 rfl ?_
  refine x_get (pc := 1) (j := 4) d_Fir_write_1 f_Fir_15 rfl rfl (Nat.le_of_ble_eq_true rfl) rfl rfl rfl ?_
  rw [hs]
  refine x_aload_n (pc := 4) d_Fir_write_4 rfl ?_
  refine x_get (pc := 5) (j := 3) d_Fir_write_5 f_Fir_9 rfl rfl (Nat.le_of_ble_eq_true rfl) rfl rfl rfl ?_
  refine x_alen (pc := 8) d_Fir_write_8 rfl rfl ?_
  refine x_icmp_ge (pc := 9) (tgt := 32) d_Fir_write_9 (by decide) (fun h => absurd h (by show ¬ nI 18 ≤ nI m; exact nI_ge (by omega) (by omega))) (fun h9 => ?_)
  refine x_aload_n (pc := 12) d_Fir_write_12 rfl ?_
  refine x_get (pc := 13) (j := 3) d_Fir_write_13 f_Fir_9 rfl rfl (Nat.le_of_ble_eq_true rfl) rfl rfl rfl ?_
  refine x_aload_n (pc := 16) d_Fir_write_16 rfl ?_
  refine x_get (pc := 17) (j := 4) d_Fir_write_17 f_Fir_15 rfl rfl (Nat.le_of_ble_eq_true rfl) rfl rfl rfl ?_
  rw [show V 19 4 = nI m from hs]
  refine x_iload_n (pc := 20) d_Fir_write_20 rfl ?_
  refine y_iast (pc := 21) d_Fir_write_21 rfl (fun _ => rfl) (vp_in_nI (by omega) (by decide)) ?_
  refine x_aload_n (pc := 22) d_Fir_write_22 rfl ?_
  refine x_dup (pc := 23) d_Fir_write_23 rfl ?_
  refine x_get (pc := 24) (j := 4) d_Fir_write_24 f_Fir_15 rfl rfl (Nat.le_of_ble_eq_true rfl) rfl rfl rfl ?_
  rw [cm, hs]
  refine x_iconst (pc := 27) (v := 1) d_Fir_write_27 (by decide) ?_
  refine x_iadd (pc := 28) d_Fir_write_28 ?_
  refine y_put (pc := 29) (j := 4) d_Fir_write_29 f_Fir_15 rfl rfl (Nat.le_of_ble_eq_true rfl) rfl (Nat.le_of_ble_eq_true rfl) rfl rfl (fun _ => rfl) ?_
  refine y_vret (pc := 32) d_Fir_write_32 rfl ?_
  rw [show nI m + 1 = nI (m + 1) from (nI_succ m).symm]
  exact ⟨rfl, rfl⟩
set_option maxRecDepth 100000 in
set_option maxHeartbeats 4000000 in
theorem c_Fir_followerDue {W : zW} (V A : zV) (hW : zWok W) (hC : WC W V A) (hsh : shOK W (zta A)) (F r : Nat) (hF : F < 2 ^ (W.n - 1)) (hr : r + 1 ≤ W.mo) (hT : TF F r V) (htb : tab W F r (A 17)) (S a : Nat) (d : Int) (hS : S &&& F = S) (ha : a < 9) (hd : -101000 ≤ d ∧ d ≤ 101000) (hdue : V 19 6 = Int32.ofInt d) : CQ Y_Fir_followerDue 2 [.ref 19, .int (nI S), .int (nI a)] V A (fun ρ V' A' => ((∃ i, i < W.n - 1 ∧ ρ = nI (i + 1) ∧ sc (ovr W r F S a i) = some d ∧ ∀ j, j < i → ¬ sc (ovr W r F S a j) = some d) ∨ (ρ = 0 ∧ ∀ i, i < W.n - 1 → ¬ sc (ovr W r F S a i) = some d)) ∧ V' = V ∧ A' = A) := by
  have h9 := hW.h9
  have hp := pw_le h9
  have hm8 := hW.m8
  have hS2 : S < 2 ^ (W.n - 1) := Nat.lt_of_le_of_lt (sub_le hS) hF
  have hL : ∀ k, k ≤ W.n - 1 → (∀ j, j < k → ¬ sc (ovr W r F S a j) = some d) → X Y_Fir_followerDue (zrm 2) (0, fun _ => 0) (zFq 2 (fun ρ V' A' => ((∃ i, i < W.n - 1 ∧ ρ = nI (i + 1) ∧ sc (ovr W r F S a i) = some d ∧ ∀ j, j < i → ¬ sc (ovr W r F S a j) = some d) ∨ (ρ = 0 ∧ ∀ i, i < W.n - 1 → ¬ sc (ovr W r F S a i) = some d)) ∧ V' = V ∧ A' = A)) 2 [.ref 19, .int (nI S), .int (nI a), .int (nI (k + 1))] [] (cells V A) 0 0 := by
    refine z_down (fun hn => ?_) (fun k hk ih hn => ?_)
    · refine x_iload_n (pc := 2) d_Fir_followerDue_2 rfl ?_
      refine x_aload_n (pc := 3) d_Fir_followerDue_3 rfl ?_
      refine x_get (pc := 4) (j := 0) d_Fir_followerDue_4 f_Fir_28 rfl rfl (Nat.le_of_ble_eq_true rfl) rfl rfl rfl ?_
      refine x_get (pc := 7) (j := 4) d_Fir_followerDue_7 f_Fir_90 rfl rfl (Nat.le_of_ble_eq_true rfl) rfl rfl rfl ?_
      rw [hC.n]
      refine x_icmp_ge (pc := 10) (tgt := 38) d_Fir_followerDue_10 (by decide) (fun h10 => ?_) (fun h => absurd (nI_le (by omega) (by omega)) h)
      refine x_iconst (pc := 38) (v := 0) d_Fir_followerDue_38 (by decide) ?_
      refine y_iret (pc := 39) d_Fir_followerDue_39 rfl ?_
      exact ⟨Or.inr ⟨rfl, hn⟩, rfl, rfl⟩
    · refine x_iload_n (pc := 2) d_Fir_followerDue_2 rfl ?_
      refine x_aload_n (pc := 3) d_Fir_followerDue_3 rfl ?_
      refine x_get (pc := 4) (j := 0) d_Fir_followerDue_4 f_Fir_28 rfl rfl (Nat.le_of_ble_eq_true rfl) rfl rfl rfl ?_
      refine x_get (pc := 7) (j := 4) d_Fir_followerDue_7 f_Fir_90 rfl rfl (Nat.le_of_ble_eq_true rfl) rfl rfl rfl ?_
      rw [hC.n]
      refine x_icmp_ge (pc := 10) (tgt := 38) d_Fir_followerDue_10 (by decide) (fun h => absurd h (nI_ge (by omega) (by omega))) (fun h10 => ?_)
      refine x_aload_n (pc := 13) d_Fir_followerDue_13 rfl ?_
      refine x_get (pc := 14) (j := 2) d_Fir_followerDue_14 f_Fir_36 rfl rfl (Nat.le_of_ble_eq_true rfl) rfl rfl rfl ?_
      refine x_iload_n (pc := 17) d_Fir_followerDue_17 rfl ?_
      refine x_iload_n (pc := 18) d_Fir_followerDue_18 rfl ?_
      refine x_iload_n (pc := 19) d_Fir_followerDue_19 rfl ?_
      refine y_fV (pc := 20) (c_Tai_costOver _ _ hW hC hsh F r hF hr hT S a k hS2 ha hk (fun z => by have y : zfo W S k = true ∧ F.testBit k = true := Bool.and_eq_true _ _ ▸ z; exact htb (S ||| 2 ^ k) k ((sub_iff _ _).mpr (fun j hj => by rw [tb_or] at hj; rcases Bool.or_eq_true _ _ ▸ hj with w | w; exact (sub_iff _ _).mp hS j w; rw [← of_decide_eq_true w]; exact y.2)) hk (by rw [tb_or]; simp))) k_Tai_costOver d_Fir_followerDue_20 m_Fir_93 (by decide) rfl rfl rfl rfl p_Tai_costOver (K := ?_)
      refine x_aload_n (pc := 23) d_Fir_followerDue_23 rfl ?_
      refine x_get (pc := 24) (j := 6) d_Fir_followerDue_24 f_Fir_22 rfl rfl (Nat.le_of_ble_eq_true rfl) rfl rfl rfl ?_
      rw [hdue]
      refine x_icmp_ne (pc := 27) (tgt := 32) d_Fir_followerDue_27 (by decide) (fun h27 => ?_) (fun h27 => ?_)
      · refine y_inc3 (pc := 32) (v := 1) d_Fir_followerDue_32 (by decide) ?_
        refine x_goto (pc := 35) (tgt := 2) d_Fir_followerDue_35 (by decide) ?_
        rw [show nI (k + 1) + 1 = nI (k + 1 + 1) from (nI_succ (k + 1)).symm]
        refine ih (fun j hj => ?_)
        by_cases e : j = k
        · rw [e]; exact fun z => h27 ((zEc_is (b := 101000) (by omega) (ovr_B hW (by omega) F S a k) hd).mpr z)
        · exact hn j (by omega)
      · refine x_iload_n (pc := 30) d_Fir_followerDue_30 rfl ?_
        refine y_iret (pc := 31) d_Fir_followerDue_31 rfl ?_
        exact ⟨Or.inl ⟨k, hk, rfl, (zEc_is (b := 101000) (by omega) (ovr_B hW (by omega) F S a k) hd).mp h27, hn⟩, rfl, rfl⟩
  refine CQ.of (lv := [.ref 19, .int (nI S), .int (nI a), zu]) k_Fir_followerDue.1 rfl (by decide) rfl rfl (Nat.le_of_ble_eq_true rfl) ?_
  refine x_iconst (pc := 0) (v := 1) d_Fir_followerDue_0 (by decide) ?_
  refine y_ist3 (pc := 1) d_Fir_followerDue_1 ?_
  exact hL 0 (Nat.zero_le _) (fun j hj => absurd hj (Nat.not_lt_zero j))
def ffr (V V1 : zV) : Prop := ∀ k j, ¬ (k = 19 ∧ (j = 4 ∨ j = 5 ∨ j = 6 ∨ j = 7)) → V1 k j = V k j
def ffa (A A1 : zV) : Prop := ∀ k, ¬ k = 20 → A1 k = A k
theorem ffr.up {V V1 : zV} (h : ffr V V1) {j : Nat} (hj : j = 4 ∨ j = 5 ∨ j = 6 ∨ j = 7) (x : Int32) : ffr V (zv V1 19 j x) := fun k i q => by
  rw [zv_eq, if_neg (fun z => q ⟨z.1, by rw [z.2]; exact hj⟩), h k i q]
theorem ffa.up {A A1 : zV} (h : ffa A A1) (f : Nat → Int32) : ffa A (za A1 20 f) := fun k q => by
  rw [za_eq, if_neg q, h k q]
theorem ff_C {W : zW} {V A V1 A1 : zV} (h : ffr V V1) (h' : ffa A A1) (hC : WC W V A) : WC W V1 A1 := hC.same (fun j => h 1 j (by omega)) (fun k hk => h' k (by omega))
theorem ffa.S {W : zW} {A A1 : zV} (h : ffa A A1) (hs : shOK W (zta A)) : shOK W (zta A1) := by
  have : zta A1 = zta A := by
    funext k
    unfold zta
    split <;> exact h _ (by decide)
  rw [this]; exact hs
/-- what stands in the first plan's numbers at the house -/
def FHm (W : zW) (B : Int) (L0 : List zLf) (r : Nat) (V A : zV) : Prop := ∃ c U wr last d, FH W B L0 r c U wr last d ∧ V 19 6 = Int32.ofInt d ∧ V 19 7 = nI (zdf (2 ^ (W.n - 1) - 1) U) ∧ zwd wr (V 19 4) (A 20) ∧ 2 * zc U (W.n - 1) + wr.length ≤ 16
theorem ffr_rf (V : zV) : ffr V V := fun _ _ _ => rfl
theorem ffa_rf (A : zV) : ffa A A := fun _ _ => rfl
set_option maxRecDepth 100000 in
set_option maxHeartbeats 4000000 in
theorem c_Fir_writeRound {W : zW} (V A : zV) (hW : zWok W) (hC : WC W V A) (hsh : shOK W (zta A)) (B : Int) (L0 : List zLf) (r : Nat) (hr : r + 1 ≤ W.mo) (c : Int) (U : Nat) (wr : List Nat) (last : Nat) (d : Int) (hFH : FH W B L0 (r + 1) c U wr last d) (hno : ¬ sc (zos W (zdf (2 ^ (W.n - 1) - 1) U)) = some d) (hT : TF (zdf (2 ^ (W.n - 1) - 1) U) r V) (htb : tab W (zdf (2 ^ (W.n - 1) - 1) U) r (A 17)) (m6 : V 19 6 = Int32.ofInt d) (m7 : V 19 7 = nI (zdf (2 ^ (W.n - 1) - 1) U)) (hwd : zwd (zsep wr) (V 19 4) (A 20)) (hwl : 2 * zc U (W.n - 1) + wr.length ≤ 16) : CU Y_Fir_writeRound 3 [.ref 19] V A (fun V' A' => ffr V V' ∧ V' 19 5 = V 19 5 ∧ ffa A A' ∧ FHm W B L0 r V' A') := by
  have hn9 := hW.h9
  have hp := pw_le hn9
  have hm8 := hW.m8
  have h0p : 0 < 2 ^ (W.n - 1) := Nat.pos_of_ne_zero (by simp)
  have hF : zdf (2 ^ (W.n - 1) - 1) U < 2 ^ (W.n - 1) := Nat.lt_of_le_of_lt Nat.and_le_left (by omega)
  have hF8 : zdf (2 ^ (W.n - 1) - 1) U < 256 := by omega
  have hsl : (zsep wr).length ≤ wr.length + 1 := by
    cases wr with
    | nil => exact Nat.zero_le _
    | cons y w => show (y :: w ++ [0]).length ≤ _; rw [List.length_append]; exact Nat.le_refl _
  generalize hFd : zdf (2 ^ (W.n - 1) - 1) U = F at hno hT htb m7 hF hF8
  have hN : ∀ m (c : Int) (U H : Nat) (wr : List Nat) (a bi cnt : Nat) (d : Int) (V1 A1 : zV) (q4 : Value), zc U (W.n - 1) = m → q4.category = 1 → FN W B L0 r c U F H wr a bi d → a < W.n → cnt + zc U (W.n - 1) ≤ 8 → 2 * zc U (W.n - 1) + wr.length ≤ 16 → ffr V V1 → V1 19 5 = V 19 5 → ffa A A1 → V1 19 6 = Int32.ofInt d → V1 19 7 = nI F → zwd wr (V1 19 4) (A1 20) → X Y_Fir_writeRound (zrm 3) (0, fun _ => 0) (zFu 3 (fun V' A' => ffr V V' ∧ V' 19 5 = V 19 5 ∧ ffa A A' ∧ FHm W B L0 r V' A')) 6 [.ref 19, .int (nI H), .int (nI a), .int (nI cnt), q4] [] (cells V1 A1) 0 0 := by
    intro m
    induction m using Nat.strongRecOn with
    | _ m ih =>
      intro c U H wr a bi cnt d V1 A1 q4 hm hq4 hFN ha hcnt hwl g1 g2 g3 n6 n7 hwd
      have hC1 := ff_C g1 g3 hC
      have hsh1 := g3.S hsh
      have hT1 : TF F r V1 := ⟨(g1 16 6 (by omega)).trans hT.1, (g1 16 7 (by omega)).trans hT.2⟩
      have htb1 : tab W F r (A1 17) := by rw [g3 17 (by omega)]; exact htb
      obtain ⟨⟨hUF, hHF, hHb, hwr⟩, -, ⟨hE, -⟩, -⟩ := id hFN
      have hdB := wE_B hW (r := r) (by omega) F H a d hE
      have hH0 : ¬ H = 0 := fun z => by rw [z, Nat.zero_testBit] at hHb; exact absurd hHb (by simp)
      have hH2 : H < 2 ^ (W.n - 1) := Nat.lt_of_le_of_lt (sub_le hHF) hF
      have hHn : ¬ nI H = 0 := fun z => hH0 ((nI_256 (by omega)).mp z)
      have hBc : bB 101000 (sm (zbs W a) (wP W r (zdf F H))) := bB_mono (bB_m (zbs_B hW a) (wP_B hW (by omega) _)) (by omega)
      refine x_iload_n (pc := 6) d_Fir_writeRound_6 rfl ?_
      refine x_bipush (pc := 7) (v := 9) d_Fir_writeRound_7 (by decide) ?_
      refine x_icmp_ge (pc := 9) (tgt := 98) d_Fir_writeRound_9 (by decide) (fun h => absurd h (by show ¬ nI 9 ≤ nI cnt; exact nI_ge (by omega) (by omega))) (fun h9 => ?_)
      refine x_iload_n (pc := 12) d_Fir_writeRound_12 rfl ?_
      refine x_if_eq (pc := 13) (tgt := 35) d_Fir_writeRound_13 (by decide) (fun h => absurd h hHn) (fun h13 => ?_)
      refine x_aload_n (pc := 16) d_Fir_writeRound_16 rfl ?_
      refine x_get (pc := 17) (j := 2) d_Fir_writeRound_17 f_Fir_36 rfl rfl (Nat.le_of_ble_eq_true rfl) rfl rfl rfl ?_
      refine x_iload_n (pc := 20) d_Fir_writeRound_20 rfl ?_
      refine x_iload_n (pc := 21) d_Fir_writeRound_21 rfl ?_
      refine y_fV (pc := 22) (c_Tai_costClosing _ _ hW hC1 hsh1 F r hF hr hT1 H a (by omega)) k_Tai_costClosing d_Fir_writeRound_22 m_Fir_73 (by decide) rfl rfl rfl rfl p_Tai_costClosing (K := ?_)
      refine x_aload_n (pc := 25) d_Fir_writeRound_25 rfl ?_
      refine x_get (pc := 26) (j := 6) d_Fir_writeRound_26 f_Fir_22 rfl rfl (Nat.le_of_ble_eq_true rfl) rfl rfl rfl ?_
      rw [n6]
      refine x_icmp_ne (pc := 29) (tgt := 35) d_Fir_writeRound_29 (by decide) (fun h29 => ?_) (fun h29 => ?_)
      · have ho : ¬ sc (sm (zbs W a) (wP W r (zdf F H))) = some d := fun z => h29 ((zEc_is (b := 101000) (by omega) hBc (by omega)).mpr z)
        refine x_aload_n (pc := 35) d_Fir_writeRound_35 rfl ?_
        refine x_iload_n (pc := 36) d_Fir_writeRound_36 rfl ?_
        refine x_iload_n (pc := 37) d_Fir_writeRound_37 rfl ?_
        refine y_callV (pc := 38) (c_Fir_followerDue _ _ hW hC1 hsh1 F r hF hr hT1 htb1 H a d hHF (by omega) (by omega) n6) k_Fir_followerDue d_Fir_writeRound_38 m_Fir_77 (by decide) rfl rfl rfl rfl p_Fir_followerDue (K := fun v2 V2 A2 hq => ?_)
        obtain ⟨hq1, e1, e2⟩ := hq; rw [e1, e2]
        rcases hq1 with ⟨i, hi, rfl, z1, z2⟩ | ⟨-, z⟩
        rotate_left
        · obtain ⟨i, hi, z1⟩ := FN_at hE ho
          exact absurd z1 (z i hi)
        obtain ⟨y1, y2, y3, x, y4⟩ := ovr_at z1
        have hx := hW.ar a (i + 1) x y4
        have hstep := FN_step hn9 hFN ho hi y1 y2 y4 y3 (fun j hj w1 w2 => ovr_ne (z2 j hj) w1 w2)
        have hUi : U.testBit i = false := by rw [hUF.2.2 i hi, y2, zfo_Fo W H i y1]; rfl
        have hzs := zc_step (n := W.n - 1) hUi hi
        have hi0 : ¬ nI (i + 1) = 0 := fun z => by have := (nI_z (by omega)).mp z; omega
        have ix1 : nI a * 9 + nI (i + 1) = nI (a * 9 + (i + 1)) := by rw [show (9 : Int32) = nI 9 from rfl, pk_mul, nI_add]
        have cx1 : (nI (a * 9 + (i + 1))).toNatClampNeg = a * 9 + (i + 1) := nI_clamp (by omega)
        refine y_ist4 (pc := 41) d_Fir_writeRound_41 ?_
        refine x_iload (pc := 43) d_Fir_writeRound_43 rfl ?_
        refine x_if_ne (pc := 45) (tgt := 51) d_Fir_writeRound_45 (by decide) (fun h45 => ?_) (fun h => absurd h hi0)
        refine x_aload_n (pc := 51) d_Fir_writeRound_51 rfl ?_
        refine x_iload (pc := 52) d_Fir_writeRound_52 rfl ?_
        refine y_fU (pc := 54) (c_Fir_write _ _ (nI (i + 1)) wr.length (by omega) hwd.1) k_Fir_write d_Fir_writeRound_54 m_Fir_60 (by decide) rfl rfl rfl rfl p_Fir_write (K := ?_)
        refine x_aload_n (pc := 57) d_Fir_writeRound_57 rfl ?_
        refine x_dup (pc := 58) d_Fir_writeRound_58 rfl ?_
        refine x_get (pc := 59) (j := 6) d_Fir_writeRound_59 f_Fir_22 rfl rfl (Nat.le_of_ble_eq_true rfl) rfl rfl rfl ?_
        rw [show (zv V1 19 4 (nI (wr.length + 1))) 19 6 = Int32.ofInt d from n6]
        refine x_aload_n (pc := 62) d_Fir_writeRound_62 rfl ?_
        refine x_get (pc := 63) (j := 0) d_Fir_writeRound_63 f_Fir_28 rfl rfl (Nat.le_of_ble_eq_true rfl) rfl rfl rfl ?_
        refine x_get (pc := 66) (j := 1) d_Fir_writeRound_66 f_Fir_80 rfl rfl (Nat.le_of_ble_eq_true rfl) rfl rfl rfl ?_
        refine x_iload_n (pc := 69) d_Fir_writeRound_69 rfl ?_
        refine x_bipush (pc := 70) (v := 9) d_Fir_writeRound_70 (by decide) ?_
        refine x_imul (pc := 72) d_Fir_writeRound_72 ?_
        refine x_iload (pc := 73) d_Fir_writeRound_73 rfl ?_
        refine x_iadd (pc := 75) d_Fir_writeRound_75 ?_
        refine x_iald (pc := 76) d_Fir_writeRound_76 rfl (by rw [ix1]; exact vp_in_nI (by omega) (by decide)) ?_
        rw [ix1, cx1, show (za A1 20 (upd (A1 20) wr.length (nI (i + 1)))) 3 (a * 9 + (i + 1)) = Int32.ofInt x from (by show A1 3 _ = _; rw [hC1.ar a (i + 1) (by omega) (by omega), y4]; rfl)]
        refine x_isub (pc := 77) d_Fir_writeRound_77 ?_
        rw [ofI_sub]
        refine y_put (pc := 78) (j := 6) d_Fir_writeRound_78 f_Fir_22 rfl rfl (Nat.le_of_ble_eq_true rfl) rfl (Nat.le_of_ble_eq_true rfl) rfl rfl (fun _ => rfl) ?_
        refine x_iload_n (pc := 81) d_Fir_writeRound_81 rfl ?_
        refine x_iload (pc := 82) d_Fir_writeRound_82 rfl ?_
        refine y_fN (pc := 84) (w_bit _ _ (i + 1) (by omega) (by omega)) k_CW_bit d_Fir_writeRound_84 n_Fir_83 (by decide) rfl p_CW_bit (K := ?_)
        refine x_ior (pc := 87) d_Fir_writeRound_87 ?_
        refine y_ist1 (pc := 88) d_Fir_writeRound_88 ?_
        refine x_iload (pc := 89) d_Fir_writeRound_89 rfl ?_
        refine y_ist2 (pc := 91) d_Fir_writeRound_91 ?_
        refine y_inc3 (pc := 92) (v := 1) d_Fir_writeRound_92 (by decide) ?_
        refine x_goto (pc := 95) (tgt := 6) d_Fir_writeRound_95 (by decide) ?_
        rw [show i + 1 - 1 = i from rfl, nx_or, show nI cnt + 1 = nI (cnt + 1) from (nI_succ cnt).symm]
        exact ih (zc (U ||| 2 ^ i) (W.n - 1)) (by omega) (c + x) (U ||| 2 ^ i) (H ||| 2 ^ i) (wr ++ [i + 1]) (i + 1) bi (cnt + 1) (d - x) _ _ _ rfl rfl hstep (by omega) (by omega) (by rw [List.length_append, List.length_singleton]; omega) ((g1.up (by omega) _).up (by omega) _) g2 (g3.up _) rfl n7 (zwd_snoc hwd (i + 1))
      · refine x_goto (pc := 32) (tgt := 98) d_Fir_writeRound_32 (by decide) ?_
        have ho := (zEc_is (b := 101000) (by omega) hBc (by omega)).mp h29
        obtain ⟨b, hb⟩ : ∃ b, zbk W a = some b := by
          rw [sc_sm] at ho
          obtain ⟨u, v, e1, -, -⟩ := oad_at ho
          unfold zbs at e1
          rw [sc_se] at e1
          exact ⟨u, e1⟩
        have hcl := FN_close hn9 hFN hb ho
        have hdf := hUF.df hn9
        refine x_aload_n (pc := 98) d_Fir_writeRound_98 rfl ?_
        refine x_dup (pc := 99) d_Fir_writeRound_99 rfl ?_
        refine x_get (pc := 100) (j := 6) d_Fir_writeRound_100 f_Fir_22 rfl rfl (Nat.le_of_ble_eq_true rfl) rfl rfl rfl ?_
        refine x_aload_n (pc := 103) d_Fir_writeRound_103 rfl ?_
        refine x_get (pc := 104) (j := 0) d_Fir_writeRound_104 f_Fir_28 rfl rfl (Nat.le_of_ble_eq_true rfl) rfl rfl rfl ?_
        refine x_iload_n (pc := 107) d_Fir_writeRound_107 rfl ?_
        refine y_fV (pc := 108) (w_costBack _ _ a hC1 (by omega)) k_Net_costBack d_Fir_writeRound_108 m_Fir_87 (by decide) rfl rfl rfl rfl p_Net_costBack (K := ?_)
        rw [n6, hb, show zEc (some b) = Int32.ofInt b from rfl]
        refine x_isub (pc := 111) d_Fir_writeRound_111 ?_
        rw [ofI_sub]
        refine y_put (pc := 112) (j := 6) d_Fir_writeRound_112 f_Fir_22 rfl rfl (Nat.le_of_ble_eq_true rfl) rfl (Nat.le_of_ble_eq_true rfl) rfl rfl (fun _ => rfl) ?_
        refine x_aload_n (pc := 115) d_Fir_writeRound_115 rfl ?_
        refine x_dup (pc := 116) d_Fir_writeRound_116 rfl ?_
        refine x_get (pc := 117) (j := 7) d_Fir_writeRound_117 f_Fir_25 rfl rfl (Nat.le_of_ble_eq_true rfl) rfl rfl rfl ?_
        refine x_iload_n (pc := 120) d_Fir_writeRound_120 rfl ?_
        refine x_iconst (pc := 121) (v := (-1)) d_Fir_writeRound_121 (by decide) ?_
        refine x_ixor (pc := 122) d_Fir_writeRound_122 ?_
        refine x_iand (pc := 123) d_Fir_writeRound_123 ?_
        rw [show (zv V1 19 6 (Int32.ofInt (d - b))) 19 7 &&& (nI H ^^^ (-1)) = nI (zdf F H) from (by show V1 19 7 &&& _ = _; rw [n7]; exact zz_not hF8)]
        refine y_put (pc := 124) (j := 7) d_Fir_writeRound_124 f_Fir_25 rfl rfl (Nat.le_of_ble_eq_true rfl) rfl (Nat.le_of_ble_eq_true rfl) rfl rfl (fun _ => rfl) ?_
        refine y_vret (pc := 127) d_Fir_writeRound_127 rfl ?_
        exact ⟨(g1.up (by omega) _).up (by omega) _, g2, g3, c + b, U, wr, bi + 1, d - b, hcl, rfl, by rw [hdf]; rfl, hwd, hwl⟩
  obtain ⟨hU, -, -, ⟨hPd, -⟩, -⟩ := id hFH
  rw [hFd] at hPd
  have hdB := wP_B hW (r := r + 1) (by omega) F d hPd
  refine CU.of (lv := [.ref 19, zu, zu, zu, zu]) k_Fir_writeRound.1 rfl (by decide) rfl rfl (Nat.le_of_ble_eq_true rfl) ?_
  have hfd := c_Fir_followerDue V A hW hC hsh F r hF hr hT htb 0 0 d (Nat.zero_and F) (by omega) (by omega) m6
  rw [nI0] at hfd
  refine x_iconst (pc := 0) (v := 0) d_Fir_writeRound_0 (by decide) ?_
  refine y_ist1 (pc := 1) d_Fir_writeRound_1 ?_
  refine x_iconst (pc := 2) (v := 0) d_Fir_writeRound_2 (by decide) ?_
  refine y_ist2 (pc := 3) d_Fir_writeRound_3 ?_
  refine x_iconst (pc := 4) (v := 0) d_Fir_writeRound_4 (by decide) ?_
  refine y_ist3 (pc := 5) d_Fir_writeRound_5 ?_
  refine x_iload_n (pc := 6) d_Fir_writeRound_6 rfl ?_
  refine x_bipush (pc := 7) (v := 9) d_Fir_writeRound_7 (by decide) ?_
  refine x_icmp_ge (pc := 9) (tgt := 98) d_Fir_writeRound_9 (by decide) (fun h => absurd h (by decide)) (fun _ => ?_)
  refine x_iload_n (pc := 12) d_Fir_writeRound_12 rfl ?_
  refine x_if_eq (pc := 13) (tgt := 35) d_Fir_writeRound_13 (by decide) (fun _ => ?_) (fun h => absurd h (by decide))
  refine x_aload_n (pc := 35) d_Fir_writeRound_35 rfl ?_
  refine x_iload_n (pc := 36) d_Fir_writeRound_36 rfl ?_
  refine x_iload_n (pc := 37) d_Fir_writeRound_37 rfl ?_
  refine y_callV (pc := 38) hfd k_Fir_followerDue d_Fir_writeRound_38 m_Fir_77 (by decide) rfl rfl rfl rfl p_Fir_followerDue (K := fun v2 V2 A2 hq => ?_)
  obtain ⟨hq1, e1, e2⟩ := hq; rw [e1, e2]
  rcases hq1 with ⟨i, hi, rfl, z1, z2⟩ | ⟨-, z⟩
  rotate_left
  · obtain ⟨i, hi, w1, w2, w3⟩ := wO_at hn9 hF8 hPd hno
    exact absurd (by rw [wO_ovr W r F i w1 w2]; exact w3) (z i hi)
  obtain ⟨y1, y2, y3, x, y4⟩ := ovr_at z1
  have hx := hW.ar 0 (i + 1) x y4
  subst hFd
  have hstep := FH_step hn9 hFH hno hi y1 y2 y4 (by rw [← wO_ovr W r _ i y1 y2]; exact z1) (fun j hj w1 w2 => by rw [← wO_ovr W r _ j w1 w2]; exact z2 j hj)
  have hUi : U.testBit i = false := by
    rw [tb_df (by omega)] at y2
    have := (Bool.and_eq_true _ _ ▸ y2 : _ ∧ _).2
    simpa using this
  have hzs := zc_step (n := W.n - 1) hUi hi
  have hzN := zc_le U (W.n - 1)
  have hi0 : ¬ nI (i + 1) = 0 := fun z => by have := (nI_z (by omega)).mp z; omega
  have ix1 : (0 : Int32) * 9 + nI (i + 1) = nI (i + 1) := by rw [Int32.zero_mul, Int32.zero_add]
  have cx1 : (nI (i + 1)).toNatClampNeg = i + 1 := nI_clamp (by omega)
  refine y_ist4 (pc := 41) d_Fir_writeRound_41 ?_
  refine x_iload (pc := 43) d_Fir_writeRound_43 rfl ?_
  refine x_if_ne (pc := 45) (tgt := 51) d_Fir_writeRound_45 (by decide) (fun h45 => ?_) (fun h => absurd h hi0)
  refine x_aload_n (pc := 51) d_Fir_writeRound_51 rfl ?_
  refine x_iload (pc := 52) d_Fir_writeRound_52 rfl ?_
  refine y_fU (pc := 54) (c_Fir_write _ _ (nI (i + 1)) (zsep wr).length (by omega) hwd.1) k_Fir_write d_Fir_writeRound_54 m_Fir_60 (by decide) rfl rfl rfl rfl p_Fir_write (K := ?_)
  refine x_aload_n (pc := 57) d_Fir_writeRound_57 rfl ?_
  refine x_dup (pc := 58) d_Fir_writeRound_58 rfl ?_
  refine x_get (pc := 59) (j := 6) d_Fir_writeRound_59 f_Fir_22 rfl rfl (Nat.le_of_ble_eq_true rfl) rfl rfl rfl ?_
  rw [show (zv V 19 4 (nI ((zsep wr).length + 1))) 19 6 = Int32.ofInt d from m6]
  refine x_aload_n (pc := 62) d_Fir_writeRound_62 rfl ?_
  refine x_get (pc := 63) (j := 0) d_Fir_writeRound_63 f_Fir_28 rfl rfl (Nat.le_of_ble_eq_true rfl) rfl rfl rfl ?_
  refine x_get (pc := 66) (j := 1) d_Fir_writeRound_66 f_Fir_80 rfl rfl (Nat.le_of_ble_eq_true rfl) rfl rfl rfl ?_
  refine x_iload_n (pc := 69) d_Fir_writeRound_69 rfl ?_
  refine x_bipush (pc := 70) (v := 9) d_Fir_writeRound_70 (by decide) ?_
  refine x_imul (pc := 72) d_Fir_writeRound_72 ?_
  refine x_iload (pc := 73) d_Fir_writeRound_73 rfl ?_
  refine x_iadd (pc := 75) d_Fir_writeRound_75 ?_
  refine x_iald (pc := 76) d_Fir_writeRound_76 rfl (by rw [ix1]; exact vp_in_nI (by omega) (by decide)) ?_
  rw [ix1, cx1, show (za A 20 (upd (A 20) (zsep wr).length (nI (i + 1)))) 3 (i + 1) = Int32.ofInt x from (by show A 3 _ = _; have z := hC.ar 0 (i + 1) (by omega) (by omega); rw [Nat.zero_mul, Nat.zero_add, y4] at z; exact z)]
  refine x_isub (pc := 77) d_Fir_writeRound_77 ?_
  rw [ofI_sub]
  refine y_put (pc := 78) (j := 6) d_Fir_writeRound_78 f_Fir_22 rfl rfl (Nat.le_of_ble_eq_true rfl) rfl (Nat.le_of_ble_eq_true rfl) rfl rfl (fun _ => rfl) ?_
  refine x_iload_n (pc := 81) d_Fir_writeRound_81 rfl ?_
  refine x_iload (pc := 82) d_Fir_writeRound_82 rfl ?_
  refine y_fN (pc := 84) (w_bit _ _ (i + 1) (by omega) (by omega)) k_CW_bit d_Fir_writeRound_84 n_Fir_83 (by decide) rfl p_CW_bit (K := ?_)
  refine x_ior (pc := 87) d_Fir_writeRound_87 ?_
  refine y_ist1 (pc := 88) d_Fir_writeRound_88 ?_
  refine x_iload (pc := 89) d_Fir_writeRound_89 rfl ?_
  refine y_ist2 (pc := 91) d_Fir_writeRound_91 ?_
  refine y_inc3 (pc := 92) (v := 1) d_Fir_writeRound_92 (by decide) ?_
  refine x_goto (pc := 95) (tgt := 6) d_Fir_writeRound_95 (by decide) ?_
  rw [show i + 1 - 1 = i from rfl, show (0 : Int32) ||| nI (2 ^ i) = nI (2 ^ i) from (by rw [← nI0, nx_or, Nat.zero_or]), show (0 : Int32) + 1 = nI 1 from rfl]
  exact hN (zc (U ||| 2 ^ i) (W.n - 1)) (c + x) (U ||| 2 ^ i) (2 ^ i) (zsep wr ++ [i + 1]) (i + 1) i 1 (d - x) _ _ _ rfl rfl hstep (by omega) (by omega) (by rw [List.length_append, List.length_singleton]; omega) ((ffr_rf V).up (j := 4) (by omega) _ |>.up (j := 6) (by omega) _) rfl ((ffa_rf A).up _) rfl m7 (zwd_snoc hwd (i + 1))
