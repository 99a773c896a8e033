/-! ways that go -/
def zNS : zR Nat := (fun a b => a + b, fun a b => a * b, 0, 1)
theorem zNS_SR : zSR zNS := ⟨Nat.add_comm, Nat.add_assoc, Nat.add_zero, Nat.mul_comm, Nat.mul_assoc, Nat.mul_one, Nat.mul_zero, Nat.mul_add⟩
def dB (T : Option Int) (lim : Int32) : Bool := match T with
  | none => true
  | some t => decide (lim.toInt < t)
def thT (W : zW) (x y : Nat) : Option Int := sc (mkH W x y W.mo (2 ^ (W.n - 1) - 1) 0).2
def ind (W : zW) (lim : Int32) (x y : Nat) : Nat := if dB (thT W x y) lim = true ∧ ¬ W.ar x y = none then 1 else 0
theorem ind_out {W : zW} (hW : zWok W) (lim : Int32) {x y : Nat} (h : W.n ≤ x ∨ W.n ≤ y) : ind W lim x y = 0 := by
  unfold ind
  rw [if_neg]
  rintro ⟨-, z⟩
  cases hq : W.ar x y with
  | none => exact z hq
  | some t => have := hW.ar _ _ _ hq; omega
theorem ind_le (W : zW) (lim : Int32) (x y : Nat) : ind W lim x y ≤ 1 := by unfold ind; split <;> omega
theorem ns_le {f : Nat → Nat} : ∀ {k : Nat}, (∀ i, f i ≤ 1) → zNS.s f k ≤ k
  | 0, _ => Nat.le_refl _
  | k + 1, h => by
    have := ns_le (k := k) h
    have := h k
    show zNS.s f k + f k ≤ k + 1
    omega
theorem ind_sum {W : zW} (hW : zWok W) (lim : Int32) : zNS.s (fun i => ind W lim (i / 9) (i % 9)) 81 = zNS.s (fun a => zNS.s (fun b => ind W lim a b) W.n) W.n := by
  have h9 := hW.h9
  have e1 := zs_grid zNS_SR (fun i => ind W lim (i / 9) (i % 9)) 9 9
  have e2 : ∀ a, zNS.s (fun b => ind W lim a b) 9 = zNS.s (fun b => ind W lim a b) W.n := fun a => by
    have z := zs_ext zNS_SR (f := fun b => ind W lim a b) (k := W.n) (9 - W.n) (fun i h1 _ => ind_out hW lim (Or.inr h1))
    rw [show W.n + (9 - W.n) = 9 by omega] at z; exact z
  have e3 : zNS.s (fun a => zNS.s (fun b => ind W lim a b) W.n) 9 = zNS.s (fun a => zNS.s (fun b => ind W lim a b) W.n) W.n := by
    have z := zs_ext zNS_SR (f := fun a => zNS.s (fun b => ind W lim a b) W.n) (k := W.n) (9 - W.n) (fun i h1 _ => zs_zero zNS_SR (fun b _ => ind_out hW lim (Or.inl h1)))
    rw [show W.n + (9 - W.n) = 9 by omega] at z; exact z
  rw [show 81 = 9 * 9 from rfl, e1, ← e3]
  refine zs_congr zNS (fun a ha => ?_)
  rw [← e2]
  refine zs_congr zNS (fun b hb => ?_)
  rw [show (a * 9 + b) / 9 = a by omega, show (a * 9 + b) % 9 = b by omega]
theorem zEc_gt {t : Int} (h : -200000 ≤ t ∧ t ≤ 200000) (lim : Int32) : zEc (some t) ≤ lim ↔ ¬ lim.toInt < t := by
  rw [z_le, show zEc (some t) = Int32.ofInt t from rfl, zi_toInt (by omega) (by omega)]; omega
theorem zEf_gt {t : Int} (h : -200000 ≤ t ∧ t ≤ 200000) (lim : Int32) : zEf (some t) ≤ lim ↔ ¬ lim.toInt < t := zEc_gt h lim
theorem dB_1 {T o : Option Int} {lim : Int32} (ho : oB 200000 o) (h : thO T o lim) (hn : zEc o = 1000000000) : dB T lim = true := by
  have z := (zEc_no (b := 200000) (by omega) ho).mp hn
  rcases h with rfl | ⟨h1, -⟩
  · rw [z]; rfl
  · exact absurd z h1
theorem dB_2 {T o : Option Int} {lim : Int32} (ho : oB 200000 o) (h : thO T o lim) (hn : ¬ zEc o = 1000000000) (hl : zEc o ≤ lim) : dB T lim = false := by
  cases o with
  | none => exact absurd rfl hn
  | some x =>
    have hx := ho x rfl
    have hl2 := (zEc_gt hx lim).mp hl
    rcases h with rfl | ⟨-, -, h3⟩
    · exact decide_eq_false hl2
    · obtain ⟨t, ht, ht2⟩ := h3 x rfl
      rw [ht]
      exact decide_eq_false (by omega)
theorem dB_3 {T o : Option Int} {lim : Int32} (ho : oB 200000 o) (h : thO T o lim) (hn : ¬ zEc o = 1000000000) (hl : ¬ zEc o ≤ lim) : dB T lim = true := by
  cases o with
  | none => exact absurd rfl hn
  | some x =>
    have hx := ho x rfl
    rcases h with rfl | ⟨-, h2, -⟩
    · exact decide_eq_true (Classical.byContradiction (fun z => hl ((zEc_gt hx lim).mpr z)))
    · exact absurd h2 hl
/-- which ways are gone when (a, b) is next -/
def gone (W : zW) (lim : Int32) (a b i : Nat) : Prop := (i / 9 < a ∨ (i / 9 = a ∧ i % 9 < b)) ∧ i % 9 < W.n ∧ dB (thT W (i / 9) (i % 9)) lim = true
theorem zta18 (A : zV) (f : Nat → Int32) : zta (za A 18 f) = zta A := by
  funext k
  unfold zta
  split <;> rfl
set_option maxRecDepth 100000 in
set_option maxHeartbeats 4000000 in
theorem c_Tai_dropArcsAbove {W : zW} (V A : zV) (hW : zWok W) (hC : WC W V A) (hsh : shOK W (zta A)) (hT : TF (2 ^ (W.n - 1) - 1) (W.mo - 1) V) (htb : tab W (2 ^ (W.n - 1) - 1) (W.mo - 1) (A 17)) (lim : Int32) (ch : Nat) (hch : V 1 8 = nI ch) : CQ Y_Tai_dropArcsAbove 3 [.ref 16, .int lim] V A (fun ρ V' A' => ∃ cnt, cnt = zNS.s (fun a => zNS.s (fun b => ind W lim a b) W.n) W.n ∧ ρ = nI cnt ∧ (∀ k j, ¬ (k = 1 ∧ j = 8) → V' k j = V k j) ∧ (∀ k, ¬ k = 3 → ¬ k = 18 → A' k = A k) ∧ V' 1 8 = nI (ch + cnt) ∧ (∀ i, i < 81 → (gone W lim W.n 0 i → A' 3 i = 1000000000) ∧ (¬ gone W lim W.n 0 i → A' 3 i = A 3 i)) ∧ (cnt = 0 → A' 3 = A 3)) := by
  have h9 := hW.h9
  have hp := pw_le h9
  have hm1 := hW.m1
  have hmo : W.mo - 1 + 1 = W.mo := by omega
  have hC8 : ∀ f, WC W V (za A 18 f) := fun f => hC.same (fun _ => rfl) (fun k hk => by rw [za_eq, if_neg (by omega)])
  have hL2 : ∀ f : Nat → Int32, (∀ a b, a < W.n → b < W.n → f (a * 9 + b) = if dB (thT W a b) lim = true then 1 else 0) → ∀ a, a ≤ W.n → ∀ (V1 A1 : zV) (cnt : Nat) (q4 : Value), q4.category = 1 → cnt = zNS.s (fun a => zNS.s (fun b => ind W lim a b) W.n) a → (∀ k j, ¬ (k = 1 ∧ j = 8) → V1 k j = V k j) → (∀ k, ¬ k = 3 → A1 k = (za A 18 f) k) → V1 1 8 = nI (ch + cnt) → (∀ i, i < 81 → (gone W lim a 0 i → A1 3 i = 1000000000) ∧ (¬ gone W lim a 0 i → A1 3 i = A 3 i)) → (cnt = 0 → A1 3 = A 3) → X Y_Tai_dropArcsAbove (zrm 3) (0, fun _ => 0) (zFq 3 (fun ρ V' A' => ∃ cnt, cnt = zNS.s (fun a => zNS.s (fun b => ind W lim a b) W.n) W.n ∧ ρ = nI cnt ∧ (∀ k j, ¬ (k = 1 ∧ j = 8) → V' k j = V k j) ∧ (∀ k, ¬ k = 3 → ¬ k = 18 → A' k = A k) ∧ V' 1 8 = nI (ch + cnt) ∧ (∀ i, i < 81 → (gone W lim W.n 0 i → A' 3 i = 1000000000) ∧ (¬ gone W lim W.n 0 i → A' 3 i = A 3 i)) ∧ (cnt = 0 → A' 3 = A 3))) 80 [.ref 16, .int lim, .int (nI cnt), .int (nI a), q4] [] (cells V1 A1) 0 0 := by
    intro f hf
    refine z_down (fun V1 A1 cnt q4 hq4 hcnt k1 k2 k3 k4 k5 => ?_) (fun a ha ih V1 A1 cnt q4 hq4 hcnt k1 k2 k3 k4 k5 => ?_)
    · refine x_iload_n (pc := 80) d_Tai_dropArcsAbove_80 rfl ?_
      refine x_aload_n (pc := 81) d_Tai_dropArcsAbove_81 rfl ?_
      refine x_get (pc := 82) (j := 0) d_Tai_dropArcsAbove_82 f_Tai_29 rfl rfl (Nat.le_of_ble_eq_true rfl) rfl rfl rfl ?_
      refine x_get (pc := 85) (j := 4) d_Tai_dropArcsAbove_85 f_Tai_46 rfl rfl (Nat.le_of_ble_eq_true rfl) rfl rfl rfl ?_
      rw [show V1 1 4 = nI W.n from (k1 1 4 (by omega)).trans hC.n]
      refine x_icmp_ge (pc := 88) (tgt := 153) d_Tai_dropArcsAbove_88 (by decide) (fun h88 => ?_) (fun h => absurd (nI_le (by omega) (by omega)) h)
      refine x_iload_n (pc := 153) d_Tai_dropArcsAbove_153 rfl ?_
      refine y_iret (pc := 154) d_Tai_dropArcsAbove_154 rfl ?_
      exact ⟨cnt, hcnt, rfl, k1, fun k z1 z2 => by rw [k2 k z1, za_eq, if_neg z2], k3, k4, k5⟩
    · have hI : ∀ b, b ≤ W.n → ∀ (V1 A1 : zV) (cnt : Nat), cnt = zNS.s (fun a => zNS.s (fun b => ind W lim a b) W.n) a + zNS.s (fun b => ind W lim a b) b → (∀ k j, ¬ (k = 1 ∧ j = 8) → V1 k j = V k j) → (∀ k, ¬ k = 3 → A1 k = (za A 18 f) k) → V1 1 8 = nI (ch + cnt) → (∀ i, i < 81 → (gone W lim a b i → A1 3 i = 1000000000) ∧ (¬ gone W lim a b i → A1 3 i = A 3 i)) → (cnt = 0 → A1 3 = A 3) → X Y_Tai_dropArcsAbove (zrm 3) (0, fun _ => 0) (zFq 3 (fun ρ V' A' => ∃ cnt, cnt = zNS.s (fun a => zNS.s (fun b => ind W lim a b) W.n) W.n ∧ ρ = nI cnt ∧ (∀ k j, ¬ (k = 1 ∧ j = 8) → V' k j = V k j) ∧ (∀ k, ¬ k = 3 → ¬ k = 18 → A' k = A k) ∧ V' 1 8 = nI (ch + cnt) ∧ (∀ i, i < 81 → (gone W lim W.n 0 i → A' 3 i = 1000000000) ∧ (¬ gone W lim W.n 0 i → A' 3 i = A 3 i)) ∧ (cnt = 0 → A' 3 = A 3))) 94 [.ref 16, .int lim, .int (nI cnt), .int (nI a), .int (nI b)] [] (cells V1 A1) 0 0 := by
        refine z_down (fun V1 A1 cnt hcnt k1 k2 k3 k4 k5 => ?_) (fun b hb ihb V1 A1 cnt hcnt k1 k2 k3 k4 k5 => ?_)
        · refine x_iload (pc := 94) d_Tai_dropArcsAbove_94 rfl ?_
          refine x_aload_n (pc := 96) d_Tai_dropArcsAbove_96 rfl ?_
          refine x_get (pc := 97) (j := 0) d_Tai_dropArcsAbove_97 f_Tai_29 rfl rfl (Nat.le_of_ble_eq_true rfl) rfl rfl rfl ?_
          refine x_get (pc := 100) (j := 4) d_Tai_dropArcsAbove_100 f_Tai_46 rfl rfl (Nat.le_of_ble_eq_true rfl) rfl rfl rfl ?_
          rw [show V1 1 4 = nI W.n from (k1 1 4 (by omega)).trans hC.n]
          refine x_icmp_ge (pc := 103) (tgt := 147) d_Tai_dropArcsAbove_103 (by decide) (fun h103 => ?_) (fun h => absurd (nI_le (by omega) (by omega)) h)
          refine y_inc3 (pc := 147) (v := 1) d_Tai_dropArcsAbove_147 (by decide) ?_
          refine x_goto (pc := 150) (tgt := 80) d_Tai_dropArcsAbove_150 (by decide) ?_
          rw [show nI a + 1 = nI (a + 1) from (nI_succ a).symm]
          refine ih V1 A1 cnt _ rfl hcnt k1 k2 k3 (fun i hi => ?_) k5
          have e : gone W lim (a + 1) 0 i ↔ gone W lim a W.n i := by
            unfold gone
            constructor
            · rintro ⟨z1, z2, z3⟩; exact ⟨by omega, z2, z3⟩
            · rintro ⟨z1, z2, z3⟩; exact ⟨by omega, z2, z3⟩
          rw [e]; exact k4 i hi
        · have ix1 : nI a * 9 + nI b = nI (a * 9 + b) := by rw [show (9 : Int32) = nI 9 from rfl, pk_mul, nI_add]
          have c1 : (nI (a * 9 + b)).toNatClampNeg = a * 9 + b := nI_clamp (by omega)
          have hdm : (a * 9 + b) / 9 = a ∧ (a * 9 + b) % 9 = b := by omega
          have hng : ¬ gone W lim a b (a * 9 + b) := fun z => by have := z.1; omega
          have hold := (k4 (a * 9 + b) (by omega)).2 hng
          rw [hC.ar a b (by omega) (by omega)] at hold
          have hab : A1 18 (a * 9 + b) = if dB (thT W a b) lim = true then 1 else 0 := by rw [k2 18 (by omega), za_at]; exact hf a b ha hb
          have hst : zNS.s (fun b => ind W lim a b) (b + 1) = zNS.s (fun b => ind W lim a b) b + ind W lim a b := rfl
          have hgi : ∀ i, ¬ i = a * 9 + b → (gone W lim a (b + 1) i ↔ gone W lim a b i) := by
            intro i hne
            unfold gone
            constructor
            · rintro ⟨z1, z2, z3⟩; exact ⟨by omega, z2, z3⟩
            · rintro ⟨z1, z2, z3⟩; exact ⟨by omega, z2, z3⟩
          have hg0 : gone W lim a (b + 1) (a * 9 + b) ↔ dB (thT W a b) lim = true := by
            unfold gone
            rw [hdm.1, hdm.2]
            constructor
            · rintro ⟨-, -, z⟩; exact z
            · intro z; exact ⟨Or.inr ⟨rfl, by omega⟩, hb, z⟩
          refine x_iload (pc := 94) d_Tai_dropArcsAbove_94 rfl ?_
          refine x_aload_n (pc := 96) d_Tai_dropArcsAbove_96 rfl ?_
          refine x_get (pc := 97) (j := 0) d_Tai_dropArcsAbove_97 f_Tai_29 rfl rfl (Nat.le_of_ble_eq_true rfl) rfl rfl rfl ?_
          refine x_get (pc := 100) (j := 4) d_Tai_dropArcsAbove_100 f_Tai_46 rfl rfl (Nat.le_of_ble_eq_true rfl) rfl rfl rfl ?_
          rw [show V1 1 4 = nI W.n from (k1 1 4 (by omega)).trans hC.n]
          refine x_icmp_ge (pc := 103) (tgt := 147) d_Tai_dropArcsAbove_103 (by decide) (fun h => absurd h (nI_ge (by omega) (by omega))) (fun h103 => ?_)
          refine x_aload_n (pc := 106) d_Tai_dropArcsAbove_106 rfl ?_
          refine x_get (pc := 107) (j := 4) d_Tai_dropArcsAbove_107 f_Tai_15 rfl rfl (Nat.le_of_ble_eq_true rfl) rfl rfl rfl ?_
          refine x_iload_n (pc := 110) d_Tai_dropArcsAbove_110 rfl ?_
          refine x_bipush (pc := 111) (v := 9) d_Tai_dropArcsAbove_111 (by decide) ?_
          refine x_imul (pc := 113) d_Tai_dropArcsAbove_113 ?_
          refine x_iload (pc := 114) d_Tai_dropArcsAbove_114 rfl ?_
          refine x_iadd (pc := 116) d_Tai_dropArcsAbove_116 ?_
          refine x_zald (pc := 117) d_Tai_dropArcsAbove_117 rfl (by rw [ix1]; exact vp_in_nI (by omega) (by decide)) ?_
          rw [ix1, c1, hab]
          refine x_if_eq (pc := 118) (tgt := 141) d_Tai_dropArcsAbove_118 (by decide) (fun h118 => ?_) (fun h118 => ?_)
          · refine y_inc4 (pc := 141) (v := 1) d_Tai_dropArcsAbove_141 (by decide) ?_
            refine x_goto (pc := 144) (tgt := 94) d_Tai_dropArcsAbove_144 (by decide) ?_
            rw [show nI b + 1 = nI (b + 1) from (nI_succ b).symm]
            have hd0 : ¬ dB (thT W a b) lim = true := fun z => by rw [if_pos z] at h118; exact absurd h118 (by decide)
            have hi0 : ind W lim a b = 0 := by unfold ind; rw [if_neg (fun z => hd0 z.1)]
            refine ihb V1 A1 cnt (by rw [hst, hi0]; omega) k1 k2 k3 (fun i hi => ?_) k5
            by_cases e : i = a * 9 + b
            · subst e
              refine ⟨fun z => absurd (hg0.mp z) hd0, fun _ => (k4 _ hi).2 hng⟩
            · rw [hgi i e]; exact k4 i hi
          · have hd1 : dB (thT W a b) lim = true := by
              cases hz : dB (thT W a b) lim with
              | true => rfl
              | false => rw [hz] at h118; exact absurd rfl h118
            have hcc := c_Net_changeCost V1 A1 (nI a) (nI b) 1000000000 (by rw [ix1]; exact vp_in_nI (by omega) (by decide))
            rw [ix1, c1, hold] at hcc
            have hgs : ∀ i, i < 81 → (gone W lim a (b + 1) i → upd (A1 3) (a * 9 + b) 1000000000 i = 1000000000) ∧ (¬ gone W lim a (b + 1) i → upd (A1 3) (a * 9 + b) 1000000000 i = A 3 i) := by
              intro i hi
              by_cases e : i = a * 9 + b
              · subst e
                exact ⟨fun _ => upd_at _ _ _, fun z => absurd (hg0.mpr hd1) z⟩
              · rw [upd_ne _ _ e, hgi i e]; exact k4 i hi
            have hk2 : ∀ k, ¬ k = 3 → (za A1 3 (upd (A1 3) (a * 9 + b) 1000000000)) k = (za A 18 f) k := fun k z => by rw [za_eq, if_neg z]; exact k2 k z
            refine x_aload_n (pc := 121) d_Tai_dropArcsAbove_121 rfl ?_
            refine x_get (pc := 122) (j := 0) d_Tai_dropArcsAbove_122 f_Tai_29 rfl rfl (Nat.le_of_ble_eq_true rfl) rfl rfl rfl ?_
            refine x_iload_n (pc := 125) d_Tai_dropArcsAbove_125 rfl ?_
            refine x_iload (pc := 126) d_Tai_dropArcsAbove_126 rfl ?_
            refine x_ldc (pc := 128) (v := 1000000000) d_Tai_dropArcsAbove_128 i_Tai_62 ?_
            refine y_callV (pc := 130) hcc k_Net_changeCost d_Tai_dropArcsAbove_130 m_Tai_100 (by decide) rfl rfl rfl rfl p_Net_changeCost (K := fun v2 V2 A2 hq => ?_)
            obtain ⟨rfl, e1, rfl⟩ := hq; rw [e1]
            refine x_ldc (pc := 133) (v := 1000000000) d_Tai_dropArcsAbove_133 i_Tai_62 ?_
            refine x_icmp_eq (pc := 135) (tgt := 141) d_Tai_dropArcsAbove_135 (by decide) (fun h135 => ?_) (fun h135 => ?_)
            · refine y_inc4 (pc := 141) (v := 1) d_Tai_dropArcsAbove_141 (by decide) ?_
              refine x_goto (pc := 144) (tgt := 94) d_Tai_dropArcsAbove_144 (by decide) ?_
              rw [show nI b + 1 = nI (b + 1) from (nI_succ b).symm]
              have hn : W.ar a b = none := (zEc_no (b := 1000) (by omega) (hW.arB a b)).mp h135
              rw [if_pos h135.symm]
              have hi0 : ind W lim a b = 0 := by unfold ind; rw [if_neg (fun z => z.2 hn)]
              refine ihb V1 _ cnt (by rw [hst, hi0]; omega) k1 hk2 k3 hgs (fun z => ?_)
              show upd (A1 3) _ _ = A 3
              rw [upd_same (by rw [hold, h135]), k5 z]
            · refine y_inc2 (pc := 138) (v := 1) d_Tai_dropArcsAbove_138 (by decide) ?_
              refine y_inc4 (pc := 141) (v := 1) d_Tai_dropArcsAbove_141 (by decide) ?_
              refine x_goto (pc := 144) (tgt := 94) d_Tai_dropArcsAbove_144 (by decide) ?_
              rw [show nI b + 1 = nI (b + 1) from (nI_succ b).symm]
              rw [show nI cnt + 1 = nI (cnt + 1) from (nI_succ cnt).symm, if_neg (fun z => h135 z.symm)]
              have hi1 : ind W lim a b = 1 := by unfold ind; rw [if_pos ⟨hd1, fun z => h135 (by rw [z]; rfl)⟩]
              refine ihb _ _ (cnt + 1) (by rw [hst, hi1]; omega) (fun k j z => by rw [zv_eq, if_neg z]; exact k1 k j z) hk2 ?_ hgs (fun z => by omega)
              show V1 1 8 + 1 = _
              rw [k3, ← Nat.add_assoc, nI_succ]
      refine x_iload_n (pc := 80) d_Tai_dropArcsAbove_80 rfl ?_
      refine x_aload_n (pc := 81) d_Tai_dropArcsAbove_81 rfl ?_
      refine x_get (pc := 82) (j := 0) d_Tai_dropArcsAbove_82 f_Tai_29 rfl rfl (Nat.le_of_ble_eq_true rfl) rfl rfl rfl ?_
      refine x_get (pc := 85) (j := 4) d_Tai_dropArcsAbove_85 f_Tai_46 rfl rfl (Nat.le_of_ble_eq_true rfl) rfl rfl rfl ?_
      rw [show V1 1 4 = nI W.n from (k1 1 4 (by omega)).trans hC.n]
      refine x_icmp_ge (pc := 88) (tgt := 153) d_Tai_dropArcsAbove_88 (by decide) (fun h => absurd h (nI_ge (by omega) (by omega))) (fun h88 => ?_)
      refine x_iconst (pc := 91) (v := 0) d_Tai_dropArcsAbove_91 (by decide) ?_
      refine y_ist4 (pc := 92) d_Tai_dropArcsAbove_92 ?_
      exact hI 0 (Nat.zero_le _) V1 A1 cnt (by rw [hcnt]; rfl) k1 k2 k3 k4 k5
  have hL1 : ∀ a, a ≤ W.n → ∀ (f : Nat → Int32) (q3 q4 : Value), q3.category = 1 → q4.category = 1 → (∀ a' b, a' < a → b < W.n → f (a' * 9 + b) = if dB (thT W a' b) lim = true then 1 else 0) → X Y_Tai_dropArcsAbove (zrm 3) (0, fun _ => 0) (zFq 3 (fun ρ V' A' => ∃ cnt, cnt = zNS.s (fun a => zNS.s (fun b => ind W lim a b) W.n) W.n ∧ ρ = nI cnt ∧ (∀ k j, ¬ (k = 1 ∧ j = 8) → V' k j = V k j) ∧ (∀ k, ¬ k = 3 → ¬ k = 18 → A' k = A k) ∧ V' 1 8 = nI (ch + cnt) ∧ (∀ i, i < 81 → (gone W lim W.n 0 i → A' 3 i = 1000000000) ∧ (¬ gone W lim W.n 0 i → A' 3 i = A 3 i)) ∧ (cnt = 0 → A' 3 = A 3))) 2 [.ref 16, .int lim, .int (nI a), q3, q4] [] (cells V (za A 18 f)) 0 0 := by
    refine z_down (fun f q3 q4 h3 h4 hf => ?_) (fun a ha ih f q3 q4 h3 h4 hf => ?_)
    · refine x_iload_n (pc := 2) d_Tai_dropArcsAbove_2 rfl ?_
      refine x_aload_n (pc := 3) d_Tai_dropArcsAbove_3 rfl ?_
      refine x_get (pc := 4) (j := 0) d_Tai_dropArcsAbove_4 f_Tai_29 rfl rfl (Nat.le_of_ble_eq_true rfl) rfl rfl rfl ?_
      refine x_get (pc := 7) (j := 4) d_Tai_dropArcsAbove_7 f_Tai_46 rfl rfl (Nat.le_of_ble_eq_true rfl) rfl rfl rfl ?_
      rw [(hC8 f).n]
      refine x_icmp_ge (pc := 10) (tgt := 76) d_Tai_dropArcsAbove_10 (by decide) (fun h10 => ?_) (fun h => absurd (nI_le (by omega) (by omega)) h)
      refine x_iconst (pc := 76) (v := 0) d_Tai_dropArcsAbove_76 (by decide) ?_
      refine y_ist2 (pc := 77) d_Tai_dropArcsAbove_77 ?_
      refine x_iconst (pc := 78) (v := 0) d_Tai_dropArcsAbove_78 (by decide) ?_
      refine y_ist3 (pc := 79) d_Tai_dropArcsAbove_79 ?_
      exact hL2 f (fun a b h1 h2 => hf a b h1 h2) 0 (Nat.zero_le _) V _ 0 _ h4 rfl (fun _ _ _ => rfl) (fun _ _ => rfl) hch (fun i hi => ⟨fun z => by have := z.1; omega, fun _ => rfl⟩) (fun _ => rfl)
    · have hI : ∀ b, b ≤ W.n → ∀ (f : Nat → Int32) (q4 : Value), q4.category = 1 → (∀ a' b, a' < a → b < W.n → f (a' * 9 + b) = if dB (thT W a' b) lim = true then 1 else 0) → (∀ b', b' < b → f (a * 9 + b') = if dB (thT W a b') lim = true then 1 else 0) → X Y_Tai_dropArcsAbove (zrm 3) (0, fun _ => 0) (zFq 3 (fun ρ V' A' => ∃ cnt, cnt = zNS.s (fun a => zNS.s (fun b => ind W lim a b) W.n) W.n ∧ ρ = nI cnt ∧ (∀ k j, ¬ (k = 1 ∧ j = 8) → V' k j = V k j) ∧ (∀ k, ¬ k = 3 → ¬ k = 18 → A' k = A k) ∧ V' 1 8 = nI (ch + cnt) ∧ (∀ i, i < 81 → (gone W lim W.n 0 i → A' 3 i = 1000000000) ∧ (¬ gone W lim W.n 0 i → A' 3 i = A 3 i)) ∧ (cnt = 0 → A' 3 = A 3))) 15 [.ref 16, .int lim, .int (nI a), .int (nI b), q4] [] (cells V (za A 18 f)) 0 0 := by
        refine z_down (fun f q4 h4 hf hg => ?_) (fun b hb ihb f q4 h4 hf hg => ?_)
        · refine x_iload_n (pc := 15) d_Tai_dropArcsAbove_15 rfl ?_
          refine x_aload_n (pc := 16) d_Tai_dropArcsAbove_16 rfl ?_
          refine x_get (pc := 17) (j := 0) d_Tai_dropArcsAbove_17 f_Tai_29 rfl rfl (Nat.le_of_ble_eq_true rfl) rfl rfl rfl ?_
          refine x_get (pc := 20) (j := 4) d_Tai_dropArcsAbove_20 f_Tai_46 rfl rfl (Nat.le_of_ble_eq_true rfl) rfl rfl rfl ?_
          rw [(hC8 f).n]
          refine x_icmp_ge (pc := 23) (tgt := 70) d_Tai_dropArcsAbove_23 (by decide) (fun h23 => ?_) (fun h => absurd (nI_le (by omega) (by omega)) h)
          refine y_inc2 (pc := 70) (v := 1) d_Tai_dropArcsAbove_70 (by decide) ?_
          refine x_goto (pc := 73) (tgt := 2) d_Tai_dropArcsAbove_73 (by decide) ?_
          rw [show nI a + 1 = nI (a + 1) from (nI_succ a).symm]
          refine ih f _ _ rfl h4 (fun a' b h1 h2 => ?_)
          by_cases e : a' = a
          · rw [e]; exact hg b h2
          · exact hf a' b (by omega) h2
        · have ix1 : nI a * 9 + nI b = nI (a * 9 + b) := by rw [show (9 : Int32) = nI 9 from rfl, pk_mul, nI_add]
          have c1 : (nI (a * 9 + b)).toNatClampNeg = a * 9 + b := nI_clamp (by omega)
          have hlt := c_Tai_leastThrough V (za A 18 f) hW (hC8 f) (by rw [zta18]; exact hsh) (W.mo - 1) hmo hT htb a b lim ha hb
          rw [hmo] at hlt
          have hfin : ∀ (v : Int32) (q4 : Value), q4.category = 1 → v = (if dB (thT W a b) lim = true then 1 else 0) → X Y_Tai_dropArcsAbove (zrm 3) (0, fun _ => 0) (zFq 3 (fun ρ V' A' => ∃ cnt, cnt = zNS.s (fun a => zNS.s (fun b => ind W lim a b) W.n) W.n ∧ ρ = nI cnt ∧ (∀ k j, ¬ (k = 1 ∧ j = 8) → V' k j = V k j) ∧ (∀ k, ¬ k = 3 → ¬ k = 18 → A' k = A k) ∧ V' 1 8 = nI (ch + cnt) ∧ (∀ i, i < 81 → (gone W lim W.n 0 i → A' 3 i = 1000000000) ∧ (¬ gone W lim W.n 0 i → A' 3 i = A 3 i)) ∧ (cnt = 0 → A' 3 = A 3))) 15 [.ref 16, .int lim, .int (nI a), .int (nI (b + 1)), q4] [] (cells V (za A 18 (upd f (a * 9 + b) v))) 0 0 := by
            intro v q4 h4 hv
            refine ihb _ q4 h4 (fun a' b' h1 h2 => ?_) (fun b' h1 => ?_)
            · exact (upd_ne _ _ (by omega)).trans (hf a' b' h1 h2)
            · by_cases e : b' = b
              · rw [e, ← hv]; exact upd_at _ _ _
              · exact (upd_ne _ _ (by omega)).trans (hg b' (by omega))
          refine x_iload_n (pc := 15) d_Tai_dropArcsAbove_15 rfl ?_
          refine x_aload_n (pc := 16) d_Tai_dropArcsAbove_16 rfl ?_
          refine x_get (pc := 17) (j := 0) d_Tai_dropArcsAbove_17 f_Tai_29 rfl rfl (Nat.le_of_ble_eq_true rfl) rfl rfl rfl ?_
          refine x_get (pc := 20) (j := 4) d_Tai_dropArcsAbove_20 f_Tai_46 rfl rfl (Nat.le_of_ble_eq_true rfl) rfl rfl rfl ?_
          rw [(hC8 f).n]
          refine x_icmp_ge (pc := 23) (tgt := 70) d_Tai_dropArcsAbove_23 (by decide) (fun h => absurd h (nI_ge (by omega) (by omega))) (fun h23 => ?_)
          refine x_aload_n (pc := 26) d_Tai_dropArcsAbove_26 rfl ?_
          refine x_iload_n (pc := 27) d_Tai_dropArcsAbove_27 rfl ?_
          refine x_iload_n (pc := 28) d_Tai_dropArcsAbove_28 rfl ?_
          refine x_iload_n (pc := 29) d_Tai_dropArcsAbove_29 rfl ?_
          refine y_callV (pc := 30) hlt k_Tai_leastThrough d_Tai_dropArcsAbove_30 m_Tai_97 (by decide) rfl rfl rfl rfl p_Tai_leastThrough (K := fun v2 V2 A2 hq => ?_)
          obtain ⟨⟨o, rfl, ho, hth⟩, e1, e2⟩ := hq; rw [e1, e2]; have hth : thO (thT W a b) o lim := hth
          refine y_ist4 (pc := 33) d_Tai_dropArcsAbove_33 ?_
          refine x_aload_n (pc := 35) d_Tai_dropArcsAbove_35 rfl ?_
          refine x_get (pc := 36) (j := 4) d_Tai_dropArcsAbove_36 f_Tai_15 rfl rfl (Nat.le_of_ble_eq_true rfl) rfl rfl rfl ?_
          refine x_iload_n (pc := 39) d_Tai_dropArcsAbove_39 rfl ?_
          refine x_bipush (pc := 40) (v := 9) d_Tai_dropArcsAbove_40 (by decide) ?_
          refine x_imul (pc := 42) d_Tai_dropArcsAbove_42 ?_
          refine x_iload_n (pc := 43) d_Tai_dropArcsAbove_43 rfl ?_
          refine x_iadd (pc := 44) d_Tai_dropArcsAbove_44 ?_
          rw [ix1]
          refine x_iload (pc := 45) d_Tai_dropArcsAbove_45 rfl ?_
          refine x_ldc (pc := 47) (v := 1000000000) d_Tai_dropArcsAbove_47 i_Tai_62 ?_
          refine x_icmp_eq (pc := 49) (tgt := 58) d_Tai_dropArcsAbove_49 (by decide) (fun h49 => ?_) (fun h49 => ?_)
          · refine x_iconst (pc := 58) (v := 1) d_Tai_dropArcsAbove_58 (by decide) ?_
            refine x_goto (pc := 59) (tgt := 63) d_Tai_dropArcsAbove_59 (by decide) ?_
            refine y_zast (pc := 63) d_Tai_dropArcsAbove_63 rfl (fun _ => rfl) (vp_in_nI (by omega) (by decide)) ?_
            refine y_inc3 (pc := 64) (v := 1) d_Tai_dropArcsAbove_64 (by decide) ?_
            refine x_goto (pc := 67) (tgt := 15) d_Tai_dropArcsAbove_67 (by decide) ?_
            rw [show nI b + 1 = nI (b + 1) from (nI_succ b).symm]
            rw [za_za, c1]
            exact hfin _ _ rfl (by rw [if_pos (dB_1 ho hth h49)]; rfl)
          · refine x_iload (pc := 52) d_Tai_dropArcsAbove_52 rfl ?_
            refine x_iload_n (pc := 54) d_Tai_dropArcsAbove_54 rfl ?_
            refine x_icmp_le (pc := 55) (tgt := 62) d_Tai_dropArcsAbove_55 (by decide) (fun h55 => ?_) (fun h55 => ?_)
            · refine x_iconst (pc := 62) (v := 0) d_Tai_dropArcsAbove_62 (by decide) ?_
              refine y_zast (pc := 63) d_Tai_dropArcsAbove_63 rfl (fun _ => rfl) (vp_in_nI (by omega) (by decide)) ?_
              refine y_inc3 (pc := 64) (v := 1) d_Tai_dropArcsAbove_64 (by decide) ?_
              refine x_goto (pc := 67) (tgt := 15) d_Tai_dropArcsAbove_67 (by decide) ?_
              rw [show nI b + 1 = nI (b + 1) from (nI_succ b).symm]
              rw [za_za, c1]
              exact hfin _ _ rfl (by rw [dB_2 ho hth h49 h55]; rfl)
            · refine x_iconst (pc := 58) (v := 1) d_Tai_dropArcsAbove_58 (by decide) ?_
              refine x_goto (pc := 59) (tgt := 63) d_Tai_dropArcsAbove_59 (by decide) ?_
              refine y_zast (pc := 63) d_Tai_dropArcsAbove_63 rfl (fun _ => rfl) (vp_in_nI (by omega) (by decide)) ?_
              refine y_inc3 (pc := 64) (v := 1) d_Tai_dropArcsAbove_64 (by decide) ?_
              refine x_goto (pc := 67) (tgt := 15) d_Tai_dropArcsAbove_67 (by decide) ?_
              rw [show nI b + 1 = nI (b + 1) from (nI_succ b).symm]
              rw [za_za, c1]
              exact hfin _ _ rfl (by rw [if_pos (dB_3 ho hth h49 h55)]; rfl)
      refine x_iload_n (pc := 2) d_Tai_dropArcsAbove_2 rfl ?_
      refine x_aload_n (pc := 3) d_Tai_dropArcsAbove_3 rfl ?_
      refine x_get (pc := 4) (j := 0) d_Tai_dropArcsAbove_4 f_Tai_29 rfl rfl (Nat.le_of_ble_eq_true rfl) rfl rfl rfl ?_
      refine x_get (pc := 7) (j := 4) d_Tai_dropArcsAbove_7 f_Tai_46 rfl rfl (Nat.le_of_ble_eq_true rfl) rfl rfl rfl ?_
      rw [(hC8 f).n]
      refine x_icmp_ge (pc := 10) (tgt := 76) d_Tai_dropArcsAbove_10 (by decide) (fun h => absurd h (nI_ge (by omega) (by omega))) (fun h10 => ?_)
      refine x_iconst (pc := 13) (v := 0) d_Tai_dropArcsAbove_13 (by decide) ?_
      refine y_ist3 (pc := 14) d_Tai_dropArcsAbove_14 ?_
      exact hI 0 (Nat.zero_le _) f _ h4 hf (fun b' h => absurd h (Nat.not_lt_zero b'))
  refine CQ.of (lv := [.ref 16, .int lim, zu, zu, zu]) k_Tai_dropArcsAbove.1 rfl (by decide) rfl rfl (Nat.le_of_ble_eq_true rfl) ?_
  refine x_iconst (pc := 0) (v := 0) d_Tai_dropArcsAbove_0 (by decide) ?_
  refine y_ist2 (pc := 1) d_Tai_dropArcsAbove_1 ?_
  have h0 := hL1 0 (Nat.zero_le _) (A 18) zu zu rfl rfl (fun a' b h => absurd h (Nat.not_lt_zero a'))
  rw [za_self] at h0
  exact h0
set_option maxRecDepth 100000 in
set_option maxHeartbeats 4000000 in
theorem c_CW_filter {W : zW} (V A : zV) (hW : zWok W) (hC : WC W V A) (h70 : A 7 0 = 0) (hsh : V 13 6 = V 1 8 → shOK W (zta A)) (hta : V 16 5 = V 1 8 → taOK W (V 16 6) (V 16 7) (A 17)) (lim : Int32) (ch : Nat) (hch : V 1 8 = nI ch) : CQ Y_CW_filter 30 [.ref 0, .int lim] V A (fun ρ V' A' => ∃ V2 A2 cnt, PFT W V A V2 A2 ∧ cnt = zNS.s (fun a => zNS.s (fun b => ind W lim a b) W.n) W.n ∧ ρ = nI cnt ∧ (∀ k j, ¬ (k = 1 ∧ j = 8) → V' k j = V2 k j) ∧ (∀ k, ¬ k = 3 → ¬ k = 18 → A' k = A2 k) ∧ V' 1 8 = nI (ch + cnt) ∧ (∀ i, i < 81 → (gone W lim W.n 0 i → A' 3 i = 1000000000) ∧ (¬ gone W lim W.n 0 i → A' 3 i = A2 3 i)) ∧ (cnt = 0 → A' 3 = A2 3)) := by
  have h9 := hW.h9
  have hm1 := hW.m1
  have h0p : 0 < 2 ^ (W.n - 1) := Nat.pos_of_ne_zero (by simp)
  have hall : 2 ^ (W.n - 1) - 1 < 2 ^ (W.n - 1) := by omega
  refine CQ.of (lv := [.ref 0, .int lim]) k_CW_filter.1 rfl (by decide) rfl rfl (Nat.le_of_ble_eq_true rfl) ?_
  refine x_aload_n (pc := 0) d_CW_filter_0 rfl ?_
  refine x_get (pc := 1) (j := 1) d_CW_filter_1 f_CW_26 rfl rfl (Nat.le_of_ble_eq_true rfl) rfl rfl rfl ?_
  refine y_callVu (pc := 4) (c_Sha_refresh _ _ hW hC h70 hsh) k_Sha_refresh d_CW_filter_4 m_CW_126 (by decide) rfl rfl rfl rfl p_Sha_refresh (K := fun V1 A1 hq => ?_)
  obtain ⟨g1, g2, g3, g4, g5⟩ := hq
  have hta2 : V1 16 5 = V1 1 8 → taOK W (V1 16 6) (V1 16 7) (A1 17) := by
    rw [g1 16 5 (by omega), g1 16 6 (by omega), g1 16 7 (by omega), g1 1 8 (by omega), g2 17 (by omega)]; exact hta
  refine x_aload_n (pc := 7) d_CW_filter_7 rfl ?_
  refine x_get (pc := 8) (j := 2) d_CW_filter_8 f_CW_35 rfl rfl (Nat.le_of_ble_eq_true rfl) rfl rfl rfl ?_
  refine x_aload_n (pc := 11) d_CW_filter_11 rfl ?_
  refine x_get (pc := 12) (j := 0) d_CW_filter_12 f_CW_10 rfl rfl (Nat.le_of_ble_eq_true rfl) rfl rfl rfl ?_
  refine y_fV (pc := 15) (w_allPlaces _ _ hW (g1.C g2 hC)) k_Net_allPlaces d_CW_filter_15 m_CW_145 (by decide) rfl rfl rfl rfl p_Net_allPlaces (K := ?_)
  refine x_aload_n (pc := 18) d_CW_filter_18 rfl ?_
  refine x_get (pc := 19) (j := 0) d_CW_filter_19 f_CW_10 rfl rfl (Nat.le_of_ble_eq_true rfl) rfl rfl rfl ?_
  refine x_get (pc := 22) (j := 5) d_CW_filter_22 f_CW_148 rfl rfl (Nat.le_of_ble_eq_true rfl) rfl rfl rfl ?_
  rw [show V1 1 5 = nI (W.mo - 1 + 1) from (by rw [(g1.C g2 hC).mo, show W.mo - 1 + 1 = W.mo by omega])]
  refine y_callVu (pc := 25) (c_Tai_fill _ _ hW (g1.C g2 hC) g5 (2 ^ (W.n - 1) - 1) (W.mo - 1) hall (by omega) hta2) k_Tai_fill d_CW_filter_25 m_CW_151 (by decide) rfl rfl rfl rfl p_Tai_fill (K := fun V2 A2 hq2 => ?_)
  obtain ⟨f1, f2, f3, f4, f5⟩ := hq2
  refine x_aload_n (pc := 28) d_CW_filter_28 rfl ?_
  refine x_get (pc := 29) (j := 2) d_CW_filter_29 f_CW_35 rfl rfl (Nat.le_of_ble_eq_true rfl) rfl rfl rfl ?_
  refine x_iload_n (pc := 32) d_CW_filter_32 rfl ?_
  refine y_callV (pc := 33) (c_Tai_dropArcsAbove _ _ hW (tf_C f1 f2 (g1.C g2 hC)) (f2.S g5) f4 f5 lim ch ((f1 1 8 (by omega)).trans ((g1 1 8 (by omega)).trans hch))) k_Tai_dropArcsAbove d_CW_filter_33 m_CW_162 (by decide) rfl rfl rfl rfl p_Tai_dropArcsAbove (K := fun v3 V3 A3 hq3 => ?_)
  obtain ⟨cnt, hcnt, rfl, d1⟩ := hq3
  refine y_iret (pc := 36) d_CW_filter_36 rfl ?_
  exact ⟨V2, A2, cnt, ⟨V1, A1, ⟨g1, g2, g3, g4, g5⟩, f1, f2, f3, f4, f5⟩, hcnt, rfl, d1⟩
set_option maxRecDepth 100000 in
set_option maxHeartbeats 4000000 in
theorem c_Mo_filter {W : zW} (V A : zV) (hW : zWok W) (hR : WR W V A) (hk : V 36 13 = 0 ∨ (V 36 13 = 1 ∧ KN0 W V A)) (lim : Int32) : CQ Y_Mo_filter 50 [.ref 36, .int lim] V A (fun ρ V' A' => ρ = nI (zNS.s (fun i => ind W lim (i / 9) (i % 9)) 81) ∧ (∀ k j, ¬ (k = 36 ∧ (j = 0 ∨ j = 13 ∨ j = 14 ∨ j = 15 ∨ j = 19 ∨ j = 21 ∨ j = 22 ∨ j = 23 ∨ j = 24 ∨ j = 25)) → V' k j = V k j) ∧ (∀ k, ¬ k = 38 → ¬ (44 ≤ k ∧ k ≤ 47) → A' k = A k) ∧ V' 36 13 = 0 ∧ ∀ i, i < 81 → A' 38 i = if ind W lim (i / 9) (i % 9) = 1 then 1000000 else A 38 i) := by
  have h9 := hW.h9
  have hF0 : KF V A (zv V 36 0 0) A := (KF_rf V A).V (by omega) _
  have hk0 : (zv V 36 0 0) 36 13 = 0 ∨ ((zv V 36 0 0) 36 13 = 1 ∧ KN0 W (zv V 36 0 0) A) := hk
  have hL : ∀ V1 A1 : zV, KF V A V1 A1 → KN0 W V1 A1 → ∀ k, k ≤ 81 → ∀ g : Nat → Int32, (∀ i, i < k → g i = if ind W lim (i / 9) (i % 9) = 1 then 1000000 else A 38 i) → (∀ i, k ≤ i → g i = A 38 i) → X Y_Mo_filter (zrm 50) (0, fun _ => 0) (zFq 50 (fun ρ V' A' => ρ = nI (zNS.s (fun i => ind W lim (i / 9) (i % 9)) 81) ∧ (∀ k j, ¬ (k = 36 ∧ (j = 0 ∨ j = 13 ∨ j = 14 ∨ j = 15 ∨ j = 19 ∨ j = 21 ∨ j = 22 ∨ j = 23 ∨ j = 24 ∨ j = 25)) → V' k j = V k j) ∧ (∀ k, ¬ k = 38 → ¬ (44 ≤ k ∧ k ≤ 47) → A' k = A k) ∧ V' 36 13 = 0 ∧ ∀ i, i < 81 → A' 38 i = if ind W lim (i / 9) (i % 9) = 1 then 1000000 else A 38 i)) 13 [.ref 36, .int lim, .int (nI (zNS.s (fun i => ind W lim (i / 9) (i % 9)) k)), .int (nI k)] [] (cells V1 (za A1 38 g)) 0 0 := by
    intro V1 A1 hF hK
    refine z_down (fun g hg hg2 => ?_) (fun k hk ih g hg hg2 => ?_)
    · refine x_iload_n (pc := 13) d_Mo_filter_13 rfl ?_
      refine x_bipush (pc := 14) (v := 81) d_Mo_filter_14 (by decide) ?_
      refine x_icmp_ge (pc := 16) (tgt := 68) d_Mo_filter_16 (by decide) (fun h16 => ?_) (fun h => absurd (show nI 81 ≤ nI 81 by decide) h)
      refine x_aload_n (pc := 68) d_Mo_filter_68 rfl ?_
      refine x_iconst (pc := 69) (v := 0) d_Mo_filter_69 (by decide) ?_
      refine y_put (pc := 70) (j := 13) d_Mo_filter_70 f_Mo_80 rfl rfl (Nat.le_of_ble_eq_true rfl) rfl (Nat.le_of_ble_eq_true rfl) rfl rfl (fun _ => rfl) ?_
      refine x_iload_n (pc := 73) d_Mo_filter_73 rfl ?_
      refine y_iret (pc := 74) d_Mo_filter_74 rfl ?_
      exact ⟨rfl, (hF.V (by omega) _).1, fun k z1 z2 => by rw [za_eq, if_neg z1]; exact hF.2 k z2, rfl, hg⟩
    · have ck : (nI k).toNatClampNeg = k := nI_clamp (by omega)
      have hst : zNS.s (fun i => ind W lim (i / 9) (i % 9)) (k + 1) = zNS.s (fun i => ind W lim (i / 9) (i % 9)) k + ind W lim (k / 9) (k % 9) := rfl
      have hgk : g k = zEa (W.ar (k / 9) (k % 9)) := by
        rw [hg2 k (Nat.le_refl _)]
        have z := hR.ar (k / 9) (k % 9) (by omega) (by omega)
        rw [show 9 * (k / 9) + k % 9 = k by omega] at z; exact z
      have hwk : A1 44 k = zEf (thT W (k / 9) (k % 9)) := by
        have z := hK.2.2.2 (k / 9) (k % 9) (by omega) (by omega)
        rw [show 9 * (k / 9) + k % 9 = k by omega] at z; exact z
      have hkeep : ind W lim (k / 9) (k % 9) = 0 → X Y_Mo_filter (zrm 50) (0, fun _ => 0) (zFq 50 (fun ρ V' A' => ρ = nI (zNS.s (fun i => ind W lim (i / 9) (i % 9)) 81) ∧ (∀ k j, ¬ (k = 36 ∧ (j = 0 ∨ j = 13 ∨ j = 14 ∨ j = 15 ∨ j = 19 ∨ j = 21 ∨ j = 22 ∨ j = 23 ∨ j = 24 ∨ j = 25)) → V' k j = V k j) ∧ (∀ k, ¬ k = 38 → ¬ (44 ≤ k ∧ k ≤ 47) → A' k = A k) ∧ V' 36 13 = 0 ∧ ∀ i, i < 81 → A' 38 i = if ind W lim (i / 9) (i % 9) = 1 then 1000000 else A 38 i)) 13 [.ref 36, .int lim, .int (nI (zNS.s (fun i => ind W lim (i / 9) (i % 9)) k)), .int (nI (k + 1))] [] (cells V1 (za A1 38 g)) 0 0 := by
        intro z
        rw [hst, z, Nat.add_zero] at ih
        refine ih g (fun i hi => ?_) (fun i hi => hg2 i (by omega))
        by_cases e : i = k
        · rw [e, z, if_neg (by omega)]; exact hg2 k (Nat.le_refl _)
        · exact hg i (by omega)
      refine x_iload_n (pc := 13) d_Mo_filter_13 rfl ?_
      refine x_bipush (pc := 14) (v := 81) d_Mo_filter_14 (by decide) ?_
      refine x_icmp_ge (pc := 16) (tgt := 68) d_Mo_filter_16 (by decide) (fun h => absurd h (nI_ge (by omega) (by decide))) (fun h16 => ?_)
      refine x_aload_n (pc := 19) d_Mo_filter_19 rfl ?_
      refine x_get (pc := 20) (j := 3) d_Mo_filter_20 f_Mo_20 rfl rfl (Nat.le_of_ble_eq_true rfl) rfl rfl rfl ?_
      refine x_iload_n (pc := 23) d_Mo_filter_23 rfl ?_
      refine x_iald (pc := 24) d_Mo_filter_24 rfl (vp_in_nI (by omega) (by decide)) ?_
      rw [ck, show (za A1 38 g) 38 k = _ from hgk]
      refine x_ldc (pc := 25) (v := 1000000) d_Mo_filter_25 i_Mo_69 ?_
      refine x_icmp_eq (pc := 27) (tgt := 62) d_Mo_filter_27 (by decide) (fun h27 => ?_) (fun h27 => ?_)
      · refine y_inc3 (pc := 62) (v := 1) d_Mo_filter_62 (by decide) ?_
        refine x_goto (pc := 65) (tgt := 13) d_Mo_filter_65 (by decide) ?_
        rw [show nI k + 1 = nI (k + 1) from (nI_succ k).symm]
        have hn : W.ar (k / 9) (k % 9) = none := (zEa_no (b := 1000) (by omega) (hW.arB _ _)).mp h27
        exact hkeep (by unfold ind; rw [if_neg (fun z => z.2 hn)])
      · have hsm : ¬ W.ar (k / 9) (k % 9) = none := fun z => h27 (by rw [z]; rfl)
        have hxy : k / 9 < W.n ∧ k % 9 < W.n := by
          cases hq : W.ar (k / 9) (k % 9) with
          | none => exact absurd hq hsm
          | some y => have := hW.ar _ _ _ hq; exact ⟨this.1, this.2.1⟩
        have hBT : oB 200000 (thT W (k / 9) (k % 9)) := mkH_B hW _ _ hxy.1 hxy.2
        have hdrop : dB (thT W (k / 9) (k % 9)) lim = true → X Y_Mo_filter (zrm 50) (0, fun _ => 0) (zFq 50 (fun ρ V' A' => ρ = nI (zNS.s (fun i => ind W lim (i / 9) (i % 9)) 81) ∧ (∀ k j, ¬ (k = 36 ∧ (j = 0 ∨ j = 13 ∨ j = 14 ∨ j = 15 ∨ j = 19 ∨ j = 21 ∨ j = 22 ∨ j = 23 ∨ j = 24 ∨ j = 25)) → V' k j = V k j) ∧ (∀ k, ¬ k = 38 → ¬ (44 ≤ k ∧ k ≤ 47) → A' k = A k) ∧ V' 36 13 = 0 ∧ ∀ i, i < 81 → A' 38 i = if ind W lim (i / 9) (i % 9) = 1 then 1000000 else A 38 i)) 13 [.ref 36, .int lim, .int (nI (zNS.s (fun i => ind W lim (i / 9) (i % 9)) k + 1)), .int (nI (k + 1))] [] (cells V1 (za A1 38 (upd g k 1000000))) 0 0 := by
          intro z
          have hi1 : ind W lim (k / 9) (k % 9) = 1 := by unfold ind; rw [if_pos ⟨z, hsm⟩]
          rw [hst, hi1] at ih
          refine ih _ (fun i hi => ?_) (fun i hi => (upd_ne _ _ (by omega)).trans (hg2 i (by omega)))
          by_cases e : i = k
          · rw [e, hi1, if_pos rfl]; exact upd_at _ _ _
          · exact (upd_ne _ _ e).trans (hg i (by omega))
        refine x_aload_n (pc := 30) d_Mo_filter_30 rfl ?_
        refine x_get (pc := 31) (j := 16) d_Mo_filter_31 f_Mo_45 rfl rfl (Nat.le_of_ble_eq_true rfl) rfl rfl rfl ?_
        refine x_iload_n (pc := 34) d_Mo_filter_34 rfl ?_
        refine x_iald (pc := 35) d_Mo_filter_35 rfl (vp_in_nI (by omega) (by decide)) ?_
        rw [ck, show (za A1 38 g) 44 k = _ from hwk]
        refine x_ldc (pc := 36) (v := 900000) d_Mo_filter_36 i_Mo_101 ?_
        refine x_icmp_eq (pc := 38) (tgt := 51) d_Mo_filter_38 (by decide) (fun h38 => ?_) (fun h38 => ?_)
        · refine x_aload_n (pc := 51) d_Mo_filter_51 rfl ?_
          refine x_get (pc := 52) (j := 3) d_Mo_filter_52 f_Mo_20 rfl rfl (Nat.le_of_ble_eq_true rfl) rfl rfl rfl ?_
          refine x_iload_n (pc := 55) d_Mo_filter_55 rfl ?_
          refine x_ldc (pc := 56) (v := 1000000) d_Mo_filter_56 i_Mo_69 ?_
          refine y_iast (pc := 58) d_Mo_filter_58 rfl (fun _ => rfl) (vp_in_nI (by omega) (by decide)) ?_
          refine y_inc2 (pc := 59) (v := 1) d_Mo_filter_59 (by decide) ?_
          refine y_inc3 (pc := 62) (v := 1) d_Mo_filter_62 (by decide) ?_
          refine x_goto (pc := 65) (tgt := 13) d_Mo_filter_65 (by decide) ?_
          rw [show nI k + 1 = nI (k + 1) from (nI_succ k).symm]
          rw [za_za, ck, show nI (zNS.s (fun i => ind W lim (i / 9) (i % 9)) k) + 1 = nI (zNS.s (fun i => ind W lim (i / 9) (i % 9)) k + 1) from (nI_succ _).symm]
          exact hdrop (by rw [(zEf_no (b := 200000) (by omega) hBT).mp h38]; rfl)
        · cases hT : thT W (k / 9) (k % 9) with
          | none => exact absurd (by rw [hT]; rfl) h38
          | some y =>
            have hyb := hBT y hT
            rw [hT] at hwk
            refine x_aload_n (pc := 41) d_Mo_filter_41 rfl ?_
            refine x_get (pc := 42) (j := 16) d_Mo_filter_42 f_Mo_45 rfl rfl (Nat.le_of_ble_eq_true rfl) rfl rfl rfl ?_
            refine x_iload_n (pc := 45) d_Mo_filter_45 rfl ?_
            refine x_iald (pc := 46) d_Mo_filter_46 rfl (vp_in_nI (by omega) (by decide)) ?_
            rw [ck, show (za A1 38 g) 44 k = _ from hwk]
            refine x_iload_n (pc := 47) d_Mo_filter_47 rfl ?_
            refine x_icmp_le (pc := 48) (tgt := 62) d_Mo_filter_48 (by decide) (fun h48 => ?_) (fun h48 => ?_)
            · refine y_inc3 (pc := 62) (v := 1) d_Mo_filter_62 (by decide) ?_
              refine x_goto (pc := 65) (tgt := 13) d_Mo_filter_65 (by decide) ?_
              rw [show nI k + 1 = nI (k + 1) from (nI_succ k).symm]
              exact hkeep (by unfold ind; rw [if_neg (fun z => by have y2 := z.1; rw [hT] at y2; exact (zEf_gt hyb lim).mp h48 (of_decide_eq_true y2))])
            · refine x_aload_n (pc := 51) d_Mo_filter_51 rfl ?_
              refine x_get (pc := 52) (j := 3) d_Mo_filter_52 f_Mo_20 rfl rfl (Nat.le_of_ble_eq_true rfl) rfl rfl rfl ?_
              refine x_iload_n (pc := 55) d_Mo_filter_55 rfl ?_
              refine x_ldc (pc := 56) (v := 1000000) d_Mo_filter_56 i_Mo_69 ?_
              refine y_iast (pc := 58) d_Mo_filter_58 rfl (fun _ => rfl) (vp_in_nI (by omega) (by decide)) ?_
              refine y_inc2 (pc := 59) (v := 1) d_Mo_filter_59 (by decide) ?_
              refine y_inc3 (pc := 62) (v := 1) d_Mo_filter_62 (by decide) ?_
              refine x_goto (pc := 65) (tgt := 13) d_Mo_filter_65 (by decide) ?_
              rw [show nI k + 1 = nI (k + 1) from (nI_succ k).symm]
              rw [za_za, ck, show nI (zNS.s (fun i => ind W lim (i / 9) (i % 9)) k) + 1 = nI (zNS.s (fun i => ind W lim (i / 9) (i % 9)) k + 1) from (nI_succ _).symm]
              exact hdrop (by rw [hT]; exact decide_eq_true (Classical.byContradiction (fun z => h48 ((zEf_gt hyb lim).mpr z))))
  refine CQ.of (lv := [.ref 36, .int lim, zu, zu]) k_Mo_filter.1 rfl (by decide) rfl rfl (Nat.le_of_ble_eq_true rfl) ?_
  refine x_aload_n (pc := 0) d_Mo_filter_0 rfl ?_
  refine x_iconst (pc := 1) (v := 0) d_Mo_filter_1 (by decide) ?_
  refine y_put (pc := 2) (j := 0) d_Mo_filter_2 f_Mo_1 rfl rfl (Nat.le_of_ble_eq_true rfl) rfl (Nat.le_of_ble_eq_true rfl) rfl rfl (fun _ => rfl) ?_
  refine x_aload_n (pc := 5) d_Mo_filter_5 rfl ?_
  refine y_callVu (pc := 6) (c_Mo_know _ _ hW (hF0.R hR) hk0) k_Mo_know d_Mo_filter_6 m_Mo_144 (by decide) rfl rfl rfl rfl p_Mo_know (K := fun V2 A2 hq => ?_)
  obtain ⟨g1, -, g2, g3⟩ := hq
  refine x_iconst (pc := 9) (v := 0) d_Mo_filter_9 (by decide) ?_
  refine y_ist2 (pc := 10) d_Mo_filter_10 ?_
  refine x_iconst (pc := 11) (v := 0) d_Mo_filter_11 (by decide) ?_
  refine y_ist3 (pc := 12) d_Mo_filter_12 ?_
  have h0 := hL V2 A2 (KF_tr hF0 g1) g3 0 (Nat.zero_le _) (A2 38) (fun i hi => absurd hi (Nat.not_lt_zero i)) (fun i _ => by rw [g1.2 38 (by omega)])
  rw [za_self] at h0
  exact h0
theorem IvS.mv {ch ch' : Nat} {s : Int32} {G G' : Prop} (h : IvS ch s G) (hc : ch ≤ ch') (hG : ch' = ch → G → G') : IvS ch' s G' := by
  rcases h with h | ⟨q, h1, h2, h3⟩
  · exact Or.inl h
  · refine Or.inr ⟨q, by omega, h2, fun e => ?_⟩
    have e2 : ch' = ch := by omega
    exact hG e2 (h3 (by omega))
theorem pr_filter (lim : Int32) : Pair SHp TAp FIp KNp Y_CW_filter Y_Mo_filter 30 50 [.int lim] := by
  intro c V A hc hI
  obtain ⟨W, hW, hWc, hC, hR, h70, hsh, hta, hfi, hkn⟩ := InvP.facts hI hc
  obtain ⟨n, ch, ⟨h19, hn, hn'⟩, hR', hL, hC', hP, hAh, hW', hX, hQ, ⟨hch1, hch2⟩, ⟨⟨t0, t1⟩, t2, t3⟩, hK⟩ := id hI
  have h9 := hW.h9
  have en : n = W.n := (nI_eq (by omega) (by omega)).mp (hn.symm.trans hC.n)
  subst en
  refine CQ.mono (c_CW_filter V A hW hC h70 hsh hta lim ch hch1) (fun r V3 A3 h => ?_)
  obtain ⟨V2, A2, cnt, hp, hcnt, rfl, d1, d2, d3, d4, d5⟩ := h
  have hRp := PFT_R hp hR
  have hKp := PFT_K hp hkn
  obtain ⟨V1, A1, ⟨g1, g2, g3, g4, g5⟩, f1, f2, f3, f4, f5⟩ := id hp
  have hR3 : WR W V3 A3 := hRp.same (fun j z1 z2 => d1 36 j (by omega)) (fun k z1 z2 => d2 k (by omega) (by omega))
  have hK3 : V3 36 13 = 0 ∨ (V3 36 13 = 1 ∧ KN0 W V3 A3) := by
    unfold KN0 at hKp ⊢
    rw [d1 36 13 (by omega), d1 36 14 (by omega), d1 36 15 (by omega), d1 36 19 (by omega), d2 44 (by omega) (by omega), d2 45 (by omega) (by omega), d2 46 (by omega) (by omega)]
    exact hKp
  refine CQ.mono (c_Mo_filter _ _ hW hR3 hK3 lim) (fun r' V4 A4 h2 => ?_)
  obtain ⟨rfl, m1, m2, m3, m4⟩ := h2
  have hcle : cnt ≤ 81 := by
    rw [hcnt, ← ind_sum hW]
    exact ns_le (fun i => ind_le W lim _ _)
  refine ⟨by rw [hcnt, ind_sum hW], ?_⟩
  -- what is read of the old memory
  have v : ∀ k j, ¬ (k = 1 ∧ j = 8) → ¬ (k = 13 ∧ (j = 4 ∨ j = 5 ∨ j = 6)) → ¬ (k = 16 ∧ (j = 5 ∨ j = 6 ∨ j = 7)) → ¬ (k = 36 ∧ (j = 0 ∨ j = 13 ∨ j = 14 ∨ j = 15 ∨ j = 19 ∨ j = 21 ∨ j = 22 ∨ j = 23 ∨ j = 24 ∨ j = 25)) → V4 k j = V k j := fun k j z1 z2 z3 z4 => (m1 k j z4).trans ((d1 k j z1).trans ((f1 k j z3).trans (g1 k j z2)))
  have a : ∀ k, ¬ k = 3 → ¬ k = 38 → ¬ k = 18 → ¬ k = 17 → ¬ ((7 ≤ k ∧ k ≤ 12) ∨ k = 14 ∨ k = 15) → ¬ (44 ≤ k ∧ k ≤ 47) → A4 k = A k := fun k z1 z2 z3 z4 z5 z6 => (m2 k z2 z6).trans ((d2 k z1 z3).trans ((f2 k z4).trans (g2 k z5)))
  have a3 : A4 3 = A3 3 := m2 3 (by omega) (by omega)
  have b3 : A2 3 = A 3 := (f2 3 (by omega)).trans (g2 3 (by omega))
  have b38 : A3 38 = A 38 := (d2 38 (by omega) (by omega)).trans ((f2 38 (by omega)).trans (g2 38 (by omega)))
  have e14 : V4 1 4 = V 1 4 := v 1 4 (by omega) (by omega) (by omega) (by omega)
  have e15 : V4 1 5 = V 1 5 := v 1 5 (by omega) (by omega) (by omega) (by omega)
  have e16 : V4 1 6 = V 1 6 := v 1 6 (by omega) (by omega) (by omega) (by omega)
  have e17 : V4 1 7 = V 1 7 := v 1 7 (by omega) (by omega) (by omega) (by omega)
  have x2 : A4 2 = A 2 := a 2 (by omega) (by omega) (by omega) (by omega) (by omega) (by omega)
  have x4 : A4 4 = A 4 := a 4 (by omega) (by omega) (by omega) (by omega) (by omega) (by omega)
  have x5 : A4 5 = A 5 := a 5 (by omega) (by omega) (by omega) (by omega) (by omega) (by omega)
  have x3 : cnt = 0 → A4 3 = A 3 := fun z => a3.trans ((d5 z).trans b3)
  have hC4 : cnt = 0 → zCr W (V4 1 4) (V4 1 5) (V4 1 6) (V4 1 7) (A4 2) (A4 3) (A4 4) (A4 5) := fun z => by rw [e14, e15, e16, e17, x2, x3 z, x4, x5]; exact hC
  have hzta : zta A4 = zta A1 := by
    funext k
    unfold zta
    split <;> exact (m2 _ (by omega) (by omega)).trans ((d2 _ (by omega) (by omega)).trans (f2 _ (by omega)))
  refine ⟨W.n, ch + cnt, ⟨h19, ?_, ?_⟩, ?_, ?_, ⟨fun i hi => ?_, fun i j hi hj hq => ?_⟩, ?_, ?_, ?_, ?_, ?_, ⟨?_, by omega⟩, ⟨⟨?_, ?_⟩, ?_, ?_⟩, Or.inl m3⟩
  · rw [e14]; exact hn
  · rw [v 36 1 (by omega) (by omega) (by omega) (by omega)]; exact hn'
  · unfold IvR; rw [v 36 6 (by omega) (by omega) (by omega) (by omega), e15, v 36 7 (by omega) (by omega) (by omega) (by omega), e16, v 36 8 (by omega) (by omega) (by omega) (by omega), e17]; exact hR'
  · rw [x2, a 37 (by omega) (by omega) (by omega) (by omega) (by omega) (by omega)]; exact hL
  · -- the ways themselves
    rw [a3, m4 i hi, b38]
    obtain ⟨w1, w2⟩ := d4 i hi
    rw [b3] at w2
    have old := hC'.1 i hi
    have har := hC.ar (i / 9) (i % 9) (by omega) (by omega)
    rw [show i / 9 * 9 + i % 9 = i by omega] at har
    have har2 := hR.ar (i / 9) (i % 9) (by omega) (by omega)
    rw [show 9 * (i / 9) + i % 9 = i by omega] at har2
    cases hq : W.ar (i / 9) (i % 9) with
    | none =>
      have hi0 : ind W lim (i / 9) (i % 9) = 0 := by unfold ind; rw [if_neg (fun z => z.2 hq)]
      rw [hq] at har har2
      rw [hi0, if_neg (by omega)]
      by_cases gg : gone W lim W.n 0 i
      · rw [w1 gg]; exact Or.inl ⟨rfl, har2⟩
      · rw [w2 gg]; exact old
    | some y =>
      have hr := hW.ar _ _ _ hq
      by_cases hd : dB (thT W (i / 9) (i % 9)) lim = true
      · have hi1 : ind W lim (i / 9) (i % 9) = 1 := by unfold ind; rw [if_pos ⟨hd, by rw [hq]; simp⟩]
        rw [hi1, if_pos rfl, w1 ⟨Or.inl hr.1, hr.2.1, hd⟩]
        exact Or.inl ⟨rfl, rfl⟩
      · have hi0 : ind W lim (i / 9) (i % 9) = 0 := by unfold ind; rw [if_neg (fun z => hd z.1)]
        rw [hi0, if_neg (by omega), w2 (fun z => hd z.2.2)]
        exact old
  · rw [a3]
    obtain ⟨w1, w2⟩ := d4 (i * 9 + j) (by omega)
    by_cases gg : gone W lim W.n 0 (i * 9 + j)
    · exact w1 gg
    · rw [w2 gg, b3]; exact hC'.2 i j hi hj hq
  · rw [x4, a 39 (by omega) (by omega) (by omega) (by omega) (by omega) (by omega)]; exact hP
  · rw [x5, a 40 (by omega) (by omega) (by omega) (by omega) (by omega) (by omega)]; exact hAh
  · rw [a 22 (by omega) (by omega) (by omega) (by omega) (by omega) (by omega), a 41 (by omega) (by omega) (by omega) (by omega) (by omega) (by omega)]; exact hW'
  · rw [a 29 (by omega) (by omega) (by omega) (by omega) (by omega) (by omega), a 42 (by omega) (by omega) (by omega) (by omega) (by omega) (by omega)]; exact hX
  · rw [v 33 3 (by omega) (by omega) (by omega) (by omega), v 36 12 (by omega) (by omega) (by omega) (by omega), a 34 (by omega) (by omega) (by omega) (by omega) (by omega) (by omega), a 43 (by omega) (by omega) (by omega) (by omega) (by omega) (by omega)]; exact hQ
  · rw [m1 1 8 (by omega)]; exact d3
  · rw [hzta]; exact g4
  · refine Or.inr ⟨ch, by omega, ?_, fun e => ⟨W, hW, hWc, hC4 (by omega), by rw [hzta]; exact g5⟩⟩
    rw [m1 13 6 (by omega), d1 13 6 (by omega), f1 13 6 (by omega), g3]; exact hch1
  · refine Or.inr ⟨ch, by omega, ?_, fun e => ⟨W, hW, hWc, hC4 (by omega), 2 ^ (W.n - 1) - 1, W.mo - 1, ?_, ?_, ?_, ?_, ?_⟩⟩
    · rw [m1 16 5 (by omega), d1 16 5 (by omega), f3, g1 1 8 (by omega)]; exact hch1
    · rw [m1 16 6 (by omega), d1 16 6 (by omega)]; exact f4.1
    · rw [m1 16 7 (by omega), d1 16 7 (by omega)]; exact f4.2
    · have h0p : 0 < 2 ^ (W.n - 1) := Nat.pos_of_ne_zero (by simp)
      omega
    · have := hW.m1; omega
    · rw [m2 17 (by omega) (by omega), d2 17 (by omega) (by omega)]; exact f5
  · rw [v 19 5 (by omega) (by omega) (by omega) (by omega), v 19 4 (by omega) (by omega) (by omega) (by omega), a 20 (by omega) (by omega) (by omega) (by omega) (by omega) (by omega)]
    refine t3.mv (by omega) (fun e hG => ?_)
    rw [e14, e15, e16, e17, x2, x3 (by omega), x4, x5]; exact hG
