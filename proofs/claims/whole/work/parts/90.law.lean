-- ===== end of PART A; then your names; then what follows =====
/-! THE CLAIM OUT OF ONE WALK OF THE LAW'S BODY. Your part is whole_start (and what it stands on); all else here is the same for every law, but numbers. -/
def R_law : String := "CircuitWaysLaw"
def lw_P (b : Addr) (xs : List Int32) (args : Array Value) (s : State) : Prop := args = #[.ref b] ∧ s.IntsAt b xs ∧ xs.length ≤ 2048 ∧ (Jvm.Cond.and given_1 narrow_1).before args s = true
def lw_Q (_ : Array Value) (s : State) (o : Outcome) (t : State) : Prop := o = .returned (some (.int 1)) ∧ Framed s o t [] 600000 7302250
def lw_Z (below : List Frame) (a : Array Value) (s : State) : State → Prop := fun t => ∃ o, t.status = .running ∧ Ended t below o ∧ lw_Q a s o t
/-- the law's own end, with 1 on the stack, nothing written that was there before, its room as the claim has it -/
theorem lw_ret {p : Program} {l : Launch} {e : Env} {s : State} {m : MethodId} {below : List Frame} {meth : Method} {c : Code} {b : Nat} (hx : p.tables.exec = Jvm.exec) (hb : c.code = code) (hr : meth.sig.returnType = ret) (hlocks : meth.locks = false) {pc : Nat} {H : Heap} {ls : Array Slot} (hdg : decode code pc = .ok (.ireturn, 1)) : W p l e room_1 s m #[Value.ref b] below meth c H [] 600000 7302250 (lw_Z below #[Value.ref b] s) (F0 m pc ls [.int 1]) := by
  intro T hT X
  obtain ⟨fs, hret, hrun, hended, hW, hframe⟩ := X.leave (v := some (.int 1)) (hlocks := hlocks) (fun h => by rw [hr] at h; cases h)
  have hmeth' : T.vm.method? m = some meth := X.method'
  refine ⟨T.setFrames fs, ?_, .returned (some (.int 1)), hrun, hended, rfl, ⟨_, rfl⟩, hW, hframe⟩
  jvm_step X.here [X.here.top, hx, hb, hdg, hmeth', hr, ret, narrow_b1]
  (try refine ⟨rfl, ?_⟩); (try refine ⟨rfl, ?_⟩)
  first | (intro acts; rw [hret _ acts rfl rfl rfl]) | rw [hret _ _ rfl rfl rfl]
  exact Steps.refl _
/-- what holds at the law's entry: the machine, the code, the tables' words (any of lw_tbl by 'hts w (by decide +kernel)'), the script of L ints xs at the cell b, what the Statement gives of the start (any of its parts by flat_of_before) -/
def lw_At (p : Program) (s : State) (m : MethodId) (meth : Method) (c : Code) (b L : Nat) (xs : Nat → Int32) : Prop :=
  p.tables.exec = Jvm.exec ∧ c.code = code ∧ meth.sig.returnType = ret ∧ c.maxLocals = 4 ∧ s.vm.findClass R_law = some m.cls ∧ (∀ w ∈ lw_tbl, w.before #[Value.ref b] s = true) ∧ va_X b L xs s s.heap ∧ b < s.heap.size ∧ meth.locks = false ∧ (Jvm.Cond.and given_1 narrow_1).before #[Value.ref b] s = true

section LAW
variable {Y' : zY} {d' : Nat} {sc : Nat × (Nat → Int32)} {pc : Nat} {lv st : List Value} {V A : zV} {P : Int32 → zV → zV → Prop} {kc ks : Nat}
abbrev zfL : zFin := fun _ _ _ _ below args s => lw_Z below args s
theorem l_call {i n k ci N : Nat} {C : String} {T : u_T} {fs : List Value} {av rest st0 : List Value} (hCt : CQ Y' d' (.ref k :: av) V A P) (hW : zWv Y') (hd : decode Y_La_law.2.1 pc = .ok (.invokevirtual i, 3)) (hl : Cond.methodLink Y_La_law.2.2.2.2 i Y'.1 ∈ zt) (hlt : d' ≤ 60) (hk : kc ≤ 600000 ∧ ks ≤ 7302250) (hm : (cells V A)[k]? = some (.inr (ci, fs))) (hc : zcl[ci]? = some (C, T, N)) (hcls : Y'.1.cls = C) (hst : av.reverse ++ .ref k :: rest = st0) (hn : (parseMethodDescriptor Y'.1.desc).map (fun d => d.parameters.length) = some n) (hav : av.length = n := by rfl) (ha : av.all zok = true := by rfl) (hcr : rest.all (fun v => v.category == 1) = true := by rfl) (hrl : rest.length ≤ 8 := by exact Nat.le_of_ble_eq_true rfl) (hm21 : Y'.2.2.1 ≤ 21 := by exact Nat.le_of_ble_eq_true rfl)
    (K : ∀ v V' A', P v V' A' → X Y_La_law room_1 sc zfL (pc + 3) lv (.int v :: rest) (cells V' A') kc ks) : X Y_La_law room_1 sc zfL pc lv st0 (cells V A) kc ks := by
  have hcr' : ∀ v ∈ rest, v.category = 1 := fun v hv => by simpa using List.all_eq_true.mp hcr v hv
  subst hav
  refine x_callV hCt hW hd hl hm hc hcls hst ha hcr' hn ⟨by show d' + 1 ≤ 2048; omega, by show 8 + (Y'.2.2.1 + 11) + 40 * d' ≤ 84000; omega⟩ hk (by rw [y_sum hcr']; exact hrl) (fun r μ' hq v hv => ?_) (fun r μ' hq => ?_)
  · obtain ⟨v', V', A', h1, h2, h3⟩ := hq
    rw [h1] at hv; cases hv; rfl
  · obtain ⟨v', V', A', h1, h2, h3⟩ := hq
    rw [h1, h2]
    exact K v' V' A' h3
theorem l_ret0 {p : Program} {l : Launch} {e : Env} {s : State} {m : MethodId} {args : Array Value} {below : List Frame} {meth : Method} {c : Code} (hx : p.tables.exec = Jvm.exec) (hb : c.code = code) (hr : meth.sig.returnType = ret) (hlocks : meth.locks = false) {pc : Nat} {H : Heap} {ls : Array Slot} (hdg : decode code pc = .ok (.ireturn, 1)) : W p l e room_1 s m args below meth c H [] 600000 7302250 (lw_Z below args s) (F0 m pc ls [.int 1]) := by
  intro T hT X
  obtain ⟨fs, hret, hrun, hended, hW, hframe⟩ := X.leave (v := some (.int 1)) (hlocks := hlocks) (fun h => by rw [hr] at h; cases h)
  have hmeth' : T.vm.method? m = some meth := X.method'
  refine ⟨T.setFrames fs, ?_, .returned (some (.int 1)), hrun, hended, rfl, ⟨_, rfl⟩, hW, hframe⟩
  jvm_step X.here [X.here.top, hx, hb, hdg, hmeth', hr, ret, narrow_b1]
  (try refine ⟨rfl, ?_⟩); (try refine ⟨rfl, ?_⟩)
  first | (intro acts; rw [hret _ acts rfl rfl rfl]) | rw [hret _ _ rfl rfl rfl]
  exact Steps.refl _
theorem l_ret {μ : zMem} (hd : decode Y_La_law.2.1 pc = .ok (.ireturn, 1)) (hk : kc ≤ 600000 ∧ ks ≤ 7302250) : X Y_La_law room_1 sc zfL pc lv [.int 1] μ kc ks := by
  intro p l e s m args below meth c b base D cI cZ H locs ls hC hK hZ hb hM hS hL
  refine va_forget (fun q hq => Nat.le_trans (hZ rfl).2.2.2 (hS.2.2 q hq)) ?_
  refine W.widen hk.1 hk.2 ?_
  exact l_ret0 hC.1 hC.2.1 hC.2.2.2.2.2.1 hC.2.2.2.2.2.2.1 hd
end LAW
def zV0 : zV := fun a b => match a, b with
  | 1, 4 => 1
  | 1, 5 => 1
  | 1, 6 => 1000
  | 1, 7 => 0
  | 1, 8 => 0
  | 13, 4 => 1000000000
  | 13, 5 => 0
  | 13, 6 => (-1)
  | 16, 5 => (-1)
  | 16, 6 => 0
  | 16, 7 => 0
  | 19, 4 => 0
  | 19, 5 => (-1)
  | 19, 6 => 0
  | 19, 7 => 0
  | 21, 5 => 0
  | 21, 6 => 0
  | 33, 3 => 0
  | 36, 0 => 0
  | 36, 1 => 1
  | 36, 6 => 1
  | 36, 7 => 1000
  | 36, 8 => 0
  | 36, 12 => 0
  | 36, 13 => 0
  | 36, 14 => 0
  | 36, 15 => 0
  | 36, 19 => 0
  | 36, 21 => 0
  | 36, 22 => 0
  | 36, 23 => 0
  | 36, 24 => 0
  | 36, 25 => 0
  | 36, 28 => 0
  | _, _ => 0
def zA0 : zV := fun a => match a with
  | 2 => fun _ => 0
  | 3 => zf (fun i f => upd f i 1000000000) (fun _ => 0) 81
  | 4 => zf (fun i f => upd f i (-1)) (fun _ => 0) 9
  | 5 => fun _ => 0
  | 7 => fun _ => 0
  | 8 => fun _ => 0
  | 9 => fun _ => 0
  | 10 => fun _ => 0
  | 11 => fun _ => 0
  | 12 => fun _ => 0
  | 14 => fun _ => 0
  | 15 => fun _ => 0
  | 17 => fun _ => 0
  | 18 => fun _ => 0
  | 20 => fun _ => 0
  | 22 => fun _ => 0
  | 23 => fun _ => 0
  | 24 => fun _ => 0
  | 25 => fun _ => 0
  | 27 => fun _ => 0
  | 29 => zf (fun i f => upd f i (-1)) (fun _ => 0) 9
  | 30 => fun _ => 0
  | 32 => fun _ => 0
  | 34 => fun _ => 0
  | 35 => fun _ => 0
  | 37 => fun _ => 0
  | 38 => zf (fun i f => upd f i 1000000) (fun _ => 0) 81
  | 39 => zf (fun i f => upd f i (-1)) (fun _ => 0) 9
  | 40 => fun _ => 0
  | 41 => fun _ => 0
  | 42 => zf (fun i f => upd f i (-1)) (fun _ => 0) 9
  | 43 => fun _ => 0
  | 44 => fun _ => 0
  | 45 => fun _ => 0
  | 46 => fun _ => 0
  | 47 => fun _ => 0
  | 48 => fun _ => 0
  | 49 => fun _ => 0
  | 50 => fun _ => 0
  | 51 => fun _ => 0
  | _ => fun _ => 0
abbrev wm_all : zMem := wm_fin ++ [.inr (11, [.int 0, .int 1, .ref 37, .ref 38, .ref 39, .ref 40, .int 1, .int 1000, .int 0, .ref 41, .ref 42, .ref 43, .int 0, .int 0, .int 0, .int 0, .ref 44, .ref 45, .ref 46, .int 0, .ref 47, .int 0, .int 0, .int 0, .int 0, .int 0, .ref 48, .ref 49, .int 0, .ref 50, .ref 51]), .inl (false, 9, fun _ => 0), .inl (false, 81, zf (fun i f => upd f i 1000000) (fun _ => 0) 81), .inl (false, 9, zf (fun i f => upd f i (-1)) (fun _ => 0) 9), .inl (true, 81, fun _ => 0), .inl (false, 9, fun _ => 0), .inl (false, 9, zf (fun i f => upd f i (-1)) (fun _ => 0) 9), .inl (false, 21, fun _ => 0), .inl (false, 81, fun _ => 0), .inl (false, 9, fun _ => 0), .inl (false, 20, fun _ => 0), .inl (false, 20, fun _ => 0), .inl (false, 10, fun _ => 0), .inl (false, 10, fun _ => 0), .inl (false, 9, fun _ => 0), .inl (false, 512, fun _ => 0)]
set_option maxRecDepth 100000 in
set_option maxHeartbeats 4000000 in
theorem z_start : wm_all = cells zV0 zA0 := rfl
theorem z_fill {x : Int32} {n i : Nat} (h : i < n) : zf (fun i f => upd f i x) (fun _ => 0) n i = x := by
  induction n with
  | zero => omega
  | succ n ih =>
    rw [zf_s]
    simp only [z_upd]
    by_cases hi : i = n
    · rw [if_pos hi]
    · rw [if_neg hi]; exact ih (by omega)
section LAW2
variable {SH : Int32 → Int32 → Int32 → Int32 → (Nat → Int32) → (Nat → Int32) → (Nat → Int32) → (Nat → Int32) → (Nat → Nat → Int32) → Prop}
variable {TA : Int32 → Int32 → Int32 → Int32 → (Nat → Int32) → (Nat → Int32) → (Nat → Int32) → (Nat → Int32) → Int32 → Int32 → (Nat → Int32) → Prop}
variable {FI : Int32 → Int32 → Int32 → Int32 → (Nat → Int32) → (Nat → Int32) → (Nat → Int32) → (Nat → Int32) → Int32 → (Nat → Int32) → Prop}
variable {KN : Int32 → Int32 → Int32 → Int32 → (Nat → Int32) → (Nat → Int32) → (Nat → Int32) → (Nat → Int32) → Int32 → Int32 → Int32 → (Nat → Int32) → (Nat → Int32) → (Nat → Int32) → Prop}
theorem inv_start : Inv SH TA FI KN 0 zV0 zA0 := by
  refine ⟨1, 0, ⟨⟨by omega, by omega⟩, rfl, rfl⟩, ⟨⟨rfl, rfl, rfl⟩, ⟨by decide, by decide⟩, ⟨by decide, by decide⟩, ⟨by decide, by decide⟩⟩, fun i hi => ⟨rfl, (show (0 : Int32) ≤ 0 by decide), (show (0 : Int32) ≤ 100 by decide)⟩, ⟨fun i hi => Or.inl ⟨z_fill hi, z_fill hi⟩, fun i j hi hj _ => z_fill (by omega)⟩, fun i hi => ?_, ⟨fun b hb => ⟨0, by omega, rfl, fun a ha => ?_, fun a ha _ => Nat.zero_testBit a⟩, fun b hb => rfl⟩, fun i hi => ⟨rfl, (show (-1000 : Int32) ≤ 0 by decide), (show (0 : Int32) ≤ 1000 by decide)⟩, fun i hi => ⟨?_, Or.inl (z_fill hi)⟩, ⟨rfl, 0, by omega, rfl, fun i hi => absurd hi (Nat.not_lt_zero i)⟩, ⟨rfl, by omega⟩, ⟨⟨rfl, Or.inl rfl⟩, Or.inl rfl, Or.inl rfl⟩, Or.inl rfl⟩
  · have h4 : zA0 4 i = -1 := z_fill hi
    have h39 : zA0 39 i = -1 := z_fill hi
    rw [h4, h39]
    exact ⟨rfl, by decide, by decide⟩
  · rw [Nat.zero_testBit]; rfl
  · have h29 : zA0 29 i = -1 := z_fill hi
    have h42 : zA0 42 i = -1 := z_fill hi
    rw [h29, h42]
end LAW2
/-- the pairs that are still open -/
def OpenPairs (SH : Int32 → Int32 → Int32 → Int32 → (Nat → Int32) → (Nat → Int32) → (Nat → Int32) → (Nat → Int32) → (Nat → Nat → Int32) → Prop) (TA : Int32 → Int32 → Int32 → Int32 → (Nat → Int32) → (Nat → Int32) → (Nat → Int32) → (Nat → Int32) → Int32 → Int32 → (Nat → Int32) → Prop) (FI : Int32 → Int32 → Int32 → Int32 → (Nat → Int32) → (Nat → Int32) → (Nat → Int32) → (Nat → Int32) → Int32 → (Nat → Int32) → Prop) (KN : Int32 → Int32 → Int32 → Int32 → (Nat → Int32) → (Nat → Int32) → (Nat → Int32) → (Nat → Int32) → Int32 → Int32 → Int32 → (Nat → Int32) → (Nat → Int32) → (Nat → Int32) → Prop) : Prop :=
  (Pair SH TA FI KN Y_CW_best Y_Mo_best 30 50 []) ∧ (Pair SH TA FI KN Y_CW_many Y_Mo_many 30 50 []) ∧ (∀ a : Int32, Pair SH TA FI KN Y_CW_first Y_Mo_first 30 50 [.int a]) ∧ (∀ a b : Int32, Pair SH TA FI KN Y_CW_with Y_Mo_with 30 50 [.int a, .int b]) ∧ (∀ a : Int32, Pair SH TA FI KN Y_CW_without Y_Mo_without 30 50 [.int a]) ∧ (∀ a : Int32, Pair SH TA FI KN Y_CW_filter Y_Mo_filter 30 50 [.int a]) ∧ (Pair SH TA FI KN Y_CW_bound Y_Mo_bound 10 10 []) ∧ (∀ a b : Int32, Pair SH TA FI KN Y_CW_edge Y_Mo_edge 10 10 [.int a, .int b]) ∧ (∀ a : Int32, Pair SH TA FI KN Y_CW_degree Y_Mo_degree 10 10 [.int a]) ∧ (Pair SH TA FI KN Y_CW_pairing Y_Mo_pairing 10 10 []) ∧ (∀ a : Int32, Pair SH TA FI KN Y_CW_circle Y_Mo_circle 10 10 [.int a]) ∧ (∀ a : Int32, Pair SH TA FI KN Y_CW_nearest Y_Mo_nearest 10 10 [.int a]) ∧ (Pair SH TA FI KN Y_CW_check Y_Mo_check 10 10 []) ∧ (∀ a : Int32, Pair SH TA FI KN Y_CW_insert Y_Mo_insert 10 10 [.int a])
section LAW3
variable {SH : Int32 → Int32 → Int32 → Int32 → (Nat → Int32) → (Nat → Int32) → (Nat → Int32) → (Nat → Int32) → (Nat → Nat → Int32) → Prop}
variable {TA : Int32 → Int32 → Int32 → Int32 → (Nat → Int32) → (Nat → Int32) → (Nat → Int32) → (Nat → Int32) → Int32 → Int32 → (Nat → Int32) → Prop}
variable {FI : Int32 → Int32 → Int32 → Int32 → (Nat → Int32) → (Nat → Int32) → (Nat → Int32) → (Nat → Int32) → Int32 → (Nat → Int32) → Prop}
variable {KN : Int32 → Int32 → Int32 → Int32 → (Nat → Int32) → (Nat → Int32) → (Nat → Int32) → (Nat → Int32) → Int32 → Int32 → Int32 → (Nat → Int32) → (Nat → Int32) → (Nat → Int32) → Prop}
theorem Inv.more {c : Nat} {V A : zV} (h : Inv SH TA FI KN c V A) : Inv SH TA FI KN (c + 1) V A := by
  obtain ⟨n, ch, hN, hR, hL, hC, hP, hA, hW, hX, hQ, hch, hT, hK⟩ := h
  exact ⟨n, ch, hN, hR, hL, hC, hP, hA, hW, hX, hQ, ⟨hch.1, by omega⟩, hT, hK⟩
set_option maxRecDepth 100000 in
set_option maxHeartbeats 4000000 in
theorem law_loop_open (HO : OpenPairs SH TA FI KN) {L : Nat} {xs : Nat → Int32} (hL : L ≤ 2048) : ∀ k, k ≤ L / 4 → ∀ V A, Inv SH TA FI KN k V A → X Y_La_law room_1 (L, xs) zfL 18 [.float 0, .ref 0, .ref 36, .int (nI (4 * k))] [] (cells V A) 52 14353 := by
  have h4 : (Int32.ofNat L - 4).toInt = (L : Int) - 4 := pk_sub_toInt (a := L) (b := 4) (by omega) (by decide)
  refine z_down (fun V A hI => ?_) (fun k hk hs V A hI => ?_)
  · have h5 : (nI (4 * (L / 4))).toInt = ((4 * (L / 4) : Nat) : Int) := nI_toInt (by omega)
    refine x_iload_n (pc := 18) d_La_law_18 rfl ?_
    refine x_sload_n (pc := 19) d_La_law_19 rfl ?_
    refine x_slen (pc := 20) d_La_law_20 rfl ?_
    refine x_iconst (pc := 21) (v := 4) d_La_law_21 (by decide) ?_
    refine x_isub (pc := 22) d_La_law_22 ?_
    refine x_icmp_gt (pc := 23) (tgt := 805) d_La_law_23 (by decide) (fun _ => ?_) (fun h => absurd (by rw [z_lt, h4, h5]; omega) h)
    refine x_iconst (pc := 805) (v := 1) d_La_law_805 (by decide) ?_
    exact l_ret (pc := 806) d_La_law_806 ⟨by decide, by decide⟩
  · have h5 : (nI (4 * k)).toInt = ((4 * k : Nat) : Int) := nI_toInt (by omega)
    have hk512 : k < 512 := by omega
    refine x_iload_n (pc := 18) d_La_law_18 rfl ?_
    refine x_sload_n (pc := 19) d_La_law_19 rfl ?_
    refine x_slen (pc := 20) d_La_law_20 rfl ?_
    refine x_iconst (pc := 21) (v := 4) d_La_law_21 (by decide) ?_
    refine x_isub (pc := 22) d_La_law_22 ?_
    refine x_icmp_gt (pc := 23) (tgt := 805) d_La_law_23 (by decide) (fun h => absurd h (by rw [z_lt, h4, h5]; omega)) (fun _ => ?_)
    refine x_sload_n (pc := 26) d_La_law_26 rfl ?_
    refine x_iload_n (pc := 27) d_La_law_27 rfl ?_
    refine x_sld (pc := 28) d_La_law_28 rfl (by rw [show nI (4 * k) = nI (4 * k + 0) from rfl]; exact vp_in_nI (by omega) (by omega)) ?_
    refine x_bipush (pc := 29) (v := 31) d_La_law_29 (by decide) ?_
    refine x_iand (pc := 31) d_La_law_31 ?_
    obtain ⟨j, hj, hw⟩ := pk_andE (xs (nI (4 * k)).toNatClampNeg) (m := 31) 5 (by decide)
    show X Y_La_law room_1 (L, xs) zfL 32 [.float 0, .ref 0, .ref 36, .int (nI (4 * k))] [.int (xs (nI (4 * k)).toNatClampNeg &&& 31)] (cells V A) 52 14353
    rw [hw]
    clear hw
    match j, hj with
    | 0, _ =>
      refine x_sw_in (pc := 32) (off := 116) (tgt := 148) d_La_law_32 (by decide) (by decide) rfl (by decide) ?_
      refine x_aload_n (pc := 148) d_La_law_148 rfl ?_
      refine x_sload_n (pc := 149) d_La_law_149 rfl ?_
      refine x_iload_n (pc := 150) d_La_law_150 rfl ?_
      refine x_iconst (pc := 151) (v := 1) d_La_law_151 (by decide) ?_
      refine x_iadd (pc := 152) d_La_law_152 ?_
      refine x_sld (pc := 153) d_La_law_153 rfl (by rw [show (1 : Int32) = nI 1 from rfl, nI_add]; exact vp_in_nI (by omega) (by omega)) ?_
      refine l_call (pc := 154) (d' := 1) (pr_node _ k V A hk512 hI) k_CW_node d_La_law_154 m_La_13 (by omega) ⟨by decide, by decide⟩ rfl rfl rfl rfl p_CW_node (K := fun v V1 A1 hq => ?_)
      refine x_aload_n (pc := 157) d_La_law_157 rfl ?_
      refine x_sload_n (pc := 158) d_La_law_158 rfl ?_
      refine x_iload_n (pc := 159) d_La_law_159 rfl ?_
      refine x_iconst (pc := 160) (v := 1) d_La_law_160 (by decide) ?_
      refine x_iadd (pc := 161) d_La_law_161 ?_
      refine x_sld (pc := 162) d_La_law_162 rfl (by rw [show (1 : Int32) = nI 1 from rfl, nI_add]; exact vp_in_nI (by omega) (by omega)) ?_
      refine l_call (pc := 163) (d' := 1) hq k_Mo_node d_La_law_163 m_La_17 (by omega) ⟨by decide, by decide⟩ rfl rfl rfl rfl p_Mo_node (K := fun v' V2 A2 hq2 => ?_)
      refine x_icmp_eq (pc := 166) (tgt := 799) d_La_law_166 (by decide) (fun _ => ?_) (fun h => absurd hq2.1 h)
      refine y_inc3 (pc := 799) (v := 4) d_La_law_799 (by decide) ?_
      refine x_goto (pc := 802) (tgt := 18) d_La_law_802 (by decide) ?_
      rw [show nI (4 * k) + 4 = nI (4 * (k + 1)) by rw [show (4 : Int32) = nI 4 from rfl, nI_add]; rfl]
      exact hs _ _ hq2.2
    | 1, _ =>
      refine x_sw_in (pc := 32) (off := 139) (tgt := 171) d_La_law_32 (by decide) (by decide) rfl (by decide) ?_
      refine x_aload_n (pc := 171) d_La_law_171 rfl ?_
      refine x_sload_n (pc := 172) d_La_law_172 rfl ?_
      refine x_iload_n (pc := 173) d_La_law_173 rfl ?_
      refine x_iconst (pc := 174) (v := 1) d_La_law_174 (by decide) ?_
      refine x_iadd (pc := 175) d_La_law_175 ?_
      refine x_sld (pc := 176) d_La_law_176 rfl (by rw [show (1 : Int32) = nI 1 from rfl, nI_add]; exact vp_in_nI (by omega) (by omega)) ?_
      refine x_sload_n (pc := 177) d_La_law_177 rfl ?_
      refine x_iload_n (pc := 178) d_La_law_178 rfl ?_
      refine x_iconst (pc := 179) (v := 2) d_La_law_179 (by decide) ?_
      refine x_iadd (pc := 180) d_La_law_180 ?_
      refine x_sld (pc := 181) d_La_law_181 rfl (by rw [show (2 : Int32) = nI 2 from rfl, nI_add]; exact vp_in_nI (by omega) (by omega)) ?_
      refine x_sload_n (pc := 182) d_La_law_182 rfl ?_
      refine x_iload_n (pc := 183) d_La_law_183 rfl ?_
      refine x_iconst (pc := 184) (v := 3) d_La_law_184 (by decide) ?_
      refine x_iadd (pc := 185) d_La_law_185 ?_
      refine x_sld (pc := 186) d_La_law_186 rfl (by rw [show (3 : Int32) = nI 3 from rfl, nI_add]; exact vp_in_nI (by omega) (by omega)) ?_
      refine l_call (pc := 187) (d' := 2) (pr_arc _ _ _ k V A hk512 hI) k_CW_arc d_La_law_187 m_La_18 (by omega) ⟨by decide, by decide⟩ rfl rfl rfl rfl p_CW_arc (K := fun v V1 A1 hq => ?_)
      refine x_aload_n (pc := 190) d_La_law_190 rfl ?_
      refine x_sload_n (pc := 191) d_La_law_191 rfl ?_
      refine x_iload_n (pc := 192) d_La_law_192 rfl ?_
      refine x_iconst (pc := 193) (v := 1) d_La_law_193 (by decide) ?_
      refine x_iadd (pc := 194) d_La_law_194 ?_
      refine x_sld (pc := 195) d_La_law_195 rfl (by rw [show (1 : Int32) = nI 1 from rfl, nI_add]; exact vp_in_nI (by omega) (by omega)) ?_
      refine x_sload_n (pc := 196) d_La_law_196 rfl ?_
      refine x_iload_n (pc := 197) d_La_law_197 rfl ?_
      refine x_iconst (pc := 198) (v := 2) d_La_law_198 (by decide) ?_
      refine x_iadd (pc := 199) d_La_law_199 ?_
      refine x_sld (pc := 200) d_La_law_200 rfl (by rw [show (2 : Int32) = nI 2 from rfl, nI_add]; exact vp_in_nI (by omega) (by omega)) ?_
      refine x_sload_n (pc := 201) d_La_law_201 rfl ?_
      refine x_iload_n (pc := 202) d_La_law_202 rfl ?_
      refine x_iconst (pc := 203) (v := 3) d_La_law_203 (by decide) ?_
      refine x_iadd (pc := 204) d_La_law_204 ?_
      refine x_sld (pc := 205) d_La_law_205 rfl (by rw [show (3 : Int32) = nI 3 from rfl, nI_add]; exact vp_in_nI (by omega) (by omega)) ?_
      refine l_call (pc := 206) (d' := 3) hq k_Mo_arc d_La_law_206 m_La_22 (by omega) ⟨by decide, by decide⟩ rfl rfl rfl rfl p_Mo_arc (K := fun v' V2 A2 hq2 => ?_)
      refine x_icmp_eq (pc := 209) (tgt := 799) d_La_law_209 (by decide) (fun _ => ?_) (fun h => absurd hq2.1 h)
      refine y_inc3 (pc := 799) (v := 4) d_La_law_799 (by decide) ?_
      refine x_goto (pc := 802) (tgt := 18) d_La_law_802 (by decide) ?_
      rw [show nI (4 * k) + 4 = nI (4 * (k + 1)) by rw [show (4 : Int32) = nI 4 from rfl, nI_add]; rfl]
      exact hs _ _ hq2.2
    | 2, _ =>
      refine x_sw_in (pc := 32) (off := 182) (tgt := 214) d_La_law_32 (by decide) (by decide) rfl (by decide) ?_
      refine x_aload_n (pc := 214) d_La_law_214 rfl ?_
      refine x_sload_n (pc := 215) d_La_law_215 rfl ?_
      refine x_iload_n (pc := 216) d_La_law_216 rfl ?_
      refine x_iconst (pc := 217) (v := 1) d_La_law_217 (by decide) ?_
      refine x_iadd (pc := 218) d_La_law_218 ?_
      refine x_sld (pc := 219) d_La_law_219 rfl (by rw [show (1 : Int32) = nI 1 from rfl, nI_add]; exact vp_in_nI (by omega) (by omega)) ?_
      refine x_sload_n (pc := 220) d_La_law_220 rfl ?_
      refine x_iload_n (pc := 221) d_La_law_221 rfl ?_
      refine x_iconst (pc := 222) (v := 2) d_La_law_222 (by decide) ?_
      refine x_iadd (pc := 223) d_La_law_223 ?_
      refine x_sld (pc := 224) d_La_law_224 rfl (by rw [show (2 : Int32) = nI 2 from rfl, nI_add]; exact vp_in_nI (by omega) (by omega)) ?_
      refine l_call (pc := 225) (d' := 2) (pr_lose _ _ k V A hk512 hI) k_CW_lose d_La_law_225 m_La_23 (by omega) ⟨by decide, by decide⟩ rfl rfl rfl rfl p_CW_lose (K := fun v V1 A1 hq => ?_)
      refine x_aload_n (pc := 228) d_La_law_228 rfl ?_
      refine x_sload_n (pc := 229) d_La_law_229 rfl ?_
      refine x_iload_n (pc := 230) d_La_law_230 rfl ?_
      refine x_iconst (pc := 231) (v := 1) d_La_law_231 (by decide) ?_
      refine x_iadd (pc := 232) d_La_law_232 ?_
      refine x_sld (pc := 233) d_La_law_233 rfl (by rw [show (1 : Int32) = nI 1 from rfl, nI_add]; exact vp_in_nI (by omega) (by omega)) ?_
      refine x_sload_n (pc := 234) d_La_law_234 rfl ?_
      refine x_iload_n (pc := 235) d_La_law_235 rfl ?_
      refine x_iconst (pc := 236) (v := 2) d_La_law_236 (by decide) ?_
      refine x_iadd (pc := 237) d_La_law_237 ?_
      refine x_sld (pc := 238) d_La_law_238 rfl (by rw [show (2 : Int32) = nI 2 from rfl, nI_add]; exact vp_in_nI (by omega) (by omega)) ?_
      refine l_call (pc := 239) (d' := 3) hq k_Mo_lose d_La_law_239 m_La_27 (by omega) ⟨by decide, by decide⟩ rfl rfl rfl rfl p_Mo_lose (K := fun v' V2 A2 hq2 => ?_)
      refine x_icmp_eq (pc := 242) (tgt := 799) d_La_law_242 (by decide) (fun _ => ?_) (fun h => absurd hq2.1 h)
      refine y_inc3 (pc := 799) (v := 4) d_La_law_799 (by decide) ?_
      refine x_goto (pc := 802) (tgt := 18) d_La_law_802 (by decide) ?_
      rw [show nI (4 * k) + 4 = nI (4 * (k + 1)) by rw [show (4 : Int32) = nI 4 from rfl, nI_add]; rfl]
      exact hs _ _ hq2.2
    | 3, _ =>
      refine x_sw_in (pc := 32) (off := 215) (tgt := 247) d_La_law_32 (by decide) (by decide) rfl (by decide) ?_
      refine x_aload_n (pc := 247) d_La_law_247 rfl ?_
      refine x_sload_n (pc := 248) d_La_law_248 rfl ?_
      refine x_iload_n (pc := 249) d_La_law_249 rfl ?_
      refine x_iconst (pc := 250) (v := 1) d_La_law_250 (by decide) ?_
      refine x_iadd (pc := 251) d_La_law_251 ?_
      refine x_sld (pc := 252) d_La_law_252 rfl (by rw [show (1 : Int32) = nI 1 from rfl, nI_add]; exact vp_in_nI (by omega) (by omega)) ?_
      refine x_sload_n (pc := 253) d_La_law_253 rfl ?_
      refine x_iload_n (pc := 254) d_La_law_254 rfl ?_
      refine x_iconst (pc := 255) (v := 2) d_La_law_255 (by decide) ?_
      refine x_iadd (pc := 256) d_La_law_256 ?_
      refine x_sld (pc := 257) d_La_law_257 rfl (by rw [show (2 : Int32) = nI 2 from rfl, nI_add]; exact vp_in_nI (by omega) (by omega)) ?_
      refine l_call (pc := 258) (d' := 1) (pr_price _ _ k V A hk512 hI) k_CW_price d_La_law_258 m_La_28 (by omega) ⟨by decide, by decide⟩ rfl rfl rfl rfl p_CW_price (K := fun v V1 A1 hq => ?_)
      refine x_aload_n (pc := 261) d_La_law_261 rfl ?_
      refine x_sload_n (pc := 262) d_La_law_262 rfl ?_
      refine x_iload_n (pc := 263) d_La_law_263 rfl ?_
      refine x_iconst (pc := 264) (v := 1) d_La_law_264 (by decide) ?_
      refine x_iadd (pc := 265) d_La_law_265 ?_
      refine x_sld (pc := 266) d_La_law_266 rfl (by rw [show (1 : Int32) = nI 1 from rfl, nI_add]; exact vp_in_nI (by omega) (by omega)) ?_
      refine x_sload_n (pc := 267) d_La_law_267 rfl ?_
      refine x_iload_n (pc := 268) d_La_law_268 rfl ?_
      refine x_iconst (pc := 269) (v := 2) d_La_law_269 (by decide) ?_
      refine x_iadd (pc := 270) d_La_law_270 ?_
      refine x_sld (pc := 271) d_La_law_271 rfl (by rw [show (2 : Int32) = nI 2 from rfl, nI_add]; exact vp_in_nI (by omega) (by omega)) ?_
      refine l_call (pc := 272) (d' := 2) hq k_Mo_price d_La_law_272 m_La_31 (by omega) ⟨by decide, by decide⟩ rfl rfl rfl rfl p_Mo_price (K := fun v' V2 A2 hq2 => ?_)
      refine x_icmp_eq (pc := 275) (tgt := 799) d_La_law_275 (by decide) (fun _ => ?_) (fun h => absurd hq2.1 h)
      refine y_inc3 (pc := 799) (v := 4) d_La_law_799 (by decide) ?_
      refine x_goto (pc := 802) (tgt := 18) d_La_law_802 (by decide) ?_
      rw [show nI (4 * k) + 4 = nI (4 * (k + 1)) by rw [show (4 : Int32) = nI 4 from rfl, nI_add]; rfl]
      exact hs _ _ hq2.2
    | 4, _ =>
      refine x_sw_in (pc := 32) (off := 248) (tgt := 280) d_La_law_32 (by decide) (by decide) rfl (by decide) ?_
      refine x_aload_n (pc := 280) d_La_law_280 rfl ?_
      refine x_sload_n (pc := 281) d_La_law_281 rfl ?_
      refine x_iload_n (pc := 282) d_La_law_282 rfl ?_
      refine x_iconst (pc := 283) (v := 1) d_La_law_283 (by decide) ?_
      refine x_iadd (pc := 284) d_La_law_284 ?_
      refine x_sld (pc := 285) d_La_law_285 rfl (by rw [show (1 : Int32) = nI 1 from rfl, nI_add]; exact vp_in_nI (by omega) (by omega)) ?_
      refine x_sload_n (pc := 286) d_La_law_286 rfl ?_
      refine x_iload_n (pc := 287) d_La_law_287 rfl ?_
      refine x_iconst (pc := 288) (v := 2) d_La_law_288 (by decide) ?_
      refine x_iadd (pc := 289) d_La_law_289 ?_
      refine x_sld (pc := 290) d_La_law_290 rfl (by rw [show (2 : Int32) = nI 2 from rfl, nI_add]; exact vp_in_nI (by omega) (by omega)) ?_
      refine x_sload_n (pc := 291) d_La_law_291 rfl ?_
      refine x_iload_n (pc := 292) d_La_law_292 rfl ?_
      refine x_iconst (pc := 293) (v := 3) d_La_law_293 (by decide) ?_
      refine x_iadd (pc := 294) d_La_law_294 ?_
      refine x_sld (pc := 295) d_La_law_295 rfl (by rw [show (3 : Int32) = nI 3 from rfl, nI_add]; exact vp_in_nI (by omega) (by omega)) ?_
      refine x_if_eq (pc := 296) (tgt := 303) d_La_law_296 (by decide) (fun h296 => ?_) (fun h296 => ?_)
      · refine x_iconst (pc := 303) (v := 0) d_La_law_303 (by decide) ?_
        refine l_call (pc := 304) (d' := 2) (pr_ahead _ _ 0 (by decide) k V A hk512 hI) k_CW_ahead d_La_law_304 m_La_32 (by omega) ⟨by decide, by decide⟩ rfl rfl rfl rfl p_CW_ahead (K := fun v V1 A1 hq => ?_)
        refine x_aload_n (pc := 307) d_La_law_307 rfl ?_
        refine x_sload_n (pc := 308) d_La_law_308 rfl ?_
        refine x_iload_n (pc := 309) d_La_law_309 rfl ?_
        refine x_iconst (pc := 310) (v := 1) d_La_law_310 (by decide) ?_
        refine x_iadd (pc := 311) d_La_law_311 ?_
        refine x_sld (pc := 312) d_La_law_312 rfl (by rw [show (1 : Int32) = nI 1 from rfl, nI_add]; exact vp_in_nI (by omega) (by omega)) ?_
        refine x_sload_n (pc := 313) d_La_law_313 rfl ?_
        refine x_iload_n (pc := 314) d_La_law_314 rfl ?_
        refine x_iconst (pc := 315) (v := 2) d_La_law_315 (by decide) ?_
        refine x_iadd (pc := 316) d_La_law_316 ?_
        refine x_sld (pc := 317) d_La_law_317 rfl (by rw [show (2 : Int32) = nI 2 from rfl, nI_add]; exact vp_in_nI (by omega) (by omega)) ?_
        refine x_sload_n (pc := 318) d_La_law_318 rfl ?_
        refine x_iload_n (pc := 319) d_La_law_319 rfl ?_
        refine x_iconst (pc := 320) (v := 3) d_La_law_320 (by decide) ?_
        refine x_iadd (pc := 321) d_La_law_321 ?_
        refine x_sld (pc := 322) d_La_law_322 rfl (by rw [show (3 : Int32) = nI 3 from rfl, nI_add]; exact vp_in_nI (by omega) (by omega)) ?_
        refine x_if_eq (pc := 323) (tgt := 330) d_La_law_323 (by decide) (fun _ => ?_) (fun h => absurd h296 h)
        refine x_iconst (pc := 330) (v := 0) d_La_law_330 (by decide) ?_
        refine l_call (pc := 331) (d' := 3) hq k_Mo_ahead d_La_law_331 m_La_36 (by omega) ⟨by decide, by decide⟩ rfl rfl rfl rfl p_Mo_ahead (K := fun v' V2 A2 hq2 => ?_)
        refine x_icmp_eq (pc := 334) (tgt := 799) d_La_law_334 (by decide) (fun _ => ?_) (fun h => absurd hq2.1 h)
        refine y_inc3 (pc := 799) (v := 4) d_La_law_799 (by decide) ?_
        refine x_goto (pc := 802) (tgt := 18) d_La_law_802 (by decide) ?_
        rw [show nI (4 * k) + 4 = nI (4 * (k + 1)) by rw [show (4 : Int32) = nI 4 from rfl, nI_add]; rfl]
        exact hs _ _ hq2.2
      · refine x_iconst (pc := 299) (v := 1) d_La_law_299 (by decide) ?_
        refine x_goto (pc := 300) (tgt := 304) d_La_law_300 (by decide) ?_
        refine l_call (pc := 304) (d' := 2) (pr_ahead _ _ 1 (by decide) k V A hk512 hI) k_CW_ahead d_La_law_304 m_La_32 (by omega) ⟨by decide, by decide⟩ rfl rfl rfl rfl p_CW_ahead (K := fun v V1 A1 hq => ?_)
        refine x_aload_n (pc := 307) d_La_law_307 rfl ?_
        refine x_sload_n (pc := 308) d_La_law_308 rfl ?_
        refine x_iload_n (pc := 309) d_La_law_309 rfl ?_
        refine x_iconst (pc := 310) (v := 1) d_La_law_310 (by decide) ?_
        refine x_iadd (pc := 311) d_La_law_311 ?_
        refine x_sld (pc := 312) d_La_law_312 rfl (by rw [show (1 : Int32) = nI 1 from rfl, nI_add]; exact vp_in_nI (by omega) (by omega)) ?_
        refine x_sload_n (pc := 313) d_La_law_313 rfl ?_
        refine x_iload_n (pc := 314) d_La_law_314 rfl ?_
        refine x_iconst (pc := 315) (v := 2) d_La_law_315 (by decide) ?_
        refine x_iadd (pc := 316) d_La_law_316 ?_
        refine x_sld (pc := 317) d_La_law_317 rfl (by rw [show (2 : Int32) = nI 2 from rfl, nI_add]; exact vp_in_nI (by omega) (by omega)) ?_
        refine x_sload_n (pc := 318) d_La_law_318 rfl ?_
        refine x_iload_n (pc := 319) d_La_law_319 rfl ?_
        refine x_iconst (pc := 320) (v := 3) d_La_law_320 (by decide) ?_
        refine x_iadd (pc := 321) d_La_law_321 ?_
        refine x_sld (pc := 322) d_La_law_322 rfl (by rw [show (3 : Int32) = nI 3 from rfl, nI_add]; exact vp_in_nI (by omega) (by omega)) ?_
        refine x_if_eq (pc := 323) (tgt := 330) d_La_law_323 (by decide) (fun h => absurd h h296) (fun _ => ?_)
        refine x_iconst (pc := 326) (v := 1) d_La_law_326 (by decide) ?_
        refine x_goto (pc := 327) (tgt := 331) d_La_law_327 (by decide) ?_
        refine l_call (pc := 331) (d' := 3) hq k_Mo_ahead d_La_law_331 m_La_36 (by omega) ⟨by decide, by decide⟩ rfl rfl rfl rfl p_Mo_ahead (K := fun v' V2 A2 hq2 => ?_)
        refine x_icmp_eq (pc := 334) (tgt := 799) d_La_law_334 (by decide) (fun _ => ?_) (fun h => absurd hq2.1 h)
        refine y_inc3 (pc := 799) (v := 4) d_La_law_799 (by decide) ?_
        refine x_goto (pc := 802) (tgt := 18) d_La_law_802 (by decide) ?_
        rw [show nI (4 * k) + 4 = nI (4 * (k + 1)) by rw [show (4 : Int32) = nI 4 from rfl, nI_add]; rfl]
        exact hs _ _ hq2.2
    | 5, _ =>
      refine x_sw_in (pc := 32) (off := 307) (tgt := 339) d_La_law_32 (by decide) (by decide) rfl (by decide) ?_
      refine x_aload_n (pc := 339) d_La_law_339 rfl ?_
      refine x_sload_n (pc := 340) d_La_law_340 rfl ?_
      refine x_iload_n (pc := 341) d_La_law_341 rfl ?_
      refine x_iconst (pc := 342) (v := 1) d_La_law_342 (by decide) ?_
      refine x_iadd (pc := 343) d_La_law_343 ?_
      refine x_sld (pc := 344) d_La_law_344 rfl (by rw [show (1 : Int32) = nI 1 from rfl, nI_add]; exact vp_in_nI (by omega) (by omega)) ?_
      refine x_sload_n (pc := 345) d_La_law_345 rfl ?_
      refine x_iload_n (pc := 346) d_La_law_346 rfl ?_
      refine x_iconst (pc := 347) (v := 2) d_La_law_347 (by decide) ?_
      refine x_iadd (pc := 348) d_La_law_348 ?_
      refine x_sld (pc := 349) d_La_law_349 rfl (by rw [show (2 : Int32) = nI 2 from rfl, nI_add]; exact vp_in_nI (by omega) (by omega)) ?_
      refine l_call (pc := 350) (d' := 1) (pr_rule _ _ k V A hk512 hI) k_CW_rule d_La_law_350 m_La_37 (by omega) ⟨by decide, by decide⟩ rfl rfl rfl rfl p_CW_rule (K := fun v V1 A1 hq => ?_)
      refine x_aload_n (pc := 353) d_La_law_353 rfl ?_
      refine x_sload_n (pc := 354) d_La_law_354 rfl ?_
      refine x_iload_n (pc := 355) d_La_law_355 rfl ?_
      refine x_iconst (pc := 356) (v := 1) d_La_law_356 (by decide) ?_
      refine x_iadd (pc := 357) d_La_law_357 ?_
      refine x_sld (pc := 358) d_La_law_358 rfl (by rw [show (1 : Int32) = nI 1 from rfl, nI_add]; exact vp_in_nI (by omega) (by omega)) ?_
      refine x_sload_n (pc := 359) d_La_law_359 rfl ?_
      refine x_iload_n (pc := 360) d_La_law_360 rfl ?_
      refine x_iconst (pc := 361) (v := 2) d_La_law_361 (by decide) ?_
      refine x_iadd (pc := 362) d_La_law_362 ?_
      refine x_sld (pc := 363) d_La_law_363 rfl (by rw [show (2 : Int32) = nI 2 from rfl, nI_add]; exact vp_in_nI (by omega) (by omega)) ?_
      refine l_call (pc := 364) (d' := 1) hq k_Mo_rule d_La_law_364 m_La_40 (by omega) ⟨by decide, by decide⟩ rfl rfl rfl rfl p_Mo_rule (K := fun v' V2 A2 hq2 => ?_)
      refine x_icmp_eq (pc := 367) (tgt := 799) d_La_law_367 (by decide) (fun _ => ?_) (fun h => absurd hq2.1 h)
      refine y_inc3 (pc := 799) (v := 4) d_La_law_799 (by decide) ?_
      refine x_goto (pc := 802) (tgt := 18) d_La_law_802 (by decide) ?_
      rw [show nI (4 * k) + 4 = nI (4 * (k + 1)) by rw [show (4 : Int32) = nI 4 from rfl, nI_add]; rfl]
      exact hs _ _ hq2.2
    | 6, _ =>
      refine x_sw_in (pc := 32) (off := 340) (tgt := 372) d_La_law_32 (by decide) (by decide) rfl (by decide) ?_
      refine x_aload_n (pc := 372) d_La_law_372 rfl ?_
      refine l_call (pc := 373) (d' := 30) (HO.1 k V A hk512 hI) k_CW_best d_La_law_373 m_La_41 (by omega) ⟨by decide, by decide⟩ rfl rfl rfl rfl p_CW_best (K := fun v V1 A1 hq => ?_)
      refine x_aload_n (pc := 376) d_La_law_376 rfl ?_
      refine l_call (pc := 377) (d' := 50) hq k_Mo_best d_La_law_377 m_La_45 (by omega) ⟨by decide, by decide⟩ rfl rfl rfl rfl p_Mo_best (K := fun v' V2 A2 hq2 => ?_)
      refine x_icmp_eq (pc := 380) (tgt := 799) d_La_law_380 (by decide) (fun _ => ?_) (fun h => absurd hq2.1 h)
      refine y_inc3 (pc := 799) (v := 4) d_La_law_799 (by decide) ?_
      refine x_goto (pc := 802) (tgt := 18) d_La_law_802 (by decide) ?_
      rw [show nI (4 * k) + 4 = nI (4 * (k + 1)) by rw [show (4 : Int32) = nI 4 from rfl, nI_add]; rfl]
      exact hs _ _ hq2.2
    | 7, _ =>
      refine x_sw_in (pc := 32) (off := 353) (tgt := 385) d_La_law_32 (by decide) (by decide) rfl (by decide) ?_
      refine x_aload_n (pc := 385) d_La_law_385 rfl ?_
      refine l_call (pc := 386) (d' := 30) (HO.2.1 k V A hk512 hI) k_CW_many d_La_law_386 m_La_46 (by omega) ⟨by decide, by decide⟩ rfl rfl rfl rfl p_CW_many (K := fun v V1 A1 hq => ?_)
      refine x_aload_n (pc := 389) d_La_law_389 rfl ?_
      refine l_call (pc := 390) (d' := 50) hq k_Mo_many d_La_law_390 m_La_49 (by omega) ⟨by decide, by decide⟩ rfl rfl rfl rfl p_Mo_many (K := fun v' V2 A2 hq2 => ?_)
      refine x_icmp_eq (pc := 393) (tgt := 799) d_La_law_393 (by decide) (fun _ => ?_) (fun h => absurd hq2.1 h)
      refine y_inc3 (pc := 799) (v := 4) d_La_law_799 (by decide) ?_
      refine x_goto (pc := 802) (tgt := 18) d_La_law_802 (by decide) ?_
      rw [show nI (4 * k) + 4 = nI (4 * (k + 1)) by rw [show (4 : Int32) = nI 4 from rfl, nI_add]; rfl]
      exact hs _ _ hq2.2
    | 8, _ =>
      refine x_sw_in (pc := 32) (off := 366) (tgt := 398) d_La_law_32 (by decide) (by decide) rfl (by decide) ?_
      refine x_aload_n (pc := 398) d_La_law_398 rfl ?_
      refine x_sload_n (pc := 399) d_La_law_399 rfl ?_
      refine x_iload_n (pc := 400) d_La_law_400 rfl ?_
      refine x_iconst (pc := 401) (v := 1) d_La_law_401 (by decide) ?_
      refine x_iadd (pc := 402) d_La_law_402 ?_
      refine x_sld (pc := 403) d_La_law_403 rfl (by rw [show (1 : Int32) = nI 1 from rfl, nI_add]; exact vp_in_nI (by omega) (by omega)) ?_
      refine l_call (pc := 404) (d' := 30) (HO.2.2.1 _ k V A hk512 hI) k_CW_first d_La_law_404 m_La_50 (by omega) ⟨by decide, by decide⟩ rfl rfl rfl rfl p_CW_first (K := fun v V1 A1 hq => ?_)
      refine x_aload_n (pc := 407) d_La_law_407 rfl ?_
      refine x_sload_n (pc := 408) d_La_law_408 rfl ?_
      refine x_iload_n (pc := 409) d_La_law_409 rfl ?_
      refine x_iconst (pc := 410) (v := 1) d_La_law_410 (by decide) ?_
      refine x_iadd (pc := 411) d_La_law_411 ?_
      refine x_sld (pc := 412) d_La_law_412 rfl (by rw [show (1 : Int32) = nI 1 from rfl, nI_add]; exact vp_in_nI (by omega) (by omega)) ?_
      refine l_call (pc := 413) (d' := 50) hq k_Mo_first d_La_law_413 m_La_53 (by omega) ⟨by decide, by decide⟩ rfl rfl rfl rfl p_Mo_first (K := fun v' V2 A2 hq2 => ?_)
      refine x_icmp_eq (pc := 416) (tgt := 799) d_La_law_416 (by decide) (fun _ => ?_) (fun h => absurd hq2.1 h)
      refine y_inc3 (pc := 799) (v := 4) d_La_law_799 (by decide) ?_
      refine x_goto (pc := 802) (tgt := 18) d_La_law_802 (by decide) ?_
      rw [show nI (4 * k) + 4 = nI (4 * (k + 1)) by rw [show (4 : Int32) = nI 4 from rfl, nI_add]; rfl]
      exact hs _ _ hq2.2
    | 9, _ =>
      refine x_sw_in (pc := 32) (off := 389) (tgt := 421) d_La_law_32 (by decide) (by decide) rfl (by decide) ?_
      refine x_aload_n (pc := 421) d_La_law_421 rfl ?_
      refine x_sload_n (pc := 422) d_La_law_422 rfl ?_
      refine x_iload_n (pc := 423) d_La_law_423 rfl ?_
      refine x_iconst (pc := 424) (v := 1) d_La_law_424 (by decide) ?_
      refine x_iadd (pc := 425) d_La_law_425 ?_
      refine x_sld (pc := 426) d_La_law_426 rfl (by rw [show (1 : Int32) = nI 1 from rfl, nI_add]; exact vp_in_nI (by omega) (by omega)) ?_
      refine x_sload_n (pc := 427) d_La_law_427 rfl ?_
      refine x_iload_n (pc := 428) d_La_law_428 rfl ?_
      refine x_iconst (pc := 429) (v := 2) d_La_law_429 (by decide) ?_
      refine x_iadd (pc := 430) d_La_law_430 ?_
      refine x_sld (pc := 431) d_La_law_431 rfl (by rw [show (2 : Int32) = nI 2 from rfl, nI_add]; exact vp_in_nI (by omega) (by omega)) ?_
      refine l_call (pc := 432) (d' := 30) (HO.2.2.2.1 _ _ k V A hk512 hI) k_CW_with d_La_law_432 m_La_54 (by omega) ⟨by decide, by decide⟩ rfl rfl rfl rfl p_CW_with (K := fun v V1 A1 hq => ?_)
      refine x_aload_n (pc := 435) d_La_law_435 rfl ?_
      refine x_sload_n (pc := 436) d_La_law_436 rfl ?_
      refine x_iload_n (pc := 437) d_La_law_437 rfl ?_
      refine x_iconst (pc := 438) (v := 1) d_La_law_438 (by decide) ?_
      refine x_iadd (pc := 439) d_La_law_439 ?_
      refine x_sld (pc := 440) d_La_law_440 rfl (by rw [show (1 : Int32) = nI 1 from rfl, nI_add]; exact vp_in_nI (by omega) (by omega)) ?_
      refine x_sload_n (pc := 441) d_La_law_441 rfl ?_
      refine x_iload_n (pc := 442) d_La_law_442 rfl ?_
      refine x_iconst (pc := 443) (v := 2) d_La_law_443 (by decide) ?_
      refine x_iadd (pc := 444) d_La_law_444 ?_
      refine x_sld (pc := 445) d_La_law_445 rfl (by rw [show (2 : Int32) = nI 2 from rfl, nI_add]; exact vp_in_nI (by omega) (by omega)) ?_
      refine l_call (pc := 446) (d' := 50) hq k_Mo_with d_La_law_446 m_La_57 (by omega) ⟨by decide, by decide⟩ rfl rfl rfl rfl p_Mo_with (K := fun v' V2 A2 hq2 => ?_)
      refine x_icmp_eq (pc := 449) (tgt := 799) d_La_law_449 (by decide) (fun _ => ?_) (fun h => absurd hq2.1 h)
      refine y_inc3 (pc := 799) (v := 4) d_La_law_799 (by decide) ?_
      refine x_goto (pc := 802) (tgt := 18) d_La_law_802 (by decide) ?_
      rw [show nI (4 * k) + 4 = nI (4 * (k + 1)) by rw [show (4 : Int32) = nI 4 from rfl, nI_add]; rfl]
      exact hs _ _ hq2.2
    | 10, _ =>
      refine x_sw_in (pc := 32) (off := 422) (tgt := 454) d_La_law_32 (by decide) (by decide) rfl (by decide) ?_
      refine x_aload_n (pc := 454) d_La_law_454 rfl ?_
      refine x_sload_n (pc := 455) d_La_law_455 rfl ?_
      refine x_iload_n (pc := 456) d_La_law_456 rfl ?_
      refine x_iconst (pc := 457) (v := 1) d_La_law_457 (by decide) ?_
      refine x_iadd (pc := 458) d_La_law_458 ?_
      refine x_sld (pc := 459) d_La_law_459 rfl (by rw [show (1 : Int32) = nI 1 from rfl, nI_add]; exact vp_in_nI (by omega) (by omega)) ?_
      refine l_call (pc := 460) (d' := 30) (HO.2.2.2.2.1 _ k V A hk512 hI) k_CW_without d_La_law_460 m_La_58 (by omega) ⟨by decide, by decide⟩ rfl rfl rfl rfl p_CW_without (K := fun v V1 A1 hq => ?_)
      refine x_aload_n (pc := 463) d_La_law_463 rfl ?_
      refine x_sload_n (pc := 464) d_La_law_464 rfl ?_
      refine x_iload_n (pc := 465) d_La_law_465 rfl ?_
      refine x_iconst (pc := 466) (v := 1) d_La_law_466 (by decide) ?_
      refine x_iadd (pc := 467) d_La_law_467 ?_
      refine x_sld (pc := 468) d_La_law_468 rfl (by rw [show (1 : Int32) = nI 1 from rfl, nI_add]; exact vp_in_nI (by omega) (by omega)) ?_
      refine l_call (pc := 469) (d' := 50) hq k_Mo_without d_La_law_469 m_La_61 (by omega) ⟨by decide, by decide⟩ rfl rfl rfl rfl p_Mo_without (K := fun v' V2 A2 hq2 => ?_)
      refine x_icmp_eq (pc := 472) (tgt := 799) d_La_law_472 (by decide) (fun _ => ?_) (fun h => absurd hq2.1 h)
      refine y_inc3 (pc := 799) (v := 4) d_La_law_799 (by decide) ?_
      refine x_goto (pc := 802) (tgt := 18) d_La_law_802 (by decide) ?_
      rw [show nI (4 * k) + 4 = nI (4 * (k + 1)) by rw [show (4 : Int32) = nI 4 from rfl, nI_add]; rfl]
      exact hs _ _ hq2.2
    | 11, _ =>
      refine x_sw_in (pc := 32) (off := 445) (tgt := 477) d_La_law_32 (by decide) (by decide) rfl (by decide) ?_
      refine x_aload_n (pc := 477) d_La_law_477 rfl ?_
      refine x_sload_n (pc := 478) d_La_law_478 rfl ?_
      refine x_iload_n (pc := 479) d_La_law_479 rfl ?_
      refine x_iconst (pc := 480) (v := 1) d_La_law_480 (by decide) ?_
      refine x_iadd (pc := 481) d_La_law_481 ?_
      refine x_sld (pc := 482) d_La_law_482 rfl (by rw [show (1 : Int32) = nI 1 from rfl, nI_add]; exact vp_in_nI (by omega) (by omega)) ?_
      refine l_call (pc := 483) (d' := 30) (HO.2.2.2.2.2.1 _ k V A hk512 hI) k_CW_filter d_La_law_483 m_La_62 (by omega) ⟨by decide, by decide⟩ rfl rfl rfl rfl p_CW_filter (K := fun v V1 A1 hq => ?_)
      refine x_aload_n (pc := 486) d_La_law_486 rfl ?_
      refine x_sload_n (pc := 487) d_La_law_487 rfl ?_
      refine x_iload_n (pc := 488) d_La_law_488 rfl ?_
      refine x_iconst (pc := 489) (v := 1) d_La_law_489 (by decide) ?_
      refine x_iadd (pc := 490) d_La_law_490 ?_
      refine x_sld (pc := 491) d_La_law_491 rfl (by rw [show (1 : Int32) = nI 1 from rfl, nI_add]; exact vp_in_nI (by omega) (by omega)) ?_
      refine l_call (pc := 492) (d' := 50) hq k_Mo_filter d_La_law_492 m_La_65 (by omega) ⟨by decide, by decide⟩ rfl rfl rfl rfl p_Mo_filter (K := fun v' V2 A2 hq2 => ?_)
      refine x_icmp_eq (pc := 495) (tgt := 799) d_La_law_495 (by decide) (fun _ => ?_) (fun h => absurd hq2.1 h)
      refine y_inc3 (pc := 799) (v := 4) d_La_law_799 (by decide) ?_
      refine x_goto (pc := 802) (tgt := 18) d_La_law_802 (by decide) ?_
      rw [show nI (4 * k) + 4 = nI (4 * (k + 1)) by rw [show (4 : Int32) = nI 4 from rfl, nI_add]; rfl]
      exact hs _ _ hq2.2
    | 12, _ =>
      refine x_sw_in (pc := 32) (off := 468) (tgt := 500) d_La_law_32 (by decide) (by decide) rfl (by decide) ?_
      refine x_aload_n (pc := 500) d_La_law_500 rfl ?_
      refine x_sload_n (pc := 501) d_La_law_501 rfl ?_
      refine x_iload_n (pc := 502) d_La_law_502 rfl ?_
      refine x_iconst (pc := 503) (v := 1) d_La_law_503 (by decide) ?_
      refine x_iadd (pc := 504) d_La_law_504 ?_
      refine x_sld (pc := 505) d_La_law_505 rfl (by rw [show (1 : Int32) = nI 1 from rfl, nI_add]; exact vp_in_nI (by omega) (by omega)) ?_
      refine x_sload_n (pc := 506) d_La_law_506 rfl ?_
      refine x_iload_n (pc := 507) d_La_law_507 rfl ?_
      refine x_iconst (pc := 508) (v := 2) d_La_law_508 (by decide) ?_
      refine x_iadd (pc := 509) d_La_law_509 ?_
      refine x_sld (pc := 510) d_La_law_510 rfl (by rw [show (2 : Int32) = nI 2 from rfl, nI_add]; exact vp_in_nI (by omega) (by omega)) ?_
      refine l_call (pc := 511) (d' := 1) (pr_weight _ _ k V A hk512 hI) k_CW_weight d_La_law_511 m_La_66 (by omega) ⟨by decide, by decide⟩ rfl rfl rfl rfl p_CW_weight (K := fun v V1 A1 hq => ?_)
      refine x_aload_n (pc := 514) d_La_law_514 rfl ?_
      refine x_sload_n (pc := 515) d_La_law_515 rfl ?_
      refine x_iload_n (pc := 516) d_La_law_516 rfl ?_
      refine x_iconst (pc := 517) (v := 1) d_La_law_517 (by decide) ?_
      refine x_iadd (pc := 518) d_La_law_518 ?_
      refine x_sld (pc := 519) d_La_law_519 rfl (by rw [show (1 : Int32) = nI 1 from rfl, nI_add]; exact vp_in_nI (by omega) (by omega)) ?_
      refine x_sload_n (pc := 520) d_La_law_520 rfl ?_
      refine x_iload_n (pc := 521) d_La_law_521 rfl ?_
      refine x_iconst (pc := 522) (v := 2) d_La_law_522 (by decide) ?_
      refine x_iadd (pc := 523) d_La_law_523 ?_
      refine x_sld (pc := 524) d_La_law_524 rfl (by rw [show (2 : Int32) = nI 2 from rfl, nI_add]; exact vp_in_nI (by omega) (by omega)) ?_
      refine l_call (pc := 525) (d' := 2) hq k_Mo_weight d_La_law_525 m_La_69 (by omega) ⟨by decide, by decide⟩ rfl rfl rfl rfl p_Mo_weight (K := fun v' V2 A2 hq2 => ?_)
      refine x_icmp_eq (pc := 528) (tgt := 799) d_La_law_528 (by decide) (fun _ => ?_) (fun h => absurd hq2.1 h)
      refine y_inc3 (pc := 799) (v := 4) d_La_law_799 (by decide) ?_
      refine x_goto (pc := 802) (tgt := 18) d_La_law_802 (by decide) ?_
      rw [show nI (4 * k) + 4 = nI (4 * (k + 1)) by rw [show (4 : Int32) = nI 4 from rfl, nI_add]; rfl]
      exact hs _ _ hq2.2
    | 13, _ =>
      refine x_sw_in (pc := 32) (off := 501) (tgt := 533) d_La_law_32 (by decide) (by decide) rfl (by decide) ?_
      refine x_aload_n (pc := 533) d_La_law_533 rfl ?_
      refine l_call (pc := 534) (d' := 10) (HO.2.2.2.2.2.2.1 k V A hk512 hI) k_CW_bound d_La_law_534 m_La_70 (by omega) ⟨by decide, by decide⟩ rfl rfl rfl rfl p_CW_bound (K := fun v V1 A1 hq => ?_)
      refine x_aload_n (pc := 537) d_La_law_537 rfl ?_
      refine l_call (pc := 538) (d' := 10) hq k_Mo_bound d_La_law_538 m_La_73 (by omega) ⟨by decide, by decide⟩ rfl rfl rfl rfl p_Mo_bound (K := fun v' V2 A2 hq2 => ?_)
      refine x_icmp_eq (pc := 541) (tgt := 799) d_La_law_541 (by decide) (fun _ => ?_) (fun h => absurd hq2.1 h)
      refine y_inc3 (pc := 799) (v := 4) d_La_law_799 (by decide) ?_
      refine x_goto (pc := 802) (tgt := 18) d_La_law_802 (by decide) ?_
      rw [show nI (4 * k) + 4 = nI (4 * (k + 1)) by rw [show (4 : Int32) = nI 4 from rfl, nI_add]; rfl]
      exact hs _ _ hq2.2
    | 14, _ =>
      refine x_sw_in (pc := 32) (off := 514) (tgt := 546) d_La_law_32 (by decide) (by decide) rfl (by decide) ?_
      refine x_aload_n (pc := 546) d_La_law_546 rfl ?_
      refine x_sload_n (pc := 547) d_La_law_547 rfl ?_
      refine x_iload_n (pc := 548) d_La_law_548 rfl ?_
      refine x_iconst (pc := 549) (v := 1) d_La_law_549 (by decide) ?_
      refine x_iadd (pc := 550) d_La_law_550 ?_
      refine x_sld (pc := 551) d_La_law_551 rfl (by rw [show (1 : Int32) = nI 1 from rfl, nI_add]; exact vp_in_nI (by omega) (by omega)) ?_
      refine x_sload_n (pc := 552) d_La_law_552 rfl ?_
      refine x_iload_n (pc := 553) d_La_law_553 rfl ?_
      refine x_iconst (pc := 554) (v := 2) d_La_law_554 (by decide) ?_
      refine x_iadd (pc := 555) d_La_law_555 ?_
      refine x_sld (pc := 556) d_La_law_556 rfl (by rw [show (2 : Int32) = nI 2 from rfl, nI_add]; exact vp_in_nI (by omega) (by omega)) ?_
      refine l_call (pc := 557) (d' := 10) (HO.2.2.2.2.2.2.2.1 _ _ k V A hk512 hI) k_CW_edge d_La_law_557 m_La_74 (by omega) ⟨by decide, by decide⟩ rfl rfl rfl rfl p_CW_edge (K := fun v V1 A1 hq => ?_)
      refine x_aload_n (pc := 560) d_La_law_560 rfl ?_
      refine x_sload_n (pc := 561) d_La_law_561 rfl ?_
      refine x_iload_n (pc := 562) d_La_law_562 rfl ?_
      refine x_iconst (pc := 563) (v := 1) d_La_law_563 (by decide) ?_
      refine x_iadd (pc := 564) d_La_law_564 ?_
      refine x_sld (pc := 565) d_La_law_565 rfl (by rw [show (1 : Int32) = nI 1 from rfl, nI_add]; exact vp_in_nI (by omega) (by omega)) ?_
      refine x_sload_n (pc := 566) d_La_law_566 rfl ?_
      refine x_iload_n (pc := 567) d_La_law_567 rfl ?_
      refine x_iconst (pc := 568) (v := 2) d_La_law_568 (by decide) ?_
      refine x_iadd (pc := 569) d_La_law_569 ?_
      refine x_sld (pc := 570) d_La_law_570 rfl (by rw [show (2 : Int32) = nI 2 from rfl, nI_add]; exact vp_in_nI (by omega) (by omega)) ?_
      refine l_call (pc := 571) (d' := 10) hq k_Mo_edge d_La_law_571 m_La_77 (by omega) ⟨by decide, by decide⟩ rfl rfl rfl rfl p_Mo_edge (K := fun v' V2 A2 hq2 => ?_)
      refine x_icmp_eq (pc := 574) (tgt := 799) d_La_law_574 (by decide) (fun _ => ?_) (fun h => absurd hq2.1 h)
      refine y_inc3 (pc := 799) (v := 4) d_La_law_799 (by decide) ?_
      refine x_goto (pc := 802) (tgt := 18) d_La_law_802 (by decide) ?_
      rw [show nI (4 * k) + 4 = nI (4 * (k + 1)) by rw [show (4 : Int32) = nI 4 from rfl, nI_add]; rfl]
      exact hs _ _ hq2.2
    | 15, _ =>
      refine x_sw_in (pc := 32) (off := 547) (tgt := 579) d_La_law_32 (by decide) (by decide) rfl (by decide) ?_
      refine x_aload_n (pc := 579) d_La_law_579 rfl ?_
      refine x_sload_n (pc := 580) d_La_law_580 rfl ?_
      refine x_iload_n (pc := 581) d_La_law_581 rfl ?_
      refine x_iconst (pc := 582) (v := 1) d_La_law_582 (by decide) ?_
      refine x_iadd (pc := 583) d_La_law_583 ?_
      refine x_sld (pc := 584) d_La_law_584 rfl (by rw [show (1 : Int32) = nI 1 from rfl, nI_add]; exact vp_in_nI (by omega) (by omega)) ?_
      refine l_call (pc := 585) (d' := 10) (HO.2.2.2.2.2.2.2.2.1 _ k V A hk512 hI) k_CW_degree d_La_law_585 m_La_78 (by omega) ⟨by decide, by decide⟩ rfl rfl rfl rfl p_CW_degree (K := fun v V1 A1 hq => ?_)
      refine x_aload_n (pc := 588) d_La_law_588 rfl ?_
      refine x_sload_n (pc := 589) d_La_law_589 rfl ?_
      refine x_iload_n (pc := 590) d_La_law_590 rfl ?_
      refine x_iconst (pc := 591) (v := 1) d_La_law_591 (by decide) ?_
      refine x_iadd (pc := 592) d_La_law_592 ?_
      refine x_sld (pc := 593) d_La_law_593 rfl (by rw [show (1 : Int32) = nI 1 from rfl, nI_add]; exact vp_in_nI (by omega) (by omega)) ?_
      refine l_call (pc := 594) (d' := 10) hq k_Mo_degree d_La_law_594 m_La_81 (by omega) ⟨by decide, by decide⟩ rfl rfl rfl rfl p_Mo_degree (K := fun v' V2 A2 hq2 => ?_)
      refine x_icmp_eq (pc := 597) (tgt := 799) d_La_law_597 (by decide) (fun _ => ?_) (fun h => absurd hq2.1 h)
      refine y_inc3 (pc := 799) (v := 4) d_La_law_799 (by decide) ?_
      refine x_goto (pc := 802) (tgt := 18) d_La_law_802 (by decide) ?_
      rw [show nI (4 * k) + 4 = nI (4 * (k + 1)) by rw [show (4 : Int32) = nI 4 from rfl, nI_add]; rfl]
      exact hs _ _ hq2.2
    | 16, _ =>
      refine x_sw_in (pc := 32) (off := 570) (tgt := 602) d_La_law_32 (by decide) (by decide) rfl (by decide) ?_
      refine x_aload_n (pc := 602) d_La_law_602 rfl ?_
      refine l_call (pc := 603) (d' := 10) (HO.2.2.2.2.2.2.2.2.2.1 k V A hk512 hI) k_CW_pairing d_La_law_603 m_La_82 (by omega) ⟨by decide, by decide⟩ rfl rfl rfl rfl p_CW_pairing (K := fun v V1 A1 hq => ?_)
      refine x_aload_n (pc := 606) d_La_law_606 rfl ?_
      refine l_call (pc := 607) (d' := 10) hq k_Mo_pairing d_La_law_607 m_La_85 (by omega) ⟨by decide, by decide⟩ rfl rfl rfl rfl p_Mo_pairing (K := fun v' V2 A2 hq2 => ?_)
      refine x_icmp_eq (pc := 610) (tgt := 799) d_La_law_610 (by decide) (fun _ => ?_) (fun h => absurd hq2.1 h)
      refine y_inc3 (pc := 799) (v := 4) d_La_law_799 (by decide) ?_
      refine x_goto (pc := 802) (tgt := 18) d_La_law_802 (by decide) ?_
      rw [show nI (4 * k) + 4 = nI (4 * (k + 1)) by rw [show (4 : Int32) = nI 4 from rfl, nI_add]; rfl]
      exact hs _ _ hq2.2
    | 17, _ =>
      refine x_sw_in (pc := 32) (off := 583) (tgt := 615) d_La_law_32 (by decide) (by decide) rfl (by decide) ?_
      refine x_aload_n (pc := 615) d_La_law_615 rfl ?_
      refine x_sload_n (pc := 616) d_La_law_616 rfl ?_
      refine x_iload_n (pc := 617) d_La_law_617 rfl ?_
      refine x_iconst (pc := 618) (v := 1) d_La_law_618 (by decide) ?_
      refine x_iadd (pc := 619) d_La_law_619 ?_
      refine x_sld (pc := 620) d_La_law_620 rfl (by rw [show (1 : Int32) = nI 1 from rfl, nI_add]; exact vp_in_nI (by omega) (by omega)) ?_
      refine x_sload_n (pc := 621) d_La_law_621 rfl ?_
      refine x_iload_n (pc := 622) d_La_law_622 rfl ?_
      refine x_iconst (pc := 623) (v := 2) d_La_law_623 (by decide) ?_
      refine x_iadd (pc := 624) d_La_law_624 ?_
      refine x_sld (pc := 625) d_La_law_625 rfl (by rw [show (2 : Int32) = nI 2 from rfl, nI_add]; exact vp_in_nI (by omega) (by omega)) ?_
      refine l_call (pc := 626) (d' := 1) (pr_next _ _ k V A hk512 hI) k_CW_next d_La_law_626 m_La_86 (by omega) ⟨by decide, by decide⟩ rfl rfl rfl rfl p_CW_next (K := fun v V1 A1 hq => ?_)
      refine x_aload_n (pc := 629) d_La_law_629 rfl ?_
      refine x_sload_n (pc := 630) d_La_law_630 rfl ?_
      refine x_iload_n (pc := 631) d_La_law_631 rfl ?_
      refine x_iconst (pc := 632) (v := 1) d_La_law_632 (by decide) ?_
      refine x_iadd (pc := 633) d_La_law_633 ?_
      refine x_sld (pc := 634) d_La_law_634 rfl (by rw [show (1 : Int32) = nI 1 from rfl, nI_add]; exact vp_in_nI (by omega) (by omega)) ?_
      refine x_sload_n (pc := 635) d_La_law_635 rfl ?_
      refine x_iload_n (pc := 636) d_La_law_636 rfl ?_
      refine x_iconst (pc := 637) (v := 2) d_La_law_637 (by decide) ?_
      refine x_iadd (pc := 638) d_La_law_638 ?_
      refine x_sld (pc := 639) d_La_law_639 rfl (by rw [show (2 : Int32) = nI 2 from rfl, nI_add]; exact vp_in_nI (by omega) (by omega)) ?_
      refine l_call (pc := 640) (d' := 2) hq k_Mo_next d_La_law_640 m_La_89 (by omega) ⟨by decide, by decide⟩ rfl rfl rfl rfl p_Mo_next (K := fun v' V2 A2 hq2 => ?_)
      refine x_icmp_eq (pc := 643) (tgt := 799) d_La_law_643 (by decide) (fun _ => ?_) (fun h => absurd hq2.1 h)
      refine y_inc3 (pc := 799) (v := 4) d_La_law_799 (by decide) ?_
      refine x_goto (pc := 802) (tgt := 18) d_La_law_802 (by decide) ?_
      rw [show nI (4 * k) + 4 = nI (4 * (k + 1)) by rw [show (4 : Int32) = nI 4 from rfl, nI_add]; rfl]
      exact hs _ _ hq2.2
    | 18, _ =>
      refine x_sw_in (pc := 32) (off := 616) (tgt := 648) d_La_law_32 (by decide) (by decide) rfl (by decide) ?_
      refine x_aload_n (pc := 648) d_La_law_648 rfl ?_
      refine x_sload_n (pc := 649) d_La_law_649 rfl ?_
      refine x_iload_n (pc := 650) d_La_law_650 rfl ?_
      refine x_iconst (pc := 651) (v := 1) d_La_law_651 (by decide) ?_
      refine x_iadd (pc := 652) d_La_law_652 ?_
      refine x_sld (pc := 653) d_La_law_653 rfl (by rw [show (1 : Int32) = nI 1 from rfl, nI_add]; exact vp_in_nI (by omega) (by omega)) ?_
      refine l_call (pc := 654) (d' := 10) (HO.2.2.2.2.2.2.2.2.2.2.1 _ k V A hk512 hI) k_CW_circle d_La_law_654 m_La_90 (by omega) ⟨by decide, by decide⟩ rfl rfl rfl rfl p_CW_circle (K := fun v V1 A1 hq => ?_)
      refine x_aload_n (pc := 657) d_La_law_657 rfl ?_
      refine x_sload_n (pc := 658) d_La_law_658 rfl ?_
      refine x_iload_n (pc := 659) d_La_law_659 rfl ?_
      refine x_iconst (pc := 660) (v := 1) d_La_law_660 (by decide) ?_
      refine x_iadd (pc := 661) d_La_law_661 ?_
      refine x_sld (pc := 662) d_La_law_662 rfl (by rw [show (1 : Int32) = nI 1 from rfl, nI_add]; exact vp_in_nI (by omega) (by omega)) ?_
      refine l_call (pc := 663) (d' := 10) hq k_Mo_circle d_La_law_663 m_La_93 (by omega) ⟨by decide, by decide⟩ rfl rfl rfl rfl p_Mo_circle (K := fun v' V2 A2 hq2 => ?_)
      refine x_icmp_eq (pc := 666) (tgt := 799) d_La_law_666 (by decide) (fun _ => ?_) (fun h => absurd hq2.1 h)
      refine y_inc3 (pc := 799) (v := 4) d_La_law_799 (by decide) ?_
      refine x_goto (pc := 802) (tgt := 18) d_La_law_802 (by decide) ?_
      rw [show nI (4 * k) + 4 = nI (4 * (k + 1)) by rw [show (4 : Int32) = nI 4 from rfl, nI_add]; rfl]
      exact hs _ _ hq2.2
    | 19, _ =>
      refine x_sw_in (pc := 32) (off := 639) (tgt := 671) d_La_law_32 (by decide) (by decide) rfl (by decide) ?_
      refine x_aload_n (pc := 671) d_La_law_671 rfl ?_
      refine x_sload_n (pc := 672) d_La_law_672 rfl ?_
      refine x_iload_n (pc := 673) d_La_law_673 rfl ?_
      refine x_iconst (pc := 674) (v := 1) d_La_law_674 (by decide) ?_
      refine x_iadd (pc := 675) d_La_law_675 ?_
      refine x_sld (pc := 676) d_La_law_676 rfl (by rw [show (1 : Int32) = nI 1 from rfl, nI_add]; exact vp_in_nI (by omega) (by omega)) ?_
      refine l_call (pc := 677) (d' := 10) (HO.2.2.2.2.2.2.2.2.2.2.2.1 _ k V A hk512 hI) k_CW_nearest d_La_law_677 m_La_94 (by omega) ⟨by decide, by decide⟩ rfl rfl rfl rfl p_CW_nearest (K := fun v V1 A1 hq => ?_)
      refine x_aload_n (pc := 680) d_La_law_680 rfl ?_
      refine x_sload_n (pc := 681) d_La_law_681 rfl ?_
      refine x_iload_n (pc := 682) d_La_law_682 rfl ?_
      refine x_iconst (pc := 683) (v := 1) d_La_law_683 (by decide) ?_
      refine x_iadd (pc := 684) d_La_law_684 ?_
      refine x_sld (pc := 685) d_La_law_685 rfl (by rw [show (1 : Int32) = nI 1 from rfl, nI_add]; exact vp_in_nI (by omega) (by omega)) ?_
      refine l_call (pc := 686) (d' := 10) hq k_Mo_nearest d_La_law_686 m_La_97 (by omega) ⟨by decide, by decide⟩ rfl rfl rfl rfl p_Mo_nearest (K := fun v' V2 A2 hq2 => ?_)
      refine x_icmp_eq (pc := 689) (tgt := 799) d_La_law_689 (by decide) (fun _ => ?_) (fun h => absurd hq2.1 h)
      refine y_inc3 (pc := 799) (v := 4) d_La_law_799 (by decide) ?_
      refine x_goto (pc := 802) (tgt := 18) d_La_law_802 (by decide) ?_
      rw [show nI (4 * k) + 4 = nI (4 * (k + 1)) by rw [show (4 : Int32) = nI 4 from rfl, nI_add]; rfl]
      exact hs _ _ hq2.2
    | 20, _ =>
      refine x_sw_in (pc := 32) (off := 662) (tgt := 694) d_La_law_32 (by decide) (by decide) rfl (by decide) ?_
      refine x_aload_n (pc := 694) d_La_law_694 rfl ?_
      refine x_sload_n (pc := 695) d_La_law_695 rfl ?_
      refine x_iload_n (pc := 696) d_La_law_696 rfl ?_
      refine x_iconst (pc := 697) (v := 1) d_La_law_697 (by decide) ?_
      refine x_iadd (pc := 698) d_La_law_698 ?_
      refine x_sld (pc := 699) d_La_law_699 rfl (by rw [show (1 : Int32) = nI 1 from rfl, nI_add]; exact vp_in_nI (by omega) (by omega)) ?_
      refine l_call (pc := 700) (d' := 1) (pr_put _ k V A hk512 hI) k_CW_put d_La_law_700 m_La_98 (by omega) ⟨by decide, by decide⟩ rfl rfl rfl rfl p_CW_put (K := fun v V1 A1 hq => ?_)
      refine x_aload_n (pc := 703) d_La_law_703 rfl ?_
      refine x_sload_n (pc := 704) d_La_law_704 rfl ?_
      refine x_iload_n (pc := 705) d_La_law_705 rfl ?_
      refine x_iconst (pc := 706) (v := 1) d_La_law_706 (by decide) ?_
      refine x_iadd (pc := 707) d_La_law_707 ?_
      refine x_sld (pc := 708) d_La_law_708 rfl (by rw [show (1 : Int32) = nI 1 from rfl, nI_add]; exact vp_in_nI (by omega) (by omega)) ?_
      refine l_call (pc := 709) (d' := 2) hq k_Mo_put d_La_law_709 m_La_101 (by omega) ⟨by decide, by decide⟩ rfl rfl rfl rfl p_Mo_put (K := fun v' V2 A2 hq2 => ?_)
      refine x_icmp_eq (pc := 712) (tgt := 799) d_La_law_712 (by decide) (fun _ => ?_) (fun h => absurd hq2.1 h)
      refine y_inc3 (pc := 799) (v := 4) d_La_law_799 (by decide) ?_
      refine x_goto (pc := 802) (tgt := 18) d_La_law_802 (by decide) ?_
      rw [show nI (4 * k) + 4 = nI (4 * (k + 1)) by rw [show (4 : Int32) = nI 4 from rfl, nI_add]; rfl]
      exact hs _ _ hq2.2
    | 21, _ =>
      refine x_sw_in (pc := 32) (off := 685) (tgt := 717) d_La_law_32 (by decide) (by decide) rfl (by decide) ?_
      refine x_aload_n (pc := 717) d_La_law_717 rfl ?_
      refine x_sload_n (pc := 718) d_La_law_718 rfl ?_
      refine x_iload_n (pc := 719) d_La_law_719 rfl ?_
      refine x_iconst (pc := 720) (v := 1) d_La_law_720 (by decide) ?_
      refine x_iadd (pc := 721) d_La_law_721 ?_
      refine x_sld (pc := 722) d_La_law_722 rfl (by rw [show (1 : Int32) = nI 1 from rfl, nI_add]; exact vp_in_nI (by omega) (by omega)) ?_
      refine l_call (pc := 723) (d' := 1) (pr_keep _ k V A hk512 hI) k_CW_keep d_La_law_723 m_La_102 (by omega) ⟨by decide, by decide⟩ rfl rfl rfl rfl p_CW_keep (K := fun v V1 A1 hq => ?_)
      refine x_aload_n (pc := 726) d_La_law_726 rfl ?_
      refine x_sload_n (pc := 727) d_La_law_727 rfl ?_
      refine x_iload_n (pc := 728) d_La_law_728 rfl ?_
      refine x_iconst (pc := 729) (v := 1) d_La_law_729 (by decide) ?_
      refine x_iadd (pc := 730) d_La_law_730 ?_
      refine x_sld (pc := 731) d_La_law_731 rfl (by rw [show (1 : Int32) = nI 1 from rfl, nI_add]; exact vp_in_nI (by omega) (by omega)) ?_
      refine l_call (pc := 732) (d' := 1) hq k_Mo_keep d_La_law_732 m_La_105 (by omega) ⟨by decide, by decide⟩ rfl rfl rfl rfl p_Mo_keep (K := fun v' V2 A2 hq2 => ?_)
      refine x_icmp_eq (pc := 735) (tgt := 799) d_La_law_735 (by decide) (fun _ => ?_) (fun h => absurd hq2.1 h)
      refine y_inc3 (pc := 799) (v := 4) d_La_law_799 (by decide) ?_
      refine x_goto (pc := 802) (tgt := 18) d_La_law_802 (by decide) ?_
      rw [show nI (4 * k) + 4 = nI (4 * (k + 1)) by rw [show (4 : Int32) = nI 4 from rfl, nI_add]; rfl]
      exact hs _ _ hq2.2
    | 22, _ =>
      refine x_sw_in (pc := 32) (off := 708) (tgt := 740) d_La_law_32 (by decide) (by decide) rfl (by decide) ?_
      refine x_aload_n (pc := 740) d_La_law_740 rfl ?_
      refine l_call (pc := 741) (d' := 10) (HO.2.2.2.2.2.2.2.2.2.2.2.2.1 k V A hk512 hI) k_CW_check d_La_law_741 m_La_106 (by omega) ⟨by decide, by decide⟩ rfl rfl rfl rfl p_CW_check (K := fun v V1 A1 hq => ?_)
      refine x_aload_n (pc := 744) d_La_law_744 rfl ?_
      refine l_call (pc := 745) (d' := 10) hq k_Mo_check d_La_law_745 m_La_109 (by omega) ⟨by decide, by decide⟩ rfl rfl rfl rfl p_Mo_check (K := fun v' V2 A2 hq2 => ?_)
      refine x_icmp_eq (pc := 748) (tgt := 799) d_La_law_748 (by decide) (fun _ => ?_) (fun h => absurd hq2.1 h)
      refine y_inc3 (pc := 799) (v := 4) d_La_law_799 (by decide) ?_
      refine x_goto (pc := 802) (tgt := 18) d_La_law_802 (by decide) ?_
      rw [show nI (4 * k) + 4 = nI (4 * (k + 1)) by rw [show (4 : Int32) = nI 4 from rfl, nI_add]; rfl]
      exact hs _ _ hq2.2
    | 23, _ =>
      refine x_sw_in (pc := 32) (off := 721) (tgt := 753) d_La_law_32 (by decide) (by decide) rfl (by decide) ?_
      refine x_aload_n (pc := 753) d_La_law_753 rfl ?_
      refine x_sload_n (pc := 754) d_La_law_754 rfl ?_
      refine x_iload_n (pc := 755) d_La_law_755 rfl ?_
      refine x_iconst (pc := 756) (v := 1) d_La_law_756 (by decide) ?_
      refine x_iadd (pc := 757) d_La_law_757 ?_
      refine x_sld (pc := 758) d_La_law_758 rfl (by rw [show (1 : Int32) = nI 1 from rfl, nI_add]; exact vp_in_nI (by omega) (by omega)) ?_
      refine l_call (pc := 759) (d' := 10) (HO.2.2.2.2.2.2.2.2.2.2.2.2.2 _ k V A hk512 hI) k_CW_insert d_La_law_759 m_La_110 (by omega) ⟨by decide, by decide⟩ rfl rfl rfl rfl p_CW_insert (K := fun v V1 A1 hq => ?_)
      refine x_aload_n (pc := 762) d_La_law_762 rfl ?_
      refine x_sload_n (pc := 763) d_La_law_763 rfl ?_
      refine x_iload_n (pc := 764) d_La_law_764 rfl ?_
      refine x_iconst (pc := 765) (v := 1) d_La_law_765 (by decide) ?_
      refine x_iadd (pc := 766) d_La_law_766 ?_
      refine x_sld (pc := 767) d_La_law_767 rfl (by rw [show (1 : Int32) = nI 1 from rfl, nI_add]; exact vp_in_nI (by omega) (by omega)) ?_
      refine l_call (pc := 768) (d' := 10) hq k_Mo_insert d_La_law_768 m_La_113 (by omega) ⟨by decide, by decide⟩ rfl rfl rfl rfl p_Mo_insert (K := fun v' V2 A2 hq2 => ?_)
      refine x_icmp_eq (pc := 771) (tgt := 799) d_La_law_771 (by decide) (fun _ => ?_) (fun h => absurd hq2.1 h)
      refine y_inc3 (pc := 799) (v := 4) d_La_law_799 (by decide) ?_
      refine x_goto (pc := 802) (tgt := 18) d_La_law_802 (by decide) ?_
      rw [show nI (4 * k) + 4 = nI (4 * (k + 1)) by rw [show (4 : Int32) = nI 4 from rfl, nI_add]; rfl]
      exact hs _ _ hq2.2
    | 24, _ =>
      refine x_sw_in (pc := 32) (off := 744) (tgt := 776) d_La_law_32 (by decide) (by decide) rfl (by decide) ?_
      refine x_aload_n (pc := 776) d_La_law_776 rfl ?_
      refine x_sload_n (pc := 777) d_La_law_777 rfl ?_
      refine x_iload_n (pc := 778) d_La_law_778 rfl ?_
      refine x_iconst (pc := 779) (v := 1) d_La_law_779 (by decide) ?_
      refine x_iadd (pc := 780) d_La_law_780 ?_
      refine x_sld (pc := 781) d_La_law_781 rfl (by rw [show (1 : Int32) = nI 1 from rfl, nI_add]; exact vp_in_nI (by omega) (by omega)) ?_
      refine l_call (pc := 782) (d' := 2) (pr_count _ k V A hk512 hI) k_CW_count d_La_law_782 m_La_114 (by omega) ⟨by decide, by decide⟩ rfl rfl rfl rfl p_CW_count (K := fun v V1 A1 hq => ?_)
      refine x_aload_n (pc := 785) d_La_law_785 rfl ?_
      refine x_sload_n (pc := 786) d_La_law_786 rfl ?_
      refine x_iload_n (pc := 787) d_La_law_787 rfl ?_
      refine x_iconst (pc := 788) (v := 1) d_La_law_788 (by decide) ?_
      refine x_iadd (pc := 789) d_La_law_789 ?_
      refine x_sld (pc := 790) d_La_law_790 rfl (by rw [show (1 : Int32) = nI 1 from rfl, nI_add]; exact vp_in_nI (by omega) (by omega)) ?_
      refine l_call (pc := 791) (d' := 0) hq k_Mo_count d_La_law_791 m_La_117 (by omega) ⟨by decide, by decide⟩ rfl rfl rfl rfl p_Mo_count (K := fun v' V2 A2 hq2 => ?_)
      refine x_icmp_eq (pc := 794) (tgt := 799) d_La_law_794 (by decide) (fun _ => ?_) (fun h => absurd hq2.1 h)
      refine y_inc3 (pc := 799) (v := 4) d_La_law_799 (by decide) ?_
      refine x_goto (pc := 802) (tgt := 18) d_La_law_802 (by decide) ?_
      rw [show nI (4 * k) + 4 = nI (4 * (k + 1)) by rw [show (4 : Int32) = nI 4 from rfl, nI_add]; rfl]
      exact hs _ _ hq2.2
    | j + 25, hj =>
      have h6 : (nI (j + 25)).toInt = ((j + 25 : Nat) : Int) := nI_toInt (by omega)
      refine x_sw_out (pc := 32) (tgt := 799) d_La_law_32 (by rw [h6]; omega) (by decide) ?_
      refine y_inc3 (pc := 799) (v := 4) d_La_law_799 (by decide) ?_
      refine x_goto (pc := 802) (tgt := 18) d_La_law_802 (by decide) ?_
      rw [show nI (4 * k) + 4 = nI (4 * (k + 1)) by rw [show (4 : Int32) = nI 4 from rfl, nI_add]; rfl]
      exact hs _ _ (hI.more)
end LAW3
set_option maxRecDepth 100000 in
set_option maxHeartbeats 4000000 in
theorem law_body_open {SH TA FI KN} (HO : OpenPairs SH TA FI KN) {L : Nat} {xs : Nat → Int32} (hL : L ≤ 2048) : X Y_La_law room_1 (L, xs) zfL 0 [.float 0, zu, zu, zu] [] [] 0 0 := by
  refine x_new (pc := 0) (ci := 0) (fs := [.null, .null, .null, .null, .null, .null, .null, .null, .null]) d_La_law_0 c_La_7 rfl (fun _ j hj => by match j, hj with | 0, _ => rfl | 1, _ => rfl | 2, _ => rfl | 3, _ => rfl | 4, _ => rfl | 5, _ => rfl | 6, _ => rfl | 7, _ => rfl | 8, _ => rfl | j + 9, h => exact absurd h (by omega)) (by decide) (by decide) ?_
  show X Y_La_law room_1 (L, xs) zfL 3 [.float 0, zu, zu, zu] [.ref 0] [.inr (0, [.null, .null, .null, .null, .null, .null, .null, .null, .null])] 1 9
  refine x_dup (pc := 3) d_La_law_3 rfl ?_
  refine x_callI (pc := 4) (k := 0) (av := []) (rest := [.ref 0]) c_CW_init k_CW_init rfl d_La_law_4 m_La_9 rfl rfl (by simp [Value.category]) p_CW_init ⟨by decide, by decide⟩ ⟨by decide, by decide⟩ (by decide) (fun r μ' hq v hv => by rw [hq.1] at hv; cases hv) (fun r μ' hq => ?_)
  rw [hq.1, hq.2]
  show X Y_La_law room_1 (L, xs) zfL 7 [.float 0, zu, zu, zu] [.ref 0] wm_fin 36 13432
  refine y_ast1 (pc := 7) d_La_law_7 ?_
  refine x_new (pc := 8) (ci := 11) (fs := [.int 0, .int 0, .null, .null, .null, .null, .int 0, .int 0, .int 0, .null, .null, .null, .int 0, .int 0, .int 0, .int 0, .null, .null, .null, .int 0, .null, .int 0, .int 0, .int 0, .int 0, .int 0, .null, .null, .int 0, .null, .null]) d_La_law_8 c_La_10 rfl (fun _ j hj => by match j, hj with | 0, _ => rfl | 1, _ => rfl | 2, _ => rfl | 3, _ => rfl | 4, _ => rfl | 5, _ => rfl | 6, _ => rfl | 7, _ => rfl | 8, _ => rfl | 9, _ => rfl | 10, _ => rfl | 11, _ => rfl | 12, _ => rfl | 13, _ => rfl | 14, _ => rfl | 15, _ => rfl | 16, _ => rfl | 17, _ => rfl | 18, _ => rfl | 19, _ => rfl | 20, _ => rfl | 21, _ => rfl | 22, _ => rfl | 23, _ => rfl | 24, _ => rfl | 25, _ => rfl | 26, _ => rfl | 27, _ => rfl | 28, _ => rfl | 29, _ => rfl | 30, _ => rfl | j + 31, h => exact absurd h (by omega)) (by decide) (by decide) ?_
  show X Y_La_law room_1 (L, xs) zfL 11 [.float 0, .ref 0, zu, zu] [.ref (wm_fin.length + 0)] (wm_fin ++ [.inr (11, [.int 0, .int 0, .null, .null, .null, .null, .int 0, .int 0, .int 0, .null, .null, .null, .int 0, .int 0, .int 0, .int 0, .null, .null, .null, .int 0, .null, .int 0, .int 0, .int 0, .int 0, .int 0, .null, .null, .int 0, .null, .null])]) 37 13463
  refine x_dup (pc := 11) d_La_law_11 rfl ?_
  refine x_callI (pc := 12) (k := wm_fin.length + 0) (av := []) (rest := [.ref (wm_fin.length + 0)]) (c_Mo_init wm_fin) k_Mo_init rfl d_La_law_12 m_La_12 rfl rfl (by simp [Value.category]) p_Mo_init ⟨by decide, by decide⟩ ⟨by decide, by decide⟩ (by decide) (fun r μ' hq v hv => by rw [hq.1] at hv; cases hv) (fun r μ' hq => ?_)
  rw [hq.1, hq.2]
  show X Y_La_law room_1 (L, xs) zfL 15 [.float 0, .ref 0, zu, zu] [.ref 36] wm_all 52 14353
  rw [z_start]
  refine y_ast2 (pc := 15) d_La_law_15 ?_
  refine x_iconst (pc := 16) (v := 0) d_La_law_16 (by decide) ?_
  refine y_ist3 (pc := 17) d_La_law_17 ?_
  exact law_loop_open HO hL 0 (Nat.zero_le _) _ _ inv_start
set_option maxRecDepth 100000 in
set_option maxHeartbeats 4000000 in
theorem whole_start_open {SH TA FI KN} (HO : OpenPairs SH TA FI KN) {p : Program} {e : Env} {s : State} {m : MethodId} {below : List Frame} {meth : Method} {c : Code} (l : Launch) {b L : Nat} {xs : Nat → Int32} (hL : L ≤ 2048) (C0 : lw_At p s m meth c b L xs) : W p l e room_1 s m #[Value.ref b] below meth c s.heap [] 0 0 (lw_Z below #[Value.ref b] s) (entryFrame m ([Value.ref b] : List Value).toArray 4) := by
  obtain ⟨hx, hb, hr, hml, hown, hts, hX, hbl, hlocks, hgv⟩ := C0
  have htz : ∀ w ∈ zt, w.before #[Value.ref b] s = true := fun w hw => hts w (zt_tbl hw)
  obtain ⟨c0, iS0, hKn0⟩ := u_known (C := "CircuitWays") (T := zT0) (N := 9) (n := 9) htz zi0 (htz _ zw0.1)
  obtain ⟨c1, iS1, hKn1⟩ := u_known (C := "CircuitWays$Net") (T := zT1) (N := 9) (n := 9) htz zi1 (htz _ zw1.1)
  obtain ⟨c2, iS2, hKn2⟩ := u_known (C := "CircuitWays$Paths") (T := zT2) (N := 7) (n := 7) htz zi2 (htz _ zw2.1)
  obtain ⟨c3, iS3, hKn3⟩ := u_known (C := "CircuitWays$Shares") (T := zT3) (N := 7) (n := 7) htz zi3 (htz _ zw3.1)
  obtain ⟨c4, iS4, hKn4⟩ := u_known (C := "CircuitWays$Tails") (T := zT4) (N := 8) (n := 8) htz zi4 (htz _ zw4.1)
  obtain ⟨c5, iS5, hKn5⟩ := u_known (C := "CircuitWays$FirstPlan") (T := zT5) (N := 8) (n := 8) htz zi5 (htz _ zw5.1)
  obtain ⟨c6, iS6, hKn6⟩ := u_known (C := "CircuitWays$Tree") (T := zT6) (N := 7) (n := 7) htz zi6 (htz _ zw6.1)
  obtain ⟨c7, iS7, hKn7⟩ := u_known (C := "CircuitWays$Pairs") (T := zT7) (N := 2) (n := 2) htz zi7 (htz _ zw7.1)
  obtain ⟨c8, iS8, hKn8⟩ := u_known (C := "CircuitWays$Circles") (T := zT8) (N := 3) (n := 3) htz zi8 (htz _ zw8.1)
  obtain ⟨c9, iS9, hKn9⟩ := u_known (C := "CircuitWays$Ways") (T := zT9) (N := 2) (n := 2) htz zi9 (htz _ zw9.1)
  obtain ⟨c10, iS10, hKn10⟩ := u_known (C := "CircuitWays$Row") (T := zT10) (N := 4) (n := 4) htz zi10 (htz _ zw10.1)
  obtain ⟨c11, iS11, hKn11⟩ := u_known (C := "CircuitWaysModel") (T := zT11) (N := 31) (n := 31) htz zi11 (htz _ zw11.1)
  obtain ⟨dC, dI, hKc⟩ : ∃ (dC : Nat → ClassId) (dI : Nat → Nat → Nat), ∀ (k : Nat) (q : vw_C), zcl[k]? = some q → u_Kn s q.1 q.2.1 q.2.2 (dC k) (dI k) := by
    refine ⟨fun k => match k with | 0 => c0 | 1 => c1 | 2 => c2 | 3 => c3 | 4 => c4 | 5 => c5 | 6 => c6 | 7 => c7 | 8 => c8 | 9 => c9 | 10 => c10 | _ => c11, fun k => match k with | 0 => iS0 | 1 => iS1 | 2 => iS2 | 3 => iS3 | 4 => iS4 | 5 => iS5 | 6 => iS6 | 7 => iS7 | 8 => iS8 | 9 => iS9 | 10 => iS10 | _ => iS11, ?_⟩
    intro k q hq
    match k, hq with
    | 0, hq => cases hq; exact hKn0
    | 1, hq => cases hq; exact hKn1
    | 2, hq => cases hq; exact hKn2
    | 3, hq => cases hq; exact hKn3
    | 4, hq => cases hq; exact hKn4
    | 5, hq => cases hq; exact hKn5
    | 6, hq => cases hq; exact hKn6
    | 7, hq => cases hq; exact hKn7
    | 8, hq => cases hq; exact hKn8
    | 9, hq => cases hq; exact hKn9
    | 10, hq => cases hq; exact hKn10
    | 11, hq => cases hq; exact hKn11
    | k + 12, hq => simp [zcl] at hq
  obtain ⟨cI, kAcI, compcI, hfcI, hkcI, hdcI⟩ := Cond.arrayClass_spec (htz _ zarr_int)
  obtain ⟨cZ, kAcZ, compcZ, hfcZ, hkcZ, hdcZ⟩ := Cond.arrayClass_spec (htz _ zarr_boolean)
  have hK : zK (dC, dI) cI cZ s := by
    refine ⟨⟨hKc, fun k q hq => ?_⟩, fun w hw => va_Nw.of ?_ (hts w (znest_in w hw))⟩
    · match k, hq with
      | 0, hq => cases hq; exact ⟨fun n z => ⟨fun k h => (by cases h), kAcI, hkcI, compcI, hdcI⟩, hfcI⟩
      | 1, hq => cases hq; exact ⟨fun n z => ⟨fun k h => (by cases h), kAcZ, hkcZ, compcZ, hdcZ⟩, hfcZ⟩
      | k + 2, hq => simp at hq
    · simp only [znest, List.mem_cons, List.not_mem_nil, or_false] at hw
      rcases hw with rfl | rfl | rfl | rfl | rfl | rfl | rfl | rfl | rfl | rfl | rfl | rfl | rfl <;> rfl
  have hl := lv_entry ([.ref b]) (n := 4) (Nat.le_of_ble_eq_true rfl)
  rw [lg_entry_eq]
  generalize (lg_sl ([.ref b]) ++ List.replicate (4 - (lg_sl ([.ref b])).length) Slot.unset).toArray = ls at hl ⊢
  refine law_body_open HO hL p l e s m _ below meth c b s.heap.size (dC, dI) cI cZ s.heap [] ls ⟨hx, hb, hml, hown, htz, hr, hlocks, fun h => absurd h (by decide)⟩ hK (fun _ => ⟨hbl, hbl, hX, Nat.le_refl _⟩) (Nat.le_refl _) ⟨rfl, fun k q h => by simp [zw] at h⟩ va_S.rf ⟨rfl, fun v hv => ?_, hl.1, hl.2.1, fun i v hi hk => ?_⟩
  · simp at hv; rcases hv with rfl | rfl <;> rfl
  · match i, hi with
    | 0, hi => cases hi; exact hl.2.2 (0, .ref b) (List.mem_cons_self)
    | 1, hi => cases hi; simp [zknown] at hk
    | 2, hi => cases hi; simp [zknown] at hk
    | 3, hi => cases hi; simp [zknown] at hk
    | i + 4, hi => simp at hi
