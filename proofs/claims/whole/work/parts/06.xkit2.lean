section XR2
variable {Y : zY} {rm : Room} {sc : Nat × (Nat → Int32)} {F : zFin} {pc : Nat} {lv st : List Value} {μ : zMem} {kc ks : Nat}
theorem zM_set {D : va_G} {cI cZ : ClassId} {base : Nat} {μ : zMem} {H H1 : Heap} {k : Nat} {c0 c1 : zE} (h : zM D cI cZ base μ H) (h0 : μ[k]? = some c0) (hz : H1.size = H.size) (ha : va_at D zcl (base + k, ze cI cZ base c1) H1) (hq : ∀ q : Nat, q ≠ base + k → H1[q]? = H[q]?) : zM D cI cZ base (μ.set k c1) H1 := by
  refine ⟨by rw [hz, h.1, List.length_set], ?_⟩
  rw [← zw_set]
  exact h.2.set (zw_D cI cZ base μ) (zw_get h0) ha hq
theorem zr_sum {base b : Nat} : ∀ {st : List Value}, (∀ v ∈ st, v.category = 1) → ((st.map (zr base b)).map fun v => v.category).sum = (st.map fun v => v.category).sum
  | [], _ => rfl
  | v :: st, h => by
    simp only [List.map_cons, List.sum_cons]
    rw [zr_sum (fun w hw => h w (List.mem_cons_of_mem _ hw)), zr_cat (h v List.mem_cons_self), h v List.mem_cons_self]
theorem x_put {i k ci j N : Nat} {C ref nm ds : String} {T : u_T} {fs : List Value} {v : Value} {μ' : zMem} (hd : decode Y.2.1 pc = .ok (.putfield i, 3)) (hw : Cond.fieldLink Y.2.2.2.2 i ref nm ds ∈ zt) (hm : μ[k]? = some (.inr (ci, fs))) (hc : zcl[ci]? = some (C, T, N)) (hj : j < N) (hT : T j = (ref, nm, ds, false)) (hf : j < fs.length) (ho : zok v = true) (hn : ∀ base b, narrow (zty ci j) (zr base b v) = zr base b v) (hfit : ∀ base b, fits (zty ci j) (zr base b v) = true) (hμ : μ.set k (.inr (ci, fs.set j v)) = μ') (K : X Y rm sc F (pc + 3) lv st μ' kc ks) : X Y rm sc F pc lv (v :: .ref k :: st) μ kc ks := by
  subst hμ
  intro p l e s m args below meth c b base D cI cZ H locs ls hC hK hZ hb hM hS hL
  have e1 : (T j).1 = ref := by rw [hT]
  have e2 : (T j).2.1 = nm := by rw [hT]
  have e3 : (T j).2.2.1 = ds := by rw [hT]
  have e4 : (T j).2.2.2 = false := by rw [hT]
  subst e1 e2 e3
  have hap := va_apart (own := Y.2.2.2.2) hC.2.2.2.2.1 (zcl_in ci _ hc) (zty ci) (zcl_ty ci _ hc) (zcl_nm ci _ hc) hK.1 hc
  have hat : va_at D zcl (base + k, .inr (ci, fs.map (zr base 0))) H := hM.2 k _ (zw_get hm)
  obtain ⟨r, h1, cell, q1, q2, q3, q4⟩ := hat
  have hr : r = (C, T, N) := Option.some.inj (h1.symm.trans hc)
  subst hr
  obtain ⟨hSl, hfc, kC, hkC, hkind⟩ := hK.1.1 ci _ hc
  obtain ⟨cf, kf, fi, f, hi, hsl⟩ := hSl j hj
  have hlay := hC.2.2.2.2.1 _ (zcl_in ci _ hc _ (u_in_lay hj))
  unfold u_lay at hlay
  rw [if_neg (by rw [e4]; decide)] at hlay
  have hst := (u_facts hfc hkC (u_lays hC.2.2.2.2.1 (zcl_in ci _ hc) hj) hi).1
  have h6 := u_store hfc hkC hkind hlay hi (zcl_ty ci _ hc j hj) (hn base b) (hfit base b)
  refine W.putK hC.1 hC.2.1 (f := f) ⟨hC.2.2.2.1, hC.2.2.2.2.1 _ hw, ⟨_, _, _, hi⟩, hst⟩ (by rw [q2]; exact h6) q1 q3 (by rw [hsl]; exact k2_hasslot (q4 j hj)) rfl rfl hd fun H' e1 e2 e3 => ?_
  rw [hsl] at e1 ⊢
  refine K p l e s m args below meth c b base D cI cZ H' _ ls hC hK hZ hb (zM_set (c1 := .inr (ci, fs.set j v)) hM hm e2 ?_ e3) (hS.put e2 e3 (Nat.le_add_right _ _)) hL
  refine ⟨_, hc, t_OB.to (V := updV (vp_V (fs.map (zr base 0))) j (zr base b v)) ⟨_, e1, q2, q3, t_set q4 hap hj (zr base b v)⟩ (fun x _ => ?_)⟩
  rw [vp_updV_set (by rw [List.length_map]; exact hf) (zr base b v) x, zr_ok ho base b 0, List.map_set]
theorem x_putF {i k ci j N : Nat} {C ref nm ds : String} {T : u_T} {fs : List Value} {v : Value} {μ' : zMem} (hd : decode Y.2.1 pc = .ok (.putfield i, 3)) (hw : Cond.fieldLink Y.2.2.2.2 i ref nm ds ∈ zt) (hm : μ[k]? = some (.inr (ci, fs))) (hc : zcl[ci]? = some (C, T, N)) (hj : j < N) (hT : T j = (ref, nm, ds, true)) (hf : j < fs.length) (ho : zok v = true) (hn : ∀ base b, narrow (zty ci j) (zr base b v) = zr base b v) (hfit : ∀ base b, fits (zty ci j) (zr base b v) = true) (hdecl : (T j).1 = Y.2.2.2.2) (hin2 : Y.1.name = "<init>") (hμ : μ.set k (.inr (ci, fs.set j v)) = μ') (K : X Y rm sc F (pc + 3) lv st μ' kc ks) : X Y rm sc F pc lv (v :: .ref k :: st) μ kc ks := by
  subst hμ
  intro p l e s m args below meth c b base D cI cZ H locs ls hC hK hZ hb hM hS hL
  have e1 : (T j).1 = ref := by rw [hT]
  have e2 : (T j).2.1 = nm := by rw [hT]
  have e3 : (T j).2.2.1 = ds := by rw [hT]
  have e4 : (T j).2.2.2 = true := by rw [hT]
  subst e1 e2 e3
  have hap := va_apart (own := Y.2.2.2.2) hC.2.2.2.2.1 (zcl_in ci _ hc) (zty ci) (zcl_ty ci _ hc) (zcl_nm ci _ hc) hK.1 hc
  have hat : va_at D zcl (base + k, .inr (ci, fs.map (zr base 0))) H := hM.2 k _ (zw_get hm)
  obtain ⟨r, h1, cell, q1, q2, q3, q4⟩ := hat
  have hr : r = (C, T, N) := Option.some.inj (h1.symm.trans hc)
  subst hr
  obtain ⟨hSl, hfc, kC, hkC, hkind⟩ := hK.1.1 ci _ hc
  obtain ⟨cf, kf, fi, f, hi, hsl⟩ := hSl j hj
  have hlay := hC.2.2.2.2.1 _ (zcl_in ci _ hc _ (u_in_lay hj))
  unfold u_lay at hlay
  rw [if_pos e4] at hlay
  have hst := (u_facts hfc hkC (u_lays hC.2.2.2.2.1 (zcl_in ci _ hc) hj) hi).1
  have hcf : m.cls = cf := by
    obtain ⟨_, _, c', _, _, _, -, -, hf', -, -, -, hown2, -⟩ := Cond.laysFinal_spec hlay
    have e1 : c' = cf := by have := hi.symm.trans hf'; simp at this; exact this.1.symm
    rw [hdecl] at hown2
    rw [← e1]; exact Option.some.inj (hC.2.2.2.1.symm.trans hown2)
  have h6 := u_fits hfc hkC hkind (Or.inr hlay) hi (zcl_ty ci _ hc j hj) (hn base b) (hfit base b)
  refine W.putFinK hC.1 hC.2.1 hC.2.2.2.1 (hC.2.2.2.2.1 _ hw) hi hst hcf ((hC.2.2.2.2.2.2.2 hin2).trans hin2) (by rw [q2]; exact h6) q1 q3 (by rw [hsl]; exact k2_hasslot (q4 j hj)) rfl rfl hd fun H' e1 e2 e3 => ?_
  rw [hsl] at e1 ⊢
  refine K p l e s m args below meth c b base D cI cZ H' _ ls hC hK hZ hb (zM_set (c1 := .inr (ci, fs.set j v)) hM hm e2 ?_ e3) (hS.put e2 e3 (Nat.le_add_right _ _)) hL
  refine ⟨_, hc, t_OB.to (V := updV (vp_V (fs.map (zr base 0))) j (zr base b v)) ⟨_, e1, q2, q3, t_set q4 hap hj (zr base b v)⟩ (fun x _ => ?_)⟩
  rw [vp_updV_set (by rw [List.length_map]; exact hf) (zr base b v) x, zr_ok ho base b 0, List.map_set]
theorem x_iald {k n : Nat} {f : Nat → Int32} {i : Int32} (hd : decode Y.2.1 pc = .ok (.iaload, 1)) (hm : μ[k]? = some (.inl (false, n, f))) (hin : vp_in i n) (K : X Y rm sc F (pc + 1) lv (.int (f i.toNatClampNeg) :: st) μ kc ks) : X Y rm sc F pc lv (.int i :: .ref k :: st) μ kc ks :=
  fun p l e s m args below meth c b base D cI cZ H locs ls hC hK hZ hb hM hS hL => va_iald hC.1 hC.2.1 hK.1 hM.2 k 0 (zw_get hm) rfl hin hd (K p l e s m args below meth c b base D cI cZ H locs ls hC hK hZ hb hM hS hL)
theorem x_zald {k n : Nat} {f : Nat → Int32} {i : Int32} (hd : decode Y.2.1 pc = .ok (.baload, 1)) (hm : μ[k]? = some (.inl (true, n, f))) (hin : vp_in i n) (K : X Y rm sc F (pc + 1) lv (.int (f i.toNatClampNeg) :: st) μ kc ks) : X Y rm sc F pc lv (.int i :: .ref k :: st) μ kc ks :=
  fun p l e s m args below meth c b base D cI cZ H locs ls hC hK hZ hb hM hS hL => va_zald hC.1 hC.2.1 hK.1 hM.2 k 1 (zw_get hm) rfl hin hd (K p l e s m args below meth c b base D cI cZ H locs ls hC hK hZ hb hM hS hL)
theorem x_iast {k n : Nat} {f : Nat → Int32} {i x : Int32} {μ' : zMem} (hd : decode Y.2.1 pc = .ok (.iastore, 1)) (hm : μ[k]? = some (.inl (false, n, f))) (hμ : μ.set k (.inl (false, n, upd f i.toNatClampNeg x)) = μ') (hin : vp_in i n) (K : X Y rm sc F (pc + 1) lv st μ' kc ks) : X Y rm sc F pc lv (.int x :: .int i :: .ref k :: st) μ kc ks := by
  subst hμ
  intro p l e s m args below meth c b base D cI cZ H locs ls hC hK hZ hb hM hS hL
  have hat : va_at D zcl (base + k, .inl (cI, n, .inl f)) H := hM.2 k _ (zw_get hm)
  refine W.iast hC.1 hC.2.1 hat ((hK.1.2 0 (cI, .int) rfl).1 n (fun j => .int (f j))) (fun q => by cases q) (by show ¬ (i < 0 ∨ (arrV _ _ _).slots.size ≤ _); rw [arrV_size]; exact hin) rfl rfl hd fun H1 e9 z oq => ?_
  refine K p l e s m args below meth c b base D cI cZ H1 _ ls hC hK hZ hb (zM_set (c1 := .inl (false, n, upd f i.toNatClampNeg x)) hM hm z ?_ oq) (hS.put z oq (Nat.le_add_right _ _)) hL
  show H1[base + k]? = some (vp_cell _ _)
  rw [show H1[base + k]? = _ from e9]
  rw [vp_cell_i, vp_cell_i, arrV_store]
  congr 2
  funext q
  by_cases hq : q = i.toNatClampNeg
  · subst hq
    simp [updV, upd]
    try rfl
  · simp [updV, upd, hq]
theorem x_zast {k n : Nat} {f : Nat → Int32} {i x : Int32} {μ' : zMem} (hd : decode Y.2.1 pc = .ok (.bastore, 1)) (hm : μ[k]? = some (.inl (true, n, f))) (hμ : μ.set k (.inl (true, n, upd f i.toNatClampNeg (vp_nar .boolean x))) = μ') (hin : vp_in i n) (K : X Y rm sc F (pc + 1) lv st μ' kc ks) : X Y rm sc F pc lv (.int x :: .int i :: .ref k :: st) μ kc ks := by
  subst hμ
  intro p l e s m args below meth c b base D cI cZ H locs ls hC hK hZ hb hM hS hL
  have hat : va_at D zcl (base + k, .inl (cZ, n, .inl f)) H := hM.2 k _ (zw_get hm)
  refine W.zast hC.1 hC.2.1 hat ((hK.1.2 1 (cZ, .boolean) rfl).1 n (fun j => .int (f j))) (fun q => by cases q) (by show ¬ (i < 0 ∨ (arrV _ _ _).slots.size ≤ _); rw [arrV_size]; exact hin) rfl rfl hd fun H1 e9 z oq => ?_
  refine K p l e s m args below meth c b base D cI cZ H1 _ ls hC hK hZ hb (zM_set (c1 := .inl (true, n, upd f i.toNatClampNeg (vp_nar .boolean x))) hM hm z ?_ oq) (hS.put z oq (Nat.le_add_right _ _)) hL
  show H1[base + k]? = some (vp_cell _ _)
  rw [show H1[base + k]? = _ from e9]
  rw [vp_cell_i, vp_cell_i, arrV_store]
  congr 2
  funext q
  by_cases hq : q = i.toNatClampNeg
  · subst hq
    simp [updV, upd, vp_nar]
    try rfl
  · simp [updV, upd, hq]
theorem x_alen {k n : Nat} {f : Nat → Int32} {v : Int32} (hd : decode Y.2.1 pc = .ok (.arraylength, 1)) (hm : μ[k]? = some (.inl (false, n, f))) (hv : Int32.ofNat n = v) (K : X Y rm sc F (pc + 1) lv (.int v :: st) μ kc ks) : X Y rm sc F pc lv (.ref k :: st) μ kc ks :=
  fun p l e s m args below meth c b base D cI cZ H locs ls hC hK hZ hb hM hS hL => va_alen hC.1 hC.2.1 hK.1 hM.2 k 0 (zw_get hm) (ty := .int) rfl hv hd (K p l e s m args below meth c b base D cI cZ H locs ls hC hK hZ hb hM hS hL)
theorem x_sld {i : Int32} {u : UInt32} (hd : decode Y.2.1 pc = .ok (.iaload, 1)) (hY : Y.2.2.2.2 = "CircuitWaysLaw") (hin : vp_in i sc.1) (K : X Y rm sc F (pc + 1) lv (.int (sc.2 i.toNatClampNeg) :: st) μ kc ks) : X Y rm sc F pc lv (.int i :: .float u :: st) μ kc ks :=
  fun p l e s m args below meth c b base D cI cZ H locs ls hC hK hZ hb hM hS hL => va_sld hC.1 hC.2.1 (hZ hY).2.2.1 (hZ hY).2.1 (Nat.not_le.mpr (hZ hY).1) hS hin hd (K p l e s m args below meth c b base D cI cZ H locs ls hC hK hZ hb hM hS hL)
theorem x_slen {u : UInt32} (hd : decode Y.2.1 pc = .ok (.arraylength, 1)) (hY : Y.2.2.2.2 = "CircuitWaysLaw") (K : X Y rm sc F (pc + 1) lv (.int (Int32.ofNat sc.1) :: st) μ kc ks) : X Y rm sc F pc lv (.float u :: st) μ kc ks :=
  fun p l e s m args below meth c b base D cI cZ H locs ls hC hK hZ hb hM hS hL => va_slen hC.1 hC.2.1 (hZ hY).2.2.1 (hZ hY).2.1 (Nat.not_le.mpr (hZ hY).1) hS hd (K p l e s m args below meth c b base D cI cZ H locs ls hC hK hZ hb hM hS hL)
theorem x_min {i : Nat} {x y : Int32} (hd : decode Y.2.1 pc = .ok (.invokestatic i, 3)) (hw : Cond.methodLink Y.2.2.2.2 i Lib.Math.min.name ∈ zt) (hf : 1 ≤ rm.frames) (hl : (st.map fun v => v.category).sum + 13 ≤ rm.locals) (hk : kc ≤ rm.cells ∧ ks ≤ rm.slots) (hst : ∀ v ∈ st, v.category = 1) (K : X Y rm sc F (pc + 3) lv (.int (if y < x then y else x) :: st) μ kc ks) : X Y rm sc F pc lv (.int y :: .int x :: st) μ kc ks :=
  fun p l e s m args below meth c b base D cI cZ H locs ls hC hK hZ hb hM hS hL => va_mmin hC.1 hC.2.1 (by rw [hL.2.2.1]; exact hC.2.2.1) hC.2.2.2.1 (hC.2.2.2.2.1 _ hw) (hC.2.2.2.2.1 _ k_min_static) (hC.2.2.2.2.1 _ k_min_init) (hC.2.2.2.2.1 _ k_min_code) hf (by rw [zr_sum hst]; exact hl) hk.1 hk.2 hd (K p l e s m args below meth c b base D cI cZ H locs ls hC hK hZ hb hM hS hL)
end XR2
/-- a method's end -/
def zQc (Q : Option Value → zMem → Prop) (base : Nat) (D : va_G) (cI cZ : ClassId) : Array Value → State → Outcome → State → Prop := fun _ st oc t =>
  ∃ (r : Option Value) (μ' : zMem), oc = .returned (r.map (zr base 0)) ∧ Q r μ' ∧ zM D cI cZ base μ' t.heap ∧ va_F (zA base) st t
def zP (av : List Value) (base : Nat) (D : va_G) (cI cZ : ClassId) (μ : zMem) : Array Value → State → Prop := va_Pc (av.map (zr base 0)) (fun U => zM D cI cZ base μ U.heap ∧ zK D cI cZ U)
def zFm (Q : Option Value → zMem → Prop) (rm : Room) : zFin := fun base D cI cZ below args s => MQ below (zQc Q base D cI cZ) args s rm.cells rm.slots (zA base)
/-- a method's contract: from the memory μ, with these arguments, it ends, and its answer and the memory behind it have Q -/
def Ctr (Y : zY) (rm : Room) (av : List Value) (μ : zMem) (Q : Option Value → zMem → Prop) : Prop :=
  ∀ (l : Launch) (base : Nat) (D : va_G) (cI cZ : ClassId), Met l Y.1 (Cond.code Y.1 Y.2.1 Y.2.2.1 Y.2.2.2.1 :: zt) rm (zP av base D cI cZ μ) (zQc Q base D cI cZ) rm.cells rm.slots (zA base)
theorem lg_sl_1 : ∀ (vs : List Value), (∀ v ∈ vs, v.category = 1) → lg_sl vs = vs.map Slot.val
  | [], _ => rfl
  | v :: vs, h => by
    have h1 := h v List.mem_cons_self
    have h2 := lg_sl_1 vs (fun w hw => h w (List.mem_cons_of_mem _ hw))
    simp only [lg_sl, List.flatMap_cons, List.map_cons] at h2 ⊢
    rw [h2, h1]; rfl
theorem lv_args_1 : ∀ (vs : List Value) (i : Nat), (∀ v ∈ vs, v.category = 1) → ∀ (j : Nat) (v : Value), vs[j]? = some v → (i + j, v) ∈ lv_args i vs
  | [], _, _, j, v, h => by simp at h
  | w :: vs, i, hc, 0, v, h => by
    simp only [List.getElem?_cons_zero, Option.some.injEq] at h
    subst h
    exact List.mem_cons_self
  | w :: vs, i, hc, j + 1, v, h => by
    have h1 := hc w List.mem_cons_self
    have h2 := lv_args_1 vs (i + 1) (fun w hw => hc w (List.mem_cons_of_mem _ hw)) j v (by simpa using h)
    simp only [lv_args]
    rw [if_neg (by omega)]
    exact List.mem_cons_of_mem _ (by rw [show i + (j + 1) = i + 1 + j by omega]; exact h2)
theorem Ctr.of {Y : zY} {rm : Room} {av lv : List Value} {μ : zMem} {Q : Option Value → zMem → Prop} (hW : zWm Y) (hO : Y.1.cls = Y.2.2.2.2) (hN : Y.2.2.2.2 ≠ "CircuitWaysLaw") (ha : av.all zok = true) (hlv : av ++ List.replicate (Y.2.2.1 - av.length) zu = lv) (hn : av.length ≤ Y.2.2.1)
    (hX : X Y rm (0, fun _ => 0) (zFm Q rm) 0 lv [] μ 0 0) : Ctr Y rm av μ Q := by
  subst hlv
  intro l base D cI cZ
  have hac : ∀ v ∈ av, v.category = 1 := fun v hv => by
    have := List.all_eq_true.mp ha v hv
    cases v <;> first | rfl | (simp [zok] at this)
  refine Met.ofW (cc := Y.2.1) (maxL := Y.2.2.1) (ret := Y.2.2.2.1) hW.2.2.2 rfl ?_
  intro p e s m args below meth c s₁ B hml hv
  obtain ⟨rfl, hM, hK⟩ := hv
  have hts := atoms_spec (ws := Cond.code Y.1 Y.2.1 Y.2.2.1 Y.2.2.2.1 :: zt) B.pre
  have hown : s.vm.findClass Y.2.2.2.2 = some m.cls := by rw [← hO]; exact findClass_of_methodNamed B.named
  have hcz : ∀ v ∈ av.map (zr base 0), v.category = 1 := fun v hv => by
    obtain ⟨w, hw, rfl⟩ := List.mem_map.mp hv
    exact zr_cat (hac w hw)
  have hlen : (lg_sl (av.map (zr base 0))).length = av.length := by rw [lg_sl_1 _ hcz]; simp
  have hl := lv_entry (av.map (zr base 0)) (n := Y.2.2.1) (by rw [hlen]; exact hn)
  rw [lg_entry_eq]
  generalize (lg_sl (av.map (zr base 0)) ++ List.replicate (Y.2.2.1 - (lg_sl (av.map (zr base 0))).length) Slot.unset).toArray = ls at hl ⊢
  refine hX p l e s m _ below meth c 0 base D cI cZ s.heap [] ls ⟨B.exec, B.bytes, hml, hown, fun w hw => hts w (List.mem_cons_of_mem _ hw), B.returns, B.notSynchronized, fun _ => (name_of_methodNamed B.named B.method).1⟩ hK (fun h => absurd h hN) (by rw [hM.1]; exact Nat.le_add_right _ _) hM va_S.rf ⟨by simp; omega, fun v hv => ?_, hl.1, hl.2.1, fun i v hi hk => ?_⟩
  · rcases List.mem_append.mp hv with h | h
    · exact hac v h
    · rw [List.eq_of_mem_replicate h]; rfl
  · by_cases hlt : i < av.length
    · rw [List.getElem?_append_left hlt] at hi
      have := lv_args_1 (av.map (zr base 0)) 0 hcz i (zr base 0 v) (by rw [List.getElem?_map, hi]; rfl)
      have := hl.2.2 _ this
      simpa using this
    · rw [List.getElem?_append_right (by omega)] at hi
      have := List.eq_of_mem_replicate (List.mem_of_getElem? hi)
      subst this
      simp [zknown] at hk
section XR3
variable {Y : zY} {rm : Room} {sc : Nat × (Nat → Int32)} {F : zFin} {Q : Option Value → zMem → Prop} {pc : Nat} {lv st : List Value} {μ : zMem} {kc ks : Nat}
theorem x_iret {v : Int32} (hd : decode Y.2.1 pc = .ok (.ireturn, 1)) (hr : Y.2.2.2.1 = some .int) (hk : kc ≤ rm.cells ∧ ks ≤ rm.slots) (hq : Q (some (.int v)) μ) : X Y rm sc (zFm Q rm) pc lv [.int v] μ kc ks :=
  fun p l e s m args below meth c b base D cI cZ H locs ls hC hK hZ hb hM hS hL => W.widen hk.1 hk.2 (W.iret hC.1 hC.2.1 (hC.2.2.2.2.2.1.trans hr) (fun t ht hW => ⟨some (.int v), μ, rfl, hq, by rw [ht]; exact hM, hS.F ht⟩) hS.2.2 hd (hlocks := hC.2.2.2.2.2.2.1))
theorem x_zret {v : Int32} {ty : FieldType} (hd : decode Y.2.1 pc = .ok (.ireturn, 1)) (hr : Y.2.2.2.1 = some ty) (hn : narrow ty (.int v) = .int v) (hk : kc ≤ rm.cells ∧ ks ≤ rm.slots) (hq : Q (some (.int v)) μ) : X Y rm sc (zFm Q rm) pc lv [.int v] μ kc ks :=
  fun p l e s m args below meth c b base D cI cZ H locs ls hC hK hZ hb hM hS hL => W.widen hk.1 hk.2 (W.zret hC.1 hC.2.1 (hC.2.2.2.2.2.1.trans hr) hn (fun t ht hW => ⟨some (.int v), μ, rfl, hq, by rw [ht]; exact hM, hS.F ht⟩) hS.2.2 hd (hlocks := hC.2.2.2.2.2.2.1))
theorem x_vret (hd : decode Y.2.1 pc = .ok (.return_, 1)) (hr : Y.2.2.2.1 = none) (hk : kc ≤ rm.cells ∧ ks ≤ rm.slots) (hq : Q none μ) : X Y rm sc (zFm Q rm) pc lv [] μ kc ks :=
  fun p l e s m args below meth c b base D cI cZ H locs ls hC hK hZ hb hM hS hL => W.widen hk.1 hk.2 (W.vret hC.1 hC.2.1 (hC.2.2.2.2.2.1.trans hr) (fun t ht hW => ⟨none, μ, rfl, hq, by rw [ht]; exact hM, hS.F ht⟩) hS.2.2 hd (hlocks := hC.2.2.2.2.2.2.1))
/-- behind a call -/
theorem x_back {rm' : Room} {rest st0 : List Value} {Qc : Option Value → zMem → Prop} {p : Program} {l : Launch} {e : Env} {s : State} {m : MethodId} {args : Array Value} {below : List Frame} {meth : Method} {c : Code} {b base : Nat} {D : va_G} {cI cZ : ClassId} {H : Heap} {locs : List Loc} {ls : Array Slot} {a : Array Value}
    (hr : va_Run p l e rm s m args below meth c H locs kc ks rm'.cells rm'.slots (F0 m pc ls (st0.map (zr base b))) (rest.map (zr base b)) (zQc Qc base D cI cZ a) (zA base))
    (hC : zC Y p s m args meth c) (hK : zK D cI cZ s) (hZ : zS sc b base Y.2.2.2.2 s) (hb : base ≤ s.heap.size) (hS : va_S (zA base) s.heap H locs) (hL : zL base b Y.2.2.1 lv ls) (hov : ∀ r μ', Qc r μ' → ∀ v, r = some v → zok v = true)
    (K : ∀ r μ', Qc r μ' → X Y rm sc F (pc + 3) lv (r.toList ++ rest) μ' (kc + rm'.cells) (ks + rm'.slots)) : W p l e rm s m args below meth c H locs kc ks (F base D cI cZ below args s) (F0 m pc ls (st0.map (zr base b))) := by
  intro T hT XX
  obtain ⟨v, st₀, t, T', L, h0, X', hLo, e1, e2, ⟨r, μ', hv, hq, hM', hF⟩, st⟩ := hr T hT XX
  cases hv
  obtain ⟨hz, hk⟩ := hF
  rw [h0] at hz hk
  have hS' : va_S (zA base) s.heap T'.heap (locs ++ L) := ⟨Nat.le_trans hS.1 (by rw [e1]; exact hz), fun q h1 h2 => by rw [e1, hk q (Nat.lt_of_lt_of_le h1 hS.1) h2]; exact hS.2.1 q h1 h2, fun q hq => by
      rcases List.mem_append.mp hq with h | h
      · exact hS.2.2 q h
      · exact hLo q h⟩
  have hw := K r μ' hq p l e s m args below meth c b base D cI cZ T'.heap (locs ++ L) ls hC hK hZ hb (by rw [e1]; exact hM') hS' hL
  have hst : ((r.toList ++ rest).map (zr base b)) = (r.map (zr base 0)).toList ++ rest.map (zr base b) := by
    cases r with
    | none => rfl
    | some w => simp [zr_ok (hov _ _ hq w rfl) base b 0]
  rw [hst] at hw
  obtain ⟨t2, a1, b1⟩ := hw T' rfl X'
  exact ⟨t2, st t2 a1, b1⟩
theorem zgood {Y' : zY} (hW : zWm Y') {args : Array Value} {s : State} (hts : ∀ w ∈ zt, w.before args s = true) : ∀ w ∈ (Cond.code Y'.1 Y'.2.1 Y'.2.2.1 Y'.2.2.2.1 :: zt), ∀ (a' : Array Value) (U : State), s.WarmedH U.vm → w.before a' U = true := by
  intro w hw a' U hU
  have hm : w ∈ zt := by
    rcases List.mem_cons.mp hw with h | h
    · rw [h]; exact hW.1
    · exact h
  exact word_at hU (good_of_word (zt_good hm)) (hts w hm)
theorem zcallB {Y' : zY} {rm' : Room} {i : Nat} {n : Nat} (hW : zWm Y') (hl : Cond.methodLink Y.2.2.2.2 i Y'.1 ∈ zt) (hn : (parseMethodDescriptor Y'.1.desc).map (fun d => d.parameters.length) = some n) (hR : rm'.frames + 1 ≤ rm.frames ∧ 8 + (Y'.2.2.1 + 11) + rm'.locals ≤ rm.locals) {args : Array Value} {s : State} (hts : ∀ w ∈ zt, w.before args s = true) :
    CallB rm s args Y.2.2.2.2 i Y'.1 Y'.2.1 Y'.2.2.1 Y'.2.2.2.1 (Cond.code Y'.1 Y'.2.1 Y'.2.2.1 Y'.2.2.2.1 :: zt) rm' rm'.cells rm'.slots n := by
  refine ⟨rfl, rfl, hR.1, hR.2, zgood hW hts, List.mem_cons_self, hts _ hW.1, hts _ hW.2.1, hW.2.2.1, fun sig h => ?_, hts _ hl⟩
  rw [h] at hn
  exact (Option.some.inj hn).symm
theorem zpre {av : List Value} {base : Nat} {D : va_G} {cI cZ : ClassId} {s : State} {H : Heap} (hM : zM D cI cZ base μ H) (hK : zK D cI cZ s) : FrameBlind (zP av base D cI cZ μ) ∧ ∀ U : State, U.heap = H → s.WarmedH U.vm → zP av base D cI cZ μ (av.map (zr base 0)).toArray U :=
  ⟨fun a U g mk q => ⟨q.1, q.2.1, zK_same (s := U) (U := U.calling g mk a) rfl q.2.2⟩, fun U hU hW => ⟨rfl, by rw [hU]; exact hM, zK_moved hW hK⟩⟩
theorem x_callV {Y' : zY} {rm' : Room} {i k ci N : Nat} {C : String} {T : u_T} {fs av rest st0 : List Value} {Qc : Option Value → zMem → Prop} (hCt : Ctr Y' rm' (.ref k :: av) μ Qc) (hW : zWv Y') (hd : decode Y.2.1 pc = .ok (.invokevirtual i, 3)) (hl : Cond.methodLink Y.2.2.2.2 i Y'.1 ∈ zt) (hm : μ[k]? = some (.inr (ci, fs))) (hc : zcl[ci]? = some (C, T, N)) (hcls : Y'.1.cls = C) (hst : av.reverse ++ .ref k :: rest = st0) (ha : av.all zok = true) (hcr : ∀ v ∈ rest, v.category = 1)
    (hn : (parseMethodDescriptor Y'.1.desc).map (fun d => d.parameters.length) = some av.length) (hR : rm'.frames + 1 ≤ rm.frames ∧ 8 + (Y'.2.2.1 + 11) + rm'.locals ≤ rm.locals) (hk : kc + rm'.cells ≤ rm.cells ∧ ks + rm'.slots ≤ rm.slots) (hsum : (rest.map fun v => v.category).sum ≤ 8) (hov : ∀ r μ', Qc r μ' → ∀ v, r = some v → zok v = true)
    (K : ∀ r μ', Qc r μ' → X Y rm sc F (pc + 3) lv (r.toList ++ rest) μ' (kc + rm'.cells) (ks + rm'.slots)) : X Y rm sc F pc lv st0 μ kc ks := by
  subst hst
  intro p l e s m args below meth c b base D cI cZ H locs ls hC hK hZ hb hM hS hL
  have hp := zpre (av := .ref k :: av) hM hK
  refine x_back (rest := rest) (va_runV (b := base + k) (As := av.map (zr base 0)) (C := C) ⟨hC.1, hC.2.1, hC.2.2.1, hC.2.2.2.1, hC.2.2.2.2.1⟩ (hCt l base D cI cZ) ⟨zcallB hW.1 hl hn hR hC.2.2.2.2.1, hC.2.2.2.2.1 _ hW.2.1, by rw [← hcls]; exact hC.2.2.2.2.1 _ hW.2.2⟩ ⟨hp.1, va_recv hK.1 hM.2 hc (zw_get hm), hp.2⟩ rfl (by rw [List.length_map]) hL.2.2.1 ?_ (by rw [zr_sum hcr]; show 2 * 0 + _ ≤ 8; omega) hd hk) hC hK hZ hb hS hL hov K
  show (av.reverse ++ .ref k :: rest).map (zr base b) = (av.map (zr base 0)).reverse ++ .ref (base + k) :: rest.map (zr base b)
  rw [List.map_append, List.map_reverse, zr_map_ok ha base b 0]
  rfl
theorem x_callS {Y' : zY} {rm' : Room} {i : Nat} {av rest st0 : List Value} {Qc : Option Value → zMem → Prop} (hCt : Ctr Y' rm' av μ Qc) (hW : zWs Y') (hd : decode Y.2.1 pc = .ok (.invokestatic i, 3)) (hl : Cond.methodLink Y.2.2.2.2 i Y'.1 ∈ zt) (hst : av.reverse ++ rest = st0) (ha : av.all zok = true) (hcr : ∀ v ∈ rest, v.category = 1)
    (hn : (parseMethodDescriptor Y'.1.desc).map (fun d => d.parameters.length) = some av.length) (hR : rm'.frames + 1 ≤ rm.frames ∧ 8 + (Y'.2.2.1 + 11) + rm'.locals ≤ rm.locals) (hk : kc + rm'.cells ≤ rm.cells ∧ ks + rm'.slots ≤ rm.slots) (hsum : (rest.map fun v => v.category).sum ≤ 8) (hov : ∀ r μ', Qc r μ' → ∀ v, r = some v → zok v = true)
    (K : ∀ r μ', Qc r μ' → X Y rm sc F (pc + 3) lv (r.toList ++ rest) μ' (kc + rm'.cells) (ks + rm'.slots)) : X Y rm sc F pc lv st0 μ kc ks := by
  subst hst
  intro p l e s m args below meth c b base D cI cZ H locs ls hC hK hZ hb hM hS hL
  have hp := zpre (av := av) hM hK
  refine x_back (rest := rest) (va_runS (As := av.map (zr base 0)) ⟨hC.1, hC.2.1, hC.2.2.1, hC.2.2.2.1, hC.2.2.2.2.1⟩ (hCt l base D cI cZ) ⟨zcallB hW.1 hl hn hR hC.2.2.2.2.1, hC.2.2.2.2.1 _ hW.2⟩ ⟨hp.1, hp.2⟩ rfl (by rw [List.length_map]) hL.2.2.1 ?_ (by rw [zr_sum hcr]; show 2 * 0 + _ ≤ 8; omega) hd hk) hC hK hZ hb hS hL hov K
  show (av.reverse ++ rest).map (zr base b) = (av.map (zr base 0)).reverse ++ rest.map (zr base b)
  rw [List.map_append, List.map_reverse, zr_map_ok ha base b 0]
theorem x_callN {Y' : zY} {rm' : Room} {i : Nat} {host : String} {av rest st0 : List Value} {Qc : Option Value → zMem → Prop} (hCt : Ctr Y' rm' av μ Qc) (hW : zWs Y') (hd : decode Y.2.1 pc = .ok (.invokestatic i, 3)) (hl : Cond.methodLinkNest Y.2.2.2.2 i Y'.1 host ∈ znest) (hst : av.reverse ++ rest = st0) (ha : av.all zok = true) (hcr : ∀ v ∈ rest, v.category = 1)
    (hn : (parseMethodDescriptor Y'.1.desc).map (fun d => d.parameters.length) = some av.length) (hR : rm'.frames + 1 ≤ rm.frames ∧ 8 + (Y'.2.2.1 + 11) + rm'.locals ≤ rm.locals) (hk : kc + rm'.cells ≤ rm.cells ∧ ks + rm'.slots ≤ rm.slots) (hsum : (rest.map fun v => v.category).sum ≤ 8) (hov : ∀ r μ', Qc r μ' → ∀ v, r = some v → zok v = true)
    (K : ∀ r μ', Qc r μ' → X Y rm sc F (pc + 3) lv (r.toList ++ rest) μ' (kc + rm'.cells) (ks + rm'.slots)) : X Y rm sc F pc lv st0 μ kc ks := by
  subst hst
  intro p l e s m args below meth c b base D cI cZ H locs ls hC hK hZ hb hM hS hL
  have hp := zpre (av := av) hM hK
  have hcn : va_CN rm s args Y.2.2.2.2 i Y'.1 host Y'.2.1 Y'.2.2.1 Y'.2.2.2.1 (Cond.code Y'.1 Y'.2.1 Y'.2.2.1 Y'.2.2.2.1 :: zt) rm' rm'.cells rm'.slots av.length := by
    refine ⟨⟨rfl, rfl, hR.1, hR.2, zgood hW.1 hC.2.2.2.2.1, List.mem_cons_self⟩, hC.2.2.2.2.1 _ hW.1.1, hC.2.2.2.2.1 _ hW.1.2.1, hW.1.2.2.1, fun sig h => ?_, va_Nw.use rfl (hK.2 _ hl)⟩
    rw [h] at hn
    exact (Option.some.inj hn).symm
  refine x_back (rest := rest) (va_runSN (As := av.map (zr base 0)) ⟨hC.1, hC.2.1, hC.2.2.1, hC.2.2.2.1, hC.2.2.2.2.1⟩ (hCt l base D cI cZ) ⟨hcn, hC.2.2.2.2.1 _ hW.2, trivial⟩ ⟨hp.1, hp.2⟩ rfl (by rw [List.length_map]) hL.2.2.1 ?_ (by rw [zr_sum hcr]; show 2 * 0 + _ ≤ 8; omega) hd hk) hC hK hZ hb hS hL hov K
  show (av.reverse ++ rest).map (zr base b) = (av.map (zr base 0)).reverse ++ rest.map (zr base b)
  rw [List.map_append, List.map_reverse, zr_map_ok ha base b 0]
theorem x_callI {Y' : zY} {rm' : Room} {i k : Nat} {av rest st0 : List Value} {Qc : Option Value → zMem → Prop} (hCt : Ctr Y' rm' (.ref k :: av) μ Qc) (hW : zWi Y') (hret : Y'.2.2.2.1 = none) (hd : decode Y.2.1 pc = .ok (.invokespecial i, 3)) (hl : Cond.methodLink Y.2.2.2.2 i Y'.1 ∈ zt) (hst : av.reverse ++ .ref k :: rest = st0) (ha : av.all zok = true) (hcr : ∀ v ∈ rest, v.category = 1)
    (hn : (parseMethodDescriptor Y'.1.desc).map (fun d => d.parameters.length) = some av.length) (hR : rm'.frames + 1 ≤ rm.frames ∧ 8 + (Y'.2.2.1 + 11) + rm'.locals ≤ rm.locals) (hk : kc + rm'.cells ≤ rm.cells ∧ ks + rm'.slots ≤ rm.slots) (hsum : (rest.map fun v => v.category).sum ≤ 8) (hov : ∀ r μ', Qc r μ' → ∀ v, r = some v → zok v = true)
    (K : ∀ r μ', Qc r μ' → X Y rm sc F (pc + 3) lv (r.toList ++ rest) μ' (kc + rm'.cells) (ks + rm'.slots)) : X Y rm sc F pc lv st0 μ kc ks := by
  subst hst
  intro p l e s m args below meth c b base D cI cZ H locs ls hC hK hZ hb hM hS hL
  have hp := zpre (av := .ref k :: av) hM hK
  have hB := zcallB (Y := Y) (rm := rm) (rm' := rm') hW.1 hl hn hR hC.2.2.2.2.1
  have hCl := hCt l base D cI cZ
  rw [hret] at hB hCl
  refine x_back (rest := rest) (va_runI (b := base + k) (As := av.map (zr base 0)) ⟨hC.1, hC.2.1, hC.2.2.1, hC.2.2.2.1, hC.2.2.2.2.1⟩ hCl ⟨hB, hW.2.2, hC.2.2.2.2.1 _ hW.2.1⟩ ⟨hp.1, hp.2⟩ rfl (by rw [List.length_map]) hL.2.2.1 ?_ (by rw [zr_sum hcr]; show 2 * 0 + _ ≤ 8; omega) hd hk) hC hK hZ hb hS hL hov K
  show (av.reverse ++ .ref k :: rest).map (zr base b) = (av.map (zr base 0)).reverse ++ .ref (base + k) :: rest.map (zr base b)
  rw [List.map_append, List.map_reverse, zr_map_ok ha base b 0]
  rfl
end XR3
