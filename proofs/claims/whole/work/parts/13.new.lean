theorem k_obj_inst : Cond.instanceMethod Lib.objectInit ∈ zt := zt_mem (List.mem_of_getElem? (i := 60) (by decide +kernel)) rfl
set_option maxRecDepth 20000 in
theorem k_obj_code : Cond.code Lib.objectInit ⟨#[0xb1]⟩ 1 none ∈ zt := zt_mem (List.mem_of_getElem? (i := 61) rfl) rfl
section XN
variable {Y : zY} {rm : Room} {sc : Nat × (Nat → Int32)} {F : zFin} {pc : Nat} {lv st : List Value} {μ : zMem} {kc ks : Nat}
theorem zM_push {D : va_G} {cI cZ : ClassId} {base : Nat} {μ : zMem} {H H1 : Heap} {c1 : zE} (h : zM D cI cZ base μ H) (hz : H1.size = base + μ.length + 1) (ha : va_at D zcl (base + μ.length, ze cI cZ base c1) H1) (hq : ∀ q : Nat, q < base + μ.length → H1[q]? = H[q]?) : zM D cI cZ base (μ ++ [c1]) H1 := by
  refine ⟨by rw [hz, List.length_append]; rfl, ?_⟩
  rw [zw_push]
  refine va_P.app (h.2.kept fun k q hk => hq q.1 ?_) (fun k q hk => ?_)
  · have := (h.2 k q hk).lt
    rw [h.1] at this
    exact this
  · have hz : k < 1 := (List.getElem?_eq_some_iff.mp hk).1
    rw [show k = 0 by omega] at hk
    cases hk
    exact ha
theorem x_obj {i k : Nat} (hd : decode Y.2.1 pc = .ok (.invokespecial i, 3)) (hw : Cond.methodLink Y.2.2.2.2 i Lib.objectInit ∈ zt) (hf : 1 ≤ rm.frames) (hcr : ∀ v ∈ st, v.category = 1) (hl : (st.map fun v => v.category).sum + 12 ≤ rm.locals) (K : X Y rm sc F (pc + 3) lv st μ kc ks) : X Y rm sc F pc lv (.ref k :: st) μ kc ks :=
  fun p l e s m args below meth c b base D cI cZ H locs ls hC hK hZ hb hM hS hL => W.objInit hC.1 hC.2.1 hC.2.2.2.1 (hC.2.2.2.2.1 _ hw) (hC.2.2.2.2.1 _ k_obj_inst) (hC.2.2.2.2.1 _ k_obj_code) rfl (by rw [hC.2.2.1]; exact hL.2.2.1) rfl hd hf (by rw [zr_sum hcr]; show 2 * 0 + _ + 12 ≤ _; omega) (K p l e s m args below meth c b base D cI cZ H locs ls hC hK hZ hb hM hS hL)
theorem x_new {i ci N : Nat} {C : String} {T : u_T} {fs : List Value} (hd : decode Y.2.1 pc = .ok (.new i, 3)) (hw : Cond.classLink Y.2.2.2.2 i C ∈ zt) (hc : zcl[ci]? = some (C, T, N)) (hfs : ∀ base j, j < N → defaultValue (zty ci j) = vp_V (fs.map (zr base 0)) j) (hcells : kc + 1 ≤ rm.cells) (hslots : ks + N ≤ rm.slots) (K : X Y rm sc F (pc + 3) lv (.ref μ.length :: st) (μ ++ [.inr (ci, fs)]) (kc + 1) (ks + N)) : X Y rm sc F pc lv st μ kc ks := by
  intro p l e s m args below meth c b base D cI cZ H locs ls hC hK hZ hb hM hS hL
  have hKn := hK.1.1 ci _ hc
  have hnw := zcl_new ci _ hc
  refine W.newcK hC.1 hC.2.1 hC.2.2.2.1 (hC.2.2.2.2.1 _ hw) (hC.2.2.2.2.1 _ hnw.1) (hC.2.2.2.2.1 _ hnw.2) rfl hd hcells hslots hKn.2.1 hM.1 fun H1 kC hkC e1 z1 o1 => ?_
  refine K p l e s m args below meth c b base D cI cZ H1 locs ls hC hK hZ hb (zM_push (c1 := .inr (ci, fs)) hM z1 ⟨_, hc, (u_born (zty ci) hC.2.2.2.2.1 (zcl_in ci _ hc) hKn hkC e1 (zcl_ty ci _ hc)).to (hfs base)⟩ o1) ⟨by rw [z1, Nat.add_assoc]; have := hS.1; rw [hM.1] at this; omega, fun q h1 h2 => ?_, hS.2.2⟩ hL
  have := hS.1
  rw [hM.1] at this
  rw [o1 q (by omega)]
  exact hS.2.1 q h1 h2
theorem x_newa {n : Int32} {N' : Nat} (hd : decode Y.2.1 pc = .ok (.newarray .int, 2)) (hn : ¬ n < 0) (hN : n.toNatClampNeg = N') (hb4 : N' * componentBytes .int ≤ 536870912) (hcells : kc + 1 ≤ rm.cells) (hslots : ks + N' ≤ rm.slots) (K : X Y rm sc F (pc + 2) lv (.ref μ.length :: st) (μ ++ [.inl (false, N', fun _ => 0)]) (kc + 1) (ks + N')) : X Y rm sc F pc lv (.int n :: st) μ kc ks := by
  intro p l e s m args below meth c b base D cI cZ H locs ls hC hK hZ hb hM hS hL
  refine va_newaK (atype := .int) hC.1 hC.2.1 (hC.2.2.2.2.1 _ zarr_int) rfl hd rfl hn hN hb4 hcells hslots hM.1 fun H1 cA e1 z1 o1 hAr hNm => ?_
  have hcA : cA = cI := by
    have h2 : s.vm.findClass ("[" ++ (FieldType.int).toString) = some cI := (hK.1.2 0 (cI, .int) rfl).2
    exact Option.some.inj (hNm.symm.trans h2)
  subst hcA
  refine K p l e s m args below meth c b base D cA cZ H1 locs ls hC hK hZ hb (zM_push (c1 := .inl (false, N', fun _ => 0)) hM z1 e1 o1) ⟨by rw [z1]; have := hS.1; rw [hM.1] at this; omega, fun q h1 h2 => ?_, hS.2.2⟩ hL
  have := hS.1
  rw [hM.1] at this
  rw [o1 q (by omega)]
  exact hS.2.1 q h1 h2
theorem x_newz {n : Int32} {N' : Nat} (hd : decode Y.2.1 pc = .ok (.newarray .boolean, 2)) (hn : ¬ n < 0) (hN : n.toNatClampNeg = N') (hb4 : N' * componentBytes .boolean ≤ 536870912) (hcells : kc + 1 ≤ rm.cells) (hslots : ks + N' ≤ rm.slots) (K : X Y rm sc F (pc + 2) lv (.ref μ.length :: st) (μ ++ [.inl (true, N', fun _ => 0)]) (kc + 1) (ks + N')) : X Y rm sc F pc lv (.int n :: st) μ kc ks := by
  intro p l e s m args below meth c b base D cI cZ H locs ls hC hK hZ hb hM hS hL
  refine va_newaK (atype := .boolean) hC.1 hC.2.1 (hC.2.2.2.2.1 _ zarr_boolean) rfl hd rfl hn hN hb4 hcells hslots hM.1 fun H1 cA e1 z1 o1 hAr hNm => ?_
  have hcA : cA = cZ := by
    have h2 : s.vm.findClass ("[" ++ (FieldType.boolean).toString) = some cZ := (hK.1.2 1 (cZ, .boolean) rfl).2
    exact Option.some.inj (hNm.symm.trans h2)
  subst hcA
  refine K p l e s m args below meth c b base D cI cA H1 locs ls hC hK hZ hb (zM_push (c1 := .inl (true, N', fun _ => 0)) hM z1 e1 o1) ⟨by rw [z1]; have := hS.1; rw [hM.1] at this; omega, fun q h1 h2 => ?_, hS.2.2⟩ hL
  have := hS.1
  rw [hM.1] at this
  rw [o1 q (by omega)]
  exact hS.2.1 q h1 h2
end XN
