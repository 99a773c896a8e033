section QR
variable {Y : zY} {rm : Room} {sc : Nat × (Nat → Int32)} {F : zFin} {pc : Nat} {lv st : List Value} {q l l' : zMem} {kc ks : Nat}
theorem zq_get {j0 : Nat} : (q ++ l)[q.length + j0]? = l[j0]? := by
  rw [List.getElem?_append_right (Nat.le_add_right _ _), Nat.add_sub_cancel_left]
theorem zq_set {j0 : Nat} {c : zE} : (q ++ l).set (q.length + j0) c = q ++ l.set j0 c := by
  rw [List.set_append_right _ _ (Nat.le_add_right _ _), Nat.add_sub_cancel_left]
theorem q_get {i j0 ci j N : Nat} {C ref nm ds : String} {T : u_T} {fs : List Value} {v : Value} (hd : decode Y.2.1 pc = .ok (.getfield i, 3)) (hw : Cond.fieldLink Y.2.2.2.2 i ref nm ds ∈ zt) (hm : l[j0]? = some (.inr (ci, fs))) (hc : zcl[ci]? = some (C, T, N)) (hj : j < N) (hT : ((T j).1, (T j).2.1, (T j).2.2.1) = (ref, nm, ds)) (hv : fs[j]? = some v) (ho : zok v = true) (K : X Y rm sc F (pc + 3) lv (v :: st) (q ++ l) kc ks) : X Y rm sc F pc lv (.ref (q.length + j0) :: st) (q ++ l) kc ks :=
  x_get hd hw (zq_get.trans hm) hc hj hT hv ho K
theorem q_put {i j0 ci j N : Nat} {C ref nm ds : String} {T : u_T} {fs : List Value} {v : Value} (hd : decode Y.2.1 pc = .ok (.putfield i, 3)) (hw : Cond.fieldLink Y.2.2.2.2 i ref nm ds ∈ zt) (hm : l[j0]? = some (.inr (ci, fs))) (hc : zcl[ci]? = some (C, T, N)) (hj : j < N) (hT : T j = (ref, nm, ds, false)) (hf : j < fs.length) (ho : zok v = true) (hn : ∀ base b, narrow (zty ci j) (zr base b v) = zr base b v) (hfit : ∀ base b, fits (zty ci j) (zr base b v) = true) (hl : l.set j0 (.inr (ci, fs.set j v)) = l') (K : X Y rm sc F (pc + 3) lv st (q ++ l') kc ks) : X Y rm sc F pc lv (v :: .ref (q.length + j0) :: st) (q ++ l) kc ks :=
  x_put hd hw (zq_get.trans hm) hc hj hT hf ho hn hfit (zq_set.trans (by rw [hl])) K
theorem q_putF {i j0 ci j N : Nat} {C ref nm ds : String} {T : u_T} {fs : List Value} {v : Value} (hd : decode Y.2.1 pc = .ok (.putfield i, 3)) (hw : Cond.fieldLink Y.2.2.2.2 i ref nm ds ∈ zt) (hm : l[j0]? = some (.inr (ci, fs))) (hc : zcl[ci]? = some (C, T, N)) (hj : j < N) (hT : T j = (ref, nm, ds, true)) (hf : j < fs.length) (ho : zok v = true) (hn : ∀ base b, narrow (zty ci j) (zr base b v) = zr base b v) (hfit : ∀ base b, fits (zty ci j) (zr base b v) = true) (hdecl : (T j).1 = Y.2.2.2.2) (hin2 : Y.1.name = "<init>") (hl : l.set j0 (.inr (ci, fs.set j v)) = l') (K : X Y rm sc F (pc + 3) lv st (q ++ l') kc ks) : X Y rm sc F pc lv (v :: .ref (q.length + j0) :: st) (q ++ l) kc ks :=
  x_putF hd hw (zq_get.trans hm) hc hj hT hf ho hn hfit hdecl hin2 (zq_set.trans (by rw [hl])) K
theorem q_newa {n : Int32} {N' w : Nat} (hd : decode Y.2.1 pc = .ok (.newarray .int, 2)) (hn : ¬ n < 0) (hN : n.toNatClampNeg = N') (hb4 : N' * componentBytes .int ≤ 536870912) (hcells : kc + 1 ≤ rm.cells) (hslots : ks + N' ≤ rm.slots) (hw : l.length = w) (hl : l ++ [.inl (false, N', fun _ => 0)] = l') (K : X Y rm sc F (pc + 2) lv (.ref (q.length + w) :: st) (q ++ l') (kc + 1) (ks + N')) : X Y rm sc F pc lv (.int n :: st) (q ++ l) kc ks := by
  refine x_newa hd hn hN hb4 hcells hslots ?_
  rw [List.length_append, hw, List.append_assoc, hl]
  exact K
theorem q_newz {n : Int32} {N' w : Nat} (hd : decode Y.2.1 pc = .ok (.newarray .boolean, 2)) (hn : ¬ n < 0) (hN : n.toNatClampNeg = N') (hb4 : N' * componentBytes .boolean ≤ 536870912) (hcells : kc + 1 ≤ rm.cells) (hslots : ks + N' ≤ rm.slots) (hw : l.length = w) (hl : l ++ [.inl (true, N', fun _ => 0)] = l') (K : X Y rm sc F (pc + 2) lv (.ref (q.length + w) :: st) (q ++ l') (kc + 1) (ks + N')) : X Y rm sc F pc lv (.int n :: st) (q ++ l) kc ks := by
  refine x_newz hd hn hN hb4 hcells hslots ?_
  rw [List.length_append, hw, List.append_assoc, hl]
  exact K
theorem q_alen {j0 n : Nat} {f : Nat → Int32} {v : Int32} (hd : decode Y.2.1 pc = .ok (.arraylength, 1)) (hm : l[j0]? = some (.inl (false, n, f))) (hv : Int32.ofNat n = v) (K : X Y rm sc F (pc + 1) lv (.int v :: st) (q ++ l) kc ks) : X Y rm sc F pc lv (.ref (q.length + j0) :: st) (q ++ l) kc ks :=
  x_alen hd (zq_get.trans hm) hv K
theorem q_iast {j0 n : Nat} {f : Nat → Int32} {i x : Int32} (hd : decode Y.2.1 pc = .ok (.iastore, 1)) (hm : l[j0]? = some (.inl (false, n, f))) (hl : l.set j0 (.inl (false, n, upd f i.toNatClampNeg x)) = l') (hin : vp_in i n) (K : X Y rm sc F (pc + 1) lv st (q ++ l') kc ks) : X Y rm sc F pc lv (.int x :: .int i :: .ref (q.length + j0) :: st) (q ++ l) kc ks :=
  x_iast hd (zq_get.trans hm) (zq_set.trans (by rw [hl])) hin K
end QR
set_option maxRecDepth 100000 in
set_option maxHeartbeats 4000000 in
theorem c_Pat_init (q : zMem) (a : Nat) : Ctr Y_Pat_init { frames := 1, cells := 6, slots := 5632, locals := 40 } [.ref (q.length + 0), .ref a] (q ++ [.inr (2, [.null, .null, .null, .null, .null, .null, .null])]) (fun r μ' => r = none ∧ μ' = q ++ [.inr (2, [.ref a, .ref (q.length + 1), .ref (q.length + 2), .ref (q.length + 3), .ref (q.length + 4), .ref (q.length + 5), .ref (q.length + 6)]), .inl (false, 256, fun _ => 0), .inl (false, 256, fun _ => 0), .inl (false, 2304, fun _ => 0), .inl (false, 2304, fun _ => 0), .inl (false, 256, fun _ => 0), .inl (false, 256, fun _ => 0)]) := by
  refine Ctr.of (lv := [.ref (q.length + 0), .ref a]) k_Pat_init.1 rfl (by decide) rfl rfl (Nat.le_of_ble_eq_true rfl) ?_
  refine x_aload_n (pc := 0) d_Pat_init_0 rfl ?_
  refine x_obj (pc := 1) d_Pat_init_1 m_Pat_3 (Nat.le_of_ble_eq_true rfl) (by simp) (Nat.le_of_ble_eq_true rfl) ?_
  refine x_aload_n (pc := 4) d_Pat_init_4 rfl ?_
  refine x_sipush (pc := 5) (v := 256) d_Pat_init_5 (by decide) ?_
  refine q_newa (pc := 8) (l' := [.inr (2, [.null, .null, .null, .null, .null, .null, .null]), .inl (false, 256, fun _ => 0)]) d_Pat_init_8 (by decide) (by decide) (by decide) (Nat.le_of_ble_eq_true rfl) (Nat.le_of_ble_eq_true rfl) rfl rfl ?_
  refine q_putF (pc := 10) (j := 1) (j0 := 0) (l' := [.inr (2, [.null, .ref (q.length + 1), .null, .null, .null, .null, .null]), .inl (false, 256, fun _ => 0)]) d_Pat_init_10 f_Pat_9 rfl rfl (Nat.le_of_ble_eq_true rfl) rfl (Nat.le_of_ble_eq_true rfl) rfl (fun _ _ => rfl) (fun _ _ => rfl) rfl rfl rfl ?_
  refine x_aload_n (pc := 13) d_Pat_init_13 rfl ?_
  refine x_sipush (pc := 14) (v := 256) d_Pat_init_14 (by decide) ?_
  refine q_newa (pc := 17) (l' := [.inr (2, [.null, .ref (q.length + 1), .null, .null, .null, .null, .null]), .inl (false, 256, fun _ => 0), .inl (false, 256, fun _ => 0)]) d_Pat_init_17 (by decide) (by decide) (by decide) (Nat.le_of_ble_eq_true rfl) (Nat.le_of_ble_eq_true rfl) rfl rfl ?_
  refine q_putF (pc := 19) (j := 2) (j0 := 0) (l' := [.inr (2, [.null, .ref (q.length + 1), .ref (q.length + 2), .null, .null, .null, .null]), .inl (false, 256, fun _ => 0), .inl (false, 256, fun _ => 0)]) d_Pat_init_19 f_Pat_15 rfl rfl (Nat.le_of_ble_eq_true rfl) rfl (Nat.le_of_ble_eq_true rfl) rfl (fun _ _ => rfl) (fun _ _ => rfl) rfl rfl rfl ?_
  refine x_aload_n (pc := 22) d_Pat_init_22 rfl ?_
  refine x_sipush (pc := 23) (v := 2304) d_Pat_init_23 (by decide) ?_
  refine q_newa (pc := 26) (l' := [.inr (2, [.null, .ref (q.length + 1), .ref (q.length + 2), .null, .null, .null, .null]), .inl (false, 256, fun _ => 0), .inl (false, 256, fun _ => 0), .inl (false, 2304, fun _ => 0)]) d_Pat_init_26 (by decide) (by decide) (by decide) (Nat.le_of_ble_eq_true rfl) (Nat.le_of_ble_eq_true rfl) rfl rfl ?_
  refine q_putF (pc := 28) (j := 3) (j0 := 0) (l' := [.inr (2, [.null, .ref (q.length + 1), .ref (q.length + 2), .ref (q.length + 3), .null, .null, .null]), .inl (false, 256, fun _ => 0), .inl (false, 256, fun _ => 0), .inl (false, 2304, fun _ => 0)]) d_Pat_init_28 f_Pat_18 rfl rfl (Nat.le_of_ble_eq_true rfl) rfl (Nat.le_of_ble_eq_true rfl) rfl (fun _ _ => rfl) (fun _ _ => rfl) rfl rfl rfl ?_
  refine x_aload_n (pc := 31) d_Pat_init_31 rfl ?_
  refine x_sipush (pc := 32) (v := 2304) d_Pat_init_32 (by decide) ?_
  refine q_newa (pc := 35) (l' := [.inr (2, [.null, .ref (q.length + 1), .ref (q.length + 2), .ref (q.length + 3), .null, .null, .null]), .inl (false, 256, fun _ => 0), .inl (false, 256, fun _ => 0), .inl (false, 2304, fun _ => 0), .inl (false, 2304, fun _ => 0)]) d_Pat_init_35 (by decide) (by decide) (by decide) (Nat.le_of_ble_eq_true rfl) (Nat.le_of_ble_eq_true rfl) rfl rfl ?_
  refine q_putF (pc := 37) (j := 4) (j0 := 0) (l' := [.inr (2, [.null, .ref (q.length + 1), .ref (q.length + 2), .ref (q.length + 3), .ref (q.length + 4), .null, .null]), .inl (false, 256, fun _ => 0), .inl (false, 256, fun _ => 0), .inl (false, 2304, fun _ => 0), .inl (false, 2304, fun _ => 0)]) d_Pat_init_37 f_Pat_21 rfl rfl (Nat.le_of_ble_eq_true rfl) rfl (Nat.le_of_ble_eq_true rfl) rfl (fun _ _ => rfl) (fun _ _ => rfl) rfl rfl rfl ?_
  refine x_aload_n (pc := 40) d_Pat_init_40 rfl ?_
  refine x_sipush (pc := 41) (v := 256) d_Pat_init_41 (by decide) ?_
  refine q_newa (pc := 44) (l' := [.inr (2, [.null, .ref (q.length + 1), .ref (q.length + 2), .ref (q.length + 3), .ref (q.length + 4), .null, .null]), .inl (false, 256, fun _ => 0), .inl (false, 256, fun _ => 0), .inl (false, 2304, fun _ => 0), .inl (false, 2304, fun _ => 0), .inl (false, 256, fun _ => 0)]) d_Pat_init_44 (by decide) (by decide) (by decide) (Nat.le_of_ble_eq_true rfl) (Nat.le_of_ble_eq_true rfl) rfl rfl ?_
  refine q_putF (pc := 46) (j := 5) (j0 := 0) (l' := [.inr (2, [.null, .ref (q.length + 1), .ref (q.length + 2), .ref (q.length + 3), .ref (q.length + 4), .ref (q.length + 5), .null]), .inl (false, 256, fun _ => 0), .inl (false, 256, fun _ => 0), .inl (false, 2304, fun _ => 0), .inl (false, 2304, fun _ => 0), .inl (false, 256, fun _ => 0)]) d_Pat_init_46 f_Pat_24 rfl rfl (Nat.le_of_ble_eq_true rfl) rfl (Nat.le_of_ble_eq_true rfl) rfl (fun _ _ => rfl) (fun _ _ => rfl) rfl rfl rfl ?_
  refine x_aload_n (pc := 49) d_Pat_init_49 rfl ?_
  refine x_sipush (pc := 50) (v := 256) d_Pat_init_50 (by decide) ?_
  refine q_newa (pc := 53) (l' := [.inr (2, [.null, .ref (q.length + 1), .ref (q.length + 2), .ref (q.length + 3), .ref (q.length + 4), .ref (q.length + 5), .null]), .inl (false, 256, fun _ => 0), .inl (false, 256, fun _ => 0), .inl (false, 2304, fun _ => 0), .inl (false, 2304, fun _ => 0), .inl (false, 256, fun _ => 0), .inl (false, 256, fun _ => 0)]) d_Pat_init_53 (by decide) (by decide) (by decide) (Nat.le_of_ble_eq_true rfl) (Nat.le_of_ble_eq_true rfl) rfl rfl ?_
  refine q_putF (pc := 55) (j := 6) (j0 := 0) (l' := [.inr (2, [.null, .ref (q.length + 1), .ref (q.length + 2), .ref (q.length + 3), .ref (q.length + 4), .ref (q.length + 5), .ref (q.length + 6)]), .inl (false, 256, fun _ => 0), .inl (false, 256, fun _ => 0), .inl (false, 2304, fun _ => 0), .inl (false, 2304, fun _ => 0), .inl (false, 256, fun _ => 0), .inl (false, 256, fun _ => 0)]) d_Pat_init_55 f_Pat_27 rfl rfl (Nat.le_of_ble_eq_true rfl) rfl (Nat.le_of_ble_eq_true rfl) rfl (fun _ _ => rfl) (fun _ _ => rfl) rfl rfl rfl ?_
  refine x_aload_n (pc := 58) d_Pat_init_58 rfl ?_
  refine x_aload_n (pc := 59) d_Pat_init_59 rfl ?_
  refine q_putF (pc := 60) (j := 0) (j0 := 0) (l' := [.inr (2, [.ref a, .ref (q.length + 1), .ref (q.length + 2), .ref (q.length + 3), .ref (q.length + 4), .ref (q.length + 5), .ref (q.length + 6)]), .inl (false, 256, fun _ => 0), .inl (false, 256, fun _ => 0), .inl (false, 2304, fun _ => 0), .inl (false, 2304, fun _ => 0), .inl (false, 256, fun _ => 0), .inl (false, 256, fun _ => 0)]) d_Pat_init_60 f_Pat_30 rfl rfl (Nat.le_of_ble_eq_true rfl) rfl (Nat.le_of_ble_eq_true rfl) rfl (fun _ _ => rfl) (fun _ _ => rfl) rfl rfl rfl ?_
  exact x_vret (pc := 63) d_Pat_init_63 rfl ⟨Nat.le_of_ble_eq_true rfl, Nat.le_of_ble_eq_true rfl⟩ ⟨rfl, rfl⟩
set_option maxRecDepth 100000 in
set_option maxHeartbeats 4000000 in
theorem c_Sha_init (q : zMem) (a b : Nat) : Ctr Y_Sha_init { frames := 1, cells := 2, slots := 4608, locals := 40 } [.ref (q.length + 0), .ref a, .ref b] (q ++ [.inr (3, [.null, .null, .null, .null, .int 0, .int 0, .int 0])]) (fun r μ' => r = none ∧ μ' = q ++ [.inr (3, [.ref a, .ref b, .ref (q.length + 1), .ref (q.length + 2), .int 1000000000, .int 0, .int (-1)]), .inl (false, 2304, fun _ => 0), .inl (false, 2304, fun _ => 0)]) := by
  refine Ctr.of (lv := [.ref (q.length + 0), .ref a, .ref b]) k_Sha_init.1 rfl (by decide) rfl rfl (Nat.le_of_ble_eq_true rfl) ?_
  refine x_aload_n (pc := 0) d_Sha_init_0 rfl ?_
  refine x_obj (pc := 1) d_Sha_init_1 m_Sha_3 (Nat.le_of_ble_eq_true rfl) (by simp) (Nat.le_of_ble_eq_true rfl) ?_
  refine x_aload_n (pc := 4) d_Sha_init_4 rfl ?_
  refine x_sipush (pc := 5) (v := 2304) d_Sha_init_5 (by decide) ?_
  refine q_newa (pc := 8) (l' := [.inr (3, [.null, .null, .null, .null, .int 0, .int 0, .int 0]), .inl (false, 2304, fun _ => 0)]) d_Sha_init_8 (by decide) (by decide) (by decide) (Nat.le_of_ble_eq_true rfl) (Nat.le_of_ble_eq_true rfl) rfl rfl ?_
  refine q_putF (pc := 10) (j := 2) (j0 := 0) (l' := [.inr (3, [.null, .null, .ref (q.length + 1), .null, .int 0, .int 0, .int 0]), .inl (false, 2304, fun _ => 0)]) d_Sha_init_10 f_Sha_9 rfl rfl (Nat.le_of_ble_eq_true rfl) rfl (Nat.le_of_ble_eq_true rfl) rfl (fun _ _ => rfl) (fun _ _ => rfl) rfl rfl rfl ?_
  refine x_aload_n (pc := 13) d_Sha_init_13 rfl ?_
  refine x_sipush (pc := 14) (v := 2304) d_Sha_init_14 (by decide) ?_
  refine q_newa (pc := 17) (l' := [.inr (3, [.null, .null, .ref (q.length + 1), .null, .int 0, .int 0, .int 0]), .inl (false, 2304, fun _ => 0), .inl (false, 2304, fun _ => 0)]) d_Sha_init_17 (by decide) (by decide) (by decide) (Nat.le_of_ble_eq_true rfl) (Nat.le_of_ble_eq_true rfl) rfl rfl ?_
  refine q_putF (pc := 19) (j := 3) (j0 := 0) (l' := [.inr (3, [.null, .null, .ref (q.length + 1), .ref (q.length + 2), .int 0, .int 0, .int 0]), .inl (false, 2304, fun _ => 0), .inl (false, 2304, fun _ => 0)]) d_Sha_init_19 f_Sha_15 rfl rfl (Nat.le_of_ble_eq_true rfl) rfl (Nat.le_of_ble_eq_true rfl) rfl (fun _ _ => rfl) (fun _ _ => rfl) rfl rfl rfl ?_
  refine x_aload_n (pc := 22) d_Sha_init_22 rfl ?_
  refine x_ldc (pc := 23) (v := 1000000000) d_Sha_init_23 i_Sha_18 ?_
  refine q_put (pc := 25) (j := 4) (j0 := 0) (l' := [.inr (3, [.null, .null, .ref (q.length + 1), .ref (q.length + 2), .int 1000000000, .int 0, .int 0]), .inl (false, 2304, fun _ => 0), .inl (false, 2304, fun _ => 0)]) d_Sha_init_25 f_Sha_19 rfl rfl (Nat.le_of_ble_eq_true rfl) rfl (Nat.le_of_ble_eq_true rfl) rfl (fun _ _ => rfl) (fun _ _ => rfl) rfl ?_
  refine x_aload_n (pc := 28) d_Sha_init_28 rfl ?_
  refine x_iconst (pc := 29) (v := 0) d_Sha_init_29 (by decide) ?_
  refine q_put (pc := 30) (j := 5) (j0 := 0) (l' := [.inr (3, [.null, .null, .ref (q.length + 1), .ref (q.length + 2), .int 1000000000, .int 0, .int 0]), .inl (false, 2304, fun _ => 0), .inl (false, 2304, fun _ => 0)]) d_Sha_init_30 f_Sha_23 rfl rfl (Nat.le_of_ble_eq_true rfl) rfl (Nat.le_of_ble_eq_true rfl) rfl (fun _ _ => rfl) (fun _ _ => rfl) rfl ?_
  refine x_aload_n (pc := 33) d_Sha_init_33 rfl ?_
  refine x_iconst (pc := 34) (v := (-1)) d_Sha_init_34 (by decide) ?_
  refine q_put (pc := 35) (j := 6) (j0 := 0) (l' := [.inr (3, [.null, .null, .ref (q.length + 1), .ref (q.length + 2), .int 1000000000, .int 0, .int (-1)]), .inl (false, 2304, fun _ => 0), .inl (false, 2304, fun _ => 0)]) d_Sha_init_35 f_Sha_26 rfl rfl (Nat.le_of_ble_eq_true rfl) rfl (Nat.le_of_ble_eq_true rfl) rfl (fun _ _ => rfl) (fun _ _ => rfl) rfl ?_
  refine x_aload_n (pc := 38) d_Sha_init_38 rfl ?_
  refine x_aload_n (pc := 39) d_Sha_init_39 rfl ?_
  refine q_putF (pc := 40) (j := 0) (j0 := 0) (l' := [.inr (3, [.ref a, .null, .ref (q.length + 1), .ref (q.length + 2), .int 1000000000, .int 0, .int (-1)]), .inl (false, 2304, fun _ => 0), .inl (false, 2304, fun _ => 0)]) d_Sha_init_40 f_Sha_29 rfl rfl (Nat.le_of_ble_eq_true rfl) rfl (Nat.le_of_ble_eq_true rfl) rfl (fun _ _ => rfl) (fun _ _ => rfl) rfl rfl rfl ?_
  refine x_aload_n (pc := 43) d_Sha_init_43 rfl ?_
  refine x_aload_n (pc := 44) d_Sha_init_44 rfl ?_
  refine q_putF (pc := 45) (j := 1) (j0 := 0) (l' := [.inr (3, [.ref a, .ref b, .ref (q.length + 1), .ref (q.length + 2), .int 1000000000, .int 0, .int (-1)]), .inl (false, 2304, fun _ => 0), .inl (false, 2304, fun _ => 0)]) d_Sha_init_45 f_Sha_33 rfl rfl (Nat.le_of_ble_eq_true rfl) rfl (Nat.le_of_ble_eq_true rfl) rfl (fun _ _ => rfl) (fun _ _ => rfl) rfl rfl rfl ?_
  exact x_vret (pc := 48) d_Sha_init_48 rfl ⟨Nat.le_of_ble_eq_true rfl, Nat.le_of_ble_eq_true rfl⟩ ⟨rfl, rfl⟩
set_option maxRecDepth 100000 in
set_option maxHeartbeats 4000000 in
theorem c_Tai_init (q : zMem) (a b c : Nat) : Ctr Y_Tai_init { frames := 1, cells := 2, slots := 2385, locals := 40 } [.ref (q.length + 0), .ref a, .ref b, .ref c] (q ++ [.inr (4, [.null, .null, .null, .null, .null, .int 0, .int 0, .int 0])]) (fun r μ' => r = none ∧ μ' = q ++ [.inr (4, [.ref a, .ref b, .ref c, .ref (q.length + 1), .ref (q.length + 2), .int (-1), .int 0, .int 0]), .inl (false, 2304, fun _ => 0), .inl (true, 81, fun _ => 0)]) := by
  refine Ctr.of (lv := [.ref (q.length + 0), .ref a, .ref b, .ref c]) k_Tai_init.1 rfl (by decide) rfl rfl (Nat.le_of_ble_eq_true rfl) ?_
  refine x_aload_n (pc := 0) d_Tai_init_0 rfl ?_
  refine x_obj (pc := 1) d_Tai_init_1 m_Tai_3 (Nat.le_of_ble_eq_true rfl) (by simp) (Nat.le_of_ble_eq_true rfl) ?_
  refine x_aload_n (pc := 4) d_Tai_init_4 rfl ?_
  refine x_sipush (pc := 5) (v := 2304) d_Tai_init_5 (by decide) ?_
  refine q_newa (pc := 8) (l' := [.inr (4, [.null, .null, .null, .null, .null, .int 0, .int 0, .int 0]), .inl (false, 2304, fun _ => 0)]) d_Tai_init_8 (by decide) (by decide) (by decide) (Nat.le_of_ble_eq_true rfl) (Nat.le_of_ble_eq_true rfl) rfl rfl ?_
  refine q_putF (pc := 10) (j := 3) (j0 := 0) (l' := [.inr (4, [.null, .null, .null, .ref (q.length + 1), .null, .int 0, .int 0, .int 0]), .inl (false, 2304, fun _ => 0)]) d_Tai_init_10 f_Tai_9 rfl rfl (Nat.le_of_ble_eq_true rfl) rfl (Nat.le_of_ble_eq_true rfl) rfl (fun _ _ => rfl) (fun _ _ => rfl) rfl rfl rfl ?_
  refine x_aload_n (pc := 13) d_Tai_init_13 rfl ?_
  refine x_bipush (pc := 14) (v := 81) d_Tai_init_14 (by decide) ?_
  refine q_newz (pc := 16) (l' := [.inr (4, [.null, .null, .null, .ref (q.length + 1), .null, .int 0, .int 0, .int 0]), .inl (false, 2304, fun _ => 0), .inl (true, 81, fun _ => 0)]) d_Tai_init_16 (by decide) (by decide) (by decide) (Nat.le_of_ble_eq_true rfl) (Nat.le_of_ble_eq_true rfl) rfl rfl ?_
  refine q_putF (pc := 18) (j := 4) (j0 := 0) (l' := [.inr (4, [.null, .null, .null, .ref (q.length + 1), .ref (q.length + 2), .int 0, .int 0, .int 0]), .inl (false, 2304, fun _ => 0), .inl (true, 81, fun _ => 0)]) d_Tai_init_18 f_Tai_15 rfl rfl (Nat.le_of_ble_eq_true rfl) rfl (Nat.le_of_ble_eq_true rfl) rfl (fun _ _ => rfl) (fun _ _ => rfl) rfl rfl rfl ?_
  refine x_aload_n (pc := 21) d_Tai_init_21 rfl ?_
  refine x_iconst (pc := 22) (v := (-1)) d_Tai_init_22 (by decide) ?_
  refine q_put (pc := 23) (j := 5) (j0 := 0) (l' := [.inr (4, [.null, .null, .null, .ref (q.length + 1), .ref (q.length + 2), .int (-1), .int 0, .int 0]), .inl (false, 2304, fun _ => 0), .inl (true, 81, fun _ => 0)]) d_Tai_init_23 f_Tai_19 rfl rfl (Nat.le_of_ble_eq_true rfl) rfl (Nat.le_of_ble_eq_true rfl) rfl (fun _ _ => rfl) (fun _ _ => rfl) rfl ?_
  refine x_aload_n (pc := 26) d_Tai_init_26 rfl ?_
  refine x_iconst (pc := 27) (v := 0) d_Tai_init_27 (by decide) ?_
  refine q_put (pc := 28) (j := 6) (j0 := 0) (l' := [.inr (4, [.null, .null, .null, .ref (q.length + 1), .ref (q.length + 2), .int (-1), .int 0, .int 0]), .inl (false, 2304, fun _ => 0), .inl (true, 81, fun _ => 0)]) d_Tai_init_28 f_Tai_23 rfl rfl (Nat.le_of_ble_eq_true rfl) rfl (Nat.le_of_ble_eq_true rfl) rfl (fun _ _ => rfl) (fun _ _ => rfl) rfl ?_
  refine x_aload_n (pc := 31) d_Tai_init_31 rfl ?_
  refine x_iconst (pc := 32) (v := 0) d_Tai_init_32 (by decide) ?_
  refine q_put (pc := 33) (j := 7) (j0 := 0) (l' := [.inr (4, [.null, .null, .null, .ref (q.length + 1), .ref (q.length + 2), .int (-1), .int 0, .int 0]), .inl (false, 2304, fun _ => 0), .inl (true, 81, fun _ => 0)]) d_Tai_init_33 f_Tai_26 rfl rfl (Nat.le_of_ble_eq_true rfl) rfl (Nat.le_of_ble_eq_true rfl) rfl (fun _ _ => rfl) (fun _ _ => rfl) rfl ?_
  refine x_aload_n (pc := 36) d_Tai_init_36 rfl ?_
  refine x_aload_n (pc := 37) d_Tai_init_37 rfl ?_
  refine q_putF (pc := 38) (j := 0) (j0 := 0) (l' := [.inr (4, [.ref a, .null, .null, .ref (q.length + 1), .ref (q.length + 2), .int (-1), .int 0, .int 0]), .inl (false, 2304, fun _ => 0), .inl (true, 81, fun _ => 0)]) d_Tai_init_38 f_Tai_29 rfl rfl (Nat.le_of_ble_eq_true rfl) rfl (Nat.le_of_ble_eq_true rfl) rfl (fun _ _ => rfl) (fun _ _ => rfl) rfl rfl rfl ?_
  refine x_aload_n (pc := 41) d_Tai_init_41 rfl ?_
  refine x_aload_n (pc := 42) d_Tai_init_42 rfl ?_
  refine q_putF (pc := 43) (j := 1) (j0 := 0) (l' := [.inr (4, [.ref a, .ref b, .null, .ref (q.length + 1), .ref (q.length + 2), .int (-1), .int 0, .int 0]), .inl (false, 2304, fun _ => 0), .inl (true, 81, fun _ => 0)]) d_Tai_init_43 f_Tai_33 rfl rfl (Nat.le_of_ble_eq_true rfl) rfl (Nat.le_of_ble_eq_true rfl) rfl (fun _ _ => rfl) (fun _ _ => rfl) rfl rfl rfl ?_
  refine x_aload_n (pc := 46) d_Tai_init_46 rfl ?_
  refine x_aload_n (pc := 47) d_Tai_init_47 rfl ?_
  refine q_putF (pc := 48) (j := 2) (j0 := 0) (l' := [.inr (4, [.ref a, .ref b, .ref c, .ref (q.length + 1), .ref (q.length + 2), .int (-1), .int 0, .int 0]), .inl (false, 2304, fun _ => 0), .inl (true, 81, fun _ => 0)]) d_Tai_init_48 f_Tai_37 rfl rfl (Nat.le_of_ble_eq_true rfl) rfl (Nat.le_of_ble_eq_true rfl) rfl (fun _ _ => rfl) (fun _ _ => rfl) rfl rfl rfl ?_
  exact x_vret (pc := 51) d_Tai_init_51 rfl ⟨Nat.le_of_ble_eq_true rfl, Nat.le_of_ble_eq_true rfl⟩ ⟨rfl, rfl⟩
set_option maxRecDepth 100000 in
set_option maxHeartbeats 4000000 in
theorem c_Fir_init (q : zMem) (a b c : Nat) : Ctr Y_Fir_init { frames := 1, cells := 1, slots := 18, locals := 40 } [.ref (q.length + 0), .ref a, .ref b, .ref c] (q ++ [.inr (5, [.null, .null, .null, .null, .int 0, .int 0, .int 0, .int 0])]) (fun r μ' => r = none ∧ μ' = q ++ [.inr (5, [.ref a, .ref b, .ref c, .ref (q.length + 1), .int 0, .int (-1), .int 0, .int 0]), .inl (false, 18, fun _ => 0)]) := by
  refine Ctr.of (lv := [.ref (q.length + 0), .ref a, .ref b, .ref c]) k_Fir_init.1 rfl (by decide) rfl rfl (Nat.le_of_ble_eq_true rfl) ?_
  refine x_aload_n (pc := 0) d_Fir_init_0 rfl ?_
  refine x_obj (pc := 1) d_Fir_init_1 m_Fir_3 (Nat.le_of_ble_eq_true rfl) (by simp) (Nat.le_of_ble_eq_true rfl) ?_
  refine x_aload_n (pc := 4) d_Fir_init_4 rfl ?_
  refine x_bipush (pc := 5) (v := 18) d_Fir_init_5 (by decide) ?_
  refine q_newa (pc := 7) (l' := [.inr (5, [.null, .null, .null, .null, .int 0, .int 0, .int 0, .int 0]), .inl (false, 18, fun _ => 0)]) d_Fir_init_7 (by decide) (by decide) (by decide) (Nat.le_of_ble_eq_true rfl) (Nat.le_of_ble_eq_true rfl) rfl rfl ?_
  refine q_putF (pc := 9) (j := 3) (j0 := 0) (l' := [.inr (5, [.null, .null, .null, .ref (q.length + 1), .int 0, .int 0, .int 0, .int 0]), .inl (false, 18, fun _ => 0)]) d_Fir_init_9 f_Fir_9 rfl rfl (Nat.le_of_ble_eq_true rfl) rfl (Nat.le_of_ble_eq_true rfl) rfl (fun _ _ => rfl) (fun _ _ => rfl) rfl rfl rfl ?_
  refine x_aload_n (pc := 12) d_Fir_init_12 rfl ?_
  refine x_iconst (pc := 13) (v := 0) d_Fir_init_13 (by decide) ?_
  refine q_put (pc := 14) (j := 4) (j0 := 0) (l' := [.inr (5, [.null, .null, .null, .ref (q.length + 1), .int 0, .int 0, .int 0, .int 0]), .inl (false, 18, fun _ => 0)]) d_Fir_init_14 f_Fir_15 rfl rfl (Nat.le_of_ble_eq_true rfl) rfl (Nat.le_of_ble_eq_true rfl) rfl (fun _ _ => rfl) (fun _ _ => rfl) rfl ?_
  refine x_aload_n (pc := 17) d_Fir_init_17 rfl ?_
  refine x_iconst (pc := 18) (v := (-1)) d_Fir_init_18 (by decide) ?_
  refine q_put (pc := 19) (j := 5) (j0 := 0) (l' := [.inr (5, [.null, .null, .null, .ref (q.length + 1), .int 0, .int (-1), .int 0, .int 0]), .inl (false, 18, fun _ => 0)]) d_Fir_init_19 f_Fir_19 rfl rfl (Nat.le_of_ble_eq_true rfl) rfl (Nat.le_of_ble_eq_true rfl) rfl (fun _ _ => rfl) (fun _ _ => rfl) rfl ?_
  refine x_aload_n (pc := 22) d_Fir_init_22 rfl ?_
  refine x_iconst (pc := 23) (v := 0) d_Fir_init_23 (by decide) ?_
  refine q_put (pc := 24) (j := 6) (j0 := 0) (l' := [.inr (5, [.null, .null, .null, .ref (q.length + 1), .int 0, .int (-1), .int 0, .int 0]), .inl (false, 18, fun _ => 0)]) d_Fir_init_24 f_Fir_22 rfl rfl (Nat.le_of_ble_eq_true rfl) rfl (Nat.le_of_ble_eq_true rfl) rfl (fun _ _ => rfl) (fun _ _ => rfl) rfl ?_
  refine x_aload_n (pc := 27) d_Fir_init_27 rfl ?_
  refine x_iconst (pc := 28) (v := 0) d_Fir_init_28 (by decide) ?_
  refine q_put (pc := 29) (j := 7) (j0 := 0) (l' := [.inr (5, [.null, .null, .null, .ref (q.length + 1), .int 0, .int (-1), .int 0, .int 0]), .inl (false, 18, fun _ => 0)]) d_Fir_init_29 f_Fir_25 rfl rfl (Nat.le_of_ble_eq_true rfl) rfl (Nat.le_of_ble_eq_true rfl) rfl (fun _ _ => rfl) (fun _ _ => rfl) rfl ?_
  refine x_aload_n (pc := 32) d_Fir_init_32 rfl ?_
  refine x_aload_n (pc := 33) d_Fir_init_33 rfl ?_
  refine q_putF (pc := 34) (j := 0) (j0 := 0) (l' := [.inr (5, [.ref a, .null, .null, .ref (q.length + 1), .int 0, .int (-1), .int 0, .int 0]), .inl (false, 18, fun _ => 0)]) d_Fir_init_34 f_Fir_28 rfl rfl (Nat.le_of_ble_eq_true rfl) rfl (Nat.le_of_ble_eq_true rfl) rfl (fun _ _ => rfl) (fun _ _ => rfl) rfl rfl rfl ?_
  refine x_aload_n (pc := 37) d_Fir_init_37 rfl ?_
  refine x_aload_n (pc := 38) d_Fir_init_38 rfl ?_
  refine q_putF (pc := 39) (j := 1) (j0 := 0) (l' := [.inr (5, [.ref a, .ref b, .null, .ref (q.length + 1), .int 0, .int (-1), .int 0, .int 0]), .inl (false, 18, fun _ => 0)]) d_Fir_init_39 f_Fir_32 rfl rfl (Nat.le_of_ble_eq_true rfl) rfl (Nat.le_of_ble_eq_true rfl) rfl (fun _ _ => rfl) (fun _ _ => rfl) rfl rfl rfl ?_
  refine x_aload_n (pc := 42) d_Fir_init_42 rfl ?_
  refine x_aload_n (pc := 43) d_Fir_init_43 rfl ?_
  refine q_putF (pc := 44) (j := 2) (j0 := 0) (l' := [.inr (5, [.ref a, .ref b, .ref c, .ref (q.length + 1), .int 0, .int (-1), .int 0, .int 0]), .inl (false, 18, fun _ => 0)]) d_Fir_init_44 f_Fir_36 rfl rfl (Nat.le_of_ble_eq_true rfl) rfl (Nat.le_of_ble_eq_true rfl) rfl (fun _ _ => rfl) (fun _ _ => rfl) rfl rfl rfl ?_
  exact x_vret (pc := 47) d_Fir_init_47 rfl ⟨Nat.le_of_ble_eq_true rfl, Nat.le_of_ble_eq_true rfl⟩ ⟨rfl, rfl⟩
set_option maxRecDepth 100000 in
set_option maxHeartbeats 4000000 in
theorem c_Tre_init (q : zMem) (a : Nat) : Ctr Y_Tre_init { frames := 1, cells := 4, slots := 36, locals := 40 } [.ref (q.length + 0), .ref a] (q ++ [.inr (6, [.null, .null, .null, .null, .null, .int 0, .int 0])]) (fun r μ' => r = none ∧ μ' = q ++ [.inr (6, [.ref a, .ref (q.length + 1), .ref (q.length + 2), .ref (q.length + 3), .ref (q.length + 4), .int 0, .int 0]), .inl (false, 9, fun _ => 0), .inl (false, 9, fun _ => 0), .inl (false, 9, fun _ => 0), .inl (false, 9, fun _ => 0)]) := by
  refine Ctr.of (lv := [.ref (q.length + 0), .ref a]) k_Tre_init.1 rfl (by decide) rfl rfl (Nat.le_of_ble_eq_true rfl) ?_
  refine x_aload_n (pc := 0) d_Tre_init_0 rfl ?_
  refine x_obj (pc := 1) d_Tre_init_1 m_Tre_3 (Nat.le_of_ble_eq_true rfl) (by simp) (Nat.le_of_ble_eq_true rfl) ?_
  refine x_aload_n (pc := 4) d_Tre_init_4 rfl ?_
  refine x_bipush (pc := 5) (v := 9) d_Tre_init_5 (by decide) ?_
  refine q_newa (pc := 7) (l' := [.inr (6, [.null, .null, .null, .null, .null, .int 0, .int 0]), .inl (false, 9, fun _ => 0)]) d_Tre_init_7 (by decide) (by decide) (by decide) (Nat.le_of_ble_eq_true rfl) (Nat.le_of_ble_eq_true rfl) rfl rfl ?_
  refine q_putF (pc := 9) (j := 1) (j0 := 0) (l' := [.inr (6, [.null, .ref (q.length + 1), .null, .null, .null, .int 0, .int 0]), .inl (false, 9, fun _ => 0)]) d_Tre_init_9 f_Tre_9 rfl rfl (Nat.le_of_ble_eq_true rfl) rfl (Nat.le_of_ble_eq_true rfl) rfl (fun _ _ => rfl) (fun _ _ => rfl) rfl rfl rfl ?_
  refine x_aload_n (pc := 12) d_Tre_init_12 rfl ?_
  refine x_bipush (pc := 13) (v := 9) d_Tre_init_13 (by decide) ?_
  refine q_newa (pc := 15) (l' := [.inr (6, [.null, .ref (q.length + 1), .null, .null, .null, .int 0, .int 0]), .inl (false, 9, fun _ => 0), .inl (false, 9, fun _ => 0)]) d_Tre_init_15 (by decide) (by decide) (by decide) (Nat.le_of_ble_eq_true rfl) (Nat.le_of_ble_eq_true rfl) rfl rfl ?_
  refine q_putF (pc := 17) (j := 2) (j0 := 0) (l' := [.inr (6, [.null, .ref (q.length + 1), .ref (q.length + 2), .null, .null, .int 0, .int 0]), .inl (false, 9, fun _ => 0), .inl (false, 9, fun _ => 0)]) d_Tre_init_17 f_Tre_15 rfl rfl (Nat.le_of_ble_eq_true rfl) rfl (Nat.le_of_ble_eq_true rfl) rfl (fun _ _ => rfl) (fun _ _ => rfl) rfl rfl rfl ?_
  refine x_aload_n (pc := 20) d_Tre_init_20 rfl ?_
  refine x_bipush (pc := 21) (v := 9) d_Tre_init_21 (by decide) ?_
  refine q_newa (pc := 23) (l' := [.inr (6, [.null, .ref (q.length + 1), .ref (q.length + 2), .null, .null, .int 0, .int 0]), .inl (false, 9, fun _ => 0), .inl (false, 9, fun _ => 0), .inl (false, 9, fun _ => 0)]) d_Tre_init_23 (by decide) (by decide) (by decide) (Nat.le_of_ble_eq_true rfl) (Nat.le_of_ble_eq_true rfl) rfl rfl ?_
  refine q_putF (pc := 25) (j := 3) (j0 := 0) (l' := [.inr (6, [.null, .ref (q.length + 1), .ref (q.length + 2), .ref (q.length + 3), .null, .int 0, .int 0]), .inl (false, 9, fun _ => 0), .inl (false, 9, fun _ => 0), .inl (false, 9, fun _ => 0)]) d_Tre_init_25 f_Tre_18 rfl rfl (Nat.le_of_ble_eq_true rfl) rfl (Nat.le_of_ble_eq_true rfl) rfl (fun _ _ => rfl) (fun _ _ => rfl) rfl rfl rfl ?_
  refine x_aload_n (pc := 28) d_Tre_init_28 rfl ?_
  refine x_bipush (pc := 29) (v := 9) d_Tre_init_29 (by decide) ?_
  refine q_newa (pc := 31) (l' := [.inr (6, [.null, .ref (q.length + 1), .ref (q.length + 2), .ref (q.length + 3), .null, .int 0, .int 0]), .inl (false, 9, fun _ => 0), .inl (false, 9, fun _ => 0), .inl (false, 9, fun _ => 0), .inl (false, 9, fun _ => 0)]) d_Tre_init_31 (by decide) (by decide) (by decide) (Nat.le_of_ble_eq_true rfl) (Nat.le_of_ble_eq_true rfl) rfl rfl ?_
  refine q_putF (pc := 33) (j := 4) (j0 := 0) (l' := [.inr (6, [.null, .ref (q.length + 1), .ref (q.length + 2), .ref (q.length + 3), .ref (q.length + 4), .int 0, .int 0]), .inl (false, 9, fun _ => 0), .inl (false, 9, fun _ => 0), .inl (false, 9, fun _ => 0), .inl (false, 9, fun _ => 0)]) d_Tre_init_33 f_Tre_21 rfl rfl (Nat.le_of_ble_eq_true rfl) rfl (Nat.le_of_ble_eq_true rfl) rfl (fun _ _ => rfl) (fun _ _ => rfl) rfl rfl rfl ?_
  refine x_aload_n (pc := 36) d_Tre_init_36 rfl ?_
  refine x_iconst (pc := 37) (v := 0) d_Tre_init_37 (by decide) ?_
  refine q_put (pc := 38) (j := 5) (j0 := 0) (l' := [.inr (6, [.null, .ref (q.length + 1), .ref (q.length + 2), .ref (q.length + 3), .ref (q.length + 4), .int 0, .int 0]), .inl (false, 9, fun _ => 0), .inl (false, 9, fun _ => 0), .inl (false, 9, fun _ => 0), .inl (false, 9, fun _ => 0)]) d_Tre_init_38 f_Tre_24 rfl rfl (Nat.le_of_ble_eq_true rfl) rfl (Nat.le_of_ble_eq_true rfl) rfl (fun _ _ => rfl) (fun _ _ => rfl) rfl ?_
  refine x_aload_n (pc := 41) d_Tre_init_41 rfl ?_
  refine x_iconst (pc := 42) (v := 0) d_Tre_init_42 (by decide) ?_
  refine q_put (pc := 43) (j := 6) (j0 := 0) (l' := [.inr (6, [.null, .ref (q.length + 1), .ref (q.length + 2), .ref (q.length + 3), .ref (q.length + 4), .int 0, .int 0]), .inl (false, 9, fun _ => 0), .inl (false, 9, fun _ => 0), .inl (false, 9, fun _ => 0), .inl (false, 9, fun _ => 0)]) d_Tre_init_43 f_Tre_28 rfl rfl (Nat.le_of_ble_eq_true rfl) rfl (Nat.le_of_ble_eq_true rfl) rfl (fun _ _ => rfl) (fun _ _ => rfl) rfl ?_
  refine x_aload_n (pc := 46) d_Tre_init_46 rfl ?_
  refine x_aload_n (pc := 47) d_Tre_init_47 rfl ?_
  refine q_putF (pc := 48) (j := 0) (j0 := 0) (l' := [.inr (6, [.ref a, .ref (q.length + 1), .ref (q.length + 2), .ref (q.length + 3), .ref (q.length + 4), .int 0, .int 0]), .inl (false, 9, fun _ => 0), .inl (false, 9, fun _ => 0), .inl (false, 9, fun _ => 0), .inl (false, 9, fun _ => 0)]) d_Tre_init_48 f_Tre_31 rfl rfl (Nat.le_of_ble_eq_true rfl) rfl (Nat.le_of_ble_eq_true rfl) rfl (fun _ _ => rfl) (fun _ _ => rfl) rfl rfl rfl ?_
  exact x_vret (pc := 51) d_Tre_init_51 rfl ⟨Nat.le_of_ble_eq_true rfl, Nat.le_of_ble_eq_true rfl⟩ ⟨rfl, rfl⟩
set_option maxRecDepth 100000 in
set_option maxHeartbeats 4000000 in
theorem c_Pai_init (q : zMem) (a : Nat) : Ctr Y_Pai_init { frames := 1, cells := 1, slots := 512, locals := 40 } [.ref (q.length + 0), .ref a] (q ++ [.inr (7, [.null, .null])]) (fun r μ' => r = none ∧ μ' = q ++ [.inr (7, [.ref a, .ref (q.length + 1)]), .inl (false, 512, fun _ => 0)]) := by
  refine Ctr.of (lv := [.ref (q.length + 0), .ref a]) k_Pai_init.1 rfl (by decide) rfl rfl (Nat.le_of_ble_eq_true rfl) ?_
  refine x_aload_n (pc := 0) d_Pai_init_0 rfl ?_
  refine x_obj (pc := 1) d_Pai_init_1 m_Pai_3 (Nat.le_of_ble_eq_true rfl) (by simp) (Nat.le_of_ble_eq_true rfl) ?_
  refine x_aload_n (pc := 4) d_Pai_init_4 rfl ?_
  refine x_sipush (pc := 5) (v := 512) d_Pai_init_5 (by decide) ?_
  refine q_newa (pc := 8) (l' := [.inr (7, [.null, .null]), .inl (false, 512, fun _ => 0)]) d_Pai_init_8 (by decide) (by decide) (by decide) (Nat.le_of_ble_eq_true rfl) (Nat.le_of_ble_eq_true rfl) rfl rfl ?_
  refine q_putF (pc := 10) (j := 1) (j0 := 0) (l' := [.inr (7, [.null, .ref (q.length + 1)]), .inl (false, 512, fun _ => 0)]) d_Pai_init_10 f_Pai_9 rfl rfl (Nat.le_of_ble_eq_true rfl) rfl (Nat.le_of_ble_eq_true rfl) rfl (fun _ _ => rfl) (fun _ _ => rfl) rfl rfl rfl ?_
  refine x_aload_n (pc := 13) d_Pai_init_13 rfl ?_
  refine x_aload_n (pc := 14) d_Pai_init_14 rfl ?_
  refine q_putF (pc := 15) (j := 0) (j0 := 0) (l' := [.inr (7, [.ref a, .ref (q.length + 1)]), .inl (false, 512, fun _ => 0)]) d_Pai_init_15 f_Pai_15 rfl rfl (Nat.le_of_ble_eq_true rfl) rfl (Nat.le_of_ble_eq_true rfl) rfl (fun _ _ => rfl) (fun _ _ => rfl) rfl rfl rfl ?_
  exact x_vret (pc := 18) d_Pai_init_18 rfl ⟨Nat.le_of_ble_eq_true rfl, Nat.le_of_ble_eq_true rfl⟩ ⟨rfl, rfl⟩
set_option maxRecDepth 100000 in
set_option maxHeartbeats 4000000 in
theorem c_Way_init (q : zMem) (a : Nat) : Ctr Y_Way_init { frames := 1, cells := 1, slots := 9, locals := 40 } [.ref (q.length + 0), .ref a] (q ++ [.inr (9, [.null, .null])]) (fun r μ' => r = none ∧ μ' = q ++ [.inr (9, [.ref a, .ref (q.length + 1)]), .inl (false, 9, fun _ => 0)]) := by
  refine Ctr.of (lv := [.ref (q.length + 0), .ref a]) k_Way_init.1 rfl (by decide) rfl rfl (Nat.le_of_ble_eq_true rfl) ?_
  refine x_aload_n (pc := 0) d_Way_init_0 rfl ?_
  refine x_obj (pc := 1) d_Way_init_1 m_Way_3 (Nat.le_of_ble_eq_true rfl) (by simp) (Nat.le_of_ble_eq_true rfl) ?_
  refine x_aload_n (pc := 4) d_Way_init_4 rfl ?_
  refine x_bipush (pc := 5) (v := 9) d_Way_init_5 (by decide) ?_
  refine q_newa (pc := 7) (l' := [.inr (9, [.null, .null]), .inl (false, 9, fun _ => 0)]) d_Way_init_7 (by decide) (by decide) (by decide) (Nat.le_of_ble_eq_true rfl) (Nat.le_of_ble_eq_true rfl) rfl rfl ?_
  refine q_putF (pc := 9) (j := 1) (j0 := 0) (l' := [.inr (9, [.null, .ref (q.length + 1)]), .inl (false, 9, fun _ => 0)]) d_Way_init_9 f_Way_9 rfl rfl (Nat.le_of_ble_eq_true rfl) rfl (Nat.le_of_ble_eq_true rfl) rfl (fun _ _ => rfl) (fun _ _ => rfl) rfl rfl rfl ?_
  refine x_aload_n (pc := 12) d_Way_init_12 rfl ?_
  refine x_aload_n (pc := 13) d_Way_init_13 rfl ?_
  refine q_putF (pc := 14) (j := 0) (j0 := 0) (l' := [.inr (9, [.ref a, .ref (q.length + 1)]), .inl (false, 9, fun _ => 0)]) d_Way_init_14 f_Way_15 rfl rfl (Nat.le_of_ble_eq_true rfl) rfl (Nat.le_of_ble_eq_true rfl) rfl (fun _ _ => rfl) (fun _ _ => rfl) rfl rfl rfl ?_
  exact x_vret (pc := 17) d_Way_init_17 rfl ⟨Nat.le_of_ble_eq_true rfl, Nat.le_of_ble_eq_true rfl⟩ ⟨rfl, rfl⟩
set_option maxRecDepth 100000 in
set_option maxHeartbeats 4000000 in
theorem c_Row_init (q : zMem) (a : Nat) : Ctr Y_Row_init { frames := 1, cells := 2, slots := 40, locals := 40 } [.ref (q.length + 0), .ref a] (q ++ [.inr (10, [.null, .null, .null, .int 0])]) (fun r μ' => r = none ∧ μ' = q ++ [.inr (10, [.ref a, .ref (q.length + 1), .ref (q.length + 2), .int 0]), .inl (false, 20, fun _ => 0), .inl (false, 20, fun _ => 0)]) := by
  refine Ctr.of (lv := [.ref (q.length + 0), .ref a]) k_Row_init.1 rfl (by decide) rfl rfl (Nat.le_of_ble_eq_true rfl) ?_
  refine x_aload_n (pc := 0) d_Row_init_0 rfl ?_
  refine x_obj (pc := 1) d_Row_init_1 m_Row_3 (Nat.le_of_ble_eq_true rfl) (by simp) (Nat.le_of_ble_eq_true rfl) ?_
  refine x_aload_n (pc := 4) d_Row_init_4 rfl ?_
  refine x_bipush (pc := 5) (v := 20) d_Row_init_5 (by decide) ?_
  refine q_newa (pc := 7) (l' := [.inr (10, [.null, .null, .null, .int 0]), .inl (false, 20, fun _ => 0)]) d_Row_init_7 (by decide) (by decide) (by decide) (Nat.le_of_ble_eq_true rfl) (Nat.le_of_ble_eq_true rfl) rfl rfl ?_
  refine q_putF (pc := 9) (j := 1) (j0 := 0) (l' := [.inr (10, [.null, .ref (q.length + 1), .null, .int 0]), .inl (false, 20, fun _ => 0)]) d_Row_init_9 f_Row_9 rfl rfl (Nat.le_of_ble_eq_true rfl) rfl (Nat.le_of_ble_eq_true rfl) rfl (fun _ _ => rfl) (fun _ _ => rfl) rfl rfl rfl ?_
  refine x_aload_n (pc := 12) d_Row_init_12 rfl ?_
  refine x_bipush (pc := 13) (v := 20) d_Row_init_13 (by decide) ?_
  refine q_newa (pc := 15) (l' := [.inr (10, [.null, .ref (q.length + 1), .null, .int 0]), .inl (false, 20, fun _ => 0), .inl (false, 20, fun _ => 0)]) d_Row_init_15 (by decide) (by decide) (by decide) (Nat.le_of_ble_eq_true rfl) (Nat.le_of_ble_eq_true rfl) rfl rfl ?_
  refine q_putF (pc := 17) (j := 2) (j0 := 0) (l' := [.inr (10, [.null, .ref (q.length + 1), .ref (q.length + 2), .int 0]), .inl (false, 20, fun _ => 0), .inl (false, 20, fun _ => 0)]) d_Row_init_17 f_Row_15 rfl rfl (Nat.le_of_ble_eq_true rfl) rfl (Nat.le_of_ble_eq_true rfl) rfl (fun _ _ => rfl) (fun _ _ => rfl) rfl rfl rfl ?_
  refine x_aload_n (pc := 20) d_Row_init_20 rfl ?_
  refine x_iconst (pc := 21) (v := 0) d_Row_init_21 (by decide) ?_
  refine q_put (pc := 22) (j := 3) (j0 := 0) (l' := [.inr (10, [.null, .ref (q.length + 1), .ref (q.length + 2), .int 0]), .inl (false, 20, fun _ => 0), .inl (false, 20, fun _ => 0)]) d_Row_init_22 f_Row_18 rfl rfl (Nat.le_of_ble_eq_true rfl) rfl (Nat.le_of_ble_eq_true rfl) rfl (fun _ _ => rfl) (fun _ _ => rfl) rfl ?_
  refine x_aload_n (pc := 25) d_Row_init_25 rfl ?_
  refine x_aload_n (pc := 26) d_Row_init_26 rfl ?_
  refine q_putF (pc := 27) (j := 0) (j0 := 0) (l' := [.inr (10, [.ref a, .ref (q.length + 1), .ref (q.length + 2), .int 0]), .inl (false, 20, fun _ => 0), .inl (false, 20, fun _ => 0)]) d_Row_init_27 f_Row_22 rfl rfl (Nat.le_of_ble_eq_true rfl) rfl (Nat.le_of_ble_eq_true rfl) rfl (fun _ _ => rfl) (fun _ _ => rfl) rfl rfl rfl ?_
  exact x_vret (pc := 30) d_Row_init_30 rfl ⟨Nat.le_of_ble_eq_true rfl, Nat.le_of_ble_eq_true rfl⟩ ⟨rfl, rfl⟩
set_option maxRecDepth 100000 in
set_option maxHeartbeats 4000000 in
theorem c_Net_init (q : zMem) : Ctr Y_Net_init { frames := 1, cells := 4, slots := 108, locals := 40 } [.ref (q.length + 0)] (q ++ [.inr (1, [.null, .null, .null, .null, .int 0, .int 0, .int 0, .int 0, .int 0])]) (fun r μ' => r = none ∧ μ' = q ++ [.inr (1, [.ref (q.length + 1), .ref (q.length + 2), .ref (q.length + 3), .ref (q.length + 4), .int 1, .int 1, .int 1000, .int 0, .int 0]), .inl (false, 9, fun _ => 0), .inl (false, 81, zf (fun i f => upd f i 1000000000) (fun _ => 0) 81), .inl (false, 9, zf (fun i f => upd f i (-1)) (fun _ => 0) 9), .inl (false, 9, fun _ => 0)]) := by
  have h1 : ∀ k, k ≤ 9 → X Y_Net_init ({ frames := 1, cells := 4, slots := 108, locals := 40 } : Room) (0, fun _ => 0) (zFm (fun r μ' => r = none ∧ μ' = q ++ [.inr (1, [.ref (q.length + 1), .ref (q.length + 2), .ref (q.length + 3), .ref (q.length + 4), .int 1, .int 1, .int 1000, .int 0, .int 0]), .inl (false, 9, fun _ => 0), .inl (false, 81, zf (fun i f => upd f i 1000000000) (fun _ => 0) 81), .inl (false, 9, zf (fun i f => upd f i (-1)) (fun _ => 0) 9), .inl (false, 9, fun _ => 0)]) ({ frames := 1, cells := 4, slots := 108, locals := 40 } : Room)) 90 [.ref (q.length + 0), .int (nI k)] [] (q ++ [.inr (1, [.ref (q.length + 1), .ref (q.length + 2), .ref (q.length + 3), .ref (q.length + 4), .int 1, .int 1, .int 1000, .int 0, .int 0]), .inl (false, 9, fun _ => 0), .inl (false, 81, zf (fun i f => upd f i 1000000000) (fun _ => 0) 81), .inl (false, 9, zf (fun i f => upd f i (-1)) (fun _ => 0) k), .inl (false, 9, fun _ => 0)]) 4 108 := by
    refine z_down ?_ (fun k hk hs => ?_)
    · refine x_iload_n (pc := 90) d_Net_init_90 rfl ?_
      refine x_aload_n (pc := 91) d_Net_init_91 rfl ?_
      refine q_get (pc := 92) (j := 2) (j0 := 0) d_Net_init_92 f_Net_18 rfl rfl (Nat.le_of_ble_eq_true rfl) rfl rfl rfl ?_
      refine q_alen (pc := 95) (j0 := 3) d_Net_init_95 rfl rfl ?_
      refine x_icmp_ge (pc := 96) (tgt := 112) d_Net_init_96 (by decide) (fun _ => ?_) (fun h => absurd (nI_le (Nat.le_refl _) (by decide)) h)
      exact x_vret (pc := 112) d_Net_init_112 rfl ⟨Nat.le_of_ble_eq_true rfl, Nat.le_of_ble_eq_true rfl⟩ ⟨rfl, rfl⟩
    · refine x_iload_n (pc := 90) d_Net_init_90 rfl ?_
      refine x_aload_n (pc := 91) d_Net_init_91 rfl ?_
      refine q_get (pc := 92) (j := 2) (j0 := 0) d_Net_init_92 f_Net_18 rfl rfl (Nat.le_of_ble_eq_true rfl) rfl rfl rfl ?_
      refine q_alen (pc := 95) (j0 := 3) d_Net_init_95 rfl rfl ?_
      refine x_icmp_ge (pc := 96) (tgt := 112) d_Net_init_96 (by decide) (fun h => absurd h (nI_ge hk (by decide))) (fun _ => ?_)
      refine x_aload_n (pc := 99) d_Net_init_99 rfl ?_
      refine q_get (pc := 100) (j := 2) (j0 := 0) d_Net_init_100 f_Net_18 rfl rfl (Nat.le_of_ble_eq_true rfl) rfl rfl rfl ?_
      refine x_iload_n (pc := 103) d_Net_init_103 rfl ?_
      refine x_iconst (pc := 104) (v := (-1)) d_Net_init_104 (by decide) ?_
      refine q_iast (pc := 105) (j0 := 3) (l' := [.inr (1, [.ref (q.length + 1), .ref (q.length + 2), .ref (q.length + 3), .ref (q.length + 4), .int 1, .int 1, .int 1000, .int 0, .int 0]), .inl (false, 9, fun _ => 0), .inl (false, 81, zf (fun i f => upd f i 1000000000) (fun _ => 0) 81), .inl (false, 9, zf (fun i f => upd f i (-1)) (fun _ => 0) (k + 1)), .inl (false, 9, fun _ => 0)]) d_Net_init_105 rfl (by rw [nI_clamp (by omega)]; rfl) (vp_in_nI hk (by decide)) ?_
      refine y_inc1 (pc := 106) (v := 1) d_Net_init_106 (by decide) ?_
      refine x_goto (pc := 109) (tgt := 90) d_Net_init_109 (by decide) ?_
      rw [nI_succ k] at hs
      exact hs
  have h0 : ∀ k, k ≤ 81 → X Y_Net_init ({ frames := 1, cells := 4, slots := 108, locals := 40 } : Room) (0, fun _ => 0) (zFm (fun r μ' => r = none ∧ μ' = q ++ [.inr (1, [.ref (q.length + 1), .ref (q.length + 2), .ref (q.length + 3), .ref (q.length + 4), .int 1, .int 1, .int 1000, .int 0, .int 0]), .inl (false, 9, fun _ => 0), .inl (false, 81, zf (fun i f => upd f i 1000000000) (fun _ => 0) 81), .inl (false, 9, zf (fun i f => upd f i (-1)) (fun _ => 0) 9), .inl (false, 9, fun _ => 0)]) ({ frames := 1, cells := 4, slots := 108, locals := 40 } : Room)) 65 [.ref (q.length + 0), .int (nI k)] [] (q ++ [.inr (1, [.ref (q.length + 1), .ref (q.length + 2), .ref (q.length + 3), .ref (q.length + 4), .int 1, .int 1, .int 1000, .int 0, .int 0]), .inl (false, 9, fun _ => 0), .inl (false, 81, zf (fun i f => upd f i 1000000000) (fun _ => 0) k), .inl (false, 9, fun _ => 0), .inl (false, 9, fun _ => 0)]) 4 108 := by
    refine z_down ?_ (fun k hk hs => ?_)
    · refine x_iload_n (pc := 65) d_Net_init_65 rfl ?_
      refine x_aload_n (pc := 66) d_Net_init_66 rfl ?_
      refine q_get (pc := 67) (j := 1) (j0 := 0) d_Net_init_67 f_Net_15 rfl rfl (Nat.le_of_ble_eq_true rfl) rfl rfl rfl ?_
      refine q_alen (pc := 70) (j0 := 2) d_Net_init_70 rfl rfl ?_
      refine x_icmp_ge (pc := 71) (tgt := 88) d_Net_init_71 (by decide) (fun _ => ?_) (fun h => absurd (nI_le (Nat.le_refl _) (by decide)) h)
      refine x_iconst (pc := 88) (v := 0) d_Net_init_88 (by decide) ?_
      refine y_ist1 (pc := 89) d_Net_init_89 ?_
      exact h1 0 (Nat.zero_le _)
    · refine x_iload_n (pc := 65) d_Net_init_65 rfl ?_
      refine x_aload_n (pc := 66) d_Net_init_66 rfl ?_
      refine q_get (pc := 67) (j := 1) (j0 := 0) d_Net_init_67 f_Net_15 rfl rfl (Nat.le_of_ble_eq_true rfl) rfl rfl rfl ?_
      refine q_alen (pc := 70) (j0 := 2) d_Net_init_70 rfl rfl ?_
      refine x_icmp_ge (pc := 71) (tgt := 88) d_Net_init_71 (by decide) (fun h => absurd h (nI_ge hk (by decide))) (fun _ => ?_)
      refine x_aload_n (pc := 74) d_Net_init_74 rfl ?_
      refine q_get (pc := 75) (j := 1) (j0 := 0) d_Net_init_75 f_Net_15 rfl rfl (Nat.le_of_ble_eq_true rfl) rfl rfl rfl ?_
      refine x_iload_n (pc := 78) d_Net_init_78 rfl ?_
      refine x_ldc (pc := 79) (v := 1000000000) d_Net_init_79 i_Net_40 ?_
      refine q_iast (pc := 81) (j0 := 2) (l' := [.inr (1, [.ref (q.length + 1), .ref (q.length + 2), .ref (q.length + 3), .ref (q.length + 4), .int 1, .int 1, .int 1000, .int 0, .int 0]), .inl (false, 9, fun _ => 0), .inl (false, 81, zf (fun i f => upd f i 1000000000) (fun _ => 0) (k + 1)), .inl (false, 9, fun _ => 0), .inl (false, 9, fun _ => 0)]) d_Net_init_81 rfl (by rw [nI_clamp (by omega)]; rfl) (vp_in_nI hk (by decide)) ?_
      refine y_inc1 (pc := 82) (v := 1) d_Net_init_82 (by decide) ?_
      refine x_goto (pc := 85) (tgt := 65) d_Net_init_85 (by decide) ?_
      rw [nI_succ k] at hs
      exact hs
  refine Ctr.of (lv := [.ref (q.length + 0), zu]) k_Net_init.1 rfl (by decide) rfl rfl (Nat.le_of_ble_eq_true rfl) ?_
  refine x_aload_n (pc := 0) d_Net_init_0 rfl ?_
  refine x_obj (pc := 1) d_Net_init_1 m_Net_3 (Nat.le_of_ble_eq_true rfl) (by simp) (Nat.le_of_ble_eq_true rfl) ?_
  refine x_aload_n (pc := 4) d_Net_init_4 rfl ?_
  refine x_bipush (pc := 5) (v := 9) d_Net_init_5 (by decide) ?_
  refine q_newa (pc := 7) (l' := [.inr (1, [.null, .null, .null, .null, .int 0, .int 0, .int 0, .int 0, .int 0]), .inl (false, 9, fun _ => 0)]) d_Net_init_7 (by decide) (by decide) (by decide) (Nat.le_of_ble_eq_true rfl) (Nat.le_of_ble_eq_true rfl) rfl rfl ?_
  refine q_putF (pc := 9) (j := 0) (j0 := 0) (l' := [.inr (1, [.ref (q.length + 1), .null, .null, .null, .int 0, .int 0, .int 0, .int 0, .int 0]), .inl (false, 9, fun _ => 0)]) d_Net_init_9 f_Net_9 rfl rfl (Nat.le_of_ble_eq_true rfl) rfl (Nat.le_of_ble_eq_true rfl) rfl (fun _ _ => rfl) (fun _ _ => rfl) rfl rfl rfl ?_
  refine x_aload_n (pc := 12) d_Net_init_12 rfl ?_
  refine x_bipush (pc := 13) (v := 81) d_Net_init_13 (by decide) ?_
  refine q_newa (pc := 15) (l' := [.inr (1, [.ref (q.length + 1), .null, .null, .null, .int 0, .int 0, .int 0, .int 0, .int 0]), .inl (false, 9, fun _ => 0), .inl (false, 81, fun _ => 0)]) d_Net_init_15 (by decide) (by decide) (by decide) (Nat.le_of_ble_eq_true rfl) (Nat.le_of_ble_eq_true rfl) rfl rfl ?_
  refine q_putF (pc := 17) (j := 1) (j0 := 0) (l' := [.inr (1, [.ref (q.length + 1), .ref (q.length + 2), .null, .null, .int 0, .int 0, .int 0, .int 0, .int 0]), .inl (false, 9, fun _ => 0), .inl (false, 81, fun _ => 0)]) d_Net_init_17 f_Net_15 rfl rfl (Nat.le_of_ble_eq_true rfl) rfl (Nat.le_of_ble_eq_true rfl) rfl (fun _ _ => rfl) (fun _ _ => rfl) rfl rfl rfl ?_
  refine x_aload_n (pc := 20) d_Net_init_20 rfl ?_
  refine x_bipush (pc := 21) (v := 9) d_Net_init_21 (by decide) ?_
  refine q_newa (pc := 23) (l' := [.inr (1, [.ref (q.length + 1), .ref (q.length + 2), .null, .null, .int 0, .int 0, .int 0, .int 0, .int 0]), .inl (false, 9, fun _ => 0), .inl (false, 81, fun _ => 0), .inl (false, 9, fun _ => 0)]) d_Net_init_23 (by decide) (by decide) (by decide) (Nat.le_of_ble_eq_true rfl) (Nat.le_of_ble_eq_true rfl) rfl rfl ?_
  refine q_putF (pc := 25) (j := 2) (j0 := 0) (l' := [.inr (1, [.ref (q.length + 1), .ref (q.length + 2), .ref (q.length + 3), .null, .int 0, .int 0, .int 0, .int 0, .int 0]), .inl (false, 9, fun _ => 0), .inl (false, 81, fun _ => 0), .inl (false, 9, fun _ => 0)]) d_Net_init_25 f_Net_18 rfl rfl (Nat.le_of_ble_eq_true rfl) rfl (Nat.le_of_ble_eq_true rfl) rfl (fun _ _ => rfl) (fun _ _ => rfl) rfl rfl rfl ?_
  refine x_aload_n (pc := 28) d_Net_init_28 rfl ?_
  refine x_bipush (pc := 29) (v := 9) d_Net_init_29 (by decide) ?_
  refine q_newa (pc := 31) (l' := [.inr (1, [.ref (q.length + 1), .ref (q.length + 2), .ref (q.length + 3), .null, .int 0, .int 0, .int 0, .int 0, .int 0]), .inl (false, 9, fun _ => 0), .inl (false, 81, fun _ => 0), .inl (false, 9, fun _ => 0), .inl (false, 9, fun _ => 0)]) d_Net_init_31 (by decide) (by decide) (by decide) (Nat.le_of_ble_eq_true rfl) (Nat.le_of_ble_eq_true rfl) rfl rfl ?_
  refine q_putF (pc := 33) (j := 3) (j0 := 0) (l' := [.inr (1, [.ref (q.length + 1), .ref (q.length + 2), .ref (q.length + 3), .ref (q.length + 4), .int 0, .int 0, .int 0, .int 0, .int 0]), .inl (false, 9, fun _ => 0), .inl (false, 81, fun _ => 0), .inl (false, 9, fun _ => 0), .inl (false, 9, fun _ => 0)]) d_Net_init_33 f_Net_21 rfl rfl (Nat.le_of_ble_eq_true rfl) rfl (Nat.le_of_ble_eq_true rfl) rfl (fun _ _ => rfl) (fun _ _ => rfl) rfl rfl rfl ?_
  refine x_aload_n (pc := 36) d_Net_init_36 rfl ?_
  refine x_iconst (pc := 37) (v := 1) d_Net_init_37 (by decide) ?_
  refine q_put (pc := 38) (j := 4) (j0 := 0) (l' := [.inr (1, [.ref (q.length + 1), .ref (q.length + 2), .ref (q.length + 3), .ref (q.length + 4), .int 1, .int 0, .int 0, .int 0, .int 0]), .inl (false, 9, fun _ => 0), .inl (false, 81, fun _ => 0), .inl (false, 9, fun _ => 0), .inl (false, 9, fun _ => 0)]) d_Net_init_38 f_Net_24 rfl rfl (Nat.le_of_ble_eq_true rfl) rfl (Nat.le_of_ble_eq_true rfl) rfl (fun _ _ => rfl) (fun _ _ => rfl) rfl ?_
  refine x_aload_n (pc := 41) d_Net_init_41 rfl ?_
  refine x_iconst (pc := 42) (v := 1) d_Net_init_42 (by decide) ?_
  refine q_put (pc := 43) (j := 5) (j0 := 0) (l' := [.inr (1, [.ref (q.length + 1), .ref (q.length + 2), .ref (q.length + 3), .ref (q.length + 4), .int 1, .int 1, .int 0, .int 0, .int 0]), .inl (false, 9, fun _ => 0), .inl (false, 81, fun _ => 0), .inl (false, 9, fun _ => 0), .inl (false, 9, fun _ => 0)]) d_Net_init_43 f_Net_28 rfl rfl (Nat.le_of_ble_eq_true rfl) rfl (Nat.le_of_ble_eq_true rfl) rfl (fun _ _ => rfl) (fun _ _ => rfl) rfl ?_
  refine x_aload_n (pc := 46) d_Net_init_46 rfl ?_
  refine x_sipush (pc := 47) (v := 1000) d_Net_init_47 (by decide) ?_
  refine q_put (pc := 50) (j := 6) (j0 := 0) (l' := [.inr (1, [.ref (q.length + 1), .ref (q.length + 2), .ref (q.length + 3), .ref (q.length + 4), .int 1, .int 1, .int 1000, .int 0, .int 0]), .inl (false, 9, fun _ => 0), .inl (false, 81, fun _ => 0), .inl (false, 9, fun _ => 0), .inl (false, 9, fun _ => 0)]) d_Net_init_50 f_Net_31 rfl rfl (Nat.le_of_ble_eq_true rfl) rfl (Nat.le_of_ble_eq_true rfl) rfl (fun _ _ => rfl) (fun _ _ => rfl) rfl ?_
  refine x_aload_n (pc := 53) d_Net_init_53 rfl ?_
  refine x_iconst (pc := 54) (v := 0) d_Net_init_54 (by decide) ?_
  refine q_put (pc := 55) (j := 7) (j0 := 0) (l' := [.inr (1, [.ref (q.length + 1), .ref (q.length + 2), .ref (q.length + 3), .ref (q.length + 4), .int 1, .int 1, .int 1000, .int 0, .int 0]), .inl (false, 9, fun _ => 0), .inl (false, 81, fun _ => 0), .inl (false, 9, fun _ => 0), .inl (false, 9, fun _ => 0)]) d_Net_init_55 f_Net_34 rfl rfl (Nat.le_of_ble_eq_true rfl) rfl (Nat.le_of_ble_eq_true rfl) rfl (fun _ _ => rfl) (fun _ _ => rfl) rfl ?_
  refine x_aload_n (pc := 58) d_Net_init_58 rfl ?_
  refine x_iconst (pc := 59) (v := 0) d_Net_init_59 (by decide) ?_
  refine q_put (pc := 60) (j := 8) (j0 := 0) (l' := [.inr (1, [.ref (q.length + 1), .ref (q.length + 2), .ref (q.length + 3), .ref (q.length + 4), .int 1, .int 1, .int 1000, .int 0, .int 0]), .inl (false, 9, fun _ => 0), .inl (false, 81, fun _ => 0), .inl (false, 9, fun _ => 0), .inl (false, 9, fun _ => 0)]) d_Net_init_60 f_Net_37 rfl rfl (Nat.le_of_ble_eq_true rfl) rfl (Nat.le_of_ble_eq_true rfl) rfl (fun _ _ => rfl) (fun _ _ => rfl) rfl ?_
  refine x_iconst (pc := 63) (v := 0) d_Net_init_63 (by decide) ?_
  refine y_ist1 (pc := 64) d_Net_init_64 ?_
  exact h0 0 (Nat.zero_le _)
set_option maxRecDepth 100000 in
set_option maxHeartbeats 4000000 in
theorem c_Cir_init (q : zMem) (a : Nat) : Ctr Y_Cir_init { frames := 1, cells := 2, slots := 18, locals := 40 } [.ref (q.length + 0), .ref a] (q ++ [.inr (8, [.null, .null, .null])]) (fun r μ' => r = none ∧ μ' = q ++ [.inr (8, [.ref a, .ref (q.length + 1), .ref (q.length + 2)]), .inl (false, 9, zf (fun i f => upd f i (-1)) (fun _ => 0) 9), .inl (false, 9, fun _ => 0)]) := by
  have h0 : ∀ k, k ≤ 9 → X Y_Cir_init ({ frames := 1, cells := 2, slots := 18, locals := 40 } : Room) (0, fun _ => 0) (zFm (fun r μ' => r = none ∧ μ' = q ++ [.inr (8, [.ref a, .ref (q.length + 1), .ref (q.length + 2)]), .inl (false, 9, zf (fun i f => upd f i (-1)) (fun _ => 0) 9), .inl (false, 9, fun _ => 0)]) ({ frames := 1, cells := 2, slots := 18, locals := 40 } : Room)) 27 [.ref (q.length + 0), .ref a, .int (nI k)] [] (q ++ [.inr (8, [.ref a, .ref (q.length + 1), .ref (q.length + 2)]), .inl (false, 9, zf (fun i f => upd f i (-1)) (fun _ => 0) k), .inl (false, 9, fun _ => 0)]) 2 18 := by
    refine z_down ?_ (fun k hk hs => ?_)
    · refine x_iload_n (pc := 27) d_Cir_init_27 rfl ?_
      refine x_bipush (pc := 28) (v := 9) d_Cir_init_28 (by decide) ?_
      refine x_icmp_ge (pc := 30) (tgt := 46) d_Cir_init_30 (by decide) (fun _ => ?_) (fun h => absurd (nI_le (Nat.le_refl _) (by decide)) h)
      exact x_vret (pc := 46) d_Cir_init_46 rfl ⟨Nat.le_of_ble_eq_true rfl, Nat.le_of_ble_eq_true rfl⟩ ⟨rfl, rfl⟩
    · refine x_iload_n (pc := 27) d_Cir_init_27 rfl ?_
      refine x_bipush (pc := 28) (v := 9) d_Cir_init_28 (by decide) ?_
      refine x_icmp_ge (pc := 30) (tgt := 46) d_Cir_init_30 (by decide) (fun h => absurd h (nI_ge hk (by decide))) (fun _ => ?_)
      refine x_aload_n (pc := 33) d_Cir_init_33 rfl ?_
      refine q_get (pc := 34) (j := 1) (j0 := 0) d_Cir_init_34 f_Cir_9 rfl rfl (Nat.le_of_ble_eq_true rfl) rfl rfl rfl ?_
      refine x_iload_n (pc := 37) d_Cir_init_37 rfl ?_
      refine x_iconst (pc := 38) (v := (-1)) d_Cir_init_38 (by decide) ?_
      refine q_iast (pc := 39) (j0 := 1) (l' := [.inr (8, [.ref a, .ref (q.length + 1), .ref (q.length + 2)]), .inl (false, 9, zf (fun i f => upd f i (-1)) (fun _ => 0) (k + 1)), .inl (false, 9, fun _ => 0)]) d_Cir_init_39 rfl (by rw [nI_clamp (by omega)]; rfl) (vp_in_nI hk (by decide)) ?_
      refine y_inc2 (pc := 40) (v := 1) d_Cir_init_40 (by decide) ?_
      refine x_goto (pc := 43) (tgt := 27) d_Cir_init_43 (by decide) ?_
      rw [nI_succ k] at hs
      exact hs
  refine Ctr.of (lv := [.ref (q.length + 0), .ref a, zu]) k_Cir_init.1 rfl (by decide) rfl rfl (Nat.le_of_ble_eq_true rfl) ?_
  refine x_aload_n (pc := 0) d_Cir_init_0 rfl ?_
  refine x_obj (pc := 1) d_Cir_init_1 m_Cir_3 (Nat.le_of_ble_eq_true rfl) (by simp) (Nat.le_of_ble_eq_true rfl) ?_
  refine x_aload_n (pc := 4) d_Cir_init_4 rfl ?_
  refine x_bipush (pc := 5) (v := 9) d_Cir_init_5 (by decide) ?_
  refine q_newa (pc := 7) (l' := [.inr (8, [.null, .null, .null]), .inl (false, 9, fun _ => 0)]) d_Cir_init_7 (by decide) (by decide) (by decide) (Nat.le_of_ble_eq_true rfl) (Nat.le_of_ble_eq_true rfl) rfl rfl ?_
  refine q_putF (pc := 9) (j := 1) (j0 := 0) (l' := [.inr (8, [.null, .ref (q.length + 1), .null]), .inl (false, 9, fun _ => 0)]) d_Cir_init_9 f_Cir_9 rfl rfl (Nat.le_of_ble_eq_true rfl) rfl (Nat.le_of_ble_eq_true rfl) rfl (fun _ _ => rfl) (fun _ _ => rfl) rfl rfl rfl ?_
  refine x_aload_n (pc := 12) d_Cir_init_12 rfl ?_
  refine x_bipush (pc := 13) (v := 9) d_Cir_init_13 (by decide) ?_
  refine q_newa (pc := 15) (l' := [.inr (8, [.null, .ref (q.length + 1), .null]), .inl (false, 9, fun _ => 0), .inl (false, 9, fun _ => 0)]) d_Cir_init_15 (by decide) (by decide) (by decide) (Nat.le_of_ble_eq_true rfl) (Nat.le_of_ble_eq_true rfl) rfl rfl ?_
  refine q_putF (pc := 17) (j := 2) (j0 := 0) (l' := [.inr (8, [.null, .ref (q.length + 1), .ref (q.length + 2)]), .inl (false, 9, fun _ => 0), .inl (false, 9, fun _ => 0)]) d_Cir_init_17 f_Cir_15 rfl rfl (Nat.le_of_ble_eq_true rfl) rfl (Nat.le_of_ble_eq_true rfl) rfl (fun _ _ => rfl) (fun _ _ => rfl) rfl rfl rfl ?_
  refine x_aload_n (pc := 20) d_Cir_init_20 rfl ?_
  refine x_aload_n (pc := 21) d_Cir_init_21 rfl ?_
  refine q_putF (pc := 22) (j := 0) (j0 := 0) (l' := [.inr (8, [.ref a, .ref (q.length + 1), .ref (q.length + 2)]), .inl (false, 9, fun _ => 0), .inl (false, 9, fun _ => 0)]) d_Cir_init_22 f_Cir_18 rfl rfl (Nat.le_of_ble_eq_true rfl) rfl (Nat.le_of_ble_eq_true rfl) rfl (fun _ _ => rfl) (fun _ _ => rfl) rfl rfl rfl ?_
  refine x_iconst (pc := 25) (v := 0) d_Cir_init_25 (by decide) ?_
  refine y_ist2 (pc := 26) d_Cir_init_26 ?_
  exact h0 0 (Nat.zero_le _)
set_option maxRecDepth 100000 in
set_option maxHeartbeats 4000000 in
theorem c_Mo_init (q : zMem) : Ctr Y_Mo_init { frames := 1, cells := 15, slots := 890, locals := 40 } [.ref (q.length + 0)] (q ++ [.inr (11, [.int 0, .int 0, .null, .null, .null, .null, .int 0, .int 0, .int 0, .null, .null, .null, .int 0, .int 0, .int 0, .int 0, .null, .null, .null, .int 0, .null, .int 0, .int 0, .int 0, .int 0, .int 0, .null, .null, .int 0, .null, .null])]) (fun r μ' => r = none ∧ μ' = q ++ [.inr (11, [.int 0, .int 1, .ref (q.length + 1), .ref (q.length + 2), .ref (q.length + 3), .ref (q.length + 4), .int 1, .int 1000, .int 0, .ref (q.length + 5), .ref (q.length + 6), .ref (q.length + 7), .int 0, .int 0, .int 0, .int 0, .ref (q.length + 8), .ref (q.length + 9), .ref (q.length + 10), .int 0, .ref (q.length + 11), .int 0, .int 0, .int 0, .int 0, .int 0, .ref (q.length + 12), .ref (q.length + 13), .int 0, .ref (q.length + 14), .ref (q.length + 15)]), .inl (false, 9, fun _ => 0), .inl (false, 81, zf (fun i f => upd f i 1000000) (fun _ => 0) 81), .inl (false, 9, zf (fun i f => upd f i (-1)) (fun _ => 0) 9), .inl (true, 81, fun _ => 0), .inl (false, 9, fun _ => 0), .inl (false, 9, zf (fun i f => upd f i (-1)) (fun _ => 0) 9), .inl (false, 21, fun _ => 0), .inl (false, 81, fun _ => 0), .inl (false, 9, fun _ => 0), .inl (false, 20, fun _ => 0), .inl (false, 20, fun _ => 0), .inl (false, 10, fun _ => 0), .inl (false, 10, fun _ => 0), .inl (false, 9, fun _ => 0), .inl (false, 512, fun _ => 0)]) := by
  have h1 : ∀ k, k ≤ 9 → X Y_Mo_init ({ frames := 1, cells := 15, slots := 890, locals := 40 } : Room) (0, fun _ => 0) (zFm (fun r μ' => r = none ∧ μ' = q ++ [.inr (11, [.int 0, .int 1, .ref (q.length + 1), .ref (q.length + 2), .ref (q.length + 3), .ref (q.length + 4), .int 1, .int 1000, .int 0, .ref (q.length + 5), .ref (q.length + 6), .ref (q.length + 7), .int 0, .int 0, .int 0, .int 0, .ref (q.length + 8), .ref (q.length + 9), .ref (q.length + 10), .int 0, .ref (q.length + 11), .int 0, .int 0, .int 0, .int 0, .int 0, .ref (q.length + 12), .ref (q.length + 13), .int 0, .ref (q.length + 14), .ref (q.length + 15)]), .inl (false, 9, fun _ => 0), .inl (false, 81, zf (fun i f => upd f i 1000000) (fun _ => 0) 81), .inl (false, 9, zf (fun i f => upd f i (-1)) (fun _ => 0) 9), .inl (true, 81, fun _ => 0), .inl (false, 9, fun _ => 0), .inl (false, 9, zf (fun i f => upd f i (-1)) (fun _ => 0) 9), .inl (false, 21, fun _ => 0), .inl (false, 81, fun _ => 0), .inl (false, 9, fun _ => 0), .inl (false, 20, fun _ => 0), .inl (false, 20, fun _ => 0), .inl (false, 10, fun _ => 0), .inl (false, 10, fun _ => 0), .inl (false, 9, fun _ => 0), .inl (false, 512, fun _ => 0)]) ({ frames := 1, cells := 15, slots := 890, locals := 40 } : Room)) 171 [.ref (q.length + 0), .int (nI k)] [] (q ++ [.inr (11, [.int 0, .int 1, .ref (q.length + 1), .ref (q.length + 2), .ref (q.length + 3), .ref (q.length + 4), .int 1, .int 1000, .int 0, .ref (q.length + 5), .ref (q.length + 6), .ref (q.length + 7), .int 0, .int 0, .int 0, .int 0, .ref (q.length + 8), .ref (q.length + 9), .ref (q.length + 10), .int 0, .ref (q.length + 11), .int 0, .int 0, .int 0, .int 0, .int 0, .ref (q.length + 12), .ref (q.length + 13), .int 0, .ref (q.length + 14), .ref (q.length + 15)]), .inl (false, 9, fun _ => 0), .inl (false, 81, zf (fun i f => upd f i 1000000) (fun _ => 0) 81), .inl (false, 9, zf (fun i f => upd f i (-1)) (fun _ => 0) k), .inl (true, 81, fun _ => 0), .inl (false, 9, fun _ => 0), .inl (false, 9, zf (fun i f => upd f i (-1)) (fun _ => 0) k), .inl (false, 21, fun _ => 0), .inl (false, 81, fun _ => 0), .inl (false, 9, fun _ => 0), .inl (false, 20, fun _ => 0), .inl (false, 20, fun _ => 0), .inl (false, 10, fun _ => 0), .inl (false, 10, fun _ => 0), .inl (false, 9, fun _ => 0), .inl (false, 512, fun _ => 0)]) 15 890 := by
    refine z_down ?_ (fun k hk hs => ?_)
    · refine x_iload_n (pc := 171) d_Mo_init_171 rfl ?_
      refine x_bipush (pc := 172) (v := 9) d_Mo_init_172 (by decide) ?_
      refine x_icmp_ge (pc := 174) (tgt := 197) d_Mo_init_174 (by decide) (fun _ => ?_) (fun h => absurd (nI_le (Nat.le_refl _) (by decide)) h)
      exact x_vret (pc := 197) d_Mo_init_197 rfl ⟨Nat.le_of_ble_eq_true rfl, Nat.le_of_ble_eq_true rfl⟩ ⟨rfl, rfl⟩
    · refine x_iload_n (pc := 171) d_Mo_init_171 rfl ?_
      refine x_bipush (pc := 172) (v := 9) d_Mo_init_172 (by decide) ?_
      refine x_icmp_ge (pc := 174) (tgt := 197) d_Mo_init_174 (by decide) (fun h => absurd h (nI_ge hk (by decide))) (fun _ => ?_)
      refine x_aload_n (pc := 177) d_Mo_init_177 rfl ?_
      refine q_get (pc := 178) (j := 4) (j0 := 0) d_Mo_init_178 f_Mo_23 rfl rfl (Nat.le_of_ble_eq_true rfl) rfl rfl rfl ?_
      refine x_iload_n (pc := 181) d_Mo_init_181 rfl ?_
      refine x_iconst (pc := 182) (v := (-1)) d_Mo_init_182 (by decide) ?_
      refine q_iast (pc := 183) (j0 := 3) (l' := [.inr (11, [.int 0, .int 1, .ref (q.length + 1), .ref (q.length + 2), .ref (q.length + 3), .ref (q.length + 4), .int 1, .int 1000, .int 0, .ref (q.length + 5), .ref (q.length + 6), .ref (q.length + 7), .int 0, .int 0, .int 0, .int 0, .ref (q.length + 8), .ref (q.length + 9), .ref (q.length + 10), .int 0, .ref (q.length + 11), .int 0, .int 0, .int 0, .int 0, .int 0, .ref (q.length + 12), .ref (q.length + 13), .int 0, .ref (q.length + 14), .ref (q.length + 15)]), .inl (false, 9, fun _ => 0), .inl (false, 81, zf (fun i f => upd f i 1000000) (fun _ => 0) 81), .inl (false, 9, zf (fun i f => upd f i (-1)) (fun _ => 0) (k + 1)), .inl (true, 81, fun _ => 0), .inl (false, 9, fun _ => 0), .inl (false, 9, zf (fun i f => upd f i (-1)) (fun _ => 0) k), .inl (false, 21, fun _ => 0), .inl (false, 81, fun _ => 0), .inl (false, 9, fun _ => 0), .inl (false, 20, fun _ => 0), .inl (false, 20, fun _ => 0), .inl (false, 10, fun _ => 0), .inl (false, 10, fun _ => 0), .inl (false, 9, fun _ => 0), .inl (false, 512, fun _ => 0)]) d_Mo_init_183 rfl (by rw [nI_clamp (by omega)]; rfl) (vp_in_nI hk (by decide)) ?_
      refine x_aload_n (pc := 184) d_Mo_init_184 rfl ?_
      refine q_get (pc := 185) (j := 10) (j0 := 0) d_Mo_init_185 f_Mo_39 rfl rfl (Nat.le_of_ble_eq_true rfl) rfl rfl rfl ?_
      refine x_iload_n (pc := 188) d_Mo_init_188 rfl ?_
      refine x_iconst (pc := 189) (v := (-1)) d_Mo_init_189 (by decide) ?_
      refine q_iast (pc := 190) (j0 := 6) (l' := [.inr (11, [.int 0, .int 1, .ref (q.length + 1), .ref (q.length + 2), .ref (q.length + 3), .ref (q.length + 4), .int 1, .int 1000, .int 0, .ref (q.length + 5), .ref (q.length + 6), .ref (q.length + 7), .int 0, .int 0, .int 0, .int 0, .ref (q.length + 8), .ref (q.length + 9), .ref (q.length + 10), .int 0, .ref (q.length + 11), .int 0, .int 0, .int 0, .int 0, .int 0, .ref (q.length + 12), .ref (q.length + 13), .int 0, .ref (q.length + 14), .ref (q.length + 15)]), .inl (false, 9, fun _ => 0), .inl (false, 81, zf (fun i f => upd f i 1000000) (fun _ => 0) 81), .inl (false, 9, zf (fun i f => upd f i (-1)) (fun _ => 0) (k + 1)), .inl (true, 81, fun _ => 0), .inl (false, 9, fun _ => 0), .inl (false, 9, zf (fun i f => upd f i (-1)) (fun _ => 0) (k + 1)), .inl (false, 21, fun _ => 0), .inl (false, 81, fun _ => 0), .inl (false, 9, fun _ => 0), .inl (false, 20, fun _ => 0), .inl (false, 20, fun _ => 0), .inl (false, 10, fun _ => 0), .inl (false, 10, fun _ => 0), .inl (false, 9, fun _ => 0), .inl (false, 512, fun _ => 0)]) d_Mo_init_190 rfl (by rw [nI_clamp (by omega)]; rfl) (vp_in_nI hk (by decide)) ?_
      refine y_inc1 (pc := 191) (v := 1) d_Mo_init_191 (by decide) ?_
      refine x_goto (pc := 194) (tgt := 171) d_Mo_init_194 (by decide) ?_
      rw [nI_succ k] at hs
      exact hs
  have h0 : ∀ k, k ≤ 81 → X Y_Mo_init ({ frames := 1, cells := 15, slots := 890, locals := 40 } : Room) (0, fun _ => 0) (zFm (fun r μ' => r = none ∧ μ' = q ++ [.inr (11, [.int 0, .int 1, .ref (q.length + 1), .ref (q.length + 2), .ref (q.length + 3), .ref (q.length + 4), .int 1, .int 1000, .int 0, .ref (q.length + 5), .ref (q.length + 6), .ref (q.length + 7), .int 0, .int 0, .int 0, .int 0, .ref (q.length + 8), .ref (q.length + 9), .ref (q.length + 10), .int 0, .ref (q.length + 11), .int 0, .int 0, .int 0, .int 0, .int 0, .ref (q.length + 12), .ref (q.length + 13), .int 0, .ref (q.length + 14), .ref (q.length + 15)]), .inl (false, 9, fun _ => 0), .inl (false, 81, zf (fun i f => upd f i 1000000) (fun _ => 0) 81), .inl (false, 9, zf (fun i f => upd f i (-1)) (fun _ => 0) 9), .inl (true, 81, fun _ => 0), .inl (false, 9, fun _ => 0), .inl (false, 9, zf (fun i f => upd f i (-1)) (fun _ => 0) 9), .inl (false, 21, fun _ => 0), .inl (false, 81, fun _ => 0), .inl (false, 9, fun _ => 0), .inl (false, 20, fun _ => 0), .inl (false, 20, fun _ => 0), .inl (false, 10, fun _ => 0), .inl (false, 10, fun _ => 0), .inl (false, 9, fun _ => 0), .inl (false, 512, fun _ => 0)]) ({ frames := 1, cells := 15, slots := 890, locals := 40 } : Room)) 149 [.ref (q.length + 0), .int (nI k)] [] (q ++ [.inr (11, [.int 0, .int 1, .ref (q.length + 1), .ref (q.length + 2), .ref (q.length + 3), .ref (q.length + 4), .int 1, .int 1000, .int 0, .ref (q.length + 5), .ref (q.length + 6), .ref (q.length + 7), .int 0, .int 0, .int 0, .int 0, .ref (q.length + 8), .ref (q.length + 9), .ref (q.length + 10), .int 0, .ref (q.length + 11), .int 0, .int 0, .int 0, .int 0, .int 0, .ref (q.length + 12), .ref (q.length + 13), .int 0, .ref (q.length + 14), .ref (q.length + 15)]), .inl (false, 9, fun _ => 0), .inl (false, 81, zf (fun i f => upd f i 1000000) (fun _ => 0) k), .inl (false, 9, fun _ => 0), .inl (true, 81, fun _ => 0), .inl (false, 9, fun _ => 0), .inl (false, 9, fun _ => 0), .inl (false, 21, fun _ => 0), .inl (false, 81, fun _ => 0), .inl (false, 9, fun _ => 0), .inl (false, 20, fun _ => 0), .inl (false, 20, fun _ => 0), .inl (false, 10, fun _ => 0), .inl (false, 10, fun _ => 0), .inl (false, 9, fun _ => 0), .inl (false, 512, fun _ => 0)]) 15 890 := by
    refine z_down ?_ (fun k hk hs => ?_)
    · refine x_iload_n (pc := 149) d_Mo_init_149 rfl ?_
      refine x_bipush (pc := 150) (v := 81) d_Mo_init_150 (by decide) ?_
      refine x_icmp_ge (pc := 152) (tgt := 169) d_Mo_init_152 (by decide) (fun _ => ?_) (fun h => absurd (nI_le (Nat.le_refl _) (by decide)) h)
      refine x_iconst (pc := 169) (v := 0) d_Mo_init_169 (by decide) ?_
      refine y_ist1 (pc := 170) d_Mo_init_170 ?_
      exact h1 0 (Nat.zero_le _)
    · refine x_iload_n (pc := 149) d_Mo_init_149 rfl ?_
      refine x_bipush (pc := 150) (v := 81) d_Mo_init_150 (by decide) ?_
      refine x_icmp_ge (pc := 152) (tgt := 169) d_Mo_init_152 (by decide) (fun h => absurd h (nI_ge hk (by decide))) (fun _ => ?_)
      refine x_aload_n (pc := 155) d_Mo_init_155 rfl ?_
      refine q_get (pc := 156) (j := 3) (j0 := 0) d_Mo_init_156 f_Mo_20 rfl rfl (Nat.le_of_ble_eq_true rfl) rfl rfl rfl ?_
      refine x_iload_n (pc := 159) d_Mo_init_159 rfl ?_
      refine x_ldc (pc := 160) (v := 1000000) d_Mo_init_160 i_Mo_69 ?_
      refine q_iast (pc := 162) (j0 := 2) (l' := [.inr (11, [.int 0, .int 1, .ref (q.length + 1), .ref (q.length + 2), .ref (q.length + 3), .ref (q.length + 4), .int 1, .int 1000, .int 0, .ref (q.length + 5), .ref (q.length + 6), .ref (q.length + 7), .int 0, .int 0, .int 0, .int 0, .ref (q.length + 8), .ref (q.length + 9), .ref (q.length + 10), .int 0, .ref (q.length + 11), .int 0, .int 0, .int 0, .int 0, .int 0, .ref (q.length + 12), .ref (q.length + 13), .int 0, .ref (q.length + 14), .ref (q.length + 15)]), .inl (false, 9, fun _ => 0), .inl (false, 81, zf (fun i f => upd f i 1000000) (fun _ => 0) (k + 1)), .inl (false, 9, fun _ => 0), .inl (true, 81, fun _ => 0), .inl (false, 9, fun _ => 0), .inl (false, 9, fun _ => 0), .inl (false, 21, fun _ => 0), .inl (false, 81, fun _ => 0), .inl (false, 9, fun _ => 0), .inl (false, 20, fun _ => 0), .inl (false, 20, fun _ => 0), .inl (false, 10, fun _ => 0), .inl (false, 10, fun _ => 0), .inl (false, 9, fun _ => 0), .inl (false, 512, fun _ => 0)]) d_Mo_init_162 rfl (by rw [nI_clamp (by omega)]; rfl) (vp_in_nI hk (by decide)) ?_
      refine y_inc1 (pc := 163) (v := 1) d_Mo_init_163 (by decide) ?_
      refine x_goto (pc := 166) (tgt := 149) d_Mo_init_166 (by decide) ?_
      rw [nI_succ k] at hs
      exact hs
  refine Ctr.of (lv := [.ref (q.length + 0), zu]) k_Mo_init.1 rfl (by decide) rfl rfl (Nat.le_of_ble_eq_true rfl) ?_
  refine x_aload_n (pc := 0) d_Mo_init_0 rfl ?_
  refine x_obj (pc := 1) d_Mo_init_1 m_Mo_7 (Nat.le_of_ble_eq_true rfl) (by simp) (Nat.le_of_ble_eq_true rfl) ?_
  refine x_aload_n (pc := 4) d_Mo_init_4 rfl ?_
  refine x_iconst (pc := 5) (v := 1) d_Mo_init_5 (by decide) ?_
  refine q_put (pc := 6) (j := 1) (j0 := 0) (l' := [.inr (11, [.int 0, .int 1, .null, .null, .null, .null, .int 0, .int 0, .int 0, .null, .null, .null, .int 0, .int 0, .int 0, .int 0, .null, .null, .null, .int 0, .null, .int 0, .int 0, .int 0, .int 0, .int 0, .null, .null, .int 0, .null, .null])]) d_Mo_init_6 f_Mo_13 rfl rfl (Nat.le_of_ble_eq_true rfl) rfl (Nat.le_of_ble_eq_true rfl) rfl (fun _ _ => rfl) (fun _ _ => rfl) rfl ?_
  refine x_aload_n (pc := 9) d_Mo_init_9 rfl ?_
  refine x_bipush (pc := 10) (v := 9) d_Mo_init_10 (by decide) ?_
  refine q_newa (pc := 12) (l' := [.inr (11, [.int 0, .int 1, .null, .null, .null, .null, .int 0, .int 0, .int 0, .null, .null, .null, .int 0, .int 0, .int 0, .int 0, .null, .null, .null, .int 0, .null, .int 0, .int 0, .int 0, .int 0, .int 0, .null, .null, .int 0, .null, .null]), .inl (false, 9, fun _ => 0)]) d_Mo_init_12 (by decide) (by decide) (by decide) (Nat.le_of_ble_eq_true rfl) (Nat.le_of_ble_eq_true rfl) rfl rfl ?_
  refine q_putF (pc := 14) (j := 2) (j0 := 0) (l' := [.inr (11, [.int 0, .int 1, .ref (q.length + 1), .null, .null, .null, .int 0, .int 0, .int 0, .null, .null, .null, .int 0, .int 0, .int 0, .int 0, .null, .null, .null, .int 0, .null, .int 0, .int 0, .int 0, .int 0, .int 0, .null, .null, .int 0, .null, .null]), .inl (false, 9, fun _ => 0)]) d_Mo_init_14 f_Mo_16 rfl rfl (Nat.le_of_ble_eq_true rfl) rfl (Nat.le_of_ble_eq_true rfl) rfl (fun _ _ => rfl) (fun _ _ => rfl) rfl rfl rfl ?_
  refine x_aload_n (pc := 17) d_Mo_init_17 rfl ?_
  refine x_bipush (pc := 18) (v := 81) d_Mo_init_18 (by decide) ?_
  refine q_newa (pc := 20) (l' := [.inr (11, [.int 0, .int 1, .ref (q.length + 1), .null, .null, .null, .int 0, .int 0, .int 0, .null, .null, .null, .int 0, .int 0, .int 0, .int 0, .null, .null, .null, .int 0, .null, .int 0, .int 0, .int 0, .int 0, .int 0, .null, .null, .int 0, .null, .null]), .inl (false, 9, fun _ => 0), .inl (false, 81, fun _ => 0)]) d_Mo_init_20 (by decide) (by decide) (by decide) (Nat.le_of_ble_eq_true rfl) (Nat.le_of_ble_eq_true rfl) rfl rfl ?_
  refine q_putF (pc := 22) (j := 3) (j0 := 0) (l' := [.inr (11, [.int 0, .int 1, .ref (q.length + 1), .ref (q.length + 2), .null, .null, .int 0, .int 0, .int 0, .null, .null, .null, .int 0, .int 0, .int 0, .int 0, .null, .null, .null, .int 0, .null, .int 0, .int 0, .int 0, .int 0, .int 0, .null, .null, .int 0, .null, .null]), .inl (false, 9, fun _ => 0), .inl (false, 81, fun _ => 0)]) d_Mo_init_22 f_Mo_20 rfl rfl (Nat.le_of_ble_eq_true rfl) rfl (Nat.le_of_ble_eq_true rfl) rfl (fun _ _ => rfl) (fun _ _ => rfl) rfl rfl rfl ?_
  refine x_aload_n (pc := 25) d_Mo_init_25 rfl ?_
  refine x_bipush (pc := 26) (v := 9) d_Mo_init_26 (by decide) ?_
  refine q_newa (pc := 28) (l' := [.inr (11, [.int 0, .int 1, .ref (q.length + 1), .ref (q.length + 2), .null, .null, .int 0, .int 0, .int 0, .null, .null, .null, .int 0, .int 0, .int 0, .int 0, .null, .null, .null, .int 0, .null, .int 0, .int 0, .int 0, .int 0, .int 0, .null, .null, .int 0, .null, .null]), .inl (false, 9, fun _ => 0), .inl (false, 81, fun _ => 0), .inl (false, 9, fun _ => 0)]) d_Mo_init_28 (by decide) (by decide) (by decide) (Nat.le_of_ble_eq_true rfl) (Nat.le_of_ble_eq_true rfl) rfl rfl ?_
  refine q_putF (pc := 30) (j := 4) (j0 := 0) (l' := [.inr (11, [.int 0, .int 1, .ref (q.length + 1), .ref (q.length + 2), .ref (q.length + 3), .null, .int 0, .int 0, .int 0, .null, .null, .null, .int 0, .int 0, .int 0, .int 0, .null, .null, .null, .int 0, .null, .int 0, .int 0, .int 0, .int 0, .int 0, .null, .null, .int 0, .null, .null]), .inl (false, 9, fun _ => 0), .inl (false, 81, fun _ => 0), .inl (false, 9, fun _ => 0)]) d_Mo_init_30 f_Mo_23 rfl rfl (Nat.le_of_ble_eq_true rfl) rfl (Nat.le_of_ble_eq_true rfl) rfl (fun _ _ => rfl) (fun _ _ => rfl) rfl rfl rfl ?_
  refine x_aload_n (pc := 33) d_Mo_init_33 rfl ?_
  refine x_bipush (pc := 34) (v := 81) d_Mo_init_34 (by decide) ?_
  refine q_newz (pc := 36) (l' := [.inr (11, [.int 0, .int 1, .ref (q.length + 1), .ref (q.length + 2), .ref (q.length + 3), .null, .int 0, .int 0, .int 0, .null, .null, .null, .int 0, .int 0, .int 0, .int 0, .null, .null, .null, .int 0, .null, .int 0, .int 0, .int 0, .int 0, .int 0, .null, .null, .int 0, .null, .null]), .inl (false, 9, fun _ => 0), .inl (false, 81, fun _ => 0), .inl (false, 9, fun _ => 0), .inl (true, 81, fun _ => 0)]) d_Mo_init_36 (by decide) (by decide) (by decide) (Nat.le_of_ble_eq_true rfl) (Nat.le_of_ble_eq_true rfl) rfl rfl ?_
  refine q_putF (pc := 38) (j := 5) (j0 := 0) (l' := [.inr (11, [.int 0, .int 1, .ref (q.length + 1), .ref (q.length + 2), .ref (q.length + 3), .ref (q.length + 4), .int 0, .int 0, .int 0, .null, .null, .null, .int 0, .int 0, .int 0, .int 0, .null, .null, .null, .int 0, .null, .int 0, .int 0, .int 0, .int 0, .int 0, .null, .null, .int 0, .null, .null]), .inl (false, 9, fun _ => 0), .inl (false, 81, fun _ => 0), .inl (false, 9, fun _ => 0), .inl (true, 81, fun _ => 0)]) d_Mo_init_38 f_Mo_26 rfl rfl (Nat.le_of_ble_eq_true rfl) rfl (Nat.le_of_ble_eq_true rfl) rfl (fun _ _ => rfl) (fun _ _ => rfl) rfl rfl rfl ?_
  refine x_aload_n (pc := 41) d_Mo_init_41 rfl ?_
  refine x_iconst (pc := 42) (v := 1) d_Mo_init_42 (by decide) ?_
  refine q_put (pc := 43) (j := 6) (j0 := 0) (l' := [.inr (11, [.int 0, .int 1, .ref (q.length + 1), .ref (q.length + 2), .ref (q.length + 3), .ref (q.length + 4), .int 1, .int 0, .int 0, .null, .null, .null, .int 0, .int 0, .int 0, .int 0, .null, .null, .null, .int 0, .null, .int 0, .int 0, .int 0, .int 0, .int 0, .null, .null, .int 0, .null, .null]), .inl (false, 9, fun _ => 0), .inl (false, 81, fun _ => 0), .inl (false, 9, fun _ => 0), .inl (true, 81, fun _ => 0)]) d_Mo_init_43 f_Mo_30 rfl rfl (Nat.le_of_ble_eq_true rfl) rfl (Nat.le_of_ble_eq_true rfl) rfl (fun _ _ => rfl) (fun _ _ => rfl) rfl ?_
  refine x_aload_n (pc := 46) d_Mo_init_46 rfl ?_
  refine x_sipush (pc := 47) (v := 1000) d_Mo_init_47 (by decide) ?_
  refine q_put (pc := 50) (j := 7) (j0 := 0) (l' := [.inr (11, [.int 0, .int 1, .ref (q.length + 1), .ref (q.length + 2), .ref (q.length + 3), .ref (q.length + 4), .int 1, .int 1000, .int 0, .null, .null, .null, .int 0, .int 0, .int 0, .int 0, .null, .null, .null, .int 0, .null, .int 0, .int 0, .int 0, .int 0, .int 0, .null, .null, .int 0, .null, .null]), .inl (false, 9, fun _ => 0), .inl (false, 81, fun _ => 0), .inl (false, 9, fun _ => 0), .inl (true, 81, fun _ => 0)]) d_Mo_init_50 f_Mo_33 rfl rfl (Nat.le_of_ble_eq_true rfl) rfl (Nat.le_of_ble_eq_true rfl) rfl (fun _ _ => rfl) (fun _ _ => rfl) rfl ?_
  refine x_aload_n (pc := 53) d_Mo_init_53 rfl ?_
  refine x_bipush (pc := 54) (v := 9) d_Mo_init_54 (by decide) ?_
  refine q_newa (pc := 56) (l' := [.inr (11, [.int 0, .int 1, .ref (q.length + 1), .ref (q.length + 2), .ref (q.length + 3), .ref (q.length + 4), .int 1, .int 1000, .int 0, .null, .null, .null, .int 0, .int 0, .int 0, .int 0, .null, .null, .null, .int 0, .null, .int 0, .int 0, .int 0, .int 0, .int 0, .null, .null, .int 0, .null, .null]), .inl (false, 9, fun _ => 0), .inl (false, 81, fun _ => 0), .inl (false, 9, fun _ => 0), .inl (true, 81, fun _ => 0), .inl (false, 9, fun _ => 0)]) d_Mo_init_56 (by decide) (by decide) (by decide) (Nat.le_of_ble_eq_true rfl) (Nat.le_of_ble_eq_true rfl) rfl rfl ?_
  refine q_putF (pc := 58) (j := 9) (j0 := 0) (l' := [.inr (11, [.int 0, .int 1, .ref (q.length + 1), .ref (q.length + 2), .ref (q.length + 3), .ref (q.length + 4), .int 1, .int 1000, .int 0, .ref (q.length + 5), .null, .null, .int 0, .int 0, .int 0, .int 0, .null, .null, .null, .int 0, .null, .int 0, .int 0, .int 0, .int 0, .int 0, .null, .null, .int 0, .null, .null]), .inl (false, 9, fun _ => 0), .inl (false, 81, fun _ => 0), .inl (false, 9, fun _ => 0), .inl (true, 81, fun _ => 0), .inl (false, 9, fun _ => 0)]) d_Mo_init_58 f_Mo_36 rfl rfl (Nat.le_of_ble_eq_true rfl) rfl (Nat.le_of_ble_eq_true rfl) rfl (fun _ _ => rfl) (fun _ _ => rfl) rfl rfl rfl ?_
  refine x_aload_n (pc := 61) d_Mo_init_61 rfl ?_
  refine x_bipush (pc := 62) (v := 9) d_Mo_init_62 (by decide) ?_
  refine q_newa (pc := 64) (l' := [.inr (11, [.int 0, .int 1, .ref (q.length + 1), .ref (q.length + 2), .ref (q.length + 3), .ref (q.length + 4), .int 1, .int 1000, .int 0, .ref (q.length + 5), .null, .null, .int 0, .int 0, .int 0, .int 0, .null, .null, .null, .int 0, .null, .int 0, .int 0, .int 0, .int 0, .int 0, .null, .null, .int 0, .null, .null]), .inl (false, 9, fun _ => 0), .inl (false, 81, fun _ => 0), .inl (false, 9, fun _ => 0), .inl (true, 81, fun _ => 0), .inl (false, 9, fun _ => 0), .inl (false, 9, fun _ => 0)]) d_Mo_init_64 (by decide) (by decide) (by decide) (Nat.le_of_ble_eq_true rfl) (Nat.le_of_ble_eq_true rfl) rfl rfl ?_
  refine q_putF (pc := 66) (j := 10) (j0 := 0) (l' := [.inr (11, [.int 0, .int 1, .ref (q.length + 1), .ref (q.length + 2), .ref (q.length + 3), .ref (q.length + 4), .int 1, .int 1000, .int 0, .ref (q.length + 5), .ref (q.length + 6), .null, .int 0, .int 0, .int 0, .int 0, .null, .null, .null, .int 0, .null, .int 0, .int 0, .int 0, .int 0, .int 0, .null, .null, .int 0, .null, .null]), .inl (false, 9, fun _ => 0), .inl (false, 81, fun _ => 0), .inl (false, 9, fun _ => 0), .inl (true, 81, fun _ => 0), .inl (false, 9, fun _ => 0), .inl (false, 9, fun _ => 0)]) d_Mo_init_66 f_Mo_39 rfl rfl (Nat.le_of_ble_eq_true rfl) rfl (Nat.le_of_ble_eq_true rfl) rfl (fun _ _ => rfl) (fun _ _ => rfl) rfl rfl rfl ?_
  refine x_aload_n (pc := 69) d_Mo_init_69 rfl ?_
  refine x_bipush (pc := 70) (v := 21) d_Mo_init_70 (by decide) ?_
  refine q_newa (pc := 72) (l' := [.inr (11, [.int 0, .int 1, .ref (q.length + 1), .ref (q.length + 2), .ref (q.length + 3), .ref (q.length + 4), .int 1, .int 1000, .int 0, .ref (q.length + 5), .ref (q.length + 6), .null, .int 0, .int 0, .int 0, .int 0, .null, .null, .null, .int 0, .null, .int 0, .int 0, .int 0, .int 0, .int 0, .null, .null, .int 0, .null, .null]), .inl (false, 9, fun _ => 0), .inl (false, 81, fun _ => 0), .inl (false, 9, fun _ => 0), .inl (true, 81, fun _ => 0), .inl (false, 9, fun _ => 0), .inl (false, 9, fun _ => 0), .inl (false, 21, fun _ => 0)]) d_Mo_init_72 (by decide) (by decide) (by decide) (Nat.le_of_ble_eq_true rfl) (Nat.le_of_ble_eq_true rfl) rfl rfl ?_
  refine q_putF (pc := 74) (j := 11) (j0 := 0) (l' := [.inr (11, [.int 0, .int 1, .ref (q.length + 1), .ref (q.length + 2), .ref (q.length + 3), .ref (q.length + 4), .int 1, .int 1000, .int 0, .ref (q.length + 5), .ref (q.length + 6), .ref (q.length + 7), .int 0, .int 0, .int 0, .int 0, .null, .null, .null, .int 0, .null, .int 0, .int 0, .int 0, .int 0, .int 0, .null, .null, .int 0, .null, .null]), .inl (false, 9, fun _ => 0), .inl (false, 81, fun _ => 0), .inl (false, 9, fun _ => 0), .inl (true, 81, fun _ => 0), .inl (false, 9, fun _ => 0), .inl (false, 9, fun _ => 0), .inl (false, 21, fun _ => 0)]) d_Mo_init_74 f_Mo_42 rfl rfl (Nat.le_of_ble_eq_true rfl) rfl (Nat.le_of_ble_eq_true rfl) rfl (fun _ _ => rfl) (fun _ _ => rfl) rfl rfl rfl ?_
  refine x_aload_n (pc := 77) d_Mo_init_77 rfl ?_
  refine x_bipush (pc := 78) (v := 81) d_Mo_init_78 (by decide) ?_
  refine q_newa (pc := 80) (l' := [.inr (11, [.int 0, .int 1, .ref (q.length + 1), .ref (q.length + 2), .ref (q.length + 3), .ref (q.length + 4), .int 1, .int 1000, .int 0, .ref (q.length + 5), .ref (q.length + 6), .ref (q.length + 7), .int 0, .int 0, .int 0, .int 0, .null, .null, .null, .int 0, .null, .int 0, .int 0, .int 0, .int 0, .int 0, .null, .null, .int 0, .null, .null]), .inl (false, 9, fun _ => 0), .inl (false, 81, fun _ => 0), .inl (false, 9, fun _ => 0), .inl (true, 81, fun _ => 0), .inl (false, 9, fun _ => 0), .inl (false, 9, fun _ => 0), .inl (false, 21, fun _ => 0), .inl (false, 81, fun _ => 0)]) d_Mo_init_80 (by decide) (by decide) (by decide) (Nat.le_of_ble_eq_true rfl) (Nat.le_of_ble_eq_true rfl) rfl rfl ?_
  refine q_putF (pc := 82) (j := 16) (j0 := 0) (l' := [.inr (11, [.int 0, .int 1, .ref (q.length + 1), .ref (q.length + 2), .ref (q.length + 3), .ref (q.length + 4), .int 1, .int 1000, .int 0, .ref (q.length + 5), .ref (q.length + 6), .ref (q.length + 7), .int 0, .int 0, .int 0, .int 0, .ref (q.length + 8), .null, .null, .int 0, .null, .int 0, .int 0, .int 0, .int 0, .int 0, .null, .null, .int 0, .null, .null]), .inl (false, 9, fun _ => 0), .inl (false, 81, fun _ => 0), .inl (false, 9, fun _ => 0), .inl (true, 81, fun _ => 0), .inl (false, 9, fun _ => 0), .inl (false, 9, fun _ => 0), .inl (false, 21, fun _ => 0), .inl (false, 81, fun _ => 0)]) d_Mo_init_82 f_Mo_45 rfl rfl (Nat.le_of_ble_eq_true rfl) rfl (Nat.le_of_ble_eq_true rfl) rfl (fun _ _ => rfl) (fun _ _ => rfl) rfl rfl rfl ?_
  refine x_aload_n (pc := 85) d_Mo_init_85 rfl ?_
  refine x_bipush (pc := 86) (v := 9) d_Mo_init_86 (by decide) ?_
  refine q_newa (pc := 88) (l' := [.inr (11, [.int 0, .int 1, .ref (q.length + 1), .ref (q.length + 2), .ref (q.length + 3), .ref (q.length + 4), .int 1, .int 1000, .int 0, .ref (q.length + 5), .ref (q.length + 6), .ref (q.length + 7), .int 0, .int 0, .int 0, .int 0, .ref (q.length + 8), .null, .null, .int 0, .null, .int 0, .int 0, .int 0, .int 0, .int 0, .null, .null, .int 0, .null, .null]), .inl (false, 9, fun _ => 0), .inl (false, 81, fun _ => 0), .inl (false, 9, fun _ => 0), .inl (true, 81, fun _ => 0), .inl (false, 9, fun _ => 0), .inl (false, 9, fun _ => 0), .inl (false, 21, fun _ => 0), .inl (false, 81, fun _ => 0), .inl (false, 9, fun _ => 0)]) d_Mo_init_88 (by decide) (by decide) (by decide) (Nat.le_of_ble_eq_true rfl) (Nat.le_of_ble_eq_true rfl) rfl rfl ?_
  refine q_putF (pc := 90) (j := 17) (j0 := 0) (l' := [.inr (11, [.int 0, .int 1, .ref (q.length + 1), .ref (q.length + 2), .ref (q.length + 3), .ref (q.length + 4), .int 1, .int 1000, .int 0, .ref (q.length + 5), .ref (q.length + 6), .ref (q.length + 7), .int 0, .int 0, .int 0, .int 0, .ref (q.length + 8), .ref (q.length + 9), .null, .int 0, .null, .int 0, .int 0, .int 0, .int 0, .int 0, .null, .null, .int 0, .null, .null]), .inl (false, 9, fun _ => 0), .inl (false, 81, fun _ => 0), .inl (false, 9, fun _ => 0), .inl (true, 81, fun _ => 0), .inl (false, 9, fun _ => 0), .inl (false, 9, fun _ => 0), .inl (false, 21, fun _ => 0), .inl (false, 81, fun _ => 0), .inl (false, 9, fun _ => 0)]) d_Mo_init_90 f_Mo_48 rfl rfl (Nat.le_of_ble_eq_true rfl) rfl (Nat.le_of_ble_eq_true rfl) rfl (fun _ _ => rfl) (fun _ _ => rfl) rfl rfl rfl ?_
  refine x_aload_n (pc := 93) d_Mo_init_93 rfl ?_
  refine x_bipush (pc := 94) (v := 20) d_Mo_init_94 (by decide) ?_
  refine q_newa (pc := 96) (l' := [.inr (11, [.int 0, .int 1, .ref (q.length + 1), .ref (q.length + 2), .ref (q.length + 3), .ref (q.length + 4), .int 1, .int 1000, .int 0, .ref (q.length + 5), .ref (q.length + 6), .ref (q.length + 7), .int 0, .int 0, .int 0, .int 0, .ref (q.length + 8), .ref (q.length + 9), .null, .int 0, .null, .int 0, .int 0, .int 0, .int 0, .int 0, .null, .null, .int 0, .null, .null]), .inl (false, 9, fun _ => 0), .inl (false, 81, fun _ => 0), .inl (false, 9, fun _ => 0), .inl (true, 81, fun _ => 0), .inl (false, 9, fun _ => 0), .inl (false, 9, fun _ => 0), .inl (false, 21, fun _ => 0), .inl (false, 81, fun _ => 0), .inl (false, 9, fun _ => 0), .inl (false, 20, fun _ => 0)]) d_Mo_init_96 (by decide) (by decide) (by decide) (Nat.le_of_ble_eq_true rfl) (Nat.le_of_ble_eq_true rfl) rfl rfl ?_
  refine q_putF (pc := 98) (j := 18) (j0 := 0) (l' := [.inr (11, [.int 0, .int 1, .ref (q.length + 1), .ref (q.length + 2), .ref (q.length + 3), .ref (q.length + 4), .int 1, .int 1000, .int 0, .ref (q.length + 5), .ref (q.length + 6), .ref (q.length + 7), .int 0, .int 0, .int 0, .int 0, .ref (q.length + 8), .ref (q.length + 9), .ref (q.length + 10), .int 0, .null, .int 0, .int 0, .int 0, .int 0, .int 0, .null, .null, .int 0, .null, .null]), .inl (false, 9, fun _ => 0), .inl (false, 81, fun _ => 0), .inl (false, 9, fun _ => 0), .inl (true, 81, fun _ => 0), .inl (false, 9, fun _ => 0), .inl (false, 9, fun _ => 0), .inl (false, 21, fun _ => 0), .inl (false, 81, fun _ => 0), .inl (false, 9, fun _ => 0), .inl (false, 20, fun _ => 0)]) d_Mo_init_98 f_Mo_51 rfl rfl (Nat.le_of_ble_eq_true rfl) rfl (Nat.le_of_ble_eq_true rfl) rfl (fun _ _ => rfl) (fun _ _ => rfl) rfl rfl rfl ?_
  refine x_aload_n (pc := 101) d_Mo_init_101 rfl ?_
  refine x_bipush (pc := 102) (v := 20) d_Mo_init_102 (by decide) ?_
  refine q_newa (pc := 104) (l' := [.inr (11, [.int 0, .int 1, .ref (q.length + 1), .ref (q.length + 2), .ref (q.length + 3), .ref (q.length + 4), .int 1, .int 1000, .int 0, .ref (q.length + 5), .ref (q.length + 6), .ref (q.length + 7), .int 0, .int 0, .int 0, .int 0, .ref (q.length + 8), .ref (q.length + 9), .ref (q.length + 10), .int 0, .null, .int 0, .int 0, .int 0, .int 0, .int 0, .null, .null, .int 0, .null, .null]), .inl (false, 9, fun _ => 0), .inl (false, 81, fun _ => 0), .inl (false, 9, fun _ => 0), .inl (true, 81, fun _ => 0), .inl (false, 9, fun _ => 0), .inl (false, 9, fun _ => 0), .inl (false, 21, fun _ => 0), .inl (false, 81, fun _ => 0), .inl (false, 9, fun _ => 0), .inl (false, 20, fun _ => 0), .inl (false, 20, fun _ => 0)]) d_Mo_init_104 (by decide) (by decide) (by decide) (Nat.le_of_ble_eq_true rfl) (Nat.le_of_ble_eq_true rfl) rfl rfl ?_
  refine q_putF (pc := 106) (j := 20) (j0 := 0) (l' := [.inr (11, [.int 0, .int 1, .ref (q.length + 1), .ref (q.length + 2), .ref (q.length + 3), .ref (q.length + 4), .int 1, .int 1000, .int 0, .ref (q.length + 5), .ref (q.length + 6), .ref (q.length + 7), .int 0, .int 0, .int 0, .int 0, .ref (q.length + 8), .ref (q.length + 9), .ref (q.length + 10), .int 0, .ref (q.length + 11), .int 0, .int 0, .int 0, .int 0, .int 0, .null, .null, .int 0, .null, .null]), .inl (false, 9, fun _ => 0), .inl (false, 81, fun _ => 0), .inl (false, 9, fun _ => 0), .inl (true, 81, fun _ => 0), .inl (false, 9, fun _ => 0), .inl (false, 9, fun _ => 0), .inl (false, 21, fun _ => 0), .inl (false, 81, fun _ => 0), .inl (false, 9, fun _ => 0), .inl (false, 20, fun _ => 0), .inl (false, 20, fun _ => 0)]) d_Mo_init_106 f_Mo_54 rfl rfl (Nat.le_of_ble_eq_true rfl) rfl (Nat.le_of_ble_eq_true rfl) rfl (fun _ _ => rfl) (fun _ _ => rfl) rfl rfl rfl ?_
  refine x_aload_n (pc := 109) d_Mo_init_109 rfl ?_
  refine x_bipush (pc := 110) (v := 10) d_Mo_init_110 (by decide) ?_
  refine q_newa (pc := 112) (l' := [.inr (11, [.int 0, .int 1, .ref (q.length + 1), .ref (q.length + 2), .ref (q.length + 3), .ref (q.length + 4), .int 1, .int 1000, .int 0, .ref (q.length + 5), .ref (q.length + 6), .ref (q.length + 7), .int 0, .int 0, .int 0, .int 0, .ref (q.length + 8), .ref (q.length + 9), .ref (q.length + 10), .int 0, .ref (q.length + 11), .int 0, .int 0, .int 0, .int 0, .int 0, .null, .null, .int 0, .null, .null]), .inl (false, 9, fun _ => 0), .inl (false, 81, fun _ => 0), .inl (false, 9, fun _ => 0), .inl (true, 81, fun _ => 0), .inl (false, 9, fun _ => 0), .inl (false, 9, fun _ => 0), .inl (false, 21, fun _ => 0), .inl (false, 81, fun _ => 0), .inl (false, 9, fun _ => 0), .inl (false, 20, fun _ => 0), .inl (false, 20, fun _ => 0), .inl (false, 10, fun _ => 0)]) d_Mo_init_112 (by decide) (by decide) (by decide) (Nat.le_of_ble_eq_true rfl) (Nat.le_of_ble_eq_true rfl) rfl rfl ?_
  refine q_putF (pc := 114) (j := 26) (j0 := 0) (l' := [.inr (11, [.int 0, .int 1, .ref (q.length + 1), .ref (q.length + 2), .ref (q.length + 3), .ref (q.length + 4), .int 1, .int 1000, .int 0, .ref (q.length + 5), .ref (q.length + 6), .ref (q.length + 7), .int 0, .int 0, .int 0, .int 0, .ref (q.length + 8), .ref (q.length + 9), .ref (q.length + 10), .int 0, .ref (q.length + 11), .int 0, .int 0, .int 0, .int 0, .int 0, .ref (q.length + 12), .null, .int 0, .null, .null]), .inl (false, 9, fun _ => 0), .inl (false, 81, fun _ => 0), .inl (false, 9, fun _ => 0), .inl (true, 81, fun _ => 0), .inl (false, 9, fun _ => 0), .inl (false, 9, fun _ => 0), .inl (false, 21, fun _ => 0), .inl (false, 81, fun _ => 0), .inl (false, 9, fun _ => 0), .inl (false, 20, fun _ => 0), .inl (false, 20, fun _ => 0), .inl (false, 10, fun _ => 0)]) d_Mo_init_114 f_Mo_57 rfl rfl (Nat.le_of_ble_eq_true rfl) rfl (Nat.le_of_ble_eq_true rfl) rfl (fun _ _ => rfl) (fun _ _ => rfl) rfl rfl rfl ?_
  refine x_aload_n (pc := 117) d_Mo_init_117 rfl ?_
  refine x_bipush (pc := 118) (v := 10) d_Mo_init_118 (by decide) ?_
  refine q_newa (pc := 120) (l' := [.inr (11, [.int 0, .int 1, .ref (q.length + 1), .ref (q.length + 2), .ref (q.length + 3), .ref (q.length + 4), .int 1, .int 1000, .int 0, .ref (q.length + 5), .ref (q.length + 6), .ref (q.length + 7), .int 0, .int 0, .int 0, .int 0, .ref (q.length + 8), .ref (q.length + 9), .ref (q.length + 10), .int 0, .ref (q.length + 11), .int 0, .int 0, .int 0, .int 0, .int 0, .ref (q.length + 12), .null, .int 0, .null, .null]), .inl (false, 9, fun _ => 0), .inl (false, 81, fun _ => 0), .inl (false, 9, fun _ => 0), .inl (true, 81, fun _ => 0), .inl (false, 9, fun _ => 0), .inl (false, 9, fun _ => 0), .inl (false, 21, fun _ => 0), .inl (false, 81, fun _ => 0), .inl (false, 9, fun _ => 0), .inl (false, 20, fun _ => 0), .inl (false, 20, fun _ => 0), .inl (false, 10, fun _ => 0), .inl (false, 10, fun _ => 0)]) d_Mo_init_120 (by decide) (by decide) (by decide) (Nat.le_of_ble_eq_true rfl) (Nat.le_of_ble_eq_true rfl) rfl rfl ?_
  refine q_putF (pc := 122) (j := 27) (j0 := 0) (l' := [.inr (11, [.int 0, .int 1, .ref (q.length + 1), .ref (q.length + 2), .ref (q.length + 3), .ref (q.length + 4), .int 1, .int 1000, .int 0, .ref (q.length + 5), .ref (q.length + 6), .ref (q.length + 7), .int 0, .int 0, .int 0, .int 0, .ref (q.length + 8), .ref (q.length + 9), .ref (q.length + 10), .int 0, .ref (q.length + 11), .int 0, .int 0, .int 0, .int 0, .int 0, .ref (q.length + 12), .ref (q.length + 13), .int 0, .null, .null]), .inl (false, 9, fun _ => 0), .inl (false, 81, fun _ => 0), .inl (false, 9, fun _ => 0), .inl (true, 81, fun _ => 0), .inl (false, 9, fun _ => 0), .inl (false, 9, fun _ => 0), .inl (false, 21, fun _ => 0), .inl (false, 81, fun _ => 0), .inl (false, 9, fun _ => 0), .inl (false, 20, fun _ => 0), .inl (false, 20, fun _ => 0), .inl (false, 10, fun _ => 0), .inl (false, 10, fun _ => 0)]) d_Mo_init_122 f_Mo_60 rfl rfl (Nat.le_of_ble_eq_true rfl) rfl (Nat.le_of_ble_eq_true rfl) rfl (fun _ _ => rfl) (fun _ _ => rfl) rfl rfl rfl ?_
  refine x_aload_n (pc := 125) d_Mo_init_125 rfl ?_
  refine x_bipush (pc := 126) (v := 9) d_Mo_init_126 (by decide) ?_
  refine q_newa (pc := 128) (l' := [.inr (11, [.int 0, .int 1, .ref (q.length + 1), .ref (q.length + 2), .ref (q.length + 3), .ref (q.length + 4), .int 1, .int 1000, .int 0, .ref (q.length + 5), .ref (q.length + 6), .ref (q.length + 7), .int 0, .int 0, .int 0, .int 0, .ref (q.length + 8), .ref (q.length + 9), .ref (q.length + 10), .int 0, .ref (q.length + 11), .int 0, .int 0, .int 0, .int 0, .int 0, .ref (q.length + 12), .ref (q.length + 13), .int 0, .null, .null]), .inl (false, 9, fun _ => 0), .inl (false, 81, fun _ => 0), .inl (false, 9, fun _ => 0), .inl (true, 81, fun _ => 0), .inl (false, 9, fun _ => 0), .inl (false, 9, fun _ => 0), .inl (false, 21, fun _ => 0), .inl (false, 81, fun _ => 0), .inl (false, 9, fun _ => 0), .inl (false, 20, fun _ => 0), .inl (false, 20, fun _ => 0), .inl (false, 10, fun _ => 0), .inl (false, 10, fun _ => 0), .inl (false, 9, fun _ => 0)]) d_Mo_init_128 (by decide) (by decide) (by decide) (Nat.le_of_ble_eq_true rfl) (Nat.le_of_ble_eq_true rfl) rfl rfl ?_
  refine q_putF (pc := 130) (j := 29) (j0 := 0) (l' := [.inr (11, [.int 0, .int 1, .ref (q.length + 1), .ref (q.length + 2), .ref (q.length + 3), .ref (q.length + 4), .int 1, .int 1000, .int 0, .ref (q.length + 5), .ref (q.length + 6), .ref (q.length + 7), .int 0, .int 0, .int 0, .int 0, .ref (q.length + 8), .ref (q.length + 9), .ref (q.length + 10), .int 0, .ref (q.length + 11), .int 0, .int 0, .int 0, .int 0, .int 0, .ref (q.length + 12), .ref (q.length + 13), .int 0, .ref (q.length + 14), .null]), .inl (false, 9, fun _ => 0), .inl (false, 81, fun _ => 0), .inl (false, 9, fun _ => 0), .inl (true, 81, fun _ => 0), .inl (false, 9, fun _ => 0), .inl (false, 9, fun _ => 0), .inl (false, 21, fun _ => 0), .inl (false, 81, fun _ => 0), .inl (false, 9, fun _ => 0), .inl (false, 20, fun _ => 0), .inl (false, 20, fun _ => 0), .inl (false, 10, fun _ => 0), .inl (false, 10, fun _ => 0), .inl (false, 9, fun _ => 0)]) d_Mo_init_130 f_Mo_63 rfl rfl (Nat.le_of_ble_eq_true rfl) rfl (Nat.le_of_ble_eq_true rfl) rfl (fun _ _ => rfl) (fun _ _ => rfl) rfl rfl rfl ?_
  refine x_aload_n (pc := 133) d_Mo_init_133 rfl ?_
  refine x_sipush (pc := 134) (v := 512) d_Mo_init_134 (by decide) ?_
  refine q_newa (pc := 137) (l' := [.inr (11, [.int 0, .int 1, .ref (q.length + 1), .ref (q.length + 2), .ref (q.length + 3), .ref (q.length + 4), .int 1, .int 1000, .int 0, .ref (q.length + 5), .ref (q.length + 6), .ref (q.length + 7), .int 0, .int 0, .int 0, .int 0, .ref (q.length + 8), .ref (q.length + 9), .ref (q.length + 10), .int 0, .ref (q.length + 11), .int 0, .int 0, .int 0, .int 0, .int 0, .ref (q.length + 12), .ref (q.length + 13), .int 0, .ref (q.length + 14), .null]), .inl (false, 9, fun _ => 0), .inl (false, 81, fun _ => 0), .inl (false, 9, fun _ => 0), .inl (true, 81, fun _ => 0), .inl (false, 9, fun _ => 0), .inl (false, 9, fun _ => 0), .inl (false, 21, fun _ => 0), .inl (false, 81, fun _ => 0), .inl (false, 9, fun _ => 0), .inl (false, 20, fun _ => 0), .inl (false, 20, fun _ => 0), .inl (false, 10, fun _ => 0), .inl (false, 10, fun _ => 0), .inl (false, 9, fun _ => 0), .inl (false, 512, fun _ => 0)]) d_Mo_init_137 (by decide) (by decide) (by decide) (Nat.le_of_ble_eq_true rfl) (Nat.le_of_ble_eq_true rfl) rfl rfl ?_
  refine q_putF (pc := 139) (j := 30) (j0 := 0) (l' := [.inr (11, [.int 0, .int 1, .ref (q.length + 1), .ref (q.length + 2), .ref (q.length + 3), .ref (q.length + 4), .int 1, .int 1000, .int 0, .ref (q.length + 5), .ref (q.length + 6), .ref (q.length + 7), .int 0, .int 0, .int 0, .int 0, .ref (q.length + 8), .ref (q.length + 9), .ref (q.length + 10), .int 0, .ref (q.length + 11), .int 0, .int 0, .int 0, .int 0, .int 0, .ref (q.length + 12), .ref (q.length + 13), .int 0, .ref (q.length + 14), .ref (q.length + 15)]), .inl (false, 9, fun _ => 0), .inl (false, 81, fun _ => 0), .inl (false, 9, fun _ => 0), .inl (true, 81, fun _ => 0), .inl (false, 9, fun _ => 0), .inl (false, 9, fun _ => 0), .inl (false, 21, fun _ => 0), .inl (false, 81, fun _ => 0), .inl (false, 9, fun _ => 0), .inl (false, 20, fun _ => 0), .inl (false, 20, fun _ => 0), .inl (false, 10, fun _ => 0), .inl (false, 10, fun _ => 0), .inl (false, 9, fun _ => 0), .inl (false, 512, fun _ => 0)]) d_Mo_init_139 f_Mo_66 rfl rfl (Nat.le_of_ble_eq_true rfl) rfl (Nat.le_of_ble_eq_true rfl) rfl (fun _ _ => rfl) (fun _ _ => rfl) rfl rfl rfl ?_
  refine x_aload_n (pc := 142) d_Mo_init_142 rfl ?_
  refine x_iconst (pc := 143) (v := 0) d_Mo_init_143 (by decide) ?_
  refine q_put (pc := 144) (j := 0) (j0 := 0) (l' := [.inr (11, [.int 0, .int 1, .ref (q.length + 1), .ref (q.length + 2), .ref (q.length + 3), .ref (q.length + 4), .int 1, .int 1000, .int 0, .ref (q.length + 5), .ref (q.length + 6), .ref (q.length + 7), .int 0, .int 0, .int 0, .int 0, .ref (q.length + 8), .ref (q.length + 9), .ref (q.length + 10), .int 0, .ref (q.length + 11), .int 0, .int 0, .int 0, .int 0, .int 0, .ref (q.length + 12), .ref (q.length + 13), .int 0, .ref (q.length + 14), .ref (q.length + 15)]), .inl (false, 9, fun _ => 0), .inl (false, 81, fun _ => 0), .inl (false, 9, fun _ => 0), .inl (true, 81, fun _ => 0), .inl (false, 9, fun _ => 0), .inl (false, 9, fun _ => 0), .inl (false, 21, fun _ => 0), .inl (false, 81, fun _ => 0), .inl (false, 9, fun _ => 0), .inl (false, 20, fun _ => 0), .inl (false, 20, fun _ => 0), .inl (false, 10, fun _ => 0), .inl (false, 10, fun _ => 0), .inl (false, 9, fun _ => 0), .inl (false, 512, fun _ => 0)]) d_Mo_init_144 f_Mo_1 rfl rfl (Nat.le_of_ble_eq_true rfl) rfl (Nat.le_of_ble_eq_true rfl) rfl (fun _ _ => rfl) (fun _ _ => rfl) rfl ?_
  refine x_iconst (pc := 147) (v := 0) d_Mo_init_147 (by decide) ?_
  refine y_ist1 (pc := 148) d_Mo_init_148 ?_
  exact h0 0 (Nat.zero_le _)
