/-! X: the machine at a point of a method, over a memory of numbered cells (cell k lies at the address base + k) -/
abbrev zE : Type := (Bool × Nat × (Nat → Int32)) ⊕ (Nat × List Value)
abbrev zMem : Type := List zE
/-- a value of the picture, as the machine has it: refs are cell numbers; a float stands for the law's script -/
def zr (base b : Nat) : Value → Value
  | .ref k => .ref (base + k)
  | .float _ => .ref b
  | v => v
def zok : Value → Bool
  | .float _ => false
  | .long _ => false
  | .double _ => false
  | .retAddr _ => false
  | _ => true
theorem zr_ok {v : Value} (h : zok v = true) (base b b' : Nat) : zr base b v = zr base b' v := by
  cases v <;> first | rfl | (simp [zok] at h)
theorem zr_map_ok {vs : List Value} (h : vs.all zok = true) (base b b' : Nat) : vs.map (zr base b) = vs.map (zr base b') :=
  List.map_congr_left fun v hv => zr_ok (List.all_eq_true.mp h v hv) base b b'
def ze (cI cZ : ClassId) (base : Nat) : zE → va_E
  | .inl (t, n, f) => .inl (if t = true then cZ else cI, n, .inl f)
  | .inr (ci, fs) => .inr (ci, fs.map (zr base 0))
def zw (cI cZ : ClassId) (base : Nat) (μ : zMem) : va_W := μ.mapIdx (fun k c => (base + k, ze cI cZ base c))
theorem zw_get {cI cZ : ClassId} {base : Nat} {μ : zMem} {k : Nat} {c : zE} (h : μ[k]? = some c) : (zw cI cZ base μ)[k]? = some (base + k, ze cI cZ base c) := by
  simp [zw, List.getElem?_mapIdx, h]
theorem zw_of {cI cZ : ClassId} {base : Nat} {μ : zMem} {k : Nat} {q : Nat × va_E} (h : (zw cI cZ base μ)[k]? = some q) : ∃ c, μ[k]? = some c ∧ q = (base + k, ze cI cZ base c) := by
  simp only [zw, List.getElem?_mapIdx, Option.map_eq_some_iff] at h
  obtain ⟨c, h1, h2⟩ := h
  exact ⟨c, h1, h2.symm⟩
theorem zw_set (cI cZ : ClassId) (base : Nat) (μ : zMem) (k : Nat) (c : zE) : (zw cI cZ base μ).set k (base + k, ze cI cZ base c) = zw cI cZ base (μ.set k c) := by
  apply List.ext_getElem?
  intro j
  simp only [zw, List.getElem?_set, List.getElem?_mapIdx, List.length_mapIdx]
  by_cases h : k = j
  · subst h
    by_cases h2 : k < μ.length <;> simp [h2]
  · simp [h]
theorem zw_push (cI cZ : ClassId) (base : Nat) (μ : zMem) (c : zE) : zw cI cZ base (μ ++ [c]) = zw cI cZ base μ ++ [(base + μ.length, ze cI cZ base c)] := by
  simp [zw, List.mapIdx_append]
theorem zw_D (cI cZ : ClassId) (base : Nat) (μ : zMem) : va_D (fun q => base ≤ q) (zw cI cZ base μ) := by
  refine ⟨fun i j p q hp hq h => ?_, fun k q hq => ?_⟩
  · obtain ⟨_, _, rfl⟩ := zw_of hp
    obtain ⟨_, _, rfl⟩ := zw_of hq
    have h : base + i = base + j := h
    omega
  · obtain ⟨_, _, rfl⟩ := zw_of hq
    exact Nat.le_add_right _ _
abbrev zFin : Type := Nat → va_G → ClassId → ClassId → List Frame → Array Value → State → State → Prop
def zC (Y : zY) (p : Program) (s : State) (m : MethodId) (args : Array Value) (meth : Method) (c : Code) : Prop :=
  p.tables.exec = Jvm.exec ∧ c.code = Y.2.1 ∧ c.maxLocals = Y.2.2.1 ∧ s.vm.findClass Y.2.2.2.2 = some m.cls ∧ (∀ w ∈ zt, w.before args s = true) ∧ meth.sig.returnType = Y.2.2.2.1 ∧ meth.locks = false ∧ (Y.1.name = "<init>" → meth.name = Y.1.name)
def zK (D : va_G) (cI cZ : ClassId) (U : State) : Prop := va_K D zcl [(cI, .int), (cZ, .boolean)] U ∧ ∀ w ∈ znest, va_Nw w U
theorem zK_moved {D : va_G} {cI cZ : ClassId} {s U : State} (hW : s.WarmedH U.vm) (h : zK D cI cZ s) : zK D cI cZ U := by
  refine ⟨va_K.moved hW.alike h.1, fun w hw => ?_⟩
  have h2 := h.2 w hw
  simp only [znest, List.mem_cons, List.not_mem_nil, or_false] at hw
  rcases hw with rfl | rfl | rfl | rfl | rfl | rfl | rfl | rfl | rfl | rfl | rfl | rfl | rfl <;> exact va_Nw.warmM hW h2
theorem zK_same {D : va_G} {cI cZ : ClassId} {s U : State} (hv : s.vm = U.vm) (h : zK D cI cZ s) : zK D cI cZ U := by
  refine ⟨va_K.moved (by rw [hv]; exact Vm.Alike.refl _) h.1, fun w hw => ?_⟩
  have h2 := h.2 w hw
  simp only [znest, List.mem_cons, List.not_mem_nil, or_false] at hw
  rcases hw with rfl | rfl | rfl | rfl | rfl | rfl | rfl | rfl | rfl | rfl | rfl | rfl | rfl <;> exact va_Nw.same rfl hv h2
def zM (D : va_G) (cI cZ : ClassId) (base : Nat) (μ : zMem) (H : Heap) : Prop := H.size = base + μ.length ∧ va_P D zcl (zw cI cZ base μ) H
def zS (sc : Nat × (Nat → Int32)) (b base : Nat) (own : String) (s : State) : Prop := own = "CircuitWaysLaw" → b < base ∧ b < s.heap.size ∧ va_X b sc.1 sc.2 s s.heap ∧ s.heap.size ≤ base
abbrev zA (base : Nat) : Nat → Prop := fun q => base ≤ q
/-- locals by their places; retAddr stands for a place that holds nothing known -/
abbrev zu : Value := .retAddr 0
def zknown : Value → Bool
  | .retAddr _ => false
  | _ => true
def zL (base b nL : Nat) (lv : List Value) (ls : Array Slot) : Prop := lv.length = nL ∧ (∀ v ∈ lv, v.category = 1) ∧ ls.size = nL ∧ lv_wf ls ∧ ∀ (i : Nat) (v : Value), lv[i]? = some v → zknown v = true → ls[i]? = some (.val (zr base b v))
theorem zr_cat {base b : Nat} {v : Value} (h : v.category = 1) : (zr base b v).category = 1 := by
  cases v <;> first | rfl | (simp [Value.category] at h)
theorem zL_get {base b nL : Nat} {lv : List Value} {ls : Array Slot} (h : zL base b nL lv ls) {i : Nat} {v : Value} (hi : lv[i]? = some v) (hk : zknown v = true) : ls[i]? = some (.val (zr base b v)) := h.2.2.2.2 i v hi hk
/-- the known locals as the kit's rows want them -/
def zls (base b : Nat) (lv : List Value) : List (Nat × Value) := (lv.mapIdx (fun i v => (i, v))).filterMap (fun q => if zknown q.2 = true then some (q.1, zr base b q.2) else none)
theorem zls_mem {base b : Nat} {lv : List Value} {q : Nat × Value} : q ∈ zls base b lv ↔ ∃ v, lv[q.1]? = some v ∧ zknown v = true ∧ q.2 = zr base b v := by
  simp only [zls, List.mem_filterMap]
  constructor
  · rintro ⟨x, hx, h⟩
    obtain ⟨i, hi⟩ := List.getElem?_of_mem hx
    simp only [List.getElem?_mapIdx, Option.map_eq_some_iff] at hi
    obtain ⟨v, h1, rfl⟩ := hi
    by_cases hk : zknown v = true
    · simp [hk] at h
      subst h
      exact ⟨v, h1, hk, rfl⟩
    · simp [hk] at h
  · rintro ⟨v, h1, h2, h3⟩
    refine ⟨(q.1, v), List.mem_of_getElem? (i := q.1) (by simp [List.getElem?_mapIdx, h1]), by simp [h2, ← h3]⟩
theorem zL_has {base b nL : Nat} {lv : List Value} {ls : Array Slot} (h : zL base b nL lv ls) : lv_has ls nL (zls base b lv) := by
  refine ⟨h.2.2.1, h.2.2.2.1, fun q hq => ?_⟩
  obtain ⟨v, h1, h2, h3⟩ := zls_mem.mp hq
  rw [h3]
  exact zL_get h h1 h2
theorem zL_set {base b nL : Nat} {lv : List Value} {ls ls' : Array Slot} {i : Nat} {v : Value} (h : zL base b nL lv ls) (hv : v.category = 1)
    (h' : lv_has ls' nL ((i, zr base b v) :: (zls base b lv).filter (fun q => !(q.1 == i) && !(q.1 + 1 == i && q.2.category == 2)))) : zL base b nL (lv.set i v) ls' := by
  obtain ⟨h1, h2, h3, h4, h5⟩ := h
  refine ⟨by simp [h1], fun w hw => ?_, h'.1, h'.2.1, fun j w hw hk => ?_⟩
  · rcases List.mem_or_eq_of_mem_set hw with q | q
    · exact h2 w q
    · rw [q]; exact hv
  · by_cases hj : i = j
    · subst hj
      have hl : i < lv.length := by
        have := (List.getElem?_eq_some_iff.mp hw).1
        simpa using this
      rw [List.getElem?_set_self hl] at hw
      cases hw
      exact h'.2.2 _ List.mem_cons_self
    · rw [List.getElem?_set_ne hj] at hw
      refine h'.2.2 (j, zr base b w) (List.mem_cons_of_mem _ (List.mem_filter.mpr ⟨zls_mem.mpr ⟨w, hw, hk, rfl⟩, ?_⟩))
      have hc := zr_cat (base := base) (b := b) (h2 w (List.mem_of_getElem? hw))
      simp [hc, Ne.symm hj]
theorem zL_drop {base b nL : Nat} {lv lv' : List Value} {ls : Array Slot} (h : zL base b nL lv ls) (hl : lv'.length = lv.length) (hc : ∀ v ∈ lv', v.category = 1) (hs : ∀ (i : Nat) (v : Value), lv'[i]? = some v → zknown v = true → lv[i]? = some v) : zL base b nL lv' ls :=
  ⟨by rw [hl]; exact h.1, hc, h.2.2.1, h.2.2.2.1, fun i v hi hk => h.2.2.2.2 i v (hs i v hi hk) hk⟩
def X (Y : zY) (rm : Room) (sc : Nat × (Nat → Int32)) (F : zFin) (pc : Nat) (lv : List Value) (st : List Value) (μ : zMem) (kc ks : Nat) : Prop :=
  ∀ (p : Program) (l : Launch) (e : Env) (s : State) (m : MethodId) (args : Array Value) (below : List Frame) (meth : Method) (c : Code) (b base : Nat) (D : va_G) (cI cZ : ClassId) (H : Heap) (locs : List Loc) (ls : Array Slot),
    zC Y p s m args meth c → zK D cI cZ s → zS sc b base Y.2.2.2.2 s → base ≤ s.heap.size → zM D cI cZ base μ H → va_S (zA base) s.heap H locs → zL base b Y.2.2.1 lv ls →
    W p l e rm s m args below meth c H locs kc ks (F base D cI cZ below args s) (F0 m pc ls (st.map (zr base b)))
section XR
variable {Y : zY} {rm : Room} {sc : Nat × (Nat → Int32)} {F : zFin} {pc : Nat} {lv st : List Value} {μ : zMem} {kc ks : Nat}

theorem x_iconst {n : Int} {v : Int32} (hd : decode Y.2.1 pc = .ok (.iconst n, 1)) (hv : Int32.ofInt n = v) (K : X Y rm sc F (pc + 1) lv (.int v :: st) μ kc ks) : X Y rm sc F pc lv st μ kc ks :=
  fun p l e s m args below meth c b base D cI cZ H locs ls hC hK hZ hb hM hS hL => lv_iconst hC.1 hC.2.1 hd hv (K p l e s m args below meth c b base D cI cZ H locs ls hC hK hZ hb hM hS hL)
theorem x_bipush {n : Int} {v : Int32} (hd : decode Y.2.1 pc = .ok (.bipush n, 2)) (hv : (Int8.ofInt n).toInt32 = v) (K : X Y rm sc F (pc + 2) lv (.int v :: st) μ kc ks) : X Y rm sc F pc lv st μ kc ks :=
  fun p l e s m args below meth c b base D cI cZ H locs ls hC hK hZ hb hM hS hL => lv_bipush hC.1 hC.2.1 hd hv (K p l e s m args below meth c b base D cI cZ H locs ls hC hK hZ hb hM hS hL)
theorem x_sipush {n : Int} {v : Int32} (hd : decode Y.2.1 pc = .ok (.sipush n, 3)) (hv : (Int16.ofInt n).toInt32 = v) (K : X Y rm sc F (pc + 3) lv (.int v :: st) μ kc ks) : X Y rm sc F pc lv st μ kc ks :=
  fun p l e s m args below meth c b base D cI cZ H locs ls hC hK hZ hb hM hS hL => lv_sipush hC.1 hC.2.1 hd hv (K p l e s m args below meth c b base D cI cZ H locs ls hC hK hZ hb hM hS hL)
theorem x_ldc {i : Nat} {v : Int32} (hd : decode Y.2.1 pc = .ok (.ldc i, 2)) (hw : Cond.constant Y.2.2.2.2 i v ∈ zt) (K : X Y rm sc F (pc + 2) lv (.int v :: st) μ kc ks) : X Y rm sc F pc lv st μ kc ks :=
  fun p l e s m args below meth c b base D cI cZ H locs ls hC hK hZ hb hM hS hL => lv_ldc hC.1 hC.2.1 hC.2.2.2.1 (hC.2.2.2.2.1 _ hw) hd (K p l e s m args below meth c b base D cI cZ H locs ls hC hK hZ hb hM hS hL)
theorem x_ldcw {i : Nat} {v : Int32} (hd : decode Y.2.1 pc = .ok (.ldc_w i, 3)) (hw : Cond.constant Y.2.2.2.2 i v ∈ zt) (K : X Y rm sc F (pc + 3) lv (.int v :: st) μ kc ks) : X Y rm sc F pc lv st μ kc ks :=
  fun p l e s m args below meth c b base D cI cZ H locs ls hC hK hZ hb hM hS hL => lv_ldcw hC.1 hC.2.1 hC.2.2.2.1 (hC.2.2.2.2.1 _ hw) hd (K p l e s m args below meth c b base D cI cZ H locs ls hC hK hZ hb hM hS hL)
theorem x_iload_n {k : Fin 4} {v : Int32} (hd : decode Y.2.1 pc = .ok (.iload_n k, 1)) (hv : lv[(k : Nat)]? = some (.int v)) (K : X Y rm sc F (pc + 1) lv (.int v :: st) μ kc ks) : X Y rm sc F pc lv st μ kc ks :=
  fun p l e s m args below meth c b base D cI cZ H locs ls hC hK hZ hb hM hS hL => lv_iload_n hC.1 hC.2.1 hd rfl (zL_get hL hv rfl) (K p l e s m args below meth c b base D cI cZ H locs ls hC hK hZ hb hM hS hL)
theorem x_iload {k : Nat} {v : Int32} (hd : decode Y.2.1 pc = .ok (.iload k, 2)) (hv : lv[k]? = some (.int v)) (K : X Y rm sc F (pc + 2) lv (.int v :: st) μ kc ks) : X Y rm sc F pc lv st μ kc ks :=
  fun p l e s m args below meth c b base D cI cZ H locs ls hC hK hZ hb hM hS hL => lv_iload hC.1 hC.2.1 hd (zL_get hL hv rfl) (K p l e s m args below meth c b base D cI cZ H locs ls hC hK hZ hb hM hS hL)
theorem x_aload_n {k : Fin 4} {v : Nat} (hd : decode Y.2.1 pc = .ok (.aload_n k, 1)) (hv : lv[(k : Nat)]? = some (.ref v)) (K : X Y rm sc F (pc + 1) lv (.ref v :: st) μ kc ks) : X Y rm sc F pc lv st μ kc ks :=
  fun p l e s m args below meth c b base D cI cZ H locs ls hC hK hZ hb hM hS hL => lv_aload_n hC.1 hC.2.1 hd rfl (zL_get hL hv rfl) (K p l e s m args below meth c b base D cI cZ H locs ls hC hK hZ hb hM hS hL)
theorem x_sload_n {k : Fin 4} {v : UInt32} (hd : decode Y.2.1 pc = .ok (.aload_n k, 1)) (hv : lv[(k : Nat)]? = some (.float v)) (K : X Y rm sc F (pc + 1) lv (.float v :: st) μ kc ks) : X Y rm sc F pc lv st μ kc ks :=
  fun p l e s m args below meth c b base D cI cZ H locs ls hC hK hZ hb hM hS hL => lv_aload_n hC.1 hC.2.1 hd rfl (zL_get hL hv rfl) (K p l e s m args below meth c b base D cI cZ H locs ls hC hK hZ hb hM hS hL)
theorem x_istore_n {k : Fin 4} {v : Int32} {lv' : List Value} (hd : decode Y.2.1 pc = .ok (.istore_n k, 1)) (hk : (k : Nat) < lv.length) (hv : lv.set (k : Nat) (.int v) = lv') (K : X Y rm sc F (pc + 1) lv' st μ kc ks) : X Y rm sc F pc lv (.int v :: st) μ kc ks := by
  subst hv
  intro p l e s m args below meth c b base D cI cZ H locs ls hC hK hZ hb hM hS hL
  exact lv_istore_n (lv' := _) hC.1 hC.2.1 hd rfl (zL_has hL) (by rw [← hL.1]; exact hk) rfl (fun ls' h' => K p l e s m args below meth c b base D cI cZ H locs ls' hC hK hZ hb hM hS (zL_set (v := .int v) hL rfl h'))
theorem x_istore {k : Nat} {v : Int32} {lv' : List Value} (hd : decode Y.2.1 pc = .ok (.istore k, 2)) (hk : k < lv.length) (hv : lv.set k (.int v) = lv') (K : X Y rm sc F (pc + 2) lv' st μ kc ks) : X Y rm sc F pc lv (.int v :: st) μ kc ks := by
  subst hv
  intro p l e s m args below meth c b base D cI cZ H locs ls hC hK hZ hb hM hS hL
  exact lv_istore (lv' := _) hC.1 hC.2.1 hd (zL_has hL) (by rw [← hL.1]; exact hk) rfl (fun ls' h' => K p l e s m args below meth c b base D cI cZ H locs ls' hC hK hZ hb hM hS (zL_set (v := .int v) hL rfl h'))
theorem x_astore_n {k : Fin 4} {v : Nat} {lv' : List Value} (hd : decode Y.2.1 pc = .ok (.astore_n k, 1)) (hk : (k : Nat) < lv.length) (hv : lv.set (k : Nat) (.ref v) = lv') (K : X Y rm sc F (pc + 1) lv' st μ kc ks) : X Y rm sc F pc lv (.ref v :: st) μ kc ks := by
  subst hv
  intro p l e s m args below meth c b base D cI cZ H locs ls hC hK hZ hb hM hS hL
  exact lv_astore_n (lv' := _) hC.1 hC.2.1 hd rfl (zL_has hL) (by rw [← hL.1]; exact hk) rfl (fun ls' h' => K p l e s m args below meth c b base D cI cZ H locs ls' hC hK hZ hb hM hS (zL_set (v := .ref v) hL rfl h'))
theorem x_iinc {k : Nat} {n : Int} {x v : Int32} {lv' : List Value} (hd : decode Y.2.1 pc = .ok (.iinc k n, 3)) (hx : lv[k]? = some (.int x)) (hv : x + Int32.ofInt n = v) (hl : lv.set k (.int v) = lv') (K : X Y rm sc F (pc + 3) lv' st μ kc ks) : X Y rm sc F pc lv st μ kc ks := by
  subst hl
  intro p l e s m args below meth c b base D cI cZ H locs ls hC hK hZ hb hM hS hL
  obtain ⟨q, hq⟩ := List.getElem?_of_mem (zls_mem.mpr ⟨_, hx, rfl, rfl⟩ : (k, zr base b (.int x)) ∈ zls base b lv)
  exact lv_iinc (lv' := _) hC.1 hC.2.1 hd (zL_has hL) hq hv (by rw [← hL.1]; exact (List.getElem?_eq_some_iff.mp hx).1) rfl (fun ls' h' => K p l e s m args below meth c b base D cI cZ H locs ls' hC hK hZ hb hM hS (zL_set (v := .int v) hL rfl h'))
theorem x_iadd {x y : Int32} (hd : decode Y.2.1 pc = .ok (.iadd, 1)) (K : X Y rm sc F (pc + 1) lv (.int (x + y) :: st) μ kc ks) : X Y rm sc F pc lv (.int y :: .int x :: st) μ kc ks :=
  fun p l e s m args below meth c b base D cI cZ H locs ls hC hK hZ hb hM hS hL => lv_iadd hC.1 hC.2.1 hd (K p l e s m args below meth c b base D cI cZ H locs ls hC hK hZ hb hM hS hL)
theorem x_isub {x y : Int32} (hd : decode Y.2.1 pc = .ok (.isub, 1)) (K : X Y rm sc F (pc + 1) lv (.int (x - y) :: st) μ kc ks) : X Y rm sc F pc lv (.int y :: .int x :: st) μ kc ks :=
  fun p l e s m args below meth c b base D cI cZ H locs ls hC hK hZ hb hM hS hL => lv_isub hC.1 hC.2.1 hd (K p l e s m args below meth c b base D cI cZ H locs ls hC hK hZ hb hM hS hL)
theorem x_imul {x y : Int32} (hd : decode Y.2.1 pc = .ok (.imul, 1)) (K : X Y rm sc F (pc + 1) lv (.int (x * y) :: st) μ kc ks) : X Y rm sc F pc lv (.int y :: .int x :: st) μ kc ks :=
  fun p l e s m args below meth c b base D cI cZ H locs ls hC hK hZ hb hM hS hL => lv_imul hC.1 hC.2.1 hd (K p l e s m args below meth c b base D cI cZ H locs ls hC hK hZ hb hM hS hL)
theorem x_iand {x y : Int32} (hd : decode Y.2.1 pc = .ok (.iand, 1)) (K : X Y rm sc F (pc + 1) lv (.int (x &&& y) :: st) μ kc ks) : X Y rm sc F pc lv (.int y :: .int x :: st) μ kc ks :=
  fun p l e s m args below meth c b base D cI cZ H locs ls hC hK hZ hb hM hS hL => lv_iand hC.1 hC.2.1 hd (K p l e s m args below meth c b base D cI cZ H locs ls hC hK hZ hb hM hS hL)
theorem x_ior {x y : Int32} (hd : decode Y.2.1 pc = .ok (.ior, 1)) (K : X Y rm sc F (pc + 1) lv (.int (x ||| y) :: st) μ kc ks) : X Y rm sc F pc lv (.int y :: .int x :: st) μ kc ks :=
  fun p l e s m args below meth c b base D cI cZ H locs ls hC hK hZ hb hM hS hL => lv_ior hC.1 hC.2.1 hd (K p l e s m args below meth c b base D cI cZ H locs ls hC hK hZ hb hM hS hL)
theorem x_ixor {x y : Int32} (hd : decode Y.2.1 pc = .ok (.ixor, 1)) (K : X Y rm sc F (pc + 1) lv (.int (x ^^^ y) :: st) μ kc ks) : X Y rm sc F pc lv (.int y :: .int x :: st) μ kc ks :=
  fun p l e s m args below meth c b base D cI cZ H locs ls hC hK hZ hb hM hS hL => lv_ixor hC.1 hC.2.1 hd (K p l e s m args below meth c b base D cI cZ H locs ls hC hK hZ hb hM hS hL)
theorem x_ishl {x y : Int32} (hd : decode Y.2.1 pc = .ok (.ishl, 1)) (K : X Y rm sc F (pc + 1) lv (.int (x <<< (y &&& 31)) :: st) μ kc ks) : X Y rm sc F pc lv (.int y :: .int x :: st) μ kc ks :=
  fun p l e s m args below meth c b base D cI cZ H locs ls hC hK hZ hb hM hS hL => lv_ishl hC.1 hC.2.1 hd (K p l e s m args below meth c b base D cI cZ H locs ls hC hK hZ hb hM hS hL)
theorem x_ishr {x y : Int32} (hd : decode Y.2.1 pc = .ok (.ishr, 1)) (K : X Y rm sc F (pc + 1) lv (.int (x >>> (y &&& 31)) :: st) μ kc ks) : X Y rm sc F pc lv (.int y :: .int x :: st) μ kc ks :=
  fun p l e s m args below meth c b base D cI cZ H locs ls hC hK hZ hb hM hS hL => lv_ishr hC.1 hC.2.1 hd (K p l e s m args below meth c b base D cI cZ H locs ls hC hK hZ hb hM hS hL)
theorem x_iushr {x y v : Int32} (hd : decode Y.2.1 pc = .ok (.iushr, 1)) (hv : (x.toUInt32 >>> (y.toUInt32 &&& Int32.toUInt32 31)).toInt32 = v) (K : X Y rm sc F (pc + 1) lv (.int v :: st) μ kc ks) : X Y rm sc F pc lv (.int y :: .int x :: st) μ kc ks :=
  fun p l e s m args below meth c b base D cI cZ H locs ls hC hK hZ hb hM hS hL => lv_iushr hC.1 hC.2.1 hd hv (K p l e s m args below meth c b base D cI cZ H locs ls hC hK hZ hb hM hS hL)
theorem x_ineg {x : Int32} (hd : decode Y.2.1 pc = .ok (.ineg, 1)) (K : X Y rm sc F (pc + 1) lv (.int (-x) :: st) μ kc ks) : X Y rm sc F pc lv (.int x :: st) μ kc ks :=
  fun p l e s m args below meth c b base D cI cZ H locs ls hC hK hZ hb hM hS hL => lv_ineg hC.1 hC.2.1 hd (K p l e s m args below meth c b base D cI cZ H locs ls hC hK hZ hb hM hS hL)
theorem x_dup {v : Value} (hd : decode Y.2.1 pc = .ok (.dup, 1)) (hv : v.category = 1) (K : X Y rm sc F (pc + 1) lv (v :: v :: st) μ kc ks) : X Y rm sc F pc lv (v :: st) μ kc ks :=
  fun p l e s m args below meth c b base D cI cZ H locs ls hC hK hZ hb hM hS hL => lv_dup hC.1 hC.2.1 hd (zr_cat hv) (K p l e s m args below meth c b base D cI cZ H locs ls hC hK hZ hb hM hS hL)
theorem x_dup2 {v w : Value} (hd : decode Y.2.1 pc = .ok (.dup2, 1)) (hv : v.category = 1) (hw : w.category = 1) (K : X Y rm sc F (pc + 1) lv (v :: w :: v :: w :: st) μ kc ks) : X Y rm sc F pc lv (v :: w :: st) μ kc ks :=
  fun p l e s m args below meth c b base D cI cZ H locs ls hC hK hZ hb hM hS hL => lv_dup2_11 hC.1 hC.2.1 hd (zr_cat hv) (zr_cat hw) (K p l e s m args below meth c b base D cI cZ H locs ls hC hK hZ hb hM hS hL)
theorem x_if_eq {x : Int32} {off : Int} {tgt : Nat} (hd : decode Y.2.1 pc = .ok (.ifCond .eq off, 3)) (ht : (pc : Int) + off = (tgt : Int)) (kt : x = 0 → X Y rm sc F tgt lv st μ kc ks) (kf : ¬ x = 0 → X Y rm sc F (pc + 3) lv st μ kc ks) : X Y rm sc F pc lv (.int x :: st) μ kc ks :=
  fun p l e s m args below meth c b base D cI cZ H locs ls hC hK hZ hb hM hS hL => lv_if_eq hC.1 hC.2.1 hd ht (fun h => kt h p l e s m args below meth c b base D cI cZ H locs ls hC hK hZ hb hM hS hL) (fun h => kf h p l e s m args below meth c b base D cI cZ H locs ls hC hK hZ hb hM hS hL)
theorem x_icmp_eq {x y : Int32} {off : Int} {tgt : Nat} (hd : decode Y.2.1 pc = .ok (.if_icmp .eq off, 3)) (ht : (pc : Int) + off = (tgt : Int)) (kt : x = y → X Y rm sc F tgt lv st μ kc ks) (kf : ¬ x = y → X Y rm sc F (pc + 3) lv st μ kc ks) : X Y rm sc F pc lv (.int y :: .int x :: st) μ kc ks :=
  fun p l e s m args below meth c b base D cI cZ H locs ls hC hK hZ hb hM hS hL => lv_icmp_eq hC.1 hC.2.1 hd ht (fun h => kt h p l e s m args below meth c b base D cI cZ H locs ls hC hK hZ hb hM hS hL) (fun h => kf h p l e s m args below meth c b base D cI cZ H locs ls hC hK hZ hb hM hS hL)
theorem x_if_ne {x : Int32} {off : Int} {tgt : Nat} (hd : decode Y.2.1 pc = .ok (.ifCond .ne off, 3)) (ht : (pc : Int) + off = (tgt : Int)) (kt : ¬ x = 0 → X Y rm sc F tgt lv st μ kc ks) (kf : x = 0 → X Y rm sc F (pc + 3) lv st μ kc ks) : X Y rm sc F pc lv (.int x :: st) μ kc ks :=
  fun p l e s m args below meth c b base D cI cZ H locs ls hC hK hZ hb hM hS hL => lv_if_ne hC.1 hC.2.1 hd ht (fun h => kt h p l e s m args below meth c b base D cI cZ H locs ls hC hK hZ hb hM hS hL) (fun h => kf h p l e s m args below meth c b base D cI cZ H locs ls hC hK hZ hb hM hS hL)
theorem x_icmp_ne {x y : Int32} {off : Int} {tgt : Nat} (hd : decode Y.2.1 pc = .ok (.if_icmp .ne off, 3)) (ht : (pc : Int) + off = (tgt : Int)) (kt : ¬ x = y → X Y rm sc F tgt lv st μ kc ks) (kf : x = y → X Y rm sc F (pc + 3) lv st μ kc ks) : X Y rm sc F pc lv (.int y :: .int x :: st) μ kc ks :=
  fun p l e s m args below meth c b base D cI cZ H locs ls hC hK hZ hb hM hS hL => lv_icmp_ne hC.1 hC.2.1 hd ht (fun h => kt h p l e s m args below meth c b base D cI cZ H locs ls hC hK hZ hb hM hS hL) (fun h => kf h p l e s m args below meth c b base D cI cZ H locs ls hC hK hZ hb hM hS hL)
theorem x_if_lt {x : Int32} {off : Int} {tgt : Nat} (hd : decode Y.2.1 pc = .ok (.ifCond .lt off, 3)) (ht : (pc : Int) + off = (tgt : Int)) (kt : x < 0 → X Y rm sc F tgt lv st μ kc ks) (kf : ¬ x < 0 → X Y rm sc F (pc + 3) lv st μ kc ks) : X Y rm sc F pc lv (.int x :: st) μ kc ks :=
  fun p l e s m args below meth c b base D cI cZ H locs ls hC hK hZ hb hM hS hL => lv_if_lt hC.1 hC.2.1 hd ht (fun h => kt h p l e s m args below meth c b base D cI cZ H locs ls hC hK hZ hb hM hS hL) (fun h => kf h p l e s m args below meth c b base D cI cZ H locs ls hC hK hZ hb hM hS hL)
theorem x_icmp_lt {x y : Int32} {off : Int} {tgt : Nat} (hd : decode Y.2.1 pc = .ok (.if_icmp .lt off, 3)) (ht : (pc : Int) + off = (tgt : Int)) (kt : x < y → X Y rm sc F tgt lv st μ kc ks) (kf : ¬ x < y → X Y rm sc F (pc + 3) lv st μ kc ks) : X Y rm sc F pc lv (.int y :: .int x :: st) μ kc ks :=
  fun p l e s m args below meth c b base D cI cZ H locs ls hC hK hZ hb hM hS hL => lv_icmp_lt hC.1 hC.2.1 hd ht (fun h => kt h p l e s m args below meth c b base D cI cZ H locs ls hC hK hZ hb hM hS hL) (fun h => kf h p l e s m args below meth c b base D cI cZ H locs ls hC hK hZ hb hM hS hL)
theorem x_if_ge {x : Int32} {off : Int} {tgt : Nat} (hd : decode Y.2.1 pc = .ok (.ifCond .ge off, 3)) (ht : (pc : Int) + off = (tgt : Int)) (kt : 0 ≤ x → X Y rm sc F tgt lv st μ kc ks) (kf : ¬ 0 ≤ x → X Y rm sc F (pc + 3) lv st μ kc ks) : X Y rm sc F pc lv (.int x :: st) μ kc ks :=
  fun p l e s m args below meth c b base D cI cZ H locs ls hC hK hZ hb hM hS hL => lv_if_ge hC.1 hC.2.1 hd ht (fun h => kt h p l e s m args below meth c b base D cI cZ H locs ls hC hK hZ hb hM hS hL) (fun h => kf h p l e s m args below meth c b base D cI cZ H locs ls hC hK hZ hb hM hS hL)
theorem x_icmp_ge {x y : Int32} {off : Int} {tgt : Nat} (hd : decode Y.2.1 pc = .ok (.if_icmp .ge off, 3)) (ht : (pc : Int) + off = (tgt : Int)) (kt : y ≤ x → X Y rm sc F tgt lv st μ kc ks) (kf : ¬ y ≤ x → X Y rm sc F (pc + 3) lv st μ kc ks) : X Y rm sc F pc lv (.int y :: .int x :: st) μ kc ks :=
  fun p l e s m args below meth c b base D cI cZ H locs ls hC hK hZ hb hM hS hL => lv_icmp_ge hC.1 hC.2.1 hd ht (fun h => kt h p l e s m args below meth c b base D cI cZ H locs ls hC hK hZ hb hM hS hL) (fun h => kf h p l e s m args below meth c b base D cI cZ H locs ls hC hK hZ hb hM hS hL)
theorem x_if_gt {x : Int32} {off : Int} {tgt : Nat} (hd : decode Y.2.1 pc = .ok (.ifCond .gt off, 3)) (ht : (pc : Int) + off = (tgt : Int)) (kt : 0 < x → X Y rm sc F tgt lv st μ kc ks) (kf : ¬ 0 < x → X Y rm sc F (pc + 3) lv st μ kc ks) : X Y rm sc F pc lv (.int x :: st) μ kc ks :=
  fun p l e s m args below meth c b base D cI cZ H locs ls hC hK hZ hb hM hS hL => lv_if_gt hC.1 hC.2.1 hd ht (fun h => kt h p l e s m args below meth c b base D cI cZ H locs ls hC hK hZ hb hM hS hL) (fun h => kf h p l e s m args below meth c b base D cI cZ H locs ls hC hK hZ hb hM hS hL)
theorem x_icmp_gt {x y : Int32} {off : Int} {tgt : Nat} (hd : decode Y.2.1 pc = .ok (.if_icmp .gt off, 3)) (ht : (pc : Int) + off = (tgt : Int)) (kt : y < x → X Y rm sc F tgt lv st μ kc ks) (kf : ¬ y < x → X Y rm sc F (pc + 3) lv st μ kc ks) : X Y rm sc F pc lv (.int y :: .int x :: st) μ kc ks :=
  fun p l e s m args below meth c b base D cI cZ H locs ls hC hK hZ hb hM hS hL => lv_icmp_gt hC.1 hC.2.1 hd ht (fun h => kt h p l e s m args below meth c b base D cI cZ H locs ls hC hK hZ hb hM hS hL) (fun h => kf h p l e s m args below meth c b base D cI cZ H locs ls hC hK hZ hb hM hS hL)
theorem x_if_le {x : Int32} {off : Int} {tgt : Nat} (hd : decode Y.2.1 pc = .ok (.ifCond .le off, 3)) (ht : (pc : Int) + off = (tgt : Int)) (kt : x ≤ 0 → X Y rm sc F tgt lv st μ kc ks) (kf : ¬ x ≤ 0 → X Y rm sc F (pc + 3) lv st μ kc ks) : X Y rm sc F pc lv (.int x :: st) μ kc ks :=
  fun p l e s m args below meth c b base D cI cZ H locs ls hC hK hZ hb hM hS hL => lv_if_le hC.1 hC.2.1 hd ht (fun h => kt h p l e s m args below meth c b base D cI cZ H locs ls hC hK hZ hb hM hS hL) (fun h => kf h p l e s m args below meth c b base D cI cZ H locs ls hC hK hZ hb hM hS hL)
theorem x_icmp_le {x y : Int32} {off : Int} {tgt : Nat} (hd : decode Y.2.1 pc = .ok (.if_icmp .le off, 3)) (ht : (pc : Int) + off = (tgt : Int)) (kt : x ≤ y → X Y rm sc F tgt lv st μ kc ks) (kf : ¬ x ≤ y → X Y rm sc F (pc + 3) lv st μ kc ks) : X Y rm sc F pc lv (.int y :: .int x :: st) μ kc ks :=
  fun p l e s m args below meth c b base D cI cZ H locs ls hC hK hZ hb hM hS hL => lv_icmp_le hC.1 hC.2.1 hd ht (fun h => kt h p l e s m args below meth c b base D cI cZ H locs ls hC hK hZ hb hM hS hL) (fun h => kf h p l e s m args below meth c b base D cI cZ H locs ls hC hK hZ hb hM hS hL)
theorem x_goto {off : Int} {tgt : Nat} (hd : decode Y.2.1 pc = .ok (.goto off, 3)) (ht : (pc : Int) + off = (tgt : Int)) (K : X Y rm sc F tgt lv st μ kc ks) : X Y rm sc F pc lv st μ kc ks :=
  fun p l e s m args below meth c b base D cI cZ H locs ls hC hK hZ hb hM hS hL => lv_goto hC.1 hC.2.1 hd ht (K p l e s m args below meth c b base D cI cZ H locs ls hC hK hZ hb hM hS hL)
theorem x_sw_out {dflt lo hi : Int} {offs : Array Int} {len : Nat} {x : Int32} {tgt : Nat} (hd : decode Y.2.1 pc = .ok (.tableswitch dflt lo hi offs, len)) (h : x.toInt < lo ∨ hi < x.toInt) (ht : (pc : Int) + dflt = (tgt : Int)) (K : X Y rm sc F tgt lv st μ kc ks) : X Y rm sc F pc lv (.int x :: st) μ kc ks :=
  fun p l e s m args below meth c b base D cI cZ H locs ls hC hK hZ hb hM hS hL => lv_tableOut hC.1 hC.2.1 hd h ht (K p l e s m args below meth c b base D cI cZ H locs ls hC hK hZ hb hM hS hL)
theorem x_sw_in {dflt lo hi : Int} {offs : Array Int} {len : Nat} {x : Int32} {off : Int} {tgt : Nat} (hd : decode Y.2.1 pc = .ok (.tableswitch dflt lo hi offs, len)) (h1 : ¬ x.toInt < lo) (h2 : ¬ hi < x.toInt) (ho : offs[(x.toInt - lo).toNat]? = some off) (ht : (pc : Int) + off = (tgt : Int)) (K : X Y rm sc F tgt lv st μ kc ks) : X Y rm sc F pc lv (.int x :: st) μ kc ks :=
  fun p l e s m args below meth c b base D cI cZ H locs ls hC hK hZ hb hM hS hL => lv_tableIn hC.1 hC.2.1 hd h1 h2 ho ht (K p l e s m args below meth c b base D cI cZ H locs ls hC hK hZ hb hM hS hL)
/-- fewer known locals -/
theorem x_drop {lv' : List Value} (hl : lv'.length = lv.length) (hc : ∀ v ∈ lv', v.category = 1) (hs : ∀ (i : Nat) (v : Value), lv'[i]? = some v → zknown v = true → lv[i]? = some v) (K : X Y rm sc F pc lv' st μ kc ks) : X Y rm sc F pc lv st μ kc ks :=
  fun p l e s m args below meth c b base D cI cZ H locs ls hC hK hZ hb hM hS hL => K p l e s m args below meth c b base D cI cZ H locs ls hC hK hZ hb hM hS (zL_drop hL hl hc hs)
theorem x_get {i k ci j N : Nat} {C ref nm ds : String} {T : u_T} {fs : List Value} {v : Value} (hd : decode Y.2.1 pc = .ok (.getfield i, 3)) (hw : Cond.fieldLink Y.2.2.2.2 i ref nm ds ∈ zt) (hm : μ[k]? = some (.inr (ci, fs))) (hc : zcl[ci]? = some (C, T, N)) (hj : j < N) (hT : ((T j).1, (T j).2.1, (T j).2.2.1) = (ref, nm, ds)) (hv : fs[j]? = some v) (ho : zok v = true) (K : X Y rm sc F (pc + 3) lv (v :: st) μ kc ks) : X Y rm sc F pc lv (.ref k :: st) μ kc ks := by
  intro p l e s m args below meth c b base D cI cZ H locs ls hC hK hZ hb hM hS hL
  have e1 : (T j).1 = ref := congrArg (fun q : String × String × String => q.1) hT
  have e2 : (T j).2.1 = nm := congrArg (fun q : String × String × String => q.2.1) hT
  have e3 : (T j).2.2.1 = ds := congrArg (fun q : String × String × String => q.2.2) hT
  subst e1 e2 e3
  refine va_get (D := D) (ci := ci) (v := zr base b v) (C := C) (T := T) (N := N) (ref := (T j).1) hC.1 hC.2.1 hC.2.2.2.2.1 (zcl_in ci _ hc) hC.2.2.2.1 hK.1 hM.2 k (zw_get hm) hc j hj (hC.2.2.2.2.1 _ hw) (fun _ h => h) ?_ hd (K p l e s m args below meth c b base D cI cZ H locs ls hC hK hZ hb hM hS hL)
  rw [List.getElem?_map, hv, zr_ok ho base b 0]; rfl
end XR
