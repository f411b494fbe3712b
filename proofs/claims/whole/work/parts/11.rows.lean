/-! THE JUDGEMENT T: method y (its code cc, nL locals, return type ret, exception table hh, room R) stands at pc with locals L, operand stack st, in the pure world σ, having made 'cells' cells of 'slots' slots: it comes to its end with Q (answer, world) or throws with QX (class, world) -/
def Cx (l : Launch) (y : MethodName) (cc : ByteArray) (nL : Nat) (ret : Option FieldType) (hh : List (Nat × Nat × Nat × Nat)) (p : Program) (s : State) (m : MethodId) (args : Array Value) (meth : Method) (c : Code) : Prop :=
  p.tables.exec = Jvm.exec ∧ c.code = cc ∧ c.maxLocals = nL ∧ meth.sig.returnType = ret ∧ meth.locks = false ∧ meth.name = y.name ∧ s.vm.findClass y.cls = some m.cls ∧ (∀ w ∈ WT, w.before args s = true) ∧ c.exceptionTable.toList = tableOf hh ∧ l.stackTraces = false
def Po (D : va_G) (dA : Nat → ClassId) (ad0 : Nat → Nat) (σ0 : Wd) (Q : Option Value → Wd → Prop) : Array Value → State → Outcome → State → Prop := fun _ st oc t =>
  (∃ (ad : Nat → Nat) (σ : Wd) (r : Option Value), oc = .returned (r.map (vmv ad)) ∧ Q r σ ∧ Sr D dA ad0 σ0 st.heap.size ad σ t.heap ∧ ∀ v, r = some v → inD σ v) ∧ va_F (AA ad0 σ0 st.heap.size) st t
def PoX (D : va_G) (dA : Nat → ClassId) (ad0 : Nat → Nat) (σ0 : Wd) (QX : String → Wd → Prop) : String → State → State → Prop := fun E st t =>
  (∃ (ad : Nat → Nat) (σ : Wd), QX E σ ∧ Sr D dA ad0 σ0 st.heap.size ad σ t.heap) ∧ va_F (AA ad0 σ0 st.heap.size) st t
/-- the locals -/
def lget (L : List (Option Value)) (i : Nat) : Option Value := match L[i]? with
  | some (some v) => some v
  | _ => none
def lcl (L : List (Option Value)) (i : Nat) : List (Option Value) := match i with
  | 0 => L
  | k + 1 => match lget L k with
    | some v => bif Nat.beq v.category 2 then L.set k none else L
    | none => L
def lset (L : List (Option Value)) (i : Nat) (v : Value) : List (Option Value) := (lcl L i).set i (some v)
def lset2 (L : List (Option Value)) (i : Nat) (v : Value) : List (Option Value) := ((lcl L i).set i (some v)).set (i + 1) none
def Lr (ad : Nat → Nat) (ls : Array Slot) (nL : Nat) (L : List (Option Value)) : Prop := ls.size = nL ∧ lv_wf ls ∧ ∀ i v, lget L i = some v → ls[i]? = some (.val (vmv ad v))
def clL (σ : Wd) (L : List (Option Value)) : Prop := ∀ i v, lget L i = some v → inD σ v
def T (y : MethodName) (cc : ByteArray) (nL : Nat) (ret : Option FieldType) (hh : List (Nat × Nat × Nat × Nat)) (R : Room) (Q : Option Value → Wd → Prop) (QX : String → Wd → Prop) (pc : Nat) (L : List (Option Value)) (st : List Value) (σ : Wd) (cells slots : Nat) : Prop :=
  ∀ (l : Launch) (p : Program) (e : Env) (s : State) (m : MethodId) (args : Array Value) (below : List Frame) (meth : Method) (c : Code), Cx l y cc nL ret hh p s m args meth c →
  ∀ (D : va_G) (dA : Nat → ClassId) (ad0 : Nat → Nat) (σ0 : Wd), Kx D dA (AA ad0 σ0 s.heap.size) s s.heap →
  ∀ (ad : Nat → Nat) (H : Heap) (locs : List Loc) (ls : Array Slot), Sr D dA ad0 σ0 s.heap.size ad σ H → va_S (AA ad0 σ0 s.heap.size) s.heap H locs → Lr ad ls nL L → clL σ L → clS σ st →
  W p l e R s m args below meth c H locs cells slots (vx_MQ below (Po D dA ad0 σ0 Q) (PoX D dA ad0 σ0 QX) args s R.cells R.slots (AA ad0 σ0 s.heap.size)) (F0 m pc ls (st.map (vmv ad)))
/-- .. and where an exception of class E has come out of a call at pc -/
def TX (y : MethodName) (cc : ByteArray) (nL : Nat) (ret : Option FieldType) (hh : List (Nat × Nat × Nat × Nat)) (R : Room) (Q : Option Value → Wd → Prop) (QX : String → Wd → Prop) (pc : Nat) (L : List (Option Value)) (E : String) (σ : Wd) (cells slots : Nat) : Prop :=
  ∀ (l : Launch) (p : Program) (e : Env) (s : State) (m : MethodId) (args : Array Value) (below : List Frame) (meth : Method) (c : Code), Cx l y cc nL ret hh p s m args meth c →
  ∀ (D : va_G) (dA : Nat → ClassId) (ad0 : Nat → Nat) (σ0 : Wd), Kx D dA (AA ad0 σ0 s.heap.size) s s.heap →
  ∀ (ad : Nat → Nat) (H : Heap) (locs : List Loc) (ls : Array Slot) (rest : List Value) (q : Addr) (ce : Cell), Sr D dA ad0 σ0 s.heap.size ad σ H → va_S (AA ad0 σ0 s.heap.size) s.heap H locs → Lr ad ls nL L → clL σ L → H[q]? = some ce → ce.vm = .none → s.vm.findClass E = some ce.cls →
  vx_W p l e R s m args below meth c H locs cells slots (vx_MQ below (Po D dA ad0 σ0 Q) (PoX D dA ad0 σ0 QX) args s R.cells R.slots (AA ad0 σ0 s.heap.size)) (F0 m pc ls rest) q
theorem lget_set {L : List (Option Value)} {i j : Nat} {o : Option Value} {v : Value} (h : lget (L.set i o) j = some v) : (j = i ∧ o = some v) ∨ (j ≠ i ∧ lget L j = some v) := by
  unfold lget at h ⊢
  by_cases e : j = i
  · subst e
    by_cases hl : j < L.length
    · rw [List.getElem?_set_self hl] at h
      cases o with
      | none => cases h
      | some u => exact Or.inl ⟨rfl, h⟩
    · rw [List.getElem?_eq_none (by rw [List.length_set]; omega)] at h
      cases h
  · rw [List.getElem?_set_ne (Ne.symm e)] at h
    exact Or.inr ⟨e, h⟩
theorem lget_lcl {L : List (Option Value)} {i j : Nat} {v : Value} (h : lget (lcl L i) j = some v) : lget L j = some v ∧ ¬ (j + 1 = i ∧ v.category = 2) := by
  cases i with
  | zero => exact ⟨h, fun e => by omega⟩
  | succ k =>
    unfold lcl at h
    cases hg : lget L k with
    | none =>
      simp only [hg] at h
      refine ⟨h, fun e => ?_⟩
      have : j = k := by omega
      subst this
      rw [hg] at h; cases h
    | some u =>
      simp only [hg] at h
      cases hc : Nat.beq u.category 2 with
      | true =>
        rw [hc] at h
        rcases lget_set h with ⟨-, h2⟩ | ⟨h1, h2⟩
        · cases h2
        · exact ⟨h2, fun e => h1 (by omega)⟩
      | false =>
        rw [hc] at h
        refine ⟨h, fun e => ?_⟩
        have : j = k := by omega
        subst this
        have h : lget L j = some v := h
        rw [hg] at h
        cases h
        rw [e.2] at hc
        cases hc
theorem vmv_cat (ad : Nat → Nat) (v : Value) : (vmv ad v).category = v.category := by cases v <;> rfl
/-- the listed pairs of the locals, as the kit has them -/
def lpairs (ad : Nat → Nat) (L : List (Option Value)) : List (Nat × Value) := (List.range L.length).filterMap fun i => (lget L i).map fun v => (i, vmv ad v)
theorem lpairs_mem {ad : Nat → Nat} {L : List (Option Value)} {q : Nat × Value} : q ∈ lpairs ad L ↔ ∃ v, lget L q.1 = some v ∧ q.2 = vmv ad v := by
  unfold lpairs
  rw [List.mem_filterMap]
  constructor
  · rintro ⟨i, -, h⟩
    cases hg : lget L i with
    | none => rw [hg] at h; cases h
    | some v => rw [hg] at h; cases h; exact ⟨v, hg, rfl⟩
  · rintro ⟨v, hv, e⟩
    refine ⟨q.1, List.mem_range.mpr ?_, by rw [hv]; exact congrArg some (Prod.ext rfl e.symm)⟩
    by_cases hl : q.1 < L.length
    · exact hl
    · unfold lget at hv
      rw [List.getElem?_eq_none (by omega)] at hv
      cases hv
theorem Lr.has {ad : Nat → Nat} {ls : Array Slot} {nL : Nat} {L : List (Option Value)} (h : Lr ad ls nL L) : lv_has ls nL (lpairs ad L) :=
  ⟨h.1, h.2.1, fun q hq => by obtain ⟨v, h1, h2⟩ := lpairs_mem.mp hq; rw [h2]; exact h.2.2 _ _ h1⟩
theorem Lr.st1 {ad : Nat → Nat} {ls : Array Slot} {nL i : Nat} {L : List (Option Value)} {v w : Value} (hw : w = vmv ad v) (h : lv_has ls nL ((i, w) :: (lpairs ad L).filter (fun q => !(q.1 == i) && !(q.1 + 1 == i && q.2.category == 2)))) : Lr ad ls nL (lset L i v) := by
  refine ⟨h.1, h.2.1, fun j u hu => ?_⟩
  rcases lget_set hu with ⟨h1, h2⟩ | ⟨h1, h2⟩
  · cases h2; rw [h1, ← hw]; exact h.2.2 (i, w) List.mem_cons_self
  · obtain ⟨h3, h4⟩ := lget_lcl h2
    refine h.2.2 (j, vmv ad u) (List.mem_cons_of_mem _ (List.mem_filter.mpr ⟨lpairs_mem.mpr ⟨u, h3, rfl⟩, ?_⟩))
    simp only [Bool.and_eq_true, Bool.not_eq_true', beq_eq_false_iff_ne, ne_eq, Bool.and_eq_false_iff, vmv_cat]
    refine ⟨h1, ?_⟩
    by_cases e : j + 1 = i
    · exact Or.inr fun z => h4 ⟨e, z⟩
    · exact Or.inl e
theorem Lr.st2 {ad : Nat → Nat} {ls : Array Slot} {nL i : Nat} {L : List (Option Value)} {v w : Value} (hw : w = vmv ad v) (h : lv_has ls nL ((i, w) :: (lpairs ad L).filter (fun q => !(q.1 == i) && (!(q.1 == i + 1) && !(q.1 + 1 == i && q.2.category == 2))))) : Lr ad ls nL (lset2 L i v) := by
  refine ⟨h.1, h.2.1, fun j u hu => ?_⟩
  rcases lget_set hu with ⟨h1, h2⟩ | ⟨h0, hu⟩
  · cases h2
  · rcases lget_set hu with ⟨h1, h2⟩ | ⟨h1, h2⟩
    · cases h2; rw [h1, ← hw]; exact h.2.2 (i, w) List.mem_cons_self
    · obtain ⟨h3, h4⟩ := lget_lcl h2
      refine h.2.2 (j, vmv ad u) (List.mem_cons_of_mem _ (List.mem_filter.mpr ⟨lpairs_mem.mpr ⟨u, h3, rfl⟩, ?_⟩))
      simp only [Bool.and_eq_true, Bool.not_eq_true', beq_eq_false_iff_ne, ne_eq, Bool.and_eq_false_iff, vmv_cat]
      refine ⟨h1, h0, ?_⟩
      by_cases e : j + 1 = i
      · exact Or.inr fun z => h4 ⟨e, z⟩
      · exact Or.inl e
theorem clL_set {σ : Wd} {L : List (Option Value)} {i : Nat} {v : Value} (h : clL σ L) (hv : inD σ v) : clL σ (lset L i v) := fun j u hu => by
  rcases lget_set hu with ⟨-, h2⟩ | ⟨-, h2⟩
  · cases h2; exact hv
  · exact h j u (lget_lcl h2).1
theorem clL_set2 {σ : Wd} {L : List (Option Value)} {i : Nat} {v : Value} (h : clL σ L) (hv : inD σ v) : clL σ (lset2 L i v) := fun j u hu => by
  rcases lget_set hu with ⟨-, h2⟩ | ⟨-, h2⟩
  · cases h2
  · rcases lget_set h2 with ⟨-, h2⟩ | ⟨-, h2⟩
    · cases h2; exact hv
    · exact h j u (lget_lcl h2).1
theorem in_i {σ : Wd} {x : Int32} : inD σ (.int x) := fun n e => by cases e
theorem in_l {σ : Wd} {x : Int64} : inD σ (.long x) := fun n e => by cases e
section TR
variable {y : MethodName} {cc : ByteArray} {nL : Nat} {ret : Option FieldType} {hh : List (Nat × Nat × Nat × Nat)} {R : Room} {Q : Option Value → Wd → Prop} {QX : String → Wd → Prop} {pc : Nat} {L : List (Option Value)} {st : List Value} {σ : Wd} {cells slots : Nat}

theorem z_iconst {n : Int} {v : Int32} (d : decode cc pc = .ok (.iconst n, 1)) (hv : Int32.ofInt n = v) (k : T y cc nL ret hh R Q QX (pc + 1) L (.int v :: st) σ cells slots) : T y cc nL ret hh R Q QX pc L st σ cells slots := by
  intro l p e s m args below meth c C D dA ad0 σ0 K ad H locs ls S hS hl hL hst
  refine lv_iconst C.1 C.2.1 d hv ?_
  exact k l p e s m args below meth c C D dA ad0 σ0 K ad H locs ls S hS hl hL (cl_i hst)
theorem z_bipush {n : Int} {v : Int32} (d : decode cc pc = .ok (.bipush n, 2)) (hv : (Int8.ofInt n).toInt32 = v) (k : T y cc nL ret hh R Q QX (pc + 2) L (.int v :: st) σ cells slots) : T y cc nL ret hh R Q QX pc L st σ cells slots := by
  intro l p e s m args below meth c C D dA ad0 σ0 K ad H locs ls S hS hl hL hst
  refine lv_bipush C.1 C.2.1 d hv ?_
  exact k l p e s m args below meth c C D dA ad0 σ0 K ad H locs ls S hS hl hL (cl_i hst)
theorem z_sipush {n : Int} {v : Int32} (d : decode cc pc = .ok (.sipush n, 3)) (hv : (Int16.ofInt n).toInt32 = v) (k : T y cc nL ret hh R Q QX (pc + 3) L (.int v :: st) σ cells slots) : T y cc nL ret hh R Q QX pc L st σ cells slots := by
  intro l p e s m args below meth c C D dA ad0 σ0 K ad H locs ls S hS hl hL hst
  refine lv_sipush C.1 C.2.1 d hv ?_
  exact k l p e s m args below meth c C D dA ad0 σ0 K ad H locs ls S hS hl hL (cl_i hst)
theorem z_lconst {n : Fin 2} {v : Int64} (d : decode cc pc = .ok (.lconst n, 1)) (hv : Int64.ofNat n = v) (k : T y cc nL ret hh R Q QX (pc + 1) L (.long v :: st) σ cells slots) : T y cc nL ret hh R Q QX pc L st σ cells slots := by
  intro l p e s m args below meth c C D dA ad0 σ0 K ad H locs ls S hS hl hL hst
  refine lv_lconst C.1 C.2.1 d hv ?_
  exact k l p e s m args below meth c C D dA ad0 σ0 K ad H locs ls S hS hl hL (cl_l hst)
theorem z_iload_n {k : Fin 4} {x : Int32} (d : decode cc pc = .ok (.iload_n k, 1)) (h : lget L k = some (.int x)) (k : T y cc nL ret hh R Q QX (pc + 1) L (.int x :: st) σ cells slots) : T y cc nL ret hh R Q QX pc L st σ cells slots := by
  intro l p e s m args below meth c C D dA ad0 σ0 K ad H locs ls S hS hl hL hst
  refine lv_iload_n C.1 C.2.1 d rfl (hl.2.2 _ _ h) ?_
  exact k l p e s m args below meth c C D dA ad0 σ0 K ad H locs ls S hS hl hL (cl_i hst)
theorem z_iload {i : Nat} {x : Int32} (d : decode cc pc = .ok (.iload i, 2)) (h : lget L i = some (.int x)) (k : T y cc nL ret hh R Q QX (pc + 2) L (.int x :: st) σ cells slots) : T y cc nL ret hh R Q QX pc L st σ cells slots := by
  intro l p e s m args below meth c C D dA ad0 σ0 K ad H locs ls S hS hl hL hst
  refine lv_iload C.1 C.2.1 d (hl.2.2 _ _ h) ?_
  exact k l p e s m args below meth c C D dA ad0 σ0 K ad H locs ls S hS hl hL (cl_i hst)
theorem z_lload_n {k : Fin 4} {x : Int64} (d : decode cc pc = .ok (.lload_n k, 1)) (h : lget L k = some (.long x)) (k : T y cc nL ret hh R Q QX (pc + 1) L (.long x :: st) σ cells slots) : T y cc nL ret hh R Q QX pc L st σ cells slots := by
  intro l p e s m args below meth c C D dA ad0 σ0 K ad H locs ls S hS hl hL hst
  refine lv_lload_n C.1 C.2.1 d rfl (hl.2.2 _ _ h) ?_
  exact k l p e s m args below meth c C D dA ad0 σ0 K ad H locs ls S hS hl hL (cl_l hst)
theorem z_lload {i : Nat} {x : Int64} (d : decode cc pc = .ok (.lload i, 2)) (h : lget L i = some (.long x)) (k : T y cc nL ret hh R Q QX (pc + 2) L (.long x :: st) σ cells slots) : T y cc nL ret hh R Q QX pc L st σ cells slots := by
  intro l p e s m args below meth c C D dA ad0 σ0 K ad H locs ls S hS hl hL hst
  refine lv_lload C.1 C.2.1 d (hl.2.2 _ _ h) ?_
  exact k l p e s m args below meth c C D dA ad0 σ0 K ad H locs ls S hS hl hL (cl_l hst)
theorem z_aload_n {k : Fin 4} {x : Nat} (d : decode cc pc = .ok (.aload_n k, 1)) (h : lget L k = some (.ref x)) (k : T y cc nL ret hh R Q QX (pc + 1) L (.ref x :: st) σ cells slots) : T y cc nL ret hh R Q QX pc L st σ cells slots := by
  intro l p e s m args below meth c C D dA ad0 σ0 K ad H locs ls S hS hl hL hst
  refine lv_aload_n C.1 C.2.1 d rfl (hl.2.2 _ _ h) ?_
  exact k l p e s m args below meth c C D dA ad0 σ0 K ad H locs ls S hS hl hL (cl_c (hL _ _ h) hst)
theorem z_aload {i : Nat} {x : Nat} (d : decode cc pc = .ok (.aload i, 2)) (h : lget L i = some (.ref x)) (k : T y cc nL ret hh R Q QX (pc + 2) L (.ref x :: st) σ cells slots) : T y cc nL ret hh R Q QX pc L st σ cells slots := by
  intro l p e s m args below meth c C D dA ad0 σ0 K ad H locs ls S hS hl hL hst
  refine lv_aload C.1 C.2.1 d (hl.2.2 _ _ h) ?_
  exact k l p e s m args below meth c C D dA ad0 σ0 K ad H locs ls S hS hl hL (cl_c (hL _ _ h) hst)
theorem z_istore_n {k : Fin 4} {x : Int32} (d : decode cc pc = .ok (.istore_n k, 1)) (hn : (k : Nat) < nL) (k' : T y cc nL ret hh R Q QX (pc + 1) (lset L k (.int x)) st σ cells slots) : T y cc nL ret hh R Q QX pc L (.int x :: st) σ cells slots := by
  intro l p e s m args below meth c C D dA ad0 σ0 K ad H locs ls S hS hl hL hst
  refine lv_istore_n C.1 C.2.1 d rfl hl.has hn rfl (fun ls hl => ?_)
  exact k' l p e s m args below meth c C D dA ad0 σ0 K ad H locs ls S hS (Lr.st1 rfl hl) (clL_set hL in_i) (cl_t hst)
theorem z_istore {i : Nat} {x : Int32} (d : decode cc pc = .ok (.istore i, 2)) (hn : i < nL) (k' : T y cc nL ret hh R Q QX (pc + 2) (lset L i (.int x)) st σ cells slots) : T y cc nL ret hh R Q QX pc L (.int x :: st) σ cells slots := by
  intro l p e s m args below meth c C D dA ad0 σ0 K ad H locs ls S hS hl hL hst
  refine lv_istore C.1 C.2.1 d hl.has hn rfl (fun ls hl => ?_)
  exact k' l p e s m args below meth c C D dA ad0 σ0 K ad H locs ls S hS (Lr.st1 rfl hl) (clL_set hL in_i) (cl_t hst)
theorem z_astore_n {k : Fin 4} {x : Nat} (d : decode cc pc = .ok (.astore_n k, 1)) (hn : (k : Nat) < nL) (k' : T y cc nL ret hh R Q QX (pc + 1) (lset L k (.ref x)) st σ cells slots) : T y cc nL ret hh R Q QX pc L (.ref x :: st) σ cells slots := by
  intro l p e s m args below meth c C D dA ad0 σ0 K ad H locs ls S hS hl hL hst
  refine lv_astore_n C.1 C.2.1 d rfl hl.has hn rfl (fun ls hl => ?_)
  exact k' l p e s m args below meth c C D dA ad0 σ0 K ad H locs ls S hS (Lr.st1 rfl hl) (clL_set hL (cl_h hst)) (cl_t hst)
theorem z_astore {i : Nat} {x : Nat} (d : decode cc pc = .ok (.astore i, 2)) (hn : i < nL) (k' : T y cc nL ret hh R Q QX (pc + 2) (lset L i (.ref x)) st σ cells slots) : T y cc nL ret hh R Q QX pc L (.ref x :: st) σ cells slots := by
  intro l p e s m args below meth c C D dA ad0 σ0 K ad H locs ls S hS hl hL hst
  refine lv_astore C.1 C.2.1 d hl.has hn rfl (fun ls hl => ?_)
  exact k' l p e s m args below meth c C D dA ad0 σ0 K ad H locs ls S hS (Lr.st1 rfl hl) (clL_set hL (cl_h hst)) (cl_t hst)
theorem z_lstore_n {k : Fin 4} {x : Int64} (d : decode cc pc = .ok (.lstore_n k, 1)) (hn : (k : Nat) + 1 < nL) (k' : T y cc nL ret hh R Q QX (pc + 1) (lset2 L k (.long x)) st σ cells slots) : T y cc nL ret hh R Q QX pc L (.long x :: st) σ cells slots := by
  intro l p e s m args below meth c C D dA ad0 σ0 K ad H locs ls S hS hl hL hst
  refine lv_lstore_n C.1 C.2.1 d rfl hl.has hn rfl (fun ls hl => ?_)
  exact k' l p e s m args below meth c C D dA ad0 σ0 K ad H locs ls S hS (Lr.st2 rfl hl) (clL_set2 hL in_l) (cl_t hst)
theorem z_lstore {i : Nat} {x : Int64} (d : decode cc pc = .ok (.lstore i, 2)) (hn : i + 1 < nL) (k' : T y cc nL ret hh R Q QX (pc + 2) (lset2 L i (.long x)) st σ cells slots) : T y cc nL ret hh R Q QX pc L (.long x :: st) σ cells slots := by
  intro l p e s m args below meth c C D dA ad0 σ0 K ad H locs ls S hS hl hL hst
  refine lv_lstore C.1 C.2.1 d hl.has hn rfl (fun ls hl => ?_)
  exact k' l p e s m args below meth c C D dA ad0 σ0 K ad H locs ls S hS (Lr.st2 rfl hl) (clL_set2 hL in_l) (cl_t hst)
theorem z_iinc {i : Nat} {n : Int} {x v : Int32} (d : decode cc pc = .ok (.iinc i n, 3)) (h : lget L i = some (.int x)) (hv : x + Int32.ofInt n = v) (hn : i < nL) (k : T y cc nL ret hh R Q QX (pc + 3) (lset L i (.int v)) st σ cells slots) : T y cc nL ret hh R Q QX pc L st σ cells slots := by
  intro l p e s m args below meth c C D dA ad0 σ0 K ad H locs ls S hS hl hL hst
  obtain ⟨z, hz⟩ := List.getElem?_of_mem (lpairs_mem (ad := ad) (q := (i, .int x)) |>.mpr ⟨_, h, rfl⟩)
  refine lv_iinc C.1 C.2.1 d hl.has hz hv hn rfl (fun ls hl => ?_)
  exact k l p e s m args below meth c C D dA ad0 σ0 K ad H locs ls S hS (Lr.st1 rfl hl) (clL_set hL in_i) hst
theorem z_iadd {x y' : Int32} (d : decode cc pc = .ok (.iadd, 1)) (k : T y cc nL ret hh R Q QX (pc + 1) L (.int (x + y') :: st) σ cells slots) : T y cc nL ret hh R Q QX pc L (.int y' :: .int x :: st) σ cells slots := by
  intro l p e s m args below meth c C D dA ad0 σ0 K ad H locs ls S hS hl hL hst
  refine lv_iadd C.1 C.2.1 d ?_
  exact k l p e s m args below meth c C D dA ad0 σ0 K ad H locs ls S hS hl hL (cl_i (cl_t (cl_t hst)))
theorem z_isub {x y' : Int32} (d : decode cc pc = .ok (.isub, 1)) (k : T y cc nL ret hh R Q QX (pc + 1) L (.int (x - y') :: st) σ cells slots) : T y cc nL ret hh R Q QX pc L (.int y' :: .int x :: st) σ cells slots := by
  intro l p e s m args below meth c C D dA ad0 σ0 K ad H locs ls S hS hl hL hst
  refine lv_isub C.1 C.2.1 d ?_
  exact k l p e s m args below meth c C D dA ad0 σ0 K ad H locs ls S hS hl hL (cl_i (cl_t (cl_t hst)))
theorem z_imul {x y' : Int32} (d : decode cc pc = .ok (.imul, 1)) (k : T y cc nL ret hh R Q QX (pc + 1) L (.int (x * y') :: st) σ cells slots) : T y cc nL ret hh R Q QX pc L (.int y' :: .int x :: st) σ cells slots := by
  intro l p e s m args below meth c C D dA ad0 σ0 K ad H locs ls S hS hl hL hst
  refine lv_imul C.1 C.2.1 d ?_
  exact k l p e s m args below meth c C D dA ad0 σ0 K ad H locs ls S hS hl hL (cl_i (cl_t (cl_t hst)))
theorem z_iand {x y' : Int32} (d : decode cc pc = .ok (.iand, 1)) (k : T y cc nL ret hh R Q QX (pc + 1) L (.int (x &&& y') :: st) σ cells slots) : T y cc nL ret hh R Q QX pc L (.int y' :: .int x :: st) σ cells slots := by
  intro l p e s m args below meth c C D dA ad0 σ0 K ad H locs ls S hS hl hL hst
  refine lv_iand C.1 C.2.1 d ?_
  exact k l p e s m args below meth c C D dA ad0 σ0 K ad H locs ls S hS hl hL (cl_i (cl_t (cl_t hst)))
theorem z_ior {x y' : Int32} (d : decode cc pc = .ok (.ior, 1)) (k : T y cc nL ret hh R Q QX (pc + 1) L (.int (x ||| y') :: st) σ cells slots) : T y cc nL ret hh R Q QX pc L (.int y' :: .int x :: st) σ cells slots := by
  intro l p e s m args below meth c C D dA ad0 σ0 K ad H locs ls S hS hl hL hst
  refine lv_ior C.1 C.2.1 d ?_
  exact k l p e s m args below meth c C D dA ad0 σ0 K ad H locs ls S hS hl hL (cl_i (cl_t (cl_t hst)))
theorem z_ixor {x y' : Int32} (d : decode cc pc = .ok (.ixor, 1)) (k : T y cc nL ret hh R Q QX (pc + 1) L (.int (x ^^^ y') :: st) σ cells slots) : T y cc nL ret hh R Q QX pc L (.int y' :: .int x :: st) σ cells slots := by
  intro l p e s m args below meth c C D dA ad0 σ0 K ad H locs ls S hS hl hL hst
  refine lv_ixor C.1 C.2.1 d ?_
  exact k l p e s m args below meth c C D dA ad0 σ0 K ad H locs ls S hS hl hL (cl_i (cl_t (cl_t hst)))
theorem z_ishl {x y' : Int32} (d : decode cc pc = .ok (.ishl, 1)) (k : T y cc nL ret hh R Q QX (pc + 1) L (.int (x <<< (y' &&& 31)) :: st) σ cells slots) : T y cc nL ret hh R Q QX pc L (.int y' :: .int x :: st) σ cells slots := by
  intro l p e s m args below meth c C D dA ad0 σ0 K ad H locs ls S hS hl hL hst
  refine lv_ishl C.1 C.2.1 d ?_
  exact k l p e s m args below meth c C D dA ad0 σ0 K ad H locs ls S hS hl hL (cl_i (cl_t (cl_t hst)))
theorem z_ishr {x y' : Int32} (d : decode cc pc = .ok (.ishr, 1)) (k : T y cc nL ret hh R Q QX (pc + 1) L (.int (x >>> (y' &&& 31)) :: st) σ cells slots) : T y cc nL ret hh R Q QX pc L (.int y' :: .int x :: st) σ cells slots := by
  intro l p e s m args below meth c C D dA ad0 σ0 K ad H locs ls S hS hl hL hst
  refine lv_ishr C.1 C.2.1 d ?_
  exact k l p e s m args below meth c C D dA ad0 σ0 K ad H locs ls S hS hl hL (cl_i (cl_t (cl_t hst)))
theorem z_idiv {x y' : Int32} (d : decode cc pc = .ok (.idiv, 1)) (hne : ¬ y' = 0) (k : T y cc nL ret hh R Q QX (pc + 1) L (.int (x / y') :: st) σ cells slots) : T y cc nL ret hh R Q QX pc L (.int y' :: .int x :: st) σ cells slots := by
  intro l p e s m args below meth c C D dA ad0 σ0 K ad H locs ls S hS hl hL hst
  refine lv_idiv C.1 C.2.1 d hne ?_
  exact k l p e s m args below meth c C D dA ad0 σ0 K ad H locs ls S hS hl hL (cl_i (cl_t (cl_t hst)))
theorem z_irem {x y' : Int32} (d : decode cc pc = .ok (.irem, 1)) (hne : ¬ y' = 0) (k : T y cc nL ret hh R Q QX (pc + 1) L (.int (x - x / y' * y') :: st) σ cells slots) : T y cc nL ret hh R Q QX pc L (.int y' :: .int x :: st) σ cells slots := by
  intro l p e s m args below meth c C D dA ad0 σ0 K ad H locs ls S hS hl hL hst
  refine lv_irem C.1 C.2.1 d hne ?_
  exact k l p e s m args below meth c C D dA ad0 σ0 K ad H locs ls S hS hl hL (cl_i (cl_t (cl_t hst)))
theorem z_ineg {x : Int32} (d : decode cc pc = .ok (.ineg, 1)) (k : T y cc nL ret hh R Q QX (pc + 1) L (.int (-x) :: st) σ cells slots) : T y cc nL ret hh R Q QX pc L (.int x :: st) σ cells slots := by
  intro l p e s m args below meth c C D dA ad0 σ0 K ad H locs ls S hS hl hL hst
  refine lv_ineg C.1 C.2.1 d ?_
  exact k l p e s m args below meth c C D dA ad0 σ0 K ad H locs ls S hS hl hL (cl_i (cl_t hst))
theorem z_ladd {x y' : Int64} (d : decode cc pc = .ok (.ladd, 1)) (k : T y cc nL ret hh R Q QX (pc + 1) L (.long (x + y') :: st) σ cells slots) : T y cc nL ret hh R Q QX pc L (.long y' :: .long x :: st) σ cells slots := by
  intro l p e s m args below meth c C D dA ad0 σ0 K ad H locs ls S hS hl hL hst
  refine lv_ladd C.1 C.2.1 d ?_
  exact k l p e s m args below meth c C D dA ad0 σ0 K ad H locs ls S hS hl hL (cl_l (cl_t (cl_t hst)))
theorem z_lsub {x y' : Int64} (d : decode cc pc = .ok (.lsub, 1)) (k : T y cc nL ret hh R Q QX (pc + 1) L (.long (x - y') :: st) σ cells slots) : T y cc nL ret hh R Q QX pc L (.long y' :: .long x :: st) σ cells slots := by
  intro l p e s m args below meth c C D dA ad0 σ0 K ad H locs ls S hS hl hL hst
  refine lv_lsub C.1 C.2.1 d ?_
  exact k l p e s m args below meth c C D dA ad0 σ0 K ad H locs ls S hS hl hL (cl_l (cl_t (cl_t hst)))
theorem z_lmul {x y' : Int64} (d : decode cc pc = .ok (.lmul, 1)) (k : T y cc nL ret hh R Q QX (pc + 1) L (.long (x * y') :: st) σ cells slots) : T y cc nL ret hh R Q QX pc L (.long y' :: .long x :: st) σ cells slots := by
  intro l p e s m args below meth c C D dA ad0 σ0 K ad H locs ls S hS hl hL hst
  refine lv_lmul C.1 C.2.1 d ?_
  exact k l p e s m args below meth c C D dA ad0 σ0 K ad H locs ls S hS hl hL (cl_l (cl_t (cl_t hst)))
theorem z_land {x y' : Int64} (d : decode cc pc = .ok (.land, 1)) (k : T y cc nL ret hh R Q QX (pc + 1) L (.long (x &&& y') :: st) σ cells slots) : T y cc nL ret hh R Q QX pc L (.long y' :: .long x :: st) σ cells slots := by
  intro l p e s m args below meth c C D dA ad0 σ0 K ad H locs ls S hS hl hL hst
  refine lv_land C.1 C.2.1 d ?_
  exact k l p e s m args below meth c C D dA ad0 σ0 K ad H locs ls S hS hl hL (cl_l (cl_t (cl_t hst)))
theorem z_lor {x y' : Int64} (d : decode cc pc = .ok (.lor, 1)) (k : T y cc nL ret hh R Q QX (pc + 1) L (.long (x ||| y') :: st) σ cells slots) : T y cc nL ret hh R Q QX pc L (.long y' :: .long x :: st) σ cells slots := by
  intro l p e s m args below meth c C D dA ad0 σ0 K ad H locs ls S hS hl hL hst
  refine lv_lor C.1 C.2.1 d ?_
  exact k l p e s m args below meth c C D dA ad0 σ0 K ad H locs ls S hS hl hL (cl_l (cl_t (cl_t hst)))
theorem z_lxor {x y' : Int64} (d : decode cc pc = .ok (.lxor, 1)) (k : T y cc nL ret hh R Q QX (pc + 1) L (.long (x ^^^ y') :: st) σ cells slots) : T y cc nL ret hh R Q QX pc L (.long y' :: .long x :: st) σ cells slots := by
  intro l p e s m args below meth c C D dA ad0 σ0 K ad H locs ls S hS hl hL hst
  refine lv_lxor C.1 C.2.1 d ?_
  exact k l p e s m args below meth c C D dA ad0 σ0 K ad H locs ls S hS hl hL (cl_l (cl_t (cl_t hst)))
theorem z_lshlx {x : Int64} {y' : Int32} (d : decode cc pc = .ok (.lshl, 1)) (k : T y cc nL ret hh R Q QX (pc + 1) L (.long (x <<< (y'.toInt64 &&& 63)) :: st) σ cells slots) : T y cc nL ret hh R Q QX pc L (.int y' :: .long x :: st) σ cells slots := by
  intro l p e s m args below meth c C D dA ad0 σ0 K ad H locs ls S hS hl hL hst
  refine lv_lshl C.1 C.2.1 d rfl ?_
  exact k l p e s m args below meth c C D dA ad0 σ0 K ad H locs ls S hS hl hL (cl_l (cl_t (cl_t hst)))
theorem z_lshrx {x : Int64} {y' : Int32} (d : decode cc pc = .ok (.lshr, 1)) (k : T y cc nL ret hh R Q QX (pc + 1) L (.long (x >>> (y'.toInt64 &&& 63)) :: st) σ cells slots) : T y cc nL ret hh R Q QX pc L (.int y' :: .long x :: st) σ cells slots := by
  intro l p e s m args below meth c C D dA ad0 σ0 K ad H locs ls S hS hl hL hst
  refine lv_lshr C.1 C.2.1 d rfl ?_
  exact k l p e s m args below meth c C D dA ad0 σ0 K ad H locs ls S hS hl hL (cl_l (cl_t (cl_t hst)))
theorem z_lushrx {x : Int64} {y' : Int32} (d : decode cc pc = .ok (.lushr, 1)) (k : T y cc nL ret hh R Q QX (pc + 1) L (.long ((x.toUInt64 >>> (y'.toInt64.toUInt64 &&& Int64.toUInt64 63)).toInt64) :: st) σ cells slots) : T y cc nL ret hh R Q QX pc L (.int y' :: .long x :: st) σ cells slots := by
  intro l p e s m args below meth c C D dA ad0 σ0 K ad H locs ls S hS hl hL hst
  refine lv_lushr C.1 C.2.1 d rfl ?_
  exact k l p e s m args below meth c C D dA ad0 σ0 K ad H locs ls S hS hl hL (cl_l (cl_t (cl_t hst)))
theorem z_i2lx {x : Int32} (d : decode cc pc = .ok (.i2l, 1)) (k : T y cc nL ret hh R Q QX (pc + 1) L (.long x.toInt64 :: st) σ cells slots) : T y cc nL ret hh R Q QX pc L (.int x :: st) σ cells slots := by
  intro l p e s m args below meth c C D dA ad0 σ0 K ad H locs ls S hS hl hL hst
  refine lv_i2l C.1 C.2.1 d rfl ?_
  exact k l p e s m args below meth c C D dA ad0 σ0 K ad H locs ls S hS hl hL (cl_l (cl_t hst))
theorem z_l2ix {x : Int64} (d : decode cc pc = .ok (.l2i, 1)) (k : T y cc nL ret hh R Q QX (pc + 1) L (.int x.toInt32 :: st) σ cells slots) : T y cc nL ret hh R Q QX pc L (.long x :: st) σ cells slots := by
  intro l p e s m args below meth c C D dA ad0 σ0 K ad H locs ls S hS hl hL hst
  refine lv_l2i C.1 C.2.1 d rfl ?_
  exact k l p e s m args below meth c C D dA ad0 σ0 K ad H locs ls S hS hl hL (cl_i (cl_t hst))
theorem z_lcmp {x y' : Int64} (d : decode cc pc = .ok (.lcmp, 1)) (k : T y cc nL ret hh R Q QX (pc + 1) L (.int (lg_cmp x y') :: st) σ cells slots) : T y cc nL ret hh R Q QX pc L (.long y' :: .long x :: st) σ cells slots := by
  intro l p e s m args below meth c C D dA ad0 σ0 K ad H locs ls S hS hl hL hst
  refine W.lcmp C.1 C.2.1 d ?_
  exact k l p e s m args below meth c C D dA ad0 σ0 K ad H locs ls S hS hl hL (cl_i (cl_t (cl_t hst)))
theorem z_dup {v : Value} (d : decode cc pc = .ok (.dup, 1)) (hv : v.category = 1) (k : T y cc nL ret hh R Q QX (pc + 1) L (v :: v :: st) σ cells slots) : T y cc nL ret hh R Q QX pc L (v :: st) σ cells slots := by
  intro l p e s m args below meth c C D dA ad0 σ0 K ad H locs ls S hS hl hL hst
  refine lv_dup C.1 C.2.1 d ((vmv_cat ad v).trans hv) ?_
  exact k l p e s m args below meth c C D dA ad0 σ0 K ad H locs ls S hS hl hL (cl_c (cl_h hst) hst)
theorem z_pop {v : Value} (d : decode cc pc = .ok (.pop, 1)) (hv : v.category = 1) (k : T y cc nL ret hh R Q QX (pc + 1) L st σ cells slots) : T y cc nL ret hh R Q QX pc L (v :: st) σ cells slots := by
  intro l p e s m args below meth c C D dA ad0 σ0 K ad H locs ls S hS hl hL hst
  refine lv_pop C.1 C.2.1 d ((vmv_cat ad v).trans hv) ?_
  exact k l p e s m args below meth c C D dA ad0 σ0 K ad H locs ls S hS hl hL (cl_t hst)
theorem z_dup2 {v u : Value} (d : decode cc pc = .ok (.dup2, 1)) (hv : v.category = 1) (hu : u.category = 1) (k : T y cc nL ret hh R Q QX (pc + 1) L (v :: u :: v :: u :: st) σ cells slots) : T y cc nL ret hh R Q QX pc L (v :: u :: st) σ cells slots := by
  intro l p e s m args below meth c C D dA ad0 σ0 K ad H locs ls S hS hl hL hst
  refine lv_dup2_11 C.1 C.2.1 d ((vmv_cat ad v).trans hv) ((vmv_cat ad u).trans hu) ?_
  exact k l p e s m args below meth c C D dA ad0 σ0 K ad H locs ls S hS hl hL (cl_c (cl_h hst) (cl_c (cl_h (cl_t hst)) hst))
theorem z_null (d : decode cc pc = .ok (.aconst_null, 1)) (k : T y cc nL ret hh R Q QX (pc + 1) L (.null :: st) σ cells slots) : T y cc nL ret hh R Q QX pc L st σ cells slots := by
  intro l p e s m args below meth c C D dA ad0 σ0 K ad H locs ls S hS hl hL hst
  refine lv_null C.1 C.2.1 d ?_
  exact k l p e s m args below meth c C D dA ad0 σ0 K ad H locs ls S hS hl hL (cl_n hst)
theorem z_if_eq {x : Int32} {off : Int} {tgt : Nat} (d : decode cc pc = .ok (.ifCond .eq off, 3)) (ht : (pc : Int) + off = (tgt : Int)) (kt : x = 0 → T y cc nL ret hh R Q QX tgt L st σ cells slots) (kf : ¬ x = 0 → T y cc nL ret hh R Q QX (pc + 3) L st σ cells slots) : T y cc nL ret hh R Q QX pc L (.int x :: st) σ cells slots := by
  intro l p e s m args below meth c C D dA ad0 σ0 K ad H locs ls S hS hl hL hst
  refine lv_if_eq C.1 C.2.1 d ht (fun q => ?_) (fun q => ?_)
  · exact kt q l p e s m args below meth c C D dA ad0 σ0 K ad H locs ls S hS hl hL (cl_t hst)
  · exact kf q l p e s m args below meth c C D dA ad0 σ0 K ad H locs ls S hS hl hL (cl_t hst)
theorem z_icmp_eq {x y' : Int32} {off : Int} {tgt : Nat} (d : decode cc pc = .ok (.if_icmp .eq off, 3)) (ht : (pc : Int) + off = (tgt : Int)) (kt : x = y' → T y cc nL ret hh R Q QX tgt L st σ cells slots) (kf : ¬ x = y' → T y cc nL ret hh R Q QX (pc + 3) L st σ cells slots) : T y cc nL ret hh R Q QX pc L (.int y' :: .int x :: st) σ cells slots := by
  intro l p e s m args below meth c C D dA ad0 σ0 K ad H locs ls S hS hl hL hst
  refine lv_icmp_eq C.1 C.2.1 d ht (fun q => ?_) (fun q => ?_)
  · exact kt q l p e s m args below meth c C D dA ad0 σ0 K ad H locs ls S hS hl hL (cl_t (cl_t hst))
  · exact kf q l p e s m args below meth c C D dA ad0 σ0 K ad H locs ls S hS hl hL (cl_t (cl_t hst))
theorem z_if_ne {x : Int32} {off : Int} {tgt : Nat} (d : decode cc pc = .ok (.ifCond .ne off, 3)) (ht : (pc : Int) + off = (tgt : Int)) (kt : ¬ x = 0 → T y cc nL ret hh R Q QX tgt L st σ cells slots) (kf : x = 0 → T y cc nL ret hh R Q QX (pc + 3) L st σ cells slots) : T y cc nL ret hh R Q QX pc L (.int x :: st) σ cells slots := by
  intro l p e s m args below meth c C D dA ad0 σ0 K ad H locs ls S hS hl hL hst
  refine lv_if_ne C.1 C.2.1 d ht (fun q => ?_) (fun q => ?_)
  · exact kt q l p e s m args below meth c C D dA ad0 σ0 K ad H locs ls S hS hl hL (cl_t hst)
  · exact kf q l p e s m args below meth c C D dA ad0 σ0 K ad H locs ls S hS hl hL (cl_t hst)
theorem z_icmp_ne {x y' : Int32} {off : Int} {tgt : Nat} (d : decode cc pc = .ok (.if_icmp .ne off, 3)) (ht : (pc : Int) + off = (tgt : Int)) (kt : ¬ x = y' → T y cc nL ret hh R Q QX tgt L st σ cells slots) (kf : x = y' → T y cc nL ret hh R Q QX (pc + 3) L st σ cells slots) : T y cc nL ret hh R Q QX pc L (.int y' :: .int x :: st) σ cells slots := by
  intro l p e s m args below meth c C D dA ad0 σ0 K ad H locs ls S hS hl hL hst
  refine lv_icmp_ne C.1 C.2.1 d ht (fun q => ?_) (fun q => ?_)
  · exact kt q l p e s m args below meth c C D dA ad0 σ0 K ad H locs ls S hS hl hL (cl_t (cl_t hst))
  · exact kf q l p e s m args below meth c C D dA ad0 σ0 K ad H locs ls S hS hl hL (cl_t (cl_t hst))
theorem z_if_lt {x : Int32} {off : Int} {tgt : Nat} (d : decode cc pc = .ok (.ifCond .lt off, 3)) (ht : (pc : Int) + off = (tgt : Int)) (kt : x < 0 → T y cc nL ret hh R Q QX tgt L st σ cells slots) (kf : ¬ x < 0 → T y cc nL ret hh R Q QX (pc + 3) L st σ cells slots) : T y cc nL ret hh R Q QX pc L (.int x :: st) σ cells slots := by
  intro l p e s m args below meth c C D dA ad0 σ0 K ad H locs ls S hS hl hL hst
  refine lv_if_lt C.1 C.2.1 d ht (fun q => ?_) (fun q => ?_)
  · exact kt q l p e s m args below meth c C D dA ad0 σ0 K ad H locs ls S hS hl hL (cl_t hst)
  · exact kf q l p e s m args below meth c C D dA ad0 σ0 K ad H locs ls S hS hl hL (cl_t hst)
theorem z_icmp_lt {x y' : Int32} {off : Int} {tgt : Nat} (d : decode cc pc = .ok (.if_icmp .lt off, 3)) (ht : (pc : Int) + off = (tgt : Int)) (kt : x < y' → T y cc nL ret hh R Q QX tgt L st σ cells slots) (kf : ¬ x < y' → T y cc nL ret hh R Q QX (pc + 3) L st σ cells slots) : T y cc nL ret hh R Q QX pc L (.int y' :: .int x :: st) σ cells slots := by
  intro l p e s m args below meth c C D dA ad0 σ0 K ad H locs ls S hS hl hL hst
  refine lv_icmp_lt C.1 C.2.1 d ht (fun q => ?_) (fun q => ?_)
  · exact kt q l p e s m args below meth c C D dA ad0 σ0 K ad H locs ls S hS hl hL (cl_t (cl_t hst))
  · exact kf q l p e s m args below meth c C D dA ad0 σ0 K ad H locs ls S hS hl hL (cl_t (cl_t hst))
theorem z_if_ge {x : Int32} {off : Int} {tgt : Nat} (d : decode cc pc = .ok (.ifCond .ge off, 3)) (ht : (pc : Int) + off = (tgt : Int)) (kt : 0 ≤ x → T y cc nL ret hh R Q QX tgt L st σ cells slots) (kf : ¬ 0 ≤ x → T y cc nL ret hh R Q QX (pc + 3) L st σ cells slots) : T y cc nL ret hh R Q QX pc L (.int x :: st) σ cells slots := by
  intro l p e s m args below meth c C D dA ad0 σ0 K ad H locs ls S hS hl hL hst
  refine lv_if_ge C.1 C.2.1 d ht (fun q => ?_) (fun q => ?_)
  · exact kt q l p e s m args below meth c C D dA ad0 σ0 K ad H locs ls S hS hl hL (cl_t hst)
  · exact kf q l p e s m args below meth c C D dA ad0 σ0 K ad H locs ls S hS hl hL (cl_t hst)
theorem z_icmp_ge {x y' : Int32} {off : Int} {tgt : Nat} (d : decode cc pc = .ok (.if_icmp .ge off, 3)) (ht : (pc : Int) + off = (tgt : Int)) (kt : y' ≤ x → T y cc nL ret hh R Q QX tgt L st σ cells slots) (kf : ¬ y' ≤ x → T y cc nL ret hh R Q QX (pc + 3) L st σ cells slots) : T y cc nL ret hh R Q QX pc L (.int y' :: .int x :: st) σ cells slots := by
  intro l p e s m args below meth c C D dA ad0 σ0 K ad H locs ls S hS hl hL hst
  refine lv_icmp_ge C.1 C.2.1 d ht (fun q => ?_) (fun q => ?_)
  · exact kt q l p e s m args below meth c C D dA ad0 σ0 K ad H locs ls S hS hl hL (cl_t (cl_t hst))
  · exact kf q l p e s m args below meth c C D dA ad0 σ0 K ad H locs ls S hS hl hL (cl_t (cl_t hst))
theorem z_if_gt {x : Int32} {off : Int} {tgt : Nat} (d : decode cc pc = .ok (.ifCond .gt off, 3)) (ht : (pc : Int) + off = (tgt : Int)) (kt : 0 < x → T y cc nL ret hh R Q QX tgt L st σ cells slots) (kf : ¬ 0 < x → T y cc nL ret hh R Q QX (pc + 3) L st σ cells slots) : T y cc nL ret hh R Q QX pc L (.int x :: st) σ cells slots := by
  intro l p e s m args below meth c C D dA ad0 σ0 K ad H locs ls S hS hl hL hst
  refine lv_if_gt C.1 C.2.1 d ht (fun q => ?_) (fun q => ?_)
  · exact kt q l p e s m args below meth c C D dA ad0 σ0 K ad H locs ls S hS hl hL (cl_t hst)
  · exact kf q l p e s m args below meth c C D dA ad0 σ0 K ad H locs ls S hS hl hL (cl_t hst)
theorem z_icmp_gt {x y' : Int32} {off : Int} {tgt : Nat} (d : decode cc pc = .ok (.if_icmp .gt off, 3)) (ht : (pc : Int) + off = (tgt : Int)) (kt : y' < x → T y cc nL ret hh R Q QX tgt L st σ cells slots) (kf : ¬ y' < x → T y cc nL ret hh R Q QX (pc + 3) L st σ cells slots) : T y cc nL ret hh R Q QX pc L (.int y' :: .int x :: st) σ cells slots := by
  intro l p e s m args below meth c C D dA ad0 σ0 K ad H locs ls S hS hl hL hst
  refine lv_icmp_gt C.1 C.2.1 d ht (fun q => ?_) (fun q => ?_)
  · exact kt q l p e s m args below meth c C D dA ad0 σ0 K ad H locs ls S hS hl hL (cl_t (cl_t hst))
  · exact kf q l p e s m args below meth c C D dA ad0 σ0 K ad H locs ls S hS hl hL (cl_t (cl_t hst))
theorem z_if_le {x : Int32} {off : Int} {tgt : Nat} (d : decode cc pc = .ok (.ifCond .le off, 3)) (ht : (pc : Int) + off = (tgt : Int)) (kt : x ≤ 0 → T y cc nL ret hh R Q QX tgt L st σ cells slots) (kf : ¬ x ≤ 0 → T y cc nL ret hh R Q QX (pc + 3) L st σ cells slots) : T y cc nL ret hh R Q QX pc L (.int x :: st) σ cells slots := by
  intro l p e s m args below meth c C D dA ad0 σ0 K ad H locs ls S hS hl hL hst
  refine lv_if_le C.1 C.2.1 d ht (fun q => ?_) (fun q => ?_)
  · exact kt q l p e s m args below meth c C D dA ad0 σ0 K ad H locs ls S hS hl hL (cl_t hst)
  · exact kf q l p e s m args below meth c C D dA ad0 σ0 K ad H locs ls S hS hl hL (cl_t hst)
theorem z_icmp_le {x y' : Int32} {off : Int} {tgt : Nat} (d : decode cc pc = .ok (.if_icmp .le off, 3)) (ht : (pc : Int) + off = (tgt : Int)) (kt : x ≤ y' → T y cc nL ret hh R Q QX tgt L st σ cells slots) (kf : ¬ x ≤ y' → T y cc nL ret hh R Q QX (pc + 3) L st σ cells slots) : T y cc nL ret hh R Q QX pc L (.int y' :: .int x :: st) σ cells slots := by
  intro l p e s m args below meth c C D dA ad0 σ0 K ad H locs ls S hS hl hL hst
  refine lv_icmp_le C.1 C.2.1 d ht (fun q => ?_) (fun q => ?_)
  · exact kt q l p e s m args below meth c C D dA ad0 σ0 K ad H locs ls S hS hl hL (cl_t (cl_t hst))
  · exact kf q l p e s m args below meth c C D dA ad0 σ0 K ad H locs ls S hS hl hL (cl_t (cl_t hst))
theorem z_goto {off : Int} {tgt : Nat} (d : decode cc pc = .ok (.goto off, 3)) (ht : (pc : Int) + off = (tgt : Int)) (k : T y cc nL ret hh R Q QX tgt L st σ cells slots) : T y cc nL ret hh R Q QX pc L st σ cells slots := by
  intro l p e s m args below meth c C D dA ad0 σ0 K ad H locs ls S hS hl hL hst
  refine lv_goto C.1 C.2.1 d ht ?_
  exact k l p e s m args below meth c C D dA ad0 σ0 K ad H locs ls S hS hl hL hst
theorem z_ifnull {x : Nat} {off : Int} (d : decode cc pc = .ok (.ifnull off, 3)) (k : T y cc nL ret hh R Q QX (pc + 3) L st σ cells slots) : T y cc nL ret hh R Q QX pc L (.ref x :: st) σ cells slots := by
  intro l p e s m args below meth c C D dA ad0 σ0 K ad H locs ls S hS hl hL hst
  refine lv_ifnull C.1 C.2.1 d ?_
  exact k l p e s m args below meth c C D dA ad0 σ0 K ad H locs ls S hS hl hL (cl_t hst)
theorem z_ifnullN {off : Int} {tgt : Nat} (d : decode cc pc = .ok (.ifnull off, 3)) (ht : (pc : Int) + off = (tgt : Int)) (k : T y cc nL ret hh R Q QX tgt L st σ cells slots) : T y cc nL ret hh R Q QX pc L (.null :: st) σ cells slots := by
  intro l p e s m args below meth c C D dA ad0 σ0 K ad H locs ls S hS hl hL hst
  refine lv_ifnullN C.1 C.2.1 d ht ?_
  exact k l p e s m args below meth c C D dA ad0 σ0 K ad H locs ls S hS hl hL (cl_t hst)
theorem z_ifnonnull {x : Nat} {off : Int} {tgt : Nat} (d : decode cc pc = .ok (.ifnonnull off, 3)) (ht : (pc : Int) + off = (tgt : Int)) (k : T y cc nL ret hh R Q QX tgt L st σ cells slots) : T y cc nL ret hh R Q QX pc L (.ref x :: st) σ cells slots := by
  intro l p e s m args below meth c C D dA ad0 σ0 K ad H locs ls S hS hl hL hst
  refine lv_ifnonnull C.1 C.2.1 d ht ?_
  exact k l p e s m args below meth c C D dA ad0 σ0 K ad H locs ls S hS hl hL (cl_t hst)
theorem z_ifnonnullN {off : Int} (d : decode cc pc = .ok (.ifnonnull off, 3)) (k : T y cc nL ret hh R Q QX (pc + 3) L st σ cells slots) : T y cc nL ret hh R Q QX pc L (.null :: st) σ cells slots := by
  intro l p e s m args below meth c C D dA ad0 σ0 K ad H locs ls S hS hl hL hst
  refine lv_ifnonnullN C.1 C.2.1 d ?_
  exact k l p e s m args below meth c C D dA ad0 σ0 K ad H locs ls S hS hl hL (cl_t hst)
theorem z_ldc {index : Nat} {v : Int32} (d : decode cc pc = .ok (.ldc index, 2)) (hc : Jvm.Cond.constant y.cls index v ∈ WT) (k : T y cc nL ret hh R Q QX (pc + 2) L (.int v :: st) σ cells slots) : T y cc nL ret hh R Q QX pc L st σ cells slots := by
  intro l p e s m args below meth c C D dA ad0 σ0 K ad H locs ls S hS hl hL hst
  refine lv_ldc C.1 C.2.1 C.2.2.2.2.2.2.1 (C.2.2.2.2.2.2.2.1 _ hc) d ?_
  exact k l p e s m args below meth c C D dA ad0 σ0 K ad H locs ls S hS hl hL (cl_i hst)
theorem z_ldc2 {index : Nat} {v : Int64} (d : decode cc pc = .ok (.ldc2_w index, 3)) (hc : Jvm.Cond.constantLong y.cls index v ∈ WT) (k : T y cc nL ret hh R Q QX (pc + 3) L (.long v :: st) σ cells slots) : T y cc nL ret hh R Q QX pc L st σ cells slots := by
  intro l p e s m args below meth c C D dA ad0 σ0 K ad H locs ls S hS hl hL hst
  refine lv_ldc2 C.1 C.2.1 C.2.2.2.2.2.2.1 (C.2.2.2.2.2.2.2.1 _ hc) d ?_
  exact k l p e s m args below meth c C D dA ad0 σ0 K ad H locs ls S hS hl hL (cl_l hst)
theorem z_tableIn {dflt lo hi : Int} {offs : Array Int} {len : Nat} {x : Int32} {off : Int} {tgt : Nat} (d : decode cc pc = .ok (.tableswitch dflt lo hi offs, len)) (h1 : ¬ x.toInt < lo) (h2 : ¬ hi < x.toInt) (ho : offs[(x.toInt - lo).toNat]? = some off) (ht : (pc : Int) + off = (tgt : Int)) (k : T y cc nL ret hh R Q QX tgt L st σ cells slots) : T y cc nL ret hh R Q QX pc L (.int x :: st) σ cells slots := by
  intro l p e s m args below meth c C D dA ad0 σ0 K ad H locs ls S hS hl hL hst
  refine lv_tableIn C.1 C.2.1 d h1 h2 ho ht ?_
  exact k l p e s m args below meth c C D dA ad0 σ0 K ad H locs ls S hS hl hL (cl_t hst)
theorem z_tableOut {dflt lo hi : Int} {offs : Array Int} {len : Nat} {x : Int32} {tgt : Nat} (d : decode cc pc = .ok (.tableswitch dflt lo hi offs, len)) (h : x.toInt < lo ∨ hi < x.toInt) (ht : (pc : Int) + dflt = (tgt : Int)) (k : T y cc nL ret hh R Q QX tgt L st σ cells slots) : T y cc nL ret hh R Q QX pc L (.int x :: st) σ cells slots := by
  intro l p e s m args below meth c C D dA ad0 σ0 K ad H locs ls S hS hl hL hst
  refine lv_tableOut C.1 C.2.1 d h ht ?_
  exact k l p e s m args below meth c C D dA ad0 σ0 K ad H locs ls S hS hl hL (cl_t hst)
theorem z_lookup {dflt : Int} {ps : Array (Int × Int)} {len : Nat} {x : Int32} {off : Int} {tgt : Nat} (d : decode cc pc = .ok (.lookupswitch dflt ps, len)) (hp : (ps.toList.zip (ps.toList.drop 1)).all (fun (a, next) => a.1 < next.1) = true) (ho : Op.lookupswitch.offset ps.toList dflt x.toInt = off) (ht : (pc : Int) + off = (tgt : Int)) (k : T y cc nL ret hh R Q QX tgt L st σ cells slots) : T y cc nL ret hh R Q QX pc L (.int x :: st) σ cells slots := by
  intro l p e s m args below meth c C D dA ad0 σ0 K ad H locs ls S hS hl hL hst
  refine lv_lookup C.1 C.2.1 d hp ho ht ?_
  exact k l p e s m args below meth c C D dA ad0 σ0 K ad H locs ls S hS hl hL (cl_t hst)
theorem z_widen {cells' slots' : Nat} (h1 : cells ≤ cells') (h2 : slots ≤ slots') (k : T y cc nL ret hh R Q QX pc L st σ cells' slots') : T y cc nL ret hh R Q QX pc L st σ cells slots := by
  intro l p e s m args below meth c C D dA ad0 σ0 K ad H locs ls S hS hl hL hst
  exact W.widen h1 h2 (k l p e s m args below meth c C D dA ad0 σ0 K ad H locs ls S hS hl hL hst)
/-- fewer locals known -/
def lsub : List (Option Value) → List (Option Value) → Prop
  | [], _ => True
  | none :: a, _ :: b => lsub a b
  | none :: a, [] => lsub a []
  | some v :: a, o :: b => o = some v ∧ lsub a b
  | some _ :: _, [] => False
theorem lsub_get : ∀ {A B : List (Option Value)}, lsub A B → ∀ {i : Nat} {v : Value}, lget A i = some v → lget B i = some v
  | [], _, _, i, v, h => by simp [lget] at h
  | none :: a, x :: b, hs, i, v, h => by
    cases i with
    | zero => simp [lget] at h
    | succ i => exact lsub_get (A := a) (B := b) hs (i := i) (v := v) (by simpa [lget] using h) |> fun z => by simpa [lget] using z
  | none :: a, [], hs, i, v, h => by
    cases i with
    | zero => simp [lget] at h
    | succ i =>
      have := lsub_get (A := a) (B := []) hs (i := i) (v := v) (by simpa [lget] using h)
      simp [lget] at this
  | some u :: a, x :: b, hs, i, v, h => by
    cases i with
    | zero =>
      have e : u = v := by simpa [lget] using h
      subst e
      rw [hs.1]
      simp [lget]
    | succ i => exact lsub_get (A := a) (B := b) hs.2 (i := i) (v := v) (by simpa [lget] using h) |> fun z => by simpa [lget] using z
  | some _ :: _, [], hs, _, _, _ => hs.elim
theorem z_sub {L' : List (Option Value)} (h : lsub L' L) (k : T y cc nL ret hh R Q QX pc L' st σ cells slots) : T y cc nL ret hh R Q QX pc L st σ cells slots := by
  intro l p e s m args below meth c C D dA ad0 σ0 K ad H locs ls S hS hl hL hst
  exact k l p e s m args below meth c C D dA ad0 σ0 K ad H locs ls S hS ⟨hl.1, hl.2.1, fun i v q => hl.2.2 i v (lsub_get h q)⟩ (fun i v q => hL i v (lsub_get h q)) hst
theorem z_post {Q' : Option Value → Wd → Prop} {QX' : String → Wd → Prop} (h : ∀ r u, Q' r u → Q r u) (hx : ∀ E u, QX' E u → QX E u) (k : T y cc nL ret hh R Q' QX' pc L st σ cells slots) : T y cc nL ret hh R Q QX pc L st σ cells slots := by
  intro l p e s m args below meth c C D dA ad0 σ0 K ad H locs ls S hS hl hL hst
  intro T0 hT X
  obtain ⟨t, a1, o, b1, b2, b3⟩ := k l p e s m args below meth c C D dA ad0 σ0 K ad H locs ls S hS hl hL hst T0 hT X
  refine ⟨t, a1, o, b1, b2, ?_⟩
  rcases b3 with ⟨⟨⟨ad1, σ1, r1, e1, e2, e3, e4⟩, e5⟩, e6⟩ | ⟨q, e0, E, ce, L9, ⟨⟨ad1, σ1, e2, e3⟩, e5⟩, e6⟩
  · exact Or.inl ⟨⟨⟨ad1, σ1, r1, e1, h _ _ e2, e3, e4⟩, e5⟩, e6⟩
  · exact Or.inr ⟨q, e0, E, ce, L9, ⟨⟨ad1, σ1, hx _ _ e2, e3⟩, e5⟩, e6⟩
theorem z_iret {x : Int32} (d : decode cc pc = .ok (.ireturn, 1)) (hr : ret = some .int) (hc : cells ≤ R.cells) (hs : slots ≤ R.slots) (hq : Q (some (.int x)) σ) : T y cc nL ret hh R Q QX pc L [.int x] σ cells slots := by
  intro l p e s m args below meth c C D dA ad0 σ0 K ad H locs ls S hS hl hL hst
  refine W.widen hc hs (vx_ret ?_)
  exact W.iret C.1 C.2.1 (C.2.2.2.1.trans hr) (fun t ht hW => ⟨⟨ad, σ, some (.int x), rfl, hq, by rw [ht]; exact S, fun v e => by cases e; exact in_i⟩, hS.F ht⟩) hS.2.2 d C.2.2.2.2.1
theorem z_zret {x : Int32} (d : decode cc pc = .ok (.ireturn, 1)) (hr : ret = some .boolean) (hc : cells ≤ R.cells) (hs : slots ≤ R.slots) (hz : narrow .boolean (.int x) = .int x) (hq : Q (some (.int x)) σ) : T y cc nL ret hh R Q QX pc L [.int x] σ cells slots := by
  intro l p e s m args below meth c C D dA ad0 σ0 K ad H locs ls S hS hl hL hst
  refine W.widen hc hs (vx_ret ?_)
  exact W.zret C.1 C.2.1 (C.2.2.2.1.trans hr) hz (fun t ht hW => ⟨⟨ad, σ, some (.int x), rfl, hq, by rw [ht]; exact S, fun v e => by cases e; exact in_i⟩, hS.F ht⟩) hS.2.2 d C.2.2.2.2.1
theorem z_lret {x : Int64} (d : decode cc pc = .ok (.lreturn, 1)) (hr : ret = some .long) (hc : cells ≤ R.cells) (hs : slots ≤ R.slots) (hq : Q (some (.long x)) σ) : T y cc nL ret hh R Q QX pc L [.long x] σ cells slots := by
  intro l p e s m args below meth c C D dA ad0 σ0 K ad H locs ls S hS hl hL hst
  refine W.widen hc hs (vx_ret ?_)
  exact W.lret C.1 C.2.1 (C.2.2.2.1.trans hr) (fun t ht hW => ⟨⟨ad, σ, some (.long x), rfl, hq, by rw [ht]; exact S, fun v e => by cases e; exact in_l⟩, hS.F ht⟩) hS.2.2 d C.2.2.2.2.1
theorem z_vret (d : decode cc pc = .ok (.return_, 1)) (hr : ret = none) (hc : cells ≤ R.cells) (hs : slots ≤ R.slots) (hq : Q none σ) : T y cc nL ret hh R Q QX pc L [] σ cells slots := by
  intro l p e s m args below meth c C D dA ad0 σ0 K ad H locs ls S hS hl hL hst
  refine W.widen hc hs (vx_ret ?_)
  exact W.vret C.1 C.2.1 (C.2.2.2.1.trans hr) (fun t ht hW => ⟨⟨ad, σ, none, rfl, hq, by rw [ht]; exact S, fun v e => by cases e⟩, hS.F ht⟩) hS.2.2 d C.2.2.2.2.1
end TR
