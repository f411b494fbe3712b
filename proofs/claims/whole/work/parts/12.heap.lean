abbrev aI (n : Nat) (f : Nat → Int32) : pCell := .inl (0, n, .inl f)
abbrev aJ (n : Nat) (f : Nat → Int64) : pCell := .inl (1, n, .inr (.inl f))
abbrev aZ (n : Nat) (f : Nat → Int32) : pCell := .inl (2, n, .inl f)
abbrev aR (n : Nat) (g : Nat → Option Nat) : pCell := .inl (3, n, .inr (.inr g))
abbrev ob (ci : Nat) (fs : List Value) : pCell := .inr (ci, fs)
theorem Rp.one {D : va_G} {dA : Nat → ClassId} {ad : Nat → Nat} {σ : Wd} {H : Heap} (h : Rp D dA ad σ H) {n : Nat} {c : pCell} (hn : σ n = some c) (hf : fo c = false := by rfl) : va_P D vwCl [(ad n, pa dA ad c)] H := by
  intro k q hk
  have hz : k < 1 := (List.getElem?_eq_some_iff.mp hk).1
  rw [show k = 0 by omega] at hk
  cases hk
  exact (h.1 n c hn).va hf
theorem fo_lt {t n : Nat} {x : pArr} (h : t < 4) : fo (.inl (t, n, x)) = false := by
  match t, h with
  | 0, _ => rfl
  | 1, _ => rfl
  | 2, _ => rfl
  | 3, _ => rfl
theorem ne_of {σ : Wd} {n : Nat} {c : pCell} (h : σ n = some c) : σ n ≠ none := fun z => by rw [h] at z; cases z
section TH
variable {y : MethodName} {cc : ByteArray} {nL : Nat} {ret : Option FieldType} {hh : List (Nat × Nat × Nat × Nat)} {R : Room} {Q : Option Value → Wd → Prop} {QX : String → Wd → Prop} {pc : Nat} {L : List (Option Value)} {st : List Value} {σ : Wd} {cells slots : Nat}

theorem z_getf {o idx ci N : Nat} {Cn : String} {Tt : u_T} {ty0 : Nat → FieldType} {fs : List Value} {v : Value} (hc : Cls ci Cn Tt N ty0) (f : Nat) (hf : Cond.fieldLink y.cls idx (Tt f).1 (Tt f).2.1 (Tt f).2.2.1 ∈ WT) (d : decode cc pc = .ok (.getfield idx, 3)) (hk : f < N) (ho : σ o = some (.inr (ci, fs))) (hv : fs[f]? = some v) (k : T y cc nL ret hh R Q QX (pc + 3) L (v :: st) σ cells slots) : T y cc nL ret hh R Q QX pc L (.ref o :: st) σ cells slots := by
  intro l p e s m args below meth c C D dA ad0 σ0 K ad H locs ls S hS hl hL hst
  refine va_get (own := y.cls) C.1 C.2.1 C.2.2.2.2.2.2.2.1 hc.2.1 C.2.2.2.2.2.2.1 K.1 (S.1.one ho) 0 rfl hc.1 f hk (C.2.2.2.2.2.2.2.1 _ hf) (fun x h => h) (v := vmv ad v) (by rw [List.getElem?_map, hv]; rfl) d ?_
  exact k l p e s m args below meth c C D dA ad0 σ0 K ad H locs ls S hS hl hL (cl_c (S.1.2.2 o _ ho v (List.mem_of_getElem? hv)) (cl_t hst))
theorem z_putf {o idx ci N : Nat} {Cn : String} {Tt : u_T} {ty0 : Nat → FieldType} {fs : List Value} {v : Value} {ty : FieldType} (hc : Cls ci Cn Tt N ty0) (f : Nat) (hf : Cond.fieldLink y.cls idx (Tt f).1 (Tt f).2.1 (Tt f).2.2.1 ∈ WT) (d : decode cc pc = .ok (.putfield idx, 3)) (hk : f < N) (hfin : (Tt f).2.2.2 = false) (hd : parseFieldDescriptor (Tt f).2.2.1 = some ty) (hn : ∀ ad, narrow ty (vmv ad v) = vmv ad v ∧ fits ty (vmv ad v) = true) (ho : σ o = some (.inr (ci, fs))) (hlen : f < fs.length) (k : T y cc nL ret hh R Q QX (pc + 3) L st (up σ o (.inr (ci, fs.set f v))) cells slots) : T y cc nL ret hh R Q QX pc L (v :: .ref o :: st) σ cells slots := by
  intro l p e s m args below meth c C D dA ad0 σ0 K ad H locs ls S hS hl hL hst
  have hap := va_apart (own := y.cls) C.2.2.2.2.2.2.2.1 hc.2.1 ty0 hc.2.2.1 hc.2.2.2 K.1 hc.1
  obtain ⟨r, h1, cell, q1, q2, q3, q4⟩ := S.1.1 o _ ho
  have hr : r = (Cn, Tt, N) := Option.some.inj (h1.symm.trans hc.1)
  subst hr
  obtain ⟨hSl, hfc, kC, hkC, hkind⟩ := K.1.1 ci _ hc.1
  obtain ⟨cf, kf, fi, f9, hi, hsl⟩ := hSl f hk
  have hlay := C.2.2.2.2.2.2.2.1 _ (hc.2.1 _ (u_in_lay hk))
  unfold u_lay at hlay
  rw [if_neg (by rw [hfin]; decide)] at hlay
  have hst9 := (u_facts hfc hkC (u_lays C.2.2.2.2.2.2.2.1 hc.2.1 hk) hi).1
  have h6 := u_store hfc hkC hkind hlay hi hd (hn ad).1 (hn ad).2
  refine W.putK C.1 C.2.1 (f := f9) ⟨C.2.2.2.2.2.2.1, C.2.2.2.2.2.2.2.1 _ hf, ⟨_, _, _, hi⟩, hst9⟩ (by rw [q2]; exact h6) q1 q3 (by rw [hsl]; exact k2_hasslot (q4 f hk)) rfl rfl d fun H' e1 e2 e3 => ?_
  rw [hsl] at e1 ⊢
  have hcl : clC σ (.inr (ci, fs.set f v)) := fun u hu => by
    rcases List.mem_or_eq_of_mem_set hu with h | h
    · exact S.1.2.2 o _ ho u h
    · rw [h]; exact cl_h hst
  have hat : va_at D vwCl (ad o, pa dA ad (.inr (ci, fs.set f v))) H' := by
    refine ⟨_, hc.1, ?_⟩
    show t_OB (ad o) (D.1 ci) N (D.2 ci) H' (vp_V ((fs.set f v).map (vmv ad)))
    rw [List.map_set]
    exact t_OB.to (V := updV (vp_V (fs.map (vmv ad))) f (vmv ad v)) ⟨_, e1, q2, q3, t_set q4 hap hk _⟩ (fun j _ => vp_updV_set (by rw [List.length_map]; exact hlen) _ j)
  exact k l p e s m args below meth c C D dA ad0 σ0 K ad H' _ ls (S.put (nf_of ho rfl) hcl hat e3) (hS.put e2 e3 (S.2.2 o (nf_of ho rfl))) hl (fun i u hu => up_in (hL i u hu)) (up_clS (cl_t (cl_t hst)))
theorem z_putF {o idx ci N : Nat} {Cn : String} {Tt : u_T} {ty0 : Nat → FieldType} {fs : List Value} {v : Value} {ty : FieldType} (hc : Cls ci Cn Tt N ty0) (f : Nat) (hf : Cond.fieldLink y.cls idx (Tt f).1 (Tt f).2.1 (Tt f).2.2.1 ∈ WT) (d : decode cc pc = .ok (.putfield idx, 3)) (hk : f < N) (hfin : (Tt f).2.2.2 = true) (hin2 : y.name = "<init>") (hdecl : (Tt f).1 = y.cls) (hd : parseFieldDescriptor (Tt f).2.2.1 = some ty) (hn : ∀ ad, narrow ty (vmv ad v) = vmv ad v ∧ fits ty (vmv ad v) = true) (ho : σ o = some (.inr (ci, fs))) (hlen : f < fs.length) (k : T y cc nL ret hh R Q QX (pc + 3) L st (up σ o (.inr (ci, fs.set f v))) cells slots) : T y cc nL ret hh R Q QX pc L (v :: .ref o :: st) σ cells slots := by
  intro l p e s m args below meth c C D dA ad0 σ0 K ad H locs ls S hS hl hL hst
  have hap := va_apart (own := y.cls) C.2.2.2.2.2.2.2.1 hc.2.1 ty0 hc.2.2.1 hc.2.2.2 K.1 hc.1
  obtain ⟨r, h1, cell, q1, q2, q3, q4⟩ := S.1.1 o _ ho
  have hr : r = (Cn, Tt, N) := Option.some.inj (h1.symm.trans hc.1)
  subst hr
  obtain ⟨hSl, hfc, kC, hkC, hkind⟩ := K.1.1 ci _ hc.1
  obtain ⟨cf, kf, fi, f9, hi, hsl⟩ := hSl f hk
  have hlay := C.2.2.2.2.2.2.2.1 _ (hc.2.1 _ (u_in_lay hk))
  unfold u_lay at hlay
  rw [if_pos hfin] at hlay
  have hst9 := (u_facts hfc hkC (u_lays C.2.2.2.2.2.2.2.1 hc.2.1 hk) hi).1
  have hcf : m.cls = cf := by
    obtain ⟨_, _, c', _, _, _, -, -, hf', -, -, -, hown2, -⟩ := Cond.laysFinal_spec hlay
    have e1 : c' = cf := by have := hi.symm.trans hf'; simp at this; exact this.1.symm
    rw [hdecl] at hown2
    rw [← e1]; exact Option.some.inj (C.2.2.2.2.2.2.1.symm.trans hown2)
  have h6 := u_fits hfc hkC hkind (Or.inr hlay) hi hd (hn ad).1 (hn ad).2
  refine W.putFinK C.1 C.2.1 C.2.2.2.2.2.2.1 (C.2.2.2.2.2.2.2.1 _ hf) hi hst9 hcf (C.2.2.2.2.2.1.trans hin2) (by rw [q2]; exact h6) q1 q3 (by rw [hsl]; exact k2_hasslot (q4 f hk)) rfl rfl d fun H' e1 e2 e3 => ?_
  rw [hsl] at e1 ⊢
  have hcl : clC σ (.inr (ci, fs.set f v)) := fun u hu => by
    rcases List.mem_or_eq_of_mem_set hu with h | h
    · exact S.1.2.2 o _ ho u h
    · rw [h]; exact cl_h hst
  have hat : va_at D vwCl (ad o, pa dA ad (.inr (ci, fs.set f v))) H' := by
    refine ⟨_, hc.1, ?_⟩
    show t_OB (ad o) (D.1 ci) N (D.2 ci) H' (vp_V ((fs.set f v).map (vmv ad)))
    rw [List.map_set]
    exact t_OB.to (V := updV (vp_V (fs.map (vmv ad))) f (vmv ad v)) ⟨_, e1, q2, q3, t_set q4 hap hk _⟩ (fun j _ => vp_updV_set (by rw [List.length_map]; exact hlen) _ j)
  exact k l p e s m args below meth c C D dA ad0 σ0 K ad H' _ ls (S.put (nf_of ho rfl) hcl hat e3) (hS.put e2 e3 (S.2.2 o (nf_of ho rfl))) hl (fun i u hu => up_in (hL i u hu)) (up_clS (cl_t (cl_t hst)))
theorem z_iald {o n : Nat} {f : Nat → Int32} {i : Int32} (d : decode cc pc = .ok (.iaload, 1)) (ho : σ o = some (aI n f)) (j : Nat) (hi : i = nI j) (hj : j < n) (k : T y cc nL ret hh R Q QX (pc + 1) L (.int (f j) :: st) σ cells slots) (hn : n < 2147483648 := by decide) : T y cc nL ret hh R Q QX pc L (.int i :: .ref o :: st) σ cells slots := by
  intro l p e s m args below meth c C D dA ad0 σ0 K ad H locs ls S hS hl hL hst
  subst hi
  refine va_iald C.1 C.2.1 K.1 (S.1.one ho) 0 0 rfl rfl (vp_in_nI hj hn) d ?_
  rw [nI_clamp (Nat.lt_trans hj hn)]
  exact k l p e s m args below meth c C D dA ad0 σ0 K ad H locs ls S hS hl hL (cl_i (cl_t (cl_t hst)))
theorem z_zald {o n : Nat} {f : Nat → Int32} {i : Int32} (d : decode cc pc = .ok (.baload, 1)) (ho : σ o = some (aZ n f)) (j : Nat) (hi : i = nI j) (hj : j < n) (k : T y cc nL ret hh R Q QX (pc + 1) L (.int (f j) :: st) σ cells slots) (hn : n < 2147483648 := by decide) : T y cc nL ret hh R Q QX pc L (.int i :: .ref o :: st) σ cells slots := by
  intro l p e s m args below meth c C D dA ad0 σ0 K ad H locs ls S hS hl hL hst
  subst hi
  refine va_zald C.1 C.2.1 K.1 (S.1.one ho) 0 2 rfl rfl (vp_in_nI hj hn) d ?_
  rw [nI_clamp (Nat.lt_trans hj hn)]
  exact k l p e s m args below meth c C D dA ad0 σ0 K ad H locs ls S hS hl hL (cl_i (cl_t (cl_t hst)))
theorem z_lald {o n : Nat} {f : Nat → Int64} {i : Int32} (d : decode cc pc = .ok (.laload, 1)) (ho : σ o = some (aJ n f)) (j : Nat) (hi : i = nI j) (hj : j < n) (k : T y cc nL ret hh R Q QX (pc + 1) L (.long (f j) :: st) σ cells slots) (hn : n < 2147483648 := by decide) : T y cc nL ret hh R Q QX pc L (.int i :: .ref o :: st) σ cells slots := by
  intro l p e s m args below meth c C D dA ad0 σ0 K ad H locs ls S hS hl hL hst
  subst hi
  refine va_lald C.1 C.2.1 K.1 (S.1.one ho) 0 1 rfl rfl (vp_in_nI hj hn) d ?_
  rw [nI_clamp (Nat.lt_trans hj hn)]
  exact k l p e s m args below meth c C D dA ad0 σ0 K ad H locs ls S hS hl hL (cl_l (cl_t (cl_t hst)))
abbrev foI (n : Nat) (f : Nat → Int32) : pCell := .inl (9, n, .inl f)
theorem z_xald {o n : Nat} {f : Nat → Int32} {i : Int32} (d : decode cc pc = .ok (.iaload, 1)) (ho : σ o = some (foI n f)) (j : Nat) (hi : i = nI j) (hj : j < n) (hn : n < 2147483648) (k : T y cc nL ret hh R Q QX (pc + 1) L (.int (f j) :: st) σ cells slots) : T y cc nL ret hh R Q QX pc L (.int i :: .ref o :: st) σ cells slots := by
  intro l p e s m args below meth c C D dA ad0 σ0 K ad H locs ls S hS hl hL hst
  subst hi
  obtain ⟨n', f', scr, e0, h1, h2, h3, h4, h5, h6⟩ := S.1.1 o _ ho
  cases e0
  obtain ⟨kA, q1, comp, q2⟩ := K.2.2.2.2.2.2.2.2
  refine W.iald (v := .int (f j)) C.1 C.2.1 h1 ⟨h3, kA, by rw [h2]; exact q1, comp, q2⟩ h4 (by rw [h5]; exact vp_in_nI hj hn) (by rw [nI_clamp (Nat.lt_trans hj hn)]; exact h6 _ hj) rfl rfl d ?_
  exact k l p e s m args below meth c C D dA ad0 σ0 K ad H locs ls S hS hl hL (cl_i (cl_t (cl_t hst)))
theorem z_xlen {o n : Nat} {f : Nat → Int32} {v : Int32} (d : decode cc pc = .ok (.arraylength, 1)) (ho : σ o = some (foI n f)) (hv : Int32.ofNat n = v) (k : T y cc nL ret hh R Q QX (pc + 1) L (.int v :: st) σ cells slots) : T y cc nL ret hh R Q QX pc L (.ref o :: st) σ cells slots := by
  intro l p e s m args below meth c C D dA ad0 σ0 K ad H locs ls S hS hl hL hst
  subst hv
  obtain ⟨n', f', scr, e0, h1, h2, h3, h4, h5, h6⟩ := S.1.1 o _ ho
  cases e0
  obtain ⟨kA, q1, comp, q2⟩ := K.2.2.2.2.2.2.2.2
  refine W.alen (n := Int32.ofNat n) C.1 C.2.1 h1 ⟨h3, kA, by rw [h2]; exact q1, comp, q2⟩ (by rw [h5] <;> rfl) rfl rfl d ?_
  exact k l p e s m args below meth c C D dA ad0 σ0 K ad H locs ls S hS hl hL (cl_i (cl_t hst))
theorem z_aald {o n a : Nat} {g : Nat → Option Nat} {i : Int32} (d : decode cc pc = .ok (.aaload, 1)) (ho : σ o = some (aR n g)) (j : Nat) (hi : i = nI j) (hj : j < n) (ha : g j = some a) (k : T y cc nL ret hh R Q QX (pc + 1) L (.ref a :: st) σ cells slots) (hn : n < 2147483648 := by decide) : T y cc nL ret hh R Q QX pc L (.int i :: .ref o :: st) σ cells slots := by
  intro l p e s m args below meth c C D dA ad0 σ0 K ad H locs ls S hS hl hL hst
  subst hi
  refine va_aldq C.1 C.2.1 K.1 (S.1.one ho) 0 3 rfl rfl (vp_in_nI hj hn) d ?_
  rw [nI_clamp (Nat.lt_trans hj hn), ha]
  exact k l p e s m args below meth c C D dA ad0 σ0 K ad H locs ls S hS hl hL (cl_c (cl_r (S.1.2.2 o _ ho j a ha)) (cl_t (cl_t hst)))
theorem z_alen {o n t : Nat} {x : pArr} {v : Int32} (d : decode cc pc = .ok (.arraylength, 1)) (ho : σ o = some (.inl (t, n, x))) (ht : t < 4) (hv : Int32.ofNat n = v) (k : T y cc nL ret hh R Q QX (pc + 1) L (.int v :: st) σ cells slots) : T y cc nL ret hh R Q QX pc L (.ref o :: st) σ cells slots := by
  intro l p e s m args below meth c C D dA ad0 σ0 K ad H locs ls S hS hl hL hst
  have h9 : ∃ (ty : FieldType) (x9 : vp_A), (tysOf dA)[t]? = some (dA t, ty) ∧ pa dA ad (.inl (t, n, x)) = .inl (dA t, x9) ∧ x9.1 = n := by
    have a1 : ∃ ty : FieldType, (tysOf dA)[t]? = some (dA t, ty) := by
      match t, ht with
      | 0, _ => exact ⟨_, rfl⟩
      | 1, _ => exact ⟨_, rfl⟩
      | 2, _ => exact ⟨_, rfl⟩
      | 3, _ => exact ⟨_, rfl⟩
    obtain ⟨ty, hty⟩ := a1
    match x with
    | .inl f => exact ⟨ty, _, hty, rfl, rfl⟩
    | .inr (.inl f) => exact ⟨ty, _, hty, rfl, rfl⟩
    | .inr (.inr f) => exact ⟨ty, _, hty, rfl, rfl⟩
  obtain ⟨ty, x9, h1, h2, h3⟩ := h9
  have hP := S.1.one ho (fo_lt ht)
  rw [h2] at hP
  refine va_alen C.1 C.2.1 K.1 hP 0 t (x := x9) (v := v) rfl h1 (by rw [h3]; exact hv) d ?_
  exact k l p e s m args below meth c C D dA ad0 σ0 K ad H locs ls S hS hl hL (cl_i (cl_t hst))
theorem z_iast {o n : Nat} {f : Nat → Int32} {i : Int32} {x : Int32} (d : decode cc pc = .ok (.iastore, 1))  (ho : σ o = some (aI n f)) (j : Nat) (hi : i = nI j) (hj : j < n) (k : T y cc nL ret hh R Q QX (pc + 1) L st (up σ o (aI n (upd f j x))) cells slots) (hn : n < 2147483648 := by decide) : T y cc nL ret hh R Q QX pc L (.int x :: .int i :: .ref o :: st) σ cells slots := by
  intro l p e s m args below meth c C D dA ad0 σ0 K ad H locs ls S hS hl hL hst
  subst hi
  have hin : vp_in (nI j) n := vp_in_nI hj hn
  have hcell : H[ad o]? = some (arrV (dA 0) n (fun q => .int (f q))) := S.1.1 o _ ho
  refine W.iast C.1 C.2.1 hcell ((K.1.2 0 _ rfl).1 n (fun q => .int (f q))) (fun q => by cases q) (by show ¬ (_ ∨ (arrV _ _ _).slots.size ≤ _); rw [arrV_size]; exact hin) rfl rfl d fun H1 e1 z1 oq => ?_
  rw [nI_clamp (Nat.lt_trans hj hn), arrV_store] at e1
  rw [nI_clamp (Nat.lt_trans hj hn)]
  have hat : va_at D vwCl (ad o, pa dA ad (aI n (upd f j x))) H1 := by
    show H1[ad o]? = some (arrV (dA 0) n (fun q => .int (upd f j x q)))
    rw [e1]
    congr 2
    funext q
    by_cases hq : q = j
    · subst hq
      simp [updV, upd]
    · simp [updV, upd, hq]
  exact k l p e s m args below meth c C D dA ad0 σ0 K ad H1 _ ls (S.put (nf_of ho rfl) trivial hat oq) (hS.put z1 oq (S.2.2 o (nf_of ho rfl))) hl (fun i u hu => up_in (hL i u hu)) (up_clS (cl_t (cl_t (cl_t hst))))
theorem z_last {o n : Nat} {f : Nat → Int64} {i : Int32} {x : Int64} (d : decode cc pc = .ok (.lastore, 1))  (ho : σ o = some (aJ n f)) (j : Nat) (hi : i = nI j) (hj : j < n) (k : T y cc nL ret hh R Q QX (pc + 1) L st (up σ o (aJ n (vp_updL f j x))) cells slots) (hn : n < 2147483648 := by decide) : T y cc nL ret hh R Q QX pc L (.long x :: .int i :: .ref o :: st) σ cells slots := by
  intro l p e s m args below meth c C D dA ad0 σ0 K ad H locs ls S hS hl hL hst
  subst hi
  have hin : vp_in (nI j) n := vp_in_nI hj hn
  have hcell : H[ad o]? = some (arrV (dA 1) n (fun q => .long (f q))) := S.1.1 o _ ho
  refine W.last C.1 C.2.1 hcell ((K.1.2 1 _ rfl).1 n (fun q => .long (f q))) (fun q => by cases q) (by show ¬ (_ ∨ (arrV _ _ _).slots.size ≤ _); rw [arrV_size]; exact hin) rfl rfl d fun H1 e1 z1 oq => ?_
  rw [nI_clamp (Nat.lt_trans hj hn), arrV_store] at e1
  rw [nI_clamp (Nat.lt_trans hj hn)]
  have hat : va_at D vwCl (ad o, pa dA ad (aJ n (vp_updL f j x))) H1 := by
    show H1[ad o]? = some (arrV (dA 1) n (fun q => .long (vp_updL f j x q)))
    rw [e1]
    congr 2
    funext q
    by_cases hq : q = j
    · subst hq
      simp [updV, vp_updL]
    · simp [updV, vp_updL, hq]
  exact k l p e s m args below meth c C D dA ad0 σ0 K ad H1 _ ls (S.put (nf_of ho rfl) trivial hat oq) (hS.put z1 oq (S.2.2 o (nf_of ho rfl))) hl (fun i u hu => up_in (hL i u hu)) (up_clS (cl_t (cl_t (cl_t hst))))
theorem z_zast {o n : Nat} {f : Nat → Int32} {i : Int32} {x : Int32} (d : decode cc pc = .ok (.bastore, 1)) (hz : narrow .boolean (.int x) = .int x) (ho : σ o = some (aZ n f)) (j : Nat) (hi : i = nI j) (hj : j < n) (k : T y cc nL ret hh R Q QX (pc + 1) L st (up σ o (aZ n (upd f j x))) cells slots) (hn : n < 2147483648 := by decide) : T y cc nL ret hh R Q QX pc L (.int x :: .int i :: .ref o :: st) σ cells slots := by
  intro l p e s m args below meth c C D dA ad0 σ0 K ad H locs ls S hS hl hL hst
  subst hi
  have hin : vp_in (nI j) n := vp_in_nI hj hn
  have hcell : H[ad o]? = some (arrV (dA 2) n (fun q => .int (f q))) := S.1.1 o _ ho
  refine W.zast C.1 C.2.1 hcell ((K.1.2 2 _ rfl).1 n (fun q => .int (f q))) (fun q => by cases q) (by show ¬ (_ ∨ (arrV _ _ _).slots.size ≤ _); rw [arrV_size]; exact hin) rfl rfl d fun H1 e1 z1 oq => ?_
  rw [nI_clamp (Nat.lt_trans hj hn), arrV_store] at e1
  rw [nI_clamp (Nat.lt_trans hj hn)]
  have hat : va_at D vwCl (ad o, pa dA ad (aZ n (upd f j x))) H1 := by
    show H1[ad o]? = some (arrV (dA 2) n (fun q => .int (upd f j x q)))
    rw [e1]
    congr 2
    funext q
    by_cases hq : q = j
    · subst hq
      simp [updV, upd, hz]
    · simp [updV, upd, hq]
  exact k l p e s m args below meth c C D dA ad0 σ0 K ad H1 _ ls (S.put (nf_of ho rfl) trivial hat oq) (hS.put z1 oq (S.2.2 o (nf_of ho rfl))) hl (fun i u hu => up_in (hL i u hu)) (up_clS (cl_t (cl_t (cl_t hst))))
end TH
