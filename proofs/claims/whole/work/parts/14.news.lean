section TN
variable {y : MethodName} {cc : ByteArray} {nL : Nat} {ret : Option FieldType} {hh : List (Nat × Nat × Nat × Nat)} {R : Room} {Q : Option Value → Wd → Prop} {QX : String → Wd → Prop} {pc : Nat} {L : List (Option Value)} {st : List Value} {σ : Wd} {cells slots : Nat}
theorem Ct.met {av : List Value} {Q : Option Value → Wd → Prop} (h : Ct y cc nL ret R av σ Q (fun _ _ => False)) {l : Launch} (hl : l.stackTraces = false) (D : va_G) (dA : Nat → ClassId) (ad : Nat → Nat) (sz : Nat) : Met l y (Cond.code y cc nL ret :: WT) R (CP D dA ad sz av σ) (Po D dA ad σ Q) R.cells R.slots (AA ad σ sz) := by
  intro p e a1 a2 a3 s m args below a4 a5 a6 a7
  obtain ⟨n, oc, b1, b2, b3, b4⟩ := h l hl D dA ad sz p e a1 a2 a3 s m args below a4 a5 a6 a7
  refine ⟨n, oc, b1, b2, b3, ?_⟩
  rcases b4 with b4 | ⟨q, -, E, ce, L9, ⟨⟨ad9, σ9, hf, -⟩, -⟩, -⟩
  · exact b4
  · exact hf.elim
theorem vx_of_va {p : Program} {l : Launch} {e : Env} {R : Room} {s : State} {m : MethodId} {args : Array Value} {below : List Frame} {meth : Method} {c : Code} {H : Heap} {locs : List Loc} {cells slots mc ms : Nat} {g : JFrame} {rest : List Value} {Qa : State → Outcome → State → Prop} {free : Addr → Prop} {XC : String → State → State → Prop} (h : va_Run p l e R s m args below meth c H locs cells slots mc ms g rest Qa free) : vx_Run p l e R s m args below meth c H locs cells slots mc ms g rest Qa XC free := fun T hT X => Or.inl (h T hT X)

theorem z_callI {y' : MethodName} {cc' : ByteArray} {nL' n idx : Nat} {R' : Room} {av : List Value} {Q' : Option Value → Wd → Prop} {st0 : List Value} {o : Nat} (hc : Ct y' cc' nL' none R' (.ref o :: av) σ Q' (fun _ _ => False)) (hm : MI y.cls idx y' cc' nL' n) (d : decode cc pc = .ok (.invokespecial idx, 3)) (hst0 : st0 = av.reverse ++ .ref o :: st) (hn : av.length = n) (hR : R'.frames + 1 ≤ R.frames ∧ 8 + (nL' + 11) + R'.locals ≤ R.locals) (hw : (st.map Value.category).sum ≤ 8) (hcs : cells + R'.cells ≤ R.cells ∧ slots + R'.slots ≤ R.slots) (k : ∀ r u, Q' r u → T y cc nL ret hh R Q QX (pc + 3) L (r.toList ++ st) u (cells + R'.cells) (slots + R'.slots)) : T y cc nL ret hh R Q QX pc L st0 σ cells slots := by
  intro l p e s m args below meth c C D dA ad0 σ0 K ad H locs ls S hS hl hL hst
  subst hst0
  obtain ⟨c1, c2⟩ := cl_app.mp hst
  have hts := C.2.2.2.2.2.2.2.1
  have hG : GoodIn WT (Cond.code y' cc' nL' none :: WT) := fun w hw => WT_good w (by
    rcases List.mem_cons.mp hw with rfl | hw
    · exact hm.1.2.2.2.1
    · exact hw)
  have hrun := va_runI (H := H) (b := ad o) (As := av.map (vmv ad)) (rest := st.map (vmv ad)) (g := F0 m pc ls ((av.reverse ++ .ref o :: st).map (vmv ad))) (below := below) (e := e) (locs := locs) (meth := meth) (cells := cells) (slots := slots) ⟨C.1, C.2.1, C.2.2.1, C.2.2.2.2.2.2.1, hts⟩ (hc.met C.2.2.2.2.2.2.2.2.2 D dA ad H.size) (cwI n hts hG rfl rfl rfl (hts _ hm.1.2.2.1) (hts _ hm.1.1) (hts _ hm.1.2.1) hm.1.2.2.2.2 hm.2 hR) ⟨CP_blind, z_pre K S hS (cl_c (cl_h c2) (cl_rev c1))⟩ rfl (by rw [List.length_map]; exact hn) hl.1 (by simp [List.map_append, List.map_reverse, vmv]) (z_sum hw) d hcs
  exact z_run (QX' := fun _ _ => False) k (fun _ _ h => h.elim) C K S hS hl hL (cl_t c2) (vx_of_va hrun)
/-- Atom's own constructor, private in the nest, called by Formula -/
theorem z_callIN {cc' : ByteArray} {nL' : Nat} {R' : Room} {Q' : Option Value → Wd → Prop} {st0 : List Value} {o : Nat} (hy : y.cls = RX3) (hc : Ct yX0_init cc' nL' none R' [.ref o] σ Q' (fun _ _ => False)) (hcode : Cond.code yX0_init cc' nL' none ∈ WT) (hin : Cond.instanceMethod yX0_init ∈ WT) (hini : Cond.initialized yX0_init.cls ∈ WT) (d : decode cc pc = .ok (.invokespecial 30, 3)) (hst0 : st0 = .ref o :: st) (hR : R'.frames + 1 ≤ R.frames ∧ 8 + (nL' + 11) + R'.locals ≤ R.locals) (hw : (st.map Value.category).sum ≤ 8) (hcs : cells + R'.cells ≤ R.cells ∧ slots + R'.slots ≤ R.slots) (k : ∀ r u, Q' r u → T y cc nL ret hh R Q QX (pc + 3) L (r.toList ++ st) u (cells + R'.cells) (slots + R'.slots)) : T y cc nL ret hh R Q QX pc L st0 σ cells slots := by
  intro l p e s m args below meth c C D dA ad0 σ0 K ad H locs ls S hS hl hL hst
  subst hst0
  have hts := C.2.2.2.2.2.2.2.1
  have hG : GoodIn WT (Cond.code yX0_init cc' nL' none :: WT) := fun w hw => WT_good w (by
    rcases List.mem_cons.mp hw with rfl | hw
    · exact hcode
    · exact hw)
  have hrun := va_runIN (H := H) (host := RX6) (index := 30) (own := RX3) (b := ad o) (As := []) (rest := st.map (vmv ad)) (g := F0 m pc ls ((.ref o :: st).map (vmv ad))) (below := below) (e := e) (locs := locs) (meth := meth) (cells := cells) (slots := slots) ⟨C.1, C.2.1, C.2.2.1, by rw [← hy]; exact C.2.2.2.2.2.2.1, hts⟩ (hc.met C.2.2.2.2.2.2.2.2.2 D dA ad H.size) ⟨va_cnB 0 hts hG rfl rfl rfl K.2.2.1 (hts _ hini) (by decide +kernel) hR, rfl, hts _ hin⟩ ⟨CP_blind, z_pre (av := [.ref o]) K S hS (cl_c (cl_h hst) (fun v hv => by cases hv))⟩ rfl rfl hl.1 rfl (z_sum hw) d hcs
  exact z_run (QX' := fun _ _ => False) k (fun _ _ h => h.elim) C K S hS hl hL (cl_t hst) (vx_of_va hrun)
theorem z_objInit {idx o : Nat} (hm : Cond.methodLink y.cls idx objectInit ∈ WT) (hi : Cond.instanceMethod objectInit ∈ WT) (hco : Cond.code objectInit ⟨#[0xb1]⟩ 1 none ∈ WT) (d : decode cc pc = .ok (.invokespecial idx, 3)) (hf : 1 ≤ R.frames) (hlo : (st.map Value.category).sum + 12 ≤ R.locals) (k : T y cc nL ret hh R Q QX (pc + 3) L st σ cells slots) : T y cc nL ret hh R Q QX pc L (.ref o :: st) σ cells slots := by
  intro l p e s m args below meth c C D dA ad0 σ0 K ad H locs ls S hS hl hL hst
  have hts := C.2.2.2.2.2.2.2.1
  have e9 : (((st.map (vmv ad)).map fun v => v.category)).sum = (st.map Value.category).sum := by rw [List.map_map]; exact congrArg List.sum (List.map_congr_left fun v _ => vmv_cat ad v)
  refine W.objInit C.1 C.2.1 C.2.2.2.2.2.2.1 (hts _ hm) (hts _ hi) (hts _ hco) (g := F0 m pc ls ((.ref o :: st).map (vmv ad))) (a := ad o) (rest := st.map (vmv ad)) rfl (hl.1.trans C.2.2.1.symm) rfl d hf (by rw [e9]; have h0 : (F0 m pc ls ((.ref o :: st).map (vmv ad))).monitorRoom = 0 := rfl; rw [h0]; omega) ?_
  exact k l p e s m args below meth c C D dA ad0 σ0 K ad H locs ls S hS hl hL (cl_t hst)
theorem z_new {idx ci N : Nat} {Cn : String} {Tt : u_T} {ty0 : Nat → FieldType} (hc : Cls ci Cn Tt N ty0) (hk : Cond.classLink y.cls idx Cn ∈ WT) (hi : Cond.instantiable Cn N ∈ WT) (hini : Cond.initialized Cn ∈ WT) (d : decode cc pc = .ok (.new idx, 3)) (q : Nat) (hq : σ q = none) (fs : List Value) (hfs : ∀ j, j < N → defaultValue (ty0 j) = vp_V fs j) (hfr : ∀ ad, fs.map (vmv ad) = fs) (hfc : ∀ v ∈ fs, ∀ n, v ≠ .ref n) (hcells : cells + 1 ≤ R.cells) (hslots : slots + N ≤ R.slots) (k : T y cc nL ret hh R Q QX (pc + 3) L (.ref q :: st) (up σ q (.inr (ci, fs))) (cells + 1) (slots + N)) : T y cc nL ret hh R Q QX pc L st σ cells slots := by
  intro l p e s m args below meth c C D dA ad0 σ0 K ad H locs ls S hS hl hL hst
  have hts := C.2.2.2.2.2.2.2.1
  have hKn := K.1.1 ci _ hc.1
  refine W.newcK C.1 C.2.1 C.2.2.2.2.2.2.1 (hts _ hk) (hts _ hi) (hts _ hini) rfl d hcells hslots hKn.2.1 rfl fun H1 kC hkC e1 z1 o1 => ?_
  have hat : va_at D vwCl (H.size, pa dA ad (.inr (ci, fs))) H1 := by
    refine ⟨_, hc.1, ?_⟩
    show t_OB H.size (D.1 ci) N (D.2 ci) H1 (vp_V (fs.map (vmv ad)))
    rw [hfr]
    exact (u_born ty0 hts hc.2.1 hKn hkC e1 hc.2.2.1).to hfs
  have hcl9 : clC σ (.inr (ci, fs)) := fun v hv n e => absurd e (hfc v hv n)
  have h9 := k l p e s m args below meth c C D dA ad0 σ0 K (va_up ad q H.size) H1 _ ls (S.new hS.1 hq hcl9 hat o1) ⟨Nat.le_trans hS.1 (by omega), fun x h1 h2 => (o1 x (Nat.lt_of_lt_of_le h1 hS.1)).trans (hS.2.1 x h1 h2), hS.2.2⟩ ⟨hl.1, hl.2.1, fun i u hu => by rw [vmv_up hq (hL i u hu)]; exact hl.2.2 i u hu⟩ (fun i u hu => up_in (hL i u hu)) (cl_c (cl_r (ne_of (up_self σ q _))) (up_clS hst))
  rw [List.map_cons, vmv_ups hq hst, show vmv (va_up ad q H.size) (.ref q) = .ref H.size from congrArg Value.ref (va_up_self ad q _)] at h9
  exact h9
theorem z_newaI {N : Nat} {n : Int32} (harr : Cond.arrayClass .int ∈ WT) (d : decode cc pc = .ok (.newarray .int, 2)) (q : Nat) (hq : σ q = none) (hn : n = nI N) (hN : N < 100000) (hcells : cells + 1 ≤ R.cells) (hslots : slots + N ≤ R.slots) (k : T y cc nL ret hh R Q QX (pc + 2) L (.ref q :: st) (up σ q (aI N (fun _ => 0))) (cells + 1) (slots + N)) : T y cc nL ret hh R Q QX pc L (.int n :: st) σ cells slots := by
  intro l p e s m args below meth c C D dA ad0 σ0 K ad H locs ls S hS hl hL hst
  have hts := C.2.2.2.2.2.2.2.1
  subst hn
  refine va_newaK C.1 C.2.1 (atype := .int) (hts _ harr) (g := F0 m pc ls ((.int (nI N) :: st).map (vmv ad))) rfl d rfl (nI_pos (by omega)) (nI_clamp (by omega)) (by show N * 4 ≤ 536870912; omega) hcells hslots rfl fun H1 cA e1 z1 o1 hAr hNm => ?_
  have hcA : cA = dA 0 := Option.some.inj (hNm.symm.trans (K.1.2 0 _ rfl).2)
  subst hcA
  have hat : va_at D vwCl (H.size, pa dA ad (aI N (fun _ => 0))) H1 := e1
  have h9 := k l p e s m args below meth c C D dA ad0 σ0 K (va_up ad q H.size) H1 _ ls (S.new hS.1 hq trivial hat o1) ⟨Nat.le_trans hS.1 (by omega), fun x h1 h2 => (o1 x (Nat.lt_of_lt_of_le h1 hS.1)).trans (hS.2.1 x h1 h2), hS.2.2⟩ ⟨hl.1, hl.2.1, fun i u hu => by rw [vmv_up hq (hL i u hu)]; exact hl.2.2 i u hu⟩ (fun i u hu => up_in (hL i u hu)) (cl_c (cl_r (ne_of (up_self σ q _))) (up_clS (cl_t hst)))
  rw [List.map_cons, vmv_ups hq (cl_t hst), show vmv (va_up ad q H.size) (.ref q) = .ref H.size from congrArg Value.ref (va_up_self ad q _)] at h9
  exact h9
theorem z_newaJ {N : Nat} {n : Int32} (harr : Cond.arrayClass .long ∈ WT) (d : decode cc pc = .ok (.newarray .long, 2)) (q : Nat) (hq : σ q = none) (hn : n = nI N) (hN : N < 100000) (hcells : cells + 1 ≤ R.cells) (hslots : slots + N ≤ R.slots) (k : T y cc nL ret hh R Q QX (pc + 2) L (.ref q :: st) (up σ q (aJ N (fun _ => 0))) (cells + 1) (slots + N)) : T y cc nL ret hh R Q QX pc L (.int n :: st) σ cells slots := by
  intro l p e s m args below meth c C D dA ad0 σ0 K ad H locs ls S hS hl hL hst
  have hts := C.2.2.2.2.2.2.2.1
  subst hn
  refine va_newaK C.1 C.2.1 (atype := .long) (hts _ harr) (g := F0 m pc ls ((.int (nI N) :: st).map (vmv ad))) rfl d rfl (nI_pos (by omega)) (nI_clamp (by omega)) (by show N * 8 ≤ 536870912; omega) hcells hslots rfl fun H1 cA e1 z1 o1 hAr hNm => ?_
  have hcA : cA = dA 1 := Option.some.inj (hNm.symm.trans (K.1.2 1 _ rfl).2)
  subst hcA
  have hat : va_at D vwCl (H.size, pa dA ad (aJ N (fun _ => 0))) H1 := e1
  have h9 := k l p e s m args below meth c C D dA ad0 σ0 K (va_up ad q H.size) H1 _ ls (S.new hS.1 hq trivial hat o1) ⟨Nat.le_trans hS.1 (by omega), fun x h1 h2 => (o1 x (Nat.lt_of_lt_of_le h1 hS.1)).trans (hS.2.1 x h1 h2), hS.2.2⟩ ⟨hl.1, hl.2.1, fun i u hu => by rw [vmv_up hq (hL i u hu)]; exact hl.2.2 i u hu⟩ (fun i u hu => up_in (hL i u hu)) (cl_c (cl_r (ne_of (up_self σ q _))) (up_clS (cl_t hst)))
  rw [List.map_cons, vmv_ups hq (cl_t hst), show vmv (va_up ad q H.size) (.ref q) = .ref H.size from congrArg Value.ref (va_up_self ad q _)] at h9
  exact h9
theorem z_newaZ {N : Nat} {n : Int32} (harr : Cond.arrayClass .boolean ∈ WT) (d : decode cc pc = .ok (.newarray .boolean, 2)) (q : Nat) (hq : σ q = none) (hn : n = nI N) (hN : N < 100000) (hcells : cells + 1 ≤ R.cells) (hslots : slots + N ≤ R.slots) (k : T y cc nL ret hh R Q QX (pc + 2) L (.ref q :: st) (up σ q (aZ N (fun _ => 0))) (cells + 1) (slots + N)) : T y cc nL ret hh R Q QX pc L (.int n :: st) σ cells slots := by
  intro l p e s m args below meth c C D dA ad0 σ0 K ad H locs ls S hS hl hL hst
  have hts := C.2.2.2.2.2.2.2.1
  subst hn
  refine va_newaK C.1 C.2.1 (atype := .boolean) (hts _ harr) (g := F0 m pc ls ((.int (nI N) :: st).map (vmv ad))) rfl d rfl (nI_pos (by omega)) (nI_clamp (by omega)) (by show N * 1 ≤ 536870912; omega) hcells hslots rfl fun H1 cA e1 z1 o1 hAr hNm => ?_
  have hcA : cA = dA 2 := Option.some.inj (hNm.symm.trans (K.1.2 2 _ rfl).2)
  subst hcA
  have hat : va_at D vwCl (H.size, pa dA ad (aZ N (fun _ => 0))) H1 := e1
  have h9 := k l p e s m args below meth c C D dA ad0 σ0 K (va_up ad q H.size) H1 _ ls (S.new hS.1 hq trivial hat o1) ⟨Nat.le_trans hS.1 (by omega), fun x h1 h2 => (o1 x (Nat.lt_of_lt_of_le h1 hS.1)).trans (hS.2.1 x h1 h2), hS.2.2⟩ ⟨hl.1, hl.2.1, fun i u hu => by rw [vmv_up hq (hL i u hu)]; exact hl.2.2 i u hu⟩ (fun i u hu => up_in (hL i u hu)) (cl_c (cl_r (ne_of (up_self σ q _))) (up_clS (cl_t hst)))
  rw [List.map_cons, vmv_ups hq (cl_t hst), show vmv (va_up ad q H.size) (.ref q) = .ref H.size from congrArg Value.ref (va_up_self ad q _)] at h9
  exact h9
theorem z_anew {N idx : Nat} {n : Int32} (hk : Cond.classLink y.cls idx RX0 ∈ WT) (d : decode cc pc = .ok (.anewarray idx, 3)) (q : Nat) (hq : σ q = none) (hn : n = nI N) (hN : N < 100000) (hcells : cells + 1 ≤ R.cells) (hslots : slots + N ≤ R.slots) (k : T y cc nL ret hh R Q QX (pc + 3) L (.ref q :: st) (up σ q (aR N (fun _ => none))) (cells + 1) (slots + N)) : T y cc nL ret hh R Q QX pc L (.int n :: st) σ cells slots := by
  intro l p e s m args below meth c C D dA ad0 σ0 K ad H locs ls S hS hl hL hst
  have hts := C.2.2.2.2.2.2.2.1
  subst hn
  have hcl0 : (nI N).toNatClampNeg = N := nI_clamp (by omega)
  refine W.anew C.1 C.2.1 C.2.2.2.2.2.2.1 (hts _ hk) (va_AO.use K.2.1) (g := F0 m pc ls ((.int (nI N) :: st).map (vmv ad))) rfl d rfl (nI_pos (by omega)) (by rw [hcl0]; omega) hcells (by rw [hcl0]; exact hslots) fun cA kA comp f1 f2 f3 f4 => ?_
  rw [hcl0]
  generalize hH1 : H.push ({ cls := cA, slots := Array.replicate N .null, vm := .none } : Cell) = H1
  have z1 : H1.size = H.size + 1 := by rw [← hH1, Array.size_push]
  have e1 : H1[H.size]? = some (arrV cA N (fun _ => .null)) := by rw [← hH1, Array.getElem?_push_size, ← arrV_new]
  have o1 : ∀ q : Nat, q < H.size → H1[q]? = H[q]? := fun q hq => by rw [← hH1, Array.getElem?_push, if_neg (Nat.ne_of_lt hq)]
  obtain ⟨kA9, comp9, g1, g2, g3, g4⟩ := (K.1.2 3 _ rfl).2
  have hcA : cA = dA 3 := Option.some.inj (f1.symm.trans g4)
  subst hcA
  have hat : va_at D vwCl (H.size, pa dA ad (aR N (fun _ => none))) H1 := e1
  have hcl9 : clC σ (aR N (fun _ => none)) := fun j m e => by cases e
  have h9 := k l p e s m args below meth c C D dA ad0 σ0 K (va_up ad q H.size) H1 _ ls (S.new hS.1 hq hcl9 hat o1) ⟨Nat.le_trans hS.1 (by omega), fun x h1 h2 => (o1 x (Nat.lt_of_lt_of_le h1 hS.1)).trans (hS.2.1 x h1 h2), hS.2.2⟩ ⟨hl.1, hl.2.1, fun i u hu => by rw [vmv_up hq (hL i u hu)]; exact hl.2.2 i u hu⟩ (fun i u hu => up_in (hL i u hu)) (cl_c (cl_r (ne_of (up_self σ q _))) (up_clS (cl_t hst)))
  rw [List.map_cons, vmv_ups hq (cl_t hst), show vmv (va_up ad q H.size) (.ref q) = .ref H.size from congrArg Value.ref (va_up_self ad q _)] at h9
  exact h9
theorem z_aast {o n a : Nat} {g : Nat → Option Nat} {i : Int32} {vs : List Value} (d : decode cc pc = .ok (.aastore, 1)) (ho : σ o = some (aR n g)) (ha : σ a = some (.inr (0, vs))) (j : Nat) (hi : i = nI j) (hj : j < n) (k : T y cc nL ret hh R Q QX (pc + 1) L st (up σ o (aR n (va_up g j (some a)))) cells slots) (hn : n < 2147483648 := by decide) : T y cc nL ret hh R Q QX pc L (.ref a :: .int i :: .ref o :: st) σ cells slots := by
  intro l p e s m args below meth c C D dA ad0 σ0 K ad H locs ls S hS hl hL hst
  subst hi
  have hin : vp_in (nI j) n := vp_in_nI hj hn
  have hcl0 : (nI j).toNatClampNeg = j := nI_clamp (Nat.lt_trans hj hn)
  have h0 : ¬ nI j < 0 := fun q => hin (Or.inl q)
  have hcell : H[ad o]? = some (arrV (dA 3) n (fun q => va_rf ((g q).map ad))) := S.1.1 o _ ho
  obtain ⟨r', hr', cellV, g1, g2, g3, -⟩ := S.1.1 a _ ha
  have hcls := (K.1.1 0 _ rfl).2
  obtain ⟨kA, comp, k1, k2, k3, -⟩ := (K.1.2 3 _ rfl).2
  have hcomp : comp = D.1 0 := Option.some.inj (k3.symm.trans hcls.1)
  subst hcomp
  obtain ⟨kC, hkC, -⟩ := hcls.2
  refine W.aast C.1 C.2.1 hcell (fun q h => by cases h) (fun h => by cases h) k1 k2 rfl hkC ⟨h0, by show _ < (arrV _ _ _).slots.size; rw [arrV_size, hcl0]; exact hj⟩ g1 (fun q h => by rw [g3] at h; cases h) (by rw [g2]; exact hkC) (by rw [g2]; exact va_assign hcls) rfl rfl d fun H1 e1 z1 oq => ?_
  rw [hcl0, arrV_store] at e1
  rw [hcl0]
  have hat : va_at D vwCl (ad o, pa dA ad (aR n (va_up g j (some a)))) H1 := by
    show H1[ad o]? = some (arrV (dA 3) n (fun q => va_rf ((va_up g j (some a) q).map ad)))
    rw [e1]
    congr 2
    funext q
    by_cases hq : q = j
    · subst hq
      simp [updV, va_up, va_rf, vmv]
    · simp [updV, va_up, hq]
  have hcl9 : clC σ (aR n (va_up g j (some a))) := fun q m9 e9 => by
    by_cases hq : q = j
    · subst hq; rw [va_up_self] at e9; cases e9; exact ne_of ha
    · rw [va_up_ne _ _ hq] at e9; exact S.1.2.2 o _ ho q m9 e9
  exact k l p e s m args below meth c C D dA ad0 σ0 K ad H1 _ ls (S.put (nf_of ho rfl) hcl9 hat oq) (hS.put z1 oq (S.2.2 o (nf_of ho rfl))) hl (fun i u hu => up_in (hL i u hu)) (up_clS (cl_t (cl_t (cl_t hst))))
theorem z_aret {x : Nat} {rt : FieldType} (d : decode cc pc = .ok (.areturn, 1)) (hr : ret = some rt) (hrt : (∃ n, rt = .object n) ∨ ∃ t, rt = .array t) (hc : cells ≤ R.cells) (hs : slots ≤ R.slots) (hq : Q (some (.ref x)) σ) : T y cc nL ret hh R Q QX pc L [.ref x] σ cells slots := by
  intro l p e s m args below meth c C D dA ad0 σ0 K ad H locs ls S hS hl hL hst
  refine W.widen hc hs (vx_ret ?_)
  exact W.aret C.1 C.2.1 (C.2.2.2.1.trans hr) hrt (Or.inr ⟨_, rfl⟩) (fun t ht hW => ⟨⟨ad, σ, some (.ref x), rfl, hq, by rw [ht]; exact S, fun v e => by cases e; exact cl_h hst⟩, hS.F ht⟩) hS.2.2 d C.2.2.2.2.1
/-- a throw that nothing here catches goes on to the caller -/
theorem z_out {E : String} (hh0 : hh = []) (hc : cells ≤ R.cells) (hs : slots ≤ R.slots) (hq : QX E σ) : TX y cc nL ret hh R Q QX pc L E σ cells slots := by
  intro l p e s m args below meth c C D dA ad0 σ0 K ad H locs ls rest q ce S hS hl hL hce hcv hcl
  have ht : c.exceptionTable.toList = [] := by rw [C.2.2.2.2.2.2.2.2.1, hh0]; rfl
  exact vx_out (E := E) (ce := ce) (fun x hx => by rw [ht] at hx; cases hx) C.2.2.2.2.1 hce hcv hcl (fun t ht hW => ⟨⟨ad, σ, hq, by rw [ht]; exact S⟩, hS.F ht⟩) hS.2.2 hc hs
end TN
