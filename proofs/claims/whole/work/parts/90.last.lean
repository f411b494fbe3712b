theorem law_Kx {s : State} {args : Array Value} (hts : ∀ w ∈ lw_tbl, w.before args s = true) (hgv : (Jvm.Cond.and given_1 narrow_1).before args s = true) (A : Nat → Prop) (hA : ∀ a : Nat, a < s.heap.size → ¬ A a) {cF : ClassId} (hF : foK cF s) : ∃ (D : va_G) (dA : Nat → ClassId), dA 9 = cF ∧ Kx D dA A s s.heap := by
  have hW : ∀ w ∈ WT, w.before args s = true := fun w hw => hts w (List.mem_filter.mp hw).1
  have hs := flat_of_before _ hgv
  obtain ⟨c0, i0, k0⟩ := u_known hW cls0.2.1 (hW _ itX0)
  obtain ⟨c1, i1, k1⟩ := u_known hW cls1.2.1 (hW _ itX2)
  obtain ⟨c2, i2, k2⟩ := u_known hW cls2.2.1 (hW _ itX3)
  obtain ⟨c3, i3, k3⟩ := u_known hW cls3.2.1 (hW _ itX4)
  obtain ⟨c4, i4, k4⟩ := u_known hW cls4.2.1 (hW _ itX5)
  obtain ⟨c5, i5, k5⟩ := u_known hW cls5.2.1 (hW _ itX6)
  obtain ⟨c6, i6, k6⟩ := u_known hW cls6.2.1 (hW _ itX7)
  obtain ⟨a0, ka0, cm0, f0, g0, h0⟩ := Cond.arrayClass_spec (hW _ (inW1 63 rfl rfl : Cond.arrayClass .int ∈ WT))
  obtain ⟨a1, ka1, cm1, f1, g1, h1⟩ := Cond.arrayClass_spec (hW _ (inW1 111 rfl rfl : Cond.arrayClass .long ∈ WT))
  obtain ⟨a2, ka2, cm2, f2, g2, h2⟩ := Cond.arrayClass_spec (hW _ (inW3 195 rfl rfl : Cond.arrayClass .boolean ∈ WT))
  have hAO : (Cond.arrayOver (.object RX0)).before args s = true := hts _ (by decide +kernel)
  obtain ⟨cm3, a3, ka3, e3, -, g3, h3, f3⟩ := Cond.arrayOver_spec hAO
  refine ⟨(fun i => match i with
    | 0 => c0
    | 1 => c1
    | 2 => c2
    | 3 => c3
    | 4 => c4
    | 5 => c5
    | _ => c6, fun i => match i with
    | 0 => i0
    | 1 => i1
    | 2 => i2
    | 3 => i3
    | 4 => i4
    | 5 => i5
    | _ => i6), fun k => match k with
    | 0 => a0
    | 1 => a1
    | 2 => a2
    | 3 => a3
    | _ => cF, rfl, ⟨?_, ?_⟩, va_AO.of hAO, va_Nw.of rfl (hts _ (by decide +kernel)), ?_, ?_, ?_, ?_, ?_, hF⟩
  · intro c q hq
    match c with
    | 0 => cases hq; exact k0
    | 1 => cases hq; exact k1
    | 2 => cases hq; exact k2
    | 3 => cases hq; exact k3
    | 4 => cases hq; exact k4
    | 5 => cases hq; exact k5
    | 6 => cases hq; exact k6
    | c + 7 => cases hq
  · intro k q hq
    match k with
    | 0 => cases hq; exact ⟨fun n z => ⟨(fun k h => by cases h), ka0, g0, cm0, h0⟩, f0⟩
    | 1 => cases hq; exact ⟨fun n z => ⟨(fun k h => by cases h), ka1, g1, cm1, h1⟩, f1⟩
    | 2 => cases hq; exact ⟨fun n z => ⟨(fun k h => by cases h), ka2, g2, cm2, h2⟩, f2⟩
    | 3 => cases hq; exact ⟨fun n z => ⟨(fun k h => by cases h), ka3, g3, cm3, h3⟩, ka3, cm3, g3, h3, e3, f3⟩
    | k + 4 => cases hq
  · intro q hq
    have e1 : ∀ q ∈ strTab, q.1 = RX6 ∧ Cond.stringRef q.1 q.2.1 q.2.2 ∈ lw_tbl := by decide +kernel
    have h9 := hts _ (e1 q hq).2
    obtain ⟨k, cf, i, a, -, -, -, -, -, e2⟩ := Cond.stringRef_spec (by rw [(e1 q hq).1]; exact k5.2.1) h9
    exact ⟨a, vk_R.of h9 e2⟩
  · exact List.forall_mem_cons.mpr ⟨va_Nc.of (hs _ (by decide +kernel)), List.forall_mem_cons.mpr ⟨va_Nc.of (hs _ (by decide +kernel)), List.forall_mem_cons.mpr ⟨va_Nc.of (hs _ (by decide +kernel)), (fun q hq => by cases hq)⟩⟩⟩
  · intro w hw
    have e1 : ∀ w ∈ fcTab, w ∈ lw_tbl := by decide +kernel
    exact va_Nw.of (fc_ok w hw).1 (hts w (e1 w hw))
  · exact vx_Zqof (hts _ (by decide +kernel)) (hts _ (by decide +kernel)) (hs _ (by decide +kernel)) hA
  · exact vx_Zqof (hts _ (by decide +kernel)) (hts _ (by decide +kernel)) (hs _ (by decide +kernel)) hA
/-! THE CLAIM OUT OF ONE WALK OF THE LAW'S BODY -/
def R_law : String := "CrowdDeskLaw"
def lw_P (b : Addr) (xs : List Int32) (args : Array Value) (s : State) : Prop := args = #[.ref b] ∧ s.IntsAt b xs ∧ xs.length ≤ 2048 ∧ (Jvm.Cond.and given_1 narrow_1).before args s = true
def lw_Q (_ : Array Value) (s : State) (o : Outcome) (t : State) : Prop := o = .returned (some (.int 1)) ∧ Framed s o t [] 601024 7293033
def lw_Z (below : List Frame) (a : Array Value) (s : State) : State → Prop := fun t => ∃ o, t.status = .running ∧ Ended t below o ∧ lw_Q a s o t
def lw_At (p : Program) (s : State) (m : MethodId) (meth : Method) (c : Code) (b L : Nat) (xs : Nat → Int32) : Prop :=
  p.tables.exec = Jvm.exec ∧ c.code = code ∧ meth.sig.returnType = ret ∧ c.maxLocals = 7 ∧ s.vm.findClass R_law = some m.cls ∧ (∀ w ∈ lw_tbl, w.before #[Value.ref b] s = true) ∧ va_X b L xs s s.heap ∧ b < s.heap.size ∧ meth.locks = false ∧ (Jvm.Cond.and given_1 narrow_1).before #[Value.ref b] s = true ∧ meth.name = "law" ∧ c.exceptionTable.toList = []
/-- from the entry, for every script of at most 2048 ints, the law comes to its end with true -/
theorem whole_start {p : Program} {e : Env} {s : State} {m : MethodId} {below : List Frame} {meth : Method} {c : Code} (l : Launch) (hst : l.stackTraces = false) {b L : Nat} {xs : Nat → Int32} (hL : L ≤ 2048) (C0 : lw_At p s m meth c b L xs) : W p l e room_1 s m #[Value.ref b] below meth c s.heap [] 0 0 (lw_Z below #[Value.ref b] s) (entryFrame m ([Value.ref b] : List Value).toArray 7) := by
  obtain ⟨hx, hb, hr, hml, hown, hts, ⟨scr, x1, x2, x3, x4, x5⟩, hbl, hlk, hgv, hnm, htab⟩ := C0
  obtain ⟨y1, kF, y2, cmp, y3⟩ := x2
  have hxs : xs = fun j => iI (xs j).toInt := funext fun j => (Int32.ofInt_toInt (xs j)).symm
  let sc : Nat → Int := fun j => (xs j).toInt
  let σ0 : Wd := up (fun _ => none) 140 (foI L (fun j => iI (sc j)))
  let ad0 : Nat → Nat := fun _ => b
  have h140 : σ0 140 = some (foI L (fun j => iI (sc j))) := up_self _ _ _
  have hz : ∀ q, q ≠ 140 → σ0 q = none := fun q hq => up_ne _ _ hq
  have hAz : ∀ q, AA ad0 σ0 s.heap.size q → s.heap.size ≤ q := by
    rintro q (⟨n, ⟨c9, h1, h2⟩, -⟩ | h)
    · by_cases e : n = 140
      · rw [e, h140] at h1
        cases h1
        cases h2
      · rw [hz n e] at h1
        cases h1
    · exact h
  have hW : ∀ w ∈ WT, w.before #[Value.ref b] s = true := fun w hw => hts w (List.mem_filter.mp hw).1
  obtain ⟨D, dA, hd9, hK⟩ := law_Kx hts hgv (AA ad0 σ0 s.heap.size) (fun a h1 h2 => by have := hAz a h2; omega) (cF := scr.cls) ⟨kF, y2, cmp, y3⟩
  have hR : Rp D dA ad0 σ0 s.heap := by
    have h1 : ∀ n, σ0 n ≠ none → n = 140 := fun n hn => Classical.byContradiction fun q => hn (hz n q)
    refine ⟨fun n c9 hc => ?_, fun n k hn hk _ => (h1 n hn).trans (h1 k hk).symm, fun n c9 hc => ?_⟩
    · have e := h1 n (ne_of hc)
      rw [e, h140] at hc
      cases hc
      exact ⟨L, _, scr, rfl, x1, hd9.symm, y1, x3, x4, fun j hj => by rw [x5 j hj]; exact congrArg (fun f => some (Value.int (f j))) hxs⟩
    · have e := h1 n (ne_of hc)
      rw [e, h140] at hc
      cases hc
      exact trivial
  have hT : TL 0 (lent0 7 [.ref 140]) [] σ0 0 0 := law_T hL (fun j => ⟨Int32.le_toInt _, Int32.toInt_lt _⟩) h140 hz
  have hcl : clS σ0 [.ref 140] := fun v hv n hn => by
    rw [List.mem_singleton.mp hv] at hn
    cases hn
    exact ne_of h140
  have key : W p l e RLw s m #[Value.ref b] below meth c s.heap [] 0 0 (vx_MQ below (Po D dA ad0 σ0 QL) (PoX D dA ad0 σ0 NX) #[Value.ref b] s RLw.cells RLw.slots (AA ad0 σ0 s.heap.size)) (entryFrame m ((([.ref 140] : List Value).map (vmv ad0)).toArray) 7) := by
    have hent := lv_entry (([.ref 140] : List Value).map (vmv ad0)) (n := 7) (by rw [lent_len]; decide)
    rw [lg_entry_eq]
    generalize (lg_sl (([.ref 140] : List Value).map (vmv ad0)) ++ List.replicate (7 - (lg_sl (([.ref 140] : List Value).map (vmv ad0))).length) Slot.unset).toArray = ls at hent ⊢
    exact hT l p e s m _ below meth c ⟨hx, hb, hml, hr, hlk, hnm, hown, hW, htab, hst⟩ D dA ad0 σ0 hK ad0 s.heap [] ls ⟨hR, fun n hn => ⟨hn, rfl⟩, fun n hn => Or.inl ⟨n, hn, rfl⟩⟩ va_S.rf ⟨hent.1, hent.2.1, fun i v hi => hent.2.2 _ (lent_args ad0 [.ref 140] i 0 v (lget_app_none hi))⟩ (fun i v hi => hcl v (lget_mem (σ := σ0) (lget_app_none hi))) (fun v hv => by cases hv)
  intro T9 hT9 X9
  obtain ⟨t, a1, o, b1, b2, b3⟩ := key T9 hT9 X9
  refine ⟨t, a1, o, b1, b2, ?_⟩
  rcases b3 with ⟨⟨⟨ad, σ, r, e1, e2, -⟩, -⟩, Lc, ⟨q1, q2, s1, s2, s3, s4, s5, s6⟩, hfree⟩ | ⟨q, -, E, ce, Lc, ⟨⟨ad, σ, hf, -⟩, -⟩, -⟩
  · refine ⟨?_, q1, q2, s1, s2, s3, s4, s5, fun a c9 hc => ?_⟩
    · have e2 : r = some (.int (iI 1)) := e2
      rw [e1, e2]; rfl
    · obtain ⟨c', d1, d2, d3, d4⟩ := s6 a c9 hc
      refine ⟨c', d1, d2, d3, fun i _ => d4 i (fun hm => ?_)⟩
      have h1 : s.heap.size ≤ a := hAz _ (hfree _ hm)
      exact absurd h1 (Nat.not_le.mpr (Array.getElem?_eq_some_iff.mp hc).1)
  · exact hf.elim
set_option maxHeartbeats 4000000 in
theorem lw_walk (l : Launch) (hst : l.stackTraces = false) (b : Addr) (xs : List Int32) : MetFree l x (headSpec (Jvm.Cond.code x code maxLocals ret :: tables_1) room_1) (lw_P b xs) (fun _ _ _ _ _ => True) lw_Q := by
  refine MetFree.of_bodyS (code := code) (maxLocals := maxLocals) (ret := ret) (by decide) ?_ ?_
  · intro args s m h hn
    obtain ⟨meth, c, h1, h2, h3, h4, h5, h6, -, -⟩ := Cond.code_spec hn (atoms_spec (ws := Jvm.Cond.code x code maxLocals ret :: tables_1) h _ List.mem_cons_self)
    exact ⟨meth, c, h1, h2, h3, h4, h5, h6⟩
  · intro p e s m args below meth c s₁ B hml0 hP _
    obtain ⟨rfl, hx, hbd, hgv⟩ := hP
    obtain ⟨scr, harrAt, hlist, hof, hsmall⟩ := hx
    obtain ⟨hcb, hkn, -, -⟩ := State.arrayAt?_spec harrAt
    have hown : s.vm.findClass R_law = some m.cls := findClass_of_methodNamed B.named
    have hts0 : ∀ c ∈ (Jvm.Cond.code x code maxLocals ret :: tables_1), c.before #[Value.ref b] s = true := atoms_spec (ws := Jvm.Cond.code x code maxLocals ret :: tables_1) B.pre
    have hts : ∀ w ∈ lw_tbl, w.before #[Value.ref b] s = true := k2_hts_sels lw_privs (fun w hw => hts0 w (List.mem_cons_of_mem _ hw)) lw_privs_ok
    have hml : c.maxLocals = 7 := B.maxLocals_eq (hts0 _ List.mem_cons_self)
    have X₀ : Stand p l e room_1 s m #[Value.ref b] below meth c s₁ [] 0 0 := Stand.of_body B
    have hnm : meth.name = "law" := (name_of_methodNamed B.named B.method).1
    have htab : c.exceptionTable.toList = [] := by
      obtain ⟨meth9, c9, h1, h2, -, -, -, -, h7, -⟩ := Cond.code_spec B.named (hts0 _ List.mem_cons_self)
      cases Option.some.inj (h1.symm.trans B.method)
      cases Option.some.inj (h2.symm.trans X₀.code)
      rw [Array.isEmpty_iff.mp h7]
    have hh0 : s₁.heap = s.heap := by rw [B.state]; rfl
    have hsz : scr.slots.size = xs.length := by rw [← Array.length_toList, hlist, List.length_map]
    have hval : ∀ j : Nat, j < xs.length → scr.slots[j]? = some (.int (xs.getD j 0)) := fun j hj => by
      rw [← Array.getElem?_toList, hlist]
      simp [hj]
    have hbl : b < s.heap.size := (Array.getElem?_eq_some_iff.mp hcb).1
    have hX : va_X b xs.length (fun j => xs.getD j 0) s s.heap := ⟨scr, hcb, hof, hkn, hsz, hval⟩
    have K : W p l e room_1 s m #[Value.ref b] below meth c s₁.heap [] 0 0 (lw_Z below #[Value.ref b] s) (entryFrame m ([Value.ref b] : List Value).toArray 7) := by
      rw [hh0]
      exact whole_start l hst hbd ⟨B.exec, B.bytes, B.returns, hml, hown, hts, hX, hbl, B.notSynchronized, hgv, hnm, htab⟩
    obtain ⟨t, a1, o, b1, b2, b3⟩ := K s₁ rfl X₀
    exact ⟨t, o, a1, b1, b2, b3⟩
theorem lw_pre_spec {args : Array Value} {s : State} (h : (Jvm.Cond.and given_1 narrow_1).before args s = true) (hr : rest_1_c.before args s = true) : ∃ (b : Addr) (xs : List Int32), lw_P b xs args s := by
  have hs := flat_of_before _ h
  have hq := flat_of_before _ hr
  have hc : (Cond.count 1).before args s = true := hs _ (by decide +kernel)
  have harr : (Cond.arrayOf (.arg 0) .int).before args s = true := hs _ (by decide +kernel)
  have hle : (Cond.le (.length (.arg 0)) (.int 2048)).before args s = true := hs _ (by decide +kernel)
  have hlen : (Cond.isInt (.length (.arg 0))).before args s = true := hq _ (by decide +kernel)
  have hall : (Cond.all (.arg 0) (.isInt (.elem (.arg 0) (.index 0)))).before args s = true := hq _ (by decide +kernel)
  obtain ⟨b, xs, hb, hx⟩ := State.ints_of_pre rfl harr hlen hall
  have hsm : xs.length < 2 ^ 31 := hx.choose_spec.2.2.2
  have hev : (Term.length (.arg 0)).eval args s none [] s = some (.int xs.length.toInt32) := hx.length_eval hb
  have hv := Cond.le_ints hev (show (Term.int 2048).eval args s none [] s = some (.int 2048) from rfl)
  have hd : xs.length.toInt32 ≤ 2048 := by
    simpa [Cond.before, Cond.holds, hv] using hle
  have hN : xs.length ≤ 2048 := (Int32.ofNat_le_ofNat hsm (by decide)).mp (show Int32.ofNat xs.length ≤ Int32.ofNat 2048 from hd)
  exact ⟨b, xs, Cond.one_arg hc (show args[0]? = some (.ref b) from hb), hx, hN, h⟩
theorem lw_comes (l : Launch) (hst : l.stackTraces = false) : Comes l x (Jvm.Cond.code x code maxLocals ret :: tables_1) room_1 (fun tb e args s => Calls_1 tb e args s ∧ rest_1 tb e args s ∧ Pre_1 tb e args s)
    (fun _ _ args s o t => lw_Q args s o t) := by
  intro p e ha hc hk s m args below hf hfit hheap happ hpre
  obtain ⟨b, xs, hP⟩ := lw_pre_spec hpre.2.2 hpre.2.1
  obtain ⟨k, o, h1, h2, h3, hQ⟩ := lw_walk l hst b xs p e ha hc hk s m args below hf ((Spec.applies_iff_loose hf).mp happ).1 hP trivial
  exact ⟨k, o, h1, h2, h3, hQ⟩
theorem lw_frame {s t : State} {o : Outcome} {args : Array Value} (h : Framed s o t [] 601024 7293033) :
    Framed s o t (fieldLocs frame_1_writes args s ++ arrayLocs frame_1_arrays args s ++ staticLocs frame_1_statics s) 601024 7293033 := h
theorem lw_limb (L : Cond) (hL : ∀ (args : Array Value) (s t : State), L.after args s (.returned (some (.int 1))) t = true) :
    ArmFor flags0 classFile x code maxLocals ret World_1 tables_1 room_1 Calls_1 rest_1 Pre_1
      (fun tb e a s o t => postC L tb e a s o t ∧ Framed s o t (fieldLocs frame_1_writes a s ++ arrayLocs frame_1_arrays a s ++ staticLocs frame_1_statics s) 601024 7293033) := by
  intro l hfl _ _ p e ha hc hk s m args below hf hfit hheap happ hpre
  have hst : l.stackTraces = false := by unfold Launch.stackTraces; rw [hfl]; decide
  obtain ⟨k, o, h1, h2, h3, rfl, hF⟩ := lw_comes l hst p e ha hc hk s m args below hf hfit hheap happ hpre
  exact ⟨k, _, h1, h2, h3, hL args s _, lw_frame hF⟩
theorem i_vc : Claimed_1_1 ∧ Claimed_1_2 := ⟨lw_limb limb_1_1 (fun args s t => by simp [limb_1_1, Cond.after, Cond.holds, Cond.value]), lw_limb limb_1_2 (fun args s t => Cond.after_iff.mpr (by
  first | (rw [show limb_1_2 = Cond.eq .result (.int 1) from rfl, Cond.eq_ints (x := 1) (y := 1) rfl rfl]; simp; done) | (simp [limb_1_2, Cond.value, Term.eval]; done)))⟩
