/-! CONTRACTS -/
def CP (D : va_G) (dA : Nat → ClassId) (ad : Nat → Nat) (sz : Nat) (av : List Value) (σ : Wd) : Array Value → State → Prop := va_Pc (av.map (vmv ad)) (fun U => U.heap.size = sz ∧ Rp D dA ad σ U.heap ∧ clS σ av ∧ Kx D dA (AA ad σ sz) U U.heap)
/-- method y, called with av in the world σ, returns with Q or throws with QX, within the room R -/
def Ct (y : MethodName) (cc : ByteArray) (nL : Nat) (ret : Option FieldType) (R : Room) (av : List Value) (σ : Wd) (Q : Option Value → Wd → Prop) (QX : String → Wd → Prop) : Prop :=
  ∀ (l : Launch), l.stackTraces = false → ∀ (D : va_G) (dA : Nat → ClassId) (ad : Nat → Nat) (sz : Nat), vx_Met l y (Cond.code y cc nL ret :: WT) R (CP D dA ad sz av σ) (Po D dA ad σ Q) (PoX D dA ad σ QX) R.cells R.slots (AA ad σ sz)
/-- .. of a method with an exception table -/
def CtH (y : MethodName) (cc : ByteArray) (nL : Nat) (ret : Option FieldType) (hh : List (Nat × Nat × Nat × Nat)) (R : Room) (av : List Value) (σ : Wd) (Q : Option Value → Wd → Prop) (QX : String → Wd → Prop) : Prop :=
  ∀ (l : Launch), l.stackTraces = false → ∀ (D : va_G) (dA : Nat → ClassId) (ad : Nat → Nat) (sz : Nat), vx_Met l y (Cond.codeWith y cc nL ret hh :: WT) R (CP D dA ad sz av σ) (Po D dA ad σ Q) (PoX D dA ad σ QX) R.cells R.slots (AA ad σ sz)
def lent : List Value → List (Option Value)
  | [] => []
  | v :: r => some v :: (bif Nat.beq v.category 2 then none :: lent r else lent r)
def lent0 (nL : Nat) (av : List Value) : List (Option Value) := lent av ++ List.replicate (nL - (lent av).length) none
theorem lent_len (ad : Nat → Nat) : ∀ av : List Value, (lg_sl (av.map (vmv ad))).length = (lent av).length
  | [] => rfl
  | v :: r => by
    have ih := lent_len ad r
    unfold lg_sl at ih ⊢
    rw [List.map_cons, List.flatMap_cons, List.length_append, ih, vmv_cat, show lent (v :: r) = some v :: (bif Nat.beq v.category 2 then none :: lent r else lent r) from rfl]
    by_cases h : v.category = 2
    · rw [if_pos h]
      have : Nat.beq v.category 2 = true := by rw [h]; rfl
      rw [this]
      simp only [cond_true, List.length_cons, List.length_nil]
      omega
    · rw [if_neg h]
      have : Nat.beq v.category 2 = false := by
        cases hb : Nat.beq v.category 2 with
        | true => exact absurd (Nat.eq_of_beq_eq_true hb) h
        | false => rfl
      rw [this]
      simp only [cond_false, List.length_cons, List.length_nil]
      omega
theorem lget_app_none {A : List (Option Value)} {k i : Nat} {v : Value} (h : lget (A ++ List.replicate k none) i = some v) : lget A i = some v := by
  unfold lget at h ⊢
  by_cases hi : i < A.length
  · rw [List.getElem?_append_left hi] at h; exact h
  · rw [List.getElem?_append_right (by omega)] at h
    by_cases hk : i - A.length < k
    · rw [List.getElem?_replicate_of_lt hk] at h; cases h
    · rw [List.getElem?_eq_none (by rw [List.length_replicate]; omega)] at h; cases h
theorem lent_args (ad : Nat → Nat) : ∀ (av : List Value) (i j : Nat) (v : Value), lget (lent av) i = some v → (i + j, vmv ad v) ∈ lv_args j (av.map (vmv ad))
  | [], i, j, v, h => by simp [lent, lget] at h
  | u :: r, i, j, v, h => by
    rw [List.map_cons]
    unfold lv_args
    rw [vmv_cat]
    unfold lent at h
    cases i with
    | zero =>
      have e : u = v := by simpa [lget] using h
      subst e
      rw [Nat.zero_add]
      exact List.mem_cons_self
    | succ i =>
      refine List.mem_cons_of_mem _ ?_
      have h : lget (bif Nat.beq u.category 2 then none :: lent r else lent r) i = some v := by simpa [lget] using h
      by_cases hc : u.category = 2
      · rw [if_pos hc]
        have : Nat.beq u.category 2 = true := by rw [hc]; rfl
        rw [this] at h
        cases i with
        | zero => simp [lget] at h
        | succ i =>
          have h : lget (lent r) i = some v := by simpa [lget] using h
          have := lent_args ad r i (j + 2) v h
          rwa [show i + 1 + 1 + j = i + (j + 2) by omega]
      · rw [if_neg hc]
        have : Nat.beq u.category 2 = false := by
          cases hb : Nat.beq u.category 2 with
          | true => exact absurd (Nat.eq_of_beq_eq_true hb) hc
          | false => rfl
        rw [this] at h
        have := lent_args ad r i (j + 1) v h
        rwa [show i + 1 + j = i + (j + 1) by omega]
theorem lget_mem {σ : Wd} : ∀ {av : List Value} {i : Nat} {v : Value}, lget (lent av) i = some v → v ∈ av
  | [], i, v, h => by simp [lent, lget] at h
  | u :: r, i, v, h => by
    unfold lent at h
    cases i with
    | zero =>
      have e : u = v := by simpa [lget] using h
      subst e
      exact List.mem_cons_self
    | succ i =>
      have h : lget (bif Nat.beq u.category 2 then none :: lent r else lent r) i = some v := by simpa [lget] using h
      refine List.mem_cons_of_mem _ ?_
      cases hb : Nat.beq u.category 2 with
      | true =>
        rw [hb] at h
        cases i with
        | zero => simp [lget] at h
        | succ i => exact lget_mem (σ := σ) (i := i) (by simpa [lget] using h)
      | false =>
        rw [hb] at h
        exact lget_mem (σ := σ) h
theorem Ct.intro {y : MethodName} {cc : ByteArray} {nL : Nat} {ret : Option FieldType} {R : Room} {av : List Value} {σ : Wd} {Q : Option Value → Wd → Prop} {QX : String → Wd → Prop} (hy : plainName y.cls = true) (hlen : (lent av).length ≤ nL) (h : T y cc nL ret [] R Q QX 0 (lent0 nL av) [] σ 0 0) : Ct y cc nL ret R av σ Q QX := by
  intro l hl D dA ad sz
  refine vx_ofW hy rfl ?_
  intro p e s m args below meth c s₁ B hml ht hv
  obtain ⟨rfl, hsz, hP, hcl, hK⟩ := hv
  subst hsz
  have hts := atoms_spec (ws := Cond.code y cc nL ret :: WT) B.pre
  have hown : s.vm.findClass y.cls = some m.cls := findClass_of_methodNamed B.named
  have hnm : meth.name = y.name := (name_of_methodNamed B.named B.method).1
  have hent := lv_entry (av.map (vmv ad)) (n := nL) (by rw [lent_len]; exact hlen)
  rw [lg_entry_eq]
  generalize (lg_sl (av.map (vmv ad)) ++ List.replicate (nL - (lg_sl (av.map (vmv ad))).length) Slot.unset).toArray = ls at hent ⊢
  have htab : c.exceptionTable.toList = tableOf [] := List.eq_nil_iff_forall_not_mem.mpr ht
  refine h l p e s m _ below meth c ⟨B.exec, B.bytes, hml, B.returns, B.notSynchronized, hnm, hown, fun w hw => hts w (List.mem_cons_of_mem _ hw), htab, hl⟩ D dA ad σ hK ad s.heap [] ls ⟨hP, fun n hn => ⟨hn, rfl⟩, fun n hn => Or.inl ⟨n, hn, rfl⟩⟩ va_S.rf ⟨hent.1, hent.2.1, fun i v hi => hent.2.2 _ (lent_args ad av i 0 v (lget_app_none hi))⟩ (fun i v hi => hcl v (lget_mem (σ := σ) (lget_app_none hi))) (fun v hv => by cases hv)
theorem CtH.intro {y : MethodName} {cc : ByteArray} {nL : Nat} {ret : Option FieldType} {hh : List (Nat × Nat × Nat × Nat)} {R : Room} {av : List Value} {σ : Wd} {Q : Option Value → Wd → Prop} {QX : String → Wd → Prop} (hy : plainName y.cls = true) (hlen : (lent av).length ≤ nL) (h : T y cc nL ret hh R Q QX 0 (lent0 nL av) [] σ 0 0) : CtH y cc nL ret hh R av σ Q QX := by
  intro l hl D dA ad sz
  refine vx_ofWH hy rfl ?_
  intro p e s m args below meth c s₁ B hml hv
  obtain ⟨rfl, hsz, hP, hcl, hK⟩ := hv
  subst hsz
  have hts := atoms_spec (ws := Cond.codeWith y cc nL ret hh :: WT) B.pre
  have hown : s.vm.findClass y.cls = some m.cls := findClass_of_methodNamed B.named
  have hnm : meth.name = y.name := (name_of_methodNamed B.named B.method).1
  have hent := lv_entry (av.map (vmv ad)) (n := nL) (by rw [lent_len]; exact hlen)
  rw [lg_entry_eq]
  generalize (lg_sl (av.map (vmv ad)) ++ List.replicate (nL - (lg_sl (av.map (vmv ad))).length) Slot.unset).toArray = ls at hent ⊢
  have htab : c.exceptionTable.toList = tableOf hh := vx_table (x := y) B (hts _ List.mem_cons_self)
  refine h l p e s m _ below meth c ⟨B.exec, B.bytes, hml, B.returns, B.notSynchronized, hnm, hown, fun w hw => hts w (List.mem_cons_of_mem _ hw), htab, hl⟩ D dA ad σ hK ad s.heap [] ls ⟨hP, fun n hn => ⟨hn, rfl⟩, fun n hn => Or.inl ⟨n, hn, rfl⟩⟩ va_S.rf ⟨hent.1, hent.2.1, fun i v hi => hent.2.2 _ (lent_args ad av i 0 v (lget_app_none hi))⟩ (fun i v hi => hcl v (lget_mem (σ := σ) (lget_app_none hi))) (fun v hv => by cases hv)
theorem Sr.trans {D : va_G} {dA : Nat → ClassId} {ad0 ad ad' : Nat → Nat} {σ0 σ σ' : Wd} {sz sz' : Nat} {H H' : Heap} (h : Sr D dA ad0 σ0 sz ad σ H) (hz : sz ≤ sz') (h' : Sr D dA ad σ sz' ad' σ' H') : Sr D dA ad0 σ0 sz ad' σ' H' := by
  refine ⟨h'.1, fun n hn => ?_, fun n hn => ?_⟩
  · obtain ⟨a1, a2⟩ := h.2.1 n hn
    obtain ⟨b1, b2⟩ := h'.2.1 n a1
    exact ⟨b1, b2.trans a2⟩
  · rcases h'.2.2 n hn with ⟨q, h1, h2⟩ | h1
    · rw [h2]; exact h.2.2 q h1
    · exact Or.inr (Nat.le_trans hz h1)
theorem Sr.sub {D : va_G} {dA : Nat → ClassId} {ad0 ad : Nat → Nat} {σ0 σ : Wd} {sz sz' : Nat} {H : Heap} (h : Sr D dA ad0 σ0 sz ad σ H) (hz : sz ≤ sz') : ∀ q, AA ad σ sz' q → AA ad0 σ0 sz q := by
  rintro q (⟨n, h1, h2⟩ | h1)
  · rw [h2]; exact h.2.2 n h1
  · exact Or.inr (Nat.le_trans hz h1)
theorem vmv_agree {ad ad' : Nat → Nat} {σ : Wd} {v : Value} (h : ∀ n, σ n ≠ none → ad' n = ad n) (hv : inD σ v) : vmv ad' v = vmv ad v := by
  cases v with
  | ref n => show Value.ref _ = Value.ref _; rw [h n (hv n rfl)]
  | _ => rfl
theorem CP_blind {D : va_G} {dA : Nat → ClassId} {ad : Nat → Nat} {sz : Nat} {av : List Value} {σ : Wd} : FrameBlind (CP D dA ad sz av σ) := by
  rintro a U g mk ⟨q0, q1, q2, q3, q4⟩
  exact ⟨q0, q1, q2, q3, Kx.moved (u := U) (U := U.calling g mk a) (Vm.Alike.refl U.vm) (State.WarmedH.refl U) q4⟩
theorem goodV {own : String} {idx : Nat} {y : MethodName} {cc : ByteArray} {nL : Nat} {ret : Option FieldType} {n : Nat} (hm : MV own idx y cc nL ret n) : GoodIn WT (wsV own idx y.cls y (Cond.code y cc nL ret :: WT)) := by
  obtain ⟨⟨h1, h2, h3, h4, h5⟩, -⟩ := hm
  intro w hw
  refine WT_good w ?_
  simp only [wsV, List.cons_append, List.nil_append, List.mem_cons] at hw
  rcases hw with rfl | rfl | rfl | rfl | rfl | hw
  · exact h1
  · exact h2
  · exact h3
  · exact h4
  · exact h5
  · exact hw
theorem goodS {own : String} {idx : Nat} {y : MethodName} {cc : ByteArray} {nL : Nat} {ret : Option FieldType} {n : Nat} (hm : MS own idx y cc nL ret n) : GoodIn WT (va_wsS own idx y (Cond.code y cc nL ret :: WT)) := by
  obtain ⟨⟨h1, h2, h3, h4⟩, -⟩ := hm
  intro w hw
  refine WT_good w ?_
  simp only [va_wsS, List.cons_append, List.nil_append, List.mem_cons] at hw
  rcases hw with rfl | rfl | rfl | rfl | hw
  · exact h1
  · exact h2
  · exact h3
  · exact h4
  · exact hw
theorem goodSW {own : String} {idx : Nat} {y : MethodName} {cc : ByteArray} {nL : Nat} {ret : Option FieldType} {hh : List (Nat × Nat × Nat × Nat)} {n : Nat} (hm : MSW own idx y cc nL ret hh n) : GoodIn WT (va_wsS own idx y (Cond.codeWith y cc nL ret hh :: WT)) := by
  obtain ⟨⟨h1, h2, h3, h4⟩, -⟩ := hm
  intro w hw
  refine WT_good w ?_
  simp only [va_wsS, List.cons_append, List.nil_append, List.mem_cons] at hw
  rcases hw with rfl | rfl | rfl | rfl | hw
  · exact h1
  · exact h2
  · exact h3
  · exact h4
  · exact hw
section TC
variable {y : MethodName} {cc : ByteArray} {nL : Nat} {ret : Option FieldType} {hh : List (Nat × Nat × Nat × Nat)} {R : Room} {Q : Option Value → Wd → Prop} {QX : String → Wd → Prop} {pc : Nat} {L : List (Option Value)} {st : List Value} {σ : Wd} {cells slots : Nat}
/-- behind a call: what came back, or what was thrown -/
theorem z_run {Q' : Option Value → Wd → Prop} {QX' : String → Wd → Prop} {mc ms : Nat} (k : ∀ r u, Q' r u → T y cc nL ret hh R Q QX (pc + 3) L (r.toList ++ st) u (cells + mc) (slots + ms)) (kx : ∀ E u, QX' E u → TX y cc nL ret hh R Q QX pc L E u (cells + mc) (slots + ms))
    {l : Launch} {p : Program} {e : Env} {s : State} {m : MethodId} {args : Array Value} {below : List Frame} {meth : Method} {c : Code} (C : Cx l y cc nL ret hh p s m args meth c) {D : va_G} {dA : Nat → ClassId} {ad0 : Nat → Nat} {σ0 : Wd} (K : Kx D dA (AA ad0 σ0 s.heap.size) s s.heap)
    {ad : Nat → Nat} {H : Heap} {locs : List Loc} {ls : Array Slot} (S : Sr D dA ad0 σ0 s.heap.size ad σ H) (hS : va_S (AA ad0 σ0 s.heap.size) s.heap H locs) (hl : Lr ad ls nL L) (hL : clL σ L) (hst : clS σ st) {st0 : List Value} {a : Array Value}
    (hr : vx_Run p l e R s m args below meth c H locs cells slots mc ms (F0 m pc ls st0) (st.map (vmv ad)) (Po D dA ad σ Q' a) (PoX D dA ad σ QX') (AA ad σ H.size)) :
    W p l e R s m args below meth c H locs cells slots (vx_MQ below (Po D dA ad0 σ0 Q) (PoX D dA ad0 σ0 QX) args s R.cells R.slots (AA ad0 σ0 s.heap.size)) (F0 m pc ls st0) := by
  intro T0 hT X
  have hA := S.sub (sz' := H.size) hS.1
  rcases hr T0 hT X with ⟨v, st₀, t, T', L9, h0, X', hL9, e1, e2, ⟨⟨ad', σ', r, hv, hQ, hSr, hin⟩, hF⟩, go⟩ | ⟨q, st₀, t, T', L9, E, ce, h0, X', hL9, e1, e2, ⟨⟨ad', σ', hQ, hSr⟩, hF⟩, hce, hcv, hcl, go⟩
  · rw [h0] at hSr hF
    have hz : st₀.heap.size = H.size := by rw [h0]
    obtain ⟨-, -, hS'⟩ := vx_keep (A1 := AA ad σ H.size) h0 e1 hS (fun q _ h => hA q h) hA hL9 hF
    have hag : ∀ n, σ n ≠ none → ad' n = ad n := fun n hn => (hSr.2.1 n hn).2
    have hv : v = r.map (vmv ad') := by cases hv; rfl
    have hstk : v.toList ++ st.map (vmv ad) = (r.toList ++ st).map (vmv ad') := by
      rw [List.map_append, hv]
      congr 1
      · cases r <;> rfl
      · exact List.map_congr_left fun u hu => (vmv_agree hag (hst u hu)).symm
    obtain ⟨t2, a1, b1⟩ := k r σ' hQ l p e s m args below meth c C D dA ad0 σ0 K ad' T'.heap (locs ++ L9) ls (S.trans hS.1 (by rw [e1]; exact hSr)) hS' ⟨hl.1, hl.2.1, fun i u hu => by rw [vmv_agree hag (hL i u hu)]; exact hl.2.2 i u hu⟩ (fun i u hu n hn => (hSr.2.1 n (hL i u hu n hn)).1)
      (cl_app.mpr ⟨fun u hu => hin u (by cases r with | none => cases hu | some z => rw [List.mem_singleton.mp hu]), fun u hu n hn => (hSr.2.1 n (hst u hu n hn)).1⟩) T' rfl X'
    rw [← hstk] at a1
    exact ⟨t2, go t2 a1, b1⟩
  · rw [h0] at hSr hF
    have hz : st₀.heap.size = H.size := by rw [h0]
    obtain ⟨-, -, hS'⟩ := vx_keep (A1 := AA ad σ H.size) h0 e1 hS (fun q _ h => hA q h) hA hL9 hF
    have hag : ∀ n, σ n ≠ none → ad' n = ad n := fun n hn => (hSr.2.1 n hn).2
    obtain ⟨t2, a1, b1⟩ := kx E σ' hQ l p e s m args below meth c C D dA ad0 σ0 K ad' T'.heap (locs ++ L9) ls (st.map (vmv ad)) q ce (S.trans hS.1 (by rw [e1]; exact hSr)) hS' ⟨hl.1, hl.2.1, fun i u hu => by rw [vmv_agree hag (hL i u hu)]; exact hl.2.2 i u hu⟩ (fun i u hu n hn => (hSr.2.1 n (hL i u hu n hn)).1)
      (by rw [e1]; exact hce) hcv hcl T' rfl X'
    exact ⟨t2, go.trans a1, b1⟩
theorem z_pre {av : List Value} {s : State} {D : va_G} {dA : Nat → ClassId} {ad0 ad : Nat → Nat} {σ0 : Wd} {H : Heap} {locs : List Loc} (K : Kx D dA (AA ad0 σ0 s.heap.size) s s.heap) (S : Sr D dA ad0 σ0 s.heap.size ad σ H) (hS : va_S (AA ad0 σ0 s.heap.size) s.heap H locs) (hav : clS σ av) : ∀ U : State, U.heap = H → s.WarmedH U.vm → CP D dA ad H.size av σ (av.map (vmv ad)).toArray U := by
  intro U hU hW
  refine ⟨rfl, by rw [hU], by rw [hU]; exact S.1, hav, ?_⟩
  rw [hU]
  exact ((K.moved hW.alike hW).kept (fun a h1 h2 => hS.2.1 a h1 h2)).narrow (S.sub hS.1)
theorem z_sum {ad : Nat → Nat} {m : MethodId} {ls : Array Slot} {st0 : List Value} (hw : (st.map Value.category).sum ≤ 8) : 2 * (F0 m pc ls st0).monitorRoom + ((st.map (vmv ad)).map fun v => v.category).sum ≤ 8 := by
  have e : ((st.map (vmv ad)).map fun v => v.category) = st.map Value.category := by rw [List.map_map]; exact List.map_congr_left fun v _ => vmv_cat ad v
  rw [e]
  have h0 : (F0 m pc ls st0).monitorRoom = 0 := rfl
  rw [h0]
  omega

theorem z_callVX {y' : MethodName} {cc' : ByteArray} {nL' n idx : Nat} {ret' : Option FieldType} {R' : Room} {av : List Value} {Q' : Option Value → Wd → Prop} {QX' : String → Wd → Prop} {st0 : List Value} {o ci : Nat} {fs : List Value} (hc : Ct y' cc' nL' ret' R' (.ref o :: av) σ Q' QX') (hm : MV y.cls idx y' cc' nL' ret' n) (d : decode cc pc = .ok (.invokevirtual idx, 3)) (ho : σ o = some (.inr (ci, fs))) (hci : (vwCl[ci]?).map (·.1) = some y'.cls) (hst0 : st0 = av.reverse ++ .ref o :: st) (hn : av.length = n) (hR : R'.frames + 1 ≤ R.frames ∧ 8 + (nL' + 11) + R'.locals ≤ R.locals) (hw : (st.map Value.category).sum ≤ 8) (hcs : cells + R'.cells ≤ R.cells ∧ slots + R'.slots ≤ R.slots) (kx : ∀ E u, QX' E u → TX y cc nL ret hh R Q QX pc L E u (cells + R'.cells) (slots + R'.slots)) (k : ∀ r u, Q' r u → T y cc nL ret hh R Q QX (pc + 3) L (r.toList ++ st) u (cells + R'.cells) (slots + R'.slots)) : T y cc nL ret hh R Q QX pc L st0 σ cells slots := by
  intro l p e s m args below meth c C D dA ad0 σ0 K ad H locs ls S hS hl hL hst
  subst hst0
  obtain ⟨c1, c2⟩ := cl_app.mp hst
  have hav : clS σ (.ref o :: av) := cl_c (cl_h c2) (cl_rev c1)
  obtain ⟨q9, hq9, hq8⟩ := Option.map_eq_some_iff.mp hci
  have hrun := vx_runV (H := H) (b := ad o) (As := av.map (vmv ad)) (rest := st.map (vmv ad)) (g := F0 m pc ls ((av.reverse ++ .ref o :: st).map (vmv ad))) (below := below) (e := e) (locs := locs) (meth := meth) (cells := cells) (slots := slots) ⟨C.1, C.2.1, C.2.2.1, C.2.2.2.2.2.2.1, C.2.2.2.2.2.2.2.1⟩ (hc l C.2.2.2.2.2.2.2.2.2 D dA ad H.size) (cwV n C.2.2.2.2.2.2.2.1 (goodV hm) rfl rfl rfl ⟨rfl, hm.2⟩ hR) ⟨CP_blind, by
      obtain ⟨cell, e1, e2, e3⟩ := va_recv K.1 (S.1.one ho) (ci := ci) (q0 := 0) hq9 rfl
      exact ⟨cell, e1, e2, by rw [← hq8]; exact e3⟩, z_pre K S hS hav⟩ rfl (by rw [List.length_map]; exact hn) hl.1 (by simp [List.map_append, List.map_reverse, vmv]) (z_sum hw) d hcs
  exact z_run k kx C K S hS hl hL (cl_t c2) hrun
theorem z_callSX {y' : MethodName} {cc' : ByteArray} {nL' n idx : Nat} {ret' : Option FieldType} {R' : Room} {av : List Value} {Q' : Option Value → Wd → Prop} {QX' : String → Wd → Prop} {st0 : List Value} (hc : Ct y' cc' nL' ret' R' av σ Q' QX') (hm : MS y.cls idx y' cc' nL' ret' n) (d : decode cc pc = .ok (.invokestatic idx, 3)) (hst0 : st0 = av.reverse ++ st) (hn : av.length = n) (hR : R'.frames + 1 ≤ R.frames ∧ 8 + (nL' + 11) + R'.locals ≤ R.locals) (hw : (st.map Value.category).sum ≤ 8) (hcs : cells + R'.cells ≤ R.cells ∧ slots + R'.slots ≤ R.slots) (kx : ∀ E u, QX' E u → TX y cc nL ret hh R Q QX pc L E u (cells + R'.cells) (slots + R'.slots)) (k : ∀ r u, Q' r u → T y cc nL ret hh R Q QX (pc + 3) L (r.toList ++ st) u (cells + R'.cells) (slots + R'.slots)) : T y cc nL ret hh R Q QX pc L st0 σ cells slots := by
  intro l p e s m args below meth c C D dA ad0 σ0 K ad H locs ls S hS hl hL hst
  subst hst0
  obtain ⟨c1, c2⟩ := cl_app.mp hst
  have hrun := vx_runS (H := H) (As := av.map (vmv ad)) (rest := st.map (vmv ad)) (g := F0 m pc ls ((av.reverse ++ st).map (vmv ad))) (below := below) (e := e) (locs := locs) (meth := meth) (cells := cells) (slots := slots) ⟨C.1, C.2.1, C.2.2.1, C.2.2.2.2.2.2.1, C.2.2.2.2.2.2.2.1⟩ (hc l C.2.2.2.2.2.2.2.2.2 D dA ad H.size) (va_cwS n C.2.2.2.2.2.2.2.1 (goodS hm) rfl rfl rfl hm.2 hR) ⟨CP_blind, z_pre K S hS (cl_rev c1)⟩ rfl (by rw [List.length_map]; exact hn) hl.1 (by simp [List.map_append, List.map_reverse]) (z_sum hw) d hcs
  exact z_run k kx C K S hS hl hL c2 hrun
theorem z_callSW {y' : MethodName} {cc' : ByteArray} {nL' n idx : Nat} {ret' : Option FieldType} {R' : Room} {av : List Value} {Q' : Option Value → Wd → Prop} {QX' : String → Wd → Prop} {st0 : List Value} {hh' : List (Nat × Nat × Nat × Nat)} (hc : CtH y' cc' nL' ret' hh' R' av σ Q' QX') (hm : MSW y.cls idx y' cc' nL' ret' hh' n) (d : decode cc pc = .ok (.invokestatic idx, 3)) (hst0 : st0 = av.reverse ++ st) (hn : av.length = n) (hR : R'.frames + 1 ≤ R.frames ∧ 8 + (nL' + 11) + R'.locals ≤ R.locals) (hw : (st.map Value.category).sum ≤ 8) (hcs : cells + R'.cells ≤ R.cells ∧ slots + R'.slots ≤ R.slots) (kx : ∀ E u, QX' E u → TX y cc nL ret hh R Q QX pc L E u (cells + R'.cells) (slots + R'.slots)) (k : ∀ r u, Q' r u → T y cc nL ret hh R Q QX (pc + 3) L (r.toList ++ st) u (cells + R'.cells) (slots + R'.slots)) : T y cc nL ret hh R Q QX pc L st0 σ cells slots := by
  intro l p e s m args below meth c C D dA ad0 σ0 K ad H locs ls S hS hl hL hst
  subst hst0
  obtain ⟨c1, c2⟩ := cl_app.mp hst
  have hrun := vx_runSX (H := H) (As := av.map (vmv ad)) (rest := st.map (vmv ad)) (g := F0 m pc ls ((av.reverse ++ st).map (vmv ad))) (below := below) (e := e) (locs := locs) (meth := meth) (cells := cells) (slots := slots) ⟨C.1, C.2.1, C.2.2.1, C.2.2.2.2.2.2.1, C.2.2.2.2.2.2.2.1⟩ (hc l C.2.2.2.2.2.2.2.2.2 D dA ad H.size) (vx_cwSW n C.2.2.2.2.2.2.2.1 (goodSW hm) rfl rfl rfl hm.2 hR) ⟨CP_blind, z_pre K S hS (cl_rev c1)⟩ rfl (by rw [List.length_map]; exact hn) hl.1 (by simp [List.map_append, List.map_reverse]) (z_sum hw) d hcs
  exact z_run k kx C K S hS hl hL c2 hrun
end TC
