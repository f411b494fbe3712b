abbrev xN : List String := ["java/lang/RuntimeException", "java/lang/Exception"]
/-- what a throw of E at the constant ic of y's class needs of the words -/
def TW (own : String) (ic : Nat) (E : String) : Prop := (∀ w ∈ vx_atS own ic E xN, w ∈ lw_tbl) ∧ (∀ w ∈ (vx_atS own ic E xN).filter (fun w => !goodWord w), w ∈ fcTab) ∧ (∀ w ∈ vx_atS own ic E xN, vx_ot w = true)
theorem tw_iae : TW RX6 45 "java/lang/IllegalArgumentException" := ⟨by decide +kernel, by decide +kernel, by decide +kernel⟩
theorem tw_ise : TW RX6 67 "java/lang/IllegalStateException" := ⟨by decide +kernel, by decide +kernel, by decide +kernel⟩
theorem tw_ioobe : TW RX6 134 "java/lang/IndexOutOfBoundsException" := ⟨by decide +kernel, by decide +kernel, by decide +kernel⟩
theorem z_throwS {y : MethodName} {cc : ByteArray} {nL : Nat} {ret : Option FieldType} {hh : List (Nat × Nat × Nat × Nat)} {R : Room} {Q : Option Value → Wd → Prop} {QX : String → Wd → Prop} {pc : Nat} {L : List (Option Value)} {st : List Value} {σ : Wd} {cells slots : Nat}
    {E text : String} {ik is ic : Nat} (hh0 : hh = []) (htw : TW y.cls ic E) (hk : Cond.classLink y.cls ik E ∈ WT) (hini : Cond.initialized E ∈ WT) (hs : (y.cls, is, text) ∈ strTab) (hfit : Bundle.fit E = true)
    (d0 : decode cc pc = .ok (.new ik, 3)) (d3 : decode cc (pc + 3) = .ok (.dup, 1)) (d4 : decode cc (pc + 4) = .ok (.ldc is, 2)) (d6 : decode cc (pc + 6) = .ok (.invokespecial ic, 3)) (d9 : decode cc (pc + 9) = .ok (.athrow, 1))
    (hfr : 5 < R.frames) (hlo : (st.map Value.category).sum + 82 ≤ R.locals) (hc : cells + 1 ≤ R.cells) (hsl : slots + 6 ≤ R.slots) (hq : QX E σ) : T y cc nL ret hh R Q QX pc L st σ cells slots := by
  intro l p e s m args below meth c C D dA ad0 σ0 K ad H locs ls S hS hl hL hst
  have hts := C.2.2.2.2.2.2.2.1
  obtain ⟨sa, hsa⟩ := K.2.2.2.1 _ hs
  have ht : c.exceptionTable.toList = [] := by rw [C.2.2.2.2.2.2.2.2.1, hh0]; rfl
  have e9 : (((st.map (vmv ad)).map fun v => v.category)).sum = (st.map Value.category).sum := by rw [List.map_map]; exact congrArg List.sum (List.map_congr_left fun v _ => vmv_cat ad v)
  have hat : ∀ w ∈ vx_atS y.cls ic E xN, w.before args s = true := vx_hat (B := fcTab) (fun w hw => hts w (WT_of (htw.1 w (List.mem_filter.mp hw).1) (List.mem_filter.mp hw).2)) htw.2.1 (fun w hw => va_Nw.use (fc_ok w hw).1 (K.2.2.2.2.2.1 w hw))
  have hgood : ∀ w ∈ Cond.classLink y.cls ik E :: Cond.initialized E :: vx_atS y.cls ic E xN, vx_ot w = true := by
    intro w hw
    rcases List.mem_cons.mp hw with rfl | hw
    · rfl
    · rcases List.mem_cons.mp hw with rfl | hw
      · rfl
      · exact htw.2.2 w hw
  refine vx_throwS C.1 C.2.1 C.2.2.2.2.2.2.2.2.2 C.2.2.2.2.2.2.1 hfit (by decide +kernel) (hts _ hk) (hts _ hini) hsa hat hgood K.2.2.2.2.2.2.1 K.2.2.2.2.2.2.2.1 hS (hl.1.trans C.2.2.1.symm) d0 d3 d4 d6 d9 (fun x hx => by rw [ht] at hx; cases hx) (by exact hfr) (by rw [e9]; exact hlo) hc hsl C.2.2.2.2.1 (fun t hW hz hq9 => ?_) hS.2.2 hc hsl
  have hR1 : Rp D dA ad σ t.heap := ⟨fun n d hd => (S.1.1 n d hd).kept (hq9 _ (S.1.1 n d hd).lt), S.1.2⟩
  exact ⟨⟨ad, σ, hq, hR1, S.2⟩, ⟨Nat.le_trans hS.1 hz, fun q h1 h2 => (hq9 q (Nat.lt_of_lt_of_le h1 hS.1)).trans (hS.2.1 q h1 h2)⟩⟩
theorem z_throwSW {y : MethodName} {cc : ByteArray} {nL : Nat} {ret : Option FieldType} {hh : List (Nat × Nat × Nat × Nat)} {R : Room} {Q : Option Value → Wd → Prop} {QX : String → Wd → Prop} {pc : Nat} {L : List (Option Value)} {st : List Value} {σ : Wd} {cells slots : Nat}
    {E text : String} {ik is ic : Nat} (hh0 : hh = []) (htw : TW y.cls ic E) (hk : Cond.classLink y.cls ik E ∈ WT) (hini : Cond.initialized E ∈ WT) (hs : (y.cls, is, text) ∈ strTab) (hfit : Bundle.fit E = true)
    (d0 : decode cc pc = .ok (.new ik, 3)) (d3 : decode cc (pc + 3) = .ok (.dup, 1)) (d4 : decode cc (pc + 4) = .ok (.ldc_w is, 3)) (d6 : decode cc (pc + 7) = .ok (.invokespecial ic, 3)) (d9 : decode cc (pc + 10) = .ok (.athrow, 1))
    (hfr : 5 < R.frames) (hlo : (st.map Value.category).sum + 82 ≤ R.locals) (hc : cells + 1 ≤ R.cells) (hsl : slots + 6 ≤ R.slots) (hq : QX E σ) : T y cc nL ret hh R Q QX pc L st σ cells slots := by
  intro l p e s m args below meth c C D dA ad0 σ0 K ad H locs ls S hS hl hL hst
  have hts := C.2.2.2.2.2.2.2.1
  obtain ⟨sa, hsa⟩ := K.2.2.2.1 _ hs
  have ht : c.exceptionTable.toList = [] := by rw [C.2.2.2.2.2.2.2.2.1, hh0]; rfl
  have e9 : (((st.map (vmv ad)).map fun v => v.category)).sum = (st.map Value.category).sum := by rw [List.map_map]; exact congrArg List.sum (List.map_congr_left fun v _ => vmv_cat ad v)
  have hat : ∀ w ∈ vx_atS y.cls ic E xN, w.before args s = true := vx_hat (B := fcTab) (fun w hw => hts w (WT_of (htw.1 w (List.mem_filter.mp hw).1) (List.mem_filter.mp hw).2)) htw.2.1 (fun w hw => va_Nw.use (fc_ok w hw).1 (K.2.2.2.2.2.1 w hw))
  have hgood : ∀ w ∈ Cond.classLink y.cls ik E :: Cond.initialized E :: vx_atS y.cls ic E xN, vx_ot w = true := by
    intro w hw
    rcases List.mem_cons.mp hw with rfl | hw
    · rfl
    · rcases List.mem_cons.mp hw with rfl | hw
      · rfl
      · exact htw.2.2 w hw
  refine vx_throwSW C.1 C.2.1 C.2.2.2.2.2.2.2.2.2 C.2.2.2.2.2.2.1 hfit (by decide +kernel) (hts _ hk) (hts _ hini) hsa hat hgood K.2.2.2.2.2.2.1 K.2.2.2.2.2.2.2.1 hS (hl.1.trans C.2.2.1.symm) d0 d3 d4 d6 d9 (fun x hx => by rw [ht] at hx; cases hx) (by exact hfr) (by rw [e9]; exact hlo) hc hsl C.2.2.2.2.1 (fun t hW hz hq9 => ?_) hS.2.2 hc hsl
  have hR1 : Rp D dA ad σ t.heap := ⟨fun n d hd => (S.1.1 n d hd).kept (hq9 _ (S.1.1 n d hd).lt), S.1.2⟩
  exact ⟨⟨ad, σ, hq, hR1, S.2⟩, ⟨Nat.le_trans hS.1 hz, fun q h1 h2 => (hq9 q (Nat.lt_of_lt_of_le h1 hS.1)).trans (hS.2.1 q h1 h2)⟩⟩
