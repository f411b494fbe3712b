theorem Lr.drop {ad : Nat → Nat} {ls : Array Slot} {nL i : Nat} {L : List (Option Value)} {w : Value} (h : lv_has ls nL ((i, w) :: (lpairs ad L).filter (fun q => !(q.1 == i) && !(q.1 + 1 == i && q.2.category == 2)))) : Lr ad ls nL ((lcl L i).set i none) := by
  refine ⟨h.1, h.2.1, fun j u hu => ?_⟩
  rcases lget_set hu with ⟨h1, h2⟩ | ⟨h1, h2⟩
  · cases h2
  · obtain ⟨h3, h4⟩ := lget_lcl h2
    refine h.2.2 (j, vmv ad u) (List.mem_cons_of_mem _ (List.mem_filter.mpr ⟨lpairs_mem.mpr ⟨u, h3, rfl⟩, ?_⟩))
    simp only [Bool.and_eq_true, Bool.not_eq_true', beq_eq_false_iff_ne, ne_eq, Bool.and_eq_false_iff, vmv_cat]
    refine ⟨h1, ?_⟩
    by_cases e : j + 1 = i
    · exact Or.inr fun z => h4 ⟨e, z⟩
    · exact Or.inl e
theorem clL_drop {σ : Wd} {L : List (Option Value)} {i : Nat} (h : clL σ L) : clL σ ((lcl L i).set i none) := fun j u hu => by
  rcases lget_set hu with ⟨h1, h2⟩ | ⟨h1, h2⟩
  · cases h2
  · exact h j u (lget_lcl h2).1
section CAT
variable {y : MethodName} {cc : ByteArray} {nL : Nat} {ret : Option FieldType} {hh : List (Nat × Nat × Nat × Nat)} {R : Room} {Q : Option Value → Wd → Prop} {QX : String → Wd → Prop} {pc : Nat} {L : List (Option Value)} {σ : Wd} {cells slots : Nat}
/-- what a catch of E at pc wants of the table -/
def CW (y : MethodName) (hh : List (Nat × Nat × Nat × Nat)) (pc : Nat) (E : String) (hp : Nat) : Prop := ∃ (pre : List (Nat × Nat × Nat × Nat)) (s0 e0 ct : Nat) (suf : List (Nat × Nat × Nat × Nat)), hh = pre ++ (s0, e0, hp, ct) :: suf ∧ (∀ z ∈ pre, z.2.2.2 ≠ 0 ∧ ∃ nm, Cond.classLink y.cls z.2.2.2 nm ∈ WT ∧ (E, nm) ∈ ncTab) ∧ covers ⟨s0, e0, hp, ct⟩ pc = true ∧ ct ≠ 0 ∧ Cond.classLink y.cls ct E ∈ WT ∧ Cond.castable E E ∈ fcTab
theorem z_catchW {E : String} {hp : Nat} (hw : CW y hh pc E hp) (k : ∀ (l : Launch) (p : Program) (e : Env) (s : State) (m : MethodId) (args : Array Value) (below : List Frame) (meth : Method) (c : Code), Cx l y cc nL ret hh p s m args meth c → ∀ (D : va_G) (dA : Nat → ClassId) (ad0 : Nat → Nat) (σ0 : Wd), Kx D dA (AA ad0 σ0 s.heap.size) s s.heap → ∀ (ad : Nat → Nat) (H : Heap) (locs : List Loc) (ls : Array Slot) (q : Addr), Sr D dA ad0 σ0 s.heap.size ad σ H → va_S (AA ad0 σ0 s.heap.size) s.heap H locs → Lr ad ls nL L → clL σ L → W p l e R s m args below meth c H locs cells slots (vx_MQ below (Po D dA ad0 σ0 Q) (PoX D dA ad0 σ0 QX) args s R.cells R.slots (AA ad0 σ0 s.heap.size)) (F0 m hp ls [.ref q])) : TX y cc nL ret hh R Q QX pc L E σ cells slots := by
  intro l p e s m args below meth c C D dA ad0 σ0 K ad H locs ls rest q ce S hS hl hL hce hcv hcl
  obtain ⟨pre, s0, e0, ct, suf, w1, w2, w3, w4, w5, w6⟩ := hw
  have hts := C.2.2.2.2.2.2.2.1
  refine vx_catch (own := y.cls) (name := E) (E := E) (ce := ce) C.2.2.2.2.2.2.1 (tableOf pre) ⟨s0, e0, hp, ct⟩ (tableOf suf) ?_ (fun z hz => ?_) w3 w4 (hts _ w5) (va_Nw.use (fc_ok _ w6).1 (K.2.2.2.2.2.1 _ w6)) hce hcv hcl (k l p e s m args below meth c C D dA ad0 σ0 K ad H locs ls q S hS hl hL)
  · rw [C.2.2.2.2.2.2.2.2.1, w1]; unfold tableOf; rw [List.map_append, List.map_cons]
  · obtain ⟨x, x1, rfl⟩ := List.mem_map.mp hz
    obtain ⟨y1, nm, y2, y3⟩ := w2 x x1
    exact Or.inr ⟨y1, nm, hts _ y2, K.2.2.2.2.1 _ y3⟩
theorem z_catchN {E : String} {hp : Nat} {i : Fin 4} (hw : CW y hh pc E hp) (d : decode cc hp = .ok (.astore_n i, 1)) (hi : (i : Nat) < nL) (k : T y cc nL ret hh R Q QX (hp + 1) ((lcl L i).set i none) [] σ cells slots) : TX y cc nL ret hh R Q QX pc L E σ cells slots := by
  refine z_catchW hw (fun l p e s m args below meth c C D dA ad0 σ0 K ad H locs ls q S hS hl hL => ?_)
  refine lv_astore_n C.1 C.2.1 d rfl hl.has hi rfl (fun ls hl => ?_)
  exact k l p e s m args below meth c C D dA ad0 σ0 K ad H locs ls S hS (Lr.drop hl) (clL_drop hL) (fun v hv => by cases hv)
theorem z_catchI {E : String} {hp i : Nat} (hw : CW y hh pc E hp) (d : decode cc hp = .ok (.astore i, 2)) (hi : i < nL) (k : T y cc nL ret hh R Q QX (hp + 2) ((lcl L i).set i none) [] σ cells slots) : TX y cc nL ret hh R Q QX pc L E σ cells slots := by
  refine z_catchW hw (fun l p e s m args below meth c C D dA ad0 σ0 K ad H locs ls q S hS hl hL => ?_)
  refine lv_astore C.1 C.2.1 d hl.has hi rfl (fun ls hl => ?_)
  exact k l p e s m args below meth c C D dA ad0 σ0 K ad H locs ls S hS (Lr.drop hl) (clL_drop hL) (fun v hv => by cases hv)
end CAT
theorem DK.o {σ : Wd} {a : AS} (h : DK σ a) : ∃ fs, σ 0 = some (.inr (5, fs)) := by
  obtain ⟨rc, S, CD, NB, FR, fa, f, s, sr, hF, g1, h0, _⟩ := h
  exact ⟨_, h0⟩
def FW (σ u : Wd) : Prop := (∀ q, 100 ≤ q → q ≠ 130 → u q = σ q) ∧ (σ 70 ≠ none → u 70 ≠ none)
/-- a wrapper's answer: the code, the answer in out -/
def WQ (cd : Nat) (z : Int) (σ : Wd) (a a' : AS) : Option Value → Wd → Prop := fun r u => r = some (.int (iI (cd : Nat))) ∧ DK u (if cd = 0 then a' else a) ∧ (∃ g : Nat → Int64, u 130 = some (aJ 1 g) ∧ (cd = 0 → g 0 = (iI z).toInt64)) ∧ FW σ u
theorem wq_x {cd c : Nat} {z : Int} {σ : Wd} {a a' : AS} {g : Nat → Int64} (hc : cd = c) (h0 : c ≠ 0) (hD : DK σ a) (h : σ 130 = some (aJ 1 g)) : WQ cd z σ a a' (some (.int (iI (c : Nat)))) σ := by
  subst hc
  exact ⟨rfl, by rw [if_neg h0]; exact hD, ⟨g, h, fun q => absurd q h0⟩, fun _ _ _ => rfl, fun q => q⟩
theorem wq_o {cd : Nat} {z : Int} {σ u : Wd} {a a' : AS} {g : Nat → Int64} {x : Int64} (hc : cd = 0) (hx : x = (iI z).toInt64) (hD : DK u a') (hF : F1 σ u) : WQ cd z σ a a' (some (.int (iI 0))) (up u 130 (aJ 1 (vp_updL g 0 x))) := by
  subst hc
  refine ⟨rfl, by rw [if_pos rfl]; exact hD.fr (fun q hq => up_ne _ _ (by omega)), ⟨_, up_self _ _ _, fun _ => hx⟩, fun q h1 h2 => (up_ne _ _ h2).trans (hF.1 q h1), fun q => up_dom (hF.2 q)⟩
theorem w_coef {σ : Wd} {a : AS} (hD : DK σ a) (hV : VL a) {g : Nat → Int64} (h130 : σ 130 = some (aJ 1 g)) (l : Int) (v : Int) (hl : i32 l) (hv : i32 v) : KL_coef [.ref 0, .int (iI l), .int (iI v), .ref 130] σ (WQ (cdCoef l v) (a.pd l.toNat) σ a (oCoef a l.toNat v)) NX := by
  refine CtH.intro (by decide) (Nat.le_of_ble_eq_true rfl) ?_
  obtain ⟨fs, h0⟩ := hD.o
  refine z_aload_n dL_coef_0 rfl ?_
  refine i_iconst dL_coef_1 rfl ?_
  refine z_aload_n dL_coef_2 rfl ?_
  refine z_iload_n dL_coef_3 rfl ?_
  refine z_iload_n dL_coef_4 rfl ?_
  refine z_callVX (k_coef hD l v hl hv) mL_7 dL_coef_5 h0 rfl rfl rfl ⟨by decide, by decide⟩ (Nat.le_of_ble_eq_true rfl) ⟨by decide, by decide⟩ (fun E u hx => ?_) (fun r u hq => ?_)
  · obtain ⟨rfl, hx⟩ := hx
    rcases hx with ⟨hc9, rfl⟩ | ⟨hc9, rfl⟩
    · refine z_catchI (hp := 13) ⟨[], 0, 10, 13, [], rfl, (fun z hz => by cases hz), rfl, by decide, clL_13, by decide +kernel⟩ dL_coef_13 (by decide) ?_
      refine i_iconst dL_coef_15 rfl ?_
      exact z_iret dL_coef_16 rfl (by decide) (by decide) (wq_x hc9 (by decide) hD h130)
    · exact absurd hc9 (by unfold cdCoef; split <;> decide)
  · obtain ⟨hc9, rfl, hD2, hF⟩ := hq
    have h130u := (hF.1 130 (by decide)).trans h130
    refine z_i2lx dL_coef_8 ?_
    refine z_last dL_coef_9 h130u 0 rfl (by decide) ?_
    refine z_goto (tgt := 17) dL_coef_10 (by decide) ?_
    refine i_iconst dL_coef_17 rfl ?_
    exact z_iret dL_coef_18 rfl (by decide) (by decide) (wq_o hc9 rfl hD2 hF)
theorem w_sum {σ : Wd} {a : AS} (hD : DK σ a) (hV : VL a) {g : Nat → Int64} (h130 : σ 130 = some (aJ 1 g)) (c : Int) (hc : i32 c) : KL_sum [.ref 0, .int (iI c), .ref 130] σ (WQ (cdSum a c) ((a.nc : Nat)) σ a (oAtom a 0 c)) NX := by
  refine CtH.intro (by decide) (Nat.le_of_ble_eq_true rfl) ?_
  obtain ⟨fs, h0⟩ := hD.o
  refine z_aload_n dL_sum_0 rfl ?_
  refine i_iconst dL_sum_1 rfl ?_
  refine z_aload_n dL_sum_2 rfl ?_
  refine z_iload_n dL_sum_3 rfl ?_
  refine z_callVX (k_sum hD hV c hc) mL_15 dL_sum_4 h0 rfl rfl rfl ⟨by decide, by decide⟩ (Nat.le_of_ble_eq_true rfl) ⟨by decide, by decide⟩ (fun E u hx => ?_) (fun r u hq => ?_)
  · obtain ⟨rfl, hx⟩ := hx
    rcases hx with ⟨hc9, rfl⟩ | ⟨hc9, rfl⟩
    · refine z_catchN (hp := 12) ⟨[], 0, 9, 13, [(0, 9, 15, 19)], rfl, (fun z hz => by cases hz), rfl, by decide, clL_13, by decide +kernel⟩ dL_sum_12 (by decide) ?_
      refine i_iconst dL_sum_13 rfl ?_
      exact z_iret dL_sum_14 rfl (by decide) (by decide) (wq_x hc9 (by decide) hD h130)
    · refine z_catchN (hp := 15) ⟨[(0, 9, 12, 13)], 0, 9, 19, [], rfl, (fun z hz => by rw [List.mem_singleton.mp hz]; exact ⟨by decide, _, clL_13, by decide +kernel⟩), rfl, by decide, clL_19, by decide +kernel⟩ dL_sum_15 (by decide) ?_
      refine i_iconst dL_sum_16 rfl ?_
      exact z_iret dL_sum_17 rfl (by decide) (by decide) (wq_x hc9 (by decide) hD h130)
  · obtain ⟨hc9, rfl, hD2, hF⟩ := hq
    have h130u := (hF.1 130 (by decide)).trans h130
    refine z_i2lx dL_sum_7 ?_
    refine z_last dL_sum_8 h130u 0 rfl (by decide) ?_
    refine z_goto (tgt := 18) dL_sum_9 (by decide) ?_
    refine i_iconst dL_sum_18 rfl ?_
    exact z_iret dL_sum_19 rfl (by decide) (by decide) (wq_o hc9 rfl hD2 hF)
theorem w_mod {σ : Wd} {a : AS} (hD : DK σ a) (hV : VL a) {g : Nat → Int64} (h130 : σ 130 = some (aJ 1 g)) (r : Int) (m : Int) (hr : i32 r) (hm : i32 m) : KL_mod [.ref 0, .int (iI r), .int (iI m), .ref 130] σ (WQ (cdMod a r m) ((a.nc : Nat)) σ a (oAtom a m r)) NX := by
  refine CtH.intro (by decide) (Nat.le_of_ble_eq_true rfl) ?_
  obtain ⟨fs, h0⟩ := hD.o
  refine z_aload_n dL_mod_0 rfl ?_
  refine i_iconst dL_mod_1 rfl ?_
  refine z_aload_n dL_mod_2 rfl ?_
  refine z_iload_n dL_mod_3 rfl ?_
  refine z_iload_n dL_mod_4 rfl ?_
  refine z_callVX (k_mod hD hV r m hr hm) mL_21 dL_mod_5 h0 rfl rfl rfl ⟨by decide, by decide⟩ (Nat.le_of_ble_eq_true rfl) ⟨by decide, by decide⟩ (fun E u hx => ?_) (fun r u hq => ?_)
  · obtain ⟨rfl, hx⟩ := hx
    rcases hx with ⟨hc9, rfl⟩ | ⟨hc9, rfl⟩
    · refine z_catchI (hp := 13) ⟨[], 0, 10, 13, [(0, 10, 17, 19)], rfl, (fun z hz => by cases hz), rfl, by decide, clL_13, by decide +kernel⟩ dL_mod_13 (by decide) ?_
      refine i_iconst dL_mod_15 rfl ?_
      exact z_iret dL_mod_16 rfl (by decide) (by decide) (wq_x hc9 (by decide) hD h130)
    · refine z_catchI (hp := 17) ⟨[(0, 10, 13, 13)], 0, 10, 19, [], rfl, (fun z hz => by rw [List.mem_singleton.mp hz]; exact ⟨by decide, _, clL_13, by decide +kernel⟩), rfl, by decide, clL_19, by decide +kernel⟩ dL_mod_17 (by decide) ?_
      refine i_iconst dL_mod_19 rfl ?_
      exact z_iret dL_mod_20 rfl (by decide) (by decide) (wq_x hc9 (by decide) hD h130)
  · obtain ⟨hc9, rfl, hD2, hF⟩ := hq
    have h130u := (hF.1 130 (by decide)).trans h130
    refine z_i2lx dL_mod_8 ?_
    refine z_last dL_mod_9 h130u 0 rfl (by decide) ?_
    refine z_goto (tgt := 21) dL_mod_10 (by decide) ?_
    refine i_iconst dL_mod_21 rfl ?_
    exact z_iret dL_mod_22 rfl (by decide) (by decide) (wq_o hc9 rfl hD2 hF)
theorem w_combine {σ : Wd} {a : AS} (hD : DK σ a) (hV : VL a) {g : Nat → Int64} (h130 : σ 130 = some (aJ 1 g)) (o : Int) (l : Int) (r : Int) (ho : i32 o) (hl : i32 l) (hr : i32 r) : KL_combine [.ref 0, .int (iI o), .int (iI l), .int (iI r), .ref 130] σ (WQ (cdComb a o l r) ((a.nc : Nat)) σ a (oNode a o l r)) NX := by
  refine CtH.intro (by decide) (Nat.le_of_ble_eq_true rfl) ?_
  obtain ⟨fs, h0⟩ := hD.o
  refine z_aload dL_combine_0 rfl ?_
  refine i_iconst dL_combine_2 rfl ?_
  refine z_aload_n dL_combine_3 rfl ?_
  refine z_iload_n dL_combine_4 rfl ?_
  refine z_iload_n dL_combine_5 rfl ?_
  refine z_iload_n dL_combine_6 rfl ?_
  refine z_callVX (k_combine hD hV o l r ho hl hr) mL_24 dL_combine_7 h0 rfl rfl rfl ⟨by decide, by decide⟩ (Nat.le_of_ble_eq_true rfl) ⟨by decide, by decide⟩ (fun E u hx => ?_) (fun r u hq => ?_)
  · obtain ⟨rfl, hx⟩ := hx
    rcases hx with ⟨hc9, rfl⟩ | ⟨hc9, rfl⟩
    · refine z_catchI (hp := 15) ⟨[], 0, 12, 13, [(0, 12, 19, 19)], rfl, (fun z hz => by cases hz), rfl, by decide, clL_13, by decide +kernel⟩ dL_combine_15 (by decide) ?_
      refine i_iconst dL_combine_17 rfl ?_
      exact z_iret dL_combine_18 rfl (by decide) (by decide) (wq_x hc9 (by decide) hD h130)
    · refine z_catchI (hp := 19) ⟨[(0, 12, 15, 13)], 0, 12, 19, [], rfl, (fun z hz => by rw [List.mem_singleton.mp hz]; exact ⟨by decide, _, clL_13, by decide +kernel⟩), rfl, by decide, clL_19, by decide +kernel⟩ dL_combine_19 (by decide) ?_
      refine i_iconst dL_combine_21 rfl ?_
      exact z_iret dL_combine_22 rfl (by decide) (by decide) (wq_x hc9 (by decide) hD h130)
  · obtain ⟨hc9, rfl, hD2, hF⟩ := hq
    have h130u := (hF.1 130 (by decide)).trans h130
    refine z_i2lx dL_combine_10 ?_
    refine z_last dL_combine_11 h130u 0 rfl (by decide) ?_
    refine z_goto (tgt := 23) dL_combine_12 (by decide) ?_
    refine i_iconst dL_combine_23 rfl ?_
    exact z_iret dL_combine_24 rfl (by decide) (by decide) (wq_o hc9 rfl hD2 hF)
theorem w_add {σ : Wd} {a : AS} (hD : DK σ a) (hV : VL a) {g : Nat → Int64} (h130 : σ 130 = some (aJ 1 g)) (l : Int) (n : Int) (hl : i32 l) (hn : i32 n) : KL_add [.ref 0, .int (iI l), .int (iI n), .ref 130] σ (WQ (cdAdd a l n) (((a.cnt + n.toNat : Nat) : Int)) σ a (oAdd a l.toNat n.toNat)) NX := by
  refine CtH.intro (by decide) (Nat.le_of_ble_eq_true rfl) ?_
  obtain ⟨fs, h0⟩ := hD.o
  refine z_aload_n dL_add_0 rfl ?_
  refine i_iconst dL_add_1 rfl ?_
  refine z_aload_n dL_add_2 rfl ?_
  refine z_iload_n dL_add_3 rfl ?_
  refine z_iload_n dL_add_4 rfl ?_
  refine z_callVX (k_add hD hV l n hl hn) mL_32 dL_add_5 h0 rfl rfl rfl ⟨by decide, by decide⟩ (Nat.le_of_ble_eq_true rfl) ⟨by decide, by decide⟩ (fun E u hx => ?_) (fun r u hq => ?_)
  · obtain ⟨rfl, hx⟩ := hx
    rcases hx with ⟨hc9, rfl⟩ | ⟨hc9, rfl⟩
    · refine z_catchI (hp := 13) ⟨[], 0, 10, 13, [(0, 10, 17, 19)], rfl, (fun z hz => by cases hz), rfl, by decide, clL_13, by decide +kernel⟩ dL_add_13 (by decide) ?_
      refine i_iconst dL_add_15 rfl ?_
      exact z_iret dL_add_16 rfl (by decide) (by decide) (wq_x hc9 (by decide) hD h130)
    · refine z_catchI (hp := 17) ⟨[(0, 10, 13, 13)], 0, 10, 19, [], rfl, (fun z hz => by rw [List.mem_singleton.mp hz]; exact ⟨by decide, _, clL_13, by decide +kernel⟩), rfl, by decide, clL_19, by decide +kernel⟩ dL_add_17 (by decide) ?_
      refine i_iconst dL_add_19 rfl ?_
      exact z_iret dL_add_20 rfl (by decide) (by decide) (wq_x hc9 (by decide) hD h130)
  · obtain ⟨hc9, rfl, hD2, hF⟩ := hq
    have h130u := (hF.1 130 (by decide)).trans h130
    refine z_i2lx dL_add_8 ?_
    refine z_last dL_add_9 h130u 0 rfl (by decide) ?_
    refine z_goto (tgt := 21) dL_add_10 (by decide) ?_
    refine i_iconst dL_add_21 rfl ?_
    exact z_iret dL_add_22 rfl (by decide) (by decide) (wq_o hc9 rfl hD2 hF)
theorem w_meet {σ : Wd} {a : AS} (hD : DK σ a) (hV : VL a) {g : Nat → Int64} (h130 : σ 130 = some (aJ 1 g)) (i : Int) (j : Int) (hi : i32 i) (hj : i32 j) : KL_meet [.ref 0, .int (iI i), .int (iI j), .ref 130] σ (WQ (cdMeet a i j) (bI (chg a.ac a.M a.E a.B (a.ag i.toNat) (a.ag j.toNat))) σ a (oMeet a i.toNat j.toNat)) NX := by
  refine CtH.intro (by decide) (Nat.le_of_ble_eq_true rfl) ?_
  obtain ⟨fs, h0⟩ := hD.o
  refine z_aload_n dL_meet_0 rfl ?_
  refine i_iconst dL_meet_1 rfl ?_
  refine z_aload_n dL_meet_2 rfl ?_
  refine z_iload_n dL_meet_3 rfl ?_
  refine z_iload_n dL_meet_4 rfl ?_
  refine z_callVX (k_meet hD hV i j hi hj) mL_35 dL_meet_5 h0 rfl rfl rfl ⟨by decide, by decide⟩ (Nat.le_of_ble_eq_true rfl) ⟨by decide, by decide⟩ (fun E u hx => ?_) (fun r u hq => ?_)
  · obtain ⟨rfl, hx⟩ := hx
    rcases hx with ⟨hc9, rfl⟩ | ⟨hc9, rfl⟩
    · refine z_catchI (hp := 20) ⟨[], 0, 17, 13, [(0, 17, 24, 39)], rfl, (fun z hz => by cases hz), rfl, by decide, clL_13, by decide +kernel⟩ dL_meet_20 (by decide) ?_
      refine i_iconst dL_meet_22 rfl ?_
      exact z_iret dL_meet_23 rfl (by decide) (by decide) (wq_x hc9 (by decide) hD h130)
    · refine z_catchI (hp := 24) ⟨[(0, 17, 20, 13)], 0, 17, 39, [], rfl, (fun z hz => by rw [List.mem_singleton.mp hz]; exact ⟨by decide, _, clL_13, by decide +kernel⟩), rfl, by decide, clL_39, by decide +kernel⟩ dL_meet_24 (by decide) ?_
      refine i_iconst dL_meet_26 rfl ?_
      exact z_iret dL_meet_27 rfl (by decide) (by decide) (wq_x hc9 (by decide) hD h130)
  · obtain ⟨hc9, rfl, hD2, hF⟩ := hq
    have h130u := (hF.1 130 (by decide)).trans h130
    refine i_ifb_eq (tgt := 15) dL_meet_8 (by decide) (fun h9 => ?_) (fun h9 => ?_)
    · skip
      refine z_lconst (v := lN 0) dL_meet_15 rfl ?_
      refine z_last dL_meet_16 h130u 0 rfl (by decide) ?_
      refine z_goto (tgt := 28) dL_meet_17 (by decide) ?_
      refine i_iconst dL_meet_28 rfl ?_
      exact z_iret dL_meet_29 rfl (by decide) (by decide) (wq_o hc9 (by rw [h9]; rfl) hD2 hF)
    · skip
      refine z_lconst (v := lN 1) dL_meet_11 rfl ?_
      refine z_goto (tgt := 16) dL_meet_12 (by decide) ?_
      refine z_last dL_meet_16 h130u 0 rfl (by decide) ?_
      refine z_goto (tgt := 28) dL_meet_17 (by decide) ?_
      refine i_iconst dL_meet_28 rfl ?_
      exact z_iret dL_meet_29 rfl (by decide) (by decide) (wq_o hc9 (by rw [h9]; rfl) hD2 hF)
theorem w_sweep {σ : Wd} {a : AS} (hD : DK σ a) (hV : VL a) {g : Nat → Int64} (h130 : σ 130 = some (aJ 1 g)) (t : Int) (ht : i32 t) : KL_sweep [.ref 0, .int (iI t), .ref 130] σ (WQ (cdSweep t) (((swT a.ac a.M a.E a.B a.cnt t.toNat a.ag).2 : Nat)) σ a (oSweep a t.toNat)) NX := by
  refine CtH.intro (by decide) (Nat.le_of_ble_eq_true rfl) ?_
  obtain ⟨fs, h0⟩ := hD.o
  refine z_aload_n dL_sweep_0 rfl ?_
  refine i_iconst dL_sweep_1 rfl ?_
  refine z_aload_n dL_sweep_2 rfl ?_
  refine z_iload_n dL_sweep_3 rfl ?_
  refine z_callVX (k_sweep hD hV t ht) mL_41 dL_sweep_4 h0 rfl rfl rfl ⟨by decide, by decide⟩ (Nat.le_of_ble_eq_true rfl) ⟨by decide, by decide⟩ (fun E u hx => ?_) (fun r u hq => ?_)
  · obtain ⟨rfl, hx⟩ := hx
    rcases hx with ⟨hc9, rfl⟩ | ⟨hc9, rfl⟩
    · refine z_catchN (hp := 12) ⟨[], 0, 9, 13, [], rfl, (fun z hz => by cases hz), rfl, by decide, clL_13, by decide +kernel⟩ dL_sweep_12 (by decide) ?_
      refine i_iconst dL_sweep_13 rfl ?_
      exact z_iret dL_sweep_14 rfl (by decide) (by decide) (wq_x hc9 (by decide) hD h130)
    · exact absurd hc9 (by unfold cdSweep; split <;> decide)
  · obtain ⟨hc9, rfl, hD2, hF⟩ := hq
    have h130u := (hF.1 130 (by decide)).trans h130
    refine z_i2lx dL_sweep_7 ?_
    refine z_last dL_sweep_8 h130u 0 rfl (by decide) ?_
    refine z_goto (tgt := 15) dL_sweep_9 (by decide) ?_
    refine i_iconst dL_sweep_15 rfl ?_
    exact z_iret dL_sweep_16 rfl (by decide) (by decide) (wq_o hc9 rfl hD2 hF)
theorem w_output {σ : Wd} {a : AS} (hD : DK σ a) (hV : VL a) {g : Nat → Int64} (h130 : σ 130 = some (aJ 1 g)) (i : Int) (hi : i32 i) : KL_output [.ref 0, .int (iI i), .ref 130] σ (WQ (cdOut a i) (bI (fml a.op a.lf a.rt (opA (a.ag i.toNat)) a.nc)) σ a (a)) NX := by
  refine CtH.intro (by decide) (Nat.le_of_ble_eq_true rfl) ?_
  obtain ⟨fs, h0⟩ := hD.o
  refine z_aload_n dL_output_0 rfl ?_
  refine i_iconst dL_output_1 rfl ?_
  refine z_aload_n dL_output_2 rfl ?_
  refine z_iload_n dL_output_3 rfl ?_
  refine z_callVX (k_output hD hV i hi) mL_44 dL_output_4 h0 rfl rfl rfl ⟨by decide, by decide⟩ (Nat.le_of_ble_eq_true rfl) ⟨by decide, by decide⟩ (fun E u hx => ?_) (fun r u hq => ?_)
  · obtain ⟨rfl, hx⟩ := hx
    rcases hx with ⟨hc9, rfl⟩ | ⟨hc9, rfl⟩
    · refine z_catchN (hp := 19) ⟨[], 0, 16, 39, [], rfl, (fun z hz => by cases hz), rfl, by decide, clL_39, by decide +kernel⟩ dL_output_19 (by decide) ?_
      refine i_iconst dL_output_20 rfl ?_
      exact z_iret dL_output_21 rfl (by decide) (by decide) (wq_x hc9 (by decide) hD h130)
    · exact absurd hc9 (by unfold cdOut; split <;> decide)
  · obtain ⟨hc9, rfl, hD2, hF⟩ := hq
    have h130u := (hF.1 130 (by decide)).trans h130
    refine i_ifb_eq (tgt := 14) dL_output_7 (by decide) (fun h9 => ?_) (fun h9 => ?_)
    · skip
      refine z_lconst (v := lN 0) dL_output_14 rfl ?_
      refine z_last dL_output_15 h130u 0 rfl (by decide) ?_
      refine z_goto (tgt := 22) dL_output_16 (by decide) ?_
      refine i_iconst dL_output_22 rfl ?_
      exact z_iret dL_output_23 rfl (by decide) (by decide) (wq_o hc9 (by rw [h9]; rfl) hD2 hF)
    · skip
      refine z_lconst (v := lN 1) dL_output_10 rfl ?_
      refine z_goto (tgt := 15) dL_output_11 (by decide) ?_
      refine z_last dL_output_15 h130u 0 rfl (by decide) ?_
      refine z_goto (tgt := 22) dL_output_16 (by decide) ?_
      refine i_iconst dL_output_22 rfl ?_
      exact z_iret dL_output_23 rfl (by decide) (by decide) (wq_o hc9 (by rw [h9]; rfl) hD2 hF)
theorem w_state {σ : Wd} {a : AS} (hD : DK σ a) (hV : VL a) {g : Nat → Int64} (h130 : σ 130 = some (aJ 1 g)) (i : Int) (b : Int) (w : Int) (hi : i32 i) (hb : i32 b) (hw : i32 w) : KL_state [.ref 0, .int (iI i), .int (iI b), .int (iI w), .ref 130] σ (WQ (cdState a i b w) (fc (a.ag i.toNat b.toNat) w) σ a (a)) NX := by
  refine CtH.intro (by decide) (Nat.le_of_ble_eq_true rfl) ?_
  obtain ⟨fs, h0⟩ := hD.o
  refine z_aload dL_state_0 rfl ?_
  refine i_iconst dL_state_2 rfl ?_
  refine z_aload_n dL_state_3 rfl ?_
  refine z_iload_n dL_state_4 rfl ?_
  refine z_iload_n dL_state_5 rfl ?_
  refine z_iload_n dL_state_6 rfl ?_
  refine z_callVX (k_state hD hV i b w hi hb hw) mL_48 dL_state_7 h0 rfl rfl rfl ⟨by decide, by decide⟩ (Nat.le_of_ble_eq_true rfl) ⟨by decide, by decide⟩ (fun E u hx => ?_) (fun r u hq => ?_)
  · obtain ⟨rfl, hx⟩ := hx
    rcases hx with ⟨hc9, rfl⟩ | ⟨hc9, rfl⟩
    · refine z_catchI (hp := 15) ⟨[], 0, 12, 39, [], rfl, (fun z hz => by cases hz), rfl, by decide, clL_39, by decide +kernel⟩ dL_state_15 (by decide) ?_
      refine i_iconst dL_state_17 rfl ?_
      exact z_iret dL_state_18 rfl (by decide) (by decide) (wq_x hc9 (by decide) hD h130)
    · exact absurd hc9 (by unfold cdState; split <;> decide)
  · obtain ⟨hc9, rfl, hD2, hF⟩ := hq
    have h130u := (hF.1 130 (by decide)).trans h130
    refine z_i2lx dL_state_10 ?_
    refine z_last dL_state_11 h130u 0 rfl (by decide) ?_
    refine z_goto (tgt := 19) dL_state_12 (by decide) ?_
    refine i_iconst dL_state_19 rfl ?_
    exact z_iret dL_state_20 rfl (by decide) (by decide) (wq_o hc9 rfl hD2 hF)
theorem w_truth {σ : Wd} {a : AS} (hD : DK σ a) (hV : VL a) {g : Nat → Int64} (h130 : σ 130 = some (aJ 1 g))   : KL_truth [.ref 0, .ref 130] σ (WQ (cdTruth a) (bI (trV a)) σ a (a)) NX := by
  refine CtH.intro (by decide) (Nat.le_of_ble_eq_true rfl) ?_
  obtain ⟨fs, h0⟩ := hD.o
  refine z_aload_n dL_truth_0 rfl ?_
  refine i_iconst dL_truth_1 rfl ?_
  refine z_aload_n dL_truth_2 rfl ?_
  refine z_callVX (k_truth hD hV) mL_51 dL_truth_3 h0 rfl rfl rfl ⟨by decide, by decide⟩ (Nat.le_of_ble_eq_true rfl) ⟨by decide, by decide⟩ (fun E u hx => ?_) (fun r u hq => ?_)
  · obtain ⟨rfl, hx⟩ := hx
    rcases hx with ⟨hc9, rfl⟩ | ⟨hc9, rfl⟩
    · refine z_catchN (hp := 18) ⟨[], 0, 15, 19, [], rfl, (fun z hz => by cases hz), rfl, by decide, clL_19, by decide +kernel⟩ dL_truth_18 (by decide) ?_
      refine i_iconst dL_truth_19 rfl ?_
      exact z_iret dL_truth_20 rfl (by decide) (by decide) (wq_x hc9 (by decide) hD h130)
    · exact absurd hc9 (by unfold cdTruth; split <;> decide)
  · obtain ⟨hc9, rfl, hD2, hF⟩ := hq
    have h130u := (hF.1 130 (by decide)).trans h130
    refine i_ifb_eq (tgt := 13) dL_truth_6 (by decide) (fun h9 => ?_) (fun h9 => ?_)
    · skip
      refine z_lconst (v := lN 0) dL_truth_13 rfl ?_
      refine z_last dL_truth_14 h130u 0 rfl (by decide) ?_
      refine z_goto (tgt := 21) dL_truth_15 (by decide) ?_
      refine i_iconst dL_truth_21 rfl ?_
      exact z_iret dL_truth_22 rfl (by decide) (by decide) (wq_o hc9 (by rw [h9]; rfl) hD2 hF)
    · skip
      refine z_lconst (v := lN 1) dL_truth_9 rfl ?_
      refine z_goto (tgt := 14) dL_truth_10 (by decide) ?_
      refine z_last dL_truth_14 h130u 0 rfl (by decide) ?_
      refine z_goto (tgt := 21) dL_truth_15 (by decide) ?_
      refine i_iconst dL_truth_21 rfl ?_
      exact z_iret dL_truth_22 rfl (by decide) (by decide) (wq_o hc9 (by rw [h9]; rfl) hD2 hF)
theorem w_recovers {σ : Wd} {a : AS} (hD : DK σ a) (hV : VL a) {g : Nat → Int64} (h130 : σ 130 = some (aJ 1 g))   : KL_recovers [.ref 0, .ref 130] σ (WQ (cdRec a) (bI (rvV a)) σ a (a)) NX := by
  refine CtH.intro (by decide) (Nat.le_of_ble_eq_true rfl) ?_
  obtain ⟨fs, h0⟩ := hD.o
  refine z_aload_n dL_recovers_0 rfl ?_
  refine i_iconst dL_recovers_1 rfl ?_
  refine z_aload_n dL_recovers_2 rfl ?_
  refine z_callVX (k_recovers hD hV) mL_58 dL_recovers_3 h0 rfl rfl rfl ⟨by decide, by decide⟩ (Nat.le_of_ble_eq_true rfl) ⟨by decide, by decide⟩ (fun E u hx => ?_) (fun r u hq => ?_)
  · obtain ⟨rfl, hx⟩ := hx
    rcases hx with ⟨hc9, rfl⟩ | ⟨hc9, rfl⟩
    · refine z_catchN (hp := 18) ⟨[], 0, 15, 19, [], rfl, (fun z hz => by cases hz), rfl, by decide, clL_19, by decide +kernel⟩ dL_recovers_18 (by decide) ?_
      refine i_iconst dL_recovers_19 rfl ?_
      exact z_iret dL_recovers_20 rfl (by decide) (by decide) (wq_x hc9 (by decide) hD h130)
    · exact absurd hc9 (by unfold cdRec; split <;> decide)
  · obtain ⟨hc9, rfl, hD2, hF⟩ := hq
    have h130u := (hF.1 130 (by decide)).trans h130
    refine i_ifb_eq (tgt := 13) dL_recovers_6 (by decide) (fun h9 => ?_) (fun h9 => ?_)
    · skip
      refine z_lconst (v := lN 0) dL_recovers_13 rfl ?_
      refine z_last dL_recovers_14 h130u 0 rfl (by decide) ?_
      refine z_goto (tgt := 21) dL_recovers_15 (by decide) ?_
      refine i_iconst dL_recovers_21 rfl ?_
      exact z_iret dL_recovers_22 rfl (by decide) (by decide) (wq_o hc9 (by rw [h9]; rfl) hD2 hF)
    · skip
      refine z_lconst (v := lN 1) dL_recovers_9 rfl ?_
      refine z_goto (tgt := 14) dL_recovers_10 (by decide) ?_
      refine z_last dL_recovers_14 h130u 0 rfl (by decide) ?_
      refine z_goto (tgt := 21) dL_recovers_15 (by decide) ?_
      refine i_iconst dL_recovers_21 rfl ?_
      exact z_iret dL_recovers_22 rfl (by decide) (by decide) (wq_o hc9 (by rw [h9]; rfl) hD2 hF)
theorem w_table {σ : Wd} {a : AS} (hD : DK σ a) (hV : VL a) {g : Nat → Int64} (h130 : σ 130 = some (aJ 1 g)) {N : Nat → Nat} {xs : Nat → Nat → St} (hE : EN a N xs) (b : Int) (w : Int) (hb : i32 b) (hw : i32 w) : KL_table [.ref 0, .int (iI b), .int (iI w), .ref 130] σ (WQ (cdTab a b w 2) (if w = 0 then ((N b.toNat : Nat) : Int) else ((rnN (a.M b.toNat) (a.E b.toNat) (a.B b.toNat) (N b.toNat) (xs b.toNat) : Nat) : Int)) σ a (a)) NX := by
  refine CtH.intro (by decide) (Nat.le_of_ble_eq_true rfl) ?_
  obtain ⟨fs, h0⟩ := hD.o
  refine z_aload_n dL_table_0 rfl ?_
  refine i_iconst dL_table_1 rfl ?_
  refine z_aload_n dL_table_2 rfl ?_
  refine z_iload_n dL_table_3 rfl ?_
  refine z_iload_n dL_table_4 rfl ?_
  refine z_callVX (k_table hD hV hE b w hb hw) mL_61 dL_table_5 h0 rfl rfl rfl ⟨by decide, by decide⟩ (Nat.le_of_ble_eq_true rfl) ⟨by decide, by decide⟩ (fun E u hx => ?_) (fun r u hq => ?_)
  · obtain ⟨rfl, hx⟩ := hx
    rcases hx with ⟨hc9, rfl⟩ | ⟨hc9, rfl⟩
    · refine z_catchI (hp := 13) ⟨[], 0, 10, 39, [(0, 10, 17, 19)], rfl, (fun z hz => by cases hz), rfl, by decide, clL_39, by decide +kernel⟩ dL_table_13 (by decide) ?_
      refine i_iconst dL_table_15 rfl ?_
      exact z_iret dL_table_16 rfl (by decide) (by decide) (wq_x hc9 (by decide) hD h130)
    · refine z_catchI (hp := 17) ⟨[(0, 10, 13, 39)], 0, 10, 19, [], rfl, (fun z hz => by rw [List.mem_singleton.mp hz]; exact ⟨by decide, _, clL_39, by decide +kernel⟩), rfl, by decide, clL_19, by decide +kernel⟩ dL_table_17 (by decide) ?_
      refine i_iconst dL_table_19 rfl ?_
      exact z_iret dL_table_20 rfl (by decide) (by decide) (wq_x hc9 (by decide) hD h130)
  · obtain ⟨hc9, rfl, hD2, hF⟩ := hq
    have h130u := (hF.1 130 (by decide)).trans h130
    refine z_i2lx dL_table_8 ?_
    refine z_last dL_table_9 h130u 0 rfl (by decide) ?_
    refine z_goto (tgt := 21) dL_table_10 (by decide) ?_
    refine i_iconst dL_table_21 rfl ?_
    exact z_iret dL_table_22 rfl (by decide) (by decide) (wq_o hc9 rfl hD2 hF)
theorem w_rule {σ : Wd} {a : AS} (hD : DK σ a) (hV : VL a) {g : Nat → Int64} (h130 : σ 130 = some (aJ 1 g)) {N : Nat → Nat} {xs : Nat → Nat → St} (hE : EN a N xs) (b : Int) (k : Int) (w : Int) (hb : i32 b) (hk : i32 k) (hw : i32 w) {i j p q rn : Nat} (hrn : rn = rnN (a.M b.toNat) (a.E b.toNat) (a.B b.toNat) (N b.toNat) (xs b.toNat)) (hR : a.cp = true → 0 ≤ k ∧ k < rn → RLx (a.M b.toNat) (a.E b.toNat) (a.B b.toNat) (N b.toNat) (xs b.toNat) k.toNat i j p q) : KL_rule [.ref 0, .int (iI b), .int (iI k), .int (iI w), .ref 130] σ (WQ (cdRule a b k w rn) (if w = 0 then (i : Int) else if w = 1 then (j : Int) else if w = 2 then (p : Int) else (q : Int)) σ a (a)) NX := by
  refine CtH.intro (by decide) (Nat.le_of_ble_eq_true rfl) ?_
  obtain ⟨fs, h0⟩ := hD.o
  refine z_aload dL_rule_0 rfl ?_
  refine i_iconst dL_rule_2 rfl ?_
  refine z_aload_n dL_rule_3 rfl ?_
  refine z_iload_n dL_rule_4 rfl ?_
  refine z_iload_n dL_rule_5 rfl ?_
  refine z_iload_n dL_rule_6 rfl ?_
  refine z_callVX (k_rule hD hV hE b k w hb hk hw hrn hR) mL_64 dL_rule_7 h0 rfl rfl rfl ⟨by decide, by decide⟩ (Nat.le_of_ble_eq_true rfl) ⟨by decide, by decide⟩ (fun E u hx => ?_) (fun r u hq => ?_)
  · obtain ⟨rfl, hx⟩ := hx
    rcases hx with ⟨hc9, rfl⟩ | ⟨hc9, rfl⟩
    · refine z_catchI (hp := 15) ⟨[], 0, 12, 39, [(0, 12, 19, 19)], rfl, (fun z hz => by cases hz), rfl, by decide, clL_39, by decide +kernel⟩ dL_rule_15 (by decide) ?_
      refine i_iconst dL_rule_17 rfl ?_
      exact z_iret dL_rule_18 rfl (by decide) (by decide) (wq_x hc9 (by decide) hD h130)
    · refine z_catchI (hp := 19) ⟨[(0, 12, 15, 39)], 0, 12, 19, [], rfl, (fun z hz => by rw [List.mem_singleton.mp hz]; exact ⟨by decide, _, clL_39, by decide +kernel⟩), rfl, by decide, clL_19, by decide +kernel⟩ dL_rule_19 (by decide) ?_
      refine i_iconst dL_rule_21 rfl ?_
      exact z_iret dL_rule_22 rfl (by decide) (by decide) (wq_x hc9 (by decide) hD h130)
  · obtain ⟨hc9, rfl, hD2, hF⟩ := hq
    have h130u := (hF.1 130 (by decide)).trans h130
    refine z_i2lx dL_rule_10 ?_
    refine z_last dL_rule_11 h130u 0 rfl (by decide) ?_
    refine z_goto (tgt := 23) dL_rule_12 (by decide) ?_
    refine i_iconst dL_rule_23 rfl ?_
    exact z_iret dL_rule_24 rfl (by decide) (by decide) (wq_o hc9 rfl hD2 hF)
theorem w_kind {σ : Wd} {a : AS} (hD : DK σ a) (hV : VL a) {g : Nat → Int64} (h130 : σ 130 = some (aJ 1 g)) {N : Nat → Nat} {xs : Nat → Nat → St} (hE : EN a N xs) (b : Int) (k : Int) (w : Int) (hb : i32 b) (hk : i32 k) (hw : i32 w) : KL_kind [.ref 0, .int (iI b), .int (iI k), .int (iI w), .ref 130] σ (WQ (cdKind a b k w (N b.toNat)) (fc (xs b.toNat k.toNat) w) σ a (a)) NX := by
  refine CtH.intro (by decide) (Nat.le_of_ble_eq_true rfl) ?_
  obtain ⟨fs, h0⟩ := hD.o
  refine z_aload dL_kind_0 rfl ?_
  refine i_iconst dL_kind_2 rfl ?_
  refine z_aload_n dL_kind_3 rfl ?_
  refine z_iload_n dL_kind_4 rfl ?_
  refine z_iload_n dL_kind_5 rfl ?_
  refine z_iload_n dL_kind_6 rfl ?_
  refine z_callVX (k_kind hD hV hE b k w hb hk hw) mL_67 dL_kind_7 h0 rfl rfl rfl ⟨by decide, by decide⟩ (Nat.le_of_ble_eq_true rfl) ⟨by decide, by decide⟩ (fun E u hx => ?_) (fun r u hq => ?_)
  · obtain ⟨rfl, hx⟩ := hx
    rcases hx with ⟨hc9, rfl⟩ | ⟨hc9, rfl⟩
    · refine z_catchI (hp := 15) ⟨[], 0, 12, 39, [(0, 12, 19, 19)], rfl, (fun z hz => by cases hz), rfl, by decide, clL_39, by decide +kernel⟩ dL_kind_15 (by decide) ?_
      refine i_iconst dL_kind_17 rfl ?_
      exact z_iret dL_kind_18 rfl (by decide) (by decide) (wq_x hc9 (by decide) hD h130)
    · refine z_catchI (hp := 19) ⟨[(0, 12, 15, 39)], 0, 12, 19, [], rfl, (fun z hz => by rw [List.mem_singleton.mp hz]; exact ⟨by decide, _, clL_39, by decide +kernel⟩), rfl, by decide, clL_19, by decide +kernel⟩ dL_kind_19 (by decide) ?_
      refine i_iconst dL_kind_21 rfl ?_
      exact z_iret dL_kind_22 rfl (by decide) (by decide) (wq_x hc9 (by decide) hD h130)
  · obtain ⟨hc9, rfl, hD2, hF⟩ := hq
    have h130u := (hF.1 130 (by decide)).trans h130
    refine z_i2lx dL_kind_10 ?_
    refine z_last dL_kind_11 h130u 0 rfl (by decide) ?_
    refine z_goto (tgt := 23) dL_kind_12 (by decide) ?_
    refine i_iconst dL_kind_23 rfl ?_
    exact z_iret dL_kind_24 rfl (by decide) (by decide) (wq_o hc9 rfl hD2 hF)
theorem w_compile {σ : Wd} {a : AS} (hD : DK σ a) (hV : VL a) {g : Nat → Int64} (h130 : σ 130 = some (aJ 1 g))   : KL_compile [.ref 0, .ref 130] σ (fun r u => ∃ z : Int, WQ (cdComp a) z σ a (oComp a) r u ∧ (cdComp a = 0 → ∃ (N : Nat → Nat) (xs : Nat → Nat → St), (∀ b, b < a.ac → En (a.M b) (a.E b) (a.B b) (a.CF b) (N b) (xs b)) ∧ z = (tot N a.ac : Nat))) NX := by
  refine CtH.intro (by decide) (Nat.le_of_ble_eq_true rfl) ?_
  obtain ⟨fs, h0⟩ := hD.o
  refine z_aload_n dL_compile_0 rfl ?_
  refine i_iconst dL_compile_1 rfl ?_
  refine z_aload_n dL_compile_2 rfl ?_
  refine z_callVX (k_compile hD hV) mL_28 dL_compile_3 h0 rfl rfl rfl ⟨by decide, by decide⟩ (Nat.le_of_ble_eq_true rfl) ⟨by decide, by decide⟩ (fun E u hx => ?_) (fun r u hq => ?_)
  · obtain ⟨rfl, hx⟩ := hx
    rcases hx with ⟨hc9, rfl⟩ | ⟨hc9, rfl⟩
    · refine z_catchN (hp := 11) ⟨[], 0, 8, 19, [], rfl, (fun z hz => by cases hz), rfl, by decide, clL_19, by decide +kernel⟩ dL_compile_11 (by decide) ?_
      refine i_iconst dL_compile_12 rfl ?_
      exact z_iret dL_compile_13 rfl (by decide) (by decide) (⟨0, wq_x hc9 (by decide) hD h130, fun q => (by rw [hc9] at q; cases q)⟩)
    · exact absurd hc9 (by unfold cdComp; split <;> decide)
  · obtain ⟨hc9, ⟨N, xs, hE, rfl⟩, hD2, hF⟩ := hq
    have h130u := (hF.1 130 (by decide)).trans h130
    refine z_i2lx dL_compile_6 ?_
    refine z_last dL_compile_7 h130u 0 rfl (by decide) ?_
    refine z_goto (tgt := 14) dL_compile_8 (by decide) ?_
    refine i_iconst dL_compile_14 rfl ?_
    exact z_iret dL_compile_15 rfl (by decide) (by decide) (⟨_, wq_o hc9 rfl hD2 hF, fun _ => ⟨N, xs, hE, rfl⟩⟩)
theorem w_explore {σ : Wd} {a : AS} (hD : DK σ a) (hV : VL a) {g : Nat → Int64} (h130 : σ 130 = some (aJ 1 g)) (limit : Int) (hl : i32 limit) (h70 : cdExpl a limit = 0 → σ 70 ≠ none) : KL_explore [.ref 0, .int (iI limit), .ref 130] σ (fun r u => WQ (cdExpl a limit) (exV (xAll a.ac a.M a.E a.B a.cnt limit.toNat a.ag)) σ a (oExpl a limit.toNat) r u ∧ (cdExpl a limit = 0 → u 70 ≠ none)) NX := by
  refine CtH.intro (by decide) (Nat.le_of_ble_eq_true rfl) ?_
  obtain ⟨fs, h0⟩ := hD.o
  refine z_aload_n dL_explore_0 rfl ?_
  refine i_iconst dL_explore_1 rfl ?_
  refine z_aload_n dL_explore_2 rfl ?_
  refine z_iload_n dL_explore_3 rfl ?_
  refine z_callVX (k_explore hD hV limit hl h70) mL_55 dL_explore_4 h0 rfl rfl rfl ⟨by decide, by decide⟩ (Nat.le_of_ble_eq_true rfl) ⟨by decide, by decide⟩ (fun E u hx => ?_) (fun r u hq => ?_)
  · obtain ⟨rfl, hx⟩ := hx
    rcases hx with ⟨hc9, rfl⟩ | ⟨hc9, rfl⟩
    · refine z_catchN (hp := 12) ⟨[], 0, 9, 13, [(0, 9, 15, 19)], rfl, (fun z hz => by cases hz), rfl, by decide, clL_13, by decide +kernel⟩ dL_explore_12 (by decide) ?_
      refine i_iconst dL_explore_13 rfl ?_
      exact z_iret dL_explore_14 rfl (by decide) (by decide) (⟨wq_x hc9 (by decide) hD h130, fun q => (by rw [hc9] at q; cases q)⟩)
    · refine z_catchN (hp := 15) ⟨[(0, 9, 12, 13)], 0, 9, 19, [], rfl, (fun z hz => by rw [List.mem_singleton.mp hz]; exact ⟨by decide, _, clL_13, by decide +kernel⟩), rfl, by decide, clL_19, by decide +kernel⟩ dL_explore_15 (by decide) ?_
      refine i_iconst dL_explore_16 rfl ?_
      exact z_iret dL_explore_17 rfl (by decide) (by decide) (⟨wq_x hc9 (by decide) hD h130, fun q => (by rw [hc9] at q; cases q)⟩)
  · obtain ⟨hc9, rfl, hD2, hF, hn⟩ := hq
    have h130u := (hF.1 130 (by decide)).trans h130
    refine z_i2lx dL_explore_7 ?_
    refine z_last dL_explore_8 h130u 0 rfl (by decide) ?_
    refine z_goto (tgt := 18) dL_explore_9 (by decide) ?_
    refine i_iconst dL_explore_18 rfl ?_
    exact z_iret dL_explore_19 rfl (by decide) (by decide) (⟨wq_o hc9 rfl hD2 hF, fun _ => up_dom hn⟩)
abbrev KL_explore0 : List Value → Wd → (Option Value → Wd → Prop) → (String → Wd → Prop) → Prop := CtH yL_explore cL_explore 4 (some .int) [(0, 9, 12, 13), (0, 9, 15, 19)] rmL_explore0
theorem w_explore0 {σ : Wd} {a : AS} (hD : DK σ a) (hV : VL a) {g : Nat → Int64} (h130 : σ 130 = some (aJ 1 g)) (limit : Int) (hl : i32 limit) (hcd : cdExpl a limit = 0) (h70 : σ 70 = none) : KL_explore0 [.ref 0, .int (iI limit), .ref 130] σ (fun r u => WQ (cdExpl a limit) (exV (xAll a.ac a.M a.E a.B a.cnt limit.toNat a.ag)) σ a (oExpl a limit.toNat) r u ∧ (cdExpl a limit = 0 → u 70 ≠ none)) NX := by
  refine CtH.intro (by decide) (Nat.le_of_ble_eq_true rfl) ?_
  obtain ⟨fs, h0⟩ := hD.o
  refine z_aload_n dL_explore_0 rfl ?_
  refine i_iconst dL_explore_1 rfl ?_
  refine z_aload_n dL_explore_2 rfl ?_
  refine z_iload_n dL_explore_3 rfl ?_
  refine z_callVX (k_explore0 hD hV limit hl hcd h70) mL_55 dL_explore_4 h0 rfl rfl rfl ⟨by decide, by decide⟩ (Nat.le_of_ble_eq_true rfl) ⟨by decide, by decide⟩ (fun E u hx => ?_) (fun r u hq => ?_)
  · obtain ⟨rfl, hx⟩ := hx
    rcases hx with ⟨hc9, rfl⟩ | ⟨hc9, rfl⟩
    · refine z_catchN (hp := 12) ⟨[], 0, 9, 13, [(0, 9, 15, 19)], rfl, (fun z hz => by cases hz), rfl, by decide, clL_13, by decide +kernel⟩ dL_explore_12 (by decide) ?_
      refine i_iconst dL_explore_13 rfl ?_
      exact z_iret dL_explore_14 rfl (by decide) (by decide) (⟨wq_x hc9 (by decide) hD h130, fun q => (by rw [hc9] at q; cases q)⟩)
    · refine z_catchN (hp := 15) ⟨[(0, 9, 12, 13)], 0, 9, 19, [], rfl, (fun z hz => by rw [List.mem_singleton.mp hz]; exact ⟨by decide, _, clL_13, by decide +kernel⟩), rfl, by decide, clL_19, by decide +kernel⟩ dL_explore_15 (by decide) ?_
      refine i_iconst dL_explore_16 rfl ?_
      exact z_iret dL_explore_17 rfl (by decide) (by decide) (⟨wq_x hc9 (by decide) hD h130, fun q => (by rw [hc9] at q; cases q)⟩)
  · obtain ⟨hc9, rfl, hD2, hF, hn⟩ := hq
    have h130u := (hF.1 130 (by decide)).trans h130
    refine z_i2lx dL_explore_7 ?_
    refine z_last dL_explore_8 h130u 0 rfl (by decide) ?_
    refine z_goto (tgt := 18) dL_explore_9 (by decide) ?_
    refine i_iconst dL_explore_18 rfl ?_
    exact z_iret dL_explore_19 rfl (by decide) (by decide) (⟨wq_o hc9 rfl hD2 hF, fun _ => up_dom hn⟩)

