def noR (fs : List Value) : Bool := fs.all fun v => match v with
  | .ref _ => false
  | _ => true
section
variable {y : MethodName} {cc : ByteArray} {nL : Nat} {ret : Option FieldType} {hh : List (Nat × Nat × Nat × Nat)} {R : Room} {Q : Option Value → Wd → Prop} {QX : String → Wd → Prop} {pc : Nat} {L : List (Option Value)} {st : List Value} {σ : Wd} {cells slots : Nat}
theorem z_newD {idx ci N : Nat} {Cn : String} {Tt : u_T} {ty0 : Nat → FieldType} (hc : Cls ci Cn Tt N ty0) (hk : Cond.classLink y.cls idx Cn ∈ WT) (hi : Cond.instantiable Cn N ∈ WT) (hini : Cond.initialized Cn ∈ WT) (d : decode cc pc = .ok (.new idx, 3)) (q : Nat) (hq : σ q = none) (fs : List Value) (hfs : (List.range N).map (fun j => defaultValue (ty0 j)) = (List.range N).map (vp_V fs)) (hb : noR fs = true) (hcells : cells + 1 ≤ R.cells) (hslots : slots + N ≤ R.slots) (k : T y cc nL ret hh R Q QX (pc + 3) L (.ref q :: st) (up σ q (.inr (ci, fs))) (cells + 1) (slots + N)) : T y cc nL ret hh R Q QX pc L st σ cells slots := by
  have hb' : ∀ v ∈ fs, ∀ n, v ≠ .ref n := fun v hv n e => by
    have := List.all_eq_true.mp hb v hv
    rw [e] at this
    cases this
  refine z_new hc hk hi hini d q hq fs (fun j hj => (List.map_inj_left.mp hfs) j (List.mem_range.mpr hj)) (fun ad => ?_) hb' hcells hslots k
  refine (List.map_congr_left (fun v hv => ?_)).trans (List.map_id fs)
  cases v with
  | ref n => exact absurd rfl (hb' _ hv n)
  | _ => rfl
theorem i_newI {N : Nat} {n : Int32} (harr : Cond.arrayClass .int ∈ WT) (d : decode cc pc = .ok (.newarray .int, 2)) (q : Nat) (hq : σ q = none) (hn : n = nI N) (hN : N < 100000) (hcells : cells + 1 ≤ R.cells) (hslots : slots + N ≤ R.slots) (k : T y cc nL ret hh R Q QX (pc + 2) L (.ref q :: st) (up σ q (AI N (fun _ => 0))) (cells + 1) (slots + N)) : T y cc nL ret hh R Q QX pc L (.int n :: st) σ cells slots := z_newaI harr d q hq hn hN hcells hslots k
theorem i_newL {N : Nat} {n : Int32} (harr : Cond.arrayClass .long ∈ WT) (d : decode cc pc = .ok (.newarray .long, 2)) (q : Nat) (hq : σ q = none) (hn : n = nI N) (hN : N < 100000) (hcells : cells + 1 ≤ R.cells) (hslots : slots + N ≤ R.slots) (k : T y cc nL ret hh R Q QX (pc + 2) L (.ref q :: st) (up σ q (AL N (fun _ => 0))) (cells + 1) (slots + N)) : T y cc nL ret hh R Q QX pc L (.int n :: st) σ cells slots := z_newaJ harr d q hq hn hN hcells hslots k
theorem i_newZ {N : Nat} {n : Int32} (harr : Cond.arrayClass .boolean ∈ WT) (d : decode cc pc = .ok (.newarray .boolean, 2)) (q : Nat) (hq : σ q = none) (hn : n = nI N) (hN : N < 100000) (hcells : cells + 1 ≤ R.cells) (hslots : slots + N ≤ R.slots) (k : T y cc nL ret hh R Q QX (pc + 2) L (.ref q :: st) (up σ q (AZ N (fun _ => false))) (cells + 1) (slots + N)) : T y cc nL ret hh R Q QX pc L (.int n :: st) σ cells slots := z_newaZ harr d q hq hn hN hcells hslots k
end
/-- nothing outside the names from a to b has changed -/
def Out (a b : Nat) (σ u : Wd) : Prop := ∀ q, q < a ∨ b < q → u q = σ q
theorem k_X0_init (σ : Wd) (o : Nat) (ho : σ o = some (ob 0 [.null, .int (iI 0), .int (iI 0), .int (iI 0), .null, .null, .null, .int (iI 0)])) (h1 : σ (o + 1) = none) (h2 : σ (o + 2) = none) (h3 : σ (o + 3) = none) (h4 : σ (o + 4) = none) :
    KX0_init [.ref o] σ (fun r u => r = none ∧ Out o (o + 4) σ u ∧ u o = some (obA o 0 0 0 0) ∧ u (o + 1) = some (AI 8 (fun _ => 0)) ∧ u (o + 2) = some (AI 256 (fun _ => 0)) ∧ u (o + 3) = some (AI 256 (fun _ => 0)) ∧ u (o + 4) = some (AI 257 (fun _ => 0))) NX := by
  refine Ct.intro (by decide) (Nat.le_of_ble_eq_true rfl) ?_
  refine z_aload_n dX0_init_0 rfl ?_
  refine z_objInit (inW1 37 rfl rfl) (inW1 23 rfl rfl) (inW1 24 rfl rfl) dX0_init_1 (by decide) (Nat.le_of_ble_eq_true rfl) ?_
  refine z_aload_n dX0_init_4 rfl ?_
  refine i_bipush dX0_init_5 (by decide) ?_
  refine i_newI (N := 8) (inW1 63 rfl rfl) dX0_init_7 (o + 1) h1 rfl (by decide) (by decide) (by decide) ?_
  refine z_putF cls0 0 flX0_9 dX0_init_9 (by decide) rfl rfl rfl rfl (fun _ => ⟨rfl, rfl⟩) (by rw [up_ne _ _ (by omega)]; first | exact ho | exact up_self _ _ _) (Nat.le_of_ble_eq_true rfl) ?_
  refine z_aload_n dX0_init_12 rfl ?_
  refine i_sipush dX0_init_13 (by decide) ?_
  refine i_newI (N := 256) (inW1 63 rfl rfl) dX0_init_16 (o + 2) (by rw [up_ne _ _ (by omega), up_ne _ _ (by omega)]; exact h2) rfl (by decide) (by decide) (by decide) ?_
  refine z_putF cls0 4 flX0_17 dX0_init_18 (by decide) rfl rfl rfl rfl (fun _ => ⟨rfl, rfl⟩) (by rw [up_ne _ _ (by omega)]; first | exact ho | exact up_self _ _ _) (Nat.le_of_ble_eq_true rfl) ?_
  refine z_aload_n dX0_init_21 rfl ?_
  refine i_sipush dX0_init_22 (by decide) ?_
  refine i_newI (N := 256) (inW1 63 rfl rfl) dX0_init_25 (o + 3) (by rw [up_ne _ _ (by omega), up_ne _ _ (by omega), up_ne _ _ (by omega), up_ne _ _ (by omega)]; exact h3) rfl (by decide) (by decide) (by decide) ?_
  refine z_putF cls0 5 flX0_20 dX0_init_27 (by decide) rfl rfl rfl rfl (fun _ => ⟨rfl, rfl⟩) (by rw [up_ne _ _ (by omega)]; first | exact ho | exact up_self _ _ _) (Nat.le_of_ble_eq_true rfl) ?_
  refine z_aload_n dX0_init_30 rfl ?_
  refine i_sipush dX0_init_31 (by decide) ?_
  refine i_newI (N := 257) (inW1 63 rfl rfl) dX0_init_34 (o + 4) (by rw [up_ne _ _ (by omega), up_ne _ _ (by omega), up_ne _ _ (by omega), up_ne _ _ (by omega), up_ne _ _ (by omega), up_ne _ _ (by omega)]; exact h4) rfl (by decide) (by decide) (by decide) ?_
  refine z_putF cls0 6 flX0_23 dX0_init_36 (by decide) rfl rfl rfl rfl (fun _ => ⟨rfl, rfl⟩) (by rw [up_ne _ _ (by omega)]; first | exact ho | exact up_self _ _ _) (Nat.le_of_ble_eq_true rfl) ?_
  refine z_vret dX0_init_39 rfl (by decide) (by decide) ⟨rfl, fun q hq => ?_, up_self _ _ _, ?_, ?_, ?_, ?_⟩
  · rw [up_ne _ _ (by omega), up_ne _ _ (by omega), up_ne _ _ (by omega), up_ne _ _ (by omega), up_ne _ _ (by omega), up_ne _ _ (by omega), up_ne _ _ (by omega), up_ne _ _ (by omega)]
  · rw [up_ne _ _ (by omega), up_ne _ _ (by omega), up_ne _ _ (by omega), up_ne _ _ (by omega), up_ne _ _ (by omega), up_ne _ _ (by omega), up_ne _ _ (by omega), up_self]
  · rw [up_ne _ _ (by omega), up_ne _ _ (by omega), up_ne _ _ (by omega), up_ne _ _ (by omega), up_ne _ _ (by omega), up_self]
  · rw [up_ne _ _ (by omega), up_ne _ _ (by omega), up_ne _ _ (by omega), up_self]
  · rw [up_ne _ _ (by omega), up_self]
theorem k_X4_init (σ : Wd) (w : Nat) (hw : σ w = some (ob 3 [.null, .long (lN 0), .long (lN 0)])) : KX4_init [.ref w, .ref 1] σ (Rt none (up σ w (obM 0 0))) NX := by
  refine Ct.intro (by decide) (Nat.le_of_ble_eq_true rfl) ?_
  refine z_aload_n dX4_init_0 rfl ?_
  refine z_objInit (inW1 100 rfl rfl) (inW1 23 rfl rfl) (inW1 24 rfl rfl) dX4_init_1 (by decide) (Nat.le_of_ble_eq_true rfl) ?_
  refine z_aload_n dX4_init_4 rfl ?_
  refine z_aload_n dX4_init_5 rfl ?_
  refine z_putF cls3 0 flX4_7 dX4_init_6 (by decide) rfl rfl rfl rfl (fun _ => ⟨rfl, rfl⟩) (by first | exact hw | rfl) (Nat.le_of_ble_eq_true rfl) ?_
  exact i_vret dX4_init_9 rfl (by decide) (by decide) rfl

