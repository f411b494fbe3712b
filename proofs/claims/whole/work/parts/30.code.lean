/-! CODES: numbers below 256 -/
section Z0
variable {y : MethodName} {cc : ByteArray} {nL : Nat} {ret : Option FieldType} {hh : List (Nat × Nat × Nat × Nat)} {R : Room} {Q : Option Value → Wd → Prop} {QX : String → Wd → Prop} {pc : Nat} {L : List (Option Value)} {st : List Value} {σ : Wd} {cells slots : Nat}
theorem z_eqi {x : Int32} (x' : Int32) (h : x = x') (k : T y cc nL ret hh R Q QX pc L (.int x' :: st) σ cells slots) : T y cc nL ret hh R Q QX pc L (.int x :: st) σ cells slots := by rw [h]; exact k
theorem z_eql {x : Int64} (x' : Int64) (h : x = x') (k : T y cc nL ret hh R Q QX pc L (.long x' :: st) σ cells slots) : T y cc nL ret hh R Q QX pc L (.long x :: st) σ cells slots := by rw [h]; exact k
theorem z_eqw {u : Wd} (h : σ = u) (k : T y cc nL ret hh R Q QX pc L st u cells slots) : T y cc nL ret hh R Q QX pc L st σ cells slots := by rw [h]; exact k
theorem i_rt {b : Bool} {u : Wd} (d : decode cc pc = .ok (.ireturn, 1)) (hr : ret = some .boolean) (hc : cells ≤ R.cells) (hs : slots ≤ R.slots) (hb : b = true) (hu : σ = u) : T y cc nL ret hh R (Rt (some (.int (iI (bI b)))) u) QX pc L [.int (iI 1)] σ cells slots := by subst hb; exact i_zret (b := true) d hr hc hs hu
theorem i_rf {b : Bool} {u : Wd} (d : decode cc pc = .ok (.ireturn, 1)) (hr : ret = some .boolean) (hc : cells ≤ R.cells) (hs : slots ≤ R.slots) (hb : b = false) (hu : σ = u) : T y cc nL ret hh R (Rt (some (.int (iI (bI b)))) u) QX pc L [.int (iI 0)] σ cells slots := by subst hb; exact i_zret (b := false) d hr hc hs hu
end Z0
theorem sh1 {w : Int} (h : 0 ≤ w ∧ w < 64) : iI w <<< (iI 1 &&& 31) = iI (2 * w) := by
  obtain ⟨n, rfl⟩ := Int.eq_ofNat_of_zero_le h.1
  have k : ∀ n : Nat, n < 64 → iI (n : Int) <<< (iI 1 &&& 31) = iI (2 * (n : Int)) := by decide +kernel
  exact k n (by omega)
theorem or128 {w : Int} (h : 0 ≤ w ∧ w < 128) : iI w ||| iI 128 = iI (w + 128) := by
  obtain ⟨n, rfl⟩ := Int.eq_ofNat_of_zero_le h.1
  have k : ∀ n : Nat, n < 128 → iI (n : Int) ||| iI 128 = iI ((n : Int) + 128) := by decide +kernel
  exact k n (by omega)
theorem or1 {w : Int} (h : 0 ≤ w ∧ w < 128) : iI (2 * w) ||| iI 1 = iI (2 * w + 1) := by
  obtain ⟨n, rfl⟩ := Int.eq_ofNat_of_zero_le h.1
  have k : ∀ n : Nat, n < 128 → iI (2 * (n : Int)) ||| iI 1 = iI (2 * (n : Int) + 1) := by decide +kernel
  exact k n (by omega)
/-- a state of an atom as a number: leads, value, opinion -/
def enc (ld : Bool) (v : Int) (op : Bool) : Int := 128 * bI ld + 2 * (v + 32) + bI op
def cdv (c : Nat) : Int := ((c / 2 % 64 : Nat) : Int) - 32
def cdl (c : Nat) : Bool := Nat.ble 128 c
def cdo (c : Nat) : Bool := Nat.beq (c % 2) 1
theorem cd_val : ∀ c : Nat, c < 256 → ((iI (c : Int) >>> (iI 1 &&& 31)) &&& iI 63) = iI ((c / 2 % 64 : Nat) : Int) := by decide +kernel
theorem cd_lead : ∀ c : Nat, c < 256 → (iI (c : Int) &&& iI 128) = iI (128 * bI (cdl c)) := by decide +kernel
theorem cd_op : ∀ c : Nat, c < 256 → (iI (c : Int) &&& iI 1) = iI (bI (cdo c)) := by decide +kernel
theorem k_X1_of (ld op : Bool) (v : Int) (hv : -32 ≤ v ∧ v < 32) (σ : Wd) : KX1_of [.int (iI (bI ld)), .int (iI v), .int (iI (bI op))] σ (Rt (some (.int (iI (enc ld v op)))) σ) NX := by
  refine Ct.intro (by decide) (Nat.le_of_ble_eq_true rfl) ?_
  refine z_iload_n dX1_of_0 rfl ?_
  refine i_bipush dX1_of_1 (by decide) ?_
  refine i_iadd dX1_of_3 ?_
  refine i_iconst dX1_of_4 rfl ?_
  refine z_ishl dX1_of_5 ?_
  refine z_eqi (iI (2 * (v + 32))) (sh1 (by omega)) ?_
  refine z_istore_n dX1_of_6 (by decide) ?_
  refine z_iload_n dX1_of_7 rfl ?_
  refine i_ifb_eq (tgt := 17) dX1_of_8 (by decide) (fun h1 => ?_) (fun h1 => ?_)
  · skip
    subst h1
    refine z_iload_n dX1_of_17 rfl ?_
    refine i_ifb_eq (tgt := 27) dX1_of_18 (by decide) (fun h2 => ?_) (fun h2 => ?_)
    · skip
      subst h2
      refine z_iload_n dX1_of_27 rfl ?_
      refine z_eqi (iI (enc false v false)) (by congr 1; simp [enc, bI]) ?_
      exact i_iret dX1_of_28 rfl (by decide) (by decide) rfl
    · skip
      subst h2
      refine z_iload_n dX1_of_21 rfl ?_
      refine i_iconst dX1_of_22 rfl ?_
      refine z_ior dX1_of_23 ?_
      refine z_eqi (iI (enc false v true)) ((or1 (by omega)).trans (by congr 1; simp [enc, bI])) ?_
      refine z_goto (tgt := 28) dX1_of_24 (by decide) ?_
      exact i_iret dX1_of_28 rfl (by decide) (by decide) rfl
  · skip
    subst h1
    refine z_iload_n dX1_of_11 rfl ?_
    refine i_sipush dX1_of_12 (by decide) ?_
    refine z_ior dX1_of_15 ?_
    refine z_eqi (iI (2 * (v + 96))) ((or128 (by omega)).trans (by congr 1; omega)) ?_
    refine z_istore_n dX1_of_16 (by decide) ?_
    refine z_iload_n dX1_of_17 rfl ?_
    refine i_ifb_eq (tgt := 27) dX1_of_18 (by decide) (fun h2 => ?_) (fun h2 => ?_)
    · skip
      subst h2
      refine z_iload_n dX1_of_27 rfl ?_
      refine z_eqi (iI (enc true v false)) (by congr 1; simp [enc, bI]; omega) ?_
      exact i_iret dX1_of_28 rfl (by decide) (by decide) rfl
    · skip
      subst h2
      refine z_iload_n dX1_of_21 rfl ?_
      refine i_iconst dX1_of_22 rfl ?_
      refine z_ior dX1_of_23 ?_
      refine z_eqi (iI (enc true v true)) ((or1 (by omega)).trans (by congr 1; simp [enc, bI]; omega)) ?_
      refine z_goto (tgt := 28) dX1_of_24 (by decide) ?_
      exact i_iret dX1_of_28 rfl (by decide) (by decide) rfl
theorem k_X1_value (c : Nat) (hc : c < 256) (σ : Wd) : KX1_value [.int (iI c)] σ (Rt (some (.int (iI (cdv c)))) σ) NX := by
  refine Ct.intro (by decide) (Nat.le_of_ble_eq_true rfl) ?_
  refine z_iload_n dX1_value_0 rfl ?_
  refine i_iconst dX1_value_1 rfl ?_
  refine z_ishr dX1_value_2 ?_
  refine i_bipush dX1_value_3 (by decide) ?_
  refine z_iand dX1_value_5 ?_
  refine z_eqi _ (cd_val c hc) ?_
  refine i_bipush dX1_value_6 (by decide) ?_
  refine i_isub dX1_value_8 ?_
  exact i_iret dX1_value_9 rfl (by decide) (by decide) rfl
theorem k_X1_leads (c : Nat) (hc : c < 256) (σ : Wd) : KX1_leads [.int (iI c)] σ (Rt (some (.int (iI (bI (cdl c))))) σ) NX := by
  refine Ct.intro (by decide) (Nat.le_of_ble_eq_true rfl) ?_
  refine z_iload_n dX1_leads_0 rfl ?_
  refine i_sipush dX1_leads_1 (by decide) ?_
  refine z_iand dX1_leads_4 ?_
  refine z_eqi _ (cd_lead c hc) ?_
  have hb := bI_r (cdl c)
  refine i_if_eq (tgt := 12) dX1_leads_5 (by decide) (by omega) (fun h1 => ?_) (fun h1 => ?_)
  · skip
    refine i_iconst dX1_leads_12 rfl ?_
    exact i_rf dX1_leads_13 rfl (by decide) (by decide) (bI_0.mp (by omega)) rfl
  · skip
    refine i_iconst dX1_leads_8 rfl ?_
    refine z_goto (tgt := 13) dX1_leads_9 (by decide) ?_
    exact i_rt dX1_leads_13 rfl (by decide) (by decide) (bI_1.mp (by omega)) rfl
theorem k_X1_opinion (c : Nat) (hc : c < 256) (σ : Wd) : KX1_opinion [.int (iI c)] σ (Rt (some (.int (iI (bI (cdo c))))) σ) NX := by
  refine Ct.intro (by decide) (Nat.le_of_ble_eq_true rfl) ?_
  refine z_iload_n dX1_opinion_0 rfl ?_
  refine i_iconst dX1_opinion_1 rfl ?_
  refine z_iand dX1_opinion_2 ?_
  refine z_eqi _ (cd_op c hc) ?_
  exact i_iret dX1_opinion_3 rfl (by decide) (by decide) rfl
theorem k_X1_fact (c : Nat) (hc : c < 256) (w : Int) (hw : 0 ≤ w ∧ w < 3) (σ : Wd) : KX1_fact [.int (iI c), .int (iI w)] σ (Rt (some (.int (iI (if w = 0 then cdv c else if w = 1 then bI (cdl c) else bI (cdo c))))) σ) NX := by
  refine Ct.intro (by decide) (Nat.le_of_ble_eq_true rfl) ?_
  refine z_iload_n dX1_fact_0 rfl ?_
  refine i_if_ne (tgt := 9) dX1_fact_1 (by decide) (by omega) (fun h1 => ?_) (fun h1 => ?_)
  · skip
    rw [if_neg h1]
    refine z_iload_n dX1_fact_9 rfl ?_
    refine i_iconst dX1_fact_10 rfl ?_
    refine i_icmp_ne (tgt := 27) dX1_fact_11 (by decide) (by omega) (by omega) (fun h2 => ?_) (fun h2 => ?_)
    · skip
      rw [if_neg h2]
      refine z_iload_n dX1_fact_27 rfl ?_
      refine i_cSr (k_X1_opinion c hc σ) mX1_17 dX1_fact_28 rfl rfl ⟨by decide, by decide⟩ (Nat.le_of_ble_eq_true rfl) ⟨by decide, by decide⟩ ?_
      exact i_iret dX1_fact_31 rfl (by decide) (by decide) rfl
    · skip
      rw [if_pos h2]
      refine z_iload_n dX1_fact_14 rfl ?_
      refine i_cSr (k_X1_leads c hc σ) mX1_13 dX1_fact_15 rfl rfl ⟨by decide, by decide⟩ (Nat.le_of_ble_eq_true rfl) ⟨by decide, by decide⟩ ?_
      refine i_ifb_eq (tgt := 25) dX1_fact_18 (by decide) (fun h3 => ?_) (fun h3 => ?_)
      · skip
        refine i_iconst dX1_fact_25 rfl ?_
        rw [h3]
        exact i_iret dX1_fact_26 rfl (by decide) (by decide) rfl
      · skip
        refine i_iconst dX1_fact_21 rfl ?_
        refine z_goto (tgt := 26) dX1_fact_22 (by decide) ?_
        rw [h3]
        exact i_iret dX1_fact_26 rfl (by decide) (by decide) rfl
  · skip
    rw [if_pos h1]
    refine z_iload_n dX1_fact_4 rfl ?_
    refine i_cSr (k_X1_value c hc σ) mX1_9 dX1_fact_5 rfl rfl ⟨by decide, by decide⟩ (Nat.le_of_ble_eq_true rfl) ⟨by decide, by decide⟩ ?_
    exact i_iret dX1_fact_8 rfl (by decide) (by decide) rfl
theorem or_sh8 {a b : Nat} (ha : a < 256) (hb : b < 256) : (iI (a : Int) <<< (iI 8 &&& 31)) ||| iI (b : Int) = iI ((a * 256 + b : Nat) : Int) := by
  rw [iI_nat, iI_nat, iI_nat, show iI 8 &&& 31 = 8 from rfl, pk_shlN (8 : Int32) 8 (by decide) (by omega)]
  rw [← Int32.toBitVec_inj, Int32.toBitVec_or]
  show BitVec.ofNat 32 (a * 2 ^ 8) ||| BitVec.ofNat 32 b = BitVec.ofNat 32 (a * 256 + b)
  rw [← BitVec.ofNat_or]
  congr 1
  rw [show a * 2 ^ 8 = a <<< 8 by rw [Nat.shiftLeft_eq], ← Nat.shiftLeft_add_eq_or_of_lt (by omega), Nat.shiftLeft_eq]
theorem k_X1_pair (a b : Nat) (ha : a < 256) (hb : b < 256) (σ : Wd) : KX1_pair [.int (iI a), .int (iI b)] σ (Rt (some (.int (iI ((a * 256 + b : Nat) : Int)))) σ) NX := by
  refine Ct.intro (by decide) (Nat.le_of_ble_eq_true rfl) ?_
  refine z_iload_n dX1_pair_0 rfl ?_
  refine i_bipush dX1_pair_1 (by decide) ?_
  refine z_ishl dX1_pair_3 ?_
  refine z_iload_n dX1_pair_4 rfl ?_
  refine z_ior dX1_pair_5 ?_
  refine z_eqi _ (or_sh8 ha hb) ?_
  exact i_iret dX1_pair_6 rfl (by decide) (by decide) rfl
theorem fst8 {p : Nat} (hp : p < 65536) : (iI (p : Int) >>> (iI 8 &&& 31)) &&& iI 255 = iI ((p / 256 : Nat) : Int) := by
  rw [iI_nat, iI_nat, show iI 8 &&& 31 = 8 from rfl, pk_shrN (by omega) (8 : Int32) 8 (by decide), pk_andN (by omega) 8 (by decide)]
  congr 1
  omega
theorem snd8 {p : Nat} (hp : p < 65536) : iI (p : Int) &&& iI 255 = iI ((p % 256 : Nat) : Int) := by
  rw [iI_nat, iI_nat, pk_andN (by omega) 8 (by decide)]
theorem k_X1_first (p : Nat) (hp : p < 65536) (σ : Wd) : KX1_first [.int (iI p)] σ (Rt (some (.int (iI ((p / 256 : Nat) : Int)))) σ) NX := by
  refine Ct.intro (by decide) (Nat.le_of_ble_eq_true rfl) ?_
  refine z_iload_n dX1_first_0 rfl ?_
  refine i_bipush dX1_first_1 (by decide) ?_
  refine z_ishr dX1_first_3 ?_
  refine i_sipush dX1_first_4 (by decide) ?_
  refine z_iand dX1_first_7 ?_
  refine z_eqi _ (fst8 hp) ?_
  exact i_iret dX1_first_8 rfl (by decide) (by decide) rfl
theorem k_X1_second (p : Nat) (hp : p < 65536) (σ : Wd) : KX1_second [.int (iI p)] σ (Rt (some (.int (iI ((p % 256 : Nat) : Int)))) σ) NX := by
  refine Ct.intro (by decide) (Nat.le_of_ble_eq_true rfl) ?_
  refine z_iload_n dX1_second_0 rfl ?_
  refine i_sipush dX1_second_1 (by decide) ?_
  refine z_iand dX1_second_4 ?_
  refine z_eqi _ (snd8 hp) ?_
  exact i_iret dX1_second_5 rfl (by decide) (by decide) rfl
theorem sh_amt : ∀ a : Nat, a < 5 → (((iI (a : Int)) * iI 8).toInt64 &&& 63).toBitVec.smod 64 = BitVec.ofNat 64 (8 * a) := by decide +kernel
theorem ofA {A a : Nat} (hA : A < 2 ^ 40) (ha : a < 5) : (lN A >>> ((iI ((a : Int) * 8)).toInt64 &&& 63)).toInt32 &&& iI 255 = iI ((A / 256 ^ a % 256 : Nat) : Int) := by
  have h1 := sh_amt a ha
  rw [iI_mul] at h1
  have h2 : ((iI ((a : Int) * 8)).toInt64 &&& 63).toBitVec.smod 64 = BitVec.ofNat 64 (8 * a) := h1
  rw [pf_shr (d := 8 * a) (by rw [h2, BitVec.toNat_ofNat, Nat.mod_eq_of_lt (by omega)]) (by omega), lN_i]
  have e : iI 255 = 255 := rfl
  rw [e, pk_and _ 8 (by decide), iI_nat]
  congr 1
  rw [show (2 : Nat) ^ 8 = 256 from rfl]
  show (Int32.ofNat (A / 2 ^ (8 * a))).toBitVec.toNat % 256 = _
  rw [show (Int32.ofNat (A / 2 ^ (8 * a))).toBitVec.toNat = A / 2 ^ (8 * a) % 2 ^ 32 from rfl, Nat.mod_mod_of_dvd _ (by decide), show 2 ^ (8 * a) = 256 ^ a by rw [Nat.pow_mul]]
theorem k_X1_ofAtom (A a : Nat) (hA : A < 2 ^ 40) (ha : a < 5) (σ : Wd) : KX1_ofAtom [.long (lN A), .int (iI a)] σ (Rt (some (.int (iI ((A / 256 ^ a % 256 : Nat) : Int)))) σ) NX := by
  refine Ct.intro (by decide) (Nat.le_of_ble_eq_true rfl) ?_
  refine z_lload_n dX1_ofAtom_0 rfl ?_
  refine z_iload_n dX1_ofAtom_1 rfl ?_
  refine i_bipush dX1_ofAtom_2 (by decide) ?_
  refine i_imul dX1_ofAtom_4 ?_
  refine z_lshrx dX1_ofAtom_5 ?_
  refine z_l2ix dX1_ofAtom_6 ?_
  refine i_sipush dX1_ofAtom_7 (by decide) ?_
  refine z_iand dX1_ofAtom_10 ?_
  refine z_eqi _ (ofA hA ha) ?_
  exact i_iret dX1_ofAtom_11 rfl (by decide) (by decide) rfl
theorem atA {c a : Nat} (hc : c < 256) (ha : a < 5) : (iI (c : Int)).toInt64 <<< ((iI ((a : Int) * 8)).toInt64 &&& 63) = lN (c * 256 ^ a) := by
  have h1 := sh_amt a ha
  rw [iI_mul] at h1
  rw [iI_nat, nI_l (by omega)]
  exact g_shl (k := 8 * a) h1 (by omega) (by rw [Nat.pow_mul]) (by omega)
theorem k_X1_atAtom (c a : Nat) (hc : c < 256) (ha : a < 5) (σ : Wd) : KX1_atAtom [.int (iI c), .int (iI a)] σ (Rt (some (.long (lN (c * 256 ^ a)))) σ) NX := by
  refine Ct.intro (by decide) (Nat.le_of_ble_eq_true rfl) ?_
  refine z_iload_n dX1_atAtom_0 rfl ?_
  refine z_i2lx dX1_atAtom_1 ?_
  refine z_iload_n dX1_atAtom_2 rfl ?_
  refine i_bipush dX1_atAtom_3 (by decide) ?_
  refine i_imul dX1_atAtom_5 ?_
  refine z_lshlx dX1_atAtom_6 ?_
  refine z_eql _ (atA hc ha) ?_
  exact i_lret dX1_atAtom_7 rfl (by decide) (by decide) rfl
/-- whether an agent's word leads some atom -/
def ldS (A : Nat) : Bool := Nat.land A 551911719040 != 0
theorem k_X1_leadsSomewhere (A : Nat) (hA : A < 2 ^ 40) (σ : Wd) : KX1_leadsSomewhere [.long (lN A)] σ (Rt (some (.int (iI (bI (ldS A))))) σ) NX := by
  refine Ct.intro (by decide) (Nat.le_of_ble_eq_true rfl) ?_
  refine z_lload_n dX1_leadsSomewhere_0 rfl ?_
  refine z_ldc2 dX1_leadsSomewhere_1 ctX1_20 ?_
  refine z_land dX1_leadsSomewhere_4 ?_
  refine z_lconst (v := lN 0) dX1_leadsSomewhere_5 rfl ?_
  refine z_lcmp dX1_leadsSomewhere_6 ?_
  have e : (lN A &&& 551911719040) = lN (A &&& 551911719040) := wb_and (b := 551911719040) (by omega) (by omega)
  have hle : A &&& 551911719040 ≤ A := Nat.and_le_left
  rw [e]
  refine z_if_eq (tgt := 14) dX1_leadsSomewhere_7 (by decide) (fun h1 => ?_) (fun h1 => ?_)
  · skip
    refine i_iconst dX1_leadsSomewhere_14 rfl ?_
    have h2 : A &&& 551911719040 = 0 := by
      unfold lg_cmp at h1
      split at h1
      · cases h1
      · split at h1
        · rename_i h3
          exact (pk_lEQ (b := 0) (by omega) (by omega)).mp h3
        · cases h1
    exact i_rf dX1_leadsSomewhere_15 rfl (by decide) (by decide) (by unfold ldS; rw [show Nat.land A 551911719040 = 0 from h2]; rfl) rfl
  · skip
    refine i_iconst dX1_leadsSomewhere_10 rfl ?_
    refine z_goto (tgt := 15) dX1_leadsSomewhere_11 (by decide) ?_
    have h2 : A &&& 551911719040 ≠ 0 := by
      intro h3
      refine h1 ?_
      rw [h3]
      rfl
    exact i_rt dX1_leadsSomewhere_15 rfl (by decide) (by decide) (by unfold ldS; exact bne_iff_ne.mpr h2) rfl

