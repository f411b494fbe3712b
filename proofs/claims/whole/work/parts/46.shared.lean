/-! how often a node is a part -/
def ucN (op lf rt : Nat → Int) (n : Nat) : Nat → Nat
  | 0 => 0
  | k + 1 => ucN op lf rt n k + (if op k ≠ 3 ∧ lf k = n then 1 else 0) + (if op k < 2 ∧ rt k = n then 1 else 0)
theorem uc_s (op lf rt : Nat → Int) (n k : Nat) : ucN op lf rt n (k + 1) = ucN op lf rt n k + (if op k ≠ 3 ∧ lf k = n then 1 else 0) + (if op k < 2 ∧ rt k = n then 1 else 0) := rfl
theorem uc_mono (op lf rt : Nat → Int) (n : Nat) : ∀ i j, i ≤ j → ucN op lf rt n i ≤ ucN op lf rt n j
  | i, 0, h => by have : i = 0 := by omega
                  subst this; exact Nat.le_refl _
  | i, j + 1, h => by
    by_cases q : i = j + 1
    · rw [q]; exact Nat.le_refl _
    · have := uc_mono op lf rt n i j (by omega)
      rw [uc_s]
      omega
/-- some node is twice a part -/
def shB (op lf rt : Nat → Int) (nc : Nat) : Bool := !(allB (fun n => Nat.blt (ucN op lf rt n nc) 2) nc)
theorem shB_t {op lf rt : Nat → Int} {nc n : Nat} (hn : n < nc) (h : 2 ≤ ucN op lf rt n nc) : shB op lf rt nc = true := by
  unfold shB
  rw [allB_f (p := fun n => Nat.blt (ucN op lf rt n nc) 2) hn (blt_f h)]
  rfl
theorem shB_f {op lf rt : Nat → Int} {nc : Nat} (h : ∀ n, n < nc → ucN op lf rt n nc ≤ 1) : shB op lf rt nc = false := by
  unfold shB
  rw [(allB_t nc).mpr (fun n hn => blt_t (by have := h n hn; omega))]
  rfl
theorem ior_n (a b : Nat) : iI (a : Int) ||| iI (b : Int) = iI ((a ||| b : Nat) : Int) := by
  rw [iI_nat, iI_nat, iI_nat, ← Int32.toBitVec_inj, Int32.toBitVec_or]
  show BitVec.ofNat 32 a ||| BitVec.ofNat 32 b = BitVec.ofNat 32 _
  rw [← BitVec.ofNat_or]
theorem iand_n (a b : Nat) : iI (a : Int) &&& iI (b : Int) = iI ((a &&& b : Nat) : Int) := by
  rw [iI_nat, iI_nat, iI_nat]
  exact nx_and a b
theorem sh_1 : ∀ i : Nat, i < 20 → iI 1 <<< (iI (i : Int) &&& 31) = iI ((2 ^ i : Nat) : Int) := by decide +kernel
theorem and_0 {a b : Nat} : a &&& b = 0 ↔ ∀ i, (a.testBit i && b.testBit i) = false := by
  constructor
  · intro h i
    rw [← Nat.testBit_and, h]
    exact Nat.zero_testBit i
  · intro h
    refine Nat.eq_of_testBit_eq (fun i => ?_)
    rw [Nat.testBit_and, h i]
    exact (Nat.zero_testBit i).symm
theorem tp_bit (l i : Nat) : (2 ^ l).testBit i = decide (l = i) := Nat.testBit_two_pow
/-- the parts of node k as bits -/
def lpN (op lf : Nat → Int) (k : Nat) : Nat := if op k = 3 then 0 else 2 ^ (lf k).toNat
def rpN (op rt : Nat → Int) (k : Nat) : Nat := if op k < 2 then 2 ^ (rt k).toNat else 0
theorem lp_bit {op lf : Nat → Int} {k : Nat} (h : op k ≠ 3 → 0 ≤ lf k) (i : Nat) : (lpN op lf k).testBit i = decide (op k ≠ 3 ∧ lf k = i) := by
  unfold lpN
  by_cases q : op k = 3
  · rw [if_pos q, Nat.zero_testBit]
    exact (decide_eq_false (fun z => z.1 q)).symm
  · rw [if_neg q, tp_bit]
    have := h q
    exact decide_eq_decide.mpr ⟨fun z => ⟨q, by omega⟩, fun z => by omega⟩
theorem rp_bit {op rt : Nat → Int} {k : Nat} (h : op k < 2 → 0 ≤ rt k) (i : Nat) : (rpN op rt k).testBit i = decide (op k < 2 ∧ rt k = i) := by
  unfold rpN
  by_cases q : op k < 2
  · rw [if_pos q, tp_bit]
    have := h q
    exact decide_eq_decide.mpr ⟨fun z => ⟨q, by omega⟩, fun z => by omega⟩
  · rw [if_neg q, Nat.zero_testBit]
    exact (decide_eq_false (fun z => q z.1)).symm
theorem lp_lt {op lf : Nat → Int} {k : Nat} (h : op k ≠ 3 → 0 ≤ lf k ∧ lf k < 20) : lpN op lf k < 2 ^ 20 := by
  unfold lpN
  split
  · decide
  · rename_i q
    have := h q
    exact Nat.pow_lt_pow_right (by decide) (by omega)
theorem rp_lt {op rt : Nat → Int} {k : Nat} (h : op k < 2 → 0 ≤ rt k ∧ rt k < 20) : rpN op rt k < 2 ^ 20 := by
  unfold rpN
  split
  · rename_i q
    have := h q
    exact Nat.pow_lt_pow_right (by decide) (by omega)
  · decide
theorem k_hasSharedNode (σ : Wd) (nc ac : Nat) (cp : Bool) (op lf rt : Nat → Int) (hn : nc ≤ 20) (hw : ∀ k, k < nc → wfN op lf rt ac k) (h1 : σ 1 = some (obF nc ac cp)) (h3 : σ 3 = some (AI 20 op)) (h4 : σ 4 = some (AI 20 lf)) (h5 : σ 5 = some (AI 20 rt)) : KX3_hasSharedNode [.ref 1] σ (Rt (some (.int (iI (bI (shB op lf rt nc))))) σ) NX := by
  refine Ct.intro (by decide) (Nat.le_of_ble_eq_true rfl) ?_
  obtain ⟨Q, hQ⟩ : ∃ Q, Q = Rt (some (.int (iI (bI (shB op lf rt nc))))) σ := ⟨_, rfl⟩
  rw [← hQ]
  have H : ∀ k : Nat, k ≤ nc → ∀ (U : Nat) (o3 o4 : Option Value), U < 2 ^ 20 → (∀ n, U.testBit n = decide (0 < ucN op lf rt n k)) → (∀ n, ucN op lf rt n k ≤ 1) → PX3_hasSharedNode Q NX 4 [some (.ref 1), some (.int (iI U)), some (.int (iI k)), o3, o4] [] σ 0 0 := by
    refine up_to nc ?_ ?_
    · intro U o3 o4 hU hb hle
      refine z_iload_n dX3_hasSharedNode_4 rfl ?_
      refine z_aload_n dX3_hasSharedNode_5 rfl ?_
      refine z_getf cls2 5 flX3_37 dX3_hasSharedNode_6 (by decide) (by first | exact h1 | rfl) rfl ?_
      refine i_icmp_ge (tgt := 99) dX3_hasSharedNode_9 (by decide) (by omega) (by omega) (fun h7 => ?_) (fun h7 => ?_)
      · skip
        refine i_iconst dX3_hasSharedNode_99 rfl ?_
        rw [hQ]
        exact i_rf dX3_hasSharedNode_100 rfl (by decide) (by decide) (shB_f (fun n _ => hle n)) rfl
      · skip
        omega
    · intro k hk ih U o3 o4 hU hb hle
      obtain ⟨w1, w2, w3, w4⟩ := hw k hk
      have lb := lp_bit (op := op) (lf := lf) (k := k) (fun q => (w3 q).1)
      have rb := rp_bit (op := op) (rt := rt) (k := k) (fun q => (w4 q).1)
      have ll := lp_lt (op := op) (lf := lf) (k := k) (fun q => by have := w3 q; omega)
      have rl := rp_lt (op := op) (rt := rt) (k := k) (fun q => by have := w4 q; omega)
      have olt : lpN op lf k ||| rpN op rt k < 2 ^ 20 := Nat.or_lt_two_pow ll rl
      have ult : U ||| (lpN op lf k ||| rpN op rt k) < 2 ^ 20 := Nat.or_lt_two_pow hU olt
      have al : U &&& (lpN op lf k ||| rpN op rt k) ≤ U := Nat.and_le_left
      have al2 : lpN op lf k &&& rpN op rt k ≤ lpN op lf k := Nat.and_le_left
      -- behind both parts
      have J : PX3_hasSharedNode Q NX 68 [some (.ref 1), some (.int (iI U)), some (.int (iI k)), some (.int (iI (lpN op lf k : Nat))), some (.int (iI (rpN op rt k : Nat)))] [] σ 0 0 := by
        refine z_iload_n dX3_hasSharedNode_68 rfl ?_
        refine z_iload_n dX3_hasSharedNode_69 rfl ?_
        refine z_iload dX3_hasSharedNode_70 rfl ?_
        refine z_ior dX3_hasSharedNode_72 ?_
        rw [ior_n]
        refine z_iand dX3_hasSharedNode_73 ?_
        rw [iand_n]
        have twice : ∀ n, 2 ≤ ucN op lf rt n (k + 1) → n < nc → PX3_hasSharedNode Q NX 84 [some (.ref 1), some (.int (iI U)), some (.int (iI k)), some (.int (iI (lpN op lf k : Nat))), some (.int (iI (rpN op rt k : Nat)))] [] σ 0 0 := by
          intro n hn2 hnn
          refine i_iconst dX3_hasSharedNode_84 rfl ?_
          rw [hQ]
          exact i_rt dX3_hasSharedNode_85 rfl (by decide) (by decide) (shB_t hnn (Nat.le_trans hn2 (uc_mono op lf rt n (k + 1) nc (by omega)))) rfl
        refine i_if_ne (tgt := 84) dX3_hasSharedNode_74 (by decide) (by omega) (fun h8 => ?_) (fun h8 => ?_)
        · skip
          have : ¬ ∀ i, (U.testBit i && (lpN op lf k ||| rpN op rt k).testBit i) = false := fun q => h8 (by rw [and_0.mpr q]; rfl)
          obtain ⟨n, hn9⟩ := Classical.not_forall.mp this
          rw [Bool.not_eq_false, Bool.and_eq_true, Nat.testBit_or, hb n, lb n, rb n, Bool.or_eq_true, decide_eq_true_iff, decide_eq_true_iff, decide_eq_true_iff] at hn9
          have e9 := uc_s op lf rt n k
          rcases hn9 with ⟨q1, q2 | q2⟩
          · rw [if_pos q2] at e9
            have := w3 q2.1
            exact twice n (by omega) (by omega)
          · rw [if_pos q2] at e9
            have := w4 q2.1
            exact twice n (by omega) (by omega)
        · skip
          have h8 : U &&& (lpN op lf k ||| rpN op rt k) = 0 := by omega
          have h8 := and_0.mp h8
          refine z_iload_n dX3_hasSharedNode_77 rfl ?_
          refine z_iload dX3_hasSharedNode_78 rfl ?_
          refine z_iand dX3_hasSharedNode_80 ?_
          rw [iand_n]
          refine i_if_eq (tgt := 86) dX3_hasSharedNode_81 (by decide) (by omega) (fun h9 => ?_) (fun h9 => ?_)
          · skip
            have h9 : lpN op lf k &&& rpN op rt k = 0 := by omega
            have h9 := and_0.mp h9
            refine z_iload_n dX3_hasSharedNode_86 rfl ?_
            refine z_iload_n dX3_hasSharedNode_87 rfl ?_
            refine z_iload dX3_hasSharedNode_88 rfl ?_
            refine z_ior dX3_hasSharedNode_90 ?_
            rw [ior_n]
            refine z_ior dX3_hasSharedNode_91 ?_
            rw [ior_n]
            refine z_istore_n dX3_hasSharedNode_92 (by decide) ?_
            refine i_iinc dX3_hasSharedNode_93 rfl (by decide) ?_
            refine z_goto (tgt := 4) dX3_hasSharedNode_96 (by decide) ?_
            refine ih _ _ _ ult (fun n => ?_) (fun n => ?_)
            · rw [Nat.testBit_or, Nat.testBit_or, hb n, lb n, rb n, uc_s, ← Bool.decide_or, ← Bool.decide_or]
              refine decide_eq_decide.mpr ?_
              by_cases q1 : op k ≠ 3 ∧ lf k = (n : Int)
              · rw [if_pos q1]
                exact ⟨fun _ => by omega, fun _ => Or.inr (Or.inl q1)⟩
              · rw [if_neg q1]
                by_cases q2 : op k < 2 ∧ rt k = (n : Int)
                · rw [if_pos q2]
                  exact ⟨fun _ => by omega, fun _ => Or.inr (Or.inr q2)⟩
                · rw [if_neg q2]
                  exact ⟨fun z => z.elim (fun z => by omega) (fun z => z.elim (fun z => absurd z q1) (fun z => absurd z q2)), fun z => Or.inl (by omega)⟩
            · have a1 := h8 n
              have a2 := h9 n
              have a3 := hle n
              rw [Nat.testBit_or, hb n, lb n, rb n] at a1
              rw [lb n, rb n] at a2
              rw [uc_s]
              by_cases q1 : op k ≠ 3 ∧ lf k = (n : Int)
              · rw [decide_eq_true q1] at a1 a2
                rw [Bool.true_or, Bool.and_true] at a1
                rw [Bool.true_and] at a2
                have := of_decide_eq_false a1
                have := of_decide_eq_false a2
                rw [if_pos q1, if_neg this]
                omega
              · rw [decide_eq_false q1, Bool.false_or] at a1
                rw [if_neg q1]
                by_cases q2 : op k < 2 ∧ rt k = (n : Int)
                · rw [decide_eq_true q2, Bool.and_true] at a1
                  have := of_decide_eq_false a1
                  rw [if_pos q2]
                  omega
                · rw [if_neg q2]; omega
          · skip
            have : ¬ ∀ i, ((lpN op lf k).testBit i && (rpN op rt k).testBit i) = false := fun q => h9 (by rw [and_0.mpr q]; rfl)
            obtain ⟨n, hn9⟩ := Classical.not_forall.mp this
            rw [Bool.not_eq_false, Bool.and_eq_true, lb n, rb n, decide_eq_true_iff, decide_eq_true_iff] at hn9
            have e9 := uc_s op lf rt n k
            rw [if_pos hn9.1, if_pos hn9.2] at e9
            have := w4 hn9.2.1
            exact twice n (by omega) (by omega)
      have J2 : PX3_hasSharedNode Q NX 34 [some (.ref 1), some (.int (iI U)), some (.int (iI k)), o3, o4] [.int (iI (lpN op lf k : Nat))] σ 0 0 := by
        refine z_istore_n dX3_hasSharedNode_34 (by decide) ?_
        refine z_aload_n dX3_hasSharedNode_35 rfl ?_
        refine z_getf cls2 1 flX3_15 dX3_hasSharedNode_36 (by decide) (by first | exact h1 | rfl) rfl ?_
        refine z_iload_n dX3_hasSharedNode_39 rfl ?_
        refine i_iald dX3_hasSharedNode_40 (by first | exact h3 | rfl) k (by omega) (by omega) ?_
        have Jr : op k < 2 → PX3_hasSharedNode Q NX 54 [some (.ref 1), some (.int (iI U)), some (.int (iI k)), some (.int (iI (lpN op lf k : Nat))), o4] [] σ 0 0 := by
          intro hop
          obtain ⟨r, hr⟩ := Int.eq_ofNat_of_zero_le (w4 hop).1
          have := w4 hop
          have e9 : rpN op rt k = 2 ^ r := by unfold rpN; rw [if_pos hop, hr]; rfl
          refine i_iconst dX3_hasSharedNode_54 rfl ?_
          refine z_aload_n dX3_hasSharedNode_55 rfl ?_
          refine z_getf cls2 3 flX3_21 dX3_hasSharedNode_56 (by decide) (by first | exact h1 | rfl) rfl ?_
          refine z_iload_n dX3_hasSharedNode_59 rfl ?_
          refine i_iald dX3_hasSharedNode_60 (by first | exact h5 | rfl) k (by omega) (by omega) ?_
          rw [hr]
          refine z_ishl dX3_hasSharedNode_61 ?_
          rw [sh_1 r (by omega), ← e9]
          refine z_goto (tgt := 66) dX3_hasSharedNode_62 (by decide) ?_
          refine z_istore dX3_hasSharedNode_66 (by decide) ?_
          exact J
        refine i_if_eq (tgt := 54) dX3_hasSharedNode_41 (by decide) (by omega) (fun h8 => ?_) (fun h8 => ?_)
        · skip
          exact Jr (by omega)
        · skip
          refine z_aload_n dX3_hasSharedNode_44 rfl ?_
          refine z_getf cls2 1 flX3_15 dX3_hasSharedNode_45 (by decide) (by first | exact h1 | rfl) rfl ?_
          refine z_iload_n dX3_hasSharedNode_48 rfl ?_
          refine i_iald dX3_hasSharedNode_49 (by first | exact h3 | rfl) k (by omega) (by omega) ?_
          refine i_iconst dX3_hasSharedNode_50 rfl ?_
          refine i_icmp_ne (tgt := 65) dX3_hasSharedNode_51 (by decide) (by omega) (by omega) (fun h9 => ?_) (fun h9 => ?_)
          · skip
            refine i_iconst dX3_hasSharedNode_65 rfl ?_
            have e9 : rpN op rt k = 0 := by unfold rpN; rw [if_neg (by omega)]
            rw [show (0 : Int) = ((rpN op rt k : Nat) : Int) by rw [e9]; rfl]
            refine z_istore dX3_hasSharedNode_66 (by decide) ?_
            exact J
          · skip
            exact Jr (by omega)
      refine z_iload_n dX3_hasSharedNode_4 rfl ?_
      refine z_aload_n dX3_hasSharedNode_5 rfl ?_
      refine z_getf cls2 5 flX3_37 dX3_hasSharedNode_6 (by decide) (by first | exact h1 | rfl) rfl ?_
      refine i_icmp_ge (tgt := 99) dX3_hasSharedNode_9 (by decide) (by omega) (by omega) (fun h7 => ?_) (fun h7 => ?_)
      · skip
        omega
      · skip
        refine z_aload_n dX3_hasSharedNode_12 rfl ?_
        refine z_getf cls2 1 flX3_15 dX3_hasSharedNode_13 (by decide) (by first | exact h1 | rfl) rfl ?_
        refine z_iload_n dX3_hasSharedNode_16 rfl ?_
        refine i_iald dX3_hasSharedNode_17 (by first | exact h3 | rfl) k (by omega) (by omega) ?_
        refine i_iconst dX3_hasSharedNode_18 rfl ?_
        refine i_icmp_ne (tgt := 26) dX3_hasSharedNode_19 (by decide) (by omega) (by omega) (fun h8 => ?_) (fun h8 => ?_)
        · skip
          obtain ⟨l, hl⟩ := Int.eq_ofNat_of_zero_le (w3 h8).1
          have := w3 h8
          have e9 : lpN op lf k = 2 ^ l := by unfold lpN; rw [if_neg h8, hl]; rfl
          refine i_iconst dX3_hasSharedNode_26 rfl ?_
          refine z_aload_n dX3_hasSharedNode_27 rfl ?_
          refine z_getf cls2 2 flX3_18 dX3_hasSharedNode_28 (by decide) (by first | exact h1 | rfl) rfl ?_
          refine z_iload_n dX3_hasSharedNode_31 rfl ?_
          refine i_iald dX3_hasSharedNode_32 (by first | exact h4 | rfl) k (by omega) (by omega) ?_
          rw [hl]
          refine z_ishl dX3_hasSharedNode_33 ?_
          rw [sh_1 l (by omega), ← e9]
          exact J2
        · skip
          refine i_iconst dX3_hasSharedNode_22 rfl ?_
          refine z_goto (tgt := 34) dX3_hasSharedNode_23 (by decide) ?_
          have e9 : lpN op lf k = 0 := by unfold lpN; rw [if_pos h8]
          rw [show (0 : Int) = ((lpN op lf k : Nat) : Int) by rw [e9]; rfl]
          exact J2
  refine i_iconst dX3_hasSharedNode_0 rfl ?_
  refine z_istore_n dX3_hasSharedNode_1 (by decide) ?_
  refine i_iconst dX3_hasSharedNode_2 rfl ?_
  refine z_istore_n dX3_hasSharedNode_3 (by decide) ?_
  exact H 0 (by omega) 0 none none (by decide) (fun n => by rw [Nat.zero_testBit]; rfl) (fun n => Nat.zero_le _)

