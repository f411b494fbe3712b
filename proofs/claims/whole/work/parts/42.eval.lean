/-! BITS: a row of Bools as a number -/
def bs (t : Nat → Bool) : Nat → Nat
  | 0 => 0
  | k + 1 => bs t k + (bif t k then 2 ^ k else 0)
theorem bs_lt (t : Nat → Bool) : ∀ k, bs t k < 2 ^ k
  | 0 => Nat.one_pos
  | k + 1 => by
    have := bs_lt t k
    show bs t k + _ < 2 ^ (k + 1)
    rw [Nat.pow_succ]
    cases t k <;> simp <;> omega
theorem bs_congr {t u : Nat → Bool} : ∀ k, (∀ i, i < k → t i = u i) → bs t k = bs u k
  | 0, _ => rfl
  | k + 1, h => by
    show bs t k + _ = bs u k + _
    rw [bs_congr k (fun i hi => h i (by omega)), h k (by omega)]
theorem bs_bit (t : Nat → Bool) : ∀ k i, i < k → bs t k / 2 ^ i % 2 = bif t i then 1 else 0
  | 0, i, h => absurd h (Nat.not_lt_zero i)
  | k + 1, i, h => by
    have hl := bs_lt t k
    show (bs t k + (bif t k then 2 ^ k else 0)) / 2 ^ i % 2 = _
    by_cases q : i = k
    · subst q
      cases t i with
      | true =>
        show (bs t i + 2 ^ i) / 2 ^ i % 2 = 1
        rw [Nat.add_div_right _ (Nat.two_pow_pos i), Nat.div_eq_of_lt hl]
      | false =>
        show (bs t i + 0) / 2 ^ i % 2 = 0
        rw [Nat.add_zero, Nat.div_eq_of_lt hl]
    · have ih := bs_bit t k i (by omega)
      cases t k with
      | true =>
        show (bs t k + 2 ^ k) / 2 ^ i % 2 = _
        have e : 2 ^ k = 2 ^ i * (2 * 2 ^ (k - i - 1)) := by
          rw [← Nat.pow_succ', ← Nat.pow_add]
          congr 1
          omega
        rw [e, Nat.add_mul_div_left _ _ (Nat.two_pow_pos i), Nat.add_mul_mod_self_left]
        exact ih
      | false =>
        show (bs t k + 0) / 2 ^ i % 2 = _
        rw [Nat.add_zero]
        exact ih
theorem sh_n : ∀ i : Nat, i < 31 → ((iI (i : Int) &&& 31).toBitVec.smod 32).toNat = i := by decide +kernel
theorem i_bit {N i : Nat} (hN : N < 2 ^ 30) (hi : i < 31) : (iI (N : Int) >>> (iI (i : Int) &&& 31)) &&& iI 1 = iI ((N / 2 ^ i % 2 : Nat) : Int) := by
  rw [iI_nat, iI_nat, pk_shrN (by omega) _ i (by rw [← iI_nat]; exact sh_n i hi)]
  have hle : N / 2 ^ i ≤ N := Nat.div_le_self _ _
  rw [show iI 1 = (1 : Int32) from rfl, pk_andN (by omega) 1 (by decide), iI_nat]
theorem bs_i {t : Nat → Bool} {k i : Nat} (hk : k ≤ 20) (hi : i < k) : (iI ((bs t k : Nat) : Int) >>> (iI (i : Int) &&& 31)) &&& iI 1 = iI (bI (t i)) := by
  have hl := bs_lt t k
  have hp : 2 ^ k ≤ 2 ^ 20 := Nat.pow_le_pow_right (by decide) hk
  rw [i_bit (by omega) (by omega), bs_bit t k i hi]
  cases t i <;> rfl
theorem sh_b : ∀ i : Nat, i < 20 → ∀ b : Bool, iI (bI b) <<< (iI (i : Int) &&& 31) = iI ((bif b then 2 ^ i else 0 : Nat) : Int) := by decide +kernel
theorem or_n {N i : Nat} (b : Bool) (hN : N < 2 ^ i) (hi : i < 20) : iI (N : Int) ||| iI ((bif b then 2 ^ i else 0 : Nat) : Int) = iI ((N + (bif b then 2 ^ i else 0) : Nat) : Int) := by
  rw [iI_nat, iI_nat, iI_nat, ← Int32.toBitVec_inj, Int32.toBitVec_or]
  show BitVec.ofNat 32 N ||| BitVec.ofNat 32 (bif b then 2 ^ i else 0) = BitVec.ofNat 32 _
  rw [← BitVec.ofNat_or]
  congr 1
  cases b with
  | true =>
    show N ||| 2 ^ i = N + 2 ^ i
    rw [Nat.or_comm, show 2 ^ i = 1 <<< i by rw [Nat.shiftLeft_eq, Nat.one_mul], ← Nat.shiftLeft_add_eq_or_of_lt hN, Nat.add_comm]
  | false => show N ||| 0 = N + 0; simp
theorem bs_or {t : Nat → Bool} {k : Nat} {b : Bool} (hk : k < 20) (hb : t k = b) : iI ((bs t k : Nat) : Int) ||| (iI (bI b) <<< (iI (k : Int) &&& 31)) = iI ((bs t (k + 1) : Nat) : Int) := by
  rw [sh_b k hk b, or_n b (bs_lt t k) hk]
  show _ = iI ((bs t k + (bif t k then 2 ^ k else 0) : Nat) : Int)
  rw [hb]
/-! THE FORMULA's TRUTH -/
def ndT (op lf rt : Nat → Int) (at' t : Nat → Bool) (k : Nat) : Bool := if op k = 3 then at' (lf k).toNat else if op k = 0 then t (lf k).toNat && t (rt k).toNat else if op k = 1 then t (lf k).toNat || t (rt k).toNat else !(t (lf k).toNat)
def evN (op lf rt : Nat → Int) (at' : Nat → Bool) : Nat → Nat → Bool
  | 0 => fun _ => false
  | k + 1 => va_up (evN op lf rt at' k) k (ndT op lf rt at' (evN op lf rt at' k) k)
def fml (op lf rt : Nat → Int) (at' : Nat → Bool) (nc : Nat) : Bool := evN op lf rt at' nc (nc - 1)
def wfN (op lf rt : Nat → Int) (ac k : Nat) : Prop := (0 ≤ op k ∧ op k ≤ 3) ∧ (op k = 3 → 0 ≤ lf k ∧ lf k < ac) ∧ (op k ≠ 3 → 0 ≤ lf k ∧ lf k < k) ∧ (op k < 2 → 0 ≤ rt k ∧ rt k < k)
theorem k_bit (σ : Wd) (t : Nat → Bool) (k i : Nat) (hk : k ≤ 20) (hi : i < k) : KX3_bit [.int (iI (bs t k : Nat)), .int (iI i)] σ (Rt (some (.int (iI (bI (t i))))) σ) NX := by
  refine Ct.intro (by decide) (Nat.le_of_ble_eq_true rfl) ?_
  refine z_iload_n dX3_bit_0 rfl ?_
  refine z_iload_n dX3_bit_1 rfl ?_
  refine z_ishr dX3_bit_2 ?_
  refine i_iconst dX3_bit_3 rfl ?_
  refine z_iand dX3_bit_4 ?_
  refine z_eqi _ (bs_i hk hi) ?_
  exact i_iret dX3_bit_5 rfl (by decide) (by decide) rfl
theorem bI_and : ∀ a b : Bool, iI (bI a) &&& iI (bI b) = iI (bI (a && b)) := by decide +kernel
theorem bI_or : ∀ a b : Bool, iI (bI a) ||| iI (bI b) = iI (bI (a || b)) := by decide +kernel
theorem bI_not (b : Bool) : 1 - bI b = bI (!b) := by cases b <;> decide
theorem k_nodeTruth (σ : Wd) (nc ac : Nat) (cp : Bool) (op lf rt : Nat → Int) (at' t : Nat → Bool) (k : Nat) (hk : k < 20) (hac : ac ≤ 5) (hw : wfN op lf rt ac k) (h1 : σ 1 = some (obF nc ac cp)) (h3 : σ 3 = some (AI 20 op)) (h4 : σ 4 = some (AI 20 lf)) (h5 : σ 5 = some (AI 20 rt)) : KX3_nodeTruth [.ref 1, .int (iI k), .int (iI (bs at' ac : Nat)), .int (iI (bs t k : Nat))] σ (Rt (some (.int (iI (bI (ndT op lf rt at' t k))))) σ) NX := by
  refine Ct.intro (by decide) (Nat.le_of_ble_eq_true rfl) ?_
  unfold ndT
  obtain ⟨w1, w2, w3, w4⟩ := hw
  refine z_aload_n dX3_nodeTruth_0 rfl ?_
  refine z_getf cls2 1 flX3_15 dX3_nodeTruth_1 (by decide) (by first | exact h1 | rfl) rfl ?_
  refine z_iload_n dX3_nodeTruth_4 rfl ?_
  refine i_iald dX3_nodeTruth_5 (by first | exact h3 | rfl) k (by omega) (by omega) ?_
  have c : op k = 0 ∨ op k = 1 ∨ op k = 2 ∨ op k = 3 := by omega
  rcases c with c | c | c | c
  · rw [if_neg (by omega), if_pos c, c]
    obtain ⟨l, hl⟩ := Int.eq_ofNat_of_zero_le (w3 (by omega)).1
    obtain ⟨r, hr⟩ := Int.eq_ofNat_of_zero_le (w4 (by omega)).1
    have := w3 (by omega)
    have := w4 (by omega)
    refine z_tableIn (tgt := 47) (off := 41) dX3_nodeTruth_6 (by decide) (by decide) (by decide) (by decide) ?_
    refine z_iload_n dX3_nodeTruth_47 rfl ?_
    refine z_aload_n dX3_nodeTruth_48 rfl ?_
    refine z_getf cls2 2 flX3_18 dX3_nodeTruth_49 (by decide) (by first | exact h1 | rfl) rfl ?_
    refine z_iload_n dX3_nodeTruth_52 rfl ?_
    refine i_iald dX3_nodeTruth_53 (by first | exact h4 | rfl) k (by omega) (by omega) ?_
    rw [hl]
    refine i_cSr (k_bit σ t k l (by omega) (by omega)) mX3_99 dX3_nodeTruth_54 rfl rfl ⟨by decide, by decide⟩ (Nat.le_of_ble_eq_true rfl) ⟨by decide, by decide⟩ ?_
    refine z_iload_n dX3_nodeTruth_57 rfl ?_
    refine z_aload_n dX3_nodeTruth_58 rfl ?_
    refine z_getf cls2 3 flX3_21 dX3_nodeTruth_59 (by decide) (by first | exact h1 | rfl) rfl ?_
    refine z_iload_n dX3_nodeTruth_62 rfl ?_
    refine i_iald dX3_nodeTruth_63 (by first | exact h5 | rfl) k (by omega) (by omega) ?_
    rw [hr]
    refine i_cSr (k_bit σ t k r (by omega) (by omega)) mX3_99 dX3_nodeTruth_64 rfl rfl ⟨by decide, by decide⟩ (Nat.le_of_ble_eq_true rfl) ⟨by decide, by decide⟩ ?_
    refine z_iand dX3_nodeTruth_67 ?_
    refine z_eqi _ (bI_and _ _) ?_
    exact i_iret dX3_nodeTruth_68 rfl (by decide) (by decide) rfl
  · rw [if_neg (by omega), if_neg (by omega), if_pos c, c]
    obtain ⟨l, hl⟩ := Int.eq_ofNat_of_zero_le (w3 (by omega)).1
    obtain ⟨r, hr⟩ := Int.eq_ofNat_of_zero_le (w4 (by omega)).1
    have := w3 (by omega)
    have := w4 (by omega)
    refine z_tableIn (tgt := 69) (off := 63) dX3_nodeTruth_6 (by decide) (by decide) (by decide) (by decide) ?_
    refine z_iload_n dX3_nodeTruth_69 rfl ?_
    refine z_aload_n dX3_nodeTruth_70 rfl ?_
    refine z_getf cls2 2 flX3_18 dX3_nodeTruth_71 (by decide) (by first | exact h1 | rfl) rfl ?_
    refine z_iload_n dX3_nodeTruth_74 rfl ?_
    refine i_iald dX3_nodeTruth_75 (by first | exact h4 | rfl) k (by omega) (by omega) ?_
    rw [hl]
    refine i_cSr (k_bit σ t k l (by omega) (by omega)) mX3_99 dX3_nodeTruth_76 rfl rfl ⟨by decide, by decide⟩ (Nat.le_of_ble_eq_true rfl) ⟨by decide, by decide⟩ ?_
    refine z_iload_n dX3_nodeTruth_79 rfl ?_
    refine z_aload_n dX3_nodeTruth_80 rfl ?_
    refine z_getf cls2 3 flX3_21 dX3_nodeTruth_81 (by decide) (by first | exact h1 | rfl) rfl ?_
    refine z_iload_n dX3_nodeTruth_84 rfl ?_
    refine i_iald dX3_nodeTruth_85 (by first | exact h5 | rfl) k (by omega) (by omega) ?_
    rw [hr]
    refine i_cSr (k_bit σ t k r (by omega) (by omega)) mX3_99 dX3_nodeTruth_86 rfl rfl ⟨by decide, by decide⟩ (Nat.le_of_ble_eq_true rfl) ⟨by decide, by decide⟩ ?_
    refine z_ior dX3_nodeTruth_89 ?_
    refine z_eqi _ (bI_or _ _) ?_
    exact i_iret dX3_nodeTruth_90 rfl (by decide) (by decide) rfl
  · rw [if_neg (by omega), if_neg (by omega), if_neg (by omega), c]
    obtain ⟨l, hl⟩ := Int.eq_ofNat_of_zero_le (w3 (by omega)).1
    have := w3 (by omega)
    refine z_tableIn (tgt := 91) (off := 85) dX3_nodeTruth_6 (by decide) (by decide) (by decide) (by decide) ?_
    refine i_iconst dX3_nodeTruth_91 rfl ?_
    refine z_iload_n dX3_nodeTruth_92 rfl ?_
    refine z_aload_n dX3_nodeTruth_93 rfl ?_
    refine z_getf cls2 2 flX3_18 dX3_nodeTruth_94 (by decide) (by first | exact h1 | rfl) rfl ?_
    refine z_iload_n dX3_nodeTruth_97 rfl ?_
    refine i_iald dX3_nodeTruth_98 (by first | exact h4 | rfl) k (by omega) (by omega) ?_
    rw [hl]
    refine i_cSr (k_bit σ t k l (by omega) (by omega)) mX3_99 dX3_nodeTruth_99 rfl rfl ⟨by decide, by decide⟩ (Nat.le_of_ble_eq_true rfl) ⟨by decide, by decide⟩ ?_
    refine i_isub dX3_nodeTruth_102 ?_
    rw [bI_not]
    exact i_iret dX3_nodeTruth_103 rfl (by decide) (by decide) rfl
  · rw [if_pos c, c]
    obtain ⟨l, hl⟩ := Int.eq_ofNat_of_zero_le (w2 c).1
    have := w2 c
    refine z_tableIn (tgt := 36) (off := 30) dX3_nodeTruth_6 (by decide) (by decide) (by decide) (by decide) ?_
    refine z_iload_n dX3_nodeTruth_36 rfl ?_
    refine z_aload_n dX3_nodeTruth_37 rfl ?_
    refine z_getf cls2 2 flX3_18 dX3_nodeTruth_38 (by decide) (by first | exact h1 | rfl) rfl ?_
    refine z_iload_n dX3_nodeTruth_41 rfl ?_
    refine i_iald dX3_nodeTruth_42 (by first | exact h4 | rfl) k (by omega) (by omega) ?_
    rw [hl]
    refine i_cSr (k_bit σ at' ac l (by omega) (by omega)) mX3_99 dX3_nodeTruth_43 rfl rfl ⟨by decide, by decide⟩ (Nat.le_of_ble_eq_true rfl) ⟨by decide, by decide⟩ ?_
    exact i_iret dX3_nodeTruth_46 rfl (by decide) (by decide) rfl
theorem ev_s (op lf rt : Nat → Int) (at' : Nat → Bool) (k : Nat) : bs (evN op lf rt at' (k + 1)) k = bs (evN op lf rt at' k) k := bs_congr k (fun i hi => va_up_ne _ _ (by omega))
theorem k_evaluate (σ : Wd) (nc ac : Nat) (cp : Bool) (op lf rt : Nat → Int) (at' : Nat → Bool) (hn : 0 < nc ∧ nc ≤ 20) (hac : ac ≤ 5) (hw : ∀ k, k < nc → wfN op lf rt ac k) (h1 : σ 1 = some (obF nc ac cp)) (h3 : σ 3 = some (AI 20 op)) (h4 : σ 4 = some (AI 20 lf)) (h5 : σ 5 = some (AI 20 rt)) : KX3_evaluate [.ref 1, .int (iI (bs at' ac : Nat))] σ (Rt (some (.int (iI (bI (fml op lf rt at' nc))))) σ) NX := by
  refine Ct.intro (by decide) (Nat.le_of_ble_eq_true rfl) ?_
  have H : ∀ k : Nat, k ≤ nc → PX3_evaluate (Rt (some (.int (iI (bI (fml op lf rt at' nc))))) σ) NX 4 [some (.ref 1), some (.int (iI (bs at' ac : Nat))), some (.int (iI (bs (evN op lf rt at' k) k : Nat))), some (.int (iI k))] [] σ 0 0 := by
    refine up_to nc ?_ ?_
    · skip
      refine z_iload_n dX3_evaluate_4 rfl ?_
      refine z_aload_n dX3_evaluate_5 rfl ?_
      refine z_getf cls2 5 flX3_37 dX3_evaluate_6 (by decide) (by first | exact h1 | rfl) rfl ?_
      refine i_icmp_ge (tgt := 30) dX3_evaluate_9 (by decide) (by omega) (by omega) (fun h6 => ?_) (fun h6 => ?_)
      · skip
        refine z_aload_n dX3_evaluate_30 rfl ?_
        refine z_getf cls2 5 flX3_37 dX3_evaluate_31 (by decide) (by first | exact h1 | rfl) rfl ?_
        refine i_if_le (tgt := 55) dX3_evaluate_34 (by decide) (by omega) (fun h7 => ?_) (fun h7 => ?_)
        · skip
          omega
        · skip
          refine z_iload_n dX3_evaluate_37 rfl ?_
          refine z_aload_n dX3_evaluate_38 rfl ?_
          refine z_getf cls2 5 flX3_37 dX3_evaluate_39 (by decide) (by first | exact h1 | rfl) rfl ?_
          refine i_iconst dX3_evaluate_42 rfl ?_
          refine i_isub dX3_evaluate_43 ?_
          rw [show ((nc : Nat) : Int) - 1 = ((nc - 1 : Nat) : Int) by omega]
          refine i_cSr (k_bit σ (evN op lf rt at' nc) nc (nc - 1) hn.2 (by omega)) mX3_99 dX3_evaluate_44 rfl rfl ⟨by decide, by decide⟩ (Nat.le_of_ble_eq_true rfl) ⟨by decide, by decide⟩ ?_
          refine i_iconst dX3_evaluate_47 rfl ?_
          have hb := bI_r (evN op lf rt at' nc (nc - 1))
          refine i_icmp_ne (tgt := 55) dX3_evaluate_48 (by decide) (by omega) (by omega) (fun h8 => ?_) (fun h8 => ?_)
          · skip
            refine i_iconst dX3_evaluate_55 rfl ?_
            exact i_rf dX3_evaluate_56 rfl (by decide) (by decide) (bI_0.mp (show bI (evN op lf rt at' nc (nc - 1)) = 0 by omega)) rfl
          · skip
            refine i_iconst dX3_evaluate_51 rfl ?_
            refine z_goto (tgt := 56) dX3_evaluate_52 (by decide) ?_
            exact i_rt dX3_evaluate_56 rfl (by decide) (by decide) (bI_1.mp h8) rfl
      · skip
        omega
    · intro k hk ih
      refine z_iload_n dX3_evaluate_4 rfl ?_
      refine z_aload_n dX3_evaluate_5 rfl ?_
      refine z_getf cls2 5 flX3_37 dX3_evaluate_6 (by decide) (by first | exact h1 | rfl) rfl ?_
      refine i_icmp_ge (tgt := 30) dX3_evaluate_9 (by decide) (by omega) (by omega) (fun h6 => ?_) (fun h6 => ?_)
      · skip
        omega
      · skip
        refine z_iload_n dX3_evaluate_12 rfl ?_
        refine z_aload_n dX3_evaluate_13 rfl ?_
        refine z_iload_n dX3_evaluate_14 rfl ?_
        refine z_iload_n dX3_evaluate_15 rfl ?_
        refine z_iload_n dX3_evaluate_16 rfl ?_
        refine i_cVr (k_nodeTruth σ nc ac cp op lf rt at' (evN op lf rt at' k) k (by omega) hac (hw k hk) h1 h3 h4 h5) mX3_96 dX3_evaluate_17 (by first | exact h1 | rfl) rfl rfl rfl ⟨by decide, by decide⟩ (Nat.le_of_ble_eq_true rfl) ⟨by decide, by decide⟩ ?_
        refine z_iload_n dX3_evaluate_20 rfl ?_
        refine z_ishl dX3_evaluate_21 ?_
        refine z_ior dX3_evaluate_22 ?_
        rw [← ev_s op lf rt at' k]
        refine z_eqi _ (bs_or (t := evN op lf rt at' (k + 1)) (by omega) (va_up_self _ _ _)) ?_
        refine z_istore_n dX3_evaluate_23 (by decide) ?_
        refine i_iinc dX3_evaluate_24 rfl (by decide) ?_
        refine z_goto (tgt := 4) dX3_evaluate_27 (by decide) ?_
        exact ih
  refine i_iconst dX3_evaluate_0 rfl ?_
  refine z_istore_n dX3_evaluate_1 (by decide) ?_
  refine i_iconst dX3_evaluate_2 rfl ?_
  refine z_istore_n dX3_evaluate_3 (by decide) ?_
  exact H 0 (by omega)

