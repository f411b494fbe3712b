/-! DIGITS: n numbers below 256 in one -/
def dg (c : Nat → Nat) : Nat → Nat
  | 0 => 0
  | k + 1 => dg c k + c k * 256 ^ k
theorem p256 (k : Nat) : 0 < 256 ^ k := Nat.pow_pos (by decide)
theorem dg_lt {c : Nat → Nat} : ∀ n, (∀ a, a < n → c a < 256) → dg c n < 256 ^ n
  | 0, _ => Nat.one_pos
  | n + 1, h => by
    have ih := dg_lt n (fun a ha => h a (by omega))
    have hc := h n (by omega)
    show dg c n + c n * 256 ^ n < 256 ^ (n + 1)
    have h1 : c n * 256 ^ n ≤ 255 * 256 ^ n := Nat.mul_le_mul_right _ (by omega)
    rw [Nat.pow_succ]
    omega
theorem dg_congr {c d : Nat → Nat} : ∀ n, (∀ a, a < n → c a = d a) → dg c n = dg d n
  | 0, _ => rfl
  | n + 1, h => by
    show dg c n + _ = dg d n + _
    rw [dg_congr n (fun a ha => h a (by omega)), h n (by omega)]
theorem dg_dig {c : Nat → Nat} : ∀ n a, (∀ a, a < n → c a < 256) → a < n → dg c n / 256 ^ a % 256 = c a
  | 0, a, _, ha => absurd ha (Nat.not_lt_zero a)
  | n + 1, a, h, ha => by
    have hl := dg_lt n (fun a ha => h a (by omega))
    show (dg c n + c n * 256 ^ n) / 256 ^ a % 256 = c a
    by_cases q : a = n
    · subst q
      rw [Nat.add_mul_div_right _ _ (p256 a), Nat.div_eq_of_lt hl, Nat.zero_add]
      exact Nat.mod_eq_of_lt (h a (by omega))
    · have e : c n * 256 ^ n = 256 ^ a * (256 * (c n * 256 ^ (n - a - 1))) := by
        rw [← Nat.mul_assoc, ← Nat.pow_succ, Nat.mul_left_comm, ← Nat.pow_add]
        congr 2
        omega
      rw [e, Nat.add_mul_div_left _ _ (p256 a), Nat.add_mul_mod_self_left]
      exact dg_dig n a (fun a ha => h a (by omega)) (by omega)
theorem dg_inj {c d : Nat → Nat} {n : Nat} (hc : ∀ a, a < n → c a < 256) (hd : ∀ a, a < n → d a < 256) (e : dg c n = dg d n) : ∀ a, a < n → c a = d a := fun a ha => by
  have h1 := dg_dig n a hc ha
  rw [e, dg_dig n a hd ha] at h1
  exact h1.symm
theorem dg_lex {c d c' d' : Nat → Nat} : ∀ n, (∀ a, a < n → c a < 256) → (∀ a, a < n → d a < 256) → (∀ a, a < n → c' a < 256) → (∀ a, a < n → d' a < 256) → (∀ a, a < n → (c a < d a ↔ c' a < d' a) ∧ (d a < c a ↔ d' a < c' a)) → (dg c n < dg d n ↔ dg c' n < dg d' n)
  | 0, _, _, _, _, _ => Iff.rfl
  | n + 1, h1, h2, h3, h4, h => by
    have ih := dg_lex n (fun a ha => h1 a (by omega)) (fun a ha => h2 a (by omega)) (fun a ha => h3 a (by omega)) (fun a ha => h4 a (by omega)) (fun a ha => h a (by omega))
    have l1 := dg_lt n (fun a ha => h1 a (by omega))
    have l2 := dg_lt n (fun a ha => h2 a (by omega))
    have l3 := dg_lt n (fun a ha => h3 a (by omega))
    have l4 := dg_lt n (fun a ha => h4 a (by omega))
    have hn := h n (by omega)
    have key : ∀ (p q x y N : Nat), p < N → q < N → x < y → p + x * N < q + y * N := fun p q x y N hp hq hxy => by
      have : (x + 1) * N ≤ y * N := Nat.mul_le_mul_right _ hxy
      rw [Nat.add_mul] at this
      omega
    show dg c n + c n * 256 ^ n < dg d n + d n * 256 ^ n ↔ dg c' n + c' n * 256 ^ n < dg d' n + d' n * 256 ^ n
    rcases Nat.lt_trichotomy (c n) (d n) with q | q | q
    · have a1 := key _ _ _ _ _ l1 l2 q
      have a2 := key _ _ _ _ _ l3 l4 (hn.1.mp q)
      exact ⟨fun _ => a2, fun _ => a1⟩
    · have e' : c' n = d' n := by
        have x1 : ¬ c' n < d' n := fun z => by have := hn.1.mpr z; omega
        have x2 : ¬ d' n < c' n := fun z => by have := hn.2.mpr z; omega
        omega
      rw [q, e']
      omega
    · have a1 := key _ _ _ _ _ l2 l1 q
      have a2 := key _ _ _ _ _ l4 l3 (hn.2.mp q)
      exact ⟨fun z => absurd z (by omega), fun z => absurd z (by omega)⟩
theorem cd_md {x y : St} (hx : rg x) (hy : rg y) : cdN x < cdN y ↔ mdN x < mdN y := by
  have a := cdN_i hx; have b := cdN_i hy; have c := mdN_i hx; have d := mdN_i hy
  unfold rg at hx hy
  unfold enc at a b
  have e1 := bI_r x.2.2
  have e2 := bI_r y.2.2
  cases h1 : x.1 <;> cases h2 : y.1 <;> simp only [h1, h2, bI_t, bI_f] at a b c d <;> omega
theorem mdN_inj {x y : St} (hx : rg x) (hy : rg y) (h : mdN x = mdN y) : x = y := by
  refine cdN_inj hx hy ?_
  have a := cd_md hx hy
  have b := cd_md hy hx
  omega
theorem p40 {n : Nat} (h : n ≤ 5) : 256 ^ n ≤ 2 ^ 40 := by
  have : (256 : Nat) ^ n ≤ 256 ^ 5 := Nat.pow_le_pow_right (by decide) h
  exact this
/-- an agent's word -/
def pkC (x : Nat → St) (n : Nat) : Nat := dg (fun a => cdN (x a)) n
def pkM (x : Nat → St) (n : Nat) : Nat := dg (fun a => mdN (x a)) n
theorem pkC_lt {x : Nat → St} {n : Nat} (hn : n ≤ 5) (h : ∀ a, a < n → rg (x a)) : pkC x n < 2 ^ 40 := Nat.lt_of_lt_of_le (dg_lt n (fun a ha => cdN_lt (h a ha))) (p40 hn)
theorem pkM_lt {x : Nat → St} {n : Nat} (hn : n ≤ 5) (h : ∀ a, a < n → rg (x a)) : pkM x n < 2 ^ 40 := Nat.lt_of_lt_of_le (dg_lt n (fun a ha => Nat.lt_of_lt_of_le (mdN_lt (h a ha)) (by decide))) (p40 hn)
theorem pkC_at {x : Nat → St} {n a : Nat} (h : ∀ a, a < n → rg (x a)) (ha : a < n) : pkC x n / 256 ^ a % 256 = cdN (x a) := dg_dig n a (fun a ha => cdN_lt (h a ha)) ha
theorem pkM_at {x : Nat → St} {n a : Nat} (h : ∀ a, a < n → rg (x a)) (ha : a < n) : pkM x n / 256 ^ a % 256 = mdN (x a) := dg_dig n a (fun a ha => Nat.lt_of_lt_of_le (mdN_lt (h a ha)) (by decide)) ha
theorem pkC_inj {x y : Nat → St} {n : Nat} (hx : ∀ a, a < n → rg (x a)) (hy : ∀ a, a < n → rg (y a)) : pkC x n = pkC y n ↔ ∀ a, a < n → x a = y a :=
  ⟨fun e a ha => cdN_inj (hx a ha) (hy a ha) (dg_inj (fun a ha => cdN_lt (hx a ha)) (fun a ha => cdN_lt (hy a ha)) e a ha), fun h => dg_congr n (fun a ha => by rw [h a ha])⟩
theorem pkM_inj {x y : Nat → St} {n : Nat} (hx : ∀ a, a < n → rg (x a)) (hy : ∀ a, a < n → rg (y a)) : pkM x n = pkM y n ↔ ∀ a, a < n → x a = y a :=
  ⟨fun e a ha => mdN_inj (hx a ha) (hy a ha) (dg_inj (fun a ha => Nat.lt_of_lt_of_le (mdN_lt (hx a ha)) (by decide)) (fun a ha => Nat.lt_of_lt_of_le (mdN_lt (hy a ha)) (by decide)) e a ha), fun h => dg_congr n (fun a ha => by rw [h a ha])⟩
theorem pk_lex {x y : Nat → St} {n : Nat} (hx : ∀ a, a < n → rg (x a)) (hy : ∀ a, a < n → rg (y a)) : pkC x n < pkC y n ↔ pkM x n < pkM y n :=
  dg_lex n (fun a ha => cdN_lt (hx a ha)) (fun a ha => cdN_lt (hy a ha)) (fun a ha => Nat.lt_of_lt_of_le (mdN_lt (hx a ha)) (by decide)) (fun a ha => Nat.lt_of_lt_of_le (mdN_lt (hy a ha)) (by decide)) (fun a ha => ⟨cd_md (hx a ha) (hy a ha), cd_md (hy a ha) (hx a ha)⟩)
theorem lor_dg {p c a : Nat} (ha : a < 5) (hp : p < 256 ^ a) (hc : c < 256) : lN p ||| lN (c * 256 ^ a) = lN (p + c * 256 ^ a) := by
  refine g_or' (k := 8 * a) (by rw [Nat.pow_mul]) hp ?_
  have h1 : c * 256 ^ a ≤ 255 * 256 ^ a := Nat.mul_le_mul_right _ (by omega)
  have h2 : (256 : Nat) ^ a ≤ 256 ^ 4 := Nat.pow_le_pow_right (by decide) (by omega)
  omega
/-! THE ATOMS of a formula -/
def AT (σ : Wd) (M E B S : Nat → Int) (CF CD NB FR : Nat → Nat → Int) : Prop := ∀ a, a < 5 → σ (20 + 10 * a) = some (obA (20 + 10 * a) (M a) (E a) (B a) (S a)) ∧ σ (20 + 10 * a + 1) = some (AI 8 (CF a)) ∧ σ (20 + 10 * a + 2) = some (AI 256 (CD a)) ∧ σ (20 + 10 * a + 3) = some (AI 256 (NB a)) ∧ σ (20 + 10 * a + 4) = some (AI 257 (FR a))
/-- the atoms below ac are as the document has them -/
def okAs (ac : Nat) (M E B : Nat → Int) (CF : Nat → Nat → Int) : Prop := ∀ a, a < ac → okA (M a) (E a) (B a) ∧ ∀ l, l < 8 → (-20 ≤ CF a l ∧ CF a l ≤ 20) ∧ -(B a) ≤ CF a l ∧ CF a l ≤ B a
theorem okA.m {m e b : Int} (h : okA m e b) : 0 ≤ m ∧ m ≤ 16 := by unfold okA at h; omega
theorem okA.e {m e b : Int} (h : okA m e b) : -20 ≤ e ∧ e ≤ 20 := by unfold okA at h; omega
def bgA (M E : Nat → Int) (CF : Nat → Nat → Int) (l : Nat) : Nat → St := fun a => bgn (M a) (E a) (CF a l)
theorem bgA_ok {ac : Nat} {M E B : Nat → Int} {CF : Nat → Nat → Int} (h : okAs ac M E B CF) {l : Nat} (hl : l < 8) {a : Nat} (ha : a < ac) : okM (M a) (B a) (bgA M E CF l a) := bgn_ok (h a ha).1 ((h a ha).2 l hl).2
theorem k_X3_beginning (σ : Wd) (nc ac : Nat) (cp : Bool) (M E B S : Nat → Int) (CF CD NB FR : Nat → Nat → Int) (l : Nat) (hl : l < 8) (hac : ac ≤ 5) (hok : okAs ac M E B CF) (h1 : σ 1 = some (obF nc ac cp)) (h6 : σ 6 = some (aR 5 atN)) (hAT : AT σ M E B S CF CD NB FR) : KX3_beginning [.ref 1, .int (iI l)] σ (Rt (some (.long (lN (pkC (bgA M E CF l) ac)))) σ) NX := by
  refine Ct.intro (by decide) (Nat.le_of_ble_eq_true rfl) ?_
  have hr : ∀ a, a < ac → rg (bgA M E CF l a) := fun a ha => okM_rg (hok a ha).1 (bgA_ok hok hl ha)
  have H : ∀ k : Nat, k ≤ ac → PX3_beginning (Rt (some (.long (lN (pkC (bgA M E CF l) ac)))) σ) NX 5 [some (.ref 1), some (.int (iI l)), some (.long (lN (pkC (bgA M E CF l) k))), none, some (.int (iI k))] [] σ 0 0 := by
    refine up_to ac ?_ ?_
    · skip
      refine z_iload dX3_beginning_5 rfl ?_
      refine z_aload_n dX3_beginning_7 rfl ?_
      refine z_getf cls2 6 flX3_41 dX3_beginning_8 (by decide) (by first | exact h1 | rfl) rfl ?_
      refine i_icmp_ge (tgt := 39) dX3_beginning_11 (by decide) (by omega) (by omega) (fun h7 => ?_) (fun h7 => ?_)
      · skip
        refine z_lload_n dX3_beginning_39 rfl ?_
        exact i_lret dX3_beginning_40 rfl (by decide) (by decide) rfl
      · skip
        omega
    · intro k hk ih
      have hA := hAT k (by omega)
      have hkk := hok k hk
      refine z_iload dX3_beginning_5 rfl ?_
      refine z_aload_n dX3_beginning_7 rfl ?_
      refine z_getf cls2 6 flX3_41 dX3_beginning_8 (by decide) (by first | exact h1 | rfl) rfl ?_
      refine i_icmp_ge (tgt := 39) dX3_beginning_11 (by decide) (by omega) (by omega) (fun h7 => ?_) (fun h7 => ?_)
      · skip
        omega
      · skip
        refine z_lload_n dX3_beginning_14 rfl ?_
        refine z_aload_n dX3_beginning_15 rfl ?_
        refine z_getf cls2 4 flX3_26 dX3_beginning_16 (by decide) (by first | exact h1 | rfl) rfl ?_
        refine z_iload dX3_beginning_19 rfl ?_
        refine i_aald dX3_beginning_21 (by first | exact h6 | rfl) k rfl (by omega) (atN_lt (by omega)) ?_
        refine z_iload_n dX3_beginning_22 rfl ?_
        refine i_cVr (k_beginning (20 + 10 * k) (M k) (E k) (B k) (S k) (CF k) l hkk.1.m hkk.1.e hl (hkk.2 l hl).1 σ hA.1 hA.2.1) mX3_67 dX3_beginning_23 (hA.1) rfl rfl rfl ⟨by decide, by decide⟩ (Nat.le_of_ble_eq_true rfl) ⟨by decide, by decide⟩ ?_
        refine z_iload dX3_beginning_26 rfl ?_
        refine i_cSr (k_X1_atAtom _ k (cdN_lt (hr k hk)) (by omega) σ) mX3_71 dX3_beginning_28 rfl rfl ⟨by decide, by decide⟩ (Nat.le_of_ble_eq_true rfl) ⟨by decide, by decide⟩ ?_
        refine z_lor dX3_beginning_31 ?_
        refine z_eql _ (lor_dg (by omega) (dg_lt k (fun a ha => cdN_lt (hr a (by omega)))) (cdN_lt (hr k hk))) ?_
        refine z_lstore_n dX3_beginning_32 (by decide) ?_
        refine i_iinc dX3_beginning_33 rfl (by decide) ?_
        refine z_goto (tgt := 5) dX3_beginning_36 (by decide) ?_
        exact ih
  refine z_lconst (v := lN 0) dX3_beginning_0 rfl ?_
  refine z_lstore_n dX3_beginning_1 (by decide) ?_
  refine i_iconst dX3_beginning_2 rfl ?_
  refine z_istore dX3_beginning_3 (by decide) ?_
  exact H 0 (by omega)
def trA (M E : Nat → Int) (CF : Nat → Nat → Int) (ct : Nat → Int) : Nat → Bool := fun a => opn (M a) (E a) (red (M a) (smC (CF a) ct 8))
theorem k_X3_isTrueOf (σ : Wd) (nc ac : Nat) (cp : Bool) (op lf rt ct : Nat → Int) (M E B S : Nat → Int) (CF CD NB FR : Nat → Nat → Int) (q : Nat) (hn : 0 < nc ∧ nc ≤ 20) (hac : ac ≤ 5) (hw : ∀ k, k < nc → wfN op lf rt ac k) (hok : okAs ac M E B CF) (hct : ∀ l, l < 8 → 0 ≤ ct l ∧ ct l ≤ 200) (h1 : σ 1 = some (obF nc ac cp)) (h3 : σ 3 = some (AI 20 op)) (h4 : σ 4 = some (AI 20 lf)) (h5 : σ 5 = some (AI 20 rt)) (h6 : σ 6 = some (aR 5 atN)) (hAT : AT σ M E B S CF CD NB FR) (hq : σ q = some (AI 8 ct)) :
    KX3_isTrueOf [.ref 1, .ref q] σ (Rt (some (.int (iI (bI (fml op lf rt (trA M E CF ct) nc))))) σ) NX := by
  refine Ct.intro (by decide) (Nat.le_of_ble_eq_true rfl) ?_
  have H : ∀ k : Nat, k ≤ ac → PX3_isTrueOf (Rt (some (.int (iI (bI (fml op lf rt (trA M E CF ct) nc))))) σ) NX 4 [some (.ref 1), some (.ref q), some (.int (iI (bs (trA M E CF ct) k : Nat))), some (.int (iI k))] [] σ 0 0 := by
    refine up_to ac ?_ ?_
    · skip
      refine z_iload_n dX3_isTrueOf_4 rfl ?_
      refine z_aload_n dX3_isTrueOf_5 rfl ?_
      refine z_getf cls2 6 flX3_41 dX3_isTrueOf_6 (by decide) (by first | exact h1 | rfl) rfl ?_
      refine i_icmp_ge (tgt := 37) dX3_isTrueOf_9 (by decide) (by omega) (by omega) (fun h7 => ?_) (fun h7 => ?_)
      · skip
        refine z_aload_n dX3_isTrueOf_37 rfl ?_
        refine z_iload_n dX3_isTrueOf_38 rfl ?_
        refine i_cVr (k_evaluate σ nc ac cp op lf rt (trA M E CF ct) hn hac hw h1 h3 h4 h5) mX3_81 dX3_isTrueOf_39 (by first | exact h1 | rfl) rfl rfl rfl ⟨by decide, by decide⟩ (Nat.le_of_ble_eq_true rfl) ⟨by decide, by decide⟩ ?_
        exact i_zret dX3_isTrueOf_42 rfl (by decide) (by decide) rfl
      · skip
        omega
    · intro k hk ih
      have hA := hAT k (by omega)
      have hkk := hok k hk
      refine z_iload_n dX3_isTrueOf_4 rfl ?_
      refine z_aload_n dX3_isTrueOf_5 rfl ?_
      refine z_getf cls2 6 flX3_41 dX3_isTrueOf_6 (by decide) (by first | exact h1 | rfl) rfl ?_
      refine i_icmp_ge (tgt := 37) dX3_isTrueOf_9 (by decide) (by omega) (by omega) (fun h7 => ?_) (fun h7 => ?_)
      · skip
        omega
      · skip
        refine z_aload_n dX3_isTrueOf_12 rfl ?_
        refine z_getf cls2 4 flX3_26 dX3_isTrueOf_13 (by decide) (by first | exact h1 | rfl) rfl ?_
        refine z_iload_n dX3_isTrueOf_16 rfl ?_
        refine i_aald dX3_isTrueOf_17 (by first | exact h6 | rfl) k rfl (by omega) (atN_lt (by omega)) ?_
        refine z_aload_n dX3_isTrueOf_18 rfl ?_
        refine i_cVr (k_isTrueOf (20 + 10 * k) q (M k) (E k) (B k) (S k) (CF k) ct hkk.1.m hkk.1.e (fun l hl => (hkk.2 l hl).1) hct σ hA.1 hA.2.1 hq) mX3_77 dX3_isTrueOf_19 (hA.1) rfl rfl rfl ⟨by decide, by decide⟩ (Nat.le_of_ble_eq_true rfl) ⟨by decide, by decide⟩ ?_
        refine i_ifb_eq (tgt := 31) dX3_isTrueOf_22 (by decide) (fun h8 => ?_) (fun h8 => ?_)
        · skip
          refine i_iinc dX3_isTrueOf_31 rfl (by decide) ?_
          refine z_goto (tgt := 4) dX3_isTrueOf_34 (by decide) ?_
          have e9 : bs (trA M E CF ct) (k + 1) = bs (trA M E CF ct) k := by
            show bs (trA M E CF ct) k + (bif trA M E CF ct k then 2 ^ k else 0) = _
            rw [show trA M E CF ct k = false from h8]; rfl
          rw [e9] at ih
          exact ih
        · skip
          refine z_iload_n dX3_isTrueOf_25 rfl ?_
          refine i_iconst dX3_isTrueOf_26 rfl ?_
          refine z_iload_n dX3_isTrueOf_27 rfl ?_
          refine z_ishl dX3_isTrueOf_28 ?_
          refine z_ior dX3_isTrueOf_29 ?_
          refine z_eqi _ (bs_or (t := trA M E CF ct) (b := true) (by omega) h8) ?_
          refine z_istore_n dX3_isTrueOf_30 (by decide) ?_
          refine i_iinc dX3_isTrueOf_31 rfl (by decide) ?_
          refine z_goto (tgt := 4) dX3_isTrueOf_34 (by decide) ?_
          exact ih
  refine i_iconst dX3_isTrueOf_0 rfl ?_
  refine z_istore_n dX3_isTrueOf_1 (by decide) ?_
  refine i_iconst dX3_isTrueOf_2 rfl ?_
  refine z_istore_n dX3_isTrueOf_3 (by decide) ?_
  exact H 0 (by omega)
def opA (x : Nat → St) : Nat → Bool := fun a => (x a).2.2
theorem k_outputOf (σ : Wd) (nc ac : Nat) (cp : Bool) (op lf rt : Nat → Int) (x : Nat → St) (hn : 0 < nc ∧ nc ≤ 20) (hac : ac ≤ 5) (hw : ∀ k, k < nc → wfN op lf rt ac k) (hx : ∀ a, a < ac → rg (x a)) (h1 : σ 1 = some (obF nc ac cp)) (h3 : σ 3 = some (AI 20 op)) (h4 : σ 4 = some (AI 20 lf)) (h5 : σ 5 = some (AI 20 rt)) :
    KX3_outputOf [.ref 1, .long (lN (pkC x ac))] σ (Rt (some (.int (iI (bI (fml op lf rt (opA x) nc))))) σ) NX := by
  refine Ct.intro (by decide) (Nat.le_of_ble_eq_true rfl) ?_
  have H : ∀ k : Nat, k ≤ ac → PX3_outputOf (Rt (some (.int (iI (bI (fml op lf rt (opA x) nc))))) σ) NX 5 [some (.ref 1), some (.long (lN (pkC x ac))), none, some (.int (iI (bs (opA x) k : Nat))), some (.int (iI k))] [] σ 0 0 := by
    refine up_to ac ?_ ?_
    · skip
      refine z_iload dX3_outputOf_5 rfl ?_
      refine z_aload_n dX3_outputOf_7 rfl ?_
      refine z_getf cls2 6 flX3_41 dX3_outputOf_8 (by decide) (by first | exact h1 | rfl) rfl ?_
      refine i_icmp_ge (tgt := 35) dX3_outputOf_11 (by decide) (by omega) (by omega) (fun h7 => ?_) (fun h7 => ?_)
      · skip
        refine z_aload_n dX3_outputOf_35 rfl ?_
        refine z_iload_n dX3_outputOf_36 rfl ?_
        refine i_cVr (k_evaluate σ nc ac cp op lf rt (opA x) hn hac hw h1 h3 h4 h5) mX3_81 dX3_outputOf_37 (by first | exact h1 | rfl) rfl rfl rfl ⟨by decide, by decide⟩ (Nat.le_of_ble_eq_true rfl) ⟨by decide, by decide⟩ ?_
        exact i_zret dX3_outputOf_40 rfl (by decide) (by decide) rfl
      · skip
        omega
    · intro k hk ih
      refine z_iload dX3_outputOf_5 rfl ?_
      refine z_aload_n dX3_outputOf_7 rfl ?_
      refine z_getf cls2 6 flX3_41 dX3_outputOf_8 (by decide) (by first | exact h1 | rfl) rfl ?_
      refine i_icmp_ge (tgt := 35) dX3_outputOf_11 (by decide) (by omega) (by omega) (fun h7 => ?_) (fun h7 => ?_)
      · skip
        omega
      · skip
        refine z_iload_n dX3_outputOf_14 rfl ?_
        refine z_lload_n dX3_outputOf_15 rfl ?_
        refine z_iload dX3_outputOf_16 rfl ?_
        refine i_cSr (k_X1_ofAtom (pkC x ac) k (pkC_lt hac hx) (by omega) σ) mX3_85 dX3_outputOf_18 rfl rfl ⟨by decide, by decide⟩ (Nat.le_of_ble_eq_true rfl) ⟨by decide, by decide⟩ ?_
        rw [pkC_at hx hk]
        refine i_cSr (k_X1_opinion (cdN (x k)) (cdN_lt (hx k hk)) σ) mX3_89 dX3_outputOf_21 rfl rfl ⟨by decide, by decide⟩ (Nat.le_of_ble_eq_true rfl) ⟨by decide, by decide⟩ ?_
        rw [cdN_o (hx k hk)]
        refine z_iload dX3_outputOf_24 rfl ?_
        refine z_ishl dX3_outputOf_26 ?_
        refine z_ior dX3_outputOf_27 ?_
        refine z_eqi _ (bs_or (t := opA x) (by omega) rfl) ?_
        refine z_istore_n dX3_outputOf_28 (by decide) ?_
        refine i_iinc dX3_outputOf_29 rfl (by decide) ?_
        refine z_goto (tgt := 5) dX3_outputOf_32 (by decide) ?_
        exact ih
  refine i_iconst dX3_outputOf_0 rfl ?_
  refine z_istore_n dX3_outputOf_1 (by decide) ?_
  refine i_iconst dX3_outputOf_2 rfl ?_
  refine z_istore dX3_outputOf_3 (by decide) ?_
  exact H 0 (by omega)

