/-! FORMULA (class 2) at the name 1, its rows at 2 .. 6, its atoms at 20 + 10 a -/
abbrev obF (nc ac : Nat) (cp : Bool) : pCell := ob 2 [.ref 2, .ref 3, .ref 4, .ref 5, .ref 6, .int (iI nc), .int (iI ac), .int (iI (bI cp))]
def atN : Nat → Option Nat := fun a => if a < 5 then some (20 + 10 * a) else none
theorem atN_lt {a : Nat} (h : a < 5) : atN a = some (20 + 10 * a) := if_pos h
theorem k_X3_reset (σ : Wd) (nc ac : Nat) (cp : Bool) (pd : Nat → Int) (h1 : σ 1 = some (obF nc ac cp)) (h2 : σ 2 = some (AI 8 pd)) : KX3_reset [.ref 1] σ (Rt none (up (up σ 2 (AI 8 (fun _ => 0))) 1 (obF 0 0 false))) NX := by
  refine Ct.intro (by decide) (Nat.le_of_ble_eq_true rfl) ?_
  refine z_aload_n dX3_reset_0 rfl ?_
  refine z_getf cls2 0 flX3_9 dX3_reset_1 (by decide) (by first | exact h1 | rfl) rfl ?_
  refine i_iconst dX3_reset_4 rfl ?_
  refine i_cSv (k_fill 2 8 pd 0 (by omega) σ h2) mX3_31 dX3_reset_5 rfl rfl ⟨by decide, by decide⟩ (Nat.le_of_ble_eq_true rfl) ⟨by decide, by decide⟩ ?_
  refine z_aload_n dX3_reset_8 rfl ?_
  refine i_iconst dX3_reset_9 rfl ?_
  refine i_puti cls2 5 flX3_37 dX3_reset_10 (by decide) rfl rfl (by first | exact h1 | rfl) (Nat.le_of_ble_eq_true rfl) ?_
  refine z_aload_n dX3_reset_13 rfl ?_
  refine i_iconst dX3_reset_14 rfl ?_
  refine i_puti cls2 6 flX3_41 dX3_reset_15 (by decide) rfl rfl (by first | exact h1 | rfl) (Nat.le_of_ble_eq_true rfl) ?_
  refine z_aload_n dX3_reset_18 rfl ?_
  refine i_iconst dX3_reset_19 rfl ?_
  refine i_putz (b := false) cls2 7 flX3_44 dX3_reset_20 (by decide) rfl rfl (by first | exact h1 | rfl) (Nat.le_of_ble_eq_true rfl) ?_
  exact i_vret dX3_reset_23 rfl (by decide) (by decide) (by rw [up_up, up_up]; rfl)
theorem k_setPending (σ : Wd) (nc ac : Nat) (cp : Bool) (pd : Nat → Int) (l : Nat) (v : Int) (hl : l < 8) (h1 : σ 1 = some (obF nc ac cp)) (h2 : σ 2 = some (AI 8 pd)) : KX3_setPending [.ref 1, .int (iI l), .int (iI v)] σ (Rt (some (.int (iI (pd l)))) (up σ 2 (AI 8 (va_up pd l v)))) NX := by
  refine Ct.intro (by decide) (Nat.le_of_ble_eq_true rfl) ?_
  refine z_aload_n dX3_setPending_0 rfl ?_
  refine z_getf cls2 0 flX3_9 dX3_setPending_1 (by decide) (by first | exact h1 | rfl) rfl ?_
  refine z_iload_n dX3_setPending_4 rfl ?_
  refine i_iald dX3_setPending_5 (by first | exact h2 | rfl) l (by omega) (by omega) ?_
  refine z_istore_n dX3_setPending_6 (by decide) ?_
  refine z_aload_n dX3_setPending_7 rfl ?_
  refine z_getf cls2 0 flX3_9 dX3_setPending_8 (by decide) (by first | exact h1 | rfl) rfl ?_
  refine z_iload_n dX3_setPending_11 rfl ?_
  refine z_iload_n dX3_setPending_12 rfl ?_
  refine i_iast dX3_setPending_13 (by first | exact h2 | rfl) l (by omega) (by omega) ?_
  refine z_iload_n dX3_setPending_14 rfl ?_
  exact i_iret dX3_setPending_15 rfl (by decide) (by decide) rfl
def takN (nc : Nat) (cp : Bool) : Bool := !cp && Nat.blt nc 20
def takA (nc ac : Nat) (cp : Bool) : Bool := takN nc cp && Nat.blt ac 5
theorem blt_t {a b : Nat} (h : a < b) : Nat.blt a b = true := Nat.ble_eq.mpr h
theorem blt_f {a b : Nat} (h : b ≤ a) : Nat.blt a b = false := by
  cases q : Nat.blt a b with
  | true => have : a < b := Nat.ble_eq.mp q; omega
  | false => rfl
theorem k_takesNode (σ : Wd) (nc ac : Nat) (cp : Bool) (hn : nc ≤ 20) (h1 : σ 1 = some (obF nc ac cp)) : KX3_takesNode [.ref 1] σ (Rt (some (.int (iI (bI (takN nc cp))))) σ) NX := by
  refine Ct.intro (by decide) (Nat.le_of_ble_eq_true rfl) ?_
  refine z_aload_n dX3_takesNode_0 rfl ?_
  refine z_getf cls2 7 flX3_44 dX3_takesNode_1 (by decide) (by first | exact h1 | rfl) rfl ?_
  refine i_ifb_ne (tgt := 20) dX3_takesNode_4 (by decide) (fun h3 => ?_) (fun h3 => ?_)
  · skip
    refine i_iconst dX3_takesNode_20 rfl ?_
    exact i_rf dX3_takesNode_21 rfl (by decide) (by decide) (by unfold takN; rw [h3]; rfl) rfl
  · skip
    refine z_aload_n dX3_takesNode_7 rfl ?_
    refine z_getf cls2 5 flX3_37 dX3_takesNode_8 (by decide) (by first | exact h1 | rfl) rfl ?_
    refine i_bipush dX3_takesNode_11 (by decide) ?_
    refine i_icmp_ge (tgt := 20) dX3_takesNode_13 (by decide) (by omega) (by omega) (fun h4 => ?_) (fun h4 => ?_)
    · skip
      refine i_iconst dX3_takesNode_20 rfl ?_
      exact i_rf dX3_takesNode_21 rfl (by decide) (by decide) (by unfold takN; rw [h3, blt_f (by omega)]; rfl) rfl
    · skip
      refine i_iconst dX3_takesNode_16 rfl ?_
      refine z_goto (tgt := 21) dX3_takesNode_17 (by decide) ?_
      exact i_rt dX3_takesNode_21 rfl (by decide) (by decide) (by unfold takN; rw [h3, blt_t (by omega)]; rfl) rfl
theorem k_takesAtom (σ : Wd) (nc ac : Nat) (cp : Bool) (hn : nc ≤ 20) (ha : ac ≤ 5) (h1 : σ 1 = some (obF nc ac cp)) : KX3_takesAtom [.ref 1] σ (Rt (some (.int (iI (bI (takA nc ac cp))))) σ) NX := by
  refine Ct.intro (by decide) (Nat.le_of_ble_eq_true rfl) ?_
  refine z_aload_n dX3_takesAtom_0 rfl ?_
  refine i_cVr (k_takesNode σ nc ac cp hn h1) mX3_48 dX3_takesAtom_1 (by first | exact h1 | rfl) rfl rfl rfl ⟨by decide, by decide⟩ (Nat.le_of_ble_eq_true rfl) ⟨by decide, by decide⟩ ?_
  refine i_ifb_eq (tgt := 19) dX3_takesAtom_4 (by decide) (fun h3 => ?_) (fun h3 => ?_)
  · skip
    refine i_iconst dX3_takesAtom_19 rfl ?_
    exact i_rf dX3_takesAtom_20 rfl (by decide) (by decide) (by unfold takA; rw [h3]; rfl) rfl
  · skip
    refine z_aload_n dX3_takesAtom_7 rfl ?_
    refine z_getf cls2 6 flX3_41 dX3_takesAtom_8 (by decide) (by first | exact h1 | rfl) rfl ?_
    refine i_iconst dX3_takesAtom_11 rfl ?_
    refine i_icmp_ge (tgt := 19) dX3_takesAtom_12 (by decide) (by omega) (by omega) (fun h4 => ?_) (fun h4 => ?_)
    · skip
      refine i_iconst dX3_takesAtom_19 rfl ?_
      exact i_rf dX3_takesAtom_20 rfl (by decide) (by decide) (by unfold takA; rw [h3, blt_f (by omega)]; rfl) rfl
    · skip
      refine i_iconst dX3_takesAtom_15 rfl ?_
      refine z_goto (tgt := 20) dX3_takesAtom_16 (by decide) ?_
      exact i_rt dX3_takesAtom_20 rfl (by decide) (by decide) (by unfold takA; rw [h3, blt_t (by omega)]; rfl) rfl
def hasI (v : Int) (n : Nat) : Bool := decide (0 ≤ v ∧ v < n)
theorem k_hasNode (σ : Wd) (nc ac : Nat) (cp : Bool) (v : Int) (hn : nc ≤ 20) (hv : -2147483648 ≤ v ∧ v < 2147483648) (h1 : σ 1 = some (obF nc ac cp)) : KX3_hasNode [.ref 1, .int (iI v)] σ (Rt (some (.int (iI (bI (hasI v nc))))) σ) NX := by
  refine Ct.intro (by decide) (Nat.le_of_ble_eq_true rfl) ?_
  refine z_iload_n dX3_hasNode_0 rfl ?_
  refine i_if_lt (tgt := 16) dX3_hasNode_1 (by decide) (by omega) (fun h3 => ?_) (fun h3 => ?_)
  · skip
    refine i_iconst dX3_hasNode_16 rfl ?_
    exact i_rf dX3_hasNode_17 rfl (by decide) (by decide) (decide_eq_false (by omega)) rfl
  · skip
    refine z_iload_n dX3_hasNode_4 rfl ?_
    refine z_aload_n dX3_hasNode_5 rfl ?_
    refine z_getf cls2 5 flX3_37 dX3_hasNode_6 (by decide) (by first | exact h1 | rfl) rfl ?_
    refine i_icmp_ge (tgt := 16) dX3_hasNode_9 (by decide) (by omega) (by omega) (fun h4 => ?_) (fun h4 => ?_)
    · skip
      refine i_iconst dX3_hasNode_16 rfl ?_
      exact i_rf dX3_hasNode_17 rfl (by decide) (by decide) (decide_eq_false (by omega)) rfl
    · skip
      refine i_iconst dX3_hasNode_12 rfl ?_
      refine z_goto (tgt := 17) dX3_hasNode_13 (by decide) ?_
      exact i_rt dX3_hasNode_17 rfl (by decide) (by decide) (decide_eq_true (by omega)) rfl
theorem k_hasAtom (σ : Wd) (nc ac : Nat) (cp : Bool) (v : Int) (hn : ac ≤ 5) (hv : -2147483648 ≤ v ∧ v < 2147483648) (h1 : σ 1 = some (obF nc ac cp)) : KX3_hasAtom [.ref 1, .int (iI v)] σ (Rt (some (.int (iI (bI (hasI v ac))))) σ) NX := by
  refine Ct.intro (by decide) (Nat.le_of_ble_eq_true rfl) ?_
  refine z_iload_n dX3_hasAtom_0 rfl ?_
  refine i_if_lt (tgt := 16) dX3_hasAtom_1 (by decide) (by omega) (fun h3 => ?_) (fun h3 => ?_)
  · skip
    refine i_iconst dX3_hasAtom_16 rfl ?_
    exact i_rf dX3_hasAtom_17 rfl (by decide) (by decide) (decide_eq_false (by omega)) rfl
  · skip
    refine z_iload_n dX3_hasAtom_4 rfl ?_
    refine z_aload_n dX3_hasAtom_5 rfl ?_
    refine z_getf cls2 6 flX3_41 dX3_hasAtom_6 (by decide) (by first | exact h1 | rfl) rfl ?_
    refine i_icmp_ge (tgt := 16) dX3_hasAtom_9 (by decide) (by omega) (by omega) (fun h4 => ?_) (fun h4 => ?_)
    · skip
      refine i_iconst dX3_hasAtom_16 rfl ?_
      exact i_rf dX3_hasAtom_17 rfl (by decide) (by decide) (decide_eq_false (by omega)) rfl
    · skip
      refine i_iconst dX3_hasAtom_12 rfl ?_
      refine z_goto (tgt := 17) dX3_hasAtom_13 (by decide) ?_
      exact i_rt dX3_hasAtom_17 rfl (by decide) (by decide) (decide_eq_true (by omega)) rfl
theorem k_isCompiled (σ : Wd) (nc ac : Nat) (cp : Bool) (h1 : σ 1 = some (obF nc ac cp)) : KX3_isCompiled [.ref 1] σ (Rt (some (.int (iI (bI cp)))) σ) NX := by
  refine Ct.intro (by decide) (Nat.le_of_ble_eq_true rfl) ?_
  refine z_aload_n dX3_isCompiled_0 rfl ?_
  refine z_getf cls2 7 flX3_44 dX3_isCompiled_1 (by decide) (by first | exact h1 | rfl) rfl ?_
  exact i_zret dX3_isCompiled_4 rfl (by decide) (by decide) rfl
theorem k_isEmpty (σ : Wd) (nc ac : Nat) (cp : Bool) (hn : nc ≤ 20) (h1 : σ 1 = some (obF nc ac cp)) : KX3_isEmpty [.ref 1] σ (Rt (some (.int (iI (bI (Nat.beq nc 0))))) σ) NX := by
  refine Ct.intro (by decide) (Nat.le_of_ble_eq_true rfl) ?_
  refine z_aload_n dX3_isEmpty_0 rfl ?_
  refine z_getf cls2 5 flX3_37 dX3_isEmpty_1 (by decide) (by first | exact h1 | rfl) rfl ?_
  refine i_if_ne (tgt := 11) dX3_isEmpty_4 (by decide) (by omega) (fun h3 => ?_) (fun h3 => ?_)
  · skip
    refine i_iconst dX3_isEmpty_11 rfl ?_
    have h9 : Nat.beq nc 0 = false := by
      cases q : Nat.beq nc 0 with
      | true => have := Nat.eq_of_beq_eq_true q; omega
      | false => rfl
    exact i_rf dX3_isEmpty_12 rfl (by decide) (by decide) h9 rfl
  · skip
    refine i_iconst dX3_isEmpty_7 rfl ?_
    refine z_goto (tgt := 12) dX3_isEmpty_8 (by decide) ?_
    exact i_rt dX3_isEmpty_12 rfl (by decide) (by decide) (by rw [show nc = 0 by omega]; rfl) rfl
theorem k_atom (σ : Wd) (nc ac : Nat) (cp : Bool) (a : Nat) (ha : a < 5) (h1 : σ 1 = some (obF nc ac cp)) (h6 : σ 6 = some (aR 5 atN)) : KX3_atom [.ref 1, .int (iI a)] σ (Rt (some (.ref (20 + 10 * a))) σ) NX := by
  refine Ct.intro (by decide) (Nat.le_of_ble_eq_true rfl) ?_
  refine z_aload_n dX3_atom_0 rfl ?_
  refine z_getf cls2 4 flX3_26 dX3_atom_1 (by decide) (by first | exact h1 | rfl) rfl ?_
  refine z_iload_n dX3_atom_4 rfl ?_
  refine i_aald dX3_atom_5 (by first | exact h6 | rfl) a rfl ha (atN_lt ha) ?_
  exact z_aret dX3_atom_6 rfl (Or.inl ⟨_, rfl⟩) (by decide) (by decide) ⟨rfl, rfl⟩
theorem k_atomCount (σ : Wd) (nc ac : Nat) (cp : Bool) (h1 : σ 1 = some (obF nc ac cp)) : KX3_atomCount [.ref 1] σ (Rt (some (.int (iI ac))) σ) NX := by
  refine Ct.intro (by decide) (Nat.le_of_ble_eq_true rfl) ?_
  refine z_aload_n dX3_atomCount_0 rfl ?_
  refine z_getf cls2 6 flX3_41 dX3_atomCount_1 (by decide) (by first | exact h1 | rfl) rfl ?_
  exact i_iret dX3_atomCount_4 rfl (by decide) (by decide) rfl
theorem k_addNode (σ : Wd) (nc ac : Nat) (cp : Bool) (op lf rt : Nat → Int) (x l r : Int) (hn : nc < 20) (h1 : σ 1 = some (obF nc ac cp)) (h3 : σ 3 = some (AI 20 op)) (h4 : σ 4 = some (AI 20 lf)) (h5 : σ 5 = some (AI 20 rt)) : KX3_addNode [.ref 1, .int (iI x), .int (iI l), .int (iI r)] σ (Rt (some (.int (iI nc))) (up (up (up (up σ 3 (AI 20 (va_up op nc x))) 4 (AI 20 (va_up lf nc l))) 5 (AI 20 (va_up rt nc r))) 1 (obF (nc + 1) ac cp))) NX := by
  refine Ct.intro (by decide) (Nat.le_of_ble_eq_true rfl) ?_
  refine z_aload_n dX3_addNode_0 rfl ?_
  refine z_getf cls2 5 flX3_37 dX3_addNode_1 (by decide) (by first | exact h1 | rfl) rfl ?_
  refine z_istore dX3_addNode_4 (by decide) ?_
  refine z_aload_n dX3_addNode_6 rfl ?_
  refine z_getf cls2 1 flX3_15 dX3_addNode_7 (by decide) (by first | exact h1 | rfl) rfl ?_
  refine z_iload dX3_addNode_10 rfl ?_
  refine z_iload_n dX3_addNode_12 rfl ?_
  refine i_iast dX3_addNode_13 (by first | exact h3 | rfl) nc (by omega) (by omega) ?_
  refine z_aload_n dX3_addNode_14 rfl ?_
  refine z_getf cls2 2 flX3_18 dX3_addNode_15 (by decide) (by first | exact h1 | rfl) rfl ?_
  refine z_iload dX3_addNode_18 rfl ?_
  refine z_iload_n dX3_addNode_20 rfl ?_
  refine i_iast dX3_addNode_21 (by first | exact h4 | rfl) nc (by omega) (by omega) ?_
  refine z_aload_n dX3_addNode_22 rfl ?_
  refine z_getf cls2 3 flX3_21 dX3_addNode_23 (by decide) (by first | exact h1 | rfl) rfl ?_
  refine z_iload dX3_addNode_26 rfl ?_
  refine z_iload_n dX3_addNode_28 rfl ?_
  refine i_iast dX3_addNode_29 (by first | exact h5 | rfl) nc (by omega) (by omega) ?_
  refine z_aload_n dX3_addNode_30 rfl ?_
  refine z_dup dX3_addNode_31 rfl ?_
  refine z_getf cls2 5 flX3_37 dX3_addNode_32 (by decide) (by first | exact h1 | rfl) rfl ?_
  refine i_iconst dX3_addNode_35 rfl ?_
  refine i_iadd dX3_addNode_36 ?_
  refine i_puti cls2 5 flX3_37 dX3_addNode_37 (by decide) rfl rfl (by first | exact h1 | rfl) (Nat.le_of_ble_eq_true rfl) ?_
  refine z_iload dX3_addNode_40 rfl ?_
  exact i_iret dX3_addNode_42 rfl (by decide) (by decide) rfl
theorem k_addAtom (σ : Wd) (nc ac : Nat) (cp : Bool) (pd op lf rt : Nat → Int) (m e m0 e0 b0 s0 : Int) (cf0 : Nat → Int) (hn : nc < 20) (ha : ac < 5) (he : -20 ≤ e ∧ e ≤ 20) (hp : ∀ l, l < 8 → -20 ≤ pd l ∧ pd l ≤ 20) (h1 : σ 1 = some (obF nc ac cp)) (h2 : σ 2 = some (AI 8 pd)) (h3 : σ 3 = some (AI 20 op)) (h4 : σ 4 = some (AI 20 lf)) (h5 : σ 5 = some (AI 20 rt)) (h6 : σ 6 = some (aR 5 atN)) (hA : σ (20 + 10 * ac) = some (obA (20 + 10 * ac) m0 e0 b0 s0)) (hC : σ (20 + 10 * ac + 1) = some (AI 8 cf0)) :
    KX3_addAtom [.ref 1, .int (iI m), .int (iI e)] σ (Rt (some (.int (iI nc))) (up (up (up (up (up (up (up σ (20 + 10 * ac) (obA (20 + 10 * ac) m e (bndF e pd 8) s0)) (20 + 10 * ac + 1) (AI 8 pd)) 2 (AI 8 (fun _ => 0))) 3 (AI 20 (va_up op nc 3))) 4 (AI 20 (va_up lf nc ac))) 5 (AI 20 (va_up rt nc 0))) 1 (obF (nc + 1) (ac + 1) cp))) NX := by
  refine Ct.intro (by decide) (Nat.le_of_ble_eq_true rfl) ?_
  have g : ∀ (q : Nat) (c : pCell), q < 20 → σ q = some c → (up (up σ (20 + 10 * ac) (obA (20 + 10 * ac) m e (bndF e pd 8) s0)) (20 + 10 * ac + 1) (AI 8 pd)) q = some c := fun q c hq h => by
    rw [up_ne _ _ (by omega), up_ne _ _ (by omega)]; exact h
  refine z_aload_n dX3_addAtom_0 rfl ?_
  refine z_getf cls2 4 flX3_26 dX3_addAtom_1 (by decide) (by first | exact h1 | rfl) rfl ?_
  refine z_aload_n dX3_addAtom_4 rfl ?_
  refine z_getf cls2 6 flX3_41 dX3_addAtom_5 (by decide) (by first | exact h1 | rfl) rfl ?_
  refine i_aald dX3_addAtom_8 (by first | exact h6 | rfl) ac rfl ha (atN_lt ha) ?_
  refine z_iload_n dX3_addAtom_9 rfl ?_
  refine z_iload_n dX3_addAtom_10 rfl ?_
  refine z_aload_n dX3_addAtom_11 rfl ?_
  refine z_getf cls2 0 flX3_9 dX3_addAtom_12 (by decide) (by first | exact h1 | rfl) rfl ?_
  refine i_cVv (k_become (20 + 10 * ac) 2 m e m0 e0 b0 s0 pd cf0 he hp (by omega) (by omega) σ hA hC h2) mX3_52 dX3_addAtom_15 (hA) rfl rfl rfl ⟨by decide, by decide⟩ (Nat.le_of_ble_eq_true rfl) ⟨by decide, by decide⟩ ?_
  have g1 := g 1 _ (by omega) h1
  have g2 := g 2 _ (by omega) h2
  have g3 := g 3 _ (by omega) h3
  have g4 := g 4 _ (by omega) h4
  have g5 := g 5 _ (by omega) h5
  refine z_aload_n dX3_addAtom_18 rfl ?_
  refine z_getf cls2 0 flX3_9 dX3_addAtom_19 (by decide) (by first | exact g1 | rfl) rfl ?_
  refine i_iconst dX3_addAtom_22 rfl ?_
  refine i_cSv (k_fill 2 8 pd 0 (by omega) _ g2) mX3_31 dX3_addAtom_23 rfl rfl ⟨by decide, by decide⟩ (Nat.le_of_ble_eq_true rfl) ⟨by decide, by decide⟩ ?_
  refine z_aload_n dX3_addAtom_26 rfl ?_
  refine i_iconst dX3_addAtom_27 rfl ?_
  refine z_aload_n dX3_addAtom_28 rfl ?_
  refine z_getf cls2 6 flX3_41 dX3_addAtom_29 (by decide) (by first | exact g1 | rfl) rfl ?_
  refine i_iconst dX3_addAtom_32 rfl ?_
  refine i_cVr (k_addNode _ nc ac cp op lf rt 3 ac 0 hn g1 g3 g4 g5) mX3_56 dX3_addAtom_33 (by first | exact g1 | rfl) rfl rfl rfl ⟨by decide, by decide⟩ (Nat.le_of_ble_eq_true rfl) ⟨by decide, by decide⟩ ?_
  refine z_istore_n dX3_addAtom_36 (by decide) ?_
  refine z_aload_n dX3_addAtom_37 rfl ?_
  refine z_dup dX3_addAtom_38 rfl ?_
  refine z_getf cls2 6 flX3_41 dX3_addAtom_39 (by decide) (by first | exact g1 | rfl) rfl ?_
  refine i_iconst dX3_addAtom_42 rfl ?_
  refine i_iadd dX3_addAtom_43 ?_
  refine i_puti cls2 6 flX3_41 dX3_addAtom_44 (by decide) rfl rfl (by first | exact g1 | rfl) (Nat.le_of_ble_eq_true rfl) ?_
  refine z_iload_n dX3_addAtom_47 rfl ?_
  exact i_iret dX3_addAtom_48 rfl (by decide) (by decide) (up_up _ _ _ _)

