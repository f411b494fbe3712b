/-- the hash of a row in the reference -/
def mxM (g : Nat → Nat) : Nat → Int64
  | 0 => 17
  | k + 1 => mxM g k * 1000003 + lN (g k) + ((mxM g k).toUInt64 >>> ((iI 29).toInt64.toUInt64 &&& Int64.toUInt64 63)).toInt64
def hsM (ac w : Nat) (f : Nat → Nat → St) : Nat := uN (mxM (fun k => pkM (f k) ac) w) / 2 ^ 20 % 8192
def RWM (ac w : Nat) (x : XS) (cr : Nat → Nat) : Prop := ∀ r, r < x.2 → ∀ k, k < w → cr (6 * r + k) = pkM (x.1 r k) ac
def SIM (ac w : Nat) (x : XS) (cr tb : Nat → Nat) (crs : Nat) : Prop := crs = x.2 ∧ RWM ac w x cr ∧ TI (fun r => hsM ac w (x.1 r)) tb x.2
/-- the reference's cells -/
def MDp (σ : Wd) (a : AS) (t : Int) (tr : Nat → Bool) (cfM : Nat → Int) (th : Nat → Bool) (agf : Nat → Int) (no n2 : Int) (crs : Nat) (cr tb : Nat → Nat) (gd : Nat → Bool) (wk : Nat → Nat) : Prop := σ 100 = some (obMd t a.nc a.ac a.cp a.cnt no n2 crs a.ex.isSome) ∧ σ 101 = some (AI 8 a.pd) ∧ σ 102 = some (AI 20 a.op) ∧ σ 103 = some (AI 20 a.lf) ∧ σ 104 = some (AI 20 a.rt) ∧ σ 105 = some (AZ 20 tr) ∧ σ 106 = some (AI 40 cfM) ∧ MC σ a.M a.E a.B ∧ σ 110 = some (AZ 860 th) ∧ σ 111 = some (AI 1000 agf) ∧ σ 112 = some (AI 8 a.lt) ∧ σ 113 = some (AL 18012 cr) ∧ σ 114 = some (AI 8192 (fun p => (tb p : Nat))) ∧ σ 115 = some (AZ 3002 gd) ∧ σ 116 = some (AL 6 wk) ∧ (∀ b, b < 5 → ∀ l, l < 8 → cfM (8 * b + l) = a.CF b l) ∧ AM a.ac a.cnt agf a.ag ∧ (a.cp = true → ∀ b, b < a.ac → ∀ s, s < 172 → th (172 * b + s) = rcB (a.M b) (a.E b) (a.B b) (a.CF b) s) ∧ ∀ x, a.ex = some x → SIM a.ac a.cnt x cr tb crs
def MD (σ : Wd) (a : AS) (t : Int) : Prop := ∃ (tr : Nat → Bool) (cfM : Nat → Int) (th : Nat → Bool) (agf : Nat → Int) (no n2 : Int) (crs : Nat) (cr tb : Nat → Nat) (gd : Nat → Bool) (wk : Nat → Nat), MDp σ a t tr cfM th agf no n2 crs cr tb gd wk
def F2 (σ u : Wd) : Prop := ∀ q, q < 100 ∨ 116 < q → u q = σ q
theorem F2.rfl {σ : Wd} : F2 σ σ := fun _ _ => by trivial
theorem F2.up {σ u : Wd} (h : F2 σ u) {q : Nat} (c : pCell) (hq : 100 ≤ q ∧ q ≤ 116) : F2 σ (up u q c) := fun p hp => (up_ne _ _ (by omega)).trans (h p hp)
theorem F2.trans {σ u v : Wd} (h : F2 σ u) (k : F2 u v) : F2 σ v := fun q hq => (k q hq).trans (h q hq)
theorem MD.fr {σ u : Wd} {a : AS} {t : Int} (h : MD σ a t) (hu : ∀ q, 100 ≤ q → q ≤ 116 → u q = σ q) : MD u a t := by
  obtain ⟨tr, cfM, th, agf, no, n2, crs, cr, tb, gd, wk, k0, k1, k2, k3, k4, k5, k6, k7, k10, k11, k12, k13, k14, k15, k16, g1⟩ := h
  exact ⟨tr, cfM, th, agf, no, n2, crs, cr, tb, gd, wk, (hu _ (by omega) (by omega)).trans k0, (hu _ (by omega) (by omega)).trans k1, (hu _ (by omega) (by omega)).trans k2, (hu _ (by omega) (by omega)).trans k3, (hu _ (by omega) (by omega)).trans k4, (hu _ (by omega) (by omega)).trans k5, (hu _ (by omega) (by omega)).trans k6, k7.fr (fun q q1 q2 => hu q (by omega) (by omega)), (hu _ (by omega) (by omega)).trans k10, (hu _ (by omega) (by omega)).trans k11, (hu _ (by omega) (by omega)).trans k12, (hu _ (by omega) (by omega)).trans k13, (hu _ (by omega) (by omega)).trans k14, (hu _ (by omega) (by omega)).trans k15, (hu _ (by omega) (by omega)).trans k16, g1⟩
/-- an answer of the reference -/
def QM (cd : Nat) (v : Value) (σ : Wd) (a a' : AS) : Option Value → Wd → Prop := fun r u => (∃ z : Int, r = some (.int (iI z))) ∧ (cd = 0 → r = some v) ∧ MD u (if cd = 0 then a' else a) (cd : Int) ∧ F2 σ u
theorem MC.o {σ : Wd} {M E B : Nat → Int} (h : MC σ M E B) (c : pCell) {q : Nat} (hq : q < 107 ∨ 109 < q) : MC (up σ q c) M E B := h.fr (fun p q1 q2 => up_ne _ _ (by omega))
section MOD6
variable {σ : Wd} {a : AS} {t : Int}
theorem m_thrown (h : MD σ a t) : KX7_thrown [.ref 100] σ (Rt (some (.int (iI t))) σ) NX := by
  obtain ⟨tr, cfM, th, agf, no, n2, crs, cr, tb, gd, wk, h100, k1, k2, k3, k4, k5, k6, k7, k10, k11, k12, k13, k14, k15, k16, g1, g2, g3, g4⟩ := h
  refine Ct.intro (by decide) (Nat.le_of_ble_eq_true rfl) ?_
  refine z_aload_n dX7_thrown_0 rfl ?_
  refine z_getf cls6 0 flX7_7 dX7_thrown_1 (by decide) (by first | exact h100 | rfl) rfl ?_
  exact i_iret dX7_thrown_4 rfl (by decide) (by decide) rfl
theorem m_size (h : MD σ a t) : KX7_size [.ref 100] σ (fun r u => r = some (.int (iI (a.cnt : Nat))) ∧ MD u a 0 ∧ F2 σ u) NX := by
  obtain ⟨tr, cfM, th, agf, no, n2, crs, cr, tb, gd, wk, h100, k1, k2, k3, k4, k5, k6, k7, k10, k11, k12, k13, k14, k15, k16, g1, g2, g3, g4⟩ := h
  refine Ct.intro (by decide) (Nat.le_of_ble_eq_true rfl) ?_
  refine z_aload_n dX7_size_0 rfl ?_
  refine i_iconst dX7_size_1 rfl ?_
  refine i_puti cls6 0 flX7_7 dX7_size_2 (by decide) rfl rfl (by first | exact h100 | rfl) (Nat.le_of_ble_eq_true rfl) ?_
  refine z_aload_n dX7_size_5 rfl ?_
  refine z_getf cls6 14 flX7_55 dX7_size_6 (by decide) (up_self _ _ _) rfl ?_
  exact z_iret dX7_size_9 rfl (by decide) (by decide) ⟨rfl, ⟨tr, cfM, th, agf, no, n2, crs, cr, tb, gd, wk, rfl, k1, k2, k3, k4, k5, k6, k7.o _ (by omega), k10, k11, k12, k13, k14, k15, k16, g1, g2, g3, g4⟩, F2.rfl.up _ (by omega)⟩
theorem m_clear (h : MD σ a t) : KX7_clear [.ref 100] σ (fun r u => r = none ∧ MD u (oClear a) 0 ∧ F2 σ u) NX := by
  obtain ⟨tr, cfM, th, agf, no, n2, crs, cr, tb, gd, wk, h100, k1, k2, k3, k4, k5, k6, k7, k10, k11, k12, k13, k14, k15, k16, g1, g2, g3, g4⟩ := h
  refine Ct.intro (by decide) (Nat.le_of_ble_eq_true rfl) ?_
  obtain ⟨Q, hQ⟩ : ∃ Q : Option Value → Wd → Prop, Q = fun r u => r = none ∧ MD u (oClear a) 0 ∧ F2 σ u := ⟨_, rfl⟩
  rw [← hQ]
  have H : ∀ l : Nat, l ≤ 8 → ∀ (pd lt : Nat → Int), (∀ k, k < l → pd k = 0 ∧ lt k = 0) → PX7_clear Q NX 7 [some (.ref 100), some (.int (iI l))] [] (up (up (up σ 101 (AI 8 pd)) 112 (AI 8 lt)) 100 (obMd 0 a.nc a.ac a.cp a.cnt no n2 crs a.ex.isSome)) 0 0 := by
    refine up_to 8 ?_ ?_
    · intro pd lt hz
      refine z_iload_n dX7_clear_7 rfl ?_
      refine i_bipush dX7_clear_8 (by decide) ?_
      refine i_icmp_ge (tgt := 33) dX7_clear_10 (by decide) (by omega) (by omega) (fun h1 => ?_) (fun h1 => ?_)
      · skip
        refine z_aload_n dX7_clear_33 rfl ?_
        refine i_iconst dX7_clear_34 rfl ?_
        refine i_puti cls6 2 flX7_17 dX7_clear_35 (by decide) rfl rfl (rfl) (Nat.le_of_ble_eq_true rfl) ?_
        refine z_aload_n dX7_clear_38 rfl ?_
        refine i_iconst dX7_clear_39 rfl ?_
        refine i_puti cls6 7 flX7_33 dX7_clear_40 (by decide) rfl rfl (rfl) (Nat.le_of_ble_eq_true rfl) ?_
        refine z_aload_n dX7_clear_43 rfl ?_
        refine i_iconst dX7_clear_44 rfl ?_
        refine i_putz (b := false) cls6 12 flX7_48 dX7_clear_45 (by decide) rfl rfl (rfl) (Nat.le_of_ble_eq_true rfl) ?_
        refine z_aload_n dX7_clear_48 rfl ?_
        refine i_iconst dX7_clear_49 rfl ?_
        refine i_puti cls6 14 flX7_55 dX7_clear_50 (by decide) rfl rfl (rfl) (Nat.le_of_ble_eq_true rfl) ?_
        refine z_aload_n dX7_clear_53 rfl ?_
        refine i_iconst dX7_clear_54 rfl ?_
        refine i_putz (b := false) cls6 23 flX7_83 dX7_clear_55 (by decide) rfl rfl (rfl) (Nat.le_of_ble_eq_true rfl) ?_
        refine z_arrI (o := 101) (n := 8) (f := pd) (fun _ => 0) rfl (fun j hj => (hz j hj).1) ?_
        refine z_arrI (o := 112) (n := 8) (f := lt) (fun _ => 0) rfl (fun j hj => (hz j hj).2) ?_
        refine z_vret dX7_clear_58 rfl (by decide) (by decide) ?_
        rw [hQ]
        refine ⟨rfl, ⟨tr, cfM, th, agf, no, n2, crs, cr, tb, gd, wk, rfl, rfl, k2, k3, k4, k5, k6, k7.fr (fun q q1 q2 => ?_), k10, k11, rfl, k13, k14, k15, k16, g1, fun p hp => absurd hp (Nat.not_lt_zero p), fun z => (by cases z), fun x hx => (by cases hx)⟩, fun q hq => ?_⟩
        · rw [up_ne _ _ (by omega), up_ne _ _ (by omega), up_ne _ _ (by omega), up_ne _ _ (by omega), up_ne _ _ (by omega), up_ne _ _ (by omega), up_ne _ _ (by omega), up_ne _ _ (by omega), up_ne _ _ (by omega), up_ne _ _ (by omega)]
        · rw [up_ne _ _ (by omega), up_ne _ _ (by omega), up_ne _ _ (by omega), up_ne _ _ (by omega), up_ne _ _ (by omega), up_ne _ _ (by omega), up_ne _ _ (by omega), up_ne _ _ (by omega), up_ne _ _ (by omega), up_ne _ _ (by omega)]
      · skip
        omega
    · intro l hl ih pd lt hz
      refine z_iload_n dX7_clear_7 rfl ?_
      refine i_bipush dX7_clear_8 (by decide) ?_
      refine i_icmp_ge (tgt := 33) dX7_clear_10 (by decide) (by omega) (by omega) (fun h1 => ?_) (fun h1 => ?_)
      · skip
        omega
      · skip
        refine z_aload_n dX7_clear_13 rfl ?_
        refine z_getf cls6 1 flX7_13 dX7_clear_14 (by decide) (rfl) rfl ?_
        refine z_iload_n dX7_clear_17 rfl ?_
        refine i_iconst dX7_clear_18 rfl ?_
        refine i_iast dX7_clear_19 (rfl) l (by omega) (by omega) ?_
        refine z_aload_n dX7_clear_20 rfl ?_
        refine z_getf cls6 16 flX7_61 dX7_clear_21 (by decide) (rfl) rfl ?_
        refine z_iload_n dX7_clear_24 rfl ?_
        refine i_iconst dX7_clear_25 rfl ?_
        refine i_iast dX7_clear_26 (rfl) l (by omega) (by omega) ?_
        have e1 : up (up (up (up (up σ 101 (AI 8 pd)) 112 (AI 8 lt)) 100 (obMd 0 a.nc a.ac a.cp a.cnt no n2 crs a.ex.isSome)) 101 (AI 8 (va_up pd l 0))) 112 (AI 8 (va_up lt l 0)) = up (up (up σ 101 (AI 8 (va_up pd l 0))) 112 (AI 8 (va_up lt l 0))) 100 (obMd 0 a.nc a.ac a.cp a.cnt no n2 crs a.ex.isSome) := by
          rw [up_comm _ _ _ (show (100 : Nat) ≠ 101 by decide), up_comm _ _ _ (show (112 : Nat) ≠ 101 by decide), up_up, up_comm _ _ _ (show (100 : Nat) ≠ 112 by decide), up_up]
        refine z_eqw e1 ?_
        refine i_iinc dX7_clear_27 rfl (by decide) ?_
        refine z_goto (tgt := 7) dX7_clear_30 (by decide) ?_
        refine ih _ _ (fun k hk => ?_)
        by_cases q : k = l
        · rw [q, va_up_self, va_up_self]; exact ⟨rfl, rfl⟩
        · rw [va_up_ne _ _ q, va_up_ne _ _ q]; exact hz k (by omega)
  refine z_aload_n dX7_clear_0 rfl ?_
  refine i_iconst dX7_clear_1 rfl ?_
  refine i_puti cls6 0 flX7_7 dX7_clear_2 (by decide) rfl rfl (by first | exact h100 | rfl) (Nat.le_of_ble_eq_true rfl) ?_
  refine i_iconst dX7_clear_5 rfl ?_
  refine z_istore_n dX7_clear_6 (by decide) ?_
  have e0 : up σ 100 (obMd 0 a.nc a.ac a.cp a.cnt no n2 crs a.ex.isSome) = up (up (up σ 101 (AI 8 a.pd)) 112 (AI 8 a.lt)) 100 (obMd 0 a.nc a.ac a.cp a.cnt no n2 crs a.ex.isSome) := by rw [up_id k1, up_id k12]
  refine z_eqw e0 ?_
  exact H 0 (by omega) a.pd a.lt (fun k hk => absurd hk (Nat.not_lt_zero k))
theorem m_coef (h : MD σ a t) (l v : Int) (hl : i32 l) (hv : i32 v) : KX7_coef [.ref 100, .int (iI l), .int (iI v)] σ (QM (cdCoef l v) (.int (iI (a.pd l.toNat))) σ a (oCoef a l.toNat v)) NX := by
  obtain ⟨tr, cfM, th, agf, no, n2, crs, cr, tb, gd, wk, h100, k1, k2, k3, k4, k5, k6, k7, k10, k11, k12, k13, k14, k15, k16, g1, g2, g3, g4⟩ := h
  unfold i32 at hl hv
  refine Ct.intro (by decide) (Nat.le_of_ble_eq_true rfl) ?_
  have Hbad : ¬ ((0 ≤ l ∧ l < 8) ∧ (-20 ≤ v ∧ v ≤ 20)) → PX7_coef (QM (cdCoef l v) (.int (iI (a.pd l.toNat))) σ a (oCoef a l.toNat v)) NX 23 [some (.ref 100), some (.int (iI l)), some (.int (iI v)), none] [.ref 100] σ 0 0 := by
    intro hb
    have hc : cdCoef l v = 1 := if_neg hb
    refine i_iconst dX7_coef_23 rfl ?_
    refine z_goto (tgt := 28) dX7_coef_24 (by decide) ?_
    refine i_puti cls6 0 flX7_7 dX7_coef_28 (by decide) rfl rfl (by first | exact h100 | rfl) (Nat.le_of_ble_eq_true rfl) ?_
    refine z_aload_n dX7_coef_31 rfl ?_
    refine z_getf cls6 0 flX7_7 dX7_coef_32 (by decide) (up_self _ _ _) rfl ?_
    refine i_if_eq (tgt := 40) dX7_coef_35 (by decide) (by omega) (fun h1 => ?_) (fun h1 => ?_)
    · skip
      omega
    · skip
      refine i_iconst dX7_coef_38 rfl ?_
      refine z_iret dX7_coef_39 rfl (by decide) (by decide) ⟨⟨0, rfl⟩, fun z => by omega, ?_, F2.rfl.up _ (by omega)⟩
      rw [hc]
      exact ⟨tr, cfM, th, agf, no, n2, crs, cr, tb, gd, wk, rfl, k1, k2, k3, k4, k5, k6, k7.o _ (by omega), k10, k11, k12, k13, k14, k15, k16, g1, g2, g3, g4⟩
  refine z_aload_n dX7_coef_0 rfl ?_
  refine z_iload_n dX7_coef_1 rfl ?_
  refine i_if_lt (tgt := 23) dX7_coef_2 (by decide) (by omega) (fun h1 => ?_) (fun h1 => ?_)
  · skip
    exact Hbad (by omega)
  · skip
    refine z_iload_n dX7_coef_5 rfl ?_
    refine i_bipush dX7_coef_6 (by decide) ?_
    refine i_icmp_gt (tgt := 23) dX7_coef_8 (by decide) (by omega) (by omega) (fun h2 => ?_) (fun h2 => ?_)
    · skip
      exact Hbad (by omega)
    · skip
      refine z_iload_n dX7_coef_11 rfl ?_
      refine i_bipush dX7_coef_12 (by decide) ?_
      refine i_icmp_lt (tgt := 23) dX7_coef_14 (by decide) (by omega) (by omega) (fun h3 => ?_) (fun h3 => ?_)
      · skip
        exact Hbad (by omega)
      · skip
        refine z_iload_n dX7_coef_17 rfl ?_
        refine i_bipush dX7_coef_18 (by decide) ?_
        refine i_icmp_le (tgt := 27) dX7_coef_20 (by decide) (by omega) (by omega) (fun h4 => ?_) (fun h4 => ?_)
        · skip
          have hg : (0 ≤ l ∧ l < 8) ∧ (-20 ≤ v ∧ v ≤ 20) := by omega
          have hc : cdCoef l v = 0 := if_pos hg
          obtain ⟨l, rfl⟩ := Int.eq_ofNat_of_zero_le hg.1.1
          rw [Int.toNat_natCast]
          refine i_iconst dX7_coef_27 rfl ?_
          refine i_puti cls6 0 flX7_7 dX7_coef_28 (by decide) rfl rfl (by first | exact h100 | rfl) (Nat.le_of_ble_eq_true rfl) ?_
          refine z_aload_n dX7_coef_31 rfl ?_
          refine z_getf cls6 0 flX7_7 dX7_coef_32 (by decide) (up_self _ _ _) rfl ?_
          refine i_if_eq (tgt := 40) dX7_coef_35 (by decide) (by omega) (fun h5 => ?_) (fun h5 => ?_)
          · skip
            refine z_aload_n dX7_coef_40 rfl ?_
            refine z_getf cls6 1 flX7_13 dX7_coef_41 (by decide) (up_self _ _ _) rfl ?_
            refine z_iload_n dX7_coef_44 rfl ?_
            refine i_iald dX7_coef_45 (k1) l (by omega) (by omega) ?_
            refine z_istore_n dX7_coef_46 (by decide) ?_
            refine z_aload_n dX7_coef_47 rfl ?_
            refine z_getf cls6 1 flX7_13 dX7_coef_48 (by decide) (up_self _ _ _) rfl ?_
            refine z_iload_n dX7_coef_51 rfl ?_
            refine z_iload_n dX7_coef_52 rfl ?_
            refine i_iast dX7_coef_53 (k1) l (by omega) (by omega) ?_
            refine z_iload_n dX7_coef_54 rfl ?_
            refine z_iret dX7_coef_55 rfl (by decide) (by decide) ⟨⟨_, rfl⟩, fun _ => rfl, ?_, (F2.rfl.up _ (by omega)).up _ (by omega)⟩
            rw [hc]
            exact ⟨tr, cfM, th, agf, no, n2, crs, cr, tb, gd, wk, rfl, rfl, k2, k3, k4, k5, k6, (k7.o _ (by omega)).o _ (by omega), k10, k11, k12, k13, k14, k15, k16, g1, g2, g3, g4⟩
          · skip
            omega
        · skip
          exact Hbad (by omega)
theorem m_node {nc ac : Nat} {cp : Bool} {cnt : Nat} {no n2 : Int} {crs : Nat} {ex : Bool} {op lf rt : Nat → Int} {x l r : Int} (h100 : σ 100 = some (obMd t nc ac cp cnt no n2 crs ex)) (k2 : σ 102 = some (AI 20 op)) (k3 : σ 103 = some (AI 20 lf)) (k4 : σ 104 = some (AI 20 rt)) (hn : nc < 20) : KX7_node [.ref 100, .int (iI x), .int (iI l), .int (iI r)] σ (Rt (some (.int (iI nc))) (up (up (up (up σ 102 (AI 20 (va_up op nc x))) 103 (AI 20 (va_up lf nc l))) 104 (AI 20 (va_up rt nc r))) 100 (obMd t (nc + 1) ac cp cnt no n2 crs ex))) NX := by
  refine Ct.intro (by decide) (Nat.le_of_ble_eq_true rfl) ?_
  refine z_aload_n dX7_node_0 rfl ?_
  refine z_getf cls6 3 flX7_20 dX7_node_1 (by decide) (by first | exact h100 | rfl) rfl ?_
  refine z_aload_n dX7_node_4 rfl ?_
  refine z_getf cls6 2 flX7_17 dX7_node_5 (by decide) (by first | exact h100 | rfl) rfl ?_
  refine z_iload_n dX7_node_8 rfl ?_
  refine i_iast dX7_node_9 (k2) nc (by omega) (by omega) ?_
  refine z_aload_n dX7_node_10 rfl ?_
  refine z_getf cls6 4 flX7_23 dX7_node_11 (by decide) (by first | exact h100 | rfl) rfl ?_
  refine z_aload_n dX7_node_14 rfl ?_
  refine z_getf cls6 2 flX7_17 dX7_node_15 (by decide) (by first | exact h100 | rfl) rfl ?_
  refine z_iload_n dX7_node_18 rfl ?_
  refine i_iast dX7_node_19 (k3) nc (by omega) (by omega) ?_
  refine z_aload_n dX7_node_20 rfl ?_
  refine z_getf cls6 5 flX7_26 dX7_node_21 (by decide) (by first | exact h100 | rfl) rfl ?_
  refine z_aload_n dX7_node_24 rfl ?_
  refine z_getf cls6 2 flX7_17 dX7_node_25 (by decide) (by first | exact h100 | rfl) rfl ?_
  refine z_iload_n dX7_node_28 rfl ?_
  refine i_iast dX7_node_29 (k4) nc (by omega) (by omega) ?_
  refine z_aload_n dX7_node_30 rfl ?_
  refine z_dup dX7_node_31 rfl ?_
  refine z_getf cls6 2 flX7_17 dX7_node_32 (by decide) (by first | exact h100 | rfl) rfl ?_
  refine i_iconst dX7_node_35 rfl ?_
  refine i_iadd dX7_node_36 ?_
  refine i_puti cls6 2 flX7_17 dX7_node_37 (by decide) rfl rfl (by first | exact h100 | rfl) (Nat.le_of_ble_eq_true rfl) ?_
  rw [show ((nc : Int) + 1) = ((nc + 1 : Nat) : Int) by omega]
  refine z_aload_n dX7_node_40 rfl ?_
  refine z_getf cls6 2 flX7_17 dX7_node_41 (by decide) (up_self _ _ _) rfl ?_
  refine i_iconst dX7_node_44 rfl ?_
  refine i_isub dX7_node_45 ?_
  rw [show ((nc + 1 : Nat) : Int) - 1 = (nc : Int) by omega]
  exact i_iret dX7_node_46 rfl (by decide) (by decide) rfl
theorem m_full {nc ac : Nat} {cp : Bool} {cnt : Nat} {no n2 : Int} {crs : Nat} {ex : Bool} (h100 : σ 100 = some (obMd t nc ac cp cnt no n2 crs ex)) (hn : nc ≤ 20) : KX7_full [.ref 100] σ (Rt (some (.int (iI (bI (!(takN nc cp)))))) σ) NX := by
  refine Ct.intro (by decide) (Nat.le_of_ble_eq_true rfl) ?_
  refine z_aload_n dX7_full_0 rfl ?_
  refine z_getf cls6 12 flX7_48 dX7_full_1 (by decide) (by first | exact h100 | rfl) rfl ?_
  refine i_ifb_ne (tgt := 16) dX7_full_4 (by decide) (fun h1 => ?_) (fun h1 => ?_)
  · skip
    refine i_iconst dX7_full_16 rfl ?_
    refine z_goto (tgt := 21) dX7_full_17 (by decide) ?_
    exact i_rt dX7_full_21 rfl (by decide) (by decide) (by unfold takN; rw [h1]; rfl) rfl
  · skip
    refine z_aload_n dX7_full_7 rfl ?_
    refine z_getf cls6 2 flX7_17 dX7_full_8 (by decide) (by first | exact h100 | rfl) rfl ?_
    refine i_bipush dX7_full_11 (by decide) ?_
    refine i_icmp_ne (tgt := 20) dX7_full_13 (by decide) (by omega) (by omega) (fun h2 => ?_) (fun h2 => ?_)
    · skip
      refine i_iconst dX7_full_20 rfl ?_
      exact i_rf dX7_full_21 rfl (by decide) (by decide) (by unfold takN; rw [h1, blt_t (by omega)]; rfl) rfl
    · skip
      refine i_iconst dX7_full_16 rfl ?_
      refine z_goto (tgt := 21) dX7_full_17 (by decide) ?_
      exact i_rt dX7_full_21 rfl (by decide) (by decide) (by unfold takN; rw [h1, blt_f (by omega)]; rfl) rfl
theorem m_atom {nc ac : Nat} {cp : Bool} {cnt : Nat} {no n2 : Int} {crs : Nat} {ex : Bool} {op lf rt M E B pd cfM : Nat → Int} {e m : Int} (h100 : σ 100 = some (obMd t nc ac cp cnt no n2 crs ex)) (k1 : σ 101 = some (AI 8 pd)) (k2 : σ 102 = some (AI 20 op)) (k3 : σ 103 = some (AI 20 lf)) (k4 : σ 104 = some (AI 20 rt)) (k6 : σ 106 = some (AI 40 cfM)) (k7 : MC σ M E B) (hn : nc < 20) (ha : ac < 5) (he : -20 ≤ e ∧ e ≤ 20) (hp : ∀ l, l < 8 → -20 ≤ pd l ∧ pd l ≤ 20) :
    KX7_atom [.ref 100, .int (iI e), .int (iI m)] σ (fun r u => ∃ cfM' : Nat → Int, r = some (.int (iI nc)) ∧ (∀ q, q < 100 ∨ 109 < q ∨ q = 105 → u q = σ q) ∧ u 100 = some (obMd t (nc + 1) (ac + 1) cp cnt no n2 crs ex) ∧ u 101 = some (AI 8 (fun _ => 0)) ∧ u 102 = some (AI 20 (va_up op nc 3)) ∧ u 103 = some (AI 20 (va_up lf nc (ac : Nat))) ∧ u 104 = some (AI 20 (va_up rt nc 0)) ∧ u 106 = some (AI 40 cfM') ∧ MC u (va_up M ac m) (va_up E ac e) (va_up B ac (bndF e pd 8)) ∧ (∀ p, p < 8 * ac ∨ 8 * ac + 8 ≤ p → cfM' p = cfM p) ∧ ∀ l, l < 8 → cfM' (8 * ac + l) = pd l) NX := by
  refine Ct.intro (by decide) (Nat.le_of_ble_eq_true rfl) ?_
  obtain ⟨Q, hQ⟩ : ∃ Q : Option Value → Wd → Prop, Q = fun r u => ∃ cfM' : Nat → Int, r = some (.int (iI nc)) ∧ (∀ q, q < 100 ∨ 109 < q ∨ q = 105 → u q = σ q) ∧ u 100 = some (obMd t (nc + 1) (ac + 1) cp cnt no n2 crs ex) ∧ u 101 = some (AI 8 (fun _ => 0)) ∧ u 102 = some (AI 20 (va_up op nc 3)) ∧ u 103 = some (AI 20 (va_up lf nc (ac : Nat))) ∧ u 104 = some (AI 20 (va_up rt nc 0)) ∧ u 106 = some (AI 40 cfM') ∧ MC u (va_up M ac m) (va_up E ac e) (va_up B ac (bndF e pd 8)) ∧ (∀ p, p < 8 * ac ∨ 8 * ac + 8 ≤ p → cfM' p = cfM p) ∧ ∀ l, l < 8 → cfM' (8 * ac + l) = pd l := ⟨_, rfl⟩
  rw [← hQ]
  have H : ∀ l : Nat, l ≤ 8 → ∀ (pd' cf' : Nat → Int) (o5 : Option Value), (∀ k, k < l → pd' k = 0) → (∀ k, l ≤ k → pd' k = pd k) → (∀ p, p < 8 * ac ∨ 8 * ac + 8 ≤ p → cf' p = cfM p) → (∀ k, k < l → cf' (8 * ac + k) = pd k) → PX7_atom Q NX 16 [some (.ref 100), some (.int (iI e)), some (.int (iI m)), some (.int (iI (bndF e pd l))), some (.int (iI l)), o5] [] (up (up σ 101 (AI 8 pd')) 106 (AI 40 cf')) 0 0 := by
    refine up_to 8 ?_ ?_
    · intro pd' cf' o5 z1 z2 z3 z4
      have hh : up (up σ 101 (AI 8 pd')) 106 (AI 40 cf') 100 = some (obMd t nc ac cp cnt no n2 crs ex) := h100
      refine z_iload dX7_atom_16 rfl ?_
      refine i_bipush dX7_atom_18 (by decide) ?_
      refine i_icmp_ge (tgt := 83) dX7_atom_20 (by decide) (by omega) (by omega) (fun h1 => ?_) (fun h1 => ?_)
      · skip
        refine z_aload_n dX7_atom_83 rfl ?_
        refine z_getf cls6 9 flX7_39 dX7_atom_84 (by decide) (h100) rfl ?_
        refine z_aload_n dX7_atom_87 rfl ?_
        refine z_getf cls6 7 flX7_33 dX7_atom_88 (by decide) (h100) rfl ?_
        refine z_iload_n dX7_atom_91 rfl ?_
        refine i_iast dX7_atom_92 (k7.1) ac (by omega) (by omega) ?_
        refine z_aload_n dX7_atom_93 rfl ?_
        refine z_getf cls6 10 flX7_42 dX7_atom_94 (by decide) (h100) rfl ?_
        refine z_aload_n dX7_atom_97 rfl ?_
        refine z_getf cls6 7 flX7_33 dX7_atom_98 (by decide) (h100) rfl ?_
        refine z_iload_n dX7_atom_101 rfl ?_
        refine i_iast dX7_atom_102 (k7.2.1) ac (by omega) (by omega) ?_
        refine z_aload_n dX7_atom_103 rfl ?_
        refine z_getf cls6 11 flX7_45 dX7_atom_104 (by decide) (h100) rfl ?_
        refine z_aload_n dX7_atom_107 rfl ?_
        refine z_getf cls6 7 flX7_33 dX7_atom_108 (by decide) (h100) rfl ?_
        refine z_iload_n dX7_atom_111 rfl ?_
        refine i_iast dX7_atom_112 (k7.2.2) ac (by omega) (by omega) ?_
        refine z_aload_n dX7_atom_113 rfl ?_
        refine z_dup dX7_atom_114 rfl ?_
        refine z_getf cls6 7 flX7_33 dX7_atom_115 (by decide) (h100) rfl ?_
        refine i_iconst dX7_atom_118 rfl ?_
        refine i_iadd dX7_atom_119 ?_
        refine i_puti cls6 7 flX7_33 dX7_atom_120 (by decide) rfl rfl (h100) (Nat.le_of_ble_eq_true rfl) ?_
        rw [show ((ac : Int) + 1) = ((ac + 1 : Nat) : Int) by omega]
        refine z_aload_n dX7_atom_123 rfl ?_
        refine i_iconst dX7_atom_124 rfl ?_
        refine z_aload_n dX7_atom_125 rfl ?_
        refine z_getf cls6 7 flX7_33 dX7_atom_126 (by decide) (up_self _ _ _) rfl ?_
        refine i_iconst dX7_atom_129 rfl ?_
        refine i_isub dX7_atom_130 ?_
        refine i_iconst dX7_atom_131 rfl ?_
        rw [show ((ac + 1 : Nat) : Int) - 1 = (ac : Int) by omega]
        refine z_arrI (o := 101) (n := 8) (f := pd') (fun _ => 0) rfl (fun j hj => z1 j hj) ?_
        refine i_cVr (m_node rfl k2 k3 k4 hn) mX7_132 dX7_atom_132 (rfl) rfl rfl rfl ⟨by decide, by decide⟩ (Nat.le_of_ble_eq_true rfl) ⟨by decide, by decide⟩ ?_
        refine z_iret dX7_atom_135 rfl (by decide) (by decide) ?_
        rw [hQ]
        refine ⟨cf', rfl, fun q hq => ?_, rfl, rfl, rfl, rfl, rfl, rfl, ⟨rfl, rfl, rfl⟩, z3, z4⟩
        rw [up_ne _ _ (by omega), up_ne _ _ (by omega), up_ne _ _ (by omega), up_ne _ _ (by omega), up_ne _ _ (by omega), up_ne _ _ (by omega), up_ne _ _ (by omega), up_ne _ _ (by omega), up_ne _ _ (by omega), up_ne _ _ (by omega), up_ne _ _ (by omega)]
      · skip
        omega
    · intro l hl ih pd' cf' o5 z1 z2 z3 z4
      have hb := bndF_r he hp l (by omega)
      have hpl := hp l hl
      have H69 : ∀ g : Int, g = bndF e pd (l + 1) → PX7_atom Q NX 69 [some (.ref 100), some (.int (iI e)), some (.int (iI m)), some (.int (iI g)), some (.int (iI l)), some (.int (iI (pd l)))] [] (up (up σ 101 (AI 8 pd')) 106 (AI 40 (va_up cf' (8 * ac + l) (pd l)))) 0 0 := by
        intro g hg
        refine z_aload_n dX7_atom_69 rfl ?_
        refine z_getf cls6 1 flX7_13 dX7_atom_70 (by decide) (h100) rfl ?_
        refine z_iload dX7_atom_73 rfl ?_
        refine i_iconst dX7_atom_75 rfl ?_
        refine i_iast dX7_atom_76 (rfl) l (by omega) (by omega) ?_
        have e1 : up (up (up σ 101 (AI 8 pd')) 106 (AI 40 (va_up cf' (8 * ac + l) (pd l)))) 101 (AI 8 (va_up pd' l 0)) = up (up σ 101 (AI 8 (va_up pd' l 0))) 106 (AI 40 (va_up cf' (8 * ac + l) (pd l))) := by rw [up_comm _ _ _ (show (106 : Nat) ≠ 101 by decide), up_up]
        refine z_eqw e1 ?_
        rw [hg]
        refine i_iinc dX7_atom_77 rfl (by decide) ?_
        refine z_goto (tgt := 16) dX7_atom_80 (by decide) ?_
        refine ih _ _ _ (fun k hk => ?_) (fun k hk => ?_) (fun p hp => ?_) (fun k hk => ?_)
        · by_cases q : k = l
          · rw [q, va_up_self]
          · rw [va_up_ne _ _ q]; exact z1 k (by omega)
        · rw [va_up_ne _ _ (by omega)]; exact z2 k (by omega)
        · rw [va_up_ne _ _ (by omega)]; exact z3 p hp
        · by_cases q : k = l
          · rw [q, va_up_self]
          · rw [va_up_ne _ _ (by omega)]; exact z4 k (by omega)
      have eb : bndF e pd (l + 1) = mxI (bndF e pd l) (absI (pd l)) := rfl
      have H58 : ∀ g : Int, (g = pd l ∧ bndF e pd l < pd l) ∨ (g = bndF e pd l ∧ pd l ≤ bndF e pd l) → PX7_atom Q NX 58 [some (.ref 100), some (.int (iI e)), some (.int (iI m)), some (.int (iI g)), some (.int (iI l)), some (.int (iI (pd l)))] [] (up (up σ 101 (AI 8 pd')) 106 (AI 40 (va_up cf' (8 * ac + l) (pd l)))) 0 0 := by
        intro g hg
        refine z_iload dX7_atom_58 rfl ?_
        refine i_ineg dX7_atom_60 ?_
        refine z_iload_n dX7_atom_61 rfl ?_
        refine i_icmp_le (tgt := 69) dX7_atom_62 (by decide) (by omega) (by omega) (fun h3 => ?_) (fun h3 => ?_)
        · skip
          refine H69 g ?_
          rw [eb]; unfold mxI absI; split <;> split <;> omega
        · skip
          refine z_iload dX7_atom_65 rfl ?_
          refine i_ineg dX7_atom_67 ?_
          refine z_istore_n dX7_atom_68 (by decide) ?_
          refine H69 _ ?_
          rw [eb]; unfold mxI absI; split <;> split <;> omega
      refine z_iload dX7_atom_16 rfl ?_
      refine i_bipush dX7_atom_18 (by decide) ?_
      refine i_icmp_ge (tgt := 83) dX7_atom_20 (by decide) (by omega) (by omega) (fun h1 => ?_) (fun h1 => ?_)
      · skip
        omega
      · skip
        refine z_aload_n dX7_atom_23 rfl ?_
        refine z_getf cls6 1 flX7_13 dX7_atom_24 (by decide) (h100) rfl ?_
        refine z_iload dX7_atom_27 rfl ?_
        refine i_iald dX7_atom_29 (rfl) l (by omega) (by omega) ?_
        rw [z2 l (Nat.le_refl _)]
        refine z_istore dX7_atom_30 (by decide) ?_
        refine z_aload_n dX7_atom_32 rfl ?_
        refine z_getf cls6 8 flX7_36 dX7_atom_33 (by decide) (h100) rfl ?_
        refine i_bipush dX7_atom_36 (by decide) ?_
        refine z_aload_n dX7_atom_38 rfl ?_
        refine z_getf cls6 7 flX7_33 dX7_atom_39 (by decide) (h100) rfl ?_
        refine i_imul dX7_atom_42 ?_
        refine z_iload dX7_atom_43 rfl ?_
        refine i_iadd dX7_atom_45 ?_
        refine z_iload dX7_atom_46 rfl ?_
        refine i_iast dX7_atom_48 (rfl) (8 * ac + l) (by omega) (by omega) ?_
        rw [up_up]
        refine z_iload dX7_atom_49 rfl ?_
        refine z_iload_n dX7_atom_51 rfl ?_
        refine i_icmp_le (tgt := 58) dX7_atom_52 (by decide) (by omega) (by omega) (fun h2 => ?_) (fun h2 => ?_)
        · skip
          exact H58 _ (Or.inr ⟨rfl, h2⟩)
        · skip
          refine z_iload dX7_atom_55 rfl ?_
          refine z_istore_n dX7_atom_57 (by decide) ?_
          exact H58 _ (Or.inl ⟨rfl, h2⟩)
  have H10 : ∀ g : Int, g = absI e → PX7_atom Q NX 10 [some (.ref 100), some (.int (iI e)), some (.int (iI m)), none, none, none] [.int (iI g)] σ 0 0 := by
    intro g hg
    refine i_iconst dX7_atom_10 rfl ?_
    refine i_iadd dX7_atom_11 ?_
    refine z_istore_n dX7_atom_12 (by decide) ?_
    refine i_iconst dX7_atom_13 rfl ?_
    refine z_istore dX7_atom_14 (by decide) ?_
    refine z_eqw (u := up (up σ 101 (AI 8 pd)) 106 (AI 40 cfM)) (by rw [up_id k1, up_id k6]) ?_
    rw [hg]
    exact H 0 (by omega) pd cfM none (fun k hk => absurd hk (Nat.not_lt_zero k)) (fun _ _ => rfl) (fun _ _ => rfl) (fun k hk => absurd hk (Nat.not_lt_zero k))
  refine z_iload_n dX7_atom_0 rfl ?_
  refine i_if_ge (tgt := 9) dX7_atom_1 (by decide) (by omega) (fun h1 => ?_) (fun h1 => ?_)
  · skip
    refine z_iload_n dX7_atom_9 rfl ?_
    exact H10 e (by unfold absI; rw [if_neg (by omega)])
  · skip
    refine z_iload_n dX7_atom_4 rfl ?_
    refine i_ineg dX7_atom_5 ?_
    refine z_goto (tgt := 10) dX7_atom_6 (by decide) ?_
    exact H10 (-e) (by unfold absI; rw [if_pos (by omega)])
end MOD6

