section MODB
variable {σ : Wd} {a : AS} {t : Int}
theorem m_tableFault {no n2 : Int} {crs : Nat} {ex : Bool} {b w n : Int} (h100 : σ 100 = some (obMd t a.nc a.ac a.cp a.cnt no n2 crs ex)) (hV : VL a) (hb : i32 b) (hw : i32 w) (hn : 0 ≤ n ∧ n ≤ 10) : KX7_tableFault [.ref 100, .int (iI b), .int (iI w), .int (iI n)] σ (Rt (some (.int (iI ((cdTab a b w (n + 1) : Nat) : Int)))) σ) NX := by
  unfold i32 at hb hw
  have hal := hV.ac
  refine Ct.intro (by decide) (Nat.le_of_ble_eq_true rfl) ?_
  have H21 : ¬ ((0 ≤ b ∧ b < a.ac) ∧ (0 ≤ w ∧ w < n + 1)) → PX7_tableFault (Rt (some (.int (iI ((cdTab a b w (n + 1) : Nat) : Int)))) σ) NX 21 [some (.ref 100), some (.int (iI b)), some (.int (iI w)), some (.int (iI n))] [] σ 0 0 := by
    intro hx
    rw [show cdTab a b w (n + 1) = 1 from if_neg hx]
    refine i_iconst dX7_tableFault_21 rfl ?_
    refine z_goto (tgt := 37) dX7_tableFault_22 (by decide) ?_
    exact i_iret dX7_tableFault_37 rfl (by decide) (by decide) rfl
  refine z_iload_n dX7_tableFault_0 rfl ?_
  refine i_if_lt (tgt := 21) dX7_tableFault_1 (by decide) (by omega) (fun h1 => ?_) (fun h1 => ?_)
  · skip
    exact H21 (by omega)
  · skip
    refine z_iload_n dX7_tableFault_4 rfl ?_
    refine z_aload_n dX7_tableFault_5 rfl ?_
    refine z_getf cls6 7 flX7_33 dX7_tableFault_6 (by decide) (by first | exact h100 | rfl) rfl ?_
    refine i_icmp_ge (tgt := 21) dX7_tableFault_9 (by decide) (by omega) (by omega) (fun h2 => ?_) (fun h2 => ?_)
    · skip
      exact H21 (by omega)
    · skip
      refine z_iload_n dX7_tableFault_12 rfl ?_
      refine i_if_lt (tgt := 21) dX7_tableFault_13 (by decide) (by omega) (fun h3 => ?_) (fun h3 => ?_)
      · skip
        exact H21 (by omega)
      · skip
        refine z_iload_n dX7_tableFault_16 rfl ?_
        refine z_iload_n dX7_tableFault_17 rfl ?_
        refine i_icmp_le (tgt := 25) dX7_tableFault_18 (by decide) (by omega) (by omega) (fun h4 => ?_) (fun h4 => ?_)
        · skip
          have hg : (0 ≤ b ∧ b < a.ac) ∧ (0 ≤ w ∧ w < n + 1) := by omega
          refine z_aload_n dX7_tableFault_25 rfl ?_
          refine z_getf cls6 12 flX7_48 dX7_tableFault_26 (by decide) (by first | exact h100 | rfl) rfl ?_
          refine i_ifb_ne (tgt := 36) dX7_tableFault_29 (by decide) (fun h5 => ?_) (fun h5 => ?_)
          · skip
            rw [show cdTab a b w (n + 1) = 0 by unfold cdTab; rw [if_pos hg, if_pos h5]]
            refine i_iconst dX7_tableFault_36 rfl ?_
            exact i_iret dX7_tableFault_37 rfl (by decide) (by decide) rfl
          · skip
            rw [show cdTab a b w (n + 1) = 2 by unfold cdTab; rw [if_pos hg, if_neg (by rw [h5]; decide)]]
            refine i_iconst dX7_tableFault_32 rfl ?_
            refine z_goto (tgt := 37) dX7_tableFault_33 (by decide) ?_
            exact i_iret dX7_tableFault_37 rfl (by decide) (by decide) rfl
        · skip
          exact H21 (by omega)
theorem cdTab_le (b w n : Int) : cdTab a b w n ≤ 2 := by unfold cdTab; split <;> (try split) <;> omega
theorem m_table (h : MD σ a t) (hV : VL a) {N : Nat → Nat} {xs : Nat → Nat → St} (hE : EN a N xs) (b w : Int) (hb : i32 b) (hw : i32 w) : KX7_table [.ref 100, .int (iI b), .int (iI w)] σ (QM (cdTab a b w 2) (.int (iI (if w = 0 then ((N b.toNat : Nat) : Int) else ((rnN (a.M b.toNat) (a.E b.toNat) (a.B b.toNat) (N b.toNat) (xs b.toNat) : Nat) : Int)))) σ a a) NX := by
  obtain ⟨tr, cfM, th, agf, no, n2, crs, cr, tb, gd, wk, hp⟩ := h
  have hp0 := hp
  obtain ⟨h100, k1, k2, k3, k4, k5, k6, k7, k10, k11, k12, k13, k14, k15, k16, g1, g2, g3, g4⟩ := hp
  have hal := hV.ac
  have hw' := hw
  unfold i32 at hw'
  have hdl := cdTab_le (a := a) b w 2
  refine Ct.intro (by decide) (Nat.le_of_ble_eq_true rfl) ?_
  obtain ⟨Q, hQ⟩ : ∃ Q : Option Value → Wd → Prop, Q = QM (cdTab a b w 2) (.int (iI (if w = 0 then ((N b.toNat : Nat) : Int) else ((rnN (a.M b.toNat) (a.E b.toNat) (a.B b.toNat) (N b.toNat) (xs b.toNat) : Nat) : Int)))) σ a a := ⟨_, rfl⟩
  rw [← hQ]
  refine z_aload_n dX7_table_0 rfl ?_
  refine z_aload_n dX7_table_1 rfl ?_
  refine z_iload_n dX7_table_2 rfl ?_
  refine z_iload_n dX7_table_3 rfl ?_
  refine i_iconst dX7_table_4 rfl ?_
  refine i_cVr (m_tableFault (n := 1) h100 hV hb hw (by omega)) mX7_176 dX7_table_5 (by first | exact h100 | rfl) rfl rfl rfl ⟨by decide, by decide⟩ (Nat.le_of_ble_eq_true rfl) ⟨by decide, by decide⟩ ?_
  refine i_puti cls6 0 flX7_7 dX7_table_8 (by decide) rfl rfl (by first | exact h100 | rfl) (Nat.le_of_ble_eq_true rfl) ?_
  refine z_aload_n dX7_table_11 rfl ?_
  refine z_getf cls6 0 flX7_7 dX7_table_12 (by decide) (up_self _ _ _) rfl ?_
  rw [show (1 : Int) + 1 = 2 from rfl]
  refine i_if_eq (tgt := 20) dX7_table_15 (by decide) (by omega) (fun h1 => ?_) (fun h1 => ?_)
  · skip
    have hc0 : cdTab a b w 2 = 0 := by omega
    obtain ⟨c1, c2, c3⟩ := cdTab_0 hc0
    obtain ⟨b, rfl⟩ := Int.eq_ofNat_of_zero_le c1.1
    rw [Int.toNat_natCast] at hQ
    have hba : b < a.ac := by omega
    have hob := hV.ok b hba
    have hcf2 : ∀ l, l < 8 → -(a.B b) ≤ a.CF b l ∧ a.CF b l ≤ a.B b := fun l hl => (hob.2 l hl).2
    have hEb := hE c3 b hba
    have hth := g3 c3 b hba
    rw [hc0] at hQ ⊢
    refine z_iload_n dX7_table_20 rfl ?_
    refine i_if_ne (tgt := 32) dX7_table_21 (by decide) (by omega) (fun h3 => ?_) (fun h3 => ?_)
    · skip
      have hml : ∀ i, i < N b → mdN (xs b i) < 172 := fun i hi => mdN_lt (okM_rg hob.1 (hEb.ok hob.1 hcf2 hi))
      have hrn : rsum (RM (a.M b) (a.E b) (a.B b) (N b) (xs b)) 172 172 = rnN (a.M b) (a.E b) (a.B b) (N b) (xs b) := RM_r hEb hml 172 (N b) (fun j hj => hml j hj) (fun j h4 h5 => by omega) (Nat.le_refl _)
      refine z_aload_n dX7_table_32 rfl ?_
      refine z_iload_n dX7_table_33 rfl ?_
      refine i_iconst dX7_table_34 rfl ?_
      refine z_callVX (m_findRule (k := -1) (X0 := 172) (Y0 := 0) (cf := a.CF b) (up_self _ _ _) (k7.o _ (by omega)) k10 (by omega) hob.1 hcf2 hth hEb (by unfold i32; omega) (Nat.le_refl _) (by omega) (Or.inr ⟨rfl, rfl, Or.inl (by omega), rfl⟩)) mX7_179 dX7_table_35 (up_self _ _ _) rfl rfl rfl ⟨by decide, by decide⟩ (Nat.le_of_ble_eq_true rfl) ⟨by decide, by decide⟩ (fun _ _ h => h.elim) (fun r u hq => ?_)
      obtain ⟨no', n2', rfl, rfl⟩ := hq
      rw [up_up, hrn]
      refine i_sipush dX7_table_38 (by decide) ?_
      refine i_iadd dX7_table_41 ?_
      refine z_iret dX7_table_42 rfl (by decide) (by decide) ?_
      rw [hQ]
      refine ⟨⟨_, rfl⟩, fun _ => ?_, ?_, F2.rfl.up _ (by omega)⟩
      · rw [if_neg h3, Int.sub_add_cancel]
      · exact ⟨tr, cfM, th, agf, no', n2', crs, cr, tb, gd, wk, rfl, k1, k2, k3, k4, k5, k6, k7.o _ (by omega), k10, k11, k12, k13, k14, k15, k16, g1, g2, g3, g4⟩
    · skip
      refine z_aload_n dX7_table_24 rfl ?_
      refine z_iload_n dX7_table_25 rfl ?_
      refine i_cVr (m_stateCount (up_self _ _ _) k10 (show b < 5 by omega)) mX7_146 dX7_table_26 (up_self _ _ _) rfl rfl rfl ⟨by decide, by decide⟩ (Nat.le_of_ble_eq_true rfl) ⟨by decide, by decide⟩ ?_
      refine z_goto (tgt := 42) dX7_table_29 (by decide) ?_
      rw [show cntF (fun s => th (172 * b + s)) 172 = N b by rw [← hEb.num hob.1 hcf2]; exact cnt_congr 172 (fun s hs => hth s hs)]
      refine z_iret dX7_table_42 rfl (by decide) (by decide) ?_
      rw [hQ]
      refine ⟨⟨_, rfl⟩, fun _ => by rw [if_pos h3], ⟨tr, cfM, th, agf, no, n2, crs, cr, tb, gd, wk, md_t hp0 0⟩, F2.rfl.up _ (by omega)⟩
  · skip
    refine i_iconst dX7_table_18 rfl ?_
    refine z_iret dX7_table_19 rfl (by decide) (by decide) ?_
    rw [hQ]
    refine ⟨⟨0, rfl⟩, fun z => by omega, ?_, F2.rfl.up _ (by omega)⟩
    rw [if_neg (by omega)]
    exact ⟨tr, cfM, th, agf, no, n2, crs, cr, tb, gd, wk, md_t hp0 _⟩
theorem m_rule (h : MD σ a t) (hV : VL a) {N : Nat → Nat} {xs : Nat → Nat → St} (hE : EN a N xs) (b k w : Int) (hb : i32 b) (hk : i32 k) (hw : i32 w) {i j p q rn : Nat} (hrn : rn = rnN (a.M b.toNat) (a.E b.toNat) (a.B b.toNat) (N b.toNat) (xs b.toNat)) (hR : a.cp = true → 0 ≤ k ∧ k < rn → RLx (a.M b.toNat) (a.E b.toNat) (a.B b.toNat) (N b.toNat) (xs b.toNat) k.toNat i j p q) : KX7_rule [.ref 100, .int (iI b), .int (iI k), .int (iI w)] σ (QM (cdRule a b k w rn) (.int (iI (if w = 0 then (i : Int) else if w = 1 then (j : Int) else if w = 2 then (p : Int) else (q : Int)))) σ a a) NX := by
  obtain ⟨tr, cfM, th, agf, no, n2, crs, cr, tb, gd, wk, hp⟩ := h
  have hp0 := hp
  obtain ⟨h100, k1, k2, k3, k4, k5, k6, k7, k10, k11, k12, k13, k14, k15, k16, g1, g2, g3, g4⟩ := hp
  have hal := hV.ac
  have hw' := hw
  have hk' := hk
  unfold i32 at hw' hk'
  have hdl := cdTab_le (a := a) b w 4
  refine Ct.intro (by decide) (Nat.le_of_ble_eq_true rfl) ?_
  obtain ⟨Q, hQ⟩ : ∃ Q : Option Value → Wd → Prop, Q = QM (cdRule a b k w rn) (.int (iI (if w = 0 then (i : Int) else if w = 1 then (j : Int) else if w = 2 then (p : Int) else (q : Int)))) σ a a := ⟨_, rfl⟩
  rw [← hQ]
  refine z_aload_n dX7_rule_0 rfl ?_
  refine z_aload_n dX7_rule_1 rfl ?_
  refine z_iload_n dX7_rule_2 rfl ?_
  refine z_iload_n dX7_rule_3 rfl ?_
  refine i_iconst dX7_rule_4 rfl ?_
  refine i_cVr (m_tableFault (n := 3) h100 hV hb hw (by omega)) mX7_176 dX7_rule_5 (by first | exact h100 | rfl) rfl rfl rfl ⟨by decide, by decide⟩ (Nat.le_of_ble_eq_true rfl) ⟨by decide, by decide⟩ ?_
  refine i_puti cls6 0 flX7_7 dX7_rule_8 (by decide) rfl rfl (by first | exact h100 | rfl) (Nat.le_of_ble_eq_true rfl) ?_
  refine z_aload_n dX7_rule_11 rfl ?_
  refine z_getf cls6 0 flX7_7 dX7_rule_12 (by decide) (up_self _ _ _) rfl ?_
  rw [show (3 : Int) + 1 = 4 from rfl]
  refine i_if_eq (tgt := 20) dX7_rule_15 (by decide) (by omega) (fun h1 => ?_) (fun h1 => ?_)
  · skip
    have hc0 : cdTab a b w 4 = 0 := by omega
    obtain ⟨c1, c2, c3⟩ := cdTab_0 hc0
    obtain ⟨b, rfl⟩ := Int.eq_ofNat_of_zero_le c1.1
    rw [Int.toNat_natCast] at hrn hR
    have hba : b < a.ac := by omega
    have hob := hV.ok b hba
    have hcf2 : ∀ l, l < 8 → -(a.B b) ≤ a.CF b l ∧ a.CF b l ≤ a.B b := fun l hl => (hob.2 l hl).2
    have hEb := hE c3 b hba
    have hth := g3 c3 b hba
    have hcr : cdRule a b k w rn = if 0 ≤ k ∧ k < rn then 0 else 1 := by unfold cdRule; rw [if_pos hc0]
    rw [hcr] at hQ
    rw [hc0]
    have hml : ∀ i, i < N b → mdN (xs b i) < 172 := fun i hi => mdN_lt (okM_rg hob.1 (hEb.ok hob.1 hcf2 hi))
    have hrn2 : rsum (RM (a.M b) (a.E b) (a.B b) (N b) (xs b)) 172 172 = rn := (RM_r hEb hml 172 (N b) (fun j hj => hml j hj) (fun j h4 h5 => by omega) (Nat.le_refl _)).trans hrn.symm
    have hrl : rn ≤ 29584 := by
      rw [← hrn2]
      have := rsum_le (RM (a.M b) (a.E b) (a.B b) (N b) (xs b)) 172 172
      omega
    have Hno : ∀ (r : Int) (no n2 : Int), ¬ (0 ≤ k ∧ k < rn) → -30000 ≤ r ∧ r < 0 → PX7_rule Q NX 34 [some (.ref 100), some (.int (iI b)), some (.int (iI k)), some (.int (iI w)), none] [.int (iI r)] (up σ 100 (obMd 0 a.nc a.ac a.cp a.cnt no n2 crs a.ex.isSome)) 0 0 := by
      intro r no n2 hx hr
      refine z_istore dX7_rule_34 (by decide) ?_
      refine z_iload dX7_rule_36 rfl ?_
      refine i_if_ge (tgt := 48) dX7_rule_38 (by decide) (by omega) (fun h3 => ?_) (fun h3 => ?_)
      · skip
        omega
      · skip
        refine z_aload_n dX7_rule_41 rfl ?_
        refine i_iconst dX7_rule_42 rfl ?_
        refine i_puti cls6 0 flX7_7 dX7_rule_43 (by decide) rfl rfl (up_self _ _ _) (Nat.le_of_ble_eq_true rfl) ?_
        refine i_iconst dX7_rule_46 rfl ?_
        refine z_iret dX7_rule_47 rfl (by decide) (by decide) ?_
        rw [hQ, if_neg hx, up_up]
        exact ⟨⟨0, rfl⟩, fun z => (by cases z), ⟨tr, cfM, th, agf, no, n2, crs, cr, tb, gd, wk, rfl, k1, k2, k3, k4, k5, k6, k7.o _ (by omega), k10, k11, k12, k13, k14, k15, k16, g1, g2, g3, g4⟩, F2.rfl.up _ (by omega)⟩
    refine z_iload_n dX7_rule_20 rfl ?_
    refine i_if_ge (tgt := 28) dX7_rule_21 (by decide) (by omega) (fun h3 => ?_) (fun h3 => ?_)
    · skip
      by_cases hkr : k < rn
      · obtain ⟨k, rfl⟩ := Int.eq_ofNat_of_zero_le h3
        have hR2 := hR c3 ⟨h3, hkr⟩
        rw [Int.toNat_natCast] at hR2
        obtain ⟨q1, q2, q3, q4, q5, q6, q7, q8⟩ := hR2
        have oi := hEb.ok hob.1 hcf2 q1
        have oj := hEb.ok hob.1 hcf2 q2
        have li := hml i q1
        have lj := hml j q2
        have hnum : ∀ z, z < N b → cntF (fun s => th (172 * b + s)) (mdN (xs b z)) = z := fun z hz => (cnt_congr _ (fun s hs => hth s (by have := hml z hz; omega))).trans (hEb.rk hz)
        refine z_aload_n dX7_rule_28 rfl ?_
        refine z_iload_n dX7_rule_29 rfl ?_
        refine z_iload_n dX7_rule_30 rfl ?_
        refine z_callVX (m_findRule (X0 := mdN (xs b i)) (Y0 := mdN (xs b j)) (cf := a.CF b) (up_self _ _ _) (k7.o _ (by omega)) k10 (by omega) hob.1 hcf2 hth hEb hk (by omega) (by omega) (Or.inl ⟨li, lj, (RM_at hEb q1 q2).trans q3, by rw [RM_r hEb hml _ i (at_j hEb q1).1 (at_j hEb q1).2 (by omega), RM_c hEb q1 _ j (at_j hEb q2).1 (at_j hEb q2).2 (by omega), q4], rfl⟩)) mX7_179 dX7_rule_31 (up_self _ _ _) rfl rfl rfl ⟨by decide, by decide⟩ (Nat.le_of_ble_eq_true rfl) ⟨by decide, by decide⟩ (fun _ _ h => h.elim) (fun r u hq => ?_)
        obtain ⟨no', n2', rfl, rfl⟩ := hq
        rw [up_up]
        have hMD : ∀ (no n2 : Int), MD (up σ 100 (obMd 0 a.nc a.ac a.cp a.cnt no n2 crs a.ex.isSome)) a 0 := fun no n2 => ⟨tr, cfM, th, agf, no, n2, crs, cr, tb, gd, wk, rfl, k1, k2, k3, k4, k5, k6, k7.o _ (by omega), k10, k11, k12, k13, k14, k15, k16, g1, g2, g3, g4⟩
        have ed : ((172 : Int) * ((mdN (xs b i) : Nat) : Int) + ((mdN (xs b j) : Nat) : Int)).tdiv 172 = ((mdN (xs b i) : Nat) : Int) := by rw [Int.tdiv_eq_ediv_of_nonneg (by omega)]; omega
        have em : ((172 : Int) * ((mdN (xs b i) : Nat) : Int) + ((mdN (xs b j) : Nat) : Int)).tmod 172 = ((mdN (xs b j) : Nat) : Int) := by rw [Int.tmod_eq_emod_of_nonneg (by omega)]; omega
        rw [if_pos ⟨h3, hkr⟩] at hQ
        refine z_istore dX7_rule_34 (by decide) ?_
        refine z_iload dX7_rule_36 rfl ?_
        refine i_if_ge (tgt := 48) dX7_rule_38 (by decide) (by omega) (fun h4 => ?_) (fun h4 => ?_)
        · skip
          refine z_iload_n dX7_rule_48 rfl ?_
          refine i_if_ne (tgt := 64) dX7_rule_49 (by decide) (by omega) (fun h5 => ?_) (fun h5 => ?_)
          · skip
            refine z_iload_n dX7_rule_64 rfl ?_
            refine i_iconst dX7_rule_65 rfl ?_
            refine i_icmp_ne (tgt := 81) dX7_rule_66 (by decide) (by omega) (by omega) (fun h6 => ?_) (fun h6 => ?_)
            · skip
              refine z_aload_n dX7_rule_81 rfl ?_
              refine z_iload_n dX7_rule_82 rfl ?_
              refine z_iload dX7_rule_83 rfl ?_
              refine i_sipush dX7_rule_85 (by decide) ?_
              refine i_idiv dX7_rule_88 (by omega) (by omega) (by omega) ?_
              rw [ed]
              refine z_iload dX7_rule_89 rfl ?_
              refine i_sipush dX7_rule_91 (by decide) ?_
              refine i_irem dX7_rule_94 (by omega) (by omega) (by omega) ?_
              rw [em]
              refine i_cVv (m_meeting (up_self _ _ _) (k7.o _ (by omega)) (by omega) hob.1 oi oj) mX7_105 dX7_rule_95 (up_self _ _ _) rfl rfl rfl ⟨by decide, by decide⟩ (Nat.le_of_ble_eq_true rfl) ⟨by decide, by decide⟩ ?_
              rw [up_up, q7, q8]
              refine z_aload_n dX7_rule_98 rfl ?_
              refine z_iload_n dX7_rule_99 rfl ?_
              refine z_iload_n dX7_rule_100 rfl ?_
              refine i_iconst dX7_rule_101 rfl ?_
              refine i_icmp_ne (tgt := 112) dX7_rule_102 (by decide) (by omega) (by omega) (fun h7 => ?_) (fun h7 => ?_)
              · skip
                refine z_aload_n dX7_rule_112 rfl ?_
                refine z_getf cls6 18 flX7_67 dX7_rule_113 (by decide) (up_self _ _ _) rfl ?_
                refine i_cVr (m_numberOf (up_self _ _ _) k10 (show b < 5 by omega) (show mdN (xs b q) ≤ 172 by have := hml q q6; omega)) mX7_182 dX7_rule_116 (up_self _ _ _) rfl rfl rfl ⟨by decide, by decide⟩ (Nat.le_of_ble_eq_true rfl) ⟨by decide, by decide⟩ ?_
                rw [hnum q q6]
                refine z_iret dX7_rule_119 rfl (by decide) (by decide) ?_
                rw [hQ]
                exact ⟨⟨_, rfl⟩, fun _ => by rw [if_neg h5, if_neg h6, if_neg h7], hMD _ _, F2.rfl.up _ (by omega)⟩
              · skip
                refine z_aload_n dX7_rule_105 rfl ?_
                refine z_getf cls6 17 flX7_64 dX7_rule_106 (by decide) (up_self _ _ _) rfl ?_
                refine z_goto (tgt := 116) dX7_rule_109 (by decide) ?_
                refine i_cVr (m_numberOf (up_self _ _ _) k10 (show b < 5 by omega) (show mdN (xs b p) ≤ 172 by have := hml p q5; omega)) mX7_182 dX7_rule_116 (up_self _ _ _) rfl rfl rfl ⟨by decide, by decide⟩ (Nat.le_of_ble_eq_true rfl) ⟨by decide, by decide⟩ ?_
                rw [hnum p q5]
                refine z_iret dX7_rule_119 rfl (by decide) (by decide) ?_
                rw [hQ]
                exact ⟨⟨_, rfl⟩, fun _ => by rw [if_neg h5, if_neg h6, if_pos h7], hMD _ _, F2.rfl.up _ (by omega)⟩
            · skip
              refine z_aload_n dX7_rule_69 rfl ?_
              refine z_iload_n dX7_rule_70 rfl ?_
              refine z_iload dX7_rule_71 rfl ?_
              refine i_sipush dX7_rule_73 (by decide) ?_
              refine i_irem dX7_rule_76 (by omega) (by omega) (by omega) ?_
              rw [em]
              refine i_cVr (m_numberOf (up_self _ _ _) k10 (show b < 5 by omega) (show mdN (xs b j) ≤ 172 by omega)) mX7_182 dX7_rule_77 (up_self _ _ _) rfl rfl rfl ⟨by decide, by decide⟩ (Nat.le_of_ble_eq_true rfl) ⟨by decide, by decide⟩ ?_
              rw [hnum j q2]
              refine z_iret dX7_rule_80 rfl (by decide) (by decide) ?_
              rw [hQ]
              exact ⟨⟨_, rfl⟩, fun _ => by rw [if_neg h5, if_pos h6], hMD _ _, F2.rfl.up _ (by omega)⟩
          · skip
            refine z_aload_n dX7_rule_52 rfl ?_
            refine z_iload_n dX7_rule_53 rfl ?_
            refine z_iload dX7_rule_54 rfl ?_
            refine i_sipush dX7_rule_56 (by decide) ?_
            refine i_idiv dX7_rule_59 (by omega) (by omega) (by omega) ?_
            rw [ed]
            refine i_cVr (m_numberOf (up_self _ _ _) k10 (show b < 5 by omega) (show mdN (xs b i) ≤ 172 by omega)) mX7_182 dX7_rule_60 (up_self _ _ _) rfl rfl rfl ⟨by decide, by decide⟩ (Nat.le_of_ble_eq_true rfl) ⟨by decide, by decide⟩ ?_
            rw [hnum i q1]
            refine z_iret dX7_rule_63 rfl (by decide) (by decide) ?_
            rw [hQ]
            exact ⟨⟨_, rfl⟩, fun _ => by rw [if_pos h5], hMD _ _, F2.rfl.up _ (by omega)⟩
        · skip
          omega
      · skip
        refine z_aload_n dX7_rule_28 rfl ?_
        refine z_iload_n dX7_rule_29 rfl ?_
        refine z_iload_n dX7_rule_30 rfl ?_
        refine z_callVX (m_findRule (X0 := 172) (Y0 := 0) (cf := a.CF b) (up_self _ _ _) (k7.o _ (by omega)) k10 (by omega) hob.1 hcf2 hth hEb hk (Nat.le_refl _) (by omega) (Or.inr ⟨rfl, rfl, Or.inr (by rw [hrn2]; omega), rfl⟩)) mX7_179 dX7_rule_31 (up_self _ _ _) rfl rfl rfl ⟨by decide, by decide⟩ (Nat.le_of_ble_eq_true rfl) ⟨by decide, by decide⟩ (fun _ _ h => h.elim) (fun r u hq => ?_)
        obtain ⟨no', n2', rfl, rfl⟩ := hq
        rw [up_up, hrn2]
        exact Hno _ no' n2' (by omega) (by omega)
    · skip
      refine i_iconst dX7_rule_24 rfl ?_
      refine z_goto (tgt := 34) dX7_rule_25 (by decide) ?_
      exact Hno (-1) no n2 (by omega) (by omega)
  · skip
    have hcr : cdRule a b k w rn = cdTab a b w 4 := by unfold cdRule; rw [if_neg (by omega)]
    refine i_iconst dX7_rule_18 rfl ?_
    refine z_iret dX7_rule_19 rfl (by decide) (by decide) ?_
    rw [hQ, hcr]
    refine ⟨⟨0, rfl⟩, fun z => by omega, ?_, F2.rfl.up _ (by omega)⟩
    rw [if_neg (by omega)]
    exact ⟨tr, cfM, th, agf, no, n2, crs, cr, tb, gd, wk, md_t hp0 _⟩
theorem m_kind (h : MD σ a t) (hV : VL a) {N : Nat → Nat} {xs : Nat → Nat → St} (hE : EN a N xs) (b k w : Int) (hb : i32 b) (hk : i32 k) (hw : i32 w) : KX7_kind [.ref 100, .int (iI b), .int (iI k), .int (iI w)] σ (QM (cdKind a b k w (N b.toNat)) (.int (iI (fc (xs b.toNat k.toNat) w))) σ a a) NX := by
  obtain ⟨tr, cfM, th, agf, no, n2, crs, cr, tb, gd, wk, hp⟩ := h
  have hp0 := hp
  obtain ⟨h100, k1, k2, k3, k4, k5, k6, k7, k10, k11, k12, k13, k14, k15, k16, g1, g2, g3, g4⟩ := hp
  have hal := hV.ac
  have hw' := hw
  have hk' := hk
  unfold i32 at hw' hk'
  have hdl := cdTab_le (a := a) b w 3
  refine Ct.intro (by decide) (Nat.le_of_ble_eq_true rfl) ?_
  obtain ⟨Q, hQ⟩ : ∃ Q : Option Value → Wd → Prop, Q = QM (cdKind a b k w (N b.toNat)) (.int (iI (fc (xs b.toNat k.toNat) w))) σ a a := ⟨_, rfl⟩
  rw [← hQ]
  refine z_aload_n dX7_kind_0 rfl ?_
  refine z_aload_n dX7_kind_1 rfl ?_
  refine z_iload_n dX7_kind_2 rfl ?_
  refine z_iload_n dX7_kind_3 rfl ?_
  refine i_iconst dX7_kind_4 rfl ?_
  refine i_cVr (m_tableFault (n := 2) h100 hV hb hw (by omega)) mX7_176 dX7_kind_5 (by first | exact h100 | rfl) rfl rfl rfl ⟨by decide, by decide⟩ (Nat.le_of_ble_eq_true rfl) ⟨by decide, by decide⟩ ?_
  refine i_puti cls6 0 flX7_7 dX7_kind_8 (by decide) rfl rfl (by first | exact h100 | rfl) (Nat.le_of_ble_eq_true rfl) ?_
  refine z_aload_n dX7_kind_11 rfl ?_
  refine z_getf cls6 0 flX7_7 dX7_kind_12 (by decide) (up_self _ _ _) rfl ?_
  rw [show (2 : Int) + 1 = 3 from rfl]
  refine i_if_eq (tgt := 20) dX7_kind_15 (by decide) (by omega) (fun h1 => ?_) (fun h1 => ?_)
  · skip
    have hc0 : cdTab a b w 3 = 0 := by omega
    obtain ⟨c1, c2, c3⟩ := cdTab_0 hc0
    obtain ⟨b, rfl⟩ := Int.eq_ofNat_of_zero_le c1.1
    rw [Int.toNat_natCast] at hQ
    have hba : b < a.ac := by omega
    have hob := hV.ok b hba
    have hcf2 : ∀ l, l < 8 → -(a.B b) ≤ a.CF b l ∧ a.CF b l ≤ a.B b := fun l hl => (hob.2 l hl).2
    have hEb := hE c3 b hba
    have hth := g3 c3 b hba
    have hcr : cdKind a b k w (N b) = if 0 ≤ k ∧ k < N b then 0 else 1 := by unfold cdKind; rw [if_pos hc0]
    rw [hcr] at hQ
    rw [hc0]
    have hml : ∀ i, i < N b → mdN (xs b i) < 172 := fun i hi => mdN_lt (okM_rg hob.1 (hEb.ok hob.1 hcf2 hi))
    have H75 : ¬ (0 ≤ k ∧ k < N b) → ∀ o4 : Option Value, PX7_kind Q NX 75 [some (.ref 100), some (.int (iI b)), some (.int (iI k)), some (.int (iI w)), o4] [] (up σ 100 (obMd 0 a.nc a.ac a.cp a.cnt no n2 crs a.ex.isSome)) 0 0 := by
      intro hx o4
      refine z_aload_n dX7_kind_75 rfl ?_
      refine i_iconst dX7_kind_76 rfl ?_
      refine i_puti cls6 0 flX7_7 dX7_kind_77 (by decide) rfl rfl (up_self _ _ _) (Nat.le_of_ble_eq_true rfl) ?_
      refine i_iconst dX7_kind_80 rfl ?_
      refine z_iret dX7_kind_81 rfl (by decide) (by decide) ?_
      rw [hQ, if_neg hx, up_up]
      exact ⟨⟨0, rfl⟩, fun z => (by cases z), ⟨tr, cfM, th, agf, no, n2, crs, cr, tb, gd, wk, rfl, k1, k2, k3, k4, k5, k6, k7.o _ (by omega), k10, k11, k12, k13, k14, k15, k16, g1, g2, g3, g4⟩, F2.rfl.up _ (by omega)⟩
    refine z_iload_n dX7_kind_20 rfl ?_
    refine i_if_lt (tgt := 75) dX7_kind_21 (by decide) (by omega) (fun h3 => ?_) (fun h3 => ?_)
    · skip
      exact H75 (by omega) none
    · skip
      obtain ⟨k, rfl⟩ := Int.eq_ofNat_of_zero_le h3
      rw [Int.toNat_natCast] at hQ
      have HS : ∀ s : Nat, s ≤ 172 → (k < N b → s ≤ mdN (xs b k)) → PX7_kind Q NX 27 [some (.ref 100), some (.int (iI b)), some (.int (iI k)), some (.int (iI w)), some (.int (iI s))] [] (up σ 100 (obMd 0 a.nc a.ac a.cp a.cnt no n2 crs a.ex.isSome)) 0 0 := by
        refine up_to 172 ?_ ?_
        · intro hs
          refine z_iload dX7_kind_27 rfl ?_
          refine i_sipush dX7_kind_29 (by decide) ?_
          refine i_icmp_ge (tgt := 75) dX7_kind_32 (by decide) (by omega) (by omega) (fun h4 => ?_) (fun h4 => ?_)
          · skip
            refine H75 (fun z => ?_) _
            have := hs (by omega)
            have := hml k (by omega)
            omega
          · skip
            omega
        · intro s hs ih hpos
          have H69 : (k < N b → mdN (xs b k) ≠ s) → PX7_kind Q NX 69 [some (.ref 100), some (.int (iI b)), some (.int (iI k)), some (.int (iI w)), some (.int (iI s))] [] (up σ 100 (obMd 0 a.nc a.ac a.cp a.cnt no n2 crs a.ex.isSome)) 0 0 := by
            intro hne
            refine i_iinc dX7_kind_69 rfl (by decide) ?_
            refine z_goto (tgt := 27) dX7_kind_72 (by decide) ?_
            refine ih (fun z => ?_)
            have := hpos z
            have := hne z
            omega
          refine z_iload dX7_kind_27 rfl ?_
          refine i_sipush dX7_kind_29 (by decide) ?_
          refine i_icmp_ge (tgt := 75) dX7_kind_32 (by decide) (by omega) (by omega) (fun h4 => ?_) (fun h4 => ?_)
          · skip
            omega
          · skip
            refine z_aload_n dX7_kind_35 rfl ?_
            refine z_getf cls6 13 flX7_52 dX7_kind_36 (by decide) (up_self _ _ _) rfl ?_
            refine i_sipush dX7_kind_39 (by decide) ?_
            refine z_iload_n dX7_kind_42 rfl ?_
            refine i_imul dX7_kind_43 ?_
            refine z_iload dX7_kind_44 rfl ?_
            refine i_iadd dX7_kind_46 ?_
            refine i_zald dX7_kind_47 (k10) (172 * b + s) (by omega) (by omega) ?_
            refine i_ifb_eq (tgt := 69) dX7_kind_48 (by decide) (fun h5 => ?_) (fun h5 => ?_)
            · skip
              refine H69 (fun z e => ?_)
              have hP := (hEb.P s).mpr ⟨k, z, e⟩
              rw [← hth s hs, h5] at hP; cases hP
            · skip
              obtain ⟨i, i1, i2⟩ := (hEb.P s).mp ((hth s hs).symm.trans h5)
              have hcnt : cntF (fun s => th (172 * b + s)) s = i := by
                rw [← i2]
                exact (cnt_congr _ (fun s hs => hth s (by have := hml i i1; omega))).trans (hEb.rk i1)
              have hil := hEb.2.2.2
              refine z_aload_n dX7_kind_51 rfl ?_
              refine z_iload_n dX7_kind_52 rfl ?_
              refine z_iload dX7_kind_53 rfl ?_
              refine i_cVr (m_numberOf (up_self _ _ _) k10 (show b < 5 by omega) (show s ≤ 172 by omega)) mX7_182 dX7_kind_55 (up_self _ _ _) rfl rfl rfl ⟨by decide, by decide⟩ (Nat.le_of_ble_eq_true rfl) ⟨by decide, by decide⟩ ?_
              refine z_iload_n dX7_kind_58 rfl ?_
              rw [hcnt]
              refine i_icmp_ne (tgt := 69) dX7_kind_59 (by decide) (by omega) (by omega) (fun h6 => ?_) (fun h6 => ?_)
              · skip
                refine H69 (fun z e => h6 ?_)
                rw [← i2] at e
                rw [hEb.inj z i1 e]
              · skip
                have hik : i = k := by omega
                subst hik
                have hki : (0 : Int) ≤ (i : Int) ∧ (i : Int) < N b := by omega
                refine z_iload dX7_kind_62 rfl ?_
                refine z_iload_n dX7_kind_64 rfl ?_
                rw [show ((s : Nat) : Int) = ((mdN (xs b i) : Nat) : Int) by rw [i2]]
                refine i_cSr (m_partOf (okM_rg hob.1 (hEb.ok hob.1 hcf2 i1)) c2) mX7_160 dX7_kind_65 rfl rfl ⟨by decide, by decide⟩ (Nat.le_of_ble_eq_true rfl) ⟨by decide, by decide⟩ ?_
                refine z_iret dX7_kind_68 rfl (by decide) (by decide) ?_
                rw [hQ, if_pos hki]
                exact ⟨⟨_, rfl⟩, fun _ => rfl, ⟨tr, cfM, th, agf, no, n2, crs, cr, tb, gd, wk, md_t hp0 0⟩, F2.rfl.up _ (by omega)⟩
      refine i_iconst dX7_kind_24 rfl ?_
      refine z_istore dX7_kind_25 (by decide) ?_
      exact HS 0 (by omega) (fun _ => Nat.zero_le _)
  · skip
    have hcr : cdKind a b k w (N b.toNat) = cdTab a b w 3 := by unfold cdKind; rw [if_neg (by omega)]
    refine i_iconst dX7_kind_18 rfl ?_
    refine z_iret dX7_kind_19 rfl (by decide) (by decide) ?_
    rw [hQ, hcr]
    refine ⟨⟨0, rfl⟩, fun z => by omega, ?_, F2.rfl.up _ (by omega)⟩
    rw [if_neg (by omega)]
    exact ⟨tr, cfM, th, agf, no, n2, crs, cr, tb, gd, wk, md_t hp0 _⟩
end MODB

