section MODA
variable {σ : Wd} {a : AS} {t : Int}
theorem m_partOf {x : St} {w : Int} (hx : rg x) (hw : 0 ≤ w ∧ w < 3) : KX7_partOf [.int (iI (mdN x : Nat)), .int (iI w)] σ (Rt (some (.int (iI (fc x w)))) σ) NX := by
  refine Ct.intro (by decide) (Nat.le_of_ble_eq_true rfl) ?_
  have h1 := mdN_i hx
  have h2 := bI_r x.1
  have h3 := bI_r x.2.2
  have hx2 := hx
  have hlt := mdN_lt hx
  unfold rg at hx2
  refine z_iload_n dX7_partOf_0 rfl ?_
  refine i_if_ne (tgt := 11) dX7_partOf_1 (by decide) (by omega) (fun h4 => ?_) (fun h4 => ?_)
  · skip
    refine z_iload_n dX7_partOf_11 rfl ?_
    refine i_iconst dX7_partOf_12 rfl ?_
    refine i_icmp_ne (tgt := 23) dX7_partOf_13 (by decide) (by omega) (by omega) (fun h5 => ?_) (fun h5 => ?_)
    · skip
      refine z_iload_n dX7_partOf_23 rfl ?_
      refine i_iconst dX7_partOf_24 rfl ?_
      refine z_iand dX7_partOf_25 ?_
      refine z_eqi _ (md_par hx) ?_
      rw [show bI x.2.2 = fc x w by unfold fc; rw [if_neg h4, if_neg h5]]
      exact i_iret dX7_partOf_26 rfl (by decide) (by decide) rfl
    · skip
      refine z_iload_n dX7_partOf_16 rfl ?_
      refine i_bipush dX7_partOf_17 (by decide) ?_
      refine i_idiv dX7_partOf_19 (by omega) (by omega) (by omega) ?_
      refine z_goto (tgt := 26) dX7_partOf_20 (by decide) ?_
      rw [show (((mdN x : Nat) : Int)).tdiv 86 = fc x w by
        unfold fc; rw [if_neg h4, if_pos h5, Int.tdiv_eq_ediv_of_nonneg (by omega)]
        have hb : bI x.1 = 0 ∨ bI x.1 = 1 := by omega
        rcases hb with hb | hb <;> omega]
      exact i_iret dX7_partOf_26 rfl (by decide) (by decide) rfl
  · skip
    refine z_iload_n dX7_partOf_4 rfl ?_
    refine i_cSr (m_valueOf hx) mX7_97 dX7_partOf_5 rfl rfl ⟨by decide, by decide⟩ (Nat.le_of_ble_eq_true rfl) ⟨by decide, by decide⟩ ?_
    refine z_goto (tgt := 26) dX7_partOf_8 (by decide) ?_
    rw [show x.2.1 = fc x w by unfold fc; rw [if_pos h4]]
    exact i_iret dX7_partOf_26 rfl (by decide) (by decide) rfl
theorem m_output (h : MD σ a t) (hV : VL a) (i : Int) (hi : i32 i) : KX7_output [.ref 100, .int (iI i)] σ (QM (cdOut a i) (.int (iI (bI (fml a.op a.lf a.rt (opA (a.ag i.toNat)) a.nc)))) σ a a) NX := by
  obtain ⟨tr, cfM, th, agf, no, n2, crs, cr, tb, gd, wk, hp⟩ := h
  have hp0 := hp
  obtain ⟨h100, k1, k2, k3, k4, k5, k6, k7, k10, k11, k12, k13, k14, k15, k16, g1, g2, g3, g4⟩ := hp
  have hcl := hV.cnt
  refine Ct.intro (by decide) (Nat.le_of_ble_eq_true rfl) ?_
  obtain ⟨Q, hQ⟩ : ∃ Q : Option Value → Wd → Prop, Q = QM (cdOut a i) (.int (iI (bI (fml a.op a.lf a.rt (opA (a.ag i.toNat)) a.nc)))) σ a a := ⟨_, rfl⟩
  rw [← hQ]
  refine z_aload_n dX7_output_0 rfl ?_
  refine z_aload_n dX7_output_1 rfl ?_
  refine z_iload_n dX7_output_2 rfl ?_
  refine i_cVr (m_noAgent h100 hV.cnt hi) mX7_149 dX7_output_3 (by first | exact h100 | rfl) rfl rfl rfl ⟨by decide, by decide⟩ (Nat.le_of_ble_eq_true rfl) ⟨by decide, by decide⟩ ?_
  refine i_ifb_eq (tgt := 13) dX7_output_6 (by decide) (fun h1 => ?_) (fun h1 => ?_)
  · skip
    have h1 := hasI_t (not_f h1)
    have hc0 : cdOut a i = 0 := if_pos h1
    obtain ⟨i, rfl⟩ := Int.eq_ofNat_of_zero_le h1.1
    rw [Int.toNat_natCast] at hQ
    obtain ⟨v1, v2, v3, v4⟩ := hV.fv (hV.cc (by omega))
    refine i_iconst dX7_output_13 rfl ?_
    refine i_puti cls6 0 flX7_7 dX7_output_14 (by decide) rfl rfl (by first | exact h100 | rfl) (Nat.le_of_ble_eq_true rfl) ?_
    refine z_aload_n dX7_output_17 rfl ?_
    refine z_getf cls6 0 flX7_7 dX7_output_18 (by decide) (up_self _ _ _) rfl ?_
    refine i_if_ne (tgt := 36) dX7_output_21 (by decide) (by omega) (fun h3 => ?_) (fun h3 => ?_)
    · skip
      omega
    · skip
      refine z_aload_n dX7_output_24 rfl ?_
      refine z_iload_n dX7_output_25 rfl ?_
      refine z_eqw (u := up (up σ 100 (obMd 0 a.nc a.ac a.cp a.cnt no n2 crs a.ex.isSome)) 105 (AZ 20 tr)) (by rw [up_id (show up σ 100 _ 105 = some (AZ 20 tr) from k5)]; rfl) ?_
      refine z_callVX (m_outputOf (ag := a.ag) (i := i) (t := 0) rfl k2 k3 k4 k11 v1 v2 v3 (by omega) (fun c hc => g2 i (by omega) c hc) ((hV.oc i (by omega)).rg v4)) mX7_157 dX7_output_26 (rfl) rfl rfl rfl ⟨by decide, by decide⟩ (Nat.le_of_ble_eq_true rfl) ⟨by decide, by decide⟩ (fun _ _ h => h.elim) (fun r u hq => ?_)
      obtain ⟨tr', rfl, rfl⟩ := hq
      have hMD : MD (up (up σ 100 (obMd 0 a.nc a.ac a.cp a.cnt no n2 crs a.ex.isSome)) 105 (AZ 20 tr')) a 0 := ⟨tr', cfM, th, agf, no, n2, crs, cr, tb, gd, wk, rfl, k1, k2, k3, k4, rfl, k6, (k7.o _ (by omega)).o _ (by omega), k10, k11, k12, k13, k14, k15, k16, g1, g2, g3, g4⟩
      refine i_ifb_eq (tgt := 36) dX7_output_29 (by decide) (fun h4 => ?_) (fun h4 => ?_)
      · skip
        refine i_iconst dX7_output_36 rfl ?_
        refine z_zret dX7_output_37 rfl (by decide) (by decide) rfl ?_
        rw [hQ, hc0]
        exact ⟨⟨0, rfl⟩, fun _ => by rw [h4]; rfl, hMD, (F2.rfl.up _ (by omega)).up _ (by omega)⟩
      · skip
        refine i_iconst dX7_output_32 rfl ?_
        refine z_goto (tgt := 37) dX7_output_33 (by decide) ?_
        refine z_zret dX7_output_37 rfl (by decide) (by decide) rfl ?_
        rw [hQ, hc0]
        exact ⟨⟨1, rfl⟩, fun _ => by rw [h4]; rfl, hMD, (F2.rfl.up _ (by omega)).up _ (by omega)⟩
  · skip
    have hc0 : cdOut a i = 1 := if_neg (hasI_f (not_t h1))
    refine i_iconst dX7_output_9 rfl ?_
    refine z_goto (tgt := 14) dX7_output_10 (by decide) ?_
    refine i_puti cls6 0 flX7_7 dX7_output_14 (by decide) rfl rfl (by first | exact h100 | rfl) (Nat.le_of_ble_eq_true rfl) ?_
    refine z_aload_n dX7_output_17 rfl ?_
    refine z_getf cls6 0 flX7_7 dX7_output_18 (by decide) (up_self _ _ _) rfl ?_
    refine i_if_ne (tgt := 36) dX7_output_21 (by decide) (by omega) (fun h3 => ?_) (fun h3 => ?_)
    · skip
      refine i_iconst dX7_output_36 rfl ?_
      refine z_zret dX7_output_37 rfl (by decide) (by decide) rfl ?_
      rw [hQ, hc0]
      exact ⟨⟨0, rfl⟩, fun z => (by cases z), ⟨tr, cfM, th, agf, no, n2, crs, cr, tb, gd, wk, md_t hp0 1⟩, F2.rfl.up _ (by omega)⟩
    · skip
      omega
theorem m_state (h : MD σ a t) (hV : VL a) (i b w : Int) (hi : i32 i) (hb : i32 b) (hw : i32 w) : KX7_state [.ref 100, .int (iI i), .int (iI b), .int (iI w)] σ (QM (cdState a i b w) (.int (iI (fc (a.ag i.toNat b.toNat) w))) σ a a) NX := by
  obtain ⟨tr, cfM, th, agf, no, n2, crs, cr, tb, gd, wk, hp⟩ := h
  have hp0 := hp
  obtain ⟨h100, k1, k2, k3, k4, k5, k6, k7, k10, k11, k12, k13, k14, k15, k16, g1, g2, g3, g4⟩ := hp
  have hcl := hV.cnt
  have hal := hV.ac
  have hb' := hb
  have hw' := hw
  unfold i32 at hb' hw'
  refine Ct.intro (by decide) (Nat.le_of_ble_eq_true rfl) ?_
  obtain ⟨Q, hQ⟩ : ∃ Q : Option Value → Wd → Prop, Q = QM (cdState a i b w) (.int (iI (fc (a.ag i.toNat b.toNat) w))) σ a a := ⟨_, rfl⟩
  rw [← hQ]
  have H30 : ¬ ((0 ≤ i ∧ i < a.cnt) ∧ (0 ≤ b ∧ b < a.ac) ∧ (0 ≤ w ∧ w < 3)) → PX7_state Q NX 30 [some (.ref 100), some (.int (iI i)), some (.int (iI b)), some (.int (iI w))] [.ref 100] σ 0 0 := by
    intro hx
    have hc0 : cdState a i b w = 1 := if_neg hx
    refine i_iconst dX7_state_30 rfl ?_
    refine z_goto (tgt := 35) dX7_state_31 (by decide) ?_
    refine i_puti cls6 0 flX7_7 dX7_state_35 (by decide) rfl rfl (by first | exact h100 | rfl) (Nat.le_of_ble_eq_true rfl) ?_
    refine z_aload_n dX7_state_38 rfl ?_
    refine z_getf cls6 0 flX7_7 dX7_state_39 (by decide) (up_self _ _ _) rfl ?_
    refine i_if_eq (tgt := 49) dX7_state_42 (by decide) (by omega) (fun h3 => ?_) (fun h3 => ?_)
    · skip
      omega
    · skip
      refine i_iconst dX7_state_45 rfl ?_
      refine z_goto (tgt := 63) dX7_state_46 (by decide) ?_
      refine z_iret dX7_state_63 rfl (by decide) (by decide) ?_
      rw [hQ, hc0]
      exact ⟨⟨0, rfl⟩, fun z => (by cases z), ⟨tr, cfM, th, agf, no, n2, crs, cr, tb, gd, wk, md_t hp0 1⟩, F2.rfl.up _ (by omega)⟩
  refine z_aload_n dX7_state_0 rfl ?_
  refine z_aload_n dX7_state_1 rfl ?_
  refine z_iload_n dX7_state_2 rfl ?_
  refine i_cVr (m_noAgent h100 hV.cnt hi) mX7_149 dX7_state_3 (by first | exact h100 | rfl) rfl rfl rfl ⟨by decide, by decide⟩ (Nat.le_of_ble_eq_true rfl) ⟨by decide, by decide⟩ ?_
  refine i_ifb_ne (tgt := 30) dX7_state_6 (by decide) (fun h1 => ?_) (fun h1 => ?_)
  · skip
    exact H30 (fun z => hasI_f (not_t h1) z.1)
  · skip
    have h1 := hasI_t (not_f h1)
    refine z_iload_n dX7_state_9 rfl ?_
    refine i_if_lt (tgt := 30) dX7_state_10 (by decide) (by omega) (fun h3 => ?_) (fun h3 => ?_)
    · skip
      exact H30 (by omega)
    · skip
      refine z_iload_n dX7_state_13 rfl ?_
      refine z_aload_n dX7_state_14 rfl ?_
      refine z_getf cls6 7 flX7_33 dX7_state_15 (by decide) (by first | exact h100 | rfl) rfl ?_
      refine i_icmp_ge (tgt := 30) dX7_state_18 (by decide) (by omega) (by omega) (fun h4 => ?_) (fun h4 => ?_)
      · skip
        exact H30 (by omega)
      · skip
        refine z_iload_n dX7_state_21 rfl ?_
        refine i_if_lt (tgt := 30) dX7_state_22 (by decide) (by omega) (fun h5 => ?_) (fun h5 => ?_)
        · skip
          exact H30 (by omega)
        · skip
          refine z_iload_n dX7_state_25 rfl ?_
          refine i_iconst dX7_state_26 rfl ?_
          refine i_icmp_le (tgt := 34) dX7_state_27 (by decide) (by omega) (by omega) (fun h6 => ?_) (fun h6 => ?_)
          · skip
            have hg : (0 ≤ i ∧ i < a.cnt) ∧ (0 ≤ b ∧ b < a.ac) ∧ (0 ≤ w ∧ w < 3) := by omega
            have hc0 : cdState a i b w = 0 := if_pos hg
            obtain ⟨i, rfl⟩ := Int.eq_ofNat_of_zero_le hg.1.1
            obtain ⟨b, rfl⟩ := Int.eq_ofNat_of_zero_le hg.2.1.1
            rw [Int.toNat_natCast, Int.toNat_natCast] at hQ
            refine i_iconst dX7_state_34 rfl ?_
            refine i_puti cls6 0 flX7_7 dX7_state_35 (by decide) rfl rfl (by first | exact h100 | rfl) (Nat.le_of_ble_eq_true rfl) ?_
            refine z_aload_n dX7_state_38 rfl ?_
            refine z_getf cls6 0 flX7_7 dX7_state_39 (by decide) (up_self _ _ _) rfl ?_
            refine i_if_eq (tgt := 49) dX7_state_42 (by decide) (by omega) (fun h7 => ?_) (fun h7 => ?_)
            · skip
              refine z_aload_n dX7_state_49 rfl ?_
              refine z_getf cls6 15 flX7_58 dX7_state_50 (by decide) (up_self _ _ _) rfl ?_
              refine i_iconst dX7_state_53 rfl ?_
              refine z_iload_n dX7_state_54 rfl ?_
              refine i_imul dX7_state_55 ?_
              refine z_iload_n dX7_state_56 rfl ?_
              refine i_iadd dX7_state_57 ?_
              refine i_iald dX7_state_58 (k11) (5 * i + b) (by omega) (by omega) ?_
              rw [g2 i (by omega) b (by omega)]
              refine z_iload_n dX7_state_59 rfl ?_
              refine i_cSr (m_partOf ((hV.oc i (by omega)).rg hV.ok b (by omega)) hg.2.2) mX7_160 dX7_state_60 rfl rfl ⟨by decide, by decide⟩ (Nat.le_of_ble_eq_true rfl) ⟨by decide, by decide⟩ ?_
              refine z_iret dX7_state_63 rfl (by decide) (by decide) ?_
              rw [hQ, hc0]
              exact ⟨⟨_, rfl⟩, fun _ => rfl, ⟨tr, cfM, th, agf, no, n2, crs, cr, tb, gd, wk, md_t hp0 0⟩, F2.rfl.up _ (by omega)⟩
            · skip
              omega
          · skip
            exact H30 (by omega)
theorem m_truth (h : MD σ a t) (hV : VL a) : KX7_truth [.ref 100] σ (QM (cdTruth a) (.int (iI (bI (trV a)))) σ a a) NX := by
  obtain ⟨tr, cfM, th, agf, no, n2, crs, cr, tb, gd, wk, hp⟩ := h
  have hp0 := hp
  obtain ⟨h100, k1, k2, k3, k4, k5, k6, k7, k10, k11, k12, k13, k14, k15, k16, g1, g2, g3, g4⟩ := hp
  have hcl := hV.cnt
  refine Ct.intro (by decide) (Nat.le_of_ble_eq_true rfl) ?_
  obtain ⟨Q, hQ⟩ : ∃ Q : Option Value → Wd → Prop, Q = QM (cdTruth a) (.int (iI (bI (trV a)))) σ a a := ⟨_, rfl⟩
  rw [← hQ]
  refine z_aload_n dX7_truth_0 rfl ?_
  refine z_aload_n dX7_truth_1 rfl ?_
  refine z_getf cls6 12 flX7_48 dX7_truth_2 (by decide) (by first | exact h100 | rfl) rfl ?_
  refine i_ifb_eq (tgt := 12) dX7_truth_5 (by decide) (fun h1 => ?_) (fun h1 => ?_)
  · skip
    have hc0 : cdTruth a = 1 := if_neg (by rw [h1]; decide)
    refine i_iconst dX7_truth_12 rfl ?_
    refine i_puti cls6 0 flX7_7 dX7_truth_13 (by decide) rfl rfl (by first | exact h100 | rfl) (Nat.le_of_ble_eq_true rfl) ?_
    refine z_aload_n dX7_truth_16 rfl ?_
    refine z_getf cls6 0 flX7_7 dX7_truth_17 (by decide) (up_self _ _ _) rfl ?_
    refine i_if_ne (tgt := 34) dX7_truth_20 (by decide) (by omega) (fun h3 => ?_) (fun h3 => ?_)
    · skip
      refine i_iconst dX7_truth_34 rfl ?_
      refine z_zret dX7_truth_35 rfl (by decide) (by decide) rfl ?_
      rw [hQ, hc0]
      exact ⟨⟨0, rfl⟩, fun z => (by cases z), ⟨tr, cfM, th, agf, no, n2, crs, cr, tb, gd, wk, md_t hp0 1⟩, F2.rfl.up _ (by omega)⟩
    · skip
      omega
  · skip
    have hc0 : cdTruth a = 0 := if_pos h1
    obtain ⟨v1, v2, v3, v4⟩ := hV.fv h1
    refine i_iconst dX7_truth_8 rfl ?_
    refine z_goto (tgt := 13) dX7_truth_9 (by decide) ?_
    refine i_puti cls6 0 flX7_7 dX7_truth_13 (by decide) rfl rfl (by first | exact h100 | rfl) (Nat.le_of_ble_eq_true rfl) ?_
    refine z_aload_n dX7_truth_16 rfl ?_
    refine z_getf cls6 0 flX7_7 dX7_truth_17 (by decide) (up_self _ _ _) rfl ?_
    refine i_if_ne (tgt := 34) dX7_truth_20 (by decide) (by omega) (fun h3 => ?_) (fun h3 => ?_)
    · skip
      omega
    · skip
      refine z_aload_n dX7_truth_23 rfl ?_
      refine z_eqw (u := up (up σ 100 (obMd 0 a.nc a.ac a.cp a.cnt no n2 crs a.ex.isSome)) 105 (AZ 20 tr)) (by rw [up_id (show up σ 100 _ 105 = some (AZ 20 tr) from k5)]; rfl) ?_
      refine z_callVX (m_truthNow (t := 0) rfl k2 k3 k4 (k7.o _ (by omega)) k6 k12 v1 v2 v3 v4 (fun c hc l hl => g1 c (by omega) l hl) (fun l hl => by have := hV.lt l hl; omega)) mX7_163 dX7_truth_24 (rfl) rfl rfl rfl ⟨by decide, by decide⟩ (Nat.le_of_ble_eq_true rfl) ⟨by decide, by decide⟩ (fun _ _ h => h.elim) (fun r u hq => ?_)
      obtain ⟨tr', rfl, rfl⟩ := hq
      have hMD : MD (up (up σ 100 (obMd 0 a.nc a.ac a.cp a.cnt no n2 crs a.ex.isSome)) 105 (AZ 20 tr')) a 0 := ⟨tr', cfM, th, agf, no, n2, crs, cr, tb, gd, wk, rfl, k1, k2, k3, k4, rfl, k6, (k7.o _ (by omega)).o _ (by omega), k10, k11, k12, k13, k14, k15, k16, g1, g2, g3, g4⟩
      refine i_ifb_eq (tgt := 34) dX7_truth_27 (by decide) (fun h4 => ?_) (fun h4 => ?_)
      · skip
        refine i_iconst dX7_truth_34 rfl ?_
        refine z_zret dX7_truth_35 rfl (by decide) (by decide) rfl ?_
        rw [hQ, hc0]
        exact ⟨⟨0, rfl⟩, fun _ => by unfold trV; rw [h4]; rfl, hMD, (F2.rfl.up _ (by omega)).up _ (by omega)⟩
      · skip
        refine i_iconst dX7_truth_30 rfl ?_
        refine z_goto (tgt := 35) dX7_truth_31 (by decide) ?_
        refine z_zret dX7_truth_35 rfl (by decide) (by decide) rfl ?_
        rw [hQ, hc0]
        exact ⟨⟨1, rfl⟩, fun _ => by unfold trV; rw [h4]; rfl, hMD, (F2.rfl.up _ (by omega)).up _ (by omega)⟩
theorem m_silent (h : MD σ a t) (hV : VL a) : KX7_silent [.ref 100] σ (fun r u => r = some (.int (iI (bI (slB a.ac a.M a.E a.B a.ag a.cnt)))) ∧ MD u a 0 ∧ F2 σ u) NX := by
  obtain ⟨tr, cfM, th, agf, no, n2, crs, cr, tb, gd, wk, hp⟩ := h
  have hp0 := hp
  obtain ⟨h100, k1, k2, k3, k4, k5, k6, k7, k10, k11, k12, k13, k14, k15, k16, g1, g2, g3, g4⟩ := hp
  have hct := hV.cnt
  refine Ct.intro (by decide) (Nat.le_of_ble_eq_true rfl) ?_
  obtain ⟨Q, hQ⟩ : ∃ Q : Option Value → Wd → Prop, Q = fun r u => r = some (.int (iI (bI (slB a.ac a.M a.E a.B a.ag a.cnt)))) ∧ MD u a 0 ∧ F2 σ u := ⟨_, rfl⟩
  rw [← hQ]
  have hfin : ∀ (no n2 : Int), MD (MG σ (obMd 0 a.nc a.ac a.cp a.cnt no n2 crs a.ex.isSome) agf) a 0 := fun no n2 => md_g hp0 a.ag a.ex 0 rfl g2 (Or.inl rfl)
  have HI : ∀ i : Nat, i ≤ a.cnt → ∀ (no n2 : Int) (o2 : Option Value), (∀ i', i' < i → allB (fun j => Nat.beq i' j || !(chg a.ac a.M a.E a.B (a.ag i') (a.ag j))) a.cnt = true) → PX7_silent Q NX 7 [some (.ref 100), some (.int (iI i)), o2] [] (MG σ (obMd 0 a.nc a.ac a.cp a.cnt no n2 crs a.ex.isSome) agf) 0 0 := by
    refine up_to a.cnt ?_ ?_
    · intro no n2 o2 hall
      refine z_iload_n dX7_silent_7 rfl ?_
      refine z_aload_n dX7_silent_8 rfl ?_
      refine z_getf cls6 14 flX7_55 dX7_silent_9 (by decide) (MG_100) rfl ?_
      refine i_icmp_ge (tgt := 54) dX7_silent_12 (by decide) (by omega) (by omega) (fun h1 => ?_) (fun h1 => ?_)
      · skip
        refine i_iconst dX7_silent_54 rfl ?_
        refine z_zret dX7_silent_55 rfl (by decide) (by decide) rfl ?_
        rw [hQ]
        exact ⟨by unfold slB; rw [(allB_t a.cnt).mpr hall]; rfl, hfin no n2, MG_F2⟩
      · skip
        omega
    · intro i hi ih no n2 o2 hall
      have HJ : ∀ j : Nat, j ≤ a.cnt → ∀ (no n2 : Int), (∀ j', j' < j → (Nat.beq i j' || !(chg a.ac a.M a.E a.B (a.ag i) (a.ag j'))) = true) → PX7_silent Q NX 17 [some (.ref 100), some (.int (iI i)), some (.int (iI j))] [] (MG σ (obMd 0 a.nc a.ac a.cp a.cnt no n2 crs a.ex.isSome) agf) 0 0 := by
        refine up_to a.cnt ?_ ?_
        · intro no n2 hj
          refine z_iload_n dX7_silent_17 rfl ?_
          refine z_aload_n dX7_silent_18 rfl ?_
          refine z_getf cls6 14 flX7_55 dX7_silent_19 (by decide) (MG_100) rfl ?_
          refine i_icmp_ge (tgt := 48) dX7_silent_22 (by decide) (by omega) (by omega) (fun h1 => ?_) (fun h1 => ?_)
          · skip
            refine i_iinc dX7_silent_48 rfl (by decide) ?_
            refine z_goto (tgt := 7) dX7_silent_51 (by decide) ?_
            refine ih no n2 _ (fun i' hi' => ?_)
            by_cases q : i' = i
            · rw [q]; exact (allB_t a.cnt).mpr hj
            · exact hall i' (by omega)
          · skip
            omega
        · intro j hj ihj no n2 hjj
          have H42 : ∀ (no n2 : Int), (Nat.beq i j || !(chg a.ac a.M a.E a.B (a.ag i) (a.ag j))) = true → PX7_silent Q NX 42 [some (.ref 100), some (.int (iI i)), some (.int (iI j))] [] (MG σ (obMd 0 a.nc a.ac a.cp a.cnt no n2 crs a.ex.isSome) agf) 0 0 := by
            intro no n2 hb
            refine i_iinc dX7_silent_42 rfl (by decide) ?_
            refine z_goto (tgt := 17) dX7_silent_45 (by decide) ?_
            refine ihj no n2 (fun j' hj' => ?_)
            by_cases q : j' = j
            · rw [q]; exact hb
            · exact hjj j' (by omega)
          refine z_iload_n dX7_silent_17 rfl ?_
          refine z_aload_n dX7_silent_18 rfl ?_
          refine z_getf cls6 14 flX7_55 dX7_silent_19 (by decide) (MG_100) rfl ?_
          refine i_icmp_ge (tgt := 48) dX7_silent_22 (by decide) (by omega) (by omega) (fun h1 => ?_) (fun h1 => ?_)
          · skip
            omega
          · skip
            refine z_iload_n dX7_silent_25 rfl ?_
            refine z_iload_n dX7_silent_26 rfl ?_
            refine i_icmp_eq (tgt := 42) dX7_silent_27 (by decide) (by omega) (by omega) (fun h2 => ?_) (fun h2 => ?_)
            · skip
              exact H42 no n2 (by rw [show i = j by omega, Nat.beq_refl]; rfl)
            · skip
              refine z_aload_n dX7_silent_30 rfl ?_
              refine z_iload_n dX7_silent_31 rfl ?_
              refine z_iload_n dX7_silent_32 rfl ?_
              refine i_iconst dX7_silent_33 rfl ?_
              refine z_callVX (m_meets (done := false) k7 hV.ac hV.ok hct (show i ≠ j by omega) hi hj hV.oc g2) mX7_153 dX7_silent_34 (MG_100) rfl rfl rfl ⟨by decide, by decide⟩ (Nat.le_of_ble_eq_true rfl) ⟨by decide, by decide⟩ (fun _ _ h => h.elim) (fun r u hq => ?_)
              obtain ⟨no', n2', g', rfl, rfl, f1, f2⟩ := hq
              rw [f1 rfl, Bool.and_false]
              refine i_ifb_eq (tgt := 42) dX7_silent_37 (by decide) (fun h3 => ?_) (fun h3 => ?_)
              · skip
                exact H42 no' n2' (by rw [h3]; simp)
              · skip
                refine i_iconst dX7_silent_40 rfl ?_
                refine z_zret dX7_silent_41 rfl (by decide) (by decide) rfl ?_
                rw [hQ]
                refine ⟨?_, hfin no' n2', MG_F2⟩
                unfold slB
                rw [allB_f (p := fun i => allB (fun j => Nat.beq i j || !(chg a.ac a.M a.E a.B (a.ag i) (a.ag j))) a.cnt) hi (allB_f (p := fun j => Nat.beq i j || !(chg a.ac a.M a.E a.B (a.ag i) (a.ag j))) hj (by rw [h3, bq (by omega)]; rfl))]
                rfl
      refine z_iload_n dX7_silent_7 rfl ?_
      refine z_aload_n dX7_silent_8 rfl ?_
      refine z_getf cls6 14 flX7_55 dX7_silent_9 (by decide) (MG_100) rfl ?_
      refine i_icmp_ge (tgt := 54) dX7_silent_12 (by decide) (by omega) (by omega) (fun h1 => ?_) (fun h1 => ?_)
      · skip
        omega
      · skip
        refine i_iconst dX7_silent_15 rfl ?_
        refine z_istore_n dX7_silent_16 (by decide) ?_
        exact HJ 0 (by omega) no n2 (fun j' hj' => absurd hj' (Nat.not_lt_zero j'))
  refine z_aload_n dX7_silent_0 rfl ?_
  refine i_iconst dX7_silent_1 rfl ?_
  refine i_puti cls6 0 flX7_7 dX7_silent_2 (by decide) rfl rfl (by first | exact h100 | rfl) (Nat.le_of_ble_eq_true rfl) ?_
  refine i_iconst dX7_silent_5 rfl ?_
  refine z_istore_n dX7_silent_6 (by decide) ?_
  refine z_eqw (u := MG σ (obMd 0 a.nc a.ac a.cp a.cnt no n2 crs a.ex.isSome) agf) (by unfold MG; rw [up_id k11]; rfl) ?_
  exact HI 0 (by omega) no n2 none (fun i' hi' => absurd hi' (Nat.not_lt_zero i'))
theorem m_agree (h : MD σ a t) (hV : VL a) : KX7_agree [.ref 100] σ (fun r u => r = some (.int (iI (bI (omB a.op a.lf a.rt a.nc a.ag a.cnt)))) ∧ MD u a 0 ∧ F2 σ u) NX := by
  obtain ⟨tr, cfM, th, agf, no, n2, crs, cr, tb, gd, wk, hp⟩ := h
  have hp0 := hp
  obtain ⟨h100, k1, k2, k3, k4, k5, k6, k7, k10, k11, k12, k13, k14, k15, k16, g1, g2, g3, g4⟩ := hp
  have hcl := hV.cnt
  refine Ct.intro (by decide) (Nat.le_of_ble_eq_true rfl) ?_
  obtain ⟨Q, hQ⟩ : ∃ Q : Option Value → Wd → Prop, Q = fun r u => r = some (.int (iI (bI (omB a.op a.lf a.rt a.nc a.ag a.cnt)))) ∧ MD u a 0 ∧ F2 σ u := ⟨_, rfl⟩
  rw [← hQ]
  obtain ⟨σ1, hσ1⟩ : ∃ σ1, σ1 = up σ 100 (obMd 0 a.nc a.ac a.cp a.cnt no n2 crs a.ex.isSome) := ⟨_, rfl⟩
  have j0 : σ1 100 = some (obMd 0 a.nc a.ac a.cp a.cnt no n2 crs a.ex.isSome) := by rw [hσ1]; rfl
  have j2 : σ1 102 = some (AI 20 a.op) := by rw [hσ1]; exact k2
  have j3 : σ1 103 = some (AI 20 a.lf) := by rw [hσ1]; exact k3
  have j4 : σ1 104 = some (AI 20 a.rt) := by rw [hσ1]; exact k4
  have j11 : σ1 111 = some (AI 1000 agf) := by rw [hσ1]; exact k11
  have g100 : ∀ tr', up σ1 105 (AZ 20 tr') 100 = some (obMd 0 a.nc a.ac a.cp a.cnt no n2 crs a.ex.isSome) := fun tr' => (up_ne _ _ (by decide)).trans j0
  have hfin : ∀ tr', MD (up σ1 105 (AZ 20 tr')) a 0 ∧ F2 σ (up σ1 105 (AZ 20 tr')) := fun tr' => by
    rw [hσ1]
    exact ⟨⟨tr', cfM, th, agf, no, n2, crs, cr, tb, gd, wk, rfl, k1, k2, k3, k4, rfl, k6, (k7.o _ (by omega)).o _ (by omega), k10, k11, k12, k13, k14, k15, k16, g1, g2, g3, g4⟩, (F2.rfl.up _ (by omega)).up _ (by omega)⟩
  have HI : ∀ (d i : Nat), i + d = a.cnt + 1 → 1 ≤ i → ∀ tr' : Nat → Bool, (∀ i', i' < i → i' < a.cnt → (fml a.op a.lf a.rt (opA (a.ag i')) a.nc == fml a.op a.lf a.rt (opA (a.ag 0)) a.nc) = true) → PX7_agree Q NX 7 [some (.ref 100), some (.int (iI i))] [] (up σ1 105 (AZ 20 tr')) 0 0 := by
    intro d
    have hend : ∀ (i : Nat), a.cnt ≤ i → i ≤ a.cnt + 1 → ∀ tr' : Nat → Bool, (∀ i', i' < i → i' < a.cnt → (fml a.op a.lf a.rt (opA (a.ag i')) a.nc == fml a.op a.lf a.rt (opA (a.ag 0)) a.nc) = true) → PX7_agree Q NX 7 [some (.ref 100), some (.int (iI i))] [] (up σ1 105 (AZ 20 tr')) 0 0 := by
      intro i hi hi2 tr' hall
      refine z_iload_n dX7_agree_7 rfl ?_
      refine z_aload_n dX7_agree_8 rfl ?_
      refine z_getf cls6 14 flX7_55 dX7_agree_9 (by decide) (g100 _) rfl ?_
      refine i_icmp_ge (tgt := 36) dX7_agree_12 (by decide) (by omega) (by omega) (fun h1 => ?_) (fun h1 => ?_)
      · skip
        refine i_iconst dX7_agree_36 rfl ?_
        refine z_zret dX7_agree_37 rfl (by decide) (by decide) rfl ?_
        rw [hQ]
        exact ⟨by unfold omB; rw [(allB_t a.cnt).mpr (fun k hk => hall k (by omega) hk)]; rfl, hfin tr'⟩
      · skip
        omega
    induction d with
    | zero =>
      intro i hi h1 tr' hall
      exact hend i (by omega) (by omega) tr' hall
    | succ d ih =>
      intro i hi h1 tr' hall
      by_cases hic : a.cnt ≤ i
      · exact hend i hic (by omega) tr' hall
      · obtain ⟨v1, v2, v3, v4⟩ := hV.fv (hV.cc (by omega))
        refine z_iload_n dX7_agree_7 rfl ?_
        refine z_aload_n dX7_agree_8 rfl ?_
        refine z_getf cls6 14 flX7_55 dX7_agree_9 (by decide) (g100 _) rfl ?_
        refine i_icmp_ge (tgt := 36) dX7_agree_12 (by decide) (by omega) (by omega) (fun h3 => ?_) (fun h3 => ?_)
        · skip
          omega
        · skip
          refine z_aload_n dX7_agree_15 rfl ?_
          refine z_iload_n dX7_agree_16 rfl ?_
          refine z_callVX (m_outputOf (ag := a.ag) (i := i) j0 j2 j3 j4 j11 v1 v2 v3 (by omega) (fun c hc => g2 i (by omega) c hc) ((hV.oc i (by omega)).rg v4)) mX7_157 dX7_agree_17 (g100 _) rfl rfl rfl ⟨by decide, by decide⟩ (Nat.le_of_ble_eq_true rfl) ⟨by decide, by decide⟩ (fun _ _ h => h.elim) (fun r u hq => ?_)
          obtain ⟨tr1, rfl, rfl⟩ := hq
          refine z_aload_n dX7_agree_20 rfl ?_
          refine i_iconst dX7_agree_21 rfl ?_
          refine z_callVX (m_outputOf (ag := a.ag) (i := 0) j0 j2 j3 j4 j11 v1 v2 v3 (by omega) (fun c hc => g2 0 (by omega) c hc) ((hV.oc 0 (by omega)).rg v4)) mX7_157 dX7_agree_22 (g100 _) rfl rfl rfl ⟨by decide, by decide⟩ (Nat.le_of_ble_eq_true rfl) ⟨by decide, by decide⟩ (fun _ _ h => h.elim) (fun r u hq => ?_)
          obtain ⟨tr2, rfl, rfl⟩ := hq
          have b1 := bI_r (fml a.op a.lf a.rt (opA (a.ag i)) a.nc)
          have b2 := bI_r (fml a.op a.lf a.rt (opA (a.ag 0)) a.nc)
          refine i_icmp_eq (tgt := 30) dX7_agree_25 (by decide) (by omega) (by omega) (fun h4 => ?_) (fun h4 => ?_)
          · skip
            refine i_iinc dX7_agree_30 rfl (by decide) ?_
            refine z_goto (tgt := 7) dX7_agree_33 (by decide) ?_
            refine ih (i + 1) (by omega) (by omega) tr2 (fun i' hi' hc' => ?_)
            by_cases q : i' = i
            · rw [q, bI_inj.mp h4]; simp
            · exact hall i' (by omega) hc'
          · skip
            refine i_iconst dX7_agree_28 rfl ?_
            refine z_zret dX7_agree_29 rfl (by decide) (by decide) rfl ?_
            rw [hQ]
            refine ⟨?_, hfin tr2⟩
            unfold omB
            rw [allB_f (p := fun k => fml a.op a.lf a.rt (opA (a.ag k)) a.nc == fml a.op a.lf a.rt (opA (a.ag 0)) a.nc) (show i < a.cnt by omega) (by
              rw [beq_eq_false_iff_ne]
              exact fun z => h4 (by rw [z]))]
            rfl
  refine z_aload_n dX7_agree_0 rfl ?_
  refine i_iconst dX7_agree_1 rfl ?_
  refine i_puti cls6 0 flX7_7 dX7_agree_2 (by decide) rfl rfl (by first | exact h100 | rfl) (Nat.le_of_ble_eq_true rfl) ?_
  refine i_iconst dX7_agree_5 rfl ?_
  refine z_istore_n dX7_agree_6 (by decide) ?_
  refine z_eqw (u := up σ1 105 (AZ 20 tr)) (by rw [hσ1, up_id (show up σ 100 _ 105 = some (AZ 20 tr) from k5)]; rfl) ?_
  refine HI a.cnt 1 (by omega) (Nat.le_refl _) tr (fun i' hi' _ => ?_)
  rw [show i' = 0 by omega]; simp
end MODA

