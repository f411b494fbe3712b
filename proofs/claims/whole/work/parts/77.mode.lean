section MODE
variable {σ : Wd} {t : Int} {nc ac : Nat} {cp : Bool} {w : Nat} {no n2 : Int} {crs : Nat} {ex : Bool} {M E B op lf rt : Nat → Int} {CF : Nat → Nat → Int} {tr : Nat → Bool} {cr tb : Nat → Nat} {gd : Nat → Bool} {wk : Nat → Nat}
theorem m_rightCrowd {x : XS} {c : Nat} {due : Bool} (k2 : σ 102 = some (AI 20 op)) (k3 : σ 103 = some (AI 20 lf)) (k4 : σ 104 = some (AI 20 rt)) (hn : 0 < nc ∧ nc ≤ 20) (hwf : ∀ k, k < nc → wfN op lf rt ac k) (hw : w ≤ 6) (hac : ac ≤ 5) (hx : x.2 ≤ 3001) (hxr : RWM ac w x cr) (hc : c < x.2) (hr : ∀ i, i < w → ∀ a, a < ac → rg (x.1 c i a)) :
    KX7_rightCrowd [.ref 100, .int (iI c), .int (iI (bI due))] (MSw σ (obMd t nc ac cp w no n2 crs ex) tr cr tb gd wk) (fun r u => ∃ tr', r = some (.int (iI (bI (allB (fun k => fml op lf rt (opA (x.1 c k)) nc == due) w)))) ∧ u = MSw σ (obMd t nc ac cp w no n2 crs ex) tr' cr tb gd wk) NX := by
  refine Ct.intro (by decide) (Nat.le_of_ble_eq_true rfl) ?_
  obtain ⟨Q, hQ⟩ : ∃ Q : Option Value → Wd → Prop, Q = fun r u => ∃ tr', r = some (.int (iI (bI (allB (fun k => fml op lf rt (opA (x.1 c k)) nc == due) w)))) ∧ u = MSw σ (obMd t nc ac cp w no n2 crs ex) tr' cr tb gd wk := ⟨_, rfl⟩
  rw [← hQ]
  have HI : ∀ i : Nat, i ≤ w → ∀ (tr : Nat → Bool) (o4 : Option Value), (∀ i', i' < i → (fml op lf rt (opA (x.1 c i')) nc == due) = true) → PX7_rightCrowd Q NX 2 [some (.ref 100), some (.int (iI c)), some (.int (iI (bI due))), some (.int (iI i)), o4] [] (MSw σ (obMd t nc ac cp w no n2 crs ex) tr cr tb gd wk) 0 0 := by
    refine up_to w ?_ ?_
    · intro tr o4 hall
      refine z_iload_n dX7_rightCrowd_2 rfl ?_
      refine z_aload_n dX7_rightCrowd_3 rfl ?_
      refine z_getf cls6 14 flX7_55 dX7_rightCrowd_4 (by decide) (MS_100) rfl ?_
      refine i_icmp_ge (tgt := 94) dX7_rightCrowd_7 (by decide) (by omega) (by omega) (fun h1 => ?_) (fun h1 => ?_)
      · skip
        refine i_iconst dX7_rightCrowd_94 rfl ?_
        refine z_zret dX7_rightCrowd_95 rfl (by decide) (by decide) rfl ?_
        rw [hQ]
        exact ⟨tr, by rw [(allB_t w).mpr hall]; rfl, rfl⟩
      · skip
        omega
    · intro i hi ih tr o4 hall
      have HN : ∀ n : Nat, n ≤ nc → ∀ tr : Nat → Bool, (∀ n', n' < n → op n' = 3 → tr n' = opA (x.1 c i) (lf n').toNat) → PX7_rightCrowd Q NX 13 [some (.ref 100), some (.int (iI c)), some (.int (iI (bI due))), some (.int (iI i)), some (.int (iI n))] [] (MSw σ (obMd t nc ac cp w no n2 crs ex) tr cr tb gd wk) 0 0 := by
        refine up_to nc ?_ ?_
        · intro tr htr
          refine z_iload dX7_rightCrowd_13 rfl ?_
          refine z_aload_n dX7_rightCrowd_15 rfl ?_
          refine z_getf cls6 2 flX7_17 dX7_rightCrowd_16 (by decide) (MS_100) rfl ?_
          refine i_icmp_ge (tgt := 78) dX7_rightCrowd_19 (by decide) (by omega) (by omega) (fun h1 => ?_) (fun h1 => ?_)
          · skip
            refine z_aload_n dX7_rightCrowd_78 rfl ?_
            refine z_eqw (up_id MS_105).symm ?_
            refine z_callVX (m_formula (at' := opA (x.1 c i)) MS_100 ((MS_x (by omega)).trans k2) ((MS_x (by omega)).trans k3) ((MS_x (by omega)).trans k4) hn hwf htr) mX7_109 dX7_rightCrowd_79 (rfl) rfl rfl rfl ⟨by decide, by decide⟩ (Nat.le_of_ble_eq_true rfl) ⟨by decide, by decide⟩ (fun _ _ h => h.elim) (fun r u hq => ?_)
            obtain ⟨tr', rfl, rfl⟩ := hq
            rw [MS_s105]
            have b1 := bI_r (fml op lf rt (opA (x.1 c i)) nc)
            have b2 := bI_r due
            refine z_iload_n dX7_rightCrowd_82 rfl ?_
            refine i_icmp_eq (tgt := 88) dX7_rightCrowd_83 (by decide) (by omega) (by omega) (fun h2 => ?_) (fun h2 => ?_)
            · skip
              refine i_iinc dX7_rightCrowd_88 rfl (by decide) ?_
              refine z_goto (tgt := 2) dX7_rightCrowd_91 (by decide) ?_
              refine ih tr' _ (fun i' hi' => ?_)
              by_cases q : i' = i
              · rw [q, bI_inj.mp h2]; simp
              · exact hall i' (by omega)
            · skip
              refine i_iconst dX7_rightCrowd_86 rfl ?_
              refine z_zret dX7_rightCrowd_87 rfl (by decide) (by decide) rfl ?_
              rw [hQ]
              refine ⟨tr', ?_, rfl⟩
              rw [allB_f (p := fun k => fml op lf rt (opA (x.1 c k)) nc == due) hi (by
                rw [beq_eq_false_iff_ne]
                exact fun z => h2 (by rw [z]))]
              rfl
          · skip
            omega
        · intro n hn2 ihn tr htr
          obtain ⟨w1, w2, w3, w4⟩ := hwf n hn2
          have H72 : ∀ tr' : Nat → Bool, (∀ n', n' ≠ n → tr' n' = tr n') → (op n = 3 → tr' n = opA (x.1 c i) (lf n).toNat) → PX7_rightCrowd Q NX 72 [some (.ref 100), some (.int (iI c)), some (.int (iI (bI due))), some (.int (iI i)), some (.int (iI n))] [] (MSw σ (obMd t nc ac cp w no n2 crs ex) tr' cr tb gd wk) 0 0 := by
            intro tr' e1 e2
            refine i_iinc dX7_rightCrowd_72 rfl (by decide) ?_
            refine z_goto (tgt := 13) dX7_rightCrowd_75 (by decide) ?_
            refine ihn tr' (fun n' hn' h3 => ?_)
            by_cases q : n' = n
            · rw [q] at h3 ⊢; exact e2 h3
            · rw [e1 n' q]; exact htr n' (by omega) h3
          refine z_iload dX7_rightCrowd_13 rfl ?_
          refine z_aload_n dX7_rightCrowd_15 rfl ?_
          refine z_getf cls6 2 flX7_17 dX7_rightCrowd_16 (by decide) (MS_100) rfl ?_
          refine i_icmp_ge (tgt := 78) dX7_rightCrowd_19 (by decide) (by omega) (by omega) (fun h1 => ?_) (fun h1 => ?_)
          · skip
            omega
          · skip
            refine z_aload_n dX7_rightCrowd_22 rfl ?_
            refine z_getf cls6 3 flX7_20 dX7_rightCrowd_23 (by decide) (MS_100) rfl ?_
            refine z_iload dX7_rightCrowd_26 rfl ?_
            refine i_iald dX7_rightCrowd_28 ((MS_x (by omega)).trans k2) n (by omega) (by omega) ?_
            refine i_iconst dX7_rightCrowd_29 rfl ?_
            refine i_icmp_ne (tgt := 72) dX7_rightCrowd_30 (by decide) (by omega) (by omega) (fun h2 => ?_) (fun h2 => ?_)
            · skip
              exact H72 tr (fun _ _ => rfl) (fun z => absurd z h2)
            · skip
              have w2 := w2 h2
              obtain ⟨b, hb⟩ : ∃ b : Nat, lf n = (b : Int) := ⟨(lf n).toNat, by omega⟩
              have hba : b < ac := by omega
              have hbt : (lf n).toNat = b := by omega
              refine z_aload_n dX7_rightCrowd_33 rfl ?_
              refine z_getf cls6 6 flX7_29 dX7_rightCrowd_34 (by decide) (MS_100) rfl ?_
              refine z_iload dX7_rightCrowd_37 rfl ?_
              refine z_aload_n dX7_rightCrowd_39 rfl ?_
              refine z_getf cls6 20 flX7_73 dX7_rightCrowd_40 (by decide) (MS_100) rfl ?_
              refine i_bipush dX7_rightCrowd_43 (by decide) ?_
              refine z_iload_n dX7_rightCrowd_45 rfl ?_
              refine i_imul dX7_rightCrowd_46 ?_
              refine z_iload_n dX7_rightCrowd_47 rfl ?_
              refine i_iadd dX7_rightCrowd_48 ?_
              refine i_lald dX7_rightCrowd_49 (MS_113) (6 * c + i) (by omega) (by omega) ?_
              refine z_aload_n dX7_rightCrowd_50 rfl ?_
              refine z_getf cls6 4 flX7_23 dX7_rightCrowd_51 (by decide) (MS_100) rfl ?_
              refine z_iload dX7_rightCrowd_54 rfl ?_
              refine i_iald dX7_rightCrowd_56 ((MS_x (by omega)).trans k3) n (by omega) (by omega) ?_
              rw [hb, hxr c hc i hi]
              refine i_cSr (m_stateIn (pkM_lt hac (hr i hi)) (show b < 5 by omega)) mX7_113 dX7_rightCrowd_57 rfl rfl ⟨by decide, by decide⟩ (Nat.le_of_ble_eq_true rfl) ⟨by decide, by decide⟩ ?_
              rw [pkM_at (hr i hi) hba]
              refine i_iconst dX7_rightCrowd_60 rfl ?_
              refine z_iand dX7_rightCrowd_61 ?_
              refine z_eqi _ (md_par (hr i hi b hba)) ?_
              have hbb := bI_r (x.1 c i b).2.2
              refine i_iconst dX7_rightCrowd_62 rfl ?_
              refine i_icmp_ne (tgt := 70) dX7_rightCrowd_63 (by decide) (by omega) (by omega) (fun h5 => ?_) (fun h5 => ?_)
              · skip
                refine i_iconst dX7_rightCrowd_70 rfl ?_
                refine i_zast (x := false) dX7_rightCrowd_71 (MS_105) n (by omega) (by omega) ?_
                rw [MS_s105]
                exact H72 _ (fun n' hn' => va_up_ne _ _ hn') (fun _ => by rw [va_up_self, hbt]; exact (show (x.1 c i b).2.2 = false from bI_0.mp (by omega)).symm)
              · skip
                refine i_iconst dX7_rightCrowd_66 rfl ?_
                refine z_goto (tgt := 71) dX7_rightCrowd_67 (by decide) ?_
                refine i_zast (x := true) dX7_rightCrowd_71 (MS_105) n (by omega) (by omega) ?_
                rw [MS_s105]
                exact H72 _ (fun n' hn' => va_up_ne _ _ hn') (fun _ => by rw [va_up_self, hbt]; exact (show (x.1 c i b).2.2 = true from bI_1.mp (by omega)).symm)
      refine z_iload_n dX7_rightCrowd_2 rfl ?_
      refine z_aload_n dX7_rightCrowd_3 rfl ?_
      refine z_getf cls6 14 flX7_55 dX7_rightCrowd_4 (by decide) (MS_100) rfl ?_
      refine i_icmp_ge (tgt := 94) dX7_rightCrowd_7 (by decide) (by omega) (by omega) (fun h1 => ?_) (fun h1 => ?_)
      · skip
        omega
      · skip
        refine i_iconst dX7_rightCrowd_10 rfl ?_
        refine z_istore dX7_rightCrowd_11 (by decide) ?_
        exact HN 0 (by omega) tr (fun n' hn' => absurd hn' (Nat.not_lt_zero n'))
  refine i_iconst dX7_rightCrowd_0 rfl ?_
  refine z_istore_n dX7_rightCrowd_1 (by decide) ?_
  exact HI 0 (by omega) tr none (fun i' hi' => absurd hi' (Nat.not_lt_zero i'))
theorem m_leadsToGood {x : XS} {c : Nat} (hC : MC σ M E B) (hw : 1 ≤ w ∧ w ≤ 6) (hac : ac ≤ 5) (hok : okAs ac M E B CF) (hx : x.2 ≤ 3000) (hG : XG ac M B w x) (hS : SIM ac w x cr tb crs) (hXC : XC ac M E B w x x.2) (hc : c < x.2) :
    KX7_leadsToGood [.ref 100, .int (iI c)] (MSw σ (obMd t nc ac cp w no n2 crs ex) tr cr tb gd wk) (fun r u => ∃ (wk' : Nat → Nat) (no' n2' : Int), r = some (.int (iI (bI (bP (LD ac M E B w x gd c))))) ∧ u = MSw σ (obMd t nc ac cp w no' n2' crs ex) tr cr tb gd wk') NX := by
  refine Ct.intro (by decide) (Nat.le_of_ble_eq_true rfl) ?_
  obtain ⟨Q, hQ⟩ : ∃ Q : Option Value → Wd → Prop, Q = fun r u => ∃ (wk' : Nat → Nat) (no' n2' : Int), r = some (.int (iI (bI (bP (LD ac M E B w x gd c))))) ∧ u = MSw σ (obMd t nc ac cp w no' n2' crs ex) tr cr tb gd wk' := ⟨_, rfl⟩
  rw [← hQ]
  have H : ∀ i : Nat, i ≤ w → ∀ (wk : Nat → Nat) (no n2 : Int) (o3 : Option Value), (∀ i' j r, i' < i → j < w → i' ≠ j → chg ac M E B (x.1 c i') (x.1 c j) = true → r < x.2 → eqR ac w (x.1 r) (stp ac M E B w (x.1 c) i' j) → gd r = false) → PX7_leadsToGood Q NX 2 [some (.ref 100), some (.int (iI c)), some (.int (iI i)), o3] [] (MSw σ (obMd t nc ac cp w no n2 crs ex) tr cr tb gd wk) 0 0 := by
    refine up_to w ?_ ?_
    · intro wk no n2 o3 hn
      refine z_iload_n dX7_leadsToGood_2 rfl ?_
      refine z_aload_n dX7_leadsToGood_3 rfl ?_
      refine z_getf cls6 14 flX7_55 dX7_leadsToGood_4 (by decide) (MS_100) rfl ?_
      refine i_icmp_ge (tgt := 66) dX7_leadsToGood_7 (by decide) (by omega) (by omega) (fun h1 => ?_) (fun h1 => ?_)
      · skip
        refine i_iconst dX7_leadsToGood_66 rfl ?_
        refine z_zret dX7_leadsToGood_67 rfl (by decide) (by decide) rfl ?_
        rw [hQ]
        exact ⟨wk, no, n2, by rw [bP_f (fun ⟨i', j, r, q1, q2, q3, q4, q5, q6, q7⟩ => by rw [hn i' j r q1 q2 q3 q4 q5 q6] at q7; cases q7)]; rfl, rfl⟩
      · skip
        omega
    · intro i hi ih wk no n2 o3 hn
      have Hj : ∀ j : Nat, j ≤ w → ∀ (wk : Nat → Nat) (no n2 : Int), (∀ j' r, j' < j → i ≠ j' → chg ac M E B (x.1 c i) (x.1 c j') = true → r < x.2 → eqR ac w (x.1 r) (stp ac M E B w (x.1 c) i j') → gd r = false) → PX7_leadsToGood Q NX 12 [some (.ref 100), some (.int (iI c)), some (.int (iI i)), some (.int (iI j))] [] (MSw σ (obMd t nc ac cp w no n2 crs ex) tr cr tb gd wk) 0 0 := by
        refine up_to w ?_ ?_
        · intro wk no n2 hm
          refine z_iload_n dX7_leadsToGood_12 rfl ?_
          refine z_aload_n dX7_leadsToGood_13 rfl ?_
          refine z_getf cls6 14 flX7_55 dX7_leadsToGood_14 (by decide) (MS_100) rfl ?_
          refine i_icmp_ge (tgt := 60) dX7_leadsToGood_17 (by decide) (by omega) (by omega) (fun h1 => ?_) (fun h1 => ?_)
          · skip
            refine i_iinc dX7_leadsToGood_60 rfl (by decide) ?_
            refine z_goto (tgt := 2) dX7_leadsToGood_63 (by decide) ?_
            refine ih wk no n2 _ (fun i' j r q1 q2 => ?_)
            by_cases z : i' = i
            · rw [z]; exact hm j r q2
            · exact hn i' j r (by omega) q2
          · skip
            omega
        · intro j hj ihj wk no n2 hm
          have H54 : ∀ (wk : Nat → Nat) (no n2 : Int), (∀ r, i ≠ j → chg ac M E B (x.1 c i) (x.1 c j) = true → r < x.2 → eqR ac w (x.1 r) (stp ac M E B w (x.1 c) i j) → gd r = false) → PX7_leadsToGood Q NX 54 [some (.ref 100), some (.int (iI c)), some (.int (iI i)), some (.int (iI j))] [] (MSw σ (obMd t nc ac cp w no n2 crs ex) tr cr tb gd wk) 0 0 := by
            intro wk no n2 he
            refine i_iinc dX7_leadsToGood_54 rfl (by decide) ?_
            refine z_goto (tgt := 12) dX7_leadsToGood_57 (by decide) ?_
            refine ihj wk no n2 (fun j' r q1 => ?_)
            by_cases z : j' = j
            · rw [z]; exact he r
            · exact hm j' r (by omega)
          refine z_iload_n dX7_leadsToGood_12 rfl ?_
          refine z_aload_n dX7_leadsToGood_13 rfl ?_
          refine z_getf cls6 14 flX7_55 dX7_leadsToGood_14 (by decide) (MS_100) rfl ?_
          refine i_icmp_ge (tgt := 60) dX7_leadsToGood_17 (by decide) (by omega) (by omega) (fun h1 => ?_) (fun h1 => ?_)
          · skip
            omega
          · skip
            refine z_iload_n dX7_leadsToGood_20 rfl ?_
            refine z_iload_n dX7_leadsToGood_21 rfl ?_
            refine i_icmp_eq (tgt := 54) dX7_leadsToGood_22 (by decide) (by omega) (by omega) (fun h2 => ?_) (fun h2 => ?_)
            · skip
              exact H54 wk no n2 (fun r q => absurd (by omega) q)
            · skip
              refine z_aload_n dX7_leadsToGood_25 rfl ?_
              refine z_iload_n dX7_leadsToGood_26 rfl ?_
              refine z_iload_n dX7_leadsToGood_27 rfl ?_
              refine z_iload_n dX7_leadsToGood_28 rfl ?_
              refine z_callVX (m_after hC hw.2 hac hok (by omega) hS.2.1 hc hi hj (show i ≠ j by omega) (hG.1 c hc)) mX7_121 dX7_leadsToGood_29 (MS_100) rfl rfl rfl ⟨by decide, by decide⟩ (Nat.le_of_ble_eq_true rfl) ⟨by decide, by decide⟩ (fun _ _ h => h.elim) (fun r u hq => ?_)
              obtain ⟨wk', no', n2', rfl, rfl, hag⟩ := hq
              refine i_ifb_eq (tgt := 54) dX7_leadsToGood_32 (by decide) (fun h3 => ?_) (fun h3 => ?_)
              · skip
                exact H54 wk' no' n2' (fun r _ q => by rw [h3] at q; cases q)
              · skip
                have mok := mtg_ok hok (hG.1 c hc) hi hj
                have sok := stp_ok hok (hG.1 c hc) hi hj
                refine z_aload_n dX7_leadsToGood_35 rfl ?_
                refine z_callVX (m_sort hw hac (fun l hl => (mok l hl).rg hok) hag) mX7_125 dX7_leadsToGood_36 (MS_100) rfl rfl rfl ⟨by decide, by decide⟩ (Nat.le_of_ble_eq_true rfl) ⟨by decide, by decide⟩ (fun _ _ h => h.elim) (fun r u hq => ?_)
                obtain ⟨wk2, rfl, rfl, hag2⟩ := hq
                refine z_aload_n dX7_leadsToGood_39 rfl ?_
                refine z_getf cls6 22 flX7_80 dX7_leadsToGood_40 (by decide) (MS_100) rfl ?_
                refine z_aload_n dX7_leadsToGood_43 rfl ?_
                refine i_iconst dX7_leadsToGood_44 rfl ?_
                refine z_callVX (m_find (add := false) (ag := stp ac M E B w (x.1 c) i j) hw.2 hac hx hS (hG.rr hok) (fun l hl => (sok l hl).rg hok) hag2) mX7_128 dX7_leadsToGood_45 (MS_100) rfl rfl rfl ⟨by decide, by decide⟩ (Nat.le_of_ble_eq_true rfl) ⟨by decide, by decide⟩ (fun _ _ h => h.elim) (fun r u hq => ?_)
                have hres := hq
                rcases hres with ⟨q, q1, q2, rfl, rfl⟩ | ⟨q1, _⟩ | ⟨q1, _⟩
                · skip
                  refine i_zald dX7_leadsToGood_48 (MS_115) q (by omega) (by omega) ?_
                  refine i_ifb_eq (tgt := 54) dX7_leadsToGood_49 (by decide) (fun h5 => ?_) (fun h5 => ?_)
                  · skip
                    refine H54 wk2 no' n2' (fun r _ _ r1 r2 => ?_)
                    rw [hG.2 r q r1 q1 (fun k hk a ha => (r2 k hk a ha).trans (q2 k hk a ha).symm)]; exact h5
                  · skip
                    refine i_iconst dX7_leadsToGood_52 rfl ?_
                    refine z_zret dX7_leadsToGood_53 rfl (by decide) (by decide) rfl ?_
                    rw [hQ]
                    exact ⟨wk2, no', n2', by rw [bP_t ⟨i, j, q, hi, hj, by omega, h3, q1, q2, h5⟩]; rfl, rfl⟩
                · exact absurd (hXC c hc i hi j hj (by omega) h3) q1
                · exact absurd (hXC c hc i hi j hj (by omega) h3) q1
      refine z_iload_n dX7_leadsToGood_2 rfl ?_
      refine z_aload_n dX7_leadsToGood_3 rfl ?_
      refine z_getf cls6 14 flX7_55 dX7_leadsToGood_4 (by decide) (MS_100) rfl ?_
      refine i_icmp_ge (tgt := 66) dX7_leadsToGood_7 (by decide) (by omega) (by omega) (fun h1 => ?_) (fun h1 => ?_)
      · skip
        omega
      · skip
        refine i_iconst dX7_leadsToGood_10 rfl ?_
        refine z_istore_n dX7_leadsToGood_11 (by decide) ?_
        exact Hj 0 (by omega) wk no n2 (fun j' r q => absurd q (Nat.not_lt_zero j'))
  refine i_iconst dX7_leadsToGood_0 rfl ?_
  refine z_istore_n dX7_leadsToGood_1 (by decide) ?_
  exact H 0 (by omega) wk no n2 none (fun i' j r q => absurd q (Nat.not_lt_zero i'))
end MODE

