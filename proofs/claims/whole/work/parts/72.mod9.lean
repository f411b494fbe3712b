section MOD9
variable {σ : Wd} {a : AS} {t : Int}
theorem m_noAgent {nc ac : Nat} {cp : Bool} {cnt : Nat} {no n2 : Int} {crs : Nat} {ex : Bool} {v : Int} (h100 : σ 100 = some (obMd t nc ac cp cnt no n2 crs ex)) (hc : cnt ≤ 200) (hv : i32 v) : KX7_noAgent [.ref 100, .int (iI v)] σ (Rt (some (.int (iI (bI (!(hasI v cnt)))))) σ) NX := by
  unfold i32 at hv
  refine Ct.intro (by decide) (Nat.le_of_ble_eq_true rfl) ?_
  refine z_iload_n dX7_noAgent_0 rfl ?_
  refine i_if_lt (tgt := 12) dX7_noAgent_1 (by decide) (by omega) (fun h1 => ?_) (fun h1 => ?_)
  · skip
    refine i_iconst dX7_noAgent_12 rfl ?_
    refine z_goto (tgt := 17) dX7_noAgent_13 (by decide) ?_
    exact i_rt dX7_noAgent_17 rfl (by decide) (by decide) (by unfold hasI; rw [decide_eq_false (by omega)]; rfl) rfl
  · skip
    refine z_iload_n dX7_noAgent_4 rfl ?_
    refine z_aload_n dX7_noAgent_5 rfl ?_
    refine z_getf cls6 14 flX7_55 dX7_noAgent_6 (by decide) (by first | exact h100 | rfl) rfl ?_
    refine i_icmp_lt (tgt := 16) dX7_noAgent_9 (by decide) (by omega) (by omega) (fun h2 => ?_) (fun h2 => ?_)
    · skip
      refine i_iconst dX7_noAgent_16 rfl ?_
      exact i_rf dX7_noAgent_17 rfl (by decide) (by decide) (by unfold hasI; rw [decide_eq_true (by omega)]; rfl) rfl
    · skip
      refine i_iconst dX7_noAgent_12 rfl ?_
      refine z_goto (tgt := 17) dX7_noAgent_13 (by decide) ?_
      exact i_rt dX7_noAgent_17 rfl (by decide) (by decide) (by unfold hasI; rw [decide_eq_false (by omega)]; rfl) rfl
theorem not_t {b : Bool} (h : (!b) = true) : b = false := by cases b <;> simp_all
theorem not_f {b : Bool} (h : (!b) = false) : b = true := by cases b <;> simp_all
/-- the crowd of the reference after meetings -/
theorem md_g {tr : Nat → Bool} {cfM : Nat → Int} {th : Nat → Bool} {agf g : Nat → Int} {no n2 no' n2' : Int} {crs : Nat} {cr tb : Nat → Nat} {gd : Nat → Bool} {wk : Nat → Nat} (h : MDp σ a t tr cfM th agf no n2 crs cr tb gd wk) {a' : AS} (ag' : Nat → Nat → St) (ex' : Option XS) (t' : Int) (ha' : a' = mkA a.pd a.nc a.ac a.cp a.op a.lf a.rt a.M a.E a.B a.CF a.lt a.cnt ag' ex') (hag : AM a.ac a.cnt g ag') (hex : ex' = a.ex ∨ ex' = none) : MD (MG σ (obMd t' a.nc a.ac a.cp a.cnt no' n2' crs ex'.isSome) g) a' t' := by
  obtain ⟨h100, k1, k2, k3, k4, k5, k6, k7, k10, k11, k12, k13, k14, k15, k16, g1, g2, g3, g4⟩ := h
  subst ha'
  refine ⟨tr, cfM, th, g, no', n2', crs, cr, tb, gd, wk, rfl, k1, k2, k3, k4, k5, k6, MG_C k7, k10, rfl, k12, k13, k14, k15, k16, g1, hag, g3, fun x hx => ?_⟩
  have hx : ex' = some x := hx
  rcases hex with e | e
  · rw [e] at hx; exact g4 x hx
  · rw [e] at hx; cases hx
theorem m_meet (h : MD σ a t) (hV : VL a) (i j : Int) (hi : i32 i) (hj : i32 j) : KX7_meet [.ref 100, .int (iI i), .int (iI j)] σ (QM (cdMeet a i j) (.int (iI (bI (chg a.ac a.M a.E a.B (a.ag i.toNat) (a.ag j.toNat))))) σ a (oMeet a i.toNat j.toNat)) NX := by
  obtain ⟨tr, cfM, th, agf, no, n2, crs, cr, tb, gd, wk, hp⟩ := h
  have hp0 := hp
  obtain ⟨h100, k1, k2, k3, k4, k5, k6, k7, k10, k11, k12, k13, k14, k15, k16, g1, g2, g3, g4⟩ := hp
  have hi' := hi
  have hj' := hj
  unfold i32 at hi' hj'
  refine Ct.intro (by decide) (Nat.le_of_ble_eq_true rfl) ?_
  obtain ⟨Q, hQ⟩ : ∃ Q : Option Value → Wd → Prop, Q = QM (cdMeet a i j) (.int (iI (bI (chg a.ac a.M a.E a.B (a.ag i.toNat) (a.ag j.toNat))))) σ a (oMeet a i.toNat j.toNat) := ⟨_, rfl⟩
  rw [← hQ]
  have H31 : ∀ d : Nat, d = cdMeet a i j → d ≤ 2 → PX7_meet Q NX 31 [some (.ref 100), some (.int (iI i)), some (.int (iI j))] [.int (iI d), .ref 100] σ 0 0 := by
    intro d hd hd2
    refine i_puti cls6 0 flX7_7 dX7_meet_31 (by decide) rfl rfl (by first | exact h100 | rfl) (Nat.le_of_ble_eq_true rfl) ?_
    refine z_aload_n dX7_meet_34 rfl ?_
    refine z_getf cls6 0 flX7_7 dX7_meet_35 (by decide) (up_self _ _ _) rfl ?_
    refine i_if_ne (tgt := 55) dX7_meet_38 (by decide) (by omega) (fun h1 => ?_) (fun h1 => ?_)
    · skip
      refine i_iconst dX7_meet_55 rfl ?_
      refine z_zret dX7_meet_56 rfl (by decide) (by decide) rfl ?_
      rw [hQ]
      refine ⟨⟨0, rfl⟩, fun z => by omega, ?_, F2.rfl.up _ (by omega)⟩
      rw [if_neg (by omega), ← hd]
      exact ⟨tr, cfM, th, agf, no, n2, crs, cr, tb, gd, wk, md_t hp0 _⟩
    · skip
      have hc0 : cdMeet a i j = 0 := by omega
      have hg : i ≠ j ∧ (0 ≤ i ∧ i < a.cnt) ∧ (0 ≤ j ∧ j < a.cnt) := by
        have hc0' := hc0
        unfold cdMeet at hc0'
        by_cases q1 : i = j
        · rw [if_pos q1] at hc0'; cases hc0'
        · rw [if_neg q1] at hc0'
          by_cases q2 : (0 ≤ i ∧ i < a.cnt) ∧ (0 ≤ j ∧ j < a.cnt)
          · exact ⟨q1, q2⟩
          · rw [if_neg q2] at hc0'; cases hc0'
      obtain ⟨i, rfl⟩ := Int.eq_ofNat_of_zero_le hg.2.1.1
      obtain ⟨j, rfl⟩ := Int.eq_ofNat_of_zero_le hg.2.2.1
      rw [Int.toNat_natCast, Int.toNat_natCast] at hQ
      rw [show ((d : Nat) : Int) = 0 by omega]
      refine z_aload_n dX7_meet_41 rfl ?_
      refine z_iload_n dX7_meet_42 rfl ?_
      refine z_iload_n dX7_meet_43 rfl ?_
      refine i_iconst dX7_meet_44 rfl ?_
      refine z_eqw (u := MG σ (obMd 0 a.nc a.ac a.cp a.cnt no n2 crs a.ex.isSome) agf) (by unfold MG; rw [up_id k11]; rfl) ?_
      refine z_callVX (m_meets (done := true) k7 hV.ac hV.ok hV.cnt (by omega) (by omega) (by omega) hV.oc g2) mX7_153 dX7_meet_45 (MG_100) rfl rfl rfl ⟨by decide, by decide⟩ (Nat.le_of_ble_eq_true rfl) ⟨by decide, by decide⟩ (fun _ _ h => h.elim) (fun r u hq => ?_)
      obtain ⟨no', n2', g, rfl, rfl, e1, e2⟩ := hq
      have e2 := e2 rfl
      refine i_ifb_eq (tgt := 55) dX7_meet_48 (by decide) (fun h3 => ?_) (fun h3 => ?_)
      · skip
        refine i_iconst dX7_meet_55 rfl ?_
        refine z_zret dX7_meet_56 rfl (by decide) (by decide) rfl ?_
        rw [hQ]
        refine ⟨⟨0, rfl⟩, fun _ => by rw [h3]; rfl, ?_, MG_F2⟩
        rw [if_pos hc0, hc0, h3]
        exact md_g hp0 _ a.ex 0 (by unfold oMeet; rw [h3]; rfl) e2 (Or.inl rfl)
      · skip
        refine i_iconst dX7_meet_51 rfl ?_
        refine z_goto (tgt := 56) dX7_meet_52 (by decide) ?_
        refine z_zret dX7_meet_56 rfl (by decide) (by decide) rfl ?_
        rw [hQ]
        refine ⟨⟨1, rfl⟩, fun _ => by rw [h3]; rfl, ?_, MG_F2⟩
        rw [if_pos hc0, hc0, h3]
        exact md_g hp0 _ none 0 (by unfold oMeet; rw [h3]; rfl) e2 (Or.inr rfl)
  refine z_aload_n dX7_meet_0 rfl ?_
  refine z_iload_n dX7_meet_1 rfl ?_
  refine z_iload_n dX7_meet_2 rfl ?_
  refine i_icmp_ne (tgt := 10) dX7_meet_3 (by decide) (by omega) (by omega) (fun h1 => ?_) (fun h1 => ?_)
  · skip
    have H26 : ¬ ((0 ≤ i ∧ i < a.cnt) ∧ (0 ≤ j ∧ j < a.cnt)) → PX7_meet Q NX 26 [some (.ref 100), some (.int (iI i)), some (.int (iI j))] [.ref 100] σ 0 0 := by
      intro hb
      refine i_iconst dX7_meet_26 rfl ?_
      refine z_goto (tgt := 31) dX7_meet_27 (by decide) ?_
      exact H31 2 (by unfold cdMeet; rw [if_neg h1, if_neg hb]) (by decide)
    refine z_aload_n dX7_meet_10 rfl ?_
    refine z_iload_n dX7_meet_11 rfl ?_
    refine i_cVr (m_noAgent h100 hV.cnt hi) mX7_149 dX7_meet_12 (by first | exact h100 | rfl) rfl rfl rfl ⟨by decide, by decide⟩ (Nat.le_of_ble_eq_true rfl) ⟨by decide, by decide⟩ ?_
    refine i_ifb_ne (tgt := 26) dX7_meet_15 (by decide) (fun h3 => ?_) (fun h3 => ?_)
    · skip
      exact H26 (fun z => hasI_f (not_t h3) z.1)
    · skip
      have h3 := hasI_t (not_f h3)
      refine z_aload_n dX7_meet_18 rfl ?_
      refine z_iload_n dX7_meet_19 rfl ?_
      refine i_cVr (m_noAgent h100 hV.cnt hj) mX7_149 dX7_meet_20 (by first | exact h100 | rfl) rfl rfl rfl ⟨by decide, by decide⟩ (Nat.le_of_ble_eq_true rfl) ⟨by decide, by decide⟩ ?_
      refine i_ifb_eq (tgt := 30) dX7_meet_23 (by decide) (fun h4 => ?_) (fun h4 => ?_)
      · skip
        have h4 := hasI_t (not_f h4)
        refine i_iconst dX7_meet_30 rfl ?_
        exact H31 0 (by unfold cdMeet; rw [if_neg h1, if_pos ⟨h3, h4⟩]) (by decide)
      · skip
        exact H26 (fun z => hasI_f (not_t h4) z.2)
  · skip
    refine i_iconst dX7_meet_6 rfl ?_
    refine z_goto (tgt := 31) dX7_meet_7 (by decide) ?_
    exact H31 1 (if_pos h1).symm (by decide)
theorem m_sweep (h : MD σ a t) (hV : VL a) (ti : Int) (ht : i32 ti) : KX7_sweep [.ref 100, .int (iI ti)] σ (QM (cdSweep ti) (.int (iI ((swT a.ac a.M a.E a.B a.cnt ti.toNat a.ag).2 : Nat))) σ a (oSweep a ti.toNat)) NX := by
  obtain ⟨tr, cfM, th, agf, no, n2, crs, cr, tb, gd, wk, hp⟩ := h
  have hp0 := hp
  obtain ⟨h100, k1, k2, k3, k4, k5, k6, k7, k10, k11, k12, k13, k14, k15, k16, g1, g2, g3, g4⟩ := hp
  unfold i32 at ht
  have hct := hV.cnt
  refine Ct.intro (by decide) (Nat.le_of_ble_eq_true rfl) ?_
  obtain ⟨Q, hQ⟩ : ∃ Q : Option Value → Wd → Prop, Q = QM (cdSweep ti) (.int (iI ((swT a.ac a.M a.E a.B a.cnt ti.toNat a.ag).2 : Nat))) σ a (oSweep a ti.toNat) := ⟨_, rfl⟩
  rw [← hQ]
  have H18 : ∀ d : Nat, d = cdSweep ti → d ≤ 1 → PX7_sweep Q NX 18 [some (.ref 100), some (.int (iI ti)), none, none, none, none, none] [.int (iI d), .ref 100] σ 0 0 := by
    intro d hd hd2
    refine i_puti cls6 0 flX7_7 dX7_sweep_18 (by decide) rfl rfl (by first | exact h100 | rfl) (Nat.le_of_ble_eq_true rfl) ?_
    refine z_aload_n dX7_sweep_21 rfl ?_
    refine z_getf cls6 0 flX7_7 dX7_sweep_22 (by decide) (up_self _ _ _) rfl ?_
    refine i_if_eq (tgt := 30) dX7_sweep_25 (by decide) (by omega) (fun h1 => ?_) (fun h1 => ?_)
    · skip
      have hc0 : cdSweep ti = 0 := by omega
      have hg : 1 ≤ ti ∧ ti ≤ 500 := by
        have hc0' := hc0
        unfold cdSweep at hc0'
        by_cases q1 : 1 ≤ ti ∧ ti ≤ 500
        · exact q1
        · rw [if_neg q1] at hc0'; cases hc0'
      obtain ⟨ti, rfl⟩ := Int.eq_ofNat_of_zero_le (show 0 ≤ ti by omega)
      rw [Int.toNat_natCast] at hQ
      rw [show ((d : Nat) : Int) = 0 by omega]
      obtain ⟨fl, hfl⟩ : ∃ fl : Nat → Bool, fl = fun c => if c = 0 then a.ex.isSome else false := ⟨_, rfl⟩
      have hfin : ∀ (c : Nat) (ag' : Nat → Nat → St) (g : Nat → Int) (no n2 : Int), (swT a.ac a.M a.E a.B a.cnt ti a.ag).2 = c → (swT a.ac a.M a.E a.B a.cnt ti a.ag).1 = ag' → AM a.ac a.cnt g ag' → Q (some (.int (iI c))) (MG σ (obMd 0 a.nc a.ac a.cp a.cnt no n2 crs (fl c)) g) := by
        intro c ag' g no n2 hc hag hg
        rw [hQ]
        refine ⟨⟨c, rfl⟩, fun _ => by rw [hc], ?_, MG_F2⟩
        rw [if_pos hc0, hc0, hfl]
        by_cases q : c = 0
        · show MD (MG σ (obMd 0 a.nc a.ac a.cp a.cnt no n2 crs (if c = 0 then a.ex.isSome else false)) g) _ 0
          rw [if_pos q]
          exact md_g hp0 _ a.ex 0 (by unfold oSweep; rw [if_pos (by omega), hag]) hg (Or.inl rfl)
        · show MD (MG σ (obMd 0 a.nc a.ac a.cp a.cnt no n2 crs (if c = 0 then a.ex.isSome else false)) g) _ 0
          rw [if_neg q]
          exact md_g hp0 _ none 0 (by unfold oSweep; rw [if_neg (by omega), hag]) hg (Or.inr rfl)
      have HT : ∀ k : Nat, k ≤ ti → ∀ (c : Nat) (ag' : Nat → Nat → St) (g : Nat → Int) (no n2 : Int) (o4 o5 o6 : Option Value), AM a.ac a.cnt g ag' → okC a.ac a.M a.B a.cnt ag' → (swT a.ac a.M a.E a.B a.cnt ti a.ag).1 = (swT a.ac a.M a.E a.B a.cnt (ti - k) ag').1 → (swT a.ac a.M a.E a.B a.cnt ti a.ag).2 = c + (swT a.ac a.M a.E a.B a.cnt (ti - k) ag').2 → PX7_sweep Q NX 34 [some (.ref 100), some (.int (iI ti)), some (.int (iI c)), some (.int (iI k)), o4, o5, o6] [] (MG σ (obMd 0 a.nc a.ac a.cp a.cnt no n2 crs (fl c)) g) 0 0 := by
        have hle := swT_le (ac := a.ac) (M := a.M) (E := a.E) (B := a.B) hct ti a.ag
        refine up_to ti ?_ ?_
        · intro c ag' g no n2 o4 o5 o6 hg hok e1 e2
          rw [Nat.sub_self] at e1 e2
          refine z_iload_n dX7_sweep_34 rfl ?_
          refine z_iload_n dX7_sweep_35 rfl ?_
          refine i_icmp_ge (tgt := 110) dX7_sweep_36 (by decide) (by omega) (by omega) (fun h3 => ?_) (fun h3 => ?_)
          · skip
            refine z_iload_n dX7_sweep_110 rfl ?_
            exact z_iret dX7_sweep_111 rfl (by decide) (by decide) (hfin c ag' g no n2 e2 e1 hg)
          · skip
            omega
        · intro k hk ih c ag' g no n2 o4 o5 o6 hg hok e1 e2
          have hA1 := swA_le (ac := a.ac) (M := a.M) (E := a.E) (B := a.B) hct ag'
          rw [show ti - k = (ti - (k + 1)) + 1 by omega] at e1 e2
          rw [swT_s] at e1 e2
          have hob : ∀ i, i ≤ a.cnt → (swO a.ac a.M a.E a.B a.cnt i (ag', 0)).2 ≤ 40000 := fun i hi => by
            have := (swO_cnt (ac := a.ac) (M := a.M) (E := a.E) (B := a.B) (cnt := a.cnt) i (ag', 0)).2
            have h2 : a.cnt * i ≤ 200 * 200 := Nat.mul_le_mul hct (by omega)
            have h3 : ((ag', 0) : GS).2 = 0 := rfl
            omega
          have hcle : c ≤ 40000 * ti := by
            by_cases z : (swA a.ac a.M a.E a.B a.cnt ag').2 = 0
            · rw [if_pos z] at e2; omega
            · rw [if_neg z] at e2
              have e2 : (swT a.ac a.M a.E a.B a.cnt ti a.ag).2 = c + ((swA a.ac a.M a.E a.B a.cnt ag').2 + (swT a.ac a.M a.E a.B a.cnt (ti - (k + 1)) (swA a.ac a.M a.E a.B a.cnt ag').1).2) := e2
              omega
          have HI : ∀ i : Nat, i ≤ a.cnt → ∀ (g : Nat → Int) (no n2 : Int) (o6 : Option Value), AM a.ac a.cnt g (swO a.ac a.M a.E a.B a.cnt i (ag', 0)).1 → PX7_sweep Q NX 45 [some (.ref 100), some (.int (iI ti)), some (.int (iI ((c + (swO a.ac a.M a.E a.B a.cnt i (ag', 0)).2 : Nat) : Int))), some (.int (iI k)), some (.int (iI c)), some (.int (iI i)), o6] [] (MG σ (obMd 0 a.nc a.ac a.cp a.cnt no n2 crs (fl (c + (swO a.ac a.M a.E a.B a.cnt i (ag', 0)).2))) g) 0 0 := by
            refine up_to a.cnt ?_ ?_
            · intro g no n2 o6 hg
              have hg : AM a.ac a.cnt g (swA a.ac a.M a.E a.B a.cnt ag').1 := hg
              have hsA : (swO a.ac a.M a.E a.B a.cnt a.cnt (ag', 0)).2 = (swA a.ac a.M a.E a.B a.cnt ag').2 := rfl
              rw [hsA]
              refine z_iload dX7_sweep_45 rfl ?_
              refine z_aload_n dX7_sweep_47 rfl ?_
              refine z_getf cls6 14 flX7_55 dX7_sweep_48 (by decide) (MG_100) rfl ?_
              refine i_icmp_ge (tgt := 96) dX7_sweep_51 (by decide) (by omega) (by omega) (fun h3 => ?_) (fun h3 => ?_)
              · skip
                refine z_iload_n dX7_sweep_96 rfl ?_
                refine z_iload dX7_sweep_97 rfl ?_
                refine i_icmp_ne (tgt := 104) dX7_sweep_99 (by decide) (by omega) (by omega) (fun h4 => ?_) (fun h4 => ?_)
                · skip
                  rw [if_neg (by omega)] at e1 e2
                  have e2 : (swT a.ac a.M a.E a.B a.cnt ti a.ag).2 = c + ((swA a.ac a.M a.E a.B a.cnt ag').2 + (swT a.ac a.M a.E a.B a.cnt (ti - (k + 1)) (swA a.ac a.M a.E a.B a.cnt ag').1).2) := e2
                  refine i_iinc dX7_sweep_104 rfl (by decide) ?_
                  refine z_goto (tgt := 34) dX7_sweep_107 (by decide) ?_
                  exact ih (c + (swA a.ac a.M a.E a.B a.cnt ag').2) _ g no n2 _ _ _ hg (swA_ok hV.ok hok) e1 (by omega)
                · skip
                  rw [if_pos (by omega)] at e1 e2
                  refine z_iload_n dX7_sweep_102 rfl ?_
                  exact z_iret dX7_sweep_103 rfl (by decide) (by decide) (hfin _ _ g no n2 e2 e1 hg)
              · skip
                omega
            · intro i hi ihi g no n2 o6 hg
              obtain ⟨s0, hs0⟩ : ∃ s0 : GS, s0 = swO a.ac a.M a.E a.B a.cnt i (ag', 0) := ⟨_, rfl⟩
              have ok0 : okC a.ac a.M a.B a.cnt s0.1 := by rw [hs0]; exact swO_ok hV.ok i _ (by omega) hok
              have hb0 : s0.2 ≤ 40000 := by rw [hs0]; exact hob i (by omega)
              have ihe : swO a.ac a.M a.E a.B a.cnt (i + 1) (ag', 0) = swR a.ac a.M a.E a.B i (a.cnt - (i + 1)) s0 := by rw [hs0]; rfl
              rw [ihe] at ihi
              rw [← hs0] at hg ⊢
              have HJ : ∀ q : Nat, q ≤ a.cnt - (i + 1) → ∀ (g : Nat → Int) (no n2 : Int), AM a.ac a.cnt g (swR a.ac a.M a.E a.B i q s0).1 → PX7_sweep Q NX 60 [some (.ref 100), some (.int (iI ti)), some (.int (iI ((c + (swR a.ac a.M a.E a.B i q s0).2 : Nat) : Int))), some (.int (iI k)), some (.int (iI c)), some (.int (iI i)), some (.int (iI ((i + 1 + q : Nat) : Int)))] [] (MG σ (obMd 0 a.nc a.ac a.cp a.cnt no n2 crs (fl (c + (swR a.ac a.M a.E a.B i q s0).2))) g) 0 0 := by
                refine up_to (a.cnt - (i + 1)) ?_ ?_
                · intro g no n2 hg
                  refine z_iload dX7_sweep_60 rfl ?_
                  refine z_aload_n dX7_sweep_62 rfl ?_
                  refine z_getf cls6 14 flX7_55 dX7_sweep_63 (by decide) (MG_100) rfl ?_
                  refine i_icmp_ge (tgt := 90) dX7_sweep_66 (by decide) (by omega) (by omega) (fun h3 => ?_) (fun h3 => ?_)
                  · skip
                    refine i_iinc dX7_sweep_90 rfl (by decide) ?_
                    refine z_goto (tgt := 45) dX7_sweep_93 (by decide) ?_
                    exact ihi g no n2 _ hg
                  · skip
                    omega
                · intro q hq ihq g no n2 hg
                  have okk : okC a.ac a.M a.B a.cnt (swR a.ac a.M a.E a.B i q s0).1 := swR_ok hV.ok hi q s0 (by omega) ok0
                  have hck := swR_cnt (ac := a.ac) (M := a.M) (E := a.E) (B := a.B) (i := i) q s0
                  have e3 : (swR a.ac a.M a.E a.B i (q + 1) s0).2 = (swR a.ac a.M a.E a.B i q s0).2 + chN (chg a.ac a.M a.E a.B ((swR a.ac a.M a.E a.B i q s0).1 i) ((swR a.ac a.M a.E a.B i q s0).1 (i + 1 + q))) := rfl
                  have e4 : (swR a.ac a.M a.E a.B i (q + 1) s0).1 = mtg a.ac a.M a.E a.B (swR a.ac a.M a.E a.B i q s0).1 i (i + 1 + q) := rfl
                  refine z_iload dX7_sweep_60 rfl ?_
                  refine z_aload_n dX7_sweep_62 rfl ?_
                  refine z_getf cls6 14 flX7_55 dX7_sweep_63 (by decide) (MG_100) rfl ?_
                  refine i_icmp_ge (tgt := 90) dX7_sweep_66 (by decide) (by omega) (by omega) (fun h3 => ?_) (fun h3 => ?_)
                  · skip
                    omega
                  · skip
                    refine z_aload_n dX7_sweep_69 rfl ?_
                    refine z_iload dX7_sweep_70 rfl ?_
                    refine z_iload dX7_sweep_72 rfl ?_
                    refine i_iconst dX7_sweep_74 rfl ?_
                    refine z_callVX (m_meets (done := true) k7 hV.ac hV.ok hct (show i ≠ i + 1 + q by omega) hi (by omega) okk hg) mX7_153 dX7_sweep_75 (MG_100) rfl rfl rfl ⟨by decide, by decide⟩ (Nat.le_of_ble_eq_true rfl) ⟨by decide, by decide⟩ (fun _ _ h => h.elim) (fun r u hq => ?_)
                    obtain ⟨no', n2', g', rfl, rfl, f1, f2⟩ := hq
                    have f2 := f2 rfl
                    rw [e4] at ihq
                    simp only [e3] at ihq
                    refine i_ifb_eq (tgt := 84) dX7_sweep_78 (by decide) (fun h4 => ?_) (fun h4 => ?_)
                    · skip
                      rw [h4] at ihq
                      refine i_iinc dX7_sweep_84 rfl (by decide) ?_
                      refine z_goto (tgt := 60) dX7_sweep_87 (by decide) ?_
                      rw [h4]
                      exact ihq g' no' n2' f2
                    · skip
                      rw [h4] at ihq
                      refine i_iinc dX7_sweep_81 rfl (by decide) ?_
                      refine i_iinc dX7_sweep_84 rfl (by decide) ?_
                      refine z_goto (tgt := 60) dX7_sweep_87 (by decide) ?_
                      rw [h4]
                      have ihh := ihq g' no' n2' f2
                      have hf0 : fl (c + ((swR a.ac a.M a.E a.B i q s0).2 + chN true)) = false := by
                        rw [hfl]; show (if c + ((swR a.ac a.M a.E a.B i q s0).2 + 1) = 0 then _ else false) = false; rw [if_neg (by omega)]
                      rw [hf0] at ihh
                      exact ihh
              refine z_iload dX7_sweep_45 rfl ?_
              refine z_aload_n dX7_sweep_47 rfl ?_
              refine z_getf cls6 14 flX7_55 dX7_sweep_48 (by decide) (MG_100) rfl ?_
              refine i_icmp_ge (tgt := 96) dX7_sweep_51 (by decide) (by omega) (by omega) (fun h3 => ?_) (fun h3 => ?_)
              · skip
                omega
              · skip
                refine z_iload dX7_sweep_54 rfl ?_
                refine i_iconst dX7_sweep_56 rfl ?_
                refine i_iadd dX7_sweep_57 ?_
                refine z_istore dX7_sweep_58 (by decide) ?_
                exact HJ 0 (by omega) g no n2 hg
          refine z_iload_n dX7_sweep_34 rfl ?_
          refine z_iload_n dX7_sweep_35 rfl ?_
          refine i_icmp_ge (tgt := 110) dX7_sweep_36 (by decide) (by omega) (by omega) (fun h3 => ?_) (fun h3 => ?_)
          · skip
            omega
          · skip
            refine z_iload_n dX7_sweep_39 rfl ?_
            refine z_istore dX7_sweep_40 (by decide) ?_
            refine i_iconst dX7_sweep_42 rfl ?_
            refine z_istore dX7_sweep_43 (by decide) ?_
            exact HI 0 (by omega) g no n2 _ hg
      refine i_iconst dX7_sweep_30 rfl ?_
      refine z_istore_n dX7_sweep_31 (by decide) ?_
      refine i_iconst dX7_sweep_32 rfl ?_
      refine z_istore_n dX7_sweep_33 (by decide) ?_
      refine z_eqw (u := MG σ (obMd 0 a.nc a.ac a.cp a.cnt no n2 crs (fl 0)) agf) (by unfold MG; rw [up_id k11, hfl]; rfl) ?_
      exact HT 0 (by omega) 0 a.ag agf no n2 none none none g2 hV.oc rfl (Nat.zero_add _).symm
    · skip
      refine i_iconst dX7_sweep_28 rfl ?_
      refine z_iret dX7_sweep_29 rfl (by decide) (by decide) ?_
      rw [hQ]
      refine ⟨⟨0, rfl⟩, fun z => by omega, ?_, F2.rfl.up _ (by omega)⟩
      rw [if_neg (by omega), ← hd]
      exact ⟨tr, cfM, th, agf, no, n2, crs, cr, tb, gd, wk, md_t hp0 _⟩
  have H13 : ¬ (1 ≤ ti ∧ ti ≤ 500) → PX7_sweep Q NX 13 [some (.ref 100), some (.int (iI ti)), none, none, none, none, none] [.ref 100] σ 0 0 := by
    intro hb
    refine i_iconst dX7_sweep_13 rfl ?_
    refine z_goto (tgt := 18) dX7_sweep_14 (by decide) ?_
    exact H18 1 (if_neg hb).symm (by decide)
  refine z_aload_n dX7_sweep_0 rfl ?_
  refine z_iload_n dX7_sweep_1 rfl ?_
  refine i_iconst dX7_sweep_2 rfl ?_
  refine i_icmp_lt (tgt := 13) dX7_sweep_3 (by decide) (by omega) (by omega) (fun h1 => ?_) (fun h1 => ?_)
  · skip
    exact H13 (by omega)
  · skip
    refine z_iload_n dX7_sweep_6 rfl ?_
    refine i_sipush dX7_sweep_7 (by decide) ?_
    refine i_icmp_le (tgt := 17) dX7_sweep_10 (by decide) (by omega) (by omega) (fun h2 => ?_) (fun h2 => ?_)
    · skip
      refine i_iconst dX7_sweep_17 rfl ?_
      exact H18 0 (if_pos (by omega)).symm (by decide)
    · skip
      exact H13 (by omega)
end MOD9

