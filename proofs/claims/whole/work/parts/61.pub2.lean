theorem TBs.en {k : Nat} {M E B S : Nat → Int} {CF CD NB FR : Nat → Nat → Int} {N : Nat → Nat} {XS : Nat → Nat → St} (h : TBs k M E B S CF CD NB FR N XS) (hA : okAs k M E B CF) : ∀ b, b < k → En (M b) (E b) (B b) (CF b) (N b) (XS b) := fun b hb => En_Tb (hA b hb).1 (fun l hl => ((hA b hb).2 l hl).2) (h b hb).2.1
theorem k_compile {σ : Wd} {a : AS} (hD : DK σ a) (hV : VL a) : KX6_compile [.ref 0] σ (fun r u => cdComp a = 0 ∧ (∃ (N : Nat → Nat) (xs : Nat → Nat → St), (∀ b, b < a.ac → En (a.M b) (a.E b) (a.B b) (a.CF b) (N b) (xs b)) ∧ r = some (.int (iI (tot N a.ac : Nat)))) ∧ DK u (oComp a) ∧ F1 σ u) (QE (cdComp a) ISE ISE σ) := by
  obtain ⟨rc, S, CD, NB, FR, fa, f, s, sr, hF, g1, h0, h2, h7, h8, h9, h10, g8, g9, g10⟩ := hD
  refine Ct.intro (by decide) (Nat.le_of_ble_eq_true rfl) ?_
  refine z_aload_n dX6_compile_0 rfl ?_
  refine z_getf cls5 0 flX6_10 dX6_compile_1 (by decide) (by first | exact h0 | rfl) rfl ?_
  refine i_cVr (k_isCompiled _ a.nc a.ac a.cp hF.1) mX6_93 dX6_compile_4 (by first | exact hF.1 | rfl) rfl rfl rfl ⟨by decide, by decide⟩ (Nat.le_of_ble_eq_true rfl) ⟨by decide, by decide⟩ ?_
  refine i_ifb_eq (tgt := 20) dX6_compile_7 (by decide) (fun h1 => ?_) (fun h1 => ?_)
  · skip
    refine z_aload_n dX6_compile_20 rfl ?_
    refine z_getf cls5 0 flX6_10 dX6_compile_21 (by decide) (by first | exact h0 | rfl) rfl ?_
    refine i_cVr (k_isEmpty _ a.nc a.ac a.cp hV.nc hF.1) mX6_98 dX6_compile_24 (by first | exact hF.1 | rfl) rfl rfl rfl ⟨by decide, by decide⟩ (Nat.le_of_ble_eq_true rfl) ⟨by decide, by decide⟩ ?_
    refine i_ifb_eq (tgt := 40) dX6_compile_27 (by decide) (fun h3 => ?_) (fun h3 => ?_)
    · skip
      have hn : 0 < a.nc := by
        by_cases q : a.nc = 0
        · rw [q] at h3; cases h3
        · omega
      refine z_aload_n dX6_compile_40 rfl ?_
      refine z_getf cls5 0 flX6_10 dX6_compile_41 (by decide) (by first | exact h0 | rfl) rfl ?_
      refine i_cVr (k_hasSharedNode _ a.nc a.ac a.cp a.op a.lf rc hV.nc (wf_rc hV.wf g1) hF.1 hF.2.1 hF.2.2.1 hF.2.2.2.1) mX6_103 dX6_compile_44 (by first | exact hF.1 | rfl) rfl rfl rfl ⟨by decide, by decide⟩ (Nat.le_of_ble_eq_true rfl) ⟨by decide, by decide⟩ ?_
      rw [shB_rc g1]
      refine i_ifb_eq (tgt := 60) dX6_compile_47 (by decide) (fun h4 => ?_) (fun h4 => ?_)
      · skip
        refine z_aload_n dX6_compile_60 rfl ?_
        refine z_getf cls5 0 flX6_10 dX6_compile_61 (by decide) (by first | exact h0 | rfl) rfl ?_
        refine z_callVX (k_makeRules σ a.nc a.ac a.cp a.op a.lf rc a.M a.E a.B S a.CF CD NB FR hV.ac hV.ok hF) mX6_108 dX6_compile_64 hF.1 rfl rfl rfl ⟨by decide, by decide⟩ (Nat.le_of_ble_eq_true rfl) ⟨by decide, by decide⟩ (fun _ _ h => h.elim) (fun r u hq => ?_)
        obtain ⟨S', CD', NB', FR', N, XS, rfl, hF', hT, hx⟩ := hq
        refine z_iret dX6_compile_67 rfl (by decide) (by decide) ⟨if_pos ⟨h1, hn, h4⟩, ⟨N, XS, hT.en hV.ok, rfl⟩, ⟨rc, S', CD', NB', FR', fa, f, s, sr, hF', g1, (hx 0 (by decide) (by decide)).trans h0, (hx 2 (by decide) (by decide)).trans h2, (hx 7 (by decide) (by decide)).trans h7, (hx 8 (by decide) (by decide)).trans h8, (hx 9 (by decide) (by decide)).trans h9, (hx 10 (by decide) (by decide)).trans h10, g8, fun _ => ⟨N, XS, hT⟩, g10.fr (fun q q1 q2 => hx q (by omega) (by omega))⟩, F1.of (fun q hq => hx q (by omega) (by omega))⟩
      · skip
        refine z_throwS (text := "a node is a part twice") rfl tw_ise clX6_63 in_IllegalStateException (by decide +kernel) (by decide +kernel) dX6_compile_50 dX6_compile_53 dX6_compile_54 dX6_compile_56 dX6_compile_59 (by decide) (Nat.le_of_ble_eq_true rfl) (by decide) (by decide) ?_
        exact ⟨rfl, Or.inl ⟨if_neg (fun z => by rw [h4] at z; cases z.2.2), rfl⟩⟩
    · skip
      refine z_throwS (text := "no nodes") rfl tw_ise clX6_63 in_IllegalStateException (by decide +kernel) (by decide +kernel) dX6_compile_30 dX6_compile_33 dX6_compile_34 dX6_compile_36 dX6_compile_39 (by decide) (Nat.le_of_ble_eq_true rfl) (by decide) (by decide) ?_
      exact ⟨rfl, Or.inl ⟨if_neg (fun z => by have := Nat.eq_of_beq_eq_true h3; omega), rfl⟩⟩
  · skip
    refine z_throwS (text := "compiled already") rfl tw_ise clX6_63 in_IllegalStateException (by decide +kernel) (by decide +kernel) dX6_compile_10 dX6_compile_13 dX6_compile_14 dX6_compile_16 dX6_compile_19 (by decide) (Nat.le_of_ble_eq_true rfl) (by decide) (by decide) ?_
    exact ⟨rfl, Or.inl ⟨if_neg (fun z => by rw [h1] at z; cases z.1), rfl⟩⟩
theorem dk_add0 {σ : Wd} {a : AS} (h : DK σ a) (l : Nat) : DK σ (oAdd a l 0) := by
  obtain ⟨rc, S, CD, NB, FR, fa, f, s, sr, hF, g1, h0, h2, h7, h8, h9, h10, g8, g9, g10⟩ := h
  refine ⟨rc, S, CD, NB, FR, fa, f, s, sr, hF, g1, h0, h2, h7, h8, ?_, h10, fun i hi => ?_, g9, g10⟩
  · show σ 9 = some (AI 8 (va_up a.lt l (a.lt l + (0 : Nat))))
    rw [show a.lt l + ((0 : Nat) : Int) = a.lt l from Int.add_zero _, va_id]; exact h9
  · have hi : i < a.cnt := hi
    show fa i = pkC (if i < a.cnt then a.ag i else bgA a.M a.E a.CF l) a.ac
    rw [if_pos hi]; exact g8 i hi
theorem k_add {σ : Wd} {a : AS} (hD : DK σ a) (hV : VL a) (l n : Int) (hl : i32 l) (hn : i32 n) : KX6_add [.ref 0, .int (iI l), .int (iI n)] σ (QO (cdAdd a l n) (.int (iI ((a.cnt + n.toNat : Nat) : Int))) σ (oAdd a l.toNat n.toNat)) (QE (cdAdd a l n) IAE ISE σ) := by
  have hD0 := hD
  obtain ⟨rc, S, CD, NB, FR, fa, f, s, sr, hF, g1, h0, h2, h7, h8, h9, h10, g8, g9, g10⟩ := hD
  have hn' := hn
  have hcl := hV.cnt
  unfold i32 at hn'
  refine Ct.intro (by decide) (Nat.le_of_ble_eq_true rfl) ?_
  refine z_iload_n dX6_add_0 rfl ?_
  refine i_cSr (k_isLetter _ l hl) mX6_37 dX6_add_1 rfl rfl ⟨by decide, by decide⟩ (Nat.le_of_ble_eq_true rfl) ⟨by decide, by decide⟩ ?_
  refine i_ifb_ne (tgt := 17) dX6_add_4 (by decide) (fun h1 => ?_) (fun h1 => ?_)
  · skip
    have h1 := of_decide_eq_true h1
    refine z_iload_n dX6_add_17 rfl ?_
    refine i_if_ge (tgt := 31) dX6_add_18 (by decide) (by omega) (fun h3 => ?_) (fun h3 => ?_)
    · skip
      have hg : (0 ≤ l ∧ l < 8) ∧ 0 ≤ n := ⟨h1, h3⟩
      obtain ⟨l, rfl⟩ := Int.eq_ofNat_of_zero_le h1.1
      obtain ⟨n, rfl⟩ := Int.eq_ofNat_of_zero_le h3
      rw [Int.toNat_natCast, Int.toNat_natCast]
      refine z_aload_n dX6_add_31 rfl ?_
      refine z_getf cls5 0 flX6_10 dX6_add_32 (by decide) (by first | exact h0 | rfl) rfl ?_
      refine i_cVr (k_isCompiled _ a.nc a.ac a.cp hF.1) mX6_93 dX6_add_35 (by first | exact hF.1 | rfl) rfl rfl rfl ⟨by decide, by decide⟩ (Nat.le_of_ble_eq_true rfl) ⟨by decide, by decide⟩ ?_
      refine i_ifb_ne (tgt := 51) dX6_add_38 (by decide) (fun h4 => ?_) (fun h4 => ?_)
      · skip
        refine z_iload_n dX6_add_51 rfl ?_
        refine i_sipush dX6_add_52 (by decide) ?_
        refine z_aload_n dX6_add_55 rfl ?_
        refine z_getf cls5 1 flX6_21 dX6_add_56 (by decide) (by first | exact h0 | rfl) rfl ?_
        refine i_cVr (k_count _ a.cnt h7) mX6_116 dX6_add_59 (by first | exact h7 | rfl) rfl rfl rfl ⟨by decide, by decide⟩ (Nat.le_of_ble_eq_true rfl) ⟨by decide, by decide⟩ ?_
        refine i_isub dX6_add_62 ?_
        refine i_icmp_le (tgt := 76) dX6_add_63 (by decide) (by omega) (by omega) (fun h5 => ?_) (fun h5 => ?_)
        · skip
          have hc0 : cdAdd a (l : Nat) (n : Nat) = 0 := by unfold cdAdd; rw [if_pos hg, if_pos ⟨h4, by omega⟩]
          refine z_iload_n dX6_add_76 rfl ?_
          refine i_if_le (tgt := 94) dX6_add_77 (by decide) (by omega) (fun h6 => ?_) (fun h6 => ?_)
          · skip
            have hz : n = 0 := by omega
            rw [hz] at hc0 ⊢
            refine z_aload_n dX6_add_94 rfl ?_
            refine z_getf cls5 1 flX6_21 dX6_add_95 (by decide) (by first | exact h0 | rfl) rfl ?_
            refine i_cVr (k_count _ a.cnt h7) mX6_116 dX6_add_98 (by first | exact h7 | rfl) rfl rfl rfl ⟨by decide, by decide⟩ (Nat.le_of_ble_eq_true rfl) ⟨by decide, by decide⟩ ?_
            exact z_iret dX6_add_101 rfl (by decide) (by decide) ⟨hc0, rfl, dk_add0 hD0 l, F1.rfl⟩
          · skip
            refine z_aload_n dX6_add_80 rfl ?_
            refine z_getf cls5 1 flX6_21 dX6_add_81 (by decide) (by first | exact h0 | rfl) rfl ?_
            refine z_iload_n dX6_add_84 rfl ?_
            refine z_iload_n dX6_add_85 rfl ?_
            refine i_cVv (k_admit σ a.cnt l n fa a.lt a.nc a.ac a.cp a.op a.lf rc a.M a.E a.B S a.CF CD NB FR (by omega) (by omega) hV.ac hV.ok hF h7 h8 h9) mX6_121 dX6_add_86 (by first | exact h7 | rfl) rfl rfl rfl ⟨by decide, by decide⟩ (Nat.le_of_ble_eq_true rfl) ⟨by decide, by decide⟩ ?_
            refine z_aload_n dX6_add_89 rfl ?_
            refine i_iconst dX6_add_90 rfl ?_
            refine i_putz (b := false) cls5 3 flX6_29 dX6_add_91 (by decide) rfl rfl (by first | exact h0 | rfl) (Nat.le_of_ble_eq_true rfl) ?_
            refine z_aload_n dX6_add_94 rfl ?_
            refine z_getf cls5 1 flX6_21 dX6_add_95 (by decide) (by first | exact h0 | rfl) rfl ?_
            refine i_cVr (k_count _ (a.cnt + n) rfl) mX6_116 dX6_add_98 (by first | exact h7 | rfl) rfl rfl rfl ⟨by decide, by decide⟩ (Nat.le_of_ble_eq_true rfl) ⟨by decide, by decide⟩ ?_
            refine z_iret dX6_add_101 rfl (by decide) (by decide) ⟨hc0, rfl, ⟨rc, S, CD, NB, FR, _, f, s, sr, (((hF.up _ (by omega)).up _ (by omega)).up _ (by omega)).up _ (by omega), g1, ?_, h2, rfl, rfl, rfl, h10, fun i hi => ?_, g9, ?_⟩, (((F1.rfl.up _ (by omega)).up _ (by omega)).up _ (by omega)).up _ (by omega)⟩
            · show some (obD sr false) = some (obD sr (if n = 0 then a.ex else none).isSome)
              rw [if_neg (by omega)]; rfl
            · have hi : i < a.cnt + n := hi
              show (if i < a.cnt then fa i else if i < a.cnt + n then pkC (bgA a.M a.E a.CF l) a.ac else fa i) = pkC (if i < a.cnt then a.ag i else bgA a.M a.E a.CF l) a.ac
              by_cases q : i < a.cnt
              · rw [if_pos q, if_pos q]; exact g8 i q
              · rw [if_neg q, if_neg q, if_pos hi]
            · show SD _ sr a.ac (a.cnt + n) (if n = 0 then a.ex else none)
              rw [if_neg (by omega)]
              exact (SD.no g10).fr (fun q q1 q2 => by rw [up_ne _ _ (by omega), up_ne _ _ (by omega), up_ne _ _ (by omega), up_ne _ _ (by omega)])
        · skip
          refine z_throwS (text := "more than 200 agents") rfl tw_ise clX6_63 in_IllegalStateException (by decide +kernel) (by decide +kernel) dX6_add_66 dX6_add_69 dX6_add_70 dX6_add_72 dX6_add_75 (by decide) (Nat.le_of_ble_eq_true rfl) (by decide) (by decide) ?_
          exact ⟨rfl, Or.inr ⟨by unfold cdAdd; rw [if_pos hg, if_neg (fun z => by omega)], rfl⟩⟩
      · skip
        refine z_throwS (text := "not compiled") rfl tw_ise clX6_63 in_IllegalStateException (by decide +kernel) (by decide +kernel) dX6_add_41 dX6_add_44 dX6_add_45 dX6_add_47 dX6_add_50 (by decide) (Nat.le_of_ble_eq_true rfl) (by decide) (by decide) ?_
        exact ⟨rfl, Or.inr ⟨by unfold cdAdd; rw [if_pos hg, if_neg (fun z => by rw [h4] at z; cases z.1)], rfl⟩⟩
    · skip
      refine z_throwS (text := "n is below 0") rfl tw_iae clX6_41 in_IllegalArgumentException (by decide +kernel) (by decide +kernel) dX6_add_21 dX6_add_24 dX6_add_25 dX6_add_27 dX6_add_30 (by decide) (Nat.le_of_ble_eq_true rfl) (by decide) (by decide) ?_
      exact ⟨rfl, Or.inl ⟨if_neg (fun z => by omega), rfl⟩⟩
  · skip
    have h1 := of_decide_eq_false h1
    refine z_throwS (text := "no such letter") rfl tw_iae clX6_41 in_IllegalArgumentException (by decide +kernel) (by decide +kernel) dX6_add_7 dX6_add_10 dX6_add_11 dX6_add_13 dX6_add_16 (by decide) (Nat.le_of_ble_eq_true rfl) (by decide) (by decide) ?_
    exact ⟨rfl, Or.inl ⟨if_neg (fun z => h1 z.1), rfl⟩⟩
theorem k_size {σ : Wd} {a : AS} (hD : DK σ a) : KX6_size [.ref 0] σ (Rt (some (.int (iI (a.cnt : Nat)))) σ) NX := by
  obtain ⟨rc, S, CD, NB, FR, fa, f, s, sr, hF, g1, h0, h2, h7, h8, h9, h10, g8, g9, g10⟩ := hD
  refine Ct.intro (by decide) (Nat.le_of_ble_eq_true rfl) ?_
  refine z_aload_n dX6_size_0 rfl ?_
  refine z_getf cls5 1 flX6_21 dX6_size_1 (by decide) (by first | exact h0 | rfl) rfl ?_
  refine i_cVr (k_count _ a.cnt h7) mX6_116 dX6_size_4 (by first | exact h7 | rfl) rfl rfl rfl ⟨by decide, by decide⟩ (Nat.le_of_ble_eq_true rfl) ⟨by decide, by decide⟩ ?_
  exact i_iret dX6_size_7 rfl (by decide) (by decide) rfl
def cdMeet (a : AS) (i j : Int) : Nat := if i = j then 1 else if (0 ≤ i ∧ i < a.cnt) ∧ (0 ≤ j ∧ j < a.cnt) then 0 else 2
/-- the crowd after meetings -/
theorem dk_wc {σ : Wd} {a a' : AS} {rc S : Nat → Int} {CD NB FR : Nat → Nat → Int} {fa fa' : Nat → Nat} {f s f' s' : Nat} {sr : Value} (h : DKp σ a rc S CD NB FR fa f s sr) (ag' : Nat → Nat → St) (ex' : Option XS) (ha' : a' = mkA a.pd a.nc a.ac a.cp a.op a.lf a.rt a.M a.E a.B a.CF a.lt a.cnt ag' ex') (hag : AG a.ac a.cnt fa' ag') (hex : ex' = a.ex ∨ ex' = none) : DK (up (WC σ fa' f' s') 0 (obD sr ex'.isSome)) a' := by
  obtain ⟨hF, g1, h0, h2, h7, h8, h9, h10, g8, g9, g10⟩ := h
  subst ha'
  refine ⟨rc, S, CD, NB, FR, fa', f', s', sr, (WC_F hF).up _ (by omega), g1, rfl, h2, h7, rfl, h9, rfl, hag, g9, ?_⟩
  have hfr : ∀ q, 70 ≤ q → q ≤ 75 → up (WC σ fa' f' s') 0 (obD sr ex'.isSome) q = σ q := fun q q1 q2 => by rw [up_ne _ _ (by omega), WC_x (by omega) (by omega)]
  show SD _ sr a.ac a.cnt ex'
  rcases hex with e | e
  · rw [e] at hfr ⊢; exact g10.fr hfr
  · rw [e] at hfr ⊢; exact (SD.no g10).fr hfr
theorem F1_WC {σ : Wd} {fa : Nat → Nat} {f s : Nat} : F1 σ (WC σ fa f s) := F1.of (fun q hq => WC_x (by omega) (by omega))
theorem k_meet {σ : Wd} {a : AS} (hD : DK σ a) (hV : VL a) (i j : Int) (hi : i32 i) (hj : i32 j) : KX6_meet [.ref 0, .int (iI i), .int (iI j)] σ (QO (cdMeet a i j) (.int (iI (bI (chg a.ac a.M a.E a.B (a.ag i.toNat) (a.ag j.toNat))))) σ (oMeet a i.toNat j.toNat)) (QE (cdMeet a i j) IAE IOE σ) := by
  obtain ⟨rc, S, CD, NB, FR, fa, f, s, sr, hD0⟩ := hD
  have hD := hD0
  obtain ⟨hF, g1, h0, h2, h7, h8, h9, h10, g8, g9, g10⟩ := hD
  have hi' := hi
  have hj' := hj
  unfold i32 at hi' hj'
  refine Ct.intro (by decide) (Nat.le_of_ble_eq_true rfl) ?_
  have H37 : i ≠ j → ¬ ((0 ≤ i ∧ i < a.cnt) ∧ (0 ≤ j ∧ j < a.cnt)) → PX6_meet (QO (cdMeet a i j) (.int (iI (bI (chg a.ac a.M a.E a.B (a.ag i.toNat) (a.ag j.toNat))))) σ (oMeet a i.toNat j.toNat)) (QE (cdMeet a i j) IAE IOE σ) 37 [some (.ref 0), some (.int (iI i)), some (.int (iI j)), none] [] σ 0 0 := by
    intro hne hb
    refine z_throwS (text := "no such agent") rfl tw_ioobe clX6_130 in_IndexOutOfBoundsException (by decide +kernel) (by decide +kernel) dX6_meet_37 dX6_meet_40 dX6_meet_41 dX6_meet_43 dX6_meet_46 (by decide) (Nat.le_of_ble_eq_true rfl) (by decide) (by decide) ?_
    exact ⟨rfl, Or.inr ⟨by unfold cdMeet; rw [if_neg hne, if_neg hb], rfl⟩⟩
  refine z_iload_n dX6_meet_0 rfl ?_
  refine z_iload_n dX6_meet_1 rfl ?_
  refine i_icmp_ne (tgt := 15) dX6_meet_2 (by decide) (by omega) (by omega) (fun h1 => ?_) (fun h1 => ?_)
  · skip
    refine z_aload_n dX6_meet_15 rfl ?_
    refine z_getf cls5 1 flX6_21 dX6_meet_16 (by decide) (by first | exact h0 | rfl) rfl ?_
    refine z_iload_n dX6_meet_19 rfl ?_
    refine i_cVr (k_hasAgent _ a.cnt i hV.cnt hi h7) mX6_127 dX6_meet_20 (by first | exact h7 | rfl) rfl rfl rfl ⟨by decide, by decide⟩ (Nat.le_of_ble_eq_true rfl) ⟨by decide, by decide⟩ ?_
    refine i_ifb_eq (tgt := 37) dX6_meet_23 (by decide) (fun h3 => ?_) (fun h3 => ?_)
    · skip
      exact H37 h1 (fun z => hasI_f h3 z.1)
    · skip
      have h3 := hasI_t h3
      refine z_aload_n dX6_meet_26 rfl ?_
      refine z_getf cls5 1 flX6_21 dX6_meet_27 (by decide) (by first | exact h0 | rfl) rfl ?_
      refine z_iload_n dX6_meet_30 rfl ?_
      refine i_cVr (k_hasAgent _ a.cnt j hV.cnt hj h7) mX6_127 dX6_meet_31 (by first | exact h7 | rfl) rfl rfl rfl ⟨by decide, by decide⟩ (Nat.le_of_ble_eq_true rfl) ⟨by decide, by decide⟩ ?_
      refine i_ifb_ne (tgt := 47) dX6_meet_34 (by decide) (fun h4 => ?_) (fun h4 => ?_)
      · skip
        have h4 := hasI_t h4
        have hc0 : cdMeet a i j = 0 := by unfold cdMeet; rw [if_neg h1, if_pos ⟨h3, h4⟩]
        obtain ⟨i, rfl⟩ := Int.eq_ofNat_of_zero_le h3.1
        obtain ⟨j, rfl⟩ := Int.eq_ofNat_of_zero_le h4.1
        rw [Int.toNat_natCast, Int.toNat_natCast]
        refine z_aload_n dX6_meet_47 rfl ?_
        refine z_getf cls5 1 flX6_21 dX6_meet_48 (by decide) (by first | exact h0 | rfl) rfl ?_
        refine z_iload_n dX6_meet_51 rfl ?_
        refine z_iload_n dX6_meet_52 rfl ?_
        refine z_eqw (WC_id h8 h10).symm ?_
        have w7 : WC σ fa f s 7 = some (obC a.cnt) := (WC_x (by decide) (by decide)).trans h7
        have w0 : ∀ fa f s, WC σ fa f s 0 = some (obD sr a.ex.isSome) := fun fa f s => (WC_x (by decide) (by decide)).trans h0
        refine i_cVr (k_bringTogether σ a.cnt i j f s fa a.ag a.nc a.ac a.cp a.op a.lf rc a.M a.E a.B S a.CF CD NB FR hV.cnt (by omega) (by omega) hV.ac hV.ok hF h7 g8 hV.oc) mX6_135 dX6_meet_53 (by first | exact w7 | rfl) rfl rfl rfl ⟨by decide, by decide⟩ (Nat.le_of_ble_eq_true rfl) ⟨by decide, by decide⟩ ?_
        refine z_istore_n dX6_meet_56 (by decide) ?_
        refine z_iload_n dX6_meet_57 rfl ?_
        have hag' := AG_mtg (M := a.M) (E := a.E) (B := a.B) g8 i j
        refine i_ifb_eq (tgt := 66) dX6_meet_58 (by decide) (fun h5 => ?_) (fun h5 => ?_)
        · skip
          refine z_iload_n dX6_meet_66 rfl ?_
          have hdk := dk_wc (a' := oMeet a i j) (f' := pkC (mtA1 a.ac a.M a.E a.B (a.ag i) (a.ag j)) a.ac) (s' := pkC (mtA2 a.ac a.M a.E a.B (a.ag i) (a.ag j)) a.ac) hD0 _ a.ex (by unfold oMeet; rw [h5]; rfl) hag' (Or.inl rfl)
          rw [up_id (w0 _ _ _)] at hdk
          exact z_zret dX6_meet_67 rfl (by decide) (by decide) (bI_n _) ⟨hc0, rfl, hdk, F1_WC⟩
        · skip
          refine z_aload_n dX6_meet_61 rfl ?_
          refine i_iconst dX6_meet_62 rfl ?_
          refine i_putz (b := false) cls5 3 flX6_29 dX6_meet_63 (by decide) rfl rfl (w0 _ _ _) (Nat.le_of_ble_eq_true rfl) ?_
          refine z_iload_n dX6_meet_66 rfl ?_
          have hdk := dk_wc (a' := oMeet a i j) (f' := pkC (mtA1 a.ac a.M a.E a.B (a.ag i) (a.ag j)) a.ac) (s' := pkC (mtA2 a.ac a.M a.E a.B (a.ag i) (a.ag j)) a.ac) hD0 _ none (by unfold oMeet; rw [h5]; rfl) hag' (Or.inr rfl)
          exact z_zret dX6_meet_67 rfl (by decide) (by decide) (bI_n _) ⟨hc0, rfl, hdk, F1_WC.up _ (by omega)⟩
      · skip
        exact H37 h1 (fun z => hasI_f h4 z.2)
  · skip
    refine z_throwS (text := "an agent does not meet itself") rfl tw_iae clX6_41 in_IllegalArgumentException (by decide +kernel) (by decide +kernel) dX6_meet_5 dX6_meet_8 dX6_meet_9 dX6_meet_11 dX6_meet_14 (by decide) (Nat.le_of_ble_eq_true rfl) (by decide) (by decide) ?_
    exact ⟨rfl, Or.inl ⟨if_pos h1, rfl⟩⟩
def cdSweep (t : Int) : Nat := if 1 ≤ t ∧ t ≤ 500 then 0 else 1
theorem k_sweep {σ : Wd} {a : AS} (hD : DK σ a) (hV : VL a) (t : Int) (ht : i32 t) : KX6_sweep [.ref 0, .int (iI t)] σ (QO (cdSweep t) (.int (iI ((swT a.ac a.M a.E a.B a.cnt t.toNat a.ag).2 : Nat))) σ (oSweep a t.toNat)) (QE (cdSweep t) IAE ISE σ) := by
  obtain ⟨rc, S, CD, NB, FR, fa, f, s, sr, hD0⟩ := hD
  have hD := hD0
  obtain ⟨hF, g1, h0, h2, h7, h8, h9, h10, g8, g9, g10⟩ := hD
  unfold i32 at ht
  refine Ct.intro (by decide) (Nat.le_of_ble_eq_true rfl) ?_
  have H12 : ¬ (1 ≤ t ∧ t ≤ 500) → PX6_sweep (QO (cdSweep t) (.int (iI ((swT a.ac a.M a.E a.B a.cnt t.toNat a.ag).2 : Nat))) σ (oSweep a t.toNat)) (QE (cdSweep t) IAE ISE σ) 12 [some (.ref 0), some (.int (iI t)), none] [] σ 0 0 := by
    intro hb
    refine z_throwS (text := "times is not 1 .. 500") rfl tw_iae clX6_41 in_IllegalArgumentException (by decide +kernel) (by decide +kernel) dX6_sweep_12 dX6_sweep_15 dX6_sweep_16 dX6_sweep_18 dX6_sweep_21 (by decide) (Nat.le_of_ble_eq_true rfl) (by decide) (by decide) ?_
    exact ⟨rfl, Or.inl ⟨if_neg hb, rfl⟩⟩
  refine z_iload_n dX6_sweep_0 rfl ?_
  refine i_iconst dX6_sweep_1 rfl ?_
  refine i_icmp_lt (tgt := 12) dX6_sweep_2 (by decide) (by omega) (by omega) (fun h1 => ?_) (fun h1 => ?_)
  · skip
    exact H12 (by omega)
  · skip
    refine z_iload_n dX6_sweep_5 rfl ?_
    refine i_sipush dX6_sweep_6 (by decide) ?_
    refine i_icmp_le (tgt := 22) dX6_sweep_9 (by decide) (by omega) (by omega) (fun h3 => ?_) (fun h3 => ?_)
    · skip
      have hc0 : cdSweep t = 0 := if_pos (by omega)
      obtain ⟨t, rfl⟩ := Int.eq_ofNat_of_zero_le (show 0 ≤ t by omega)
      rw [Int.toNat_natCast]
      refine z_aload_n dX6_sweep_22 rfl ?_
      refine z_getf cls5 1 flX6_21 dX6_sweep_23 (by decide) (by first | exact h0 | rfl) rfl ?_
      refine z_iload_n dX6_sweep_26 rfl ?_
      refine z_eqw (WC_id h8 h10).symm ?_
      have w7 : WC σ fa f s 7 = some (obC a.cnt) := (WC_x (by decide) (by decide)).trans h7
      have w0 : ∀ fa f s, WC σ fa f s 0 = some (obD sr a.ex.isSome) := fun fa f s => (WC_x (by decide) (by decide)).trans h0
      refine z_callVX (k_sweepOften σ a.cnt f s t fa a.ag a.nc a.ac a.cp a.op a.lf rc a.M a.E a.B S a.CF CD NB FR (by omega) hV.cnt hV.ac hV.ok hF h7 g8 hV.oc) mX6_141 dX6_sweep_27 (by first | exact w7 | rfl) rfl rfl rfl ⟨by decide, by decide⟩ (Nat.le_of_ble_eq_true rfl) ⟨by decide, by decide⟩ (fun _ _ h => h.elim) (fun r u hq => ?_)
      obtain ⟨fa', f', s', rfl, rfl, hag'⟩ := hq
      have hle := swT_le (ac := a.ac) (M := a.M) (E := a.E) (B := a.B) hV.cnt t a.ag
      refine z_istore_n dX6_sweep_30 (by decide) ?_
      refine z_iload_n dX6_sweep_31 rfl ?_
      refine i_if_le (tgt := 40) dX6_sweep_32 (by decide) (by omega) (fun h5 => ?_) (fun h5 => ?_)
      · skip
        refine z_iload_n dX6_sweep_40 rfl ?_
        have hdk := dk_wc (a' := oSweep a t) (f' := f') (s' := s') hD0 _ a.ex (by unfold oSweep; rw [if_pos (by omega)]) hag' (Or.inl rfl)
        rw [up_id (w0 _ _ _)] at hdk
        exact z_iret dX6_sweep_41 rfl (by decide) (by decide) ⟨hc0, rfl, hdk, F1_WC⟩
      · skip
        refine z_aload_n dX6_sweep_35 rfl ?_
        refine i_iconst dX6_sweep_36 rfl ?_
        refine i_putz (b := false) cls5 3 flX6_29 dX6_sweep_37 (by decide) rfl rfl (w0 _ _ _) (Nat.le_of_ble_eq_true rfl) ?_
        refine z_iload_n dX6_sweep_40 rfl ?_
        have hdk := dk_wc (a' := oSweep a t) (f' := f') (s' := s') hD0 _ none (by unfold oSweep; rw [if_neg (by omega)]) hag' (Or.inr rfl)
        exact z_iret dX6_sweep_41 rfl (by decide) (by decide) ⟨hc0, rfl, hdk, F1_WC.up _ (by omega)⟩
    · skip
      exact H12 (by omega)

