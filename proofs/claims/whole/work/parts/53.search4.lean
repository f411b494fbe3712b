theorem k_findAll (σ : Wd) (w wd fd : Nat) (rf : Nat → Nat) (sl : Nat → Int) (er : Nat → Bool) (nx fa : Nat → Nat) (f s : Nat) (nc ac : Nat) (cp : Bool) (op lf rt M E B S : Nat → Int) (CF CD NB FR : Nat → Nat → Int) (ag : Nat → Nat → St) (limit : Nat) (hw : 1 ≤ w ∧ w ≤ 6) (hac : ac ≤ 5) (hok : okAs ac M E B CF) (hF : FX σ nc ac cp op lf rt M E B S CF CD NB FR) (hl : 1 ≤ limit ∧ limit ≤ 3000) (h7 : σ 7 = some (obC w)) (h8 : σ 8 = some (AL 200 fa)) (hag : AG ac w fa ag) (hko : okC ac M B w ag) :
    KX5_findAll [.ref 70, .ref 7, .int (iI limit)] (WS σ wd fd rf sl er nx f s) (fun r u => ∃ (n' : Nat) (rf' : Nat → Nat) (sl' : Nat → Int) (tb' nx' : Nat → Nat) (f' s' : Nat), u = WS σ w n' rf' sl' er nx' f' s' ∧ ((∃ y, xAll ac M E B w limit ag = some y ∧ n' = y.2 ∧ r = some (.int (iI (y.2 : Nat))) ∧ SI ac w y rf' sl' tb') ∨ (xAll ac M E B w limit ag = none ∧ r = some (.int (iI (-1)))))) NX := by
  refine Ct.intro (by decide) (Nat.le_of_ble_eq_true rfl) ?_
  obtain ⟨Q, hQ⟩ : ∃ Q : Option Value → Wd → Prop, Q = fun r u => ∃ (n' : Nat) (rf' : Nat → Nat) (sl' : Nat → Int) (tb' nx' : Nat → Nat) (f' s' : Nat), u = WS σ w n' rf' sl' er nx' f' s' ∧ ((∃ y, xAll ac M E B w limit ag = some y ∧ n' = y.2 ∧ r = some (.int (iI (y.2 : Nat))) ∧ SI ac w y rf' sl' tb') ∨ (xAll ac M E B w limit ag = none ∧ r = some (.int (iI (-1))))) := ⟨_, rfl⟩
  rw [← hQ]
  have g7 : ∀ (wd fd : Nat) (rf : Nat → Nat) (sl : Nat → Int) (er : Nat → Bool) (nx : Nat → Nat) (f s : Nat), WS σ wd fd rf sl er nx f s 7 = some (obC w) := fun wd fd rf sl er nx f s => (WS_x (by omega)).trans h7
  have g8 : ∀ (wd fd : Nat) (rf : Nat → Nat) (sl : Nat → Int) (er : Nat → Bool) (nx : Nat → Nat) (f s : Nat), WS σ wd fd rf sl er nx f s 8 = some (AL 200 fa) := fun wd fd rf sl er nx f s => (WS_x (by omega)).trans h8
  have H : ∀ (t c : Nat) (y : XS) (rf : Nat → Nat) (sl : Nat → Int) (tb nx : Nat → Nat) (f s : Nat), c + t = limit → c ≤ y.2 → y.2 ≤ limit → XG ac M B w y → SI ac w y rf sl tb → xR ac M E B w limit t c y = xAll ac M E B w limit ag → PX5_findAll Q NX 62 [some (.ref 70), some (.ref 7), some (.int (iI limit)), some (.int (iI c))] [] (WS σ w y.2 rf sl er nx f s) 0 0 := by
    have hend : ∀ (y : XS) (rf : Nat → Nat) (sl : Nat → Int) (tb nx : Nat → Nat) (f s : Nat) (o3 : Option Value), SI ac w y rf sl tb → xAll ac M E B w limit ag = some y → PX5_findAll Q NX 92 [some (.ref 70), some (.ref 7), some (.int (iI limit)), o3] [] (WS σ w y.2 rf sl er nx f s) 0 0 := by
      intro y rf sl tb nx f s o3 hS e
      refine z_aload_n dX5_findAll_92 rfl ?_
      refine z_getf cls4 7 flX5_55 dX5_findAll_93 (by decide) (WS_70) rfl ?_
      exact z_iret dX5_findAll_96 rfl (by decide) (by decide) (by rw [hQ]; exact ⟨y.2, rf, sl, tb, nx, f, s, rfl, Or.inl ⟨y, e, rfl, rfl, hS⟩⟩)
    intro t
    induction t with
    | zero =>
      intro c y rf sl tb nx f s ht hc hy hG hS e
      refine z_iload_n dX5_findAll_62 rfl ?_
      refine z_aload_n dX5_findAll_63 rfl ?_
      refine z_getf cls4 7 flX5_55 dX5_findAll_64 (by decide) (WS_70) rfl ?_
      refine i_icmp_ge (tgt := 92) dX5_findAll_67 (by decide) (by omega) (by omega) (fun h1 => ?_) (fun h1 => ?_)
      · skip
        exact hend y rf sl tb nx f s _ hS e.symm
      · skip
        omega
    | succ t ih =>
      intro c y rf sl tb nx f s ht hc hy hG hS e
      unfold xR at e
      refine z_iload_n dX5_findAll_62 rfl ?_
      refine z_aload_n dX5_findAll_63 rfl ?_
      refine z_getf cls4 7 flX5_55 dX5_findAll_64 (by decide) (WS_70) rfl ?_
      refine i_icmp_ge (tgt := 92) dX5_findAll_67 (by decide) (by omega) (by omega) (fun h1 => ?_) (fun h1 => ?_)
      · skip
        rw [if_neg (by omega)] at e
        exact hend y rf sl tb nx f s _ hS e.symm
      · skip
        rw [if_pos (by omega)] at e
        refine z_iload_n dX5_findAll_70 rfl ?_
        refine z_iload_n dX5_findAll_71 rfl ?_
        refine i_icmp_ge (tgt := 92) dX5_findAll_72 (by decide) (by omega) (by omega) (fun h2 => ?_) (fun h2 => ?_)
        · skip
          omega
        · skip
          refine z_aload_n dX5_findAll_75 rfl ?_
          refine z_iload_n dX5_findAll_76 rfl ?_
          refine z_iload_n dX5_findAll_77 rfl ?_
          refine z_callVX (k_keepAllAfter σ w rf sl tb er nx f s nc ac cp op lf rt M E B S CF CD NB FR y c limit hw hac hok hF hl.2 hy hG hS (by omega)) mX5_72 dX5_findAll_78 (WS_70) rfl rfl rfl ⟨by decide, by decide⟩ (Nat.le_of_ble_eq_true rfl) ⟨by decide, by decide⟩ (fun _ _ h => h.elim) (fun r u hq => ?_)
          obtain ⟨n', rf', sl', tb', nx', f', s', rfl, hres⟩ := hq
          rcases hres with ⟨z, ez, rfl, rfl, hS'⟩ | ⟨ez, rfl⟩
          · rw [ez] at e
            obtain ⟨zG, zL, zl, _⟩ := xI_ok hok hG hy (by omega) w z (Nat.le_refl _) ez
            refine i_ifb_ne (tgt := 86) dX5_findAll_81 (by decide) (fun h3 => ?_) (fun h3 => ?_)
            · skip
              refine i_iinc dX5_findAll_86 rfl (by decide) ?_
              refine z_goto (tgt := 62) dX5_findAll_89 (by decide) ?_
              exact ih (c + 1) z rf' sl' tb' nx' f' s' (by omega) (by have := zL.1; omega) zl zG hS' e
            · skip
              cases h3
          · rw [ez] at e
            refine i_ifb_ne (tgt := 86) dX5_findAll_81 (by decide) (fun h3 => ?_) (fun h3 => ?_)
            · skip
              cases h3
            · skip
              refine i_iconst dX5_findAll_84 rfl ?_
              exact z_iret dX5_findAll_85 rfl (by decide) (by decide) (by rw [hQ]; exact ⟨n', rf', sl', tb', nx', f', s', rfl, Or.inr ⟨e.symm, rfl⟩⟩)
  have H1 : ∀ k : Nat, k ≤ w → ∀ nx : Nat → Nat, (∀ l, l < k → nx l = pkC (ag l) ac) → PX5_findAll Q NX 23 [some (.ref 70), some (.ref 7), some (.int (iI limit)), some (.int (iI k))] [] (WS σ w 0 rf (fun _ => -1) er nx f s) 0 0 := by
    refine up_to w ?_ ?_
    · intro nx hnx
      refine z_iload_n dX5_findAll_23 rfl ?_
      refine z_aload_n dX5_findAll_24 rfl ?_
      refine z_getf cls4 6 flX5_51 dX5_findAll_25 (by decide) (WS_70) rfl ?_
      refine i_icmp_ge (tgt := 48) dX5_findAll_28 (by decide) (by omega) (by omega) (fun h1 => ?_) (fun h1 => ?_)
      · skip
        refine z_aload_n dX5_findAll_48 rfl ?_
        refine z_callVX (k_sortNext σ w 0 rf (fun _ => -1) er nx f s ac ag hw hac (fun l hl => (hko l hl).rg hok) hnx) mX5_62 dX5_findAll_49 (WS_70) rfl rfl rfl ⟨by decide, by decide⟩ (Nat.le_of_ble_eq_true rfl) ⟨by decide, by decide⟩ (fun _ _ h => h.elim) (fun r u hq => ?_)
        obtain ⟨nx', rfl, rfl, hag'⟩ := hq
        refine z_aload_n dX5_findAll_52 rfl ?_
        refine z_aload_n dX5_findAll_53 rfl ?_
        have sok : okC ac M B w (srt (fun x => pkC x ac) w ag) := srt_P (P := okG ac M B) w _ (Nat.le_refl _) hko
        have hS0 : SI ac w ((fun _ _ _ => ((false, 0, false) : St), 0) : XS) rf (fun _ => -1) (fun _ => 0) := ⟨fun r hr => absurd hr (Nat.not_lt_zero r), fun _ _ => rfl, TI_0⟩
        refine z_callVX (k_slotOfNext σ w 0 rf (fun _ => -1) (fun _ => 0) er nx' f s ac _ ((fun _ _ _ => ((false, 0, false) : St), 0) : XS) hw.2 hac (fun l hl => (sok l hl).rg hok) hag' (Nat.zero_le _) hS0.1 (fun r hr => absurd hr (Nat.not_lt_zero r)) hS0.2.1 hS0.2.2) mX5_65 dX5_findAll_54 (WS_70) rfl rfl rfl ⟨by decide, by decide⟩ (Nat.le_of_ble_eq_true rfl) ⟨by decide, by decide⟩ (fun _ _ h => h.elim) (fun r u hq => ?_)
        obtain ⟨d, hd, hp, rfl, rfl, hres⟩ := hq
        refine z_callVX (k_keepNext σ w 0 rf (fun _ => -1) er nx' f s _ hw.2 (by omega) (Nat.mod_lt _ (by decide))) mX5_68 dX5_findAll_57 (WS_70) rfl rfl rfl ⟨by decide, by decide⟩ (Nat.le_of_ble_eq_true rfl) ⟨by decide, by decide⟩ (fun _ _ h => h.elim) (fun r u hq => ?_)
        obtain ⟨rf', rfl, rfl, r1, r2⟩ := hq
        refine i_iconst dX5_findAll_60 rfl ?_
        refine z_istore_n dX5_findAll_61 (by decide) ?_
        have hS1 := hS0.add hd hp rfl hag' r1 r2
        exact H limit 0 (va_up (fun _ _ _ => ((false, 0, false) : St)) 0 (srt (fun x => pkC x ac) w ag), 1) rf' _ _ nx' f s (by omega) (Nat.zero_le _) hl.1 (x0_ok hko) hS1 rfl
      · skip
        omega
    · intro k hk ih nx hnx
      refine z_iload_n dX5_findAll_23 rfl ?_
      refine z_aload_n dX5_findAll_24 rfl ?_
      refine z_getf cls4 6 flX5_51 dX5_findAll_25 (by decide) (WS_70) rfl ?_
      refine i_icmp_ge (tgt := 48) dX5_findAll_28 (by decide) (by omega) (by omega) (fun h1 => ?_) (fun h1 => ?_)
      · skip
        omega
      · skip
        refine z_aload_n dX5_findAll_31 rfl ?_
        refine z_getf cls4 5 flX5_23 dX5_findAll_32 (by decide) (WS_70) rfl ?_
        refine z_iload_n dX5_findAll_35 rfl ?_
        refine z_aload_n dX5_findAll_36 rfl ?_
        refine z_iload_n dX5_findAll_37 rfl ?_
        refine i_cVr (k_agent _ w k fa (by omega) (g7 _ _ _ _ _ _ _ _) (g8 _ _ _ _ _ _ _ _)) mX5_58 dX5_findAll_38 (g7 _ _ _ _ _ _ _ _) rfl rfl rfl ⟨by decide, by decide⟩ (Nat.le_of_ble_eq_true rfl) ⟨by decide, by decide⟩ ?_
        refine i_last dX5_findAll_41 (WS_74) k (by omega) (by omega) ?_
        rw [WS_s74, hag k hk]
        refine i_iinc dX5_findAll_42 rfl (by decide) ?_
        refine z_goto (tgt := 23) dX5_findAll_45 (by decide) ?_
        refine ih _ (fun l hl => ?_)
        by_cases z : l = k
        · rw [z, va_up_self]
        · rw [va_up_ne _ _ z]; exact hnx l (by omega)
  refine z_aload_n dX5_findAll_0 rfl ?_
  refine z_getf cls4 3 flX5_15 dX5_findAll_1 (by decide) (WS_70) rfl ?_
  refine i_iconst dX5_findAll_4 rfl ?_
  refine i_cSv (k_fill 72 8192 sl (-1) (by omega) _ WS_72) mX5_39 dX5_findAll_5 rfl rfl ⟨by decide, by decide⟩ (Nat.le_of_ble_eq_true rfl) ⟨by decide, by decide⟩ ?_
  rw [WS_s72]
  refine z_aload_n dX5_findAll_8 rfl ?_
  refine z_aload_n dX5_findAll_9 rfl ?_
  refine i_cVr (k_count _ w (g7 _ _ _ _ _ _ _ _)) mX5_45 dX5_findAll_10 (g7 _ _ _ _ _ _ _ _) rfl rfl rfl ⟨by decide, by decide⟩ (Nat.le_of_ble_eq_true rfl) ⟨by decide, by decide⟩ ?_
  refine i_puti cls4 6 flX5_51 dX5_findAll_13 (by decide) rfl rfl (WS_70) (Nat.le_of_ble_eq_true rfl) ?_
  refine z_eqw (WS_s70 w fd) ?_
  refine z_aload_n dX5_findAll_16 rfl ?_
  refine i_iconst dX5_findAll_17 rfl ?_
  refine i_puti cls4 7 flX5_55 dX5_findAll_18 (by decide) rfl rfl (WS_70) (Nat.le_of_ble_eq_true rfl) ?_
  refine z_eqw (WS_s70 w 0) ?_
  refine i_iconst dX5_findAll_21 rfl ?_
  refine z_istore_n dX5_findAll_22 (by decide) ?_
  exact H1 0 (by omega) nx (fun l hl => absurd hl (Nat.not_lt_zero l))
/-- a right end -/
def reB (op lf rt : Nat → Int) (nc ac : Nat) (M E B : Nat → Int) (w : Nat) (x : XS) (truth : Bool) (c : Nat) : Bool := allB (fun k => fml op lf rt (opA (x.1 c k)) nc == truth) w && slB ac M E B (x.1 c) w
theorem k_isRightEnd (σ : Wd) (w fd : Nat) (rf : Nat → Nat) (sl : Nat → Int) (er : Nat → Bool) (nx : Nat → Nat) (f s : Nat) (nc ac : Nat) (cp : Bool) (op lf rt M E B S : Nat → Int) (CF CD NB FR : Nat → Nat → Int) (x : XS) (c : Nat) (truth : Bool) (hw : 1 ≤ w ∧ w ≤ 6) (hV : FV nc ac op lf rt M E B CF) (hF : FX σ nc ac cp op lf rt M E B S CF CD NB FR) (hx : x.2 ≤ 3000) (hxr : RWC ac w x rf) (hc : c < x.2) (hko : okC ac M B w (x.1 c)) :
    KX5_isRightEnd [.ref 70, .int (iI c), .int (iI (bI truth))] (WS σ w fd rf sl er nx f s) (fun r u => ∃ (f' s' : Nat), r = some (.int (iI (bI (reB op lf rt nc ac M E B w x truth c)))) ∧ u = WS σ w fd rf sl er nx f' s') NX := by
  refine Ct.intro (by decide) (Nat.le_of_ble_eq_true rfl) ?_
  obtain ⟨v1, v2, v3, v4⟩ := hV
  have hF2 : FX (WS σ w fd rf sl er nx f s) nc ac cp op lf rt M E B S CF CD NB FR := WS_F hF
  have hb : c * w + w ≤ 18000 := by
    have := Nat.mul_le_mul_right w (show c + 1 ≤ 3000 by omega)
    have h2 : 3000 * w ≤ 3000 * 6 := Nat.mul_le_mul_left _ hw.2
    rw [Nat.succ_mul] at this
    omega
  refine z_iload_n dX5_isRightEnd_0 rfl ?_
  refine z_aload_n dX5_isRightEnd_1 rfl ?_
  refine z_getf cls4 6 flX5_51 dX5_isRightEnd_2 (by decide) (WS_70) rfl ?_
  refine i_imul dX5_isRightEnd_5 ?_
  rw [show (c : Int) * (w : Int) = ((c * w : Nat) : Int) from (Int.natCast_mul c w).symm]
  refine z_istore_n dX5_isRightEnd_6 (by decide) ?_
  refine z_aload_n dX5_isRightEnd_7 rfl ?_
  refine z_getf cls4 0 flX5_26 dX5_isRightEnd_8 (by decide) (WS_70) rfl ?_
  refine z_iload_n dX5_isRightEnd_11 rfl ?_
  refine z_aload_n dX5_isRightEnd_12 rfl ?_
  refine z_getf cls4 2 flX5_9 dX5_isRightEnd_13 (by decide) (WS_70) rfl ?_
  refine z_iload_n dX5_isRightEnd_16 rfl ?_
  refine z_aload_n dX5_isRightEnd_17 rfl ?_
  refine z_getf cls4 6 flX5_51 dX5_isRightEnd_18 (by decide) (WS_70) rfl ?_
  refine i_cVr (k_allOutputsAre _ 71 18000 (c * w) w rf truth nc ac cp op lf rt (x.1 c) v1 v2 v3 hF2.1 hF2.2.1 hF2.2.2.1 hF2.2.2.2.1 WS_71 hb (by omega) (fun i hi => ⟨(hko i hi).rg v4, hxr c hc i hi⟩)) mX5_104 dX5_isRightEnd_21 (hF2.1) rfl rfl rfl ⟨by decide, by decide⟩ (Nat.le_of_ble_eq_true rfl) ⟨by decide, by decide⟩ ?_
  refine i_ifb_eq (tgt := 50) dX5_isRightEnd_24 (by decide) (fun h1 => ?_) (fun h1 => ?_)
  · skip
    refine i_iconst dX5_isRightEnd_50 rfl ?_
    exact z_zret dX5_isRightEnd_51 rfl (by decide) (by decide) rfl ⟨f, s, by unfold reB; rw [h1]; rfl, rfl⟩
  · skip
    refine z_aload_n dX5_isRightEnd_27 rfl ?_
    refine z_getf cls4 1 flX5_35 dX5_isRightEnd_28 (by decide) (WS_70) rfl ?_
    refine z_aload_n dX5_isRightEnd_31 rfl ?_
    refine z_getf cls4 2 flX5_9 dX5_isRightEnd_32 (by decide) (WS_70) rfl ?_
    refine z_iload_n dX5_isRightEnd_35 rfl ?_
    refine z_aload_n dX5_isRightEnd_36 rfl ?_
    refine z_getf cls4 6 flX5_51 dX5_isRightEnd_37 (by decide) (WS_70) rfl ?_
    refine z_callVX (k_changesNone _ 75 f s 71 18000 (c * w) w rf nc ac cp op lf rt M E B S CF CD NB FR (x.1 c) WS_75 (by omega) hF2 v2 v4 WS_71 (by decide) hb (by omega) (fun i hi => ⟨hko i hi, hxr c hc i hi⟩)) mX5_110 dX5_isRightEnd_40 (WS_75) rfl rfl rfl ⟨by decide, by decide⟩ (Nat.le_of_ble_eq_true rfl) ⟨by decide, by decide⟩ (fun _ _ h => h.elim) (fun r u hq => ?_)
    obtain ⟨f', s', rfl, rfl⟩ := hq
    rw [WS_s75]
    refine i_ifb_eq (tgt := 50) dX5_isRightEnd_43 (by decide) (fun h2 => ?_) (fun h2 => ?_)
    · skip
      refine i_iconst dX5_isRightEnd_50 rfl ?_
      exact z_zret dX5_isRightEnd_51 rfl (by decide) (by decide) rfl ⟨f', s', by unfold reB; rw [h1, h2]; rfl, rfl⟩
    · skip
      refine i_iconst dX5_isRightEnd_46 rfl ?_
      refine z_goto (tgt := 51) dX5_isRightEnd_47 (by decide) ?_
      exact z_zret dX5_isRightEnd_51 rfl (by decide) (by decide) rfl ⟨f', s', by unfold reB; rw [h1, h2]; rfl, rfl⟩
theorem k_leadsToRightEnd (σ : Wd) (w : Nat) (rf : Nat → Nat) (sl : Nat → Int) (tb : Nat → Nat) (er : Nat → Bool) (nx : Nat → Nat) (f s : Nat) (nc ac : Nat) (cp : Bool) (op lf rt M E B S : Nat → Int) (CF CD NB FR : Nat → Nat → Int) (x : XS) (c : Nat) (hw : 1 ≤ w ∧ w ≤ 6) (hac : ac ≤ 5) (hok : okAs ac M E B CF) (hF : FX σ nc ac cp op lf rt M E B S CF CD NB FR) (hx : x.2 ≤ 3000) (hG : XG ac M B w x) (hS : SI ac w x rf sl tb) (hc : c < x.2) :
    KX5_leadsToRightEnd [.ref 70, .int (iI c)] (WS σ w x.2 rf sl er nx f s) (fun r u => ∃ (nx' : Nat → Nat) (f' s' : Nat), r = some (.int (iI (bI (bP (LD ac M E B w x er c))))) ∧ u = WS σ w x.2 rf sl er nx' f' s') NX := by
  refine Ct.intro (by decide) (Nat.le_of_ble_eq_true rfl) ?_
  obtain ⟨Q, hQ⟩ : ∃ Q : Option Value → Wd → Prop, Q = fun r u => ∃ (nx' : Nat → Nat) (f' s' : Nat), r = some (.int (iI (bI (bP (LD ac M E B w x er c))))) ∧ u = WS σ w x.2 rf sl er nx' f' s' := ⟨_, rfl⟩
  rw [← hQ]
  have H : ∀ i : Nat, i ≤ w → ∀ (nx : Nat → Nat) (f s : Nat) (o3 o4 : Option Value), (∀ i' j r, i' < i → j < w → i' ≠ j → chg ac M E B (x.1 c i') (x.1 c j) = true → r < x.2 → eqR ac w (x.1 r) (stp ac M E B w (x.1 c) i' j) → er r = false) → PX5_leadsToRightEnd Q NX 2 [some (.ref 70), some (.int (iI c)), some (.int (iI i)), o3, o4] [] (WS σ w x.2 rf sl er nx f s) 0 0 := by
    refine up_to w ?_ ?_
    · intro nx f s o3 o4 hn
      refine z_iload_n dX5_leadsToRightEnd_2 rfl ?_
      refine z_aload_n dX5_leadsToRightEnd_3 rfl ?_
      refine z_getf cls4 6 flX5_51 dX5_leadsToRightEnd_4 (by decide) (WS_70) rfl ?_
      refine i_icmp_ge (tgt := 76) dX5_leadsToRightEnd_7 (by decide) (by omega) (by omega) (fun h1 => ?_) (fun h1 => ?_)
      · skip
        refine i_iconst dX5_leadsToRightEnd_76 rfl ?_
        exact z_zret dX5_leadsToRightEnd_77 rfl (by decide) (by decide) rfl (by rw [hQ]; exact ⟨nx, f, s, by rw [bP_f (fun ⟨i', j, r, q1, q2, q3, q4, q5, q6, q7⟩ => by rw [hn i' j r q1 q2 q3 q4 q5 q6] at q7; cases q7)]; rfl, rfl⟩)
      · skip
        omega
    · intro i hi ih nx f s o3 o4 hn
      have Hj : ∀ j : Nat, j ≤ w → ∀ (nx : Nat → Nat) (f s : Nat) (o4 : Option Value), (∀ j' r, j' < j → i ≠ j' → chg ac M E B (x.1 c i) (x.1 c j') = true → r < x.2 → eqR ac w (x.1 r) (stp ac M E B w (x.1 c) i j') → er r = false) → PX5_leadsToRightEnd Q NX 12 [some (.ref 70), some (.int (iI c)), some (.int (iI i)), some (.int (iI j)), o4] [] (WS σ w x.2 rf sl er nx f s) 0 0 := by
        refine up_to w ?_ ?_
        · intro nx f s o4 hm
          refine z_iload_n dX5_leadsToRightEnd_12 rfl ?_
          refine z_aload_n dX5_leadsToRightEnd_13 rfl ?_
          refine z_getf cls4 6 flX5_51 dX5_leadsToRightEnd_14 (by decide) (WS_70) rfl ?_
          refine i_icmp_ge (tgt := 70) dX5_leadsToRightEnd_17 (by decide) (by omega) (by omega) (fun h1 => ?_) (fun h1 => ?_)
          · skip
            refine i_iinc dX5_leadsToRightEnd_70 rfl (by decide) ?_
            refine z_goto (tgt := 2) dX5_leadsToRightEnd_73 (by decide) ?_
            refine ih nx f s _ _ (fun i' j r q1 q2 => ?_)
            by_cases z : i' = i
            · rw [z]; exact hm j r q2
            · exact hn i' j r (by omega) q2
          · skip
            omega
        · intro j hj ihj nx f s o4 hm
          have H64 : ∀ (nx : Nat → Nat) (f s : Nat) (o4 : Option Value), (∀ r, i ≠ j → chg ac M E B (x.1 c i) (x.1 c j) = true → r < x.2 → eqR ac w (x.1 r) (stp ac M E B w (x.1 c) i j) → er r = false) → PX5_leadsToRightEnd Q NX 64 [some (.ref 70), some (.int (iI c)), some (.int (iI i)), some (.int (iI j)), o4] [] (WS σ w x.2 rf sl er nx f s) 0 0 := by
            intro nx f s o4 he
            refine i_iinc dX5_leadsToRightEnd_64 rfl (by decide) ?_
            refine z_goto (tgt := 12) dX5_leadsToRightEnd_67 (by decide) ?_
            refine ihj nx f s _ (fun j' r q1 => ?_)
            by_cases z : j' = j
            · rw [z]; exact he r
            · exact hm j' r (by omega)
          refine z_iload_n dX5_leadsToRightEnd_12 rfl ?_
          refine z_aload_n dX5_leadsToRightEnd_13 rfl ?_
          refine z_getf cls4 6 flX5_51 dX5_leadsToRightEnd_14 (by decide) (WS_70) rfl ?_
          refine i_icmp_ge (tgt := 70) dX5_leadsToRightEnd_17 (by decide) (by omega) (by omega) (fun h1 => ?_) (fun h1 => ?_)
          · skip
            omega
          · skip
            refine z_iload_n dX5_leadsToRightEnd_20 rfl ?_
            refine z_iload_n dX5_leadsToRightEnd_21 rfl ?_
            refine i_icmp_eq (tgt := 64) dX5_leadsToRightEnd_22 (by decide) (by omega) (by omega) (fun h2 => ?_) (fun h2 => ?_)
            · skip
              exact H64 nx f s _ (fun r q => absurd (by omega) q)
            · skip
              refine z_aload_n dX5_leadsToRightEnd_25 rfl ?_
              refine z_iload_n dX5_leadsToRightEnd_26 rfl ?_
              refine z_iload_n dX5_leadsToRightEnd_27 rfl ?_
              refine z_iload_n dX5_leadsToRightEnd_28 rfl ?_
              refine z_callVX (k_stepToNext σ w x.2 rf sl er nx f s nc ac cp op lf rt M E B S CF CD NB FR x c i j hw hac hok hF hx hS.1 hc hi hj (hG.1 c hc)) mX5_76 dX5_leadsToRightEnd_29 (WS_70) rfl rfl rfl ⟨by decide, by decide⟩ (Nat.le_of_ble_eq_true rfl) ⟨by decide, by decide⟩ (fun _ _ h => h.elim) (fun r u hq => ?_)
              obtain ⟨nx', f', s', rfl, rfl, hag⟩ := hq
              refine i_ifb_eq (tgt := 64) dX5_leadsToRightEnd_32 (by decide) (fun h3 => ?_) (fun h3 => ?_)
              · skip
                exact H64 nx' f' s' _ (fun r _ q => by rw [h3] at q; cases q)
              · skip
                have hag := hag h3
                have sok := stp_ok hok (hG.1 c hc) hi hj
                refine z_aload_n dX5_leadsToRightEnd_35 rfl ?_
                refine z_getf cls4 3 flX5_15 dX5_leadsToRightEnd_36 (by decide) (WS_70) rfl ?_
                refine z_aload_n dX5_leadsToRightEnd_39 rfl ?_
                refine z_callVX (k_slotOfNext σ w x.2 rf sl tb er nx' f' s' ac _ x hw.2 hac (fun l hl => (sok l hl).rg hok) hag hx hS.1 (hG.rr hok) hS.2.1 hS.2.2) mX5_65 dX5_leadsToRightEnd_40 (WS_70) rfl rfl rfl ⟨by decide, by decide⟩ (Nat.le_of_ble_eq_true rfl) ⟨by decide, by decide⟩ (fun _ _ h => h.elim) (fun r u hq => ?_)
                obtain ⟨d, hd, hp, rfl, rfl, hres⟩ := hq
                have hP : (hsC ac w (stp ac M E B w (x.1 c) i j) + d) % 8192 < 8192 := Nat.mod_lt _ (by decide)
                have ht1 := hS.2.2.1 _ hP
                refine i_iald dX5_leadsToRightEnd_43 (WS_72) ((hsC ac w (stp ac M E B w (x.1 c) i j) + d) % 8192) (by omega) (by omega) ?_
                rw [hS.2.1 _ hP]
                refine z_istore dX5_leadsToRightEnd_44 (by decide) ?_
                refine z_iload dX5_leadsToRightEnd_46 rfl ?_
                refine i_iconst dX5_leadsToRightEnd_48 rfl ?_
                refine i_icmp_eq (tgt := 64) dX5_leadsToRightEnd_49 (by decide) (by omega) (by omega) (fun h4 => ?_) (fun h4 => ?_)
                · skip
                  have hz : tb ((hsC ac w (stp ac M E B w (x.1 c) i j) + d) % 8192) = 0 := by omega
                  exact H64 nx' f' s' _ (fun r _ _ r1 r2 => absurd r2 (PB.none hS.2.2 hp hz (fun r _ q => hsC_eq q) r r1))
                · skip
                  rcases hres with hz | ⟨hz, he⟩
                  · omega
                  · obtain ⟨r0, hr0⟩ : ∃ r0, r0 = tb ((hsC ac w (stp ac M E B w (x.1 c) i j) + d) % 8192) - 1 := ⟨_, rfl⟩
                    rw [← hr0] at he
                    refine z_aload_n dX5_leadsToRightEnd_52 rfl ?_
                    refine z_getf cls4 4 flX5_19 dX5_leadsToRightEnd_53 (by decide) (WS_70) rfl ?_
                    refine z_iload dX5_leadsToRightEnd_56 rfl ?_
                    refine i_zald dX5_leadsToRightEnd_58 (WS_73) r0 (by omega) (by omega) ?_
                    refine i_ifb_eq (tgt := 64) dX5_leadsToRightEnd_59 (by decide) (fun h5 => ?_) (fun h5 => ?_)
                    · skip
                      refine H64 nx' f' s' _ (fun r _ _ r1 r2 => ?_)
                      rw [hG.2 r r0 r1 (by omega) (fun k hk a ha => (r2 k hk a ha).trans (he k hk a ha).symm)]; exact h5
                    · skip
                      refine i_iconst dX5_leadsToRightEnd_62 rfl ?_
                      exact z_zret dX5_leadsToRightEnd_63 rfl (by decide) (by decide) rfl (by rw [hQ]; exact ⟨nx', f', s', by rw [bP_t ⟨i, j, r0, hi, hj, by omega, h3, by omega, he, h5⟩]; rfl, rfl⟩)
      refine z_iload_n dX5_leadsToRightEnd_2 rfl ?_
      refine z_aload_n dX5_leadsToRightEnd_3 rfl ?_
      refine z_getf cls4 6 flX5_51 dX5_leadsToRightEnd_4 (by decide) (WS_70) rfl ?_
      refine i_icmp_ge (tgt := 76) dX5_leadsToRightEnd_7 (by decide) (by omega) (by omega) (fun h1 => ?_) (fun h1 => ?_)
      · skip
        omega
      · skip
        refine i_iconst dX5_leadsToRightEnd_10 rfl ?_
        refine z_istore_n dX5_leadsToRightEnd_11 (by decide) ?_
        exact Hj 0 (by omega) nx f s _ (fun j' r q => absurd q (Nat.not_lt_zero j'))
  refine i_iconst dX5_leadsToRightEnd_0 rfl ?_
  refine z_istore_n dX5_leadsToRightEnd_1 (by decide) ?_
  exact H 0 (by omega) nx f s none none (fun i' j r q => absurd q (Nat.not_lt_zero i'))

