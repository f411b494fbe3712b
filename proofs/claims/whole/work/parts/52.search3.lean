theorem k_stepToNext (σ : Wd) (w fd : Nat) (rf : Nat → Nat) (sl : Nat → Int) (er : Nat → Bool) (nx : Nat → Nat) (f s : Nat) (nc ac : Nat) (cp : Bool) (op lf rt M E B S : Nat → Int) (CF CD NB FR : Nat → Nat → Int) (x : XS) (c i j : Nat) (hw : 1 ≤ w ∧ w ≤ 6) (hac : ac ≤ 5) (hok : okAs ac M E B CF) (hF : FX σ nc ac cp op lf rt M E B S CF CD NB FR) (hx : x.2 ≤ 3000) (hxr : RWC ac w x rf) (hc : c < x.2) (hi : i < w) (hj : j < w) (hko : okC ac M B w (x.1 c)) :
    KX5_stepToNext [.ref 70, .int (iI c), .int (iI i), .int (iI j)] (WS σ w fd rf sl er nx f s) (fun r u => ∃ (nx' : Nat → Nat) (f' s' : Nat), r = some (.int (iI (bI (chg ac M E B (x.1 c i) (x.1 c j))))) ∧ u = WS σ w fd rf sl er nx' f' s' ∧ (chg ac M E B (x.1 c i) (x.1 c j) = true → AG ac w nx' (stp ac M E B w (x.1 c) i j))) NX := by
  refine Ct.intro (by decide) (Nat.le_of_ble_eq_true rfl) ?_
  obtain ⟨Q, hQ⟩ : ∃ Q : Option Value → Wd → Prop, Q = fun r u => ∃ (nx' : Nat → Nat) (f' s' : Nat), r = some (.int (iI (bI (chg ac M E B (x.1 c i) (x.1 c j))))) ∧ u = WS σ w fd rf sl er nx' f' s' ∧ (chg ac M E B (x.1 c i) (x.1 c j) = true → AG ac w nx' (stp ac M E B w (x.1 c) i j)) := ⟨_, rfl⟩
  rw [← hQ]
  have hc3 : c < 3000 := by omega
  have H : chg ac M E B (x.1 c i) (x.1 c j) = true → ∀ k : Nat, k ≤ w → ∀ nx : Nat → Nat, (∀ l, l < k → nx l = pkC (x.1 c l) ac) → PX5_stepToNext Q NX 41 [some (.ref 70), some (.int (iI c)), some (.int (iI i)), some (.int (iI j)), some (.int (iI ((c : Int) * (w : Int)))), some (.int (iI k))] [] (WS σ w fd rf sl er nx (pkC (mtA1 ac M E B (x.1 c i) (x.1 c j)) ac) (pkC (mtA2 ac M E B (x.1 c i) (x.1 c j)) ac)) 0 0 := by
    intro hch
    refine up_to w ?_ ?_
    · intro nx hnx
      refine z_iload dX5_stepToNext_41 rfl ?_
      refine z_aload_n dX5_stepToNext_43 rfl ?_
      refine z_getf cls4 6 flX5_51 dX5_stepToNext_44 (by decide) (WS_70) rfl ?_
      refine i_icmp_ge (tgt := 73) dX5_stepToNext_47 (by decide) (by omega) (by omega) (fun h1 => ?_) (fun h1 => ?_)
      · skip
        refine z_aload_n dX5_stepToNext_73 rfl ?_
        refine z_getf cls4 5 flX5_23 dX5_stepToNext_74 (by decide) (WS_70) rfl ?_
        refine z_iload_n dX5_stepToNext_77 rfl ?_
        refine z_aload_n dX5_stepToNext_78 rfl ?_
        refine z_getf cls4 1 flX5_35 dX5_stepToNext_79 (by decide) (WS_70) rfl ?_
        refine i_cVr (k_X4_first _ 75 _ _ WS_75) mX5_84 dX5_stepToNext_82 (WS_75) rfl rfl rfl ⟨by decide, by decide⟩ (Nat.le_of_ble_eq_true rfl) ⟨by decide, by decide⟩ ?_
        refine i_last dX5_stepToNext_85 (WS_74) i (by omega) (by omega) ?_
        rw [WS_s74]
        refine z_aload_n dX5_stepToNext_86 rfl ?_
        refine z_getf cls4 5 flX5_23 dX5_stepToNext_87 (by decide) (WS_70) rfl ?_
        refine z_iload_n dX5_stepToNext_90 rfl ?_
        refine z_aload_n dX5_stepToNext_91 rfl ?_
        refine z_getf cls4 1 flX5_35 dX5_stepToNext_92 (by decide) (WS_70) rfl ?_
        refine i_cVr (k_X4_second _ 75 _ _ WS_75) mX5_88 dX5_stepToNext_95 (WS_75) rfl rfl rfl ⟨by decide, by decide⟩ (Nat.le_of_ble_eq_true rfl) ⟨by decide, by decide⟩ ?_
        refine i_last dX5_stepToNext_98 (WS_74) j (by omega) (by omega) ?_
        rw [WS_s74]
        refine z_aload_n dX5_stepToNext_99 rfl ?_
        have hag := AG_mtg (M := M) (E := E) (B := B) (show AG ac w nx (x.1 c) from hnx) i j
        refine z_callVX (k_sortNext σ w fd rf sl er _ _ _ ac _ hw hac (fun l hl => (mtg_ok hok hko hi hj l hl).rg hok) hag) mX5_62 dX5_stepToNext_100 (WS_70) rfl rfl rfl ⟨by decide, by decide⟩ (Nat.le_of_ble_eq_true rfl) ⟨by decide, by decide⟩ (fun _ _ h => h.elim) (fun r u hq => ?_)
        obtain ⟨nx', rfl, rfl, hag'⟩ := hq
        refine i_iconst dX5_stepToNext_103 rfl ?_
        exact z_zret dX5_stepToNext_104 rfl (by decide) (by decide) rfl (by rw [hQ]; exact ⟨nx', _, _, by rw [hch]; rfl, rfl, fun _ => hag'⟩)
      · skip
        omega
    · intro k hk ih nx hnx
      refine z_iload dX5_stepToNext_41 rfl ?_
      refine z_aload_n dX5_stepToNext_43 rfl ?_
      refine z_getf cls4 6 flX5_51 dX5_stepToNext_44 (by decide) (WS_70) rfl ?_
      refine i_icmp_ge (tgt := 73) dX5_stepToNext_47 (by decide) (by omega) (by omega) (fun h1 => ?_) (fun h1 => ?_)
      · skip
        omega
      · skip
        refine z_aload_n dX5_stepToNext_50 rfl ?_
        refine z_getf cls4 5 flX5_23 dX5_stepToNext_51 (by decide) (WS_70) rfl ?_
        refine z_iload dX5_stepToNext_54 rfl ?_
        refine z_aload_n dX5_stepToNext_56 rfl ?_
        refine z_getf cls4 2 flX5_9 dX5_stepToNext_57 (by decide) (WS_70) rfl ?_
        refine z_iload dX5_stepToNext_60 rfl ?_
        refine z_iload dX5_stepToNext_62 rfl ?_
        refine i_iadd dX5_stepToNext_64 ?_
        refine i_lald dX5_stepToNext_65 (WS_71) (c * w + k) rx (rx_lt hc3 hw.2 hk) ?_
        refine i_last dX5_stepToNext_66 (WS_74) k (by omega) (by omega) ?_
        rw [WS_s74, hxr c hc k hk]
        refine i_iinc dX5_stepToNext_67 rfl (by decide) ?_
        refine z_goto (tgt := 41) dX5_stepToNext_70 (by decide) ?_
        refine ih _ (fun l hl => ?_)
        by_cases z : l = k
        · rw [z, va_up_self]
        · rw [va_up_ne _ _ z]; exact hnx l (by omega)
  refine z_iload_n dX5_stepToNext_0 rfl ?_
  refine z_aload_n dX5_stepToNext_1 rfl ?_
  refine z_getf cls4 6 flX5_51 dX5_stepToNext_2 (by decide) (WS_70) rfl ?_
  refine i_imul dX5_stepToNext_5 ?_
  refine z_istore dX5_stepToNext_6 (by decide) ?_
  refine z_aload_n dX5_stepToNext_8 rfl ?_
  refine z_getf cls4 1 flX5_35 dX5_stepToNext_9 (by decide) (WS_70) rfl ?_
  refine z_aload_n dX5_stepToNext_12 rfl ?_
  refine z_getf cls4 2 flX5_9 dX5_stepToNext_13 (by decide) (WS_70) rfl ?_
  refine z_iload dX5_stepToNext_16 rfl ?_
  refine z_iload_n dX5_stepToNext_18 rfl ?_
  refine i_iadd dX5_stepToNext_19 ?_
  refine i_lald dX5_stepToNext_20 (WS_71) (c * w + i) rx (rx_lt hc3 hw.2 hi) ?_
  refine z_aload_n dX5_stepToNext_21 rfl ?_
  refine z_getf cls4 2 flX5_9 dX5_stepToNext_22 (by decide) (WS_70) rfl ?_
  refine z_iload dX5_stepToNext_25 rfl ?_
  refine z_iload_n dX5_stepToNext_27 rfl ?_
  refine i_iadd dX5_stepToNext_28 ?_
  refine i_lald dX5_stepToNext_29 (WS_71) (c * w + j) rx (rx_lt hc3 hw.2 hj) ?_
  rw [hxr c hc i hi, hxr c hc j hj]
  refine i_cVr (k_changes _ 75 f s nc ac cp op lf rt M E B S CF CD NB FR (x.1 c i) (x.1 c j) WS_75 (by omega) (WS_F hF) hac hok (hko i hi) (hko j hj)) mX5_80 dX5_stepToNext_30 (WS_75) rfl rfl rfl ⟨by decide, by decide⟩ (Nat.le_of_ble_eq_true rfl) ⟨by decide, by decide⟩ ?_
  rw [WS_s75]
  refine i_ifb_ne (tgt := 38) dX5_stepToNext_33 (by decide) (fun h1 => ?_) (fun h1 => ?_)
  · skip
    refine i_iconst dX5_stepToNext_38 rfl ?_
    refine z_istore dX5_stepToNext_39 (by decide) ?_
    exact H h1 0 (by omega) nx (fun l hl => absurd hl (Nat.not_lt_zero l))
  · skip
    refine i_iconst dX5_stepToNext_36 rfl ?_
    exact z_zret dX5_stepToNext_37 rfl (by decide) (by decide) rfl (by rw [hQ]; exact ⟨nx, _, _, by rw [h1]; rfl, rfl, fun z => by rw [h1] at z; cases z⟩)
/-- rows and table of the class -/
def SI (ac w : Nat) (x : XS) (rf : Nat → Nat) (sl : Nat → Int) (tb : Nat → Nat) : Prop := RWC ac w x rf ∧ (∀ p, p < 8192 → sl p = (tb p : Int) - 1) ∧ TI (fun r => hsC ac w (x.1 r)) tb x.2
theorem SI.add {ac w d : Nat} {x : XS} {rf rf' nx tb : Nat → Nat} {sl : Nat → Int} {ag : Nat → Nat → St} (h : SI ac w x rf sl tb) (hd : d < 8192) (hp : PB tb (hsC ac w ag) (fun r => eqR ac w (x.1 r) ag) d) (hz : tb ((hsC ac w ag + d) % 8192) = 0) (hag : AG ac w nx ag) (r1 : ∀ q, q < x.2 * w → rf' q = rf q) (r2 : ∀ i, i < w → rf' (x.2 * w + i) = nx i) : SI ac w (va_up x.1 x.2 ag, x.2 + 1) rf' (va_up sl ((hsC ac w ag + d) % 8192) (x.2 : Int)) (va_up tb ((hsC ac w ag + d) % 8192) (x.2 + 1)) := by
  refine ⟨fun r hr k hk => ?_, fun p hp => ?_, ?_⟩
  · have hr : r < x.2 + 1 := hr
    show rf' (r * w + k) = pkC (va_up x.1 x.2 ag r k) ac
    by_cases z : r = x.2
    · rw [z, va_up_self, r2 k hk]; exact hag k hk
    · rw [va_up_ne _ _ z, r1 _ (rx_m (by omega) hk)]; exact h.1 r (by omega) k hk
  · by_cases z : p = (hsC ac w ag + d) % 8192
    · rw [z, va_up_self, va_up_self]; omega
    · rw [va_up_ne _ _ z, va_up_ne _ _ z]; exact h.2.1 p hp
  · refine TI.add h.2.2 hd hp hz (fun r hr => ?_) ?_
    · show hsC ac w (va_up x.1 x.2 ag r) = _
      rw [va_up_ne _ _ (by omega)]
    · show hsC ac w (va_up x.1 x.2 ag x.2) = _
      rw [va_up_self]
theorem XG.rr {ac w : Nat} {M E B : Nat → Int} {CF : Nat → Nat → Int} {x : XS} (h : XG ac M B w x) (hok : okAs ac M E B CF) : ∀ r, r < x.2 → ∀ i, i < w → ∀ a, a < ac → rg (x.1 r i a) := fun r hr i hi => (h.1 r hr i hi).rg hok
theorem k_keepAllAfter (σ : Wd) (w : Nat) (rf : Nat → Nat) (sl : Nat → Int) (tb : Nat → Nat) (er : Nat → Bool) (nx : Nat → Nat) (f s : Nat) (nc ac : Nat) (cp : Bool) (op lf rt M E B S : Nat → Int) (CF CD NB FR : Nat → Nat → Int) (x : XS) (c limit : Nat) (hw : 1 ≤ w ∧ w ≤ 6) (hac : ac ≤ 5) (hok : okAs ac M E B CF) (hF : FX σ nc ac cp op lf rt M E B S CF CD NB FR) (hl : limit ≤ 3000) (hx : x.2 ≤ limit) (hG : XG ac M B w x) (hS : SI ac w x rf sl tb) (hc : c < x.2) :
    KX5_keepAllAfter [.ref 70, .int (iI c), .int (iI limit)] (WS σ w x.2 rf sl er nx f s) (fun r u => ∃ (n' : Nat) (rf' : Nat → Nat) (sl' : Nat → Int) (tb' nx' : Nat → Nat) (f' s' : Nat), u = WS σ w n' rf' sl' er nx' f' s' ∧ ((∃ y, xI ac M E B w limit c w x = some y ∧ n' = y.2 ∧ r = some (.int (iI (bI true))) ∧ SI ac w y rf' sl' tb') ∨ (xI ac M E B w limit c w x = none ∧ r = some (.int (iI (bI false)))))) NX := by
  refine Ct.intro (by decide) (Nat.le_of_ble_eq_true rfl) ?_
  obtain ⟨Q, hQ⟩ : ∃ Q : Option Value → Wd → Prop, Q = fun r u => ∃ (n' : Nat) (rf' : Nat → Nat) (sl' : Nat → Int) (tb' nx' : Nat → Nat) (f' s' : Nat), u = WS σ w n' rf' sl' er nx' f' s' ∧ ((∃ y, xI ac M E B w limit c w x = some y ∧ n' = y.2 ∧ r = some (.int (iI (bI true))) ∧ SI ac w y rf' sl' tb') ∨ (xI ac M E B w limit c w x = none ∧ r = some (.int (iI (bI false))))) := ⟨_, rfl⟩
  rw [← hQ]
  have H : ∀ i : Nat, i ≤ w → ∀ (y : XS) (rf : Nat → Nat) (sl : Nat → Int) (tb nx : Nat → Nat) (f s : Nat) (o4 o5 : Option Value), xI ac M E B w limit c i x = some y → SI ac w y rf sl tb → PX5_keepAllAfter Q NX 2 [some (.ref 70), some (.int (iI c)), some (.int (iI limit)), some (.int (iI i)), o4, o5] [] (WS σ w y.2 rf sl er nx f s) 0 0 := by
    refine up_to w ?_ ?_
    · intro y rf sl tb nx f s o4 o5 e hS
      refine z_iload_n dX5_keepAllAfter_2 rfl ?_
      refine z_aload_n dX5_keepAllAfter_3 rfl ?_
      refine z_getf cls4 6 flX5_51 dX5_keepAllAfter_4 (by decide) (WS_70) rfl ?_
      refine i_icmp_ge (tgt := 84) dX5_keepAllAfter_7 (by decide) (by omega) (by omega) (fun h1 => ?_) (fun h1 => ?_)
      · skip
        refine i_iconst dX5_keepAllAfter_84 rfl ?_
        exact z_zret dX5_keepAllAfter_85 rfl (by decide) (by decide) rfl (by rw [hQ]; exact ⟨y.2, rf, sl, tb, nx, f, s, rfl, Or.inl ⟨y, e, rfl, rfl, hS⟩⟩)
      · skip
        omega
    · intro i hi ih y rf sl tb nx f s o4 o5 e hS
      obtain ⟨yG, yL, yl, _⟩ := xI_ok hok hG hx hc i y (by omega) e
      have Hj : ∀ j : Nat, j ≤ w → ∀ (z : XS) (rf : Nat → Nat) (sl : Nat → Int) (tb nx : Nat → Nat) (f s : Nat) (o5 : Option Value), xJ ac M E B w limit c i j y = some z → SI ac w z rf sl tb → PX5_keepAllAfter Q NX 13 [some (.ref 70), some (.int (iI c)), some (.int (iI limit)), some (.int (iI i)), some (.int (iI j)), o5] [] (WS σ w z.2 rf sl er nx f s) 0 0 := by
        refine up_to w ?_ ?_
        · intro z rf sl tb nx f s o5 ez hS
          refine z_iload dX5_keepAllAfter_13 rfl ?_
          refine z_aload_n dX5_keepAllAfter_15 rfl ?_
          refine z_getf cls4 6 flX5_51 dX5_keepAllAfter_16 (by decide) (WS_70) rfl ?_
          refine i_icmp_ge (tgt := 78) dX5_keepAllAfter_19 (by decide) (by omega) (by omega) (fun h1 => ?_) (fun h1 => ?_)
          · skip
            refine i_iinc dX5_keepAllAfter_78 rfl (by decide) ?_
            refine z_goto (tgt := 2) dX5_keepAllAfter_81 (by decide) ?_
            exact ih z rf sl tb nx f s _ _ ((xI_s e).trans ez) hS
          · skip
            omega
        · intro j hj ihj z rf sl tb nx f s o5 ez hS
          obtain ⟨zG, zL, zl, _⟩ := xJ_ok hok yG yl (Nat.lt_of_lt_of_le hc yL.1) hi j z (by omega) ez
          have hcz : c < z.2 := Nat.lt_of_lt_of_le hc (yL.trans zL).1
          have ej := xJ_s ez
          have H72 : ∀ (z' : XS) (rf : Nat → Nat) (sl : Nat → Int) (tb nx : Nat → Nat) (f s : Nat) (o5 : Option Value), xJ ac M E B w limit c i (j + 1) y = some z' → SI ac w z' rf sl tb → PX5_keepAllAfter Q NX 72 [some (.ref 70), some (.int (iI c)), some (.int (iI limit)), some (.int (iI i)), some (.int (iI j)), o5] [] (WS σ w z'.2 rf sl er nx f s) 0 0 := by
            intro z' rf sl tb nx f s o5 e1 e2
            refine i_iinc dX5_keepAllAfter_72 rfl (by decide) ?_
            refine z_goto (tgt := 13) dX5_keepAllAfter_75 (by decide) ?_
            exact ihj z' rf sl tb nx f s _ e1 e2
          refine z_iload dX5_keepAllAfter_13 rfl ?_
          refine z_aload_n dX5_keepAllAfter_15 rfl ?_
          refine z_getf cls4 6 flX5_51 dX5_keepAllAfter_16 (by decide) (WS_70) rfl ?_
          refine i_icmp_ge (tgt := 78) dX5_keepAllAfter_19 (by decide) (by omega) (by omega) (fun h1 => ?_) (fun h1 => ?_)
          · skip
            omega
          · skip
            refine z_iload_n dX5_keepAllAfter_22 rfl ?_
            refine z_iload dX5_keepAllAfter_23 rfl ?_
            refine i_icmp_eq (tgt := 72) dX5_keepAllAfter_25 (by decide) (by omega) (by omega) (fun h2 => ?_) (fun h2 => ?_)
            · skip
              rw [if_neg (fun q => q.1 (by omega))] at ej
              exact H72 z rf sl tb nx f s _ ej hS
            · skip
              refine z_aload_n dX5_keepAllAfter_28 rfl ?_
              refine z_iload_n dX5_keepAllAfter_29 rfl ?_
              refine z_iload_n dX5_keepAllAfter_30 rfl ?_
              refine z_iload dX5_keepAllAfter_31 rfl ?_
              refine z_callVX (k_stepToNext σ w z.2 rf sl er nx f s nc ac cp op lf rt M E B S CF CD NB FR z c i j hw hac hok hF (by omega) hS.1 hcz hi hj (zG.1 c hcz)) mX5_76 dX5_keepAllAfter_33 (WS_70) rfl rfl rfl ⟨by decide, by decide⟩ (Nat.le_of_ble_eq_true rfl) ⟨by decide, by decide⟩ (fun _ _ h => h.elim) (fun r u hq => ?_)
              obtain ⟨nx', f', s', rfl, rfl, hag⟩ := hq
              refine i_ifb_eq (tgt := 72) dX5_keepAllAfter_36 (by decide) (fun h3 => ?_) (fun h3 => ?_)
              · skip
                rw [if_neg (fun q => by rw [h3] at q; cases q.2)] at ej
                exact H72 z rf sl tb nx' f' s' _ ej hS
              · skip
                rw [if_pos ⟨by omega, h3⟩] at ej
                have hag := hag h3
                have sok := stp_ok hok (zG.1 c hcz) hi hj
                refine z_aload_n dX5_keepAllAfter_39 rfl ?_
                refine z_callVX (k_slotOfNext σ w z.2 rf sl tb er nx' f' s' ac _ z hw.2 hac (fun l hl => (sok l hl).rg hok) hag (by omega) hS.1 (zG.rr hok) hS.2.1 hS.2.2) mX5_65 dX5_keepAllAfter_40 (WS_70) rfl rfl rfl ⟨by decide, by decide⟩ (Nat.le_of_ble_eq_true rfl) ⟨by decide, by decide⟩ (fun _ _ h => h.elim) (fun r u hq => ?_)
                obtain ⟨d, hd, hp, rfl, rfl, hres⟩ := hq
                have hP : (hsC ac w (stp ac M E B w (z.1 c) i j) + d) % 8192 < 8192 := Nat.mod_lt _ (by decide)
                have ht1 := hS.2.2.1 _ hP
                refine z_istore dX5_keepAllAfter_43 (by decide) ?_
                refine z_aload_n dX5_keepAllAfter_45 rfl ?_
                refine z_getf cls4 3 flX5_15 dX5_keepAllAfter_46 (by decide) (WS_70) rfl ?_
                refine z_iload dX5_keepAllAfter_49 rfl ?_
                refine i_iald dX5_keepAllAfter_51 (WS_72) ((hsC ac w (stp ac M E B w (z.1 c) i j) + d) % 8192) (by omega) (by omega) ?_
                refine i_iconst dX5_keepAllAfter_52 rfl ?_
                rw [hS.2.1 _ hP]
                refine i_icmp_ne (tgt := 72) dX5_keepAllAfter_53 (by decide) (by omega) (by omega) (fun h4 => ?_) (fun h4 => ?_)
                · skip
                  rcases hres with hz | ⟨hz, he⟩
                  · omega
                  · rw [xA_f ⟨_, by omega, he⟩] at ej
                    exact H72 z rf sl tb nx' f' s' _ ej hS
                · skip
                  have hz : tb ((hsC ac w (stp ac M E B w (z.1 c) i j) + d) % 8192) = 0 := by omega
                  have hni : ¬ Inn ac w z (stp ac M E B w (z.1 c) i j) := fun ⟨r, r1, r2⟩ => PB.none hS.2.2 hp hz (fun r _ q => hsC_eq q) r r1 r2
                  refine z_aload_n dX5_keepAllAfter_56 rfl ?_
                  refine z_getf cls4 7 flX5_55 dX5_keepAllAfter_57 (by decide) (WS_70) rfl ?_
                  refine z_iload_n dX5_keepAllAfter_60 rfl ?_
                  refine i_icmp_ne (tgt := 66) dX5_keepAllAfter_61 (by decide) (by omega) (by omega) (fun h5 => ?_) (fun h5 => ?_)
                  · skip
                    rw [xA_s hni (by omega)] at ej
                    refine z_aload_n dX5_keepAllAfter_66 rfl ?_
                    refine z_iload dX5_keepAllAfter_67 rfl ?_
                    refine z_callVX (k_keepNext σ w z.2 rf sl er nx' f' s' _ hw.2 (by omega) hP) mX5_68 dX5_keepAllAfter_69 (WS_70) rfl rfl rfl ⟨by decide, by decide⟩ (Nat.le_of_ble_eq_true rfl) ⟨by decide, by decide⟩ (fun _ _ h => h.elim) (fun r u hq => ?_)
                    obtain ⟨rf', rfl, rfl, r1, r2⟩ := hq
                    exact H72 _ rf' _ _ nx' f' s' _ ej (hS.add hd hp hz hag r1 r2)
                  · skip
                    rw [xA_n hni (by omega)] at ej
                    refine i_iconst dX5_keepAllAfter_64 rfl ?_
                    have en := xJ_none (w - (j + 1)) (j + 1) ej
                    rw [show j + 1 + (w - (j + 1)) = w by omega, ← xI_s e] at en
                    have en := xI_none (w - (i + 1)) (i + 1) en
                    rw [show i + 1 + (w - (i + 1)) = w by omega] at en
                    exact z_zret dX5_keepAllAfter_65 rfl (by decide) (by decide) rfl (by rw [hQ]; exact ⟨z.2, rf, sl, tb, nx', f', s', rfl, Or.inr ⟨en, rfl⟩⟩)
      refine z_iload_n dX5_keepAllAfter_2 rfl ?_
      refine z_aload_n dX5_keepAllAfter_3 rfl ?_
      refine z_getf cls4 6 flX5_51 dX5_keepAllAfter_4 (by decide) (WS_70) rfl ?_
      refine i_icmp_ge (tgt := 84) dX5_keepAllAfter_7 (by decide) (by omega) (by omega) (fun h1 => ?_) (fun h1 => ?_)
      · skip
        omega
      · skip
        refine i_iconst dX5_keepAllAfter_10 rfl ?_
        refine z_istore dX5_keepAllAfter_11 (by decide) ?_
        exact Hj 0 (by omega) y rf sl tb nx f s _ rfl hS
  refine i_iconst dX5_keepAllAfter_0 rfl ?_
  refine z_istore_n dX5_keepAllAfter_1 (by decide) ?_
  exact H 0 (by omega) x rf sl tb nx f s none none rfl hS

