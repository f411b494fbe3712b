theorem cf_congr {g h : Nat → Bool} : ∀ n, (∀ c, c < n → g c = h c) → cf g n = cf h n
  | 0, _ => rfl
  | n + 1, e => by
    show cf g n + (bif g n then 0 else 1) = cf h n + (bif h n then 0 else 1)
    rw [cf_congr n (fun c hc => e c (by omega)), e n (by omega)]
theorem cf_mono {g h : Nat → Bool} : ∀ n, (∀ c, c < n → g c = true → h c = true) → cf h n ≤ cf g n
  | 0, _ => Nat.le_refl _
  | n + 1, e => by
    have ih := cf_mono n (fun c hc => e c (by omega))
    have e2 := e n (by omega)
    show cf h n + (bif h n then 0 else 1) ≤ cf g n + (bif g n then 0 else 1)
    cases z : g n with
    | true => rw [e2 z]; simp; exact ih
    | false => cases h n <;> simp <;> omega
theorem cf_eq {g h : Nat → Bool} : ∀ n, (∀ c, c < n → g c = true → h c = true) → cf h n = cf g n → ∀ c, c < n → h c = g c
  | 0, _, _ => fun c hc => absurd hc (Nat.not_lt_zero c)
  | n + 1, e, q => fun c hc => by
    have ih := cf_mono n (fun c hc => e c (by omega))
    have e2 := e n (by omega)
    have q : cf h n + (bif h n then 0 else 1) = cf g n + (bif g n then 0 else 1) := q
    have hn : h n = g n := by
      cases z : g n with
      | true => exact e2 z
      | false =>
        cases z2 : h n with
        | false => rfl
        | true => rw [z, z2] at q; simp at q; omega
    by_cases w : c = n
    · rw [w]; exact hn
    · exact cf_eq n (fun c hc => e c (by omega)) (by rw [hn] at q; omega) c (by omega)
section GT2
variable {ac : Nat} {M E B : Nat → Int} {w : Nat} {s : XS}
theorem gS_ge : ∀ (k : Nat) (g : Nat → Bool) (c : Nat), k ≤ c → gS ac M E B w s k g c = g c
  | 0, g, c, _ => rfl
  | k + 1, g, c, h => by
    show gS ac M E B w s k _ c = g c
    rw [gS_ge k _ c (by omega), va_up_ne _ _ (by omega)]
theorem gS_eq {n : Nat} {g : Nat → Bool} (h : cf (gS ac M E B w s n g) n = cf g n) : gS ac M E B w s n g = g := funext fun c => by
  by_cases q : c < n
  · exact cf_eq n (fun c _ hc => gS_mono n g c hc) h c q
  · exact gS_ge n g c (by omega)
theorem LD_congr {g h : Nat → Bool} {c : Nat} (e : ∀ r, r < s.2 → g r = h r) : LD ac M E B w s g c ↔ LD ac M E B w s h c :=
  ⟨fun ⟨i, j, r, q1, q2, q3, q4, q5, q6, q7⟩ => ⟨i, j, r, q1, q2, q3, q4, q5, q6, by rw [← e r q5]; exact q7⟩, fun ⟨i, j, r, q1, q2, q3, q4, q5, q6, q7⟩ => ⟨i, j, r, q1, q2, q3, q4, q5, q6, by rw [e r q5]; exact q7⟩⟩
theorem bP_congr {p q : Prop} (h : p ↔ q) : bP p = bP q := by rw [propext h]
theorem gS_congr : ∀ (k : Nat) (g h : Nat → Bool), k ≤ s.2 → (∀ c, c < s.2 → g c = h c) → ∀ c, c < s.2 → gS ac M E B w s k g c = gS ac M E B w s k h c
  | 0, g, h, _, e => e
  | k + 1, g, h, hk, e => gS_congr k _ _ (by omega) (fun c hc => by
    by_cases q : c = k
    · rw [q, va_up_self, va_up_self, e k (by omega), bP_congr (LD_congr e)]
    · rw [va_up_ne _ _ q, va_up_ne _ _ q]; exact e c hc)
theorem gI_congr {g h : Nat → Bool} (e : ∀ c, c < s.2 → g c = h c) : ∀ t c, c < s.2 → gI ac M E B w s g t c = gI ac M E B w s h t c
  | 0 => e
  | t + 1 => gS_congr _ _ _ (Nat.le_refl _) (gI_congr e t)
theorem rec_congr {g h : Nat → Bool} (e : ∀ c, c < s.2 → g c = h c) : recB ac M E B w s g = recB ac M E B w s h := bP_congr ⟨fun ⟨t, q⟩ => ⟨t, fun c hc => by rw [← gI_congr e t c hc]; exact q c hc⟩, fun ⟨t, q⟩ => ⟨t, fun c hc => by rw [gI_congr e t c hc]; exact q c hc⟩⟩
theorem cf_some {g : Nat → Bool} : ∀ n, cf g n ≠ 0 → ∃ c, c < n ∧ g c = false
  | 0, h => absurd rfl h
  | n + 1, h => by
    cases z : g n with
    | false => exact ⟨n, by omega, z⟩
    | true =>
      have h : cf g n + (bif g n then 0 else 1) ≠ 0 := h
      rw [z] at h
      obtain ⟨c, c1, c2⟩ := cf_some n h
      exact ⟨c, by omega, c2⟩
end GT2
theorem k_allCanEndRight (σ : Wd) (w : Nat) (rf : Nat → Nat) (sl : Nat → Int) (tb : Nat → Nat) (er : Nat → Bool) (nx : Nat → Nat) (f s : Nat) (nc ac : Nat) (cp : Bool) (op lf rt M E B S : Nat → Int) (CF CD NB FR : Nat → Nat → Int) (x : XS) (truth : Bool) (hw : 1 ≤ w ∧ w ≤ 6) (hV : FV nc ac op lf rt M E B CF) (hF : FX σ nc ac cp op lf rt M E B S CF CD NB FR) (hx : x.2 ≤ 3000) (hG : XG ac M B w x) (hS : SI ac w x rf sl tb) :
    KX5_allCanEndRight [.ref 70, .int (iI (bI truth))] (WS σ w x.2 rf sl er nx f s) (fun r u => ∃ (er' : Nat → Bool) (nx' : Nat → Nat) (f' s' : Nat), r = some (.int (iI (bI (recB ac M E B w x (reB op lf rt nc ac M E B w x truth))))) ∧ u = WS σ w x.2 rf sl er' nx' f' s') NX := by
  refine Ct.intro (by decide) (Nat.le_of_ble_eq_true rfl) ?_
  have hV0 := hV
  obtain ⟨v1, v2, v3, v4⟩ := hV
  obtain ⟨g0, hg0⟩ : ∃ g0, g0 = reB op lf rt nc ac M E B w x truth := ⟨_, rfl⟩
  obtain ⟨Q, hQ⟩ : ∃ Q : Option Value → Wd → Prop, Q = fun r u => ∃ (er' : Nat → Bool) (nx' : Nat → Nat) (f' s' : Nat), r = some (.int (iI (bI (recB ac M E B w x g0)))) ∧ u = WS σ w x.2 rf sl er' nx' f' s' := ⟨_, rfl⟩
  rw [← hg0, ← hQ]
  have H2 : ∀ e0 : Nat → Bool, recB ac M E B w x g0 = recB ac M E B w x e0 → ∀ (q t : Nat), t + q = x.2 → cf (gI ac M E B w x e0 t) x.2 ≤ q → ∀ (nx : Nat → Nat) (f s : Nat) (o4 o5 : Option Value), PX5_allCanEndRight Q NX 52 [some (.ref 70), some (.int (iI (bI truth))), some (.int (iI (cf (gI ac M E B w x e0 t) x.2 : Nat))), some (.int (iI t)), o4, o5] [] (WS σ w x.2 rf sl (gI ac M E B w x e0 t) nx f s) 0 0 := by
    intro e0 he0 q
    have hend : ∀ (t : Nat), cf (gI ac M E B w x e0 t) x.2 = 0 → ∀ (nx : Nat → Nat) (f s : Nat) (o4 o5 : Option Value), PX5_allCanEndRight Q NX 130 [some (.ref 70), some (.int (iI (bI truth))), some (.int (iI (cf (gI ac M E B w x e0 t) x.2 : Nat))), some (.int (iI t)), o4, o5] [] (WS σ w x.2 rf sl (gI ac M E B w x e0 t) nx f s) 0 0 := by
      intro t hz nx f s o4 o5
      refine z_iload_n dX5_allCanEndRight_130 rfl ?_
      refine i_if_ne (tgt := 138) dX5_allCanEndRight_131 (by decide) (by omega) (fun h1 => ?_) (fun h1 => ?_)
      · skip
        omega
      · skip
        refine i_iconst dX5_allCanEndRight_134 rfl ?_
        refine z_goto (tgt := 139) dX5_allCanEndRight_135 (by decide) ?_
        exact z_zret dX5_allCanEndRight_139 rfl (by decide) (by decide) rfl (by rw [hQ]; exact ⟨_, nx, f, s, by rw [he0, rec_t ((cf_0 _ _).mp hz)]; rfl, rfl⟩)
    induction q with
    | zero =>
      intro t ht hq nx f s o4 o5
      refine z_iload_n dX5_allCanEndRight_52 rfl ?_
      refine z_aload_n dX5_allCanEndRight_53 rfl ?_
      refine z_getf cls4 7 flX5_55 dX5_allCanEndRight_54 (by decide) (WS_70) rfl ?_
      refine i_icmp_ge (tgt := 130) dX5_allCanEndRight_57 (by decide) (by omega) (by omega) (fun h1 => ?_) (fun h1 => ?_)
      · skip
        exact hend t (by omega) nx f s o4 o5
      · skip
        omega
    | succ q ih =>
      intro t ht hq nx f s o4 o5
      have hcl := cf_le (gI ac M E B w x e0 t) x.2
      have hms := cf_mono (g := gI ac M E B w x e0 t) (h := gI ac M E B w x e0 (t + 1)) x.2 (fun c _ hc => gS_mono _ _ c hc)
      have H3 : 0 < cf (gI ac M E B w x e0 t) x.2 → ∀ k : Nat, k ≤ x.2 → ∀ (er : Nat → Bool) (nx : Nat → Nat) (f s : Nat), gS ac M E B w x k er = gI ac M E B w x e0 (t + 1) → PX5_allCanEndRight Q NX 75 [some (.ref 70), some (.int (iI (bI truth))), some (.int (iI (cf er x.2 : Nat))), some (.int (iI t)), some (.int (iI (cf (gI ac M E B w x e0 t) x.2 : Nat))), some (.int (iI ((k : Int) - 1)))] [] (WS σ w x.2 rf sl er nx f s) 0 0 := by
        intro hpos k
        induction k with
        | zero =>
          intro hk er nx f s he
          have he : er = gI ac M E B w x e0 (t + 1) := he
          rw [he]
          refine z_iload dX5_allCanEndRight_75 rfl ?_
          refine i_if_lt (tgt := 116) dX5_allCanEndRight_77 (by decide) (by omega) (fun h1 => ?_) (fun h1 => ?_)
          · skip
            refine z_iload_n dX5_allCanEndRight_116 rfl ?_
            refine z_iload dX5_allCanEndRight_117 rfl ?_
            refine i_icmp_ne (tgt := 124) dX5_allCanEndRight_119 (by decide) (by omega) (by omega) (fun h2 => ?_) (fun h2 => ?_)
            · skip
              refine i_iinc dX5_allCanEndRight_124 rfl (by decide) ?_
              refine z_goto (tgt := 52) dX5_allCanEndRight_127 (by decide) ?_
              exact ih (t + 1) (by omega) (by omega) nx f s _ _
            · skip
              refine i_iconst dX5_allCanEndRight_122 rfl ?_
              have hfix : gI ac M E B w x e0 (t + 1) = gI ac M E B w x e0 t := gS_eq (by
                show cf (gI ac M E B w x e0 (t + 1)) x.2 = _
                omega)
              obtain ⟨c, c1, c2⟩ := cf_some (g := gI ac M E B w x e0 t) x.2 (by omega)
              exact z_zret dX5_allCanEndRight_123 rfl (by decide) (by decide) rfl (by rw [hQ]; exact ⟨_, nx, f, s, by rw [he0, rec_f hfix c1 c2]; rfl, rfl⟩)
          · skip
            omega
        | succ k ihk =>
          intro hk er nx f s he
          have hce := cf_le er x.2
          have H110 : ∀ (er : Nat → Bool) (nx : Nat → Nat) (f s : Nat), gS ac M E B w x k er = gI ac M E B w x e0 (t + 1) → PX5_allCanEndRight Q NX 110 [some (.ref 70), some (.int (iI (bI truth))), some (.int (iI (cf er x.2 : Nat))), some (.int (iI t)), some (.int (iI (cf (gI ac M E B w x e0 t) x.2 : Nat))), some (.int (iI (((k + 1 : Nat) : Int) - 1)))] [] (WS σ w x.2 rf sl er nx f s) 0 0 := by
            intro er nx f s he
            refine i_iinc dX5_allCanEndRight_110 rfl (by decide) ?_
            refine z_goto (tgt := 75) dX5_allCanEndRight_113 (by decide) ?_
            have ihh := ihk (by omega) er nx f s he
            rw [show ((k : Int) - 1) = (((k + 1 : Nat) : Int) - 1) + -1 by omega] at ihh
            exact ihh
          refine z_iload dX5_allCanEndRight_75 rfl ?_
          refine i_if_lt (tgt := 116) dX5_allCanEndRight_77 (by decide) (by omega) (fun h1 => ?_) (fun h1 => ?_)
          · skip
            omega
          · skip
            refine z_aload_n dX5_allCanEndRight_80 rfl ?_
            refine z_getf cls4 4 flX5_19 dX5_allCanEndRight_81 (by decide) (WS_70) rfl ?_
            refine z_iload dX5_allCanEndRight_84 rfl ?_
            refine i_zald dX5_allCanEndRight_86 (WS_73) k (by omega) (by omega) ?_
            refine i_ifb_ne (tgt := 110) dX5_allCanEndRight_87 (by decide) (fun h2 => ?_) (fun h2 => ?_)
            · skip
              rw [gS_t h2] at he
              exact H110 er nx f s he
            · skip
              refine z_aload_n dX5_allCanEndRight_90 rfl ?_
              refine z_iload dX5_allCanEndRight_91 rfl ?_
              rw [show (((k + 1 : Nat) : Int) - 1) = (k : Int) by omega]
              refine z_callVX (k_leadsToRightEnd σ w rf sl tb er nx f s nc ac cp op lf rt M E B S CF CD NB FR x k hw v2 v4 hF hx hG hS (by omega)) mX5_101 dX5_allCanEndRight_93 (WS_70) rfl rfl rfl ⟨by decide, by decide⟩ (Nat.le_of_ble_eq_true rfl) ⟨by decide, by decide⟩ (fun _ _ h => h.elim) (fun r u hq => ?_)
              obtain ⟨nx', f', s', rfl, rfl⟩ := hq
              by_cases hld : LD ac M E B w x er k
              · rw [bP_t hld]
                refine i_ifb_eq (tgt := 110) dX5_allCanEndRight_96 (by decide) (fun h3 => ?_) (fun h3 => ?_)
                · skip
                  cases h3
                · skip
                  refine z_aload_n dX5_allCanEndRight_99 rfl ?_
                  refine z_getf cls4 4 flX5_19 dX5_allCanEndRight_100 (by decide) (WS_70) rfl ?_
                  refine z_iload dX5_allCanEndRight_103 rfl ?_
                  refine i_iconst dX5_allCanEndRight_105 rfl ?_
                  refine i_zast (x := true) dX5_allCanEndRight_106 WS_73 k (by omega) (by omega) ?_
                  rw [WS_s73]
                  have hcu := cf_up h2 x.2
                  rw [if_pos (by omega)] at hcu
                  refine i_iinc dX5_allCanEndRight_107 rfl (by decide) ?_
                  rw [gS_l hld] at he
                  have hh := H110 _ nx' f' s' he
                  rw [show ((cf (va_up er k true) x.2 : Nat) : Int) = (cf er x.2 : Int) + -1 by omega] at hh
                  rw [show (((k + 1 : Nat) : Int) - 1) = (k : Int) by omega] at hh
                  exact hh
              · rw [bP_f hld]
                refine i_ifb_eq (tgt := 110) dX5_allCanEndRight_96 (by decide) (fun h3 => ?_) (fun h3 => ?_)
                · skip
                  rw [gS_n hld] at he
                  have hh := H110 er nx' f' s' he
                  rw [show (((k + 1 : Nat) : Int) - 1) = (k : Int) by omega] at hh
                  exact hh
                · skip
                  cases h3
      refine z_iload_n dX5_allCanEndRight_52 rfl ?_
      refine z_aload_n dX5_allCanEndRight_53 rfl ?_
      refine z_getf cls4 7 flX5_55 dX5_allCanEndRight_54 (by decide) (WS_70) rfl ?_
      refine i_icmp_ge (tgt := 130) dX5_allCanEndRight_57 (by decide) (by omega) (by omega) (fun h1 => ?_) (fun h1 => ?_)
      · skip
        omega
      · skip
        refine z_iload_n dX5_allCanEndRight_60 rfl ?_
        refine i_if_le (tgt := 130) dX5_allCanEndRight_61 (by decide) (by omega) (fun h2 => ?_) (fun h2 => ?_)
        · skip
          exact hend t (by omega) nx f s o4 o5
        · skip
          refine z_iload_n dX5_allCanEndRight_64 rfl ?_
          refine z_istore dX5_allCanEndRight_65 (by decide) ?_
          refine z_aload_n dX5_allCanEndRight_67 rfl ?_
          refine z_getf cls4 7 flX5_55 dX5_allCanEndRight_68 (by decide) (WS_70) rfl ?_
          refine i_iconst dX5_allCanEndRight_71 rfl ?_
          refine i_isub dX5_allCanEndRight_72 ?_
          refine z_istore dX5_allCanEndRight_73 (by decide) ?_
          exact H3 (by omega) x.2 (Nat.le_refl _) _ nx f s rfl
  have H1 : ∀ k : Nat, k ≤ x.2 → ∀ (er : Nat → Bool) (nx : Nat → Nat) (f s : Nat), (∀ c, c < k → er c = g0 c) → PX5_allCanEndRight Q NX 7 [some (.ref 70), some (.int (iI (bI truth))), some (.int (iI ((x.2 - k + cf er k : Nat) : Int))), some (.int (iI k)), none, none] [] (WS σ w x.2 rf sl er nx f s) 0 0 := by
    refine up_to x.2 ?_ ?_
    · intro er nx f s he
      refine z_iload_n dX5_allCanEndRight_7 rfl ?_
      refine z_aload_n dX5_allCanEndRight_8 rfl ?_
      refine z_getf cls4 7 flX5_55 dX5_allCanEndRight_9 (by decide) (WS_70) rfl ?_
      refine i_icmp_ge (tgt := 50) dX5_allCanEndRight_12 (by decide) (by omega) (by omega) (fun h1 => ?_) (fun h1 => ?_)
      · skip
        refine i_iconst dX5_allCanEndRight_50 rfl ?_
        refine z_istore_n dX5_allCanEndRight_51 (by decide) ?_
        have hh := H2 er (rec_congr (fun c hc => (he c hc).symm)) x.2 0 (by omega) (cf_le _ _) nx f s none none
        rw [show x.2 - x.2 + cf er x.2 = cf (gI ac M E B w x er 0) x.2 by rw [Nat.sub_self, Nat.zero_add]; rfl]
        exact hh
      · skip
        omega
    · intro k hk ih er nx f s he
      have hce := cf_le er k
      refine z_iload_n dX5_allCanEndRight_7 rfl ?_
      refine z_aload_n dX5_allCanEndRight_8 rfl ?_
      refine z_getf cls4 7 flX5_55 dX5_allCanEndRight_9 (by decide) (WS_70) rfl ?_
      refine i_icmp_ge (tgt := 50) dX5_allCanEndRight_12 (by decide) (by omega) (by omega) (fun h1 => ?_) (fun h1 => ?_)
      · skip
        omega
      · skip
        refine z_aload_n dX5_allCanEndRight_15 rfl ?_
        refine z_getf cls4 4 flX5_19 dX5_allCanEndRight_16 (by decide) (WS_70) rfl ?_
        refine z_iload_n dX5_allCanEndRight_19 rfl ?_
        refine z_aload_n dX5_allCanEndRight_20 rfl ?_
        refine z_iload_n dX5_allCanEndRight_21 rfl ?_
        refine z_iload_n dX5_allCanEndRight_22 rfl ?_
        refine z_callVX (k_isRightEnd σ w x.2 rf sl er nx f s nc ac cp op lf rt M E B S CF CD NB FR x k truth hw hV0 hF hx hS.1 hk (hG.1 k hk)) mX5_97 dX5_allCanEndRight_23 (WS_70) rfl rfl rfl ⟨by decide, by decide⟩ (Nat.le_of_ble_eq_true rfl) ⟨by decide, by decide⟩ (fun _ _ h => h.elim) (fun r u hq => ?_)
        obtain ⟨f', s', rfl, rfl⟩ := hq
        rw [← hg0]
        refine i_zast dX5_allCanEndRight_26 (WS_73) k (by omega) (by omega) ?_
        rw [WS_s73]
        have hcc : cf (va_up er k (g0 k)) k = cf er k := cf_congr k (fun c hc => va_up_ne _ _ (by omega))
        have hcs : cf (va_up er k (g0 k)) (k + 1) = cf er k + (bif g0 k then 0 else 1) := by
          show cf _ k + (bif va_up er k (g0 k) k then 0 else 1) = _
          rw [hcc, va_up_self]
        have hne : ∀ c, c < k + 1 → va_up er k (g0 k) c = g0 c := fun c hc => by
          by_cases z : c = k
          · rw [z, va_up_self]
          · rw [va_up_ne _ _ z]; exact he c (by omega)
        refine z_iload_n dX5_allCanEndRight_27 rfl ?_
        refine z_aload_n dX5_allCanEndRight_28 rfl ?_
        refine z_getf cls4 4 flX5_19 dX5_allCanEndRight_29 (by decide) (WS_70) rfl ?_
        refine z_iload_n dX5_allCanEndRight_32 rfl ?_
        refine i_zald dX5_allCanEndRight_33 (WS_73) k (by omega) (by omega) ?_
        rw [va_up_self]
        have ihh := ih _ nx f' s' hne
        rw [hcs] at ihh
        refine i_ifb_eq (tgt := 41) dX5_allCanEndRight_34 (by decide) (fun h2 => ?_) (fun h2 => ?_)
        · skip
          rw [h2] at ihh
          refine i_iconst dX5_allCanEndRight_41 rfl ?_
          refine i_isub dX5_allCanEndRight_42 ?_
          refine z_istore_n dX5_allCanEndRight_43 (by decide) ?_
          refine i_iinc dX5_allCanEndRight_44 rfl (by decide) ?_
          refine z_goto (tgt := 7) dX5_allCanEndRight_47 (by decide) ?_
          rw [show ((x.2 - k + cf er k : Nat) : Int) - 0 = ((x.2 - (k + 1) + (cf er k + 1) : Nat) : Int) by omega, h2]
          exact ihh
        · skip
          rw [h2] at ihh
          refine i_iconst dX5_allCanEndRight_37 rfl ?_
          refine z_goto (tgt := 42) dX5_allCanEndRight_38 (by decide) ?_
          refine i_isub dX5_allCanEndRight_42 ?_
          refine z_istore_n dX5_allCanEndRight_43 (by decide) ?_
          refine i_iinc dX5_allCanEndRight_44 rfl (by decide) ?_
          refine z_goto (tgt := 7) dX5_allCanEndRight_47 (by decide) ?_
          rw [show ((x.2 - k + cf er k : Nat) : Int) - 1 = ((x.2 - (k + 1) + (cf er k + 0) : Nat) : Int) by omega, h2]
          exact ihh
  refine z_aload_n dX5_allCanEndRight_0 rfl ?_
  refine z_getf cls4 7 flX5_55 dX5_allCanEndRight_1 (by decide) (WS_70) rfl ?_
  refine z_istore_n dX5_allCanEndRight_4 (by decide) ?_
  refine i_iconst dX5_allCanEndRight_5 rfl ?_
  refine z_istore_n dX5_allCanEndRight_6 (by decide) ?_
  exact H1 0 (by omega) er nx f s (fun c hc => absurd hc (Nat.not_lt_zero c))

