section MODG
variable {σ : Wd} {a : AS} {t : Int}
theorem m_recovers (h : MD σ a t) (hV : VL a) : KX7_recovers [.ref 100] σ (QM (cdRec a) (.int (iI (bI (rvV a)))) σ a a) NX := by
  obtain ⟨tr, cfM, th, agf, no, n2, crs, cr, tb, gd, wk, hp⟩ := h
  have hp0 := hp
  obtain ⟨h100, k1, k2, k3, k4, k5, k6, k7, k10, k11, k12, k13, k14, k15, k16, g1, g2, g3, g4⟩ := hp
  have hct := hV.cnt
  have hac := hV.ac
  have hok := hV.ok
  refine Ct.intro (by decide) (Nat.le_of_ble_eq_true rfl) ?_
  obtain ⟨Q, hQ⟩ : ∃ Q : Option Value → Wd → Prop, Q = QM (cdRec a) (.int (iI (bI (rvV a)))) σ a a := ⟨_, rfl⟩
  rw [← hQ]
  refine z_aload_n dX7_recovers_0 rfl ?_
  refine z_aload_n dX7_recovers_1 rfl ?_
  refine z_getf cls6 23 flX7_83 dX7_recovers_2 (by decide) (by first | exact h100 | rfl) rfl ?_
  refine i_ifb_eq (tgt := 12) dX7_recovers_5 (by decide) (fun h1 => ?_) (fun h1 => ?_)
  · skip
    have hc0 : cdRec a = 1 := if_neg (by rw [h1]; decide)
    refine i_iconst dX7_recovers_12 rfl ?_
    refine i_puti cls6 0 flX7_7 dX7_recovers_13 (by decide) rfl rfl (by first | exact h100 | rfl) (Nat.le_of_ble_eq_true rfl) ?_
    refine z_aload_n dX7_recovers_16 rfl ?_
    refine z_getf cls6 0 flX7_7 dX7_recovers_17 (by decide) (up_self _ _ _) rfl ?_
    refine i_if_eq (tgt := 25) dX7_recovers_20 (by decide) (by omega) (fun h3 => ?_) (fun h3 => ?_)
    · skip
      omega
    · skip
      refine i_iconst dX7_recovers_23 rfl ?_
      refine z_zret dX7_recovers_24 rfl (by decide) (by decide) rfl ?_
      rw [hQ, hc0]
      exact ⟨⟨0, rfl⟩, fun z => (by cases z), ⟨tr, cfM, th, agf, no, n2, crs, cr, tb, gd, wk, md_t hp0 1⟩, F2.rfl.up _ (by omega)⟩
  · skip
    have hc0 : cdRec a = 0 := if_pos h1
    obtain ⟨x, ex⟩ := Option.isSome_iff_exists.mp h1
    obtain ⟨x1, x2, x3, x4, x5⟩ := hV.ex x ex
    have hcp : a.cp = true := hV.cc (by omega)
    obtain ⟨v1, v2, v3, v4⟩ := hV.fv hcp
    have hS := g4 x ex
    have hcrs : crs = x.2 := hS.1
    subst hcrs
    obtain ⟨g0, hg0⟩ : ∃ g0, g0 = reB a.op a.lf a.rt a.nc a.ac a.M a.E a.B a.cnt x (trV a) := ⟨_, rfl⟩
    have hrv : rvV a = recB a.ac a.M a.E a.B a.cnt x g0 := by unfold rvV; rw [ex, hg0]
    rw [hrv] at hQ
    have hfin : ∀ (b : Bool), b = recB a.ac a.M a.E a.B a.cnt x g0 → ∀ (tr : Nat → Bool) (gd : Nat → Bool) (wk : Nat → Nat) (no n2 : Int), Q (some (.int (iI (bI b)))) (MSw σ (obMd 0 a.nc a.ac a.cp a.cnt no n2 x.2 a.ex.isSome) tr cr tb gd wk) := by
      intro b hb tr gd wk no n2
      rw [hQ, hc0, hb]
      exact ⟨⟨_, rfl⟩, fun _ => rfl, md_s hp0 a.ex 0 rfl (fun y hy => g4 y hy), MS_F2⟩
    have H130 : ∀ (e0 : Nat → Bool) (tt : Nat), recB a.ac a.M a.E a.B a.cnt x g0 = recB a.ac a.M a.E a.B a.cnt x e0 → gI a.ac a.M a.E a.B a.cnt x e0 (tt + 1) = gI a.ac a.M a.E a.B a.cnt x e0 tt → ∀ c : Nat, c ≤ x.2 → ∀ (tr : Nat → Bool) (wk : Nat → Nat) (no n2 : Int) (o1 : Option Value) (o2 : Int32), (∀ c', c' < c → gI a.ac a.M a.E a.B a.cnt x e0 tt c' = true) → PX7_recovers Q NX 130 [some (.ref 100), o1, some (.int o2), some (.int (iI c))] [] (MSw σ (obMd 0 a.nc a.ac a.cp a.cnt no n2 x.2 a.ex.isSome) tr cr tb (gI a.ac a.M a.E a.B a.cnt x e0 tt) wk) 0 0 := by
      intro e0 tt hr hfix
      refine up_to x.2 ?_ ?_
      · intro tr wk no n2 o1 o2 hall
        refine z_iload_n dX7_recovers_130 rfl ?_
        refine z_aload_n dX7_recovers_131 rfl ?_
        refine z_getf cls6 19 flX7_70 dX7_recovers_132 (by decide) (MS_100) rfl ?_
        refine i_icmp_ge (tgt := 155) dX7_recovers_135 (by decide) (by omega) (by omega) (fun h3 => ?_) (fun h3 => ?_)
        · skip
          refine i_iconst dX7_recovers_155 rfl ?_
          exact z_zret dX7_recovers_156 rfl (by decide) (by decide) rfl (hfin true (by rw [hr]; exact (rec_t hall).symm) tr _ wk no n2)
        · skip
          omega
      · intro c hc ih tr wk no n2 o1 o2 hall
        refine z_iload_n dX7_recovers_130 rfl ?_
        refine z_aload_n dX7_recovers_131 rfl ?_
        refine z_getf cls6 19 flX7_70 dX7_recovers_132 (by decide) (MS_100) rfl ?_
        refine i_icmp_ge (tgt := 155) dX7_recovers_135 (by decide) (by omega) (by omega) (fun h3 => ?_) (fun h3 => ?_)
        · skip
          omega
        · skip
          refine z_aload_n dX7_recovers_138 rfl ?_
          refine z_getf cls6 22 flX7_80 dX7_recovers_139 (by decide) (MS_100) rfl ?_
          refine z_iload_n dX7_recovers_142 rfl ?_
          refine i_zald dX7_recovers_143 (MS_115) c (by omega) (by omega) ?_
          refine i_ifb_ne (tgt := 149) dX7_recovers_144 (by decide) (fun h4 => ?_) (fun h4 => ?_)
          · skip
            refine i_iinc dX7_recovers_149 rfl (by decide) ?_
            refine z_goto (tgt := 130) dX7_recovers_152 (by decide) ?_
            refine ih tr wk no n2 _ _ (fun c' hc' => ?_)
            by_cases q : c' = c
            · rw [q]; exact h4
            · exact hall c' (by omega)
          · skip
            refine i_iconst dX7_recovers_147 rfl ?_
            exact z_zret dX7_recovers_148 rfl (by decide) (by decide) rfl (hfin false (by rw [hr]; exact (rec_f hfix hc h4).symm) tr _ wk no n2)
    have H76 : ∀ e0 : Nat → Bool, recB a.ac a.M a.E a.B a.cnt x g0 = recB a.ac a.M a.E a.B a.cnt x e0 → ∀ (m tt : Nat) (more : Bool) (tr : Nat → Bool) (wk : Nat → Nat) (no n2 : Int) (o3 : Option Value), cf (gI a.ac a.M a.E a.B a.cnt x e0 tt) x.2 + (if more = true then 1 else 0) ≤ m → (more = false → gI a.ac a.M a.E a.B a.cnt x e0 (tt + 1) = gI a.ac a.M a.E a.B a.cnt x e0 tt) → PX7_recovers Q NX 76 [some (.ref 100), some (.int (iI (bI (trV a)))), some (.int (iI (bI more))), o3] [] (MSw σ (obMd 0 a.nc a.ac a.cp a.cnt no n2 x.2 a.ex.isSome) tr cr tb (gI a.ac a.M a.E a.B a.cnt x e0 tt) wk) 0 0 := by
      intro e0 hr m
      have hstop : ∀ (tt : Nat) (tr : Nat → Bool) (wk : Nat → Nat) (no n2 : Int) (o2 : Int32) (o3 : Option Value), gI a.ac a.M a.E a.B a.cnt x e0 (tt + 1) = gI a.ac a.M a.E a.B a.cnt x e0 tt → PX7_recovers Q NX 128 [some (.ref 100), some (.int (iI (bI (trV a)))), some (.int o2), o3] [] (MSw σ (obMd 0 a.nc a.ac a.cp a.cnt no n2 x.2 a.ex.isSome) tr cr tb (gI a.ac a.M a.E a.B a.cnt x e0 tt) wk) 0 0 := by
        intro tt tr wk no n2 o2 o3 hfix
        refine i_iconst dX7_recovers_128 rfl ?_
        refine z_istore_n dX7_recovers_129 (by decide) ?_
        exact H130 e0 tt hr hfix 0 (by omega) tr wk no n2 _ _ (fun c' hc' => absurd hc' (Nat.not_lt_zero c'))
      induction m with
      | zero =>
        intro tt more tr wk no n2 o3 hm hs
        have hmf : more = false := by
          cases more with
          | false => rfl
          | true => rw [if_pos rfl] at hm; omega
        refine z_iload_n dX7_recovers_76 rfl ?_
        refine i_ifb_eq (tgt := 128) dX7_recovers_77 (by decide) (fun h3 => ?_) (fun h3 => ?_)
        · skip
          exact hstop tt tr wk no n2 _ _ (hs hmf)
        · skip
          rw [hmf] at h3; cases h3
      | succ m ih =>
        intro tt more tr wk no n2 o3 hm hs
        have hms := cf_mono (g := gI a.ac a.M a.E a.B a.cnt x e0 tt) (h := gI a.ac a.M a.E a.B a.cnt x e0 (tt + 1)) x.2 (fun c _ hc => gS_mono _ _ c hc)
        have HC : cf (gI a.ac a.M a.E a.B a.cnt x e0 tt) x.2 ≤ m → ∀ k : Nat, k ≤ x.2 → ∀ (gd : Nat → Bool) (mr : Bool) (wk : Nat → Nat) (no n2 : Int), gS a.ac a.M a.E a.B a.cnt x k gd = gI a.ac a.M a.E a.B a.cnt x e0 (tt + 1) → (mr = false → gd = gI a.ac a.M a.E a.B a.cnt x e0 tt) → (mr = true → cf gd x.2 + 1 ≤ cf (gI a.ac a.M a.E a.B a.cnt x e0 tt) x.2) → PX7_recovers Q NX 89 [some (.ref 100), some (.int (iI (bI (trV a)))), some (.int (iI (bI mr))), some (.int (iI ((k : Int) - 1)))] [] (MSw σ (obMd 0 a.nc a.ac a.cp a.cnt no n2 x.2 a.ex.isSome) tr cr tb gd wk) 0 0 := by
          intro hcm k
          induction k with
          | zero =>
            intro hk gd mr wk no n2 he h5 h6
            have he : gd = gI a.ac a.M a.E a.B a.cnt x e0 (tt + 1) := he
            refine z_iload_n dX7_recovers_89 rfl ?_
            refine i_if_lt (tgt := 125) dX7_recovers_90 (by decide) (by omega) (fun h3 => ?_) (fun h3 => ?_)
            · skip
              refine z_goto (tgt := 76) dX7_recovers_125 (by decide) ?_
              rw [he]
              cases mr with
              | false =>
                have hfx : gI a.ac a.M a.E a.B a.cnt x e0 (tt + 1) = gI a.ac a.M a.E a.B a.cnt x e0 tt := by rw [← he]; exact h5 rfl
                refine ih (tt + 1) false tr wk no n2 _ (by rw [if_neg (by decide)]; omega) (fun _ => ?_)
                have h9 := gI_fix hfx 2
                have h8 := gI_fix hfx 1
                show gI a.ac a.M a.E a.B a.cnt x e0 (tt + 2) = gI a.ac a.M a.E a.B a.cnt x e0 (tt + 1)
                rw [h9, h8]
              | true =>
                have h6 := h6 rfl
                rw [he] at h6
                exact ih (tt + 1) true tr wk no n2 _ (by rw [if_pos rfl]; omega) (fun z => by cases z)
            · skip
              omega
          | succ k ihk =>
            intro hk gd mr wk no n2 he h5 h6
            have H119 : ∀ (gd : Nat → Bool) (mr : Bool) (wk : Nat → Nat) (no n2 : Int), gS a.ac a.M a.E a.B a.cnt x k gd = gI a.ac a.M a.E a.B a.cnt x e0 (tt + 1) → (mr = false → gd = gI a.ac a.M a.E a.B a.cnt x e0 tt) → (mr = true → cf gd x.2 + 1 ≤ cf (gI a.ac a.M a.E a.B a.cnt x e0 tt) x.2) → PX7_recovers Q NX 119 [some (.ref 100), some (.int (iI (bI (trV a)))), some (.int (iI (bI mr))), some (.int (iI (((k + 1 : Nat) : Int) - 1)))] [] (MSw σ (obMd 0 a.nc a.ac a.cp a.cnt no n2 x.2 a.ex.isSome) tr cr tb gd wk) 0 0 := by
              intro gd mr wk no n2 he h5 h6
              refine i_iinc dX7_recovers_119 rfl (by decide) ?_
              refine z_goto (tgt := 89) dX7_recovers_122 (by decide) ?_
              have ihh := ihk (by omega) gd mr wk no n2 he h5 h6
              rw [show ((k : Int) - 1) = (((k + 1 : Nat) : Int) - 1) + -1 by omega] at ihh
              exact ihh
            refine z_iload_n dX7_recovers_89 rfl ?_
            refine i_if_lt (tgt := 125) dX7_recovers_90 (by decide) (by omega) (fun h3 => ?_) (fun h3 => ?_)
            · skip
              omega
            · skip
              refine z_aload_n dX7_recovers_93 rfl ?_
              refine z_getf cls6 22 flX7_80 dX7_recovers_94 (by decide) (MS_100) rfl ?_
              refine z_iload_n dX7_recovers_97 rfl ?_
              refine i_zald dX7_recovers_98 (MS_115) k (by omega) (by omega) ?_
              refine i_ifb_ne (tgt := 119) dX7_recovers_99 (by decide) (fun h4 => ?_) (fun h4 => ?_)
              · skip
                rw [gS_t h4] at he
                exact H119 gd mr wk no n2 he h5 h6
              · skip
                refine z_aload_n dX7_recovers_102 rfl ?_
                refine z_iload_n dX7_recovers_103 rfl ?_
                rw [show (((k + 1 : Nat) : Int) - 1) = (k : Int) by omega]
                refine z_callVX (m_leadsToGood k7 x1 hac hok x4 x2 hS x5 (show k < x.2 by omega)) mX7_173 dX7_recovers_104 (MS_100) rfl rfl rfl ⟨by decide, by decide⟩ (Nat.le_of_ble_eq_true rfl) ⟨by decide, by decide⟩ (fun _ _ h => h.elim) (fun r u hq => ?_)
                obtain ⟨wk', no', n2', rfl, rfl⟩ := hq
                by_cases hld : LD a.ac a.M a.E a.B a.cnt x gd k
                · rw [bP_t hld]
                  refine i_ifb_eq (tgt := 119) dX7_recovers_107 (by decide) (fun h7 => ?_) (fun h7 => ?_)
                  · skip
                    cases h7
                  · skip
                    refine z_aload_n dX7_recovers_110 rfl ?_
                    refine z_getf cls6 22 flX7_80 dX7_recovers_111 (by decide) (MS_100) rfl ?_
                    refine z_iload_n dX7_recovers_114 rfl ?_
                    refine i_iconst dX7_recovers_115 rfl ?_
                    refine i_zast (x := true) dX7_recovers_116 (MS_115) k (by omega) (by omega) ?_
                    rw [MS_s115]
                    have hcu := cf_up h4 x.2
                    rw [if_pos (by omega)] at hcu
                    refine i_iconst dX7_recovers_117 rfl ?_
                    refine z_istore_n dX7_recovers_118 (by decide) ?_
                    rw [gS_l hld] at he
                    have hh := H119 _ true wk' no' n2' he (fun z => by cases z) (fun _ => by
                      cases mr with
                      | true => have := h6 rfl; omega
                      | false => have h5 := h5 rfl; rw [← h5]; omega)
                    rw [show (((k + 1 : Nat) : Int) - 1) = (k : Int) by omega] at hh
                    exact hh
                · rw [bP_f hld]
                  refine i_ifb_eq (tgt := 119) dX7_recovers_107 (by decide) (fun h7 => ?_) (fun h7 => ?_)
                  · skip
                    rw [gS_n hld] at he
                    have hh := H119 gd mr wk' no' n2' he h5 h6
                    rw [show (((k + 1 : Nat) : Int) - 1) = (k : Int) by omega] at hh
                    exact hh
                  · skip
                    cases h7
        refine z_iload_n dX7_recovers_76 rfl ?_
        refine i_ifb_eq (tgt := 128) dX7_recovers_77 (by decide) (fun h3 => ?_) (fun h3 => ?_)
        · skip
          exact hstop tt tr wk no n2 _ _ (hs h3)
        · skip
          rw [if_pos h3] at hm
          refine i_iconst dX7_recovers_80 rfl ?_
          refine z_istore_n dX7_recovers_81 (by decide) ?_
          refine z_aload_n dX7_recovers_82 rfl ?_
          refine z_getf cls6 19 flX7_70 dX7_recovers_83 (by decide) (MS_100) rfl ?_
          refine i_iconst dX7_recovers_86 rfl ?_
          refine i_isub dX7_recovers_87 ?_
          refine z_istore_n dX7_recovers_88 (by decide) ?_
          exact HC (by omega) x.2 (Nat.le_refl _) _ false wk no n2 rfl (fun _ => rfl) (fun z => by cases z)
    have H32 : ∀ c : Nat, c ≤ x.2 → ∀ (tr : Nat → Bool) (gd : Nat → Bool) (wk : Nat → Nat) (no n2 : Int), (∀ c', c' < c → gd c' = g0 c') → PX7_recovers Q NX 32 [some (.ref 100), some (.int (iI (bI (trV a)))), some (.int (iI c)), none] [] (MSw σ (obMd 0 a.nc a.ac a.cp a.cnt no n2 x.2 a.ex.isSome) tr cr tb gd wk) 0 0 := by
      refine up_to x.2 ?_ ?_
      · intro tr gd wk no n2 hgd
        refine z_iload_n dX7_recovers_32 rfl ?_
        refine z_aload_n dX7_recovers_33 rfl ?_
        refine z_getf cls6 19 flX7_70 dX7_recovers_34 (by decide) (MS_100) rfl ?_
        refine i_icmp_ge (tgt := 74) dX7_recovers_37 (by decide) (by omega) (by omega) (fun h3 => ?_) (fun h3 => ?_)
        · skip
          refine i_iconst dX7_recovers_74 rfl ?_
          refine z_istore_n dX7_recovers_75 (by decide) ?_
          exact H76 gd (rec_congr (fun c hc => (hgd c hc).symm)) (cf gd x.2 + 1) 0 true tr wk no n2 _ (by rw [if_pos rfl]; exact Nat.le_refl _) (fun z => by cases z)
        · skip
          omega
      · intro c hc ih tr gd wk no n2 hgd
        have H68 : ∀ (b : Bool) (tr : Nat → Bool) (wk : Nat → Nat) (no n2 : Int), b = g0 c → PX7_recovers Q NX 68 [some (.ref 100), some (.int (iI (bI (trV a)))), some (.int (iI c)), none] [] (MSw σ (obMd 0 a.nc a.ac a.cp a.cnt no n2 x.2 a.ex.isSome) tr cr tb (va_up gd c b) wk) 0 0 := by
          intro b tr wk no n2 hb
          refine i_iinc dX7_recovers_68 rfl (by decide) ?_
          refine z_goto (tgt := 32) dX7_recovers_71 (by decide) ?_
          refine ih tr _ wk no n2 (fun c' hc' => ?_)
          by_cases q : c' = c
          · rw [q, va_up_self]; exact hb
          · rw [va_up_ne _ _ q]; exact hgd c' (by omega)
        refine z_iload_n dX7_recovers_32 rfl ?_
        refine z_aload_n dX7_recovers_33 rfl ?_
        refine z_getf cls6 19 flX7_70 dX7_recovers_34 (by decide) (MS_100) rfl ?_
        refine i_icmp_ge (tgt := 74) dX7_recovers_37 (by decide) (by omega) (by omega) (fun h3 => ?_) (fun h3 => ?_)
        · skip
          omega
        · skip
          refine z_aload_n dX7_recovers_40 rfl ?_
          refine z_getf cls6 22 flX7_80 dX7_recovers_41 (by decide) (MS_100) rfl ?_
          refine z_iload_n dX7_recovers_44 rfl ?_
          refine z_aload_n dX7_recovers_45 rfl ?_
          refine z_iload_n dX7_recovers_46 rfl ?_
          refine z_callVX (m_silentCrowd k7 x1.2 hac hok (by omega) hS.2.1 hc (x2.1 c hc)) mX7_166 dX7_recovers_47 (MS_100) rfl rfl rfl ⟨by decide, by decide⟩ (Nat.le_of_ble_eq_true rfl) ⟨by decide, by decide⟩ (fun _ _ h => h.elim) (fun r u hq => ?_)
          obtain ⟨wk', no', n2', rfl, rfl⟩ := hq
          refine i_ifb_eq (tgt := 66) dX7_recovers_50 (by decide) (fun h4 => ?_) (fun h4 => ?_)
          · skip
            refine i_iconst dX7_recovers_66 rfl ?_
            refine i_zast (x := false) dX7_recovers_67 (MS_115) c (by omega) (by omega) ?_
            rw [MS_s115]
            exact H68 false tr wk' no' n2' (by rw [hg0]; unfold reB; rw [h4, Bool.and_false])
          · skip
            refine z_aload_n dX7_recovers_53 rfl ?_
            refine z_iload_n dX7_recovers_54 rfl ?_
            refine z_iload_n dX7_recovers_55 rfl ?_
            refine z_callVX (m_rightCrowd k2 k3 k4 v1 v3 x1.2 hac (by omega) hS.2.1 hc ((x2.rr hok) c hc)) mX7_169 dX7_recovers_56 (MS_100) rfl rfl rfl ⟨by decide, by decide⟩ (Nat.le_of_ble_eq_true rfl) ⟨by decide, by decide⟩ (fun _ _ h => h.elim) (fun r u hq => ?_)
            obtain ⟨tr', rfl, rfl⟩ := hq
            refine i_ifb_eq (tgt := 66) dX7_recovers_59 (by decide) (fun h5 => ?_) (fun h5 => ?_)
            · skip
              refine i_iconst dX7_recovers_66 rfl ?_
              refine i_zast (x := false) dX7_recovers_67 (MS_115) c (by omega) (by omega) ?_
              rw [MS_s115]
              exact H68 false tr' wk' no' n2' (by rw [hg0]; unfold reB; rw [h5, Bool.false_and])
            · skip
              refine i_iconst dX7_recovers_62 rfl ?_
              refine z_goto (tgt := 67) dX7_recovers_63 (by decide) ?_
              refine i_zast (x := true) dX7_recovers_67 (MS_115) c (by omega) (by omega) ?_
              rw [MS_s115]
              exact H68 true tr' wk' no' n2' (by rw [hg0]; unfold reB; rw [h4, h5]; rfl)
    refine i_iconst dX7_recovers_8 rfl ?_
    refine z_goto (tgt := 13) dX7_recovers_9 (by decide) ?_
    refine i_puti cls6 0 flX7_7 dX7_recovers_13 (by decide) rfl rfl (by first | exact h100 | rfl) (Nat.le_of_ble_eq_true rfl) ?_
    refine z_aload_n dX7_recovers_16 rfl ?_
    refine z_getf cls6 0 flX7_7 dX7_recovers_17 (by decide) (up_self _ _ _) rfl ?_
    refine i_if_eq (tgt := 25) dX7_recovers_20 (by decide) (by omega) (fun h3 => ?_) (fun h3 => ?_)
    · skip
      refine z_aload_n dX7_recovers_25 rfl ?_
      refine z_eqw (u := up (up σ 100 (obMd 0 a.nc a.ac a.cp a.cnt no n2 x.2 a.ex.isSome)) 105 (AZ 20 tr)) (by rw [up_id (show up σ 100 _ 105 = some (AZ 20 tr) from k5)]; rfl) ?_
      refine z_callVX (m_truthNow (t := 0) rfl k2 k3 k4 (k7.o _ (by omega)) k6 k12 v1 v2 v3 v4 (fun c hc l hl => g1 c (by omega) l hl) (fun l hl => by have := hV.lt l hl; omega)) mX7_163 dX7_recovers_26 (rfl) rfl rfl rfl ⟨by decide, by decide⟩ (Nat.le_of_ble_eq_true rfl) ⟨by decide, by decide⟩ (fun _ _ h => h.elim) (fun r u hq => ?_)
      obtain ⟨tr', rfl, rfl⟩ := hq
      refine z_istore_n dX7_recovers_29 (by decide) ?_
      refine i_iconst dX7_recovers_30 rfl ?_
      refine z_istore_n dX7_recovers_31 (by decide) ?_
      refine z_eqw (u := MSw σ (obMd 0 a.nc a.ac a.cp a.cnt no n2 x.2 a.ex.isSome) tr' cr tb gd wk) (by unfold MSw; rw [up_id k16, up_id k15, up_id k14, up_id k13, up_comm _ _ _ (show (100 : Nat) ≠ 105 by decide)]) ?_
      exact H32 0 (by omega) tr' gd wk no n2 (fun c' hc' => absurd hc' (Nat.not_lt_zero c'))
    · skip
      omega
theorem m_init (h100 : σ 100 = some (ob 6 [.int (iI 0), .null, .int (iI 0), .null, .null, .null, .null, .int (iI 0), .null, .null, .null, .null, .int (iI (bI false)), .null, .int (iI 0), .null, .null, .int (iI 0), .int (iI 0), .int (iI 0), .null, .null, .null, .int (iI (bI false)), .null])) (hn : ∀ q, 101 ≤ q → q ≤ 116 → σ q = none) : KX7_init [.ref 100] σ (fun r u => r = none ∧ MD u A0 0 ∧ F2 σ u) NX := by
  refine Ct.intro (by decide) (Nat.le_of_ble_eq_true rfl) ?_
  refine z_aload_n dX7_init_0 rfl ?_
  refine z_objInit (inW4 68 rfl rfl) (inW1 23 rfl rfl) (inW1 24 rfl rfl) dX7_init_1 (by decide) (Nat.le_of_ble_eq_true rfl) ?_
  refine z_aload_n dX7_init_4 rfl ?_
  refine i_iconst dX7_init_5 rfl ?_
  refine i_puti cls6 0 flX7_7 dX7_init_6 (by decide) rfl rfl (by first | exact h100 | rfl) (Nat.le_of_ble_eq_true rfl) ?_
  refine z_aload_n dX7_init_9 rfl ?_
  refine i_bipush dX7_init_10 (by decide) ?_
  refine i_newI (N := 8) (inW1 63 rfl rfl) dX7_init_12 101 (hn 101 (by omega) (by omega)) rfl (by decide) (by decide) (by decide) ?_
  refine z_putF cls6 1 flX7_13 dX7_init_14 (by decide) rfl rfl rfl rfl (fun _ => ⟨rfl, rfl⟩) (by first | exact h100 | rfl) (Nat.le_of_ble_eq_true rfl) ?_
  refine z_aload_n dX7_init_17 rfl ?_
  refine i_iconst dX7_init_18 rfl ?_
  refine i_puti cls6 2 flX7_17 dX7_init_19 (by decide) rfl rfl (by first | exact h100 | rfl) (Nat.le_of_ble_eq_true rfl) ?_
  refine z_aload_n dX7_init_22 rfl ?_
  refine i_bipush dX7_init_23 (by decide) ?_
  refine i_newI (N := 20) (inW1 63 rfl rfl) dX7_init_25 102 (hn 102 (by omega) (by omega)) rfl (by decide) (by decide) (by decide) ?_
  refine z_putF cls6 3 flX7_20 dX7_init_27 (by decide) rfl rfl rfl rfl (fun _ => ⟨rfl, rfl⟩) (by first | exact h100 | rfl) (Nat.le_of_ble_eq_true rfl) ?_
  refine z_aload_n dX7_init_30 rfl ?_
  refine i_bipush dX7_init_31 (by decide) ?_
  refine i_newI (N := 20) (inW1 63 rfl rfl) dX7_init_33 103 (hn 103 (by omega) (by omega)) rfl (by decide) (by decide) (by decide) ?_
  refine z_putF cls6 4 flX7_23 dX7_init_35 (by decide) rfl rfl rfl rfl (fun _ => ⟨rfl, rfl⟩) (by first | exact h100 | rfl) (Nat.le_of_ble_eq_true rfl) ?_
  refine z_aload_n dX7_init_38 rfl ?_
  refine i_bipush dX7_init_39 (by decide) ?_
  refine i_newI (N := 20) (inW1 63 rfl rfl) dX7_init_41 104 (hn 104 (by omega) (by omega)) rfl (by decide) (by decide) (by decide) ?_
  refine z_putF cls6 5 flX7_26 dX7_init_43 (by decide) rfl rfl rfl rfl (fun _ => ⟨rfl, rfl⟩) (by first | exact h100 | rfl) (Nat.le_of_ble_eq_true rfl) ?_
  refine z_aload_n dX7_init_46 rfl ?_
  refine i_bipush dX7_init_47 (by decide) ?_
  refine i_newZ (N := 20) (inW3 195 rfl rfl) dX7_init_49 105 (hn 105 (by omega) (by omega)) rfl (by decide) (by decide) (by decide) ?_
  refine z_putF cls6 6 flX7_29 dX7_init_51 (by decide) rfl rfl rfl rfl (fun _ => ⟨rfl, rfl⟩) (by first | exact h100 | rfl) (Nat.le_of_ble_eq_true rfl) ?_
  refine z_aload_n dX7_init_54 rfl ?_
  refine i_iconst dX7_init_55 rfl ?_
  refine i_puti cls6 7 flX7_33 dX7_init_56 (by decide) rfl rfl (by first | exact h100 | rfl) (Nat.le_of_ble_eq_true rfl) ?_
  refine z_aload_n dX7_init_59 rfl ?_
  refine i_bipush dX7_init_60 (by decide) ?_
  refine i_newI (N := 40) (inW1 63 rfl rfl) dX7_init_62 106 (hn 106 (by omega) (by omega)) rfl (by decide) (by decide) (by decide) ?_
  refine z_putF cls6 8 flX7_36 dX7_init_64 (by decide) rfl rfl rfl rfl (fun _ => ⟨rfl, rfl⟩) (by first | exact h100 | rfl) (Nat.le_of_ble_eq_true rfl) ?_
  refine z_aload_n dX7_init_67 rfl ?_
  refine i_iconst dX7_init_68 rfl ?_
  refine i_newI (N := 5) (inW1 63 rfl rfl) dX7_init_69 107 (hn 107 (by omega) (by omega)) rfl (by decide) (by decide) (by decide) ?_
  refine z_putF cls6 9 flX7_39 dX7_init_71 (by decide) rfl rfl rfl rfl (fun _ => ⟨rfl, rfl⟩) (by first | exact h100 | rfl) (Nat.le_of_ble_eq_true rfl) ?_
  refine z_aload_n dX7_init_74 rfl ?_
  refine i_iconst dX7_init_75 rfl ?_
  refine i_newI (N := 5) (inW1 63 rfl rfl) dX7_init_76 108 (hn 108 (by omega) (by omega)) rfl (by decide) (by decide) (by decide) ?_
  refine z_putF cls6 10 flX7_42 dX7_init_78 (by decide) rfl rfl rfl rfl (fun _ => ⟨rfl, rfl⟩) (by first | exact h100 | rfl) (Nat.le_of_ble_eq_true rfl) ?_
  refine z_aload_n dX7_init_81 rfl ?_
  refine i_iconst dX7_init_82 rfl ?_
  refine i_newI (N := 5) (inW1 63 rfl rfl) dX7_init_83 109 (hn 109 (by omega) (by omega)) rfl (by decide) (by decide) (by decide) ?_
  refine z_putF cls6 11 flX7_45 dX7_init_85 (by decide) rfl rfl rfl rfl (fun _ => ⟨rfl, rfl⟩) (by first | exact h100 | rfl) (Nat.le_of_ble_eq_true rfl) ?_
  refine z_aload_n dX7_init_88 rfl ?_
  refine i_iconst dX7_init_89 rfl ?_
  refine i_putz (b := false) cls6 12 flX7_48 dX7_init_90 (by decide) rfl rfl (by first | exact h100 | rfl) (Nat.le_of_ble_eq_true rfl) ?_
  refine z_aload_n dX7_init_93 rfl ?_
  refine i_sipush dX7_init_94 (by decide) ?_
  refine i_newZ (N := 860) (inW3 195 rfl rfl) dX7_init_97 110 (hn 110 (by omega) (by omega)) rfl (by decide) (by decide) (by decide) ?_
  refine z_putF cls6 13 flX7_52 dX7_init_99 (by decide) rfl rfl rfl rfl (fun _ => ⟨rfl, rfl⟩) (by first | exact h100 | rfl) (Nat.le_of_ble_eq_true rfl) ?_
  refine z_aload_n dX7_init_102 rfl ?_
  refine i_iconst dX7_init_103 rfl ?_
  refine i_puti cls6 14 flX7_55 dX7_init_104 (by decide) rfl rfl (by first | exact h100 | rfl) (Nat.le_of_ble_eq_true rfl) ?_
  refine z_aload_n dX7_init_107 rfl ?_
  refine i_sipush dX7_init_108 (by decide) ?_
  refine i_newI (N := 1000) (inW1 63 rfl rfl) dX7_init_111 111 (hn 111 (by omega) (by omega)) rfl (by decide) (by decide) (by decide) ?_
  refine z_putF cls6 15 flX7_58 dX7_init_113 (by decide) rfl rfl rfl rfl (fun _ => ⟨rfl, rfl⟩) (by first | exact h100 | rfl) (Nat.le_of_ble_eq_true rfl) ?_
  refine z_aload_n dX7_init_116 rfl ?_
  refine i_bipush dX7_init_117 (by decide) ?_
  refine i_newI (N := 8) (inW1 63 rfl rfl) dX7_init_119 112 (hn 112 (by omega) (by omega)) rfl (by decide) (by decide) (by decide) ?_
  refine z_putF cls6 16 flX7_61 dX7_init_121 (by decide) rfl rfl rfl rfl (fun _ => ⟨rfl, rfl⟩) (by first | exact h100 | rfl) (Nat.le_of_ble_eq_true rfl) ?_
  refine z_aload_n dX7_init_124 rfl ?_
  refine i_iconst dX7_init_125 rfl ?_
  refine i_puti cls6 17 flX7_64 dX7_init_126 (by decide) rfl rfl (by first | exact h100 | rfl) (Nat.le_of_ble_eq_true rfl) ?_
  refine z_aload_n dX7_init_129 rfl ?_
  refine i_iconst dX7_init_130 rfl ?_
  refine i_puti cls6 18 flX7_67 dX7_init_131 (by decide) rfl rfl (by first | exact h100 | rfl) (Nat.le_of_ble_eq_true rfl) ?_
  refine z_aload_n dX7_init_134 rfl ?_
  refine i_iconst dX7_init_135 rfl ?_
  refine i_puti cls6 19 flX7_70 dX7_init_136 (by decide) rfl rfl (by first | exact h100 | rfl) (Nat.le_of_ble_eq_true rfl) ?_
  refine z_aload_n dX7_init_139 rfl ?_
  refine i_sipush dX7_init_140 (by decide) ?_
  refine i_newL (N := 18012) (inW1 111 rfl rfl) dX7_init_143 113 (hn 113 (by omega) (by omega)) rfl (by decide) (by decide) (by decide) ?_
  refine z_putF cls6 20 flX7_73 dX7_init_145 (by decide) rfl rfl rfl rfl (fun _ => ⟨rfl, rfl⟩) (by first | exact h100 | rfl) (Nat.le_of_ble_eq_true rfl) ?_
  refine z_aload_n dX7_init_148 rfl ?_
  refine i_sipush dX7_init_149 (by decide) ?_
  refine i_newI (N := 8192) (inW1 63 rfl rfl) dX7_init_152 114 (hn 114 (by omega) (by omega)) rfl (by decide) (by decide) (by decide) ?_
  refine z_putF cls6 21 flX7_77 dX7_init_154 (by decide) rfl rfl rfl rfl (fun _ => ⟨rfl, rfl⟩) (by first | exact h100 | rfl) (Nat.le_of_ble_eq_true rfl) ?_
  refine z_aload_n dX7_init_157 rfl ?_
  refine i_sipush dX7_init_158 (by decide) ?_
  refine i_newZ (N := 3002) (inW3 195 rfl rfl) dX7_init_161 115 (hn 115 (by omega) (by omega)) rfl (by decide) (by decide) (by decide) ?_
  refine z_putF cls6 22 flX7_80 dX7_init_163 (by decide) rfl rfl rfl rfl (fun _ => ⟨rfl, rfl⟩) (by first | exact h100 | rfl) (Nat.le_of_ble_eq_true rfl) ?_
  refine z_aload_n dX7_init_166 rfl ?_
  refine i_iconst dX7_init_167 rfl ?_
  refine i_putz (b := false) cls6 23 flX7_83 dX7_init_168 (by decide) rfl rfl (by first | exact h100 | rfl) (Nat.le_of_ble_eq_true rfl) ?_
  refine z_aload_n dX7_init_171 rfl ?_
  refine i_bipush dX7_init_172 (by decide) ?_
  refine i_newL (N := 6) (inW1 111 rfl rfl) dX7_init_174 116 (hn 116 (by omega) (by omega)) rfl (by decide) (by decide) (by decide) ?_
  refine z_putF cls6 24 flX7_86 dX7_init_176 (by decide) rfl rfl rfl rfl (fun _ => ⟨rfl, rfl⟩) (by first | exact h100 | rfl) (Nat.le_of_ble_eq_true rfl) ?_
  refine z_vret dX7_init_179 rfl (by decide) (by decide) ⟨rfl, ⟨fun _ => false, fun _ => 0, fun _ => false, fun _ => 0, 0, 0, 0, fun _ => 0, fun _ => 0, fun _ => false, fun _ => 0, rfl, rfl, rfl, rfl, rfl, rfl, rfl, ⟨rfl, rfl, rfl⟩, rfl, rfl, rfl, rfl, rfl, rfl, rfl, fun _ _ _ _ => rfl, fun p hp => absurd hp (Nat.not_lt_zero p), fun z => (by cases z), fun x hx => (by cases hx)⟩, fun q hq => ?_⟩
  simp only [up, bq (show q ≠ 100 by omega), bq (show q ≠ 101 by omega), bq (show q ≠ 102 by omega), bq (show q ≠ 103 by omega), bq (show q ≠ 104 by omega), bq (show q ≠ 105 by omega), bq (show q ≠ 106 by omega), bq (show q ≠ 107 by omega), bq (show q ≠ 108 by omega), bq (show q ≠ 109 by omega), bq (show q ≠ 110 by omega), bq (show q ≠ 111 by omega), bq (show q ≠ 112 by omega), bq (show q ≠ 113 by omega), bq (show q ≠ 114 by omega), bq (show q ≠ 115 by omega), bq (show q ≠ 116 by omega), cond_false]
end MODG

