theorem pl_0 (tb : Nat → Nat) (k : Nat) : va_up (fun p => ((tb p : Nat) : Int)) k 0 = fun p => ((va_up tb k 0 p : Nat) : Int) := funext fun p => by
  by_cases q : p = k
  · rw [q, va_up_self, va_up_self]; rfl
  · rw [va_up_ne _ _ q, va_up_ne _ _ q]
theorem TI_z {hs tb : Nat → Nat} (h : ∀ p, p < 8192 → tb p = 0) : TI hs tb 0 := ⟨fun p hp => by rw [h p hp]; exact Nat.le_refl _, fun p q hp _ _ hz => absurd (h p hp) hz, fun r hr => absurd hr (Nat.not_lt_zero r)⟩
section MODF
variable {σ : Wd} {a : AS} {t : Int}
theorem md_s {tr tr' : Nat → Bool} {cfM : Nat → Int} {th : Nat → Bool} {agf : Nat → Int} {no n2 no' n2' : Int} {crs crs' : Nat} {cr tb cr' tb' : Nat → Nat} {gd gd' : Nat → Bool} {wk wk' : Nat → Nat} (h : MDp σ a t tr cfM th agf no n2 crs cr tb gd wk) {a' : AS} (ex' : Option XS) (t' : Int) (ha' : a' = mkA a.pd a.nc a.ac a.cp a.op a.lf a.rt a.M a.E a.B a.CF a.lt a.cnt a.ag ex') (hS : ∀ x, ex' = some x → SIM a.ac a.cnt x cr' tb' crs') : MD (MSw σ (obMd t' a.nc a.ac a.cp a.cnt no' n2' crs' ex'.isSome) tr' cr' tb' gd' wk') a' t' := by
  obtain ⟨h100, k1, k2, k3, k4, k5, k6, k7, k10, k11, k12, k13, k14, k15, k16, g1, g2, g3, g4⟩ := h
  subst ha'
  exact ⟨tr', cfM, th, agf, no', n2', crs', cr', tb', gd', wk', rfl, k1, k2, k3, k4, rfl, k6, MS_C k7, k10, k11, k12, rfl, rfl, rfl, rfl, g1, g2, g3, hS⟩
theorem m_explore (h : MD σ a t) (hV : VL a) (limit : Int) (hl : i32 limit) : KX7_explore [.ref 100, .int (iI limit)] σ (QM (cdExpl a limit) (.int (iI (exV (xAll a.ac a.M a.E a.B a.cnt limit.toNat a.ag)))) σ a (oExpl a limit.toNat)) NX := by
  obtain ⟨tr, cfM, th, agf, no, n2, crs, cr, tb, gd, wk, hp⟩ := h
  have hp0 := hp
  obtain ⟨h100, k1, k2, k3, k4, k5, k6, k7, k10, k11, k12, k13, k14, k15, k16, g1, g2, g3, g4⟩ := hp
  unfold i32 at hl
  have hct := hV.cnt
  have hac := hV.ac
  have hok := hV.ok
  refine Ct.intro (by decide) (Nat.le_of_ble_eq_true rfl) ?_
  obtain ⟨Q, hQ⟩ : ∃ Q : Option Value → Wd → Prop, Q = QM (cdExpl a limit) (.int (iI (exV (xAll a.ac a.M a.E a.B a.cnt limit.toNat a.ag)))) σ a (oExpl a limit.toNat) := ⟨_, rfl⟩
  rw [← hQ]
  have H38 : ∀ d : Nat, d = cdExpl a limit → d ≤ 2 → PX7_explore Q NX 38 [some (.ref 100), some (.int (iI limit)), none, none, none] [.int (iI d), .ref 100] σ 0 0 := by
    intro d hd hd2
    refine i_puti cls6 0 flX7_7 dX7_explore_38 (by decide) rfl rfl (by first | exact h100 | rfl) (Nat.le_of_ble_eq_true rfl) ?_
    refine z_aload_n dX7_explore_41 rfl ?_
    refine z_getf cls6 0 flX7_7 dX7_explore_42 (by decide) (up_self _ _ _) rfl ?_
    refine i_if_eq (tgt := 50) dX7_explore_45 (by decide) (by omega) (fun h1 => ?_) (fun h1 => ?_)
    · skip
      have hc0 : cdExpl a limit = 0 := by omega
      have hll : (1 ≤ limit ∧ limit ≤ 3000) ∧ (1 ≤ a.cnt ∧ a.cnt ≤ 6) := by
        have hc0' := hc0
        unfold cdExpl at hc0'
        by_cases q1 : 1 ≤ limit ∧ limit ≤ 3000
        · rw [if_pos q1] at hc0'
          by_cases q2 : 1 ≤ a.cnt ∧ a.cnt ≤ 6
          · exact ⟨q1, q2⟩
          · rw [if_neg q2] at hc0'; cases hc0'
        · rw [if_neg q1] at hc0'; cases hc0'
      obtain ⟨limit, rfl⟩ := Int.eq_ofNat_of_zero_le (show 0 ≤ limit by omega)
      rw [Int.toNat_natCast] at hQ
      rw [show ((d : Nat) : Int) = 0 by omega]
      have hw := hll.2
      have hnone : xAll a.ac a.M a.E a.B a.cnt limit a.ag = none → ∀ (tr : Nat → Bool) (cr tb : Nat → Nat) (wk : Nat → Nat) (no n2 : Int) (crs : Nat), Q (some (.int (iI (-1)))) (MSw σ (obMd 0 a.nc a.ac a.cp a.cnt no n2 crs false) tr cr tb gd wk) := by
        intro e tr cr tb wk no n2 crs
        rw [hQ]
        refine ⟨⟨_, rfl⟩, fun _ => by rw [e]; rfl, ?_, MS_F2⟩
        rw [if_pos hc0, hc0]
        exact md_s hp0 none 0 (by unfold oExpl; rw [e]) (fun x hx => by cases hx)
      have HR : ∀ (f c : Nat) (y : XS) (cr tb wk : Nat → Nat) (no n2 : Int) (o3 o4 : Option Value), c + f = limit → c ≤ y.2 → y.2 ≤ limit → XG a.ac a.M a.B a.cnt y → SIM a.ac a.cnt y cr tb y.2 → xR a.ac a.M a.E a.B a.cnt limit f c y = xAll a.ac a.M a.E a.B a.cnt limit a.ag → PX7_explore Q NX 162 [some (.ref 100), some (.int (iI limit)), some (.int (iI c)), o3, o4] [] (MSw σ (obMd 0 a.nc a.ac a.cp a.cnt no n2 y.2 false) tr cr tb gd wk) 0 0 := by
        have hend : ∀ (y : XS) (cr tb wk : Nat → Nat) (no n2 : Int) (o2 o3 o4 : Option Value), SIM a.ac a.cnt y cr tb y.2 → xAll a.ac a.M a.E a.B a.cnt limit a.ag = some y → PX7_explore Q NX 247 [some (.ref 100), some (.int (iI limit)), o2, o3, o4] [] (MSw σ (obMd 0 a.nc a.ac a.cp a.cnt no n2 y.2 false) tr cr tb gd wk) 0 0 := by
          intro y cr tb wk no n2 o2 o3 o4 hS e
          refine z_aload_n dX7_explore_247 rfl ?_
          refine i_iconst dX7_explore_248 rfl ?_
          refine i_putz (b := true) cls6 23 flX7_83 dX7_explore_249 (by decide) rfl rfl (MS_100) (Nat.le_of_ble_eq_true rfl) ?_
          refine z_eqw (MS_s100 (obMd 0 a.nc a.ac a.cp a.cnt no n2 y.2 true)) ?_
          refine z_aload_n dX7_explore_252 rfl ?_
          refine z_getf cls6 19 flX7_70 dX7_explore_253 (by decide) (MS_100) rfl ?_
          refine z_iret dX7_explore_256 rfl (by decide) (by decide) ?_
          rw [hQ]
          refine ⟨⟨_, rfl⟩, fun _ => by rw [e]; rfl, ?_, MS_F2⟩
          rw [if_pos hc0, hc0]
          exact md_s hp0 (some y) 0 (by unfold oExpl; rw [e]) (fun x hx => by cases hx; exact hS)
        intro f
        induction f with
        | zero =>
          intro c y cr tb wk no n2 o3 o4 hf hc hy hG hS e
          refine z_iload_n dX7_explore_162 rfl ?_
          refine z_aload_n dX7_explore_163 rfl ?_
          refine z_getf cls6 19 flX7_70 dX7_explore_164 (by decide) (MS_100) rfl ?_
          refine i_icmp_ge (tgt := 247) dX7_explore_167 (by decide) (by omega) (by omega) (fun h3 => ?_) (fun h3 => ?_)
          · skip
            exact hend y cr tb wk no n2 _ _ _ hS e.symm
          · skip
            omega
        | succ f ih =>
          intro c y cr tb wk no n2 o3 o4 hf hc hy hG hS e
          unfold xR at e
          have HI : c < y.2 → ∀ i : Nat, i ≤ a.cnt → ∀ (z : XS) (cr tb wk : Nat → Nat) (no n2 : Int) (o4 : Option Value), xI a.ac a.M a.E a.B a.cnt limit c i y = some z → SIM a.ac a.cnt z cr tb z.2 → PX7_explore Q NX 172 [some (.ref 100), some (.int (iI limit)), some (.int (iI c)), some (.int (iI i)), o4] [] (MSw σ (obMd 0 a.nc a.ac a.cp a.cnt no n2 z.2 false) tr cr tb gd wk) 0 0 := by
            intro hcy
            rw [if_pos hcy] at e
            refine up_to a.cnt ?_ ?_
            · intro z cr tb wk no n2 o4 ez hS
              obtain ⟨zG, zL, zl, _⟩ := xI_ok hok hG hy hcy a.cnt z (Nat.le_refl _) ez
              rw [ez] at e
              refine z_iload_n dX7_explore_172 rfl ?_
              refine z_aload_n dX7_explore_173 rfl ?_
              refine z_getf cls6 14 flX7_55 dX7_explore_174 (by decide) (MS_100) rfl ?_
              refine i_icmp_ge (tgt := 241) dX7_explore_177 (by decide) (by omega) (by omega) (fun h3 => ?_) (fun h3 => ?_)
              · skip
                refine i_iinc dX7_explore_241 rfl (by decide) ?_
                refine z_goto (tgt := 162) dX7_explore_244 (by decide) ?_
                exact ih (c + 1) z cr tb wk no n2 _ _ (by omega) (by have := zL.1; omega) zl zG hS e
              · skip
                omega
            · intro i hi ihi z cr tb wk no n2 o4 ez hS
              obtain ⟨yG, yL, yl, _⟩ := xI_ok hok hG hy hcy i z (by omega) ez
              have HJ : ∀ j : Nat, j ≤ a.cnt → ∀ (v : XS) (cr tb wk : Nat → Nat) (no n2 : Int), xJ a.ac a.M a.E a.B a.cnt limit c i j z = some v → SIM a.ac a.cnt v cr tb v.2 → PX7_explore Q NX 183 [some (.ref 100), some (.int (iI limit)), some (.int (iI c)), some (.int (iI i)), some (.int (iI j))] [] (MSw σ (obMd 0 a.nc a.ac a.cp a.cnt no n2 v.2 false) tr cr tb gd wk) 0 0 := by
                refine up_to a.cnt ?_ ?_
                · intro v cr tb wk no n2 ev hS
                  refine z_iload dX7_explore_183 rfl ?_
                  refine z_aload_n dX7_explore_185 rfl ?_
                  refine z_getf cls6 14 flX7_55 dX7_explore_186 (by decide) (MS_100) rfl ?_
                  refine i_icmp_ge (tgt := 235) dX7_explore_189 (by decide) (by omega) (by omega) (fun h3 => ?_) (fun h3 => ?_)
                  · skip
                    refine i_iinc dX7_explore_235 rfl (by decide) ?_
                    refine z_goto (tgt := 172) dX7_explore_238 (by decide) ?_
                    exact ihi v cr tb wk no n2 _ ((xI_s ez).trans ev) hS
                  · skip
                    omega
                · intro j hj ihj v cr tb wk no n2 ev hS
                  obtain ⟨vG, vL, vl, _⟩ := xJ_ok hok yG yl (Nat.lt_of_lt_of_le hcy yL.1) hi j v (by omega) ev
                  have hcv : c < v.2 := Nat.lt_of_lt_of_le hcy (yL.trans vL).1
                  have ej := xJ_s ev
                  have H229 : ∀ (v' : XS) (cr tb wk : Nat → Nat) (no n2 : Int), xJ a.ac a.M a.E a.B a.cnt limit c i (j + 1) z = some v' → SIM a.ac a.cnt v' cr tb v'.2 → PX7_explore Q NX 229 [some (.ref 100), some (.int (iI limit)), some (.int (iI c)), some (.int (iI i)), some (.int (iI j))] [] (MSw σ (obMd 0 a.nc a.ac a.cp a.cnt no n2 v'.2 false) tr cr tb gd wk) 0 0 := by
                    intro v' cr tb wk no n2 e1 e2
                    refine i_iinc dX7_explore_229 rfl (by decide) ?_
                    refine z_goto (tgt := 183) dX7_explore_232 (by decide) ?_
                    exact ihj v' cr tb wk no n2 e1 e2
                  refine z_iload dX7_explore_183 rfl ?_
                  refine z_aload_n dX7_explore_185 rfl ?_
                  refine z_getf cls6 14 flX7_55 dX7_explore_186 (by decide) (MS_100) rfl ?_
                  refine i_icmp_ge (tgt := 235) dX7_explore_189 (by decide) (by omega) (by omega) (fun h3 => ?_) (fun h3 => ?_)
                  · skip
                    omega
                  · skip
                    refine z_iload_n dX7_explore_192 rfl ?_
                    refine z_iload dX7_explore_193 rfl ?_
                    refine i_icmp_eq (tgt := 229) dX7_explore_195 (by decide) (by omega) (by omega) (fun h4 => ?_) (fun h4 => ?_)
                    · skip
                      rw [if_neg (fun q => q.1 (by omega))] at ej
                      exact H229 v cr tb wk no n2 ej hS
                    · skip
                      refine z_aload_n dX7_explore_198 rfl ?_
                      refine z_iload_n dX7_explore_199 rfl ?_
                      refine z_iload_n dX7_explore_200 rfl ?_
                      refine z_iload dX7_explore_201 rfl ?_
                      refine z_callVX (m_after k7 hw.2 hac hok (by omega) hS.2.1 hcv hi hj (show i ≠ j by omega) (vG.1 c hcv)) mX7_121 dX7_explore_203 (MS_100) rfl rfl rfl ⟨by decide, by decide⟩ (Nat.le_of_ble_eq_true rfl) ⟨by decide, by decide⟩ (fun _ _ h => h.elim) (fun r u hq => ?_)
                      obtain ⟨wk1, no', n2', rfl, rfl, hag⟩ := hq
                      refine i_ifb_eq (tgt := 229) dX7_explore_206 (by decide) (fun h5 => ?_) (fun h5 => ?_)
                      · skip
                        rw [if_neg (fun q => by rw [h5] at q; cases q.2)] at ej
                        exact H229 v cr tb wk1 no' n2' ej hS
                      · skip
                        rw [if_pos ⟨by omega, h5⟩] at ej
                        have mok := mtg_ok hok (vG.1 c hcv) hi hj
                        have sok := stp_ok hok (vG.1 c hcv) hi hj
                        refine z_aload_n dX7_explore_209 rfl ?_
                        refine z_callVX (m_sort hw hac (fun l hl => (mok l hl).rg hok) hag) mX7_125 dX7_explore_210 (MS_100) rfl rfl rfl ⟨by decide, by decide⟩ (Nat.le_of_ble_eq_true rfl) ⟨by decide, by decide⟩ (fun _ _ h => h.elim) (fun r u hq => ?_)
                        obtain ⟨wk2, rfl, rfl, hag2⟩ := hq
                        refine z_aload_n dX7_explore_213 rfl ?_
                        refine i_iconst dX7_explore_214 rfl ?_
                        refine z_callVX (m_find (add := true) (ag := stp a.ac a.M a.E a.B a.cnt (v.1 c) i j) hw.2 hac (by omega) hS (vG.rr hok) (fun l hl => (sok l hl).rg hok) hag2) mX7_128 dX7_explore_215 (MS_100) rfl rfl rfl ⟨by decide, by decide⟩ (Nat.le_of_ble_eq_true rfl) ⟨by decide, by decide⟩ (fun _ _ h => h.elim) (fun r u hq => ?_)
                        have hres := hq
                        rcases hres with ⟨q, q1, q2, rfl, rfl⟩ | ⟨_, q1, _⟩ | ⟨q1, _, rfl, cr', tb', rfl, hS'⟩
                        · rw [xA_f ⟨q, q1, q2⟩] at ej
                          refine z_pop dX7_explore_218 rfl ?_
                          refine z_aload_n dX7_explore_219 rfl ?_
                          refine z_getf cls6 19 flX7_70 dX7_explore_220 (by decide) (MS_100) rfl ?_
                          refine z_iload_n dX7_explore_223 rfl ?_
                          refine i_icmp_le (tgt := 229) dX7_explore_224 (by decide) (by omega) (by omega) (fun h6 => ?_) (fun h6 => ?_)
                          · skip
                            exact H229 v cr tb wk2 no' n2' ej hS
                          · skip
                            omega
                        · cases q1
                        · skip
                          refine z_pop dX7_explore_218 rfl ?_
                          refine z_aload_n dX7_explore_219 rfl ?_
                          refine z_getf cls6 19 flX7_70 dX7_explore_220 (by decide) (MS_100) rfl ?_
                          refine z_iload_n dX7_explore_223 rfl ?_
                          refine i_icmp_le (tgt := 229) dX7_explore_224 (by decide) (by omega) (by omega) (fun h6 => ?_) (fun h6 => ?_)
                          · skip
                            rw [xA_s q1 (by omega)] at ej
                            exact H229 _ cr' tb' wk2 no' n2' ej hS'
                          · skip
                            rw [xA_n q1 (by omega)] at ej
                            have en := xJ_none (a.cnt - (j + 1)) (j + 1) ej
                            rw [show j + 1 + (a.cnt - (j + 1)) = a.cnt by omega, ← xI_s ez] at en
                            have en := xI_none (a.cnt - (i + 1)) (i + 1) en
                            rw [show i + 1 + (a.cnt - (i + 1)) = a.cnt by omega] at en
                            rw [en] at e
                            refine i_iconst dX7_explore_227 rfl ?_
                            exact z_iret dX7_explore_228 rfl (by decide) (by decide) (hnone e.symm tr cr' tb' wk2 no' n2' _)
              refine z_iload_n dX7_explore_172 rfl ?_
              refine z_aload_n dX7_explore_173 rfl ?_
              refine z_getf cls6 14 flX7_55 dX7_explore_174 (by decide) (MS_100) rfl ?_
              refine i_icmp_ge (tgt := 241) dX7_explore_177 (by decide) (by omega) (by omega) (fun h3 => ?_) (fun h3 => ?_)
              · skip
                omega
              · skip
                refine i_iconst dX7_explore_180 rfl ?_
                refine z_istore dX7_explore_181 (by decide) ?_
                exact HJ 0 (by omega) z cr tb wk no n2 rfl hS
          refine z_iload_n dX7_explore_162 rfl ?_
          refine z_aload_n dX7_explore_163 rfl ?_
          refine z_getf cls6 19 flX7_70 dX7_explore_164 (by decide) (MS_100) rfl ?_
          refine i_icmp_ge (tgt := 247) dX7_explore_167 (by decide) (by omega) (by omega) (fun h3 => ?_) (fun h3 => ?_)
          · skip
            rw [if_neg (by omega)] at e
            exact hend y cr tb wk no n2 _ _ _ hS e.symm
          · skip
            refine i_iconst dX7_explore_170 rfl ?_
            refine z_istore_n dX7_explore_171 (by decide) ?_
            exact HI (by omega) 0 (by omega) y cr tb wk no n2 _ rfl hS
      have HF : ∀ tb : Nat → Nat, (∀ p, p < 8192 → tb p = 0) → ∀ i : Nat, i ≤ a.cnt → ∀ (wk : Nat → Nat) (o3 : Option Value), (∀ l, l < i → wk l = pkM (a.ag l) a.ac) → PX7_explore Q NX 84 [some (.ref 100), some (.int (iI limit)), some (.int (iI i)), o3, none] [] (MSw σ (obMd 0 a.nc a.ac a.cp a.cnt no n2 0 false) tr cr tb gd wk) 0 0 := by
        intro tb htb
        refine up_to a.cnt ?_ ?_
        · intro wk o3 hwk
          refine z_iload_n dX7_explore_84 rfl ?_
          refine z_aload_n dX7_explore_85 rfl ?_
          refine z_getf cls6 14 flX7_55 dX7_explore_86 (by decide) (MS_100) rfl ?_
          refine i_icmp_ge (tgt := 150) dX7_explore_89 (by decide) (by omega) (by omega) (fun h3 => ?_) (fun h3 => ?_)
          · skip
            refine z_aload_n dX7_explore_150 rfl ?_
            refine z_callVX (m_sort hw hac (fun l hl => (hV.oc l hl).rg hok) hwk) mX7_125 dX7_explore_151 (MS_100) rfl rfl rfl ⟨by decide, by decide⟩ (Nat.le_of_ble_eq_true rfl) ⟨by decide, by decide⟩ (fun _ _ h => h.elim) (fun r u hq => ?_)
            obtain ⟨wk2, rfl, rfl, hag2⟩ := hq
            have sok : okC a.ac a.M a.B a.cnt (srt (fun x => pkC x a.ac) a.cnt a.ag) := srt_P (P := okG a.ac a.M a.B) a.cnt _ (Nat.le_refl _) hV.oc
            have hS0 : SIM a.ac a.cnt ((fun _ _ _ => ((false, 0, false) : St), 0) : XS) cr tb 0 := ⟨rfl, fun r hr => absurd hr (Nat.not_lt_zero r), TI_z htb⟩
            refine z_aload_n dX7_explore_154 rfl ?_
            refine i_iconst dX7_explore_155 rfl ?_
            refine z_callVX (m_find (add := true) (ag := srt (fun x => pkC x a.ac) a.cnt a.ag) hw.2 hac (Nat.zero_le _) hS0 (fun r hr => absurd hr (Nat.not_lt_zero r)) (fun l hl => (sok l hl).rg hok) hag2) mX7_128 dX7_explore_156 (MS_100) rfl rfl rfl ⟨by decide, by decide⟩ (Nat.le_of_ble_eq_true rfl) ⟨by decide, by decide⟩ (fun _ _ h => h.elim) (fun r u hq => ?_)
            have hres := hq
            rcases hres with ⟨q, q1, _⟩ | ⟨_, q1, _⟩ | ⟨q1, _, rfl, cr', tb', rfl, hS'⟩
            · exact absurd q1 (Nat.not_lt_zero q)
            · cases q1
            · skip
              refine z_pop dX7_explore_159 rfl ?_
              refine i_iconst dX7_explore_160 rfl ?_
              refine z_istore_n dX7_explore_161 (by decide) ?_
              exact HR limit 0 (va_up (fun _ _ _ => ((false, 0, false) : St)) 0 (srt (fun x => pkC x a.ac) a.cnt a.ag), 1) cr' tb' wk2 no n2 _ _ (by omega) (Nat.zero_le _) (by omega) (x0_ok hV.oc) hS' rfl
          · skip
            omega
        · intro i hi ih wk o3 hwk
          have hri := (hV.oc i hi).rg hok
          have HA : ∀ b : Nat, b ≤ a.ac → ∀ wk : Nat → Nat, (∀ l, l < i → wk l = pkM (a.ag l) a.ac) → wk i = pkM (a.ag i) b → PX7_explore Q NX 101 [some (.ref 100), some (.int (iI limit)), some (.int (iI i)), some (.int (iI b)), none] [] (MSw σ (obMd 0 a.nc a.ac a.cp a.cnt no n2 0 false) tr cr tb gd wk) 0 0 := by
            refine up_to a.ac ?_ ?_
            · intro wk hwk hwi
              refine z_iload_n dX7_explore_101 rfl ?_
              refine z_aload_n dX7_explore_102 rfl ?_
              refine z_getf cls6 7 flX7_33 dX7_explore_103 (by decide) (MS_100) rfl ?_
              refine i_icmp_ge (tgt := 144) dX7_explore_106 (by decide) (by omega) (by omega) (fun h3 => ?_) (fun h3 => ?_)
              · skip
                refine i_iinc dX7_explore_144 rfl (by decide) ?_
                refine z_goto (tgt := 84) dX7_explore_147 (by decide) ?_
                refine ih wk _ (fun l hl => ?_)
                by_cases q : l = i
                · rw [q]; exact hwi
                · exact hwk l (by omega)
              · skip
                omega
            · intro b hb ihb wk hwk hwi
              have lb := mdN_lt (hri b hb)
              refine z_iload_n dX7_explore_101 rfl ?_
              refine z_aload_n dX7_explore_102 rfl ?_
              refine z_getf cls6 7 flX7_33 dX7_explore_103 (by decide) (MS_100) rfl ?_
              refine i_icmp_ge (tgt := 144) dX7_explore_106 (by decide) (by omega) (by omega) (fun h3 => ?_) (fun h3 => ?_)
              · skip
                omega
              · skip
                refine z_aload_n dX7_explore_109 rfl ?_
                refine z_getf cls6 24 flX7_86 dX7_explore_110 (by decide) (MS_100) rfl ?_
                refine z_iload_n dX7_explore_113 rfl ?_
                refine z_aload_n dX7_explore_114 rfl ?_
                refine z_getf cls6 24 flX7_86 dX7_explore_115 (by decide) (MS_100) rfl ?_
                refine z_iload_n dX7_explore_118 rfl ?_
                refine i_lald dX7_explore_119 (MS_116) i (by omega) (by omega) ?_
                refine z_aload_n dX7_explore_120 rfl ?_
                refine z_getf cls6 15 flX7_58 dX7_explore_121 (by decide) (MS_100) rfl ?_
                refine i_iconst dX7_explore_124 rfl ?_
                refine z_iload_n dX7_explore_125 rfl ?_
                refine i_imul dX7_explore_126 ?_
                refine z_iload_n dX7_explore_127 rfl ?_
                refine i_iadd dX7_explore_128 ?_
                refine i_iald dX7_explore_129 ((MS_x (by omega)).trans k11) (5 * i + b) (by omega) (by omega) ?_
                rw [hwi, g2 i hi b hb]
                refine z_i2lx dX7_explore_130 ?_
                refine i_bipush dX7_explore_131 (by decide) ?_
                refine z_iload_n dX7_explore_133 rfl ?_
                refine i_imul dX7_explore_134 ?_
                rw [Int.mul_comm]
                refine z_lshlx dX7_explore_135 ?_
                refine z_eql _ (atA (show mdN (a.ag i b) < 256 by omega) (show b < 5 by omega)) ?_
                refine z_lor dX7_explore_136 ?_
                refine z_eql _ (lor_dg (show b < 5 by omega) (dg_lt b (fun c hc => Nat.lt_of_lt_of_le (mdN_lt (hri c (by omega))) (by decide))) (show mdN (a.ag i b) < 256 by omega)) ?_
                refine i_last dX7_explore_137 (MS_116) i (by omega) (by omega) ?_
                rw [MS_s116]
                refine i_iinc dX7_explore_138 rfl (by decide) ?_
                refine z_goto (tgt := 101) dX7_explore_141 (by decide) ?_
                refine ihb _ (fun l hl => ?_) ?_
                · rw [va_up_ne _ _ (by omega)]; exact hwk l hl
                · rw [va_up_self]; rfl
          refine z_iload_n dX7_explore_84 rfl ?_
          refine z_aload_n dX7_explore_85 rfl ?_
          refine z_getf cls6 14 flX7_55 dX7_explore_86 (by decide) (MS_100) rfl ?_
          refine i_icmp_ge (tgt := 150) dX7_explore_89 (by decide) (by omega) (by omega) (fun h3 => ?_) (fun h3 => ?_)
          · skip
            omega
          · skip
            refine z_aload_n dX7_explore_92 rfl ?_
            refine z_getf cls6 24 flX7_86 dX7_explore_93 (by decide) (MS_100) rfl ?_
            refine z_iload_n dX7_explore_96 rfl ?_
            refine z_lconst (v := lN 0) dX7_explore_97 rfl ?_
            refine i_last dX7_explore_98 (MS_116) i (by omega) (by omega) ?_
            rw [MS_s116]
            refine i_iconst dX7_explore_99 rfl ?_
            refine z_istore_n dX7_explore_100 (by decide) ?_
            exact HA 0 (by omega) _ (fun l hl => by rw [va_up_ne _ _ (by omega)]; exact hwk l hl) (va_up_self _ _ _)
      have HP : ∀ k : Nat, k ≤ 8192 → ∀ tb : Nat → Nat, (∀ p, p < k → tb p = 0) → PX7_explore Q NX 52 [some (.ref 100), some (.int (iI limit)), some (.int (iI k)), none, none] [] (MSw σ (obMd 0 a.nc a.ac a.cp a.cnt no n2 crs a.ex.isSome) tr cr tb gd wk) 0 0 := by
        refine up_to 8192 ?_ ?_
        · intro tb htb
          refine z_iload_n dX7_explore_52 rfl ?_
          refine i_sipush dX7_explore_53 (by decide) ?_
          refine i_icmp_ge (tgt := 72) dX7_explore_56 (by decide) (by omega) (by omega) (fun h3 => ?_) (fun h3 => ?_)
          · skip
            refine z_aload_n dX7_explore_72 rfl ?_
            refine i_iconst dX7_explore_73 rfl ?_
            refine i_puti cls6 19 flX7_70 dX7_explore_74 (by decide) rfl rfl (MS_100) (Nat.le_of_ble_eq_true rfl) ?_
            refine z_eqw (MS_s100 (obMd 0 a.nc a.ac a.cp a.cnt no n2 0 a.ex.isSome)) ?_
            refine z_aload_n dX7_explore_77 rfl ?_
            refine i_iconst dX7_explore_78 rfl ?_
            refine i_putz (b := false) cls6 23 flX7_83 dX7_explore_79 (by decide) rfl rfl (MS_100) (Nat.le_of_ble_eq_true rfl) ?_
            refine z_eqw (MS_s100 (obMd 0 a.nc a.ac a.cp a.cnt no n2 0 false)) ?_
            refine i_iconst dX7_explore_82 rfl ?_
            refine z_istore_n dX7_explore_83 (by decide) ?_
            exact HF tb htb 0 (by omega) wk _ (fun l hl => absurd hl (Nat.not_lt_zero l))
          · skip
            omega
        · intro k hk ih tb htb
          refine z_iload_n dX7_explore_52 rfl ?_
          refine i_sipush dX7_explore_53 (by decide) ?_
          refine i_icmp_ge (tgt := 72) dX7_explore_56 (by decide) (by omega) (by omega) (fun h3 => ?_) (fun h3 => ?_)
          · skip
            omega
          · skip
            refine z_aload_n dX7_explore_59 rfl ?_
            refine z_getf cls6 21 flX7_77 dX7_explore_60 (by decide) (MS_100) rfl ?_
            refine z_iload_n dX7_explore_63 rfl ?_
            refine i_iconst dX7_explore_64 rfl ?_
            refine i_iast dX7_explore_65 (MS_114) k (by omega) (by omega) ?_
            rw [pl_0, MS_s114]
            refine i_iinc dX7_explore_66 rfl (by decide) ?_
            refine z_goto (tgt := 52) dX7_explore_69 (by decide) ?_
            refine ih _ (fun p hp => ?_)
            by_cases q : p = k
            · rw [q, va_up_self]
            · rw [va_up_ne _ _ q]; exact htb p (by omega)
      refine i_iconst dX7_explore_50 rfl ?_
      refine z_istore_n dX7_explore_51 (by decide) ?_
      refine z_eqw (u := MSw σ (obMd 0 a.nc a.ac a.cp a.cnt no n2 crs a.ex.isSome) tr cr tb gd wk) (by unfold MSw; rw [up_id k16, up_id k15, up_id k14, up_id k13, up_id k5]; rfl) ?_
      exact HP 0 (by omega) tb (fun p hp => absurd hp (Nat.not_lt_zero p))
    · skip
      refine i_iconst dX7_explore_48 rfl ?_
      refine z_iret dX7_explore_49 rfl (by decide) (by decide) ?_
      rw [hQ]
      refine ⟨⟨0, rfl⟩, fun z => by omega, ?_, F2.rfl.up _ (by omega)⟩
      rw [if_neg (by omega), ← hd]
      exact ⟨tr, cfM, th, agf, no, n2, crs, cr, tb, gd, wk, md_t hp0 _⟩
  have H13 : ¬ (1 ≤ limit ∧ limit ≤ 3000) → PX7_explore Q NX 13 [some (.ref 100), some (.int (iI limit)), none, none, none] [.ref 100] σ 0 0 := by
    intro hb
    refine i_iconst dX7_explore_13 rfl ?_
    refine z_goto (tgt := 38) dX7_explore_14 (by decide) ?_
    exact H38 1 (if_neg hb).symm (by decide)
  refine z_aload_n dX7_explore_0 rfl ?_
  refine z_iload_n dX7_explore_1 rfl ?_
  refine i_iconst dX7_explore_2 rfl ?_
  refine i_icmp_lt (tgt := 13) dX7_explore_3 (by decide) (by omega) (by omega) (fun h1 => ?_) (fun h1 => ?_)
  · skip
    exact H13 (by omega)
  · skip
    refine z_iload_n dX7_explore_6 rfl ?_
    refine i_sipush dX7_explore_7 (by decide) ?_
    refine i_icmp_le (tgt := 17) dX7_explore_10 (by decide) (by omega) (by omega) (fun h2 => ?_) (fun h2 => ?_)
    · skip
      have hg : 1 ≤ limit ∧ limit ≤ 3000 := by omega
      have H33 : ¬ (1 ≤ a.cnt ∧ a.cnt ≤ 6) → PX7_explore Q NX 33 [some (.ref 100), some (.int (iI limit)), none, none, none] [.ref 100] σ 0 0 := by
        intro hb
        refine i_iconst dX7_explore_33 rfl ?_
        refine z_goto (tgt := 38) dX7_explore_34 (by decide) ?_
        exact H38 2 (by unfold cdExpl; rw [if_pos hg, if_neg hb]) (by decide)
      refine z_aload_n dX7_explore_17 rfl ?_
      refine z_getf cls6 14 flX7_55 dX7_explore_18 (by decide) (by first | exact h100 | rfl) rfl ?_
      refine i_if_eq (tgt := 33) dX7_explore_21 (by decide) (by omega) (fun h3 => ?_) (fun h3 => ?_)
      · skip
        exact H33 (by omega)
      · skip
        refine z_aload_n dX7_explore_24 rfl ?_
        refine z_getf cls6 14 flX7_55 dX7_explore_25 (by decide) (by first | exact h100 | rfl) rfl ?_
        refine i_bipush dX7_explore_28 (by decide) ?_
        refine i_icmp_le (tgt := 37) dX7_explore_30 (by decide) (by omega) (by omega) (fun h4 => ?_) (fun h4 => ?_)
        · skip
          refine i_iconst dX7_explore_37 rfl ?_
          exact H38 0 (by unfold cdExpl; rw [if_pos hg, if_pos (by omega)]) (by decide)
        · skip
          exact H33 (by omega)
    · skip
      exact H13 (by omega)
end MODF

