theorem hs_m (x : Int64) : ((x.toUInt64 >>> ((iI 20).toInt64.toUInt64 &&& Int64.toUInt64 63)).toInt64).toInt32 &&& iI 8191 = iI ((uN x / 2 ^ 20 % 8192 : Nat) : Int) := by
  have h := uN_sk x (k := 20) (by decide)
  have h2 : (x.toUInt64 >>> ((nI 20).toInt64.toUInt64 &&& Int64.toUInt64 63)).toInt64 = lN (uN x / 2 ^ 20) := uN_inj (by
    rw [h]
    show _ = (lN (uN x / 2 ^ 20)).toBitVec.toNat
    rw [lN_nat (by have := uN_lt x; omega)])
  rw [show iI 20 = nI 20 from rfl, h2, lN_i, iI_nat, show iI 8191 = nI 8191 from rfl, nx_and]
  congr 1
  exact Nat.and_two_pow_sub_one_eq_mod _ 13
theorem at_s (p : Nat) : iI ((p : Int) + 1) &&& iI 8191 = iI (((p + 1) % 8192 : Nat) : Int) := by
  rw [show ((p : Int) + 1) = ((p + 1 : Nat) : Int) by omega, show (8191 : Int) = ((8191 : Nat) : Int) from rfl, iand_n]
  congr 2
  exact Nat.and_two_pow_sub_one_eq_mod _ 13
theorem mxM_congr {g h : Nat → Nat} : ∀ k, (∀ i, i < k → g i = h i) → mxM g k = mxM h k
  | 0, _ => rfl
  | k + 1, e => by
    unfold mxM
    rw [mxM_congr k (fun i hi => e i (by omega)), e k (by omega)]
theorem hsM_lt (ac w : Nat) (f : Nat → Nat → St) : hsM ac w f < 8192 := Nat.mod_lt _ (by decide)
theorem hsM_eq {ac w : Nat} {f g : Nat → Nat → St} (h : eqR ac w f g) : hsM ac w f = hsM ac w g := by
  unfold hsM
  rw [mxM_congr (g := fun k => pkM (f k) ac) (h := fun k => pkM (g k) ac) w (fun i hi => dg_congr ac (fun a ha => by show mdN (f i a) = mdN (g i a); rw [h i hi a ha]))]
theorem SIM.add {ac w d : Nat} {x : XS} {cr cr' wk tb : Nat → Nat} {ag : Nat → Nat → St} {crs : Nat} (h : SIM ac w x cr tb crs) (hd : d < 8192) (hp : PB tb (hsM ac w ag) (fun r => eqR ac w (x.1 r) ag) d) (hz : tb ((hsM ac w ag + d) % 8192) = 0) (hag : AGM ac w wk ag) (r1 : ∀ q, q < 6 * x.2 → cr' q = cr q) (r2 : ∀ i, i < w → cr' (6 * x.2 + i) = wk i) (hw : w ≤ 6) : SIM ac w (va_up x.1 x.2 ag, x.2 + 1) cr' (va_up tb ((hsM ac w ag + d) % 8192) (x.2 + 1)) (x.2 + 1) := by
  refine ⟨rfl, fun r hr k hk => ?_, ?_⟩
  · have hr : r < x.2 + 1 := hr
    show cr' (6 * r + k) = pkM (va_up x.1 x.2 ag r k) ac
    by_cases z : r = x.2
    · rw [z, va_up_self, r2 k hk]; exact hag k hk
    · rw [va_up_ne _ _ z, r1 _ (by omega)]; exact h.2.1 r (by omega) k hk
  · refine TI.add h.2.2 hd hp hz (fun r hr => ?_) ?_
    · show hsM ac w (va_up x.1 x.2 ag r) = _
      rw [va_up_ne _ _ (by omega)]
    · show hsM ac w (va_up x.1 x.2 ag x.2) = _
      rw [va_up_self]
section MODD
variable {σ : Wd} {t : Int} {nc ac : Nat} {cp : Bool} {w : Nat} {no n2 : Int} {crs : Nat} {ex : Bool} {M E B op lf rt : Nat → Int} {CF : Nat → Nat → Int} {tr : Nat → Bool} {cr tb : Nat → Nat} {gd : Nat → Bool} {wk : Nat → Nat}
theorem m_find {x : XS} {ag : Nat → Nat → St} {add : Bool} (hw : w ≤ 6) (hac : ac ≤ 5) (hx : x.2 ≤ 3000) (hS : SIM ac w x cr tb crs) (hrr : ∀ r, r < x.2 → ∀ i, i < w → ∀ a, a < ac → rg (x.1 r i a)) (hr : ∀ i, i < w → ∀ a, a < ac → rg (ag i a)) (hag : AGM ac w wk ag) :
    KX7_find [.ref 100, .int (iI (bI add))] (MSw σ (obMd t nc ac cp w no n2 crs ex) tr cr tb gd wk) (fun r u => (∃ q, q < x.2 ∧ eqR ac w (x.1 q) ag ∧ r = some (.int (iI q)) ∧ u = MSw σ (obMd t nc ac cp w no n2 crs ex) tr cr tb gd wk) ∨ (¬ Inn ac w x ag ∧ add = false ∧ r = some (.int (iI (-1))) ∧ u = MSw σ (obMd t nc ac cp w no n2 crs ex) tr cr tb gd wk) ∨ (¬ Inn ac w x ag ∧ add = true ∧ r = some (.int (iI (x.2 : Nat))) ∧ ∃ cr' tb', u = MSw σ (obMd t nc ac cp w no n2 (x.2 + 1) ex) tr cr' tb' gd wk ∧ SIM ac w (va_up x.1 x.2 ag, x.2 + 1) cr' tb' (x.2 + 1))) NX := by
  refine Ct.intro (by decide) (Nat.le_of_ble_eq_true rfl) ?_
  have hcrs : crs = x.2 := hS.1
  subst hcrs
  obtain ⟨hh, hhh⟩ : ∃ hh, hh = hsM ac w ag := ⟨_, rfl⟩
  have hhl : hh < 8192 := by rw [hhh]; exact hsM_lt _ _ _
  obtain ⟨Q, hQ⟩ : ∃ Q : Option Value → Wd → Prop, Q = fun r u => (∃ q, q < x.2 ∧ eqR ac w (x.1 q) ag ∧ r = some (.int (iI q)) ∧ u = MSw σ (obMd t nc ac cp w no n2 x.2 ex) tr cr tb gd wk) ∨ (¬ Inn ac w x ag ∧ add = false ∧ r = some (.int (iI (-1))) ∧ u = MSw σ (obMd t nc ac cp w no n2 x.2 ex) tr cr tb gd wk) ∨ (¬ Inn ac w x ag ∧ add = true ∧ r = some (.int (iI (x.2 : Nat))) ∧ ∃ cr' tb', u = MSw σ (obMd t nc ac cp w no n2 (x.2 + 1) ex) tr cr' tb' gd wk ∧ SIM ac w (va_up x.1 x.2 ag, x.2 + 1) cr' tb' (x.2 + 1)) := ⟨_, rfl⟩
  rw [← hQ]
  have H3 : ∀ (m d : Nat), d + m = 8192 → PB tb hh (fun r => eqR ac w (x.1 r) ag) d → ∀ (h0 : Int64) (o5 o6 o7 : Option Value), PX7_find Q NX 52 [some (.ref 100), some (.int (iI (bI add))), some (.long h0), none, some (.int (iI (((hh + d) % 8192 : Nat) : Int))), o5, o6, o7] [] (MSw σ (obMd t nc ac cp w no n2 x.2 ex) tr cr tb gd wk) 0 0 := by
    intro m
    induction m with
    | zero =>
      intro d hd hp
      have := PB.lt hS.2.2 (by omega) hhl hp
      omega
    | succ m ih =>
      intro d hd hp h0 o5 o6 o7
      have hP : (hh + d) % 8192 < 8192 := Nat.mod_lt _ (by decide)
      have ht1 := hS.2.2.1 _ hP
      refine z_aload_n dX7_find_52 rfl ?_
      refine z_getf cls6 21 flX7_77 dX7_find_53 (by decide) (MS_100) rfl ?_
      refine z_iload dX7_find_56 rfl ?_
      refine i_iald dX7_find_58 (MS_114) ((hh + d) % 8192) (by omega) (by omega) ?_
      refine i_if_le (tgt := 142) dX7_find_59 (by decide) (by omega) (fun h1 => ?_) (fun h1 => ?_)
      · skip
        have hz : tb ((hh + d) % 8192) = 0 := by omega
        have hni : ¬ Inn ac w x ag := fun ⟨r, r1, r2⟩ => PB.none hS.2.2 hp hz (fun r _ q => (hsM_eq q).trans hhh.symm) r r1 r2
        refine z_iload_n dX7_find_142 rfl ?_
        refine i_ifb_ne (tgt := 148) dX7_find_143 (by decide) (fun h2 => ?_) (fun h2 => ?_)
        · skip
          have HK : ∀ k : Nat, k ≤ w → ∀ (cr' : Nat → Nat), (∀ q, q < 6 * x.2 → cr' q = cr q) → (∀ i, i < k → cr' (6 * x.2 + i) = wk i) → PX7_find Q NX 151 [some (.ref 100), some (.int (iI (bI add))), some (.long h0), none, some (.int (iI (((hh + d) % 8192 : Nat) : Int))), some (.int (iI k)), o6, o7] [] (MSw σ (obMd t nc ac cp w no n2 x.2 ex) tr cr' tb gd wk) 0 0 := by
            refine up_to w ?_ ?_
            · intro cr' z1 z2
              refine z_iload dX7_find_151 rfl ?_
              refine z_aload_n dX7_find_153 rfl ?_
              refine z_getf cls6 14 flX7_55 dX7_find_154 (by decide) (MS_100) rfl ?_
              refine i_icmp_ge (tgt := 188) dX7_find_157 (by decide) (by omega) (by omega) (fun h3 => ?_) (fun h3 => ?_)
              · skip
                refine z_aload_n dX7_find_188 rfl ?_
                refine z_dup dX7_find_189 rfl ?_
                refine z_getf cls6 19 flX7_70 dX7_find_190 (by decide) (MS_100) rfl ?_
                refine i_iconst dX7_find_193 rfl ?_
                refine i_iadd dX7_find_194 ?_
                refine i_puti cls6 19 flX7_70 dX7_find_195 (by decide) rfl rfl (MS_100) (Nat.le_of_ble_eq_true rfl) ?_
                rw [show ((x.2 : Nat) : Int) + 1 = ((x.2 + 1 : Nat) : Int) by omega]
                refine z_eqw (MS_s100 (obMd t nc ac cp w no n2 (x.2 + 1) ex)) ?_
                refine z_aload_n dX7_find_198 rfl ?_
                refine z_getf cls6 21 flX7_77 dX7_find_199 (by decide) (MS_100) rfl ?_
                refine z_iload dX7_find_202 rfl ?_
                refine z_aload_n dX7_find_204 rfl ?_
                refine z_getf cls6 19 flX7_70 dX7_find_205 (by decide) (MS_100) rfl ?_
                refine i_iast dX7_find_208 (MS_114) ((hh + d) % 8192) (by omega) (by omega) ?_
                refine z_eqw (u := MSw σ (obMd t nc ac cp w no n2 (x.2 + 1) ex) tr cr' (va_up tb ((hh + d) % 8192) (x.2 + 1)) gd wk) (by
                  rw [← MS_s114 (va_up tb ((hh + d) % 8192) (x.2 + 1))]
                  congr 3
                  funext p
                  by_cases q : p = (hh + d) % 8192
                  · rw [q, va_up_self, va_up_self]
                  · rw [va_up_ne _ _ q, va_up_ne _ _ q]) ?_
                refine z_aload_n dX7_find_209 rfl ?_
                refine z_getf cls6 19 flX7_70 dX7_find_210 (by decide) (MS_100) rfl ?_
                refine i_iconst dX7_find_213 rfl ?_
                refine i_isub dX7_find_214 ?_
                rw [show ((x.2 + 1 : Nat) : Int) - 1 = ((x.2 : Nat) : Int) by omega]
                refine z_iret dX7_find_215 rfl (by decide) (by decide) ?_
                rw [hQ]
                refine Or.inr (Or.inr ⟨hni, h2, rfl, cr', _, rfl, ?_⟩)
                rw [hhh] at hp hz ⊢
                exact hS.add (by omega) hp hz hag z1 z2 hw
              · skip
                omega
            · intro k hk ihk cr' z1 z2
              refine z_iload dX7_find_151 rfl ?_
              refine z_aload_n dX7_find_153 rfl ?_
              refine z_getf cls6 14 flX7_55 dX7_find_154 (by decide) (MS_100) rfl ?_
              refine i_icmp_ge (tgt := 188) dX7_find_157 (by decide) (by omega) (by omega) (fun h3 => ?_) (fun h3 => ?_)
              · skip
                omega
              · skip
                refine z_aload_n dX7_find_160 rfl ?_
                refine z_getf cls6 20 flX7_73 dX7_find_161 (by decide) (MS_100) rfl ?_
                refine i_bipush dX7_find_164 (by decide) ?_
                refine z_aload_n dX7_find_166 rfl ?_
                refine z_getf cls6 19 flX7_70 dX7_find_167 (by decide) (MS_100) rfl ?_
                refine i_imul dX7_find_170 ?_
                refine z_iload dX7_find_171 rfl ?_
                refine i_iadd dX7_find_173 ?_
                refine z_aload_n dX7_find_174 rfl ?_
                refine z_getf cls6 24 flX7_86 dX7_find_175 (by decide) (MS_100) rfl ?_
                refine z_iload dX7_find_178 rfl ?_
                refine i_lald dX7_find_180 (MS_116) k (by omega) (by omega) ?_
                refine i_last dX7_find_181 (MS_113) (6 * x.2 + k) (by omega) (by omega) ?_
                rw [MS_s113]
                refine i_iinc dX7_find_182 rfl (by decide) ?_
                refine z_goto (tgt := 151) dX7_find_185 (by decide) ?_
                refine ihk _ (fun q hq => ?_) (fun i hi => ?_)
                · rw [va_up_ne _ _ (by omega)]; exact z1 q hq
                · by_cases q : i = k
                  · rw [q, va_up_self]
                  · rw [va_up_ne _ _ (by omega)]; exact z2 i (by omega)
          refine i_iconst dX7_find_148 rfl ?_
          refine z_istore dX7_find_149 (by decide) ?_
          exact HK 0 (by omega) cr (fun _ _ => rfl) (fun i hi => absurd hi (Nat.not_lt_zero i))
        · skip
          refine i_iconst dX7_find_146 rfl ?_
          refine z_iret dX7_find_147 rfl (by decide) (by decide) ?_
          rw [hQ]
          exact Or.inr (Or.inl ⟨hni, h2, rfl, rfl⟩)
      · skip
        obtain ⟨c, hc⟩ : ∃ c : Nat, tb ((hh + d) % 8192) = c + 1 := ⟨tb ((hh + d) % 8192) - 1, by omega⟩
        have hcx : c < x.2 := by omega
        refine z_aload_n dX7_find_62 rfl ?_
        refine z_getf cls6 21 flX7_77 dX7_find_63 (by decide) (MS_100) rfl ?_
        refine z_iload dX7_find_66 rfl ?_
        refine i_iald dX7_find_68 (MS_114) ((hh + d) % 8192) (by omega) (by omega) ?_
        refine i_iconst dX7_find_69 rfl ?_
        refine i_isub dX7_find_70 ?_
        rw [show ((tb ((hh + d) % 8192) : Nat) : Int) - 1 = (c : Int) by omega]
        refine z_istore dX7_find_71 (by decide) ?_
        refine i_iconst dX7_find_73 rfl ?_
        refine z_istore dX7_find_74 (by decide) ?_
        refine i_iconst dX7_find_76 rfl ?_
        refine z_istore dX7_find_77 (by decide) ?_
        have HC : ∀ k : Nat, k ≤ w → ∀ sm : Bool, (sm = true ↔ ∀ i, i < k → ∀ a, a < ac → x.1 c i a = ag i a) → PX7_find Q NX 79 [some (.ref 100), some (.int (iI (bI add))), some (.long h0), none, some (.int (iI (((hh + d) % 8192 : Nat) : Int))), some (.int (iI c)), some (.int (iI (bI sm))), some (.int (iI k))] [] (MSw σ (obMd t nc ac cp w no n2 x.2 ex) tr cr tb gd wk) 0 0 := by
          refine up_to w ?_ ?_
          · intro sm hsm
            refine z_iload dX7_find_79 rfl ?_
            refine z_aload_n dX7_find_81 rfl ?_
            refine z_getf cls6 14 flX7_55 dX7_find_82 (by decide) (MS_100) rfl ?_
            refine i_icmp_ge (tgt := 121) dX7_find_85 (by decide) (by omega) (by omega) (fun h3 => ?_) (fun h3 => ?_)
            · skip
              refine z_iload dX7_find_121 rfl ?_
              refine i_ifb_eq (tgt := 129) dX7_find_123 (by decide) (fun h4 => ?_) (fun h4 => ?_)
              · skip
                refine z_iload dX7_find_129 rfl ?_
                refine i_iconst dX7_find_131 rfl ?_
                refine i_iadd dX7_find_132 ?_
                refine i_sipush dX7_find_133 (by decide) ?_
                refine z_iand dX7_find_136 ?_
                refine z_eqi _ (at_s _) ?_
                refine z_istore dX7_find_137 (by decide) ?_
                refine z_goto (tgt := 52) dX7_find_139 (by decide) ?_
                have hne : ¬ eqR ac w (x.1 (tb ((hh + d) % 8192) - 1)) ag := fun z => by
                  rw [hc, Nat.add_sub_cancel] at z
                  rw [hsm.mpr z] at h4; cases h4
                have ihh := ih (d + 1) (by omega) (hp.s (by omega) hne) h0 (some (.int (iI c))) (some (.int (iI (bI sm)))) (some (.int (iI w)))
                rw [show (hh + (d + 1)) % 8192 = ((hh + d) % 8192 + 1) % 8192 by omega] at ihh
                exact ihh
              · skip
                refine z_iload dX7_find_126 rfl ?_
                refine z_iret dX7_find_128 rfl (by decide) (by decide) ?_
                rw [hQ]
                exact Or.inl ⟨c, hcx, hsm.mp h4, rfl, rfl⟩
            · skip
              omega
          · intro k hk ihk sm hsm
            refine z_iload dX7_find_79 rfl ?_
            refine z_aload_n dX7_find_81 rfl ?_
            refine z_getf cls6 14 flX7_55 dX7_find_82 (by decide) (MS_100) rfl ?_
            refine i_icmp_ge (tgt := 121) dX7_find_85 (by decide) (by omega) (by omega) (fun h3 => ?_) (fun h3 => ?_)
            · skip
              omega
            · skip
              refine z_aload_n dX7_find_88 rfl ?_
              refine z_getf cls6 20 flX7_73 dX7_find_89 (by decide) (MS_100) rfl ?_
              refine i_bipush dX7_find_92 (by decide) ?_
              refine z_iload dX7_find_94 rfl ?_
              refine i_imul dX7_find_96 ?_
              refine z_iload dX7_find_97 rfl ?_
              refine i_iadd dX7_find_99 ?_
              refine i_lald dX7_find_100 (MS_113) (6 * c + k) (by omega) (by omega) ?_
              refine z_aload_n dX7_find_101 rfl ?_
              refine z_getf cls6 24 flX7_86 dX7_find_102 (by decide) (MS_100) rfl ?_
              refine z_iload dX7_find_105 rfl ?_
              refine i_lald dX7_find_107 (MS_116) k (by omega) (by omega) ?_
              refine z_lcmp dX7_find_108 ?_
              rw [hS.2.1 c hcx k hk, hag k hk]
              have l1 := lt63 (pkM_lt hac (hrr c hcx k hk))
              have l2 := lt63 (pkM_lt hac (hr k hk))
              refine z_if_eq (tgt := 115) dX7_find_109 (by decide) (fun h4 => ?_) (fun h4 => ?_)
              · skip
                rw [lgc l1 l2, pkM_inj (hrr c hcx k hk) (hr k hk)] at h4
                refine i_iinc dX7_find_115 rfl (by decide) ?_
                refine z_goto (tgt := 79) dX7_find_118 (by decide) ?_
                refine ihk sm ⟨fun z i hi => ?_, fun z => hsm.mpr (fun i hi => z i (by omega))⟩
                by_cases q : i = k
                · rw [q]; exact h4
                · exact hsm.mp z i (by omega)
              · skip
                rw [lgc l1 l2, pkM_inj (hrr c hcx k hk) (hr k hk)] at h4
                refine i_iconst dX7_find_112 rfl ?_
                refine z_istore dX7_find_113 (by decide) ?_
                refine i_iinc dX7_find_115 rfl (by decide) ?_
                refine z_goto (tgt := 79) dX7_find_118 (by decide) ?_
                exact ihk false ⟨fun z => Bool.noConfusion z, fun z => absurd (z k (by omega)) h4⟩
        exact HC 0 (by omega) true ⟨fun _ i hi => absurd hi (Nat.not_lt_zero i), fun _ => rfl⟩
  have H1 : ∀ k : Nat, k ≤ w → PX7_find Q NX 7 [some (.ref 100), some (.int (iI (bI add))), some (.long (mxM wk k)), none, some (.int (iI k)), none, none, none] [] (MSw σ (obMd t nc ac cp w no n2 x.2 ex) tr cr tb gd wk) 0 0 := by
    refine up_to w ?_ ?_
    · skip
      refine z_iload dX7_find_7 rfl ?_
      refine z_aload_n dX7_find_9 rfl ?_
      refine z_getf cls6 14 flX7_55 dX7_find_10 (by decide) (MS_100) rfl ?_
      refine i_icmp_ge (tgt := 41) dX7_find_13 (by decide) (by omega) (by omega) (fun h1 => ?_) (fun h1 => ?_)
      · skip
        refine z_lload_n dX7_find_41 rfl ?_
        refine i_bipush dX7_find_42 (by decide) ?_
        refine z_lushrx dX7_find_44 ?_
        refine z_l2ix dX7_find_45 ?_
        refine i_sipush dX7_find_46 (by decide) ?_
        refine z_iand dX7_find_49 ?_
        refine z_eqi _ (hs_m _) ?_
        rw [show uN (mxM wk w) / 2 ^ 20 % 8192 = (hh + 0) % 8192 by rw [Nat.add_zero, Nat.mod_eq_of_lt hhl, hhh]; unfold hsM; rw [mxM_congr w (fun i hi => hag i hi)]]
        refine z_istore dX7_find_50 (by decide) ?_
        exact H3 8192 0 rfl (fun e he => absurd he (Nat.not_lt_zero e)) _ none none none
      · skip
        omega
    · intro k hk ih
      refine z_iload dX7_find_7 rfl ?_
      refine z_aload_n dX7_find_9 rfl ?_
      refine z_getf cls6 14 flX7_55 dX7_find_10 (by decide) (MS_100) rfl ?_
      refine i_icmp_ge (tgt := 41) dX7_find_13 (by decide) (by omega) (by omega) (fun h1 => ?_) (fun h1 => ?_)
      · skip
        omega
      · skip
        refine z_lload_n dX7_find_16 rfl ?_
        refine z_ldc2 dX7_find_17 ctX7_119 ?_
        refine z_lmul dX7_find_20 ?_
        refine z_aload_n dX7_find_21 rfl ?_
        refine z_getf cls6 24 flX7_86 dX7_find_22 (by decide) (MS_100) rfl ?_
        refine z_iload dX7_find_25 rfl ?_
        refine i_lald dX7_find_27 (MS_116) k (by omega) (by omega) ?_
        refine z_ladd dX7_find_28 ?_
        refine z_lload_n dX7_find_29 rfl ?_
        refine i_bipush dX7_find_30 (by decide) ?_
        refine z_lushrx dX7_find_32 ?_
        refine z_ladd dX7_find_33 ?_
        refine z_lstore_n dX7_find_34 (by decide) ?_
        refine i_iinc dX7_find_35 rfl (by decide) ?_
        refine z_goto (tgt := 7) dX7_find_38 (by decide) ?_
        exact ih
  refine z_ldc2 dX7_find_0 ctX7_117 ?_
  refine z_lstore_n dX7_find_3 (by decide) ?_
  refine i_iconst dX7_find_4 rfl ?_
  refine z_istore dX7_find_5 (by decide) ?_
  exact H1 0 (by omega)
theorem m_silentCrowd {x : XS} {c : Nat} (hC : MC σ M E B) (hw : w ≤ 6) (hac : ac ≤ 5) (hok : okAs ac M E B CF) (hx : x.2 ≤ 3001) (hxr : RWM ac w x cr) (hc : c < x.2) (hko : okC ac M B w (x.1 c)) :
    KX7_silentCrowd [.ref 100, .int (iI c)] (MSw σ (obMd t nc ac cp w no n2 crs ex) tr cr tb gd wk) (fun r u => ∃ (wk' : Nat → Nat) (no' n2' : Int), r = some (.int (iI (bI (slB ac M E B (x.1 c) w)))) ∧ u = MSw σ (obMd t nc ac cp w no' n2' crs ex) tr cr tb gd wk') NX := by
  refine Ct.intro (by decide) (Nat.le_of_ble_eq_true rfl) ?_
  obtain ⟨Q, hQ⟩ : ∃ Q : Option Value → Wd → Prop, Q = fun r u => ∃ (wk' : Nat → Nat) (no' n2' : Int), r = some (.int (iI (bI (slB ac M E B (x.1 c) w)))) ∧ u = MSw σ (obMd t nc ac cp w no' n2' crs ex) tr cr tb gd wk' := ⟨_, rfl⟩
  rw [← hQ]
  have HI : ∀ i : Nat, i ≤ w → ∀ (wk : Nat → Nat) (no n2 : Int) (o3 : Option Value), (∀ i', i' < i → allB (fun j => Nat.beq i' j || !(chg ac M E B (x.1 c i') (x.1 c j))) w = true) → PX7_silentCrowd Q NX 2 [some (.ref 100), some (.int (iI c)), some (.int (iI i)), o3] [] (MSw σ (obMd t nc ac cp w no n2 crs ex) tr cr tb gd wk) 0 0 := by
    refine up_to w ?_ ?_
    · intro wk no n2 o3 hall
      refine z_iload_n dX7_silentCrowd_2 rfl ?_
      refine z_aload_n dX7_silentCrowd_3 rfl ?_
      refine z_getf cls6 14 flX7_55 dX7_silentCrowd_4 (by decide) (MS_100) rfl ?_
      refine i_icmp_ge (tgt := 49) dX7_silentCrowd_7 (by decide) (by omega) (by omega) (fun h1 => ?_) (fun h1 => ?_)
      · skip
        refine i_iconst dX7_silentCrowd_49 rfl ?_
        refine z_zret dX7_silentCrowd_50 rfl (by decide) (by decide) rfl ?_
        rw [hQ]
        exact ⟨wk, no, n2, by unfold slB; rw [(allB_t w).mpr hall]; rfl, rfl⟩
      · skip
        omega
    · intro i hi ih wk no n2 o3 hall
      have HJ : ∀ j : Nat, j ≤ w → ∀ (wk : Nat → Nat) (no n2 : Int), (∀ j', j' < j → (Nat.beq i j' || !(chg ac M E B (x.1 c i) (x.1 c j'))) = true) → PX7_silentCrowd Q NX 12 [some (.ref 100), some (.int (iI c)), some (.int (iI i)), some (.int (iI j))] [] (MSw σ (obMd t nc ac cp w no n2 crs ex) tr cr tb gd wk) 0 0 := by
        refine up_to w ?_ ?_
        · intro wk no n2 hj
          refine z_iload_n dX7_silentCrowd_12 rfl ?_
          refine z_aload_n dX7_silentCrowd_13 rfl ?_
          refine z_getf cls6 14 flX7_55 dX7_silentCrowd_14 (by decide) (MS_100) rfl ?_
          refine i_icmp_ge (tgt := 43) dX7_silentCrowd_17 (by decide) (by omega) (by omega) (fun h1 => ?_) (fun h1 => ?_)
          · skip
            refine i_iinc dX7_silentCrowd_43 rfl (by decide) ?_
            refine z_goto (tgt := 2) dX7_silentCrowd_46 (by decide) ?_
            refine ih wk no n2 _ (fun i' hi' => ?_)
            by_cases q : i' = i
            · rw [q]; exact (allB_t w).mpr hj
            · exact hall i' (by omega)
          · skip
            omega
        · intro j hj ihj wk no n2 hjj
          have H37 : ∀ (wk : Nat → Nat) (no n2 : Int), (Nat.beq i j || !(chg ac M E B (x.1 c i) (x.1 c j))) = true → PX7_silentCrowd Q NX 37 [some (.ref 100), some (.int (iI c)), some (.int (iI i)), some (.int (iI j))] [] (MSw σ (obMd t nc ac cp w no n2 crs ex) tr cr tb gd wk) 0 0 := by
            intro wk no n2 hb
            refine i_iinc dX7_silentCrowd_37 rfl (by decide) ?_
            refine z_goto (tgt := 12) dX7_silentCrowd_40 (by decide) ?_
            refine ihj wk no n2 (fun j' hj' => ?_)
            by_cases q : j' = j
            · rw [q]; exact hb
            · exact hjj j' (by omega)
          refine z_iload_n dX7_silentCrowd_12 rfl ?_
          refine z_aload_n dX7_silentCrowd_13 rfl ?_
          refine z_getf cls6 14 flX7_55 dX7_silentCrowd_14 (by decide) (MS_100) rfl ?_
          refine i_icmp_ge (tgt := 43) dX7_silentCrowd_17 (by decide) (by omega) (by omega) (fun h1 => ?_) (fun h1 => ?_)
          · skip
            omega
          · skip
            refine z_iload_n dX7_silentCrowd_20 rfl ?_
            refine z_iload_n dX7_silentCrowd_21 rfl ?_
            refine i_icmp_eq (tgt := 37) dX7_silentCrowd_22 (by decide) (by omega) (by omega) (fun h2 => ?_) (fun h2 => ?_)
            · skip
              exact H37 wk no n2 (by rw [show i = j by omega, Nat.beq_refl]; rfl)
            · skip
              refine z_aload_n dX7_silentCrowd_25 rfl ?_
              refine z_iload_n dX7_silentCrowd_26 rfl ?_
              refine z_iload_n dX7_silentCrowd_27 rfl ?_
              refine z_iload_n dX7_silentCrowd_28 rfl ?_
              refine z_callVX (m_after hC hw hac hok hx hxr hc hi hj (show i ≠ j by omega) hko) mX7_121 dX7_silentCrowd_29 (MS_100) rfl rfl rfl ⟨by decide, by decide⟩ (Nat.le_of_ble_eq_true rfl) ⟨by decide, by decide⟩ (fun _ _ h => h.elim) (fun r u hq => ?_)
              obtain ⟨wk', no', n2', rfl, rfl, _⟩ := hq
              refine i_ifb_eq (tgt := 37) dX7_silentCrowd_32 (by decide) (fun h3 => ?_) (fun h3 => ?_)
              · skip
                exact H37 wk' no' n2' (by rw [h3]; simp)
              · skip
                refine i_iconst dX7_silentCrowd_35 rfl ?_
                refine z_zret dX7_silentCrowd_36 rfl (by decide) (by decide) rfl ?_
                rw [hQ]
                refine ⟨wk', no', n2', ?_, rfl⟩
                unfold slB
                rw [allB_f (p := fun i => allB (fun j => Nat.beq i j || !(chg ac M E B (x.1 c i) (x.1 c j))) w) hi (allB_f (p := fun j => Nat.beq i j || !(chg ac M E B (x.1 c i) (x.1 c j))) hj (by rw [h3, bq (by omega)]; rfl))]
                rfl
      refine z_iload_n dX7_silentCrowd_2 rfl ?_
      refine z_aload_n dX7_silentCrowd_3 rfl ?_
      refine z_getf cls6 14 flX7_55 dX7_silentCrowd_4 (by decide) (MS_100) rfl ?_
      refine i_icmp_ge (tgt := 49) dX7_silentCrowd_7 (by decide) (by omega) (by omega) (fun h1 => ?_) (fun h1 => ?_)
      · skip
        omega
      · skip
        refine i_iconst dX7_silentCrowd_10 rfl ?_
        refine z_istore_n dX7_silentCrowd_11 (by decide) ?_
        exact HJ 0 (by omega) wk no n2 (fun j' hj' => absurd hj' (Nat.not_lt_zero j'))
  refine i_iconst dX7_silentCrowd_0 rfl ?_
  refine z_istore_n dX7_silentCrowd_1 (by decide) ?_
  exact HI 0 (by omega) wk no n2 none (fun i' hi' => absurd hi' (Nat.not_lt_zero i'))
end MODD

