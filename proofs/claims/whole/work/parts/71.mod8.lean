theorem uc_le (op lf rt : Nat → Int) (n : Nat) : ∀ k, ucN op lf rt n k ≤ 2 * k
  | 0 => Nat.le_refl _
  | k + 1 => by
    have := uc_le op lf rt n k
    rw [uc_s]
    split <;> split <;> omega
theorem shB_iff {op lf rt : Nat → Int} {nc : Nat} : shB op lf rt nc = true ↔ ∃ n, n < nc ∧ 2 ≤ ucN op lf rt n nc := by
  constructor
  · intro h
    refine Classical.byContradiction fun hn => ?_
    have := shB_f (op := op) (lf := lf) (rt := rt) (nc := nc) (fun n h1 => by
      by_cases q : 2 ≤ ucN op lf rt n nc
      · exact absurd ⟨n, h1, q⟩ hn
      · omega)
    rw [h] at this; cases this
  · rintro ⟨n, h1, h2⟩
    exact shB_t h1 h2
section MOD8
variable {σ : Wd} {a : AS} {t : Int}
theorem m_compile (h : MD σ a t) (hV : VL a) {N : Nat → Nat} {xs : Nat → Nat → St} (hE : cdComp a = 0 → ∀ b, b < a.ac → En (a.M b) (a.E b) (a.B b) (a.CF b) (N b) (xs b)) : KX7_compile [.ref 100] σ (QM (cdComp a) (.int (iI (tot N a.ac : Nat))) σ a (oComp a)) NX := by
  obtain ⟨tr, cfM, th, agf, no, n2, crs, cr, tb, gd, wk, hp⟩ := h
  have hp0 := hp
  obtain ⟨h100, k1, k2, k3, k4, k5, k6, k7, k10, k11, k12, k13, k14, k15, k16, g1, g2, g3, g4⟩ := hp
  have hnl := hV.nc
  have hal := hV.ac
  refine Ct.intro (by decide) (Nat.le_of_ble_eq_true rfl) ?_
  obtain ⟨Q, hQ⟩ : ∃ Q : Option Value → Wd → Prop, Q = QM (cdComp a) (.int (iI (tot N a.ac : Nat))) σ a (oComp a) := ⟨_, rfl⟩
  rw [← hQ]
  have H140 : cdComp a = 0 → ∀ b : Nat, b ≤ a.ac → ∀ (th' : Nat → Bool) (no n2 : Int) (o1 : Int32) (o4 : Option Value), (∀ b', b' < b → ∀ s, s < 172 → th' (172 * b' + s) = rcB (a.M b') (a.E b') (a.B b') (a.CF b') s) → PX7_compile Q NX 140 [some (.ref 100), some (.int o1), some (.int (iI (tot N b : Nat))), some (.int (iI b)), o4] [] (MT σ (obMd 0 a.nc a.ac true a.cnt no n2 crs a.ex.isSome) th') 0 0 := by
    intro hc0
    have hE := hE hc0
    refine up_to a.ac ?_ ?_
    · intro th' no n2 o1 o4 hth
      refine z_iload_n dX7_compile_140 rfl ?_
      refine z_aload_n dX7_compile_141 rfl ?_
      refine z_getf cls6 7 flX7_33 dX7_compile_142 (by decide) (MT_100) rfl ?_
      refine i_icmp_ge (tgt := 167) dX7_compile_145 (by decide) (by omega) (by omega) (fun h1 => ?_) (fun h1 => ?_)
      · skip
        refine z_iload_n dX7_compile_167 rfl ?_
        refine z_iret dX7_compile_168 rfl (by decide) (by decide) ?_
        rw [hQ]
        refine ⟨⟨_, rfl⟩, fun _ => rfl, ?_, fun q hq => MT_x (by omega) (by omega)⟩
        rw [hc0]
        exact ⟨tr, cfM, th', agf, no, n2, crs, cr, tb, gd, wk, rfl, k1, k2, k3, k4, k5, k6, MT_C k7, rfl, k11, k12, k13, k14, k15, k16, g1, g2, fun _ => hth, g4⟩
      · skip
        omega
    · intro b hb ih th' no n2 o1 o4 hth
      have hob := hV.ok b hb
      have hnb := (hE b hb).num hob.1 (fun l hl => (hob.2 l hl).2)
      have htl := tot_le (N := N) b (fun b' h' => (hE b' (by omega)).2.2.2)
      have hnl2 := (hE b hb).2.2.2
      refine z_iload_n dX7_compile_140 rfl ?_
      refine z_aload_n dX7_compile_141 rfl ?_
      refine z_getf cls6 7 flX7_33 dX7_compile_142 (by decide) (MT_100) rfl ?_
      refine i_icmp_ge (tgt := 167) dX7_compile_145 (by decide) (by omega) (by omega) (fun h1 => ?_) (fun h1 => ?_)
      · skip
        omega
      · skip
        refine z_aload_n dX7_compile_148 rfl ?_
        refine z_iload_n dX7_compile_149 rfl ?_
        refine z_callVX (m_findStates (cf := a.CF b) k7 k6 (by omega) hob.1 (fun l hl => g1 b (by omega) l hl) (fun l hl => (hob.2 l hl).1) (fun l hl => (hob.2 l hl).2)) mX7_142 dX7_compile_150 (MT_100) rfl rfl rfl ⟨by decide, by decide⟩ (Nat.le_of_ble_eq_true rfl) ⟨by decide, by decide⟩ (fun _ _ h => h.elim) (fun r u hq => ?_)
        obtain ⟨th2, no', n2', rfl, rfl, e1, e2⟩ := hq
        refine z_iload_n dX7_compile_153 rfl ?_
        refine z_aload_n dX7_compile_154 rfl ?_
        refine z_iload_n dX7_compile_155 rfl ?_
        refine i_cVr (m_stateCount MT_100 MT_110 (show b < 5 by omega)) mX7_146 dX7_compile_156 (MT_100) rfl rfl rfl ⟨by decide, by decide⟩ (Nat.le_of_ble_eq_true rfl) ⟨by decide, by decide⟩ ?_
        rw [show cntF (fun s => th2 (172 * b + s)) 172 = N b by rw [← hnb]; exact cnt_congr 172 (fun s hs => e1 s hs)]
        refine i_iadd dX7_compile_159 ?_
        refine z_istore_n dX7_compile_160 (by decide) ?_
        refine i_iinc dX7_compile_161 rfl (by decide) ?_
        refine z_goto (tgt := 140) dX7_compile_164 (by decide) ?_
        rw [show ((tot N b : Nat) : Int) + ((N b : Nat) : Int) = ((tot N (b + 1) : Nat) : Int) by show _ = ((tot N b + N b : Nat) : Int); omega]
        refine ih th2 no' n2' _ _ (fun b' hb' s hs => ?_)
        by_cases q : b' = b
        · rw [q]; exact e1 s hs
        · rw [e2 _ (by omega)]; exact hth b' (by omega) s hs
  have H119 : ∀ (d : Nat) (o1 : Int32) (o2 o3 o4 : Option Value), d = cdComp a → d ≤ 1 → PX7_compile Q NX 119 [some (.ref 100), some (.int o1), o2, o3, o4] [.int (iI d), .ref 100] σ 0 0 := by
    intro d o1 o2 o3 o4 hd hd2
    refine i_puti cls6 0 flX7_7 dX7_compile_119 (by decide) rfl rfl (by first | exact h100 | rfl) (Nat.le_of_ble_eq_true rfl) ?_
    refine z_aload_n dX7_compile_122 rfl ?_
    refine z_getf cls6 0 flX7_7 dX7_compile_123 (by decide) (up_self _ _ _) rfl ?_
    refine i_if_eq (tgt := 131) dX7_compile_126 (by decide) (by omega) (fun h1 => ?_) (fun h1 => ?_)
    · skip
      have hc0 : cdComp a = 0 := by omega
      rw [show ((d : Nat) : Int) = 0 by omega]
      refine z_aload_n dX7_compile_131 rfl ?_
      refine i_iconst dX7_compile_132 rfl ?_
      refine i_putz (b := true) cls6 12 flX7_48 dX7_compile_133 (by decide) rfl rfl (up_self _ _ _) (Nat.le_of_ble_eq_true rfl) ?_
      refine i_iconst dX7_compile_136 rfl ?_
      refine z_istore_n dX7_compile_137 (by decide) ?_
      refine i_iconst dX7_compile_138 rfl ?_
      refine z_istore_n dX7_compile_139 (by decide) ?_
      refine z_eqw (u := MT σ (obMd 0 a.nc a.ac true a.cnt no n2 crs a.ex.isSome) th) (by unfold MT; rw [up_id k10, up_up]; rfl) ?_
      exact H140 hc0 0 (by omega) th no n2 _ _ (fun b' hb' => absurd hb' (Nat.not_lt_zero b'))
    · skip
      refine i_iconst dX7_compile_129 rfl ?_
      refine z_iret dX7_compile_130 rfl (by decide) (by decide) ?_
      rw [hQ]
      refine ⟨⟨0, rfl⟩, fun z => by omega, ?_, F2.rfl.up _ (by omega)⟩
      rw [if_neg (by omega), ← hd]
      exact ⟨tr, cfM, th, agf, no, n2, crs, cr, tb, gd, wk, md_t hp0 _⟩
  have H4 : ∀ n : Nat, n ≤ a.nc → ∀ (tw : Bool) (o3 o4 : Option Value), (tw = true ↔ ∃ n', n' < n ∧ 2 ≤ ucN a.op a.lf a.rt n' a.nc) → PX7_compile Q NX 4 [some (.ref 100), some (.int (iI (bI tw))), some (.int (iI n)), o3, o4] [] σ 0 0 := by
    refine up_to a.nc ?_ ?_
    · intro tw o3 o4 htw
      rw [← shB_iff] at htw
      have hsh : shB a.op a.lf a.rt a.nc = tw := by cases tw <;> cases q : shB a.op a.lf a.rt a.nc <;> simp_all
      have H114 : ¬ (a.cp = false ∧ 0 < a.nc ∧ shB a.op a.lf a.rt a.nc = false) → PX7_compile Q NX 114 [some (.ref 100), some (.int (iI (bI tw))), some (.int (iI a.nc)), o3, o4] [.ref 100] σ 0 0 := by
        intro hb
        refine i_iconst dX7_compile_114 rfl ?_
        refine z_goto (tgt := 119) dX7_compile_115 (by decide) ?_
        exact H119 1 _ _ _ _ (if_neg hb).symm (by decide)
      refine z_iload_n dX7_compile_4 rfl ?_
      refine z_aload_n dX7_compile_5 rfl ?_
      refine z_getf cls6 2 flX7_17 dX7_compile_6 (by decide) (by first | exact h100 | rfl) rfl ?_
      refine i_icmp_ge (tgt := 95) dX7_compile_9 (by decide) (by omega) (by omega) (fun h1 => ?_) (fun h1 => ?_)
      · skip
        refine z_aload_n dX7_compile_95 rfl ?_
        refine z_aload_n dX7_compile_96 rfl ?_
        refine z_getf cls6 2 flX7_17 dX7_compile_97 (by decide) (by first | exact h100 | rfl) rfl ?_
        refine i_if_eq (tgt := 114) dX7_compile_100 (by decide) (by omega) (fun h2 => ?_) (fun h2 => ?_)
        · skip
          exact H114 (fun z => by omega)
        · skip
          refine z_iload_n dX7_compile_103 rfl ?_
          refine i_ifb_ne (tgt := 114) dX7_compile_104 (by decide) (fun h3 => ?_) (fun h3 => ?_)
          · skip
            exact H114 (fun z => by rw [hsh, h3] at z; cases z.2.2)
          · skip
            refine z_aload_n dX7_compile_107 rfl ?_
            refine z_getf cls6 12 flX7_48 dX7_compile_108 (by decide) (by first | exact h100 | rfl) rfl ?_
            refine i_ifb_eq (tgt := 118) dX7_compile_111 (by decide) (fun h4 => ?_) (fun h4 => ?_)
            · skip
              refine i_iconst dX7_compile_118 rfl ?_
              exact H119 0 _ _ _ _ (if_pos ⟨h4, by omega, by rw [hsh]; exact h3⟩).symm (by decide)
            · skip
              exact H114 (fun z => by rw [h4] at z; cases z.1)
      · skip
        omega
    · intro n hn ih tw o3 o4 htw
      have H17 : ∀ k : Nat, k ≤ a.nc → PX7_compile Q NX 17 [some (.ref 100), some (.int (iI (bI tw))), some (.int (iI n)), some (.int (iI (ucN a.op a.lf a.rt n k : Nat))), some (.int (iI k))] [] σ 0 0 := by
        refine up_to a.nc ?_ ?_
        · have hu := uc_le a.op a.lf a.rt n a.nc
          refine z_iload dX7_compile_17 rfl ?_
          refine z_aload_n dX7_compile_19 rfl ?_
          refine z_getf cls6 2 flX7_17 dX7_compile_20 (by decide) (by first | exact h100 | rfl) rfl ?_
          refine i_icmp_ge (tgt := 82) dX7_compile_23 (by decide) (by omega) (by omega) (fun h1 => ?_) (fun h1 => ?_)
          · skip
            refine z_iload_n dX7_compile_82 rfl ?_
            refine i_iconst dX7_compile_83 rfl ?_
            refine i_icmp_le (tgt := 89) dX7_compile_84 (by decide) (by omega) (by omega) (fun h2 => ?_) (fun h2 => ?_)
            · skip
              refine i_iinc dX7_compile_89 rfl (by decide) ?_
              refine z_goto (tgt := 4) dX7_compile_92 (by decide) ?_
              refine ih tw _ _ ⟨fun z => ?_, fun ⟨n', n1, n2⟩ => ?_⟩
              · obtain ⟨n', n1, n2⟩ := htw.mp z
                exact ⟨n', by omega, n2⟩
              · by_cases q : n' = n
                · rw [q] at n2; omega
                · exact htw.mpr ⟨n', by omega, n2⟩
            · skip
              refine i_iconst dX7_compile_87 rfl ?_
              refine z_istore_n dX7_compile_88 (by decide) ?_
              refine i_iinc dX7_compile_89 rfl (by decide) ?_
              refine z_goto (tgt := 4) dX7_compile_92 (by decide) ?_
              exact ih true _ _ ⟨fun _ => ⟨n, by omega, by omega⟩, fun _ => rfl⟩
          · skip
            omega
        · intro k hk ihk
          have hu := uc_le a.op a.lf a.rt n k
          obtain ⟨w1, w2, w3, w4⟩ := hV.wf k hk
          have hlr : -1 ≤ a.lf k ∧ a.lf k < 100 := by
            by_cases q : a.op k = 3
            · have := w2 q; omega
            · have := w3 q; omega
          have H76 : ∀ z : Nat, z = ucN a.op a.lf a.rt n (k + 1) → PX7_compile Q NX 76 [some (.ref 100), some (.int (iI (bI tw))), some (.int (iI n)), some (.int (iI z)), some (.int (iI k))] [] σ 0 0 := by
            intro z hz
            rw [hz]
            refine i_iinc dX7_compile_76 rfl (by decide) ?_
            refine z_goto (tgt := 17) dX7_compile_79 (by decide) ?_
            exact ihk
          have H51 : ∀ z : Nat, z = ucN a.op a.lf a.rt n k + (if a.op k ≠ 3 ∧ a.lf k = n then 1 else 0) → PX7_compile Q NX 51 [some (.ref 100), some (.int (iI (bI tw))), some (.int (iI n)), some (.int (iI z)), some (.int (iI k))] [] σ 0 0 := by
            intro z hz
            refine z_aload_n dX7_compile_51 rfl ?_
            refine z_getf cls6 3 flX7_20 dX7_compile_52 (by decide) (by first | exact h100 | rfl) rfl ?_
            refine z_iload dX7_compile_55 rfl ?_
            refine i_iald dX7_compile_57 (by first | exact k2 | rfl) k (by omega) (by omega) ?_
            refine i_iconst dX7_compile_58 rfl ?_
            refine i_icmp_ge (tgt := 76) dX7_compile_59 (by decide) (by omega) (by omega) (fun h3 => ?_) (fun h3 => ?_)
            · skip
              exact H76 z (by rw [uc_s, if_neg (c := a.op k < 2 ∧ a.rt k = n) (by omega)]; omega)
            · skip
              have w4 := w4 (by omega)
              refine z_aload_n dX7_compile_62 rfl ?_
              refine z_getf cls6 5 flX7_26 dX7_compile_63 (by decide) (by first | exact h100 | rfl) rfl ?_
              refine z_iload dX7_compile_66 rfl ?_
              refine i_iald dX7_compile_68 (by first | exact k4 | rfl) k (by omega) (by omega) ?_
              refine z_iload_n dX7_compile_69 rfl ?_
              refine i_icmp_ne (tgt := 76) dX7_compile_70 (by decide) (by omega) (by omega) (fun h4 => ?_) (fun h4 => ?_)
              · skip
                exact H76 z (by rw [uc_s, if_neg (c := a.op k < 2 ∧ a.rt k = n) (by omega)]; omega)
              · skip
                refine i_iinc dX7_compile_73 rfl (by decide) ?_
                exact H76 (z + 1) (by rw [uc_s, if_pos (c := a.op k < 2 ∧ a.rt k = n) (by omega)]; omega)
          refine z_iload dX7_compile_17 rfl ?_
          refine z_aload_n dX7_compile_19 rfl ?_
          refine z_getf cls6 2 flX7_17 dX7_compile_20 (by decide) (by first | exact h100 | rfl) rfl ?_
          refine i_icmp_ge (tgt := 82) dX7_compile_23 (by decide) (by omega) (by omega) (fun h1 => ?_) (fun h1 => ?_)
          · skip
            omega
          · skip
            refine z_aload_n dX7_compile_26 rfl ?_
            refine z_getf cls6 3 flX7_20 dX7_compile_27 (by decide) (by first | exact h100 | rfl) rfl ?_
            refine z_iload dX7_compile_30 rfl ?_
            refine i_iald dX7_compile_32 (by first | exact k2 | rfl) k (by omega) (by omega) ?_
            refine i_iconst dX7_compile_33 rfl ?_
            refine i_icmp_ge (tgt := 51) dX7_compile_34 (by decide) (by omega) (by omega) (fun h2 => ?_) (fun h2 => ?_)
            · skip
              exact H51 _ (by rw [if_neg (by omega)]; omega)
            · skip
              refine z_aload_n dX7_compile_37 rfl ?_
              refine z_getf cls6 4 flX7_23 dX7_compile_38 (by decide) (by first | exact h100 | rfl) rfl ?_
              refine z_iload dX7_compile_41 rfl ?_
              refine i_iald dX7_compile_43 (by first | exact k3 | rfl) k (by omega) (by omega) ?_
              refine z_iload_n dX7_compile_44 rfl ?_
              refine i_icmp_ne (tgt := 51) dX7_compile_45 (by decide) (by omega) (by omega) (fun h3 => ?_) (fun h3 => ?_)
              · skip
                exact H51 _ (by rw [if_neg (by omega)]; omega)
              · skip
                refine i_iinc dX7_compile_48 rfl (by decide) ?_
                exact H51 (ucN a.op a.lf a.rt n k + 1) (by rw [if_pos (by omega)])
      refine z_iload_n dX7_compile_4 rfl ?_
      refine z_aload_n dX7_compile_5 rfl ?_
      refine z_getf cls6 2 flX7_17 dX7_compile_6 (by decide) (by first | exact h100 | rfl) rfl ?_
      refine i_icmp_ge (tgt := 95) dX7_compile_9 (by decide) (by omega) (by omega) (fun h1 => ?_) (fun h1 => ?_)
      · skip
        omega
      · skip
        refine i_iconst dX7_compile_12 rfl ?_
        refine z_istore_n dX7_compile_13 (by decide) ?_
        refine i_iconst dX7_compile_14 rfl ?_
        refine z_istore dX7_compile_15 (by decide) ?_
        exact H17 0 (by omega)
  refine i_iconst dX7_compile_0 rfl ?_
  refine z_istore_n dX7_compile_1 (by decide) ?_
  refine i_iconst dX7_compile_2 rfl ?_
  refine z_istore_n dX7_compile_3 (by decide) ?_
  exact H4 0 (by omega) false none none ⟨fun z => Bool.noConfusion z, fun ⟨n', n1, _⟩ => absurd n1 (Nat.not_lt_zero n')⟩
theorem MG_F2 {O : pCell} {g : Nat → Int} : F2 σ (MG σ O g) := fun q hq => MG_x (by omega) (by omega)
theorem m_add (h : MD σ a t) (hV : VL a) (l n : Int) (hl : i32 l) (hn : i32 n) : KX7_add [.ref 100, .int (iI l), .int (iI n)] σ (QM (cdAdd a l n) (.int (iI ((a.cnt + n.toNat : Nat) : Int))) σ a (oAdd a l.toNat n.toNat)) NX := by
  obtain ⟨tr, cfM, th, agf, no, n2, crs, cr, tb, gd, wk, hp⟩ := h
  have hp0 := hp
  obtain ⟨h100, k1, k2, k3, k4, k5, k6, k7, k10, k11, k12, k13, k14, k15, k16, g1, g2, g3, g4⟩ := hp
  have hcl := hV.cnt
  have hal := hV.ac
  unfold i32 at hl hn
  refine Ct.intro (by decide) (Nat.le_of_ble_eq_true rfl) ?_
  obtain ⟨Q, hQ⟩ : ∃ Q : Option Value → Wd → Prop, Q = QM (cdAdd a l n) (.int (iI ((a.cnt + n.toNat : Nat) : Int))) σ a (oAdd a l.toNat n.toNat) := ⟨_, rfl⟩
  rw [← hQ]
  have H43 : ∀ d : Nat, d = cdAdd a l n → d ≤ 2 → PX7_add Q NX 43 [some (.ref 100), some (.int (iI l)), some (.int (iI n)), none, none] [.int (iI d), .ref 100] σ 0 0 := by
    intro d hd hd2
    refine i_puti cls6 0 flX7_7 dX7_add_43 (by decide) rfl rfl (by first | exact h100 | rfl) (Nat.le_of_ble_eq_true rfl) ?_
    refine z_aload_n dX7_add_46 rfl ?_
    refine z_getf cls6 0 flX7_7 dX7_add_47 (by decide) (up_self _ _ _) rfl ?_
    refine i_if_eq (tgt := 55) dX7_add_50 (by decide) (by omega) (fun h1 => ?_) (fun h1 => ?_)
    · skip
      have hc0 : cdAdd a l n = 0 := by omega
      have hg : ((0 ≤ l ∧ l < 8) ∧ 0 ≤ n) ∧ a.cp = true ∧ n ≤ 200 - (a.cnt : Int) := by
        have hc0' := hc0
        unfold cdAdd at hc0'
        by_cases q1 : (0 ≤ l ∧ l < 8) ∧ 0 ≤ n
        · rw [if_pos q1] at hc0'
          by_cases q2 : a.cp = true ∧ n ≤ 200 - (a.cnt : Int)
          · exact ⟨q1, q2⟩
          · rw [if_neg q2] at hc0'; cases hc0'
        · rw [if_neg q1] at hc0'; cases hc0'
      obtain ⟨l, rfl⟩ := Int.eq_ofNat_of_zero_le hg.1.1.1
      obtain ⟨n, rfl⟩ := Int.eq_ofNat_of_zero_le hg.1.2
      rw [Int.toNat_natCast, Int.toNat_natCast] at hQ
      have hl8 : l < 8 := by omega
      rw [show ((d : Nat) : Int) = 0 by omega]
      have H57 : ∀ k : Nat, k ≤ n → ∀ (g : Nat → Int) (o4 : Option Value), AM a.ac (a.cnt + k) g (fun i => if i < a.cnt then a.ag i else bgA a.M a.E a.CF l) → PX7_add Q NX 57 [some (.ref 100), some (.int (iI l)), some (.int (iI n)), some (.int (iI k)), o4] [] (MG σ (obMd 0 a.nc a.ac a.cp (a.cnt + k) no n2 crs a.ex.isSome) g) 0 0 := by
        refine up_to n ?_ ?_
        · intro g o4 hg2
          have hlt := hV.lt l hl8
          refine z_iload_n dX7_add_57 rfl ?_
          refine z_iload_n dX7_add_58 rfl ?_
          refine i_icmp_ge (tgt := 117) dX7_add_59 (by decide) (by omega) (by omega) (fun h3 => ?_) (fun h3 => ?_)
          · skip
            refine z_aload_n dX7_add_117 rfl ?_
            refine z_getf cls6 16 flX7_61 dX7_add_118 (by decide) (MG_100) rfl ?_
            refine z_iload_n dX7_add_121 rfl ?_
            refine z_dup2 dX7_add_122 rfl rfl ?_
            refine i_iald dX7_add_123 ((MG_x (by decide) (by decide)).trans k12) l (by omega) (by omega) ?_
            refine z_iload_n dX7_add_124 rfl ?_
            refine i_iadd dX7_add_125 ?_
            refine i_iast dX7_add_126 ((MG_x (by decide) (by decide)).trans k12) l (by omega) (by omega) ?_
            refine z_iload_n dX7_add_127 rfl ?_
            have hMD : ∀ e : Bool, e = (oAdd a l n).ex.isSome → MD (up (up (MG σ (obMd 0 a.nc a.ac a.cp (a.cnt + n) no n2 crs a.ex.isSome) g) 112 (AI 8 (va_up a.lt l (a.lt l + n)))) 100 (obMd 0 a.nc a.ac a.cp (a.cnt + n) no n2 crs e)) (oAdd a l n) 0 := fun e he => by
              subst he
              refine ⟨tr, cfM, th, g, no, n2, crs, cr, tb, gd, wk, rfl, k1, k2, k3, k4, k5, k6, ((MG_C k7).o _ (by omega)).o _ (by omega), k10, rfl, rfl, k13, k14, k15, k16, g1, hg2, g3, fun x hx => ?_⟩
              have hx : (if n = 0 then a.ex else none) = some x := hx
              by_cases q : n = 0
              · rw [if_pos q] at hx
                show SIM a.ac (a.cnt + n) x cr tb crs
                rw [q]; exact g4 x hx
              · rw [if_neg q] at hx; cases hx
            refine i_if_le (tgt := 136) dX7_add_128 (by decide) (by omega) (fun h4 => ?_) (fun h4 => ?_)
            · skip
              have hn0 : n = 0 := by omega
              refine z_aload_n dX7_add_136 rfl ?_
              refine z_getf cls6 14 flX7_55 dX7_add_137 (by decide) (rfl) rfl ?_
              refine z_iret dX7_add_140 rfl (by decide) (by decide) ?_
              rw [hQ]
              refine ⟨⟨_, rfl⟩, fun _ => rfl, ?_, MG_F2.up _ (by omega)⟩
              rw [hc0, if_pos rfl]
              have hm := hMD a.ex.isSome (by show _ = (if n = 0 then a.ex else none).isSome; rw [if_pos hn0])
              rw [up_id (show up (MG σ (obMd 0 a.nc a.ac a.cp (a.cnt + n) no n2 crs a.ex.isSome) g) 112 (AI 8 (va_up a.lt l (a.lt l + n))) 100 = some (obMd 0 a.nc a.ac a.cp (a.cnt + n) no n2 crs a.ex.isSome) from rfl)] at hm
              exact hm
            · skip
              refine z_aload_n dX7_add_131 rfl ?_
              refine i_iconst dX7_add_132 rfl ?_
              refine i_putz (b := false) cls6 23 flX7_83 dX7_add_133 (by decide) rfl rfl (rfl) (Nat.le_of_ble_eq_true rfl) ?_
              refine z_aload_n dX7_add_136 rfl ?_
              refine z_getf cls6 14 flX7_55 dX7_add_137 (by decide) (rfl) rfl ?_
              refine z_iret dX7_add_140 rfl (by decide) (by decide) ?_
              rw [hQ]
              refine ⟨⟨_, rfl⟩, fun _ => rfl, ?_, (MG_F2.up _ (by omega)).up _ (by omega)⟩
              rw [hc0, if_pos rfl]
              exact hMD false (by show _ = (if n = 0 then a.ex else none).isSome; rw [if_neg (by omega)]; rfl)
          · skip
            omega
        · intro k hk ihk g o4 hg2
          have H65 : ∀ c : Nat, c ≤ a.ac → ∀ g : Nat → Int, AM a.ac (a.cnt + k) g (fun i => if i < a.cnt then a.ag i else bgA a.M a.E a.CF l) → (∀ c', c' < c → g (5 * (a.cnt + k) + c') = (mdN (bgA a.M a.E a.CF l c') : Nat)) → PX7_add Q NX 65 [some (.ref 100), some (.int (iI l)), some (.int (iI n)), some (.int (iI k)), some (.int (iI c))] [] (MG σ (obMd 0 a.nc a.ac a.cp (a.cnt + k) no n2 crs a.ex.isSome) g) 0 0 := by
            refine up_to a.ac ?_ ?_
            · intro g hg2 hg3
              refine z_iload dX7_add_65 rfl ?_
              refine z_aload_n dX7_add_67 rfl ?_
              refine z_getf cls6 7 flX7_33 dX7_add_68 (by decide) (MG_100) rfl ?_
              refine i_icmp_ge (tgt := 101) dX7_add_71 (by decide) (by omega) (by omega) (fun h3 => ?_) (fun h3 => ?_)
              · skip
                refine z_aload_n dX7_add_101 rfl ?_
                refine z_dup dX7_add_102 rfl ?_
                refine z_getf cls6 14 flX7_55 dX7_add_103 (by decide) (MG_100) rfl ?_
                refine i_iconst dX7_add_106 rfl ?_
                refine i_iadd dX7_add_107 ?_
                refine i_puti cls6 14 flX7_55 dX7_add_108 (by decide) rfl rfl (MG_100) (Nat.le_of_ble_eq_true rfl) ?_
                rw [show (((a.cnt + k : Nat) : Int) + 1) = ((a.cnt + (k + 1) : Nat) : Int) by omega]
                refine z_eqw (MG_s100 (obMd 0 a.nc a.ac a.cp (a.cnt + (k + 1)) no n2 crs a.ex.isSome)) ?_
                refine i_iinc dX7_add_111 rfl (by decide) ?_
                refine z_goto (tgt := 57) dX7_add_114 (by decide) ?_
                refine ihk g _ (fun p hp c hc => ?_)
                by_cases q : p = a.cnt + k
                · rw [q, hg3 c hc]
                  show _ = ((mdN ((if a.cnt + k < a.cnt then a.ag (a.cnt + k) else bgA a.M a.E a.CF l) c) : Nat) : Int)
                  rw [if_neg (by omega)]
                · exact hg2 p (by omega) c hc
              · skip
                omega
            · intro c hc ihc g hg2 hg3
              have hob := hV.ok c hc
              refine z_iload dX7_add_65 rfl ?_
              refine z_aload_n dX7_add_67 rfl ?_
              refine z_getf cls6 7 flX7_33 dX7_add_68 (by decide) (MG_100) rfl ?_
              refine i_icmp_ge (tgt := 101) dX7_add_71 (by decide) (by omega) (by omega) (fun h3 => ?_) (fun h3 => ?_)
              · skip
                omega
              · skip
                refine z_aload_n dX7_add_74 rfl ?_
                refine z_getf cls6 15 flX7_58 dX7_add_75 (by decide) (MG_100) rfl ?_
                refine i_iconst dX7_add_78 rfl ?_
                refine z_aload_n dX7_add_79 rfl ?_
                refine z_getf cls6 14 flX7_55 dX7_add_80 (by decide) (MG_100) rfl ?_
                refine i_imul dX7_add_83 ?_
                refine z_iload dX7_add_84 rfl ?_
                refine i_iadd dX7_add_86 ?_
                refine z_aload_n dX7_add_87 rfl ?_
                refine z_iload dX7_add_88 rfl ?_
                refine z_iload_n dX7_add_90 rfl ?_
                refine i_cVr (m_firstState (cf := a.CF c) MG_100 (MG_C k7) ((MG_x (by decide) (by decide)).trans k6) (by omega) hob.1 hl8 (g1 c (by omega) l hl8) (hob.2 l hl8).1 (hob.2 l hl8).2) mX7_101 dX7_add_91 (MG_100) rfl rfl rfl ⟨by decide, by decide⟩ (Nat.le_of_ble_eq_true rfl) ⟨by decide, by decide⟩ ?_
                refine i_iast dX7_add_94 (MG_111) (5 * (a.cnt + k) + c) (by omega) (by omega) ?_
                rw [MG_s111]
                refine i_iinc dX7_add_95 rfl (by decide) ?_
                refine z_goto (tgt := 65) dX7_add_98 (by decide) ?_
                refine ihc _ (fun p hp c' hc' => ?_) (fun c' hc' => ?_)
                · rw [va_up_ne _ _ (by omega)]; exact hg2 p hp c' hc'
                · by_cases q : c' = c
                  · rw [q, va_up_self]; rfl
                  · rw [va_up_ne _ _ (by omega)]; exact hg3 c' (by omega)
          refine z_iload_n dX7_add_57 rfl ?_
          refine z_iload_n dX7_add_58 rfl ?_
          refine i_icmp_ge (tgt := 117) dX7_add_59 (by decide) (by omega) (by omega) (fun h3 => ?_) (fun h3 => ?_)
          · skip
            omega
          · skip
            refine i_iconst dX7_add_62 rfl ?_
            refine z_istore dX7_add_63 (by decide) ?_
            exact H65 0 (by omega) g hg2 (fun c' hc' => absurd hc' (Nat.not_lt_zero c'))
      refine i_iconst dX7_add_55 rfl ?_
      refine z_istore_n dX7_add_56 (by decide) ?_
      refine z_eqw (u := MG σ (obMd 0 a.nc a.ac a.cp (a.cnt + 0) no n2 crs a.ex.isSome) agf) (by unfold MG; rw [up_id k11]; rfl) ?_
      refine H57 0 (by omega) agf none (fun p hp c hc => ?_)
      have hp : p < a.cnt := hp
      show agf (5 * p + c) = ((mdN ((if p < a.cnt then a.ag p else bgA a.M a.E a.CF l) c) : Nat) : Int)
      rw [if_pos hp]; exact g2 p hp c hc
    · skip
      refine i_iconst dX7_add_53 rfl ?_
      refine z_iret dX7_add_54 rfl (by decide) (by decide) ?_
      rw [hQ]
      refine ⟨⟨0, rfl⟩, fun z => by omega, ?_, F2.rfl.up _ (by omega)⟩
      rw [if_neg (by omega), ← hd]
      exact ⟨tr, cfM, th, agf, no, n2, crs, cr, tb, gd, wk, md_t hp0 _⟩
  have H15 : ¬ ((0 ≤ l ∧ l < 8) ∧ 0 ≤ n) → PX7_add Q NX 15 [some (.ref 100), some (.int (iI l)), some (.int (iI n)), none, none] [.ref 100] σ 0 0 := by
    intro hb
    refine i_iconst dX7_add_15 rfl ?_
    refine z_goto (tgt := 43) dX7_add_16 (by decide) ?_
    exact H43 1 (if_neg hb).symm (by decide)
  refine z_aload_n dX7_add_0 rfl ?_
  refine z_iload_n dX7_add_1 rfl ?_
  refine i_if_lt (tgt := 15) dX7_add_2 (by decide) (by omega) (fun h1 => ?_) (fun h1 => ?_)
  · skip
    exact H15 (by omega)
  · skip
    refine z_iload_n dX7_add_5 rfl ?_
    refine i_bipush dX7_add_6 (by decide) ?_
    refine i_icmp_gt (tgt := 15) dX7_add_8 (by decide) (by omega) (by omega) (fun h2 => ?_) (fun h2 => ?_)
    · skip
      exact H15 (by omega)
    · skip
      refine z_iload_n dX7_add_11 rfl ?_
      refine i_if_ge (tgt := 19) dX7_add_12 (by decide) (by omega) (fun h3 => ?_) (fun h3 => ?_)
      · skip
        have hg : (0 ≤ l ∧ l < 8) ∧ 0 ≤ n := by omega
        have H38 : ¬ (a.cp = true ∧ n ≤ 200 - (a.cnt : Int)) → PX7_add Q NX 38 [some (.ref 100), some (.int (iI l)), some (.int (iI n)), none, none] [.ref 100] σ 0 0 := by
          intro hb
          refine i_iconst dX7_add_38 rfl ?_
          refine z_goto (tgt := 43) dX7_add_39 (by decide) ?_
          exact H43 2 (by unfold cdAdd; rw [if_pos hg, if_neg hb]) (by decide)
        refine z_aload_n dX7_add_19 rfl ?_
        refine z_getf cls6 12 flX7_48 dX7_add_20 (by decide) (by first | exact h100 | rfl) rfl ?_
        refine i_ifb_eq (tgt := 38) dX7_add_23 (by decide) (fun h4 => ?_) (fun h4 => ?_)
        · skip
          exact H38 (fun z => by rw [h4] at z; cases z.1)
        · skip
          refine z_iload_n dX7_add_26 rfl ?_
          refine i_sipush dX7_add_27 (by decide) ?_
          refine z_aload_n dX7_add_30 rfl ?_
          refine z_getf cls6 14 flX7_55 dX7_add_31 (by decide) (by first | exact h100 | rfl) rfl ?_
          refine i_isub dX7_add_34 ?_
          refine i_icmp_le (tgt := 42) dX7_add_35 (by decide) (by omega) (by omega) (fun h5 => ?_) (fun h5 => ?_)
          · skip
            refine i_iconst dX7_add_42 rfl ?_
            exact H43 0 (by unfold cdAdd; rw [if_pos hg, if_pos ⟨h4, h5⟩]) (by decide)
          · skip
            exact H38 (fun z => by omega)
      · skip
        exact H15 (by omega)
end MOD8

