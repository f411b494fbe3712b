theorem ev_keep {op lf rt : Nat → Int} {at' : Nat → Bool} {k i : Nat} (h : i < k) : evN op lf rt at' (k + 1) i = evN op lf rt at' k i := va_up_ne _ _ (by omega)
section MOD4
variable {σ : Wd} {t : Int} {nc ac : Nat} {cp : Bool} {cnt : Nat} {no n2 : Int} {crs : Nat} {ex : Bool} {M E B op lf rt : Nat → Int}
theorem m_formula {tr at' : Nat → Bool} (h100 : σ 100 = some (obMd t nc ac cp cnt no n2 crs ex)) (h102 : σ 102 = some (AI 20 op)) (h103 : σ 103 = some (AI 20 lf)) (h104 : σ 104 = some (AI 20 rt)) (hn : 0 < nc ∧ nc ≤ 20) (hw : ∀ k, k < nc → wfN op lf rt ac k) (hat : ∀ i, i < nc → op i = 3 → tr i = at' (lf i).toNat) :
    KX7_formula [.ref 100] (up σ 105 (AZ 20 tr)) (fun r u => ∃ tr', r = some (.int (iI (bI (fml op lf rt at' nc)))) ∧ u = up σ 105 (AZ 20 tr')) NX := by
  refine Ct.intro (by decide) (Nat.le_of_ble_eq_true rfl) ?_
  obtain ⟨Q, hQ⟩ : ∃ Q : Option Value → Wd → Prop, Q = fun r u => ∃ tr', r = some (.int (iI (bI (fml op lf rt at' nc)))) ∧ u = up σ 105 (AZ 20 tr') := ⟨_, rfl⟩
  rw [← hQ]
  have g100 : ∀ tr, up σ 105 (AZ 20 tr) 100 = some (obMd t nc ac cp cnt no n2 crs ex) := fun tr => (up_ne _ _ (by decide)).trans h100
  have g102 : ∀ tr, up σ 105 (AZ 20 tr) 102 = some (AI 20 op) := fun tr => (up_ne _ _ (by decide)).trans h102
  have g103 : ∀ tr, up σ 105 (AZ 20 tr) 103 = some (AI 20 lf) := fun tr => (up_ne _ _ (by decide)).trans h103
  have g104 : ∀ tr, up σ 105 (AZ 20 tr) 104 = some (AI 20 rt) := fun tr => (up_ne _ _ (by decide)).trans h104
  have H : ∀ k : Nat, k ≤ nc → ∀ tr : Nat → Bool, (∀ i, i < k → tr i = evN op lf rt at' k i) → (∀ i, k ≤ i → i < nc → op i = 3 → tr i = at' (lf i).toNat) → PX7_formula Q NX 2 [some (.ref 100), some (.int (iI k))] [] (up σ 105 (AZ 20 tr)) 0 0 := by
    refine up_to nc ?_ ?_
    · intro tr h1 h2
      refine z_iload_n dX7_formula_2 rfl ?_
      refine z_aload_n dX7_formula_3 rfl ?_
      refine z_getf cls6 2 flX7_17 dX7_formula_4 (by decide) (g100 _) rfl ?_
      refine i_icmp_ge (tgt := 148) dX7_formula_7 (by decide) (by omega) (by omega) (fun h3 => ?_) (fun h3 => ?_)
      · skip
        refine z_aload_n dX7_formula_148 rfl ?_
        refine z_getf cls6 6 flX7_29 dX7_formula_149 (by decide) (g100 _) rfl ?_
        refine z_aload_n dX7_formula_152 rfl ?_
        refine z_getf cls6 2 flX7_17 dX7_formula_153 (by decide) (g100 _) rfl ?_
        refine i_iconst dX7_formula_156 rfl ?_
        refine i_isub dX7_formula_157 ?_
        refine i_zald dX7_formula_158 (up_self _ _ _) (nc - 1) (by omega) (by omega) ?_
        rw [h1 (nc - 1) (by omega)]
        exact z_zret dX7_formula_159 rfl (by decide) (by decide) (bI_n _) (by rw [hQ]; exact ⟨tr, rfl, rfl⟩)
      · skip
        omega
    · intro k hk ih tr h1 h2
      obtain ⟨w1, w2, w3, w4⟩ := hw k hk
      have H142 : ∀ tr' : Nat → Bool, (∀ i, i ≠ k → tr' i = tr i) → tr' k = ndT op lf rt at' (evN op lf rt at' k) k → PX7_formula Q NX 142 [some (.ref 100), some (.int (iI k))] [] (up σ 105 (AZ 20 tr')) 0 0 := by
        intro tr' e1 e2
        refine i_iinc dX7_formula_142 rfl (by decide) ?_
        refine z_goto (tgt := 2) dX7_formula_145 (by decide) ?_
        refine ih tr' (fun i hi => ?_) (fun i hi hi2 h3 => by rw [e1 i (by omega)]; exact h2 i (by omega) hi2 h3)
        by_cases q : i = k
        · rw [q, e2]; exact (va_up_self _ _ _).symm
        · rw [e1 i q, ev_keep (by omega)]; exact h1 i (by omega)
      have H107 : ∀ tr' : Nat → Bool, op k ≠ 2 → (∀ i, i ≠ k → tr' i = tr i) → tr' k = ndT op lf rt at' (evN op lf rt at' k) k → PX7_formula Q NX 107 [some (.ref 100), some (.int (iI k))] [] (up σ 105 (AZ 20 tr')) 0 0 := by
        intro tr' ho e1 e2
        refine z_aload_n dX7_formula_107 rfl ?_
        refine z_getf cls6 3 flX7_20 dX7_formula_108 (by decide) (g100 _) rfl ?_
        refine z_iload_n dX7_formula_111 rfl ?_
        refine i_iald dX7_formula_112 (g102 _) k (by omega) (by omega) ?_
        refine i_iconst dX7_formula_113 rfl ?_
        refine i_icmp_ne (tgt := 142) dX7_formula_114 (by decide) (by omega) (by omega) (fun h3 => ?_) (fun h3 => ?_)
        · skip
          exact H142 tr' e1 e2
        · skip
          omega
      have H58 : ∀ tr' : Nat → Bool, op k ≠ 1 → op k ≠ 2 → (∀ i, i ≠ k → tr' i = tr i) → tr' k = ndT op lf rt at' (evN op lf rt at' k) k → PX7_formula Q NX 58 [some (.ref 100), some (.int (iI k))] [] (up σ 105 (AZ 20 tr')) 0 0 := by
        intro tr' ho1 ho e1 e2
        refine z_aload_n dX7_formula_58 rfl ?_
        refine z_getf cls6 3 flX7_20 dX7_formula_59 (by decide) (g100 _) rfl ?_
        refine z_iload_n dX7_formula_62 rfl ?_
        refine i_iald dX7_formula_63 (g102 _) k (by omega) (by omega) ?_
        refine i_iconst dX7_formula_64 rfl ?_
        refine i_icmp_ne (tgt := 107) dX7_formula_65 (by decide) (by omega) (by omega) (fun h3 => ?_) (fun h3 => ?_)
        · skip
          exact H107 tr' ho e1 e2
        · skip
          omega
      have hne : ∀ (v : Bool) (i : Nat), i ≠ k → va_up tr k v i = tr i := fun v i hi => va_up_ne _ _ hi
      refine z_iload_n dX7_formula_2 rfl ?_
      refine z_aload_n dX7_formula_3 rfl ?_
      refine z_getf cls6 2 flX7_17 dX7_formula_4 (by decide) (g100 _) rfl ?_
      refine i_icmp_ge (tgt := 148) dX7_formula_7 (by decide) (by omega) (by omega) (fun h3 => ?_) (fun h3 => ?_)
      · skip
        omega
      · skip
        refine z_aload_n dX7_formula_10 rfl ?_
        refine z_getf cls6 3 flX7_20 dX7_formula_11 (by decide) (g100 _) rfl ?_
        refine z_iload_n dX7_formula_14 rfl ?_
        refine i_iald dX7_formula_15 (g102 _) k (by omega) (by omega) ?_
        refine i_if_ne (tgt := 58) dX7_formula_16 (by decide) (by omega) (fun h4 => ?_) (fun h4 => ?_)
        · skip
          refine z_aload_n dX7_formula_58 rfl ?_
          refine z_getf cls6 3 flX7_20 dX7_formula_59 (by decide) (g100 _) rfl ?_
          refine z_iload_n dX7_formula_62 rfl ?_
          refine i_iald dX7_formula_63 (g102 _) k (by omega) (by omega) ?_
          refine i_iconst dX7_formula_64 rfl ?_
          refine i_icmp_ne (tgt := 107) dX7_formula_65 (by decide) (by omega) (by omega) (fun h5 => ?_) (fun h5 => ?_)
          · skip
            refine z_aload_n dX7_formula_107 rfl ?_
            refine z_getf cls6 3 flX7_20 dX7_formula_108 (by decide) (g100 _) rfl ?_
            refine z_iload_n dX7_formula_111 rfl ?_
            refine i_iald dX7_formula_112 (g102 _) k (by omega) (by omega) ?_
            refine i_iconst dX7_formula_113 rfl ?_
            refine i_icmp_ne (tgt := 142) dX7_formula_114 (by decide) (by omega) (by omega) (fun h6 => ?_) (fun h6 => ?_)
            · skip
              exact H142 tr (fun _ _ => rfl) (by unfold ndT; rw [if_pos (by omega)]; exact h2 k (Nat.le_refl _) hk (by omega))
            · skip
              have w3 := w3 (by omega)
              have el := h1 (lf k).toNat (by omega)
              refine z_aload_n dX7_formula_117 rfl ?_
              refine z_getf cls6 6 flX7_29 dX7_formula_118 (by decide) (g100 _) rfl ?_
              refine z_iload_n dX7_formula_121 rfl ?_
              refine z_aload_n dX7_formula_122 rfl ?_
              refine z_getf cls6 6 flX7_29 dX7_formula_123 (by decide) (g100 _) rfl ?_
              refine z_aload_n dX7_formula_126 rfl ?_
              refine z_getf cls6 4 flX7_23 dX7_formula_127 (by decide) (g100 _) rfl ?_
              refine z_iload_n dX7_formula_130 rfl ?_
              refine i_iald dX7_formula_131 (g103 _) k (by omega) (by omega) ?_
              refine i_zald dX7_formula_132 (up_self _ _ _) ((lf k).toNat) (by omega) (by omega) ?_
              refine i_ifb_ne (tgt := 140) dX7_formula_133 (by decide) (fun h7 => ?_) (fun h7 => ?_)
              · skip
                refine i_iconst dX7_formula_140 rfl ?_
                refine i_zast (x := false) dX7_formula_141 (up_self _ _ _) k (by omega) (by omega) ?_
                rw [up_up]
                exact H142 _ (hne _) (by rw [va_up_self]; unfold ndT; rw [if_neg (by omega), if_neg (by omega), if_neg (by omega), ← el, h7]; rfl)
              · skip
                refine i_iconst dX7_formula_136 rfl ?_
                refine z_goto (tgt := 141) dX7_formula_137 (by decide) ?_
                refine i_zast (x := true) dX7_formula_141 (up_self _ _ _) k (by omega) (by omega) ?_
                rw [up_up]
                exact H142 _ (hne _) (by rw [va_up_self]; unfold ndT; rw [if_neg (by omega), if_neg (by omega), if_neg (by omega), ← el, h7]; rfl)
          · skip
            have w3 := w3 (by omega)
            have w4 := w4 (by omega)
            have el := h1 (lf k).toNat (by omega)
            have er := h1 (rt k).toNat (by omega)
            refine z_aload_n dX7_formula_68 rfl ?_
            refine z_getf cls6 6 flX7_29 dX7_formula_69 (by decide) (g100 _) rfl ?_
            refine z_iload_n dX7_formula_72 rfl ?_
            refine z_aload_n dX7_formula_73 rfl ?_
            refine z_getf cls6 6 flX7_29 dX7_formula_74 (by decide) (g100 _) rfl ?_
            refine z_aload_n dX7_formula_77 rfl ?_
            refine z_getf cls6 4 flX7_23 dX7_formula_78 (by decide) (g100 _) rfl ?_
            refine z_iload_n dX7_formula_81 rfl ?_
            refine i_iald dX7_formula_82 (g103 _) k (by omega) (by omega) ?_
            refine i_zald dX7_formula_83 (up_self _ _ _) ((lf k).toNat) (by omega) (by omega) ?_
            refine i_ifb_ne (tgt := 101) dX7_formula_84 (by decide) (fun h7 => ?_) (fun h7 => ?_)
            · skip
              refine i_iconst dX7_formula_101 rfl ?_
              refine z_goto (tgt := 106) dX7_formula_102 (by decide) ?_
              refine i_zast (x := true) dX7_formula_106 (up_self _ _ _) k (by omega) (by omega) ?_
              rw [up_up]
              exact H107 _ (by omega) (hne _) (by rw [va_up_self]; unfold ndT; rw [if_neg (by omega), if_neg (by omega), if_pos (by omega), ← el, h7]; rfl)
            · skip
              refine z_aload_n dX7_formula_87 rfl ?_
              refine z_getf cls6 6 flX7_29 dX7_formula_88 (by decide) (g100 _) rfl ?_
              refine z_aload_n dX7_formula_91 rfl ?_
              refine z_getf cls6 5 flX7_26 dX7_formula_92 (by decide) (g100 _) rfl ?_
              refine z_iload_n dX7_formula_95 rfl ?_
              refine i_iald dX7_formula_96 (g104 _) k (by omega) (by omega) ?_
              refine i_zald dX7_formula_97 (up_self _ _ _) ((rt k).toNat) (by omega) (by omega) ?_
              refine i_ifb_eq (tgt := 105) dX7_formula_98 (by decide) (fun h8 => ?_) (fun h8 => ?_)
              · skip
                refine i_iconst dX7_formula_105 rfl ?_
                refine i_zast (x := false) dX7_formula_106 (up_self _ _ _) k (by omega) (by omega) ?_
                rw [up_up]
                exact H107 _ (by omega) (hne _) (by rw [va_up_self]; unfold ndT; rw [if_neg (by omega), if_neg (by omega), if_pos (by omega), ← el, ← er, h7, h8]; rfl)
              · skip
                refine i_iconst dX7_formula_101 rfl ?_
                refine z_goto (tgt := 106) dX7_formula_102 (by decide) ?_
                refine i_zast (x := true) dX7_formula_106 (up_self _ _ _) k (by omega) (by omega) ?_
                rw [up_up]
                exact H107 _ (by omega) (hne _) (by rw [va_up_self]; unfold ndT; rw [if_neg (by omega), if_neg (by omega), if_pos (by omega), ← el, ← er, h7, h8]; rfl)
        · skip
          have w3 := w3 (by omega)
          have w4 := w4 (by omega)
          have el := h1 (lf k).toNat (by omega)
          have er := h1 (rt k).toNat (by omega)
          refine z_aload_n dX7_formula_19 rfl ?_
          refine z_getf cls6 6 flX7_29 dX7_formula_20 (by decide) (g100 _) rfl ?_
          refine z_iload_n dX7_formula_23 rfl ?_
          refine z_aload_n dX7_formula_24 rfl ?_
          refine z_getf cls6 6 flX7_29 dX7_formula_25 (by decide) (g100 _) rfl ?_
          refine z_aload_n dX7_formula_28 rfl ?_
          refine z_getf cls6 4 flX7_23 dX7_formula_29 (by decide) (g100 _) rfl ?_
          refine z_iload_n dX7_formula_32 rfl ?_
          refine i_iald dX7_formula_33 (g103 _) k (by omega) (by omega) ?_
          refine i_zald dX7_formula_34 (up_self _ _ _) ((lf k).toNat) (by omega) (by omega) ?_
          refine i_ifb_eq (tgt := 56) dX7_formula_35 (by decide) (fun h7 => ?_) (fun h7 => ?_)
          · skip
            refine i_iconst dX7_formula_56 rfl ?_
            refine i_zast (x := false) dX7_formula_57 (up_self _ _ _) k (by omega) (by omega) ?_
            rw [up_up]
            exact H58 _ (by omega) (by omega) (hne _) (by rw [va_up_self]; unfold ndT; rw [if_neg (by omega), if_pos (by omega), ← el, h7]; rfl)
          · skip
            refine z_aload_n dX7_formula_38 rfl ?_
            refine z_getf cls6 6 flX7_29 dX7_formula_39 (by decide) (g100 _) rfl ?_
            refine z_aload_n dX7_formula_42 rfl ?_
            refine z_getf cls6 5 flX7_26 dX7_formula_43 (by decide) (g100 _) rfl ?_
            refine z_iload_n dX7_formula_46 rfl ?_
            refine i_iald dX7_formula_47 (g104 _) k (by omega) (by omega) ?_
            refine i_zald dX7_formula_48 (up_self _ _ _) ((rt k).toNat) (by omega) (by omega) ?_
            refine i_ifb_eq (tgt := 56) dX7_formula_49 (by decide) (fun h8 => ?_) (fun h8 => ?_)
            · skip
              refine i_iconst dX7_formula_56 rfl ?_
              refine i_zast (x := false) dX7_formula_57 (up_self _ _ _) k (by omega) (by omega) ?_
              rw [up_up]
              exact H58 _ (by omega) (by omega) (hne _) (by rw [va_up_self]; unfold ndT; rw [if_neg (by omega), if_pos (by omega), ← el, ← er, h7, h8]; rfl)
            · skip
              refine i_iconst dX7_formula_52 rfl ?_
              refine z_goto (tgt := 57) dX7_formula_53 (by decide) ?_
              refine i_zast (x := true) dX7_formula_57 (up_self _ _ _) k (by omega) (by omega) ?_
              rw [up_up]
              exact H58 _ (by omega) (by omega) (hne _) (by rw [va_up_self]; unfold ndT; rw [if_neg (by omega), if_pos (by omega), ← el, ← er, h7, h8]; rfl)
  refine i_iconst dX7_formula_0 rfl ?_
  refine z_istore_n dX7_formula_1 (by decide) ?_
  exact H 0 (by omega) tr (fun i hi => absurd hi (Nat.not_lt_zero i)) (fun i _ hi h3 => hat i hi h3)
theorem md_par {x : St} (h : rg x) : iI (mdN x : Nat) &&& iI 1 = iI (bI x.2.2) := by
  have h1 := mdN_i h
  have h2 := bI_r x.1
  have h3 := bI_r x.2.2
  rw [show (1 : Int) = ((1 : Nat) : Int) from rfl, iand_n, Nat.and_one_is_mod]
  congr 1
  unfold rg at h
  omega
theorem m_outputOf {agf : Nat → Int} {ag : Nat → Nat → St} {tr : Nat → Bool} {i : Nat} (h100 : σ 100 = some (obMd t nc ac cp cnt no n2 crs ex)) (h102 : σ 102 = some (AI 20 op)) (h103 : σ 103 = some (AI 20 lf)) (h104 : σ 104 = some (AI 20 rt)) (h111 : σ 111 = some (AI 1000 agf)) (hn : 0 < nc ∧ nc ≤ 20) (hac : ac ≤ 5) (hw : ∀ k, k < nc → wfN op lf rt ac k) (hi : i < 200) (hag : ∀ c, c < ac → agf (5 * i + c) = (mdN (ag i c) : Nat)) (hr : ∀ c, c < ac → rg (ag i c)) :
    KX7_outputOf [.ref 100, .int (iI i)] (up σ 105 (AZ 20 tr)) (fun r u => ∃ tr', r = some (.int (iI (bI (fml op lf rt (opA (ag i)) nc)))) ∧ u = up σ 105 (AZ 20 tr')) NX := by
  refine Ct.intro (by decide) (Nat.le_of_ble_eq_true rfl) ?_
  obtain ⟨Q, hQ⟩ : ∃ Q : Option Value → Wd → Prop, Q = fun r u => ∃ tr', r = some (.int (iI (bI (fml op lf rt (opA (ag i)) nc)))) ∧ u = up σ 105 (AZ 20 tr') := ⟨_, rfl⟩
  rw [← hQ]
  have g100 : ∀ tr, up σ 105 (AZ 20 tr) 100 = some (obMd t nc ac cp cnt no n2 crs ex) := fun tr => (up_ne _ _ (by decide)).trans h100
  have g102 : ∀ tr, up σ 105 (AZ 20 tr) 102 = some (AI 20 op) := fun tr => (up_ne _ _ (by decide)).trans h102
  have g103 : ∀ tr, up σ 105 (AZ 20 tr) 103 = some (AI 20 lf) := fun tr => (up_ne _ _ (by decide)).trans h103
  have g111 : ∀ tr, up σ 105 (AZ 20 tr) 111 = some (AI 1000 agf) := fun tr => (up_ne _ _ (by decide)).trans h111
  have H : ∀ k : Nat, k ≤ nc → ∀ tr : Nat → Bool, (∀ i', i' < k → op i' = 3 → tr i' = opA (ag i) (lf i').toNat) → PX7_outputOf Q NX 2 [some (.ref 100), some (.int (iI i)), some (.int (iI k))] [] (up σ 105 (AZ 20 tr)) 0 0 := by
    refine up_to nc ?_ ?_
    · intro tr h1
      refine z_iload_n dX7_outputOf_2 rfl ?_
      refine z_aload_n dX7_outputOf_3 rfl ?_
      refine z_getf cls6 2 flX7_17 dX7_outputOf_4 (by decide) (g100 _) rfl ?_
      refine i_icmp_ge (tgt := 58) dX7_outputOf_7 (by decide) (by omega) (by omega) (fun h3 => ?_) (fun h3 => ?_)
      · skip
        refine z_aload_n dX7_outputOf_58 rfl ?_
        refine z_callVX (m_formula (at' := opA (ag i)) h100 h102 h103 h104 hn hw h1) mX7_109 dX7_outputOf_59 (g100 _) rfl rfl rfl ⟨by decide, by decide⟩ (Nat.le_of_ble_eq_true rfl) ⟨by decide, by decide⟩ (fun _ _ h => h.elim) (fun r u hq => ?_)
        obtain ⟨tr', rfl, rfl⟩ := hq
        exact z_zret dX7_outputOf_62 rfl (by decide) (by decide) (bI_n _) (by rw [hQ]; exact ⟨tr', rfl, rfl⟩)
      · skip
        omega
    · intro k hk ih tr h1
      obtain ⟨w1, w2, w3, w4⟩ := hw k hk
      have H52 : ∀ tr' : Nat → Bool, (∀ i', i' ≠ k → tr' i' = tr i') → (op k = 3 → tr' k = opA (ag i) (lf k).toNat) → PX7_outputOf Q NX 52 [some (.ref 100), some (.int (iI i)), some (.int (iI k))] [] (up σ 105 (AZ 20 tr')) 0 0 := by
        intro tr' e1 e2
        refine i_iinc dX7_outputOf_52 rfl (by decide) ?_
        refine z_goto (tgt := 2) dX7_outputOf_55 (by decide) ?_
        refine ih tr' (fun i' hi' h3 => ?_)
        by_cases q : i' = k
        · rw [q] at h3 ⊢; exact e2 h3
        · rw [e1 i' q]; exact h1 i' (by omega) h3
      refine z_iload_n dX7_outputOf_2 rfl ?_
      refine z_aload_n dX7_outputOf_3 rfl ?_
      refine z_getf cls6 2 flX7_17 dX7_outputOf_4 (by decide) (g100 _) rfl ?_
      refine i_icmp_ge (tgt := 58) dX7_outputOf_7 (by decide) (by omega) (by omega) (fun h3 => ?_) (fun h3 => ?_)
      · skip
        omega
      · skip
        refine z_aload_n dX7_outputOf_10 rfl ?_
        refine z_getf cls6 3 flX7_20 dX7_outputOf_11 (by decide) (g100 _) rfl ?_
        refine z_iload_n dX7_outputOf_14 rfl ?_
        refine i_iald dX7_outputOf_15 (g102 _) k (by omega) (by omega) ?_
        refine i_iconst dX7_outputOf_16 rfl ?_
        refine i_icmp_ne (tgt := 52) dX7_outputOf_17 (by decide) (by omega) (by omega) (fun h4 => ?_) (fun h4 => ?_)
        · skip
          exact H52 tr (fun _ _ => rfl) (fun z => absurd z h4)
        · skip
          have w2 := w2 h4
          refine z_aload_n dX7_outputOf_20 rfl ?_
          refine z_getf cls6 6 flX7_29 dX7_outputOf_21 (by decide) (g100 _) rfl ?_
          refine z_iload_n dX7_outputOf_24 rfl ?_
          refine z_aload_n dX7_outputOf_25 rfl ?_
          refine z_getf cls6 15 flX7_58 dX7_outputOf_26 (by decide) (g100 _) rfl ?_
          refine i_iconst dX7_outputOf_29 rfl ?_
          refine z_iload_n dX7_outputOf_30 rfl ?_
          refine i_imul dX7_outputOf_31 ?_
          refine z_aload_n dX7_outputOf_32 rfl ?_
          refine z_getf cls6 4 flX7_23 dX7_outputOf_33 (by decide) (g100 _) rfl ?_
          refine z_iload_n dX7_outputOf_36 rfl ?_
          refine i_iald dX7_outputOf_37 (g103 _) k (by omega) (by omega) ?_
          refine i_iadd dX7_outputOf_38 ?_
          refine i_iald dX7_outputOf_39 (g111 _) (5 * i + (lf k).toNat) (by omega) (by omega) ?_
          rw [hag (lf k).toNat (by omega)]
          refine i_iconst dX7_outputOf_40 rfl ?_
          refine z_iand dX7_outputOf_41 ?_
          refine z_eqi _ (md_par (hr (lf k).toNat (by omega))) ?_
          have hb := bI_r (ag i (lf k).toNat).2.2
          refine i_iconst dX7_outputOf_42 rfl ?_
          refine i_icmp_ne (tgt := 50) dX7_outputOf_43 (by decide) (by omega) (by omega) (fun h5 => ?_) (fun h5 => ?_)
          · skip
            refine i_iconst dX7_outputOf_50 rfl ?_
            refine i_zast (x := false) dX7_outputOf_51 (up_self _ _ _) k (by omega) (by omega) ?_
            rw [up_up]
            exact H52 _ (fun i' hi' => va_up_ne _ _ hi') (fun _ => by rw [va_up_self]; exact (show (ag i (lf k).toNat).2.2 = false from bI_0.mp (by omega)).symm)
          · skip
            refine i_iconst dX7_outputOf_46 rfl ?_
            refine z_goto (tgt := 51) dX7_outputOf_47 (by decide) ?_
            refine i_zast (x := true) dX7_outputOf_51 (up_self _ _ _) k (by omega) (by omega) ?_
            rw [up_up]
            exact H52 _ (fun i' hi' => va_up_ne _ _ hi') (fun _ => by rw [va_up_self]; exact (show (ag i (lf k).toNat).2.2 = true from bI_1.mp (by omega)).symm)
  refine i_iconst dX7_outputOf_0 rfl ?_
  refine z_istore_n dX7_outputOf_1 (by decide) ?_
  exact H 0 (by omega) tr (fun i hi => absurd hi (Nat.not_lt_zero i))
theorem m_truthNow {cfM lt : Nat → Int} {CF : Nat → Nat → Int} {tr : Nat → Bool} (h100 : σ 100 = some (obMd t nc ac cp cnt no n2 crs ex)) (h102 : σ 102 = some (AI 20 op)) (h103 : σ 103 = some (AI 20 lf)) (h104 : σ 104 = some (AI 20 rt)) (hC : MC σ M E B) (h106 : σ 106 = some (AI 40 cfM)) (h112 : σ 112 = some (AI 8 lt)) (hn : 0 < nc ∧ nc ≤ 20) (hac : ac ≤ 5) (hw : ∀ k, k < nc → wfN op lf rt ac k) (hok : okAs ac M E B CF) (hcf : ∀ c, c < ac → ∀ l, l < 8 → cfM (8 * c + l) = CF c l) (hlt : ∀ l, l < 8 → 0 ≤ lt l ∧ lt l ≤ 200) :
    KX7_truthNow [.ref 100] (up σ 105 (AZ 20 tr)) (fun r u => ∃ tr', r = some (.int (iI (bI (fml op lf rt (trA M E CF lt) nc)))) ∧ u = up σ 105 (AZ 20 tr')) NX := by
  refine Ct.intro (by decide) (Nat.le_of_ble_eq_true rfl) ?_
  obtain ⟨Q, hQ⟩ : ∃ Q : Option Value → Wd → Prop, Q = fun r u => ∃ tr', r = some (.int (iI (bI (fml op lf rt (trA M E CF lt) nc)))) ∧ u = up σ 105 (AZ 20 tr') := ⟨_, rfl⟩
  rw [← hQ]
  have g100 : ∀ tr, up σ 105 (AZ 20 tr) 100 = some (obMd t nc ac cp cnt no n2 crs ex) := fun tr => (up_ne _ _ (by decide)).trans h100
  have g102 : ∀ tr, up σ 105 (AZ 20 tr) 102 = some (AI 20 op) := fun tr => (up_ne _ _ (by decide)).trans h102
  have g103 : ∀ tr, up σ 105 (AZ 20 tr) 103 = some (AI 20 lf) := fun tr => (up_ne _ _ (by decide)).trans h103
  have g106 : ∀ tr, up σ 105 (AZ 20 tr) 106 = some (AI 40 cfM) := fun tr => (up_ne _ _ (by decide)).trans h106
  have g108 : ∀ tr, up σ 105 (AZ 20 tr) 108 = some (AI 5 M) := fun tr => (up_ne _ _ (by decide)).trans hC.2.1
  have g109 : ∀ tr, up σ 105 (AZ 20 tr) 109 = some (AI 5 E) := fun tr => (up_ne _ _ (by decide)).trans hC.2.2
  have g112 : ∀ tr, up σ 105 (AZ 20 tr) 112 = some (AI 8 lt) := fun tr => (up_ne _ _ (by decide)).trans h112
  have H : ∀ k : Nat, k ≤ nc → ∀ (tr : Nat → Bool) (o2 o3 o4 : Option Value), (∀ i', i' < k → op i' = 3 → tr i' = trA M E CF lt (lf i').toNat) → PX7_truthNow Q NX 2 [some (.ref 100), some (.int (iI k)), o2, o3, o4] [] (up σ 105 (AZ 20 tr)) 0 0 := by
    refine up_to nc ?_ ?_
    · intro tr o2 o3 o4 h1
      refine z_iload_n dX7_truthNow_2 rfl ?_
      refine z_aload_n dX7_truthNow_3 rfl ?_
      refine z_getf cls6 2 flX7_17 dX7_truthNow_4 (by decide) (g100 _) rfl ?_
      refine i_icmp_ge (tgt := 135) dX7_truthNow_7 (by decide) (by omega) (by omega) (fun h3 => ?_) (fun h3 => ?_)
      · skip
        refine z_aload_n dX7_truthNow_135 rfl ?_
        refine z_callVX (m_formula (at' := trA M E CF lt) h100 h102 h103 h104 hn hw h1) mX7_109 dX7_truthNow_136 (g100 _) rfl rfl rfl ⟨by decide, by decide⟩ (Nat.le_of_ble_eq_true rfl) ⟨by decide, by decide⟩ (fun _ _ h => h.elim) (fun r u hq => ?_)
        obtain ⟨tr', rfl, rfl⟩ := hq
        exact z_zret dX7_truthNow_139 rfl (by decide) (by decide) (bI_n _) (by rw [hQ]; exact ⟨tr', rfl, rfl⟩)
      · skip
        omega
    · intro k hk ih tr o2 o3 o4 h1
      obtain ⟨w1, w2, w3, w4⟩ := hw k hk
      have H129 : ∀ (tr' : Nat → Bool) (o2 o3 o4 : Option Value), (∀ i', i' ≠ k → tr' i' = tr i') → (op k = 3 → tr' k = trA M E CF lt (lf k).toNat) → PX7_truthNow Q NX 129 [some (.ref 100), some (.int (iI k)), o2, o3, o4] [] (up σ 105 (AZ 20 tr')) 0 0 := by
        intro tr' o2 o3 o4 e1 e2
        refine i_iinc dX7_truthNow_129 rfl (by decide) ?_
        refine z_goto (tgt := 2) dX7_truthNow_132 (by decide) ?_
        refine ih tr' _ _ _ (fun i' hi' h3 => ?_)
        by_cases q : i' = k
        · rw [q] at h3 ⊢; exact e2 h3
        · rw [e1 i' q]; exact h1 i' (by omega) h3
      refine z_iload_n dX7_truthNow_2 rfl ?_
      refine z_aload_n dX7_truthNow_3 rfl ?_
      refine z_getf cls6 2 flX7_17 dX7_truthNow_4 (by decide) (g100 _) rfl ?_
      refine i_icmp_ge (tgt := 135) dX7_truthNow_7 (by decide) (by omega) (by omega) (fun h3 => ?_) (fun h3 => ?_)
      · skip
        omega
      · skip
        refine z_aload_n dX7_truthNow_10 rfl ?_
        refine z_getf cls6 3 flX7_20 dX7_truthNow_11 (by decide) (g100 _) rfl ?_
        refine z_iload_n dX7_truthNow_14 rfl ?_
        refine i_iald dX7_truthNow_15 (g102 _) k (by omega) (by omega) ?_
        refine i_iconst dX7_truthNow_16 rfl ?_
        refine i_icmp_ne (tgt := 129) dX7_truthNow_17 (by decide) (by omega) (by omega) (fun h4 => ?_) (fun h4 => ?_)
        · skip
          exact H129 tr _ _ _ (fun _ _ => rfl) (fun z => absurd z h4)
        · skip
          have w2 := w2 h4
          obtain ⟨c, hc⟩ : ∃ c : Nat, lf k = (c : Int) := ⟨(lf k).toNat, by omega⟩
          have hca : c < ac := by omega
          have hct : (lf k).toNat = c := by omega
          obtain ⟨hoc, hoc2⟩ := hok c hca
          have a1 := hoc.m
          have a2 := hoc.e
          have hsr := smC_r (cf := CF c) (ct := lt) (fun l hl => (hoc2 l hl).1) hlt
          refine z_aload_n dX7_truthNow_20 rfl ?_
          refine z_getf cls6 4 flX7_23 dX7_truthNow_21 (by decide) (g100 _) rfl ?_
          refine z_iload_n dX7_truthNow_24 rfl ?_
          refine i_iald dX7_truthNow_25 (g103 _) k (by omega) (by omega) ?_
          rw [hc]
          refine z_istore_n dX7_truthNow_26 (by decide) ?_
          refine i_iconst dX7_truthNow_27 rfl ?_
          refine z_istore_n dX7_truthNow_28 (by decide) ?_
          refine i_iconst dX7_truthNow_29 rfl ?_
          refine z_istore dX7_truthNow_30 (by decide) ?_
          have HL : ∀ l : Nat, l ≤ 8 → PX7_truthNow Q NX 32 [some (.ref 100), some (.int (iI k)), some (.int (iI c)), some (.int (iI (smC (CF c) lt l))), some (.int (iI l))] [] (up σ 105 (AZ 20 tr)) 0 0 := by
            refine up_to 8 ?_ ?_
            · have hs8 := hsr 8 (Nat.le_refl _)
              refine z_iload dX7_truthNow_32 rfl ?_
              refine i_bipush dX7_truthNow_34 (by decide) ?_
              refine i_icmp_ge (tgt := 68) dX7_truthNow_36 (by decide) (by omega) (by omega) (fun h5 => ?_) (fun h5 => ?_)
              · skip
                refine z_aload_n dX7_truthNow_68 rfl ?_
                refine z_getf cls6 10 flX7_42 dX7_truthNow_69 (by decide) (g100 _) rfl ?_
                refine z_iload_n dX7_truthNow_72 rfl ?_
                refine i_iald dX7_truthNow_73 (g108 _) c (by omega) (by omega) ?_
                refine z_istore dX7_truthNow_74 (by decide) ?_
                refine z_aload_n dX7_truthNow_76 rfl ?_
                refine z_getf cls6 6 flX7_29 dX7_truthNow_77 (by decide) (g100 _) rfl ?_
                refine z_iload_n dX7_truthNow_80 rfl ?_
                refine z_iload dX7_truthNow_81 rfl ?_
                refine i_if_ne (tgt := 104) dX7_truthNow_83 (by decide) (by omega) (fun h6 => ?_) (fun h6 => ?_)
                · skip
                  have ht : -16 < (smC (CF c) lt 8).tmod (M c) ∧ (smC (CF c) lt 8).tmod (M c) < 16 := by
                    have h7 := Int.tmod_lt_of_pos (smC (CF c) lt 8) (show 0 < M c by omega)
                    have h8 := Int.lt_tmod_of_pos (smC (CF c) lt 8) (show 0 < M c by omega)
                    omega
                  have e2 : ((smC (CF c) lt 8).tmod (M c) + M c).tmod (M c) = red (M c) (smC (CF c) lt 8) := by
                    have h8 := Int.lt_tmod_of_pos (smC (CF c) lt 8) (show 0 < M c by omega)
                    unfold red; rw [if_pos (by omega), Int.tmod_eq_emod_of_nonneg (by omega), Int.add_emod_right]
                    conv => rhs; rw [← Int.mul_tdiv_add_tmod (smC (CF c) lt 8) (M c)]
                    rw [Int.add_comm, Int.add_mul_emod_self_left]
                  have hrr : 0 ≤ red (M c) (smC (CF c) lt 8) ∧ red (M c) (smC (CF c) lt 8) < 16 := by
                    unfold red; rw [if_pos (by omega)]
                    have h7 := Int.emod_nonneg (smC (CF c) lt 8) (show M c ≠ 0 by omega)
                    have h8 := Int.emod_lt_of_pos (smC (CF c) lt 8) (show 0 < M c by omega)
                    omega
                  refine z_iload_n dX7_truthNow_104 rfl ?_
                  refine z_iload dX7_truthNow_105 rfl ?_
                  refine i_irem dX7_truthNow_107 (by omega) (by omega) (by omega) ?_
                  refine z_iload dX7_truthNow_108 rfl ?_
                  refine i_iadd dX7_truthNow_110 ?_
                  refine z_iload dX7_truthNow_111 rfl ?_
                  refine i_irem dX7_truthNow_113 (by omega) (by omega) (by omega) ?_
                  rw [e2]
                  refine z_aload_n dX7_truthNow_114 rfl ?_
                  refine z_getf cls6 11 flX7_45 dX7_truthNow_115 (by decide) (g100 _) rfl ?_
                  refine z_iload_n dX7_truthNow_118 rfl ?_
                  refine i_iald dX7_truthNow_119 (g109 _) c (by omega) (by omega) ?_
                  refine i_icmp_ne (tgt := 127) dX7_truthNow_120 (by decide) (by omega) (by omega) (fun h7 => ?_) (fun h7 => ?_)
                  · skip
                    refine i_iconst dX7_truthNow_127 rfl ?_
                    refine i_zast (x := false) dX7_truthNow_128 (up_self _ _ _) k (by omega) (by omega) ?_
                    rw [up_up]
                    exact H129 _ _ _ _ (fun i' hi' => va_up_ne _ _ hi') (fun _ => by rw [va_up_self, hct]; show false = opn (M c) (E c) (red (M c) (smC (CF c) lt 8)); unfold opn; rw [if_pos (by omega)]; exact (decide_eq_false h7).symm)
                  · skip
                    refine i_iconst dX7_truthNow_123 rfl ?_
                    refine z_goto (tgt := 128) dX7_truthNow_124 (by decide) ?_
                    refine i_zast (x := true) dX7_truthNow_128 (up_self _ _ _) k (by omega) (by omega) ?_
                    rw [up_up]
                    exact H129 _ _ _ _ (fun i' hi' => va_up_ne _ _ hi') (fun _ => by rw [va_up_self, hct]; show true = opn (M c) (E c) (red (M c) (smC (CF c) lt 8)); unfold opn; rw [if_pos (by omega)]; exact (decide_eq_true h7).symm)
                · skip
                  refine z_iload_n dX7_truthNow_86 rfl ?_
                  refine z_aload_n dX7_truthNow_87 rfl ?_
                  refine z_getf cls6 11 flX7_45 dX7_truthNow_88 (by decide) (g100 _) rfl ?_
                  refine z_iload_n dX7_truthNow_91 rfl ?_
                  refine i_iald dX7_truthNow_92 (g109 _) c (by omega) (by omega) ?_
                  have e2 : red (M c) (smC (CF c) lt 8) = smC (CF c) lt 8 := by unfold red; rw [if_neg (by omega)]
                  refine i_icmp_lt (tgt := 100) dX7_truthNow_93 (by decide) (by omega) (by omega) (fun h7 => ?_) (fun h7 => ?_)
                  · skip
                    refine i_iconst dX7_truthNow_100 rfl ?_
                    refine z_goto (tgt := 128) dX7_truthNow_101 (by decide) ?_
                    refine i_zast (x := false) dX7_truthNow_128 (up_self _ _ _) k (by omega) (by omega) ?_
                    rw [up_up]
                    exact H129 _ _ _ _ (fun i' hi' => va_up_ne _ _ hi') (fun _ => by rw [va_up_self, hct]; show false = opn (M c) (E c) (red (M c) (smC (CF c) lt 8)); rw [e2]; unfold opn; rw [if_neg (by omega)]; exact (decide_eq_false (by omega)).symm)
                  · skip
                    refine i_iconst dX7_truthNow_96 rfl ?_
                    refine z_goto (tgt := 128) dX7_truthNow_97 (by decide) ?_
                    refine i_zast (x := true) dX7_truthNow_128 (up_self _ _ _) k (by omega) (by omega) ?_
                    rw [up_up]
                    exact H129 _ _ _ _ (fun i' hi' => va_up_ne _ _ hi') (fun _ => by rw [va_up_self, hct]; show true = opn (M c) (E c) (red (M c) (smC (CF c) lt 8)); rw [e2]; unfold opn; rw [if_neg (by omega)]; exact (decide_eq_true (by omega)).symm)
              · skip
                omega
            · intro l hl ihl
              refine z_iload dX7_truthNow_32 rfl ?_
              refine i_bipush dX7_truthNow_34 (by decide) ?_
              refine i_icmp_ge (tgt := 68) dX7_truthNow_36 (by decide) (by omega) (by omega) (fun h5 => ?_) (fun h5 => ?_)
              · skip
                omega
              · skip
                refine z_iload_n dX7_truthNow_39 rfl ?_
                refine z_aload_n dX7_truthNow_40 rfl ?_
                refine z_getf cls6 8 flX7_36 dX7_truthNow_41 (by decide) (g100 _) rfl ?_
                refine i_bipush dX7_truthNow_44 (by decide) ?_
                refine z_iload_n dX7_truthNow_46 rfl ?_
                refine i_imul dX7_truthNow_47 ?_
                refine z_iload dX7_truthNow_48 rfl ?_
                refine i_iadd dX7_truthNow_50 ?_
                refine i_iald dX7_truthNow_51 (g106 _) (8 * c + l) (by omega) (by omega) ?_
                refine z_aload_n dX7_truthNow_52 rfl ?_
                refine z_getf cls6 16 flX7_61 dX7_truthNow_53 (by decide) (g100 _) rfl ?_
                refine z_iload dX7_truthNow_56 rfl ?_
                refine i_iald dX7_truthNow_58 (g112 _) l (by omega) (by omega) ?_
                rw [hcf c hca l hl]
                refine i_imul dX7_truthNow_59 ?_
                refine i_iadd dX7_truthNow_60 ?_
                refine z_istore_n dX7_truthNow_61 (by decide) ?_
                refine i_iinc dX7_truthNow_62 rfl (by decide) ?_
                refine z_goto (tgt := 32) dX7_truthNow_65 (by decide) ?_
                exact ihl
          exact HL 0 (by omega)
  refine i_iconst dX7_truthNow_0 rfl ?_
  refine z_istore_n dX7_truthNow_1 (by decide) ?_
  exact H 0 (by omega) tr none none none (fun i hi => absurd hi (Nat.not_lt_zero i))
end MOD4

