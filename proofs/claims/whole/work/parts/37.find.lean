def Ext (nb cd : Nat → Int) (n : Nat) (nb' cd' : Nat → Int) (n' : Nat) : Prop := (∀ c, nb c ≠ -1 → nb' c = nb c) ∧ (∀ k, k < n → cd' k = cd k) ∧ n ≤ n'
theorem Ext.tr {nb cd nb' cd' nb2 cd2 : Nat → Int} {n n' n2 : Nat} (h : Ext nb cd n nb' cd' n') (h' : Ext nb' cd' n' nb2 cd2 n2) : Ext nb cd n nb2 cd2 n2 :=
  ⟨fun c hc => by rw [h'.1 c (by rw [h.1 c hc]; exact hc), h.1 c hc], fun k hk => by rw [h'.2.1 k (Nat.lt_of_lt_of_le hk h.2.2), h.2.1 k hk], Nat.le_trans h.2.2 h'.2.2⟩
def CloP (m e b : Int) (cf nb cd : Nat → Int) (x y : Nat) : Prop := ∀ (X Y : St) (i j : Nat), Rch m e b cf X → Rch m e b cf Y → cd i = cdN X → cd j = cdN Y → (i < x ∧ j < x ∨ i = x ∧ j < y ∨ j = x ∧ i < y) → nb (cdN (mt m e b X Y).1) ≠ -1 ∧ nb (cdN (mt m e b X Y).2) ≠ -1
theorem CloP.ext {m e b : Int} {cf nb cd nb' cd' : Nat → Int} {n n' x y : Nat} (h : CloP m e b cf nb cd x y) (hx : Ext nb cd n nb' cd' n') (hxn : x < n ∨ (x ≤ n ∧ y = 0)) (hy : y ≤ n) : CloP m e b cf nb' cd' x y := by
  intro X Y i j hX hY hi hj hij
  have hin : i < n := by omega
  have hjn : j < n := by omega
  rw [hx.2.1 i hin] at hi
  rw [hx.2.1 j hjn] at hj
  obtain ⟨a, c⟩ := h X Y i j hX hY hi hj hij
  exact ⟨by rw [hx.1 _ a]; exact a, by rw [hx.1 _ c]; exact c⟩
def BgP (m e b : Int) (cf nb : Nat → Int) (l : Nat) : Prop := ∀ k, k < l → nb (cdN (bgn m e (cf k))) ≠ -1
/-- both of a pair learned -/
theorem lrn2 {m e b : Int} {cf nb cd : Nat → Int} {n : Nat} {x z : St} (ha : okA m e b) (hcf : ∀ l, l < 8 → -b ≤ cf l ∧ cf l ≤ b) (h : TIn m e b cf nb cd n) (hx : Rch m e b cf x) (hz : Rch m e b cf z) :
    ∃ nb' cd' n', nb' = lrnB (lrnB nb n (cdN x)) (lrnN nb n (cdN x)) (cdN z) ∧ cd' = lrnD (lrnB nb n (cdN x)) (lrnD nb cd n (cdN x)) (lrnN nb n (cdN x)) (cdN z) ∧ n' = lrnN (lrnB nb n (cdN x)) (lrnN nb n (cdN x)) (cdN z) ∧ TIn m e b cf nb' cd' n' ∧ Ext nb cd n nb' cd' n' ∧ nb' (cdN x) ≠ -1 ∧ nb' (cdN z) ≠ -1 := by
  obtain ⟨a1, a2, a3, a4, a5⟩ := h.lrn ha hcf hx
  obtain ⟨b1, b2, b3, b4, b5⟩ := a1.lrn ha hcf hz
  exact ⟨_, _, _, rfl, rfl, rfl, b1, Ext.tr ⟨a3, a4, a5⟩ ⟨b3, b4, b5⟩, by rw [b3 _ a2]; exact a2, b2⟩
theorem k_findStates (σ : Wd) (o : Nat) (m e b s0 : Int) (nb0 cd0 cf : Nat → Int) (ha : okA m e b) (hcf : ∀ l, l < 8 → -b ≤ cf l ∧ cf l ≤ b) (hcf2 : ∀ l, l < 8 → -20 ≤ cf l ∧ cf l ≤ 20) (hA : σ o = some (obA o m e b s0)) (hC : σ (o + 1) = some (AI 8 cf)) (h2 : σ (o + 2) = some (AI 256 cd0)) (h3 : σ (o + 3) = some (AI 256 nb0)) :
    KX0_findStates [.ref o] σ (fun r u => ∃ nb cd n, r = none ∧ u = W3 σ o m e b nb cd n ∧ TIn m e b cf nb cd n ∧ ∀ x, Rch m e b cf x → nb (cdN x) ≠ -1) NX := by
  refine Ct.intro (by decide) (Nat.le_of_ble_eq_true rfl) ?_
  obtain ⟨Q, hQ⟩ : ∃ Q : Option Value → Wd → Prop, Q = fun r u => ∃ nb cd n, r = none ∧ u = W3 σ o m e b nb cd n ∧ TIn m e b cf nb cd n ∧ ∀ x, Rch m e b cf x → nb (cdN x) ≠ -1 := ⟨_, rfl⟩
  rw [← hQ]
  have hm : 0 ≤ m ∧ m ≤ 16 := by unfold okA at ha; omega
  have he : -20 ≤ e ∧ e ≤ 20 := by unfold okA at ha; omega
  have nbr : ∀ {nb cd : Nat → Int} {n c : Nat}, TIn m e b cf nb cd n → c < 256 → -1 ≤ nb c ∧ nb c ≤ 256 := fun h hc => by
    have := h.le ha hcf
    rcases h.2 _ hc with q | ⟨k, q1, q2, -⟩
    · omega
    · omega
  have hC3 : ∀ (nb cd : Nat → Int) (n : Nat), W3 σ o m e b nb cd n (o + 1) = some (AI 8 cf) := fun nb cd n => (W3_x (by omega) (by omega) (by omega)).trans hC
  -- the pairs
  have H2 : ∀ x : Nat, x ≤ 256 → ∀ (nb cd : Nat → Int) (n : Nat) (o2 : Option Value), TIn m e b cf nb cd n → BgP m e b cf nb 8 → x ≤ n → CloP m e b cf nb cd x 0 → PX0_findStates Q NX 38 [some (.ref o), some (.int (iI x)), o2] [] (W3 σ o m e b nb cd n) 0 0 := by
    have hend : ∀ (x : Nat) (nb cd : Nat → Int) (n : Nat) (o2 : Option Value), n ≤ x → TIn m e b cf nb cd n → BgP m e b cf nb 8 → CloP m e b cf nb cd x 0 → PX0_findStates Q NX 112 [some (.ref o), some (.int (iI x)), o2] [] (W3 σ o m e b nb cd n) 0 0 := by
      intro x nb cd n o2 hxn hT hB hC
      refine z_vret dX0_findStates_112 rfl (by decide) (by decide) ?_
      rw [hQ]
      refine ⟨nb, cd, n, rfl, rfl, hT, fun X hX => ?_⟩
      refine (hX (fun z => Rch m e b cf z ∧ nb (cdN z) ≠ -1) (fun l hl => ⟨Rch_b hl, hB l hl⟩) (fun z w hz hw => ?_)).2
      have lz := cdN_lt (okM_rg ha (Rch_ok ha hcf hz.1))
      have lw := cdN_lt (okM_rg ha (Rch_ok ha hcf hw.1))
      obtain ⟨i, i1, i2, i3⟩ := (hT.2 _ lz).resolve_left hz.2
      obtain ⟨j, j1, j2, j3⟩ := (hT.2 _ lw).resolve_left hw.2
      obtain ⟨c1, c2⟩ := hC z w i j hz.1 hw.1 i3 j3 (Or.inl ⟨by omega, by omega⟩)
      have r := Rch_m hz.1 hw.1
      exact ⟨⟨r.1, c1⟩, ⟨r.2, c2⟩⟩
    refine up_to 256 ?_ ?_
    · intro nb cd n o2 hT hB hxn hCl
      have hn := hT.le ha hcf
      refine z_iload_n dX0_findStates_38 rfl ?_
      refine z_aload_n dX0_findStates_39 rfl ?_
      refine z_getf cls0 7 flX0_87 dX0_findStates_40 (by decide) (W3_o) rfl ?_
      refine i_icmp_ge (tgt := 112) dX0_findStates_43 (by decide) (by omega) (by omega) (fun h1 => ?_) (fun h1 => ?_)
      · skip
        exact hend 256 nb cd n o2 (by omega) hT hB hCl
      · skip
        refine z_iload_n dX0_findStates_46 rfl ?_
        refine i_sipush dX0_findStates_47 (by decide) ?_
        refine i_icmp_ge (tgt := 112) dX0_findStates_50 (by decide) (by omega) (by omega) (fun h4 => ?_) (fun h4 => ?_)
        · skip
          exact hend 256 nb cd n o2 (by omega) hT hB hCl
        · skip
          omega
    · intro x hx ih nb cd n o2 hT hB hxn hCl
      have hn := hT.le ha hcf
      refine z_iload_n dX0_findStates_38 rfl ?_
      refine z_aload_n dX0_findStates_39 rfl ?_
      refine z_getf cls0 7 flX0_87 dX0_findStates_40 (by decide) (W3_o) rfl ?_
      refine i_icmp_ge (tgt := 112) dX0_findStates_43 (by decide) (by omega) (by omega) (fun h1 => ?_) (fun h1 => ?_)
      · skip
        exact hend x nb cd n o2 (by omega) hT hB hCl
      · skip
        refine z_iload_n dX0_findStates_46 rfl ?_
        refine i_sipush dX0_findStates_47 (by decide) ?_
        refine i_icmp_ge (tgt := 112) dX0_findStates_50 (by decide) (by omega) (by omega) (fun h4 => ?_) (fun h4 => ?_)
        · skip
          omega
        · skip
          refine i_iconst dX0_findStates_53 rfl ?_
          refine z_istore_n dX0_findStates_54 (by decide) ?_
          have H3 : ∀ y : Nat, y ≤ x + 1 → ∀ (nb cd : Nat → Int) (n : Nat), TIn m e b cf nb cd n → BgP m e b cf nb 8 → x < n → CloP m e b cf nb cd x y → PX0_findStates Q NX 55 [some (.ref o), some (.int (iI x)), some (.int (iI y))] [] (W3 σ o m e b nb cd n) 0 0 := by
            refine up_to (x + 1) ?_ ?_
            · intro nb cd n hT hB hxn hCl
              refine z_iload_n dX0_findStates_55 rfl ?_
              refine z_iload_n dX0_findStates_56 rfl ?_
              refine i_icmp_gt (tgt := 106) dX0_findStates_57 (by decide) (by omega) (by omega) (fun h5 => ?_) (fun h5 => ?_)
              · skip
                refine i_iinc dX0_findStates_106 rfl (by decide) ?_
                refine z_goto (tgt := 38) dX0_findStates_109 (by decide) ?_
                refine ih nb cd n _ hT hB (by omega) ?_
                intro X Y i j hX hY hi hj hij
                exact hCl X Y i j hX hY hi hj (by omega)
              · skip
                omega
            · intro y hy ihy nb cd n hT hB hxn hCl
              have hn := hT.le ha hcf
              refine z_iload_n dX0_findStates_55 rfl ?_
              refine z_iload_n dX0_findStates_56 rfl ?_
              refine i_icmp_gt (tgt := 106) dX0_findStates_57 (by decide) (by omega) (by omega) (fun h5 => ?_) (fun h5 => ?_)
              · skip
                omega
              · skip
                obtain ⟨X, hX, hX1, -⟩ := hT.1 x hxn
                obtain ⟨Y, hY, hY1, -⟩ := hT.1 y (by omega)
                have oX := Rch_ok ha hcf hX
                have oY := Rch_ok ha hcf hY
                have r1 := Rch_m hX hY
                have r2 := Rch_m hY hX
                obtain ⟨nb1, cd1, n1, e1, e2, e3, hT1, hE1, g1, g2⟩ := lrn2 ha hcf hT r1.1 r1.2
                obtain ⟨nb2, cd2, n2, e4, e5, e6, hT2, hE2, g3, g4⟩ := lrn2 ha hcf hT1 r2.1 r2.2
                have hX2 : cd1 x = cdN X := by rw [hE1.2.1 x hxn]; exact hX1
                have hY2 : cd1 y = cdN Y := by rw [hE1.2.1 y (by omega)]; exact hY1
                refine z_aload_n dX0_findStates_60 rfl ?_
                refine z_aload_n dX0_findStates_61 rfl ?_
                refine z_aload_n dX0_findStates_62 rfl ?_
                refine z_getf cls0 4 flX0_17 dX0_findStates_63 (by decide) (W3_o) rfl ?_
                refine z_iload_n dX0_findStates_66 rfl ?_
                refine i_iald dX0_findStates_67 (W3_2) x (by omega) (by omega) ?_
                refine z_aload_n dX0_findStates_68 rfl ?_
                refine z_getf cls0 4 flX0_17 dX0_findStates_69 (by decide) (W3_o) rfl ?_
                refine z_iload_n dX0_findStates_72 rfl ?_
                refine i_iald dX0_findStates_73 (W3_2) y (by omega) (by omega) ?_
                rw [hX1, hY1]
                refine i_cVr (k_afterMeeting o m e b n X Y ha oX oY _ W3_o) mX0_97 dX0_findStates_74 (W3_o) rfl rfl rfl ⟨by decide, by decide⟩ (Nat.le_of_ble_eq_true rfl) ⟨by decide, by decide⟩ ?_
                refine i_cVv (k_learnBoth σ o m e b nb cd cf n _ _ ha hcf hT r1.1 r1.2) mX0_100 dX0_findStates_77 (W3_o) rfl rfl rfl ⟨by decide, by decide⟩ (Nat.le_of_ble_eq_true rfl) ⟨by decide, by decide⟩ ?_
                rw [← e1, ← e2, ← e3]
                refine z_aload_n dX0_findStates_80 rfl ?_
                refine z_aload_n dX0_findStates_81 rfl ?_
                refine z_aload_n dX0_findStates_82 rfl ?_
                refine z_getf cls0 4 flX0_17 dX0_findStates_83 (by decide) (W3_o) rfl ?_
                refine z_iload_n dX0_findStates_86 rfl ?_
                refine i_iald dX0_findStates_87 (W3_2) y (by omega) (by omega) ?_
                refine z_aload_n dX0_findStates_88 rfl ?_
                refine z_getf cls0 4 flX0_17 dX0_findStates_89 (by decide) (W3_o) rfl ?_
                refine z_iload_n dX0_findStates_92 rfl ?_
                refine i_iald dX0_findStates_93 (W3_2) x (by omega) (by omega) ?_
                rw [hX2, hY2]
                refine i_cVr (k_afterMeeting o m e b n1 Y X ha oY oX _ W3_o) mX0_97 dX0_findStates_94 (W3_o) rfl rfl rfl ⟨by decide, by decide⟩ (Nat.le_of_ble_eq_true rfl) ⟨by decide, by decide⟩ ?_
                refine i_cVv (k_learnBoth σ o m e b nb1 cd1 cf n1 _ _ ha hcf hT1 r2.1 r2.2) mX0_100 dX0_findStates_97 (W3_o) rfl rfl rfl ⟨by decide, by decide⟩ (Nat.le_of_ble_eq_true rfl) ⟨by decide, by decide⟩ ?_
                rw [← e4, ← e5, ← e6]
                have hE := hE1.tr hE2
                refine i_iinc dX0_findStates_100 rfl (by decide) ?_
                refine z_goto (tgt := 55) dX0_findStates_103 (by decide) ?_
                refine ihy nb2 cd2 n2 hT2 (fun k hk => by rw [hE.1 _ (hB k hk)]; exact hB k hk) (Nat.lt_of_lt_of_le hxn hE.2.2) ?_
                have hC0 := hCl.ext hE (Or.inl hxn) (by omega)
                intro X' Y' i j hX' hY' hi hj hij
                by_cases q : i < x ∧ j < x ∨ i = x ∧ j < y ∨ j = x ∧ i < y
                · exact hC0 X' Y' i j hX' hY' hi hj q
                · have q2 : (i = x ∧ j = y) ∨ (j = x ∧ i = y) := by omega
                  rcases q2 with ⟨rfl, rfl⟩ | ⟨rfl, rfl⟩
                  · have a1 : X' = X := cdN_inj (okM_rg ha (Rch_ok ha hcf hX')) (okM_rg ha oX) (by rw [hE.2.1 _ hxn, hX1] at hi; omega)
                    have a2 : Y' = Y := cdN_inj (okM_rg ha (Rch_ok ha hcf hY')) (okM_rg ha oY) (by rw [hE.2.1 _ (by omega), hY1] at hj; omega)
                    rw [a1, a2]
                    exact ⟨by rw [hE2.1 _ g1]; exact g1, by rw [hE2.1 _ g2]; exact g2⟩
                  · have a1 : X' = Y := cdN_inj (okM_rg ha (Rch_ok ha hcf hX')) (okM_rg ha oY) (by rw [hE.2.1 _ (by omega), hY1] at hi; omega)
                    have a2 : Y' = X := cdN_inj (okM_rg ha (Rch_ok ha hcf hY')) (okM_rg ha oX) (by rw [hE.2.1 _ hxn, hX1] at hj; omega)
                    rw [a1, a2]
                    exact ⟨g3, g4⟩
          exact H3 0 (by omega) nb cd n hT hB (by omega) (fun X Y i j hX hY hi hj hij => hCl X Y i j hX hY hi hj (by omega))
  -- the beginnings
  have H1 : ∀ l : Nat, l ≤ 8 → ∀ (nb cd : Nat → Int) (n : Nat), TIn m e b cf nb cd n → BgP m e b cf nb l → PX0_findStates Q NX 15 [some (.ref o), some (.int (iI l)), none] [] (W3 σ o m e b nb cd n) 0 0 := by
    refine up_to 8 ?_ ?_
    · intro nb cd n hT hB
      refine z_iload_n dX0_findStates_15 rfl ?_
      refine i_bipush dX0_findStates_16 (by decide) ?_
      refine i_icmp_ge (tgt := 36) dX0_findStates_18 (by decide) (by omega) (by omega) (fun h1 => ?_) (fun h1 => ?_)
      · skip
        refine i_iconst dX0_findStates_36 rfl ?_
        refine z_istore_n dX0_findStates_37 (by decide) ?_
        exact H2 0 (by omega) nb cd n _ hT hB (by omega) (fun X Y i j hX hY hi hj hij => by omega)
      · skip
        omega
    · intro l hl ih nb cd n hT hB
      have hR : Rch m e b cf (bgn m e (cf l)) := Rch_b hl
      have lR := cdN_lt (okM_rg ha (Rch_ok ha hcf hR))
      obtain ⟨a1, a2, a3, a4, a5⟩ := hT.lrn ha hcf hR
      refine z_iload_n dX0_findStates_15 rfl ?_
      refine i_bipush dX0_findStates_16 (by decide) ?_
      refine i_icmp_ge (tgt := 36) dX0_findStates_18 (by decide) (by omega) (by omega) (fun h1 => ?_) (fun h1 => ?_)
      · skip
        omega
      · skip
        refine z_aload_n dX0_findStates_21 rfl ?_
        refine z_aload_n dX0_findStates_22 rfl ?_
        refine z_iload_n dX0_findStates_23 rfl ?_
        refine i_cVr (k_beginning o m e b n cf l hm he hl (hcf2 l hl) _ W3_o (hC3 nb cd n)) mX0_90 dX0_findStates_24 (W3_o) rfl rfl rfl ⟨by decide, by decide⟩ (Nat.le_of_ble_eq_true rfl) ⟨by decide, by decide⟩ ?_
        refine i_cVv (k_learn σ o m e b nb cd n _ lR (hT.le ha hcf) (hT.lt ha hcf lR) (nbr hT lR)) mX0_93 dX0_findStates_27 (W3_o) rfl rfl rfl ⟨by decide, by decide⟩ (Nat.le_of_ble_eq_true rfl) ⟨by decide, by decide⟩ ?_
        refine i_iinc dX0_findStates_30 rfl (by decide) ?_
        refine z_goto (tgt := 15) dX0_findStates_33 (by decide) ?_
        refine ih _ _ _ a1 (fun k hk => ?_)
        by_cases q : k = l
        · rw [q]; exact a2
        · have := hB k (by omega)
          rw [a3 _ this]; exact this
  refine z_aload_n dX0_findStates_0 rfl ?_
  refine z_getf cls0 5 flX0_20 dX0_findStates_1 (by decide) (hA) rfl ?_
  refine i_iconst dX0_findStates_4 rfl ?_
  refine i_cSv (k_fill (o + 3) 256 nb0 (-1) (by omega) σ h3) mX0_81 dX0_findStates_5 rfl rfl ⟨by decide, by decide⟩ (Nat.le_of_ble_eq_true rfl) ⟨by decide, by decide⟩ ?_
  refine z_aload_n dX0_findStates_8 rfl ?_
  refine i_iconst dX0_findStates_9 rfl ?_
  refine i_puti cls0 7 flX0_87 dX0_findStates_10 (by decide) rfl rfl ((up_ne _ _ (by omega)).trans hA) (Nat.le_of_ble_eq_true rfl) ?_
  refine i_iconst dX0_findStates_13 rfl ?_
  refine z_istore_n dX0_findStates_14 (by decide) ?_
  refine z_eqw ?_ (H1 0 (by omega) (fun _ => -1) cd0 0 ⟨fun k hk => absurd hk (Nat.not_lt_zero k), fun c _ => Or.inl rfl⟩ (fun k hk => absurd hk (Nat.not_lt_zero k)))
  unfold W3
  rw [up_id (σ := up σ o (obA o m e b ((0 : Nat) : Int))) (o := o + 2) (by rw [up_ne _ _ (by omega)]; exact h2)]
  exact up_comm _ _ _ (show o + 3 ≠ o by omega)

