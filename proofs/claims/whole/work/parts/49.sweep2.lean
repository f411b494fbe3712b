theorem k_sweepOnce (σ : Wd) (cnt f s : Nat) (fa : Nat → Nat) (ag : Nat → Nat → St) (nc ac : Nat) (cp : Bool) (op lf rt M E B S : Nat → Int) (CF CD NB FR : Nat → Nat → Int) (hc : cnt ≤ 200) (hac : ac ≤ 5) (hok : okAs ac M E B CF) (hF : FX σ nc ac cp op lf rt M E B S CF CD NB FR) (h7 : σ 7 = some (obC cnt)) (hag : AG ac cnt fa ag) (hok2 : okC ac M B cnt ag) :
    KX2_sweepOnce [.ref 7] (WC σ fa f s) (fun r u => ∃ (fa' : Nat → Nat) (f' s' : Nat), r = some (.int (iI ((swA ac M E B cnt ag).2 : Nat))) ∧ u = WC σ fa' f' s' ∧ AG ac cnt fa' (swA ac M E B cnt ag).1) NX := by
  refine Ct.intro (by decide) (Nat.le_of_ble_eq_true rfl) ?_
  obtain ⟨Q, hQ⟩ : ∃ Q : Option Value → Wd → Prop, Q = fun r u => ∃ (fa' : Nat → Nat) (f' s' : Nat), r = some (.int (iI ((swA ac M E B cnt ag).2 : Nat))) ∧ u = WC σ fa' f' s' ∧ AG ac cnt fa' (swA ac M E B cnt ag).1 := ⟨_, rfl⟩
  rw [← hQ]
  have g7 : ∀ (fa : Nat → Nat) (f s : Nat), WC σ fa f s 7 = some (obC cnt) := fun fa f s => (WC_x (by decide) (by decide)).trans h7
  have hb : ∀ i, i ≤ cnt → (swO ac M E B cnt i (ag, 0)).2 ≤ 40000 := fun i hi => by
    have := (swO_cnt (ac := ac) (M := M) (E := E) (B := B) (cnt := cnt) i (ag, 0)).2
    have h2 : cnt * i ≤ 200 * 200 := Nat.mul_le_mul hc (by omega)
    have h3 : ((ag, 0) : GS).2 = 0 := rfl
    omega
  have H : ∀ (le : Nat), le ≤ cnt → (∀ j, le ≤ j → j < cnt → noL ac (ag j)) → ∀ i : Nat, i ≤ cnt → ∀ (fa : Nat → Nat) (f s : Nat) (o4 o5 : Option Value), AG ac cnt fa (swO ac M E B cnt i (ag, 0)).1 → PX2_sweepOnce Q NX 9 [some (.ref 7), some (.int (iI ((swO ac M E B cnt i (ag, 0)).2 : Nat))), some (.int (iI le)), some (.int (iI i)), o4, o5] [] (WC σ fa f s) 0 0 := by
    intro le hle hnl
    refine up_to cnt ?_ ?_
    · intro fa f s o4 o5 hag
      refine z_iload_n dX2_sweepOnce_9 rfl ?_
      refine z_aload_n dX2_sweepOnce_10 rfl ?_
      refine z_getf cls1 4 flX2_38 dX2_sweepOnce_11 (by decide) (g7 _ _ _) rfl ?_
      refine i_icmp_ge (tgt := 76) dX2_sweepOnce_14 (by decide) (by omega) (by omega) (fun h1 => ?_) (fun h1 => ?_)
      · skip
        refine z_iload_n dX2_sweepOnce_76 rfl ?_
        exact z_iret dX2_sweepOnce_77 rfl (by decide) (by decide) (by rw [hQ]; exact ⟨fa, f, s, rfl, rfl, hag⟩)
      · skip
        omega
    · intro i hi ih fa f s o4 o5 hag
      obtain ⟨s0, hs0⟩ : ∃ s0 : GS, s0 = swO ac M E B cnt i (ag, 0) := ⟨_, rfl⟩
      have ok0 : okC ac M B cnt s0.1 := by rw [hs0]; exact swO_ok hok i _ (by omega) hok2
      have hb0 : s0.2 ≤ 40000 := by rw [hs0]; exact hb i (by omega)
      have ihe : swO ac M E B cnt (i + 1) (ag, 0) = swR ac M E B i (cnt - (i + 1)) s0 := by rw [hs0]; rfl
      rw [ihe] at ih
      rw [← hs0] at hag ⊢
      have Hin : ∀ en : Nat, en ≤ cnt → swR ac M E B i (cnt - (i + 1)) s0 = swR ac M E B i (en - (i + 1)) s0 → ∀ k : Nat, k ≤ en - (i + 1) → ∀ (fa : Nat → Nat) (f s : Nat), AG ac cnt fa (swR ac M E B i k s0).1 → PX2_sweepOnce Q NX 44 [some (.ref 7), some (.int (iI ((swR ac M E B i k s0).2 : Nat))), some (.int (iI le)), some (.int (iI i)), some (.int (iI en)), some (.int (iI (i + 1 + k : Nat)))] [] (WC σ fa f s) 0 0 := by
        intro en hen hskip
        refine up_to (en - (i + 1)) ?_ ?_
        · intro fa f s hag
          refine z_iload dX2_sweepOnce_44 rfl ?_
          refine z_iload dX2_sweepOnce_46 rfl ?_
          refine i_icmp_ge (tgt := 70) dX2_sweepOnce_48 (by decide) (by omega) (by omega) (fun h2 => ?_) (fun h2 => ?_)
          · skip
            refine i_iinc dX2_sweepOnce_70 rfl (by decide) ?_
            refine z_goto (tgt := 9) dX2_sweepOnce_73 (by decide) ?_
            rw [hskip] at ih
            exact ih fa f s _ _ hag
          · skip
            omega
        · intro k hk ihk fa f s hag
          have okk : okC ac M B cnt (swR ac M E B i k s0).1 := swR_ok hok hi k s0 (by omega) ok0
          have hck := swR_cnt (ac := ac) (M := M) (E := E) (B := B) (i := i) k s0
          refine z_iload dX2_sweepOnce_44 rfl ?_
          refine z_iload dX2_sweepOnce_46 rfl ?_
          refine i_icmp_ge (tgt := 70) dX2_sweepOnce_48 (by decide) (by omega) (by omega) (fun h2 => ?_) (fun h2 => ?_)
          · skip
            omega
          · skip
            refine z_aload_n dX2_sweepOnce_51 rfl ?_
            refine z_iload_n dX2_sweepOnce_52 rfl ?_
            refine z_iload dX2_sweepOnce_53 rfl ?_
            refine i_cVr (k_bringTogether σ cnt i (i + 1 + k) f s fa (swR ac M E B i k s0).1 nc ac cp op lf rt M E B S CF CD NB FR hc hi (by omega) hac hok hF h7 hag okk) mX2_72 dX2_sweepOnce_55 (g7 _ _ _) rfl rfl rfl ⟨by decide, by decide⟩ (Nat.le_of_ble_eq_true rfl) ⟨by decide, by decide⟩ ?_
            have hag' := AG_mtg (M := M) (E := E) (B := B) hag i (i + 1 + k)
            have e2 : (swR ac M E B i (k + 1) s0).2 = (swR ac M E B i k s0).2 + chN (chg ac M E B ((swR ac M E B i k s0).1 i) ((swR ac M E B i k s0).1 (i + 1 + k))) := rfl
            refine i_ifb_eq (tgt := 64) dX2_sweepOnce_58 (by decide) (fun h3 => ?_) (fun h3 => ?_)
            · skip
              refine i_iinc dX2_sweepOnce_64 rfl (by decide) ?_
              refine z_goto (tgt := 44) dX2_sweepOnce_67 (by decide) ?_
              rw [h3] at e2
              simp only [e2] at ihk
              exact ihk _ _ _ hag'
            · skip
              refine i_iinc dX2_sweepOnce_61 rfl (by decide) ?_
              refine i_iinc dX2_sweepOnce_64 rfl (by decide) ?_
              refine z_goto (tgt := 44) dX2_sweepOnce_67 (by decide) ?_
              rw [h3] at e2
              simp only [e2] at ihk
              exact ihk _ _ _ hag'
      refine z_iload_n dX2_sweepOnce_9 rfl ?_
      refine z_aload_n dX2_sweepOnce_10 rfl ?_
      refine z_getf cls1 4 flX2_38 dX2_sweepOnce_11 (by decide) (g7 _ _ _) rfl ?_
      refine i_icmp_ge (tgt := 76) dX2_sweepOnce_14 (by decide) (by omega) (by omega) (fun h1 => ?_) (fun h1 => ?_)
      · skip
        omega
      · skip
        refine z_aload_n dX2_sweepOnce_17 rfl ?_
        refine z_getf cls1 2 flX2_9 dX2_sweepOnce_18 (by decide) (g7 _ _ _) rfl ?_
        refine z_iload_n dX2_sweepOnce_21 rfl ?_
        refine i_lald dX2_sweepOnce_22 (WC_8) i (by omega) (by omega) ?_
        rw [hag i hi]
        have ri := (ok0 i hi).rg hok
        refine i_cSr (k_X1_leadsSomewhere _ (pkC_lt hac ri) _) mX2_66 dX2_sweepOnce_23 rfl rfl ⟨by decide, by decide⟩ (Nat.le_of_ble_eq_true rfl) ⟨by decide, by decide⟩ ?_
        refine i_ifb_eq (tgt := 36) dX2_sweepOnce_26 (by decide) (fun h2 => ?_) (fun h2 => ?_)
        · skip
          refine z_iload_n dX2_sweepOnce_36 rfl ?_
          refine z_istore dX2_sweepOnce_37 (by decide) ?_
          refine z_iload_n dX2_sweepOnce_39 rfl ?_
          refine i_iconst dX2_sweepOnce_40 rfl ?_
          refine i_iadd dX2_sweepOnce_41 ?_
          refine z_istore dX2_sweepOnce_42 (by decide) ?_
          have ni : noL ac (s0.1 i) := fun a ha => ld_no hac ri h2 ha
          refine Hin le hle ?_ 0 (by omega) fa f s hag
          refine swR_skip hok hi ok0 ni (fun j h3 h4 => ?_) _ (by omega) (by omega)
          rw [hs0]
          exact swO_nl i _ (hnl j (by omega) h4)
        · skip
          refine z_aload_n dX2_sweepOnce_29 rfl ?_
          refine z_getf cls1 4 flX2_38 dX2_sweepOnce_30 (by decide) (g7 _ _ _) rfl ?_
          refine z_goto (tgt := 37) dX2_sweepOnce_33 (by decide) ?_
          refine z_istore dX2_sweepOnce_37 (by decide) ?_
          refine z_iload_n dX2_sweepOnce_39 rfl ?_
          refine i_iconst dX2_sweepOnce_40 rfl ?_
          refine i_iadd dX2_sweepOnce_41 ?_
          refine z_istore dX2_sweepOnce_42 (by decide) ?_
          exact Hin cnt (Nat.le_refl _) rfl 0 (by omega) fa f s hag
  refine i_iconst dX2_sweepOnce_0 rfl ?_
  refine z_istore_n dX2_sweepOnce_1 (by decide) ?_
  refine z_aload_n dX2_sweepOnce_2 rfl ?_
  refine z_callVX (k_behindLastLeader _ cnt fa ag ac hc hac (g7 _ _ _) WC_8 hag (fun i hi => (hok2 i hi).rg hok)) mX2_63 dX2_sweepOnce_3 (g7 _ _ _) rfl rfl rfl ⟨by decide, by decide⟩ (Nat.le_of_ble_eq_true rfl) ⟨by decide, by decide⟩ (fun _ _ h => h.elim) (fun r u hq => ?_)
  obtain ⟨le, h1, rfl, rfl, h2⟩ := hq
  refine z_istore_n dX2_sweepOnce_6 (by decide) ?_
  refine i_iconst dX2_sweepOnce_7 rfl ?_
  refine z_istore_n dX2_sweepOnce_8 (by decide) ?_
  exact H le h1 h2 0 (by omega) fa f s none none hag
theorem swT_s (ac : Nat) (M E B : Nat → Int) (cnt t : Nat) (ag : Nat → Nat → St) : swT ac M E B cnt (t + 1) ag = if (swA ac M E B cnt ag).2 = 0 then swA ac M E B cnt ag else ((swT ac M E B cnt t (swA ac M E B cnt ag).1).1, (swA ac M E B cnt ag).2 + (swT ac M E B cnt t (swA ac M E B cnt ag).1).2) := rfl
theorem swA_ok {ac : Nat} {M E B : Nat → Int} {CF : Nat → Nat → Int} {cnt : Nat} (hA : okAs ac M E B CF) {ag : Nat → Nat → St} (h : okC ac M B cnt ag) : okC ac M B cnt (swA ac M E B cnt ag).1 := swO_ok hA cnt _ (Nat.le_refl _) h
theorem swA_le {ac : Nat} {M E B : Nat → Int} {cnt : Nat} (hc : cnt ≤ 200) (ag : Nat → Nat → St) : (swA ac M E B cnt ag).2 ≤ 40000 := by
  have := (swO_cnt (ac := ac) (M := M) (E := E) (B := B) (cnt := cnt) cnt (ag, 0)).2
  have h2 : cnt * cnt ≤ 200 * 200 := Nat.mul_le_mul hc hc
  have h3 : ((ag, 0) : GS).2 = 0 := rfl
  unfold swA
  omega
theorem swT_le {ac : Nat} {M E B : Nat → Int} {cnt : Nat} (hc : cnt ≤ 200) : ∀ t ag, (swT ac M E B cnt t ag).2 ≤ 40000 * t
  | 0, ag => Nat.le_refl _
  | t + 1, ag => by
    have h1 := swA_le (ac := ac) (M := M) (E := E) (B := B) hc ag
    have ih := swT_le (ac := ac) (M := M) (E := E) (B := B) hc t (swA ac M E B cnt ag).1
    unfold swT
    split
    · omega
    · show (swA ac M E B cnt ag).2 + _ ≤ _
      omega
theorem swT_ok {ac : Nat} {M E B : Nat → Int} {CF : Nat → Nat → Int} {cnt : Nat} (hA : okAs ac M E B CF) : ∀ t ag, okC ac M B cnt ag → okC ac M B cnt (swT ac M E B cnt t ag).1
  | 0, ag, h => h
  | t + 1, ag, h => by
    have h1 := swA_ok hA h
    unfold swT
    split
    · exact h1
    · exact swT_ok hA t _ h1
theorem k_sweepOften (σ : Wd) (cnt f s times : Nat) (fa : Nat → Nat) (ag : Nat → Nat → St) (nc ac : Nat) (cp : Bool) (op lf rt M E B S : Nat → Int) (CF CD NB FR : Nat → Nat → Int) (ht : times ≤ 500) (hc : cnt ≤ 200) (hac : ac ≤ 5) (hok : okAs ac M E B CF) (hF : FX σ nc ac cp op lf rt M E B S CF CD NB FR) (h7 : σ 7 = some (obC cnt)) (hag : AG ac cnt fa ag) (hok2 : okC ac M B cnt ag) :
    KX2_sweepOften [.ref 7, .int (iI times)] (WC σ fa f s) (fun r u => ∃ (fa' : Nat → Nat) (f' s' : Nat), r = some (.int (iI ((swT ac M E B cnt times ag).2 : Nat))) ∧ u = WC σ fa' f' s' ∧ AG ac cnt fa' (swT ac M E B cnt times ag).1) NX := by
  refine Ct.intro (by decide) (Nat.le_of_ble_eq_true rfl) ?_
  obtain ⟨Q, hQ⟩ : ∃ Q : Option Value → Wd → Prop, Q = fun r u => ∃ (fa' : Nat → Nat) (f' s' : Nat), r = some (.int (iI ((swT ac M E B cnt times ag).2 : Nat))) ∧ u = WC σ fa' f' s' ∧ AG ac cnt fa' (swT ac M E B cnt times ag).1 := ⟨_, rfl⟩
  rw [← hQ]
  have g7 : ∀ (fa : Nat → Nat) (f s : Nat), WC σ fa f s 7 = some (obC cnt) := fun fa f s => (WC_x (by decide) (by decide)).trans h7
  have H : ∀ t : Nat, t ≤ times → ∀ (c : Nat) (ag' : Nat → Nat → St) (fa : Nat → Nat) (f s : Nat) (o4 : Option Value), AG ac cnt fa ag' → okC ac M B cnt ag' → (swT ac M E B cnt times ag).1 = (swT ac M E B cnt (times - t) ag').1 → (swT ac M E B cnt times ag).2 = c + (swT ac M E B cnt (times - t) ag').2 → PX2_sweepOften Q NX 4 [some (.ref 7), some (.int (iI times)), some (.int (iI c)), some (.int (iI t)), o4] [] (WC σ fa f s) 0 0 := by
    have hend : ∀ (c : Nat) (fa : Nat → Nat) (f s : Nat) (o3 o4 : Option Value), (swT ac M E B cnt times ag).2 = c → AG ac cnt fa (swT ac M E B cnt times ag).1 → PX2_sweepOften Q NX 34 [some (.ref 7), some (.int (iI times)), some (.int (iI c)), o3, o4] [] (WC σ fa f s) 0 0 := by
      intro c fa f s o3 o4 hc2 hag
      refine z_iload_n dX2_sweepOften_34 rfl ?_
      exact z_iret dX2_sweepOften_35 rfl (by decide) (by decide) (by rw [hQ]; exact ⟨fa, f, s, by rw [hc2], rfl, hag⟩)
    refine up_to times ?_ ?_
    · intro c ag' fa f s o4 hag hok3 e1 e2
      rw [Nat.sub_self] at e1 e2
      refine z_iload_n dX2_sweepOften_4 rfl ?_
      refine z_iload_n dX2_sweepOften_5 rfl ?_
      refine i_icmp_ge (tgt := 34) dX2_sweepOften_6 (by decide) (by omega) (by omega) (fun h1 => ?_) (fun h1 => ?_)
      · skip
        exact hend c fa f s _ _ e2 (by rw [e1]; exact hag)
      · skip
        omega
    · intro t ht2 ih c ag' fa f s o4 hag hok3 e1 e2
      have hle := swT_le (ac := ac) (M := M) (E := E) (B := B) hc times ag
      have hA1 := swA_le (ac := ac) (M := M) (E := E) (B := B) hc ag'
      rw [show times - t = (times - (t + 1)) + 1 by omega] at e1 e2
      rw [swT_s] at e1 e2
      refine z_iload_n dX2_sweepOften_4 rfl ?_
      refine z_iload_n dX2_sweepOften_5 rfl ?_
      refine i_icmp_ge (tgt := 34) dX2_sweepOften_6 (by decide) (by omega) (by omega) (fun h1 => ?_) (fun h1 => ?_)
      · skip
        omega
      · skip
        refine z_aload_n dX2_sweepOften_9 rfl ?_
        refine z_callVX (k_sweepOnce σ cnt f s fa ag' nc ac cp op lf rt M E B S CF CD NB FR hc hac hok hF h7 hag hok3) mX2_59 dX2_sweepOften_10 (g7 _ _ _) rfl rfl rfl ⟨by decide, by decide⟩ (Nat.le_of_ble_eq_true rfl) ⟨by decide, by decide⟩ (fun _ _ h => h.elim) (fun r u hq => ?_)
        obtain ⟨fa', f', s', rfl, rfl, hag'⟩ := hq
        refine z_istore dX2_sweepOften_13 (by decide) ?_
        refine z_iload dX2_sweepOften_15 rfl ?_
        refine i_if_ne (tgt := 23) dX2_sweepOften_17 (by decide) (by omega) (fun h2 => ?_) (fun h2 => ?_)
        · skip
          rw [if_neg (by omega)] at e1 e2
          have e2 : (swT ac M E B cnt times ag).2 = c + ((swA ac M E B cnt ag').2 + (swT ac M E B cnt (times - (t + 1)) (swA ac M E B cnt ag').1).2) := e2
          refine z_iload_n dX2_sweepOften_23 rfl ?_
          refine z_iload dX2_sweepOften_24 rfl ?_
          refine i_iadd dX2_sweepOften_26 ?_
          refine z_istore_n dX2_sweepOften_27 (by decide) ?_
          refine i_iinc dX2_sweepOften_28 rfl (by decide) ?_
          refine z_goto (tgt := 4) dX2_sweepOften_31 (by decide) ?_
          exact ih (c + (swA ac M E B cnt ag').2) _ fa' f' s' _ hag' (swA_ok hok hok3) e1 (by omega)
        · skip
          rw [if_pos (by omega)] at e1 e2
          refine z_goto (tgt := 34) dX2_sweepOften_20 (by decide) ?_
          exact hend c fa' f' s' _ _ (by omega) (by rw [e1]; exact hag')
  refine i_iconst dX2_sweepOften_0 rfl ?_
  refine z_istore_n dX2_sweepOften_1 (by decide) ?_
  refine i_iconst dX2_sweepOften_2 rfl ?_
  refine z_istore_n dX2_sweepOften_3 (by decide) ?_
  exact H 0 (by omega) 0 ag fa f s none hag hok2 rfl (Nat.zero_add _).symm
theorem k_isQuiet (σ : Wd) (cnt f s : Nat) (fa : Nat → Nat) (ag : Nat → Nat → St) (nc ac : Nat) (cp : Bool) (op lf rt M E B S : Nat → Int) (CF CD NB FR : Nat → Nat → Int) (hc : cnt ≤ 200) (hac : ac ≤ 5) (hok : okAs ac M E B CF) (hF : FX σ nc ac cp op lf rt M E B S CF CD NB FR) (h7 : σ 7 = some (obC cnt)) (h8 : σ 8 = some (AL 200 fa)) (h10 : σ 10 = some (obM f s)) (hag : AG ac cnt fa ag) (hok2 : okC ac M B cnt ag) :
    KX2_isQuiet [.ref 7] σ (fun r u => ∃ f' s', r = some (.int (iI (bI (slB ac M E B ag cnt)))) ∧ u = up σ 10 (obM f' s')) NX := by
  refine Ct.intro (by decide) (Nat.le_of_ble_eq_true rfl) ?_
  refine z_aload_n dX2_isQuiet_0 rfl ?_
  refine z_getf cls1 1 flX2_28 dX2_isQuiet_1 (by decide) (by first | exact h7 | rfl) rfl ?_
  refine z_aload_n dX2_isQuiet_4 rfl ?_
  refine z_getf cls1 2 flX2_9 dX2_isQuiet_5 (by decide) (by first | exact h7 | rfl) rfl ?_
  refine i_iconst dX2_isQuiet_8 rfl ?_
  refine z_aload_n dX2_isQuiet_9 rfl ?_
  refine z_getf cls1 4 flX2_38 dX2_isQuiet_10 (by decide) (by first | exact h7 | rfl) rfl ?_
  refine z_callVX (k_changesNone σ 10 f s 8 200 0 cnt fa nc ac cp op lf rt M E B S CF CD NB FR ag h10 (by omega) hF hac hok h8 (by decide) (by omega) (by omega) (fun i hi => ⟨hok2 i hi, by rw [Nat.zero_add]; exact hag i hi⟩)) mX2_76 dX2_isQuiet_13 h10 rfl rfl rfl ⟨by decide, by decide⟩ (Nat.le_of_ble_eq_true rfl) ⟨by decide, by decide⟩ (fun _ _ h => h.elim) (fun r u hq => ?_)
  obtain ⟨f', s', rfl, rfl⟩ := hq
  exact z_zret dX2_isQuiet_16 rfl (by decide) (by decide) (bI_n _) ⟨f', s', rfl, rfl⟩
/-- all outputs alike -/
def omB (op lf rt : Nat → Int) (nc : Nat) (ag : Nat → Nat → St) (cnt : Nat) : Bool := allB (fun k => fml op lf rt (opA (ag k)) nc == fml op lf rt (opA (ag 0)) nc) cnt
theorem k_isOfOneMind (σ : Wd) (cnt : Nat) (fa : Nat → Nat) (ag : Nat → Nat → St) (nc ac : Nat) (cp : Bool) (op lf rt : Nat → Int) (hc : cnt ≤ 200) (hv : 0 < cnt → (0 < nc ∧ nc ≤ 20) ∧ ac ≤ 5 ∧ ∀ k, k < nc → wfN op lf rt ac k) (h1 : σ 1 = some (obF nc ac cp)) (h3 : σ 3 = some (AI 20 op)) (h4 : σ 4 = some (AI 20 lf)) (h5 : σ 5 = some (AI 20 rt)) (h7 : σ 7 = some (obC cnt)) (h8 : σ 8 = some (AL 200 fa)) (hag : AG ac cnt fa ag) (hr : ∀ i, i < cnt → ∀ a, a < ac → rg (ag i a)) :
    KX2_isOfOneMind [.ref 7] σ (Rt (some (.int (iI (bI (omB op lf rt nc ag cnt))))) σ) NX := by
  refine Ct.intro (by decide) (Nat.le_of_ble_eq_true rfl) ?_
  refine z_aload_n dX2_isOfOneMind_0 rfl ?_
  refine z_getf cls1 4 flX2_38 dX2_isOfOneMind_1 (by decide) (by first | exact h7 | rfl) rfl ?_
  refine i_if_eq (tgt := 39) dX2_isOfOneMind_4 (by decide) (by omega) (fun h2 => ?_) (fun h2 => ?_)
  · skip
    refine i_iconst dX2_isOfOneMind_39 rfl ?_
    refine z_goto (tgt := 44) dX2_isOfOneMind_40 (by decide) ?_
    have e : cnt = 0 := by omega
    exact i_rt dX2_isOfOneMind_44 rfl (by decide) (by decide) (by rw [e]; rfl) rfl
  · skip
    obtain ⟨v1, v2, v3⟩ := hv (by omega)
    refine z_aload_n dX2_isOfOneMind_7 rfl ?_
    refine z_getf cls1 0 flX2_19 dX2_isOfOneMind_8 (by decide) (by first | exact h7 | rfl) rfl ?_
    refine z_aload_n dX2_isOfOneMind_11 rfl ?_
    refine z_getf cls1 0 flX2_19 dX2_isOfOneMind_12 (by decide) (by first | exact h7 | rfl) rfl ?_
    refine z_aload_n dX2_isOfOneMind_15 rfl ?_
    refine z_getf cls1 2 flX2_9 dX2_isOfOneMind_16 (by decide) (by first | exact h7 | rfl) rfl ?_
    refine i_iconst dX2_isOfOneMind_19 rfl ?_
    refine i_lald dX2_isOfOneMind_20 (by first | exact h8 | rfl) 0 (by omega) (by omega) ?_
    rw [hag 0 (by omega)]
    refine i_cVr (k_outputOf σ nc ac cp op lf rt (ag 0) v1 v2 v3 (hr 0 (by omega)) h1 h3 h4 h5) mX2_80 dX2_isOfOneMind_21 (by first | exact h1 | rfl) rfl rfl rfl ⟨by decide, by decide⟩ (Nat.le_of_ble_eq_true rfl) ⟨by decide, by decide⟩ ?_
    refine z_aload_n dX2_isOfOneMind_24 rfl ?_
    refine z_getf cls1 2 flX2_9 dX2_isOfOneMind_25 (by decide) (by first | exact h7 | rfl) rfl ?_
    refine i_iconst dX2_isOfOneMind_28 rfl ?_
    refine z_aload_n dX2_isOfOneMind_29 rfl ?_
    refine z_getf cls1 4 flX2_38 dX2_isOfOneMind_30 (by decide) (by first | exact h7 | rfl) rfl ?_
    refine i_cVr (k_allOutputsAre σ 8 200 0 cnt fa (fml op lf rt (opA (ag 0)) nc) nc ac cp op lf rt ag v1 v2 v3 h1 h3 h4 h5 h8 (by omega) (by omega) (fun i hi => ⟨hr i hi, by rw [Nat.zero_add]; exact hag i hi⟩)) mX2_83 dX2_isOfOneMind_33 (by first | exact h1 | rfl) rfl rfl rfl ⟨by decide, by decide⟩ (Nat.le_of_ble_eq_true rfl) ⟨by decide, by decide⟩ ?_
    refine i_ifb_eq (tgt := 43) dX2_isOfOneMind_36 (by decide) (fun h6 => ?_) (fun h6 => ?_)
    · skip
      refine i_iconst dX2_isOfOneMind_43 rfl ?_
      exact i_rf dX2_isOfOneMind_44 rfl (by decide) (by decide) h6 rfl
    · skip
      refine i_iconst dX2_isOfOneMind_39 rfl ?_
      refine z_goto (tgt := 44) dX2_isOfOneMind_40 (by decide) ?_
      exact i_rt dX2_isOfOneMind_44 rfl (by decide) (by decide) h6 rfl

