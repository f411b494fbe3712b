def allB (p : Nat → Bool) : Nat → Bool
  | 0 => true
  | k + 1 => allB p k && p k
theorem allB_t {p : Nat → Bool} : ∀ n, allB p n = true ↔ ∀ k, k < n → p k = true
  | 0 => ⟨fun _ k hk => absurd hk (Nat.not_lt_zero k), fun _ => rfl⟩
  | n + 1 => by
    have ih := allB_t (p := p) n
    show (allB p n && p n) = true ↔ _
    rw [Bool.and_eq_true, ih]
    constructor
    · rintro ⟨h1, h2⟩ k hk
      by_cases q : k = n
      · rw [q]; exact h2
      · exact h1 k (by omega)
    · exact fun h => ⟨fun k hk => h k (by omega), h n (by omega)⟩
theorem allB_f {p : Nat → Bool} {n k : Nat} (hk : k < n) (h : p k = false) : allB p n = false := by
  cases q : allB p n with
  | true => have := (allB_t n).mp q k hk; rw [h] at this; cases this
  | false => rfl
theorem allB_congr {p p' : Nat → Bool} {n : Nat} (h : ∀ k, k < n → p k = p' k) : allB p n = allB p' n := by
  cases q : allB p' n with
  | true => exact (allB_t n).mpr (fun k hk => by rw [h k hk]; exact (allB_t n).mp q k hk)
  | false =>
    cases q2 : allB p n with
    | true =>
      have := (allB_t (p := p') n).mpr (fun k hk => by rw [← h k hk]; exact (allB_t n).mp q2 k hk)
      rw [q] at this; cases this
    | false => rfl
/-- a crowd of n agents is silent -/
def slB (ac : Nat) (M E B : Nat → Int) (ag : Nat → Nat → St) (n : Nat) : Bool := allB (fun i => allB (fun j => Nat.beq i j || !(chg ac M E B (ag i) (ag j))) n) n
theorem k_changesNone (σ : Wd) (w f s q N from' n : Nat) (fa : Nat → Nat) (nc ac : Nat) (cp : Bool) (op lf rt M E B S : Nat → Int) (CF CD NB FR : Nat → Nat → Int) (ag : Nat → Nat → St) (hw : σ w = some (obM f s)) (hw9 : (7 ≤ w ∧ w < 20) ∨ 65 ≤ w) (hF : FX σ nc ac cp op lf rt M E B S CF CD NB FR) (hac : ac ≤ 5) (hok : okAs ac M E B CF) (hq : σ q = some (AL N fa)) (hqw : q ≠ w) (hN : from' + n ≤ N) (hN2 : N < 100000) (hag : ∀ i, i < n → okG ac M B (ag i) ∧ fa (from' + i) = pkC (ag i) ac) :
    KX4_changesNone [.ref w, .ref q, .int (iI from'), .int (iI n)] σ (fun r u => ∃ f' s', r = some (.int (iI (bI (slB ac M E B ag n)))) ∧ u = up σ w (obM f' s')) NX := by
  refine Ct.intro (by decide) (Nat.le_of_ble_eq_true rfl) ?_
  obtain ⟨Q, hQ⟩ : ∃ Q : Option Value → Wd → Prop, Q = fun r u => ∃ f' s', r = some (.int (iI (bI (slB ac M E B ag n)))) ∧ u = up σ w (obM f' s') := ⟨_, rfl⟩
  rw [← hQ]
  have H : ∀ i : Nat, i ≤ n → (∀ k, k < i → allB (fun j => Nat.beq k j || !(chg ac M E B (ag k) (ag j))) n = true) → ∀ (f s : Nat) (o5 : Option Value), PX4_changesNone Q NX 3 [some (.ref w), some (.ref q), some (.int (iI from')), some (.int (iI n)), some (.int (iI i)), o5] [] (up σ w (obM f s)) 0 0 := by
    refine up_to n ?_ ?_
    · intro hall f s o5
      refine z_iload dX4_changesNone_3 rfl ?_
      refine z_iload_n dX4_changesNone_5 rfl ?_
      refine i_icmp_ge (tgt := 58) dX4_changesNone_6 (by decide) (by omega) (by omega) (fun h1 => ?_) (fun h1 => ?_)
      · skip
        refine i_iconst dX4_changesNone_58 rfl ?_
        refine z_zret (x := iI (bI true)) dX4_changesNone_59 rfl (by decide) (by decide) (bI_n true) ?_
        rw [hQ]
        exact ⟨f, s, by unfold slB; rw [(allB_t n).mpr hall], rfl⟩
      · skip
        omega
    · intro i hi ih hall f s o5
      refine z_iload dX4_changesNone_3 rfl ?_
      refine z_iload_n dX4_changesNone_5 rfl ?_
      refine i_icmp_ge (tgt := 58) dX4_changesNone_6 (by decide) (by omega) (by omega) (fun h1 => ?_) (fun h1 => ?_)
      · skip
        omega
      · skip
        refine i_iconst dX4_changesNone_9 rfl ?_
        refine z_istore dX4_changesNone_10 (by decide) ?_
        have H2 : ∀ j : Nat, j ≤ n → (∀ k, k < j → (Nat.beq i k || !(chg ac M E B (ag i) (ag k))) = true) → ∀ (f s : Nat), PX4_changesNone Q NX 12 [some (.ref w), some (.ref q), some (.int (iI from')), some (.int (iI n)), some (.int (iI i)), some (.int (iI j))] [] (up σ w (obM f s)) 0 0 := by
          refine up_to n ?_ ?_
          · intro hj f s
            refine z_iload dX4_changesNone_12 rfl ?_
            refine z_iload_n dX4_changesNone_14 rfl ?_
            refine i_icmp_ge (tgt := 52) dX4_changesNone_15 (by decide) (by omega) (by omega) (fun h2 => ?_) (fun h2 => ?_)
            · skip
              refine i_iinc dX4_changesNone_52 rfl (by decide) ?_
              refine z_goto (tgt := 3) dX4_changesNone_55 (by decide) ?_
              refine ih (fun k hk => ?_) f s _
              by_cases q : k = i
              · rw [q]; exact (allB_t n).mpr hj
              · exact hall k (by omega)
            · skip
              omega
          · intro j hj ihj hall2 f s
            have hF2 := hF.up (obM f s) (q := w) (by omega)
            have hq2 : (up σ w (obM f s)) q = some (AL N fa) := by rw [up_ne _ _ hqw]; exact hq
            refine z_iload dX4_changesNone_12 rfl ?_
            refine z_iload_n dX4_changesNone_14 rfl ?_
            refine i_icmp_ge (tgt := 52) dX4_changesNone_15 (by decide) (by omega) (by omega) (fun h2 => ?_) (fun h2 => ?_)
            · skip
              omega
            · skip
              refine z_iload dX4_changesNone_18 rfl ?_
              refine z_iload dX4_changesNone_20 rfl ?_
              refine i_icmp_eq (tgt := 46) dX4_changesNone_22 (by decide) (by omega) (by omega) (fun h3 => ?_) (fun h3 => ?_)
              · skip
                refine i_iinc dX4_changesNone_46 rfl (by decide) ?_
                refine z_goto (tgt := 12) dX4_changesNone_49 (by decide) ?_
                refine ihj (fun k hk => ?_) f s
                by_cases q : k = j
                · rw [q, show i = j by omega, Nat.beq_refl]; rfl
                · exact hall2 k (by omega)
              · skip
                refine z_aload_n dX4_changesNone_25 rfl ?_
                refine z_aload_n dX4_changesNone_26 rfl ?_
                refine z_iload_n dX4_changesNone_27 rfl ?_
                refine z_iload dX4_changesNone_28 rfl ?_
                refine i_iadd dX4_changesNone_30 ?_
                refine i_lald dX4_changesNone_31 (hq2) (from' + i) (by omega) (by omega) ?_
                refine z_aload_n dX4_changesNone_32 rfl ?_
                refine z_iload_n dX4_changesNone_33 rfl ?_
                refine z_iload dX4_changesNone_34 rfl ?_
                refine i_iadd dX4_changesNone_36 ?_
                refine i_lald dX4_changesNone_37 (hq2) (from' + j) (by omega) (by omega) ?_
                rw [(hag i hi).2, (hag j hj).2]
                refine i_cVr (k_changes _ w f s nc ac cp op lf rt M E B S CF CD NB FR (ag i) (ag j) (up_self _ _ _) hw9 hF2 hac hok (hag i hi).1 (hag j hj).1) mX4_55 dX4_changesNone_38 (up_self _ _ _) rfl rfl rfl ⟨by decide, by decide⟩ (Nat.le_of_ble_eq_true rfl) ⟨by decide, by decide⟩ ?_
                rw [up_up]
                refine i_ifb_eq (tgt := 46) dX4_changesNone_41 (by decide) (fun h4 => ?_) (fun h4 => ?_)
                · skip
                  refine i_iinc dX4_changesNone_46 rfl (by decide) ?_
                  refine z_goto (tgt := 12) dX4_changesNone_49 (by decide) ?_
                  refine ihj (fun k hk => ?_) _ _
                  by_cases q : k = j
                  · rw [q, h4, Bool.not_false, Bool.or_true]
                  · exact hall2 k (by omega)
                · skip
                  refine i_iconst dX4_changesNone_44 rfl ?_
                  refine z_zret (x := iI (bI false)) dX4_changesNone_45 rfl (by decide) (by decide) (bI_n false) ?_
                  rw [hQ]
                  have e1 : Nat.beq i j = false := by
                    cases q : Nat.beq i j with
                    | true => have := Nat.eq_of_beq_eq_true q; omega
                    | false => rfl
                  have e2 : slB ac M E B ag n = false := allB_f hi (allB_f (p := fun j => Nat.beq i j || !(chg ac M E B (ag i) (ag j))) hj (by show (Nat.beq i j || !(chg ac M E B (ag i) (ag j))) = false; rw [e1, h4]; rfl))
                  exact ⟨_, _, by rw [e2], rfl⟩
        exact H2 0 (by omega) (fun k hk => absurd hk (Nat.not_lt_zero k)) f s
  refine i_iconst dX4_changesNone_0 rfl ?_
  refine z_istore dX4_changesNone_1 (by decide) ?_
  refine z_eqw (up_id hw).symm ?_
  exact H 0 (by omega) (fun k hk => absurd hk (Nat.not_lt_zero k)) f s none
theorem k_allOutputsAre (σ : Wd) (q N from' n : Nat) (fa : Nat → Nat) (due : Bool) (nc ac : Nat) (cp : Bool) (op lf rt : Nat → Int) (ag : Nat → Nat → St) (hn : 0 < nc ∧ nc ≤ 20) (hac : ac ≤ 5) (hw : ∀ k, k < nc → wfN op lf rt ac k) (h1 : σ 1 = some (obF nc ac cp)) (h3 : σ 3 = some (AI 20 op)) (h4 : σ 4 = some (AI 20 lf)) (h5 : σ 5 = some (AI 20 rt)) (hq : σ q = some (AL N fa)) (hN : from' + n ≤ N) (hN2 : N < 100000) (hag : ∀ i, i < n → (∀ a, a < ac → rg (ag i a)) ∧ fa (from' + i) = pkC (ag i) ac) :
    KX3_allOutputsAre [.ref 1, .int (iI (bI due)), .ref q, .int (iI from'), .int (iI n)] σ (Rt (some (.int (iI (bI (allB (fun k => fml op lf rt (opA (ag k)) nc == due) n))))) σ) NX := by
  refine Ct.intro (by decide) (Nat.le_of_ble_eq_true rfl) ?_
  have H : ∀ k : Nat, k ≤ n → (∀ i, i < k → (fml op lf rt (opA (ag i)) nc == due) = true) → PX3_allOutputsAre (Rt (some (.int (iI (bI (allB (fun k => fml op lf rt (opA (ag k)) nc == due) n))))) σ) NX 3 [some (.ref 1), some (.int (iI (bI due))), some (.ref q), some (.int (iI from')), some (.int (iI n)), some (.int (iI k))] [] σ 0 0 := by
    refine up_to n ?_ ?_
    · intro hall
      refine z_iload dX3_allOutputsAre_3 rfl ?_
      refine z_iload dX3_allOutputsAre_5 rfl ?_
      refine i_icmp_ge (tgt := 32) dX3_allOutputsAre_7 (by decide) (by omega) (by omega) (fun h7 => ?_) (fun h7 => ?_)
      · skip
        refine i_iconst dX3_allOutputsAre_32 rfl ?_
        exact i_rt dX3_allOutputsAre_33 rfl (by decide) (by decide) ((allB_t n).mpr hall) rfl
      · skip
        omega
    · intro k hk ih hall
      refine z_iload dX3_allOutputsAre_3 rfl ?_
      refine z_iload dX3_allOutputsAre_5 rfl ?_
      refine i_icmp_ge (tgt := 32) dX3_allOutputsAre_7 (by decide) (by omega) (by omega) (fun h7 => ?_) (fun h7 => ?_)
      · skip
        omega
      · skip
        refine z_aload_n dX3_allOutputsAre_10 rfl ?_
        refine z_aload_n dX3_allOutputsAre_11 rfl ?_
        refine z_iload_n dX3_allOutputsAre_12 rfl ?_
        refine z_iload dX3_allOutputsAre_13 rfl ?_
        refine i_iadd dX3_allOutputsAre_15 ?_
        refine i_lald dX3_allOutputsAre_16 (hq) (from' + k) (by omega) (by omega) ?_
        rw [(hag k hk).2]
        refine i_cVr (k_outputOf σ nc ac cp op lf rt (ag k) hn hac hw (hag k hk).1 h1 h3 h4 h5) mX3_92 dX3_allOutputsAre_17 (by first | exact h1 | rfl) rfl rfl rfl ⟨by decide, by decide⟩ (Nat.le_of_ble_eq_true rfl) ⟨by decide, by decide⟩ ?_
        refine z_iload_n dX3_allOutputsAre_20 rfl ?_
        have b1 := bI_r (fml op lf rt (opA (ag k)) nc)
        have b2 := bI_r due
        refine i_icmp_eq (tgt := 26) dX3_allOutputsAre_21 (by decide) (by omega) (by omega) (fun h8 => ?_) (fun h8 => ?_)
        · skip
          refine i_iinc dX3_allOutputsAre_26 rfl (by decide) ?_
          refine z_goto (tgt := 3) dX3_allOutputsAre_29 (by decide) ?_
          refine ih (fun i hi => ?_)
          by_cases q : i = k
          · rw [q, bI_inj.mp h8]; exact beq_self_eq_true _
          · exact hall i (by omega)
        · skip
          refine i_iconst dX3_allOutputsAre_24 rfl ?_
          exact i_rf dX3_allOutputsAre_25 rfl (by decide) (by decide) (allB_f hk (beq_eq_false_iff_ne.mpr (fun q => h8 (by rw [q])))) rfl
  refine i_iconst dX3_allOutputsAre_0 rfl ?_
  refine z_istore dX3_allOutputsAre_1 (by decide) ?_
  exact H 0 (by omega) (fun k hk => absurd hk (Nat.not_lt_zero k))

