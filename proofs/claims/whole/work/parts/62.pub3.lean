def fc (x : St) (w : Int) : Int := if w = 0 then x.2.1 else if w = 1 then bI x.1 else bI x.2.2
theorem fc_cd {x : St} (h : rg x) (w : Int) : (if w = 0 then cdv (cdN x) else if w = 1 then bI (cdl (cdN x)) else bI (cdo (cdN x))) = fc x w := by
  unfold fc
  rw [cdN_v h, cdN_l h, cdN_o h]
def cdOut (a : AS) (i : Int) : Nat := if 0 ≤ i ∧ i < a.cnt then 0 else 1
theorem k_output {σ : Wd} {a : AS} (hD : DK σ a) (hV : VL a) (i : Int) (hi : i32 i) : KX6_output [.ref 0, .int (iI i)] σ (QO (cdOut a i) (.int (iI (bI (fml a.op a.lf a.rt (opA (a.ag i.toNat)) a.nc)))) σ a) (QE (cdOut a i) IOE ISE σ) := by
  have hD0 := hD
  obtain ⟨rc, S, CD, NB, FR, fa, f, s, sr, hF, g1, h0, h2, h7, h8, h9, h10, g8, g9, g10⟩ := hD
  have hcl := hV.cnt
  refine Ct.intro (by decide) (Nat.le_of_ble_eq_true rfl) ?_
  refine z_aload_n dX6_output_0 rfl ?_
  refine z_getf cls5 1 flX6_21 dX6_output_1 (by decide) (by first | exact h0 | rfl) rfl ?_
  refine z_iload_n dX6_output_4 rfl ?_
  refine i_cVr (k_hasAgent _ a.cnt i hV.cnt hi h7) mX6_127 dX6_output_5 (by first | exact h7 | rfl) rfl rfl rfl ⟨by decide, by decide⟩ (Nat.le_of_ble_eq_true rfl) ⟨by decide, by decide⟩ ?_
  refine i_ifb_ne (tgt := 21) dX6_output_8 (by decide) (fun h1 => ?_) (fun h1 => ?_)
  · skip
    have h1 := hasI_t h1
    have hc0 : cdOut a i = 0 := if_pos h1
    obtain ⟨i, rfl⟩ := Int.eq_ofNat_of_zero_le h1.1
    rw [Int.toNat_natCast]
    obtain ⟨v1, v2, v3, v4⟩ := hV.fv (hV.cc (by omega))
    refine z_aload_n dX6_output_21 rfl ?_
    refine z_getf cls5 0 flX6_10 dX6_output_22 (by decide) (by first | exact h0 | rfl) rfl ?_
    refine z_aload_n dX6_output_25 rfl ?_
    refine z_getf cls5 1 flX6_21 dX6_output_26 (by decide) (by first | exact h0 | rfl) rfl ?_
    refine z_iload_n dX6_output_29 rfl ?_
    refine i_cVr (k_agent _ a.cnt i fa (by omega) h7 h8) mX6_145 dX6_output_30 (by first | exact h7 | rfl) rfl rfl rfl ⟨by decide, by decide⟩ (Nat.le_of_ble_eq_true rfl) ⟨by decide, by decide⟩ ?_
    rw [g8 i (by omega)]
    refine i_cVr (k_outputOf _ a.nc a.ac a.cp a.op a.lf rc (a.ag i) v1 v2 (wf_rc v3 g1) ((hV.oc i (by omega)).rg v4) hF.1 hF.2.1 hF.2.2.1 hF.2.2.2.1) mX6_149 dX6_output_33 (by first | exact hF.1 | rfl) rfl rfl rfl ⟨by decide, by decide⟩ (Nat.le_of_ble_eq_true rfl) ⟨by decide, by decide⟩ ?_
    rw [fml_rc g1]
    exact z_zret dX6_output_36 rfl (by decide) (by decide) (bI_n _) ⟨hc0, rfl, hD0, F1.rfl⟩
  · skip
    refine z_throwS (text := "no such agent") rfl tw_ioobe clX6_130 in_IndexOutOfBoundsException (by decide +kernel) (by decide +kernel) dX6_output_11 dX6_output_14 dX6_output_15 dX6_output_17 dX6_output_20 (by decide) (Nat.le_of_ble_eq_true rfl) (by decide) (by decide) ?_
    exact ⟨rfl, Or.inl ⟨if_neg (hasI_f h1), rfl⟩⟩
def cdState (a : AS) (i b w : Int) : Nat := if (0 ≤ i ∧ i < a.cnt) ∧ (0 ≤ b ∧ b < a.ac) ∧ (0 ≤ w ∧ w < 3) then 0 else 1
theorem k_state {σ : Wd} {a : AS} (hD : DK σ a) (hV : VL a) (i b w : Int) (hi : i32 i) (hb : i32 b) (hw : i32 w) : KX6_state [.ref 0, .int (iI i), .int (iI b), .int (iI w)] σ (QO (cdState a i b w) (.int (iI (fc (a.ag i.toNat b.toNat) w))) σ a) (QE (cdState a i b w) IOE ISE σ) := by
  have hD0 := hD
  obtain ⟨rc, S, CD, NB, FR, fa, f, s, sr, hF, g1, h0, h2, h7, h8, h9, h10, g8, g9, g10⟩ := hD
  have hcl := hV.cnt
  have hal := hV.ac
  refine Ct.intro (by decide) (Nat.le_of_ble_eq_true rfl) ?_
  have H30 : ¬ ((0 ≤ i ∧ i < a.cnt) ∧ (0 ≤ b ∧ b < a.ac) ∧ (0 ≤ w ∧ w < 3)) → PX6_state (QO (cdState a i b w) (.int (iI (fc (a.ag i.toNat b.toNat) w))) σ a) (QE (cdState a i b w) IOE ISE σ) 30 [some (.ref 0), some (.int (iI i)), some (.int (iI b)), some (.int (iI w))] [] σ 0 0 := by
    intro hx
    refine z_throwS (text := "no such agent, atom or what") rfl tw_ioobe clX6_130 in_IndexOutOfBoundsException (by decide +kernel) (by decide +kernel) dX6_state_30 dX6_state_33 dX6_state_34 dX6_state_36 dX6_state_39 (by decide) (Nat.le_of_ble_eq_true rfl) (by decide) (by decide) ?_
    exact ⟨rfl, Or.inl ⟨if_neg hx, rfl⟩⟩
  refine z_aload_n dX6_state_0 rfl ?_
  refine z_getf cls5 1 flX6_21 dX6_state_1 (by decide) (by first | exact h0 | rfl) rfl ?_
  refine z_iload_n dX6_state_4 rfl ?_
  refine i_cVr (k_hasAgent _ a.cnt i hV.cnt hi h7) mX6_127 dX6_state_5 (by first | exact h7 | rfl) rfl rfl rfl ⟨by decide, by decide⟩ (Nat.le_of_ble_eq_true rfl) ⟨by decide, by decide⟩ ?_
  refine i_ifb_eq (tgt := 30) dX6_state_8 (by decide) (fun h1 => ?_) (fun h1 => ?_)
  · skip
    exact H30 (fun z => hasI_f h1 z.1)
  · skip
    have h1 := hasI_t h1
    refine z_aload_n dX6_state_11 rfl ?_
    refine z_getf cls5 0 flX6_10 dX6_state_12 (by decide) (by first | exact h0 | rfl) rfl ?_
    refine z_iload_n dX6_state_15 rfl ?_
    refine i_cVr (k_hasAtom _ a.nc a.ac a.cp b hV.ac hb hF.1) mX6_153 dX6_state_16 (by first | exact hF.1 | rfl) rfl rfl rfl ⟨by decide, by decide⟩ (Nat.le_of_ble_eq_true rfl) ⟨by decide, by decide⟩ ?_
    refine i_ifb_eq (tgt := 30) dX6_state_19 (by decide) (fun h3 => ?_) (fun h3 => ?_)
    · skip
      exact H30 (fun z => hasI_f h3 z.2.1)
    · skip
      have h3 := hasI_t h3
      refine z_iload_n dX6_state_22 rfl ?_
      refine i_iconst dX6_state_23 rfl ?_
      refine i_cSr (k_isFact _ w 3 hw (by unfold i32; omega)) mX6_156 dX6_state_24 rfl rfl ⟨by decide, by decide⟩ (Nat.le_of_ble_eq_true rfl) ⟨by decide, by decide⟩ ?_
      refine i_ifb_ne (tgt := 40) dX6_state_27 (by decide) (fun h4 => ?_) (fun h4 => ?_)
      · skip
        have h4 := of_decide_eq_true h4
        have hc0 : cdState a i b w = 0 := if_pos ⟨h1, h3, h4⟩
        obtain ⟨i, rfl⟩ := Int.eq_ofNat_of_zero_le h1.1
        obtain ⟨b, rfl⟩ := Int.eq_ofNat_of_zero_le h3.1
        rw [Int.toNat_natCast, Int.toNat_natCast]
        have hrg := (hV.oc i (by omega)).rg hV.ok
        refine z_aload_n dX6_state_40 rfl ?_
        refine z_getf cls5 1 flX6_21 dX6_state_41 (by decide) (by first | exact h0 | rfl) rfl ?_
        refine z_iload_n dX6_state_44 rfl ?_
        refine i_cVr (k_agent _ a.cnt i fa (by omega) h7 h8) mX6_145 dX6_state_45 (by first | exact h7 | rfl) rfl rfl rfl ⟨by decide, by decide⟩ (Nat.le_of_ble_eq_true rfl) ⟨by decide, by decide⟩ ?_
        rw [g8 i (by omega)]
        refine z_iload_n dX6_state_48 rfl ?_
        refine i_cSr (k_X1_ofAtom _ b (pkC_lt hV.ac hrg) (by omega) σ) mX6_161 dX6_state_49 rfl rfl ⟨by decide, by decide⟩ (Nat.le_of_ble_eq_true rfl) ⟨by decide, by decide⟩ ?_
        rw [pkC_at hrg (show b < a.ac by omega)]
        refine z_iload_n dX6_state_52 rfl ?_
        refine i_cSr (k_X1_fact _ (cdN_lt (hrg b (by omega))) w h4 σ) mX6_167 dX6_state_53 rfl rfl ⟨by decide, by decide⟩ (Nat.le_of_ble_eq_true rfl) ⟨by decide, by decide⟩ ?_
        rw [fc_cd (hrg b (by omega))]
        exact z_iret dX6_state_56 rfl (by decide) (by decide) ⟨hc0, rfl, hD0, F1.rfl⟩
      · skip
        exact H30 (fun z => of_decide_eq_false h4 z.2.2)
def cdTruth (a : AS) : Nat := if a.cp = true then 0 else 1
def trV (a : AS) : Bool := fml a.op a.lf a.rt (trA a.M a.E a.CF a.lt) a.nc
theorem k_truth {σ : Wd} {a : AS} (hD : DK σ a) (hV : VL a) : KX6_truth [.ref 0] σ (QO (cdTruth a) (.int (iI (bI (trV a)))) σ a) (QE (cdTruth a) ISE IAE σ) := by
  have hD0 := hD
  obtain ⟨rc, S, CD, NB, FR, fa, f, s, sr, hF, g1, h0, h2, h7, h8, h9, h10, g8, g9, g10⟩ := hD
  have hcl := hV.cnt
  refine Ct.intro (by decide) (Nat.le_of_ble_eq_true rfl) ?_
  refine z_aload_n dX6_truth_0 rfl ?_
  refine z_getf cls5 0 flX6_10 dX6_truth_1 (by decide) (by first | exact h0 | rfl) rfl ?_
  refine i_cVr (k_isCompiled _ a.nc a.ac a.cp hF.1) mX6_93 dX6_truth_4 (by first | exact hF.1 | rfl) rfl rfl rfl ⟨by decide, by decide⟩ (Nat.le_of_ble_eq_true rfl) ⟨by decide, by decide⟩ ?_
  refine i_ifb_ne (tgt := 20) dX6_truth_7 (by decide) (fun h1 => ?_) (fun h1 => ?_)
  · skip
    obtain ⟨v1, v2, v3, v4⟩ := hV.fv h1
    refine z_aload_n dX6_truth_20 rfl ?_
    refine z_getf cls5 0 flX6_10 dX6_truth_21 (by decide) (by first | exact h0 | rfl) rfl ?_
    refine z_aload_n dX6_truth_24 rfl ?_
    refine z_getf cls5 1 flX6_21 dX6_truth_25 (by decide) (by first | exact h0 | rfl) rfl ?_
    refine i_cVr (k_letterCounts _ a.cnt h7) mX6_170 dX6_truth_28 (by first | exact h7 | rfl) rfl rfl rfl ⟨by decide, by decide⟩ (Nat.le_of_ble_eq_true rfl) ⟨by decide, by decide⟩ ?_
    refine i_cVr (k_X3_isTrueOf σ a.nc a.ac a.cp a.op a.lf rc a.lt a.M a.E a.B S a.CF CD NB FR 9 v1 v2 (wf_rc v3 g1) v4 (fun l hl => by have := hV.lt l hl; omega) hF.1 hF.2.1 hF.2.2.1 hF.2.2.2.1 hF.2.2.2.2.1 hF.2.2.2.2.2 h9) mX6_174 dX6_truth_31 (by first | exact hF.1 | rfl) rfl rfl rfl ⟨by decide, by decide⟩ (Nat.le_of_ble_eq_true rfl) ⟨by decide, by decide⟩ ?_
    rw [fml_rc g1]
    exact z_zret dX6_truth_34 rfl (by decide) (by decide) (bI_n _) ⟨if_pos h1, rfl, hD0, F1.rfl⟩
  · skip
    refine z_throwS (text := "not compiled") rfl tw_ise clX6_63 in_IllegalStateException (by decide +kernel) (by decide +kernel) dX6_truth_10 dX6_truth_13 dX6_truth_14 dX6_truth_16 dX6_truth_19 (by decide) (Nat.le_of_ble_eq_true rfl) (by decide) (by decide) ?_
    exact ⟨rfl, Or.inl ⟨if_neg (by rw [h1]; decide), rfl⟩⟩
theorem k_silent {σ : Wd} {a : AS} (hD : DK σ a) (hV : VL a) : KX6_silent [.ref 0] σ (fun r u => r = some (.int (iI (bI (slB a.ac a.M a.E a.B a.ag a.cnt)))) ∧ DK u a ∧ F1 σ u) NX := by
  obtain ⟨rc, S, CD, NB, FR, fa, f, s, sr, hF, g1, h0, h2, h7, h8, h9, h10, g8, g9, g10⟩ := hD
  refine Ct.intro (by decide) (Nat.le_of_ble_eq_true rfl) ?_
  refine z_aload_n dX6_silent_0 rfl ?_
  refine z_getf cls5 1 flX6_21 dX6_silent_1 (by decide) (by first | exact h0 | rfl) rfl ?_
  refine z_callVX (k_isQuiet σ a.cnt f s fa a.ag a.nc a.ac a.cp a.op a.lf rc a.M a.E a.B S a.CF CD NB FR hV.cnt hV.ac hV.ok hF h7 h8 h10 g8 hV.oc) mX6_178 dX6_silent_4 (by first | exact h7 | rfl) rfl rfl rfl ⟨by decide, by decide⟩ (Nat.le_of_ble_eq_true rfl) ⟨by decide, by decide⟩ (fun _ _ h => h.elim) (fun r u hq => ?_)
  obtain ⟨f', s', rfl, rfl⟩ := hq
  exact z_zret dX6_silent_7 rfl (by decide) (by decide) (bI_n _) ⟨rfl, ⟨rc, S, CD, NB, FR, fa, f', s', sr, hF.up _ (by omega), g1, h0, h2, h7, h8, h9, rfl, g8, g9, g10.fr (fun q q1 q2 => up_ne _ _ (by omega))⟩, F1.rfl.up _ (by omega)⟩
theorem omB_rc {op lf rt rc : Nat → Int} {nc cnt : Nat} (h : ∀ k, k < nc → op k ≠ 2 → rc k = rt k) (ag : Nat → Nat → St) : omB op lf rc nc ag cnt = omB op lf rt nc ag cnt := by
  unfold omB
  exact allB_congr (fun k _ => by rw [fml_rc h, fml_rc h])
theorem k_agree {σ : Wd} {a : AS} (hD : DK σ a) (hV : VL a) : KX6_agree [.ref 0] σ (Rt (some (.int (iI (bI (omB a.op a.lf a.rt a.nc a.ag a.cnt))))) σ) NX := by
  obtain ⟨rc, S, CD, NB, FR, fa, f, s, sr, hF, g1, h0, h2, h7, h8, h9, h10, g8, g9, g10⟩ := hD
  refine Ct.intro (by decide) (Nat.le_of_ble_eq_true rfl) ?_
  refine z_aload_n dX6_agree_0 rfl ?_
  refine z_getf cls5 1 flX6_21 dX6_agree_1 (by decide) (by first | exact h0 | rfl) rfl ?_
  refine i_cVr (k_isOfOneMind σ a.cnt fa a.ag a.nc a.ac a.cp a.op a.lf rc hV.cnt (fun z => by obtain ⟨v1, v2, v3, v4⟩ := hV.fv (hV.cc z); exact ⟨v1, v2, wf_rc v3 g1⟩) hF.1 hF.2.1 hF.2.2.1 hF.2.2.2.1 h7 h8 g8 (fun i hi => (hV.oc i hi).rg hV.ok)) mX6_181 dX6_agree_4 (by first | exact h7 | rfl) rfl rfl rfl ⟨by decide, by decide⟩ (Nat.le_of_ble_eq_true rfl) ⟨by decide, by decide⟩ ?_
  rw [omB_rc g1]
  exact i_zret dX6_agree_7 rfl (by decide) (by decide) rfl
def cdTab (a : AS) (b w n : Int) : Nat := if (0 ≤ b ∧ b < a.ac) ∧ (0 ≤ w ∧ w < n) then (if a.cp = true then 0 else 2) else 1
theorem k_checkTable {σ : Wd} {a : AS} (hD : DK σ a) (hV : VL a) (b w n : Int) (hb : i32 b) (hw : i32 w) (hn : i32 n) : KX6_checkTable [.ref 0, .int (iI b), .int (iI w), .int (iI n)] σ (fun r u => cdTab a b w n = 0 ∧ r = none ∧ u = σ) (QE (cdTab a b w n) IOE ISE σ) := by
  obtain ⟨rc, S, CD, NB, FR, fa, f, s, sr, hF, g1, h0, h2, h7, h8, h9, h10, g8, g9, g10⟩ := hD
  refine Ct.intro (by decide) (Nat.le_of_ble_eq_true rfl) ?_
  have H19 : ¬ ((0 ≤ b ∧ b < a.ac) ∧ (0 ≤ w ∧ w < n)) → PX6_checkTable (fun r u => cdTab a b w n = 0 ∧ r = none ∧ u = σ) (QE (cdTab a b w n) IOE ISE σ) 19 [some (.ref 0), some (.int (iI b)), some (.int (iI w)), some (.int (iI n))] [] σ 0 0 := by
    intro hx
    refine z_throwS (text := "no such atom or what") rfl tw_ioobe clX6_130 in_IndexOutOfBoundsException (by decide +kernel) (by decide +kernel) dX6_checkTable_19 dX6_checkTable_22 dX6_checkTable_23 dX6_checkTable_25 dX6_checkTable_28 (by decide) (Nat.le_of_ble_eq_true rfl) (by decide) (by decide) ?_
    exact ⟨rfl, Or.inl ⟨if_neg hx, rfl⟩⟩
  refine z_aload_n dX6_checkTable_0 rfl ?_
  refine z_getf cls5 0 flX6_10 dX6_checkTable_1 (by decide) (by first | exact h0 | rfl) rfl ?_
  refine z_iload_n dX6_checkTable_4 rfl ?_
  refine i_cVr (k_hasAtom _ a.nc a.ac a.cp b hV.ac hb hF.1) mX6_153 dX6_checkTable_5 (by first | exact hF.1 | rfl) rfl rfl rfl ⟨by decide, by decide⟩ (Nat.le_of_ble_eq_true rfl) ⟨by decide, by decide⟩ ?_
  refine i_ifb_eq (tgt := 19) dX6_checkTable_8 (by decide) (fun h1 => ?_) (fun h1 => ?_)
  · skip
    exact H19 (fun z => hasI_f h1 z.1)
  · skip
    have h1 := hasI_t h1
    refine z_iload_n dX6_checkTable_11 rfl ?_
    refine z_iload_n dX6_checkTable_12 rfl ?_
    refine i_cSr (k_isFact _ w n hw hn) mX6_156 dX6_checkTable_13 rfl rfl ⟨by decide, by decide⟩ (Nat.le_of_ble_eq_true rfl) ⟨by decide, by decide⟩ ?_
    refine i_ifb_ne (tgt := 29) dX6_checkTable_16 (by decide) (fun h3 => ?_) (fun h3 => ?_)
    · skip
      have h3 := of_decide_eq_true h3
      refine z_aload_n dX6_checkTable_29 rfl ?_
      refine z_getf cls5 0 flX6_10 dX6_checkTable_30 (by decide) (by first | exact h0 | rfl) rfl ?_
      refine i_cVr (k_isCompiled _ a.nc a.ac a.cp hF.1) mX6_93 dX6_checkTable_33 (by first | exact hF.1 | rfl) rfl rfl rfl ⟨by decide, by decide⟩ (Nat.le_of_ble_eq_true rfl) ⟨by decide, by decide⟩ ?_
      refine i_ifb_ne (tgt := 49) dX6_checkTable_36 (by decide) (fun h4 => ?_) (fun h4 => ?_)
      · skip
        exact z_vret dX6_checkTable_49 rfl (by decide) (by decide) ⟨by unfold cdTab; rw [if_pos ⟨h1, h3⟩, if_pos h4], rfl, rfl⟩
      · skip
        refine z_throwS (text := "not compiled") rfl tw_ise clX6_63 in_IllegalStateException (by decide +kernel) (by decide +kernel) dX6_checkTable_39 dX6_checkTable_42 dX6_checkTable_43 dX6_checkTable_45 dX6_checkTable_48 (by decide) (Nat.le_of_ble_eq_true rfl) (by decide) (by decide) ?_
        exact ⟨rfl, Or.inr ⟨by unfold cdTab; rw [if_pos ⟨h1, h3⟩, if_neg (by rw [h4]; decide)], rfl⟩⟩
    · skip
      exact H19 (fun z => of_decide_eq_false h3 z.2)
theorem cdTab_0 {a : AS} {b w n : Int} (h : cdTab a b w n = 0) : (0 ≤ b ∧ b < a.ac) ∧ (0 ≤ w ∧ w < n) ∧ a.cp = true := by
  unfold cdTab at h
  by_cases q : (0 ≤ b ∧ b < a.ac) ∧ (0 ≤ w ∧ w < n)
  · rw [if_pos q] at h
    by_cases q2 : a.cp = true
    · exact ⟨q.1, q.2, q2⟩
    · rw [if_neg q2] at h; cases h
  · rw [if_neg q] at h; cases h
/-- the rules of a table -/
abbrev Ru (m e b : Int) (xs : Nat → St) : Nat → Nat → Bool := fun i j => ruB m e b (xs i) (xs j)
def rnN (m e b : Int) (n : Nat) (xs : Nat → St) : Nat := rsum (Ru m e b xs) n n
theorem rsum_congr {R R' : Nat → Nat → Bool} {n : Nat} : ∀ i, (∀ k j, k < i → j < n → R k j = R' k j) → rsum R n i = rsum R' n i
  | 0, _ => rfl
  | i + 1, h => by
    show rsum R n i + cntF (R i) n = rsum R' n i + cntF (R' i) n
    rw [rsum_congr i (fun k j hk hj => h k j (by omega) hj), cnt_congr n (fun j hj => h i j (by omega) hj)]
def RLx (m e b : Int) (n : Nat) (xs : Nat → St) (k i j p q : Nat) : Prop := i < n ∧ j < n ∧ ruB m e b (xs i) (xs j) = true ∧ rsum (Ru m e b xs) n i + cntF (Ru m e b xs i) j = k ∧ p < n ∧ q < n ∧ (mt m e b (xs i) (xs j)).1 = xs p ∧ (mt m e b (xs i) (xs j)).2 = xs q
theorem RLx.congr {m e b : Int} {n k i j p q : Nat} {xs xs' : Nat → St} (h : RLx m e b n xs k i j p q) (hx : ∀ k, k < n → xs k = xs' k) : RLx m e b n xs' k i j p q := by
  obtain ⟨q1, q2, q3, q4, q5, q6, q7, q8⟩ := h
  have hR : ∀ k l, k < n → l < n → Ru m e b xs k l = Ru m e b xs' k l := fun k l hk hl => by show ruB m e b (xs k) (xs l) = ruB m e b (xs' k) (xs' l); rw [hx k hk, hx l hl]
  refine ⟨q1, q2, by rw [← hx i q1, ← hx j q2]; exact q3, ?_, q5, q6, by rw [← hx i q1, ← hx j q2, ← hx p q5]; exact q7, by rw [← hx i q1, ← hx j q2, ← hx q q6]; exact q8⟩
  rw [← rsum_congr i (fun k l hk hl => hR k l (by omega) hl), ← cnt_congr j (fun l hl => hR i l q1 (by omega))]; exact q4
theorem rnN_congr {m e b : Int} {n : Nat} {xs xs' : Nat → St} (hx : ∀ k, k < n → xs k = xs' k) : rnN m e b n xs = rnN m e b n xs' := rsum_congr n (fun k l hk hl => by show ruB m e b (xs k) (xs l) = ruB m e b (xs' k) (xs' l); rw [hx k hk, hx l hl])
theorem rn_lt (m e b : Int) {n : Nat} (hn : n ≤ 256) (xs : Nat → St) : rnN m e b n xs ≤ 65536 := by
  have := rsum_le (Ru m e b xs) n n
  have h2 : n * n ≤ 256 * 256 := Nat.mul_le_mul hn hn
  unfold rnN
  omega
def EN (a : AS) (N : Nat → Nat) (xs : Nat → Nat → St) : Prop := a.cp = true → ∀ b, b < a.ac → En (a.M b) (a.E b) (a.B b) (a.CF b) (N b) (xs b)
theorem k_table {σ : Wd} {a : AS} (hD : DK σ a) (hV : VL a) {N : Nat → Nat} {xs : Nat → Nat → St} (hE : EN a N xs) (b w : Int) (hb : i32 b) (hw : i32 w) : KX6_table [.ref 0, .int (iI b), .int (iI w)] σ (QO (cdTab a b w 2) (.int (iI (if w = 0 then ((N b.toNat : Nat) : Int) else ((rnN (a.M b.toNat) (a.E b.toNat) (a.B b.toNat) (N b.toNat) (xs b.toNat) : Nat) : Int)))) σ a) (QE (cdTab a b w 2) IOE ISE σ) := by
  have hD0 := hD
  obtain ⟨rc, S, CD, NB, FR, fa, f, s, sr, hF, g1, h0, h2, h7, h8, h9, h10, g8, g9, g10⟩ := hD
  have hal := hV.ac
  have hw' := hw
  unfold i32 at hw'
  refine Ct.intro (by decide) (Nat.le_of_ble_eq_true rfl) ?_
  refine z_aload_n dX6_table_0 rfl ?_
  refine z_iload_n dX6_table_1 rfl ?_
  refine z_iload_n dX6_table_2 rfl ?_
  refine i_iconst dX6_table_3 rfl ?_
  refine z_callVX (k_checkTable hD0 hV b w 2 hb hw (by unfold i32; omega)) mX6_201 dX6_table_4 h0 rfl rfl rfl ⟨by decide, by decide⟩ (Nat.le_of_ble_eq_true rfl) ⟨by decide, by decide⟩ (fun E u h => z_out rfl (by decide) (by decide) h) (fun r u hq => ?_)
  obtain ⟨hc, rfl, rfl⟩ := hq
  obtain ⟨c1, c2, c3⟩ := cdTab_0 hc
  obtain ⟨b, rfl⟩ := Int.eq_ofNat_of_zero_le c1.1
  rw [Int.toNat_natCast]
  have hba : b < a.ac := by omega
  obtain ⟨N', XS', hT⟩ := g9 c3
  obtain ⟨hS, hT2⟩ := hT b hba
  obtain ⟨A1, A2, A3, A4, A5⟩ := hF.2.2.2.2.2 b (by omega)
  obtain ⟨u1, u2⟩ := (hT.en hV.ok b hba).uq (hE c3 b hba) (hV.ok b hba).1 (fun l hl => ((hV.ok b hba).2 l hl).2)
  rw [hS] at A1
  have hnl := hT2.1.2.2.2
  refine z_aload_n dX6_table_7 rfl ?_
  refine z_getf cls5 0 flX6_10 dX6_table_8 (by decide) (by first | exact h0 | rfl) rfl ?_
  refine z_iload_n dX6_table_11 rfl ?_
  refine i_cVr (k_atom _ a.nc a.ac a.cp b (by omega) hF.1 hF.2.2.2.2.1) mX6_205 dX6_table_12 (by first | exact hF.1 | rfl) rfl rfl rfl ⟨by decide, by decide⟩ (Nat.le_of_ble_eq_true rfl) ⟨by decide, by decide⟩ ?_
  refine z_astore_n dX6_table_15 (by decide) ?_
  refine z_iload_n dX6_table_16 rfl ?_
  refine i_if_ne (tgt := 27) dX6_table_17 (by decide) (by omega) (fun h1 => ?_) (fun h1 => ?_)
  · skip
    refine z_aload_n dX6_table_27 rfl ?_
    refine i_cVr (k_ruleCount _ _ _ _ _ _ _ hnl A1 A5) mX6_212 dX6_table_28 (by first | exact A1 | rfl) rfl rfl rfl ⟨by decide, by decide⟩ (Nat.le_of_ble_eq_true rfl) ⟨by decide, by decide⟩ ?_
    rw [hT2.2 _ (Nat.le_refl _), if_neg h1, ← u1, ← rnN_congr u2]
    exact z_iret dX6_table_31 rfl (by decide) (by decide) ⟨hc, rfl, hD0, F1.rfl⟩
  · skip
    refine z_aload_n dX6_table_20 rfl ?_
    refine i_cVr (k_stateCount _ _ _ _ _ _ A1) mX6_209 dX6_table_21 (by first | exact A1 | rfl) rfl rfl rfl ⟨by decide, by decide⟩ (Nat.le_of_ble_eq_true rfl) ⟨by decide, by decide⟩ ?_
    refine z_goto (tgt := 31) dX6_table_24 (by decide) ?_
    rw [if_pos h1, ← u1]
    exact z_iret dX6_table_31 rfl (by decide) (by decide) ⟨hc, rfl, hD0, F1.rfl⟩
def cdRule (a : AS) (b k w : Int) (rn : Nat) : Nat := if cdTab a b w 4 = 0 then (if 0 ≤ k ∧ k < rn then 0 else 1) else cdTab a b w 4
theorem k_rule {σ : Wd} {a : AS} (hD : DK σ a) (hV : VL a) {N : Nat → Nat} {xs : Nat → Nat → St} (hE : EN a N xs) (b k w : Int) (hb : i32 b) (hk : i32 k) (hw : i32 w) {i j p q rn : Nat} (hrn : rn = rnN (a.M b.toNat) (a.E b.toNat) (a.B b.toNat) (N b.toNat) (xs b.toNat)) (hR : a.cp = true → 0 ≤ k ∧ k < rn → RLx (a.M b.toNat) (a.E b.toNat) (a.B b.toNat) (N b.toNat) (xs b.toNat) k.toNat i j p q) : KX6_rule [.ref 0, .int (iI b), .int (iI k), .int (iI w)] σ (QO (cdRule a b k w rn) (.int (iI (if w = 0 then (i : Int) else if w = 1 then (j : Int) else if w = 2 then (p : Int) else (q : Int)))) σ a) (QE (cdRule a b k w rn) IOE ISE σ) := by
  have hD0 := hD
  obtain ⟨rc, S, CD, NB, FR, fa, f, s, sr, hF, g1, h0, h2, h7, h8, h9, h10, g8, g9, g10⟩ := hD
  have hal := hV.ac
  have hk' := hk
  unfold i32 at hk'
  refine Ct.intro (by decide) (Nat.le_of_ble_eq_true rfl) ?_
  refine z_aload_n dX6_rule_0 rfl ?_
  refine z_iload_n dX6_rule_1 rfl ?_
  refine z_iload_n dX6_rule_2 rfl ?_
  refine i_iconst dX6_rule_3 rfl ?_
  refine z_callVX (k_checkTable hD0 hV b w 4 hb hw (by unfold i32; omega)) mX6_201 dX6_rule_4 h0 rfl rfl rfl ⟨by decide, by decide⟩ (Nat.le_of_ble_eq_true rfl) ⟨by decide, by decide⟩ (fun E u h => z_out rfl (by decide) (by decide) ⟨h.1, by
    have h2 := h.2
    unfold cdRule
    rw [if_neg (fun z => by rw [z] at h2; rcases h2 with ⟨z, _⟩ | ⟨z, _⟩ <;> cases z)]; exact h2⟩) (fun r u hq => ?_)
  obtain ⟨hc, rfl, rfl⟩ := hq
  obtain ⟨c1, c2, c3⟩ := cdTab_0 hc
  obtain ⟨b, rfl⟩ := Int.eq_ofNat_of_zero_le c1.1
  rw [Int.toNat_natCast] at hrn hR
  have hba : b < a.ac := by omega
  obtain ⟨N', XS', hT⟩ := g9 c3
  obtain ⟨hS, hT2⟩ := hT b hba
  obtain ⟨A1, A2, A3, A4, A5⟩ := hF.2.2.2.2.2 b (by omega)
  obtain ⟨u1, u2⟩ := (hT.en hV.ok b hba).uq (hE c3 b hba) (hV.ok b hba).1 (fun l hl => ((hV.ok b hba).2 l hl).2)
  rw [hS] at A1
  have hnl := hT2.1.2.2.2
  have hrn2 : (FR b) (N' b) = (rn : Int) := by rw [hT2.2 _ (Nat.le_refl _), hrn, ← u1, ← rnN_congr u2]; rfl
  have hrl : rn ≤ 65536 := by rw [hrn, ← u1]; exact rn_lt _ _ _ hnl _
  have H30 : ¬ (0 ≤ k ∧ k < rn) → PX6_rule (QO (cdRule a b k w rn) (.int (iI (if w = 0 then (i : Int) else if w = 1 then (j : Int) else if w = 2 then (p : Int) else (q : Int)))) u a) (QE (cdRule a b k w rn) IOE ISE u) 30 [some (.ref 0), some (.int (iI b)), some (.int (iI k)), some (.int (iI w)), some (.ref (20 + 10 * b))] [] u 1 6 := by
    intro hx
    refine z_throwS (text := "no such rule") rfl tw_ioobe clX6_130 in_IndexOutOfBoundsException (by decide +kernel) (by decide +kernel) dX6_rule_30 dX6_rule_33 dX6_rule_34 dX6_rule_36 dX6_rule_39 (by decide) (Nat.le_of_ble_eq_true rfl) (by decide) (by decide) ?_
    exact ⟨rfl, Or.inl ⟨by unfold cdRule; rw [if_pos hc, if_neg hx], rfl⟩⟩
  refine z_aload_n dX6_rule_7 rfl ?_
  refine z_getf cls5 0 flX6_10 dX6_rule_8 (by decide) (by first | exact h0 | rfl) rfl ?_
  refine z_iload_n dX6_rule_11 rfl ?_
  refine i_cVr (k_atom _ a.nc a.ac a.cp b (by omega) hF.1 hF.2.2.2.2.1) mX6_205 dX6_rule_12 (by first | exact hF.1 | rfl) rfl rfl rfl ⟨by decide, by decide⟩ (Nat.le_of_ble_eq_true rfl) ⟨by decide, by decide⟩ ?_
  refine z_astore dX6_rule_15 (by decide) ?_
  refine z_iload_n dX6_rule_17 rfl ?_
  refine i_if_lt (tgt := 30) dX6_rule_18 (by decide) (by omega) (fun h1 => ?_) (fun h1 => ?_)
  · skip
    exact H30 (by omega)
  · skip
    refine z_iload_n dX6_rule_21 rfl ?_
    refine z_aload dX6_rule_22 rfl ?_
    refine i_cVr (k_ruleCount _ _ _ _ _ _ _ hnl A1 A5) mX6_212 dX6_rule_24 (by first | exact A1 | rfl) rfl rfl rfl ⟨by decide, by decide⟩ (Nat.le_of_ble_eq_true rfl) ⟨by decide, by decide⟩ ?_
    rw [hrn2]
    refine i_icmp_lt (tgt := 40) dX6_rule_27 (by decide) (by omega) (by omega) (fun h3 => ?_) (fun h3 => ?_)
    · skip
      have hkr : 0 ≤ k ∧ k < rn := by omega
      obtain ⟨k, rfl⟩ := Int.eq_ofNat_of_zero_le h1
      have hR2 := hR c3 hkr
      rw [Int.toNat_natCast, ← u1] at hR2
      obtain ⟨q1, q2, q3, q4, q5, q6, q7, q8⟩ := hR2.congr (xs' := XS' b) (fun k hk => (u2 k hk).symm)
      refine z_aload dX6_rule_40 rfl ?_
      refine z_iload_n dX6_rule_42 rfl ?_
      refine z_iload_n dX6_rule_43 rfl ?_
      refine i_cVr (k_ruleFact _ _ _ _ _ (a.CF b) (NB b) (CD b) (FR b) (N' b) k i j p q (XS' b) w (hV.ok b hba).1 (fun l hl => ((hV.ok b hba).2 l hl).2) hT2 q1 q2 q3 q4 q5 q6 q7 q8 c2 A1 A3 A4 A5) mX6_217 dX6_rule_44 (by first | exact A1 | rfl) rfl rfl rfl ⟨by decide, by decide⟩ (Nat.le_of_ble_eq_true rfl) ⟨by decide, by decide⟩ ?_
      exact z_iret dX6_rule_47 rfl (by decide) (by decide) ⟨by unfold cdRule; rw [if_pos hc, if_pos hkr], rfl, hD0, F1.rfl⟩
    · skip
      exact H30 (by omega)
def cdKind (a : AS) (b k w : Int) (n : Nat) : Nat := if cdTab a b w 3 = 0 then (if 0 ≤ k ∧ k < n then 0 else 1) else cdTab a b w 3
theorem k_kind {σ : Wd} {a : AS} (hD : DK σ a) (hV : VL a) {N : Nat → Nat} {xs : Nat → Nat → St} (hE : EN a N xs) (b k w : Int) (hb : i32 b) (hk : i32 k) (hw : i32 w) : KX6_kind [.ref 0, .int (iI b), .int (iI k), .int (iI w)] σ (QO (cdKind a b k w (N b.toNat)) (.int (iI (fc (xs b.toNat k.toNat) w))) σ a) (QE (cdKind a b k w (N b.toNat)) IOE ISE σ) := by
  have hD0 := hD
  obtain ⟨rc, S, CD, NB, FR, fa, f, s, sr, hF, g1, h0, h2, h7, h8, h9, h10, g8, g9, g10⟩ := hD
  have hal := hV.ac
  have hk' := hk
  unfold i32 at hk'
  refine Ct.intro (by decide) (Nat.le_of_ble_eq_true rfl) ?_
  refine z_aload_n dX6_kind_0 rfl ?_
  refine z_iload_n dX6_kind_1 rfl ?_
  refine z_iload_n dX6_kind_2 rfl ?_
  refine i_iconst dX6_kind_3 rfl ?_
  refine z_callVX (k_checkTable hD0 hV b w 3 hb hw (by unfold i32; omega)) mX6_201 dX6_kind_4 h0 rfl rfl rfl ⟨by decide, by decide⟩ (Nat.le_of_ble_eq_true rfl) ⟨by decide, by decide⟩ (fun E u h => z_out rfl (by decide) (by decide) ⟨h.1, by
    have h2 := h.2
    unfold cdKind
    rw [if_neg (fun z => by rw [z] at h2; rcases h2 with ⟨z, _⟩ | ⟨z, _⟩ <;> cases z)]; exact h2⟩) (fun r u hq => ?_)
  obtain ⟨hc, rfl, rfl⟩ := hq
  obtain ⟨c1, c2, c3⟩ := cdTab_0 hc
  obtain ⟨b, rfl⟩ := Int.eq_ofNat_of_zero_le c1.1
  rw [Int.toNat_natCast]
  have hba : b < a.ac := by omega
  obtain ⟨N', XS', hT⟩ := g9 c3
  obtain ⟨hS, hT2⟩ := hT b hba
  obtain ⟨A1, A2, A3, A4, A5⟩ := hF.2.2.2.2.2 b (by omega)
  obtain ⟨u1, u2⟩ := (hT.en hV.ok b hba).uq (hE c3 b hba) (hV.ok b hba).1 (fun l hl => ((hV.ok b hba).2 l hl).2)
  rw [hS] at A1
  have hnl := hT2.1.2.2.2
  have H30 : ¬ (0 ≤ k ∧ k < N b) → PX6_kind (QO (cdKind a b k w (N b)) (.int (iI (fc (xs b k.toNat) w))) u a) (QE (cdKind a b k w (N b)) IOE ISE u) 30 [some (.ref 0), some (.int (iI b)), some (.int (iI k)), some (.int (iI w)), some (.ref (20 + 10 * b))] [] u 1 6 := by
    intro hx
    refine z_throwS (text := "no such state") rfl tw_ioobe clX6_130 in_IndexOutOfBoundsException (by decide +kernel) (by decide +kernel) dX6_kind_30 dX6_kind_33 dX6_kind_34 dX6_kind_36 dX6_kind_39 (by decide) (Nat.le_of_ble_eq_true rfl) (by decide) (by decide) ?_
    exact ⟨rfl, Or.inl ⟨by unfold cdKind; rw [if_pos hc, if_neg hx], rfl⟩⟩
  refine z_aload_n dX6_kind_7 rfl ?_
  refine z_getf cls5 0 flX6_10 dX6_kind_8 (by decide) (by first | exact h0 | rfl) rfl ?_
  refine z_iload_n dX6_kind_11 rfl ?_
  refine i_cVr (k_atom _ a.nc a.ac a.cp b (by omega) hF.1 hF.2.2.2.2.1) mX6_205 dX6_kind_12 (by first | exact hF.1 | rfl) rfl rfl rfl ⟨by decide, by decide⟩ (Nat.le_of_ble_eq_true rfl) ⟨by decide, by decide⟩ ?_
  refine z_astore dX6_kind_15 (by decide) ?_
  refine z_iload_n dX6_kind_17 rfl ?_
  refine i_if_lt (tgt := 30) dX6_kind_18 (by decide) (by omega) (fun h1 => ?_) (fun h1 => ?_)
  · skip
    exact H30 (by omega)
  · skip
    refine z_iload_n dX6_kind_21 rfl ?_
    refine z_aload dX6_kind_22 rfl ?_
    refine i_cVr (k_stateCount _ _ _ _ _ _ A1) mX6_209 dX6_kind_24 (by first | exact A1 | rfl) rfl rfl rfl ⟨by decide, by decide⟩ (Nat.le_of_ble_eq_true rfl) ⟨by decide, by decide⟩ ?_
    rw [u1] at hnl ⊢
    refine i_icmp_lt (tgt := 40) dX6_kind_27 (by decide) (by omega) (by omega) (fun h3 => ?_) (fun h3 => ?_)
    · skip
      have hkr : 0 ≤ k ∧ k < N b := by omega
      obtain ⟨k, rfl⟩ := Int.eq_ofNat_of_zero_le h1
      rw [Int.toNat_natCast]
      have hkn : k < N' b := by omega
      have hrk := okM_rg (hV.ok b hba).1 ((hT.en hV.ok b hba).ok (hV.ok b hba).1 (fun l hl => ((hV.ok b hba).2 l hl).2) hkn)
      refine z_aload dX6_kind_40 rfl ?_
      refine z_iload_n dX6_kind_42 rfl ?_
      refine i_cVr (k_codeOf _ _ _ _ _ _ k (CD b) (by omega) A1 A3) mX6_222 dX6_kind_43 (by first | exact A1 | rfl) rfl rfl rfl ⟨by decide, by decide⟩ (Nat.le_of_ble_eq_true rfl) ⟨by decide, by decide⟩ ?_
      rw [(hT2.1.1 k hkn).2.1]
      refine z_iload_n dX6_kind_46 rfl ?_
      refine i_cSr (k_X1_fact _ (cdN_lt hrk) w c2 _) mX6_167 dX6_kind_47 rfl rfl ⟨by decide, by decide⟩ (Nat.le_of_ble_eq_true rfl) ⟨by decide, by decide⟩ ?_
      rw [fc_cd hrk, u2 k hkn]
      exact z_iret dX6_kind_50 rfl (by decide) (by decide) ⟨by unfold cdKind; rw [if_pos hc, if_pos hkr], rfl, hD0, F1.rfl⟩
    · skip
      exact H30 (by omega)

