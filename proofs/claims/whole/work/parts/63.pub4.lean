theorem WS_up0 {σ : Wd} {wd fd : Nat} {rf : Nat → Nat} {sl : Nat → Int} {er : Nat → Bool} {nx : Nat → Nat} {f s : Nat} (c : pCell) : up (WS σ wd fd rf sl er nx f s) 0 c = WS (up σ 0 c) wd fd rf sl er nx f s := by
  unfold WS
  rw [up_comm _ _ _ (show (70 : Nat) ≠ 0 by decide), up_comm _ _ _ (show (71 : Nat) ≠ 0 by decide), up_comm _ _ _ (show (72 : Nat) ≠ 0 by decide), up_comm _ _ _ (show (73 : Nat) ≠ 0 by decide), up_comm _ _ _ (show (74 : Nat) ≠ 0 by decide), up_comm _ _ _ (show (75 : Nat) ≠ 0 by decide)]
theorem fx_fr {σ u : Wd} {nc ac : Nat} {cp : Bool} {op lf rt M E B S : Nat → Int} {CF CD NB FR : Nat → Nat → Int} (h : FX σ nc ac cp op lf rt M E B S CF CD NB FR) (hu : ∀ q, 1 ≤ q → q < 65 → u q = σ q) : FX u nc ac cp op lf rt M E B S CF CD NB FR := ⟨(hu 1 (by omega) (by omega)).trans h.1, (hu 3 (by omega) (by omega)).trans h.2.1, (hu 4 (by omega) (by omega)).trans h.2.2.1, (hu 5 (by omega) (by omega)).trans h.2.2.2.1, (hu 6 (by omega) (by omega)).trans h.2.2.2.2.1, h.2.2.2.2.2.fr (fun q q1 q2 => hu q (by omega) q2)⟩
def exV (o : Option XS) : Int := match o with
  | none => -1
  | some y => (y.2 : Nat)
def cdExpl (a : AS) (limit : Int) : Nat := if 1 ≤ limit ∧ limit ≤ 3000 then (if 1 ≤ a.cnt ∧ a.cnt ≤ 6 then 0 else 2) else 1
/-- the desk after a search -/
theorem dk_ws {σ σ' : Wd} {a : AS} {rc S : Nat → Int} {CD NB FR : Nat → Nat → Int} {fa : Nat → Nat} {f s : Nat} {sr : Value} (h : DKp σ a rc S CD NB FR fa f s sr) (hs : ∀ q, 1 ≤ q → q < 65 → σ' q = σ q) {ex' : Option XS} {n' : Nat} {rf' : Nat → Nat} {sl' : Nat → Int} {er' : Nat → Bool} {nx' : Nat → Nat} {f' s' : Nat} {a' : AS} (ha' : a' = mkA a.pd a.nc a.ac a.cp a.op a.lf a.rt a.M a.E a.B a.CF a.lt a.cnt a.ag ex') (hS : ∀ x, ex' = some x → n' = x.2 ∧ ∃ tb, SI a.ac a.cnt x rf' sl' tb) : DK (WS (up σ' 0 (obD (.ref 70) ex'.isSome)) a.cnt n' rf' sl' er' nx' f' s') a' := by
  obtain ⟨hF, g1, h0, h2, h7, h8, h9, h10, g8, g9, g10⟩ := h
  subst ha'
  have hx : ∀ q, 1 ≤ q → q < 65 → WS (up σ' 0 (obD (.ref 70) ex'.isSome)) a.cnt n' rf' sl' er' nx' f' s' q = σ q := fun q q1 q2 => by rw [WS_x (by omega), up_ne _ _ (by omega)]; exact hs q q1 q2
  refine ⟨rc, S, CD, NB, FR, fa, f, s, .ref 70, fx_fr hF hx, g1, by rw [WS_x (by omega), up_self], (hx 2 (by omega) (by omega)).trans h2, (hx 7 (by omega) (by omega)).trans h7, (hx 8 (by omega) (by omega)).trans h8, (hx 9 (by omega) (by omega)).trans h9, (hx 10 (by omega) (by omega)).trans h10, g8, g9, Or.inr ⟨rfl, a.cnt, n', rf', sl', er', nx', f', s', SL_WS, fun x hx => ?_⟩⟩
  obtain ⟨q1, q2⟩ := hS x hx
  exact ⟨rfl, q1, q2⟩
abbrev KX6_explore0 : List Value → Wd → (Option Value → Wd → Prop) → (String → Wd → Prop) → Prop := Ct yX6_explore cX6_explore 3 (some .int) rmX6_explore0
abbrev PX6_explore0 (Q : Option Value → Wd → Prop) (QX : String → Wd → Prop) : Nat → List (Option Value) → List Value → Wd → Nat → Nat → Prop := T yX6_explore cX6_explore 3 (some .int) [] rmX6_explore0 Q QX
theorem k_explore {σ : Wd} {a : AS} (hD : DK σ a) (hV : VL a) (limit : Int) (hl : i32 limit) (h70 : cdExpl a limit = 0 → σ 70 ≠ none) : KX6_explore [.ref 0, .int (iI limit)] σ (fun r u => cdExpl a limit = 0 ∧ r = some (.int (iI (exV (xAll a.ac a.M a.E a.B a.cnt limit.toNat a.ag)))) ∧ DK u (oExpl a limit.toNat) ∧ F1 σ u ∧ u 70 ≠ none) (QE (cdExpl a limit) IAE ISE σ) := by
  obtain ⟨rc, S, CD, NB, FR, fa, f, s, sr, hD0⟩ := hD
  have hD := hD0
  obtain ⟨hF, g1, h0, h2, h7, h8, h9, h10, g8, g9, g10⟩ := hD
  have hl' := hl
  unfold i32 at hl'
  have hcl := hV.cnt
  refine Ct.intro (by decide) (Nat.le_of_ble_eq_true rfl) ?_
  have H77 : ∀ (σ' : Wd) (wd fd : Nat) (rf : Nat → Nat) (sl : Nat → Int) (er : Nat → Bool) (nx : Nat → Nat) (f1 s1 : Nat), (∀ q, 1 ≤ q → q < 65 → σ' q = σ q) → (∀ q, 100 ≤ q → σ' q = σ q) → σ' 0 = some (obD (.ref 70) a.ex.isSome) → 1 ≤ limit ∧ limit ≤ 3000 → 1 ≤ a.cnt ∧ a.cnt ≤ 6 → PX6_explore (fun r u => cdExpl a limit = 0 ∧ r = some (.int (iI (exV (xAll a.ac a.M a.E a.B a.cnt limit.toNat a.ag)))) ∧ DK u (oExpl a limit.toNat) ∧ F1 σ u ∧ u 70 ≠ none) (QE (cdExpl a limit) IAE ISE σ) 77 [some (.ref 0), some (.int (iI limit)), none] [] (WS σ' wd fd rf sl er nx f1 s1) 0 0 := by
    intro σ' wd fd rf sl er nx f1 s1 hs hs2 hs0 hl1 hl2
    have hc0 : cdExpl a limit = 0 := by unfold cdExpl; rw [if_pos hl1, if_pos hl2]
    obtain ⟨limit, rfl⟩ := Int.eq_ofNat_of_zero_le (show 0 ≤ limit by omega)
    rw [Int.toNat_natCast]
    have w0 : ∀ (wd fd : Nat) (rf : Nat → Nat) (sl : Nat → Int) (er : Nat → Bool) (nx : Nat → Nat) (f1 s1 : Nat), WS σ' wd fd rf sl er nx f1 s1 0 = some (obD (.ref 70) a.ex.isSome) := fun wd fd rf sl er nx f1 s1 => (WS_x (by omega)).trans hs0
    refine z_aload_n dX6_explore_77 rfl ?_
    refine z_getf cls5 2 flX6_25 dX6_explore_78 (by decide) (w0 _ _ _ _ _ _ _ _) rfl ?_
    refine z_aload_n dX6_explore_81 rfl ?_
    refine z_getf cls5 1 flX6_21 dX6_explore_82 (by decide) (w0 _ _ _ _ _ _ _ _) rfl ?_
    refine z_iload_n dX6_explore_85 rfl ?_
    refine z_callVX (k_findAll σ' a.cnt wd fd rf sl er nx fa f1 s1 a.nc a.ac a.cp a.op a.lf rc a.M a.E a.B S a.CF CD NB FR a.ag limit hl2 hV.ac hV.ok (fx_fr hF hs) (by omega) ((hs 7 (by omega) (by omega)).trans h7) ((hs 8 (by omega) (by omega)).trans h8) g8 hV.oc) mX6_191 dX6_explore_86 (WS_70) rfl rfl rfl ⟨by decide, by decide⟩ (Nat.le_of_ble_eq_true rfl) ⟨by decide, by decide⟩ (fun _ _ h => h.elim) (fun r u hq => ?_)
    obtain ⟨n', rf', sl', tb', nx', f', s', rfl, hres⟩ := hq
    have hF1 : ∀ c, F1 σ (WS (up σ' 0 c) a.cnt n' rf' sl' er nx' f' s') := fun c => ⟨fun q hq => by rw [WS_x (by omega), up_ne _ _ (by omega)]; exact hs2 q hq, fun _ z => by cases z⟩
    rcases hres with ⟨z, ez, rfl, rfl, hS'⟩ | ⟨ez, rfl⟩
    · have hz2 := xAll_ok hV.ok hV.oc (show 1 ≤ limit by omega) ez
      refine z_istore_n dX6_explore_89 (by decide) ?_
      refine z_aload_n dX6_explore_90 rfl ?_
      refine z_iload_n dX6_explore_91 rfl ?_
      refine i_iconst dX6_explore_92 rfl ?_
      refine i_icmp_eq (tgt := 100) dX6_explore_93 (by decide) (by omega) (by omega) (fun h3 => ?_) (fun h3 => ?_)
      · skip
        omega
      · skip
        refine i_iconst dX6_explore_96 rfl ?_
        refine z_goto (tgt := 101) dX6_explore_97 (by decide) ?_
        refine i_putz (b := true) cls5 3 flX6_29 dX6_explore_101 (by decide) rfl rfl (w0 _ _ _ _ _ _ _ _) (Nat.le_of_ble_eq_true rfl) ?_
        refine z_eqw (WS_up0 (obD (.ref 70) true)) ?_
        refine z_iload_n dX6_explore_104 rfl ?_
        refine z_iret dX6_explore_105 rfl (by decide) (by decide) ⟨hc0, by rw [ez]; rfl, ?_, hF1 _, fun z => by cases z⟩
        exact dk_ws (ex' := some z) hD0 hs (by unfold oExpl; rw [ez]) (fun x hx => by cases hx; exact ⟨rfl, tb', hS'⟩)
    · skip
      refine z_istore_n dX6_explore_89 (by decide) ?_
      refine z_aload_n dX6_explore_90 rfl ?_
      refine z_iload_n dX6_explore_91 rfl ?_
      refine i_iconst dX6_explore_92 rfl ?_
      refine i_icmp_eq (tgt := 100) dX6_explore_93 (by decide) (by omega) (by omega) (fun h3 => ?_) (fun h3 => ?_)
      · skip
        refine i_iconst dX6_explore_100 rfl ?_
        refine i_putz (b := false) cls5 3 flX6_29 dX6_explore_101 (by decide) rfl rfl (w0 _ _ _ _ _ _ _ _) (Nat.le_of_ble_eq_true rfl) ?_
        refine z_eqw (WS_up0 (obD (.ref 70) false)) ?_
        refine z_iload_n dX6_explore_104 rfl ?_
        refine z_iret dX6_explore_105 rfl (by decide) (by decide) ⟨hc0, by rw [ez]; rfl, ?_, hF1 _, fun z => by cases z⟩
        exact dk_ws (ex' := none) hD0 hs (by unfold oExpl; rw [ez]) (fun x hx => by cases hx)
      · skip
        exact absurd rfl h3
  have H12 : ¬ (1 ≤ limit ∧ limit ≤ 3000) → PX6_explore (fun r u => cdExpl a limit = 0 ∧ r = some (.int (iI (exV (xAll a.ac a.M a.E a.B a.cnt limit.toNat a.ag)))) ∧ DK u (oExpl a limit.toNat) ∧ F1 σ u ∧ u 70 ≠ none) (QE (cdExpl a limit) IAE ISE σ) 12 [some (.ref 0), some (.int (iI limit)), none] [] σ 0 0 := by
    intro hx
    refine z_throwS (text := "limit is not 1 .. 3000") rfl tw_iae clX6_41 in_IllegalArgumentException (by decide +kernel) (by decide +kernel) dX6_explore_12 dX6_explore_15 dX6_explore_16 dX6_explore_18 dX6_explore_21 (by decide) (Nat.le_of_ble_eq_true rfl) (by decide) (by decide) ?_
    exact ⟨rfl, Or.inl ⟨if_neg hx, rfl⟩⟩
  have H45 : 1 ≤ limit ∧ limit ≤ 3000 → ¬ (1 ≤ a.cnt ∧ a.cnt ≤ 6) → PX6_explore (fun r u => cdExpl a limit = 0 ∧ r = some (.int (iI (exV (xAll a.ac a.M a.E a.B a.cnt limit.toNat a.ag)))) ∧ DK u (oExpl a limit.toNat) ∧ F1 σ u ∧ u 70 ≠ none) (QE (cdExpl a limit) IAE ISE σ) 45 [some (.ref 0), some (.int (iI limit)), none] [] σ 0 0 := by
    intro hl1 hx
    refine z_throwS (text := "no agents, or more than 6") rfl tw_ise clX6_63 in_IllegalStateException (by decide +kernel) (by decide +kernel) dX6_explore_45 dX6_explore_48 dX6_explore_49 dX6_explore_51 dX6_explore_54 (by decide) (Nat.le_of_ble_eq_true rfl) (by decide) (by decide) ?_
    exact ⟨rfl, Or.inr ⟨by unfold cdExpl; rw [if_pos hl1, if_neg hx], rfl⟩⟩
  refine z_iload_n dX6_explore_0 rfl ?_
  refine i_iconst dX6_explore_1 rfl ?_
  refine i_icmp_lt (tgt := 12) dX6_explore_2 (by decide) (by omega) (by omega) (fun h1 => ?_) (fun h1 => ?_)
  · skip
    exact H12 (by omega)
  · skip
    refine z_iload_n dX6_explore_5 rfl ?_
    refine i_sipush dX6_explore_6 (by decide) ?_
    refine i_icmp_le (tgt := 22) dX6_explore_9 (by decide) (by omega) (by omega) (fun h3 => ?_) (fun h3 => ?_)
    · skip
      refine z_aload_n dX6_explore_22 rfl ?_
      refine z_getf cls5 1 flX6_21 dX6_explore_23 (by decide) (by first | exact h0 | rfl) rfl ?_
      refine i_cVr (k_count _ a.cnt h7) mX6_116 dX6_explore_26 (by first | exact h7 | rfl) rfl rfl rfl ⟨by decide, by decide⟩ (Nat.le_of_ble_eq_true rfl) ⟨by decide, by decide⟩ ?_
      refine i_iconst dX6_explore_29 rfl ?_
      refine i_icmp_lt (tgt := 45) dX6_explore_30 (by decide) (by omega) (by omega) (fun h4 => ?_) (fun h4 => ?_)
      · skip
        exact H45 (by omega) (by omega)
      · skip
        refine z_aload_n dX6_explore_33 rfl ?_
        refine z_getf cls5 1 flX6_21 dX6_explore_34 (by decide) (by first | exact h0 | rfl) rfl ?_
        refine i_cVr (k_count _ a.cnt h7) mX6_116 dX6_explore_37 (by first | exact h7 | rfl) rfl rfl rfl ⟨by decide, by decide⟩ (Nat.le_of_ble_eq_true rfl) ⟨by decide, by decide⟩ ?_
        refine i_bipush dX6_explore_40 (by decide) ?_
        refine i_icmp_le (tgt := 55) dX6_explore_42 (by decide) (by omega) (by omega) (fun h5 => ?_) (fun h5 => ?_)
        · skip
          have hc0 : cdExpl a limit = 0 := by unfold cdExpl; rw [if_pos (by omega), if_pos (by omega)]
          rcases g10 with ⟨_, _, z⟩ | ⟨rfl, wd, fd, rf, sl, er, nx, f1, s1, hSL, hSI⟩
          · exact absurd (z 70 (by omega) (by omega)) (h70 hc0)
          · skip
            refine z_aload_n dX6_explore_55 rfl ?_
            refine z_getf cls5 2 flX6_25 dX6_explore_56 (by decide) (by first | exact h0 | rfl) rfl ?_
            refine z_ifnonnull (tgt := 77) dX6_explore_59 (by decide) ?_
            refine z_eqw hSL.id ?_
            exact H77 σ wd fd rf sl er nx f1 s1 (fun _ _ _ => rfl) (fun _ _ => rfl) h0 (by omega) (by omega)
        · skip
          exact H45 (by omega) (by omega)
    · skip
      exact H12 (by omega)
theorem k_explore0 {σ : Wd} {a : AS} (hD : DK σ a) (hV : VL a) (limit : Int) (hl : i32 limit) (hcd : cdExpl a limit = 0) (h70 : σ 70 = none) : KX6_explore0 [.ref 0, .int (iI limit)] σ (fun r u => cdExpl a limit = 0 ∧ r = some (.int (iI (exV (xAll a.ac a.M a.E a.B a.cnt limit.toNat a.ag)))) ∧ DK u (oExpl a limit.toNat) ∧ F1 σ u ∧ u 70 ≠ none) (QE (cdExpl a limit) IAE ISE σ) := by
  obtain ⟨rc, S, CD, NB, FR, fa, f, s, sr, hD0⟩ := hD
  have hll : (1 ≤ limit ∧ limit ≤ 3000) ∧ (1 ≤ a.cnt ∧ a.cnt ≤ 6) := by
    unfold cdExpl at hcd
    by_cases q1 : 1 ≤ limit ∧ limit ≤ 3000
    · rw [if_pos q1] at hcd
      by_cases q2 : 1 ≤ a.cnt ∧ a.cnt ≤ 6
      · exact ⟨q1, q2⟩
      · rw [if_neg q2] at hcd; cases hcd
    · rw [if_neg q1] at hcd; cases hcd
  have hD := hD0
  obtain ⟨hF, g1, h0, h2, h7, h8, h9, h10, g8, g9, g10⟩ := hD
  have hl' := hl
  unfold i32 at hl'
  have hcl := hV.cnt
  refine Ct.intro (by decide) (Nat.le_of_ble_eq_true rfl) ?_
  have H77 : ∀ (σ' : Wd) (wd fd : Nat) (rf : Nat → Nat) (sl : Nat → Int) (er : Nat → Bool) (nx : Nat → Nat) (f1 s1 : Nat), (∀ q, 1 ≤ q → q < 65 → σ' q = σ q) → (∀ q, 100 ≤ q → σ' q = σ q) → σ' 0 = some (obD (.ref 70) a.ex.isSome) → 1 ≤ limit ∧ limit ≤ 3000 → 1 ≤ a.cnt ∧ a.cnt ≤ 6 → PX6_explore0 (fun r u => cdExpl a limit = 0 ∧ r = some (.int (iI (exV (xAll a.ac a.M a.E a.B a.cnt limit.toNat a.ag)))) ∧ DK u (oExpl a limit.toNat) ∧ F1 σ u ∧ u 70 ≠ none) (QE (cdExpl a limit) IAE ISE σ) 77 [some (.ref 0), some (.int (iI limit)), none] [] (WS σ' wd fd rf sl er nx f1 s1) 6 29209 := by
    intro σ' wd fd rf sl er nx f1 s1 hs hs2 hs0 hl1 hl2
    have hc0 : cdExpl a limit = 0 := by unfold cdExpl; rw [if_pos hl1, if_pos hl2]
    obtain ⟨limit, rfl⟩ := Int.eq_ofNat_of_zero_le (show 0 ≤ limit by omega)
    rw [Int.toNat_natCast]
    have w0 : ∀ (wd fd : Nat) (rf : Nat → Nat) (sl : Nat → Int) (er : Nat → Bool) (nx : Nat → Nat) (f1 s1 : Nat), WS σ' wd fd rf sl er nx f1 s1 0 = some (obD (.ref 70) a.ex.isSome) := fun wd fd rf sl er nx f1 s1 => (WS_x (by omega)).trans hs0
    refine z_aload_n dX6_explore_77 rfl ?_
    refine z_getf cls5 2 flX6_25 dX6_explore_78 (by decide) (w0 _ _ _ _ _ _ _ _) rfl ?_
    refine z_aload_n dX6_explore_81 rfl ?_
    refine z_getf cls5 1 flX6_21 dX6_explore_82 (by decide) (w0 _ _ _ _ _ _ _ _) rfl ?_
    refine z_iload_n dX6_explore_85 rfl ?_
    refine z_callVX (k_findAll σ' a.cnt wd fd rf sl er nx fa f1 s1 a.nc a.ac a.cp a.op a.lf rc a.M a.E a.B S a.CF CD NB FR a.ag limit hl2 hV.ac hV.ok (fx_fr hF hs) (by omega) ((hs 7 (by omega) (by omega)).trans h7) ((hs 8 (by omega) (by omega)).trans h8) g8 hV.oc) mX6_191 dX6_explore_86 (WS_70) rfl rfl rfl ⟨by decide, by decide⟩ (Nat.le_of_ble_eq_true rfl) ⟨by decide, by decide⟩ (fun _ _ h => h.elim) (fun r u hq => ?_)
    obtain ⟨n', rf', sl', tb', nx', f', s', rfl, hres⟩ := hq
    have hF1 : ∀ c, F1 σ (WS (up σ' 0 c) a.cnt n' rf' sl' er nx' f' s') := fun c => ⟨fun q hq => by rw [WS_x (by omega), up_ne _ _ (by omega)]; exact hs2 q hq, fun _ z => by cases z⟩
    rcases hres with ⟨z, ez, rfl, rfl, hS'⟩ | ⟨ez, rfl⟩
    · have hz2 := xAll_ok hV.ok hV.oc (show 1 ≤ limit by omega) ez
      refine z_istore_n dX6_explore_89 (by decide) ?_
      refine z_aload_n dX6_explore_90 rfl ?_
      refine z_iload_n dX6_explore_91 rfl ?_
      refine i_iconst dX6_explore_92 rfl ?_
      refine i_icmp_eq (tgt := 100) dX6_explore_93 (by decide) (by omega) (by omega) (fun h3 => ?_) (fun h3 => ?_)
      · skip
        omega
      · skip
        refine i_iconst dX6_explore_96 rfl ?_
        refine z_goto (tgt := 101) dX6_explore_97 (by decide) ?_
        refine i_putz (b := true) cls5 3 flX6_29 dX6_explore_101 (by decide) rfl rfl (w0 _ _ _ _ _ _ _ _) (Nat.le_of_ble_eq_true rfl) ?_
        refine z_eqw (WS_up0 (obD (.ref 70) true)) ?_
        refine z_iload_n dX6_explore_104 rfl ?_
        refine z_iret dX6_explore_105 rfl (by decide) (by decide) ⟨hc0, by rw [ez]; rfl, ?_, hF1 _, fun z => by cases z⟩
        exact dk_ws (ex' := some z) hD0 hs (by unfold oExpl; rw [ez]) (fun x hx => by cases hx; exact ⟨rfl, tb', hS'⟩)
    · skip
      refine z_istore_n dX6_explore_89 (by decide) ?_
      refine z_aload_n dX6_explore_90 rfl ?_
      refine z_iload_n dX6_explore_91 rfl ?_
      refine i_iconst dX6_explore_92 rfl ?_
      refine i_icmp_eq (tgt := 100) dX6_explore_93 (by decide) (by omega) (by omega) (fun h3 => ?_) (fun h3 => ?_)
      · skip
        refine i_iconst dX6_explore_100 rfl ?_
        refine i_putz (b := false) cls5 3 flX6_29 dX6_explore_101 (by decide) rfl rfl (w0 _ _ _ _ _ _ _ _) (Nat.le_of_ble_eq_true rfl) ?_
        refine z_eqw (WS_up0 (obD (.ref 70) false)) ?_
        refine z_iload_n dX6_explore_104 rfl ?_
        refine z_iret dX6_explore_105 rfl (by decide) (by decide) ⟨hc0, by rw [ez]; rfl, ?_, hF1 _, fun z => by cases z⟩
        exact dk_ws (ex' := none) hD0 hs (by unfold oExpl; rw [ez]) (fun x hx => by cases hx)
      · skip
        exact absurd rfl h3
  refine z_iload_n dX6_explore_0 rfl ?_
  refine i_iconst dX6_explore_1 rfl ?_
  refine i_icmp_lt (tgt := 12) dX6_explore_2 (by decide) (by omega) (by omega) (fun h1 => ?_) (fun h1 => ?_)
  · skip
    omega
  · skip
    refine z_iload_n dX6_explore_5 rfl ?_
    refine i_sipush dX6_explore_6 (by decide) ?_
    refine i_icmp_le (tgt := 22) dX6_explore_9 (by decide) (by omega) (by omega) (fun h3 => ?_) (fun h3 => ?_)
    · skip
      refine z_aload_n dX6_explore_22 rfl ?_
      refine z_getf cls5 1 flX6_21 dX6_explore_23 (by decide) (by first | exact h0 | rfl) rfl ?_
      refine i_cVr (k_count _ a.cnt h7) mX6_116 dX6_explore_26 (by first | exact h7 | rfl) rfl rfl rfl ⟨by decide, by decide⟩ (Nat.le_of_ble_eq_true rfl) ⟨by decide, by decide⟩ ?_
      refine i_iconst dX6_explore_29 rfl ?_
      refine i_icmp_lt (tgt := 45) dX6_explore_30 (by decide) (by omega) (by omega) (fun h4 => ?_) (fun h4 => ?_)
      · skip
        omega
      · skip
        refine z_aload_n dX6_explore_33 rfl ?_
        refine z_getf cls5 1 flX6_21 dX6_explore_34 (by decide) (by first | exact h0 | rfl) rfl ?_
        refine i_cVr (k_count _ a.cnt h7) mX6_116 dX6_explore_37 (by first | exact h7 | rfl) rfl rfl rfl ⟨by decide, by decide⟩ (Nat.le_of_ble_eq_true rfl) ⟨by decide, by decide⟩ ?_
        refine i_bipush dX6_explore_40 (by decide) ?_
        refine i_icmp_le (tgt := 55) dX6_explore_42 (by decide) (by omega) (by omega) (fun h5 => ?_) (fun h5 => ?_)
        · skip
          rcases g10 with ⟨rfl, hex, z⟩ | ⟨_, wd, fd, rf, sl, er, nx, f1, s1, hSL, hSI⟩
          · skip
            refine z_aload_n dX6_explore_55 rfl ?_
            refine z_getf cls5 2 flX6_25 dX6_explore_56 (by decide) (by first | exact h0 | rfl) rfl ?_
            refine z_ifnonnullN dX6_explore_59 ?_
            refine z_aload_n dX6_explore_62 rfl ?_
            refine z_newD cls4 clX6_188 itX5 in_CrowdDesk_Search dX6_explore_63 70 (z 70 (by omega) (by omega)) [.null, .null, .null, .null, .null, .null, .int (iI 0), .int (iI 0)] rfl rfl (by decide) (by decide) ?_
            refine z_dup dX6_explore_66 rfl ?_
            refine z_aload_n dX6_explore_67 rfl ?_
            refine z_getf cls5 0 flX6_10 dX6_explore_68 (by decide) (by first | exact h0 | rfl) rfl ?_
            refine z_callI (k_X5_init _ (up_self _ _ _) (fun q hq => by rw [up_ne _ _ (by omega)]; exact z q (by omega) (by omega))) mX6_190 dX6_explore_71 rfl rfl ⟨by decide, by decide⟩ (Nat.le_of_ble_eq_true rfl) ⟨by decide, by decide⟩ (fun r u hq => ?_)
            obtain ⟨rfl, rfl⟩ := hq
            refine z_putf cls5 2 flX6_25 dX6_explore_74 (by decide) rfl rfl (fun _ => ⟨rfl, rfl⟩) ((WS_x (by omega)).trans ((up_ne _ _ (by decide)).trans h0)) (Nat.le_of_ble_eq_true rfl) ?_
            refine z_eqw (WS_up0 (obD (.ref 70) a.ex.isSome)) ?_
            exact H77 _ 0 0 _ _ _ _ 0 0 (fun q q1 q2 => by rw [up_ne _ _ (by omega), up_ne _ _ (by omega)]) (fun q hq => by rw [up_ne _ _ (by omega), up_ne _ _ (by omega)]) (up_self _ _ _) hll.1 hll.2
          · exact absurd h70 (by rw [hSL.1]; exact fun z => by cases z)
        · skip
          omega
    · skip
      omega
def cdRec (a : AS) : Nat := if a.ex.isSome = true then 0 else 1
theorem reB_rc {op lf rt rc : Nat → Int} {nc ac w : Nat} {M E B : Nat → Int} {x : XS} {t : Bool} (h : ∀ k, k < nc → op k ≠ 2 → rc k = rt k) : reB op lf rc nc ac M E B w x t = reB op lf rt nc ac M E B w x t := funext fun c => by
  unfold reB
  rw [allB_congr (p := fun k => fml op lf rc (opA (x.1 c k)) nc == t) (p' := fun k => fml op lf rt (opA (x.1 c k)) nc == t) (fun k _ => by rw [fml_rc h])]
noncomputable def rvV (a : AS) : Bool := match a.ex with
  | none => false
  | some x => recB a.ac a.M a.E a.B a.cnt x (reB a.op a.lf a.rt a.nc a.ac a.M a.E a.B a.cnt x (trV a))
theorem k_recovers {σ : Wd} {a : AS} (hD : DK σ a) (hV : VL a) : KX6_recovers [.ref 0] σ (QO (cdRec a) (.int (iI (bI (rvV a)))) σ a) (QE (cdRec a) ISE IAE σ) := by
  obtain ⟨rc, S, CD, NB, FR, fa, f, s, sr, hD0⟩ := hD
  have hD := hD0
  obtain ⟨hF, g1, h0, h2, h7, h8, h9, h10, g8, g9, g10⟩ := hD
  have hcl := hV.cnt
  refine Ct.intro (by decide) (Nat.le_of_ble_eq_true rfl) ?_
  refine z_aload_n dX6_recovers_0 rfl ?_
  refine z_getf cls5 3 flX6_29 dX6_recovers_1 (by decide) (by first | exact h0 | rfl) rfl ?_
  refine i_ifb_eq (tgt := 14) dX6_recovers_4 (by decide) (fun h1 => ?_) (fun h1 => ?_)
  · skip
    refine z_throwS (text := "the present crowd is not explored") rfl tw_ise clX6_63 in_IllegalStateException (by decide +kernel) (by decide +kernel) dX6_recovers_14 dX6_recovers_17 dX6_recovers_18 dX6_recovers_20 dX6_recovers_23 (by decide) (Nat.le_of_ble_eq_true rfl) (by decide) (by decide) ?_
    exact ⟨rfl, Or.inl ⟨if_neg (by rw [h1]; decide), rfl⟩⟩
  · skip
    obtain ⟨x, ex⟩ := Option.isSome_iff_exists.mp h1
    obtain ⟨x1, x2, x3, x4, x5⟩ := hV.ex x ex
    have hcp : a.cp = true := hV.cc (by omega)
    have hfv := hV.fv hcp
    obtain ⟨v1, v2, v3, v4⟩ := hfv
    rcases g10 with ⟨_, z, _⟩ | ⟨rfl, wd, fd, rf, sl, er, nx, f1, s1, hSL, hSI⟩
    · rw [ex] at z; cases z
    · obtain ⟨rfl, rfl, tb, hS⟩ := hSI x ex
      refine z_aload_n dX6_recovers_7 rfl ?_
      refine z_getf cls5 2 flX6_25 dX6_recovers_8 (by decide) (by first | exact h0 | rfl) rfl ?_
      refine z_ifnonnull (tgt := 24) dX6_recovers_11 (by decide) ?_
      refine z_aload_n dX6_recovers_24 rfl ?_
      refine z_getf cls5 2 flX6_25 dX6_recovers_25 (by decide) (by first | exact h0 | rfl) rfl ?_
      refine z_aload_n dX6_recovers_28 rfl ?_
      refine z_getf cls5 0 flX6_10 dX6_recovers_29 (by decide) (by first | exact h0 | rfl) rfl ?_
      refine z_aload_n dX6_recovers_32 rfl ?_
      refine z_getf cls5 1 flX6_21 dX6_recovers_33 (by decide) (by first | exact h0 | rfl) rfl ?_
      refine i_cVr (k_letterCounts _ a.cnt h7) mX6_170 dX6_recovers_36 (by first | exact h7 | rfl) rfl rfl rfl ⟨by decide, by decide⟩ (Nat.le_of_ble_eq_true rfl) ⟨by decide, by decide⟩ ?_
      refine i_cVr (k_X3_isTrueOf σ a.nc a.ac a.cp a.op a.lf rc a.lt a.M a.E a.B S a.CF CD NB FR 9 v1 v2 (wf_rc v3 g1) v4 (fun l hl => by have := hV.lt l hl; omega) hF.1 hF.2.1 hF.2.2.1 hF.2.2.2.1 hF.2.2.2.2.1 hF.2.2.2.2.2 h9) mX6_174 dX6_recovers_39 (by first | exact hF.1 | rfl) rfl rfl rfl ⟨by decide, by decide⟩ (Nat.le_of_ble_eq_true rfl) ⟨by decide, by decide⟩ ?_
      rw [fml_rc g1]
      refine z_eqw hSL.id ?_
      refine z_callVX (k_allCanEndRight σ a.cnt rf sl tb er nx f1 s1 a.nc a.ac a.cp a.op a.lf rc a.M a.E a.B S a.CF CD NB FR x (trV a) x1 ⟨v1, v2, wf_rc v3 g1, v4⟩ hF x4 x2 hS) mX6_197 dX6_recovers_42 (WS_70) rfl rfl rfl ⟨by decide, by decide⟩ (Nat.le_of_ble_eq_true rfl) ⟨by decide, by decide⟩ (fun _ _ h => h.elim) (fun r u hq => ?_)
      obtain ⟨er', nx', f', s', rfl, rfl⟩ := hq
      rw [reB_rc g1]
      have hdk := dk_ws (σ' := σ) (ex' := some x) (n' := x.2) (er' := er') (nx' := nx') (f' := f') (s' := s') (a' := a) hD0 (fun _ _ _ => rfl) (by rw [← ex]) (fun y hy => by cases hy; exact ⟨rfl, tb, hS⟩)
      rw [ex] at h0
      rw [up_id h0] at hdk
      exact z_zret dX6_recovers_45 rfl (by decide) (by decide) (bI_n _) ⟨if_pos h1, by unfold rvV; rw [ex], hdk, ⟨fun q hq => WS_x (by omega), fun _ z => by cases z⟩⟩

