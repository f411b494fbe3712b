theorem k_X3_init (σ : Wd) (h1 : σ 1 = some (ob 2 [.null, .null, .null, .null, .null, .int (iI 0), .int (iI 0), .int (iI (bI false))])) (hn : ∀ q, (2 ≤ q ∧ q ≤ 6) ∨ (20 ≤ q ∧ q < 65) → σ q = none) :
    KX3_init [.ref 1] σ (fun r u => r = none ∧ (∀ q, q = 0 ∨ (7 ≤ q ∧ q < 20) ∨ 65 ≤ q → u q = σ q) ∧ u 2 = some (AI 8 (fun _ => 0)) ∧ FX u 0 0 false (fun _ => 0) (fun _ => 0) (fun _ => 0) (fun _ => 0) (fun _ => 0) (fun _ => 0) (fun _ => 0) (fun _ _ => 0) (fun _ _ => 0) (fun _ _ => 0) (fun _ _ => 0)) NX := by
  refine Ct.intro (by decide) (Nat.le_of_ble_eq_true rfl) ?_
  obtain ⟨Q, hQ⟩ : ∃ Q : Option Value → Wd → Prop, Q = fun r u => r = none ∧ (∀ q, q = 0 ∨ (7 ≤ q ∧ q < 20) ∨ 65 ≤ q → u q = σ q) ∧ u 2 = some (AI 8 (fun _ => 0)) ∧ FX u 0 0 false (fun _ => 0) (fun _ => 0) (fun _ => 0) (fun _ => 0) (fun _ => 0) (fun _ => 0) (fun _ => 0) (fun _ _ => 0) (fun _ _ => 0) (fun _ _ => 0) (fun _ _ => 0) := ⟨_, rfl⟩
  rw [← hQ]
  have H : ∀ a : Nat, a ≤ 5 → ∀ u : Wd, (∀ q, q = 0 ∨ (7 ≤ q ∧ q < 20) ∨ 65 ≤ q → u q = σ q) → (∀ q, 20 + 10 * a ≤ q → q < 65 → u q = none) → u 1 = some (obF 0 0 false) → u 2 = some (AI 8 (fun _ => 0)) → u 3 = some (AI 20 (fun _ => 0)) → u 4 = some (AI 20 (fun _ => 0)) → u 5 = some (AI 20 (fun _ => 0)) → u 6 = some (aR 5 (fun i => if i < a then atN i else none)) → (∀ i, i < a → u (20 + 10 * i) = some (obA (20 + 10 * i) 0 0 0 0) ∧ u (20 + 10 * i + 1) = some (AI 8 (fun _ => 0)) ∧ u (20 + 10 * i + 2) = some (AI 256 (fun _ => 0)) ∧ u (20 + 10 * i + 3) = some (AI 256 (fun _ => 0)) ∧ u (20 + 10 * i + 4) = some (AI 257 (fun _ => 0))) → PX3_init Q NX 46 [some (.ref 1), some (.int (iI a))] [] u (5 + 5 * a) (73 + 785 * a) := by
    refine up_to 5 ?_ ?_
    · intro u ho hn h1 h2 h3 h4 h5 h6 hA
      refine z_iload_n dX3_init_46 rfl ?_
      refine i_iconst dX3_init_47 rfl ?_
      refine i_icmp_ge (tgt := 70) dX3_init_48 (by decide) (by omega) (by omega) (fun h9 => ?_) (fun h9 => ?_)
      · skip
        refine z_vret dX3_init_70 rfl (by decide) (by decide) (by rw [hQ]; refine ⟨rfl, ho, h2, h1, h3, h4, h5, ?_, hA⟩; rw [h6]; exact congrArg (fun g => some (aR 5 g)) (funext fun i => by unfold atN; by_cases z : i < 5 <;> simp [z]))
      · skip
        omega
    · intro a ha ih u ho hn h1 h2 h3 h4 h5 h6 hA
      refine z_iload_n dX3_init_46 rfl ?_
      refine i_iconst dX3_init_47 rfl ?_
      refine i_icmp_ge (tgt := 70) dX3_init_48 (by decide) (by omega) (by omega) (fun h9 => ?_) (fun h9 => ?_)
      · skip
        omega
      · skip
        refine z_aload_n dX3_init_51 rfl ?_
        refine z_getf cls2 4 flX3_26 dX3_init_52 (by decide) (by first | exact h1 | rfl) rfl ?_
        refine z_iload_n dX3_init_55 rfl ?_
        refine z_newD cls0 clX3_24 itX0 in_CrowdDesk_Atom dX3_init_56 (20 + 10 * a) (hn _ (by omega) (by omega)) [.null, .int (iI 0), .int (iI 0), .int (iI 0), .null, .null, .null, .int (iI 0)] rfl rfl (by show 5 + 5 * a + 1 ≤ 30; omega) (by show 73 + 785 * a + 8 ≤ 3998; omega) ?_
        refine z_dup dX3_init_59 rfl ?_
        have hnn : ∀ q, 20 + 10 * a < q → q < 65 → ∀ c, up u (20 + 10 * a) c q = none := fun q q1 q2 c => by rw [up_ne _ _ (by omega)]; exact hn q (by omega) q2
        refine z_callIN rfl (k_X0_init _ (20 + 10 * a) (up_self _ _ _) (hnn _ (by omega) (by omega) _) (hnn _ (by omega) (by omega) _) (hnn _ (by omega) (by omega) _) (hnn _ (by omega) (by omega) _)) (inW1 36 rfl rfl) (inW1 35 rfl rfl) in_CrowdDesk_Atom dX3_init_60 rfl ⟨by decide, by decide⟩ (Nat.le_of_ble_eq_true rfl) ⟨by show 5 + 5 * a + 1 + 4 ≤ 30; omega, by show 73 + 785 * a + 8 + 777 ≤ 3998; omega⟩ (fun r v hq => ?_)
        obtain ⟨rfl, hO, a0, a1, a2, a3, a4⟩ := hq
        have hv : ∀ q, q < 20 + 10 * a ∨ 20 + 10 * a + 4 < q → v q = u q := fun q hq => by rw [hO q hq, up_ne _ _ (by omega)]
        refine z_aast dX3_init_63 ((hv 6 (by omega)).trans h6) a0 a (iI_nat a) (by omega) ?_
        refine i_iinc dX3_init_64 rfl (by decide) ?_
        refine z_goto (tgt := 46) dX3_init_67 (by decide) ?_
        rw [show 5 + 5 * a + 1 + rmX0_init.cells = 5 + 5 * (a + 1) by show 5 + 5 * a + 1 + 4 = _; omega, show 73 + 785 * a + 8 + rmX0_init.slots = 73 + 785 * (a + 1) by show 73 + 785 * a + 8 + 777 = _; omega]
        have hx : ∀ (c : pCell) q, q ≠ 6 → up v 6 c q = v q := fun c q hq => up_ne _ _ hq
        refine ih _ (fun q hq => ?_) (fun q q1 q2 => ?_) ?_ ?_ ?_ ?_ ?_ ?_ (fun i hi => ?_)
        · rw [hx _ q (by omega), hv q (by omega)]; exact ho q hq
        · rw [hx _ q (by omega), hv q (by omega)]; exact hn q (by omega) q2
        · rw [hx _ _ (by decide), hv _ (by omega)]; exact h1
        · rw [hx _ _ (by decide), hv _ (by omega)]; exact h2
        · rw [hx _ _ (by decide), hv _ (by omega)]; exact h3
        · rw [hx _ _ (by decide), hv _ (by omega)]; exact h4
        · rw [hx _ _ (by decide), hv _ (by omega)]; exact h5
        · rw [up_self, ← atN_lt ha]
          exact congrArg (fun g => some (aR 5 g)) (up_step atN (fun _ => none) a)
        · rw [hx _ _ (by omega), hx _ _ (by omega), hx _ _ (by omega), hx _ _ (by omega), hx _ _ (by omega)]
          by_cases z : i = a
          · rw [z]; exact ⟨a0, a1, a2, a3, a4⟩
          · rw [hv _ (by omega), hv _ (by omega), hv _ (by omega), hv _ (by omega), hv _ (by omega)]; exact hA i (by omega)
  refine z_aload_n dX3_init_0 rfl ?_
  refine z_objInit (inW1 30 rfl rfl) (inW1 23 rfl rfl) (inW1 24 rfl rfl) dX3_init_1 (by decide) (Nat.le_of_ble_eq_true rfl) ?_
  refine z_aload_n dX3_init_4 rfl ?_
  refine i_bipush dX3_init_5 (by decide) ?_
  refine i_newI (N := 8) (inW1 63 rfl rfl) dX3_init_7 2 (hn 2 (by omega)) rfl (by decide) (by decide) (by decide) ?_
  refine z_putF cls2 0 flX3_9 dX3_init_9 (by decide) rfl rfl rfl rfl (fun _ => ⟨rfl, rfl⟩) (by first | exact h1 | rfl) (Nat.le_of_ble_eq_true rfl) ?_
  refine z_aload_n dX3_init_12 rfl ?_
  refine i_bipush dX3_init_13 (by decide) ?_
  refine i_newI (N := 20) (inW1 63 rfl rfl) dX3_init_15 3 (hn 3 (by omega)) rfl (by decide) (by decide) (by decide) ?_
  refine z_putF cls2 1 flX3_15 dX3_init_17 (by decide) rfl rfl rfl rfl (fun _ => ⟨rfl, rfl⟩) (by first | exact h1 | rfl) (Nat.le_of_ble_eq_true rfl) ?_
  refine z_aload_n dX3_init_20 rfl ?_
  refine i_bipush dX3_init_21 (by decide) ?_
  refine i_newI (N := 20) (inW1 63 rfl rfl) dX3_init_23 4 (hn 4 (by omega)) rfl (by decide) (by decide) (by decide) ?_
  refine z_putF cls2 2 flX3_18 dX3_init_25 (by decide) rfl rfl rfl rfl (fun _ => ⟨rfl, rfl⟩) (by first | exact h1 | rfl) (Nat.le_of_ble_eq_true rfl) ?_
  refine z_aload_n dX3_init_28 rfl ?_
  refine i_bipush dX3_init_29 (by decide) ?_
  refine i_newI (N := 20) (inW1 63 rfl rfl) dX3_init_31 5 (hn 5 (by omega)) rfl (by decide) (by decide) (by decide) ?_
  refine z_putF cls2 3 flX3_21 dX3_init_33 (by decide) rfl rfl rfl rfl (fun _ => ⟨rfl, rfl⟩) (by first | exact h1 | rfl) (Nat.le_of_ble_eq_true rfl) ?_
  refine z_aload_n dX3_init_36 rfl ?_
  refine i_iconst dX3_init_37 rfl ?_
  refine z_anew (N := 5) clX3_24 dX3_init_38 6 (hn 6 (by omega)) rfl (by decide) (by decide) (by decide) ?_
  refine z_putF cls2 4 flX3_26 dX3_init_41 (by decide) rfl rfl rfl rfl (fun _ => ⟨rfl, rfl⟩) (by first | exact h1 | rfl) (Nat.le_of_ble_eq_true rfl) ?_
  refine i_iconst dX3_init_44 rfl ?_
  refine z_istore_n dX3_init_45 (by decide) ?_
  refine H 0 (by omega) _ (fun q hq => ?_) (fun q q1 q2 => ?_) rfl rfl rfl rfl rfl ?_ (fun i hi => absurd hi (Nat.not_lt_zero i))
  · rw [up_ne _ _ (by omega), up_ne _ _ (by omega), up_ne _ _ (by omega), up_ne _ _ (by omega), up_ne _ _ (by omega), up_ne _ _ (by omega), up_ne _ _ (by omega), up_ne _ _ (by omega), up_ne _ _ (by omega), up_ne _ _ (by omega)]
  · rw [up_ne _ _ (by omega), up_ne _ _ (by omega), up_ne _ _ (by omega), up_ne _ _ (by omega), up_ne _ _ (by omega), up_ne _ _ (by omega), up_ne _ _ (by omega), up_ne _ _ (by omega), up_ne _ _ (by omega), up_ne _ _ (by omega)]; exact hn q (by omega)
  · show some (aR 5 (fun _ => none)) = _
    exact congrArg (fun g => some (aR 5 g)) (up_step0 atN (fun _ => none)).symm
theorem k_X2_init (σ : Wd) (h7 : σ 7 = some (ob 1 [.null, .null, .null, .null, .int (iI 0)])) (h8 : σ 8 = none) (h9 : σ 9 = none) (h10 : σ 10 = none) :
    KX2_init [.ref 7, .ref 1] σ (fun r u => r = none ∧ Out 7 10 σ u ∧ u 7 = some (obC 0) ∧ u 8 = some (AL 200 (fun _ => 0)) ∧ u 9 = some (AI 8 (fun _ => 0)) ∧ u 10 = some (obM 0 0)) NX := by
  refine Ct.intro (by decide) (Nat.le_of_ble_eq_true rfl) ?_
  refine z_aload_n dX2_init_0 rfl ?_
  refine z_objInit (inW1 94 rfl rfl) (inW1 23 rfl rfl) (inW1 24 rfl rfl) dX2_init_1 (by decide) (Nat.le_of_ble_eq_true rfl) ?_
  refine z_aload_n dX2_init_4 rfl ?_
  refine i_sipush dX2_init_5 (by decide) ?_
  refine i_newL (N := 200) (inW1 111 rfl rfl) dX2_init_8 8 h8 rfl (by decide) (by decide) (by decide) ?_
  refine z_putF cls1 2 flX2_9 dX2_init_10 (by decide) rfl rfl rfl rfl (fun _ => ⟨rfl, rfl⟩) (by first | exact h7 | rfl) (Nat.le_of_ble_eq_true rfl) ?_
  refine z_aload_n dX2_init_13 rfl ?_
  refine i_bipush dX2_init_14 (by decide) ?_
  refine i_newI (N := 8) (inW1 63 rfl rfl) dX2_init_16 9 h9 rfl (by decide) (by decide) (by decide) ?_
  refine z_putF cls1 3 flX2_15 dX2_init_18 (by decide) rfl rfl rfl rfl (fun _ => ⟨rfl, rfl⟩) (by first | exact h7 | rfl) (Nat.le_of_ble_eq_true rfl) ?_
  refine z_aload_n dX2_init_21 rfl ?_
  refine z_aload_n dX2_init_22 rfl ?_
  refine z_putF cls1 0 flX2_19 dX2_init_23 (by decide) rfl rfl rfl rfl (fun _ => ⟨rfl, rfl⟩) (by first | exact h7 | rfl) (Nat.le_of_ble_eq_true rfl) ?_
  refine z_aload_n dX2_init_26 rfl ?_
  refine z_newD cls3 clX2_23 itX4 in_CrowdDesk_Meeting dX2_init_27 10 h10 [.null, .long (lN 0), .long (lN 0)] rfl rfl (by decide) (by decide) ?_
  refine z_dup dX2_init_30 rfl ?_
  refine z_aload_n dX2_init_31 rfl ?_
  refine i_cI (k_X4_init _ 10 rfl) mX2_25 dX2_init_32 rfl rfl ⟨by decide, by decide⟩ (Nat.le_of_ble_eq_true rfl) ⟨by decide, by decide⟩ ?_
  refine z_putF cls1 1 flX2_28 dX2_init_35 (by decide) rfl rfl rfl rfl (fun _ => ⟨rfl, rfl⟩) (by first | exact h7 | rfl) (Nat.le_of_ble_eq_true rfl) ?_
  refine z_vret dX2_init_38 rfl (by decide) (by decide) ⟨rfl, fun q hq => ?_, rfl, rfl, rfl, rfl⟩
  rw [up_ne _ _ (by omega), up_ne _ _ (by omega), up_ne _ _ (by omega), up_ne _ _ (by omega), up_ne _ _ (by omega), up_ne _ _ (by omega), up_ne _ _ (by omega), up_ne _ _ (by omega)]
theorem k_X5_init (σ : Wd) (h70 : σ 70 = some (ob 4 [.null, .null, .null, .null, .null, .null, .int (iI 0), .int (iI 0)])) (hn : ∀ q, 71 ≤ q ∧ q ≤ 75 → σ q = none) :
    KX5_init [.ref 70, .ref 1] σ (fun r u => r = none ∧ u = WS σ 0 0 (fun _ => 0) (fun _ => 0) (fun _ => false) (fun _ => 0) 0 0) NX := by
  refine Ct.intro (by decide) (Nat.le_of_ble_eq_true rfl) ?_
  refine z_aload_n dX5_init_0 rfl ?_
  refine z_objInit (inW3 167 rfl rfl) (inW1 23 rfl rfl) (inW1 24 rfl rfl) dX5_init_1 (by decide) (Nat.le_of_ble_eq_true rfl) ?_
  refine z_aload_n dX5_init_4 rfl ?_
  refine i_sipush dX5_init_5 (by decide) ?_
  refine i_newL (N := 18000) (inW1 111 rfl rfl) dX5_init_8 71 (hn 71 (by omega)) rfl (by decide) (by decide) (by decide) ?_
  refine z_putF cls4 2 flX5_9 dX5_init_10 (by decide) rfl rfl rfl rfl (fun _ => ⟨rfl, rfl⟩) (by first | exact h70 | rfl) (Nat.le_of_ble_eq_true rfl) ?_
  refine z_aload_n dX5_init_13 rfl ?_
  refine i_sipush dX5_init_14 (by decide) ?_
  refine i_newI (N := 8192) (inW1 63 rfl rfl) dX5_init_17 72 (hn 72 (by omega)) rfl (by decide) (by decide) (by decide) ?_
  refine z_putF cls4 3 flX5_15 dX5_init_19 (by decide) rfl rfl rfl rfl (fun _ => ⟨rfl, rfl⟩) (by first | exact h70 | rfl) (Nat.le_of_ble_eq_true rfl) ?_
  refine z_aload_n dX5_init_22 rfl ?_
  refine i_sipush dX5_init_23 (by decide) ?_
  refine i_newZ (N := 3000) (inW3 195 rfl rfl) dX5_init_26 73 (hn 73 (by omega)) rfl (by decide) (by decide) (by decide) ?_
  refine z_putF cls4 4 flX5_19 dX5_init_28 (by decide) rfl rfl rfl rfl (fun _ => ⟨rfl, rfl⟩) (by first | exact h70 | rfl) (Nat.le_of_ble_eq_true rfl) ?_
  refine z_aload_n dX5_init_31 rfl ?_
  refine i_bipush dX5_init_32 (by decide) ?_
  refine i_newL (N := 6) (inW1 111 rfl rfl) dX5_init_34 74 (hn 74 (by omega)) rfl (by decide) (by decide) (by decide) ?_
  refine z_putF cls4 5 flX5_23 dX5_init_36 (by decide) rfl rfl rfl rfl (fun _ => ⟨rfl, rfl⟩) (by first | exact h70 | rfl) (Nat.le_of_ble_eq_true rfl) ?_
  refine z_aload_n dX5_init_39 rfl ?_
  refine z_aload_n dX5_init_40 rfl ?_
  refine z_putF cls4 0 flX5_26 dX5_init_41 (by decide) rfl rfl rfl rfl (fun _ => ⟨rfl, rfl⟩) (by first | exact h70 | rfl) (Nat.le_of_ble_eq_true rfl) ?_
  refine z_aload_n dX5_init_44 rfl ?_
  refine z_newD cls3 clX5_30 itX4 in_CrowdDesk_Meeting dX5_init_45 75 (hn 75 (by omega)) [.null, .long (lN 0), .long (lN 0)] rfl rfl (by decide) (by decide) ?_
  refine z_dup dX5_init_48 rfl ?_
  refine z_aload_n dX5_init_49 rfl ?_
  refine i_cI (k_X4_init _ 75 rfl) mX5_32 dX5_init_50 rfl rfl ⟨by decide, by decide⟩ (Nat.le_of_ble_eq_true rfl) ⟨by decide, by decide⟩ ?_
  refine z_putF cls4 1 flX5_35 dX5_init_53 (by decide) rfl rfl rfl rfl (fun _ => ⟨rfl, rfl⟩) (by first | exact h70 | rfl) (Nat.le_of_ble_eq_true rfl) ?_
  refine z_vret dX5_init_56 rfl (by decide) (by decide) ⟨rfl, funext fun q => ?_⟩
  by_cases z0 : q = 70
  · rw [z0]; rfl
  by_cases z1 : q = 71
  · rw [z1]; rfl
  by_cases z2 : q = 72
  · rw [z2]; rfl
  by_cases z3 : q = 73
  · rw [z3]; rfl
  by_cases z4 : q = 74
  · rw [z4]; rfl
  by_cases z5 : q = 75
  · rw [z5]; rfl
  rw [WS_x (by omega), up_ne _ _ (by omega), up_ne _ _ (by omega), up_ne _ _ (by omega), up_ne _ _ (by omega), up_ne _ _ (by omega), up_ne _ _ (by omega), up_ne _ _ (by omega), up_ne _ _ (by omega), up_ne _ _ (by omega), up_ne _ _ (by omega), up_ne _ _ (by omega), up_ne _ _ (by omega)]
abbrev obD (sr : Value) (ex : Bool) : pCell := ob 5 [.ref 1, .ref 7, sr, .int (iI (bI ex))]
theorem k_X6_init (σ : Wd) (h0 : σ 0 = some (ob 5 [.null, .null, .null, .int (iI (bI false))])) (hn : ∀ q, 1 ≤ q ∧ q < 65 → σ q = none) :
    KX6_init [.ref 0] σ (fun r u => r = none ∧ (∀ q, 65 ≤ q → u q = σ q) ∧ u 0 = some (obD .null false) ∧ u 2 = some (AI 8 (fun _ => 0)) ∧ FX u 0 0 false (fun _ => 0) (fun _ => 0) (fun _ => 0) (fun _ => 0) (fun _ => 0) (fun _ => 0) (fun _ => 0) (fun _ _ => 0) (fun _ _ => 0) (fun _ _ => 0) (fun _ _ => 0) ∧ u 7 = some (obC 0) ∧ u 8 = some (AL 200 (fun _ => 0)) ∧ u 9 = some (AI 8 (fun _ => 0)) ∧ u 10 = some (obM 0 0)) NX := by
  refine Ct.intro (by decide) (Nat.le_of_ble_eq_true rfl) ?_
  refine z_aload_n dX6_init_0 rfl ?_
  refine z_objInit (inW1 22 rfl rfl) (inW1 23 rfl rfl) (inW1 24 rfl rfl) dX6_init_1 (by decide) (Nat.le_of_ble_eq_true rfl) ?_
  refine z_aload_n dX6_init_4 rfl ?_
  refine z_newD cls2 clX6_7 itX3 in_CrowdDesk_Formula dX6_init_5 1 (hn 1 (by omega)) [.null, .null, .null, .null, .null, .int (iI 0), .int (iI 0), .int (iI (bI false))] rfl rfl (by decide) (by decide) ?_
  refine z_dup dX6_init_8 rfl ?_
  refine z_callI (k_X3_init _ (up_self _ _ _) (fun q hq => by rw [up_ne _ _ (by omega)]; exact hn q (by omega))) mX6_9 dX6_init_9 rfl rfl ⟨by decide, by decide⟩ (Nat.le_of_ble_eq_true rfl) ⟨by decide, by decide⟩ (fun r u hq => ?_)
  obtain ⟨rfl, o1, e2, hF⟩ := hq
  have e0 : u 0 = some (ob 5 [.null, .null, .null, .int (iI (bI false))]) := (o1 0 (by omega)).trans h0
  refine z_putF cls5 0 flX6_10 dX6_init_12 (by decide) rfl rfl rfl rfl (fun _ => ⟨rfl, rfl⟩) (by first | exact e0 | rfl) (Nat.le_of_ble_eq_true rfl) ?_
  have en : ∀ q, 7 ≤ q → q < 20 → ∀ c, up u 0 c q = none := fun q q1 q2 c => by rw [up_ne _ _ (by omega), o1 q (by omega), up_ne _ _ (by omega)]; exact hn q (by omega)
  refine z_aload_n dX6_init_15 rfl ?_
  refine z_newD cls1 clX6_16 itX2 in_CrowdDesk_Crowd dX6_init_16 7 (en 7 (by omega) (by omega) _) [.null, .null, .null, .null, .int (iI 0)] rfl rfl (by decide) (by decide) ?_
  refine z_dup dX6_init_19 rfl ?_
  refine z_aload_n dX6_init_20 rfl ?_
  refine z_getf cls5 0 flX6_10 dX6_init_21 (by decide) (by rw [up_ne _ _ (by decide)]; exact up_self _ _ _) rfl ?_
  refine z_callI (k_X2_init _ (up_self _ _ _) (by rw [up_ne _ _ (by decide)]; exact en 8 (by omega) (by omega) _) (by rw [up_ne _ _ (by decide)]; exact en 9 (by omega) (by omega) _) (by rw [up_ne _ _ (by decide)]; exact en 10 (by omega) (by omega) _)) mX6_18 dX6_init_24 rfl rfl ⟨by decide, by decide⟩ (Nat.le_of_ble_eq_true rfl) ⟨by decide, by decide⟩ (fun r v hq => ?_)
  obtain ⟨rfl, o2, e7, e8, e9, e10⟩ := hq
  have f0 : v 0 = some (ob 5 [.ref 1, .null, .null, .int (iI (bI false))]) := (o2 0 (by omega)).trans rfl
  refine z_putF cls5 1 flX6_21 dX6_init_27 (by decide) rfl rfl rfl rfl (fun _ => ⟨rfl, rfl⟩) (f0) (Nat.le_of_ble_eq_true rfl) ?_
  refine z_aload_n dX6_init_30 rfl ?_
  refine z_null dX6_init_31 ?_
  refine z_putf cls5 2 flX6_25 dX6_init_32 (by decide) rfl rfl (fun _ => ⟨rfl, rfl⟩) (up_self _ _ _) (Nat.le_of_ble_eq_true rfl) ?_
  refine z_aload_n dX6_init_35 rfl ?_
  refine i_iconst dX6_init_36 rfl ?_
  refine i_putz (b := false) cls5 3 flX6_29 dX6_init_37 (by decide) rfl rfl (up_self _ _ _) (Nat.le_of_ble_eq_true rfl) ?_
  have ev : ∀ q, q ≠ 0 → q < 7 ∨ 10 < q → v q = u q := fun q q0 hq => by rw [o2 q hq, up_ne _ _ (by omega), up_ne _ _ q0]
  refine z_vret dX6_init_40 rfl (by decide) (by decide) ⟨rfl, fun q hq => ?_, up_self _ _ _, ?_, ?_, ?_, ?_, ?_, ?_⟩
  · rw [up_ne _ _ (by omega), up_ne _ _ (by omega), up_ne _ _ (by omega), ev q (by omega) (by omega), o1 q (by omega), up_ne _ _ (by omega)]
  · exact (ev 2 (by decide) (by decide)).trans e2
  · refine ((FX.up ?_ _ (by omega)).up _ (by omega)).up _ (by omega)
    obtain ⟨f1, f2, f3, f4, f5, f6⟩ := hF
    refine ⟨(ev _ (by decide) (by decide)).trans f1, (ev _ (by decide) (by decide)).trans f2, (ev _ (by decide) (by decide)).trans f3, (ev _ (by decide) (by decide)).trans f4, (ev _ (by decide) (by decide)).trans f5, fun a ha => ?_⟩
    obtain ⟨g1, g2, g3, g4, g5⟩ := f6 a ha
    exact ⟨(ev _ (by omega) (by omega)).trans g1, (ev _ (by omega) (by omega)).trans g2, (ev _ (by omega) (by omega)).trans g3, (ev _ (by omega) (by omega)).trans g4, (ev _ (by omega) (by omega)).trans g5⟩
  · exact e7
  · exact e8
  · exact e9
  · exact e10

