/-! ATOM (class 0): its object at the name o, its rows at o + 1 .. o + 4 -/
abbrev obA (o : Nat) (m e b s : Int) : pCell := ob 0 [.ref (o + 1), .int (iI m), .int (iI e), .int (iI b), .ref (o + 2), .ref (o + 3), .ref (o + 4), .int (iI s)]
theorem k_reduce (o : Nat) (m e b s v : Int) (hm : 0 ≤ m ∧ m ≤ 16) (hv : -2147483647 ≤ v ∧ v < 2147483648) (σ : Wd) (hA : σ o = some (obA o m e b s)) : KX0_reduce [.ref o, .int (iI v)] σ (Rt (some (.int (iI (red m v)))) σ) NX := by
  refine Ct.intro (by decide) (Nat.le_of_ble_eq_true rfl) ?_
  unfold red
  refine z_aload_n dX0_reduce_0 rfl ?_
  refine z_getf cls0 1 flX0_26 dX0_reduce_1 (by decide) (hA) rfl ?_
  refine i_if_le (tgt := 18) dX0_reduce_4 (by decide) (by omega) (fun h1 => ?_) (fun h1 => ?_)
  · skip
    rw [if_neg (by omega)]
    refine z_iload_n dX0_reduce_18 rfl ?_
    exact i_iret dX0_reduce_19 rfl (by decide) (by decide) rfl
  · skip
    rw [if_pos (by omega)]
    refine z_iload_n dX0_reduce_7 rfl ?_
    refine z_aload_n dX0_reduce_8 rfl ?_
    refine z_getf cls0 1 flX0_26 dX0_reduce_9 (by decide) (hA) rfl ?_
    refine i_cSr (k_floorMod v m hv (by omega) σ) mX0_69 dX0_reduce_12 rfl rfl ⟨by decide, by decide⟩ (Nat.le_of_ble_eq_true rfl) ⟨by decide, by decide⟩ ?_
    refine z_goto (tgt := 19) dX0_reduce_15 (by decide) ?_
    exact i_iret dX0_reduce_19 rfl (by decide) (by decide) rfl
theorem k_opinionOf (o : Nat) (m e b s v : Int) (hm : 0 ≤ m ∧ m ≤ 16) (he : -2147483648 ≤ e ∧ e < 2147483648) (hv : -2147483648 ≤ v ∧ v < 2147483648) (σ : Wd) (hA : σ o = some (obA o m e b s)) : KX0_opinionOf [.ref o, .int (iI v)] σ (Rt (some (.int (iI (bI (opn m e v))))) σ) NX := by
  refine Ct.intro (by decide) (Nat.le_of_ble_eq_true rfl) ?_
  unfold opn
  refine z_aload_n dX0_opinionOf_0 rfl ?_
  refine z_getf cls0 1 flX0_26 dX0_opinionOf_1 (by decide) (hA) rfl ?_
  refine i_if_le (tgt := 23) dX0_opinionOf_4 (by decide) (by omega) (fun h1 => ?_) (fun h1 => ?_)
  · skip
    rw [if_neg (by omega)]
    refine z_iload_n dX0_opinionOf_23 rfl ?_
    refine z_aload_n dX0_opinionOf_24 rfl ?_
    refine z_getf cls0 2 flX0_30 dX0_opinionOf_25 (by decide) (hA) rfl ?_
    refine i_icmp_lt (tgt := 35) dX0_opinionOf_28 (by decide) (by omega) (by omega) (fun h2 => ?_) (fun h2 => ?_)
    · skip
      refine i_iconst dX0_opinionOf_35 rfl ?_
      exact i_rf dX0_opinionOf_36 rfl (by decide) (by decide) (decide_eq_false (by omega)) rfl
    · skip
      refine i_iconst dX0_opinionOf_31 rfl ?_
      refine z_goto (tgt := 36) dX0_opinionOf_32 (by decide) ?_
      exact i_rt dX0_opinionOf_36 rfl (by decide) (by decide) (decide_eq_true (by omega)) rfl
  · skip
    rw [if_pos (by omega)]
    refine z_iload_n dX0_opinionOf_7 rfl ?_
    refine z_aload_n dX0_opinionOf_8 rfl ?_
    refine z_getf cls0 2 flX0_30 dX0_opinionOf_9 (by decide) (hA) rfl ?_
    refine i_icmp_ne (tgt := 19) dX0_opinionOf_12 (by decide) (by omega) (by omega) (fun h2 => ?_) (fun h2 => ?_)
    · skip
      refine i_iconst dX0_opinionOf_19 rfl ?_
      refine z_goto (tgt := 36) dX0_opinionOf_20 (by decide) ?_
      exact i_rf dX0_opinionOf_36 rfl (by decide) (by decide) (decide_eq_false h2) rfl
    · skip
      refine i_iconst dX0_opinionOf_15 rfl ?_
      refine z_goto (tgt := 36) dX0_opinionOf_16 (by decide) ?_
      exact i_rt dX0_opinionOf_36 rfl (by decide) (by decide) (decide_eq_true h2) rfl
theorem red_r {m v : Int} (hm : 0 ≤ m ∧ m ≤ 16) (hv : -20 ≤ v ∧ v ≤ 20) : -21 ≤ red m v ∧ red m v ≤ 21 := by
  unfold red
  by_cases h : 0 < m
  · rw [if_pos h]
    have := Int.emod_nonneg v (show m ≠ 0 by omega)
    have := Int.emod_lt_of_pos v h
    omega
  · rw [if_neg h]; omega
theorem k_beginning (o : Nat) (m e b s : Int) (cf : Nat → Int) (l : Nat) (hm : 0 ≤ m ∧ m ≤ 16) (he : -20 ≤ e ∧ e ≤ 20) (hl : l < 8) (hcf : -20 ≤ cf l ∧ cf l ≤ 20) (σ : Wd) (hA : σ o = some (obA o m e b s)) (hC : σ (o + 1) = some (AI 8 cf)) : KX0_beginning [.ref o, .int (iI l)] σ (Rt (some (.int (iI (cdN (bgn m e (cf l)))))) σ) NX := by
  refine Ct.intro (by decide) (Nat.le_of_ble_eq_true rfl) ?_
  have hr := red_r hm hcf
  rw [cdN_i (x := bgn m e (cf l)) (by unfold rg bgn; exact hr)]
  refine z_aload_n dX0_beginning_0 rfl ?_
  refine z_aload_n dX0_beginning_1 rfl ?_
  refine z_getf cls0 0 flX0_9 dX0_beginning_2 (by decide) (hA) rfl ?_
  refine z_iload_n dX0_beginning_5 rfl ?_
  refine i_iald dX0_beginning_6 (hC) l (by omega) (by omega) ?_
  refine i_cVr (k_reduce o m e b s (cf l) hm (by omega) σ hA) mX0_46 dX0_beginning_7 (hA) rfl rfl rfl ⟨by decide, by decide⟩ (Nat.le_of_ble_eq_true rfl) ⟨by decide, by decide⟩ ?_
  refine z_istore_n dX0_beginning_10 (by decide) ?_
  refine i_iconst dX0_beginning_11 rfl ?_
  refine z_iload_n dX0_beginning_12 rfl ?_
  refine z_aload_n dX0_beginning_13 rfl ?_
  refine z_iload_n dX0_beginning_14 rfl ?_
  refine i_cVr (k_opinionOf o m e b s (red m (cf l)) hm (by omega) (by omega) σ hA) mX0_49 dX0_beginning_15 (hA) rfl rfl rfl ⟨by decide, by decide⟩ (Nat.le_of_ble_eq_true rfl) ⟨by decide, by decide⟩ ?_
  refine i_cSr (k_X1_of true (opn m e (red m (cf l))) (red m (cf l)) (by omega) σ) mX0_53 dX0_beginning_18 rfl rfl ⟨by decide, by decide⟩ (Nat.le_of_ble_eq_true rfl) ⟨by decide, by decide⟩ ?_
  exact i_iret dX0_beginning_21 rfl (by decide) (by decide) rfl
theorem clamp_mm {b v : Int} (hb : 1 ≤ b) : (if -b < (if v < b then v else b) then (if v < b then v else b) else -b) = clamp b v := by
  unfold clamp
  by_cases h1 : v < b
  · rw [if_pos h1]
    by_cases h2 : -b < v
    · rw [if_pos h2, if_neg (by omega), if_neg (by omega)]
    · rw [if_neg h2]
      by_cases h3 : v < -b
      · rw [if_pos h3]
      · rw [if_neg h3, if_neg (by omega)]; omega
  · rw [if_neg h1, if_pos (by omega), if_neg (by omega)]
    by_cases h3 : b < v
    · rw [if_pos h3]
    · rw [if_neg h3]; omega
theorem k_of (x : St) (hx : rg x) (σ : Wd) : KX1_of [.int (iI (bI x.1)), .int (iI x.2.1), .int (iI (bI x.2.2))] σ (Rt (some (.int (iI (cdN x)))) σ) NX := by
  rw [cdN_i hx]
  exact k_X1_of x.1 x.2.2 x.2.1 (by unfold rg at hx; omega) σ
theorem k_afterMeeting (o : Nat) (m e b s : Int) (x y : St) (ha : okA m e b) (hx : okM m b x) (hy : okM m b y) (σ : Wd) (hA : σ o = some (obA o m e b s)) : KX0_afterMeeting [.ref o, .int (iI (cdN x)), .int (iI (cdN y))] σ (Rt (some (.int (iI ((cdN (mt m e b x y).1 * 256 + cdN (mt m e b x y).2 : Nat) : Int)))) σ) NX := by
  refine Ct.intro (by decide) (Nat.le_of_ble_eq_true rfl) ?_
  have hm : 0 ≤ m ∧ m ≤ 16 := by unfold okA at ha; omega
  have he : -20 ≤ e ∧ e ≤ 20 := by unfold okA at ha; omega
  have hb : 1 ≤ b ∧ b ≤ 21 := by unfold okA at ha; omega
  have rx := okM_rg ha hx
  have ry := okM_rg ha hy
  have lx := cdN_lt rx
  have ly := cdN_lt ry
  have vx : -21 ≤ x.2.1 ∧ x.2.1 ≤ 21 := rx
  have vy : -21 ≤ y.2.1 ∧ y.2.1 ≤ 21 := ry
  obtain ⟨v, hv⟩ : ∃ v, v = x.2.1 + y.2.1 := ⟨_, rfl⟩
  have hk : -21 ≤ kpt m b v ∧ kpt m b v ≤ 21 := okM_rg (x := (true, kpt m b v, true)) ha (kpt_ok ha)
  have hl : -21 ≤ lft m b v ∧ lft m b v ≤ 21 := okM_rg (x := (true, lft m b v, true)) ha (lft_ok ha (fun h => by have := hx.2 h; have := hy.2 h; omega))
  have J2 : ¬ (x.1 = false ∧ y.1 = false) → PX0_afterMeeting (Rt (some (.int (iI ((cdN (mt m e b x y).1 * 256 + cdN (mt m e b x y).2 : Nat) : Int)))) σ) NX 86 [some (.ref o), some (.int (iI (cdN x))), some (.int (iI (cdN y))), some (.int (iI (bI x.1))), some (.int (iI v)), some (.int (iI (kpt m b v))), some (.int (iI (lft m b v))), none, none, none] [] σ 0 0 := by
    intro hne
    refine z_aload_n dX0_afterMeeting_86 rfl ?_
    refine z_iload dX0_afterMeeting_87 rfl ?_
    refine i_cVr (k_opinionOf o m e b s (kpt m b v) hm (by omega) (by omega) σ hA) mX0_49 dX0_afterMeeting_89 (hA) rfl rfl rfl ⟨by decide, by decide⟩ (Nat.le_of_ble_eq_true rfl) ⟨by decide, by decide⟩ ?_
    refine z_istore dX0_afterMeeting_92 (by decide) ?_
    refine i_iconst dX0_afterMeeting_94 rfl ?_
    refine z_iload dX0_afterMeeting_95 rfl ?_
    refine z_iload dX0_afterMeeting_97 rfl ?_
    refine i_cSr (k_of (true, kpt m b v, opn m e (kpt m b v)) hk σ) mX0_53 dX0_afterMeeting_99 rfl rfl ⟨by decide, by decide⟩ (Nat.le_of_ble_eq_true rfl) ⟨by decide, by decide⟩ ?_
    refine z_istore dX0_afterMeeting_102 (by decide) ?_
    refine i_iconst dX0_afterMeeting_104 rfl ?_
    refine z_iload dX0_afterMeeting_105 rfl ?_
    refine z_iload dX0_afterMeeting_107 rfl ?_
    refine i_cSr (k_of (false, lft m b v, opn m e (kpt m b v)) hl σ) mX0_53 dX0_afterMeeting_109 rfl rfl ⟨by decide, by decide⟩ (Nat.le_of_ble_eq_true rfl) ⟨by decide, by decide⟩ ?_
    refine z_istore dX0_afterMeeting_112 (by decide) ?_
    refine z_iload_n dX0_afterMeeting_114 rfl ?_
    unfold mt
    rw [if_neg hne, ← hv]
    refine i_ifb_eq (tgt := 128) dX0_afterMeeting_115 (by decide) (fun h1 => ?_) (fun h1 => ?_)
    · skip
      rw [if_neg (by rw [h1]; decide)]
      refine z_iload dX0_afterMeeting_128 rfl ?_
      refine z_iload dX0_afterMeeting_130 rfl ?_
      refine i_cSr (k_X1_pair _ _ (cdN_lt (x := (false, lft m b v, opn m e (kpt m b v))) hl) (cdN_lt (x := (true, kpt m b v, opn m e (kpt m b v))) hk) σ) mX0_60 dX0_afterMeeting_132 rfl rfl ⟨by decide, by decide⟩ (Nat.le_of_ble_eq_true rfl) ⟨by decide, by decide⟩ ?_
      exact i_iret dX0_afterMeeting_135 rfl (by decide) (by decide) rfl
    · skip
      rw [if_pos h1]
      refine z_iload dX0_afterMeeting_118 rfl ?_
      refine z_iload dX0_afterMeeting_120 rfl ?_
      refine i_cSr (k_X1_pair _ _ (cdN_lt (x := (true, kpt m b v, opn m e (kpt m b v))) hk) (cdN_lt (x := (false, lft m b v, opn m e (kpt m b v))) hl) σ) mX0_60 dX0_afterMeeting_122 rfl rfl ⟨by decide, by decide⟩ (Nat.le_of_ble_eq_true rfl) ⟨by decide, by decide⟩ ?_
      refine z_goto (tgt := 135) dX0_afterMeeting_125 (by decide) ?_
      exact i_iret dX0_afterMeeting_135 rfl (by decide) (by decide) rfl
  have J : ¬ (x.1 = false ∧ y.1 = false) → PX0_afterMeeting (Rt (some (.int (iI ((cdN (mt m e b x y).1 * 256 + cdN (mt m e b x y).2 : Nat) : Int)))) σ) NX 22 [some (.ref o), some (.int (iI (cdN x))), some (.int (iI (cdN y))), some (.int (iI (bI x.1))), none, none, none, none, none, none] [] σ 0 0 := by
    intro hne
    have J2 := J2 hne
    refine z_iload_n dX0_afterMeeting_22 rfl ?_
    refine i_cSr (k_X1_value (cdN x) lx σ) mX0_63 dX0_afterMeeting_23 rfl rfl ⟨by decide, by decide⟩ (Nat.le_of_ble_eq_true rfl) ⟨by decide, by decide⟩ ?_
    refine z_iload_n dX0_afterMeeting_26 rfl ?_
    refine i_cSr (k_X1_value (cdN y) ly σ) mX0_63 dX0_afterMeeting_27 rfl rfl ⟨by decide, by decide⟩ (Nat.le_of_ble_eq_true rfl) ⟨by decide, by decide⟩ ?_
    refine i_iadd dX0_afterMeeting_30 ?_
    rw [cdN_v rx, cdN_v ry, ← hv]
    refine z_istore dX0_afterMeeting_31 (by decide) ?_
    refine z_aload_n dX0_afterMeeting_33 rfl ?_
    refine z_getf cls0 1 flX0_26 dX0_afterMeeting_34 (by decide) (hA) rfl ?_
    refine i_if_le (tgt := 49) dX0_afterMeeting_37 (by decide) (by omega) (fun h1 => ?_) (fun h1 => ?_)
    · skip
      refine z_aload_n dX0_afterMeeting_49 rfl ?_
      refine z_getf cls0 3 flX0_39 dX0_afterMeeting_50 (by decide) (hA) rfl ?_
      refine i_ineg dX0_afterMeeting_53 ?_
      refine z_aload_n dX0_afterMeeting_54 rfl ?_
      refine z_getf cls0 3 flX0_39 dX0_afterMeeting_55 (by decide) (hA) rfl ?_
      refine z_iload dX0_afterMeeting_58 rfl ?_
      refine i_cSr (k_min b v (by omega) (by omega) σ) mX0_66 dX0_afterMeeting_60 rfl rfl ⟨by decide, by decide⟩ (Nat.le_of_ble_eq_true rfl) ⟨by decide, by decide⟩ ?_
      refine i_cSr (k_max (-b) (if v < b then v else b) (by omega) (by split <;> omega) σ) mX0_42 dX0_afterMeeting_63 rfl rfl ⟨by decide, by decide⟩ (Nat.le_of_ble_eq_true rfl) ⟨by decide, by decide⟩ ?_
      rw [clamp_mm hb.1, show clamp b v = kpt m b v by unfold kpt; rw [if_neg (by omega)]]
      refine z_istore dX0_afterMeeting_66 (by decide) ?_
      refine z_aload_n dX0_afterMeeting_68 rfl ?_
      refine z_getf cls0 1 flX0_26 dX0_afterMeeting_69 (by decide) (hA) rfl ?_
      refine i_if_le (tgt := 79) dX0_afterMeeting_72 (by decide) (by omega) (fun h2 => ?_) (fun h2 => ?_)
      · skip
        refine z_iload dX0_afterMeeting_79 rfl ?_
        refine z_iload dX0_afterMeeting_81 rfl ?_
        refine i_isub dX0_afterMeeting_83 ?_
        rw [show v - kpt m b v = lft m b v by unfold kpt lft; rw [if_neg (by omega), if_neg (by omega)]]
        refine z_istore dX0_afterMeeting_84 (by decide) ?_
        exact J2
      · skip
        omega
    · skip
      refine z_aload_n dX0_afterMeeting_40 rfl ?_
      refine z_iload dX0_afterMeeting_41 rfl ?_
      refine i_cVr (k_reduce o m e b s v hm (by omega) σ hA) mX0_46 dX0_afterMeeting_43 (hA) rfl rfl rfl ⟨by decide, by decide⟩ (Nat.le_of_ble_eq_true rfl) ⟨by decide, by decide⟩ ?_
      refine z_goto (tgt := 66) dX0_afterMeeting_46 (by decide) ?_
      rw [show red m v = kpt m b v by unfold kpt red; rw [if_pos (by omega), if_pos (by omega)]]
      refine z_istore dX0_afterMeeting_66 (by decide) ?_
      refine z_aload_n dX0_afterMeeting_68 rfl ?_
      refine z_getf cls0 1 flX0_26 dX0_afterMeeting_69 (by decide) (hA) rfl ?_
      refine i_if_le (tgt := 79) dX0_afterMeeting_72 (by decide) (by omega) (fun h2 => ?_) (fun h2 => ?_)
      · skip
        omega
      · skip
        refine i_iconst dX0_afterMeeting_75 rfl ?_
        refine z_goto (tgt := 84) dX0_afterMeeting_76 (by decide) ?_
        rw [show (0 : Int) = lft m b v by unfold lft; rw [if_pos (by omega)]]
        refine z_istore dX0_afterMeeting_84 (by decide) ?_
        exact J2
  refine z_iload_n dX0_afterMeeting_0 rfl ?_
  refine i_cSr (k_X1_leads (cdN x) lx σ) mX0_57 dX0_afterMeeting_1 rfl rfl ⟨by decide, by decide⟩ (Nat.le_of_ble_eq_true rfl) ⟨by decide, by decide⟩ ?_
  rw [cdN_l rx]
  refine z_istore_n dX0_afterMeeting_4 (by decide) ?_
  refine z_iload_n dX0_afterMeeting_5 rfl ?_
  refine i_ifb_ne (tgt := 22) dX0_afterMeeting_6 (by decide) (fun h1 => ?_) (fun h1 => ?_)
  · skip
    exact J (fun q => by rw [h1] at q; cases q.1)
  · skip
    refine z_iload_n dX0_afterMeeting_9 rfl ?_
    refine i_cSr (k_X1_leads (cdN y) ly σ) mX0_57 dX0_afterMeeting_10 rfl rfl ⟨by decide, by decide⟩ (Nat.le_of_ble_eq_true rfl) ⟨by decide, by decide⟩ ?_
    rw [cdN_l ry]
    refine i_ifb_ne (tgt := 22) dX0_afterMeeting_13 (by decide) (fun h2 => ?_) (fun h2 => ?_)
    · skip
      exact J (fun q => by rw [h2] at q; cases q.2)
    · skip
      refine z_iload_n dX0_afterMeeting_16 rfl ?_
      refine z_iload_n dX0_afterMeeting_17 rfl ?_
      refine i_cSr (k_X1_pair _ _ lx ly σ) mX0_60 dX0_afterMeeting_18 rfl rfl ⟨by decide, by decide⟩ (Nat.le_of_ble_eq_true rfl) ⟨by decide, by decide⟩ ?_
      unfold mt
      rw [if_pos ⟨h1, h2⟩]
      exact i_iret dX0_afterMeeting_21 rfl (by decide) (by decide) rfl

