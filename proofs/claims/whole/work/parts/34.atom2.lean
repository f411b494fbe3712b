/-- the sum of coefficients times counts, of the first k letters -/
def smC (cf ct : Nat → Int) : Nat → Int
  | 0 => 0
  | k + 1 => smC cf ct k + cf k * ct k
theorem mul_r {a b : Int} (ha : -20 ≤ a ∧ a ≤ 20) (hb : 0 ≤ b ∧ b ≤ 200) : -4000 ≤ a * b ∧ a * b ≤ 4000 := by
  have h1 : a * b ≤ 20 * b := Int.mul_le_mul_of_nonneg_right ha.2 hb.1
  have h2 : -20 * b ≤ a * b := Int.mul_le_mul_of_nonneg_right ha.1 hb.1
  omega
theorem smC_r {cf ct : Nat → Int} (hcf : ∀ l, l < 8 → -20 ≤ cf l ∧ cf l ≤ 20) (hct : ∀ l, l < 8 → 0 ≤ ct l ∧ ct l ≤ 200) : ∀ k : Nat, k ≤ 8 → -(4000 * (k : Int)) ≤ smC cf ct k ∧ smC cf ct k ≤ 4000 * (k : Int)
  | 0, _ => by unfold smC; omega
  | k + 1, h => by
    have ih := smC_r hcf hct k (by omega)
    have := mul_r (hcf k (by omega)) (hct k (by omega))
    unfold smC
    omega
theorem k_isTrueOf (o q : Nat) (m e b s : Int) (cf ct : Nat → Int) (hm : 0 ≤ m ∧ m ≤ 16) (he : -20 ≤ e ∧ e ≤ 20) (hcf : ∀ l, l < 8 → -20 ≤ cf l ∧ cf l ≤ 20) (hct : ∀ l, l < 8 → 0 ≤ ct l ∧ ct l ≤ 200) (σ : Wd) (hA : σ o = some (obA o m e b s)) (hC : σ (o + 1) = some (AI 8 cf)) (hq : σ q = some (AI 8 ct)) : KX0_isTrueOf [.ref o, .ref q] σ (Rt (some (.int (iI (bI (opn m e (red m (smC cf ct 8))))))) σ) NX := by
  refine Ct.intro (by decide) (Nat.le_of_ble_eq_true rfl) ?_
  have hs := smC_r hcf hct
  have H : ∀ k : Nat, k ≤ 8 → PX0_isTrueOf (Rt (some (.int (iI (bI (opn m e (red m (smC cf ct 8))))))) σ) NX 4 [some (.ref o), some (.ref q), some (.int (iI (smC cf ct k))), some (.int (iI k))] [] σ 0 0 := by
    refine up_to 8 ?_ ?_
    · skip
      refine z_iload_n dX0_isTrueOf_4 rfl ?_
      refine i_bipush dX0_isTrueOf_5 (by decide) ?_
      refine i_icmp_ge (tgt := 29) dX0_isTrueOf_7 (by decide) (by omega) (by omega) (fun h1 => ?_) (fun h1 => ?_)
      · skip
        have h8 := hs 8 (by omega)
        have hr : -2147483648 ≤ red m (smC cf ct 8) ∧ red m (smC cf ct 8) < 2147483648 := by
          unfold red
          split
          · have := Int.emod_nonneg (smC cf ct 8) (show m ≠ 0 by omega)
            have := Int.emod_lt_of_pos (smC cf ct 8) (show 0 < m by omega)
            omega
          · omega
        refine z_aload_n dX0_isTrueOf_29 rfl ?_
        refine z_aload_n dX0_isTrueOf_30 rfl ?_
        refine z_iload_n dX0_isTrueOf_31 rfl ?_
        refine i_cVr (k_reduce o m e b s (smC cf ct 8) hm (by omega) σ hA) mX0_46 dX0_isTrueOf_32 (hA) rfl rfl rfl ⟨by decide, by decide⟩ (Nat.le_of_ble_eq_true rfl) ⟨by decide, by decide⟩ ?_
        refine i_cVr (k_opinionOf o m e b s (red m (smC cf ct 8)) hm (by omega) hr σ hA) mX0_49 dX0_isTrueOf_35 (hA) rfl rfl rfl ⟨by decide, by decide⟩ (Nat.le_of_ble_eq_true rfl) ⟨by decide, by decide⟩ ?_
        exact i_zret dX0_isTrueOf_38 rfl (by decide) (by decide) rfl
      · skip
        omega
    · intro k hk ih
      refine z_iload_n dX0_isTrueOf_4 rfl ?_
      refine i_bipush dX0_isTrueOf_5 (by decide) ?_
      refine i_icmp_ge (tgt := 29) dX0_isTrueOf_7 (by decide) (by omega) (by omega) (fun h1 => ?_) (fun h1 => ?_)
      · skip
        omega
      · skip
        refine z_iload_n dX0_isTrueOf_10 rfl ?_
        refine z_aload_n dX0_isTrueOf_11 rfl ?_
        refine z_getf cls0 0 flX0_9 dX0_isTrueOf_12 (by decide) (hA) rfl ?_
        refine z_iload_n dX0_isTrueOf_15 rfl ?_
        refine i_iald dX0_isTrueOf_16 (hC) k (by omega) (by omega) ?_
        refine z_aload_n dX0_isTrueOf_17 rfl ?_
        refine z_iload_n dX0_isTrueOf_18 rfl ?_
        refine i_iald dX0_isTrueOf_19 (hq) k (by omega) (by omega) ?_
        refine i_imul dX0_isTrueOf_20 ?_
        refine i_iadd dX0_isTrueOf_21 ?_
        refine z_istore_n dX0_isTrueOf_22 (by decide) ?_
        refine i_iinc dX0_isTrueOf_23 rfl (by decide) ?_
        refine z_goto (tgt := 4) dX0_isTrueOf_26 (by decide) ?_
        exact ih
  refine i_iconst dX0_isTrueOf_0 rfl ?_
  refine z_istore_n dX0_isTrueOf_1 (by decide) ?_
  refine i_iconst dX0_isTrueOf_2 rfl ?_
  refine z_istore_n dX0_isTrueOf_3 (by decide) ?_
  exact H 0 (by omega)
def absI (a : Int) : Int := if a < 0 then -a else a
def mxI (a b : Int) : Int := if a < b then b else a
/-- the bound of an atom, its first k coefficients seen -/
def bndF (e : Int) (pd : Nat → Int) : Nat → Int
  | 0 => absI e + 1
  | k + 1 => mxI (bndF e pd k) (absI (pd k))
theorem bndF_r {e : Int} {pd : Nat → Int} (he : -20 ≤ e ∧ e ≤ 20) (hp : ∀ l, l < 8 → -20 ≤ pd l ∧ pd l ≤ 20) : ∀ k : Nat, k ≤ 8 → 1 ≤ bndF e pd k ∧ bndF e pd k ≤ 21
  | 0, _ => by unfold bndF absI; split <;> omega
  | k + 1, h => by
    have ih := bndF_r he hp k (by omega)
    have := hp k (by omega)
    unfold bndF mxI absI
    split
    · split <;> omega
    · omega
theorem bndF_mono {e : Int} {pd : Nat → Int} : ∀ k n, k ≤ n → bndF e pd k ≤ bndF e pd n
  | k, 0, h => by have : k = 0 := by omega
                  subst this; exact Int.le_refl _
  | k, n + 1, h => by
    by_cases h2 : k = n + 1
    · rw [h2]; exact Int.le_refl _
    · have := bndF_mono (e := e) (pd := pd) k n (by omega)
      show bndF e pd k ≤ mxI (bndF e pd n) (absI (pd n))
      unfold mxI
      by_cases h3 : bndF e pd n < absI (pd n)
      · rw [if_pos h3]; omega
      · rw [if_neg h3]; omega
theorem bndF_ge {e : Int} {pd : Nat → Int} (l : Nat) (hl : l < 8) : -(bndF e pd 8) ≤ pd l ∧ pd l ≤ bndF e pd 8 := by
  have h1 : absI (pd l) ≤ bndF e pd (l + 1) := by
    show absI (pd l) ≤ mxI (bndF e pd l) (absI (pd l))
    unfold mxI
    by_cases h3 : bndF e pd l < absI (pd l)
    · rw [if_pos h3]; omega
    · rw [if_neg h3]; omega
  have h2 := bndF_mono (e := e) (pd := pd) (l + 1) 8 (by omega)
  unfold absI at h1
  by_cases h4 : pd l < 0
  · rw [if_pos h4] at h1; omega
  · rw [if_neg h4] at h1; omega
theorem k_become (o q : Nat) (m e m0 e0 b0 s0 : Int) (pd cf0 : Nat → Int) (he : -20 ≤ e ∧ e ≤ 20) (hp : ∀ l, l < 8 → -20 ≤ pd l ∧ pd l ≤ 20) (hqo : q ≠ o) (hq1 : q ≠ o + 1) (σ : Wd) (hA : σ o = some (obA o m0 e0 b0 s0)) (hC : σ (o + 1) = some (AI 8 cf0)) (hq : σ q = some (AI 8 pd)) : KX0_become [.ref o, .int (iI m), .int (iI e), .ref q] σ (Rt none (up (up σ o (obA o m e (bndF e pd 8) s0)) (o + 1) (AI 8 pd))) NX := by
  refine Ct.intro (by decide) (Nat.le_of_ble_eq_true rfl) ?_
  have hr := bndF_r he hp
  have H : ∀ k : Nat, k ≤ 8 → PX0_become (Rt none (up (up σ o (obA o m e (bndF e pd 8) s0)) (o + 1) (AI 8 pd))) NX 23 [some (.ref o), some (.int (iI m)), some (.int (iI e)), some (.ref q), some (.int (iI k))] [] (up (up σ o (obA o m e (bndF e pd k) s0)) (o + 1) (AI 8 (fun j => if j < k then pd j else cf0 j))) 0 0 := by
    refine up_to 8 ?_ ?_
    · skip
      refine z_iload dX0_become_23 rfl ?_
      refine i_bipush dX0_become_25 (by decide) ?_
      refine i_icmp_ge (tgt := 65) dX0_become_27 (by decide) (by omega) (by omega) (fun h1 => ?_) (fun h1 => ?_)
      · skip
        refine z_arrI pd (up_self _ _ _) (fun j hj => by rw [if_pos hj]) ?_
        exact i_vret dX0_become_65 rfl (by decide) (by decide) (up_up _ _ _ _)
      · skip
        omega
    · intro k hk ih
      have hAk : (up (up σ o (obA o m e (bndF e pd k) s0)) (o + 1) (AI 8 (fun j => if j < k then pd j else cf0 j))) o = some (obA o m e (bndF e pd k) s0) := by rw [up_ne _ _ (by omega), up_self]
      have hqk : (up (up σ o (obA o m e (bndF e pd k) s0)) (o + 1) (AI 8 (fun j => if j < k then pd j else cf0 j))) q = some (AI 8 pd) := by rw [up_ne _ _ hq1, up_ne _ _ hqo]; exact hq
      refine z_iload dX0_become_23 rfl ?_
      refine i_bipush dX0_become_25 (by decide) ?_
      refine i_icmp_ge (tgt := 65) dX0_become_27 (by decide) (by omega) (by omega) (fun h1 => ?_) (fun h1 => ?_)
      · skip
        omega
      · skip
        refine z_aload_n dX0_become_30 rfl ?_
        refine z_getf cls0 0 flX0_9 dX0_become_31 (by decide) (hAk) rfl ?_
        refine z_iload dX0_become_34 rfl ?_
        refine z_aload_n dX0_become_36 rfl ?_
        refine z_iload dX0_become_37 rfl ?_
        refine i_iald dX0_become_39 (hqk) k (by omega) (by omega) ?_
        refine i_iast dX0_become_40 (up_self _ _ _) k (by omega) (by omega) ?_
        rw [up_up, up_step pd cf0 k]
        have hAk2 : (up (up σ o (obA o m e (bndF e pd k) s0)) (o + 1) (AI 8 (fun j => if j < k + 1 then pd j else cf0 j))) o = some (obA o m e (bndF e pd k) s0) := by rw [up_ne _ _ (by omega), up_self]
        have hqk2 : (up (up σ o (obA o m e (bndF e pd k) s0)) (o + 1) (AI 8 (fun j => if j < k + 1 then pd j else cf0 j))) q = some (AI 8 pd) := by rw [up_ne _ _ hq1, up_ne _ _ hqo]; exact hq
        have hpk := hp k hk
        have hrk := hr k (by omega)
        refine z_aload_n dX0_become_41 rfl ?_
        refine z_aload_n dX0_become_42 rfl ?_
        refine z_getf cls0 3 flX0_39 dX0_become_43 (by decide) (hAk2) rfl ?_
        refine z_aload_n dX0_become_46 rfl ?_
        refine z_iload dX0_become_47 rfl ?_
        refine i_iald dX0_become_49 (hqk2) k (by omega) (by omega) ?_
        refine i_cSr (k_abs (pd k) (by omega) _) mX0_33 dX0_become_50 rfl rfl ⟨by decide, by decide⟩ (Nat.le_of_ble_eq_true rfl) ⟨by decide, by decide⟩ ?_
        refine i_cSr (k_max (bndF e pd k) (absI (pd k)) (by omega) (by unfold absI; split <;> omega) _) mX0_42 dX0_become_53 rfl rfl ⟨by decide, by decide⟩ (Nat.le_of_ble_eq_true rfl) ⟨by decide, by decide⟩ ?_
        refine i_puti cls0 3 flX0_39 dX0_become_56 (by decide) rfl rfl (hAk2) (Nat.le_of_ble_eq_true rfl) ?_
        refine i_iinc dX0_become_59 rfl (by decide) ?_
        refine z_goto (tgt := 23) dX0_become_62 (by decide) ?_
        refine z_eqw ?_ ih
        show up (up (up σ o _) (o + 1) _) o (obA o m e (bndF e pd (k + 1)) s0) = _
        rw [up_comm _ _ _ (show o + 1 ≠ o by omega), up_up]
  refine z_aload_n dX0_become_0 rfl ?_
  refine z_iload_n dX0_become_1 rfl ?_
  refine i_puti cls0 1 flX0_26 dX0_become_2 (by decide) rfl rfl (hA) (Nat.le_of_ble_eq_true rfl) ?_
  refine z_aload_n dX0_become_5 rfl ?_
  refine z_iload_n dX0_become_6 rfl ?_
  refine i_puti cls0 2 flX0_30 dX0_become_7 (by decide) rfl rfl (up_self _ _ _) (Nat.le_of_ble_eq_true rfl) ?_
  refine z_aload_n dX0_become_10 rfl ?_
  refine z_iload_n dX0_become_11 rfl ?_
  refine i_cSr (k_abs e (by omega) _) mX0_33 dX0_become_12 rfl rfl ⟨by decide, by decide⟩ (Nat.le_of_ble_eq_true rfl) ⟨by decide, by decide⟩ ?_
  refine i_iconst dX0_become_15 rfl ?_
  refine i_iadd dX0_become_16 ?_
  refine i_puti cls0 3 flX0_39 dX0_become_17 (by decide) rfl rfl (up_self _ _ _) (Nat.le_of_ble_eq_true rfl) ?_
  refine i_iconst dX0_become_20 rfl ?_
  refine z_istore dX0_become_21 (by decide) ?_
  refine z_eqw ?_ (H 0 (by omega))
  rw [up_step0 pd cf0, up_id (σ := up σ o (obA o m e (bndF e pd 0) s0)) (o := o + 1) (by rw [up_ne _ _ (by omega)]; exact hC)]
  show up (up (up σ o _) o _) o (obA o m e (bndF e pd 0) s0) = _
  rw [up_up, up_up]

