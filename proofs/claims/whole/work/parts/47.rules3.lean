section W4S
variable {σ : Wd} {o : Nat} {m e b : Int} {nb cd fr : Nat → Int} {n : Nat}
theorem W4_o : W4 σ o m e b nb cd fr n o = some (obA o m e b n) := by unfold W4; rw [up_ne _ _ (by omega)]; exact W3_o
theorem W4_2 : W4 σ o m e b nb cd fr n (o + 2) = some (AI 256 cd) := by unfold W4; rw [up_ne _ _ (by omega)]; exact W3_2
theorem W4_3 : W4 σ o m e b nb cd fr n (o + 3) = some (AI 256 nb) := by unfold W4; rw [up_ne _ _ (by omega)]; exact W3_3
theorem W4_4 : W4 σ o m e b nb cd fr n (o + 4) = some (AI 257 fr) := up_self _ _ _
theorem W4_x {q : Nat} (h0 : q ≠ o) (h2 : q ≠ o + 2) (h3 : q ≠ o + 3) (h4 : q ≠ o + 4) : W4 σ o m e b nb cd fr n q = σ q := by unfold W4; rw [up_ne _ _ h4]; exact W3_x h0 h2 h3
end W4S
theorem AT.W4 {σ : Wd} {M E B S : Nat → Int} {CF CD NB FR : Nat → Nat → Int} (h : AT σ M E B S CF CD NB FR) {k : Nat} (hk : k < 5) (nb cd fr : Nat → Int) (n : Nat) : AT (W4 σ (20 + 10 * k) (M k) (E k) (B k) nb cd fr n) M E B (va_up S k n) CF (va_up CD k cd) (va_up NB k nb) (va_up FR k fr) := fun a ha => by
  by_cases q : a = k
  · subst q
    rw [va_up_self, va_up_self, va_up_self, va_up_self]
    exact ⟨W4_o, (W4_x (by omega) (by omega) (by omega) (by omega)).trans (h a ha).2.1, W4_2, W4_3, W4_4⟩
  · rw [va_up_ne _ _ q, va_up_ne _ _ q, va_up_ne _ _ q, va_up_ne _ _ q]
    obtain ⟨h1, h2, h3, h4, h5⟩ := h a ha
    exact ⟨(W4_x (by omega) (by omega) (by omega) (by omega)).trans h1, (W4_x (by omega) (by omega) (by omega) (by omega)).trans h2, (W4_x (by omega) (by omega) (by omega) (by omega)).trans h3, (W4_x (by omega) (by omega) (by omega) (by omega)).trans h4, (W4_x (by omega) (by omega) (by omega) (by omega)).trans h5⟩
def tot (N : Nat → Nat) : Nat → Nat
  | 0 => 0
  | k + 1 => tot N k + N k
theorem tot_congr {N N' : Nat → Nat} : ∀ k, (∀ a, a < k → N a = N' a) → tot N k = tot N' k
  | 0, _ => rfl
  | k + 1, h => by
    show tot N k + _ = tot N' k + _
    rw [tot_congr k (fun a ha => h a (by omega)), h k (by omega)]
theorem tot_le {N : Nat → Nat} : ∀ k, (∀ a, a < k → N a ≤ 256) → tot N k ≤ 256 * k
  | 0, _ => Nat.le_refl _
  | k + 1, h => by
    have := tot_le k (fun a ha => h a (by omega))
    have := h k (by omega)
    show tot N k + N k ≤ _
    omega
/-- the tables of the atoms below k -/
def TBs (k : Nat) (M E B S : Nat → Int) (CF CD NB FR : Nat → Nat → Int) (N : Nat → Nat) (XS : Nat → Nat → St) : Prop := ∀ a, a < k → S a = N a ∧ TbR (M a) (E a) (B a) (CF a) (NB a) (CD a) (FR a) (N a) (XS a)
theorem k_makeRules (σ : Wd) (nc ac : Nat) (cp : Bool) (op lf rt M E B S : Nat → Int) (CF CD NB FR : Nat → Nat → Int) (hac : ac ≤ 5) (hok : okAs ac M E B CF) (hF : FX σ nc ac cp op lf rt M E B S CF CD NB FR) :
    KX3_makeRules [.ref 1] σ (fun r u => ∃ (S' : Nat → Int) (CD' NB' FR' : Nat → Nat → Int) (N : Nat → Nat) (XS : Nat → Nat → St), r = some (.int (iI (tot N ac : Nat))) ∧ FX u nc ac true op lf rt M E B S' CF CD' NB' FR' ∧ TBs ac M E B S' CF CD' NB' FR' N XS ∧ ∀ q, q ≠ 1 → (q < 20 ∨ 65 ≤ q) → u q = σ q) NX := by
  refine Ct.intro (by decide) (Nat.le_of_ble_eq_true rfl) ?_
  obtain ⟨Q, hQ⟩ : ∃ Q : Option Value → Wd → Prop, Q = fun r u => ∃ (S' : Nat → Int) (CD' NB' FR' : Nat → Nat → Int) (N : Nat → Nat) (XS : Nat → Nat → St), r = some (.int (iI (tot N ac : Nat))) ∧ FX u nc ac true op lf rt M E B S' CF CD' NB' FR' ∧ TBs ac M E B S' CF CD' NB' FR' N XS ∧ ∀ q, q ≠ 1 → (q < 20 ∨ 65 ≤ q) → u q = σ q := ⟨_, rfl⟩
  rw [← hQ]
  have H : ∀ k : Nat, k ≤ ac → ∀ (u : Wd) (S : Nat → Int) (CD NB FR : Nat → Nat → Int) (N : Nat → Nat) (XS : Nat → Nat → St), FX u nc ac cp op lf rt M E B S CF CD NB FR → TBs k M E B S CF CD NB FR N XS → (∀ q, q ≠ 1 → (q < 20 ∨ 65 ≤ q) → u q = σ q) → PX3_makeRules Q NX 4 [some (.ref 1), some (.int (iI (tot N k : Nat))), some (.int (iI k))] [] u 0 0 := by
    refine up_to ac ?_ ?_
    · intro u S CD NB FR N XS hF hT hu
      refine z_iload_n dX3_makeRules_4 rfl ?_
      refine z_aload_n dX3_makeRules_5 rfl ?_
      refine z_getf cls2 6 flX3_41 dX3_makeRules_6 (by decide) (hF.1) rfl ?_
      refine i_icmp_ge (tgt := 39) dX3_makeRules_9 (by decide) (by omega) (by omega) (fun h7 => ?_) (fun h7 => ?_)
      · skip
        refine z_aload_n dX3_makeRules_39 rfl ?_
        refine i_iconst dX3_makeRules_40 rfl ?_
        refine i_putz (b := true) cls2 7 flX3_44 dX3_makeRules_41 (by decide) rfl rfl hF.1 (Nat.le_of_ble_eq_true rfl) ?_
        refine z_iload_n dX3_makeRules_44 rfl ?_
        refine z_iret dX3_makeRules_45 rfl (by decide) (by decide) ?_
        rw [hQ]
        obtain ⟨f1, f3, f4, f5, f6, f7⟩ := hF
        exact ⟨S, CD, NB, FR, N, XS, rfl, ⟨up_self _ _ _, f3, f4, f5, f6, f7.up _ (by omega)⟩, hT, fun q h1 h2 => (up_ne _ _ h1).trans (hu q h1 h2)⟩
      · skip
        omega
    · intro k hk ih u S CD NB FR N XS hF hT hu
      have hA := hF.2.2.2.2.2 k (by omega)
      obtain ⟨o1, o2⟩ := hok k hk
      have htl := tot_le k (N := N) (fun a ha => (hT a ha).2.1.2.2.2)
      refine z_iload_n dX3_makeRules_4 rfl ?_
      refine z_aload_n dX3_makeRules_5 rfl ?_
      refine z_getf cls2 6 flX3_41 dX3_makeRules_6 (by decide) (hF.1) rfl ?_
      refine i_icmp_ge (tgt := 39) dX3_makeRules_9 (by decide) (by omega) (by omega) (fun h7 => ?_) (fun h7 => ?_)
      · skip
        omega
      · skip
        refine z_aload_n dX3_makeRules_12 rfl ?_
        refine z_getf cls2 4 flX3_26 dX3_makeRules_13 (by decide) (hF.1) rfl ?_
        refine z_iload_n dX3_makeRules_16 rfl ?_
        refine i_aald dX3_makeRules_17 (hF.2.2.2.2.1) k rfl (by omega) (atN_lt (by omega)) ?_
        refine z_callVX (k_makeTable u (20 + 10 * k) (M k) (E k) (B k) (S k) (NB k) (CD k) (FR k) (CF k) o1 (fun l hl => (o2 l hl).2) (fun l hl => (o2 l hl).1) hA.1 hA.2.1 hA.2.2.1 hA.2.2.2.1 hA.2.2.2.2) mX3_60 dX3_makeRules_18 hA.1 rfl rfl rfl ⟨by decide, by decide⟩ (Nat.le_of_ble_eq_true rfl) ⟨by decide, by decide⟩ (fun _ _ h => h.elim) (fun r u' hq => ?_)
        obtain ⟨nb, cd, fr, n, xs, rfl, rfl, hR⟩ := hq
        have hx : ∀ q, q < 20 ∨ 65 ≤ q → W4 u (20 + 10 * k) (M k) (E k) (B k) nb cd fr n q = u q := fun q hq => W4_x (by omega) (by omega) (by omega) (by omega)
        have hF2 : FX (W4 u (20 + 10 * k) (M k) (E k) (B k) nb cd fr n) nc ac cp op lf rt M E B (va_up S k n) CF (va_up CD k cd) (va_up NB k nb) (va_up FR k fr) :=
          ⟨(hx 1 (by omega)).trans hF.1, (hx 3 (by omega)).trans hF.2.1, (hx 4 (by omega)).trans hF.2.2.1, (hx 5 (by omega)).trans hF.2.2.2.1, (hx 6 (by omega)).trans hF.2.2.2.2.1, hF.2.2.2.2.2.W4 (by omega) nb cd fr n⟩
        have hn := hR.1.2.2.2
        refine z_iload_n dX3_makeRules_21 rfl ?_
        refine z_aload_n dX3_makeRules_22 rfl ?_
        refine z_getf cls2 4 flX3_26 dX3_makeRules_23 (by decide) (hF2.1) rfl ?_
        refine z_iload_n dX3_makeRules_26 rfl ?_
        refine i_aald dX3_makeRules_27 (hF2.2.2.2.2.1) k rfl (by omega) (atN_lt (by omega)) ?_
        refine i_cVr (k_stateCount _ (20 + 10 * k) (M k) (E k) (B k) n W4_o) mX3_63 dX3_makeRules_28 (W4_o) rfl rfl rfl ⟨by decide, by decide⟩ (Nat.le_of_ble_eq_true rfl) ⟨by decide, by decide⟩ ?_
        refine i_iadd dX3_makeRules_31 ?_
        refine z_istore_n dX3_makeRules_32 (by decide) ?_
        refine i_iinc dX3_makeRules_33 rfl (by decide) ?_
        refine z_goto (tgt := 4) dX3_makeRules_36 (by decide) ?_
        have ih := ih _ _ _ _ _ (va_up N k n) (va_up XS k xs) hF2 (fun a ha => ?_) (fun q h1 h2 => (hx q h2).trans (hu q h1 h2))
        · rw [show tot (va_up N k n) (k + 1) = tot N k + n by
            show tot (va_up N k n) k + va_up N k n k = _
            rw [va_up_self, tot_congr k (fun a ha => va_up_ne _ _ (by omega))]] at ih
          exact ih
        · by_cases q : a = k
          · subst q
            rw [va_up_self, va_up_self, va_up_self, va_up_self, va_up_self, va_up_self]
            exact ⟨rfl, hR⟩
          · rw [va_up_ne _ _ q, va_up_ne _ _ q, va_up_ne _ _ q, va_up_ne _ _ q, va_up_ne _ _ q, va_up_ne _ _ q]
            exact hT a (by omega)
  refine i_iconst dX3_makeRules_0 rfl ?_
  refine z_istore_n dX3_makeRules_1 (by decide) ?_
  refine i_iconst dX3_makeRules_2 rfl ?_
  refine z_istore_n dX3_makeRules_3 (by decide) ?_
  exact H 0 (by omega) σ S CD NB FR (fun _ => 0) (fun _ _ => (false, 0, false)) hF (fun a ha => absurd ha (Nat.not_lt_zero a)) (fun q _ _ => rfl)
/-! CROWD (class 1) at the name 7: agents at 8, letters at 9, its meeting at 10 -/
abbrev obC (cnt : Nat) : pCell := ob 1 [.ref 1, .ref 10, .ref 8, .ref 9, .int (iI cnt)]
theorem k_X2_reset (σ : Wd) (cnt : Nat) (lt : Nat → Int) (h7 : σ 7 = some (obC cnt)) (h9 : σ 9 = some (AI 8 lt)) : KX2_reset [.ref 7] σ (Rt none (up (up σ 9 (AI 8 (fun _ => 0))) 7 (obC 0))) NX := by
  refine Ct.intro (by decide) (Nat.le_of_ble_eq_true rfl) ?_
  refine z_aload_n dX2_reset_0 rfl ?_
  refine z_getf cls1 3 flX2_15 dX2_reset_1 (by decide) (by first | exact h7 | rfl) rfl ?_
  refine i_iconst dX2_reset_4 rfl ?_
  refine i_cSv (k_fill 9 8 lt 0 (by omega) σ h9) mX2_32 dX2_reset_5 rfl rfl ⟨by decide, by decide⟩ (Nat.le_of_ble_eq_true rfl) ⟨by decide, by decide⟩ ?_
  refine z_aload_n dX2_reset_8 rfl ?_
  refine i_iconst dX2_reset_9 rfl ?_
  refine i_puti cls1 4 flX2_38 dX2_reset_10 (by decide) rfl rfl (by first | exact h7 | rfl) (Nat.le_of_ble_eq_true rfl) ?_
  exact i_vret dX2_reset_13 rfl (by decide) (by decide) rfl
theorem k_count (σ : Wd) (cnt : Nat) (h7 : σ 7 = some (obC cnt)) : KX2_count [.ref 7] σ (Rt (some (.int (iI cnt))) σ) NX := by
  refine Ct.intro (by decide) (Nat.le_of_ble_eq_true rfl) ?_
  refine z_aload_n dX2_count_0 rfl ?_
  refine z_getf cls1 4 flX2_38 dX2_count_1 (by decide) (by first | exact h7 | rfl) rfl ?_
  exact i_iret dX2_count_4 rfl (by decide) (by decide) rfl
theorem k_hasAgent (σ : Wd) (cnt : Nat) (v : Int) (hc : cnt ≤ 200) (hv : -2147483648 ≤ v ∧ v < 2147483648) (h7 : σ 7 = some (obC cnt)) : KX2_hasAgent [.ref 7, .int (iI v)] σ (Rt (some (.int (iI (bI (hasI v cnt))))) σ) NX := by
  refine Ct.intro (by decide) (Nat.le_of_ble_eq_true rfl) ?_
  refine z_iload_n dX2_hasAgent_0 rfl ?_
  refine i_if_lt (tgt := 16) dX2_hasAgent_1 (by decide) (by omega) (fun h3 => ?_) (fun h3 => ?_)
  · skip
    refine i_iconst dX2_hasAgent_16 rfl ?_
    exact i_rf dX2_hasAgent_17 rfl (by decide) (by decide) (decide_eq_false (by omega)) rfl
  · skip
    refine z_iload_n dX2_hasAgent_4 rfl ?_
    refine z_aload_n dX2_hasAgent_5 rfl ?_
    refine z_getf cls1 4 flX2_38 dX2_hasAgent_6 (by decide) (by first | exact h7 | rfl) rfl ?_
    refine i_icmp_ge (tgt := 16) dX2_hasAgent_9 (by decide) (by omega) (by omega) (fun h4 => ?_) (fun h4 => ?_)
    · skip
      refine i_iconst dX2_hasAgent_16 rfl ?_
      exact i_rf dX2_hasAgent_17 rfl (by decide) (by decide) (decide_eq_false (by omega)) rfl
    · skip
      refine i_iconst dX2_hasAgent_12 rfl ?_
      refine z_goto (tgt := 17) dX2_hasAgent_13 (by decide) ?_
      exact i_rt dX2_hasAgent_17 rfl (by decide) (by decide) (decide_eq_true (by omega)) rfl
theorem k_agent (σ : Wd) (cnt i : Nat) (fa : Nat → Nat) (hi : i < 200) (h7 : σ 7 = some (obC cnt)) (h8 : σ 8 = some (AL 200 fa)) : KX2_agent [.ref 7, .int (iI i)] σ (Rt (some (.long (lN (fa i)))) σ) NX := by
  refine Ct.intro (by decide) (Nat.le_of_ble_eq_true rfl) ?_
  refine z_aload_n dX2_agent_0 rfl ?_
  refine z_getf cls1 2 flX2_9 dX2_agent_1 (by decide) (by first | exact h7 | rfl) rfl ?_
  refine z_iload_n dX2_agent_4 rfl ?_
  refine i_lald dX2_agent_5 (by first | exact h8 | rfl) i (by omega) (by omega) ?_
  exact i_lret dX2_agent_6 rfl (by decide) (by decide) rfl
theorem k_letterCounts (σ : Wd) (cnt : Nat) (h7 : σ 7 = some (obC cnt)) : KX2_letterCounts [.ref 7] σ (Rt (some (.ref 9)) σ) NX := by
  refine Ct.intro (by decide) (Nat.le_of_ble_eq_true rfl) ?_
  refine z_aload_n dX2_letterCounts_0 rfl ?_
  refine z_getf cls1 3 flX2_15 dX2_letterCounts_1 (by decide) (by first | exact h7 | rfl) rfl ?_
  exact z_aret dX2_letterCounts_4 rfl (Or.inr ⟨_, rfl⟩) (by decide) (by decide) ⟨rfl, rfl⟩
theorem k_admit (σ : Wd) (cnt l n : Nat) (fa : Nat → Nat) (lt : Nat → Int) (nc ac : Nat) (cp : Bool) (op lf rt M E B S : Nat → Int) (CF CD NB FR : Nat → Nat → Int) (hl : l < 8) (hn : cnt + n ≤ 200) (hac : ac ≤ 5) (hok : okAs ac M E B CF) (hF : FX σ nc ac cp op lf rt M E B S CF CD NB FR) (h7 : σ 7 = some (obC cnt)) (h8 : σ 8 = some (AL 200 fa)) (h9 : σ 9 = some (AI 8 lt)) :
    KX2_admit [.ref 7, .int (iI l), .int (iI n)] σ (Rt none (up (up (up σ 8 (AL 200 (fun i => if i < cnt then fa i else if i < cnt + n then pkC (bgA M E CF l) ac else fa i))) 7 (obC (cnt + n))) 9 (AI 8 (va_up lt l (lt l + n))))) NX := by
  refine Ct.intro (by decide) (Nat.le_of_ble_eq_true rfl) ?_
  obtain ⟨Q, hQ⟩ : ∃ Q, Q = Rt none (up (up (up σ 8 (AL 200 (fun i => if i < cnt then fa i else if i < cnt + n then pkC (bgA M E CF l) ac else fa i))) 7 (obC (cnt + n))) 9 (AI 8 (va_up lt l (lt l + n)))) := ⟨_, rfl⟩
  rw [← hQ]
  have H : ∀ k : Nat, k ≤ n → PX2_admit Q NX 12 [some (.ref 7), some (.int (iI l)), some (.int (iI n)), some (.long (lN (pkC (bgA M E CF l) ac))), none, some (.int (iI k))] [] (up (up σ 8 (AL 200 (fun i => if i < cnt then fa i else if i < cnt + k then pkC (bgA M E CF l) ac else fa i))) 7 (obC (cnt + k))) 0 0 := by
    refine up_to n ?_ ?_
    · skip
      refine z_iload dX2_admit_12 rfl ?_
      refine z_iload_n dX2_admit_14 rfl ?_
      refine i_icmp_ge (tgt := 44) dX2_admit_15 (by decide) (by omega) (by omega) (fun h1 => ?_) (fun h1 => ?_)
      · skip
        refine z_aload_n dX2_admit_44 rfl ?_
        refine z_getf cls1 3 flX2_15 dX2_admit_45 (by decide) (by first | exact h7 | rfl) rfl ?_
        refine z_iload_n dX2_admit_48 rfl ?_
        refine z_dup2 dX2_admit_49 rfl rfl ?_
        refine i_iald dX2_admit_50 (by first | exact h9 | rfl) l (by omega) (by omega) ?_
        refine z_iload_n dX2_admit_51 rfl ?_
        refine i_iadd dX2_admit_52 ?_
        refine i_iast dX2_admit_53 (by first | exact h9 | rfl) l (by omega) (by omega) ?_
        rw [hQ]
        exact i_vret dX2_admit_54 rfl (by decide) (by decide) rfl
      · skip
        omega
    · intro k hk ih
      refine z_iload dX2_admit_12 rfl ?_
      refine z_iload_n dX2_admit_14 rfl ?_
      refine i_icmp_ge (tgt := 44) dX2_admit_15 (by decide) (by omega) (by omega) (fun h1 => ?_) (fun h1 => ?_)
      · skip
        omega
      · skip
        refine z_aload_n dX2_admit_18 rfl ?_
        refine z_getf cls1 2 flX2_9 dX2_admit_19 (by decide) (by first | exact h7 | rfl) rfl ?_
        refine z_aload_n dX2_admit_22 rfl ?_
        refine z_getf cls1 4 flX2_38 dX2_admit_23 (by decide) (by first | exact h7 | rfl) rfl ?_
        refine z_lload_n dX2_admit_26 rfl ?_
        refine i_last dX2_admit_27 (by first | exact h8 | rfl) (cnt + k) (by omega) (by omega) ?_
        refine z_aload_n dX2_admit_28 rfl ?_
        refine z_dup dX2_admit_29 rfl ?_
        refine z_getf cls1 4 flX2_38 dX2_admit_30 (by decide) (by first | exact h7 | rfl) rfl ?_
        refine i_iconst dX2_admit_33 rfl ?_
        refine i_iadd dX2_admit_34 ?_
        refine i_puti cls1 4 flX2_38 dX2_admit_35 (by decide) rfl rfl (by first | exact h7 | rfl) (Nat.le_of_ble_eq_true rfl) ?_
        refine i_iinc dX2_admit_38 rfl (by decide) ?_
        refine z_goto (tgt := 12) dX2_admit_41 (by decide) ?_
        refine z_eqw ?_ ih
        show up (up (up (up σ 8 _) 7 _) 8 _) 7 (obC (cnt + (k + 1))) = _
        rw [up_comm _ _ _ (show (7 : Nat) ≠ 8 by decide), up_up, up_up]
        congr 3
        congr 1
        funext i
        by_cases q : i = cnt + k
        · rw [q, va_up_self, if_neg (by omega), if_pos (by omega)]
        · rw [va_up_ne _ _ q]
          by_cases q1 : i < cnt
          · rw [if_pos q1, if_pos q1]
          · rw [if_neg q1, if_neg q1]
            by_cases q2 : i < cnt + k
            · rw [if_pos q2, if_pos (by omega)]
            · rw [if_neg q2, if_neg (by omega)]
  refine z_aload_n dX2_admit_0 rfl ?_
  refine z_getf cls1 0 flX2_19 dX2_admit_1 (by decide) (by first | exact h7 | rfl) rfl ?_
  refine z_iload_n dX2_admit_4 rfl ?_
  refine i_cVr (k_X3_beginning σ nc ac cp M E B S CF CD NB FR l hl hac hok hF.1 hF.2.2.2.2.1 hF.2.2.2.2.2) mX2_42 dX2_admit_5 (hF.1) rfl rfl rfl ⟨by decide, by decide⟩ (Nat.le_of_ble_eq_true rfl) ⟨by decide, by decide⟩ ?_
  refine z_lstore_n dX2_admit_8 (by decide) ?_
  refine i_iconst dX2_admit_9 rfl ?_
  refine z_istore dX2_admit_10 (by decide) ?_
  refine z_eqw ?_ (H 0 (by omega))
  rw [show (fun i => if i < cnt then fa i else if i < cnt + 0 then pkC (bgA M E CF l) ac else fa i) = fa from funext fun i => by
    by_cases q1 : i < cnt
    · rw [if_pos q1]
    · rw [if_neg q1, if_neg (by omega)]]
  rw [up_id h8]
  exact (up_id (c := obC (cnt + 0)) h7).symm

