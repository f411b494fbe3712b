theorem c_output {n k : Nat} {sc : Nat → Int} {σ : Wd} {a : AS} {o5 o6 : Option Value} {cells slots : Nat} (hI : LI n sc σ a) (hn : n ≤ 2048) (hk : 4 * k + 4 ≤ n) (hs : ∀ j, i32 (sc j)) (hC : CB k σ cells slots) (K : KN n sc k) : TL 671 (LL k o5 o6) [] σ cells slots := by
  obtain ⟨hD, ⟨t, hM⟩, hV, ⟨g, h130⟩, h140⟩ := hI
  have hb9 := hC.lim (by omega)
  obtain ⟨f0, h0⟩ := hD.o
  obtain ⟨f100, h100⟩ := hM.o
  refine z_aload_n dL_law_671 rfl ?_
  refine z_aload_n dL_law_672 rfl ?_
  refine z_iload dL_law_673 rfl ?_
  refine i_iconst dL_law_675 rfl ?_
  refine i_iadd dL_law_676 ?_
  refine i_xald dL_law_677 (by first | exact h140 | rfl) (4 * k + 1) (by omega) (by omega) (by omega) ?_
  refine z_aload_n dL_law_678 rfl ?_
  refine z_callSW (w_output hD hV h130 (sc (4 * k + 1)) (hs _)) mL_115 dL_law_679 rfl rfl ⟨by decide, by decide⟩ (Nat.le_of_ble_eq_true rfl) ⟨by show cells + 1 ≤ 601024; omega, by show slots + 6 ≤ 7293033; omega⟩ (fun _ _ h => h.elim) (fun r u hq => ?_)
  obtain ⟨rfl, hDu, ⟨gu, h130u, hgu⟩, hF⟩ := hq
  have hMu := hM.w hF
  have h140u := (hF.1 140 (by decide) (by decide)).trans h140
  obtain ⟨f1, h100u⟩ := hMu.o
  refine z_istore dL_law_682 (by decide) ?_
  refine z_aload_n dL_law_684 rfl ?_
  refine z_aload_n dL_law_685 rfl ?_
  refine z_iload dL_law_686 rfl ?_
  refine i_iconst dL_law_688 rfl ?_
  refine i_iadd dL_law_689 ?_
  refine i_xald dL_law_690 (by first | exact h140u | rfl) (4 * k + 1) (by omega) (by omega) (by omega) ?_
  refine z_callVX (m_output hMu hV (sc (4 * k + 1)) (hs _)) mL_117 dL_law_691 h100u rfl rfl rfl ⟨by decide, by decide⟩ (Nat.le_of_ble_eq_true rfl) ⟨by show cells + 1 + 0 ≤ 601024; omega, by show slots + 6 + 0 ≤ 7293033; omega⟩ (fun _ _ h => h.elim) (fun r v hq => ?_)
  obtain ⟨⟨z6, rfl⟩, hv6, hMv, hG⟩ := hq
  obtain ⟨f2, h100v⟩ := hMv.o
  have h130v := (hG 130 (Or.inr (by decide))).trans h130u
  have hI2 := LI.step h140 hDu hF ⟨gu, h130u⟩ hMv hG (vl_same hV)
  have hC2 : CB (k + 1) v (cells + 1 + 0 + 0) (slots + 6 + 0 + 0) := hC.step (s70 hF hG) (by omega) (by omega)
  refine z_istore dL_law_694 (by decide) ?_
  refine z_aload_n dL_law_696 rfl ?_
  refine z_callVX (m_thrown hMv) mL_84 dL_law_697 h100v rfl rfl rfl ⟨by decide, by decide⟩ (Nat.le_of_ble_eq_true rfl) ⟨by show cells + 1 + 0 + 0 ≤ 601024; omega, by show slots + 6 + 0 + 0 ≤ 7293033; omega⟩ (fun _ _ h => h.elim) (fun r w hq => ?_)
  obtain ⟨rfl, rfl⟩ := hq
  refine z_iload dL_law_700 rfl ?_
  refine z_icmp_eq (tgt := 707) dL_law_702 (by decide) (fun _ => ?_) (fun h => absurd rfl h)
  refine z_iload dL_law_707 rfl ?_
  refine i_if_ne (tgt := 731) dL_law_709 (by decide) (c2r (l2_out _)) (fun h0 => ?_) (fun h0 => ?_)
  · refine z_goto (tgt := 1226) dL_law_731 (by decide) ?_
    exact K _ _ _ _ _ _ hI2 hC2
  · have hc0 := Int.ofNat.inj (show Int.ofNat _ = Int.ofNat 0 from h0)
    have e1 := hgu hc0
    have e2 := Value.int.inj (Option.some.inj (hv6 hc0))
    refine z_aload_n dL_law_712 rfl ?_
    refine i_iconst dL_law_713 rfl ?_
    refine z_lald dL_law_714 h130v 0 rfl (by decide) ?_
    refine z_iload dL_law_715 rfl ?_
    rw [e1, e2]
    refine i_ifb_eq (tgt := 724) dL_law_717 (by decide) (fun hb => ?_) (fun hb => ?_)
    · refine z_lconst (v := lN 0) dL_law_724 rfl ?_
      rw [hb]
      refine z_lcmp dL_law_725 ?_
      refine z_if_eq (tgt := 731) dL_law_726 (by decide) (fun _ => ?_) (fun h => absurd lc_0 h)
      refine z_goto (tgt := 1226) dL_law_731 (by decide) ?_
      exact K _ _ _ _ _ _ hI2 hC2
    · refine z_lconst (v := lN 1) dL_law_720 rfl ?_
      refine z_goto (tgt := 725) dL_law_721 (by decide) ?_
      rw [hb]
      refine z_lcmp dL_law_725 ?_
      refine z_if_eq (tgt := 731) dL_law_726 (by decide) (fun _ => ?_) (fun h => absurd lc_1 h)
      refine z_goto (tgt := 1226) dL_law_731 (by decide) ?_
      exact K _ _ _ _ _ _ hI2 hC2
theorem c_state {n k : Nat} {sc : Nat → Int} {σ : Wd} {a : AS} {o5 o6 : Option Value} {cells slots : Nat} (hI : LI n sc σ a) (hn : n ≤ 2048) (hk : 4 * k + 4 ≤ n) (hs : ∀ j, i32 (sc j)) (hC : CB k σ cells slots) (K : KN n sc k) : TL 734 (LL k o5 o6) [] σ cells slots := by
  obtain ⟨hD, ⟨t, hM⟩, hV, ⟨g, h130⟩, h140⟩ := hI
  have hb9 := hC.lim (by omega)
  obtain ⟨f0, h0⟩ := hD.o
  obtain ⟨f100, h100⟩ := hM.o
  refine z_aload_n dL_law_734 rfl ?_
  refine z_aload_n dL_law_735 rfl ?_
  refine z_iload dL_law_736 rfl ?_
  refine i_iconst dL_law_738 rfl ?_
  refine i_iadd dL_law_739 ?_
  refine i_xald dL_law_740 (by first | exact h140 | rfl) (4 * k + 1) (by omega) (by omega) (by omega) ?_
  refine z_aload_n dL_law_741 rfl ?_
  refine z_iload dL_law_742 rfl ?_
  refine i_iconst dL_law_744 rfl ?_
  refine i_iadd dL_law_745 ?_
  refine i_xald dL_law_746 (by first | exact h140 | rfl) (4 * k + 2) (by omega) (by omega) (by omega) ?_
  refine z_aload_n dL_law_747 rfl ?_
  refine z_iload dL_law_748 rfl ?_
  refine i_iconst dL_law_750 rfl ?_
  refine i_iadd dL_law_751 ?_
  refine i_xald dL_law_752 (by first | exact h140 | rfl) (4 * k + 3) (by omega) (by omega) (by omega) ?_
  refine z_aload_n dL_law_753 rfl ?_
  refine z_callSW (w_state hD hV h130 (sc (4 * k + 1)) (sc (4 * k + 2)) (sc (4 * k + 3)) (hs _) (hs _) (hs _)) mL_118 dL_law_754 rfl rfl ⟨by decide, by decide⟩ (Nat.le_of_ble_eq_true rfl) ⟨by show cells + 1 ≤ 601024; omega, by show slots + 6 ≤ 7293033; omega⟩ (fun _ _ h => h.elim) (fun r u hq => ?_)
  obtain ⟨rfl, hDu, ⟨gu, h130u, hgu⟩, hF⟩ := hq
  have hMu := hM.w hF
  have h140u := (hF.1 140 (by decide) (by decide)).trans h140
  obtain ⟨f1, h100u⟩ := hMu.o
  refine z_istore dL_law_757 (by decide) ?_
  refine z_aload_n dL_law_759 rfl ?_
  refine z_aload_n dL_law_760 rfl ?_
  refine z_iload dL_law_761 rfl ?_
  refine i_iconst dL_law_763 rfl ?_
  refine i_iadd dL_law_764 ?_
  refine i_xald dL_law_765 (by first | exact h140u | rfl) (4 * k + 1) (by omega) (by omega) (by omega) ?_
  refine z_aload_n dL_law_766 rfl ?_
  refine z_iload dL_law_767 rfl ?_
  refine i_iconst dL_law_769 rfl ?_
  refine i_iadd dL_law_770 ?_
  refine i_xald dL_law_771 (by first | exact h140u | rfl) (4 * k + 2) (by omega) (by omega) (by omega) ?_
  refine z_aload_n dL_law_772 rfl ?_
  refine z_iload dL_law_773 rfl ?_
  refine i_iconst dL_law_775 rfl ?_
  refine i_iadd dL_law_776 ?_
  refine i_xald dL_law_777 (by first | exact h140u | rfl) (4 * k + 3) (by omega) (by omega) (by omega) ?_
  refine z_callVX (m_state hMu hV (sc (4 * k + 1)) (sc (4 * k + 2)) (sc (4 * k + 3)) (hs _) (hs _) (hs _)) mL_120 dL_law_778 h100u rfl rfl rfl ⟨by decide, by decide⟩ (Nat.le_of_ble_eq_true rfl) ⟨by show cells + 1 + 0 ≤ 601024; omega, by show slots + 6 + 0 ≤ 7293033; omega⟩ (fun _ _ h => h.elim) (fun r v hq => ?_)
  obtain ⟨⟨z6, rfl⟩, hv6, hMv, hG⟩ := hq
  obtain ⟨f2, h100v⟩ := hMv.o
  have h130v := (hG 130 (Or.inr (by decide))).trans h130u
  have hI2 := LI.step h140 hDu hF ⟨gu, h130u⟩ hMv hG (vl_same hV)
  have hC2 : CB (k + 1) v (cells + 1 + 0 + 0) (slots + 6 + 0 + 0) := hC.step (s70 hF hG) (by omega) (by omega)
  refine z_istore dL_law_781 (by decide) ?_
  refine z_aload_n dL_law_783 rfl ?_
  refine z_callVX (m_thrown hMv) mL_84 dL_law_784 h100v rfl rfl rfl ⟨by decide, by decide⟩ (Nat.le_of_ble_eq_true rfl) ⟨by show cells + 1 + 0 + 0 ≤ 601024; omega, by show slots + 6 + 0 + 0 ≤ 7293033; omega⟩ (fun _ _ h => h.elim) (fun r w hq => ?_)
  obtain ⟨rfl, rfl⟩ := hq
  refine z_iload dL_law_787 rfl ?_
  refine z_icmp_eq (tgt := 794) dL_law_789 (by decide) (fun _ => ?_) (fun h => absurd rfl h)
  refine z_iload dL_law_794 rfl ?_
  refine i_if_ne (tgt := 811) dL_law_796 (by decide) (c2r (l2_state _ _ _)) (fun h0 => ?_) (fun h0 => ?_)
  · refine z_goto (tgt := 1226) dL_law_811 (by decide) ?_
    exact K _ _ _ _ _ _ hI2 hC2
  · have hc0 := Int.ofNat.inj (show Int.ofNat _ = Int.ofNat 0 from h0)
    have e1 := hgu hc0
    have e2 := Value.int.inj (Option.some.inj (hv6 hc0))
    refine z_aload_n dL_law_799 rfl ?_
    refine i_iconst dL_law_800 rfl ?_
    refine z_lald dL_law_801 h130v 0 rfl (by decide) ?_
    refine z_iload dL_law_802 rfl ?_
    rw [e1, e2]
    refine z_i2lx dL_law_804 ?_
    refine z_lcmp dL_law_805 ?_
    refine z_if_eq (tgt := 811) dL_law_806 (by decide) (fun _ => ?_) (fun h => absurd (lc_self _) h)
    refine z_goto (tgt := 1226) dL_law_811 (by decide) ?_
    exact K _ _ _ _ _ _ hI2 hC2
theorem c_truth {n k : Nat} {sc : Nat → Int} {σ : Wd} {a : AS} {o5 o6 : Option Value} {cells slots : Nat} (hI : LI n sc σ a) (hn : n ≤ 2048) (hk : 4 * k + 4 ≤ n) (hs : ∀ j, i32 (sc j)) (hC : CB k σ cells slots) (K : KN n sc k) : TL 814 (LL k o5 o6) [] σ cells slots := by
  obtain ⟨hD, ⟨t, hM⟩, hV, ⟨g, h130⟩, h140⟩ := hI
  have hb9 := hC.lim (by omega)
  obtain ⟨f0, h0⟩ := hD.o
  obtain ⟨f100, h100⟩ := hM.o
  refine z_aload_n dL_law_814 rfl ?_
  refine z_aload_n dL_law_815 rfl ?_
  refine z_callSW (w_truth hD hV h130 ) mL_121 dL_law_816 rfl rfl ⟨by decide, by decide⟩ (Nat.le_of_ble_eq_true rfl) ⟨by show cells + 1 ≤ 601024; omega, by show slots + 6 ≤ 7293033; omega⟩ (fun _ _ h => h.elim) (fun r u hq => ?_)
  obtain ⟨rfl, hDu, ⟨gu, h130u, hgu⟩, hF⟩ := hq
  have hMu := hM.w hF
  have h140u := (hF.1 140 (by decide) (by decide)).trans h140
  obtain ⟨f1, h100u⟩ := hMu.o
  refine z_istore dL_law_819 (by decide) ?_
  refine z_aload_n dL_law_821 rfl ?_
  refine z_callVX (m_truth hMu hV ) mL_123 dL_law_822 h100u rfl rfl rfl ⟨by decide, by decide⟩ (Nat.le_of_ble_eq_true rfl) ⟨by show cells + 1 + 0 ≤ 601024; omega, by show slots + 6 + 0 ≤ 7293033; omega⟩ (fun _ _ h => h.elim) (fun r v hq => ?_)
  obtain ⟨⟨z6, rfl⟩, hv6, hMv, hG⟩ := hq
  obtain ⟨f2, h100v⟩ := hMv.o
  have h130v := (hG 130 (Or.inr (by decide))).trans h130u
  have hI2 := LI.step h140 hDu hF ⟨gu, h130u⟩ hMv hG (vl_same hV)
  have hC2 : CB (k + 1) v (cells + 1 + 0 + 0) (slots + 6 + 0 + 0) := hC.step (s70 hF hG) (by omega) (by omega)
  refine z_istore dL_law_825 (by decide) ?_
  refine z_aload_n dL_law_827 rfl ?_
  refine z_callVX (m_thrown hMv) mL_84 dL_law_828 h100v rfl rfl rfl ⟨by decide, by decide⟩ (Nat.le_of_ble_eq_true rfl) ⟨by show cells + 1 + 0 + 0 ≤ 601024; omega, by show slots + 6 + 0 + 0 ≤ 7293033; omega⟩ (fun _ _ h => h.elim) (fun r w hq => ?_)
  obtain ⟨rfl, rfl⟩ := hq
  refine z_iload dL_law_831 rfl ?_
  refine z_icmp_eq (tgt := 838) dL_law_833 (by decide) (fun _ => ?_) (fun h => absurd rfl h)
  refine z_iload dL_law_838 rfl ?_
  refine i_if_ne (tgt := 862) dL_law_840 (by decide) (c2r (l2_truth)) (fun h0 => ?_) (fun h0 => ?_)
  · refine z_goto (tgt := 1226) dL_law_862 (by decide) ?_
    exact K _ _ _ _ _ _ hI2 hC2
  · have hc0 := Int.ofNat.inj (show Int.ofNat _ = Int.ofNat 0 from h0)
    have e1 := hgu hc0
    have e2 := Value.int.inj (Option.some.inj (hv6 hc0))
    refine z_aload_n dL_law_843 rfl ?_
    refine i_iconst dL_law_844 rfl ?_
    refine z_lald dL_law_845 h130v 0 rfl (by decide) ?_
    refine z_iload dL_law_846 rfl ?_
    rw [e1, e2]
    refine i_ifb_eq (tgt := 855) dL_law_848 (by decide) (fun hb => ?_) (fun hb => ?_)
    · refine z_lconst (v := lN 0) dL_law_855 rfl ?_
      rw [hb]
      refine z_lcmp dL_law_856 ?_
      refine z_if_eq (tgt := 862) dL_law_857 (by decide) (fun _ => ?_) (fun h => absurd lc_0 h)
      refine z_goto (tgt := 1226) dL_law_862 (by decide) ?_
      exact K _ _ _ _ _ _ hI2 hC2
    · refine z_lconst (v := lN 1) dL_law_851 rfl ?_
      refine z_goto (tgt := 856) dL_law_852 (by decide) ?_
      rw [hb]
      refine z_lcmp dL_law_856 ?_
      refine z_if_eq (tgt := 862) dL_law_857 (by decide) (fun _ => ?_) (fun h => absurd lc_1 h)
      refine z_goto (tgt := 1226) dL_law_862 (by decide) ?_
      exact K _ _ _ _ _ _ hI2 hC2
theorem c_explore {n k : Nat} {sc : Nat → Int} {σ : Wd} {a : AS} {o5 o6 : Option Value} {cells slots : Nat} (hI : LI n sc σ a) (hn : n ≤ 2048) (hk : 4 * k + 4 ≤ n) (hs : ∀ j, i32 (sc j)) (hC : CB k σ cells slots) (K : KN n sc k) : TL 891 (LL k o5 o6) [] σ cells slots := by
  obtain ⟨hD, ⟨t, hM⟩, hV, ⟨g, h130⟩, h140⟩ := hI
  have hb9 := hC.lim (by omega)
  obtain ⟨f0, h0⟩ := hD.o
  obtain ⟨f100, h100⟩ := hM.o
  by_cases hX : cdExpl a (sc (4 * k + 1)) = 0 ∧ σ 70 = none
  · skip
    refine z_aload_n dL_law_891 rfl ?_
    refine z_aload_n dL_law_892 rfl ?_
    refine z_iload dL_law_893 rfl ?_
    refine i_iconst dL_law_895 rfl ?_
    refine i_iadd dL_law_896 ?_
    refine i_xald dL_law_897 (by first | exact h140 | rfl) (4 * k + 1) (by omega) (by omega) (by omega) ?_
    refine z_aload_n dL_law_898 rfl ?_
    refine z_callSW (w_explore0 hD hV h130 (sc (4 * k + 1)) (hs _) hX.1 hX.2) mL_132 dL_law_899 rfl rfl ⟨by decide, by decide⟩ (Nat.le_of_ble_eq_true rfl) ⟨by show cells + 7 ≤ 601024; omega, by show slots + 29215 ≤ 7293033; omega⟩ (fun _ _ h => h.elim) (fun r u hq => ?_)
    obtain ⟨hq, h70u⟩ := hq
    obtain ⟨rfl, hDu, ⟨gu, h130u, hgu⟩, hF⟩ := hq
    have hMu := hM.w hF
    have h140u := (hF.1 140 (by decide) (by decide)).trans h140
    obtain ⟨f1, h100u⟩ := hMu.o
    refine z_istore dL_law_902 (by decide) ?_
    refine z_aload_n dL_law_904 rfl ?_
    refine z_aload_n dL_law_905 rfl ?_
    refine z_iload dL_law_906 rfl ?_
    refine i_iconst dL_law_908 rfl ?_
    refine i_iadd dL_law_909 ?_
    refine i_xald dL_law_910 (by first | exact h140u | rfl) (4 * k + 1) (by omega) (by omega) (by omega) ?_
    refine z_callVX (m_explore hMu hV (sc (4 * k + 1)) (hs _)) mL_134 dL_law_911 h100u rfl rfl rfl ⟨by decide, by decide⟩ (Nat.le_of_ble_eq_true rfl) ⟨by show cells + 7 + 0 ≤ 601024; omega, by show slots + 29215 + 0 ≤ 7293033; omega⟩ (fun _ _ h => h.elim) (fun r v hq => ?_)
    obtain ⟨⟨z6, rfl⟩, hv6, hMv, hG⟩ := hq
    obtain ⟨f2, h100v⟩ := hMv.o
    have h130v := (hG 130 (Or.inr (by decide))).trans h130u
    have hI2 := LI.step h140 hDu hF ⟨gu, h130u⟩ hMv hG (vl_expl hV _)
    have hC2 : CB (k + 1) v (cells + 7 + 0 + 0) (slots + 29215 + 0 + 0) := hC.big hX.2 (by rw [hG 70 (Or.inl (by decide))]; exact h70u hX.1) (by omega) (by omega)
    refine z_istore dL_law_914 (by decide) ?_
    refine z_aload_n dL_law_916 rfl ?_
    refine z_callVX (m_thrown hMv) mL_84 dL_law_917 h100v rfl rfl rfl ⟨by decide, by decide⟩ (Nat.le_of_ble_eq_true rfl) ⟨by show cells + 7 + 0 + 0 ≤ 601024; omega, by show slots + 29215 + 0 + 0 ≤ 7293033; omega⟩ (fun _ _ h => h.elim) (fun r w hq => ?_)
    obtain ⟨rfl, rfl⟩ := hq
    refine z_iload dL_law_920 rfl ?_
    refine z_icmp_eq (tgt := 927) dL_law_922 (by decide) (fun _ => ?_) (fun h => absurd rfl h)
    refine z_iload dL_law_927 rfl ?_
    refine i_if_ne (tgt := 944) dL_law_929 (by decide) (c2r (l2_expl _)) (fun h0 => ?_) (fun h0 => ?_)
    · refine z_goto (tgt := 1226) dL_law_944 (by decide) ?_
      exact K _ _ _ _ _ _ hI2 hC2
    · have hc0 := Int.ofNat.inj (show Int.ofNat _ = Int.ofNat 0 from h0)
      have e1 := hgu hc0
      have e2 := Value.int.inj (Option.some.inj (hv6 hc0))
      refine z_aload_n dL_law_932 rfl ?_
      refine i_iconst dL_law_933 rfl ?_
      refine z_lald dL_law_934 h130v 0 rfl (by decide) ?_
      refine z_iload dL_law_935 rfl ?_
      rw [e1, e2]
      refine z_i2lx dL_law_937 ?_
      refine z_lcmp dL_law_938 ?_
      refine z_if_eq (tgt := 944) dL_law_939 (by decide) (fun _ => ?_) (fun h => absurd (lc_self _) h)
      refine z_goto (tgt := 1226) dL_law_944 (by decide) ?_
      exact K _ _ _ _ _ _ hI2 hC2
  · have hX : cdExpl a (sc (4 * k + 1)) = 0 → σ 70 ≠ none := fun q z => hX ⟨q, z⟩
    refine z_aload_n dL_law_891 rfl ?_
    refine z_aload_n dL_law_892 rfl ?_
    refine z_iload dL_law_893 rfl ?_
    refine i_iconst dL_law_895 rfl ?_
    refine i_iadd dL_law_896 ?_
    refine i_xald dL_law_897 (by first | exact h140 | rfl) (4 * k + 1) (by omega) (by omega) (by omega) ?_
    refine z_aload_n dL_law_898 rfl ?_
    refine z_callSW (w_explore hD hV h130 (sc (4 * k + 1)) (hs _) hX) mL_132 dL_law_899 rfl rfl ⟨by decide, by decide⟩ (Nat.le_of_ble_eq_true rfl) ⟨by show cells + 1 ≤ 601024; omega, by show slots + 6 ≤ 7293033; omega⟩ (fun _ _ h => h.elim) (fun r u hq => ?_)
    obtain ⟨hq, h70u⟩ := hq
    obtain ⟨rfl, hDu, ⟨gu, h130u, hgu⟩, hF⟩ := hq
    have hMu := hM.w hF
    have h140u := (hF.1 140 (by decide) (by decide)).trans h140
    obtain ⟨f1, h100u⟩ := hMu.o
    refine z_istore dL_law_902 (by decide) ?_
    refine z_aload_n dL_law_904 rfl ?_
    refine z_aload_n dL_law_905 rfl ?_
    refine z_iload dL_law_906 rfl ?_
    refine i_iconst dL_law_908 rfl ?_
    refine i_iadd dL_law_909 ?_
    refine i_xald dL_law_910 (by first | exact h140u | rfl) (4 * k + 1) (by omega) (by omega) (by omega) ?_
    refine z_callVX (m_explore hMu hV (sc (4 * k + 1)) (hs _)) mL_134 dL_law_911 h100u rfl rfl rfl ⟨by decide, by decide⟩ (Nat.le_of_ble_eq_true rfl) ⟨by show cells + 1 + 0 ≤ 601024; omega, by show slots + 6 + 0 ≤ 7293033; omega⟩ (fun _ _ h => h.elim) (fun r v hq => ?_)
    obtain ⟨⟨z6, rfl⟩, hv6, hMv, hG⟩ := hq
    obtain ⟨f2, h100v⟩ := hMv.o
    have h130v := (hG 130 (Or.inr (by decide))).trans h130u
    have hI2 := LI.step h140 hDu hF ⟨gu, h130u⟩ hMv hG (vl_expl hV _)
    have hC2 : CB (k + 1) v (cells + 1 + 0 + 0) (slots + 6 + 0 + 0) := hC.step (s70 hF hG) (by omega) (by omega)
    refine z_istore dL_law_914 (by decide) ?_
    refine z_aload_n dL_law_916 rfl ?_
    refine z_callVX (m_thrown hMv) mL_84 dL_law_917 h100v rfl rfl rfl ⟨by decide, by decide⟩ (Nat.le_of_ble_eq_true rfl) ⟨by show cells + 1 + 0 + 0 ≤ 601024; omega, by show slots + 6 + 0 + 0 ≤ 7293033; omega⟩ (fun _ _ h => h.elim) (fun r w hq => ?_)
    obtain ⟨rfl, rfl⟩ := hq
    refine z_iload dL_law_920 rfl ?_
    refine z_icmp_eq (tgt := 927) dL_law_922 (by decide) (fun _ => ?_) (fun h => absurd rfl h)
    refine z_iload dL_law_927 rfl ?_
    refine i_if_ne (tgt := 944) dL_law_929 (by decide) (c2r (l2_expl _)) (fun h0 => ?_) (fun h0 => ?_)
    · refine z_goto (tgt := 1226) dL_law_944 (by decide) ?_
      exact K _ _ _ _ _ _ hI2 hC2
    · have hc0 := Int.ofNat.inj (show Int.ofNat _ = Int.ofNat 0 from h0)
      have e1 := hgu hc0
      have e2 := Value.int.inj (Option.some.inj (hv6 hc0))
      refine z_aload_n dL_law_932 rfl ?_
      refine i_iconst dL_law_933 rfl ?_
      refine z_lald dL_law_934 h130v 0 rfl (by decide) ?_
      refine z_iload dL_law_935 rfl ?_
      rw [e1, e2]
      refine z_i2lx dL_law_937 ?_
      refine z_lcmp dL_law_938 ?_
      refine z_if_eq (tgt := 944) dL_law_939 (by decide) (fun _ => ?_) (fun h => absurd (lc_self _) h)
      refine z_goto (tgt := 1226) dL_law_944 (by decide) ?_
      exact K _ _ _ _ _ _ hI2 hC2
theorem c_recovers {n k : Nat} {sc : Nat → Int} {σ : Wd} {a : AS} {o5 o6 : Option Value} {cells slots : Nat} (hI : LI n sc σ a) (hn : n ≤ 2048) (hk : 4 * k + 4 ≤ n) (hs : ∀ j, i32 (sc j)) (hC : CB k σ cells slots) (K : KN n sc k) : TL 947 (LL k o5 o6) [] σ cells slots := by
  obtain ⟨hD, ⟨t, hM⟩, hV, ⟨g, h130⟩, h140⟩ := hI
  have hb9 := hC.lim (by omega)
  obtain ⟨f0, h0⟩ := hD.o
  obtain ⟨f100, h100⟩ := hM.o
  refine z_aload_n dL_law_947 rfl ?_
  refine z_aload_n dL_law_948 rfl ?_
  refine z_callSW (w_recovers hD hV h130 ) mL_135 dL_law_949 rfl rfl ⟨by decide, by decide⟩ (Nat.le_of_ble_eq_true rfl) ⟨by show cells + 1 ≤ 601024; omega, by show slots + 6 ≤ 7293033; omega⟩ (fun _ _ h => h.elim) (fun r u hq => ?_)
  obtain ⟨rfl, hDu, ⟨gu, h130u, hgu⟩, hF⟩ := hq
  have hMu := hM.w hF
  have h140u := (hF.1 140 (by decide) (by decide)).trans h140
  obtain ⟨f1, h100u⟩ := hMu.o
  refine z_istore dL_law_952 (by decide) ?_
  refine z_aload_n dL_law_954 rfl ?_
  refine z_callVX (m_recovers hMu hV ) mL_137 dL_law_955 h100u rfl rfl rfl ⟨by decide, by decide⟩ (Nat.le_of_ble_eq_true rfl) ⟨by show cells + 1 + 0 ≤ 601024; omega, by show slots + 6 + 0 ≤ 7293033; omega⟩ (fun _ _ h => h.elim) (fun r v hq => ?_)
  obtain ⟨⟨z6, rfl⟩, hv6, hMv, hG⟩ := hq
  obtain ⟨f2, h100v⟩ := hMv.o
  have h130v := (hG 130 (Or.inr (by decide))).trans h130u
  have hI2 := LI.step h140 hDu hF ⟨gu, h130u⟩ hMv hG (vl_same hV)
  have hC2 : CB (k + 1) v (cells + 1 + 0 + 0) (slots + 6 + 0 + 0) := hC.step (s70 hF hG) (by omega) (by omega)
  refine z_istore dL_law_958 (by decide) ?_
  refine z_aload_n dL_law_960 rfl ?_
  refine z_callVX (m_thrown hMv) mL_84 dL_law_961 h100v rfl rfl rfl ⟨by decide, by decide⟩ (Nat.le_of_ble_eq_true rfl) ⟨by show cells + 1 + 0 + 0 ≤ 601024; omega, by show slots + 6 + 0 + 0 ≤ 7293033; omega⟩ (fun _ _ h => h.elim) (fun r w hq => ?_)
  obtain ⟨rfl, rfl⟩ := hq
  refine z_iload dL_law_964 rfl ?_
  refine z_icmp_eq (tgt := 971) dL_law_966 (by decide) (fun _ => ?_) (fun h => absurd rfl h)
  refine z_iload dL_law_971 rfl ?_
  refine i_if_ne (tgt := 995) dL_law_973 (by decide) (c2r (l2_rec)) (fun h0 => ?_) (fun h0 => ?_)
  · refine z_goto (tgt := 1226) dL_law_995 (by decide) ?_
    exact K _ _ _ _ _ _ hI2 hC2
  · have hc0 := Int.ofNat.inj (show Int.ofNat _ = Int.ofNat 0 from h0)
    have e1 := hgu hc0
    have e2 := Value.int.inj (Option.some.inj (hv6 hc0))
    refine z_aload_n dL_law_976 rfl ?_
    refine i_iconst dL_law_977 rfl ?_
    refine z_lald dL_law_978 h130v 0 rfl (by decide) ?_
    refine z_iload dL_law_979 rfl ?_
    rw [e1, e2]
    refine i_ifb_eq (tgt := 988) dL_law_981 (by decide) (fun hb => ?_) (fun hb => ?_)
    · refine z_lconst (v := lN 0) dL_law_988 rfl ?_
      rw [hb]
      refine z_lcmp dL_law_989 ?_
      refine z_if_eq (tgt := 995) dL_law_990 (by decide) (fun _ => ?_) (fun h => absurd lc_0 h)
      refine z_goto (tgt := 1226) dL_law_995 (by decide) ?_
      exact K _ _ _ _ _ _ hI2 hC2
    · refine z_lconst (v := lN 1) dL_law_984 rfl ?_
      refine z_goto (tgt := 989) dL_law_985 (by decide) ?_
      rw [hb]
      refine z_lcmp dL_law_989 ?_
      refine z_if_eq (tgt := 995) dL_law_990 (by decide) (fun _ => ?_) (fun h => absurd lc_1 h)
      refine z_goto (tgt := 1226) dL_law_995 (by decide) ?_
      exact K _ _ _ _ _ _ hI2 hC2
theorem c_table {n k : Nat} {sc : Nat → Int} {σ : Wd} {a : AS} {o5 o6 : Option Value} {cells slots : Nat} (hI : LI n sc σ a) (hn : n ≤ 2048) (hk : 4 * k + 4 ≤ n) (hs : ∀ j, i32 (sc j)) (hC : CB k σ cells slots) (K : KN n sc k) : TL 998 (LL k o5 o6) [] σ cells slots := by
  obtain ⟨hD, ⟨t, hM⟩, hV, ⟨g, h130⟩, h140⟩ := hI
  have hb9 := hC.lim (by omega)
  obtain ⟨f0, h0⟩ := hD.o
  obtain ⟨f100, h100⟩ := hM.o
  obtain ⟨N, xs, hE, hE0⟩ := hD.en hV
  refine z_aload_n dL_law_998 rfl ?_
  refine z_aload_n dL_law_999 rfl ?_
  refine z_iload dL_law_1000 rfl ?_
  refine i_iconst dL_law_1002 rfl ?_
  refine i_iadd dL_law_1003 ?_
  refine i_xald dL_law_1004 (by first | exact h140 | rfl) (4 * k + 1) (by omega) (by omega) (by omega) ?_
  refine z_aload_n dL_law_1005 rfl ?_
  refine z_iload dL_law_1006 rfl ?_
  refine i_iconst dL_law_1008 rfl ?_
  refine i_iadd dL_law_1009 ?_
  refine i_xald dL_law_1010 (by first | exact h140 | rfl) (4 * k + 2) (by omega) (by omega) (by omega) ?_
  refine z_aload_n dL_law_1011 rfl ?_
  refine z_callSW (w_table hD hV h130 hE (sc (4 * k + 1)) (sc (4 * k + 2)) (hs _) (hs _)) mL_138 dL_law_1012 rfl rfl ⟨by decide, by decide⟩ (Nat.le_of_ble_eq_true rfl) ⟨by show cells + 1 ≤ 601024; omega, by show slots + 6 ≤ 7293033; omega⟩ (fun _ _ h => h.elim) (fun r u hq => ?_)
  obtain ⟨rfl, hDu, ⟨gu, h130u, hgu⟩, hF⟩ := hq
  have hMu := hM.w hF
  have h140u := (hF.1 140 (by decide) (by decide)).trans h140
  obtain ⟨f1, h100u⟩ := hMu.o
  refine z_istore dL_law_1015 (by decide) ?_
  refine z_aload_n dL_law_1017 rfl ?_
  refine z_aload_n dL_law_1018 rfl ?_
  refine z_iload dL_law_1019 rfl ?_
  refine i_iconst dL_law_1021 rfl ?_
  refine i_iadd dL_law_1022 ?_
  refine i_xald dL_law_1023 (by first | exact h140u | rfl) (4 * k + 1) (by omega) (by omega) (by omega) ?_
  refine z_aload_n dL_law_1024 rfl ?_
  refine z_iload dL_law_1025 rfl ?_
  refine i_iconst dL_law_1027 rfl ?_
  refine i_iadd dL_law_1028 ?_
  refine i_xald dL_law_1029 (by first | exact h140u | rfl) (4 * k + 2) (by omega) (by omega) (by omega) ?_
  refine z_callVX (m_table hMu hV hE (sc (4 * k + 1)) (sc (4 * k + 2)) (hs _) (hs _)) mL_140 dL_law_1030 h100u rfl rfl rfl ⟨by decide, by decide⟩ (Nat.le_of_ble_eq_true rfl) ⟨by show cells + 1 + 0 ≤ 601024; omega, by show slots + 6 + 0 ≤ 7293033; omega⟩ (fun _ _ h => h.elim) (fun r v hq => ?_)
  obtain ⟨⟨z6, rfl⟩, hv6, hMv, hG⟩ := hq
  obtain ⟨f2, h100v⟩ := hMv.o
  have h130v := (hG 130 (Or.inr (by decide))).trans h130u
  have hI2 := LI.step h140 hDu hF ⟨gu, h130u⟩ hMv hG (vl_same hV)
  have hC2 : CB (k + 1) v (cells + 1 + 0 + 0) (slots + 6 + 0 + 0) := hC.step (s70 hF hG) (by omega) (by omega)
  refine z_istore dL_law_1033 (by decide) ?_
  refine z_aload_n dL_law_1035 rfl ?_
  refine z_callVX (m_thrown hMv) mL_84 dL_law_1036 h100v rfl rfl rfl ⟨by decide, by decide⟩ (Nat.le_of_ble_eq_true rfl) ⟨by show cells + 1 + 0 + 0 ≤ 601024; omega, by show slots + 6 + 0 + 0 ≤ 7293033; omega⟩ (fun _ _ h => h.elim) (fun r w hq => ?_)
  obtain ⟨rfl, rfl⟩ := hq
  refine z_iload dL_law_1039 rfl ?_
  refine z_icmp_eq (tgt := 1046) dL_law_1041 (by decide) (fun _ => ?_) (fun h => absurd rfl h)
  refine z_iload dL_law_1046 rfl ?_
  refine i_if_ne (tgt := 1063) dL_law_1048 (by decide) (c2r (cdTab_le _ _ _)) (fun h0 => ?_) (fun h0 => ?_)
  · refine z_goto (tgt := 1226) dL_law_1063 (by decide) ?_
    exact K _ _ _ _ _ _ hI2 hC2
  · have hc0 := Int.ofNat.inj (show Int.ofNat _ = Int.ofNat 0 from h0)
    have e1 := hgu hc0
    have e2 := Value.int.inj (Option.some.inj (hv6 hc0))
    refine z_aload_n dL_law_1051 rfl ?_
    refine i_iconst dL_law_1052 rfl ?_
    refine z_lald dL_law_1053 h130v 0 rfl (by decide) ?_
    refine z_iload dL_law_1054 rfl ?_
    rw [e1, e2]
    refine z_i2lx dL_law_1056 ?_
    refine z_lcmp dL_law_1057 ?_
    refine z_if_eq (tgt := 1063) dL_law_1058 (by decide) (fun _ => ?_) (fun h => absurd (lc_self _) h)
    refine z_goto (tgt := 1226) dL_law_1063 (by decide) ?_
    exact K _ _ _ _ _ _ hI2 hC2
theorem c_rule {n k : Nat} {sc : Nat → Int} {σ : Wd} {a : AS} {o5 o6 : Option Value} {cells slots : Nat} (hI : LI n sc σ a) (hn : n ≤ 2048) (hk : 4 * k + 4 ≤ n) (hs : ∀ j, i32 (sc j)) (hC : CB k σ cells slots) (K : KN n sc k) : TL 1066 (LL k o5 o6) [] σ cells slots := by
  obtain ⟨hD, ⟨t, hM⟩, hV, ⟨g, h130⟩, h140⟩ := hI
  have hb9 := hC.lim (by omega)
  obtain ⟨f0, h0⟩ := hD.o
  obtain ⟨f100, h100⟩ := hM.o
  obtain ⟨N, xs, hE, hE0⟩ := hD.en hV
  obtain ⟨i, j, p, q, hR⟩ := rl_all hE hE0 (sc (4 * k + 1)) (sc (4 * k + 2))
  refine z_aload_n dL_law_1066 rfl ?_
  refine z_aload_n dL_law_1067 rfl ?_
  refine z_iload dL_law_1068 rfl ?_
  refine i_iconst dL_law_1070 rfl ?_
  refine i_iadd dL_law_1071 ?_
  refine i_xald dL_law_1072 (by first | exact h140 | rfl) (4 * k + 1) (by omega) (by omega) (by omega) ?_
  refine z_aload_n dL_law_1073 rfl ?_
  refine z_iload dL_law_1074 rfl ?_
  refine i_iconst dL_law_1076 rfl ?_
  refine i_iadd dL_law_1077 ?_
  refine i_xald dL_law_1078 (by first | exact h140 | rfl) (4 * k + 2) (by omega) (by omega) (by omega) ?_
  refine z_aload_n dL_law_1079 rfl ?_
  refine z_iload dL_law_1080 rfl ?_
  refine i_iconst dL_law_1082 rfl ?_
  refine i_iadd dL_law_1083 ?_
  refine i_xald dL_law_1084 (by first | exact h140 | rfl) (4 * k + 3) (by omega) (by omega) (by omega) ?_
  refine z_aload_n dL_law_1085 rfl ?_
  refine z_callSW (w_rule hD hV h130 hE (sc (4 * k + 1)) (sc (4 * k + 2)) (sc (4 * k + 3)) (hs _) (hs _) (hs _) rfl hR) mL_141 dL_law_1086 rfl rfl ⟨by decide, by decide⟩ (Nat.le_of_ble_eq_true rfl) ⟨by show cells + 2 ≤ 601024; omega, by show slots + 12 ≤ 7293033; omega⟩ (fun _ _ h => h.elim) (fun r u hq => ?_)
  obtain ⟨rfl, hDu, ⟨gu, h130u, hgu⟩, hF⟩ := hq
  have hMu := hM.w hF
  have h140u := (hF.1 140 (by decide) (by decide)).trans h140
  obtain ⟨f1, h100u⟩ := hMu.o
  refine z_istore dL_law_1089 (by decide) ?_
  refine z_aload_n dL_law_1091 rfl ?_
  refine z_aload_n dL_law_1092 rfl ?_
  refine z_iload dL_law_1093 rfl ?_
  refine i_iconst dL_law_1095 rfl ?_
  refine i_iadd dL_law_1096 ?_
  refine i_xald dL_law_1097 (by first | exact h140u | rfl) (4 * k + 1) (by omega) (by omega) (by omega) ?_
  refine z_aload_n dL_law_1098 rfl ?_
  refine z_iload dL_law_1099 rfl ?_
  refine i_iconst dL_law_1101 rfl ?_
  refine i_iadd dL_law_1102 ?_
  refine i_xald dL_law_1103 (by first | exact h140u | rfl) (4 * k + 2) (by omega) (by omega) (by omega) ?_
  refine z_aload_n dL_law_1104 rfl ?_
  refine z_iload dL_law_1105 rfl ?_
  refine i_iconst dL_law_1107 rfl ?_
  refine i_iadd dL_law_1108 ?_
  refine i_xald dL_law_1109 (by first | exact h140u | rfl) (4 * k + 3) (by omega) (by omega) (by omega) ?_
  refine z_callVX (m_rule hMu hV hE (sc (4 * k + 1)) (sc (4 * k + 2)) (sc (4 * k + 3)) (hs _) (hs _) (hs _) rfl hR) mL_143 dL_law_1110 h100u rfl rfl rfl ⟨by decide, by decide⟩ (Nat.le_of_ble_eq_true rfl) ⟨by show cells + 2 + 0 ≤ 601024; omega, by show slots + 12 + 0 ≤ 7293033; omega⟩ (fun _ _ h => h.elim) (fun r v hq => ?_)
  obtain ⟨⟨z6, rfl⟩, hv6, hMv, hG⟩ := hq
  obtain ⟨f2, h100v⟩ := hMv.o
  have h130v := (hG 130 (Or.inr (by decide))).trans h130u
  have hI2 := LI.step h140 hDu hF ⟨gu, h130u⟩ hMv hG (vl_same hV)
  have hC2 : CB (k + 1) v (cells + 2 + 0 + 0) (slots + 12 + 0 + 0) := hC.step (s70 hF hG) (by omega) (by omega)
  refine z_istore dL_law_1113 (by decide) ?_
  refine z_aload_n dL_law_1115 rfl ?_
  refine z_callVX (m_thrown hMv) mL_84 dL_law_1116 h100v rfl rfl rfl ⟨by decide, by decide⟩ (Nat.le_of_ble_eq_true rfl) ⟨by show cells + 2 + 0 + 0 ≤ 601024; omega, by show slots + 12 + 0 + 0 ≤ 7293033; omega⟩ (fun _ _ h => h.elim) (fun r w hq => ?_)
  obtain ⟨rfl, rfl⟩ := hq
  refine z_iload dL_law_1119 rfl ?_
  refine z_icmp_eq (tgt := 1126) dL_law_1121 (by decide) (fun _ => ?_) (fun h => absurd rfl h)
  refine z_iload dL_law_1126 rfl ?_
  refine i_if_ne (tgt := 1143) dL_law_1128 (by decide) (c2r (l2_rule _ _ _ _)) (fun h0 => ?_) (fun h0 => ?_)
  · refine z_goto (tgt := 1226) dL_law_1143 (by decide) ?_
    exact K _ _ _ _ _ _ hI2 hC2
  · have hc0 := Int.ofNat.inj (show Int.ofNat _ = Int.ofNat 0 from h0)
    have e1 := hgu hc0
    have e2 := Value.int.inj (Option.some.inj (hv6 hc0))
    refine z_aload_n dL_law_1131 rfl ?_
    refine i_iconst dL_law_1132 rfl ?_
    refine z_lald dL_law_1133 h130v 0 rfl (by decide) ?_
    refine z_iload dL_law_1134 rfl ?_
    rw [e1, e2]
    refine z_i2lx dL_law_1136 ?_
    refine z_lcmp dL_law_1137 ?_
    refine z_if_eq (tgt := 1143) dL_law_1138 (by decide) (fun _ => ?_) (fun h => absurd (lc_self _) h)
    refine z_goto (tgt := 1226) dL_law_1143 (by decide) ?_
    exact K _ _ _ _ _ _ hI2 hC2
theorem c_kind {n k : Nat} {sc : Nat → Int} {σ : Wd} {a : AS} {o5 o6 : Option Value} {cells slots : Nat} (hI : LI n sc σ a) (hn : n ≤ 2048) (hk : 4 * k + 4 ≤ n) (hs : ∀ j, i32 (sc j)) (hC : CB k σ cells slots) (K : KN n sc k) : TL 1146 (LL k o5 o6) [] σ cells slots := by
  obtain ⟨hD, ⟨t, hM⟩, hV, ⟨g, h130⟩, h140⟩ := hI
  have hb9 := hC.lim (by omega)
  obtain ⟨f0, h0⟩ := hD.o
  obtain ⟨f100, h100⟩ := hM.o
  obtain ⟨N, xs, hE, hE0⟩ := hD.en hV
  refine z_aload_n dL_law_1146 rfl ?_
  refine z_aload_n dL_law_1147 rfl ?_
  refine z_iload dL_law_1148 rfl ?_
  refine i_iconst dL_law_1150 rfl ?_
  refine i_iadd dL_law_1151 ?_
  refine i_xald dL_law_1152 (by first | exact h140 | rfl) (4 * k + 1) (by omega) (by omega) (by omega) ?_
  refine z_aload_n dL_law_1153 rfl ?_
  refine z_iload dL_law_1154 rfl ?_
  refine i_iconst dL_law_1156 rfl ?_
  refine i_iadd dL_law_1157 ?_
  refine i_xald dL_law_1158 (by first | exact h140 | rfl) (4 * k + 2) (by omega) (by omega) (by omega) ?_
  refine z_aload_n dL_law_1159 rfl ?_
  refine z_iload dL_law_1160 rfl ?_
  refine i_iconst dL_law_1162 rfl ?_
  refine i_iadd dL_law_1163 ?_
  refine i_xald dL_law_1164 (by first | exact h140 | rfl) (4 * k + 3) (by omega) (by omega) (by omega) ?_
  refine z_aload_n dL_law_1165 rfl ?_
  refine z_callSW (w_kind hD hV h130 hE (sc (4 * k + 1)) (sc (4 * k + 2)) (sc (4 * k + 3)) (hs _) (hs _) (hs _)) mL_144 dL_law_1166 rfl rfl ⟨by decide, by decide⟩ (Nat.le_of_ble_eq_true rfl) ⟨by show cells + 2 ≤ 601024; omega, by show slots + 12 ≤ 7293033; omega⟩ (fun _ _ h => h.elim) (fun r u hq => ?_)
  obtain ⟨rfl, hDu, ⟨gu, h130u, hgu⟩, hF⟩ := hq
  have hMu := hM.w hF
  have h140u := (hF.1 140 (by decide) (by decide)).trans h140
  obtain ⟨f1, h100u⟩ := hMu.o
  refine z_istore dL_law_1169 (by decide) ?_
  refine z_aload_n dL_law_1171 rfl ?_
  refine z_aload_n dL_law_1172 rfl ?_
  refine z_iload dL_law_1173 rfl ?_
  refine i_iconst dL_law_1175 rfl ?_
  refine i_iadd dL_law_1176 ?_
  refine i_xald dL_law_1177 (by first | exact h140u | rfl) (4 * k + 1) (by omega) (by omega) (by omega) ?_
  refine z_aload_n dL_law_1178 rfl ?_
  refine z_iload dL_law_1179 rfl ?_
  refine i_iconst dL_law_1181 rfl ?_
  refine i_iadd dL_law_1182 ?_
  refine i_xald dL_law_1183 (by first | exact h140u | rfl) (4 * k + 2) (by omega) (by omega) (by omega) ?_
  refine z_aload_n dL_law_1184 rfl ?_
  refine z_iload dL_law_1185 rfl ?_
  refine i_iconst dL_law_1187 rfl ?_
  refine i_iadd dL_law_1188 ?_
  refine i_xald dL_law_1189 (by first | exact h140u | rfl) (4 * k + 3) (by omega) (by omega) (by omega) ?_
  refine z_callVX (m_kind hMu hV hE (sc (4 * k + 1)) (sc (4 * k + 2)) (sc (4 * k + 3)) (hs _) (hs _) (hs _)) mL_146 dL_law_1190 h100u rfl rfl rfl ⟨by decide, by decide⟩ (Nat.le_of_ble_eq_true rfl) ⟨by show cells + 2 + 0 ≤ 601024; omega, by show slots + 12 + 0 ≤ 7293033; omega⟩ (fun _ _ h => h.elim) (fun r v hq => ?_)
  obtain ⟨⟨z6, rfl⟩, hv6, hMv, hG⟩ := hq
  obtain ⟨f2, h100v⟩ := hMv.o
  have h130v := (hG 130 (Or.inr (by decide))).trans h130u
  have hI2 := LI.step h140 hDu hF ⟨gu, h130u⟩ hMv hG (vl_same hV)
  have hC2 : CB (k + 1) v (cells + 2 + 0 + 0) (slots + 12 + 0 + 0) := hC.step (s70 hF hG) (by omega) (by omega)
  refine z_istore dL_law_1193 (by decide) ?_
  refine z_aload_n dL_law_1195 rfl ?_
  refine z_callVX (m_thrown hMv) mL_84 dL_law_1196 h100v rfl rfl rfl ⟨by decide, by decide⟩ (Nat.le_of_ble_eq_true rfl) ⟨by show cells + 2 + 0 + 0 ≤ 601024; omega, by show slots + 12 + 0 + 0 ≤ 7293033; omega⟩ (fun _ _ h => h.elim) (fun r w hq => ?_)
  obtain ⟨rfl, rfl⟩ := hq
  refine z_iload dL_law_1199 rfl ?_
  refine z_icmp_eq (tgt := 1206) dL_law_1201 (by decide) (fun _ => ?_) (fun h => absurd rfl h)
  refine z_iload dL_law_1206 rfl ?_
  refine i_if_ne (tgt := 1223) dL_law_1208 (by decide) (c2r (l2_kind _ _ _ _)) (fun h0 => ?_) (fun h0 => ?_)
  · refine z_goto (tgt := 1226) dL_law_1223 (by decide) ?_
    exact K _ _ _ _ _ _ hI2 hC2
  · have hc0 := Int.ofNat.inj (show Int.ofNat _ = Int.ofNat 0 from h0)
    have e1 := hgu hc0
    have e2 := Value.int.inj (Option.some.inj (hv6 hc0))
    refine z_aload_n dL_law_1211 rfl ?_
    refine i_iconst dL_law_1212 rfl ?_
    refine z_lald dL_law_1213 h130v 0 rfl (by decide) ?_
    refine z_iload dL_law_1214 rfl ?_
    rw [e1, e2]
    refine z_i2lx dL_law_1216 ?_
    refine z_lcmp dL_law_1217 ?_
    refine z_if_eq (tgt := 1223) dL_law_1218 (by decide) (fun _ => ?_) (fun h => absurd (lc_self _) h)
    refine z_goto (tgt := 1226) dL_law_1223 (by decide) ?_
    exact K _ _ _ _ _ _ hI2 hC2
theorem c_clear {n k : Nat} {sc : Nat → Int} {σ : Wd} {a : AS} {o5 o6 : Option Value} {cells slots : Nat} (hI : LI n sc σ a) (hn : n ≤ 2048) (hk : 4 * k + 4 ≤ n) (hs : ∀ j, i32 (sc j)) (hC : CB k σ cells slots) (K : KN n sc k) : TL 132 (LL k o5 o6) [] σ cells slots := by
  obtain ⟨hD, ⟨t, hM⟩, hV, ⟨g, h130⟩, h140⟩ := hI
  have hb9 := hC.lim (by omega)
  obtain ⟨f0, h0⟩ := hD.o
  obtain ⟨f100, h100⟩ := hM.o
  refine z_aload_n dL_law_132 rfl ?_
  refine z_callVX (k_clear hD) mL_74 dL_law_133 h0 rfl rfl rfl ⟨by decide, by decide⟩ (Nat.le_of_ble_eq_true rfl) ⟨by show cells + 0 ≤ 601024; omega, by show slots + 0 ≤ 7293033; omega⟩ (fun _ _ h => h.elim) (fun r u hq => ?_)
  obtain ⟨rfl, hDu, hF0⟩ := hq
  have hF := hF0.w
  have hMu := hM.w hF
  have h130u := hF0.1 130 (by decide)
  obtain ⟨f1, h100u⟩ := hMu.o
  refine z_aload_n dL_law_136 rfl ?_
  refine z_callVX (m_clear hMu) mL_77 dL_law_137 h100u rfl rfl rfl ⟨by decide, by decide⟩ (Nat.le_of_ble_eq_true rfl) ⟨by show cells + 0 + 0 ≤ 601024; omega, by show slots + 0 + 0 ≤ 7293033; omega⟩ (fun _ _ h => h.elim) (fun r v hq => ?_)
  obtain ⟨rfl, hMv, hG⟩ := hq
  have hI2 := LI.step h140 hDu hF ⟨g, h130u.trans h130⟩ hMv hG (vClear hV)
  have hC2 : CB (k + 1) v (cells + 0 + 0) (slots + 0 + 0) := hC.step (s70 hF hG) (by omega) (by omega)
  refine z_goto (tgt := 1226) dL_law_140 (by decide) ?_
  exact K _ _ _ _ _ _ hI2 hC2
theorem c_size {n k : Nat} {sc : Nat → Int} {σ : Wd} {a : AS} {o5 o6 : Option Value} {cells slots : Nat} (hI : LI n sc σ a) (hn : n ≤ 2048) (hk : 4 * k + 4 ≤ n) (hs : ∀ j, i32 (sc j)) (hC : CB k σ cells slots) (K : KN n sc k) : TL 527 (LL k o5 o6) [] σ cells slots := by
  obtain ⟨hD, ⟨t, hM⟩, hV, ⟨g, h130⟩, h140⟩ := hI
  have hb9 := hC.lim (by omega)
  obtain ⟨f0, h0⟩ := hD.o
  obtain ⟨f100, h100⟩ := hM.o
  refine z_aload_n dL_law_527 rfl ?_
  refine z_callVX (k_size hD) mL_105 dL_law_528 h0 rfl rfl rfl ⟨by decide, by decide⟩ (Nat.le_of_ble_eq_true rfl) ⟨by show cells + 0 ≤ 601024; omega, by show slots + 0 ≤ 7293033; omega⟩ (fun _ _ h => h.elim) (fun r u hq => ?_)
  obtain ⟨rfl, hu⟩ := hq
  have hDu : DK u a := by rw [hu]; exact hD
  have hF : FW σ u := by rw [hu]; exact F1.rfl.w
  have hMu := hM.w hF
  have h130u := congrFun hu 130
  obtain ⟨f1, h100u⟩ := hMu.o
  refine z_aload_n dL_law_531 rfl ?_
  refine z_callVX (m_size hMu) mL_108 dL_law_532 h100u rfl rfl rfl ⟨by decide, by decide⟩ (Nat.le_of_ble_eq_true rfl) ⟨by show cells + 0 + 0 ≤ 601024; omega, by show slots + 0 + 0 ≤ 7293033; omega⟩ (fun _ _ h => h.elim) (fun r v hq => ?_)
  obtain ⟨rfl, hMv, hG⟩ := hq
  have hI2 := LI.step h140 hDu hF ⟨g, h130u.trans h130⟩ hMv hG hV
  have hC2 : CB (k + 1) v (cells + 0 + 0) (slots + 0 + 0) := hC.step (s70 hF hG) (by omega) (by omega)
  refine z_icmp_eq (tgt := 1226) dL_law_535 (by decide) (fun _ => ?_) (fun h => absurd rfl h)
  exact K _ _ _ _ _ _ hI2 hC2
theorem c_silent {n k : Nat} {sc : Nat → Int} {σ : Wd} {a : AS} {o5 o6 : Option Value} {cells slots : Nat} (hI : LI n sc σ a) (hn : n ≤ 2048) (hk : 4 * k + 4 ≤ n) (hs : ∀ j, i32 (sc j)) (hC : CB k σ cells slots) (K : KN n sc k) : TL 865 (LL k o5 o6) [] σ cells slots := by
  obtain ⟨hD, ⟨t, hM⟩, hV, ⟨g, h130⟩, h140⟩ := hI
  have hb9 := hC.lim (by omega)
  obtain ⟨f0, h0⟩ := hD.o
  obtain ⟨f100, h100⟩ := hM.o
  refine z_aload_n dL_law_865 rfl ?_
  refine z_callVX (k_silent hD hV) mL_124 dL_law_866 h0 rfl rfl rfl ⟨by decide, by decide⟩ (Nat.le_of_ble_eq_true rfl) ⟨by show cells + 0 ≤ 601024; omega, by show slots + 0 ≤ 7293033; omega⟩ (fun _ _ h => h.elim) (fun r u hq => ?_)
  obtain ⟨rfl, hDu, hF0⟩ := hq
  have hF := hF0.w
  have hMu := hM.w hF
  have h130u := hF0.1 130 (by decide)
  obtain ⟨f1, h100u⟩ := hMu.o
  refine z_aload_n dL_law_869 rfl ?_
  refine z_callVX (m_silent hMu hV) mL_127 dL_law_870 h100u rfl rfl rfl ⟨by decide, by decide⟩ (Nat.le_of_ble_eq_true rfl) ⟨by show cells + 0 + 0 ≤ 601024; omega, by show slots + 0 + 0 ≤ 7293033; omega⟩ (fun _ _ h => h.elim) (fun r v hq => ?_)
  obtain ⟨rfl, hMv, hG⟩ := hq
  have hI2 := LI.step h140 hDu hF ⟨g, h130u.trans h130⟩ hMv hG hV
  have hC2 : CB (k + 1) v (cells + 0 + 0) (slots + 0 + 0) := hC.step (s70 hF hG) (by omega) (by omega)
  refine z_icmp_eq (tgt := 1226) dL_law_873 (by decide) (fun _ => ?_) (fun h => absurd rfl h)
  exact K _ _ _ _ _ _ hI2 hC2
theorem c_agree {n k : Nat} {sc : Nat → Int} {σ : Wd} {a : AS} {o5 o6 : Option Value} {cells slots : Nat} (hI : LI n sc σ a) (hn : n ≤ 2048) (hk : 4 * k + 4 ≤ n) (hs : ∀ j, i32 (sc j)) (hC : CB k σ cells slots) (K : KN n sc k) : TL 878 (LL k o5 o6) [] σ cells slots := by
  obtain ⟨hD, ⟨t, hM⟩, hV, ⟨g, h130⟩, h140⟩ := hI
  have hb9 := hC.lim (by omega)
  obtain ⟨f0, h0⟩ := hD.o
  obtain ⟨f100, h100⟩ := hM.o
  refine z_aload_n dL_law_878 rfl ?_
  refine z_callVX (k_agree hD hV) mL_128 dL_law_879 h0 rfl rfl rfl ⟨by decide, by decide⟩ (Nat.le_of_ble_eq_true rfl) ⟨by show cells + 0 ≤ 601024; omega, by show slots + 0 ≤ 7293033; omega⟩ (fun _ _ h => h.elim) (fun r u hq => ?_)
  obtain ⟨rfl, hu⟩ := hq
  have hDu : DK u a := by rw [hu]; exact hD
  have hF : FW σ u := by rw [hu]; exact F1.rfl.w
  have hMu := hM.w hF
  have h130u := congrFun hu 130
  obtain ⟨f1, h100u⟩ := hMu.o
  refine z_aload_n dL_law_882 rfl ?_
  refine z_callVX (m_agree hMu hV) mL_131 dL_law_883 h100u rfl rfl rfl ⟨by decide, by decide⟩ (Nat.le_of_ble_eq_true rfl) ⟨by show cells + 0 + 0 ≤ 601024; omega, by show slots + 0 + 0 ≤ 7293033; omega⟩ (fun _ _ h => h.elim) (fun r v hq => ?_)
  obtain ⟨rfl, hMv, hG⟩ := hq
  have hI2 := LI.step h140 hDu hF ⟨g, h130u.trans h130⟩ hMv hG hV
  have hC2 : CB (k + 1) v (cells + 0 + 0) (slots + 0 + 0) := hC.step (s70 hF hG) (by omega) (by omega)
  refine z_icmp_eq (tgt := 1226) dL_law_886 (by decide) (fun _ => ?_) (fun h => absurd rfl h)
  exact K _ _ _ _ _ _ hI2 hC2

