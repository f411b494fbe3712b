/-- the world with an atom's growing table -/
def W3 (σ : Wd) (o : Nat) (m e b : Int) (nb cd : Nat → Int) (n : Nat) : Wd := up (up (up σ o (obA o m e b n)) (o + 2) (AI 256 cd)) (o + 3) (AI 256 nb)
section W3S
variable {σ : Wd} {o : Nat} {m e b : Int} {nb cd : Nat → Int} {n : Nat}
theorem W3_o : W3 σ o m e b nb cd n o = some (obA o m e b n) := by unfold W3; rw [up_ne _ _ (by omega), up_ne _ _ (by omega), up_self]
theorem W3_2 : W3 σ o m e b nb cd n (o + 2) = some (AI 256 cd) := by unfold W3; rw [up_ne _ _ (by omega), up_self]
theorem W3_3 : W3 σ o m e b nb cd n (o + 3) = some (AI 256 nb) := up_self _ _ _
theorem W3_x {q : Nat} (h0 : q ≠ o) (h2 : q ≠ o + 2) (h3 : q ≠ o + 3) : W3 σ o m e b nb cd n q = σ q := by unfold W3; rw [up_ne _ _ h3, up_ne _ _ h2, up_ne _ _ h0]
theorem W3_s3 (nb' : Nat → Int) : up (W3 σ o m e b nb cd n) (o + 3) (AI 256 nb') = W3 σ o m e b nb' cd n := by unfold W3; rw [up_up]
theorem W3_s2 (cd' : Nat → Int) : up (W3 σ o m e b nb cd n) (o + 2) (AI 256 cd') = W3 σ o m e b nb cd' n := by unfold W3; rw [up_comm _ _ _ (show o + 3 ≠ o + 2 by omega), up_up]
theorem W3_so (s' : Nat) : up (W3 σ o m e b nb cd n) o (obA o m e b s') = W3 σ o m e b nb cd s' := by unfold W3; rw [up_comm _ _ _ (show o + 3 ≠ o by omega), up_comm _ _ _ (show o + 2 ≠ o by omega), up_up]
theorem W3_id (h0 : σ o = some (obA o m e b n)) (h2 : σ (o + 2) = some (AI 256 cd)) (h3 : σ (o + 3) = some (AI 256 nb)) : W3 σ o m e b nb cd n = σ := by
  unfold W3
  rw [up_id h0, up_id h2, up_id h3]
end W3S
theorem k_learn (σ : Wd) (o : Nat) (m e b : Int) (nb cd : Nat → Int) (n c : Nat) (hc : c < 256) (hn : n ≤ 256) (hn2 : nb c = -1 → n < 256) (hnb : -1 ≤ nb c ∧ nb c ≤ 256) : KX0_learn [.ref o, .int (iI c)] (W3 σ o m e b nb cd n) (Rt none (W3 σ o m e b (lrnB nb n c) (lrnD nb cd n c) (lrnN nb n c))) NX := by
  refine Ct.intro (by decide) (Nat.le_of_ble_eq_true rfl) ?_
  unfold lrnB lrnD lrnN
  refine z_aload_n dX0_learn_0 rfl ?_
  refine z_getf cls0 5 flX0_20 dX0_learn_1 (by decide) (W3_o) rfl ?_
  refine z_iload_n dX0_learn_4 rfl ?_
  refine i_iald dX0_learn_5 (W3_3) c (by omega) (by omega) ?_
  refine i_iconst dX0_learn_6 rfl ?_
  refine i_icmp_ne (tgt := 40) dX0_learn_7 (by decide) (by omega) (by omega) (fun h1 => ?_) (fun h1 => ?_)
  · skip
    rw [if_neg h1, if_neg h1, if_neg h1]
    exact i_vret dX0_learn_40 rfl (by decide) (by decide) rfl
  · skip
    rw [if_pos h1, if_pos h1, if_pos h1]
    have hlt := hn2 h1
    refine z_aload_n dX0_learn_10 rfl ?_
    refine z_getf cls0 5 flX0_20 dX0_learn_11 (by decide) (W3_o) rfl ?_
    refine z_iload_n dX0_learn_14 rfl ?_
    refine z_aload_n dX0_learn_15 rfl ?_
    refine z_getf cls0 7 flX0_87 dX0_learn_16 (by decide) (W3_o) rfl ?_
    refine i_iast dX0_learn_19 (W3_3) c (by omega) (by omega) ?_
    rw [W3_s3]
    refine z_aload_n dX0_learn_20 rfl ?_
    refine z_getf cls0 4 flX0_17 dX0_learn_21 (by decide) (W3_o) rfl ?_
    refine z_aload_n dX0_learn_24 rfl ?_
    refine z_getf cls0 7 flX0_87 dX0_learn_25 (by decide) (W3_o) rfl ?_
    refine z_iload_n dX0_learn_28 rfl ?_
    refine i_iast dX0_learn_29 (W3_2) n (by omega) (by omega) ?_
    rw [W3_s2]
    refine z_aload_n dX0_learn_30 rfl ?_
    refine z_dup dX0_learn_31 rfl ?_
    refine z_getf cls0 7 flX0_87 dX0_learn_32 (by decide) (W3_o) rfl ?_
    refine i_iconst dX0_learn_35 rfl ?_
    refine i_iadd dX0_learn_36 ?_
    refine i_puti cls0 7 flX0_87 dX0_learn_37 (by decide) rfl rfl (W3_o) (Nat.le_of_ble_eq_true rfl) ?_
    refine z_eqw (W3_so (n + 1)) ?_
    exact i_vret dX0_learn_40 rfl (by decide) (by decide) rfl
theorem k_learnBoth (σ : Wd) (o : Nat) (m e b : Int) (nb cd cf : Nat → Int) (n : Nat) (x z : St) (ha : okA m e b) (hcf : ∀ l, l < 8 → -b ≤ cf l ∧ cf l ≤ b) (h : TIn m e b cf nb cd n) (hx : Rch m e b cf x) (hz : Rch m e b cf z) : KX0_learnBoth [.ref o, .int (iI ((cdN x * 256 + cdN z : Nat) : Int))] (W3 σ o m e b nb cd n) (Rt none (W3 σ o m e b (lrnB (lrnB nb n (cdN x)) (lrnN nb n (cdN x)) (cdN z)) (lrnD (lrnB nb n (cdN x)) (lrnD nb cd n (cdN x)) (lrnN nb n (cdN x)) (cdN z)) (lrnN (lrnB nb n (cdN x)) (lrnN nb n (cdN x)) (cdN z)))) NX := by
  refine Ct.intro (by decide) (Nat.le_of_ble_eq_true rfl) ?_
  have lx := cdN_lt (okM_rg ha (Rch_ok ha hcf hx))
  have lz := cdN_lt (okM_rg ha (Rch_ok ha hcf hz))
  have nbr : ∀ {nb cd : Nat → Int} {n c : Nat}, TIn m e b cf nb cd n → c < 256 → -1 ≤ nb c ∧ nb c ≤ 256 := fun h hc => by
    have := h.le ha hcf
    rcases h.2 _ hc with q | ⟨k, q1, q2, -⟩
    · omega
    · omega
  have h2 := (h.lrn ha hcf hx).1
  refine z_aload_n dX0_learnBoth_0 rfl ?_
  refine z_iload_n dX0_learnBoth_1 rfl ?_
  refine i_cSr (k_X1_first (cdN x * 256 + cdN z) (by omega) _) mX0_103 dX0_learnBoth_2 rfl rfl ⟨by decide, by decide⟩ (Nat.le_of_ble_eq_true rfl) ⟨by decide, by decide⟩ ?_
  rw [show (cdN x * 256 + cdN z) / 256 = cdN x by omega]
  refine i_cVv (k_learn σ o m e b nb cd n (cdN x) lx (h.le ha hcf) (h.lt ha hcf lx) (nbr h lx)) mX0_93 dX0_learnBoth_5 (W3_o) rfl rfl rfl ⟨by decide, by decide⟩ (Nat.le_of_ble_eq_true rfl) ⟨by decide, by decide⟩ ?_
  refine z_aload_n dX0_learnBoth_8 rfl ?_
  refine z_iload_n dX0_learnBoth_9 rfl ?_
  refine i_cSr (k_X1_second (cdN x * 256 + cdN z) (by omega) _) mX0_106 dX0_learnBoth_10 rfl rfl ⟨by decide, by decide⟩ (Nat.le_of_ble_eq_true rfl) ⟨by decide, by decide⟩ ?_
  rw [show (cdN x * 256 + cdN z) % 256 = cdN z by omega]
  refine i_cVv (k_learn σ o m e b _ _ _ (cdN z) lz (h2.le ha hcf) (h2.lt ha hcf lz) (nbr h2 lz)) mX0_93 dX0_learnBoth_13 (W3_o) rfl rfl rfl ⟨by decide, by decide⟩ (Nat.le_of_ble_eq_true rfl) ⟨by decide, by decide⟩ ?_
  exact i_vret dX0_learnBoth_16 rfl (by decide) (by decide) rfl

