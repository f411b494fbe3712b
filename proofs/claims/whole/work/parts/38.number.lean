/-- how many of the first c numbers are in -/
def cntF (fd : Nat → Bool) : Nat → Nat
  | 0 => 0
  | c + 1 => cntF fd c + (bif fd c then 1 else 0)
theorem cnt_t {fd : Nat → Bool} {c : Nat} (h : fd c = true) : cntF fd (c + 1) = cntF fd c + 1 := by show cntF fd c + _ = _; rw [h]; rfl
theorem cnt_f {fd : Nat → Bool} {c : Nat} (h : fd c = false) : cntF fd (c + 1) = cntF fd c := by show cntF fd c + _ = _; rw [h]; rfl
theorem cnt_s (fd : Nat → Bool) (c : Nat) : cntF fd c ≤ cntF fd (c + 1) ∧ cntF fd (c + 1) ≤ cntF fd c + 1 := by
  cases h : fd c with
  | true => rw [cnt_t h]; omega
  | false => rw [cnt_f h]; omega
theorem cnt_le (fd : Nat → Bool) : ∀ c, cntF fd c ≤ c
  | 0 => Nat.le_refl _
  | c + 1 => by have := cnt_le fd c; have := cnt_s fd c; omega
theorem cnt_mono (fd : Nat → Bool) : ∀ c d, c ≤ d → cntF fd c ≤ cntF fd d
  | c, 0, h => by have : c = 0 := by omega
                  subst this; exact Nat.le_refl _
  | c, d + 1, h => by
    by_cases q : c = d + 1
    · rw [q]; exact Nat.le_refl _
    · have := cnt_mono fd c d (by omega); have := cnt_s fd d; omega
theorem cnt_lt {fd : Nat → Bool} {c d : Nat} (hc : fd c = true) (h : c < d) : cntF fd c < cntF fd d := by
  have := cnt_mono fd (c + 1) d h
  rw [cnt_t hc] at this
  omega
theorem cnt_inj {fd : Nat → Bool} {c d : Nat} (hc : fd c = true) (hd : fd d = true) (h : cntF fd c = cntF fd d) : c = d := by
  rcases Nat.lt_trichotomy c d with q | q | q
  · have := cnt_lt hc q; omega
  · exact q
  · have := cnt_lt hd q; omega
theorem cnt_inv (fd : Nat → Bool) : ∀ N k, k < cntF fd N → ∃ c, c < N ∧ fd c = true ∧ cntF fd c = k
  | 0, k, h => absurd h (Nat.not_lt_zero k)
  | N + 1, k, h => by
    by_cases q : k < cntF fd N
    · obtain ⟨c, h1, h2, h3⟩ := cnt_inv fd N k q
      exact ⟨c, by omega, h2, h3⟩
    · cases hN : fd N with
      | true => rw [cnt_t hN] at h; exact ⟨N, by omega, hN, by omega⟩
      | false => rw [cnt_f hN] at h; omega
theorem cnt_congr {fd fd' : Nat → Bool} : ∀ N, (∀ c, c < N → fd c = fd' c) → cntF fd N = cntF fd' N
  | 0, _ => rfl
  | N + 1, h => by
    show cntF fd N + _ = cntF fd' N + _
    rw [cnt_congr N (fun c hc => h c (by omega)), h N (by omega)]
/-- the finished table of an atom's states: xs in the order of their codes -/
def Tb (m e b : Int) (cf nb cd : Nat → Int) (n : Nat) (xs : Nat → St) : Prop :=
  (∀ k, k < n → Rch m e b cf (xs k) ∧ cd k = cdN (xs k) ∧ nb (cdN (xs k)) = k) ∧ (∀ x, Rch m e b cf x → ∃ k, k < n ∧ x = xs k) ∧ (∀ i j, i < j → j < n → cdN (xs i) < cdN (xs j)) ∧ n ≤ 256
theorem fdOf {m e b : Int} {cf nb cd : Nat → Int} {n : Nat} (ha : okA m e b) (hcf : ∀ l, l < 8 → -b ≤ cf l ∧ cf l ≤ b) (h : TIn m e b cf nb cd n) (fd : Nat → Bool) (hfd : ∀ c, c < 256 → (fd c = true ↔ nb c ≠ -1)) : cntF fd 256 = n := by
  have d1 : ∀ k, k < n → ∃ c : Nat, c < 256 ∧ fd c = true ∧ nb c = k := fun k hk => by
    obtain ⟨x, hx, h1, h2⟩ := h.1 k hk
    have l := cdN_lt (okM_rg ha (Rch_ok ha hcf hx))
    exact ⟨cdN x, l, (hfd _ l).mpr (by omega), h2⟩
  have k1 : ∀ k, ∃ c : Nat, k < n → c < 256 ∧ fd c = true ∧ nb c = k := fun k => by
    by_cases hk : k < n
    · obtain ⟨c, hc⟩ := d1 k hk; exact ⟨c, fun _ => hc⟩
    · exact ⟨0, fun q => absurd q hk⟩
  have k2 : ∀ k, ∃ c : Nat, k < cntF fd 256 → c < 256 ∧ fd c = true ∧ cntF fd c = k := fun k => by
    by_cases hk : k < cntF fd 256
    · obtain ⟨c, hc⟩ := cnt_inv fd 256 k hk; exact ⟨c, fun _ => hc⟩
    · exact ⟨0, fun q => absurd q hk⟩
  refine Nat.le_antisymm ?_ ?_
  · refine pig n _ (fun k => (nb (Classical.choose (k2 k))).toNat) (fun k hk => ?_) (fun i j hi hj e => ?_)
    · obtain ⟨q1, q2, q3⟩ := Classical.choose_spec (k2 k) hk
      obtain ⟨z, z1, z2, z3⟩ := (h.2 _ q1).resolve_left ((hfd _ q1).mp q2)
      show (nb (Classical.choose (k2 k))).toNat < n
      omega
    · obtain ⟨q1, q2, q3⟩ := Classical.choose_spec (k2 i) hi
      obtain ⟨p1, p2, p3⟩ := Classical.choose_spec (k2 j) hj
      obtain ⟨z, z1, z2, z3⟩ := (h.2 _ q1).resolve_left ((hfd _ q1).mp q2)
      obtain ⟨y, y1, y2, y3⟩ := (h.2 _ p1).resolve_left ((hfd _ p1).mp p2)
      have e : (nb (Classical.choose (k2 i))).toNat = (nb (Classical.choose (k2 j))).toNat := e
      have : z = y := by omega
      subst this
      have : Classical.choose (k2 i) = Classical.choose (k2 j) := by omega
      rw [← q3, ← p3, this]
  · refine pig (cntF fd 256) n (fun k => cntF fd (Classical.choose (k1 k))) (fun k hk => ?_) (fun i j hi hj e => ?_)
    · obtain ⟨q1, q2, q3⟩ := Classical.choose_spec (k1 k) hk
      exact cnt_lt q2 q1
    · obtain ⟨q1, q2, q3⟩ := Classical.choose_spec (k1 i) hi
      obtain ⟨p1, p2, p3⟩ := Classical.choose_spec (k1 j) hj
      have := cnt_inj q2 p2 e
      rw [this, p3] at q3
      omega
theorem k_numberStates (σ : Wd) (o : Nat) (m e b : Int) (cf nb cd : Nat → Int) (n : Nat) (ha : okA m e b) (hcf : ∀ l, l < 8 → -b ≤ cf l ∧ cf l ≤ b) (hT : TIn m e b cf nb cd n) (hall : ∀ x, Rch m e b cf x → nb (cdN x) ≠ -1) :
    KX0_numberStates [.ref o] (W3 σ o m e b nb cd n) (fun r u => ∃ nb' cd' xs, r = none ∧ u = W3 σ o m e b nb' cd' n ∧ Tb m e b cf nb' cd' n xs) NX := by
  refine Ct.intro (by decide) (Nat.le_of_ble_eq_true rfl) ?_
  obtain ⟨Q, hQ⟩ : ∃ Q : Option Value → Wd → Prop, Q = fun r u => ∃ nb' cd' xs, r = none ∧ u = W3 σ o m e b nb' cd' n ∧ Tb m e b cf nb' cd' n xs := ⟨_, rfl⟩
  rw [← hQ]
  obtain ⟨fd, hfd⟩ : ∃ fd : Nat → Bool, fd = fun c => decide (nb c ≠ -1) := ⟨_, rfl⟩
  have hfd1 : ∀ c, fd c = true ↔ nb c ≠ -1 := fun c => by rw [hfd]; exact decide_eq_true_iff
  have hfd0 : ∀ c, fd c = false ↔ nb c = -1 := fun c => by rw [hfd]; simp
  have hcn := fdOf ha hcf hT fd (fun c _ => hfd1 c)
  have hn := hT.le ha hcf
  have nbr : ∀ c, c < 256 → -1 ≤ nb c ∧ nb c ≤ 256 := fun c hc => by
    rcases hT.2 _ hc with q | ⟨k, q1, q2, -⟩
    · omega
    · omega
  have H : ∀ c : Nat, c ≤ 256 → ∀ cdc : Nat → Int, (∀ d, d < c → fd d = true → cdc (cntF fd d) = d) → PX0_numberStates Q NX 4 [some (.ref o), some (.int (iI (cntF fd c))), some (.int (iI c))] [] (W3 σ o m e b (fun j => if j < c then (if fd j = true then (cntF fd j : Int) else -1) else nb j) cdc n) 0 0 := by
    refine up_to 256 ?_ ?_
    · intro cdc hcd
      refine z_iload_n dX0_numberStates_4 rfl ?_
      refine i_sipush dX0_numberStates_5 (by decide) ?_
      refine i_icmp_ge (tgt := 44) dX0_numberStates_8 (by decide) (by omega) (by omega) (fun h1 => ?_) (fun h1 => ?_)
      · skip
        refine z_arrI (fun j => if fd j = true then (cntF fd j : Int) else -1) W3_3 (fun j hj => by rw [if_pos hj]) ?_
        rw [W3_s3]
        refine z_vret dX0_numberStates_44 rfl (by decide) (by decide) ?_
        rw [hQ]
        have key : ∀ k, ∃ x : St, k < n → Rch m e b cf x ∧ fd (cdN x) = true ∧ cntF fd (cdN x) = k ∧ cdN x < 256 := fun k => by
          by_cases hk : k < n
          · obtain ⟨c, c1, c2, c3⟩ := cnt_inv fd 256 k (by omega)
            obtain ⟨z, z1, z2, z3⟩ := (hT.2 c c1).resolve_left ((hfd1 c).mp c2)
            obtain ⟨x, x1, x2, x3⟩ := hT.1 z z1
            have : cdN x = c := by omega
            exact ⟨x, fun _ => ⟨x1, by rw [this]; exact c2, by rw [this]; exact c3, by omega⟩⟩
          · exact ⟨(false, 0, false), fun q => absurd q hk⟩
        refine ⟨_, cdc, fun k => Classical.choose (key k), rfl, rfl, fun k hk => ?_, fun x hx => ?_, fun i j hij hj => ?_, hn⟩
        · obtain ⟨a1, a2, a3, a4⟩ := Classical.choose_spec (key k) hk
          refine ⟨a1, ?_, ?_⟩
          · have := hcd _ a4 a2
            rw [a3] at this
            exact this
          · show (if fd (cdN (Classical.choose (key k))) = true then (cntF fd (cdN (Classical.choose (key k))) : Int) else -1) = k
            rw [if_pos a2, a3]
        · have l := cdN_lt (okM_rg ha (Rch_ok ha hcf hx))
          have f := (hfd1 _).mpr (hall x hx)
          have hk : cntF fd (cdN x) < n := by rw [← hcn]; exact cnt_lt f l
          obtain ⟨a1, a2, a3, a4⟩ := Classical.choose_spec (key (cntF fd (cdN x))) hk
          exact ⟨cntF fd (cdN x), hk, cdN_inj (okM_rg ha (Rch_ok ha hcf hx)) (okM_rg ha (Rch_ok ha hcf a1)) (cnt_inj f a2 a3.symm)⟩
        · obtain ⟨a1, a2, a3, a4⟩ := Classical.choose_spec (key i) (by omega)
          obtain ⟨b1, b2, b3, b4⟩ := Classical.choose_spec (key j) hj
          show cdN (Classical.choose (key i)) < cdN (Classical.choose (key j))
          rcases Nat.lt_or_ge (cdN (Classical.choose (key i))) (cdN (Classical.choose (key j))) with q | q
          · exact q
          · have := cnt_mono fd _ _ q
            omega
      · skip
        omega
    · intro c hc ih cdc hcd
      have hcl := cnt_le fd c
      have := nbr c hc
      refine z_iload_n dX0_numberStates_4 rfl ?_
      refine i_sipush dX0_numberStates_5 (by decide) ?_
      refine i_icmp_ge (tgt := 44) dX0_numberStates_8 (by decide) (by omega) (by omega) (fun h1 => ?_) (fun h1 => ?_)
      · skip
        omega
      · skip
        refine z_aload_n dX0_numberStates_11 rfl ?_
        refine z_getf cls0 5 flX0_20 dX0_numberStates_12 (by decide) (W3_o) rfl ?_
        refine z_iload_n dX0_numberStates_15 rfl ?_
        refine i_iald dX0_numberStates_16 (W3_3) c (by omega) (by omega) ?_
        refine i_iconst dX0_numberStates_17 rfl ?_
        rw [if_neg (Nat.lt_irrefl c)]
        refine i_icmp_eq (tgt := 38) dX0_numberStates_18 (by decide) (by omega) (by omega) (fun h2 => ?_) (fun h2 => ?_)
        · skip
          refine i_iinc dX0_numberStates_38 rfl (by decide) ?_
          refine z_goto (tgt := 4) dX0_numberStates_41 (by decide) ?_
          have f := (hfd0 c).mpr h2
          have ih := ih cdc (fun d hd hf => hcd d (by
            by_cases q : d = c
            · rw [q, f] at hf; cases hf
            · omega) hf)
          rw [cnt_f f] at ih
          refine z_arrI (fun j => if j < c + 1 then (if fd j = true then (cntF fd j : Int) else -1) else nb j) W3_3 (fun j hj => ?_) ?_
          · by_cases q : j < c
            · rw [if_pos q, if_pos (show j < c + 1 by omega)]
            · rw [if_neg q]
              by_cases q2 : j = c
              · rw [if_pos (by omega), q2, if_neg (by rw [f]; decide), h2]
              · rw [if_neg (by omega)]
          · rw [W3_s3]
            exact ih
        · skip
          have f := (hfd1 c).mpr h2
          refine z_aload_n dX0_numberStates_21 rfl ?_
          refine z_getf cls0 5 flX0_20 dX0_numberStates_22 (by decide) (W3_o) rfl ?_
          refine z_iload_n dX0_numberStates_25 rfl ?_
          refine z_iload_n dX0_numberStates_26 rfl ?_
          refine i_iast dX0_numberStates_27 (W3_3) c (by omega) (by omega) ?_
          rw [W3_s3]
          refine z_aload_n dX0_numberStates_28 rfl ?_
          refine z_getf cls0 4 flX0_17 dX0_numberStates_29 (by decide) (W3_o) rfl ?_
          refine z_iload_n dX0_numberStates_32 rfl ?_
          refine z_iload_n dX0_numberStates_33 rfl ?_
          refine i_iast dX0_numberStates_34 (W3_2) (cntF fd c) (by omega) (by omega) ?_
          rw [W3_s2]
          refine i_iinc dX0_numberStates_35 rfl (by decide) ?_
          refine i_iinc dX0_numberStates_38 rfl (by decide) ?_
          refine z_goto (tgt := 4) dX0_numberStates_41 (by decide) ?_
          have ih := ih (va_up cdc (cntF fd c) c) (fun d hd hf => by
            by_cases q : d = c
            · rw [q, va_up_self]
            · have h9 : d < c := by omega
              have := cnt_lt hf h9
              rw [va_up_ne _ _ (by omega)]
              exact hcd d h9 hf)
          rw [cnt_t f] at ih
          refine z_arrI (fun j => if j < c + 1 then (if fd j = true then (cntF fd j : Int) else -1) else nb j) W3_3 (fun j hj => ?_) ?_
          · by_cases q2 : j = c
            · rw [q2, va_up_self, if_pos (by omega), if_pos f]
            · rw [va_up_ne _ _ q2]
              by_cases q : j < c
              · rw [if_pos q, if_pos (show j < c + 1 by omega)]
              · rw [if_neg q, if_neg (by omega)]
          · rw [W3_s3]
            exact ih
  refine i_iconst dX0_numberStates_0 rfl ?_
  refine z_istore_n dX0_numberStates_1 (by decide) ?_
  refine i_iconst dX0_numberStates_2 rfl ?_
  refine z_istore_n dX0_numberStates_3 (by decide) ?_
  have h0 := H 0 (by omega) cd (fun d hd => absurd hd (Nat.not_lt_zero d))
  rw [up_step0 (fun j => if fd j = true then (cntF fd j : Int) else -1) nb] at h0
  exact h0

