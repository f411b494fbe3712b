theorem k_firstOfRule (σ : Wd) (o : Nat) (m e b : Int) (fr : Nat → Int) (n k i : Nat) (Ru : Nat → Nat → Bool) (hn : n ≤ 256) (hfr : ∀ j, j ≤ n → fr j = ((rsum Ru n j : Nat) : Int)) (hi : i < n) (h1 : rsum Ru n i ≤ k) (h2 : k < rsum Ru n (i + 1)) (hA : σ o = some (obA o m e b n)) (hF : σ (o + 4) = some (AI 257 fr)) : KX0_firstOfRule [.ref o, .int (iI k)] σ (Rt (some (.int (iI i))) σ) NX := by
  refine Ct.intro (by decide) (Nat.le_of_ble_eq_true rfl) ?_
  have hb : ∀ j, j ≤ n → rsum Ru n j ≤ 65536 := fun j hj => by
    have a := rsum_le Ru n j
    have c : n * j ≤ 256 * 256 := Nat.mul_le_mul hn (by omega)
    omega
  have hk := hb (i + 1) (by omega)
  have H : ∀ x : Nat, x ≤ i → PX0_firstOfRule (Rt (some (.int (iI i))) σ) NX 2 [some (.ref o), some (.int (iI k)), some (.int (iI x))] [] σ 0 0 := by
    refine up_to i ?_ ?_
    · skip
      refine z_iload_n dX0_firstOfRule_2 rfl ?_
      refine z_aload_n dX0_firstOfRule_3 rfl ?_
      refine z_getf cls0 7 flX0_87 dX0_firstOfRule_4 (by decide) (hA) rfl ?_
      refine i_iconst dX0_firstOfRule_7 rfl ?_
      refine i_isub dX0_firstOfRule_8 ?_
      refine i_icmp_ge (tgt := 30) dX0_firstOfRule_9 (by decide) (by omega) (by omega) (fun h3 => ?_) (fun h3 => ?_)
      · skip
        refine z_iload_n dX0_firstOfRule_30 rfl ?_
        exact i_iret dX0_firstOfRule_31 rfl (by decide) (by decide) rfl
      · skip
        refine z_aload_n dX0_firstOfRule_12 rfl ?_
        refine z_getf cls0 6 flX0_23 dX0_firstOfRule_13 (by decide) (hA) rfl ?_
        refine z_iload_n dX0_firstOfRule_16 rfl ?_
        refine i_iconst dX0_firstOfRule_17 rfl ?_
        refine i_iadd dX0_firstOfRule_18 ?_
        refine i_iald dX0_firstOfRule_19 (hF) (i + 1) (by omega) (by omega) ?_
        rw [hfr (i + 1) (by omega)]
        refine z_iload_n dX0_firstOfRule_20 rfl ?_
        refine i_icmp_gt (tgt := 30) dX0_firstOfRule_21 (by decide) (by omega) (by omega) (fun h4 => ?_) (fun h4 => ?_)
        · skip
          refine z_iload_n dX0_firstOfRule_30 rfl ?_
          exact i_iret dX0_firstOfRule_31 rfl (by decide) (by decide) rfl
        · skip
          omega
    · intro x hx ih
      have hm := rsum_mono Ru n (x + 1) i (by omega)
      refine z_iload_n dX0_firstOfRule_2 rfl ?_
      refine z_aload_n dX0_firstOfRule_3 rfl ?_
      refine z_getf cls0 7 flX0_87 dX0_firstOfRule_4 (by decide) (hA) rfl ?_
      refine i_iconst dX0_firstOfRule_7 rfl ?_
      refine i_isub dX0_firstOfRule_8 ?_
      refine i_icmp_ge (tgt := 30) dX0_firstOfRule_9 (by decide) (by omega) (by omega) (fun h3 => ?_) (fun h3 => ?_)
      · skip
        omega
      · skip
        refine z_aload_n dX0_firstOfRule_12 rfl ?_
        refine z_getf cls0 6 flX0_23 dX0_firstOfRule_13 (by decide) (hA) rfl ?_
        refine z_iload_n dX0_firstOfRule_16 rfl ?_
        refine i_iconst dX0_firstOfRule_17 rfl ?_
        refine i_iadd dX0_firstOfRule_18 ?_
        refine i_iald dX0_firstOfRule_19 (hF) (x + 1) (by omega) (by omega) ?_
        rw [hfr (x + 1) (by omega)]
        refine z_iload_n dX0_firstOfRule_20 rfl ?_
        refine i_icmp_gt (tgt := 30) dX0_firstOfRule_21 (by decide) (by omega) (by omega) (fun h4 => ?_) (fun h4 => ?_)
        · skip
          omega
        · skip
          refine i_iinc dX0_firstOfRule_24 rfl (by decide) ?_
          refine z_goto (tgt := 2) dX0_firstOfRule_27 (by decide) ?_
          exact ih
  refine i_iconst dX0_firstOfRule_0 rfl ?_
  refine z_istore_n dX0_firstOfRule_1 (by decide) ?_
  exact H 0 (by omega)
theorem k_secondOfRule (σ : Wd) (o : Nat) (m e b : Int) (cd fr : Nat → Int) (n k i j : Nat) (xs : Nat → St) (ha : okA m e b) (hn : n ≤ 256) (hx : ∀ k, k < n → okM m b (xs k) ∧ cd k = cdN (xs k)) (hfr : ∀ j, j ≤ n → fr j = ((rsum (fun i j => ruB m e b (xs i) (xs j)) n j : Nat) : Int)) (hi : i < n) (hj : j < n) (hr : ruB m e b (xs i) (xs j) = true) (h1 : rsum (fun i j => ruB m e b (xs i) (xs j)) n i + cntF (fun j => ruB m e b (xs i) (xs j)) j = k) (hA : σ o = some (obA o m e b n)) (hD : σ (o + 2) = some (AI 256 cd)) (hF : σ (o + 4) = some (AI 257 fr)) : KX0_secondOfRule [.ref o, .int (iI k), .int (iI i)] σ (Rt (some (.int (iI j))) σ) NX := by
  refine Ct.intro (by decide) (Nat.le_of_ble_eq_true rfl) ?_
  obtain ⟨Ru, hRu⟩ : ∃ Ru : Nat → Nat → Bool, Ru = fun i j => ruB m e b (xs i) (xs j) := ⟨_, rfl⟩
  have hRi : (fun j => ruB m e b (xs i) (xs j)) = Ru i := by rw [hRu]
  rw [hRi, ← hRu] at h1
  rw [← hRu] at hfr
  have hb : rsum Ru n i ≤ 65536 := by
    have a := rsum_le Ru n i
    have c : n * i ≤ 256 * 256 := Nat.mul_le_mul hn (by omega)
    omega
  have hcj := cnt_le (Ru i) j
  have H : ∀ y : Nat, y ≤ j → PX0_secondOfRule (Rt (some (.int (iI j))) σ) NX 10 [some (.ref o), some (.int (iI k)), some (.int (iI i)), some (.int (iI (rsum Ru n i + cntF (Ru i) y : Nat))), some (.int (iI y))] [] σ 0 0 := by
    have step : ∀ y, y ≤ j → (Ru i y = true → rsum Ru n i + cntF (Ru i) y = k → y = j) := fun y hy hry hs => by
      refine cnt_inj hry (by rw [← hRi]; exact hr) (by omega)
    refine up_to j ?_ ?_
    · skip
      refine z_iload dX0_secondOfRule_10 rfl ?_
      refine z_aload_n dX0_secondOfRule_12 rfl ?_
      refine z_getf cls0 7 flX0_87 dX0_secondOfRule_13 (by decide) (hA) rfl ?_
      refine i_icmp_ge (tgt := 46) dX0_secondOfRule_16 (by decide) (by omega) (by omega) (fun h3 => ?_) (fun h3 => ?_)
      · skip
        omega
      · skip
        refine z_aload_n dX0_secondOfRule_19 rfl ?_
        refine z_iload_n dX0_secondOfRule_20 rfl ?_
        refine z_iload dX0_secondOfRule_21 rfl ?_
        refine i_cVr (k_isRule σ o m e b n cd i j (xs i) (xs j) ha (hx i hi).1 (hx j hj).1 (by omega) (by omega) (hx i hi).2 (hx j hj).2 hA hD) mX0_109 dX0_secondOfRule_23 (hA) rfl rfl rfl ⟨by decide, by decide⟩ (Nat.le_of_ble_eq_true rfl) ⟨by decide, by decide⟩ ?_
        rw [hr]
        refine i_ifb_eq (tgt := 40) dX0_secondOfRule_26 (by decide) (fun h4 => ?_) (fun h4 => ?_)
        · skip
          cases h4
        · skip
          refine z_iload_n dX0_secondOfRule_29 rfl ?_
          refine z_iload_n dX0_secondOfRule_30 rfl ?_
          refine i_icmp_ne (tgt := 37) dX0_secondOfRule_31 (by decide) (by omega) (by omega) (fun h5 => ?_) (fun h5 => ?_)
          · skip
            omega
          · skip
            refine z_iload dX0_secondOfRule_34 rfl ?_
            exact i_iret dX0_secondOfRule_36 rfl (by decide) (by decide) rfl
    · intro y hy ih
      have hcy := cnt_le (Ru i) y
      refine z_iload dX0_secondOfRule_10 rfl ?_
      refine z_aload_n dX0_secondOfRule_12 rfl ?_
      refine z_getf cls0 7 flX0_87 dX0_secondOfRule_13 (by decide) (hA) rfl ?_
      refine i_icmp_ge (tgt := 46) dX0_secondOfRule_16 (by decide) (by omega) (by omega) (fun h3 => ?_) (fun h3 => ?_)
      · skip
        omega
      · skip
        refine z_aload_n dX0_secondOfRule_19 rfl ?_
        refine z_iload_n dX0_secondOfRule_20 rfl ?_
        refine z_iload dX0_secondOfRule_21 rfl ?_
        refine i_cVr (k_isRule σ o m e b n cd i y (xs i) (xs y) ha (hx i hi).1 (hx y (by omega)).1 (by omega) (by omega) (hx i hi).2 (hx y (by omega)).2 hA hD) mX0_109 dX0_secondOfRule_23 (hA) rfl rfl rfl ⟨by decide, by decide⟩ (Nat.le_of_ble_eq_true rfl) ⟨by decide, by decide⟩ ?_
        have hRy : Ru i y = ruB m e b (xs i) (xs y) := by rw [hRu]
        rw [← hRy]
        refine i_ifb_eq (tgt := 40) dX0_secondOfRule_26 (by decide) (fun h4 => ?_) (fun h4 => ?_)
        · skip
          refine i_iinc dX0_secondOfRule_40 rfl (by decide) ?_
          refine z_goto (tgt := 10) dX0_secondOfRule_43 (by decide) ?_
          rw [cnt_f h4] at ih
          exact ih
        · skip
          have hc := cnt_lt h4 hy
          refine z_iload_n dX0_secondOfRule_29 rfl ?_
          refine z_iload_n dX0_secondOfRule_30 rfl ?_
          refine i_icmp_ne (tgt := 37) dX0_secondOfRule_31 (by decide) (by omega) (by omega) (fun h5 => ?_) (fun h5 => ?_)
          · skip
            refine i_iinc dX0_secondOfRule_37 rfl (by decide) ?_
            refine i_iinc dX0_secondOfRule_40 rfl (by decide) ?_
            refine z_goto (tgt := 10) dX0_secondOfRule_43 (by decide) ?_
            rw [cnt_t h4, ← Nat.add_assoc] at ih
            exact ih
          · skip
            omega
  refine z_aload_n dX0_secondOfRule_0 rfl ?_
  refine z_getf cls0 6 flX0_23 dX0_secondOfRule_1 (by decide) (hA) rfl ?_
  refine z_iload_n dX0_secondOfRule_4 rfl ?_
  refine i_iald dX0_secondOfRule_5 (hF) i (by omega) (by omega) ?_
  rw [hfr i (by omega)]
  refine z_istore_n dX0_secondOfRule_6 (by decide) ?_
  refine i_iconst dX0_secondOfRule_7 rfl ?_
  refine z_istore dX0_secondOfRule_8 (by decide) ?_
  exact H 0 (by omega)
theorem Tb_inj {m e b : Int} {cf nb cd : Nat → Int} {n i j : Nat} {xs : Nat → St} (h : Tb m e b cf nb cd n xs) (hi : i < n) (hj : j < n) (e1 : xs i = xs j) : i = j := by
  have a := (h.1 i hi).2.2
  have c := (h.1 j hj).2.2
  rw [e1, c] at a
  omega
/-- what rule (i, j) tells: i, j, the numbers p, q of what they become -/
theorem k_ruleFact (σ : Wd) (o : Nat) (m e b : Int) (cf nb cd fr : Nat → Int) (n k i j p q : Nat) (xs : Nat → St) (wh : Int) (ha : okA m e b) (hcf : ∀ l, l < 8 → -b ≤ cf l ∧ cf l ≤ b) (ht : TbR m e b cf nb cd fr n xs) (hi : i < n) (hj : j < n) (hr : ruB m e b (xs i) (xs j) = true) (h1 : rsum (fun i j => ruB m e b (xs i) (xs j)) n i + cntF (fun j => ruB m e b (xs i) (xs j)) j = k) (hp : p < n) (hq : q < n) (hp1 : (mt m e b (xs i) (xs j)).1 = xs p) (hq1 : (mt m e b (xs i) (xs j)).2 = xs q) (hw : 0 ≤ wh ∧ wh < 4) (hA : σ o = some (obA o m e b n)) (hD : σ (o + 2) = some (AI 256 cd)) (hB : σ (o + 3) = some (AI 256 nb)) (hF : σ (o + 4) = some (AI 257 fr)) :
    KX0_ruleFact [.ref o, .int (iI k), .int (iI wh)] σ (Rt (some (.int (iI (if wh = 0 then (i : Int) else if wh = 1 then (j : Int) else if wh = 2 then (p : Int) else (q : Int))))) σ) NX := by
  refine Ct.intro (by decide) (Nat.le_of_ble_eq_true rfl) ?_
  have hn := ht.1.2.2.2
  have hx : ∀ k, k < n → okM m b (xs k) ∧ cd k = cdN (xs k) := fun k hk => ⟨Rch_ok ha hcf (ht.1.1 k hk).1, (ht.1.1 k hk).2.1⟩
  have hlt : k < rsum (fun i j => ruB m e b (xs i) (xs j)) n (i + 1) := by
    show k < rsum (fun i j => ruB m e b (xs i) (xs j)) n i + cntF (fun j => ruB m e b (xs i) (xs j)) n
    have := cnt_lt (fd := fun j => ruB m e b (xs i) (xs j)) hr hj
    omega
  have lp := cdN_lt (okM_rg ha (hx p hp).1)
  have lq := cdN_lt (okM_rg ha (hx q hq).1)
  refine z_aload_n dX0_ruleFact_0 rfl ?_
  refine z_iload_n dX0_ruleFact_1 rfl ?_
  refine i_cVr (k_firstOfRule σ o m e b fr n k i _ hn ht.2 hi (by omega) hlt hA hF) mX0_113 dX0_ruleFact_2 (hA) rfl rfl rfl ⟨by decide, by decide⟩ (Nat.le_of_ble_eq_true rfl) ⟨by decide, by decide⟩ ?_
  refine z_istore_n dX0_ruleFact_5 (by decide) ?_
  refine z_aload_n dX0_ruleFact_6 rfl ?_
  refine z_iload_n dX0_ruleFact_7 rfl ?_
  refine z_iload_n dX0_ruleFact_8 rfl ?_
  refine i_cVr (k_secondOfRule σ o m e b cd fr n k i j xs ha hn hx ht.2 hi hj hr h1 hA hD hF) mX0_116 dX0_ruleFact_9 (hA) rfl rfl rfl ⟨by decide, by decide⟩ (Nat.le_of_ble_eq_true rfl) ⟨by decide, by decide⟩ ?_
  refine z_istore dX0_ruleFact_12 (by decide) ?_
  refine z_iload_n dX0_ruleFact_14 rfl ?_
  refine i_if_ne (tgt := 20) dX0_ruleFact_15 (by decide) (by omega) (fun h2 => ?_) (fun h2 => ?_)
  · skip
    rw [if_neg h2]
    refine z_iload_n dX0_ruleFact_20 rfl ?_
    refine i_iconst dX0_ruleFact_21 rfl ?_
    refine i_icmp_ne (tgt := 28) dX0_ruleFact_22 (by decide) (by omega) (by omega) (fun h3 => ?_) (fun h3 => ?_)
    · skip
      rw [if_neg h3]
      refine z_aload_n dX0_ruleFact_28 rfl ?_
      refine z_aload_n dX0_ruleFact_29 rfl ?_
      refine z_getf cls0 4 flX0_17 dX0_ruleFact_30 (by decide) (hA) rfl ?_
      refine z_iload_n dX0_ruleFact_33 rfl ?_
      refine i_iald dX0_ruleFact_34 (hD) i (by omega) (by omega) ?_
      refine z_aload_n dX0_ruleFact_35 rfl ?_
      refine z_getf cls0 4 flX0_17 dX0_ruleFact_36 (by decide) (hA) rfl ?_
      refine z_iload dX0_ruleFact_39 rfl ?_
      refine i_iald dX0_ruleFact_41 (hD) j (by omega) (by omega) ?_
      rw [(hx i hi).2, (hx j hj).2]
      refine i_cVr (k_afterMeeting o m e b n (xs i) (xs j) ha (hx i hi).1 (hx j hj).1 σ hA) mX0_97 dX0_ruleFact_42 (hA) rfl rfl rfl ⟨by decide, by decide⟩ (Nat.le_of_ble_eq_true rfl) ⟨by decide, by decide⟩ ?_
      rw [hp1, hq1]
      refine z_istore dX0_ruleFact_45 (by decide) ?_
      refine z_aload_n dX0_ruleFact_47 rfl ?_
      refine z_getf cls0 5 flX0_20 dX0_ruleFact_48 (by decide) (hA) rfl ?_
      refine z_iload_n dX0_ruleFact_51 rfl ?_
      refine i_iconst dX0_ruleFact_52 rfl ?_
      refine i_icmp_ne (tgt := 64) dX0_ruleFact_53 (by decide) (by omega) (by omega) (fun h4 => ?_) (fun h4 => ?_)
      · skip
        rw [if_neg h4]
        refine z_iload dX0_ruleFact_64 rfl ?_
        refine i_cSr (k_X1_second (cdN (xs p) * 256 + cdN (xs q)) (by omega) σ) mX0_106 dX0_ruleFact_66 rfl rfl ⟨by decide, by decide⟩ (Nat.le_of_ble_eq_true rfl) ⟨by decide, by decide⟩ ?_
        rw [show (cdN (xs p) * 256 + cdN (xs q)) % 256 = cdN (xs q) by omega]
        refine i_iald dX0_ruleFact_69 (hB) (cdN (xs q)) (by omega) (by omega) ?_
        rw [(ht.1.1 q hq).2.2]
        exact i_iret dX0_ruleFact_70 rfl (by decide) (by decide) rfl
      · skip
        rw [if_pos h4]
        refine z_iload dX0_ruleFact_56 rfl ?_
        refine i_cSr (k_X1_first (cdN (xs p) * 256 + cdN (xs q)) (by omega) σ) mX0_103 dX0_ruleFact_58 rfl rfl ⟨by decide, by decide⟩ (Nat.le_of_ble_eq_true rfl) ⟨by decide, by decide⟩ ?_
        refine z_goto (tgt := 69) dX0_ruleFact_61 (by decide) ?_
        rw [show (cdN (xs p) * 256 + cdN (xs q)) / 256 = cdN (xs p) by omega]
        refine i_iald dX0_ruleFact_69 (hB) (cdN (xs p)) (by omega) (by omega) ?_
        rw [(ht.1.1 p hp).2.2]
        exact i_iret dX0_ruleFact_70 rfl (by decide) (by decide) rfl
    · skip
      rw [if_pos h3]
      refine z_iload dX0_ruleFact_25 rfl ?_
      exact i_iret dX0_ruleFact_27 rfl (by decide) (by decide) rfl
  · skip
    rw [if_pos h2]
    refine z_iload_n dX0_ruleFact_18 rfl ?_
    exact i_iret dX0_ruleFact_19 rfl (by decide) (by decide) rfl

