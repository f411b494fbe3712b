def ruB (m e b : Int) (X Y : St) : Bool := decide (mt m e b X Y ≠ (X, Y))
/-- rules of the first i rows -/
def rsum (Ru : Nat → Nat → Bool) (n : Nat) : Nat → Nat
  | 0 => 0
  | i + 1 => rsum Ru n i + cntF (Ru i) n
theorem rsum_le (Ru : Nat → Nat → Bool) (n : Nat) : ∀ i, rsum Ru n i ≤ n * i
  | 0 => Nat.le_refl _
  | i + 1 => by
    have := rsum_le Ru n i
    have := cnt_le (Ru i) n
    show rsum Ru n i + cntF (Ru i) n ≤ n * (i + 1)
    rw [Nat.mul_succ]
    omega
theorem rsum_mono (Ru : Nat → Nat → Bool) (n : Nat) : ∀ i j, i ≤ j → rsum Ru n i ≤ rsum Ru n j
  | i, 0, h => by have : i = 0 := by omega
                  subst this; exact Nat.le_refl _
  | i, j + 1, h => by
    by_cases q : i = j + 1
    · rw [q]; exact Nat.le_refl _
    · have := rsum_mono Ru n i j (by omega)
      show rsum Ru n i ≤ rsum Ru n j + _
      omega
theorem k_isRule (σ : Wd) (o : Nat) (m e b s : Int) (cd : Nat → Int) (i j : Nat) (X Y : St) (ha : okA m e b) (hX : okM m b X) (hY : okM m b Y) (hi : i < 256) (hj : j < 256) (h1 : cd i = cdN X) (h2 : cd j = cdN Y) (hA : σ o = some (obA o m e b s)) (hD : σ (o + 2) = some (AI 256 cd)) : KX0_isRule [.ref o, .int (iI i), .int (iI j)] σ (Rt (some (.int (iI (bI (ruB m e b X Y))))) σ) NX := by
  refine Ct.intro (by decide) (Nat.le_of_ble_eq_true rfl) ?_
  have rX := okM_rg ha hX
  have rY := okM_rg ha hY
  have lX := cdN_lt rX
  have lY := cdN_lt rY
  have om := mt_ok ha hX hY
  have r1 := okM_rg ha om.1
  have r2 := okM_rg ha om.2
  have l1 := cdN_lt r1
  have l2 := cdN_lt r2
  refine z_aload_n dX0_isRule_0 rfl ?_
  refine z_aload_n dX0_isRule_1 rfl ?_
  refine z_getf cls0 4 flX0_17 dX0_isRule_2 (by decide) (hA) rfl ?_
  refine z_iload_n dX0_isRule_5 rfl ?_
  refine i_iald dX0_isRule_6 (hD) i (by omega) (by omega) ?_
  refine z_aload_n dX0_isRule_7 rfl ?_
  refine z_getf cls0 4 flX0_17 dX0_isRule_8 (by decide) (hA) rfl ?_
  refine z_iload_n dX0_isRule_11 rfl ?_
  refine i_iald dX0_isRule_12 (hD) j (by omega) (by omega) ?_
  rw [h1, h2]
  refine i_cVr (k_afterMeeting o m e b s X Y ha hX hY σ hA) mX0_97 dX0_isRule_13 (hA) rfl rfl rfl ⟨by decide, by decide⟩ (Nat.le_of_ble_eq_true rfl) ⟨by decide, by decide⟩ ?_
  refine z_aload_n dX0_isRule_16 rfl ?_
  refine z_getf cls0 4 flX0_17 dX0_isRule_17 (by decide) (hA) rfl ?_
  refine z_iload_n dX0_isRule_20 rfl ?_
  refine i_iald dX0_isRule_21 (hD) i (by omega) (by omega) ?_
  refine z_aload_n dX0_isRule_22 rfl ?_
  refine z_getf cls0 4 flX0_17 dX0_isRule_23 (by decide) (hA) rfl ?_
  refine z_iload_n dX0_isRule_26 rfl ?_
  refine i_iald dX0_isRule_27 (hD) j (by omega) (by omega) ?_
  rw [h1, h2]
  refine i_cSr (k_X1_pair _ _ lX lY σ) mX0_60 dX0_isRule_28 rfl rfl ⟨by decide, by decide⟩ (Nat.le_of_ble_eq_true rfl) ⟨by decide, by decide⟩ ?_
  refine i_icmp_eq (tgt := 38) dX0_isRule_31 (by decide) (by omega) (by omega) (fun h9 => ?_) (fun h9 => ?_)
  · skip
    refine i_iconst dX0_isRule_38 rfl ?_
    have e1 : (mt m e b X Y).1 = X := cdN_inj r1 rX (by omega)
    have e2 : (mt m e b X Y).2 = Y := cdN_inj r2 rY (by omega)
    exact i_rf dX0_isRule_39 rfl (by decide) (by decide) (decide_eq_false (fun q => q (Prod.ext e1 e2))) rfl
  · skip
    refine i_iconst dX0_isRule_34 rfl ?_
    refine z_goto (tgt := 39) dX0_isRule_35 (by decide) ?_
    exact i_rt dX0_isRule_39 rfl (by decide) (by decide) (decide_eq_true (fun q => h9 (by rw [q]))) rfl
theorem k_countRules (σ : Wd) (o : Nat) (m e b : Int) (cd fr0 : Nat → Int) (n : Nat) (xs : Nat → St) (ha : okA m e b) (hn : n ≤ 256) (hx : ∀ k, k < n → okM m b (xs k) ∧ cd k = cdN (xs k)) (hA : σ o = some (obA o m e b n)) (hD : σ (o + 2) = some (AI 256 cd)) (hF : σ (o + 4) = some (AI 257 fr0)) :
    KX0_countRules [.ref o] σ (Rt none (up σ (o + 4) (AI 257 (fun j => if j < n + 1 then ((rsum (fun i j => ruB m e b (xs i) (xs j)) n j : Nat) : Int) else fr0 j)))) NX := by
  refine Ct.intro (by decide) (Nat.le_of_ble_eq_true rfl) ?_
  obtain ⟨Ru, hRu⟩ : ∃ Ru : Nat → Nat → Bool, Ru = fun i j => ruB m e b (xs i) (xs j) := ⟨_, rfl⟩
  rw [← hRu]
  obtain ⟨Q, hQ⟩ : ∃ Q, Q = Rt none (up σ (o + 4) (AI 257 (fun j => if j < n + 1 then ((rsum Ru n j : Nat) : Int) else fr0 j))) := ⟨_, rfl⟩
  rw [← hQ]
  have H : ∀ x : Nat, x ≤ n → ∀ o2 o3 : Option Value, PX0_countRules Q NX 9 [some (.ref o), some (.int (iI x)), o2, o3] [] (up σ (o + 4) (AI 257 (fun j => if j < x + 1 then ((rsum Ru n j : Nat) : Int) else fr0 j))) 0 0 := by
    refine up_to n ?_ ?_
    · intro o2 o3
      refine z_iload_n dX0_countRules_9 rfl ?_
      refine z_aload_n dX0_countRules_10 rfl ?_
      refine z_getf cls0 7 flX0_87 dX0_countRules_11 (by decide) ((up_ne _ _ (by omega)).trans hA) rfl ?_
      refine i_icmp_ge (tgt := 69) dX0_countRules_14 (by decide) (by omega) (by omega) (fun h1 => ?_) (fun h1 => ?_)
      · skip
        rw [hQ]
        exact i_vret dX0_countRules_69 rfl (by decide) (by decide) rfl
      · skip
        omega
    · intro x hx9 ih o2 o3
      have hrs := rsum_le Ru n x
      have hrs2 : n * x ≤ 256 * 256 := Nat.mul_le_mul hn (by omega)
      refine z_iload_n dX0_countRules_9 rfl ?_
      refine z_aload_n dX0_countRules_10 rfl ?_
      refine z_getf cls0 7 flX0_87 dX0_countRules_11 (by decide) ((up_ne _ _ (by omega)).trans hA) rfl ?_
      refine i_icmp_ge (tgt := 69) dX0_countRules_14 (by decide) (by omega) (by omega) (fun h1 => ?_) (fun h1 => ?_)
      · skip
        omega
      · skip
        refine i_iconst dX0_countRules_17 rfl ?_
        refine z_istore_n dX0_countRules_18 (by decide) ?_
        refine i_iconst dX0_countRules_19 rfl ?_
        refine z_istore_n dX0_countRules_20 (by decide) ?_
        have H2 : ∀ y : Nat, y ≤ n → PX0_countRules Q NX 21 [some (.ref o), some (.int (iI x)), some (.int (iI (cntF (Ru x) y))), some (.int (iI y))] [] (up σ (o + 4) (AI 257 (fun j => if j < x + 1 then ((rsum Ru n j : Nat) : Int) else fr0 j))) 0 0 := by
          refine up_to n ?_ ?_
          · skip
            refine z_iload_n dX0_countRules_21 rfl ?_
            refine z_aload_n dX0_countRules_22 rfl ?_
            refine z_getf cls0 7 flX0_87 dX0_countRules_23 (by decide) ((up_ne _ _ (by omega)).trans hA) rfl ?_
            refine i_icmp_ge (tgt := 47) dX0_countRules_26 (by decide) (by omega) (by omega) (fun h2 => ?_) (fun h2 => ?_)
            · skip
              refine z_aload_n dX0_countRules_47 rfl ?_
              refine z_getf cls0 6 flX0_23 dX0_countRules_48 (by decide) ((up_ne _ _ (by omega)).trans hA) rfl ?_
              refine z_iload_n dX0_countRules_51 rfl ?_
              refine i_iconst dX0_countRules_52 rfl ?_
              refine i_iadd dX0_countRules_53 ?_
              refine z_aload_n dX0_countRules_54 rfl ?_
              refine z_getf cls0 6 flX0_23 dX0_countRules_55 (by decide) ((up_ne _ _ (by omega)).trans hA) rfl ?_
              refine z_iload_n dX0_countRules_58 rfl ?_
              refine i_iald dX0_countRules_59 (up_self _ _ _) x (by omega) (by omega) ?_
              refine z_iload_n dX0_countRules_60 rfl ?_
              refine i_iadd dX0_countRules_61 ?_
              refine i_iast dX0_countRules_62 (up_self _ _ _) (x + 1) (by omega) (by omega) ?_
              rw [if_pos (by omega), up_up]
              have e9 : ((rsum Ru n x : Nat) : Int) + ((cntF (Ru x) n : Nat) : Int) = ((rsum Ru n (x + 1) : Nat) : Int) := by
                show _ = ((rsum Ru n x + cntF (Ru x) n : Nat) : Int)
                omega
              rw [e9, up_step (fun j => ((rsum Ru n j : Nat) : Int)) fr0 (x + 1)]
              refine i_iinc dX0_countRules_63 rfl (by decide) ?_
              refine z_goto (tgt := 9) dX0_countRules_66 (by decide) ?_
              exact ih _ _
            · skip
              omega
          · intro y hy ihy
            have hcl := cnt_le (Ru x) y
            have := (hx x hx9)
            have := (hx y hy)
            refine z_iload_n dX0_countRules_21 rfl ?_
            refine z_aload_n dX0_countRules_22 rfl ?_
            refine z_getf cls0 7 flX0_87 dX0_countRules_23 (by decide) ((up_ne _ _ (by omega)).trans hA) rfl ?_
            refine i_icmp_ge (tgt := 47) dX0_countRules_26 (by decide) (by omega) (by omega) (fun h2 => ?_) (fun h2 => ?_)
            · skip
              omega
            · skip
              refine z_aload_n dX0_countRules_29 rfl ?_
              refine z_iload_n dX0_countRules_30 rfl ?_
              refine z_iload_n dX0_countRules_31 rfl ?_
              refine i_cVr (k_isRule _ o m e b n cd x y (xs x) (xs y) ha (hx x hx9).1 (hx y hy).1 (by omega) (by omega) (hx x hx9).2 (hx y hy).2 ((up_ne _ _ (by omega)).trans hA) ((up_ne _ _ (by omega)).trans hD)) mX0_109 dX0_countRules_32 ((up_ne _ _ (by omega)).trans hA) rfl rfl rfl ⟨by decide, by decide⟩ (Nat.le_of_ble_eq_true rfl) ⟨by decide, by decide⟩ ?_
              have hRxy : Ru x y = ruB m e b (xs x) (xs y) := by rw [hRu]
              rw [← hRxy]
              refine i_ifb_eq (tgt := 41) dX0_countRules_35 (by decide) (fun h3 => ?_) (fun h3 => ?_)
              · skip
                refine i_iinc dX0_countRules_41 rfl (by decide) ?_
                refine z_goto (tgt := 21) dX0_countRules_44 (by decide) ?_
                rw [cnt_f h3] at ihy
                exact ihy
              · skip
                refine i_iinc dX0_countRules_38 rfl (by decide) ?_
                refine i_iinc dX0_countRules_41 rfl (by decide) ?_
                refine z_goto (tgt := 21) dX0_countRules_44 (by decide) ?_
                rw [cnt_t h3] at ihy
                exact ihy
        exact H2 0 (by omega)
  refine z_aload_n dX0_countRules_0 rfl ?_
  refine z_getf cls0 6 flX0_23 dX0_countRules_1 (by decide) (hA) rfl ?_
  refine i_iconst dX0_countRules_4 rfl ?_
  refine i_iconst dX0_countRules_5 rfl ?_
  refine i_iast dX0_countRules_6 (hF) 0 (by omega) (by omega) ?_
  refine i_iconst dX0_countRules_7 rfl ?_
  refine z_istore_n dX0_countRules_8 (by decide) ?_
  have h0 := H 0 (by omega) none none
  refine z_eqw ?_ h0
  congr 1
  rw [show ((0 : Int)) = (fun j => ((rsum Ru n j : Nat) : Int)) 0 from rfl]
  have e1 := up_step (fun j => ((rsum Ru n j : Nat) : Int)) fr0 0
  rw [up_step0 (fun j => ((rsum Ru n j : Nat) : Int)) fr0] at e1
  rw [e1]
def W4 (σ : Wd) (o : Nat) (m e b : Int) (nb cd fr : Nat → Int) (n : Nat) : Wd := up (W3 σ o m e b nb cd n) (o + 4) (AI 257 fr)
def TbR (m e b : Int) (cf nb cd fr : Nat → Int) (n : Nat) (xs : Nat → St) : Prop := Tb m e b cf nb cd n xs ∧ ∀ j, j ≤ n → fr j = ((rsum (fun i j => ruB m e b (xs i) (xs j)) n j : Nat) : Int)
theorem k_makeTable (σ : Wd) (o : Nat) (m e b s0 : Int) (nb0 cd0 fr0 cf : Nat → Int) (ha : okA m e b) (hcf : ∀ l, l < 8 → -b ≤ cf l ∧ cf l ≤ b) (hcf2 : ∀ l, l < 8 → -20 ≤ cf l ∧ cf l ≤ 20) (hA : σ o = some (obA o m e b s0)) (hC : σ (o + 1) = some (AI 8 cf)) (h2 : σ (o + 2) = some (AI 256 cd0)) (h3 : σ (o + 3) = some (AI 256 nb0)) (h4 : σ (o + 4) = some (AI 257 fr0)) :
    KX0_makeTable [.ref o] σ (fun r u => ∃ nb cd fr n xs, r = none ∧ u = W4 σ o m e b nb cd fr n ∧ TbR m e b cf nb cd fr n xs) NX := by
  refine Ct.intro (by decide) (Nat.le_of_ble_eq_true rfl) ?_
  refine z_aload_n dX0_makeTable_0 rfl ?_
  refine z_callVX (k_findStates σ o m e b s0 nb0 cd0 cf ha hcf hcf2 hA hC h2 h3) mX0_72 dX0_makeTable_1 hA rfl rfl rfl ⟨by decide, by decide⟩ (Nat.le_of_ble_eq_true rfl) ⟨by decide, by decide⟩ (fun _ _ h => h.elim) (fun r u hq => ?_)
  obtain ⟨nb, cd, n, rfl, rfl, hT, hall⟩ := hq
  refine z_aload_n dX0_makeTable_4 rfl ?_
  refine z_callVX (k_numberStates σ o m e b cf nb cd n ha hcf hT hall) mX0_75 dX0_makeTable_5 W3_o rfl rfl rfl ⟨by decide, by decide⟩ (Nat.le_of_ble_eq_true rfl) ⟨by decide, by decide⟩ (fun _ _ h => h.elim) (fun r u hq => ?_)
  obtain ⟨nb', cd', xs, rfl, rfl, hTb⟩ := hq
  refine z_aload_n dX0_makeTable_8 rfl ?_
  refine i_cVv (k_countRules _ o m e b cd' fr0 n xs ha hTb.2.2.2 (fun k hk => ⟨Rch_ok ha hcf (hTb.1 k hk).1, (hTb.1 k hk).2.1⟩) W3_o W3_2 ((W3_x (by omega) (by omega) (by omega)).trans h4)) mX0_78 dX0_makeTable_9 (W3_o) rfl rfl rfl ⟨by decide, by decide⟩ (Nat.le_of_ble_eq_true rfl) ⟨by decide, by decide⟩ ?_
  exact z_vret dX0_makeTable_12 rfl (by decide) (by decide) ⟨nb', cd', _, n, xs, rfl, rfl, hTb, fun j hj => if_pos (by omega)⟩
theorem k_stateCount (σ : Wd) (o : Nat) (m e b s : Int) (hA : σ o = some (obA o m e b s)) : KX0_stateCount [.ref o] σ (Rt (some (.int (iI s))) σ) NX := by
  refine Ct.intro (by decide) (Nat.le_of_ble_eq_true rfl) ?_
  refine z_aload_n dX0_stateCount_0 rfl ?_
  refine z_getf cls0 7 flX0_87 dX0_stateCount_1 (by decide) (hA) rfl ?_
  exact i_iret dX0_stateCount_4 rfl (by decide) (by decide) rfl
theorem k_ruleCount (σ : Wd) (o : Nat) (m e b : Int) (n : Nat) (fr : Nat → Int) (hn : n ≤ 256) (hA : σ o = some (obA o m e b n)) (hF : σ (o + 4) = some (AI 257 fr)) : KX0_ruleCount [.ref o] σ (Rt (some (.int (iI (fr n)))) σ) NX := by
  refine Ct.intro (by decide) (Nat.le_of_ble_eq_true rfl) ?_
  refine z_aload_n dX0_ruleCount_0 rfl ?_
  refine z_getf cls0 6 flX0_23 dX0_ruleCount_1 (by decide) (hA) rfl ?_
  refine z_aload_n dX0_ruleCount_4 rfl ?_
  refine z_getf cls0 7 flX0_87 dX0_ruleCount_5 (by decide) (hA) rfl ?_
  refine i_iald dX0_ruleCount_8 (hF) n (by omega) (by omega) ?_
  exact i_iret dX0_ruleCount_9 rfl (by decide) (by decide) rfl
theorem k_codeOf (σ : Wd) (o : Nat) (m e b s : Int) (k : Nat) (cd : Nat → Int) (hk : k < 256) (hA : σ o = some (obA o m e b s)) (hD : σ (o + 2) = some (AI 256 cd)) : KX0_codeOf [.ref o, .int (iI k)] σ (Rt (some (.int (iI (cd k)))) σ) NX := by
  refine Ct.intro (by decide) (Nat.le_of_ble_eq_true rfl) ?_
  refine z_aload_n dX0_codeOf_0 rfl ?_
  refine z_getf cls0 4 flX0_17 dX0_codeOf_1 (by decide) (hA) rfl ?_
  refine z_iload_n dX0_codeOf_4 rfl ?_
  refine i_iald dX0_codeOf_5 (hD) k (by omega) (by omega) ?_
  exact i_iret dX0_codeOf_6 rfl (by decide) (by decide) rfl

