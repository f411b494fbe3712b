def sm (w : Nat → Nat) : Nat → Nat
  | 0 => 0
  | k + 1 => sm w k + w k
theorem reix {f : Nat → Nat} {n : Nat} {V w : Nat → Nat} (hf : ∀ i j, i < j → j < n → f i < f j) (hV : ∀ i, i < n → V (f i) = w i) (hV0 : ∀ s, (∀ i, i < n → f i ≠ s) → V s = 0) : ∀ (S k : Nat), (∀ i, i < k → f i < S) → (∀ i, k ≤ i → i < n → S ≤ f i) → k ≤ n → sm V S = sm w k
  | 0, k, h1, _, _ => by
    by_cases q : k = 0
    · rw [q]; rfl
    · exact absurd (h1 0 (by omega)) (Nat.not_lt_zero _)
  | S + 1, k, h1, h2, h3 => by
    show sm V S + V S = sm w k
    by_cases e : ∃ i, i < n ∧ f i = S
    · obtain ⟨i, i1, i2⟩ := e
      have hik : i < k := by
        by_cases q : i < k
        · exact q
        · have := h2 i (by omega) i1; omega
      have hk : k = i + 1 := by
        by_cases q : k = i + 1
        · exact q
        · have := h1 (i + 1) (by omega); have := hf i (i + 1) (by omega) (by omega); omega
      rw [reix hf hV hV0 S i (fun j hj => by have := hf j i hj i1; omega) (fun j hj hn => by
        by_cases q : j = i
        · rw [q]; omega
        · have := hf i j (by omega) hn; omega) (by omega), hk, ← i2, hV i i1]
      rfl
    · rw [hV0 S (fun i hi z => e ⟨i, hi, z⟩)]
      refine reix hf hV hV0 S k (fun j hj => ?_) (fun j hj hn => by have := h2 j hj hn; omega) h3
      have := h1 j hj
      by_cases q : f j = S
      · exact absurd ⟨j, by omega, q⟩ e
      · omega
def b01 (b : Bool) : Nat := bif b then 1 else 0
theorem cnt_sm (g : Nat → Bool) : ∀ n, cntF g n = sm (fun k => b01 (g k)) n
  | 0 => rfl
  | n + 1 => by show cntF g n + _ = sm _ n + _; rw [cnt_sm g n]; rfl
theorem rsum_sm (R : Nat → Nat → Bool) (n : Nat) : ∀ i, rsum R n i = sm (fun k => cntF (R k) n) i
  | 0 => rfl
  | i + 1 => by show rsum R n i + _ = sm _ i + _; rw [rsum_sm R n i]
/-- the rules by codes -/
noncomputable def RM (m e b : Int) (n : Nat) (xs : Nat → St) : Nat → Nat → Bool := fun s t => bP (∃ i j, i < n ∧ j < n ∧ mdN (xs i) = s ∧ mdN (xs j) = t ∧ ruB m e b (xs i) (xs j) = true)
section RMS
variable {m e b : Int} {cf : Nat → Int} {n : Nat} {xs : Nat → St}
theorem En.inj (h : En m e b cf n xs) {i j : Nat} (hi : i < n) (hj : j < n) (e : mdN (xs i) = mdN (xs j)) : i = j := by
  by_cases q : i < j
  · have := h.2.2.1 i j q hj; omega
  · by_cases q2 : j < i
    · have := h.2.2.1 j i q2 hi; omega
    · omega
theorem RM_at (h : En m e b cf n xs) {i j : Nat} (hi : i < n) (hj : j < n) : RM m e b n xs (mdN (xs i)) (mdN (xs j)) = Ru m e b xs i j := by
  cases q : ruB m e b (xs i) (xs j) with
  | true => exact (bP_t ⟨i, j, hi, hj, rfl, rfl, q⟩).trans q.symm
  | false => refine (bP_f (fun ⟨i', j', h1, h2, h3, h4, h5⟩ => ?_)).trans q.symm
             rw [h.inj h1 hi h3, h.inj h2 hj h4, q] at h5
             cases h5
theorem RM_0 (s t : Nat) (hs : ∀ i, i < n → mdN (xs i) ≠ s) : RM m e b n xs s t = false := bP_f (fun ⟨i', _, h1, _, h3, _⟩ => hs i' h1 h3)
theorem RM_1 (s t : Nat) (hs : ∀ i, i < n → mdN (xs i) ≠ t) : RM m e b n xs s t = false := bP_f (fun ⟨_, j', _, h2, _, h4, _⟩ => hs j' h2 h4)
theorem RM_c (h : En m e b cf n xs) {i : Nat} (hi : i < n) (T k : Nat) (h1 : ∀ j, j < k → mdN (xs j) < T) (h2 : ∀ j, k ≤ j → j < n → T ≤ mdN (xs j)) (h3 : k ≤ n) : cntF (RM m e b n xs (mdN (xs i))) T = cntF (Ru m e b xs i) k := by
  rw [cnt_sm, cnt_sm]
  exact reix (f := fun j => mdN (xs j)) h.2.2.1 (fun j hj => by show b01 _ = b01 _; rw [RM_at h hi hj]) (fun s hs => by show b01 _ = 0; rw [RM_1 _ s hs]; rfl) T k h1 h2 h3
theorem RM_r (h : En m e b cf n xs) (hl : ∀ i, i < n → mdN (xs i) < 172) (S k : Nat) (h1 : ∀ j, j < k → mdN (xs j) < S) (h2 : ∀ j, k ≤ j → j < n → S ≤ mdN (xs j)) (h3 : k ≤ n) : rsum (RM m e b n xs) 172 S = rsum (Ru m e b xs) n k := by
  rw [rsum_sm, rsum_sm]
  refine reix (f := fun j => mdN (xs j)) h.2.2.1 (fun j hj => ?_) (fun s hs => ?_) S k h1 h2 h3
  · exact RM_c h hj 172 n (fun i hi => hl i hi) (fun i h4 h5 => by omega) (Nat.le_refl _)
  · have : ∀ T, cntF (RM m e b n xs s) T = 0 := fun T => by
      induction T with
      | zero => rfl
      | succ T ih => rw [cnt_f (RM_0 s T hs)]; exact ih
    exact this 172
theorem at_j (h : En m e b cf n xs) {j : Nat} (hj : j < n) : (∀ i, i < j → mdN (xs i) < mdN (xs j)) ∧ (∀ i, j ≤ i → i < n → mdN (xs j) ≤ mdN (xs i)) := ⟨fun i hi => h.2.2.1 i j hi hj, fun i h1 h2 => by
  by_cases q : i = j
  · rw [q]; exact Nat.le_refl _
  · have := h.2.2.1 j i (by omega) h2; omega⟩
end RMS
theorem cnt_lex {R : Nat → Nat → Bool} {x y X Y : Nat} (h : R x y = true) (hy : y < 172) (hl : x < X ∨ (x = X ∧ y < Y)) : rsum R 172 x + cntF (R x) y < rsum R 172 X + cntF (R X) Y := by
  have h1 := cnt_lt h hy
  rcases hl with q | ⟨q1, q2⟩
  · have h2 := rsum_mono R 172 (x + 1) X q
    have h3 : rsum R 172 (x + 1) = rsum R 172 x + cntF (R x) 172 := rfl
    omega
  · rw [← q1]; have := cnt_lt h q2; omega
section MOD3
variable {σ : Wd} {t : Int} {nc ac : Nat} {cp : Bool} {cnt : Nat} {no n2 : Int} {crs : Nat} {ex : Bool} {M E B : Nat → Int}
theorem m_findRule {b : Nat} {k res : Int} {cf : Nat → Int} {th : Nat → Bool} {n X0 Y0 : Nat} {xs : Nat → St} (h100 : σ 100 = some (obMd t nc ac cp cnt no n2 crs ex)) (hC : MC σ M E B) (h110 : σ 110 = some (AZ 860 th)) (hb : b < 5) (ha : okA (M b) (E b) (B b)) (hc2 : ∀ l, l < 8 → -(B b) ≤ cf l ∧ cf l ≤ B b) (hth : ∀ s, s < 172 → th (172 * b + s) = rcB (M b) (E b) (B b) cf s) (hE : En (M b) (E b) (B b) cf n xs) (hk : i32 k) (hX : X0 ≤ 172) (hY : Y0 ≤ 172)
    (hres : (X0 < 172 ∧ Y0 < 172 ∧ RM (M b) (E b) (B b) n xs X0 Y0 = true ∧ ((rsum (RM (M b) (E b) (B b) n xs) 172 X0 + cntF (RM (M b) (E b) (B b) n xs X0) Y0 : Nat) : Int) = k ∧ res = 172 * X0 + Y0) ∨ (X0 = 172 ∧ Y0 = 0 ∧ (k < 0 ∨ ((rsum (RM (M b) (E b) (B b) n xs) 172 172 : Nat) : Int) ≤ k) ∧ res = (rsum (RM (M b) (E b) (B b) n xs) 172 172 : Nat) - 30000)) :
    KX7_findRule [.ref 100, .int (iI b), .int (iI k)] σ (fun r u => ∃ (no' n2' : Int), r = some (.int (iI res)) ∧ u = up σ 100 (obMd t nc ac cp cnt no' n2' crs ex)) NX := by
  refine Ct.intro (by decide) (Nat.le_of_ble_eq_true rfl) ?_
  obtain ⟨Q, hQ⟩ : ∃ Q : Option Value → Wd → Prop, Q = fun r u => ∃ (no' n2' : Int), r = some (.int (iI res)) ∧ u = up σ 100 (obMd t nc ac cp cnt no' n2' crs ex) := ⟨_, rfl⟩
  rw [← hQ]
  obtain ⟨R, hR⟩ : ∃ R, R = RM (M b) (E b) (B b) n xs := ⟨_, rfl⟩
  rw [← hR] at hres
  unfold i32 at hk
  have k100 : ∀ (no n2 : Int), up σ 100 (obMd t nc ac cp cnt no n2 crs ex) 100 = some (obMd t nc ac cp cnt no n2 crs ex) := fun _ _ => up_self _ _ _
  have k110 : ∀ c, up σ 100 c 110 = some (AZ 860 th) := fun c => (up_ne _ _ (by decide)).trans h110
  have kC : ∀ c, MC (up σ 100 c) M E B := fun c => hC.fr (fun q q1 q2 => up_ne _ _ (by omega))
  have hrb : ∀ x, x ≤ 172 → rsum R 172 x ≤ 29584 := fun x hx => by
    have := rsum_le R 172 x
    have h2 : 172 * x ≤ 172 * 172 := Nat.mul_le_mul_left _ hx
    omega
  have hst : ∀ s, s < 172 → th (172 * b + s) = true → ∃ i, i < n ∧ mdN (xs i) = s := fun s hs h => (hE.P s).mp (by rw [← hth s hs]; exact h)
  have hno : ∀ s, s < 172 → th (172 * b + s) = false → ∀ i, i < n → mdN (xs i) ≠ s := fun s hs h i hi e => by
    have := (hE.P s).mpr ⟨i, hi, e⟩
    rw [← hth s hs, h] at this; cases this
  have HX : ∀ x : Nat, x ≤ 172 → x ≤ X0 → ∀ (no n2 : Int) (o5 : Option Value), PX7_findRule Q NX 5 [some (.ref 100), some (.int (iI b)), some (.int (iI k)), some (.int (iI (rsum R 172 x : Nat))), some (.int (iI x)), o5] [] (up σ 100 (obMd t nc ac cp cnt no n2 crs ex)) 0 0 := by
    refine up_to 172 ?_ ?_
    · intro hx no n2 o5
      have hh := hrb 172 (by omega)
      refine z_iload dX7_findRule_5 rfl ?_
      refine i_sipush dX7_findRule_7 (by decide) ?_
      refine i_icmp_ge (tgt := 113) dX7_findRule_10 (by decide) (by omega) (by omega) (fun h1 => ?_) (fun h1 => ?_)
      · skip
        refine z_iload_n dX7_findRule_113 rfl ?_
        refine i_sipush dX7_findRule_114 (by decide) ?_
        refine i_isub dX7_findRule_117 ?_
        rcases hres with q | q
        · omega
        · rw [← q.2.2.2]
          exact z_iret dX7_findRule_118 rfl (by decide) (by decide) (by rw [hQ]; exact ⟨no, n2, rfl, rfl⟩)
      · skip
        omega
    · intro x hx ihx hxX no n2 o5
      have HY : ∀ y : Nat, y ≤ 172 → x < X0 ∨ (x = X0 ∧ y ≤ Y0) → ∀ (no n2 : Int), PX7_findRule Q NX 16 [some (.ref 100), some (.int (iI b)), some (.int (iI k)), some (.int (iI ((rsum R 172 x + cntF (R x) y : Nat) : Int))), some (.int (iI x)), some (.int (iI y))] [] (up σ 100 (obMd t nc ac cp cnt no n2 crs ex)) 0 0 := by
        refine up_to 172 ?_ ?_
        · intro hpos no n2
          refine z_iload dX7_findRule_16 rfl ?_
          refine i_sipush dX7_findRule_18 (by decide) ?_
          refine i_icmp_ge (tgt := 107) dX7_findRule_21 (by decide) (by omega) (by omega) (fun h3 => ?_) (fun h3 => ?_)
          · skip
            refine i_iinc dX7_findRule_107 rfl (by decide) ?_
            refine z_goto (tgt := 5) dX7_findRule_110 (by decide) ?_
            exact ihx (by omega) no n2 _
          · skip
            omega
        · intro y hy ihy hpos no n2
          have hc1 := cnt_le (R x) y
          have hr1 := hrb x (by omega)
          have H101 : R x y = false → ∀ (no n2 : Int), PX7_findRule Q NX 101 [some (.ref 100), some (.int (iI b)), some (.int (iI k)), some (.int (iI ((rsum R 172 x + cntF (R x) y : Nat) : Int))), some (.int (iI x)), some (.int (iI y))] [] (up σ 100 (obMd t nc ac cp cnt no n2 crs ex)) 0 0 := by
            intro hf no n2
            have ihh := ihy (by
              rcases hpos with q | ⟨q1, q2⟩
              · exact Or.inl q
              · refine Or.inr ⟨q1, ?_⟩
                rcases hres with z | z
                · by_cases q3 : y = Y0
                  · rw [q1, q3, z.2.2.1] at hf; cases hf
                  · omega
                · omega) no n2
            rw [cnt_f hf] at ihh
            refine i_iinc dX7_findRule_101 rfl (by decide) ?_
            refine z_goto (tgt := 16) dX7_findRule_104 (by decide) ?_
            exact ihh
          refine z_iload dX7_findRule_16 rfl ?_
          refine i_sipush dX7_findRule_18 (by decide) ?_
          refine i_icmp_ge (tgt := 107) dX7_findRule_21 (by decide) (by omega) (by omega) (fun h3 => ?_) (fun h3 => ?_)
          · skip
            omega
          · skip
            refine z_aload_n dX7_findRule_24 rfl ?_
            refine z_getf cls6 13 flX7_52 dX7_findRule_25 (by decide) (k100 _ _) rfl ?_
            refine i_sipush dX7_findRule_28 (by decide) ?_
            refine z_iload_n dX7_findRule_31 rfl ?_
            refine i_imul dX7_findRule_32 ?_
            refine z_iload dX7_findRule_33 rfl ?_
            refine i_iadd dX7_findRule_35 ?_
            refine i_zald dX7_findRule_36 (k110 _) (172 * b + x) (by omega) (by omega) ?_
            refine i_ifb_eq (tgt := 101) dX7_findRule_37 (by decide) (fun h4 => ?_) (fun h4 => ?_)
            · skip
              exact H101 (by rw [hR]; exact RM_0 x y (hno x hx h4)) no n2
            · skip
              refine z_aload_n dX7_findRule_40 rfl ?_
              refine z_getf cls6 13 flX7_52 dX7_findRule_41 (by decide) (k100 _ _) rfl ?_
              refine i_sipush dX7_findRule_44 (by decide) ?_
              refine z_iload_n dX7_findRule_47 rfl ?_
              refine i_imul dX7_findRule_48 ?_
              refine z_iload dX7_findRule_49 rfl ?_
              refine i_iadd dX7_findRule_51 ?_
              refine i_zald dX7_findRule_52 (k110 _) (172 * b + y) (by omega) (by omega) ?_
              refine i_ifb_eq (tgt := 101) dX7_findRule_53 (by decide) (fun h5 => ?_) (fun h5 => ?_)
              · skip
                exact H101 (by rw [hR]; exact RM_1 x y (hno y hy h5)) no n2
              · skip
                obtain ⟨i, i1, i2⟩ := hst x hx h4
                obtain ⟨j, j1, j2⟩ := hst y hy h5
                have oi := hE.ok ha hc2 i1
                have oj := hE.ok ha hc2 j1
                have hRxy : R x y = ruB (M b) (E b) (B b) (xs i) (xs j) := by rw [hR, ← i2, ← j2]; exact RM_at hE i1 j1
                obtain ⟨mo1, mo2⟩ := mt_ok ha oi oj
                have ml1 := mdN_lt (okM_rg ha mo1)
                have ml2 := mdN_lt (okM_rg ha mo2)
                refine z_aload_n dX7_findRule_56 rfl ?_
                refine z_iload_n dX7_findRule_57 rfl ?_
                refine z_iload dX7_findRule_58 rfl ?_
                refine z_iload dX7_findRule_60 rfl ?_
                rw [show ((x : Nat) : Int) = ((mdN (xs i) : Nat) : Int) by rw [i2], show ((y : Nat) : Int) = ((mdN (xs j) : Nat) : Int) by rw [j2]]
                refine i_cVv (m_meeting (k100 _ _) (kC _) hb ha oi oj) mX7_105 dX7_findRule_62 (k100 _ _) rfl rfl rfl ⟨by decide, by decide⟩ (Nat.le_of_ble_eq_true rfl) ⟨by decide, by decide⟩ ?_
                rw [up_up]
                have H83 : R x y = true → PX7_findRule Q NX 83 [some (.ref 100), some (.int (iI b)), some (.int (iI k)), some (.int (iI ((rsum R 172 x + cntF (R x) y : Nat) : Int))), some (.int (iI (mdN (xs i) : Nat))), some (.int (iI (mdN (xs j) : Nat)))] [] (up σ 100 (obMd t nc ac cp cnt (mdN (mt (M b) (E b) (B b) (xs i) (xs j)).1 : Nat) (mdN (mt (M b) (E b) (B b) (xs i) (xs j)).2 : Nat) crs ex)) 0 0 := by
                  intro hf
                  refine z_iload_n dX7_findRule_83 rfl ?_
                  refine z_iload_n dX7_findRule_84 rfl ?_
                  refine i_icmp_ne (tgt := 98) dX7_findRule_85 (by decide) (by omega) (by omega) (fun h6 => ?_) (fun h6 => ?_)
                  · skip
                    have ihh := ihy (by
                      rcases hpos with q | ⟨q1, q2⟩
                      · exact Or.inl q
                      · refine Or.inr ⟨q1, ?_⟩
                        rcases hres with z | z
                        · by_cases q3 : y = Y0
                          · rw [q1, q3] at h6; omega
                          · omega
                        · omega) (mdN (mt (M b) (E b) (B b) (xs i) (xs j)).1 : Nat) (mdN (mt (M b) (E b) (B b) (xs i) (xs j)).2 : Nat)
                    rw [cnt_t hf] at ihh
                    refine i_iinc dX7_findRule_98 rfl (by decide) ?_
                    refine i_iinc dX7_findRule_101 rfl (by decide) ?_
                    refine z_goto (tgt := 16) dX7_findRule_104 (by decide) ?_
                    rw [i2, j2]
                    exact ihh
                  · skip
                    refine i_sipush dX7_findRule_88 (by decide) ?_
                    refine z_iload dX7_findRule_91 rfl ?_
                    refine i_imul dX7_findRule_93 ?_
                    refine z_iload dX7_findRule_94 rfl ?_
                    refine i_iadd dX7_findRule_96 ?_
                    have hxy : x = X0 ∧ y = Y0 := by
                      by_cases q3 : x = X0 ∧ y = Y0
                      · exact q3
                      · have hlt : x < X0 ∨ (x = X0 ∧ y < Y0) := by omega
                        have := cnt_lex hf hy hlt
                        rcases hres with z | z
                        · omega
                        · rw [z.1, z.2.1] at this
                          have h0 : cntF (R 172) 0 = 0 := rfl
                          omega
                    rw [i2, j2]
                    rcases hres with z | z
                    · rw [show (172 : Int) * (x : Int) + (y : Int) = res by rw [z.2.2.2.2, hxy.1, hxy.2]]
                      exact z_iret dX7_findRule_97 rfl (by decide) (by decide) (by rw [hQ]; exact ⟨_, _, rfl, rfl⟩)
                    · omega
                have hru : ruB (M b) (E b) (B b) (xs i) (xs j) = true ↔ ¬ ((mdN (mt (M b) (E b) (B b) (xs i) (xs j)).1 = mdN (xs i)) ∧ (mdN (mt (M b) (E b) (B b) (xs i) (xs j)).2 = mdN (xs j))) := by
                  unfold ruB
                  rw [decide_eq_true_iff]
                  refine not_congr ⟨fun z => by rw [z]; exact ⟨rfl, rfl⟩, fun z => ?_⟩
                  exact Prod.ext (mdN_inj (okM_rg ha mo1) (okM_rg ha oi) z.1) (mdN_inj (okM_rg ha mo2) (okM_rg ha oj) z.2)
                refine z_aload_n dX7_findRule_65 rfl ?_
                refine z_getf cls6 17 flX7_64 dX7_findRule_66 (by decide) (k100 _ _) rfl ?_
                refine z_iload dX7_findRule_69 rfl ?_
                refine i_icmp_ne (tgt := 83) dX7_findRule_71 (by decide) (by omega) (by omega) (fun h6 => ?_) (fun h6 => ?_)
                · skip
                  exact H83 (by rw [hRxy, hru]; omega)
                · skip
                  refine z_aload_n dX7_findRule_74 rfl ?_
                  refine z_getf cls6 18 flX7_67 dX7_findRule_75 (by decide) (k100 _ _) rfl ?_
                  refine z_iload dX7_findRule_78 rfl ?_
                  refine i_icmp_eq (tgt := 101) dX7_findRule_80 (by decide) (by omega) (by omega) (fun h7 => ?_) (fun h7 => ?_)
                  · skip
                    have hH := H101 (by
                      rw [hRxy]
                      cases q : ruB (M b) (E b) (B b) (xs i) (xs j) with
                      | false => rfl
                      | true => exact absurd (by omega) (hru.mp q)) (mdN (mt (M b) (E b) (B b) (xs i) (xs j)).1 : Nat) (mdN (mt (M b) (E b) (B b) (xs i) (xs j)).2 : Nat)
                    rw [show ((x : Nat) : Int) = ((mdN (xs i) : Nat) : Int) by rw [i2], show ((y : Nat) : Int) = ((mdN (xs j) : Nat) : Int) by rw [j2]] at hH
                    exact hH
                  · skip
                    exact H83 (by rw [hRxy, hru]; omega)
      refine z_iload dX7_findRule_5 rfl ?_
      refine i_sipush dX7_findRule_7 (by decide) ?_
      refine i_icmp_ge (tgt := 113) dX7_findRule_10 (by decide) (by omega) (by omega) (fun h1 => ?_) (fun h1 => ?_)
      · skip
        omega
      · skip
        refine i_iconst dX7_findRule_13 rfl ?_
        refine z_istore dX7_findRule_14 (by decide) ?_
        exact HY 0 (by omega) (by omega) no n2
  refine i_iconst dX7_findRule_0 rfl ?_
  refine z_istore_n dX7_findRule_1 (by decide) ?_
  refine i_iconst dX7_findRule_2 rfl ?_
  refine z_istore dX7_findRule_3 (by decide) ?_
  refine z_eqw (up_id h100).symm ?_
  exact HX 0 (by omega) (by omega) no n2 none
end MOD3

