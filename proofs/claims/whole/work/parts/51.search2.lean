theorem lgle {a b : Nat} (ha : a < 2 ^ 63) (hb : b < 2 ^ 63) : lg_cmp (lN a) (lN b) ≤ 0 ↔ a ≤ b := by
  unfold lg_cmp
  by_cases q : b < a
  · rw [if_pos ((pk_lLT hb ha).mpr q)]
    exact ⟨fun h => absurd h (by decide), fun h => absurd h (by omega)⟩
  · rw [if_neg (fun z => q ((pk_lLT hb ha).mp z))]
    by_cases q2 : a = b
    · rw [if_pos ((pk_lEQ ha hb).mpr q2)]
      exact ⟨fun _ => by omega, fun _ => by decide⟩
    · rw [if_neg (fun z => q2 ((pk_lEQ ha hb).mp z))]
      exact ⟨fun _ => by omega, fun _ => by decide⟩
theorem lgge {a b : Nat} (ha : a < 2 ^ 63) (hb : b < 2 ^ 63) : 0 ≤ lg_cmp (lN a) (lN b) ↔ b ≤ a := by
  unfold lg_cmp
  by_cases q : b < a
  · rw [if_pos ((pk_lLT hb ha).mpr q)]
    exact ⟨fun _ => by omega, fun _ => by decide⟩
  · rw [if_neg (fun z => q ((pk_lLT hb ha).mp z))]
    by_cases q2 : a = b
    · rw [if_pos ((pk_lEQ ha hb).mpr q2)]
      exact ⟨fun _ => by omega, fun _ => by decide⟩
    · rw [if_neg (fun z => q2 ((pk_lEQ ha hb).mp z))]
      exact ⟨fun h => absurd h (by decide), fun h => absurd h (by omega)⟩
abbrev obS (wd fd : Nat) : pCell := ob 4 [.ref 1, .ref 75, .ref 71, .ref 72, .ref 73, .ref 74, .int (iI wd), .int (iI fd)]
/-- the world with a search -/
def WS (σ : Wd) (wd fd : Nat) (rf : Nat → Nat) (sl : Nat → Int) (er : Nat → Bool) (nx : Nat → Nat) (f s : Nat) : Wd := up (up (up (up (up (up σ 75 (obM f s)) 74 (AL 6 nx)) 73 (AZ 3000 er)) 72 (AI 8192 sl)) 71 (AL 18000 rf)) 70 (obS wd fd)
section WSS
variable {σ : Wd} {wd fd : Nat} {rf : Nat → Nat} {sl : Nat → Int} {er : Nat → Bool} {nx : Nat → Nat} {f s : Nat}
theorem WS_70 : WS σ wd fd rf sl er nx f s 70 = some (obS wd fd) := rfl
theorem WS_71 : WS σ wd fd rf sl er nx f s 71 = some (AL 18000 rf) := rfl
theorem WS_72 : WS σ wd fd rf sl er nx f s 72 = some (AI 8192 sl) := rfl
theorem WS_73 : WS σ wd fd rf sl er nx f s 73 = some (AZ 3000 er) := rfl
theorem WS_74 : WS σ wd fd rf sl er nx f s 74 = some (AL 6 nx) := rfl
theorem WS_75 : WS σ wd fd rf sl er nx f s 75 = some (obM f s) := rfl
theorem WS_x {q : Nat} (h : q < 70 ∨ 75 < q) : WS σ wd fd rf sl er nx f s q = σ q := by unfold WS; rw [up_ne _ _ (by omega), up_ne _ _ (by omega), up_ne _ _ (by omega), up_ne _ _ (by omega), up_ne _ _ (by omega), up_ne _ _ (by omega)]
theorem bq {q n : Nat} (h : q ≠ n) : Nat.beq q n = false := by
  cases z : Nat.beq q n with
  | false => rfl
  | true => exact absurd (Nat.eq_of_beq_eq_true z) h
theorem WS_s70 (wd' fd' : Nat) : up (WS σ wd fd rf sl er nx f s) 70 (obS wd' fd') = WS σ wd' fd' rf sl er nx f s := up_up _ _ _ _
theorem WS_s71 (rf' : Nat → Nat) : up (WS σ wd fd rf sl er nx f s) 71 (AL 18000 rf') = WS σ wd fd rf' sl er nx f s := funext fun q => by
  by_cases h : q = 71
  · rw [h]; rfl
  · simp only [WS, up, bq h]; rfl
theorem WS_s72 (sl' : Nat → Int) : up (WS σ wd fd rf sl er nx f s) 72 (AI 8192 sl') = WS σ wd fd rf sl' er nx f s := funext fun q => by
  by_cases h : q = 72
  · rw [h]; rfl
  · simp only [WS, up, bq h]; rfl
theorem WS_s73 (er' : Nat → Bool) : up (WS σ wd fd rf sl er nx f s) 73 (AZ 3000 er') = WS σ wd fd rf sl er' nx f s := funext fun q => by
  by_cases h : q = 73
  · rw [h]; rfl
  · simp only [WS, up, bq h]; rfl
theorem WS_s74 (nx' : Nat → Nat) : up (WS σ wd fd rf sl er nx f s) 74 (AL 6 nx') = WS σ wd fd rf sl er nx' f s := funext fun q => by
  by_cases h : q = 74
  · rw [h]; rfl
  · simp only [WS, up, bq h]; rfl
theorem WS_s75 (f' s' : Nat) : up (WS σ wd fd rf sl er nx f s) 75 (obM f' s') = WS σ wd fd rf sl er nx f' s' := funext fun q => by
  by_cases h : q = 75
  · rw [h]; rfl
  · simp only [WS, up, bq h]; rfl
theorem WS_F {nc ac : Nat} {cp : Bool} {op lf rt M E B S : Nat → Int} {CF CD NB FR : Nat → Nat → Int} (h : FX σ nc ac cp op lf rt M E B S CF CD NB FR) : FX (WS σ wd fd rf sl er nx f s) nc ac cp op lf rt M E B S CF CD NB FR := (((((h.up _ (by omega)).up _ (by omega)).up _ (by omega)).up _ (by omega)).up _ (by omega)).up _ (by omega)
end WSS
theorem lt63 {n : Nat} (h : n < 2 ^ 40) : n < 2 ^ 63 := Nat.lt_of_lt_of_le h (by decide)
theorem k_sortNext (σ : Wd) (w fd : Nat) (rf : Nat → Nat) (sl : Nat → Int) (er : Nat → Bool) (nx : Nat → Nat) (f s ac : Nat) (ag : Nat → Nat → St) (hw : 1 ≤ w ∧ w ≤ 6) (hac : ac ≤ 5) (hr : ∀ i, i < w → ∀ a, a < ac → rg (ag i a)) (hag : AG ac w nx ag) :
    KX5_sortNext [.ref 70] (WS σ w fd rf sl er nx f s) (fun r u => ∃ nx', r = none ∧ u = WS σ w fd rf sl er nx' f s ∧ AG ac w nx' (srt (fun x => pkC x ac) w ag)) NX := by
  refine Ct.intro (by decide) (Nat.le_of_ble_eq_true rfl) ?_
  obtain ⟨Q, hQ⟩ : ∃ Q : Option Value → Wd → Prop, Q = fun r u => ∃ nx', r = none ∧ u = WS σ w fd rf sl er nx' f s ∧ AG ac w nx' (srt (fun x => pkC x ac) w ag) := ⟨_, rfl⟩
  rw [← hQ]
  obtain ⟨ky, hky⟩ : ∃ ky : (Nat → St) → Nat, ky = fun x => pkC x ac := ⟨_, rfl⟩
  rw [← hky] at hQ
  have hkx : ∀ x, ky x = pkC x ac := fun x => by rw [hky]
  have H : ∀ k : Nat, k ≤ w → 1 ≤ k → ∀ (nx : Nat → Nat) (o2 o4 : Option Value), AG ac w nx (srt ky k ag) → PX5_sortNext Q NX 2 [some (.ref 70), some (.int (iI k)), o2, none, o4] [] (WS σ w fd rf sl er nx f s) 0 0 := by
    refine up_to w ?_ ?_
    · intro _ nx o2 o4 hag
      refine z_iload_n dX5_sortNext_2 rfl ?_
      refine z_aload_n dX5_sortNext_3 rfl ?_
      refine z_getf cls4 6 flX5_51 dX5_sortNext_4 (by decide) (WS_70) rfl ?_
      refine i_icmp_ge (tgt := 75) dX5_sortNext_7 (by decide) (by omega) (by omega) (fun h1 => ?_) (fun h1 => ?_)
      · skip
        exact z_vret dX5_sortNext_75 rfl (by decide) (by decide) (by rw [hQ]; exact ⟨nx, rfl, rfl, hag⟩)
      · skip
        omega
    · intro k hk ih hk1 nx o2 o4 hag
      have Hin : ∀ a : Nat, a ≤ k → ∀ (g : Nat → Nat) (F : Nat → Nat → St), (∀ i, i < w → i ≠ a → g i = pkC (F i) ac) → srt ky (k + 1) ag = ins ky a F → (∀ i, i < w → ∀ a, a < ac → rg (F i a)) → PX5_sortNext Q NX 20 [some (.ref 70), some (.int (iI k)), some (.long (lN (pkC (F a) ac))), none, some (.int (iI a))] [] (WS σ w fd rf sl er g f s) 0 0 := by
        have hend : ∀ (a : Nat) (g : Nat → Nat) (F : Nat → Nat → St), a ≤ k → (∀ i, i < w → i ≠ a → g i = pkC (F i) ac) → srt ky (k + 1) ag = F → PX5_sortNext Q NX 61 [some (.ref 70), some (.int (iI k)), some (.long (lN (pkC (F a) ac))), none, some (.int (iI a))] [] (WS σ w fd rf sl er g f s) 0 0 := by
          intro a g F ha hg he
          refine z_aload_n dX5_sortNext_61 rfl ?_
          refine z_getf cls4 5 flX5_23 dX5_sortNext_62 (by decide) (WS_70) rfl ?_
          refine z_iload dX5_sortNext_65 rfl ?_
          refine z_lload_n dX5_sortNext_67 rfl ?_
          refine i_last dX5_sortNext_68 (WS_74) a (by omega) (by omega) ?_
          rw [WS_s74]
          refine i_iinc dX5_sortNext_69 rfl (by decide) ?_
          refine z_goto (tgt := 2) dX5_sortNext_72 (by decide) ?_
          refine ih (by omega) _ _ _ (fun i hi => ?_)
          rw [he]
          by_cases q : i = a
          · rw [q, va_up_self]
          · rw [va_up_ne _ _ q]; exact hg i hi q
        intro a
        induction a with
        | zero =>
          intro ha g F hg he hF
          refine z_iload dX5_sortNext_20 rfl ?_
          refine i_if_le (tgt := 61) dX5_sortNext_22 (by decide) (by omega) (fun h1 => ?_) (fun h1 => ?_)
          · skip
            exact hend 0 g F ha hg he
          · skip
            omega
        | succ a iha =>
          intro ha g F hg he hF
          refine z_iload dX5_sortNext_20 rfl ?_
          refine i_if_le (tgt := 61) dX5_sortNext_22 (by decide) (by omega) (fun h1 => ?_) (fun h1 => ?_)
          · skip
            omega
          · skip
            refine z_aload_n dX5_sortNext_25 rfl ?_
            refine z_getf cls4 5 flX5_23 dX5_sortNext_26 (by decide) (WS_70) rfl ?_
            refine z_iload dX5_sortNext_29 rfl ?_
            refine i_iconst dX5_sortNext_31 rfl ?_
            refine i_isub dX5_sortNext_32 ?_
            refine i_lald dX5_sortNext_33 (WS_74) a (by omega) (by omega) ?_
            refine z_lload_n dX5_sortNext_34 rfl ?_
            refine z_lcmp dX5_sortNext_35 ?_
            rw [hg a (by omega) (by omega)]
            have l1 := lt63 (pkC_lt hac (hF a (by omega)))
            have l2 := lt63 (pkC_lt hac (hF (a + 1) (by omega)))
            have e1 : ins ky (a + 1) F = if ky (F (a + 1)) < ky (F a) then ins ky a (sw2 F a) else F := rfl
            rw [hkx, hkx] at e1
            refine z_if_le (tgt := 61) dX5_sortNext_36 (by decide) (fun h2 => ?_) (fun h2 => ?_)
            · skip
              rw [lgle l1 l2] at h2
              rw [if_neg (by omega)] at e1
              exact hend (a + 1) g F ha hg (by rw [he, e1])
            · skip
              rw [lgle l1 l2] at h2
              rw [if_pos (by omega)] at e1
              refine z_aload_n dX5_sortNext_39 rfl ?_
              refine z_getf cls4 5 flX5_23 dX5_sortNext_40 (by decide) (WS_70) rfl ?_
              refine z_iload dX5_sortNext_43 rfl ?_
              refine z_aload_n dX5_sortNext_45 rfl ?_
              refine z_getf cls4 5 flX5_23 dX5_sortNext_46 (by decide) (WS_70) rfl ?_
              refine z_iload dX5_sortNext_49 rfl ?_
              refine i_iconst dX5_sortNext_51 rfl ?_
              refine i_isub dX5_sortNext_52 ?_
              refine i_lald dX5_sortNext_53 (WS_74) a (by omega) (by omega) ?_
              refine i_last dX5_sortNext_54 (WS_74) (a + 1) (by omega) (by omega) ?_
              rw [WS_s74]
              refine i_iinc dX5_sortNext_55 rfl (by decide) ?_
              refine z_goto (tgt := 20) dX5_sortNext_58 (by decide) ?_
              rw [show ((a + 1 : Nat) : Int) + -1 = (a : Int) by omega]
              have ihh := iha (by omega) (va_up g (a + 1) (g a)) (sw2 F a) (fun i hi hne => ?_) (by rw [he, e1]) (sw2_P (P := fun x : Nat → St => ∀ a, a < ac → rg (x a)) (w := w) (k := a) (by omega) hF)
              · rw [show sw2 F a a = F (a + 1) from va_up_self _ _ _] at ihh
                exact ihh
              · unfold sw2
                rw [va_up_ne _ _ hne]
                by_cases q : i = a + 1
                · rw [q, va_up_self, va_up_self]; exact hg a (by omega) (by omega)
                · rw [va_up_ne _ _ q, va_up_ne _ _ q]; exact hg i hi q
      refine z_iload_n dX5_sortNext_2 rfl ?_
      refine z_aload_n dX5_sortNext_3 rfl ?_
      refine z_getf cls4 6 flX5_51 dX5_sortNext_4 (by decide) (WS_70) rfl ?_
      refine i_icmp_ge (tgt := 75) dX5_sortNext_7 (by decide) (by omega) (by omega) (fun h1 => ?_) (fun h1 => ?_)
      · skip
        omega
      · skip
        refine z_aload_n dX5_sortNext_10 rfl ?_
        refine z_getf cls4 5 flX5_23 dX5_sortNext_11 (by decide) (WS_70) rfl ?_
        refine z_iload_n dX5_sortNext_14 rfl ?_
        refine i_lald dX5_sortNext_15 (WS_74) k (by omega) (by omega) ?_
        rw [hag k hk]
        refine z_lstore_n dX5_sortNext_16 (by decide) ?_
        refine z_iload_n dX5_sortNext_17 rfl ?_
        refine z_istore dX5_sortNext_18 (by decide) ?_
        exact Hin k (Nat.le_refl _) nx (srt ky k ag) (fun i hi _ => hag i hi) rfl (srt_P (P := fun x => ∀ a, a < ac → rg (x a)) k ag (by omega) hr)
  refine i_iconst dX5_sortNext_0 rfl ?_
  refine z_istore_n dX5_sortNext_1 (by decide) ?_
  exact H 1 hw.1 (by omega) nx none none hag
/-- the rows' words -/
def RWC (ac w : Nat) (s : XS) (rf : Nat → Nat) : Prop := ∀ r, r < s.2 → ∀ k, k < w → rf (r * w + k) = pkC (s.1 r k) ac
theorem rx {r w k : Nat} : (r : Int) * (w : Int) + (k : Int) = ((r * w + k : Nat) : Int) := by simp
theorem rx_m {r n w k : Nat} (hr : r < n) (hk : k < w) : r * w + k < n * w := by
  have := Nat.mul_le_mul_right w (show r + 1 ≤ n from hr)
  rw [Nat.succ_mul] at this
  omega
theorem rx_lt {r w k : Nat} (hr : r < 3000) (hw : w ≤ 6) (hk : k < w) : r * w + k < 18000 := by
  have := rx_m hr hk
  have h2 : 3000 * w ≤ 3000 * 6 := Nat.mul_le_mul_left _ hw
  omega
theorem k_isNext (σ : Wd) (w fd : Nat) (rf : Nat → Nat) (sl : Nat → Int) (er : Nat → Bool) (nx : Nat → Nat) (f s ac : Nat) (ag : Nat → Nat → St) (x : XS) (r : Nat) (hw : w ≤ 6) (hac : ac ≤ 5) (hr : ∀ i, i < w → ∀ a, a < ac → rg (ag i a)) (hag : AG ac w nx ag) (hx : x.2 ≤ 3000) (hxr : RWC ac w x rf) (hrn : r < x.2) (hrr : ∀ i, i < w → ∀ a, a < ac → rg (x.1 r i a)) :
    KX5_isNext [.ref 70, .int (iI r)] (WS σ w fd rf sl er nx f s) (Rt (some (.int (iI (bI (bP (eqR ac w (x.1 r) ag)))))) (WS σ w fd rf sl er nx f s)) NX := by
  refine Ct.intro (by decide) (Nat.le_of_ble_eq_true rfl) ?_
  have H : ∀ k : Nat, k ≤ w → (∀ i, i < k → ∀ a, a < ac → x.1 r i a = ag i a) → PX5_isNext (Rt (some (.int (iI (bI (bP (eqR ac w (x.1 r) ag)))))) (WS σ w fd rf sl er nx f s)) NX 2 [some (.ref 70), some (.int (iI r)), some (.int (iI k))] [] (WS σ w fd rf sl er nx f s) 0 0 := by
    refine up_to w ?_ ?_
    · intro he
      refine z_iload_n dX5_isNext_2 rfl ?_
      refine z_aload_n dX5_isNext_3 rfl ?_
      refine z_getf cls4 6 flX5_51 dX5_isNext_4 (by decide) (WS_70) rfl ?_
      refine i_icmp_ge (tgt := 41) dX5_isNext_7 (by decide) (by omega) (by omega) (fun h1 => ?_) (fun h1 => ?_)
      · skip
        refine i_iconst dX5_isNext_41 rfl ?_
        exact i_rt dX5_isNext_42 rfl (by decide) (by decide) (bP_t he) rfl
      · skip
        omega
    · intro k hk ih he
      refine z_iload_n dX5_isNext_2 rfl ?_
      refine z_aload_n dX5_isNext_3 rfl ?_
      refine z_getf cls4 6 flX5_51 dX5_isNext_4 (by decide) (WS_70) rfl ?_
      refine i_icmp_ge (tgt := 41) dX5_isNext_7 (by decide) (by omega) (by omega) (fun h1 => ?_) (fun h1 => ?_)
      · skip
        omega
      · skip
        refine z_aload_n dX5_isNext_10 rfl ?_
        refine z_getf cls4 2 flX5_9 dX5_isNext_11 (by decide) (WS_70) rfl ?_
        refine z_iload_n dX5_isNext_14 rfl ?_
        refine z_aload_n dX5_isNext_15 rfl ?_
        refine z_getf cls4 6 flX5_51 dX5_isNext_16 (by decide) (WS_70) rfl ?_
        refine i_imul dX5_isNext_19 ?_
        refine z_iload_n dX5_isNext_20 rfl ?_
        refine i_iadd dX5_isNext_21 ?_
        refine i_lald dX5_isNext_22 (WS_71) (r * w + k) rx (rx_lt (by omega) hw hk) ?_
        refine z_aload_n dX5_isNext_23 rfl ?_
        refine z_getf cls4 5 flX5_23 dX5_isNext_24 (by decide) (WS_70) rfl ?_
        refine z_iload_n dX5_isNext_27 rfl ?_
        refine i_lald dX5_isNext_28 (WS_74) k (by omega) (by omega) ?_
        refine z_lcmp dX5_isNext_29 ?_
        rw [hxr r hrn k hk, hag k hk]
        have l1 := lt63 (pkC_lt hac (hrr k hk))
        have l2 := lt63 (pkC_lt hac (hr k hk))
        refine z_if_eq (tgt := 35) dX5_isNext_30 (by decide) (fun h2 => ?_) (fun h2 => ?_)
        · skip
          rw [lgc l1 l2, pkC_inj (hrr k hk) (hr k hk)] at h2
          refine i_iinc dX5_isNext_35 rfl (by decide) ?_
          refine z_goto (tgt := 2) dX5_isNext_38 (by decide) ?_
          refine ih (fun i hi a ha => ?_)
          by_cases q : i = k
          · rw [q]; exact h2 a ha
          · exact he i (by omega) a ha
        · skip
          rw [lgc l1 l2, pkC_inj (hrr k hk) (hr k hk)] at h2
          refine i_iconst dX5_isNext_33 rfl ?_
          exact i_rf dX5_isNext_34 rfl (by decide) (by decide) (bP_f (fun z => h2 (z k hk))) rfl
  refine i_iconst dX5_isNext_0 rfl ?_
  refine z_istore_n dX5_isNext_1 (by decide) ?_
  exact H 0 (by omega) (fun i hi => absurd hi (Nat.not_lt_zero i))
/-- the hash of a row -/
def mxC (g : Nat → Nat) : Nat → Int64
  | 0 => lN 0
  | k + 1 => (mxC g k + lN (g k)) * (-7046029254386353131)
theorem mxC_congr {g h : Nat → Nat} : ∀ k, (∀ i, i < k → g i = h i) → mxC g k = mxC h k
  | 0, _ => rfl
  | k + 1, e => by
    show (mxC g k + lN (g k)) * _ = (mxC h k + lN (h k)) * _
    rw [mxC_congr k (fun i hi => e i (by omega)), e k (by omega)]
def hsC (ac w : Nat) (f : Nat → Nat → St) : Nat := uN (mxC (fun k => pkC (f k) ac) w) / 2 ^ 51
theorem hsC_lt (ac w : Nat) (f : Nat → Nat → St) : hsC ac w f < 8192 := by
  have := uN_lt (mxC (fun k => pkC (f k) ac) w)
  unfold hsC
  omega
theorem hsC_eq {ac w : Nat} {f g : Nat → Nat → St} (h : eqR ac w f g) : hsC ac w f = hsC ac w g := by
  unfold hsC
  rw [mxC_congr (g := fun k => pkC (f k) ac) (h := fun k => pkC (g k) ac) w (fun i hi => dg_congr ac (fun a ha => by show cdN (f i a) = cdN (g i a); rw [h i hi a ha]))]
theorem hs_i (x : Int64) : ((x.toUInt64 >>> ((iI 51).toInt64.toUInt64 &&& Int64.toUInt64 63)).toInt64).toInt32 = iI ((uN x / 2 ^ 51 : Nat) : Int) := by
  have h := uN_sk x (k := 51) (by decide)
  have h2 : (x.toUInt64 >>> ((nI 51).toInt64.toUInt64 &&& Int64.toUInt64 63)).toInt64 = lN (uN x / 2 ^ 51) := uN_inj (by
    rw [h]
    show _ = (lN (uN x / 2 ^ 51)).toBitVec.toNat
    rw [lN_nat (by have := uN_lt x; omega)])
  rw [show iI 51 = nI 51 from rfl, h2, lN_i, iI_nat]
theorem k_slotOfNext (σ : Wd) (w fd : Nat) (rf : Nat → Nat) (sl : Nat → Int) (tb : Nat → Nat) (er : Nat → Bool) (nx : Nat → Nat) (f s ac : Nat) (ag : Nat → Nat → St) (x : XS) (hw : w ≤ 6) (hac : ac ≤ 5) (hr : ∀ i, i < w → ∀ a, a < ac → rg (ag i a)) (hag : AG ac w nx ag) (hx : x.2 ≤ 3000) (hxr : RWC ac w x rf) (hrr : ∀ r, r < x.2 → ∀ i, i < w → ∀ a, a < ac → rg (x.1 r i a)) (hsl : ∀ p, p < 8192 → sl p = (tb p : Int) - 1) (hT : TI (fun r => hsC ac w (x.1 r)) tb x.2) :
    KX5_slotOfNext [.ref 70] (WS σ w fd rf sl er nx f s) (fun r u => ∃ d, d < 8192 ∧ PB tb (hsC ac w ag) (fun r => eqR ac w (x.1 r) ag) d ∧ r = some (.int (iI (((hsC ac w ag + d) % 8192 : Nat) : Int))) ∧ u = WS σ w fd rf sl er nx f s ∧ (tb ((hsC ac w ag + d) % 8192) = 0 ∨ (tb ((hsC ac w ag + d) % 8192) ≠ 0 ∧ eqR ac w (x.1 (tb ((hsC ac w ag + d) % 8192) - 1)) ag))) NX := by
  refine Ct.intro (by decide) (Nat.le_of_ble_eq_true rfl) ?_
  obtain ⟨hh, hhh⟩ : ∃ hh, hh = hsC ac w ag := ⟨_, rfl⟩
  have hhl : hh < 8192 := by rw [hhh]; exact hsC_lt _ _ _
  rw [← hhh]
  obtain ⟨Q, hQ⟩ : ∃ Q : Option Value → Wd → Prop, Q = fun r u => ∃ d, d < 8192 ∧ PB tb hh (fun r => eqR ac w (x.1 r) ag) d ∧ r = some (.int (iI (((hh + d) % 8192 : Nat) : Int))) ∧ u = WS σ w fd rf sl er nx f s ∧ (tb ((hh + d) % 8192) = 0 ∨ (tb ((hh + d) % 8192) ≠ 0 ∧ eqR ac w (x.1 (tb ((hh + d) % 8192) - 1)) ag)) := ⟨_, rfl⟩
  rw [← hQ]
  have H2 : ∀ (t d : Nat), d + t = 8192 → PB tb hh (fun r => eqR ac w (x.1 r) ag) d → PX5_slotOfNext Q NX 40 [some (.ref 70), some (.long (mxC nx w)), none, some (.int (iI (((hh + d) % 8192 : Nat) : Int))), some (.int (iI d))] [] (WS σ w fd rf sl er nx f s) 0 0 := by
    intro t
    induction t with
    | zero =>
      intro d hd hp
      have := PB.lt hT (by omega) hhl hp
      omega
    | succ t ih =>
      intro d hd hp
      have hP : (hh + d) % 8192 < 8192 := Nat.mod_lt _ (by decide)
      refine z_iload dX5_slotOfNext_40 rfl ?_
      refine i_sipush dX5_slotOfNext_42 (by decide) ?_
      refine i_icmp_ge (tgt := 87) dX5_slotOfNext_45 (by decide) (by omega) (by omega) (fun h1 => ?_) (fun h1 => ?_)
      · skip
        omega
      · skip
        have ht1 := hT.1 _ hP
        refine z_aload_n dX5_slotOfNext_48 rfl ?_
        refine z_getf cls4 3 flX5_15 dX5_slotOfNext_49 (by decide) (WS_70) rfl ?_
        refine z_iload_n dX5_slotOfNext_52 rfl ?_
        refine i_iald dX5_slotOfNext_53 (WS_72) ((hh + d) % 8192) (by omega) (by omega) ?_
        refine i_iconst dX5_slotOfNext_54 rfl ?_
        rw [hsl _ hP]
        refine i_icmp_eq (tgt := 71) dX5_slotOfNext_55 (by decide) (by omega) (by omega) (fun h2 => ?_) (fun h2 => ?_)
        · skip
          refine z_iload_n dX5_slotOfNext_71 rfl ?_
          exact z_iret dX5_slotOfNext_72 rfl (by decide) (by decide) (by rw [hQ]; exact ⟨d, by omega, hp, rfl, rfl, Or.inl (by omega)⟩)
        · skip
          refine z_aload_n dX5_slotOfNext_58 rfl ?_
          refine z_aload_n dX5_slotOfNext_59 rfl ?_
          refine z_getf cls4 3 flX5_15 dX5_slotOfNext_60 (by decide) (WS_70) rfl ?_
          refine z_iload_n dX5_slotOfNext_63 rfl ?_
          refine i_iald dX5_slotOfNext_64 (WS_72) ((hh + d) % 8192) (by omega) (by omega) ?_
          rw [hsl _ hP, show ((tb ((hh + d) % 8192) : Int) - 1) = ((tb ((hh + d) % 8192) - 1 : Nat) : Int) by omega]
          refine i_cVr (k_isNext σ w fd rf sl er nx f s ac ag x (tb ((hh + d) % 8192) - 1) hw hac hr hag hx hxr (by omega) (hrr _ (by omega))) mX5_93 dX5_slotOfNext_65 (WS_70) rfl rfl rfl ⟨by decide, by decide⟩ (Nat.le_of_ble_eq_true rfl) ⟨by decide, by decide⟩ ?_
          by_cases q : eqR ac w (x.1 (tb ((hh + d) % 8192) - 1)) ag
          · rw [bP_t q]
            refine i_ifb_eq (tgt := 73) dX5_slotOfNext_68 (by decide) (fun h3 => ?_) (fun h3 => ?_)
            · skip
              cases h3
            · skip
              refine z_iload_n dX5_slotOfNext_71 rfl ?_
              exact z_iret dX5_slotOfNext_72 rfl (by decide) (by decide) (by rw [hQ]; exact ⟨d, by omega, hp, rfl, rfl, Or.inr ⟨by omega, q⟩⟩)
          · rw [bP_f q]
            refine i_ifb_eq (tgt := 73) dX5_slotOfNext_68 (by decide) (fun h3 => ?_) (fun h3 => ?_)
            · skip
              refine z_iload_n dX5_slotOfNext_73 rfl ?_
              refine i_iconst dX5_slotOfNext_74 rfl ?_
              refine i_iadd dX5_slotOfNext_75 ?_
              refine i_sipush dX5_slotOfNext_76 (by decide) ?_
              refine i_irem dX5_slotOfNext_79 (by omega) (by omega) (by omega) ?_
              refine z_istore_n dX5_slotOfNext_80 (by decide) ?_
              refine i_iinc dX5_slotOfNext_81 rfl (by decide) ?_
              refine z_goto (tgt := 40) dX5_slotOfNext_84 (by decide) ?_
              have ihh := ih (d + 1) (by omega) (hp.s (by omega) q)
              rw [show (((hh + (d + 1)) % 8192 : Nat) : Int) = ((((hh + d) % 8192 : Nat) : Int) + 1).tmod 8192 by rw [Int.tmod_eq_emod_of_nonneg (by omega)]; omega] at ihh
              exact ihh
            · skip
              cases h3
  have H1 : ∀ k : Nat, k ≤ w → PX5_slotOfNext Q NX 4 [some (.ref 70), some (.long (mxC nx k)), none, some (.int (iI k)), none] [] (WS σ w fd rf sl er nx f s) 0 0 := by
    refine up_to w ?_ ?_
    · skip
      refine z_iload_n dX5_slotOfNext_4 rfl ?_
      refine z_aload_n dX5_slotOfNext_5 rfl ?_
      refine z_getf cls4 6 flX5_51 dX5_slotOfNext_6 (by decide) (WS_70) rfl ?_
      refine i_icmp_ge (tgt := 31) dX5_slotOfNext_9 (by decide) (by omega) (by omega) (fun h1 => ?_) (fun h1 => ?_)
      · skip
        refine z_lload_n dX5_slotOfNext_31 rfl ?_
        refine i_bipush dX5_slotOfNext_32 (by decide) ?_
        refine z_lushrx dX5_slotOfNext_34 ?_
        refine z_l2ix dX5_slotOfNext_35 ?_
        refine z_eqi _ (hs_i _) ?_
        rw [show uN (mxC nx w) / 2 ^ 51 = (hh + 0) % 8192 by rw [Nat.add_zero, Nat.mod_eq_of_lt hhl, hhh]; unfold hsC; rw [mxC_congr w (fun i hi => hag i hi)]]
        refine z_istore_n dX5_slotOfNext_36 (by decide) ?_
        refine i_iconst dX5_slotOfNext_37 rfl ?_
        refine z_istore dX5_slotOfNext_38 (by decide) ?_
        exact H2 8192 0 rfl (fun e he => absurd he (Nat.not_lt_zero e))
      · skip
        omega
    · intro k hk ih
      refine z_iload_n dX5_slotOfNext_4 rfl ?_
      refine z_aload_n dX5_slotOfNext_5 rfl ?_
      refine z_getf cls4 6 flX5_51 dX5_slotOfNext_6 (by decide) (WS_70) rfl ?_
      refine i_icmp_ge (tgt := 31) dX5_slotOfNext_9 (by decide) (by omega) (by omega) (fun h1 => ?_) (fun h1 => ?_)
      · skip
        omega
      · skip
        refine z_lload_n dX5_slotOfNext_12 rfl ?_
        refine z_aload_n dX5_slotOfNext_13 rfl ?_
        refine z_getf cls4 5 flX5_23 dX5_slotOfNext_14 (by decide) (WS_70) rfl ?_
        refine z_iload_n dX5_slotOfNext_17 rfl ?_
        refine i_lald dX5_slotOfNext_18 (WS_74) k (by omega) (by omega) ?_
        refine z_ladd dX5_slotOfNext_19 ?_
        refine z_ldc2 dX5_slotOfNext_20 ctX5_91 ?_
        refine z_lmul dX5_slotOfNext_23 ?_
        refine z_lstore_n dX5_slotOfNext_24 (by decide) ?_
        refine i_iinc dX5_slotOfNext_25 rfl (by decide) ?_
        refine z_goto (tgt := 4) dX5_slotOfNext_28 (by decide) ?_
        exact ih
  refine z_lconst (v := lN 0) dX5_slotOfNext_0 rfl ?_
  refine z_lstore_n dX5_slotOfNext_1 (by decide) ?_
  refine i_iconst dX5_slotOfNext_2 rfl ?_
  refine z_istore_n dX5_slotOfNext_3 (by decide) ?_
  exact H1 0 (by omega)
theorem k_keepNext (σ : Wd) (w fd : Nat) (rf : Nat → Nat) (sl : Nat → Int) (er : Nat → Bool) (nx : Nat → Nat) (f s p : Nat) (hw : w ≤ 6) (hfd : fd < 3000) (hp : p < 8192) :
    KX5_keepNext [.ref 70, .int (iI p)] (WS σ w fd rf sl er nx f s) (fun r u => ∃ rf', r = none ∧ u = WS σ w (fd + 1) rf' (va_up sl p fd) er nx f s ∧ (∀ q, q < fd * w → rf' q = rf q) ∧ ∀ i, i < w → rf' (fd * w + i) = nx i) NX := by
  refine Ct.intro (by decide) (Nat.le_of_ble_eq_true rfl) ?_
  obtain ⟨Q, hQ⟩ : ∃ Q : Option Value → Wd → Prop, Q = fun r u => ∃ rf', r = none ∧ u = WS σ w (fd + 1) rf' (va_up sl p fd) er nx f s ∧ (∀ q, q < fd * w → rf' q = rf q) ∧ ∀ i, i < w → rf' (fd * w + i) = nx i := ⟨_, rfl⟩
  rw [← hQ]
  have H : ∀ k : Nat, k ≤ w → ∀ (rf' : Nat → Nat), (∀ q, q < fd * w → rf' q = rf q) → (∀ i, i < k → rf' (fd * w + i) = nx i) → PX5_keepNext Q NX 12 [some (.ref 70), some (.int (iI p)), some (.int (iI k))] [] (WS σ w fd rf' (va_up sl p fd) er nx f s) 0 0 := by
    refine up_to w ?_ ?_
    · intro rf' h1 h2
      refine z_iload_n dX5_keepNext_12 rfl ?_
      refine z_aload_n dX5_keepNext_13 rfl ?_
      refine z_getf cls4 6 flX5_51 dX5_keepNext_14 (by decide) (WS_70) rfl ?_
      refine i_icmp_ge (tgt := 48) dX5_keepNext_17 (by decide) (by omega) (by omega) (fun h3 => ?_) (fun h3 => ?_)
      · skip
        refine z_aload_n dX5_keepNext_48 rfl ?_
        refine z_dup dX5_keepNext_49 rfl ?_
        refine z_getf cls4 7 flX5_55 dX5_keepNext_50 (by decide) (WS_70) rfl ?_
        refine i_iconst dX5_keepNext_53 rfl ?_
        refine i_iadd dX5_keepNext_54 ?_
        refine i_puti cls4 7 flX5_55 dX5_keepNext_55 (by decide) rfl rfl (WS_70) (Nat.le_of_ble_eq_true rfl) ?_
        rw [show ((fd : Int) + 1) = ((fd + 1 : Nat) : Int) by omega]
        refine z_eqw (WS_s70 w (fd + 1)) ?_
        exact z_vret dX5_keepNext_58 rfl (by decide) (by decide) (by rw [hQ]; exact ⟨rf', rfl, rfl, h1, h2⟩)
      · skip
        omega
    · intro k hk ih rf' h1 h2
      refine z_iload_n dX5_keepNext_12 rfl ?_
      refine z_aload_n dX5_keepNext_13 rfl ?_
      refine z_getf cls4 6 flX5_51 dX5_keepNext_14 (by decide) (WS_70) rfl ?_
      refine i_icmp_ge (tgt := 48) dX5_keepNext_17 (by decide) (by omega) (by omega) (fun h3 => ?_) (fun h3 => ?_)
      · skip
        omega
      · skip
        refine z_aload_n dX5_keepNext_20 rfl ?_
        refine z_getf cls4 2 flX5_9 dX5_keepNext_21 (by decide) (WS_70) rfl ?_
        refine z_aload_n dX5_keepNext_24 rfl ?_
        refine z_getf cls4 7 flX5_55 dX5_keepNext_25 (by decide) (WS_70) rfl ?_
        refine z_aload_n dX5_keepNext_28 rfl ?_
        refine z_getf cls4 6 flX5_51 dX5_keepNext_29 (by decide) (WS_70) rfl ?_
        refine i_imul dX5_keepNext_32 ?_
        refine z_iload_n dX5_keepNext_33 rfl ?_
        refine i_iadd dX5_keepNext_34 ?_
        refine z_aload_n dX5_keepNext_35 rfl ?_
        refine z_getf cls4 5 flX5_23 dX5_keepNext_36 (by decide) (WS_70) rfl ?_
        refine z_iload_n dX5_keepNext_39 rfl ?_
        refine i_lald dX5_keepNext_40 (WS_74) k (by omega) (by omega) ?_
        refine i_last dX5_keepNext_41 (WS_71) (fd * w + k) rx (rx_lt hfd hw hk) ?_
        rw [WS_s71]
        refine i_iinc dX5_keepNext_42 rfl (by decide) ?_
        refine z_goto (tgt := 12) dX5_keepNext_45 (by decide) ?_
        refine ih _ (fun q hq => ?_) (fun i hi => ?_)
        · rw [va_up_ne _ _ (by omega)]; exact h1 q hq
        · by_cases z : i = k
          · rw [z, va_up_self]
          · rw [va_up_ne _ _ (by omega)]; exact h2 i (by omega)
  refine z_aload_n dX5_keepNext_0 rfl ?_
  refine z_getf cls4 3 flX5_15 dX5_keepNext_1 (by decide) (WS_70) rfl ?_
  refine z_iload_n dX5_keepNext_4 rfl ?_
  refine z_aload_n dX5_keepNext_5 rfl ?_
  refine z_getf cls4 7 flX5_55 dX5_keepNext_6 (by decide) (WS_70) rfl ?_
  refine i_iast dX5_keepNext_9 (WS_72) p (by omega) (by omega) ?_
  rw [WS_s72]
  refine i_iconst dX5_keepNext_10 rfl ?_
  refine z_istore_n dX5_keepNext_11 (by decide) ?_
  exact H 0 (by omega) rf (fun _ _ => rfl) (fun i hi => absurd hi (Nat.not_lt_zero i))

