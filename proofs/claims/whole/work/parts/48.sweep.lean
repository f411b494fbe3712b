abbrev GS : Type := (Nat → Nat → St) × Nat
/-- i meets j in a crowd -/
def mtg (ac : Nat) (M E B : Nat → Int) (ag : Nat → Nat → St) (i j : Nat) : Nat → Nat → St := va_up (va_up ag i (mtA1 ac M E B (ag i) (ag j))) j (mtA2 ac M E B (ag i) (ag j))
def chN (b : Bool) : Nat := bif b then 1 else 0
/-- i meets the k behind it -/
def swR (ac : Nat) (M E B : Nat → Int) (i : Nat) : Nat → GS → GS
  | 0, s => s
  | k + 1, s => (mtg ac M E B (swR ac M E B i k s).1 i (i + 1 + k), (swR ac M E B i k s).2 + chN (chg ac M E B ((swR ac M E B i k s).1 i) ((swR ac M E B i k s).1 (i + 1 + k))))
def swO (ac : Nat) (M E B : Nat → Int) (cnt : Nat) : Nat → GS → GS
  | 0, s => s
  | i + 1, s => swR ac M E B i (cnt - (i + 1)) (swO ac M E B cnt i s)
def okC (ac : Nat) (M B : Nat → Int) (cnt : Nat) (ag : Nat → Nat → St) : Prop := ∀ i, i < cnt → okG ac M B (ag i)
def noL (ac : Nat) (x : Nat → St) : Prop := ∀ a, a < ac → (x a).1 = false
section SW
variable {ac : Nat} {M E B : Nat → Int} {CF : Nat → Nat → Int} {cnt : Nat}
theorem mtg_ok (hA : okAs ac M E B CF) {ag : Nat → Nat → St} (h : okC ac M B cnt ag) {i j : Nat} (hi : i < cnt) (hj : j < cnt) : okC ac M B cnt (mtg ac M E B ag i j) := fun k hk => by
  obtain ⟨m1, m2⟩ := okG.mt (E := E) hA (h i hi) (h j hj)
  unfold mtg
  by_cases q : k = j
  · rw [q, va_up_self]; exact m2
  · rw [va_up_ne _ _ q]
    by_cases q2 : k = i
    · rw [q2, va_up_self]; exact m1
    · rw [va_up_ne _ _ q2]; exact h k hk
theorem mt_nl1 {m e b : Int} {x y : St} (hx : x.1 = false) : (mt m e b x y).1.1 = false := by
  unfold mt
  split
  · exact hx
  · rw [if_neg (by rw [hx]; decide)]
theorem mt_nl2 {m e b : Int} {x y : St} (hy : y.1 = false) : (mt m e b x y).2.1 = false := by
  unfold mt
  by_cases hx : x.1 = false
  · rw [if_pos ⟨hx, hy⟩]; exact hy
  · rw [if_neg (fun q => hx q.1), if_pos (by simpa using hx)]
theorem mtg_nl {ag : Nat → Nat → St} {i j k : Nat} (h : noL ac (ag k)) : noL ac (mtg ac M E B ag i j k) := fun a ha => by
  unfold mtg
  by_cases q : k = j
  · rw [q, va_up_self, mtA2_at ha]; rw [q] at h; exact mt_nl2 (h a ha)
  · rw [va_up_ne _ _ q]
    by_cases q2 : k = i
    · rw [q2, va_up_self, mtA1_at ha]; rw [q2] at h; exact mt_nl1 (h a ha)
    · rw [va_up_ne _ _ q2]; exact h a ha
theorem no_chg {x y : Nat → St} (hx : noL ac x) (hy : noL ac y) : mtA1 ac M E B x y = x ∧ mtA2 ac M E B x y = y := by
  refine ⟨funext fun a => ?_, funext fun a => ?_⟩
  · by_cases q : a < ac
    · rw [mtA1_at q, mt_no (hx a q) (hy a q)]
    · exact if_neg q
  · by_cases q : a < ac
    · rw [mtA2_at q, mt_no (hx a q) (hy a q)]
    · exact if_neg q
theorem mtg_id {ag : Nat → Nat → St} {i j : Nat} (h1 : mtA1 ac M E B (ag i) (ag j) = ag i) (h2 : mtA2 ac M E B (ag i) (ag j) = ag j) : mtg ac M E B ag i j = ag := by
  unfold mtg
  rw [h1, h2]
  funext k
  by_cases q : k = j
  · rw [q, va_up_self]
  · rw [va_up_ne _ _ q]
    by_cases q2 : k = i
    · rw [q2, va_up_self]
    · rw [va_up_ne _ _ q2]
theorem swR_ok (hA : okAs ac M E B CF) {i : Nat} (hi : i < cnt) : ∀ (k : Nat) (s : GS), i + 1 + k ≤ cnt → okC ac M B cnt s.1 → okC ac M B cnt (swR ac M E B i k s).1
  | 0, s, _, h => h
  | k + 1, s, hk, h => mtg_ok hA (swR_ok hA hi k s (by omega) h) hi (by omega)
theorem swR_cnt {i : Nat} : ∀ (k : Nat) (s : GS), s.2 ≤ (swR ac M E B i k s).2 ∧ (swR ac M E B i k s).2 ≤ s.2 + k
  | 0, s => ⟨Nat.le_refl _, Nat.le_refl _⟩
  | k + 1, s => by
    have ih := swR_cnt (i := i) k s
    show s.2 ≤ (swR ac M E B i k s).2 + chN _ ∧ (swR ac M E B i k s).2 + chN _ ≤ s.2 + (k + 1)
    have : ∀ b, chN b ≤ 1 := fun b => by cases b <;> decide
    have := this (chg ac M E B ((swR ac M E B i k s).1 i) ((swR ac M E B i k s).1 (i + 1 + k)))
    omega
theorem swR_nl {i j : Nat} : ∀ (k : Nat) (s : GS), noL ac (s.1 j) → noL ac ((swR ac M E B i k s).1 j)
  | 0, s, h => h
  | k + 1, s, h => mtg_nl (swR_nl k s h)
theorem swO_ok (hA : okAs ac M E B CF) : ∀ (i : Nat) (s : GS), i ≤ cnt → okC ac M B cnt s.1 → okC ac M B cnt (swO ac M E B cnt i s).1
  | 0, s, _, h => h
  | i + 1, s, hi, h => swR_ok hA (by omega) _ _ (by omega) (swO_ok hA i s (by omega) h)
theorem swO_cnt : ∀ (i : Nat) (s : GS), s.2 ≤ (swO ac M E B cnt i s).2 ∧ (swO ac M E B cnt i s).2 ≤ s.2 + cnt * i
  | 0, s => ⟨Nat.le_refl _, Nat.le_refl _⟩
  | i + 1, s => by
    have ih := swO_cnt i s
    have h2 := swR_cnt (ac := ac) (M := M) (E := E) (B := B) (i := i) (cnt - (i + 1)) (swO ac M E B cnt i s)
    show s.2 ≤ (swR ac M E B i (cnt - (i + 1)) (swO ac M E B cnt i s)).2 ∧ (swR ac M E B i (cnt - (i + 1)) (swO ac M E B cnt i s)).2 ≤ s.2 + cnt * (i + 1)
    rw [Nat.mul_succ]
    omega
theorem swO_nl {j : Nat} : ∀ (i : Nat) (s : GS), noL ac (s.1 j) → noL ac ((swO ac M E B cnt i s).1 j)
  | 0, s, h => h
  | i + 1, s, h => swR_nl _ _ (swO_nl i s h)
/-- behind the last leader nothing happens to one that does not lead -/
theorem swR_skip (hA : okAs ac M E B CF) {i K : Nat} {s : GS} (hi : i < cnt) (hok : okC ac M B cnt s.1) (hin : noL ac (s.1 i)) (hK : ∀ j, i + 1 + K ≤ j → j < cnt → noL ac (s.1 j)) : ∀ k, K ≤ k → i + 1 + k ≤ cnt → swR ac M E B i k s = swR ac M E B i K s := by
  intro k hk hkc
  induction k with
  | zero => have : K = 0 := by omega
            rw [this]
  | succ k ih =>
    by_cases q : K = k + 1
    · rw [q]
    · have e := ih (by omega) (by omega)
      have n1 : noL ac ((swR ac M E B i k s).1 i) := swR_nl k s hin
      have n2 : noL ac ((swR ac M E B i k s).1 (i + 1 + k)) := swR_nl k s (hK _ (by omega) (by omega))
      obtain ⟨c1, c2⟩ := no_chg (M := M) (E := E) (B := B) n1 n2
      have o := swR_ok hA hi k s (by omega) hok
      have c3 := (chg_f hA (o i hi) (o (i + 1 + k) (by omega))).mpr ⟨c1, c2⟩
      show (mtg ac M E B (swR ac M E B i k s).1 i (i + 1 + k), (swR ac M E B i k s).2 + chN (chg ac M E B ((swR ac M E B i k s).1 i) ((swR ac M E B i k s).1 (i + 1 + k)))) = _
      rw [mtg_id c1 c2, c3]
      exact e
end SW
/-- a sweep; sweeps until nothing changes -/
def swA (ac : Nat) (M E B : Nat → Int) (cnt : Nat) (ag : Nat → Nat → St) : GS := swO ac M E B cnt cnt (ag, 0)
def swT (ac : Nat) (M E B : Nat → Int) (cnt : Nat) : Nat → (Nat → Nat → St) → GS
  | 0, ag => (ag, 0)
  | t + 1, ag => if (swA ac M E B cnt ag).2 = 0 then swA ac M E B cnt ag else ((swT ac M E B cnt t (swA ac M E B cnt ag).1).1, (swA ac M E B cnt ag).2 + (swT ac M E B cnt t (swA ac M E B cnt ag).1).2)
def WC (σ : Wd) (fa : Nat → Nat) (f s : Nat) : Wd := up (up σ 10 (obM f s)) 8 (AL 200 fa)
section WCS
variable {σ : Wd} {fa : Nat → Nat} {f s : Nat}
theorem WC_8 : WC σ fa f s 8 = some (AL 200 fa) := up_self _ _ _
theorem WC_10 : WC σ fa f s 10 = some (obM f s) := by unfold WC; rw [up_ne _ _ (by decide), up_self]
theorem WC_x {q : Nat} (h1 : q ≠ 8) (h2 : q ≠ 10) : WC σ fa f s q = σ q := by unfold WC; rw [up_ne _ _ h1, up_ne _ _ h2]
theorem WC_s10 (f' s' : Nat) : up (WC σ fa f s) 10 (obM f' s') = WC σ fa f' s' := by unfold WC; rw [up_comm _ _ _ (show (8 : Nat) ≠ 10 by decide), up_up]
theorem WC_s8 (fa' : Nat → Nat) : up (WC σ fa f s) 8 (AL 200 fa') = WC σ fa' f s := by unfold WC; rw [up_up]
theorem WC_F {nc ac : Nat} {cp : Bool} {op lf rt M E B S : Nat → Int} {CF CD NB FR : Nat → Nat → Int} (h : FX σ nc ac cp op lf rt M E B S CF CD NB FR) : FX (WC σ fa f s) nc ac cp op lf rt M E B S CF CD NB FR := (h.up _ (by omega)).up _ (by omega)
theorem WC_id (h8 : σ 8 = some (AL 200 fa)) (h10 : σ 10 = some (obM f s)) : WC σ fa f s = σ := by unfold WC; rw [up_id h10, up_id h8]
end WCS
/-- the words of a crowd -/
def AG (ac cnt : Nat) (fa : Nat → Nat) (ag : Nat → Nat → St) : Prop := ∀ i, i < cnt → fa i = pkC (ag i) ac
theorem AG_mtg {ac cnt : Nat} {M E B : Nat → Int} {fa : Nat → Nat} {ag : Nat → Nat → St} (h : AG ac cnt fa ag) (i j : Nat) : AG ac cnt (va_up (va_up fa i (pkC (mtA1 ac M E B (ag i) (ag j)) ac)) j (pkC (mtA2 ac M E B (ag i) (ag j)) ac)) (mtg ac M E B ag i j) := fun k hk => by
  unfold mtg
  by_cases q : k = j
  · rw [q, va_up_self, va_up_self]
  · rw [va_up_ne _ _ q, va_up_ne _ _ q]
    by_cases q2 : k = i
    · rw [q2, va_up_self, va_up_self]
    · rw [va_up_ne _ _ q2, va_up_ne _ _ q2]; exact h k hk
theorem k_bringTogether (σ : Wd) (cnt i j f s : Nat) (fa : Nat → Nat) (ag : Nat → Nat → St) (nc ac : Nat) (cp : Bool) (op lf rt M E B S : Nat → Int) (CF CD NB FR : Nat → Nat → Int) (hc : cnt ≤ 200) (hi : i < cnt) (hj : j < cnt) (hac : ac ≤ 5) (hok : okAs ac M E B CF) (hF : FX σ nc ac cp op lf rt M E B S CF CD NB FR) (h7 : σ 7 = some (obC cnt)) (hag : AG ac cnt fa ag) (hok2 : okC ac M B cnt ag) :
    KX2_bringTogether [.ref 7, .int (iI i), .int (iI j)] (WC σ fa f s) (Rt (some (.int (iI (bI (chg ac M E B (ag i) (ag j)))))) (WC σ (va_up (va_up fa i (pkC (mtA1 ac M E B (ag i) (ag j)) ac)) j (pkC (mtA2 ac M E B (ag i) (ag j)) ac)) (pkC (mtA1 ac M E B (ag i) (ag j)) ac) (pkC (mtA2 ac M E B (ag i) (ag j)) ac))) NX := by
  refine Ct.intro (by decide) (Nat.le_of_ble_eq_true rfl) ?_
  have g7 : ∀ (fa : Nat → Nat) (f s : Nat), WC σ fa f s 7 = some (obC cnt) := fun fa f s => (WC_x (by decide) (by decide)).trans h7
  refine z_aload_n dX2_bringTogether_0 rfl ?_
  refine z_getf cls1 1 flX2_28 dX2_bringTogether_1 (by decide) (g7 _ _ _) rfl ?_
  refine z_aload_n dX2_bringTogether_4 rfl ?_
  refine z_getf cls1 2 flX2_9 dX2_bringTogether_5 (by decide) (g7 _ _ _) rfl ?_
  refine z_iload_n dX2_bringTogether_8 rfl ?_
  refine i_lald dX2_bringTogether_9 (WC_8) i (by omega) (by omega) ?_
  refine z_aload_n dX2_bringTogether_10 rfl ?_
  refine z_getf cls1 2 flX2_9 dX2_bringTogether_11 (by decide) (g7 _ _ _) rfl ?_
  refine z_iload_n dX2_bringTogether_14 rfl ?_
  refine i_lald dX2_bringTogether_15 (WC_8) j (by omega) (by omega) ?_
  rw [hag i hi, hag j hj]
  refine i_cVr (k_changes _ 10 f s nc ac cp op lf rt M E B S CF CD NB FR (ag i) (ag j) WC_10 (by omega) (WC_F hF) hac hok (hok2 i hi) (hok2 j hj)) mX2_48 dX2_bringTogether_16 (WC_10) rfl rfl rfl ⟨by decide, by decide⟩ (Nat.le_of_ble_eq_true rfl) ⟨by decide, by decide⟩ ?_
  rw [WC_s10]
  refine z_istore_n dX2_bringTogether_19 (by decide) ?_
  refine z_aload_n dX2_bringTogether_20 rfl ?_
  refine z_getf cls1 2 flX2_9 dX2_bringTogether_21 (by decide) (g7 _ _ _) rfl ?_
  refine z_iload_n dX2_bringTogether_24 rfl ?_
  refine z_aload_n dX2_bringTogether_25 rfl ?_
  refine z_getf cls1 1 flX2_28 dX2_bringTogether_26 (by decide) (g7 _ _ _) rfl ?_
  refine i_cVr (k_X4_first _ 10 _ _ WC_10) mX2_52 dX2_bringTogether_29 (WC_10) rfl rfl rfl ⟨by decide, by decide⟩ (Nat.le_of_ble_eq_true rfl) ⟨by decide, by decide⟩ ?_
  refine i_last dX2_bringTogether_32 (WC_8) i (by omega) (by omega) ?_
  rw [WC_s8]
  refine z_aload_n dX2_bringTogether_33 rfl ?_
  refine z_getf cls1 2 flX2_9 dX2_bringTogether_34 (by decide) (g7 _ _ _) rfl ?_
  refine z_iload_n dX2_bringTogether_37 rfl ?_
  refine z_aload_n dX2_bringTogether_38 rfl ?_
  refine z_getf cls1 1 flX2_28 dX2_bringTogether_39 (by decide) (g7 _ _ _) rfl ?_
  refine i_cVr (k_X4_second _ 10 _ _ WC_10) mX2_56 dX2_bringTogether_42 (WC_10) rfl rfl rfl ⟨by decide, by decide⟩ (Nat.le_of_ble_eq_true rfl) ⟨by decide, by decide⟩ ?_
  refine i_last dX2_bringTogether_45 (WC_8) j (by omega) (by omega) ?_
  rw [WC_s8]
  refine z_iload_n dX2_bringTogether_46 rfl ?_
  exact i_zret dX2_bringTogether_47 rfl (by decide) (by decide) rfl
theorem k_behindLastLeader (σ : Wd) (cnt : Nat) (fa : Nat → Nat) (ag : Nat → Nat → St) (ac : Nat) (hc : cnt ≤ 200) (hac : ac ≤ 5) (h7 : σ 7 = some (obC cnt)) (h8 : σ 8 = some (AL 200 fa)) (hag : AG ac cnt fa ag) (hr : ∀ i, i < cnt → ∀ a, a < ac → rg (ag i a)) :
    KX2_behindLastLeader [.ref 7] σ (fun r u => ∃ e : Nat, e ≤ cnt ∧ r = some (.int (iI e)) ∧ u = σ ∧ ∀ j, e ≤ j → j < cnt → noL ac (ag j)) NX := by
  refine Ct.intro (by decide) (Nat.le_of_ble_eq_true rfl) ?_
  obtain ⟨Q, hQ⟩ : ∃ Q : Option Value → Wd → Prop, Q = fun r u => ∃ e : Nat, e ≤ cnt ∧ r = some (.int (iI e)) ∧ u = σ ∧ ∀ j, e ≤ j → j < cnt → noL ac (ag j) := ⟨_, rfl⟩
  rw [← hQ]
  have H : ∀ e : Nat, e ≤ cnt → (∀ j, e ≤ j → j < cnt → noL ac (ag j)) → PX2_behindLastLeader Q NX 5 [some (.ref 7), some (.int (iI e))] [] σ 0 0 := by
    intro e
    induction e with
    | zero =>
      intro he hn
      refine z_iload_n dX2_behindLastLeader_5 rfl ?_
      refine i_if_le (tgt := 29) dX2_behindLastLeader_6 (by decide) (by omega) (fun h1 => ?_) (fun h1 => ?_)
      · skip
        refine z_iload_n dX2_behindLastLeader_29 rfl ?_
        exact z_iret dX2_behindLastLeader_30 rfl (by decide) (by decide) (by rw [hQ]; exact ⟨0, by omega, rfl, rfl, hn⟩)
      · skip
        omega
    | succ e ih =>
      intro he hn
      refine z_iload_n dX2_behindLastLeader_5 rfl ?_
      refine i_if_le (tgt := 29) dX2_behindLastLeader_6 (by decide) (by omega) (fun h1 => ?_) (fun h1 => ?_)
      · skip
        omega
      · skip
        refine z_aload_n dX2_behindLastLeader_9 rfl ?_
        refine z_getf cls1 2 flX2_9 dX2_behindLastLeader_10 (by decide) (by first | exact h7 | rfl) rfl ?_
        refine z_iload_n dX2_behindLastLeader_13 rfl ?_
        refine i_iconst dX2_behindLastLeader_14 rfl ?_
        refine i_isub dX2_behindLastLeader_15 ?_
        refine i_lald dX2_behindLastLeader_16 (by first | exact h8 | rfl) e (by omega) (by omega) ?_
        rw [hag e (by omega)]
        refine i_cSr (k_X1_leadsSomewhere _ (pkC_lt hac (hr e (by omega))) σ) mX2_66 dX2_behindLastLeader_17 rfl rfl ⟨by decide, by decide⟩ (Nat.le_of_ble_eq_true rfl) ⟨by decide, by decide⟩ ?_
        refine i_ifb_ne (tgt := 29) dX2_behindLastLeader_20 (by decide) (fun h2 => ?_) (fun h2 => ?_)
        · skip
          refine z_iload_n dX2_behindLastLeader_29 rfl ?_
          exact z_iret dX2_behindLastLeader_30 rfl (by decide) (by decide) (by rw [hQ]; exact ⟨e + 1, he, rfl, rfl, hn⟩)
        · skip
          refine i_iinc dX2_behindLastLeader_23 rfl (by decide) ?_
          refine z_goto (tgt := 5) dX2_behindLastLeader_26 (by decide) ?_
          rw [show ((e + 1 : Nat) : Int) + -1 = (e : Int) by omega]
          refine ih (by omega) (fun j h3 h4 => ?_)
          by_cases q : j = e
          · rw [q]; exact fun a ha => ld_no hac (hr e (by omega)) h2 ha
          · exact hn j (by omega) h4
  refine z_aload_n dX2_behindLastLeader_0 rfl ?_
  refine z_getf cls1 4 flX2_38 dX2_behindLastLeader_1 (by decide) (by first | exact h7 | rfl) rfl ?_
  refine z_istore_n dX2_behindLastLeader_4 (by decide) ?_
  exact H cnt (Nat.le_refl _) (fun j h1 h2 => absurd h1 (by omega))

