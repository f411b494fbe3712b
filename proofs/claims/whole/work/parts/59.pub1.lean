def cdCoef (l v : Int) : Nat := if (0 ≤ l ∧ l < 8) ∧ (-20 ≤ v ∧ v ≤ 20) then 0 else 1
def cdSum (a : AS) (c : Int) : Nat := if -20 ≤ c ∧ c ≤ 20 then (if takA a.nc a.ac a.cp = true then 0 else 2) else 1
def cdMod (a : AS) (r m : Int) : Nat := if (2 ≤ m ∧ m ≤ 16) ∧ (0 ≤ r ∧ r < m) then (if takA a.nc a.ac a.cp = true then 0 else 2) else 1
def cdComb (a : AS) (o l r : Int) : Nat := if (0 ≤ o ∧ o ≤ 2) ∧ (0 ≤ l ∧ l < a.nc) ∧ (o = 2 ∨ (0 ≤ r ∧ r < a.nc)) then (if takN a.nc a.cp = true then 0 else 2) else 1
def cdComp (a : AS) : Nat := if a.cp = false ∧ 0 < a.nc ∧ shB a.op a.lf a.rt a.nc = false then 0 else 1
def cdAdd (a : AS) (l n : Int) : Nat := if (0 ≤ l ∧ l < 8) ∧ 0 ≤ n then (if a.cp = true ∧ n ≤ 200 - (a.cnt : Int) then 0 else 2) else 1
theorem takN_t {nc : Nat} {cp : Bool} (h : takN nc cp = true) : cp = false ∧ nc < 20 := by
  unfold takN at h
  cases cp with
  | true => cases h
  | false => exact ⟨rfl, Nat.ble_eq.mp h⟩
theorem takA_t {nc ac : Nat} {cp : Bool} (h : takA nc ac cp = true) : cp = false ∧ nc < 20 ∧ ac < 5 := by
  unfold takA at h
  rw [Bool.and_eq_true] at h
  obtain ⟨h1, h2⟩ := takN_t h.1
  exact ⟨h1, h2, Nat.ble_eq.mp h.2⟩
theorem fx_up1 {σ : Wd} {nc ac nc' ac' : Nat} {cp cp' : Bool} {op lf rt M E B S : Nat → Int} {CF CD NB FR : Nat → Nat → Int} (h : FX σ nc ac cp op lf rt M E B S CF CD NB FR) : FX (up σ 1 (obF nc' ac' cp')) nc' ac' cp' op lf rt M E B S CF CD NB FR := ⟨rfl, h.2.1, h.2.2.1, h.2.2.2.1, h.2.2.2.2.1, h.2.2.2.2.2.up _ (by omega)⟩
theorem k_clear {σ : Wd} {a : AS} (hD : DK σ a) : KX6_clear [.ref 0] σ (fun r u => r = none ∧ DK u (oClear a) ∧ F1 σ u) NX := by
  obtain ⟨rc, S, CD, NB, FR, fa, f, s, sr, hF, g1, h0, h2, h7, h8, h9, h10, g8, g9, g10⟩ := hD
  refine Ct.intro (by decide) (Nat.le_of_ble_eq_true rfl) ?_
  refine z_aload_n dX6_clear_0 rfl ?_
  refine z_getf cls5 0 flX6_10 dX6_clear_1 (by decide) (by first | exact h0 | rfl) rfl ?_
  refine i_cVv (k_X3_reset σ a.nc a.ac a.cp a.pd hF.1 h2) mX6_33 dX6_clear_4 (by first | exact hF.1 | rfl) rfl rfl rfl ⟨by decide, by decide⟩ (Nat.le_of_ble_eq_true rfl) ⟨by decide, by decide⟩ ?_
  refine z_aload_n dX6_clear_7 rfl ?_
  refine z_getf cls5 1 flX6_21 dX6_clear_8 (by decide) (by first | exact h0 | rfl) rfl ?_
  refine i_cVv (k_X2_reset _ a.cnt a.lt h7 h9) mX6_36 dX6_clear_11 (by first | exact h7 | rfl) rfl rfl rfl ⟨by decide, by decide⟩ (Nat.le_of_ble_eq_true rfl) ⟨by decide, by decide⟩ ?_
  refine z_aload_n dX6_clear_14 rfl ?_
  refine i_iconst dX6_clear_15 rfl ?_
  refine i_putz (b := false) cls5 3 flX6_29 dX6_clear_16 (by decide) rfl rfl (by first | exact h0 | rfl) (Nat.le_of_ble_eq_true rfl) ?_
  refine z_vret dX6_clear_19 rfl (by decide) (by decide) ⟨rfl, ⟨rc, S, CD, NB, FR, fa, f, s, sr, ?_, fun k hk => absurd hk (Nat.not_lt_zero k), rfl, rfl, rfl, h8, rfl, h10, fun i hi => absurd hi (Nat.not_lt_zero i), fun z => (by cases z), ?_⟩, ?_⟩
  · exact (((fx_up1 (hF.up _ (by omega))).up _ (by omega)).up _ (by omega)).up _ (by omega)
  · exact (SD.no g10).fr (fun q q1 q2 => by rw [up_ne _ _ (by omega), up_ne _ _ (by omega), up_ne _ _ (by omega), up_ne _ _ (by omega), up_ne _ _ (by omega)])
  · exact ((((F1.rfl.up _ (by omega)).up _ (by omega)).up _ (by omega)).up _ (by omega)).up _ (by omega)
theorem k_coef {σ : Wd} {a : AS} (hD : DK σ a) (l v : Int) (hl : i32 l) (hv : i32 v) : KX6_coef [.ref 0, .int (iI l), .int (iI v)] σ (QO (cdCoef l v) (.int (iI (a.pd l.toNat))) σ (oCoef a l.toNat v)) (QE (cdCoef l v) IAE ISE σ) := by
  obtain ⟨rc, S, CD, NB, FR, fa, f, s, sr, hF, g1, h0, h2, h7, h8, h9, h10, g8, g9, g10⟩ := hD
  refine Ct.intro (by decide) (Nat.le_of_ble_eq_true rfl) ?_
  refine z_iload_n dX6_coef_0 rfl ?_
  refine i_cSr (k_isLetter _ l hl) mX6_37 dX6_coef_1 rfl rfl ⟨by decide, by decide⟩ (Nat.le_of_ble_eq_true rfl) ⟨by decide, by decide⟩ ?_
  refine i_ifb_ne (tgt := 17) dX6_coef_4 (by decide) (fun h1 => ?_) (fun h1 => ?_)
  · skip
    have h1 := of_decide_eq_true h1
    refine z_iload_n dX6_coef_17 rfl ?_
    refine i_cSr (k_isCoefficient _ v hv) mX6_48 dX6_coef_18 rfl rfl ⟨by decide, by decide⟩ (Nat.le_of_ble_eq_true rfl) ⟨by decide, by decide⟩ ?_
    refine i_ifb_ne (tgt := 34) dX6_coef_21 (by decide) (fun h3 => ?_) (fun h3 => ?_)
    · skip
      have h3 := of_decide_eq_true h3
      obtain ⟨l, rfl⟩ := Int.eq_ofNat_of_zero_le h1.1
      refine z_aload_n dX6_coef_34 rfl ?_
      refine z_getf cls5 0 flX6_10 dX6_coef_35 (by decide) (by first | exact h0 | rfl) rfl ?_
      refine z_iload_n dX6_coef_38 rfl ?_
      refine z_iload_n dX6_coef_39 rfl ?_
      refine i_cVr (k_setPending _ a.nc a.ac a.cp a.pd l v (by omega) hF.1 h2) mX6_53 dX6_coef_40 (by first | exact hF.1 | rfl) rfl rfl rfl ⟨by decide, by decide⟩ (Nat.le_of_ble_eq_true rfl) ⟨by decide, by decide⟩ ?_
      refine z_iret dX6_coef_43 rfl (by decide) (by decide) ⟨if_pos ⟨h1, h3⟩, rfl, ⟨rc, S, CD, NB, FR, fa, f, s, sr, hF.up _ (by omega), g1, h0, rfl, h7, h8, h9, h10, g8, g9, ?_⟩, F1.rfl.up _ (by omega)⟩
      exact g10.fr (fun q q1 q2 => up_ne _ _ (by omega))
    · skip
      have h3 := of_decide_eq_false h3
      refine z_throwS (text := "v is not -20 .. 20") rfl tw_iae clX6_41 in_IllegalArgumentException (by decide +kernel) (by decide +kernel) dX6_coef_24 dX6_coef_27 dX6_coef_28 dX6_coef_30 dX6_coef_33 (by decide) (Nat.le_of_ble_eq_true rfl) (by decide) (by decide) ?_
      exact ⟨rfl, Or.inl ⟨if_neg (fun z => h3 z.2), rfl⟩⟩
  · skip
    have h1 := of_decide_eq_false h1
    refine z_throwS (text := "no such letter") rfl tw_iae clX6_41 in_IllegalArgumentException (by decide +kernel) (by decide +kernel) dX6_coef_7 dX6_coef_10 dX6_coef_11 dX6_coef_13 dX6_coef_16 (by decide) (Nat.le_of_ble_eq_true rfl) (by decide) (by decide) ?_
    exact ⟨rfl, Or.inl ⟨if_neg (fun z => h1 z.1), rfl⟩⟩
theorem fx_at {σ : Wd} {nc ac : Nat} {cp : Bool} {op lf rt M E B S : Nat → Int} {CF CD NB FR : Nat → Nat → Int} (h : FX σ nc ac cp op lf rt M E B S CF CD NB FR) (ha : ac < 5) (m e b s : Int) (pd : Nat → Int) : FX (up (up σ (20 + 10 * ac) (obA (20 + 10 * ac) m e b s)) (20 + 10 * ac + 1) (AI 8 pd)) nc ac cp op lf rt (va_up M ac m) (va_up E ac e) (va_up B ac b) (va_up S ac s) (va_up CF ac pd) CD NB FR := by
  obtain ⟨f1, f2, f3, f4, f5, f6⟩ := h
  refine ⟨by rw [up_ne _ _ (by omega), up_ne _ _ (by omega)]; exact f1, by rw [up_ne _ _ (by omega), up_ne _ _ (by omega)]; exact f2, by rw [up_ne _ _ (by omega), up_ne _ _ (by omega)]; exact f3, by rw [up_ne _ _ (by omega), up_ne _ _ (by omega)]; exact f4, by rw [up_ne _ _ (by omega), up_ne _ _ (by omega)]; exact f5, fun b ha => ?_⟩
  by_cases q : b = ac
  · subst q
    rw [va_up_self, va_up_self, va_up_self, va_up_self, va_up_self]
    obtain ⟨g1, g2, g3, g4, g5⟩ := f6 b ha
    exact ⟨by rw [up_ne _ _ (by omega), up_self], up_self _ _ _, by rw [up_ne _ _ (by omega), up_ne _ _ (by omega)]; exact g3, by rw [up_ne _ _ (by omega), up_ne _ _ (by omega)]; exact g4, by rw [up_ne _ _ (by omega), up_ne _ _ (by omega)]; exact g5⟩
  · rw [va_up_ne _ _ q, va_up_ne _ _ q, va_up_ne _ _ q, va_up_ne _ _ q, va_up_ne _ _ q]
    obtain ⟨g1, g2, g3, g4, g5⟩ := f6 b ha
    exact ⟨by rw [up_ne _ _ (by omega), up_ne _ _ (by omega)]; exact g1, by rw [up_ne _ _ (by omega), up_ne _ _ (by omega)]; exact g2, by rw [up_ne _ _ (by omega), up_ne _ _ (by omega)]; exact g3, by rw [up_ne _ _ (by omega), up_ne _ _ (by omega)]; exact g4, by rw [up_ne _ _ (by omega), up_ne _ _ (by omega)]; exact g5⟩
theorem fx_nd {σ : Wd} {nc ac : Nat} {cp : Bool} {op lf rt M E B S : Nat → Int} {CF CD NB FR : Nat → Nat → Int} (h : FX σ nc ac cp op lf rt M E B S CF CD NB FR) (op' lf' rt' : Nat → Int) (nc' ac' : Nat) : FX (up (up (up (up σ 3 (AI 20 op')) 4 (AI 20 lf')) 5 (AI 20 rt')) 1 (obF nc' ac' cp)) nc' ac' cp op' lf' rt' M E B S CF CD NB FR := ⟨rfl, rfl, rfl, rfl, h.2.2.2.2.1, (((h.2.2.2.2.2.up _ (by omega)).up _ (by omega)).up _ (by omega)).up _ (by omega)⟩
/-- an atom comes to the desk -/
theorem dk_atom {σ : Wd} {a : AS} {rc S : Nat → Int} {CD NB FR : Nat → Nat → Int} {fa : Nat → Nat} {f s : Nat} {sr : Value} (h : DKp σ a rc S CD NB FR fa f s sr) (hV : VL a) (hc : a.cp = false) (ha : a.ac < 5) (m e : Int) : DK (up (up (up (up (up (up (up σ (20 + 10 * a.ac) (obA (20 + 10 * a.ac) m e (bndF e a.pd 8) (S a.ac))) (20 + 10 * a.ac + 1) (AI 8 a.pd)) 2 (AI 8 (fun _ => 0))) 3 (AI 20 (va_up a.op a.nc 3))) 4 (AI 20 (va_up a.lf a.nc (a.ac : Nat)))) 5 (AI 20 (va_up rc a.nc 0))) 1 (obF (a.nc + 1) (a.ac + 1) a.cp)) (oAtom a m e) ∧ F1 σ (up (up (up (up (up (up (up σ (20 + 10 * a.ac) (obA (20 + 10 * a.ac) m e (bndF e a.pd 8) (S a.ac))) (20 + 10 * a.ac + 1) (AI 8 a.pd)) 2 (AI 8 (fun _ => 0))) 3 (AI 20 (va_up a.op a.nc 3))) 4 (AI 20 (va_up a.lf a.nc (a.ac : Nat)))) 5 (AI 20 (va_up rc a.nc 0))) 1 (obF (a.nc + 1) (a.ac + 1) a.cp)) := by
  obtain ⟨hF, g1, h0, h2, h7, h8, h9, h10, g8, g9, g10⟩ := h
  obtain ⟨c0, e0⟩ := noex hV hc
  have hx : ∀ q, q = 0 ∨ (7 ≤ q ∧ q < 20) ∨ 65 ≤ q → ∀ (c1 c2 c3 c4 c5 c6 c7 : pCell), up (up (up (up (up (up (up σ (20 + 10 * a.ac) c1) (20 + 10 * a.ac + 1) c2) 2 c3) 3 c4) 4 c5) 5 c6) 1 c7 q = σ q := fun q hq c1 c2 c3 c4 c5 c6 c7 => by rw [up_ne _ _ (by omega), up_ne _ _ (by omega), up_ne _ _ (by omega), up_ne _ _ (by omega), up_ne _ _ (by omega), up_ne _ _ (by omega), up_ne _ _ (by omega)]
  refine ⟨⟨va_up rc a.nc 0, va_up S a.ac (S a.ac), CD, NB, FR, fa, f, s, sr, ?_, fun k hk hk2 => ?_, (hx 0 (by omega) _ _ _ _ _ _ _).trans h0, rfl, (hx 7 (by omega) _ _ _ _ _ _ _).trans h7, (hx 8 (by omega) _ _ _ _ _ _ _).trans h8, (hx 9 (by omega) _ _ _ _ _ _ _).trans h9, (hx 10 (by omega) _ _ _ _ _ _ _).trans h10, fun i hi => ?_, fun z => ?_, ?_⟩, F1.of (fun q hq => hx q (by omega) _ _ _ _ _ _ _)⟩
  · exact fx_nd ((fx_at hF ha m e (bndF e a.pd 8) (S a.ac) a.pd).up _ (by omega)) _ _ _ _ _
  · show va_up rc a.nc 0 k = va_up a.rt a.nc 0 k
    have hk : k < a.nc + 1 := hk
    by_cases q : k = a.nc
    · rw [q, va_up_self, va_up_self]
    · have hk2 : va_up a.op a.nc 3 k ≠ 2 := hk2
      rw [va_up_ne _ _ q] at hk2
      rw [va_up_ne _ _ q, va_up_ne _ _ q]; exact g1 k (by omega) hk2
  · have hi : i < a.cnt := hi
    omega
  · have z : a.cp = true := z
    rw [hc] at z; cases z
  · show SD _ sr (a.ac + 1) a.cnt a.ex
    rw [e0]
    exact (SD.no g10).fr (fun q q1 q2 => hx q (by omega) _ _ _ _ _ _ _)
theorem k_sum {σ : Wd} {a : AS} (hD : DK σ a) (hV : VL a) (c : Int) (hc : i32 c) : KX6_sum [.ref 0, .int (iI c)] σ (QO (cdSum a c) (.int (iI (a.nc : Nat))) σ (oAtom a 0 c)) (QE (cdSum a c) IAE ISE σ) := by
  obtain ⟨rc, S, CD, NB, FR, fa, f, s, sr, hD0⟩ := hD
  have hD := hD0
  obtain ⟨hF, g1, h0, h2, h7, h8, h9, h10, g8, g9, g10⟩ := hD
  refine Ct.intro (by decide) (Nat.le_of_ble_eq_true rfl) ?_
  refine z_iload_n dX6_sum_0 rfl ?_
  refine i_cSr (k_isCoefficient _ c hc) mX6_48 dX6_sum_1 rfl rfl ⟨by decide, by decide⟩ (Nat.le_of_ble_eq_true rfl) ⟨by decide, by decide⟩ ?_
  refine i_ifb_ne (tgt := 17) dX6_sum_4 (by decide) (fun h1 => ?_) (fun h1 => ?_)
  · skip
    have h1 := of_decide_eq_true h1
    refine z_aload_n dX6_sum_17 rfl ?_
    refine z_getf cls5 0 flX6_10 dX6_sum_18 (by decide) (by first | exact h0 | rfl) rfl ?_
    refine i_cVr (k_takesAtom _ a.nc a.ac a.cp hV.nc hV.ac hF.1) mX6_59 dX6_sum_21 (by first | exact hF.1 | rfl) rfl rfl rfl ⟨by decide, by decide⟩ (Nat.le_of_ble_eq_true rfl) ⟨by decide, by decide⟩ ?_
    refine i_ifb_ne (tgt := 37) dX6_sum_24 (by decide) (fun h3 => ?_) (fun h3 => ?_)
    · skip
      obtain ⟨t1, t2, t3⟩ := takA_t h3
      obtain ⟨A1, A2, A3, A4, A5⟩ := hF.2.2.2.2.2 a.ac t3
      refine z_aload_n dX6_sum_37 rfl ?_
      refine z_getf cls5 0 flX6_10 dX6_sum_38 (by decide) (by first | exact h0 | rfl) rfl ?_
      refine i_iconst dX6_sum_41 rfl ?_
      refine z_iload_n dX6_sum_42 rfl ?_
      refine i_cVr (k_addAtom σ a.nc a.ac a.cp a.pd a.op a.lf rc 0 c _ _ _ _ _ t2 t3 h1 (fun l hl => hV.pd hl) hF.1 h2 hF.2.1 hF.2.2.1 hF.2.2.2.1 hF.2.2.2.2.1 A1 A2) mX6_70 dX6_sum_43 (by first | exact hF.1 | rfl) rfl rfl rfl ⟨by decide, by decide⟩ (Nat.le_of_ble_eq_true rfl) ⟨by decide, by decide⟩ ?_
      refine z_iret dX6_sum_46 rfl (by decide) (by decide) ⟨?_, rfl, dk_atom hD0 hV t1 t3 0 c⟩
      unfold cdSum; rw [if_pos h1, if_pos h3]
    · skip
      refine z_throwS (text := "compiled, or too many atoms or nodes") rfl tw_ise clX6_63 in_IllegalStateException (by decide +kernel) (by decide +kernel) dX6_sum_27 dX6_sum_30 dX6_sum_31 dX6_sum_33 dX6_sum_36 (by decide) (Nat.le_of_ble_eq_true rfl) (by decide) (by decide) ?_
      exact ⟨rfl, Or.inr ⟨by unfold cdSum; rw [if_pos h1, if_neg (by rw [h3]; decide)], rfl⟩⟩
  · skip
    have h1 := of_decide_eq_false h1
    refine z_throwS (text := "c is not -20 .. 20") rfl tw_iae clX6_41 in_IllegalArgumentException (by decide +kernel) (by decide +kernel) dX6_sum_7 dX6_sum_10 dX6_sum_11 dX6_sum_13 dX6_sum_16 (by decide) (Nat.le_of_ble_eq_true rfl) (by decide) (by decide) ?_
    exact ⟨rfl, Or.inl ⟨if_neg h1, rfl⟩⟩
theorem k_mod {σ : Wd} {a : AS} (hD : DK σ a) (hV : VL a) (r m : Int) (hr : i32 r) (hm : i32 m) : KX6_mod [.ref 0, .int (iI r), .int (iI m)] σ (QO (cdMod a r m) (.int (iI (a.nc : Nat))) σ (oAtom a m r)) (QE (cdMod a r m) IAE ISE σ) := by
  obtain ⟨rc, S, CD, NB, FR, fa, f, s, sr, hD0⟩ := hD
  have hD := hD0
  obtain ⟨hF, g1, h0, h2, h7, h8, h9, h10, g8, g9, g10⟩ := hD
  unfold i32 at hr hm
  refine Ct.intro (by decide) (Nat.le_of_ble_eq_true rfl) ?_
  have H11 : ¬ (2 ≤ m ∧ m ≤ 16) → PX6_mod (QO (cdMod a r m) (.int (iI (a.nc : Nat))) σ (oAtom a m r)) (QE (cdMod a r m) IAE ISE σ) 11 [some (.ref 0), some (.int (iI r)), some (.int (iI m))] [] σ 0 0 := by
    intro hb
    refine z_throwS (text := "m is not 2 .. 16") rfl tw_iae clX6_41 in_IllegalArgumentException (by decide +kernel) (by decide +kernel) dX6_mod_11 dX6_mod_14 dX6_mod_15 dX6_mod_17 dX6_mod_20 (by decide) (Nat.le_of_ble_eq_true rfl) (by decide) (by decide) ?_
    exact ⟨rfl, Or.inl ⟨if_neg (fun z => hb z.1), rfl⟩⟩
  have H30 : ¬ (0 ≤ r ∧ r < m) → PX6_mod (QO (cdMod a r m) (.int (iI (a.nc : Nat))) σ (oAtom a m r)) (QE (cdMod a r m) IAE ISE σ) 30 [some (.ref 0), some (.int (iI r)), some (.int (iI m))] [] σ 0 0 := by
    intro hb
    refine z_throwS (text := "r is not 0 .. m - 1") rfl tw_iae clX6_41 in_IllegalArgumentException (by decide +kernel) (by decide +kernel) dX6_mod_30 dX6_mod_33 dX6_mod_34 dX6_mod_36 dX6_mod_39 (by decide) (Nat.le_of_ble_eq_true rfl) (by decide) (by decide) ?_
    exact ⟨rfl, Or.inl ⟨if_neg (fun z => hb z.2), rfl⟩⟩
  refine z_iload_n dX6_mod_0 rfl ?_
  refine i_iconst dX6_mod_1 rfl ?_
  refine i_icmp_lt (tgt := 11) dX6_mod_2 (by decide) (by omega) (by omega) (fun h1 => ?_) (fun h1 => ?_)
  · skip
    exact H11 (by omega)
  · skip
    refine z_iload_n dX6_mod_5 rfl ?_
    refine i_bipush dX6_mod_6 (by decide) ?_
    refine i_icmp_le (tgt := 21) dX6_mod_8 (by decide) (by omega) (by omega) (fun h3 => ?_) (fun h3 => ?_)
    · skip
      refine z_iload_n dX6_mod_21 rfl ?_
      refine i_if_lt (tgt := 30) dX6_mod_22 (by decide) (by omega) (fun h4 => ?_) (fun h4 => ?_)
      · skip
        exact H30 (by omega)
      · skip
        refine z_iload_n dX6_mod_25 rfl ?_
        refine z_iload_n dX6_mod_26 rfl ?_
        refine i_icmp_lt (tgt := 40) dX6_mod_27 (by decide) (by omega) (by omega) (fun h5 => ?_) (fun h5 => ?_)
        · skip
          have hg : (2 ≤ m ∧ m ≤ 16) ∧ (0 ≤ r ∧ r < m) := by omega
          refine z_aload_n dX6_mod_40 rfl ?_
          refine z_getf cls5 0 flX6_10 dX6_mod_41 (by decide) (by first | exact h0 | rfl) rfl ?_
          refine i_cVr (k_takesAtom _ a.nc a.ac a.cp hV.nc hV.ac hF.1) mX6_59 dX6_mod_44 (by first | exact hF.1 | rfl) rfl rfl rfl ⟨by decide, by decide⟩ (Nat.le_of_ble_eq_true rfl) ⟨by decide, by decide⟩ ?_
          refine i_ifb_ne (tgt := 60) dX6_mod_47 (by decide) (fun h6 => ?_) (fun h6 => ?_)
          · skip
            obtain ⟨t1, t2, t3⟩ := takA_t h6
            obtain ⟨A1, A2, A3, A4, A5⟩ := hF.2.2.2.2.2 a.ac t3
            refine z_aload_n dX6_mod_60 rfl ?_
            refine z_getf cls5 0 flX6_10 dX6_mod_61 (by decide) (by first | exact h0 | rfl) rfl ?_
            refine z_iload_n dX6_mod_64 rfl ?_
            refine z_iload_n dX6_mod_65 rfl ?_
            refine i_cVr (k_addAtom σ a.nc a.ac a.cp a.pd a.op a.lf rc m r _ _ _ _ _ t2 t3 (by omega) (fun l hl => hV.pd hl) hF.1 h2 hF.2.1 hF.2.2.1 hF.2.2.2.1 hF.2.2.2.2.1 A1 A2) mX6_70 dX6_mod_66 (by first | exact hF.1 | rfl) rfl rfl rfl ⟨by decide, by decide⟩ (Nat.le_of_ble_eq_true rfl) ⟨by decide, by decide⟩ ?_
            refine z_iret dX6_mod_69 rfl (by decide) (by decide) ⟨?_, rfl, dk_atom hD0 hV t1 t3 m r⟩
            unfold cdMod; rw [if_pos hg, if_pos h6]
          · skip
            refine z_throwS (text := "compiled, or too many atoms or nodes") rfl tw_ise clX6_63 in_IllegalStateException (by decide +kernel) (by decide +kernel) dX6_mod_50 dX6_mod_53 dX6_mod_54 dX6_mod_56 dX6_mod_59 (by decide) (Nat.le_of_ble_eq_true rfl) (by decide) (by decide) ?_
            exact ⟨rfl, Or.inr ⟨by unfold cdMod; rw [if_pos hg, if_neg (by rw [h6]; decide)], rfl⟩⟩
        · skip
          exact H30 (by omega)
    · skip
      exact H11 (by omega)
theorem dk_node {σ : Wd} {a : AS} {rc S : Nat → Int} {CD NB FR : Nat → Nat → Int} {fa : Nat → Nat} {f s : Nat} {sr : Value} (h : DKp σ a rc S CD NB FR fa f s sr) (hV : VL a) (hc : a.cp = false) (x l r : Int) : DK (up (up (up (up σ 3 (AI 20 (va_up a.op a.nc x))) 4 (AI 20 (va_up a.lf a.nc l))) 5 (AI 20 (va_up rc a.nc r))) 1 (obF (a.nc + 1) a.ac a.cp)) (oNode a x l r) := by
  obtain ⟨hF, g1, h0, h2, h7, h8, h9, h10, g8, g9, g10⟩ := h
  refine ⟨va_up rc a.nc r, S, CD, NB, FR, fa, f, s, sr, fx_nd hF _ _ _ _ _, fun k hk hk2 => ?_, h0, h2, h7, h8, h9, h10, g8, fun z => ?_, ?_⟩
  · show va_up rc a.nc r k = va_up a.rt a.nc (if x = 2 then -1 else r) k
    have hk : k < a.nc + 1 := hk
    have hk2 : va_up a.op a.nc x k ≠ 2 := hk2
    by_cases q : k = a.nc
    · rw [q, va_up_self] at hk2
      rw [q, va_up_self, va_up_self, if_neg hk2]
    · rw [va_up_ne _ _ q] at hk2
      rw [va_up_ne _ _ q, va_up_ne _ _ q]; exact g1 k (by omega) hk2
  · have z : a.cp = true := z
    rw [hc] at z; cases z
  · exact g10.fr (fun q q1 q2 => by rw [up_ne _ _ (by omega), up_ne _ _ (by omega), up_ne _ _ (by omega), up_ne _ _ (by omega)])
theorem hasI_t {v : Int} {n : Nat} (h : hasI v n = true) : 0 ≤ v ∧ v < n := of_decide_eq_true h
theorem hasI_f {v : Int} {n : Nat} (h : hasI v n = false) : ¬ (0 ≤ v ∧ v < n) := of_decide_eq_false h
theorem k_combine {σ : Wd} {a : AS} (hD : DK σ a) (hV : VL a) (o l r : Int) (ho : i32 o) (hl : i32 l) (hr : i32 r) : KX6_combine [.ref 0, .int (iI o), .int (iI l), .int (iI r)] σ (QO (cdComb a o l r) (.int (iI (a.nc : Nat))) σ (oNode a o l r)) (QE (cdComb a o l r) IAE ISE σ) := by
  obtain ⟨rc, S, CD, NB, FR, fa, f, s, sr, hD0⟩ := hD
  have hD := hD0
  obtain ⟨hF, g1, h0, h2, h7, h8, h9, h10, g8, g9, g10⟩ := hD
  have ho' := ho
  have hn := hV.nc
  unfold i32 at ho'
  refine Ct.intro (by decide) (Nat.le_of_ble_eq_true rfl) ?_
  have H51 : ¬ ((0 ≤ l ∧ l < a.nc) ∧ (o = 2 ∨ (0 ≤ r ∧ r < a.nc))) → PX6_combine (QO (cdComb a o l r) (.int (iI (a.nc : Nat))) σ (oNode a o l r)) (QE (cdComb a o l r) IAE ISE σ) 51 [some (.ref 0), some (.int (iI o)), some (.int (iI l)), some (.int (iI r))] [] σ 0 0 := by
    intro hb
    refine z_throwS (text := "no such node") rfl tw_iae clX6_41 in_IllegalArgumentException (by decide +kernel) (by decide +kernel) dX6_combine_51 dX6_combine_54 dX6_combine_55 dX6_combine_57 dX6_combine_60 (by decide) (Nat.le_of_ble_eq_true rfl) (by decide) (by decide) ?_
    exact ⟨rfl, Or.inl ⟨if_neg (fun z => hb z.2), rfl⟩⟩
  have H61 : (0 ≤ o ∧ o ≤ 2) ∧ (0 ≤ l ∧ l < a.nc) ∧ (o = 2 ∨ (0 ≤ r ∧ r < a.nc)) → PX6_combine (QO (cdComb a o l r) (.int (iI (a.nc : Nat))) σ (oNode a o l r)) (QE (cdComb a o l r) IAE ISE σ) 61 [some (.ref 0), some (.int (iI o)), some (.int (iI l)), some (.int (iI r))] [] σ 0 0 := by
    intro hg
    refine z_aload_n dX6_combine_61 rfl ?_
    refine z_getf cls5 0 flX6_10 dX6_combine_62 (by decide) (by first | exact h0 | rfl) rfl ?_
    refine i_cVr (k_takesNode _ a.nc a.ac a.cp hV.nc hF.1) mX6_84 dX6_combine_65 (by first | exact hF.1 | rfl) rfl rfl rfl ⟨by decide, by decide⟩ (Nat.le_of_ble_eq_true rfl) ⟨by decide, by decide⟩ ?_
    refine i_ifb_ne (tgt := 81) dX6_combine_68 (by decide) (fun h6 => ?_) (fun h6 => ?_)
    · skip
      obtain ⟨t1, t2⟩ := takN_t h6
      refine z_aload_n dX6_combine_81 rfl ?_
      refine z_getf cls5 0 flX6_10 dX6_combine_82 (by decide) (by first | exact h0 | rfl) rfl ?_
      refine z_iload_n dX6_combine_85 rfl ?_
      refine z_iload_n dX6_combine_86 rfl ?_
      refine z_iload_n dX6_combine_87 rfl ?_
      refine i_cVr (k_addNode σ a.nc a.ac a.cp a.op a.lf rc o l r t2 hF.1 hF.2.1 hF.2.2.1 hF.2.2.2.1) mX6_89 dX6_combine_88 (by first | exact hF.1 | rfl) rfl rfl rfl ⟨by decide, by decide⟩ (Nat.le_of_ble_eq_true rfl) ⟨by decide, by decide⟩ ?_
      refine z_iret dX6_combine_91 rfl (by decide) (by decide) ⟨?_, rfl, dk_node hD0 hV t1 o l r, (((F1.rfl.up _ (by omega)).up _ (by omega)).up _ (by omega)).up _ (by omega)⟩
      unfold cdComb; rw [if_pos hg, if_pos h6]
    · skip
      refine z_throwS (text := "compiled, or too many nodes") rfl tw_ise clX6_63 in_IllegalStateException (by decide +kernel) (by decide +kernel) dX6_combine_71 dX6_combine_74 dX6_combine_75 dX6_combine_77 dX6_combine_80 (by decide) (Nat.le_of_ble_eq_true rfl) (by decide) (by decide) ?_
      exact ⟨rfl, Or.inr ⟨by unfold cdComb; rw [if_pos hg, if_neg (by rw [h6]; decide)], rfl⟩⟩
  have H24 : (0 ≤ o ∧ o ≤ 2) → PX6_combine (QO (cdComb a o l r) (.int (iI (a.nc : Nat))) σ (oNode a o l r)) (QE (cdComb a o l r) IAE ISE σ) 24 [some (.ref 0), some (.int (iI o)), some (.int (iI l)), some (.int (iI r))] [] σ 0 0 := by
    intro hg
    refine z_aload_n dX6_combine_24 rfl ?_
    refine z_getf cls5 0 flX6_10 dX6_combine_25 (by decide) (by first | exact h0 | rfl) rfl ?_
    refine z_iload_n dX6_combine_28 rfl ?_
    refine i_cVr (k_hasNode _ a.nc a.ac a.cp l hV.nc hl hF.1) mX6_79 dX6_combine_29 (by first | exact hF.1 | rfl) rfl rfl rfl ⟨by decide, by decide⟩ (Nat.le_of_ble_eq_true rfl) ⟨by decide, by decide⟩ ?_
    refine i_ifb_eq (tgt := 51) dX6_combine_32 (by decide) (fun h6 => ?_) (fun h6 => ?_)
    · skip
      exact H51 (fun z => hasI_f h6 z.1)
    · skip
      have h6 := hasI_t h6
      refine z_iload_n dX6_combine_35 rfl ?_
      refine i_iconst dX6_combine_36 rfl ?_
      refine i_icmp_eq (tgt := 61) dX6_combine_37 (by decide) (by omega) (by omega) (fun h7 => ?_) (fun h7 => ?_)
      · skip
        exact H61 ⟨hg, h6, Or.inl h7⟩
      · skip
        refine z_aload_n dX6_combine_40 rfl ?_
        refine z_getf cls5 0 flX6_10 dX6_combine_41 (by decide) (by first | exact h0 | rfl) rfl ?_
        refine z_iload_n dX6_combine_44 rfl ?_
        refine i_cVr (k_hasNode _ a.nc a.ac a.cp r hV.nc hr hF.1) mX6_79 dX6_combine_45 (by first | exact hF.1 | rfl) rfl rfl rfl ⟨by decide, by decide⟩ (Nat.le_of_ble_eq_true rfl) ⟨by decide, by decide⟩ ?_
        refine i_ifb_ne (tgt := 61) dX6_combine_48 (by decide) (fun h8 => ?_) (fun h8 => ?_)
        · skip
          exact H61 ⟨hg, h6, Or.inr (hasI_t h8)⟩
        · skip
          have h8 := hasI_f h8
          exact H51 (fun z => by omega)
  refine z_iload_n dX6_combine_0 rfl ?_
  refine i_if_eq (tgt := 24) dX6_combine_1 (by decide) (by omega) (fun h1 => ?_) (fun h1 => ?_)
  · skip
    exact H24 (by omega)
  · skip
    refine z_iload_n dX6_combine_4 rfl ?_
    refine i_iconst dX6_combine_5 rfl ?_
    refine i_icmp_eq (tgt := 24) dX6_combine_6 (by decide) (by omega) (by omega) (fun h3 => ?_) (fun h3 => ?_)
    · skip
      exact H24 (by omega)
    · skip
      refine z_iload_n dX6_combine_9 rfl ?_
      refine i_iconst dX6_combine_10 rfl ?_
      refine i_icmp_eq (tgt := 24) dX6_combine_11 (by decide) (by omega) (by omega) (fun h4 => ?_) (fun h4 => ?_)
      · skip
        exact H24 (by omega)
      · skip
        refine z_throwS (text := "no such op") rfl tw_iae clX6_41 in_IllegalArgumentException (by decide +kernel) (by decide +kernel) dX6_combine_14 dX6_combine_17 dX6_combine_18 dX6_combine_20 dX6_combine_23 (by decide) (Nat.le_of_ble_eq_true rfl) (by decide) (by decide) ?_
        exact ⟨rfl, Or.inl ⟨if_neg (fun z => by omega), rfl⟩⟩

