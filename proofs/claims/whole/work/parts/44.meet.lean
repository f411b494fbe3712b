/-! MEETING (class 3) at the name w -/
abbrev obM (f s : Nat) : pCell := ob 3 [.ref 1, .long (lN f), .long (lN s)]
/-- a formula in the world -/
def FX (σ : Wd) (nc ac : Nat) (cp : Bool) (op lf rt M E B S : Nat → Int) (CF CD NB FR : Nat → Nat → Int) : Prop := σ 1 = some (obF nc ac cp) ∧ σ 3 = some (AI 20 op) ∧ σ 4 = some (AI 20 lf) ∧ σ 5 = some (AI 20 rt) ∧ σ 6 = some (aR 5 atN) ∧ AT σ M E B S CF CD NB FR
/-- .. compiled, well made -/
def FV (nc ac : Nat) (op lf rt M E B : Nat → Int) (CF : Nat → Nat → Int) : Prop := (0 < nc ∧ nc ≤ 20) ∧ ac ≤ 5 ∧ (∀ k, k < nc → wfN op lf rt ac k) ∧ okAs ac M E B CF
theorem AT.up {σ : Wd} {M E B S : Nat → Int} {CF CD NB FR : Nat → Nat → Int} (h : AT σ M E B S CF CD NB FR) {q : Nat} (c : pCell) (hq : q < 20 ∨ 65 ≤ q) : AT (up σ q c) M E B S CF CD NB FR := fun a ha => by
  obtain ⟨h1, h2, h3, h4, h5⟩ := h a ha
  exact ⟨by rw [up_ne _ _ (by omega)]; exact h1, by rw [up_ne _ _ (by omega)]; exact h2, by rw [up_ne _ _ (by omega)]; exact h3, by rw [up_ne _ _ (by omega)]; exact h4, by rw [up_ne _ _ (by omega)]; exact h5⟩
theorem FX.up {σ : Wd} {nc ac : Nat} {cp : Bool} {op lf rt M E B S : Nat → Int} {CF CD NB FR : Nat → Nat → Int} (h : FX σ nc ac cp op lf rt M E B S CF CD NB FR) {q : Nat} (c : pCell) (hq : (7 ≤ q ∧ q < 20) ∨ 65 ≤ q ∨ q = 0 ∨ q = 2) : FX (up σ q c) nc ac cp op lf rt M E B S CF CD NB FR := by
  obtain ⟨h1, h3, h4, h5, h6, h7⟩ := h
  exact ⟨by rw [up_ne _ _ (by omega)]; exact h1, by rw [up_ne _ _ (by omega)]; exact h3, by rw [up_ne _ _ (by omega)]; exact h4, by rw [up_ne _ _ (by omega)]; exact h5, by rw [up_ne _ _ (by omega)]; exact h6, h7.up c (by omega)⟩
def mtA1 (ac : Nat) (M E B : Nat → Int) (x y : Nat → St) : Nat → St := fun a => if a < ac then (mt (M a) (E a) (B a) (x a) (y a)).1 else x a
def mtA2 (ac : Nat) (M E B : Nat → Int) (x y : Nat → St) : Nat → St := fun a => if a < ac then (mt (M a) (E a) (B a) (x a) (y a)).2 else y a
theorem mtA1_at {ac : Nat} {M E B : Nat → Int} {x y : Nat → St} {a : Nat} (ha : a < ac) : mtA1 ac M E B x y a = (mt (M a) (E a) (B a) (x a) (y a)).1 := if_pos ha
theorem mtA2_at {ac : Nat} {M E B : Nat → Int} {x y : Nat → St} {a : Nat} (ha : a < ac) : mtA2 ac M E B x y a = (mt (M a) (E a) (B a) (x a) (y a)).2 := if_pos ha
/-- an agent's states are as they must be -/
def okG (ac : Nat) (M B : Nat → Int) (x : Nat → St) : Prop := ∀ a, a < ac → okM (M a) (B a) (x a)
theorem okG.rg {ac : Nat} {M E B : Nat → Int} {CF : Nat → Nat → Int} (hA : okAs ac M E B CF) {x : Nat → St} (h : okG ac M B x) : ∀ a, a < ac → rg (x a) := fun a ha => okM_rg (hA a ha).1 (h a ha)
theorem okG.mt {ac : Nat} {M E B : Nat → Int} {CF : Nat → Nat → Int} (hA : okAs ac M E B CF) {x y : Nat → St} (hx : okG ac M B x) (hy : okG ac M B y) : okG ac M B (mtA1 ac M E B x y) ∧ okG ac M B (mtA2 ac M E B x y) :=
  ⟨fun a ha => by rw [mtA1_at ha]; exact (mt_ok (hA a ha).1 (hx a ha) (hy a ha)).1, fun a ha => by rw [mtA2_at ha]; exact (mt_ok (hA a ha).1 (hx a ha) (hy a ha)).2⟩
/-- the same states, as far as there are atoms -/
def sameA (ac : Nat) (x y : Nat → St) : Bool := Nat.beq (pkC x ac) (pkC y ac)
theorem sameA_t {ac : Nat} {x y : Nat → St} (hx : ∀ a, a < ac → rg (x a)) (hy : ∀ a, a < ac → rg (y a)) : sameA ac x y = true ↔ ∀ a, a < ac → x a = y a := by
  unfold sameA
  rw [← pkC_inj hx hy]
  exact Iff.of_eq Nat.beq_eq
/-- whether a meeting changes anything -/
def chg (ac : Nat) (M E B : Nat → Int) (x y : Nat → St) : Bool := !(sameA ac (mtA1 ac M E B x y) x && sameA ac (mtA2 ac M E B x y) y)
theorem chg_f {ac : Nat} {M E B : Nat → Int} {CF : Nat → Nat → Int} {x y : Nat → St} (hA : okAs ac M E B CF) (hx : okG ac M B x) (hy : okG ac M B y) : chg ac M E B x y = false ↔ mtA1 ac M E B x y = x ∧ mtA2 ac M E B x y = y := by
  obtain ⟨m1, m2⟩ := okG.mt (E := E) hA hx hy
  unfold chg
  rw [Bool.not_eq_false', Bool.and_eq_true, sameA_t (m1.rg hA) (hx.rg hA), sameA_t (m2.rg hA) (hy.rg hA)]
  constructor
  · rintro ⟨h1, h2⟩
    refine ⟨funext fun a => ?_, funext fun a => ?_⟩
    · by_cases q : a < ac
      · exact h1 a q
      · exact if_neg q
    · by_cases q : a < ac
      · exact h2 a q
      · exact if_neg q
  · rintro ⟨h1, h2⟩
    exact ⟨fun a _ => by rw [h1], fun a _ => by rw [h2]⟩
theorem lgc {a b : Nat} (ha : a < 2 ^ 63) (hb : b < 2 ^ 63) : lg_cmp (lN a) (lN b) = 0 ↔ a = b := by
  unfold lg_cmp
  constructor
  · intro h
    split at h
    · cases h
    · split at h
      · rename_i h3; exact (pk_lEQ ha hb).mp h3
      · cases h
  · rintro rfl
    rw [if_neg (by show ¬ lN a < lN a; rw [pk_lLT ha ha]; omega), if_pos rfl]
theorem dig7 {p a : Nat} : p.testBit (8 * a + 7) = decide (128 ≤ p / 256 ^ a % 256) := by
  rw [Nat.testBit_eq_decide_div_mod_eq, Nat.pow_add, ← Nat.div_div_eq_div_mul, Nat.pow_mul, show (2 : Nat) ^ 8 = 256 from rfl, show (2 : Nat) ^ 7 = 128 from rfl]
  generalize p / 256 ^ a = q
  exact decide_eq_decide.mpr (by omega)
theorem ldS_f {p : Nat} (h : ldS p = false) {a : Nat} (ha : a < 5) : p / 256 ^ a % 256 < 128 := by
  have h0 : p &&& 551911719040 = 0 := by
    unfold ldS at h
    simpa using h
  have hK : ∀ a : Nat, a < 5 → (551911719040 : Nat).testBit (8 * a + 7) = true := by decide +kernel
  have h1 : (p &&& 551911719040).testBit (8 * a + 7) = false := by rw [h0]; exact Nat.zero_testBit _
  rw [Nat.testBit_and, hK a ha, Bool.and_true, dig7] at h1
  have := of_decide_eq_false h1
  omega
theorem ld_no {x : Nat → St} {ac a : Nat} (hac : ac ≤ 5) (hx : ∀ a, a < ac → rg (x a)) (h : ldS (pkC x ac) = false) (ha : a < ac) : (x a).1 = false := by
  have h1 := ldS_f h (show a < 5 by omega)
  rw [pkC_at hx ha] at h1
  rw [← cdN_l (hx a ha)]
  unfold cdl
  exact blt_f (a := 127) (by omega)
theorem or_lt40 {p q : Nat} (hp : p < 2 ^ 40) (hq : q < 2 ^ 40) : p ||| q < 2 ^ 40 := Nat.or_lt_two_pow hp hq
theorem ldS_or {p q : Nat} (h : ldS (p ||| q) = false) : ldS p = false ∧ ldS q = false := by
  have h0 : (p ||| q) &&& 551911719040 = 0 := by
    unfold ldS at h
    simpa using h
  rw [Nat.and_or_distrib_right] at h0
  have hl := Nat.or_eq_zero_iff.mp h0
  unfold ldS
  rw [show Nat.land p 551911719040 = 0 from hl.1, show Nat.land q 551911719040 = 0 from hl.2]
  exact ⟨rfl, rfl⟩
theorem mt_no {m e b : Int} {x y : St} (hx : x.1 = false) (hy : y.1 = false) : mt m e b x y = (x, y) := if_pos ⟨hx, hy⟩
theorem k_X4_first (σ : Wd) (w f s : Nat) (hw : σ w = some (obM f s)) : KX4_first [.ref w] σ (Rt (some (.long (lN f))) σ) NX := by
  refine Ct.intro (by decide) (Nat.le_of_ble_eq_true rfl) ?_
  refine z_aload_n dX4_first_0 rfl ?_
  refine z_getf cls3 1 flX4_13 dX4_first_1 (by decide) (hw) rfl ?_
  exact i_lret dX4_first_4 rfl (by decide) (by decide) rfl
theorem k_X4_second (σ : Wd) (w f s : Nat) (hw : σ w = some (obM f s)) : KX4_second [.ref w] σ (Rt (some (.long (lN s))) σ) NX := by
  refine Ct.intro (by decide) (Nat.le_of_ble_eq_true rfl) ?_
  refine z_aload_n dX4_second_0 rfl ?_
  refine z_getf cls3 2 flX4_17 dX4_second_1 (by decide) (hw) rfl ?_
  exact i_lret dX4_second_4 rfl (by decide) (by decide) rfl
theorem k_changes (σ : Wd) (w f s : Nat) (nc ac : Nat) (cp : Bool) (op lf rt M E B S : Nat → Int) (CF CD NB FR : Nat → Nat → Int) (x y : Nat → St) (hw : σ w = some (obM f s)) (hw9 : (7 ≤ w ∧ w < 20) ∨ 65 ≤ w) (hF : FX σ nc ac cp op lf rt M E B S CF CD NB FR) (hac : ac ≤ 5) (hok : okAs ac M E B CF) (hx : okG ac M B x) (hy : okG ac M B y) :
    KX4_changes [.ref w, .long (lN (pkC x ac)), .long (lN (pkC y ac))] σ (Rt (some (.int (iI (bI (chg ac M E B x y))))) (up σ w (obM (pkC (mtA1 ac M E B x y) ac) (pkC (mtA2 ac M E B x y) ac)))) NX := by
  refine Ct.intro (by decide) (Nat.le_of_ble_eq_true rfl) ?_
  have rx := hx.rg hok
  have ry := hy.rg hok
  have lx := pkC_lt hac rx
  have ly := pkC_lt hac ry
  obtain ⟨m1, m2⟩ := okG.mt (E := E) hok hx hy
  have r1 := m1.rg hok
  have r2 := m2.rg hok
  have l1 := pkC_lt hac r1
  have l2 := pkC_lt hac r2
  obtain ⟨Q, hQ⟩ : ∃ Q, Q = Rt (some (.int (iI (bI (chg ac M E B x y))))) (up σ w (obM (pkC (mtA1 ac M E B x y) ac) (pkC (mtA2 ac M E B x y) ac))) := ⟨_, rfl⟩
  rw [← hQ]
  have H : ∀ k : Nat, k ≤ ac → ∀ o6 : Option Value, PX4_changes Q NX 34 [some (.ref w), some (.long (lN (pkC x ac))), none, some (.long (lN (pkC y ac))), none, some (.int (iI k)), o6] [] (up σ w (obM (pkC (mtA1 ac M E B x y) k) (pkC (mtA2 ac M E B x y) k))) 0 0 := by
    refine up_to ac ?_ ?_
    · intro o6
      have hF2 := hF.up (obM (pkC (mtA1 ac M E B x y) ac) (pkC (mtA2 ac M E B x y) ac)) (q := w) (by omega)
      refine z_iload dX4_changes_34 rfl ?_
      refine z_aload_n dX4_changes_36 rfl ?_
      refine z_getf cls3 0 flX4_7 dX4_changes_37 (by decide) (up_self _ _ _) rfl ?_
      refine i_cVr (k_atomCount _ nc ac cp hF2.1) mX4_26 dX4_changes_40 (hF2.1) rfl rfl rfl ⟨by decide, by decide⟩ (Nat.le_of_ble_eq_true rfl) ⟨by decide, by decide⟩ ?_
      refine i_icmp_ge (tgt := 116) dX4_changes_43 (by decide) (by omega) (by omega) (fun h7 => ?_) (fun h7 => ?_)
      · skip
        refine z_aload_n dX4_changes_116 rfl ?_
        refine z_getf cls3 1 flX4_13 dX4_changes_117 (by decide) (up_self _ _ _) rfl ?_
        refine z_lload_n dX4_changes_120 rfl ?_
        refine z_lcmp dX4_changes_121 ?_
        refine z_if_ne (tgt := 134) dX4_changes_122 (by decide) (fun h8 => ?_) (fun h8 => ?_)
        · skip
          have h8 : ¬ pkC (mtA1 ac M E B x y) ac = pkC x ac := fun q => h8 ((lgc (by omega) (by omega)).mpr q)
          refine i_iconst dX4_changes_134 rfl ?_
          refine z_goto (tgt := 139) dX4_changes_135 (by decide) ?_
          rw [hQ]
          have e9 : sameA ac (mtA1 ac M E B x y) x = false := by
            cases q : sameA ac (mtA1 ac M E B x y) x with
            | true => exact absurd (Nat.eq_of_beq_eq_true q) h8
            | false => rfl
          exact i_rt dX4_changes_139 rfl (by decide) (by decide) (by unfold chg; rw [e9]; rfl) rfl
        · skip
          have h8 := (lgc (by omega) (by omega)).mp h8
          refine z_aload_n dX4_changes_125 rfl ?_
          refine z_getf cls3 2 flX4_17 dX4_changes_126 (by decide) (up_self _ _ _) rfl ?_
          refine z_lload_n dX4_changes_129 rfl ?_
          refine z_lcmp dX4_changes_130 ?_
          refine z_if_eq (tgt := 138) dX4_changes_131 (by decide) (fun h9 => ?_) (fun h9 => ?_)
          · skip
            have h9 := (lgc (by omega) (by omega)).mp h9
            refine i_iconst dX4_changes_138 rfl ?_
            rw [hQ]
            exact i_rf dX4_changes_139 rfl (by decide) (by decide) (by unfold chg sameA; rw [h8, h9, Nat.beq_refl, Nat.beq_refl]; rfl) rfl
          · skip
            have h9 : ¬ pkC (mtA2 ac M E B x y) ac = pkC y ac := fun q => h9 ((lgc (by omega) (by omega)).mpr q)
            refine i_iconst dX4_changes_134 rfl ?_
            refine z_goto (tgt := 139) dX4_changes_135 (by decide) ?_
            rw [hQ]
            have e9 : sameA ac (mtA2 ac M E B x y) y = false := by
              cases q : sameA ac (mtA2 ac M E B x y) y with
              | true => exact absurd (Nat.eq_of_beq_eq_true q) h9
              | false => rfl
            exact i_rt dX4_changes_139 rfl (by decide) (by decide) (by unfold chg; rw [e9, Bool.and_false]; rfl) rfl
      · skip
        omega
    · intro k hk ih o6
      have hF2 := hF.up (obM (pkC (mtA1 ac M E B x y) k) (pkC (mtA2 ac M E B x y) k)) (q := w) (by omega)
      have hA := hF2.2.2.2.2.2 k (by omega)
      have hkk := hok k hk
      have p1 : cdN (mtA1 ac M E B x y k) < 256 := cdN_lt (r1 k hk)
      have p2 : cdN (mtA2 ac M E B x y k) < 256 := cdN_lt (r2 k hk)
      refine z_iload dX4_changes_34 rfl ?_
      refine z_aload_n dX4_changes_36 rfl ?_
      refine z_getf cls3 0 flX4_7 dX4_changes_37 (by decide) (up_self _ _ _) rfl ?_
      refine i_cVr (k_atomCount _ nc ac cp hF2.1) mX4_26 dX4_changes_40 (hF2.1) rfl rfl rfl ⟨by decide, by decide⟩ (Nat.le_of_ble_eq_true rfl) ⟨by decide, by decide⟩ ?_
      refine i_icmp_ge (tgt := 116) dX4_changes_43 (by decide) (by omega) (by omega) (fun h7 => ?_) (fun h7 => ?_)
      · skip
        omega
      · skip
        refine z_aload_n dX4_changes_46 rfl ?_
        refine z_getf cls3 0 flX4_7 dX4_changes_47 (by decide) (up_self _ _ _) rfl ?_
        refine z_iload dX4_changes_50 rfl ?_
        refine i_cVr (k_atom _ nc ac cp k (by omega) hF2.1 hF2.2.2.2.2.1) mX4_32 dX4_changes_52 (hF2.1) rfl rfl rfl ⟨by decide, by decide⟩ (Nat.le_of_ble_eq_true rfl) ⟨by decide, by decide⟩ ?_
        refine z_lload_n dX4_changes_55 rfl ?_
        refine z_iload dX4_changes_56 rfl ?_
        refine i_cSr (k_X1_ofAtom (pkC x ac) k lx (by omega) _) mX4_36 dX4_changes_58 rfl rfl ⟨by decide, by decide⟩ (Nat.le_of_ble_eq_true rfl) ⟨by decide, by decide⟩ ?_
        rw [pkC_at rx hk]
        refine z_lload_n dX4_changes_61 rfl ?_
        refine z_iload dX4_changes_62 rfl ?_
        refine i_cSr (k_X1_ofAtom (pkC y ac) k ly (by omega) _) mX4_36 dX4_changes_64 rfl rfl ⟨by decide, by decide⟩ (Nat.le_of_ble_eq_true rfl) ⟨by decide, by decide⟩ ?_
        rw [pkC_at ry hk]
        refine i_cVr (k_afterMeeting (20 + 10 * k) (M k) (E k) (B k) (S k) (x k) (y k) hkk.1 (hx k hk) (hy k hk) _ hA.1) mX4_40 dX4_changes_67 (hA.1) rfl rfl rfl ⟨by decide, by decide⟩ (Nat.le_of_ble_eq_true rfl) ⟨by decide, by decide⟩ ?_
        rw [← mtA1_at hk, ← mtA2_at hk]
        refine z_istore dX4_changes_70 (by decide) ?_
        refine z_aload_n dX4_changes_72 rfl ?_
        refine z_dup dX4_changes_73 rfl ?_
        refine z_getf cls3 1 flX4_13 dX4_changes_74 (by decide) (up_self _ _ _) rfl ?_
        refine z_iload dX4_changes_77 rfl ?_
        refine i_cSr (k_X1_first (cdN (mtA1 ac M E B x y k) * 256 + cdN (mtA2 ac M E B x y k)) (by omega) _) mX4_46 dX4_changes_79 rfl rfl ⟨by decide, by decide⟩ (Nat.le_of_ble_eq_true rfl) ⟨by decide, by decide⟩ ?_
        rw [show (cdN (mtA1 ac M E B x y k) * 256 + cdN (mtA2 ac M E B x y k)) / 256 = cdN (mtA1 ac M E B x y k) by omega]
        refine z_iload dX4_changes_82 rfl ?_
        refine i_cSr (k_X1_atAtom _ k p1 (by omega) _) mX4_49 dX4_changes_84 rfl rfl ⟨by decide, by decide⟩ (Nat.le_of_ble_eq_true rfl) ⟨by decide, by decide⟩ ?_
        refine z_lor dX4_changes_87 ?_
        refine z_eql _ (lor_dg (by omega) (dg_lt k (fun a ha => cdN_lt (r1 a (by omega)))) p1) ?_
        refine i_putj cls3 1 flX4_13 dX4_changes_88 (by decide) rfl rfl (up_self _ _ _) (Nat.le_of_ble_eq_true rfl) ?_
        refine z_aload_n dX4_changes_91 rfl ?_
        refine z_dup dX4_changes_92 rfl ?_
        refine z_getf cls3 2 flX4_17 dX4_changes_93 (by decide) (up_self _ _ _) rfl ?_
        refine z_iload dX4_changes_96 rfl ?_
        refine i_cSr (k_X1_second (cdN (mtA1 ac M E B x y k) * 256 + cdN (mtA2 ac M E B x y k)) (by omega) _) mX4_53 dX4_changes_98 rfl rfl ⟨by decide, by decide⟩ (Nat.le_of_ble_eq_true rfl) ⟨by decide, by decide⟩ ?_
        rw [show (cdN (mtA1 ac M E B x y k) * 256 + cdN (mtA2 ac M E B x y k)) % 256 = cdN (mtA2 ac M E B x y k) by omega]
        refine z_iload dX4_changes_101 rfl ?_
        refine i_cSr (k_X1_atAtom _ k p2 (by omega) _) mX4_49 dX4_changes_103 rfl rfl ⟨by decide, by decide⟩ (Nat.le_of_ble_eq_true rfl) ⟨by decide, by decide⟩ ?_
        refine z_lor dX4_changes_106 ?_
        refine z_eql _ (lor_dg (by omega) (dg_lt k (fun a ha => cdN_lt (r2 a (by omega)))) p2) ?_
        refine i_putj cls3 2 flX4_17 dX4_changes_107 (by decide) rfl rfl (up_self _ _ _) (Nat.le_of_ble_eq_true rfl) ?_
        refine i_iinc dX4_changes_110 rfl (by decide) ?_
        refine z_goto (tgt := 34) dX4_changes_113 (by decide) ?_
        refine z_eqw ?_ (ih _)
        rw [up_up, up_up]
        rfl
  refine z_aload_n dX4_changes_0 rfl ?_
  refine z_lload_n dX4_changes_1 rfl ?_
  refine i_putj cls3 1 flX4_13 dX4_changes_2 (by decide) rfl rfl (hw) (Nat.le_of_ble_eq_true rfl) ?_
  refine z_aload_n dX4_changes_5 rfl ?_
  refine z_lload_n dX4_changes_6 rfl ?_
  refine i_putj cls3 2 flX4_17 dX4_changes_7 (by decide) rfl rfl (up_self _ _ _) (Nat.le_of_ble_eq_true rfl) ?_
  refine z_lload_n dX4_changes_10 rfl ?_
  refine z_lload_n dX4_changes_11 rfl ?_
  refine z_lor dX4_changes_12 ?_
  rw [show lN (pkC x ac) ||| lN (pkC y ac) = lN (pkC x ac ||| pkC y ac) from wb_or (by omega) (by omega)]
  refine i_cSr (k_X1_leadsSomewhere (pkC x ac ||| pkC y ac) (or_lt40 lx ly) _) mX4_20 dX4_changes_13 rfl rfl ⟨by decide, by decide⟩ (Nat.le_of_ble_eq_true rfl) ⟨by decide, by decide⟩ ?_
  refine i_ifb_ne (tgt := 21) dX4_changes_16 (by decide) (fun h8 => ?_) (fun h8 => ?_)
  · skip
    refine z_aload_n dX4_changes_21 rfl ?_
    refine z_lconst (v := lN 0) dX4_changes_22 rfl ?_
    refine i_putj cls3 1 flX4_13 dX4_changes_23 (by decide) rfl rfl (up_self _ _ _) (Nat.le_of_ble_eq_true rfl) ?_
    refine z_aload_n dX4_changes_26 rfl ?_
    refine z_lconst (v := lN 0) dX4_changes_27 rfl ?_
    refine i_putj cls3 2 flX4_17 dX4_changes_28 (by decide) rfl rfl (up_self _ _ _) (Nat.le_of_ble_eq_true rfl) ?_
    refine i_iconst dX4_changes_31 rfl ?_
    refine z_istore dX4_changes_32 (by decide) ?_
    refine z_eqw ?_ (H 0 (by omega) none)
    rw [up_up, up_up, up_up]
    rfl
  · skip
    refine i_iconst dX4_changes_19 rfl ?_
    obtain ⟨d1, d2⟩ := ldS_or h8
    have e1 : ∀ a, a < ac → mt (M a) (E a) (B a) (x a) (y a) = (x a, y a) := fun a ha => mt_no (ld_no hac rx d1 ha) (ld_no hac ry d2 ha)
    have e2 : pkC (mtA1 ac M E B x y) ac = pkC x ac := dg_congr ac (fun a ha => by rw [mtA1_at ha, e1 a ha])
    have e3 : pkC (mtA2 ac M E B x y) ac = pkC y ac := dg_congr ac (fun a ha => by rw [mtA2_at ha, e1 a ha])
    rw [hQ, e2, e3]
    exact i_rf dX4_changes_20 rfl (by decide) (by decide) (by unfold chg sameA; rw [e2, e3, Nat.beq_refl, Nat.beq_refl]; rfl) (up_up _ _ _ _)

