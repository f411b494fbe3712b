/-! THE REFERENCE (class 6) at the name 100, its rows at 101 .. 116 -/
abbrev obMd (t : Int) (nc ac : Nat) (cp : Bool) (cnt : Nat) (no n2 : Int) (crs : Nat) (ex : Bool) : pCell := ob 6 [.int (iI t), .ref 101, .int (iI nc), .ref 102, .ref 103, .ref 104, .ref 105, .int (iI ac), .ref 106, .ref 107, .ref 108, .ref 109, .int (iI (bI cp)), .ref 110, .int (iI cnt), .ref 111, .ref 112, .int (iI no), .int (iI n2), .int (iI crs), .ref 113, .ref 114, .ref 115, .int (iI (bI ex)), .ref 116]
def MC (σ : Wd) (M E B : Nat → Int) : Prop := σ 107 = some (AI 5 B) ∧ σ 108 = some (AI 5 M) ∧ σ 109 = some (AI 5 E)
theorem MC.fr {σ u : Wd} {M E B : Nat → Int} (h : MC σ M E B) (hu : ∀ q, 107 ≤ q → q ≤ 109 → u q = σ q) : MC u M E B := ⟨(hu _ (by omega) (by omega)).trans h.1, (hu _ (by omega) (by omega)).trans h.2.1, (hu _ (by omega) (by omega)).trans h.2.2⟩
section MOD1
variable {σ : Wd} {t : Int} {nc ac : Nat} {cp : Bool} {cnt : Nat} {no n2 : Int} {crs : Nat} {ex : Bool} {M E B : Nat → Int}
theorem m_opinionOf {b : Nat} {v : Int} (h100 : σ 100 = some (obMd t nc ac cp cnt no n2 crs ex)) (hC : MC σ M E B) (hb : b < 5) (ha : okA (M b) (E b) (B b)) (hv : -1000 ≤ v ∧ v ≤ 1000) : KX7_opinionOf [.ref 100, .int (iI b), .int (iI v)] σ (Rt (some (.int (iI (bI (opn (M b) (E b) v))))) σ) NX := by
  refine Ct.intro (by decide) (Nat.le_of_ble_eq_true rfl) ?_
  have a1 := ha.m
  have a2 := ha.e
  refine z_aload_n dX7_opinionOf_0 rfl ?_
  refine z_getf cls6 10 flX7_42 dX7_opinionOf_1 (by decide) (by first | exact h100 | rfl) rfl ?_
  refine z_iload_n dX7_opinionOf_4 rfl ?_
  refine i_iald dX7_opinionOf_5 (hC.2.1) b (by omega) (by omega) ?_
  refine i_if_ne (tgt := 27) dX7_opinionOf_6 (by decide) (by omega) (fun h1 => ?_) (fun h1 => ?_)
  · skip
    refine z_iload_n dX7_opinionOf_27 rfl ?_
    refine z_aload_n dX7_opinionOf_28 rfl ?_
    refine z_getf cls6 11 flX7_45 dX7_opinionOf_29 (by decide) (by first | exact h100 | rfl) rfl ?_
    refine z_iload_n dX7_opinionOf_32 rfl ?_
    refine i_iald dX7_opinionOf_33 (hC.2.2) b (by omega) (by omega) ?_
    refine i_icmp_ne (tgt := 41) dX7_opinionOf_34 (by decide) (by omega) (by omega) (fun h2 => ?_) (fun h2 => ?_)
    · skip
      refine i_iconst dX7_opinionOf_41 rfl ?_
      exact i_rf dX7_opinionOf_42 rfl (by decide) (by decide) (by unfold opn; rw [if_pos (by omega)]; exact decide_eq_false (by omega)) rfl
    · skip
      refine i_iconst dX7_opinionOf_37 rfl ?_
      refine z_goto (tgt := 42) dX7_opinionOf_38 (by decide) ?_
      exact i_rt dX7_opinionOf_42 rfl (by decide) (by decide) (by unfold opn; rw [if_pos (by omega)]; exact decide_eq_true (by omega)) rfl
  · skip
    refine z_iload_n dX7_opinionOf_9 rfl ?_
    refine z_aload_n dX7_opinionOf_10 rfl ?_
    refine z_getf cls6 11 flX7_45 dX7_opinionOf_11 (by decide) (by first | exact h100 | rfl) rfl ?_
    refine z_iload_n dX7_opinionOf_14 rfl ?_
    refine i_iald dX7_opinionOf_15 (hC.2.2) b (by omega) (by omega) ?_
    refine i_icmp_lt (tgt := 23) dX7_opinionOf_16 (by decide) (by omega) (by omega) (fun h2 => ?_) (fun h2 => ?_)
    · skip
      refine i_iconst dX7_opinionOf_23 rfl ?_
      refine z_goto (tgt := 42) dX7_opinionOf_24 (by decide) ?_
      exact i_rf dX7_opinionOf_42 rfl (by decide) (by decide) (by unfold opn; rw [if_neg (by omega)]; exact decide_eq_false (by omega)) rfl
    · skip
      refine i_iconst dX7_opinionOf_19 rfl ?_
      refine z_goto (tgt := 42) dX7_opinionOf_20 (by decide) ?_
      exact i_rt dX7_opinionOf_42 rfl (by decide) (by decide) (by unfold opn; rw [if_neg (by omega)]; exact decide_eq_true (by omega)) rfl
def mdE (ld : Bool) (v : Int) (op : Bool) : Int := 86 * bI ld + 2 * (v + 21) + bI op
theorem mdE_n {x : St} (h : rg x) : mdE x.1 x.2.1 x.2.2 = (mdN x : Int) := (mdN_i h).symm
theorem m_stateOf {b v : Int} {ld op : Bool} : KX7_stateOf [.ref 100, .int (iI b), .int (iI (bI ld)), .int (iI v), .int (iI (bI op))] σ (Rt (some (.int (iI (mdE ld v op)))) σ) NX := by
  refine Ct.intro (by decide) (Nat.le_of_ble_eq_true rfl) ?_
  have H10 : ∀ k : Int, k = 86 * bI ld → PX7_stateOf (Rt (some (.int (iI (mdE ld v op)))) σ) NX 10 [some (.ref 100), some (.int (iI b)), some (.int (iI (bI ld))), some (.int (iI v)), some (.int (iI (bI op)))] [.int (iI k)] σ 0 0 := by
    intro k hk
    refine i_iconst dX7_stateOf_10 rfl ?_
    refine z_iload_n dX7_stateOf_11 rfl ?_
    refine i_bipush dX7_stateOf_12 (by decide) ?_
    refine i_iadd dX7_stateOf_14 ?_
    refine i_imul dX7_stateOf_15 ?_
    refine i_iadd dX7_stateOf_16 ?_
    refine z_iload dX7_stateOf_17 rfl ?_
    refine i_ifb_eq (tgt := 26) dX7_stateOf_19 (by decide) (fun h2 => ?_) (fun h2 => ?_)
    · skip
      refine i_iconst dX7_stateOf_26 rfl ?_
      refine i_iadd dX7_stateOf_27 ?_
      rw [show k + 2 * (v + 21) + 0 = mdE ld v op by unfold mdE; rw [hk, h2]; rfl]
      exact i_iret dX7_stateOf_28 rfl (by decide) (by decide) rfl
    · skip
      refine i_iconst dX7_stateOf_22 rfl ?_
      refine z_goto (tgt := 27) dX7_stateOf_23 (by decide) ?_
      refine i_iadd dX7_stateOf_27 ?_
      rw [show k + 2 * (v + 21) + 1 = mdE ld v op by unfold mdE; rw [hk, h2]; rfl]
      exact i_iret dX7_stateOf_28 rfl (by decide) (by decide) rfl
  refine z_iload_n dX7_stateOf_0 rfl ?_
  refine i_ifb_eq (tgt := 9) dX7_stateOf_1 (by decide) (fun h1 => ?_) (fun h1 => ?_)
  · skip
    refine i_iconst dX7_stateOf_9 rfl ?_
    exact H10 0 (by rw [h1]; rfl)
  · skip
    refine i_bipush dX7_stateOf_4 (by decide) ?_
    refine z_goto (tgt := 10) dX7_stateOf_6 (by decide) ?_
    exact H10 86 (by rw [h1]; rfl)
theorem m_valueOf {x : St} (hx : rg x) : KX7_valueOf [.int (iI (mdN x : Nat))] σ (Rt (some (.int (iI x.2.1))) σ) NX := by
  refine Ct.intro (by decide) (Nat.le_of_ble_eq_true rfl) ?_
  have h1 := mdN_i hx
  have h2 := bI_r x.1
  have h3 := bI_r x.2.2
  have hx2 := hx
  unfold rg at hx2
  refine z_iload_n dX7_valueOf_0 rfl ?_
  refine i_bipush dX7_valueOf_1 (by decide) ?_
  refine i_irem dX7_valueOf_3 (by omega) (by omega) (by omega) ?_
  rw [show ((mdN x : Nat) : Int).tmod 86 = ((mdN x : Nat) : Int) % 86 from Int.tmod_eq_emod_of_nonneg (by omega)]
  refine i_iconst dX7_valueOf_4 rfl ?_
  refine i_idiv dX7_valueOf_5 (by omega) (by omega) (by omega) ?_
  refine i_bipush dX7_valueOf_6 (by decide) ?_
  refine i_isub dX7_valueOf_8 ?_
  rw [show (((mdN x : Nat) : Int) % 86).tdiv 2 - 21 = x.2.1 by
    rw [Int.tdiv_eq_ediv_of_nonneg (by omega)]
    have hb : bI x.1 = 0 ∨ bI x.1 = 1 := by omega
    rcases hb with hb | hb <;> omega]
  exact i_iret dX7_valueOf_9 rfl (by decide) (by decide) rfl
theorem md86 {x : St} (h : rg x) : (86 : Int) ≤ (mdN x : Nat) ↔ x.1 = true := by
  have h1 := mdN_i h
  have h3 := bI_r x.2.2
  unfold rg at h
  cases e : x.1 with
  | true => rw [e, bI_t] at h1; exact ⟨fun _ => rfl, fun _ => by omega⟩
  | false => rw [e, bI_f] at h1; exact ⟨fun _ => by omega, fun z => by cases z⟩
theorem m_meeting {b : Nat} {x y : St} (h100 : σ 100 = some (obMd t nc ac cp cnt no n2 crs ex)) (hC : MC σ M E B) (hb : b < 5) (ha : okA (M b) (E b) (B b)) (hx : okM (M b) (B b) x) (hy : okM (M b) (B b) y) : KX7_meeting [.ref 100, .int (iI b), .int (iI (mdN x : Nat)), .int (iI (mdN y : Nat))] σ (Rt none (up σ 100 (obMd t nc ac cp cnt (mdN (mt (M b) (E b) (B b) x y).1 : Nat) (mdN (mt (M b) (E b) (B b) x y).2 : Nat) crs ex))) NX := by
  refine Ct.intro (by decide) (Nat.le_of_ble_eq_true rfl) ?_
  have a1 := ha.m
  have a2 := ha.e
  have hrx := okM_rg ha hx
  have hry := okM_rg ha hy
  have lx := mdN_lt hrx
  have ly := mdN_lt hry
  have hok := mt_ok ha hx hy
  have hr1 := okM_rg ha hok.1
  have hr2 := okM_rg ha hok.2
  have ha2 := ha
  obtain ⟨hm, hb1⟩ := ha2
  unfold okM at hx hy
  unfold rg at hrx hry
  have k100 : ∀ (no n2 : Int), up σ 100 (obMd t nc ac cp cnt no n2 crs ex) 100 = some (obMd t nc ac cp cnt no n2 crs ex) := fun _ _ => up_self _ _ _
  have kC : ∀ c, MC (up σ 100 c) M E B := fun c => hC.fr (fun q q1 q2 => up_ne _ _ (by omega))
  have H140 : ¬ (x.1 = false ∧ y.1 = false) → ∀ o8 : Option Value, PX7_meeting (Rt none (up σ 100 (obMd t nc ac cp cnt (mdN (mt (M b) (E b) (B b) x y).1 : Nat) (mdN (mt (M b) (E b) (B b) x y).2 : Nat) crs ex))) NX 140 [some (.ref 100), some (.int (iI b)), some (.int (iI (mdN x : Nat))), some (.int (iI (mdN y : Nat))), some (.int (iI (bI x.1))), some (.int (iI (x.2.1 + y.2.1))), some (.int (iI (kpt (M b) (B b) (x.2.1 + y.2.1)))), some (.int (iI (lft (M b) (B b) (x.2.1 + y.2.1)))), o8] [] (up σ 100 (obMd t nc ac cp cnt (mdN x : Nat) (mdN y : Nat) crs ex)) 0 0 := by
    intro hnl o8
    have hk := kpt_ok (v := x.2.1 + y.2.1) ha
    have hkr : -1000 ≤ kpt (M b) (B b) (x.2.1 + y.2.1) ∧ kpt (M b) (B b) (x.2.1 + y.2.1) ≤ 1000 := by
      by_cases q : 0 < M b
      · have := hk.1 q; omega
      · have := hk.2 q; omega
    refine z_aload_n dX7_meeting_140 rfl ?_
    refine z_iload_n dX7_meeting_141 rfl ?_
    refine z_iload dX7_meeting_142 rfl ?_
    refine i_cVr (m_opinionOf (k100 _ _) (kC _) hb ha hkr) mX7_89 dX7_meeting_144 (k100 _ _) rfl rfl rfl ⟨by decide, by decide⟩ (Nat.le_of_ble_eq_true rfl) ⟨by decide, by decide⟩ ?_
    refine z_istore dX7_meeting_147 (by decide) ?_
    refine z_aload_n dX7_meeting_149 rfl ?_
    refine z_aload_n dX7_meeting_150 rfl ?_
    refine z_iload_n dX7_meeting_151 rfl ?_
    refine z_iload dX7_meeting_152 rfl ?_
    refine z_iload dX7_meeting_154 rfl ?_
    refine i_ifb_eq (tgt := 164) dX7_meeting_156 (by decide) (fun h1 => ?_) (fun h1 => ?_)
    · skip
      have e1 : (mt (M b) (E b) (B b) x y) = ((false, lft (M b) (B b) (x.2.1 + y.2.1), opn (M b) (E b) (kpt (M b) (B b) (x.2.1 + y.2.1))), (true, kpt (M b) (B b) (x.2.1 + y.2.1), opn (M b) (E b) (kpt (M b) (B b) (x.2.1 + y.2.1)))) := by
        unfold mt
        rw [if_neg hnl, if_neg (by rw [h1]; decide)]
      rw [e1] at hr1 hr2 ⊢
      rw [← mdE_n hr1, ← mdE_n hr2]
      rw [h1]
      refine z_iload dX7_meeting_164 rfl ?_
      refine z_iload dX7_meeting_166 rfl ?_
      refine i_cVr (m_stateOf) mX7_93 dX7_meeting_168 (k100 _ _) rfl rfl rfl ⟨by decide, by decide⟩ (Nat.le_of_ble_eq_true rfl) ⟨by decide, by decide⟩ ?_
      refine i_puti cls6 17 flX7_64 dX7_meeting_171 (by decide) rfl rfl (k100 _ _) (Nat.le_of_ble_eq_true rfl) ?_
      refine z_aload_n dX7_meeting_174 rfl ?_
      refine z_aload_n dX7_meeting_175 rfl ?_
      refine z_iload_n dX7_meeting_176 rfl ?_
      refine z_iload dX7_meeting_177 rfl ?_
      refine i_ifb_ne (tgt := 186) dX7_meeting_179 (by decide) (fun h2 => ?_) (fun h2 => ?_)
      · skip
        cases h2
      · skip
        refine i_iconst dX7_meeting_182 rfl ?_
        refine z_goto (tgt := 187) dX7_meeting_183 (by decide) ?_
        refine z_iload dX7_meeting_187 rfl ?_
        refine i_ifb_eq (tgt := 197) dX7_meeting_189 (by decide) (fun h3 => ?_) (fun h3 => ?_)
        · skip
          refine z_iload dX7_meeting_197 rfl ?_
          refine z_iload dX7_meeting_199 rfl ?_
          refine i_cVr (m_stateOf (ld := true)) mX7_93 dX7_meeting_201 (by rw [up_self]) rfl rfl rfl ⟨by decide, by decide⟩ (Nat.le_of_ble_eq_true rfl) ⟨by decide, by decide⟩ ?_
          refine i_puti cls6 18 flX7_67 dX7_meeting_204 (by decide) rfl rfl (up_self _ _ _) (Nat.le_of_ble_eq_true rfl) ?_
          exact i_vret dX7_meeting_207 rfl (by decide) (by decide) (by rw [up_up, up_up]; rfl)
        · skip
          cases h3
    · skip
      have e1 : (mt (M b) (E b) (B b) x y) = ((true, kpt (M b) (B b) (x.2.1 + y.2.1), opn (M b) (E b) (kpt (M b) (B b) (x.2.1 + y.2.1))), (false, lft (M b) (B b) (x.2.1 + y.2.1), opn (M b) (E b) (kpt (M b) (B b) (x.2.1 + y.2.1)))) := by
        unfold mt
        rw [if_neg hnl, if_pos h1]
      rw [e1] at hr1 hr2 ⊢
      rw [← mdE_n hr1, ← mdE_n hr2]
      rw [h1]
      refine z_iload dX7_meeting_159 rfl ?_
      refine z_goto (tgt := 166) dX7_meeting_161 (by decide) ?_
      refine z_iload dX7_meeting_166 rfl ?_
      refine i_cVr (m_stateOf) mX7_93 dX7_meeting_168 (up_self _ _ _) rfl rfl rfl ⟨by decide, by decide⟩ (Nat.le_of_ble_eq_true rfl) ⟨by decide, by decide⟩ ?_
      refine i_puti cls6 17 flX7_64 dX7_meeting_171 (by decide) rfl rfl (up_self _ _ _) (Nat.le_of_ble_eq_true rfl) ?_
      refine z_aload_n dX7_meeting_174 rfl ?_
      refine z_aload_n dX7_meeting_175 rfl ?_
      refine z_iload_n dX7_meeting_176 rfl ?_
      refine z_iload dX7_meeting_177 rfl ?_
      refine i_ifb_ne (tgt := 186) dX7_meeting_179 (by decide) (fun h2 => ?_) (fun h2 => ?_)
      · skip
        refine i_iconst dX7_meeting_186 rfl ?_
        refine z_iload dX7_meeting_187 rfl ?_
        refine i_ifb_eq (tgt := 197) dX7_meeting_189 (by decide) (fun h3 => ?_) (fun h3 => ?_)
        · skip
          cases h3
        · skip
          refine z_iload dX7_meeting_192 rfl ?_
          refine z_goto (tgt := 199) dX7_meeting_194 (by decide) ?_
          refine z_iload dX7_meeting_199 rfl ?_
          refine i_cVr (m_stateOf (ld := false)) mX7_93 dX7_meeting_201 (by rw [up_self]) rfl rfl rfl ⟨by decide, by decide⟩ (Nat.le_of_ble_eq_true rfl) ⟨by decide, by decide⟩ ?_
          refine i_puti cls6 18 flX7_67 dX7_meeting_204 (by decide) rfl rfl (up_self _ _ _) (Nat.le_of_ble_eq_true rfl) ?_
          exact i_vret dX7_meeting_207 rfl (by decide) (by decide) (by rw [up_up, up_up]; rfl)
      · skip
        cases h2
  have H36 : ¬ (x.1 = false ∧ y.1 = false) → PX7_meeting (Rt none (up σ 100 (obMd t nc ac cp cnt (mdN (mt (M b) (E b) (B b) x y).1 : Nat) (mdN (mt (M b) (E b) (B b) x y).2 : Nat) crs ex))) NX 36 [some (.ref 100), some (.int (iI b)), some (.int (iI (mdN x : Nat))), some (.int (iI (mdN y : Nat))), some (.int (iI (bI x.1))), none, none, none, none] [] (up σ 100 (obMd t nc ac cp cnt (mdN x : Nat) (mdN y : Nat) crs ex)) 0 0 := by
    intro hnl
    refine z_iload_n dX7_meeting_36 rfl ?_
    refine i_cSr (m_valueOf hrx) mX7_97 dX7_meeting_37 rfl rfl ⟨by decide, by decide⟩ (Nat.le_of_ble_eq_true rfl) ⟨by decide, by decide⟩ ?_
    refine z_iload_n dX7_meeting_40 rfl ?_
    refine i_cSr (m_valueOf hry) mX7_97 dX7_meeting_41 rfl rfl ⟨by decide, by decide⟩ (Nat.le_of_ble_eq_true rfl) ⟨by decide, by decide⟩ ?_
    refine i_iadd dX7_meeting_44 ?_
    refine z_istore dX7_meeting_45 (by decide) ?_
    refine z_iload dX7_meeting_47 rfl ?_
    refine z_istore dX7_meeting_49 (by decide) ?_
    refine i_iconst dX7_meeting_51 rfl ?_
    refine z_istore dX7_meeting_52 (by decide) ?_
    refine z_aload_n dX7_meeting_54 rfl ?_
    refine z_getf cls6 10 flX7_42 dX7_meeting_55 (by decide) (k100 _ _) rfl ?_
    refine z_iload_n dX7_meeting_58 rfl ?_
    refine i_iald dX7_meeting_59 ((kC _).2.1) b (by omega) (by omega) ?_
    refine i_if_le (tgt := 93) dX7_meeting_60 (by decide) (by omega) (fun h1 => ?_) (fun h1 => ?_)
    · skip
      have ek : ∀ l : Int, l = kpt (M b) (B b) (x.2.1 + y.2.1) → lft (M b) (B b) (x.2.1 + y.2.1) = x.2.1 + y.2.1 - l := fun l hl => by
        rw [hl]; unfold lft kpt; rw [if_neg (by omega), if_neg (by omega)]
      have hkp : kpt (M b) (B b) (x.2.1 + y.2.1) = clamp (B b) (x.2.1 + y.2.1) := by unfold kpt; rw [if_neg (by omega)]
      have hxy : -42 ≤ x.2.1 + y.2.1 ∧ x.2.1 + y.2.1 ≤ 42 := by omega
      have H133 : ∀ l : Int, l = kpt (M b) (B b) (x.2.1 + y.2.1) → PX7_meeting (Rt none (up σ 100 (obMd t nc ac cp cnt (mdN (mt (M b) (E b) (B b) x y).1 : Nat) (mdN (mt (M b) (E b) (B b) x y).2 : Nat) crs ex))) NX 133 [some (.ref 100), some (.int (iI b)), some (.int (iI (mdN x : Nat))), some (.int (iI (mdN y : Nat))), some (.int (iI (bI x.1))), some (.int (iI (x.2.1 + y.2.1))), some (.int (iI l)), some (.int (iI 0)), none] [] (up σ 100 (obMd t nc ac cp cnt (mdN x : Nat) (mdN y : Nat) crs ex)) 0 0 := by
        intro l hl
        refine z_iload dX7_meeting_133 rfl ?_
        refine z_iload dX7_meeting_135 rfl ?_
        refine i_isub dX7_meeting_137 ?_
        refine z_istore dX7_meeting_138 (by decide) ?_
        rw [← ek l hl, hl]
        exact H140 hnl none
      have H112 : ∀ l : Int, (l = B b ∧ B b < x.2.1 + y.2.1) ∨ (l = x.2.1 + y.2.1 ∧ x.2.1 + y.2.1 ≤ B b) → PX7_meeting (Rt none (up σ 100 (obMd t nc ac cp cnt (mdN (mt (M b) (E b) (B b) x y).1 : Nat) (mdN (mt (M b) (E b) (B b) x y).2 : Nat) crs ex))) NX 112 [some (.ref 100), some (.int (iI b)), some (.int (iI (mdN x : Nat))), some (.int (iI (mdN y : Nat))), some (.int (iI (bI x.1))), some (.int (iI (x.2.1 + y.2.1))), some (.int (iI l)), some (.int (iI 0)), none] [] (up σ 100 (obMd t nc ac cp cnt (mdN x : Nat) (mdN y : Nat) crs ex)) 0 0 := by
        intro l hl
        refine z_iload dX7_meeting_112 rfl ?_
        refine z_aload_n dX7_meeting_114 rfl ?_
        refine z_getf cls6 9 flX7_39 dX7_meeting_115 (by decide) (k100 _ _) rfl ?_
        refine z_iload_n dX7_meeting_118 rfl ?_
        refine i_iald dX7_meeting_119 ((kC _).1) b (by omega) (by omega) ?_
        refine i_ineg dX7_meeting_120 ?_
        refine i_icmp_ge (tgt := 133) dX7_meeting_121 (by decide) (by omega) (by omega) (fun h3 => ?_) (fun h3 => ?_)
        · skip
          refine H133 l ?_
          rw [hkp]; unfold clamp
          rcases hl with hl | hl
          · rw [if_neg (by omega), if_pos hl.2]; exact hl.1
          · rw [if_neg (by omega), if_neg (by omega)]; exact hl.1
        · skip
          refine z_aload_n dX7_meeting_124 rfl ?_
          refine z_getf cls6 9 flX7_39 dX7_meeting_125 (by decide) (k100 _ _) rfl ?_
          refine z_iload_n dX7_meeting_128 rfl ?_
          refine i_iald dX7_meeting_129 ((kC _).1) b (by omega) (by omega) ?_
          refine i_ineg dX7_meeting_130 ?_
          refine z_istore dX7_meeting_131 (by decide) ?_
          refine H133 _ ?_
          rw [hkp]; unfold clamp
          rw [if_pos (by omega)]
      refine z_iload dX7_meeting_93 rfl ?_
      refine z_aload_n dX7_meeting_95 rfl ?_
      refine z_getf cls6 9 flX7_39 dX7_meeting_96 (by decide) (k100 _ _) rfl ?_
      refine z_iload_n dX7_meeting_99 rfl ?_
      refine i_iald dX7_meeting_100 ((kC _).1) b (by omega) (by omega) ?_
      refine i_icmp_le (tgt := 112) dX7_meeting_101 (by decide) (by omega) (by omega) (fun h2 => ?_) (fun h2 => ?_)
      · skip
        exact H112 _ (Or.inr ⟨rfl, h2⟩)
      · skip
        refine z_aload_n dX7_meeting_104 rfl ?_
        refine z_getf cls6 9 flX7_39 dX7_meeting_105 (by decide) (k100 _ _) rfl ?_
        refine z_iload_n dX7_meeting_108 rfl ?_
        refine i_iald dX7_meeting_109 ((kC _).1) b (by omega) (by omega) ?_
        refine z_istore dX7_meeting_110 (by decide) ?_
        exact H112 _ (Or.inl ⟨rfl, h2⟩)
    · skip
      have h1x := hx.1 h1
      have h1y := hy.1 h1
      have el : lft (M b) (B b) (x.2.1 + y.2.1) = 0 := by unfold lft; rw [if_pos h1]
      have ekp : kpt (M b) (B b) (x.2.1 + y.2.1) = if M b ≤ x.2.1 + y.2.1 then x.2.1 + y.2.1 - M b else x.2.1 + y.2.1 := by
        unfold kpt; rw [if_pos h1]
        by_cases q : M b ≤ x.2.1 + y.2.1
        · rw [if_pos q, ← Int.sub_emod_right, Int.emod_eq_of_lt (by omega) (by omega)]
        · rw [if_neg q, Int.emod_eq_of_lt (by omega) (by omega)]
      have H := H140 hnl none
      rw [el, ekp] at H
      refine z_iload dX7_meeting_63 rfl ?_
      refine z_aload_n dX7_meeting_65 rfl ?_
      refine z_getf cls6 10 flX7_42 dX7_meeting_66 (by decide) (k100 _ _) rfl ?_
      refine z_iload_n dX7_meeting_69 rfl ?_
      refine i_iald dX7_meeting_70 ((kC _).2.1) b (by omega) (by omega) ?_
      refine i_icmp_lt (tgt := 86) dX7_meeting_71 (by decide) (by omega) (by omega) (fun h2 => ?_) (fun h2 => ?_)
      · skip
        refine z_iload dX7_meeting_86 rfl ?_
        refine z_istore dX7_meeting_88 (by decide) ?_
        refine z_goto (tgt := 140) dX7_meeting_90 (by decide) ?_
        rw [if_neg (by omega)] at H
        exact H
      · skip
        refine z_iload dX7_meeting_74 rfl ?_
        refine z_aload_n dX7_meeting_76 rfl ?_
        refine z_getf cls6 10 flX7_42 dX7_meeting_77 (by decide) (k100 _ _) rfl ?_
        refine z_iload_n dX7_meeting_80 rfl ?_
        refine i_iald dX7_meeting_81 ((kC _).2.1) b (by omega) (by omega) ?_
        refine i_isub dX7_meeting_82 ?_
        refine z_goto (tgt := 88) dX7_meeting_83 (by decide) ?_
        refine z_istore dX7_meeting_88 (by decide) ?_
        refine z_goto (tgt := 140) dX7_meeting_90 (by decide) ?_
        rw [if_pos (by omega)] at H
        exact H
  have m1 := md86 (okM_rg ha hx)
  have m2 := md86 (okM_rg ha hy)
  have H23 : ¬ (x.1 = false ∧ y.1 = false) → PX7_meeting (Rt none (up σ 100 (obMd t nc ac cp cnt (mdN (mt (M b) (E b) (B b) x y).1 : Nat) (mdN (mt (M b) (E b) (B b) x y).2 : Nat) crs ex))) NX 23 [some (.ref 100), some (.int (iI b)), some (.int (iI (mdN x : Nat))), some (.int (iI (mdN y : Nat))), none, none, none, none, none] [] (up σ 100 (obMd t nc ac cp cnt (mdN x : Nat) (mdN y : Nat) crs ex)) 0 0 := by
    intro hnl
    have H := H36 hnl
    refine z_iload_n dX7_meeting_23 rfl ?_
    refine i_bipush dX7_meeting_24 (by decide) ?_
    refine i_icmp_lt (tgt := 33) dX7_meeting_26 (by decide) (by omega) (by omega) (fun h1 => ?_) (fun h1 => ?_)
    · skip
      have : x.1 = false := by
        cases q : x.1 with
        | false => rfl
        | true => have := m1.mpr q; omega
      rw [this] at H
      refine i_iconst dX7_meeting_33 rfl ?_
      refine z_istore dX7_meeting_34 (by decide) ?_
      exact H
    · skip
      rw [m1.mp (by omega)] at H
      refine i_iconst dX7_meeting_29 rfl ?_
      refine z_goto (tgt := 34) dX7_meeting_30 (by decide) ?_
      refine z_istore dX7_meeting_34 (by decide) ?_
      exact H
  refine z_aload_n dX7_meeting_0 rfl ?_
  refine z_iload_n dX7_meeting_1 rfl ?_
  refine i_puti cls6 17 flX7_64 dX7_meeting_2 (by decide) rfl rfl (by first | exact h100 | rfl) (Nat.le_of_ble_eq_true rfl) ?_
  refine z_aload_n dX7_meeting_5 rfl ?_
  refine z_iload_n dX7_meeting_6 rfl ?_
  refine i_puti cls6 18 flX7_67 dX7_meeting_7 (by decide) rfl rfl (up_self _ _ _) (Nat.le_of_ble_eq_true rfl) ?_
  refine z_eqw (u := up σ 100 (obMd t nc ac cp cnt (mdN x : Nat) (mdN y : Nat) crs ex)) (by rw [up_up]; rfl) ?_
  refine z_iload_n dX7_meeting_10 rfl ?_
  refine i_bipush dX7_meeting_11 (by decide) ?_
  refine i_icmp_ge (tgt := 23) dX7_meeting_13 (by decide) (by omega) (by omega) (fun h1 => ?_) (fun h1 => ?_)
  · skip
    exact H23 (fun z => by rw [m1.mp h1] at z; cases z.1)
  · skip
    refine z_iload_n dX7_meeting_16 rfl ?_
    refine i_bipush dX7_meeting_17 (by decide) ?_
    refine i_icmp_ge (tgt := 23) dX7_meeting_19 (by decide) (by omega) (by omega) (fun h2 => ?_) (fun h2 => ?_)
    · skip
      exact H23 (fun z => by rw [m2.mp h2] at z; cases z.2)
    · skip
      have e1 : mt (M b) (E b) (B b) x y = (x, y) := mt_no (by
        cases q : x.1 with
        | false => rfl
        | true => have := m1.mpr q; omega) (by
        cases q : y.1 with
        | false => rfl
        | true => have := m2.mpr q; omega)
      rw [e1]
      exact i_vret dX7_meeting_22 rfl (by decide) (by decide) rfl
theorem m_firstState {b l : Nat} {cfM : Nat → Int} {cf : Nat → Int} (h100 : σ 100 = some (obMd t nc ac cp cnt no n2 crs ex)) (hC : MC σ M E B) (h106 : σ 106 = some (AI 40 cfM)) (hb : b < 5) (ha : okA (M b) (E b) (B b)) (hl : l < 8) (hcf : cfM (8 * b + l) = cf l) (hc1 : -20 ≤ cf l ∧ cf l ≤ 20) (hc2 : -(B b) ≤ cf l ∧ cf l ≤ B b) : KX7_firstState [.ref 100, .int (iI b), .int (iI l)] σ (Rt (some (.int (iI (mdN (bgn (M b) (E b) (cf l)) : Nat)))) σ) NX := by
  refine Ct.intro (by decide) (Nat.le_of_ble_eq_true rfl) ?_
  have a1 := ha.m
  have a2 := ha.e
  have hbg := okM_rg ha (bgn_ok (m := M b) (e := E b) (b := B b) ha hc2)
  rw [← mdE_n hbg]
  have H44 : PX7_firstState (Rt (some (.int (iI (mdE true (red (M b) (cf l)) (opn (M b) (E b) (red (M b) (cf l))))))) σ) NX 44 [some (.ref 100), some (.int (iI b)), some (.int (iI l)), some (.int (iI (red (M b) (cf l))))] [] σ 0 0 := by
    have hrr : -1000 ≤ red (M b) (cf l) ∧ red (M b) (cf l) ≤ 1000 := by
      have : rg (bgn (M b) (E b) (cf l)) := hbg
      unfold rg at this
      have h2 : (bgn (M b) (E b) (cf l)).2.1 = red (M b) (cf l) := rfl
      omega
    refine z_aload_n dX7_firstState_44 rfl ?_
    refine z_iload_n dX7_firstState_45 rfl ?_
    refine i_iconst dX7_firstState_46 rfl ?_
    refine z_iload_n dX7_firstState_47 rfl ?_
    refine z_aload_n dX7_firstState_48 rfl ?_
    refine z_iload_n dX7_firstState_49 rfl ?_
    refine z_iload_n dX7_firstState_50 rfl ?_
    refine i_cVr (m_opinionOf h100 hC hb ha hrr) mX7_89 dX7_firstState_51 (by first | exact h100 | rfl) rfl rfl rfl ⟨by decide, by decide⟩ (Nat.le_of_ble_eq_true rfl) ⟨by decide, by decide⟩ ?_
    refine i_cVr (m_stateOf (ld := true)) mX7_93 dX7_firstState_54 h100 rfl rfl rfl ⟨by decide, by decide⟩ (Nat.le_of_ble_eq_true rfl) ⟨by decide, by decide⟩ ?_
    exact i_iret dX7_firstState_57 rfl (by decide) (by decide) rfl
  refine z_aload_n dX7_firstState_0 rfl ?_
  refine z_getf cls6 8 flX7_36 dX7_firstState_1 (by decide) (by first | exact h100 | rfl) rfl ?_
  refine i_bipush dX7_firstState_4 (by decide) ?_
  refine z_iload_n dX7_firstState_6 rfl ?_
  refine i_imul dX7_firstState_7 ?_
  refine z_iload_n dX7_firstState_8 rfl ?_
  refine i_iadd dX7_firstState_9 ?_
  refine i_iald dX7_firstState_10 (by first | exact h106 | rfl) (8 * b + l) (by omega) (by omega) ?_
  rw [hcf]
  refine z_istore_n dX7_firstState_11 (by decide) ?_
  refine z_aload_n dX7_firstState_12 rfl ?_
  refine z_getf cls6 10 flX7_42 dX7_firstState_13 (by decide) (by first | exact h100 | rfl) rfl ?_
  refine z_iload_n dX7_firstState_16 rfl ?_
  refine i_iald dX7_firstState_17 (hC.2.1) b (by omega) (by omega) ?_
  refine i_if_le (tgt := 44) dX7_firstState_18 (by decide) (by omega) (fun h1 => ?_) (fun h1 => ?_)
  · skip
    have hred : red (M b) (cf l) = cf l := by unfold red; rw [if_neg (by omega)]
    have hb2 : bgn (M b) (E b) (cf l) = (true, cf l, opn (M b) (E b) (cf l)) := by unfold bgn; rw [hred]
    rw [hb2]
    rw [hred] at H44
    exact H44
  · skip
    have ht : -16 < (cf l).tmod (M b) ∧ (cf l).tmod (M b) < 16 := by
      have h3 := Int.tmod_lt_of_pos (cf l) h1
      have h4 := Int.lt_tmod_of_pos (cf l) h1
      omega
    have e2 : ((cf l).tmod (M b) + M b).tmod (M b) = red (M b) (cf l) := by
      have h4 := Int.lt_tmod_of_pos (cf l) h1
      unfold red; rw [if_pos h1, Int.tmod_eq_emod_of_nonneg (by omega), Int.add_emod_right]
      conv => rhs; rw [← Int.mul_tdiv_add_tmod (cf l) (M b)]
      rw [Int.add_comm, Int.add_mul_emod_self_left]
    refine z_iload_n dX7_firstState_21 rfl ?_
    refine z_aload_n dX7_firstState_22 rfl ?_
    refine z_getf cls6 10 flX7_42 dX7_firstState_23 (by decide) (by first | exact h100 | rfl) rfl ?_
    refine z_iload_n dX7_firstState_26 rfl ?_
    refine i_iald dX7_firstState_27 (hC.2.1) b (by omega) (by omega) ?_
    refine i_irem dX7_firstState_28 (by omega) (by omega) (by omega) ?_
    refine z_aload_n dX7_firstState_29 rfl ?_
    refine z_getf cls6 10 flX7_42 dX7_firstState_30 (by decide) (by first | exact h100 | rfl) rfl ?_
    refine z_iload_n dX7_firstState_33 rfl ?_
    refine i_iald dX7_firstState_34 (hC.2.1) b (by omega) (by omega) ?_
    refine i_iadd dX7_firstState_35 ?_
    refine z_aload_n dX7_firstState_36 rfl ?_
    refine z_getf cls6 10 flX7_42 dX7_firstState_37 (by decide) (by first | exact h100 | rfl) rfl ?_
    refine z_iload_n dX7_firstState_40 rfl ?_
    refine i_iald dX7_firstState_41 (hC.2.1) b (by omega) (by omega) ?_
    refine i_irem dX7_firstState_42 (by omega) (by omega) (by omega) ?_
    rw [e2]
    refine z_istore_n dX7_firstState_43 (by decide) ?_
    exact H44
end MOD1

