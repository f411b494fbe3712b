/-- the world with an object and the agents -/
def MG (σ : Wd) (O : pCell) (g : Nat → Int) : Wd := up (up σ 111 (AI 1000 g)) 100 O
section MGS
variable {σ : Wd} {O : pCell} {g : Nat → Int}
theorem MG_100 : MG σ O g 100 = some O := rfl
theorem MG_111 : MG σ O g 111 = some (AI 1000 g) := rfl
theorem MG_x {q : Nat} (h1 : q ≠ 100) (h2 : q ≠ 111) : MG σ O g q = σ q := by unfold MG; rw [up_ne _ _ h1, up_ne _ _ h2]
theorem MG_s100 (O' : pCell) : up (MG σ O g) 100 O' = MG σ O' g := up_up _ _ _ _
theorem MG_s111 (g' : Nat → Int) : up (MG σ O g) 111 (AI 1000 g') = MG σ O g' := by unfold MG; rw [up_comm _ _ _ (show (100 : Nat) ≠ 111 by decide), up_up]
theorem MG_C {M E B : Nat → Int} (h : MC σ M E B) : MC (MG σ O g) M E B := h.fr (fun q q1 q2 => MG_x (by omega) (by omega))
theorem MG_id (h0 : σ 100 = some O) (h1 : σ 111 = some (AI 1000 g)) : MG σ O g = σ := by unfold MG; rw [up_id h1, up_id h0]
end MGS
def AM (ac cnt : Nat) (g : Nat → Int) (ag : Nat → Nat → St) : Prop := ∀ p, p < cnt → ∀ c, c < ac → g (5 * p + c) = (mdN (ag p c) : Nat)
def pmt (ac : Nat) (M E B : Nat → Int) (ag : Nat → Nat → St) (i j a : Nat) : Nat → Nat → St := fun p c => if c < a then mtg ac M E B ag i j p c else ag p c
section MOD5
variable {σ : Wd} {t : Int} {nc ac : Nat} {cp : Bool} {cnt : Nat} {no n2 : Int} {crs : Nat} {ex : Bool} {M E B : Nat → Int} {CF : Nat → Nat → Int}
theorem pmt_s {ag : Nat → Nat → St} {i j a : Nat} (hij : i ≠ j) (ha : a < ac) {g : Nat → Int} (hac : ac ≤ 5) (h : AM ac cnt g (pmt ac M E B ag i j a)) : AM ac cnt (va_up (va_up g (5 * i + a) ((mdN (mt (M a) (E a) (B a) (ag i a) (ag j a)).1 : Nat) : Int)) (5 * j + a) ((mdN (mt (M a) (E a) (B a) (ag i a) (ag j a)).2 : Nat) : Int)) (pmt ac M E B ag i j (a + 1)) := fun p hp c hc => by
  have hm1 : mtg ac M E B ag i j i a = (mt (M a) (E a) (B a) (ag i a) (ag j a)).1 := by unfold mtg; rw [va_up_ne _ _ hij, va_up_self, mtA1_at ha]
  have hm2 : mtg ac M E B ag i j j a = (mt (M a) (E a) (B a) (ag i a) (ag j a)).2 := by unfold mtg; rw [va_up_self, mtA2_at ha]
  have h0 := h p hp c hc
  unfold pmt at h0 ⊢
  by_cases q : c = a
  · subst q
    rw [if_pos (by omega)]
    rw [if_neg (by omega)] at h0
    by_cases q1 : p = j
    · rw [q1, va_up_self, hm2]
    · rw [va_up_ne _ _ (by omega)]
      by_cases q2 : p = i
      · rw [q2, va_up_self, hm1]
      · rw [va_up_ne _ _ (by omega), h0]
        unfold mtg
        rw [va_up_ne _ _ q1, va_up_ne _ _ q2]
  · rw [va_up_ne _ _ (by omega), va_up_ne _ _ (by omega), h0]
    by_cases q1 : c < a
    · rw [if_pos q1, if_pos (by omega)]
    · rw [if_neg q1, if_neg (by omega)]
theorem chg_ex {ag : Nat → Nat → St} {i j : Nat} (hok : okAs ac M E B CF) (hi : okG ac M B (ag i)) (hj : okG ac M B (ag j)) : chg ac M E B (ag i) (ag j) = true ↔ ∃ c, c < ac ∧ mt (M c) (E c) (B c) (ag i c) (ag j c) ≠ (ag i c, ag j c) := by
  have h := chg_f (E := E) hok hi hj
  constructor
  · intro hc
    refine Classical.byContradiction fun hn => ?_
    have hall : ∀ c, c < ac → mt (M c) (E c) (B c) (ag i c) (ag j c) = (ag i c, ag j c) := fun c hc => Classical.byContradiction fun z => hn ⟨c, hc, z⟩
    have := h.mpr ⟨funext fun c => by
      by_cases q : c < ac
      · rw [mtA1_at q, hall c q]
      · exact if_neg q, funext fun c => by
      by_cases q : c < ac
      · rw [mtA2_at q, hall c q]
      · exact if_neg q⟩
    rw [hc] at this; cases this
  · rintro ⟨c, c1, c2⟩
    cases q : chg ac M E B (ag i) (ag j) with
    | true => rfl
    | false =>
      obtain ⟨e1, e2⟩ := h.mp q
      refine absurd (Prod.ext ?_ ?_) c2
      · have := congrFun e1 c; rw [mtA1_at c1] at this; exact this
      · have := congrFun e2 c; rw [mtA2_at c1] at this; exact this
theorem m_meets {agf : Nat → Int} {ag : Nat → Nat → St} {i j : Nat} {done : Bool} (hC : MC σ M E B) (hac : ac ≤ 5) (hok : okAs ac M E B CF) (hct : cnt ≤ 200) (hij : i ≠ j) (hi : i < cnt) (hj : j < cnt) (hko : okC ac M B cnt ag) (hag : AM ac cnt agf ag) :
    KX7_meets [.ref 100, .int (iI i), .int (iI j), .int (iI (bI done))] (MG σ (obMd t nc ac cp cnt no n2 crs ex) agf) (fun r u => ∃ (no' n2' : Int) (agf' : Nat → Int), r = some (.int (iI (bI (chg ac M E B (ag i) (ag j))))) ∧ u = MG σ (obMd t nc ac cp cnt no' n2' crs (bif chg ac M E B (ag i) (ag j) && done then false else ex)) agf' ∧ (done = false → agf' = agf) ∧ (done = true → AM ac cnt agf' (mtg ac M E B ag i j))) NX := by
  refine Ct.intro (by decide) (Nat.le_of_ble_eq_true rfl) ?_
  obtain ⟨Q, hQ⟩ : ∃ Q : Option Value → Wd → Prop, Q = fun r u => ∃ (no' n2' : Int) (agf' : Nat → Int), r = some (.int (iI (bI (chg ac M E B (ag i) (ag j))))) ∧ u = MG σ (obMd t nc ac cp cnt no' n2' crs (bif chg ac M E B (ag i) (ag j) && done then false else ex)) agf' ∧ (done = false → agf' = agf) ∧ (done = true → AM ac cnt agf' (mtg ac M E B ag i j)) := ⟨_, rfl⟩
  rw [← hQ]
  have H : ∀ a : Nat, a ≤ ac → ∀ (ch : Bool) (no n2 : Int) (g : Nat → Int), (ch = true ↔ ∃ c, c < a ∧ mt (M c) (E c) (B c) (ag i c) (ag j c) ≠ (ag i c, ag j c)) → (done = false → g = agf) → (done = true → AM ac cnt g (pmt ac M E B ag i j a)) → PX7_meets Q NX 6 [some (.ref 100), some (.int (iI i)), some (.int (iI j)), some (.int (iI (bI done))), some (.int (iI (bI ch))), some (.int (iI a))] [] (MG σ (obMd t nc ac cp cnt no n2 crs ex) g) 0 0 := by
    refine up_to ac ?_ ?_
    · intro ch no n2 g h1 h2 h3
      have hch : ch = chg ac M E B (ag i) (ag j) := by
        have := chg_ex hok (hko i hi) (hko j hj)
        rw [← h1] at this
        cases ch <;> cases q : chg ac M E B (ag i) (ag j) <;> simp_all
      have h3' : done = true → AM ac cnt g (mtg ac M E B ag i j) := fun z p hp c hc => by
        have := h3 z p hp c hc
        unfold pmt at this
        rw [if_pos hc] at this; exact this
      rw [hch]
      refine z_iload dX7_meets_6 rfl ?_
      refine z_aload_n dX7_meets_8 rfl ?_
      refine z_getf cls6 7 flX7_33 dX7_meets_9 (by decide) (MG_100) rfl ?_
      refine i_icmp_ge (tgt := 122) dX7_meets_12 (by decide) (by omega) (by omega) (fun h4 => ?_) (fun h4 => ?_)
      · skip
        refine z_iload dX7_meets_122 rfl ?_
        refine i_ifb_eq (tgt := 136) dX7_meets_124 (by decide) (fun h5 => ?_) (fun h5 => ?_)
        · skip
          refine z_iload dX7_meets_136 rfl ?_
          exact z_zret dX7_meets_138 rfl (by decide) (by decide) (bI_n _) (by rw [hQ]; exact ⟨no, n2, g, rfl, by rw [h5]; rfl, h2, h3'⟩)
        · skip
          refine z_iload_n dX7_meets_127 rfl ?_
          refine i_ifb_eq (tgt := 136) dX7_meets_128 (by decide) (fun h6 => ?_) (fun h6 => ?_)
          · skip
            refine z_iload dX7_meets_136 rfl ?_
            exact z_zret dX7_meets_138 rfl (by decide) (by decide) (bI_n _) (by rw [hQ]; exact ⟨no, n2, g, rfl, by rw [h6, Bool.and_false]; rfl, h2, h3'⟩)
          · skip
            refine z_aload_n dX7_meets_131 rfl ?_
            refine i_iconst dX7_meets_132 rfl ?_
            refine i_putz (b := false) cls6 23 flX7_83 dX7_meets_133 (by decide) rfl rfl (MG_100) (Nat.le_of_ble_eq_true rfl) ?_
            refine z_eqw (MG_s100 (obMd t nc ac cp cnt no n2 crs false)) ?_
            refine z_iload dX7_meets_136 rfl ?_
            exact z_zret dX7_meets_138 rfl (by decide) (by decide) (bI_n _) (by rw [hQ]; exact ⟨no, n2, g, rfl, by rw [h5, h6]; rfl, h2, h3'⟩)
      · skip
        omega
    · intro a ha ih ch no n2 g h1 h2 h3
      have gi : g (5 * i + a) = (mdN (ag i a) : Nat) := by
        cases q : done with
        | false => rw [h2 q]; exact hag i hi a ha
        | true => have := h3 q i hi a ha
                  unfold pmt at this
                  rw [if_neg (by omega)] at this; exact this
      have gj : g (5 * j + a) = (mdN (ag j a) : Nat) := by
        cases q : done with
        | false => rw [h2 q]; exact hag j hj a ha
        | true => have := h3 q j hj a ha
                  unfold pmt at this
                  rw [if_neg (by omega)] at this; exact this
      have oa := (hok a ha).1
      have oi := hko i hi a ha
      have oj := hko j hj a ha
      obtain ⟨mo1, mo2⟩ := mt_ok oa oi oj
      have ml1 := mdN_lt (okM_rg oa mo1)
      have ml2 := mdN_lt (okM_rg oa mo2)
      have mli := mdN_lt (okM_rg oa oi)
      have mlj := mdN_lt (okM_rg oa oj)
      have H82 : ∀ ch' : Bool, (ch' = true ↔ ∃ c, c < a + 1 ∧ mt (M c) (E c) (B c) (ag i c) (ag j c) ≠ (ag i c, ag j c)) → PX7_meets Q NX 82 [some (.ref 100), some (.int (iI i)), some (.int (iI j)), some (.int (iI (bI done))), some (.int (iI (bI ch'))), some (.int (iI a))] [] (MG σ (obMd t nc ac cp cnt (mdN (mt (M a) (E a) (B a) (ag i a) (ag j a)).1 : Nat) (mdN (mt (M a) (E a) (B a) (ag i a) (ag j a)).2 : Nat) crs ex) g) 0 0 := by
        intro ch' hch
        refine z_iload_n dX7_meets_82 rfl ?_
        refine i_ifb_eq (tgt := 116) dX7_meets_83 (by decide) (fun h5 => ?_) (fun h5 => ?_)
        · skip
          refine i_iinc dX7_meets_116 rfl (by decide) ?_
          refine z_goto (tgt := 6) dX7_meets_119 (by decide) ?_
          exact ih ch' _ _ g hch h2 (fun z => by rw [h5] at z; cases z)
        · skip
          refine z_aload_n dX7_meets_86 rfl ?_
          refine z_getf cls6 15 flX7_58 dX7_meets_87 (by decide) (MG_100) rfl ?_
          refine i_iconst dX7_meets_90 rfl ?_
          refine z_iload_n dX7_meets_91 rfl ?_
          refine i_imul dX7_meets_92 ?_
          refine z_iload dX7_meets_93 rfl ?_
          refine i_iadd dX7_meets_95 ?_
          refine z_aload_n dX7_meets_96 rfl ?_
          refine z_getf cls6 17 flX7_64 dX7_meets_97 (by decide) (MG_100) rfl ?_
          refine i_iast dX7_meets_100 (MG_111) (5 * i + a) (by omega) (by omega) ?_
          rw [MG_s111]
          refine z_aload_n dX7_meets_101 rfl ?_
          refine z_getf cls6 15 flX7_58 dX7_meets_102 (by decide) (MG_100) rfl ?_
          refine i_iconst dX7_meets_105 rfl ?_
          refine z_iload_n dX7_meets_106 rfl ?_
          refine i_imul dX7_meets_107 ?_
          refine z_iload dX7_meets_108 rfl ?_
          refine i_iadd dX7_meets_110 ?_
          refine z_aload_n dX7_meets_111 rfl ?_
          refine z_getf cls6 18 flX7_67 dX7_meets_112 (by decide) (MG_100) rfl ?_
          refine i_iast dX7_meets_115 (MG_111) (5 * j + a) (by omega) (by omega) ?_
          rw [MG_s111]
          refine i_iinc dX7_meets_116 rfl (by decide) ?_
          refine z_goto (tgt := 6) dX7_meets_119 (by decide) ?_
          exact ih ch' _ _ _ hch (fun z => by rw [h5] at z; cases z) (fun z => pmt_s hij ha hac (h3 z))
      have H79 : mt (M a) (E a) (B a) (ag i a) (ag j a) ≠ (ag i a, ag j a) → PX7_meets Q NX 79 [some (.ref 100), some (.int (iI i)), some (.int (iI j)), some (.int (iI (bI done))), some (.int (iI (bI ch))), some (.int (iI a))] [] (MG σ (obMd t nc ac cp cnt (mdN (mt (M a) (E a) (B a) (ag i a) (ag j a)).1 : Nat) (mdN (mt (M a) (E a) (B a) (ag i a) (ag j a)).2 : Nat) crs ex) g) 0 0 := by
        intro hne
        refine i_iconst dX7_meets_79 rfl ?_
        refine z_istore dX7_meets_80 (by decide) ?_
        exact H82 true ⟨fun _ => ⟨a, by omega, hne⟩, fun _ => rfl⟩
      refine z_iload dX7_meets_6 rfl ?_
      refine z_aload_n dX7_meets_8 rfl ?_
      refine z_getf cls6 7 flX7_33 dX7_meets_9 (by decide) (MG_100) rfl ?_
      refine i_icmp_ge (tgt := 122) dX7_meets_12 (by decide) (by omega) (by omega) (fun h4 => ?_) (fun h4 => ?_)
      · skip
        omega
      · skip
        refine z_aload_n dX7_meets_15 rfl ?_
        refine z_iload dX7_meets_16 rfl ?_
        refine z_aload_n dX7_meets_18 rfl ?_
        refine z_getf cls6 15 flX7_58 dX7_meets_19 (by decide) (MG_100) rfl ?_
        refine i_iconst dX7_meets_22 rfl ?_
        refine z_iload_n dX7_meets_23 rfl ?_
        refine i_imul dX7_meets_24 ?_
        refine z_iload dX7_meets_25 rfl ?_
        refine i_iadd dX7_meets_27 ?_
        refine i_iald dX7_meets_28 (MG_111) (5 * i + a) (by omega) (by omega) ?_
        refine z_aload_n dX7_meets_29 rfl ?_
        refine z_getf cls6 15 flX7_58 dX7_meets_30 (by decide) (MG_100) rfl ?_
        refine i_iconst dX7_meets_33 rfl ?_
        refine z_iload_n dX7_meets_34 rfl ?_
        refine i_imul dX7_meets_35 ?_
        refine z_iload dX7_meets_36 rfl ?_
        refine i_iadd dX7_meets_38 ?_
        refine i_iald dX7_meets_39 (MG_111) (5 * j + a) (by omega) (by omega) ?_
        rw [gi, gj]
        refine i_cVv (m_meeting MG_100 (MG_C hC) (by omega) oa oi oj) mX7_105 dX7_meets_40 (MG_100) rfl rfl rfl ⟨by decide, by decide⟩ (Nat.le_of_ble_eq_true rfl) ⟨by decide, by decide⟩ ?_
        rw [MG_s100]
        refine z_aload_n dX7_meets_43 rfl ?_
        refine z_getf cls6 17 flX7_64 dX7_meets_44 (by decide) (MG_100) rfl ?_
        refine z_aload_n dX7_meets_47 rfl ?_
        refine z_getf cls6 15 flX7_58 dX7_meets_48 (by decide) (MG_100) rfl ?_
        refine i_iconst dX7_meets_51 rfl ?_
        refine z_iload_n dX7_meets_52 rfl ?_
        refine i_imul dX7_meets_53 ?_
        refine z_iload dX7_meets_54 rfl ?_
        refine i_iadd dX7_meets_56 ?_
        refine i_iald dX7_meets_57 (MG_111) (5 * i + a) (by omega) (by omega) ?_
        rw [gi]
        refine i_icmp_ne (tgt := 79) dX7_meets_58 (by decide) (by omega) (by omega) (fun h5 => ?_) (fun h5 => ?_)
        · skip
          exact H79 (fun z => by rw [z] at h5; exact h5 rfl)
        · skip
          refine z_aload_n dX7_meets_61 rfl ?_
          refine z_getf cls6 18 flX7_67 dX7_meets_62 (by decide) (MG_100) rfl ?_
          refine z_aload_n dX7_meets_65 rfl ?_
          refine z_getf cls6 15 flX7_58 dX7_meets_66 (by decide) (MG_100) rfl ?_
          refine i_iconst dX7_meets_69 rfl ?_
          refine z_iload_n dX7_meets_70 rfl ?_
          refine i_imul dX7_meets_71 ?_
          refine z_iload dX7_meets_72 rfl ?_
          refine i_iadd dX7_meets_74 ?_
          refine i_iald dX7_meets_75 (MG_111) (5 * j + a) (by omega) (by omega) ?_
          rw [gj]
          refine i_icmp_eq (tgt := 82) dX7_meets_76 (by decide) (by omega) (by omega) (fun h6 => ?_) (fun h6 => ?_)
          · skip
            have heq : mt (M a) (E a) (B a) (ag i a) (ag j a) = (ag i a, ag j a) := Prod.ext (mdN_inj (okM_rg oa mo1) (okM_rg oa oi) (by show _ = mdN (ag i a); omega)) (mdN_inj (okM_rg oa mo2) (okM_rg oa oj) (by show _ = mdN (ag j a); omega))
            refine H82 ch ⟨fun z => ?_, fun ⟨c, c1, c2⟩ => ?_⟩
            · obtain ⟨c, c1, c2⟩ := h1.mp z
              exact ⟨c, by omega, c2⟩
            · by_cases q : c = a
              · rw [q] at c2; exact absurd heq c2
              · exact h1.mpr ⟨c, by omega, c2⟩
          · skip
            exact H79 (fun z => by rw [z] at h6; exact h6 rfl)
  refine i_iconst dX7_meets_0 rfl ?_
  refine z_istore dX7_meets_1 (by decide) ?_
  refine i_iconst dX7_meets_3 rfl ?_
  refine z_istore dX7_meets_4 (by decide) ?_
  refine H 0 (by omega) false no n2 agf ⟨fun z => Bool.noConfusion z, fun ⟨c, c1, _⟩ => absurd c1 (Nat.not_lt_zero c)⟩ (fun _ => rfl) (fun _ p hp c hc => ?_)
  unfold pmt
  rw [if_neg (by omega)]; exact hag p hp c hc
end MOD5

