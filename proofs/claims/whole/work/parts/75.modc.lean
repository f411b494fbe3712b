/-- the reference's world with a search -/
def MSw (σ : Wd) (O : pCell) (tr : Nat → Bool) (cr tb : Nat → Nat) (gd : Nat → Bool) (wk : Nat → Nat) : Wd := up (up (up (up (up (up σ 116 (AL 6 wk)) 115 (AZ 3002 gd)) 114 (AI 8192 (fun p => (tb p : Nat)))) 113 (AL 18012 cr)) 105 (AZ 20 tr)) 100 O
section MSS
variable {σ : Wd} {O : pCell} {tr : Nat → Bool} {cr tb : Nat → Nat} {gd : Nat → Bool} {wk : Nat → Nat}
theorem MS_100 : MSw σ O tr cr tb gd wk 100 = some O := rfl
theorem MS_105 : MSw σ O tr cr tb gd wk 105 = some (AZ 20 tr) := rfl
theorem MS_113 : MSw σ O tr cr tb gd wk 113 = some (AL 18012 cr) := rfl
theorem MS_114 : MSw σ O tr cr tb gd wk 114 = some (AI 8192 (fun p => (tb p : Nat))) := rfl
theorem MS_115 : MSw σ O tr cr tb gd wk 115 = some (AZ 3002 gd) := rfl
theorem MS_116 : MSw σ O tr cr tb gd wk 116 = some (AL 6 wk) := rfl
theorem MS_x {q : Nat} (h : q < 100 ∨ 116 < q ∨ (100 < q ∧ q < 105) ∨ (105 < q ∧ q < 113)) : MSw σ O tr cr tb gd wk q = σ q := by unfold MSw; rw [up_ne _ _ (by omega), up_ne _ _ (by omega), up_ne _ _ (by omega), up_ne _ _ (by omega), up_ne _ _ (by omega), up_ne _ _ (by omega)]
theorem MS_s100 (O' : pCell) : up (MSw σ O tr cr tb gd wk) 100 O' = MSw σ O' tr cr tb gd wk := up_up _ _ _ _
theorem MS_s105 (tr' : Nat → Bool) : up (MSw σ O tr cr tb gd wk) 105 (AZ 20 tr') = MSw σ O tr' cr tb gd wk := funext fun q => by
  by_cases h : q = 105
  · rw [h]; rfl
  · simp only [MSw, up, bq h]; rfl
theorem MS_s113 (cr' : Nat → Nat) : up (MSw σ O tr cr tb gd wk) 113 (AL 18012 cr') = MSw σ O tr cr' tb gd wk := funext fun q => by
  by_cases h : q = 113
  · rw [h]; rfl
  · simp only [MSw, up, bq h]; rfl
theorem MS_s114 (tb' : Nat → Nat) : up (MSw σ O tr cr tb gd wk) 114 (AI 8192 (fun p => (tb' p : Nat))) = MSw σ O tr cr tb' gd wk := funext fun q => by
  by_cases h : q = 114
  · rw [h]; rfl
  · simp only [MSw, up, bq h]; rfl
theorem MS_s115 (gd' : Nat → Bool) : up (MSw σ O tr cr tb gd wk) 115 (AZ 3002 gd') = MSw σ O tr cr tb gd' wk := funext fun q => by
  by_cases h : q = 115
  · rw [h]; rfl
  · simp only [MSw, up, bq h]; rfl
theorem MS_s116 (wk' : Nat → Nat) : up (MSw σ O tr cr tb gd wk) 116 (AL 6 wk') = MSw σ O tr cr tb gd wk' := funext fun q => by
  by_cases h : q = 116
  · rw [h]; rfl
  · simp only [MSw, up, bq h]; rfl
theorem MS_C {M E B : Nat → Int} (h : MC σ M E B) : MC (MSw σ O tr cr tb gd wk) M E B := h.fr (fun q q1 q2 => MS_x (by omega))
theorem MS_F2 : F2 σ (MSw σ O tr cr tb gd wk) := fun q hq => MS_x (by omega)
theorem MS_id (h0 : σ 100 = some O) (h5 : σ 105 = some (AZ 20 tr)) (h13 : σ 113 = some (AL 18012 cr)) (h14 : σ 114 = some (AI 8192 (fun p => (tb p : Nat)))) (h15 : σ 115 = some (AZ 3002 gd)) (h16 : σ 116 = some (AL 6 wk)) : MSw σ O tr cr tb gd wk = σ := by unfold MSw; rw [up_id h16, up_id h15, up_id h14, up_id h13, up_id h5, up_id h0]
end MSS
def AGM (ac w : Nat) (wk : Nat → Nat) (f : Nat → Nat → St) : Prop := ∀ k, k < w → wk k = pkM (f k) ac
theorem va_comm {α : Type} (f : Nat → α) {i j : Nat} (x y : α) (h : i ≠ j) : va_up (va_up f i x) j y = va_up (va_up f j y) i x := funext fun k => by
  by_cases q : k = j
  · rw [q, va_up_self, va_up_ne _ _ (fun z => h z.symm), va_up_self]
  · rw [va_up_ne _ _ q]
    by_cases q2 : k = i
    · rw [q2, va_up_self, va_up_self]
    · rw [va_up_ne _ _ q2, va_up_ne _ _ q2, va_up_ne _ _ q]
theorem va_upup {α : Type} (f : Nat → α) (i : Nat) (x y : α) : va_up (va_up f i x) i y = va_up f i y := funext fun k => by
  by_cases q : k = i
  · rw [q, va_up_self, va_up_self]
  · rw [va_up_ne _ _ q, va_up_ne _ _ q, va_up_ne _ _ q]
section MODC
variable {σ : Wd} {t : Int} {nc ac : Nat} {cp : Bool} {w : Nat} {no n2 : Int} {crs : Nat} {ex : Bool} {M E B : Nat → Int} {CF : Nat → Nat → Int} {tr : Nat → Bool} {cr tb : Nat → Nat} {gd : Nat → Bool} {wk : Nat → Nat}
theorem m_stateIn {A a : Nat} (hA : A < 2 ^ 40) (ha : a < 5) : KX7_stateIn [.long (lN A), .int (iI a)] σ (Rt (some (.int (iI ((A / 256 ^ a % 256 : Nat) : Int)))) σ) NX := by
  refine Ct.intro (by decide) (Nat.le_of_ble_eq_true rfl) ?_
  refine z_lload_n dX7_stateIn_0 rfl ?_
  refine i_bipush dX7_stateIn_1 (by decide) ?_
  refine z_iload_n dX7_stateIn_3 rfl ?_
  refine i_imul dX7_stateIn_4 ?_
  rw [Int.mul_comm]
  refine z_lshrx dX7_stateIn_5 ?_
  refine z_l2ix dX7_stateIn_6 ?_
  refine i_sipush dX7_stateIn_7 (by decide) ?_
  refine z_iand dX7_stateIn_10 ?_
  refine z_eqi _ (ofA hA ha) ?_
  exact i_iret dX7_stateIn_11 rfl (by decide) (by decide) rfl
theorem m_sort {ag : Nat → Nat → St} (hw : 1 ≤ w ∧ w ≤ 6) (hac : ac ≤ 5) (hr : ∀ i, i < w → ∀ a, a < ac → rg (ag i a)) (hag : AGM ac w wk ag) :
    KX7_sort [.ref 100] (MSw σ (obMd t nc ac cp w no n2 crs ex) tr cr tb gd wk) (fun r u => ∃ wk', r = none ∧ u = MSw σ (obMd t nc ac cp w no n2 crs ex) tr cr tb gd wk' ∧ AGM ac w wk' (srt (fun x => pkC x ac) w ag)) NX := by
  refine Ct.intro (by decide) (Nat.le_of_ble_eq_true rfl) ?_
  obtain ⟨Q, hQ⟩ : ∃ Q : Option Value → Wd → Prop, Q = fun r u => ∃ wk', r = none ∧ u = MSw σ (obMd t nc ac cp w no n2 crs ex) tr cr tb gd wk' ∧ AGM ac w wk' (srt (fun x => pkC x ac) w ag) := ⟨_, rfl⟩
  rw [← hQ]
  obtain ⟨ky, hky⟩ : ∃ ky : (Nat → St) → Nat, ky = fun x => pkM x ac := ⟨_, rfl⟩
  have hsk : srt (fun x => pkC x ac) w ag = srt ky w ag := by
    rw [hky]
    exact srt_key (P := fun x : Nat → St => ∀ a, a < ac → rg (x a)) (fun x y hx hy => pk_lex hx hy) w ag (Nat.le_refl _) hr
  rw [hsk] at hQ
  have hkx : ∀ x, ky x = pkM x ac := fun x => by rw [hky]
  have H : ∀ k : Nat, k ≤ w → 1 ≤ k → ∀ (wk : Nat → Nat) (o2 o3 : Option Value), AGM ac w wk (srt ky k ag) → PX7_sort Q NX 2 [some (.ref 100), some (.int (iI k)), o2, o3, none] [] (MSw σ (obMd t nc ac cp w no n2 crs ex) tr cr tb gd wk) 0 0 := by
    refine up_to w ?_ ?_
    · intro _ wk o2 o3 hag
      refine z_iload_n dX7_sort_2 rfl ?_
      refine z_aload_n dX7_sort_3 rfl ?_
      refine z_getf cls6 14 flX7_55 dX7_sort_4 (by decide) (MS_100) rfl ?_
      refine i_icmp_ge (tgt := 76) dX7_sort_7 (by decide) (by omega) (by omega) (fun h1 => ?_) (fun h1 => ?_)
      · skip
        exact z_vret dX7_sort_76 rfl (by decide) (by decide) (by rw [hQ]; exact ⟨wk, rfl, rfl, hag⟩)
      · skip
        omega
    · intro k hk ih hk1 wk o2 o3 hag
      have Hin : ∀ b : Nat, b ≤ k → ∀ (g : Nat → Nat) (F : Nat → Nat → St) (o3 : Option Value), AGM ac w g F → srt ky (k + 1) ag = ins ky b F → (∀ i, i < w → ∀ a, a < ac → rg (F i a)) → PX7_sort Q NX 12 [some (.ref 100), some (.int (iI k)), some (.int (iI b)), o3, none] [] (MSw σ (obMd t nc ac cp w no n2 crs ex) tr cr tb gd g) 0 0 := by
        have hend : ∀ (b : Nat) (g : Nat → Nat) (F : Nat → Nat → St) (o3 : Option Value), AGM ac w g F → srt ky (k + 1) ag = F → PX7_sort Q NX 70 [some (.ref 100), some (.int (iI k)), some (.int (iI b)), o3, none] [] (MSw σ (obMd t nc ac cp w no n2 crs ex) tr cr tb gd g) 0 0 := by
          intro b g F o3 hg he
          refine i_iinc dX7_sort_70 rfl (by decide) ?_
          refine z_goto (tgt := 2) dX7_sort_73 (by decide) ?_
          exact ih (by omega) g _ _ (by rw [he]; exact hg)
        intro b
        induction b with
        | zero =>
          intro hb g F o3 hg he hF
          refine z_iload_n dX7_sort_12 rfl ?_
          refine i_if_le (tgt := 70) dX7_sort_13 (by decide) (by omega) (fun h1 => ?_) (fun h1 => ?_)
          · skip
            exact hend 0 g F o3 hg he
          · skip
            omega
        | succ b ihb =>
          intro hb g F o3 hg he hF
          refine z_iload_n dX7_sort_12 rfl ?_
          refine i_if_le (tgt := 70) dX7_sort_13 (by decide) (by omega) (fun h1 => ?_) (fun h1 => ?_)
          · skip
            omega
          · skip
            refine z_aload_n dX7_sort_16 rfl ?_
            refine z_getf cls6 24 flX7_86 dX7_sort_17 (by decide) (MS_100) rfl ?_
            refine z_iload_n dX7_sort_20 rfl ?_
            refine i_lald dX7_sort_21 (MS_116) (b + 1) (by omega) (by omega) ?_
            refine z_aload_n dX7_sort_22 rfl ?_
            refine z_getf cls6 24 flX7_86 dX7_sort_23 (by decide) (MS_100) rfl ?_
            refine z_iload_n dX7_sort_26 rfl ?_
            refine i_iconst dX7_sort_27 rfl ?_
            refine i_isub dX7_sort_28 ?_
            refine i_lald dX7_sort_29 (MS_116) b (by omega) (by omega) ?_
            refine z_lcmp dX7_sort_30 ?_
            rw [hg b (by omega), hg (b + 1) (by omega)]
            have l1 := lt63 (pkM_lt hac (hF b (by omega)))
            have l2 := lt63 (pkM_lt hac (hF (b + 1) (by omega)))
            have e1 : ins ky (b + 1) F = if ky (F (b + 1)) < ky (F b) then ins ky b (sw2 F b) else F := rfl
            rw [hkx, hkx] at e1
            refine z_if_ge (tgt := 70) dX7_sort_31 (by decide) (fun h2 => ?_) (fun h2 => ?_)
            · skip
              rw [lgge l2 l1] at h2
              rw [if_neg (by omega)] at e1
              exact hend (b + 1) g F _ hg (by rw [he, e1])
            · skip
              rw [lgge l2 l1] at h2
              rw [if_pos (by omega)] at e1
              refine z_aload_n dX7_sort_34 rfl ?_
              refine z_getf cls6 24 flX7_86 dX7_sort_35 (by decide) (MS_100) rfl ?_
              refine z_iload_n dX7_sort_38 rfl ?_
              refine i_lald dX7_sort_39 (MS_116) (b + 1) (by omega) (by omega) ?_
              refine z_lstore_n dX7_sort_40 (by decide) ?_
              refine z_aload_n dX7_sort_41 rfl ?_
              refine z_getf cls6 24 flX7_86 dX7_sort_42 (by decide) (MS_100) rfl ?_
              refine z_iload_n dX7_sort_45 rfl ?_
              refine z_aload_n dX7_sort_46 rfl ?_
              refine z_getf cls6 24 flX7_86 dX7_sort_47 (by decide) (MS_100) rfl ?_
              refine z_iload_n dX7_sort_50 rfl ?_
              refine i_iconst dX7_sort_51 rfl ?_
              refine i_isub dX7_sort_52 ?_
              refine i_lald dX7_sort_53 (MS_116) b (by omega) (by omega) ?_
              refine i_last dX7_sort_54 (MS_116) (b + 1) (by omega) (by omega) ?_
              rw [MS_s116]
              refine z_aload_n dX7_sort_55 rfl ?_
              refine z_getf cls6 24 flX7_86 dX7_sort_56 (by decide) (MS_100) rfl ?_
              refine z_iload_n dX7_sort_59 rfl ?_
              refine i_iconst dX7_sort_60 rfl ?_
              refine i_isub dX7_sort_61 ?_
              refine z_lload_n dX7_sort_62 rfl ?_
              refine i_last dX7_sort_63 (MS_116) b (by omega) (by omega) ?_
              rw [MS_s116]
              refine i_iinc dX7_sort_64 rfl (by decide) ?_
              refine z_goto (tgt := 12) dX7_sort_67 (by decide) ?_
              rw [show ((b + 1 : Nat) : Int) + -1 = (b : Int) by omega]
              refine ihb (by omega) _ (sw2 F b) _ (fun i hi => ?_) (by rw [he, e1]) (sw2_P (P := fun x : Nat → St => ∀ a, a < ac → rg (x a)) (w := w) (k := b) (by omega) hF)
              unfold sw2
              by_cases q : i = b
              · rw [q, va_up_self, va_up_self]; exact hg (b + 1) (by omega)
              · rw [va_up_ne _ _ q, va_up_ne _ _ q]
                by_cases q2 : i = b + 1
                · rw [q2, va_up_self, va_up_self]; exact hg b (by omega)
                · rw [va_up_ne _ _ q2, va_up_ne _ _ q2]; exact hg i hi
      refine z_iload_n dX7_sort_2 rfl ?_
      refine z_aload_n dX7_sort_3 rfl ?_
      refine z_getf cls6 14 flX7_55 dX7_sort_4 (by decide) (MS_100) rfl ?_
      refine i_icmp_ge (tgt := 76) dX7_sort_7 (by decide) (by omega) (by omega) (fun h1 => ?_) (fun h1 => ?_)
      · skip
        omega
      · skip
        refine z_iload_n dX7_sort_10 rfl ?_
        refine z_istore_n dX7_sort_11 (by decide) ?_
        exact Hin k (Nat.le_refl _) wk (srt ky k ag) _ hag rfl (srt_P (P := fun x : Nat → St => ∀ a, a < ac → rg (x a)) k ag (by omega) hr)
  refine i_iconst dX7_sort_0 rfl ?_
  refine z_istore_n dX7_sort_1 (by decide) ?_
  exact H 1 hw.1 (by omega) wk none none hag
theorem chg_pk {x y : Nat → St} (hok : okAs ac M E B CF) (hx : okG ac M B x) (hy : okG ac M B y) : chg ac M E B x y = false ↔ pkM (mtA1 ac M E B x y) ac = pkM x ac ∧ pkM (mtA2 ac M E B x y) ac = pkM y ac := by
  obtain ⟨m1, m2⟩ := okG.mt (E := E) hok hx hy
  rw [chg_f hok hx hy, pkM_inj (m1.rg hok) (hx.rg hok), pkM_inj (m2.rg hok) (hy.rg hok)]
  constructor
  · rintro ⟨h1, h2⟩
    exact ⟨fun a _ => by rw [h1], fun a _ => by rw [h2]⟩
  · rintro ⟨h1, h2⟩
    refine ⟨funext fun a => ?_, funext fun a => ?_⟩
    · by_cases q : a < ac
      · exact h1 a q
      · exact if_neg q
    · by_cases q : a < ac
      · exact h2 a q
      · exact if_neg q
theorem m_after {x : XS} {c i j : Nat} (hC : MC σ M E B) (hw : w ≤ 6) (hac : ac ≤ 5) (hok : okAs ac M E B CF) (hx : x.2 ≤ 3001) (hxr : RWM ac w x cr) (hc : c < x.2) (hi : i < w) (hj : j < w) (hij : i ≠ j) (hko : okC ac M B w (x.1 c)) :
    KX7_after [.ref 100, .int (iI c), .int (iI i), .int (iI j)] (MSw σ (obMd t nc ac cp w no n2 crs ex) tr cr tb gd wk) (fun r u => ∃ (wk' : Nat → Nat) (no' n2' : Int), r = some (.int (iI (bI (chg ac M E B (x.1 c i) (x.1 c j))))) ∧ u = MSw σ (obMd t nc ac cp w no' n2' crs ex) tr cr tb gd wk' ∧ AGM ac w wk' (mtg ac M E B (x.1 c) i j)) NX := by
  refine Ct.intro (by decide) (Nat.le_of_ble_eq_true rfl) ?_
  obtain ⟨Q, hQ⟩ : ∃ Q : Option Value → Wd → Prop, Q = fun r u => ∃ (wk' : Nat → Nat) (no' n2' : Int), r = some (.int (iI (bI (chg ac M E B (x.1 c i) (x.1 c j))))) ∧ u = MSw σ (obMd t nc ac cp w no' n2' crs ex) tr cr tb gd wk' ∧ AGM ac w wk' (mtg ac M E B (x.1 c) i j) := ⟨_, rfl⟩
  rw [← hQ]
  obtain ⟨X, hX⟩ : ∃ X, X = mtA1 ac M E B (x.1 c i) (x.1 c j) := ⟨_, rfl⟩
  obtain ⟨Y, hY⟩ : ∃ Y, Y = mtA2 ac M E B (x.1 c i) (x.1 c j) := ⟨_, rfl⟩
  obtain ⟨oX, oY⟩ := okG.mt (E := E) hok (hko i hi) (hko j hj)
  rw [← hX] at oX
  rw [← hY] at oY
  have rX := oX.rg hok
  have rY := oY.rg hok
  have ri := (hko i hi).rg hok
  have rj := (hko j hj).rg hok
  have hchg := chg_pk (E := E) hok (hko i hi) (hko j hj)
  rw [← hX, ← hY] at hchg
  have p3 : ∀ b, b ≤ ac → pkM X b < 2 ^ 40 ∧ pkM Y b < 2 ^ 40 := fun b hb => ⟨pkM_lt (by omega) (fun a ha => rX a (by omega)), pkM_lt (by omega) (fun a ha => rY a (by omega))⟩
  have H2 : ∀ b : Nat, b ≤ ac → ∀ (wk : Nat → Nat) (no n2 : Int), AGM ac w wk (x.1 c) → PX7_after Q NX 70 [some (.ref 100), some (.int (iI c)), some (.int (iI i)), some (.int (iI j)), some (.long (lN (pkM (x.1 c i) ac))), none, some (.long (lN (pkM (x.1 c j) ac))), none, some (.int (iI b))] [] (MSw σ (obMd t nc ac cp w no n2 crs ex) tr cr tb gd (va_up (va_up wk i (pkM X b)) j (pkM Y b))) 0 0 := by
    refine up_to ac ?_ ?_
    · intro wk no n2 hwk
      have hag : AGM ac w (va_up (va_up wk i (pkM X ac)) j (pkM Y ac)) (mtg ac M E B (x.1 c) i j) := fun k hk => by
        unfold mtg
        rw [← hX, ← hY]
        by_cases q : k = j
        · rw [q, va_up_self, va_up_self]
        · rw [va_up_ne _ _ q, va_up_ne _ _ q]
          by_cases q2 : k = i
          · rw [q2, va_up_self, va_up_self]
          · rw [va_up_ne _ _ q2, va_up_ne _ _ q2]; exact hwk k hk
      have e1 : va_up (va_up wk i (pkM X ac)) j (pkM Y ac) i = pkM X ac := by rw [va_up_ne _ _ hij, va_up_self]
      have e2 : va_up (va_up wk i (pkM X ac)) j (pkM Y ac) j = pkM Y ac := va_up_self _ _ _
      have l1 := lt63 (p3 ac (Nat.le_refl _)).1
      have l2 := lt63 (p3 ac (Nat.le_refl _)).2
      have l3 := lt63 (pkM_lt hac ri)
      have l4 := lt63 (pkM_lt hac rj)
      have hyes : chg ac M E B (x.1 c i) (x.1 c j) = true → Q (some (.int (iI (bI true)))) (MSw σ (obMd t nc ac cp w no n2 crs ex) tr cr tb gd (va_up (va_up wk i (pkM X ac)) j (pkM Y ac))) := fun z => by rw [hQ]; exact ⟨_, no, n2, by rw [z], rfl, hag⟩
      refine z_iload dX7_after_70 rfl ?_
      refine z_aload_n dX7_after_72 rfl ?_
      refine z_getf cls6 7 flX7_33 dX7_after_73 (by decide) (MS_100) rfl ?_
      refine i_icmp_ge (tgt := 153) dX7_after_76 (by decide) (by omega) (by omega) (fun h1 => ?_) (fun h1 => ?_)
      · skip
        refine z_aload_n dX7_after_153 rfl ?_
        refine z_getf cls6 24 flX7_86 dX7_after_154 (by decide) (MS_100) rfl ?_
        refine z_iload_n dX7_after_157 rfl ?_
        refine i_lald dX7_after_158 (MS_116) i (by omega) (by omega) ?_
        refine z_lload dX7_after_159 rfl ?_
        refine z_lcmp dX7_after_161 ?_
        rw [e1]
        refine z_if_ne (tgt := 177) dX7_after_162 (by decide) (fun h2 => ?_) (fun h2 => ?_)
        · skip
          rw [lgc l1 l3] at h2
          refine i_iconst dX7_after_177 rfl ?_
          refine z_goto (tgt := 182) dX7_after_178 (by decide) ?_
          refine z_zret dX7_after_182 rfl (by decide) (by decide) rfl (hyes ?_)
          cases q : chg ac M E B (x.1 c i) (x.1 c j) with
          | true => rfl
          | false => exact absurd (hchg.mp q).1 h2
        · skip
          rw [lgc l1 l3] at h2
          refine z_aload_n dX7_after_165 rfl ?_
          refine z_getf cls6 24 flX7_86 dX7_after_166 (by decide) (MS_100) rfl ?_
          refine z_iload_n dX7_after_169 rfl ?_
          refine i_lald dX7_after_170 (MS_116) j (by omega) (by omega) ?_
          refine z_lload dX7_after_171 rfl ?_
          refine z_lcmp dX7_after_173 ?_
          rw [e2]
          refine z_if_eq (tgt := 181) dX7_after_174 (by decide) (fun h3 => ?_) (fun h3 => ?_)
          · skip
            rw [lgc l2 l4] at h3
            refine i_iconst dX7_after_181 rfl ?_
            refine z_zret dX7_after_182 rfl (by decide) (by decide) rfl ?_
            rw [hQ]
            exact ⟨_, no, n2, by rw [hchg.mpr ⟨h2, h3⟩]; rfl, rfl, hag⟩
          · skip
            rw [lgc l2 l4] at h3
            refine i_iconst dX7_after_177 rfl ?_
            refine z_goto (tgt := 182) dX7_after_178 (by decide) ?_
            refine z_zret dX7_after_182 rfl (by decide) (by decide) rfl (hyes ?_)
            cases q : chg ac M E B (x.1 c i) (x.1 c j) with
            | true => rfl
            | false => exact absurd (hchg.mp q).2 h3
      · skip
        omega
    · intro b hb ih wk no n2 hwk
      have ob := (hok b hb).1
      have oi := hko i hi b hb
      have oj := hko j hj b hb
      have m1 : (mt (M b) (E b) (B b) (x.1 c i b) (x.1 c j b)).1 = X b := by rw [hX, mtA1_at hb]
      have m2 : (mt (M b) (E b) (B b) (x.1 c i b) (x.1 c j b)).2 = Y b := by rw [hY, mtA2_at hb]
      have lX := mdN_lt (rX b hb)
      have lY := mdN_lt (rY b hb)
      refine z_iload dX7_after_70 rfl ?_
      refine z_aload_n dX7_after_72 rfl ?_
      refine z_getf cls6 7 flX7_33 dX7_after_73 (by decide) (MS_100) rfl ?_
      refine i_icmp_ge (tgt := 153) dX7_after_76 (by decide) (by omega) (by omega) (fun h1 => ?_) (fun h1 => ?_)
      · skip
        omega
      · skip
        refine z_aload_n dX7_after_79 rfl ?_
        refine z_iload dX7_after_80 rfl ?_
        refine z_lload dX7_after_82 rfl ?_
        refine z_iload dX7_after_84 rfl ?_
        refine i_cSr (m_stateIn (pkM_lt hac ri) (show b < 5 by omega)) mX7_113 dX7_after_86 rfl rfl ⟨by decide, by decide⟩ (Nat.le_of_ble_eq_true rfl) ⟨by decide, by decide⟩ ?_
        rw [pkM_at ri hb]
        refine z_lload dX7_after_89 rfl ?_
        refine z_iload dX7_after_91 rfl ?_
        refine i_cSr (m_stateIn (pkM_lt hac rj) (show b < 5 by omega)) mX7_113 dX7_after_93 rfl rfl ⟨by decide, by decide⟩ (Nat.le_of_ble_eq_true rfl) ⟨by decide, by decide⟩ ?_
        rw [pkM_at rj hb]
        refine i_cVv (m_meeting MS_100 (MS_C hC) (by omega) ob oi oj) mX7_105 dX7_after_96 (MS_100) rfl rfl rfl ⟨by decide, by decide⟩ (Nat.le_of_ble_eq_true rfl) ⟨by decide, by decide⟩ ?_
        rw [MS_s100, m1, m2]
        refine z_aload_n dX7_after_99 rfl ?_
        refine z_getf cls6 24 flX7_86 dX7_after_100 (by decide) (MS_100) rfl ?_
        refine z_iload_n dX7_after_103 rfl ?_
        refine z_aload_n dX7_after_104 rfl ?_
        refine z_getf cls6 24 flX7_86 dX7_after_105 (by decide) (MS_100) rfl ?_
        refine z_iload_n dX7_after_108 rfl ?_
        refine i_lald dX7_after_109 (MS_116) i (by omega) (by omega) ?_
        refine z_aload_n dX7_after_110 rfl ?_
        refine z_getf cls6 17 flX7_64 dX7_after_111 (by decide) (MS_100) rfl ?_
        refine z_i2lx dX7_after_114 ?_
        refine i_bipush dX7_after_115 (by decide) ?_
        refine z_iload dX7_after_117 rfl ?_
        refine i_imul dX7_after_119 ?_
        rw [Int.mul_comm]
        refine z_lshlx dX7_after_120 ?_
        refine z_eql _ (atA (show mdN (X b) < 256 by omega) (show b < 5 by omega)) ?_
        rw [va_up_ne _ _ hij, va_up_self]
        refine z_lor dX7_after_121 ?_
        refine z_eql _ (lor_dg (show b < 5 by omega) (dg_lt b (fun a ha => Nat.lt_of_lt_of_le (mdN_lt (rX a (by omega))) (by decide))) (show mdN (X b) < 256 by omega)) ?_
        refine i_last dX7_after_122 (MS_116) i (by omega) (by omega) ?_
        rw [MS_s116, va_comm _ _ _ (fun z => hij z.symm), va_upup]
        refine z_aload_n dX7_after_123 rfl ?_
        refine z_getf cls6 24 flX7_86 dX7_after_124 (by decide) (MS_100) rfl ?_
        refine z_iload_n dX7_after_127 rfl ?_
        refine z_aload_n dX7_after_128 rfl ?_
        refine z_getf cls6 24 flX7_86 dX7_after_129 (by decide) (MS_100) rfl ?_
        refine z_iload_n dX7_after_132 rfl ?_
        refine i_lald dX7_after_133 (MS_116) j (by omega) (by omega) ?_
        refine z_aload_n dX7_after_134 rfl ?_
        refine z_getf cls6 18 flX7_67 dX7_after_135 (by decide) (MS_100) rfl ?_
        refine z_i2lx dX7_after_138 ?_
        refine i_bipush dX7_after_139 (by decide) ?_
        refine z_iload dX7_after_141 rfl ?_
        refine i_imul dX7_after_143 ?_
        rw [Int.mul_comm]
        refine z_lshlx dX7_after_144 ?_
        refine z_eql _ (atA (show mdN (Y b) < 256 by omega) (show b < 5 by omega)) ?_
        rw [va_up_self]
        refine z_lor dX7_after_145 ?_
        refine z_eql _ (lor_dg (show b < 5 by omega) (dg_lt b (fun a ha => Nat.lt_of_lt_of_le (mdN_lt (rY a (by omega))) (by decide))) (show mdN (Y b) < 256 by omega)) ?_
        refine i_last dX7_after_146 (MS_116) j (by omega) (by omega) ?_
        rw [MS_s116, va_upup]
        refine i_iinc dX7_after_147 rfl (by decide) ?_
        refine z_goto (tgt := 70) dX7_after_150 (by decide) ?_
        exact ih wk _ _ hwk
  have H1 : ∀ k : Nat, k ≤ w → ∀ wk : Nat → Nat, (∀ l, l < k → wk l = pkM (x.1 c l) ac) → PX7_after Q NX 3 [some (.ref 100), some (.int (iI c)), some (.int (iI i)), some (.int (iI j)), some (.int (iI k)), none, none, none, none] [] (MSw σ (obMd t nc ac cp w no n2 crs ex) tr cr tb gd wk) 0 0 := by
    refine up_to w ?_ ?_
    · intro wk hwk
      refine z_iload dX7_after_3 rfl ?_
      refine z_aload_n dX7_after_5 rfl ?_
      refine z_getf cls6 14 flX7_55 dX7_after_6 (by decide) (MS_100) rfl ?_
      refine i_icmp_ge (tgt := 37) dX7_after_9 (by decide) (by omega) (by omega) (fun h1 => ?_) (fun h1 => ?_)
      · skip
        refine z_aload_n dX7_after_37 rfl ?_
        refine z_getf cls6 24 flX7_86 dX7_after_38 (by decide) (MS_100) rfl ?_
        refine z_iload_n dX7_after_41 rfl ?_
        refine i_lald dX7_after_42 (MS_116) i (by omega) (by omega) ?_
        refine z_lstore dX7_after_43 (by decide) ?_
        refine z_aload_n dX7_after_45 rfl ?_
        refine z_getf cls6 24 flX7_86 dX7_after_46 (by decide) (MS_100) rfl ?_
        refine z_iload_n dX7_after_49 rfl ?_
        refine i_lald dX7_after_50 (MS_116) j (by omega) (by omega) ?_
        refine z_lstore dX7_after_51 (by decide) ?_
        rw [hwk i hi, hwk j hj]
        refine z_aload_n dX7_after_53 rfl ?_
        refine z_getf cls6 24 flX7_86 dX7_after_54 (by decide) (MS_100) rfl ?_
        refine z_iload_n dX7_after_57 rfl ?_
        refine z_lconst (v := lN 0) dX7_after_58 rfl ?_
        refine i_last dX7_after_59 (MS_116) i (by omega) (by omega) ?_
        rw [MS_s116]
        refine z_aload_n dX7_after_60 rfl ?_
        refine z_getf cls6 24 flX7_86 dX7_after_61 (by decide) (MS_100) rfl ?_
        refine z_iload_n dX7_after_64 rfl ?_
        refine z_lconst (v := lN 0) dX7_after_65 rfl ?_
        refine i_last dX7_after_66 (MS_116) j (by omega) (by omega) ?_
        rw [MS_s116]
        refine i_iconst dX7_after_67 rfl ?_
        refine z_istore dX7_after_68 (by decide) ?_
        exact H2 0 (by omega) wk no n2 hwk
      · skip
        omega
    · intro k hk ih wk hwk
      refine z_iload dX7_after_3 rfl ?_
      refine z_aload_n dX7_after_5 rfl ?_
      refine z_getf cls6 14 flX7_55 dX7_after_6 (by decide) (MS_100) rfl ?_
      refine i_icmp_ge (tgt := 37) dX7_after_9 (by decide) (by omega) (by omega) (fun h1 => ?_) (fun h1 => ?_)
      · skip
        omega
      · skip
        refine z_aload_n dX7_after_12 rfl ?_
        refine z_getf cls6 24 flX7_86 dX7_after_13 (by decide) (MS_100) rfl ?_
        refine z_iload dX7_after_16 rfl ?_
        refine z_aload_n dX7_after_18 rfl ?_
        refine z_getf cls6 20 flX7_73 dX7_after_19 (by decide) (MS_100) rfl ?_
        refine i_bipush dX7_after_22 (by decide) ?_
        refine z_iload_n dX7_after_24 rfl ?_
        refine i_imul dX7_after_25 ?_
        refine z_iload dX7_after_26 rfl ?_
        refine i_iadd dX7_after_28 ?_
        refine i_lald dX7_after_29 (MS_113) (6 * c + k) (by omega) (by omega) ?_
        refine i_last dX7_after_30 (MS_116) k (by omega) (by omega) ?_
        rw [MS_s116, hxr c hc k hk]
        refine i_iinc dX7_after_31 rfl (by decide) ?_
        refine z_goto (tgt := 3) dX7_after_34 (by decide) ?_
        refine ih _ (fun l hl => ?_)
        by_cases q : l = k
        · rw [q, va_up_self]
        · rw [va_up_ne _ _ q]; exact hwk l (by omega)
  refine i_iconst dX7_after_0 rfl ?_
  refine z_istore dX7_after_1 (by decide) ?_
  exact H1 0 (by omega) wk (fun l hl => absurd hl (Nat.not_lt_zero l))
end MODC

