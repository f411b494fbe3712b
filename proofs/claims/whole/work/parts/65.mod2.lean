theorem cnt_cf (g : Nat → Bool) : ∀ n, cntF g n + cf g n = n
  | 0 => rfl
  | n + 1 => by
    have ih := cnt_cf g n
    show cntF g n + (bif g n then 1 else 0) + (cf g n + (bif g n then 0 else 1)) = n + 1
    cases g n <;> simp <;> omega
theorem cnt_up {g : Nat → Bool} {k n : Nat} (hg : g k = false) (hk : k < n) : cntF (va_up g k true) n = cntF g n + 1 := by
  have h1 := cnt_cf g n
  have h2 := cnt_cf (va_up g k true) n
  have h3 := cf_up hg n
  rw [if_pos hk] at h3
  omega
/-- the world with an object and the table of states -/
def MT (σ : Wd) (O : pCell) (th : Nat → Bool) : Wd := up (up σ 110 (AZ 860 th)) 100 O
section MTS
variable {σ : Wd} {O : pCell} {th : Nat → Bool}
theorem MT_100 : MT σ O th 100 = some O := rfl
theorem MT_110 : MT σ O th 110 = some (AZ 860 th) := rfl
theorem MT_x {q : Nat} (h1 : q ≠ 100) (h2 : q ≠ 110) : MT σ O th q = σ q := by unfold MT; rw [up_ne _ _ h1, up_ne _ _ h2]
theorem MT_s100 (O' : pCell) : up (MT σ O th) 100 O' = MT σ O' th := up_up _ _ _ _
theorem MT_s110 (th' : Nat → Bool) : up (MT σ O th) 110 (AZ 860 th') = MT σ O th' := by unfold MT; rw [up_comm _ _ _ (show (100 : Nat) ≠ 110 by decide), up_up]
theorem MT_C {M E B : Nat → Int} (h : MC σ M E B) : MC (MT σ O th) M E B := h.fr (fun q q1 q2 => MT_x (by omega) (by omega))
end MTS
/-- the states of atom b as they are found -/
def TS (m e b' : Int) (cf : Nat → Int) (b : Nat) (th0 th : Nat → Bool) : Prop := (∀ s, s < 172 → th (172 * b + s) = true → ∃ x, Rch m e b' cf x ∧ mdN x = s) ∧ ∀ p, p < 172 * b ∨ 172 * b + 172 ≤ p → th p = th0 p
def TC (b : Nat) (th : Nat → Bool) : Nat := cntF (fun s => th (172 * b + s)) 172
theorem TS.add {m e b' : Int} {cf : Nat → Int} {b : Nat} {th0 th : Nat → Bool} {x : St} (h : TS m e b' cf b th0 th) (hx : Rch m e b' cf x) (hl : mdN x < 172) : TS m e b' cf b th0 (va_up th (172 * b + mdN x) true) := by
  refine ⟨fun s hs ht => ?_, fun p hp => ?_⟩
  · by_cases q : s = mdN x
    · exact ⟨x, hx, q.symm⟩
    · rw [va_up_ne _ _ (by omega)] at ht; exact h.1 s hs ht
  · rw [va_up_ne _ _ (by omega)]; exact h.2 p hp
theorem TC_up {b k : Nat} {th : Nat → Bool} (hk : k < 172) : (th (172 * b + k) = true → va_up th (172 * b + k) true = th) ∧ (th (172 * b + k) = false → TC b (va_up th (172 * b + k) true) = TC b th + 1) := by
  refine ⟨fun h => by rw [← h, va_id], fun h => ?_⟩
  unfold TC
  rw [cnt_congr (fd' := va_up (fun s => th (172 * b + s)) k true) 172 (fun s _ => by
    show va_up th (172 * b + k) true (172 * b + s) = va_up (fun s => th (172 * b + s)) k true s
    by_cases q : s = k
    · rw [q, va_up_self, va_up_self]
    · rw [va_up_ne _ _ q, va_up_ne _ _ (by omega)]), cnt_up (g := fun s => th (172 * b + s)) h hk]
theorem TC_ge {b k : Nat} {th : Nat → Bool} (hk : k < 172) : TC b th ≤ TC b (va_up th (172 * b + k) true) := by
  cases q : th (172 * b + k) with
  | true => rw [(TC_up hk).1 q]; exact Nat.le_refl _
  | false => rw [(TC_up hk).2 q]; omega
/-- the pairs before (x, y) lead to states that are there -/
def PCl (m e b' : Int) (cf : Nat → Int) (b : Nat) (th : Nat → Bool) (x y : Nat) : Prop := ∀ X Y, Rch m e b' cf X → Rch m e b' cf Y → th (172 * b + mdN X) = true → th (172 * b + mdN Y) = true → (mdN X < x ∨ (mdN X = x ∧ mdN Y < y)) → th (172 * b + mdN (mt m e b' X Y).1) = true ∧ th (172 * b + mdN (mt m e b' X Y).2) = true
section MOD2
variable {σ : Wd} {t : Int} {nc ac : Nat} {cp : Bool} {cnt : Nat} {no n2 : Int} {crs : Nat} {ex : Bool} {M E B : Nat → Int}
theorem m_findStates {b : Nat} {cfM cf : Nat → Int} {th : Nat → Bool} (hC : MC σ M E B) (h106 : σ 106 = some (AI 40 cfM)) (hb : b < 5) (ha : okA (M b) (E b) (B b)) (hcf : ∀ l, l < 8 → cfM (8 * b + l) = cf l) (hc1 : ∀ l, l < 8 → -20 ≤ cf l ∧ cf l ≤ 20) (hc2 : ∀ l, l < 8 → -(B b) ≤ cf l ∧ cf l ≤ B b) :
    KX7_findStates [.ref 100, .int (iI b)] (MT σ (obMd t nc ac cp cnt no n2 crs ex) th) (fun r u => ∃ (th' : Nat → Bool) (no' n2' : Int), r = none ∧ u = MT σ (obMd t nc ac cp cnt no' n2' crs ex) th' ∧ (∀ s, s < 172 → th' (172 * b + s) = rcB (M b) (E b) (B b) cf s) ∧ ∀ p, p < 172 * b ∨ 172 * b + 172 ≤ p → th' p = th p) NX := by
  refine Ct.intro (by decide) (Nat.le_of_ble_eq_true rfl) ?_
  obtain ⟨Q, hQ⟩ : ∃ Q : Option Value → Wd → Prop, Q = fun r u => ∃ (th' : Nat → Bool) (no' n2' : Int), r = none ∧ u = MT σ (obMd t nc ac cp cnt no' n2' crs ex) th' ∧ (∀ s, s < 172 → th' (172 * b + s) = rcB (M b) (E b) (B b) cf s) ∧ ∀ p, p < 172 * b ∨ 172 * b + 172 ≤ p → th' p = th p := ⟨_, rfl⟩
  rw [← hQ]
  have rok : ∀ x, Rch (M b) (E b) (B b) cf x → okM (M b) (B b) x := fun x hx => Rch_ok ha hc2 hx
  have rlt : ∀ x, Rch (M b) (E b) (B b) cf x → mdN x < 172 := fun x hx => mdN_lt (okM_rg ha (rok x hx))
  have rinj : ∀ x y, Rch (M b) (E b) (B b) cf x → Rch (M b) (E b) (B b) cf y → mdN x = mdN y → x = y := fun x y hx hy h => mdN_inj (okM_rg ha (rok x hx)) (okM_rg ha (rok y hy)) h
  have hfin : ∀ (th' : Nat → Bool) (no n2 : Int) (o2 o3 o4 o5 : Option Value), TS (M b) (E b) (B b) cf b th th' → (∀ l, l < 8 → th' (172 * b + mdN (bgn (M b) (E b) (cf l))) = true) → PCl (M b) (E b) (B b) cf b th' 172 0 → PX7_findStates Q NX 228 [some (.ref 100), some (.int (iI b)), o2, o3, o4, o5] [] (MT σ (obMd t nc ac cp cnt no n2 crs ex) th') 0 0 := by
    intro th' no n2 o2 o3 o4 o5 hT hB hP
    have hall : ∀ x, Rch (M b) (E b) (B b) cf x → th' (172 * b + mdN x) = true := fun x hx => (hx (fun x => Rch (M b) (E b) (B b) cf x ∧ th' (172 * b + mdN x) = true) (fun l hl => ⟨Rch_b hl, hB l hl⟩) (fun x y h1 h2 => by
      obtain ⟨p1, p2⟩ := hP x y h1.1 h2.1 h1.2 h2.2 (Or.inl (rlt x h1.1))
      obtain ⟨r1, r2⟩ := Rch_m h1.1 h2.1
      exact ⟨⟨r1, p1⟩, ⟨r2, p2⟩⟩)).2
    refine z_vret dX7_findStates_228 rfl (by decide) (by decide) ?_
    rw [hQ]
    refine ⟨th', no, n2, rfl, rfl, fun s hs => ?_, hT.2⟩
    cases q : th' (172 * b + s) with
    | true => obtain ⟨x, x1, x2⟩ := hT.1 s hs q; exact (bP_t ⟨x, x1, x2⟩).symm
    | false => exact (bP_f (fun ⟨x, x1, x2⟩ => by rw [← x2, hall x x1] at q; cases q)).symm
  have H3 : ∀ (d k : Nat), k + d = 200 → ∀ (more : Bool) (th' : Nat → Bool) (no n2 : Int) (o4 o5 : Option Value), TS (M b) (E b) (B b) cf b th th' → (∀ l, l < 8 → th' (172 * b + mdN (bgn (M b) (E b) (cf l))) = true) → (more = true → k ≤ TC b th') → (more = false → PCl (M b) (E b) (B b) cf b th' 172 0) → PX7_findStates Q NX 64 [some (.ref 100), some (.int (iI b)), some (.int (iI (bI more))), some (.int (iI k)), o4, o5] [] (MT σ (obMd t nc ac cp cnt no n2 crs ex) th') 0 0 := by
    intro d
    induction d with
    | zero =>
      intro k hk more th' no n2 o4 o5 hT hB hm1 hm2
      have hle : TC b th' ≤ 172 := cnt_le _ _
      refine z_iload_n dX7_findStates_64 rfl ?_
      refine i_sipush dX7_findStates_65 (by decide) ?_
      refine i_icmp_ge (tgt := 228) dX7_findStates_68 (by decide) (by omega) (by omega) (fun h1 => ?_) (fun h1 => ?_)
      · skip
        cases more with
        | true => have := hm1 rfl; omega
        | false => exact hfin th' no n2 _ _ _ _ hT hB (hm2 rfl)
      · skip
        omega
    | succ d ih =>
      intro k hk more th' no n2 o4 o5 hT hB hm1 hm2
      refine z_iload_n dX7_findStates_64 rfl ?_
      refine i_sipush dX7_findStates_65 (by decide) ?_
      refine i_icmp_ge (tgt := 228) dX7_findStates_68 (by decide) (by omega) (by omega) (fun h1 => ?_) (fun h1 => ?_)
      · skip
        omega
      · skip
        refine z_iload_n dX7_findStates_71 rfl ?_
        refine i_ifb_eq (tgt := 228) dX7_findStates_72 (by decide) (fun h2 => ?_) (fun h2 => ?_)
        · skip
          exact hfin th' no n2 _ _ _ _ hT hB (hm2 h2)
        · skip
          have hk1 := hm1 h2
          have HX : ∀ x : Nat, x ≤ 172 → ∀ (more : Bool) (th' : Nat → Bool) (no n2 : Int) (o5 : Option Value), TS (M b) (E b) (B b) cf b th th' → (∀ l, l < 8 → th' (172 * b + mdN (bgn (M b) (E b) (cf l))) = true) → k ≤ TC b th' → (more = true → k + 1 ≤ TC b th') → (more = false → PCl (M b) (E b) (B b) cf b th' x 0) → PX7_findStates Q NX 80 [some (.ref 100), some (.int (iI b)), some (.int (iI (bI more))), some (.int (iI k)), some (.int (iI x)), o5] [] (MT σ (obMd t nc ac cp cnt no n2 crs ex) th') 0 0 := by
            refine up_to 172 ?_ ?_
            · intro more th' no n2 o5 hT hB hk2 hm1 hm2
              refine z_iload dX7_findStates_80 rfl ?_
              refine i_sipush dX7_findStates_82 (by decide) ?_
              refine i_icmp_ge (tgt := 222) dX7_findStates_85 (by decide) (by omega) (by omega) (fun h3 => ?_) (fun h3 => ?_)
              · skip
                refine i_iinc dX7_findStates_222 rfl (by decide) ?_
                refine z_goto (tgt := 64) dX7_findStates_225 (by decide) ?_
                exact ih (k + 1) (by omega) more th' no n2 _ _ hT hB hm1 hm2
              · skip
                omega
            · intro x hx ihx more th' no n2 o5 hT hB hk2 hm1 hm2
              have HY : ∀ y : Nat, y ≤ 172 → ∀ (more : Bool) (th' : Nat → Bool) (no n2 : Int), TS (M b) (E b) (B b) cf b th th' → (∀ l, l < 8 → th' (172 * b + mdN (bgn (M b) (E b) (cf l))) = true) → k ≤ TC b th' → (more = true → k + 1 ≤ TC b th') → (more = false → PCl (M b) (E b) (B b) cf b th' x y) → PX7_findStates Q NX 91 [some (.ref 100), some (.int (iI b)), some (.int (iI (bI more))), some (.int (iI k)), some (.int (iI x)), some (.int (iI y))] [] (MT σ (obMd t nc ac cp cnt no n2 crs ex) th') 0 0 := by
                refine up_to 172 ?_ ?_
                · intro more th' no n2 hT hB hk2 hm1 hm2
                  refine z_iload dX7_findStates_91 rfl ?_
                  refine i_sipush dX7_findStates_93 (by decide) ?_
                  refine i_icmp_ge (tgt := 216) dX7_findStates_96 (by decide) (by omega) (by omega) (fun h3 => ?_) (fun h3 => ?_)
                  · skip
                    refine i_iinc dX7_findStates_216 rfl (by decide) ?_
                    refine z_goto (tgt := 80) dX7_findStates_219 (by decide) ?_
                    refine ihx more th' no n2 _ hT hB hk2 hm1 (fun z X Y hX hY h1 h2 h3 => hm2 z X Y hX hY h1 h2 ?_)
                    have := rlt Y hY
                    omega
                  · skip
                    omega
                · intro y hy ihy more th' no n2 hT hB hk2 hm1 hm2
                  have H210 : ∀ (more : Bool) (th' : Nat → Bool) (no n2 : Int), TS (M b) (E b) (B b) cf b th th' → (∀ l, l < 8 → th' (172 * b + mdN (bgn (M b) (E b) (cf l))) = true) → k ≤ TC b th' → (more = true → k + 1 ≤ TC b th') → (more = false → PCl (M b) (E b) (B b) cf b th' x (y + 1)) → PX7_findStates Q NX 210 [some (.ref 100), some (.int (iI b)), some (.int (iI (bI more))), some (.int (iI k)), some (.int (iI x)), some (.int (iI y))] [] (MT σ (obMd t nc ac cp cnt no n2 crs ex) th') 0 0 := by
                    intro more th' no n2 hT hB hk2 hm1 hm2
                    refine i_iinc dX7_findStates_210 rfl (by decide) ?_
                    refine z_goto (tgt := 91) dX7_findStates_213 (by decide) ?_
                    exact ihy more th' no n2 hT hB hk2 hm1 hm2
                  refine z_iload dX7_findStates_91 rfl ?_
                  refine i_sipush dX7_findStates_93 (by decide) ?_
                  refine i_icmp_ge (tgt := 216) dX7_findStates_96 (by decide) (by omega) (by omega) (fun h3 => ?_) (fun h3 => ?_)
                  · skip
                    omega
                  · skip
                    refine z_aload_n dX7_findStates_99 rfl ?_
                    refine z_getf cls6 13 flX7_52 dX7_findStates_100 (by decide) (MT_100) rfl ?_
                    refine i_sipush dX7_findStates_103 (by decide) ?_
                    refine z_iload_n dX7_findStates_106 rfl ?_
                    refine i_imul dX7_findStates_107 ?_
                    refine z_iload dX7_findStates_108 rfl ?_
                    refine i_iadd dX7_findStates_110 ?_
                    refine i_zald dX7_findStates_111 (MT_110) (172 * b + x) (by omega) (by omega) ?_
                    refine i_ifb_eq (tgt := 210) dX7_findStates_112 (by decide) (fun h4 => ?_) (fun h4 => ?_)
                    · skip
                      refine H210 more th' no n2 hT hB hk2 hm1 (fun z X Y hX hY h1 h2 h3 => hm2 z X Y hX hY h1 h2 ?_)
                      by_cases q : mdN X = x
                      · rw [q, h4] at h1; cases h1
                      · omega
                    · skip
                      refine z_aload_n dX7_findStates_115 rfl ?_
                      refine z_getf cls6 13 flX7_52 dX7_findStates_116 (by decide) (MT_100) rfl ?_
                      refine i_sipush dX7_findStates_119 (by decide) ?_
                      refine z_iload_n dX7_findStates_122 rfl ?_
                      refine i_imul dX7_findStates_123 ?_
                      refine z_iload dX7_findStates_124 rfl ?_
                      refine i_iadd dX7_findStates_126 ?_
                      refine i_zald dX7_findStates_127 (MT_110) (172 * b + y) (by omega) (by omega) ?_
                      refine i_ifb_eq (tgt := 210) dX7_findStates_128 (by decide) (fun h5 => ?_) (fun h5 => ?_)
                      · skip
                        refine H210 more th' no n2 hT hB hk2 hm1 (fun z X Y hX hY h1 h2 h3 => hm2 z X Y hX hY h1 h2 ?_)
                        by_cases q : mdN Y = y
                        · rw [q, h5] at h2; cases h2
                        · omega
                      · skip
                        obtain ⟨X, X1, X2⟩ := hT.1 x hx h4
                        obtain ⟨Y, Y1, Y2⟩ := hT.1 y hy h5
                        obtain ⟨R1, R2⟩ := Rch_m X1 Y1
                        have l1 := rlt _ R1
                        have l2 := rlt _ R2
                        refine z_aload_n dX7_findStates_131 rfl ?_
                        refine z_iload_n dX7_findStates_132 rfl ?_
                        refine z_iload dX7_findStates_133 rfl ?_
                        refine z_iload dX7_findStates_135 rfl ?_
                        rw [← X2, ← Y2]
                        refine i_cVv (m_meeting MT_100 (MT_C hC) hb ha (rok X X1) (rok Y Y1)) mX7_105 dX7_findStates_137 (MT_100) rfl rfl rfl ⟨by decide, by decide⟩ (Nat.le_of_ble_eq_true rfl) ⟨by decide, by decide⟩ ?_
                        rw [MT_s100]
                        have H178 : ∀ more : Bool, (more = true → k + 1 ≤ TC b (va_up (va_up th' (172 * b + mdN (mt (M b) (E b) (B b) X Y).1) true) (172 * b + mdN (mt (M b) (E b) (B b) X Y).2) true)) → (more = false → PCl (M b) (E b) (B b) cf b (va_up (va_up th' (172 * b + mdN (mt (M b) (E b) (B b) X Y).1) true) (172 * b + mdN (mt (M b) (E b) (B b) X Y).2) true) x (y + 1)) → PX7_findStates Q NX 178 [some (.ref 100), some (.int (iI b)), some (.int (iI (bI more))), some (.int (iI k)), some (.int (iI (mdN X : Nat))), some (.int (iI (mdN Y : Nat)))] [] (MT σ (obMd t nc ac cp cnt (mdN (mt (M b) (E b) (B b) X Y).1 : Nat) (mdN (mt (M b) (E b) (B b) X Y).2 : Nat) crs ex) th') 0 0 := by
                          intro more hm1 hm2
                          refine z_aload_n dX7_findStates_178 rfl ?_
                          refine z_getf cls6 13 flX7_52 dX7_findStates_179 (by decide) (MT_100) rfl ?_
                          refine i_sipush dX7_findStates_182 (by decide) ?_
                          refine z_iload_n dX7_findStates_185 rfl ?_
                          refine i_imul dX7_findStates_186 ?_
                          refine z_aload_n dX7_findStates_187 rfl ?_
                          refine z_getf cls6 17 flX7_64 dX7_findStates_188 (by decide) (MT_100) rfl ?_
                          refine i_iadd dX7_findStates_191 ?_
                          refine i_iconst dX7_findStates_192 rfl ?_
                          refine i_zast (x := true) dX7_findStates_193 (MT_110) (172 * b + mdN (mt (M b) (E b) (B b) X Y).1) (by omega) (by omega) ?_
                          rw [MT_s110]
                          refine z_aload_n dX7_findStates_194 rfl ?_
                          refine z_getf cls6 13 flX7_52 dX7_findStates_195 (by decide) (MT_100) rfl ?_
                          refine i_sipush dX7_findStates_198 (by decide) ?_
                          refine z_iload_n dX7_findStates_201 rfl ?_
                          refine i_imul dX7_findStates_202 ?_
                          refine z_aload_n dX7_findStates_203 rfl ?_
                          refine z_getf cls6 18 flX7_67 dX7_findStates_204 (by decide) (MT_100) rfl ?_
                          refine i_iadd dX7_findStates_207 ?_
                          refine i_iconst dX7_findStates_208 rfl ?_
                          refine i_zast (x := true) dX7_findStates_209 (MT_110) (172 * b + mdN (mt (M b) (E b) (B b) X Y).2) (by omega) (by omega) ?_
                          rw [MT_s110, X2, Y2]
                          have g1 : TC b th' ≤ TC b (va_up th' (172 * b + mdN (mt (M b) (E b) (B b) X Y).1) true) := TC_ge l1
                          have g2 := TC_ge (b := b) (th := va_up th' (172 * b + mdN (mt (M b) (E b) (B b) X Y).1) true) l2
                          refine H210 more _ _ _ ((hT.add R1 l1).add R2 l2) (fun l hl => ?_) (by omega) hm1 hm2
                          have hBl := hB l hl
                          by_cases q : 172 * b + mdN (bgn (M b) (E b) (cf l)) = 172 * b + mdN (mt (M b) (E b) (B b) X Y).2
                          · rw [q, va_up_self]
                          · rw [va_up_ne _ _ q]
                            by_cases q2 : 172 * b + mdN (bgn (M b) (E b) (cf l)) = 172 * b + mdN (mt (M b) (E b) (B b) X Y).1
                            · rw [q2, va_up_self]
                            · rw [va_up_ne _ _ q2]; exact hBl
                        have H176 : (th' (172 * b + mdN (mt (M b) (E b) (B b) X Y).1) = false ∨ th' (172 * b + mdN (mt (M b) (E b) (B b) X Y).2) = false) → PX7_findStates Q NX 176 [some (.ref 100), some (.int (iI b)), some (.int (iI (bI more))), some (.int (iI k)), some (.int (iI (mdN X : Nat))), some (.int (iI (mdN Y : Nat)))] [] (MT σ (obMd t nc ac cp cnt (mdN (mt (M b) (E b) (B b) X Y).1 : Nat) (mdN (mt (M b) (E b) (B b) X Y).2 : Nat) crs ex) th') 0 0 := by
                          intro hnew
                          refine i_iconst dX7_findStates_176 rfl ?_
                          refine z_istore_n dX7_findStates_177 (by decide) ?_
                          refine H178 true (fun _ => ?_) (fun z => by cases z)
                          have g1 : TC b th' ≤ TC b (va_up th' (172 * b + mdN (mt (M b) (E b) (B b) X Y).1) true) := TC_ge l1
                          have g2 := TC_ge (b := b) (th := va_up th' (172 * b + mdN (mt (M b) (E b) (B b) X Y).1) true) l2
                          by_cases q1 : th' (172 * b + mdN (mt (M b) (E b) (B b) X Y).1) = false
                          · have := (TC_up (b := b) (th := th') l1).2 q1; omega
                          · have q1 : th' (172 * b + mdN (mt (M b) (E b) (B b) X Y).1) = true := by simpa using q1
                            rw [(TC_up l1).1 q1]
                            rcases hnew with q | q
                            · rw [q1] at q; cases q
                            · have := (TC_up (b := b) (th := th') l2).2 q; omega
                        refine z_aload_n dX7_findStates_140 rfl ?_
                        refine z_getf cls6 13 flX7_52 dX7_findStates_141 (by decide) (MT_100) rfl ?_
                        refine i_sipush dX7_findStates_144 (by decide) ?_
                        refine z_iload_n dX7_findStates_147 rfl ?_
                        refine i_imul dX7_findStates_148 ?_
                        refine z_aload_n dX7_findStates_149 rfl ?_
                        refine z_getf cls6 17 flX7_64 dX7_findStates_150 (by decide) (MT_100) rfl ?_
                        refine i_iadd dX7_findStates_153 ?_
                        refine i_zald dX7_findStates_154 (MT_110) (172 * b + mdN (mt (M b) (E b) (B b) X Y).1) (by omega) (by omega) ?_
                        refine i_ifb_eq (tgt := 176) dX7_findStates_155 (by decide) (fun h6 => ?_) (fun h6 => ?_)
                        · skip
                          exact H176 (Or.inl h6)
                        · skip
                          refine z_aload_n dX7_findStates_158 rfl ?_
                          refine z_getf cls6 13 flX7_52 dX7_findStates_159 (by decide) (MT_100) rfl ?_
                          refine i_sipush dX7_findStates_162 (by decide) ?_
                          refine z_iload_n dX7_findStates_165 rfl ?_
                          refine i_imul dX7_findStates_166 ?_
                          refine z_aload_n dX7_findStates_167 rfl ?_
                          refine z_getf cls6 18 flX7_67 dX7_findStates_168 (by decide) (MT_100) rfl ?_
                          refine i_iadd dX7_findStates_171 ?_
                          refine i_zald dX7_findStates_172 (MT_110) (172 * b + mdN (mt (M b) (E b) (B b) X Y).2) (by omega) (by omega) ?_
                          refine i_ifb_ne (tgt := 178) dX7_findStates_173 (by decide) (fun h7 => ?_) (fun h7 => ?_)
                          · skip
                            have e1 := (TC_up (b := b) (th := th') l1).1 h6
                            have e2 := (TC_up (b := b) (th := th') l2).1 h7
                            refine H178 more (fun z => ?_) (fun z => ?_)
                            · rw [e1, e2]; exact hm1 z
                            · rw [e1, e2]
                              intro X' Y' hX hY h1 h2 h3
                              by_cases q : mdN X' < x ∨ (mdN X' = x ∧ mdN Y' < y)
                              · exact hm2 z X' Y' hX hY h1 h2 q
                              · have qx : X' = X := rinj _ _ hX X1 (by omega)
                                have qy : Y' = Y := rinj _ _ hY Y1 (by omega)
                                rw [qx, qy]; exact ⟨h6, h7⟩
                          · skip
                            exact H176 (Or.inr h7)
              refine z_iload dX7_findStates_80 rfl ?_
              refine i_sipush dX7_findStates_82 (by decide) ?_
              refine i_icmp_ge (tgt := 222) dX7_findStates_85 (by decide) (by omega) (by omega) (fun h3 => ?_) (fun h3 => ?_)
              · skip
                omega
              · skip
                refine i_iconst dX7_findStates_88 rfl ?_
                refine z_istore dX7_findStates_89 (by decide) ?_
                exact HY 0 (by omega) more th' no n2 hT hB hk2 hm1 hm2
          refine i_iconst dX7_findStates_75 rfl ?_
          refine z_istore_n dX7_findStates_76 (by decide) ?_
          refine i_iconst dX7_findStates_77 rfl ?_
          refine z_istore dX7_findStates_78 (by decide) ?_
          exact HX 0 (by omega) false th' no n2 _ hT hB hk1 (fun z => by cases z) (fun _ X Y _ _ _ _ h => by omega)
  have H2 : ∀ l : Nat, l ≤ 8 → ∀ th' : Nat → Bool, TS (M b) (E b) (B b) cf b th th' → (∀ k, k < l → th' (172 * b + mdN (bgn (M b) (E b) (cf k))) = true) → PX7_findStates Q NX 30 [some (.ref 100), some (.int (iI b)), some (.int (iI l)), none, none, none] [] (MT σ (obMd t nc ac cp cnt no n2 crs ex) th') 0 0 := by
    refine up_to 8 ?_ ?_
    · intro th' hT hB
      refine z_iload_n dX7_findStates_30 rfl ?_
      refine i_bipush dX7_findStates_31 (by decide) ?_
      refine i_icmp_ge (tgt := 60) dX7_findStates_33 (by decide) (by omega) (by omega) (fun h1 => ?_) (fun h1 => ?_)
      · skip
        refine i_iconst dX7_findStates_60 rfl ?_
        refine z_istore_n dX7_findStates_61 (by decide) ?_
        refine i_iconst dX7_findStates_62 rfl ?_
        refine z_istore_n dX7_findStates_63 (by decide) ?_
        exact H3 200 0 rfl true th' no n2 _ _ hT hB (fun _ => Nat.zero_le _) (fun z => by cases z)
      · skip
        omega
    · intro l hl ih th' hT hB
      have hR : Rch (M b) (E b) (B b) cf (bgn (M b) (E b) (cf l)) := Rch_b hl
      have l1 := rlt _ hR
      refine z_iload_n dX7_findStates_30 rfl ?_
      refine i_bipush dX7_findStates_31 (by decide) ?_
      refine i_icmp_ge (tgt := 60) dX7_findStates_33 (by decide) (by omega) (by omega) (fun h1 => ?_) (fun h1 => ?_)
      · skip
        omega
      · skip
        refine z_aload_n dX7_findStates_36 rfl ?_
        refine z_getf cls6 13 flX7_52 dX7_findStates_37 (by decide) (MT_100) rfl ?_
        refine i_sipush dX7_findStates_40 (by decide) ?_
        refine z_iload_n dX7_findStates_43 rfl ?_
        refine i_imul dX7_findStates_44 ?_
        refine z_aload_n dX7_findStates_45 rfl ?_
        refine z_iload_n dX7_findStates_46 rfl ?_
        refine z_iload_n dX7_findStates_47 rfl ?_
        refine i_cVr (m_firstState MT_100 (MT_C hC) ((MT_x (by decide) (by decide)).trans h106) hb ha hl (hcf l hl) (hc1 l hl) (hc2 l hl)) mX7_101 dX7_findStates_48 (MT_100) rfl rfl rfl ⟨by decide, by decide⟩ (Nat.le_of_ble_eq_true rfl) ⟨by decide, by decide⟩ ?_
        refine i_iadd dX7_findStates_51 ?_
        refine i_iconst dX7_findStates_52 rfl ?_
        refine i_zast (x := true) dX7_findStates_53 (MT_110) (172 * b + mdN (bgn (M b) (E b) (cf l))) (by omega) (by omega) ?_
        rw [MT_s110]
        refine i_iinc dX7_findStates_54 rfl (by decide) ?_
        refine z_goto (tgt := 30) dX7_findStates_57 (by decide) ?_
        refine ih _ (hT.add hR l1) (fun k hk => ?_)
        by_cases q : 172 * b + mdN (bgn (M b) (E b) (cf k)) = 172 * b + mdN (bgn (M b) (E b) (cf l))
        · rw [q, va_up_self]
        · rw [va_up_ne _ _ q]
          refine hB k ?_
          by_cases q2 : k = l
          · rw [q2] at q; exact absurd rfl q
          · omega
  have H1 : ∀ s : Nat, s ≤ 172 → ∀ th' : Nat → Bool, (∀ k, k < s → th' (172 * b + k) = false) → (∀ p, p < 172 * b ∨ 172 * b + 172 ≤ p → th' p = th p) → PX7_findStates Q NX 2 [some (.ref 100), some (.int (iI b)), some (.int (iI s)), none, none, none] [] (MT σ (obMd t nc ac cp cnt no n2 crs ex) th') 0 0 := by
    refine up_to 172 ?_ ?_
    · intro th' hz hf
      refine z_iload_n dX7_findStates_2 rfl ?_
      refine i_sipush dX7_findStates_3 (by decide) ?_
      refine i_icmp_ge (tgt := 28) dX7_findStates_6 (by decide) (by omega) (by omega) (fun h1 => ?_) (fun h1 => ?_)
      · skip
        refine i_iconst dX7_findStates_28 rfl ?_
        refine z_istore_n dX7_findStates_29 (by decide) ?_
        exact H2 0 (by omega) th' ⟨fun s hs ht => Bool.noConfusion ((hz s hs).symm.trans ht), hf⟩ (fun k hk => absurd hk (Nat.not_lt_zero k))
      · skip
        omega
    · intro s hs ih th' hz hf
      refine z_iload_n dX7_findStates_2 rfl ?_
      refine i_sipush dX7_findStates_3 (by decide) ?_
      refine i_icmp_ge (tgt := 28) dX7_findStates_6 (by decide) (by omega) (by omega) (fun h1 => ?_) (fun h1 => ?_)
      · skip
        omega
      · skip
        refine z_aload_n dX7_findStates_9 rfl ?_
        refine z_getf cls6 13 flX7_52 dX7_findStates_10 (by decide) (MT_100) rfl ?_
        refine i_sipush dX7_findStates_13 (by decide) ?_
        refine z_iload_n dX7_findStates_16 rfl ?_
        refine i_imul dX7_findStates_17 ?_
        refine z_iload_n dX7_findStates_18 rfl ?_
        refine i_iadd dX7_findStates_19 ?_
        refine i_iconst dX7_findStates_20 rfl ?_
        refine i_zast (x := false) dX7_findStates_21 (MT_110) (172 * b + s) (by omega) (by omega) ?_
        rw [MT_s110]
        refine i_iinc dX7_findStates_22 rfl (by decide) ?_
        refine z_goto (tgt := 2) dX7_findStates_25 (by decide) ?_
        refine ih _ (fun k hk => ?_) (fun p hp => ?_)
        · by_cases q : k = s
          · rw [q, va_up_self]
          · rw [va_up_ne _ _ (by omega)]; exact hz k (by omega)
        · rw [va_up_ne _ _ (by omega)]; exact hf p hp
  refine i_iconst dX7_findStates_0 rfl ?_
  refine z_istore_n dX7_findStates_1 (by decide) ?_
  exact H1 0 (by omega) th (fun k hk => absurd hk (Nat.not_lt_zero k)) (fun _ _ => rfl)
theorem m_stateCount {b : Nat} {th : Nat → Bool} (h100 : σ 100 = some (obMd t nc ac cp cnt no n2 crs ex)) (h110 : σ 110 = some (AZ 860 th)) (hb : b < 5) : KX7_stateCount [.ref 100, .int (iI b)] σ (Rt (some (.int (iI (cntF (fun s => th (172 * b + s)) 172 : Nat)))) σ) NX := by
  refine Ct.intro (by decide) (Nat.le_of_ble_eq_true rfl) ?_
  have H : ∀ s : Nat, s ≤ 172 → PX7_stateCount (Rt (some (.int (iI (cntF (fun s => th (172 * b + s)) 172 : Nat)))) σ) NX 4 [some (.ref 100), some (.int (iI b)), some (.int (iI (cntF (fun s => th (172 * b + s)) s : Nat))), some (.int (iI s))] [] σ 0 0 := by
    refine up_to 172 ?_ ?_
    · skip
      refine z_iload_n dX7_stateCount_4 rfl ?_
      refine i_sipush dX7_stateCount_5 (by decide) ?_
      refine i_icmp_ge (tgt := 40) dX7_stateCount_8 (by decide) (by omega) (by omega) (fun h1 => ?_) (fun h1 => ?_)
      · skip
        refine z_iload_n dX7_stateCount_40 rfl ?_
        exact i_iret dX7_stateCount_41 rfl (by decide) (by decide) rfl
      · skip
        omega
    · intro s hs ih
      refine z_iload_n dX7_stateCount_4 rfl ?_
      refine i_sipush dX7_stateCount_5 (by decide) ?_
      refine i_icmp_ge (tgt := 40) dX7_stateCount_8 (by decide) (by omega) (by omega) (fun h1 => ?_) (fun h1 => ?_)
      · skip
        omega
      · skip
        refine z_iload_n dX7_stateCount_11 rfl ?_
        refine z_aload_n dX7_stateCount_12 rfl ?_
        refine z_getf cls6 13 flX7_52 dX7_stateCount_13 (by decide) (by first | exact h100 | rfl) rfl ?_
        refine i_sipush dX7_stateCount_16 (by decide) ?_
        refine z_iload_n dX7_stateCount_19 rfl ?_
        refine i_imul dX7_stateCount_20 ?_
        refine z_iload_n dX7_stateCount_21 rfl ?_
        refine i_iadd dX7_stateCount_22 ?_
        refine i_zald dX7_stateCount_23 (by first | exact h110 | rfl) (172 * b + s) (by omega) (by omega) ?_
        refine i_ifb_eq (tgt := 31) dX7_stateCount_24 (by decide) (fun h2 => ?_) (fun h2 => ?_)
        · skip
          rw [cnt_f (fd := fun s => th (172 * b + s)) h2] at ih
          refine i_iconst dX7_stateCount_31 rfl ?_
          refine i_iadd dX7_stateCount_32 ?_
          refine z_istore_n dX7_stateCount_33 (by decide) ?_
          refine i_iinc dX7_stateCount_34 rfl (by decide) ?_
          refine z_goto (tgt := 4) dX7_stateCount_37 (by decide) ?_
          rw [Int.add_zero]
          exact ih
        · skip
          rw [cnt_t (fd := fun s => th (172 * b + s)) h2] at ih
          refine i_iconst dX7_stateCount_27 rfl ?_
          refine z_goto (tgt := 32) dX7_stateCount_28 (by decide) ?_
          refine i_iadd dX7_stateCount_32 ?_
          refine z_istore_n dX7_stateCount_33 (by decide) ?_
          refine i_iinc dX7_stateCount_34 rfl (by decide) ?_
          refine z_goto (tgt := 4) dX7_stateCount_37 (by decide) ?_
          exact ih
  refine i_iconst dX7_stateCount_0 rfl ?_
  refine z_istore_n dX7_stateCount_1 (by decide) ?_
  refine i_iconst dX7_stateCount_2 rfl ?_
  refine z_istore_n dX7_stateCount_3 (by decide) ?_
  exact H 0 (by omega)
theorem m_numberOf {b n : Nat} {th : Nat → Bool} (h100 : σ 100 = some (obMd t nc ac cp cnt no n2 crs ex)) (h110 : σ 110 = some (AZ 860 th)) (hb : b < 5) (hn : n ≤ 172) : KX7_numberOf [.ref 100, .int (iI b), .int (iI n)] σ (Rt (some (.int (iI (cntF (fun s => th (172 * b + s)) n : Nat)))) σ) NX := by
  refine Ct.intro (by decide) (Nat.le_of_ble_eq_true rfl) ?_
  have H : ∀ s : Nat, s ≤ n → PX7_numberOf (Rt (some (.int (iI (cntF (fun s => th (172 * b + s)) n : Nat)))) σ) NX 5 [some (.ref 100), some (.int (iI b)), some (.int (iI n)), some (.int (iI (cntF (fun s => th (172 * b + s)) s : Nat))), some (.int (iI s))] [] σ 0 0 := by
    refine up_to n ?_ ?_
    · skip
      refine z_iload dX7_numberOf_5 rfl ?_
      refine z_iload_n dX7_numberOf_7 rfl ?_
      refine i_icmp_ge (tgt := 41) dX7_numberOf_8 (by decide) (by omega) (by omega) (fun h1 => ?_) (fun h1 => ?_)
      · skip
        refine z_iload_n dX7_numberOf_41 rfl ?_
        exact i_iret dX7_numberOf_42 rfl (by decide) (by decide) rfl
      · skip
        omega
    · intro s hs ih
      refine z_iload dX7_numberOf_5 rfl ?_
      refine z_iload_n dX7_numberOf_7 rfl ?_
      refine i_icmp_ge (tgt := 41) dX7_numberOf_8 (by decide) (by omega) (by omega) (fun h1 => ?_) (fun h1 => ?_)
      · skip
        omega
      · skip
        refine z_iload_n dX7_numberOf_11 rfl ?_
        refine z_aload_n dX7_numberOf_12 rfl ?_
        refine z_getf cls6 13 flX7_52 dX7_numberOf_13 (by decide) (by first | exact h100 | rfl) rfl ?_
        refine i_sipush dX7_numberOf_16 (by decide) ?_
        refine z_iload_n dX7_numberOf_19 rfl ?_
        refine i_imul dX7_numberOf_20 ?_
        refine z_iload dX7_numberOf_21 rfl ?_
        refine i_iadd dX7_numberOf_23 ?_
        refine i_zald dX7_numberOf_24 (by first | exact h110 | rfl) (172 * b + s) (by omega) (by omega) ?_
        refine i_ifb_eq (tgt := 32) dX7_numberOf_25 (by decide) (fun h2 => ?_) (fun h2 => ?_)
        · skip
          rw [cnt_f (fd := fun s => th (172 * b + s)) h2] at ih
          refine i_iconst dX7_numberOf_32 rfl ?_
          refine i_iadd dX7_numberOf_33 ?_
          refine z_istore_n dX7_numberOf_34 (by decide) ?_
          refine i_iinc dX7_numberOf_35 rfl (by decide) ?_
          refine z_goto (tgt := 5) dX7_numberOf_38 (by decide) ?_
          rw [Int.add_zero]
          exact ih
        · skip
          rw [cnt_t (fd := fun s => th (172 * b + s)) h2] at ih
          refine i_iconst dX7_numberOf_28 rfl ?_
          refine z_goto (tgt := 33) dX7_numberOf_29 (by decide) ?_
          refine i_iadd dX7_numberOf_33 ?_
          refine z_istore_n dX7_numberOf_34 (by decide) ?_
          refine i_iinc dX7_numberOf_35 rfl (by decide) ?_
          refine z_goto (tgt := 5) dX7_numberOf_38 (by decide) ?_
          exact ih
  refine i_iconst dX7_numberOf_0 rfl ?_
  refine z_istore_n dX7_numberOf_1 (by decide) ?_
  refine i_iconst dX7_numberOf_2 rfl ?_
  refine z_istore dX7_numberOf_3 (by decide) ?_
  exact H 0 (by omega)
end MOD2

