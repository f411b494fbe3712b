section MOD7
variable {σ : Wd} {a : AS} {t : Int}
/-- only the code of the last call changes -/
theorem md_t {tr : Nat → Bool} {cfM : Nat → Int} {th : Nat → Bool} {agf : Nat → Int} {no n2 : Int} {crs : Nat} {cr tb : Nat → Nat} {gd : Nat → Bool} {wk : Nat → Nat} (h : MDp σ a t tr cfM th agf no n2 crs cr tb gd wk) (t' : Int) : MDp (up σ 100 (obMd t' a.nc a.ac a.cp a.cnt no n2 crs a.ex.isSome)) a t' tr cfM th agf no n2 crs cr tb gd wk := by
  obtain ⟨h100, k1, k2, k3, k4, k5, k6, k7, k10, k11, k12, k13, k14, k15, k16, g⟩ := h
  exact ⟨rfl, k1, k2, k3, k4, k5, k6, k7.o _ (by omega), k10, k11, k12, k13, k14, k15, k16, g⟩
/-- an atom comes to the reference -/
theorem md_atom {tr : Nat → Bool} {cfM cfM' : Nat → Int} {th : Nat → Bool} {agf : Nat → Int} {no n2 : Int} {crs : Nat} {cr tb : Nat → Nat} {gd : Nat → Bool} {wk : Nat → Nat} {u : Wd} {m e : Int} (h : MDp σ a t tr cfM th agf no n2 crs cr tb gd wk) (hV : VL a) (hc : a.cp = false) (ha : a.ac < 5) (hx : ∀ q, q < 100 ∨ 109 < q ∨ q = 105 → u q = σ q) (u0 : u 100 = some (obMd t (a.nc + 1) (a.ac + 1) a.cp a.cnt no n2 crs a.ex.isSome)) (u1 : u 101 = some (AI 8 (fun _ => 0))) (u2 : u 102 = some (AI 20 (va_up a.op a.nc 3))) (u3 : u 103 = some (AI 20 (va_up a.lf a.nc (a.ac : Nat)))) (u4 : u 104 = some (AI 20 (va_up a.rt a.nc 0))) (u6 : u 106 = some (AI 40 cfM')) (u7 : MC u (va_up a.M a.ac m) (va_up a.E a.ac e) (va_up a.B a.ac (bndF e a.pd 8))) (c1 : ∀ p, p < 8 * a.ac ∨ 8 * a.ac + 8 ≤ p → cfM' p = cfM p) (c2 : ∀ l, l < 8 → cfM' (8 * a.ac + l) = a.pd l) : MD u (oAtom a m e) t ∧ F2 σ u := by
  obtain ⟨h100, k1, k2, k3, k4, k5, k6, k7, k10, k11, k12, k13, k14, k15, k16, g1, g2, g3, g4⟩ := h
  obtain ⟨z0, z1⟩ := noex hV hc
  refine ⟨⟨tr, cfM', th, agf, no, n2, crs, cr, tb, gd, wk, u0, u1, u2, u3, u4, (hx 105 (by omega)).trans k5, u6, u7, (hx 110 (by omega)).trans k10, (hx 111 (by omega)).trans k11, (hx 112 (by omega)).trans k12, (hx 113 (by omega)).trans k13, (hx 114 (by omega)).trans k14, (hx 115 (by omega)).trans k15, (hx 116 (by omega)).trans k16, fun b hb l hl => ?_, fun p hp => ?_, fun z => ?_, fun x hx => ?_⟩, fun q hq => hx q (by omega)⟩
  · show cfM' (8 * b + l) = va_up a.CF a.ac a.pd b l
    by_cases q : b = a.ac
    · rw [q, va_up_self]; exact c2 l hl
    · rw [va_up_ne _ _ q, c1 _ (by omega)]; exact g1 b hb l hl
  · have hp : p < a.cnt := hp
    omega
  · have z : a.cp = true := z
    rw [hc] at z; cases z
  · have hx : a.ex = some x := hx
    rw [z1] at hx; cases hx
theorem m_sum (h : MD σ a t) (hV : VL a) (c : Int) (hc : i32 c) : KX7_sum [.ref 100, .int (iI c)] σ (QM (cdSum a c) (.int (iI (a.nc : Nat))) σ a (oAtom a 0 c)) NX := by
  obtain ⟨tr, cfM, th, agf, no, n2, crs, cr, tb, gd, wk, hp⟩ := h
  have hp0 := hp
  obtain ⟨h100, k1, k2, k3, k4, k5, k6, k7, k10, k11, k12, k13, k14, k15, k16, g1, g2, g3, g4⟩ := hp
  unfold i32 at hc
  have hal := hV.ac
  refine Ct.intro (by decide) (Nat.le_of_ble_eq_true rfl) ?_
  have H37 : ∀ d : Nat, d = cdSum a c → d ≤ 2 → PX7_sum (QM (cdSum a c) (.int (iI (a.nc : Nat))) σ a (oAtom a 0 c)) NX 37 [some (.ref 100), some (.int (iI c))] [.int (iI d), .ref 100] σ 0 0 := by
    intro d hd hd2
    refine i_puti cls6 0 flX7_7 dX7_sum_37 (by decide) rfl rfl (by first | exact h100 | rfl) (Nat.le_of_ble_eq_true rfl) ?_
    refine z_aload_n dX7_sum_40 rfl ?_
    refine z_getf cls6 0 flX7_7 dX7_sum_41 (by decide) (up_self _ _ _) rfl ?_
    refine i_if_eq (tgt := 51) dX7_sum_44 (by decide) (by omega) (fun h1 => ?_) (fun h1 => ?_)
    · skip
      have hd0 : cdSum a c = 0 := by omega
      have hg : (-20 ≤ c ∧ c ≤ 20) ∧ takA a.nc a.ac a.cp = true := by
        unfold cdSum at hd0
        by_cases q1 : -20 ≤ c ∧ c ≤ 20
        · rw [if_pos q1] at hd0
          by_cases q2 : takA a.nc a.ac a.cp = true
          · exact ⟨q1, q2⟩
          · rw [if_neg q2] at hd0; cases hd0
        · rw [if_neg q1] at hd0; cases hd0
      obtain ⟨t1, t2, t3⟩ := takA_t hg.2
      refine z_aload_n dX7_sum_51 rfl ?_
      refine z_iload_n dX7_sum_52 rfl ?_
      refine i_iconst dX7_sum_53 rfl ?_
      refine z_callVX (m_atom (m := 0) (up_self _ _ _) k1 k2 k3 k4 k6 (k7.o _ (by omega)) t2 t3 hg.1 (fun l hl => hV.pd hl)) mX7_139 dX7_sum_54 (up_self _ _ _) rfl rfl rfl ⟨by decide, by decide⟩ (Nat.le_of_ble_eq_true rfl) ⟨by decide, by decide⟩ (fun _ _ h => h.elim) (fun r u hq => ?_)
      obtain ⟨cfM', rfl, hx, u0, u1, u2, u3, u4, u6, u7, c1, c2⟩ := hq
      obtain ⟨r1, r2⟩ := md_atom (md_t hp0 (d : Int)) hV t1 t3 hx u0 u1 u2 u3 u4 u6 u7 c1 c2
      refine z_iret dX7_sum_57 rfl (by decide) (by decide) ⟨⟨_, rfl⟩, fun _ => rfl, ?_, (F2.rfl.up _ (by omega)).trans r2⟩
      rw [if_pos hd0, ← hd]; exact r1
    · skip
      refine i_iconst dX7_sum_47 rfl ?_
      refine z_goto (tgt := 57) dX7_sum_48 (by decide) ?_
      refine z_iret dX7_sum_57 rfl (by decide) (by decide) ⟨⟨0, rfl⟩, fun z => by omega, ?_, F2.rfl.up _ (by omega)⟩
      rw [if_neg (by omega), ← hd]
      exact ⟨tr, cfM, th, agf, no, n2, crs, cr, tb, gd, wk, md_t hp0 _⟩
  have H13 : ¬ (-20 ≤ c ∧ c ≤ 20) → PX7_sum (QM (cdSum a c) (.int (iI (a.nc : Nat))) σ a (oAtom a 0 c)) NX 13 [some (.ref 100), some (.int (iI c))] [.ref 100] σ 0 0 := by
    intro hb
    refine i_iconst dX7_sum_13 rfl ?_
    refine z_goto (tgt := 37) dX7_sum_14 (by decide) ?_
    exact H37 1 (if_neg hb).symm (by decide)
  refine z_aload_n dX7_sum_0 rfl ?_
  refine z_iload_n dX7_sum_1 rfl ?_
  refine i_bipush dX7_sum_2 (by decide) ?_
  refine i_icmp_lt (tgt := 13) dX7_sum_4 (by decide) (by omega) (by omega) (fun h1 => ?_) (fun h1 => ?_)
  · skip
    exact H13 (by omega)
  · skip
    refine z_iload_n dX7_sum_7 rfl ?_
    refine i_bipush dX7_sum_8 (by decide) ?_
    refine i_icmp_le (tgt := 17) dX7_sum_10 (by decide) (by omega) (by omega) (fun h2 => ?_) (fun h2 => ?_)
    · skip
      have hg : -20 ≤ c ∧ c ≤ 20 := by omega
      refine z_aload_n dX7_sum_17 rfl ?_
      refine i_cVr (m_full h100 hV.nc) mX7_136 dX7_sum_18 (by first | exact h100 | rfl) rfl rfl rfl ⟨by decide, by decide⟩ (Nat.le_of_ble_eq_true rfl) ⟨by decide, by decide⟩ ?_
      have H32 : takA a.nc a.ac a.cp = false → PX7_sum (QM (cdSum a c) (.int (iI (a.nc : Nat))) σ a (oAtom a 0 c)) NX 32 [some (.ref 100), some (.int (iI c))] [.ref 100] σ 0 0 := by
        intro hb
        refine i_iconst dX7_sum_32 rfl ?_
        refine z_goto (tgt := 37) dX7_sum_33 (by decide) ?_
        exact H37 2 (by unfold cdSum; rw [if_pos hg, if_neg (by rw [hb]; decide)]) (by decide)
      refine i_ifb_ne (tgt := 32) dX7_sum_21 (by decide) (fun h3 => ?_) (fun h3 => ?_)
      · skip
        exact H32 (by unfold takA; cases q : takN a.nc a.cp <;> rw [q] at h3 <;> simp_all)
      · skip
        have h3 : takN a.nc a.cp = true := by cases q : takN a.nc a.cp <;> rw [q] at h3 <;> simp_all
        refine z_aload_n dX7_sum_24 rfl ?_
        refine z_getf cls6 7 flX7_33 dX7_sum_25 (by decide) (by first | exact h100 | rfl) rfl ?_
        refine i_iconst dX7_sum_28 rfl ?_
        refine i_icmp_ne (tgt := 36) dX7_sum_29 (by decide) (by omega) (by omega) (fun h4 => ?_) (fun h4 => ?_)
        · skip
          refine i_iconst dX7_sum_36 rfl ?_
          exact H37 0 (by unfold cdSum; rw [if_pos hg, if_pos (by unfold takA; rw [h3, blt_t (by omega)]; rfl)]) (by decide)
        · skip
          exact H32 (by unfold takA; rw [h3, blt_f (by omega)]; rfl)
    · skip
      exact H13 (by omega)
theorem m_mod (h : MD σ a t) (hV : VL a) (r m : Int) (hr : i32 r) (hm : i32 m) : KX7_mod [.ref 100, .int (iI r), .int (iI m)] σ (QM (cdMod a r m) (.int (iI (a.nc : Nat))) σ a (oAtom a m r)) NX := by
  obtain ⟨tr, cfM, th, agf, no, n2, crs, cr, tb, gd, wk, hp⟩ := h
  have hp0 := hp
  obtain ⟨h100, k1, k2, k3, k4, k5, k6, k7, k10, k11, k12, k13, k14, k15, k16, g1, g2, g3, g4⟩ := hp
  unfold i32 at hr hm
  have hal := hV.ac
  refine Ct.intro (by decide) (Nat.le_of_ble_eq_true rfl) ?_
  have H45 : ∀ d : Nat, d = cdMod a r m → d ≤ 2 → PX7_mod (QM (cdMod a r m) (.int (iI (a.nc : Nat))) σ a (oAtom a m r)) NX 45 [some (.ref 100), some (.int (iI r)), some (.int (iI m))] [.int (iI d), .ref 100] σ 0 0 := by
    intro d hd hd2
    refine i_puti cls6 0 flX7_7 dX7_mod_45 (by decide) rfl rfl (by first | exact h100 | rfl) (Nat.le_of_ble_eq_true rfl) ?_
    refine z_aload_n dX7_mod_48 rfl ?_
    refine z_getf cls6 0 flX7_7 dX7_mod_49 (by decide) (up_self _ _ _) rfl ?_
    refine i_if_eq (tgt := 59) dX7_mod_52 (by decide) (by omega) (fun h1 => ?_) (fun h1 => ?_)
    · skip
      have hd0 : cdMod a r m = 0 := by omega
      have hg : ((2 ≤ m ∧ m ≤ 16) ∧ (0 ≤ r ∧ r < m)) ∧ takA a.nc a.ac a.cp = true := by
        unfold cdMod at hd0
        by_cases q1 : (2 ≤ m ∧ m ≤ 16) ∧ (0 ≤ r ∧ r < m)
        · rw [if_pos q1] at hd0
          by_cases q2 : takA a.nc a.ac a.cp = true
          · exact ⟨q1, q2⟩
          · rw [if_neg q2] at hd0; cases hd0
        · rw [if_neg q1] at hd0; cases hd0
      obtain ⟨t1, t2, t3⟩ := takA_t hg.2
      refine z_aload_n dX7_mod_59 rfl ?_
      refine z_iload_n dX7_mod_60 rfl ?_
      refine z_iload_n dX7_mod_61 rfl ?_
      refine z_callVX (m_atom (up_self _ _ _) k1 k2 k3 k4 k6 (k7.o _ (by omega)) t2 t3 (by omega) (fun l hl => hV.pd hl)) mX7_139 dX7_mod_62 (up_self _ _ _) rfl rfl rfl ⟨by decide, by decide⟩ (Nat.le_of_ble_eq_true rfl) ⟨by decide, by decide⟩ (fun _ _ h => h.elim) (fun r u hq => ?_)
      obtain ⟨cfM', rfl, hx, u0, u1, u2, u3, u4, u6, u7, c1, c2⟩ := hq
      obtain ⟨r1, r2⟩ := md_atom (md_t hp0 (d : Int)) hV t1 t3 hx u0 u1 u2 u3 u4 u6 u7 c1 c2
      refine z_iret dX7_mod_65 rfl (by decide) (by decide) ⟨⟨_, rfl⟩, fun _ => rfl, ?_, (F2.rfl.up _ (by omega)).trans r2⟩
      rw [if_pos hd0, ← hd]; exact r1
    · skip
      refine i_iconst dX7_mod_55 rfl ?_
      refine z_goto (tgt := 65) dX7_mod_56 (by decide) ?_
      refine z_iret dX7_mod_65 rfl (by decide) (by decide) ⟨⟨0, rfl⟩, fun z => by omega, ?_, F2.rfl.up _ (by omega)⟩
      rw [if_neg (by omega), ← hd]
      exact ⟨tr, cfM, th, agf, no, n2, crs, cr, tb, gd, wk, md_t hp0 _⟩
  have H21 : ¬ ((2 ≤ m ∧ m ≤ 16) ∧ (0 ≤ r ∧ r < m)) → PX7_mod (QM (cdMod a r m) (.int (iI (a.nc : Nat))) σ a (oAtom a m r)) NX 21 [some (.ref 100), some (.int (iI r)), some (.int (iI m))] [.ref 100] σ 0 0 := by
    intro hb
    refine i_iconst dX7_mod_21 rfl ?_
    refine z_goto (tgt := 45) dX7_mod_22 (by decide) ?_
    exact H45 1 (if_neg hb).symm (by decide)
  refine z_aload_n dX7_mod_0 rfl ?_
  refine z_iload_n dX7_mod_1 rfl ?_
  refine i_iconst dX7_mod_2 rfl ?_
  refine i_icmp_lt (tgt := 21) dX7_mod_3 (by decide) (by omega) (by omega) (fun h1 => ?_) (fun h1 => ?_)
  · skip
    exact H21 (by omega)
  · skip
    refine z_iload_n dX7_mod_6 rfl ?_
    refine i_bipush dX7_mod_7 (by decide) ?_
    refine i_icmp_gt (tgt := 21) dX7_mod_9 (by decide) (by omega) (by omega) (fun h2 => ?_) (fun h2 => ?_)
    · skip
      exact H21 (by omega)
    · skip
      refine z_iload_n dX7_mod_12 rfl ?_
      refine i_if_lt (tgt := 21) dX7_mod_13 (by decide) (by omega) (fun h5 => ?_) (fun h5 => ?_)
      · skip
        exact H21 (by omega)
      · skip
        refine z_iload_n dX7_mod_16 rfl ?_
        refine z_iload_n dX7_mod_17 rfl ?_
        refine i_icmp_lt (tgt := 25) dX7_mod_18 (by decide) (by omega) (by omega) (fun h6 => ?_) (fun h6 => ?_)
        · skip
          have hg : (2 ≤ m ∧ m ≤ 16) ∧ (0 ≤ r ∧ r < m) := by omega
          refine z_aload_n dX7_mod_25 rfl ?_
          refine i_cVr (m_full h100 hV.nc) mX7_136 dX7_mod_26 (by first | exact h100 | rfl) rfl rfl rfl ⟨by decide, by decide⟩ (Nat.le_of_ble_eq_true rfl) ⟨by decide, by decide⟩ ?_
          have H40 : takA a.nc a.ac a.cp = false → PX7_mod (QM (cdMod a r m) (.int (iI (a.nc : Nat))) σ a (oAtom a m r)) NX 40 [some (.ref 100), some (.int (iI r)), some (.int (iI m))] [.ref 100] σ 0 0 := by
            intro hb
            refine i_iconst dX7_mod_40 rfl ?_
            refine z_goto (tgt := 45) dX7_mod_41 (by decide) ?_
            exact H45 2 (by unfold cdMod; rw [if_pos hg, if_neg (by rw [hb]; decide)]) (by decide)
          refine i_ifb_ne (tgt := 40) dX7_mod_29 (by decide) (fun h3 => ?_) (fun h3 => ?_)
          · skip
            exact H40 (by unfold takA; cases q : takN a.nc a.cp <;> rw [q] at h3 <;> simp_all)
          · skip
            have h3 : takN a.nc a.cp = true := by cases q : takN a.nc a.cp <;> rw [q] at h3 <;> simp_all
            refine z_aload_n dX7_mod_32 rfl ?_
            refine z_getf cls6 7 flX7_33 dX7_mod_33 (by decide) (by first | exact h100 | rfl) rfl ?_
            refine i_iconst dX7_mod_36 rfl ?_
            refine i_icmp_ne (tgt := 44) dX7_mod_37 (by decide) (by omega) (by omega) (fun h4 => ?_) (fun h4 => ?_)
            · skip
              refine i_iconst dX7_mod_44 rfl ?_
              exact H45 0 (by unfold cdMod; rw [if_pos hg, if_pos (by unfold takA; rw [h3, blt_t (by omega)]; rfl)]) (by decide)
            · skip
              exact H40 (by unfold takA; rw [h3, blt_f (by omega)]; rfl)
        · skip
          exact H21 (by omega)
theorem m_combine (h : MD σ a t) (hV : VL a) (o l r : Int) (ho : i32 o) (hl : i32 l) (hr : i32 r) : KX7_combine [.ref 100, .int (iI o), .int (iI l), .int (iI r)] σ (QM (cdComb a o l r) (.int (iI (a.nc : Nat))) σ a (oNode a o l r)) NX := by
  obtain ⟨tr, cfM, th, agf, no, n2, crs, cr, tb, gd, wk, hp⟩ := h
  have hp0 := hp
  obtain ⟨h100, k1, k2, k3, k4, k5, k6, k7, k10, k11, k12, k13, k14, k15, k16, g1, g2, g3, g4⟩ := hp
  unfold i32 at ho hl hr
  have hnl := hV.nc
  refine Ct.intro (by decide) (Nat.le_of_ble_eq_true rfl) ?_
  have H67 : ∀ (d : Nat) (w : Bool), d = cdComb a o l r → d ≤ 2 → PX7_combine (QM (cdComb a o l r) (.int (iI (a.nc : Nat))) σ a (oNode a o l r)) NX 67 [some (.ref 100), some (.int (iI o)), some (.int (iI l)), some (.int (iI r)), some (.int (iI (bI w)))] [.int (iI d), .ref 100] σ 0 0 := by
    intro d w hd hd2
    refine i_puti cls6 0 flX7_7 dX7_combine_67 (by decide) rfl rfl (by first | exact h100 | rfl) (Nat.le_of_ble_eq_true rfl) ?_
    refine z_aload_n dX7_combine_70 rfl ?_
    refine z_getf cls6 0 flX7_7 dX7_combine_71 (by decide) (up_self _ _ _) rfl ?_
    refine i_if_eq (tgt := 81) dX7_combine_74 (by decide) (by omega) (fun h1 => ?_) (fun h1 => ?_)
    · skip
      have hd0 : cdComb a o l r = 0 := by omega
      have hg : ((0 ≤ o ∧ o ≤ 2) ∧ (0 ≤ l ∧ l < a.nc) ∧ (o = 2 ∨ (0 ≤ r ∧ r < a.nc))) ∧ takN a.nc a.cp = true := by
        unfold cdComb at hd0
        by_cases q1 : (0 ≤ o ∧ o ≤ 2) ∧ (0 ≤ l ∧ l < a.nc) ∧ (o = 2 ∨ (0 ≤ r ∧ r < a.nc))
        · rw [if_pos q1] at hd0
          by_cases q2 : takN a.nc a.cp = true
          · exact ⟨q1, q2⟩
          · rw [if_neg q2] at hd0; cases hd0
        · rw [if_neg q1] at hd0; cases hd0
      obtain ⟨t1, t2⟩ := takN_t hg.2
      have H94 : ∀ z : Int, z = (if o = 2 then -1 else r) → PX7_combine (QM (cdComb a o l r) (.int (iI (a.nc : Nat))) σ a (oNode a o l r)) NX 94 [some (.ref 100), some (.int (iI o)), some (.int (iI l)), some (.int (iI r)), some (.int (iI (bI w)))] [.int (iI z), .int (iI l), .int (iI o), .ref 100] (up σ 100 (obMd (d : Int) a.nc a.ac a.cp a.cnt no n2 crs a.ex.isSome)) 0 0 := by
        intro z hz
        refine i_cVr (m_node (up_self _ _ _) k2 k3 k4 t2) mX7_132 dX7_combine_94 (up_self _ _ _) rfl rfl rfl ⟨by decide, by decide⟩ (Nat.le_of_ble_eq_true rfl) ⟨by decide, by decide⟩ ?_
        refine z_iret dX7_combine_97 rfl (by decide) (by decide) ⟨⟨_, rfl⟩, fun _ => rfl, ?_, ((((F2.rfl.up _ (by omega)).up _ (by omega)).up _ (by omega)).up _ (by omega)).up _ (by omega)⟩
        rw [if_pos hd0, ← hd, hz]
        refine ⟨tr, cfM, th, agf, no, n2, crs, cr, tb, gd, wk, rfl, k1, rfl, rfl, rfl, k5, k6, ((((k7.o _ (by omega)).o _ (by omega)).o _ (by omega)).o _ (by omega)).o _ (by omega), k10, k11, k12, k13, k14, k15, k16, g1, g2, fun z => ?_, g4⟩
        have z : a.cp = true := z
        rw [t1] at z; cases z
      refine z_aload_n dX7_combine_81 rfl ?_
      refine z_iload_n dX7_combine_82 rfl ?_
      refine z_iload_n dX7_combine_83 rfl ?_
      refine z_iload_n dX7_combine_84 rfl ?_
      refine i_iconst dX7_combine_85 rfl ?_
      refine i_icmp_ne (tgt := 93) dX7_combine_86 (by decide) (by omega) (by omega) (fun h3 => ?_) (fun h3 => ?_)
      · skip
        refine z_iload_n dX7_combine_93 rfl ?_
        exact H94 r (by rw [if_neg h3])
      · skip
        refine i_iconst dX7_combine_89 rfl ?_
        refine z_goto (tgt := 94) dX7_combine_90 (by decide) ?_
        exact H94 (-1) (by rw [if_pos h3])
    · skip
      refine i_iconst dX7_combine_77 rfl ?_
      refine z_goto (tgt := 97) dX7_combine_78 (by decide) ?_
      refine z_iret dX7_combine_97 rfl (by decide) (by decide) ⟨⟨0, rfl⟩, fun z => by omega, ?_, F2.rfl.up _ (by omega)⟩
      rw [if_neg (by omega), ← hd]
      exact ⟨tr, cfM, th, agf, no, n2, crs, cr, tb, gd, wk, md_t hp0 _⟩
  have H43 : ∀ w : Bool, (w = false ↔ (0 ≤ o ∧ o ≤ 2) ∧ (0 ≤ l ∧ l < a.nc) ∧ (o = 2 ∨ (0 ≤ r ∧ r < a.nc))) → PX7_combine (QM (cdComb a o l r) (.int (iI (a.nc : Nat))) σ a (oNode a o l r)) NX 43 [some (.ref 100), some (.int (iI o)), some (.int (iI l)), some (.int (iI r)), none] [.int (iI (bI w))] σ 0 0 := by
    intro w hw
    refine z_istore dX7_combine_43 (by decide) ?_
    refine z_aload_n dX7_combine_45 rfl ?_
    refine z_iload dX7_combine_46 rfl ?_
    refine i_ifb_eq (tgt := 55) dX7_combine_48 (by decide) (fun h1 => ?_) (fun h1 => ?_)
    · skip
      have hg := hw.mp h1
      refine z_aload_n dX7_combine_55 rfl ?_
      refine i_cVr (m_full h100 hV.nc) mX7_136 dX7_combine_56 (by first | exact h100 | rfl) rfl rfl rfl ⟨by decide, by decide⟩ (Nat.le_of_ble_eq_true rfl) ⟨by decide, by decide⟩ ?_
      refine i_ifb_eq (tgt := 66) dX7_combine_59 (by decide) (fun h3 => ?_) (fun h3 => ?_)
      · skip
        have h3 : takN a.nc a.cp = true := by cases q : takN a.nc a.cp <;> rw [q] at h3 <;> simp_all
        refine i_iconst dX7_combine_66 rfl ?_
        exact H67 0 w (by unfold cdComb; rw [if_pos hg, if_pos h3]) (by decide)
      · skip
        have h3 : ¬ takN a.nc a.cp = true := by cases q : takN a.nc a.cp <;> rw [q] at h3 <;> simp_all
        refine i_iconst dX7_combine_62 rfl ?_
        refine z_goto (tgt := 67) dX7_combine_63 (by decide) ?_
        exact H67 2 w (by unfold cdComb; rw [if_pos hg, if_neg h3]) (by decide)
    · skip
      refine i_iconst dX7_combine_51 rfl ?_
      refine z_goto (tgt := 67) dX7_combine_52 (by decide) ?_
      exact H67 1 w (by unfold cdComb; rw [if_neg (fun z => by rw [hw.mpr z] at h1; cases h1)]) (by decide)
  have H38 : ¬ ((0 ≤ o ∧ o ≤ 2) ∧ (0 ≤ l ∧ l < a.nc) ∧ (o = 2 ∨ (0 ≤ r ∧ r < a.nc))) → PX7_combine (QM (cdComb a o l r) (.int (iI (a.nc : Nat))) σ a (oNode a o l r)) NX 38 [some (.ref 100), some (.int (iI o)), some (.int (iI l)), some (.int (iI r)), none] [] σ 0 0 := by
    intro hb
    refine i_iconst dX7_combine_38 rfl ?_
    refine z_goto (tgt := 43) dX7_combine_39 (by decide) ?_
    exact H43 true ⟨fun z => Bool.noConfusion z, fun z => absurd z hb⟩
  have H42 : ((0 ≤ o ∧ o ≤ 2) ∧ (0 ≤ l ∧ l < a.nc) ∧ (o = 2 ∨ (0 ≤ r ∧ r < a.nc))) → PX7_combine (QM (cdComb a o l r) (.int (iI (a.nc : Nat))) σ a (oNode a o l r)) NX 42 [some (.ref 100), some (.int (iI o)), some (.int (iI l)), some (.int (iI r)), none] [] σ 0 0 := by
    intro hg
    refine i_iconst dX7_combine_42 rfl ?_
    exact H43 false ⟨fun _ => hg, fun _ => rfl⟩
  refine z_iload_n dX7_combine_0 rfl ?_
  refine i_if_lt (tgt := 38) dX7_combine_1 (by decide) (by omega) (fun h1 => ?_) (fun h1 => ?_)
  · skip
    exact H38 (by omega)
  · skip
    refine z_iload_n dX7_combine_4 rfl ?_
    refine i_iconst dX7_combine_5 rfl ?_
    refine i_icmp_gt (tgt := 38) dX7_combine_6 (by decide) (by omega) (by omega) (fun h2 => ?_) (fun h2 => ?_)
    · skip
      exact H38 (by omega)
    · skip
      refine z_iload_n dX7_combine_9 rfl ?_
      refine i_if_lt (tgt := 38) dX7_combine_10 (by decide) (by omega) (fun h3 => ?_) (fun h3 => ?_)
      · skip
        exact H38 (by omega)
      · skip
        refine z_iload_n dX7_combine_13 rfl ?_
        refine z_aload_n dX7_combine_14 rfl ?_
        refine z_getf cls6 2 flX7_17 dX7_combine_15 (by decide) (by first | exact h100 | rfl) rfl ?_
        refine i_icmp_ge (tgt := 38) dX7_combine_18 (by decide) (by omega) (by omega) (fun h4 => ?_) (fun h4 => ?_)
        · skip
          exact H38 (by omega)
        · skip
          refine z_iload_n dX7_combine_21 rfl ?_
          refine i_iconst dX7_combine_22 rfl ?_
          refine i_icmp_ge (tgt := 42) dX7_combine_23 (by decide) (by omega) (by omega) (fun h5 => ?_) (fun h5 => ?_)
          · skip
            exact H42 (by omega)
          · skip
            refine z_iload_n dX7_combine_26 rfl ?_
            refine i_if_lt (tgt := 38) dX7_combine_27 (by decide) (by omega) (fun h6 => ?_) (fun h6 => ?_)
            · skip
              exact H38 (by omega)
            · skip
              refine z_iload_n dX7_combine_30 rfl ?_
              refine z_aload_n dX7_combine_31 rfl ?_
              refine z_getf cls6 2 flX7_17 dX7_combine_32 (by decide) (by first | exact h100 | rfl) rfl ?_
              refine i_icmp_lt (tgt := 42) dX7_combine_35 (by decide) (by omega) (by omega) (fun h7 => ?_) (fun h7 => ?_)
              · skip
                exact H42 (by omega)
              · skip
                exact H38 (by omega)
end MOD7

