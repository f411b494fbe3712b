/-! WORLDS: laws of up -/
theorem up_id {σ : Wd} {o : Nat} {c : pCell} (h : σ o = some c) : up σ o c = σ := by
  funext j
  by_cases e : j = o
  · subst e; rw [up_self, h]
  · rw [up_ne σ c e]
theorem up_up (σ : Wd) (o : Nat) (c d : pCell) : up (up σ o c) o d = up σ o d := by
  funext j
  by_cases e : j = o
  · subst e; rw [up_self, up_self]
  · rw [up_ne _ d e, up_ne σ c e, up_ne σ d e]
theorem up_comm (σ : Wd) {a b : Nat} (c d : pCell) (h : a ≠ b) : up (up σ a c) b d = up (up σ b d) a c := by
  funext j
  by_cases e : j = b
  · subst e; rw [up_self, up_ne _ c (Ne.symm h), up_self]
  · by_cases e2 : j = a
    · subst e2; rw [up_ne _ d e, up_self, up_self]
    · rw [up_ne _ d e, up_ne σ c e2, up_ne _ c e2, up_ne σ d e]
theorem arrV_congr {cI : ClassId} {N : Nat} {f g : Nat → Value} (h : ∀ j, j < N → f j = g j) : arrV cI N f = arrV cI N g := by
  unfold arrV
  congr 2
  funext j
  exact h j.val j.isLt
section Z1
variable {y : MethodName} {cc : ByteArray} {nL : Nat} {ret : Option FieldType} {hh : List (Nat × Nat × Nat × Nat)} {R : Room} {Q : Option Value → Wd → Prop} {QX : String → Wd → Prop} {pc : Nat} {L : List (Option Value)} {st : List Value} {σ : Wd} {cells slots : Nat}
/-- an array is what it holds at its places -/
theorem z_cell {o : Nat} {c c' : pCell} (ho : σ o = some c) (hc : ∀ D dA ad H, va_at D vwCl (ad o, pa dA ad c) H → va_at D vwCl (ad o, pa dA ad c') H) (hcl : clC σ c → clC σ c') (k : T y cc nL ret hh R Q QX pc L st (up σ o c') cells slots) (hf : fo c = false := by rfl) (hf' : fo c' = false := by rfl) : T y cc nL ret hh R Q QX pc L st σ cells slots := by
  intro l p e s m args below meth c9 C D dA ad0 σ0 K ad H locs ls S hS hl hL hst
  exact k l p e s m args below meth c9 C D dA ad0 σ0 K ad H locs ls (S.put (nf_of ho hf) (hcl (S.1.2.2 o c ho)) (hc D dA ad H ((S.1.1 o c ho).va hf)) (fun _ _ => rfl) hf') hS hl (fun i u hu => up_in (hL i u hu)) (up_clS hst)
theorem z_arrI {o n : Nat} {f : Nat → Int} (g : Nat → Int) (ho : σ o = some (AI n f)) (h : ∀ j, j < n → f j = g j) (k : T y cc nL ret hh R Q QX pc L st (up σ o (AI n g)) cells slots) : T y cc nL ret hh R Q QX pc L st σ cells slots :=
  z_cell (c' := AI n g) ho (fun D dA ad H hv => by
    have hv : H[ad o]? = some (arrV (dA 0) n (fun q => .int (iI (f q)))) := hv
    show H[ad o]? = some (arrV (dA 0) n (fun q => .int (iI (g q))))
    rw [hv, arrV_congr (fun j hj => by rw [h j hj])]) (fun _ => trivial) k
theorem z_arrZ {o n : Nat} {f : Nat → Bool} (g : Nat → Bool) (ho : σ o = some (AZ n f)) (h : ∀ j, j < n → f j = g j) (k : T y cc nL ret hh R Q QX pc L st (up σ o (AZ n g)) cells slots) : T y cc nL ret hh R Q QX pc L st σ cells slots :=
  z_cell (c' := AZ n g) ho (fun D dA ad H hv => by
    have hv : H[ad o]? = some (arrV (dA 2) n (fun q => .int (iI (bI (f q))))) := hv
    show H[ad o]? = some (arrV (dA 2) n (fun q => .int (iI (bI (g q)))))
    rw [hv, arrV_congr (fun j hj => by rw [h j hj])]) (fun _ => trivial) k
theorem z_arrL {o n : Nat} {f : Nat → Nat} (g : Nat → Nat) (ho : σ o = some (AL n f)) (h : ∀ j, j < n → f j = g j) (k : T y cc nL ret hh R Q QX pc L st (up σ o (AL n g)) cells slots) : T y cc nL ret hh R Q QX pc L st σ cells slots :=
  z_cell (c' := AL n g) ho (fun D dA ad H hv => by
    have hv : H[ad o]? = some (arrV (dA 1) n (fun q => .long (lN (f q)))) := hv
    show H[ad o]? = some (arrV (dA 1) n (fun q => .long (lN (g q))))
    rw [hv, arrV_congr (fun j hj => by rw [h j hj])]) (fun _ => trivial) k
end Z1
theorem up_step {α : Type} (a b : Nat → α) (k : Nat) : va_up (fun j => if j < k then a j else b j) k (a k) = fun j => if j < k + 1 then a j else b j := by
  funext j
  by_cases hj : j = k
  · subst hj
    rw [va_up_self]
    show a j = if j < j + 1 then a j else b j
    rw [if_pos (Nat.lt_succ_self j)]
  · rw [va_up_ne _ _ hj]
    show (if j < k then a j else b j) = if j < k + 1 then a j else b j
    by_cases hj2 : j < k
    · rw [if_pos hj2, if_pos (by omega)]
    · rw [if_neg hj2, if_neg (by omega)]
theorem up_step0 {α : Type} (a b : Nat → α) : (fun j => if j < 0 then a j else b j) = b := funext fun j => if_neg (Nat.not_lt_zero j)
/-- a loop that counts up to N -/
theorem up_to {P : Nat → Prop} (N : Nat) (hN : P N) (hs : ∀ k, k < N → P (k + 1) → P k) : ∀ k, k ≤ N → P k := by
  intro k hk
  obtain ⟨d, hd⟩ : ∃ d, d = N - k := ⟨_, rfl⟩
  induction d generalizing k with
  | zero => have : k = N := by omega
            subst this; exact hN
  | succ d ih => exact hs k (by omega) (ih (k + 1) (by omega) (by omega))
/-! the JDK's own -/
theorem Ct.introF {y : MethodName} {cc : ByteArray} {nL : Nat} {ret : Option FieldType} {R : Room} {av : List Value} {σ : Wd} {Q : Option Value → Wd → Prop} {QX : String → Wd → Prop} (hy : plainFor y = true) (hlen : (lent av).length ≤ nL) (h : T y cc nL ret [] R Q QX 0 (lent0 nL av) [] σ 0 0) : Ct y cc nL ret R av σ Q QX := by
  intro l hl D dA ad sz
  refine MetFree.of_bodySF (code := cc) (maxLocals := nL) (ret := ret) hy ?_ ?_
  · intro args s m h hn
    obtain ⟨meth, c, h1, h2, h3, h4, h5, h6, -, -⟩ := Cond.code_spec hn (atoms_spec (ws := Cond.code y cc nL ret :: WT) h _ List.mem_cons_self)
    exact ⟨meth, c, h1, h2, h3, h4, h5, h6⟩
  · intro p e s m args below meth c s₁ B hml hv _
    have ht : ∀ x ∈ c.exceptionTable.toList, False := by
      obtain ⟨meth9, c9, h1, h2, -, -, -, -, h7, -⟩ := Cond.code_spec B.named (atoms_spec (ws := Cond.code y cc nL ret :: WT) B.pre _ List.mem_cons_self)
      cases Option.some.inj (h1.symm.trans B.method)
      cases Option.some.inj (h2.symm.trans (Stand.of_body B).code)
      intro x hx
      rw [Array.isEmpty_iff.mp h7] at hx
      cases hx
    obtain ⟨rfl, hsz, hP, hcl, hK⟩ := hv
    subst hsz
    have hts := atoms_spec (ws := Cond.code y cc nL ret :: WT) B.pre
    have hown : s.vm.findClass y.cls = some m.cls := findClass_of_methodNamed B.named
    have hnm : meth.name = y.name := (name_of_methodNamed B.named B.method).1
    have hent := lv_entry (av.map (vmv ad)) (n := nL) (by rw [lent_len]; exact hlen)
    rw [lg_entry_eq]
    generalize (lg_sl (av.map (vmv ad)) ++ List.replicate (nL - (lg_sl (av.map (vmv ad))).length) Slot.unset).toArray = ls at hent ⊢
    have htab : c.exceptionTable.toList = tableOf [] := List.eq_nil_iff_forall_not_mem.mpr ht
    have hh0 : s₁.heap = s.heap := by rw [B.state]; rfl
    obtain ⟨t, a1, o, b1, b2, b3⟩ := h l p e s m _ below meth c ⟨B.exec, B.bytes, hml, B.returns, B.notSynchronized, hnm, hown, fun w hw => hts w (List.mem_cons_of_mem _ hw), htab, hl⟩ D dA ad σ hK ad s.heap [] ls ⟨hP, fun n hn => ⟨hn, rfl⟩, fun n hn => Or.inl ⟨n, hn, rfl⟩⟩ va_S.rf ⟨hent.1, hent.2.1, fun i v hi => hent.2.2 _ (lent_args ad av i 0 v (lget_app_none hi))⟩ (fun i v hi => hcl v (lget_mem (σ := σ) (lget_app_none hi))) (fun v hv => by cases hv) s₁ hh0 (Stand.of_body B)
    exact ⟨t, o, a1, b1, b2, b3⟩
theorem k_abs (a : Int) (ha : -2147483647 ≤ a ∧ a < 2147483648) (σ : Wd) : KJ9_abs_0f7a4 [.int (iI a)] σ (Rt (some (.int (iI (if a < 0 then -a else a)))) σ) NX := by
  refine Ct.introF (by decide +kernel) (Nat.le_of_ble_eq_true rfl) ?_
  refine z_iload_n dJ9_abs_0f7a4_0 rfl ?_
  refine i_if_ge (tgt := 9) dJ9_abs_0f7a4_1 (by decide) (by omega) (fun h1 => ?_) (fun h1 => ?_)
  · skip
    rw [if_neg (by omega)]
    refine z_iload_n dJ9_abs_0f7a4_9 rfl ?_
    exact i_iret dJ9_abs_0f7a4_10 rfl (by decide) (by decide) rfl
  · skip
    rw [if_pos (by omega)]
    refine z_iload_n dJ9_abs_0f7a4_4 rfl ?_
    refine i_ineg dJ9_abs_0f7a4_5 ?_
    refine z_goto (tgt := 10) dJ9_abs_0f7a4_6 (by decide) ?_
    exact i_iret dJ9_abs_0f7a4_10 rfl (by decide) (by decide) rfl
theorem k_max (a b : Int) (ha : -2147483648 ≤ a ∧ a < 2147483648) (hb : -2147483648 ≤ b ∧ b < 2147483648) (σ : Wd) : KJ9_max_7cf53 [.int (iI a), .int (iI b)] σ (Rt (some (.int (iI (if a < b then b else a)))) σ) NX := by
  refine Ct.introF (by decide +kernel) (Nat.le_of_ble_eq_true rfl) ?_
  refine z_iload_n dJ9_max_7cf53_0 rfl ?_
  refine z_iload_n dJ9_max_7cf53_1 rfl ?_
  refine i_icmp_lt (tgt := 9) dJ9_max_7cf53_2 (by decide) (by omega) (by omega) (fun h1 => ?_) (fun h1 => ?_)
  · skip
    rw [if_pos h1]
    refine z_iload_n dJ9_max_7cf53_9 rfl ?_
    exact i_iret dJ9_max_7cf53_10 rfl (by decide) (by decide) rfl
  · skip
    rw [if_neg (by omega)]
    refine z_iload_n dJ9_max_7cf53_5 rfl ?_
    refine z_goto (tgt := 10) dJ9_max_7cf53_6 (by decide) ?_
    exact i_iret dJ9_max_7cf53_10 rfl (by decide) (by decide) rfl
theorem k_min (a b : Int) (ha : -2147483648 ≤ a ∧ a < 2147483648) (hb : -2147483648 ≤ b ∧ b < 2147483648) (σ : Wd) : KJ9_min_7cf53 [.int (iI a), .int (iI b)] σ (Rt (some (.int (iI (if b < a then b else a)))) σ) NX := by
  refine Ct.introF (by decide +kernel) (Nat.le_of_ble_eq_true rfl) ?_
  refine z_iload_n dJ9_min_7cf53_0 rfl ?_
  refine z_iload_n dJ9_min_7cf53_1 rfl ?_
  refine i_icmp_gt (tgt := 9) dJ9_min_7cf53_2 (by decide) (by omega) (by omega) (fun h1 => ?_) (fun h1 => ?_)
  · skip
    rw [if_pos h1]
    refine z_iload_n dJ9_min_7cf53_9 rfl ?_
    exact i_iret dJ9_min_7cf53_10 rfl (by decide) (by decide) rfl
  · skip
    rw [if_neg (by omega)]
    refine z_iload_n dJ9_min_7cf53_5 rfl ?_
    refine z_goto (tgt := 10) dJ9_min_7cf53_6 (by decide) ?_
    exact i_iret dJ9_min_7cf53_10 rfl (by decide) (by decide) rfl
theorem xor_neg {a m : Int} (ha : -2147483648 ≤ a ∧ a < 2147483648) (hm : 0 < m ∧ m < 2147483648) : 0 ≤ iI a ^^^ iI m ↔ 0 ≤ a := by
  have h1 : ∀ x : Int32, 0 ≤ x ↔ x.toBitVec.msb = false := fun x => by
    rw [Int32.le_iff_toInt_le, Int32.toInt_zero]
    have : x.toInt = x.toBitVec.toInt := rfl
    rw [this]
    rw [BitVec.msb_eq_toInt, decide_eq_false_iff_not]
    omega
  have ha0 : 0 ≤ iI a ↔ 0 ≤ a := by rw [← iI_0, iI_le (by omega) ha]
  have hm0 : (iI m).toBitVec.msb = false := (h1 _).mp (by rw [← iI_0, iI_le (by omega) (by omega)]; omega)
  rw [h1, Int32.toBitVec_xor, BitVec.msb_xor, hm0, Bool.xor_false, ← h1, ha0]
theorem k_floorMod (a m : Int) (ha : -2147483647 ≤ a ∧ a < 2147483648) (hm : 0 < m ∧ m < 1000) (σ : Wd) : KJ9_floorMod_7cf53 [.int (iI a), .int (iI m)] σ (Rt (some (.int (iI (a % m)))) σ) NX := by
  refine Ct.introF (by decide +kernel) (Nat.le_of_ble_eq_true rfl) ?_
  have e1 : a.tmod m = if 0 ≤ a ∨ m ∣ a then a % m else a % m - m := by
    rw [Int.tmod_eq_emod]
    split
    · omega
    · have : (m.natAbs : Int) = m := by omega
      omega
  have e2 := Int.emod_nonneg a (show m ≠ 0 by omega)
  have e3 := Int.emod_lt_of_pos a hm.1
  refine z_iload_n dJ9_floorMod_7cf53_0 rfl ?_
  refine z_iload_n dJ9_floorMod_7cf53_1 rfl ?_
  refine i_irem dJ9_floorMod_7cf53_2 (by omega) (by omega) (by omega) ?_
  refine z_istore_n dJ9_floorMod_7cf53_3 (by decide) ?_
  refine z_iload_n dJ9_floorMod_7cf53_4 rfl ?_
  refine z_iload_n dJ9_floorMod_7cf53_5 rfl ?_
  refine z_ixor dJ9_floorMod_7cf53_6 ?_
  refine z_if_ge (tgt := 18) dJ9_floorMod_7cf53_7 (by decide) (fun h1 => ?_) (fun h1 => ?_)
  · skip
    have h1 := (xor_neg (by omega) (by omega)).mp h1
    refine z_iload_n dJ9_floorMod_7cf53_18 rfl ?_
    refine z_eqi (iI (a % m)) (by rw [e1, if_pos (Or.inl h1)]) ?_
    exact i_iret dJ9_floorMod_7cf53_19 rfl (by decide) (by decide) rfl
  · skip
    have h1 : ¬ 0 ≤ a := fun q => h1 ((xor_neg (by omega) (by omega)).mpr q)
    refine z_iload_n dJ9_floorMod_7cf53_10 rfl ?_
    refine i_if_eq (tgt := 18) dJ9_floorMod_7cf53_11 (by decide) (by rw [e1]; split <;> omega) (fun h2 => ?_) (fun h2 => ?_)
    · skip
      refine z_iload_n dJ9_floorMod_7cf53_18 rfl ?_
      refine z_eqi (iI (a % m)) ?_ ?_
      · rw [h2]
        congr 1
        rw [e1] at h2
        split at h2
        · omega
        · omega
      exact i_iret dJ9_floorMod_7cf53_19 rfl (by decide) (by decide) rfl
    · skip
      refine z_iload_n dJ9_floorMod_7cf53_14 rfl ?_
      refine z_iload_n dJ9_floorMod_7cf53_15 rfl ?_
      refine i_iadd dJ9_floorMod_7cf53_16 ?_
      refine z_eqi (iI (a % m)) ?_ ?_
      · congr 1
        rw [e1] at h2 ⊢
        by_cases h3 : m ∣ a
        · rw [if_pos (Or.inr h3)] at h2
          exact absurd (Int.emod_eq_zero_of_dvd h3) h2
        · rw [if_neg (fun q => q.elim h1 h3)]
          omega
      exact i_iret dJ9_floorMod_7cf53_17 rfl (by decide) (by decide) rfl
theorem k_fill (o n : Nat) (f : Nat → Int) (v : Int) (hn : n < 100000) (σ : Wd) (ho : σ o = some (AI n f)) : KJ7_fill_53178 [.ref o, .int (iI v)] σ (Rt none (up σ o (AI n (fun _ => v)))) NX := by
  refine Ct.intro (by decide) (Nat.le_of_ble_eq_true rfl) ?_
  refine i_iconst dJ7_fill_53178_0 rfl ?_
  refine z_istore_n dJ7_fill_53178_1 (by decide) ?_
  refine z_aload_n dJ7_fill_53178_2 rfl ?_
  refine i_alen dJ7_fill_53178_3 (ho) (by decide) ?_
  refine z_istore_n dJ7_fill_53178_4 (by decide) ?_
  have H : ∀ k, k ≤ n → PJ7_fill_53178 (Rt none (up σ o (AI n (fun _ => v)))) NX 5 [some (.ref o), some (.int (iI v)), some (.int (iI k)), some (.int (iI n))] [] (up σ o (AI n (fun j => if j < k then v else f j))) 0 0 := by
    refine up_to n ?_ ?_
    · skip
      refine z_iload_n dJ7_fill_53178_5 rfl ?_
      refine z_iload_n dJ7_fill_53178_6 rfl ?_
      refine i_icmp_ge (tgt := 20) dJ7_fill_53178_7 (by decide) (by omega) (by omega) (fun h1 => ?_) (fun h1 => ?_)
      · skip
        refine z_arrI (fun _ => v) (up_self _ _ _) (fun j hj => by rw [if_pos hj]) ?_
        exact i_vret dJ7_fill_53178_20 rfl (by decide) (by decide) (up_up _ _ _ _)
      · skip
        omega
    · intro k hk ih
      refine z_iload_n dJ7_fill_53178_5 rfl ?_
      refine z_iload_n dJ7_fill_53178_6 rfl ?_
      refine i_icmp_ge (tgt := 20) dJ7_fill_53178_7 (by decide) (by omega) (by omega) (fun h1 => ?_) (fun h1 => ?_)
      · skip
        omega
      · skip
        refine z_aload_n dJ7_fill_53178_10 rfl ?_
        refine z_iload_n dJ7_fill_53178_11 rfl ?_
        refine z_iload_n dJ7_fill_53178_12 rfl ?_
        refine i_iast dJ7_fill_53178_13 (up_self _ _ _) k rfl hk ?_
        refine i_iinc dJ7_fill_53178_14 rfl (by decide) ?_
        refine z_goto (tgt := 5) dJ7_fill_53178_17 (by decide) ?_
        refine z_eqw ?_ ih
        rw [up_up]
        rw [up_step (fun _ => v) f k]
  refine z_eqw ?_ (H 0 (Nat.zero_le _))
  rw [show (fun j => if j < 0 then v else f j) = f from funext fun j => if_neg (Nat.not_lt_zero j)]
  exact (up_id ho).symm

