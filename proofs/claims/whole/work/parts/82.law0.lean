abbrev RLw : Room := { frames := 11, cells := 601024, slots := 7293033, locals := 432 }
def QL : Option Value → Wd → Prop := fun r _ => r = some (.int (iI 1))
abbrev TL : Nat → List (Option Value) → List Value → Wd → Nat → Nat → Prop := T yL_law cL_law 7 (some .boolean) [] RLw QL NX
abbrev LL (k : Nat) (o5 o6 : Option Value) : List (Option Value) := [some (.ref 140), some (.ref 0), some (.ref 100), some (.ref 130), some (.int (iI ((4 * k : Nat) : Int))), o5, o6]
section XA
variable {y : MethodName} {cc : ByteArray} {nL : Nat} {ret : Option FieldType} {hh : List (Nat × Nat × Nat × Nat)} {R : Room} {Q : Option Value → Wd → Prop} {QX : String → Wd → Prop} {pc : Nat} {L : List (Option Value)} {st : List Value} {σ : Wd} {cells slots : Nat}
theorem i_xald {o n : Nat} {sc : Nat → Int} {i : Int} (d : decode cc pc = .ok (.iaload, 1)) (ho : σ o = some (foI n (fun j => iI (sc j)))) (j : Nat) (hi : i = j) (hj : j < n) (hn : n < 2147483648) (k : T y cc nL ret hh R Q QX (pc + 1) L (.int (iI (sc j)) :: st) σ cells slots) : T y cc nL ret hh R Q QX pc L (.int (iI i) :: .ref o :: st) σ cells slots := z_xald d ho j (by rw [hi]; exact iI_nat j) hj hn k
theorem i_xlen {o n : Nat} {f : Nat → Int32} (d : decode cc pc = .ok (.arraylength, 1)) (ho : σ o = some (foI n f)) (k : T y cc nL ret hh R Q QX (pc + 1) L (.int (iI (n : Int)) :: st) σ cells slots) : T y cc nL ret hh R Q QX pc L (.ref o :: st) σ cells slots := z_xlen d ho (iI_nat n).symm k
end XA
def mk (σ : Wd) : Nat := match σ 70 with
  | none => 0
  | some _ => 1
theorem mk_n {σ : Wd} (h : σ 70 = none) : mk σ = 0 := by unfold mk; rw [h]
theorem mk_s {σ : Wd} (h : σ 70 ≠ none) : mk σ = 1 := by
  unfold mk
  cases e : σ 70 with
  | none => exact absurd e h
  | some c => rfl
theorem mk_le (σ : Wd) : mk σ ≤ 1 := by
  by_cases h : σ 70 = none
  · rw [mk_n h]; omega
  · rw [mk_s h]; omega
theorem mk_mo {σ u : Wd} (h : σ 70 ≠ none → u 70 ≠ none) : mk σ ≤ mk u := by
  by_cases h0 : σ 70 = none
  · rw [mk_n h0]; omega
  · rw [mk_s h0, mk_s (h h0)]; omega
def CB (k : Nat) (σ : Wd) (c s : Nat) : Prop := c ≤ 100 + 2 * k + 7 * mk σ ∧ s ≤ 40000 + 12 * k + 29215 * mk σ
theorem CB.lim {k : Nat} {σ : Wd} {c s : Nat} (h : CB k σ c s) (hk : k ≤ 512) : c ≤ 2000 ∧ s ≤ 80000 := by
  have := mk_le σ
  have := h.1
  have := h.2
  omega
theorem CB.step {k : Nat} {σ v : Wd} {c s c' s' : Nat} (h : CB k σ c s) (hv : σ 70 ≠ none → v 70 ≠ none) (hc : c' ≤ c + 2) (hs : s' ≤ s + 12) : CB (k + 1) v c' s' := by
  have := mk_mo hv
  have h1 := h.1
  have h2 := h.2
  constructor
  · omega
  · omega
theorem CB.big {k : Nat} {σ v : Wd} {c s c' s' : Nat} (h : CB k σ c s) (h0 : σ 70 = none) (hv : v 70 ≠ none) (hc : c' ≤ c + 7) (hs : s' ≤ s + 29215) : CB (k + 1) v c' s' := by
  have h1 := h.1
  have h2 := h.2
  rw [mk_n h0] at h1 h2
  constructor
  · rw [mk_s hv]; omega
  · rw [mk_s hv]; omega
/-- the law's loop: the class and the reference stand for the same state -/
def LI (n : Nat) (sc : Nat → Int) (σ : Wd) (a : AS) : Prop := DK σ a ∧ (∃ t, MD σ a t) ∧ VL a ∧ (∃ g, σ 130 = some (aJ 1 g)) ∧ σ 140 = some (foI n (fun j => iI (sc j)))
theorem LI.step {n : Nat} {sc : Nat → Int} {σ u v : Wd} {a' : AS} {t : Int} (h : σ 140 = some (foI n (fun j => iI (sc j)))) (hD : DK u a') (hF : FW σ u) (h130 : ∃ g, u 130 = some (aJ 1 g)) (hM : MD v a' t) (hG : F2 u v) (hV : VL a') : LI n sc v a' :=
  ⟨hD.fr (fun q hq => hG q (Or.inl hq)), ⟨t, hM⟩, hV, h130.imp fun g hg => (hG 130 (Or.inr (by decide))).trans hg, (hG 140 (Or.inr (by decide))).trans ((hF.1 140 (by decide) (by decide)).trans h)⟩
theorem F1.w {σ u : Wd} (h : F1 σ u) : FW σ u := ⟨fun q h1 _ => h.1 q h1, h.2⟩
theorem s70 {σ u v : Wd} (hF : FW σ u) (hG : F2 u v) : σ 70 ≠ none → v 70 ≠ none := fun h => by rw [hG 70 (Or.inl (by decide))]; exact hF.2 h
theorem MD.o {σ : Wd} {a : AS} {t : Int} (h : MD σ a t) : ∃ fs, σ 100 = some (.inr (6, fs)) := by
  obtain ⟨tr, cfM, th, agf, no, n2, crs, cr, tb, gd, wk, h0, _⟩ := h
  exact ⟨_, h0⟩
theorem MD.w {σ u : Wd} {a : AS} {t : Int} (h : MD σ a t) (hF : FW σ u) : MD u a t := h.fr (fun q h1 h2 => hF.1 q h1 (by omega))
theorem lc_self (x : Int64) : lg_cmp x x = 0 := by unfold lg_cmp; simp
theorem lc_0 : lg_cmp (iI (bI false)).toInt64 (lN 0) = 0 := by decide +kernel
theorem lc_1 : lg_cmp (iI (bI true)).toInt64 (lN 1) = 0 := by decide +kernel
def KN (n : Nat) (sc : Nat → Int) (k : Nat) : Prop := ∀ (a : AS) (u : Wd) (x5 x6 : Option Value) (c s : Nat), LI n sc u a → CB (k + 1) u c s → TL 1226 (LL k x5 x6) [] u c s
theorem and31 (x : Int32) : ∃ d : Nat, d < 32 ∧ (x &&& iI 31) = iI (d : Int) := by
  obtain ⟨n, hn, rfl⟩ := wb_of32 x
  refine ⟨n % 32, Nat.mod_lt _ (by decide), ?_⟩
  rw [iI_nat, show iI 31 = nI 31 from rfl, nx_and, show n &&& 31 = n % 32 from Nat.and_two_pow_sub_one_eq_mod n 5]
theorem tkN_t {nc : Nat} {cp : Bool} (h : takN nc cp = true) : cp = false ∧ nc < 20 := by
  cases cp with
  | true => cases h
  | false => exact ⟨rfl, Nat.le_of_ble_eq_true h⟩
theorem tkA_t {nc ac : Nat} {cp : Bool} (h : takA nc ac cp = true) : cp = false ∧ nc < 20 ∧ ac < 5 := by
  unfold takA at h
  have h1 := (Bool.and_eq_true _ _).mp h
  have h2 := tkN_t h1.1
  exact ⟨h2.1, h2.2, Nat.le_of_ble_eq_true h1.2⟩
section VLS
variable {a : AS}
theorem vl_coef (hV : VL a) (l v : Int) : VL (if cdCoef l v = 0 then oCoef a l.toNat v else a) := by
  split
  · rename_i h; unfold cdCoef at h; split at h
    · rename_i h1; exact vCoef hV h1.2
    · cases h
  · exact hV
theorem vl_sum (hV : VL a) (c : Int) : VL (if cdSum a c = 0 then oAtom a 0 c else a) := by
  split
  · rename_i h; unfold cdSum at h; split at h
    · rename_i h1; split at h
      · rename_i h2; have h3 := tkA_t h2; exact vAtom hV h3.2.1 h3.2.2 h3.1 (Or.inl ⟨rfl, h1.1, h1.2⟩)
      · cases h
    · cases h
  · exact hV
theorem vl_mod (hV : VL a) (r m : Int) : VL (if cdMod a r m = 0 then oAtom a m r else a) := by
  split
  · rename_i h; unfold cdMod at h; split at h
    · rename_i h1; split at h
      · rename_i h2; have h3 := tkA_t h2; exact vAtom hV h3.2.1 h3.2.2 h3.1 (Or.inr ⟨h1.1.1, h1.1.2, h1.2.1, h1.2.2⟩)
      · cases h
    · cases h
  · exact hV
theorem vl_comb (hV : VL a) (o l r : Int) : VL (if cdComb a o l r = 0 then oNode a o l r else a) := by
  split
  · rename_i h; unfold cdComb at h; split at h
    · rename_i h1; split at h
      · rename_i h2; have h3 := tkN_t h2; exact vNode hV h3.2 h3.1 h1.1 h1.2.1 (fun q => h1.2.2.resolve_left (by omega))
      · cases h
    · cases h
  · exact hV
theorem vl_comp (hV : VL a) : VL (if cdComp a = 0 then oComp a else a) := by
  split
  · rename_i h; unfold cdComp at h; split at h
    · rename_i h1; exact vComp hV h1.2.1
    · cases h
  · exact hV
theorem vl_add (hV : VL a) (l n : Int) : VL (if cdAdd a l n = 0 then oAdd a l.toNat n.toNat else a) := by
  split
  · rename_i h; unfold cdAdd at h; split at h
    · rename_i h1; split at h
      · rename_i h2; exact vAdd hV h2.1 (by omega) (by omega)
      · cases h
    · cases h
  · exact hV
theorem vl_meet (hV : VL a) (i j : Int) : VL (if cdMeet a i j = 0 then oMeet a i.toNat j.toNat else a) := by
  split
  · rename_i h; unfold cdMeet at h; split at h
    · cases h
    · split at h
      · rename_i h2; exact vMeet hV (by omega) (by omega)
      · cases h
  · exact hV
theorem vl_sweep (hV : VL a) (t : Int) : VL (if cdSweep t = 0 then oSweep a t.toNat else a) := by
  split
  · exact vSweep hV
  · exact hV
theorem vl_expl (hV : VL a) (l : Int) : VL (if cdExpl a l = 0 then oExpl a l.toNat else a) := by
  split
  · rename_i h; unfold cdExpl at h; split at h
    · rename_i h1; split at h
      · rename_i h2; exact vExpl hV (by omega) h2
      · cases h
    · cases h
  · exact hV
theorem vl_same {c : Nat} (hV : VL a) : VL (if c = 0 then a else a) := by split <;> exact hV
theorem l2_coef (l v : Int) : cdCoef l v ≤ 2 := by unfold cdCoef; split <;> omega
theorem l2_sum (c : Int) : cdSum a c ≤ 2 := by unfold cdSum; split <;> (try split) <;> omega
theorem l2_mod (r m : Int) : cdMod a r m ≤ 2 := by unfold cdMod; split <;> (try split) <;> omega
theorem l2_comb (o l r : Int) : cdComb a o l r ≤ 2 := by unfold cdComb; split <;> (try split) <;> omega
theorem l2_comp : cdComp a ≤ 2 := by unfold cdComp; split <;> omega
theorem l2_add (l n : Int) : cdAdd a l n ≤ 2 := by unfold cdAdd; split <;> (try split) <;> omega
theorem l2_meet (i j : Int) : cdMeet a i j ≤ 2 := by unfold cdMeet; split <;> (try split) <;> omega
theorem l2_sweep (t : Int) : cdSweep t ≤ 2 := by unfold cdSweep; split <;> omega
theorem l2_out (i : Int) : cdOut a i ≤ 2 := by unfold cdOut; split <;> omega
theorem l2_state (i b w : Int) : cdState a i b w ≤ 2 := by unfold cdState; split <;> omega
theorem l2_truth : cdTruth a ≤ 2 := by unfold cdTruth; split <;> omega
theorem l2_rec : cdRec a ≤ 2 := by unfold cdRec; split <;> omega
theorem l2_expl (l : Int) : cdExpl a l ≤ 2 := by unfold cdExpl; split <;> (try split) <;> omega
theorem l2_rule (b k w : Int) (rn : Nat) : cdRule a b k w rn ≤ 2 := by
  have := cdTab_le (a := a) b w 4
  unfold cdRule; split <;> (try split) <;> omega
theorem l2_kind (b k w : Int) (n : Nat) : cdKind a b k w n ≤ 2 := by
  have := cdTab_le (a := a) b w 3
  unfold cdKind; split <;> (try split) <;> omega
end VLS
theorem DK.en {σ : Wd} {a : AS} (h : DK σ a) (hV : VL a) : ∃ (N : Nat → Nat) (xs : Nat → Nat → St), EN a N xs ∧ ∀ b, a.ac ≤ b → N b = 0 := by
  obtain ⟨rc, S, CD, NB, FR, fa, f, s, sr, _, _, _, _, _, _, _, _, _, hT, _⟩ := h
  by_cases hc : a.cp = true
  · obtain ⟨N, XS, hT⟩ := hT hc
    have hE := hT.en hV.ok
    refine ⟨fun b => if b < a.ac then N b else 0, XS, fun _ b hb => ?_, fun b hb => if_neg (by omega)⟩
    show En _ _ _ _ (if b < a.ac then N b else 0) _
    rw [if_pos hb]
    exact hE b hb
  · exact ⟨fun _ => 0, fun _ _ => (false, 0, false), fun q => absurd q hc, fun _ _ => rfl⟩
theorem cnt_at (fd : Nat → Bool) (r : Nat) : ∀ n, r < cntF fd n → ∃ j, j < n ∧ fd j = true ∧ cntF fd j = r
  | 0, h => absurd h (Nat.not_lt_zero _)
  | n + 1, h => by
    by_cases q : r < cntF fd n
    · obtain ⟨j, h1, h2, h3⟩ := cnt_at fd r n q
      exact ⟨j, by omega, h2, h3⟩
    · cases hf : fd n with
      | true => rw [cnt_t hf] at h; exact ⟨n, by omega, hf, by omega⟩
      | false => rw [cnt_f hf] at h; exact absurd h q
theorem rsum_at (R : Nat → Nat → Bool) (n k : Nat) : ∀ i, k < rsum R n i → ∃ x, x < i ∧ rsum R n x ≤ k ∧ k < rsum R n (x + 1)
  | 0, h => absurd h (Nat.not_lt_zero _)
  | i + 1, h => by
    by_cases q : k < rsum R n i
    · obtain ⟨x, h1, h2⟩ := rsum_at R n k i q
      exact ⟨x, by omega, h2⟩
    · exact ⟨i, by omega, by omega, h⟩
theorem rl_ex {m e b : Int} {cf : Nat → Int} {n : Nat} {xs : Nat → St} (h : En m e b cf n xs) {k : Nat} (hk : k < rnN m e b n xs) : ∃ i j p q, RLx m e b n xs k i j p q := by
  obtain ⟨i, hi, h1, h2⟩ := rsum_at (Ru m e b xs) n k n hk
  have h2' : k < rsum (Ru m e b xs) n i + cntF (Ru m e b xs i) n := h2
  obtain ⟨j, hj, h3, h4⟩ := cnt_at (Ru m e b xs i) (k - rsum (Ru m e b xs) n i) n (by omega)
  have hr := Rch_m (h.1 i hi) (h.1 j hj)
  obtain ⟨p, hp, e1⟩ := h.2.1 _ hr.1
  obtain ⟨q, hq, e2⟩ := h.2.1 _ hr.2
  exact ⟨i, j, p, q, hi, hj, h3, by omega, hp, hq, e1, e2⟩
theorem rl_all {a : AS} {N : Nat → Nat} {xs : Nat → Nat → St} (hE : EN a N xs) (h0 : ∀ b, a.ac ≤ b → N b = 0) (b k : Int) : ∃ i j p q, a.cp = true → 0 ≤ k ∧ k < (rnN (a.M b.toNat) (a.E b.toNat) (a.B b.toNat) (N b.toNat) (xs b.toNat) : Nat) → RLx (a.M b.toNat) (a.E b.toNat) (a.B b.toNat) (N b.toNat) (xs b.toNat) k.toNat i j p q := by
  by_cases hc : a.cp = true
  · by_cases hk : 0 ≤ k ∧ k < (rnN (a.M b.toNat) (a.E b.toNat) (a.B b.toNat) (N b.toNat) (xs b.toNat) : Nat)
    · by_cases hb : b.toNat < a.ac
      · obtain ⟨i, j, p, q, h⟩ := rl_ex (hE hc _ hb) (k := k.toNat) (by omega)
        exact ⟨i, j, p, q, fun _ _ => h⟩
      · rw [h0 _ (by omega)] at hk
        have hz : rnN (a.M b.toNat) (a.E b.toNat) (a.B b.toNat) 0 (xs b.toNat) = 0 := rfl
        rw [hz] at hk
        omega
    · exact ⟨0, 0, 0, 0, fun _ q => absurd q hk⟩
  · exact ⟨0, 0, 0, 0, fun q => absurd q hc⟩

