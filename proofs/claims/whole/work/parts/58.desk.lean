/-! what an atom's states are, in the order of their codes -/
def En (m e b : Int) (cf : Nat → Int) (n : Nat) (xs : Nat → St) : Prop := (∀ k, k < n → Rch m e b cf (xs k)) ∧ (∀ x, Rch m e b cf x → ∃ k, k < n ∧ x = xs k) ∧ (∀ i j, i < j → j < n → mdN (xs i) < mdN (xs j)) ∧ n ≤ 256
noncomputable def rcB (m e b : Int) (cf : Nat → Int) : Nat → Bool := fun s => bP (∃ x, Rch m e b cf x ∧ mdN x = s)
theorem bP_iff {p : Prop} : bP p = true ↔ p := ⟨fun h => Classical.byContradiction fun q => Bool.noConfusion ((bP_f q).symm.trans h), bP_t⟩
theorem rank {f : Nat → Nat} {n : Nat} {P : Nat → Bool} (hf : ∀ i j, i < j → j < n → f i < f j) (hP : ∀ s, P s = true ↔ ∃ k, k < n ∧ f k = s) : ∀ (s k : Nat), (∀ i, i < k → f i < s) → (∀ i, k ≤ i → i < n → s ≤ f i) → k ≤ n → cntF P s = k
  | 0, k, h1, _, _ => by
    by_cases q : k = 0
    · rw [q]; rfl
    · exact absurd (h1 0 (by omega)) (Nat.not_lt_zero _)
  | s + 1, k, h1, h2, h3 => by
    cases e : P s with
    | true =>
      obtain ⟨i, i1, i2⟩ := (hP s).mp e
      have hik : i < k := by
        by_cases q : i < k
        · exact q
        · have := h2 i (by omega) i1; omega
      have hk : k = i + 1 := by
        by_cases q : k = i + 1
        · exact q
        · have := h1 (i + 1) (by omega); have := hf i (i + 1) (by omega) (by omega); omega
      rw [cnt_t e, rank hf hP s i (fun j hj => by have := hf j i hj i1; omega) (fun j hj hn => by
        by_cases q : j = i
        · rw [q]; omega
        · have := hf i j (by omega) hn; omega) (by omega), hk]
    | false =>
      rw [cnt_f e]
      refine rank hf hP s k (fun j hj => ?_) (fun j hj hn => by have := h2 j hj hn; omega) h3
      have := h1 j hj
      by_cases q : f j = s
      · have : P s = true := (hP s).mpr ⟨j, by omega, q⟩
        rw [e] at this; cases this
      · omega
section ENS
variable {m e b : Int} {cf : Nat → Int} {n n' : Nat} {xs xs' : Nat → St}
theorem En.ok (h : En m e b cf n xs) (ha : okA m e b) (hcf : ∀ l, l < 8 → -b ≤ cf l ∧ cf l ≤ b) {k : Nat} (hk : k < n) : okM m b (xs k) := Rch_ok ha hcf (h.1 k hk)
theorem En.P (h : En m e b cf n xs) (s : Nat) : rcB m e b cf s = true ↔ ∃ k, k < n ∧ mdN (xs k) = s := by
  unfold rcB
  rw [bP_iff]
  constructor
  · rintro ⟨x, x1, x2⟩
    obtain ⟨k, k1, k2⟩ := h.2.1 x x1
    exact ⟨k, k1, by rw [← k2]; exact x2⟩
  · rintro ⟨k, k1, k2⟩
    exact ⟨xs k, h.1 k k1, k2⟩
theorem En.rk (h : En m e b cf n xs) {k : Nat} (hk : k < n) : cntF (rcB m e b cf) (mdN (xs k)) = k := rank h.2.2.1 h.P _ k (fun i hi => h.2.2.1 i k hi hk) (fun i hi hn => by
  by_cases q : i = k
  · rw [q]; exact Nat.le_refl _
  · have := h.2.2.1 k i (by omega) hn; omega) (by omega)
theorem En.num (h : En m e b cf n xs) (ha : okA m e b) (hcf : ∀ l, l < 8 → -b ≤ cf l ∧ cf l ≤ b) : cntF (rcB m e b cf) 172 = n := rank h.2.2.1 h.P _ n (fun i hi => mdN_lt (okM_rg ha (h.ok ha hcf hi))) (fun i hi hn => by omega) (Nat.le_refl _)
theorem En.uq (h : En m e b cf n xs) (h' : En m e b cf n' xs') (ha : okA m e b) (hcf : ∀ l, l < 8 → -b ≤ cf l ∧ cf l ≤ b) : n = n' ∧ ∀ k, k < n → xs k = xs' k := by
  refine ⟨(h.num ha hcf).symm.trans (h'.num ha hcf), fun k hk => ?_⟩
  obtain ⟨k', k1, k2⟩ := h'.2.1 _ (h.1 k hk)
  have e1 := h.rk hk
  have e2 := h'.rk k1
  rw [← k2, e1] at e2
  rw [k2, ← e2]
theorem En_Tb {nb cd : Nat → Int} (ha : okA m e b) (hcf : ∀ l, l < 8 → -b ≤ cf l ∧ cf l ≤ b) (h : Tb m e b cf nb cd n xs) : En m e b cf n xs := ⟨fun k hk => (h.1 k hk).1, h.2.1, fun i j hi hj => (cd_md (okM_rg ha (Rch_ok ha hcf (h.1 i (by omega)).1)) (okM_rg ha (Rch_ok ha hcf (h.1 j hj).1))).mp (h.2.2.1 i j hi hj), h.2.2.2⟩
end ENS
/-! THE DESK -/
abbrev IAE : String := "java/lang/IllegalArgumentException"
abbrev ISE : String := "java/lang/IllegalStateException"
abbrev IOE : String := "java/lang/IndexOutOfBoundsException"
def F1 (σ u : Wd) : Prop := (∀ q, 100 ≤ q → u q = σ q) ∧ (σ 70 ≠ none → u 70 ≠ none)
theorem F1.rfl {σ : Wd} : F1 σ σ := ⟨fun _ _ => by trivial, fun h => h⟩
theorem F1.up {σ u : Wd} (h : F1 σ u) {q : Nat} (c : pCell) (hq : q < 100) : F1 σ (up u q c) := ⟨fun p hp => (up_ne _ _ (by omega)).trans (h.1 p hp), fun z => up_dom (h.2 z)⟩
theorem F1.trans {σ u v : Wd} (h : F1 σ u) (k : F1 u v) : F1 σ v := ⟨fun q hq => (k.1 q hq).trans (h.1 q hq), fun z => k.2 (h.2 z)⟩
theorem F1.of {σ u : Wd} (h : ∀ q, 70 ≤ q → u q = σ q) : F1 σ u := ⟨fun q hq => h q (by omega), fun z => by rw [h 70 (by omega)]; exact z⟩
def SL (σ : Wd) (wd fd : Nat) (rf : Nat → Nat) (sl : Nat → Int) (er : Nat → Bool) (nx : Nat → Nat) (f s : Nat) : Prop := σ 70 = some (obS wd fd) ∧ σ 71 = some (AL 18000 rf) ∧ σ 72 = some (AI 8192 sl) ∧ σ 73 = some (AZ 3000 er) ∧ σ 74 = some (AL 6 nx) ∧ σ 75 = some (obM f s)
theorem SL.id {σ : Wd} {wd fd : Nat} {rf : Nat → Nat} {sl : Nat → Int} {er : Nat → Bool} {nx : Nat → Nat} {f s : Nat} (h : SL σ wd fd rf sl er nx f s) : σ = WS σ wd fd rf sl er nx f s := by
  obtain ⟨h0, h1, h2, h3, h4, h5⟩ := h
  unfold WS
  rw [up_id h5, up_id h4, up_id h3, up_id h2, up_id h1, up_id h0]
theorem SL_WS {σ : Wd} {wd fd : Nat} {rf : Nat → Nat} {sl : Nat → Int} {er : Nat → Bool} {nx : Nat → Nat} {f s : Nat} : SL (WS σ wd fd rf sl er nx f s) wd fd rf sl er nx f s := ⟨rfl, rfl, rfl, rfl, rfl, rfl⟩
def SD (σ : Wd) (sr : Value) (ac cnt : Nat) (ex : Option XS) : Prop := (sr = .null ∧ ex = none ∧ ∀ q, 70 ≤ q → q ≤ 75 → σ q = none) ∨ (sr = .ref 70 ∧ ∃ (wd fd : Nat) (rf : Nat → Nat) (sl : Nat → Int) (er : Nat → Bool) (nx : Nat → Nat) (f s : Nat), SL σ wd fd rf sl er nx f s ∧ ∀ x, ex = some x → wd = cnt ∧ fd = x.2 ∧ ∃ tb, SI ac cnt x rf sl tb)
theorem SD.fr {σ u : Wd} {sr : Value} {ac cnt : Nat} {ex : Option XS} (h : SD σ sr ac cnt ex) (hu : ∀ q, 70 ≤ q → q ≤ 75 → u q = σ q) : SD u sr ac cnt ex := by
  rcases h with ⟨h1, h2, h3⟩ | ⟨h1, wd, fd, rf, sl, er, nx, f, s, ⟨g0, g1, g2, g3, g4, g5⟩, h3⟩
  · exact Or.inl ⟨h1, h2, fun q q1 q2 => (hu q q1 q2).trans (h3 q q1 q2)⟩
  · exact Or.inr ⟨h1, wd, fd, rf, sl, er, nx, f, s, ⟨(hu 70 (by omega) (by omega)).trans g0, (hu 71 (by omega) (by omega)).trans g1, (hu 72 (by omega) (by omega)).trans g2, (hu 73 (by omega) (by omega)).trans g3, (hu 74 (by omega) (by omega)).trans g4, (hu 75 (by omega) (by omega)).trans g5⟩, h3⟩
theorem SD.no {σ : Wd} {sr : Value} {ac cnt ac' cnt' : Nat} {ex : Option XS} (h : SD σ sr ac cnt ex) : SD σ sr ac' cnt' none := by
  rcases h with ⟨h1, h2, h3⟩ | ⟨h1, wd, fd, rf, sl, er, nx, f, s, h2, h3⟩
  · exact Or.inl ⟨h1, rfl, h3⟩
  · exact Or.inr ⟨h1, wd, fd, rf, sl, er, nx, f, s, h2, fun x hx => by cases hx⟩
def DKp (σ : Wd) (a : AS) (rc S : Nat → Int) (CD NB FR : Nat → Nat → Int) (fa : Nat → Nat) (f s : Nat) (sr : Value) : Prop := FX σ a.nc a.ac a.cp a.op a.lf rc a.M a.E a.B S a.CF CD NB FR ∧ (∀ k, k < a.nc → a.op k ≠ 2 → rc k = a.rt k) ∧ σ 0 = some (obD sr a.ex.isSome) ∧ σ 2 = some (AI 8 a.pd) ∧ σ 7 = some (obC a.cnt) ∧ σ 8 = some (AL 200 fa) ∧ σ 9 = some (AI 8 a.lt) ∧ σ 10 = some (obM f s) ∧ AG a.ac a.cnt fa a.ag ∧ (a.cp = true → ∃ N XS, TBs a.ac a.M a.E a.B S a.CF CD NB FR N XS) ∧ SD σ sr a.ac a.cnt a.ex
def DK (σ : Wd) (a : AS) : Prop := ∃ (rc S : Nat → Int) (CD NB FR : Nat → Nat → Int) (fa : Nat → Nat) (f s : Nat) (sr : Value), DKp σ a rc S CD NB FR fa f s sr
theorem AT.fr {σ u : Wd} {M E B S : Nat → Int} {CF CD NB FR : Nat → Nat → Int} (h : AT σ M E B S CF CD NB FR) (hu : ∀ q, 20 ≤ q → q < 65 → u q = σ q) : AT u M E B S CF CD NB FR := fun a ha => by
  obtain ⟨g1, g2, g3, g4, g5⟩ := h a ha
  exact ⟨(hu _ (by omega) (by omega)).trans g1, (hu _ (by omega) (by omega)).trans g2, (hu _ (by omega) (by omega)).trans g3, (hu _ (by omega) (by omega)).trans g4, (hu _ (by omega) (by omega)).trans g5⟩
theorem DK.fr {σ u : Wd} {a : AS} (h : DK σ a) (hu : ∀ q, q < 100 → u q = σ q) : DK u a := by
  obtain ⟨rc, S, CD, NB, FR, fa, f, s, sr, ⟨f1, f2, f3, f4, f5, f6⟩, g1, g2, g3, g4, g5, g6, g7, g8, g9, g10⟩ := h
  exact ⟨rc, S, CD, NB, FR, fa, f, s, sr, ⟨(hu 1 (by omega)).trans f1, (hu 3 (by omega)).trans f2, (hu 4 (by omega)).trans f3, (hu 5 (by omega)).trans f4, (hu 6 (by omega)).trans f5, f6.fr (fun q _ q2 => hu q (by omega))⟩, g1, (hu 0 (by omega)).trans g2, (hu 2 (by omega)).trans g3, (hu 7 (by omega)).trans g4, (hu 8 (by omega)).trans g5, (hu 9 (by omega)).trans g6, (hu 10 (by omega)).trans g7, g8, g9, g10.fr (fun q _ q2 => hu q (by omega))⟩
theorem wf_rc {op lf rt rc : Nat → Int} {nc ac : Nat} (h : ∀ k, k < nc → wfN op lf rt ac k) (hr : ∀ k, k < nc → op k ≠ 2 → rc k = rt k) : ∀ k, k < nc → wfN op lf rc ac k := fun k hk => by
  obtain ⟨w1, w2, w3, w4⟩ := h k hk
  exact ⟨w1, w2, w3, fun z => by rw [hr k hk (by omega)]; exact w4 z⟩
theorem ndT_rc {op lf rt rc : Nat → Int} {at' t : Nat → Bool} {k : Nat} (hr : op k ≠ 2 → rc k = rt k) : ndT op lf rc at' t k = ndT op lf rt at' t k := by
  unfold ndT
  by_cases q : op k = 2
  · rw [if_neg (by omega), if_neg (by omega), if_neg (by omega), if_neg (by omega), if_neg (by omega), if_neg (by omega)]
  · rw [hr q]
theorem evN_rc {op lf rt rc : Nat → Int} {at' : Nat → Bool} : ∀ nc, (∀ k, k < nc → op k ≠ 2 → rc k = rt k) → evN op lf rc at' nc = evN op lf rt at' nc
  | 0, _ => rfl
  | k + 1, h => by
    show va_up (evN op lf rc at' k) k (ndT op lf rc at' (evN op lf rc at' k) k) = va_up (evN op lf rt at' k) k (ndT op lf rt at' (evN op lf rt at' k) k)
    rw [evN_rc k (fun i hi => h i (by omega)), ndT_rc (h k (by omega))]
theorem fml_rc {op lf rt rc : Nat → Int} {nc : Nat} (h : ∀ k, k < nc → op k ≠ 2 → rc k = rt k) (at' : Nat → Bool) : fml op lf rc at' nc = fml op lf rt at' nc := by unfold fml; rw [evN_rc nc h]
theorem ucN_rc {op lf rt rc : Nat → Int} {n : Nat} : ∀ nc, (∀ k, k < nc → op k ≠ 2 → rc k = rt k) → ucN op lf rc n nc = ucN op lf rt n nc
  | 0, _ => rfl
  | k + 1, h => by
    rw [uc_s, uc_s, ucN_rc k (fun i hi => h i (by omega))]
    by_cases q : op k = 2
    · rw [if_neg (c := op k < 2 ∧ rc k = n) (by omega), if_neg (c := op k < 2 ∧ rt k = n) (by omega)]
    · rw [h k (by omega) q]
theorem shB_rc {op lf rt rc : Nat → Int} {nc : Nat} (h : ∀ k, k < nc → op k ≠ 2 → rc k = rt k) : shB op lf rc nc = shB op lf rt nc := by
  unfold shB
  rw [allB_congr (p := fun n => Nat.blt (ucN op lf rc n nc) 2) (p' := fun n => Nat.blt (ucN op lf rt n nc) 2) (fun n _ => by rw [ucN_rc nc h])]
/-- an answer, an exception -/
def QO (cd : Nat) (v : Value) (σ : Wd) (a' : AS) : Option Value → Wd → Prop := fun r u => cd = 0 ∧ r = some v ∧ DK u a' ∧ F1 σ u
def QE (cd : Nat) (e1 e2 : String) (σ : Wd) : String → Wd → Prop := fun E u => u = σ ∧ ((cd = 1 ∧ E = e1) ∨ (cd = 2 ∧ E = e2))
def i32 (z : Int) : Prop := -2147483648 ≤ z ∧ z < 2147483648
theorem k_isLetter (σ : Wd) (l : Int) (hl : i32 l) : KX6_isLetter [.int (iI l)] σ (Rt (some (.int (iI (bI (decide (0 ≤ l ∧ l < 8)))))) σ) NX := by
  unfold i32 at hl
  refine Ct.intro (by decide) (Nat.le_of_ble_eq_true rfl) ?_
  refine z_iload_n dX6_isLetter_0 rfl ?_
  refine i_if_lt (tgt := 14) dX6_isLetter_1 (by decide) (by omega) (fun h1 => ?_) (fun h1 => ?_)
  · skip
    refine i_iconst dX6_isLetter_14 rfl ?_
    exact i_rf dX6_isLetter_15 rfl (by decide) (by decide) (decide_eq_false (by omega)) rfl
  · skip
    refine z_iload_n dX6_isLetter_4 rfl ?_
    refine i_bipush dX6_isLetter_5 (by decide) ?_
    refine i_icmp_ge (tgt := 14) dX6_isLetter_7 (by decide) (by omega) (by omega) (fun h2 => ?_) (fun h2 => ?_)
    · skip
      refine i_iconst dX6_isLetter_14 rfl ?_
      exact i_rf dX6_isLetter_15 rfl (by decide) (by decide) (decide_eq_false (by omega)) rfl
    · skip
      refine i_iconst dX6_isLetter_10 rfl ?_
      refine z_goto (tgt := 15) dX6_isLetter_11 (by decide) ?_
      exact i_rt dX6_isLetter_15 rfl (by decide) (by decide) (decide_eq_true (by omega)) rfl
theorem k_isCoefficient (σ : Wd) (l : Int) (hl : i32 l) : KX6_isCoefficient [.int (iI l)] σ (Rt (some (.int (iI (bI (decide (-20 ≤ l ∧ l ≤ 20)))))) σ) NX := by
  unfold i32 at hl
  refine Ct.intro (by decide) (Nat.le_of_ble_eq_true rfl) ?_
  refine z_iload_n dX6_isCoefficient_0 rfl ?_
  refine i_bipush dX6_isCoefficient_1 (by decide) ?_
  refine i_icmp_lt (tgt := 16) dX6_isCoefficient_3 (by decide) (by omega) (by omega) (fun h1 => ?_) (fun h1 => ?_)
  · skip
    refine i_iconst dX6_isCoefficient_16 rfl ?_
    exact i_rf dX6_isCoefficient_17 rfl (by decide) (by decide) (decide_eq_false (by omega)) rfl
  · skip
    refine z_iload_n dX6_isCoefficient_6 rfl ?_
    refine i_bipush dX6_isCoefficient_7 (by decide) ?_
    refine i_icmp_gt (tgt := 16) dX6_isCoefficient_9 (by decide) (by omega) (by omega) (fun h2 => ?_) (fun h2 => ?_)
    · skip
      refine i_iconst dX6_isCoefficient_16 rfl ?_
      exact i_rf dX6_isCoefficient_17 rfl (by decide) (by decide) (decide_eq_false (by omega)) rfl
    · skip
      refine i_iconst dX6_isCoefficient_12 rfl ?_
      refine z_goto (tgt := 17) dX6_isCoefficient_13 (by decide) ?_
      exact i_rt dX6_isCoefficient_17 rfl (by decide) (by decide) (decide_eq_true (by omega)) rfl
theorem k_isFact (σ : Wd) (l n : Int) (hl : i32 l) (hn : i32 n) : KX6_isFact [.int (iI l), .int (iI n)] σ (Rt (some (.int (iI (bI (decide (0 ≤ l ∧ l < n)))))) σ) NX := by
  unfold i32 at hl hn
  refine Ct.intro (by decide) (Nat.le_of_ble_eq_true rfl) ?_
  refine z_iload_n dX6_isFact_0 rfl ?_
  refine i_if_lt (tgt := 13) dX6_isFact_1 (by decide) (by omega) (fun h1 => ?_) (fun h1 => ?_)
  · skip
    refine i_iconst dX6_isFact_13 rfl ?_
    exact i_rf dX6_isFact_14 rfl (by decide) (by decide) (decide_eq_false (by omega)) rfl
  · skip
    refine z_iload_n dX6_isFact_4 rfl ?_
    refine z_iload_n dX6_isFact_5 rfl ?_
    refine i_icmp_ge (tgt := 13) dX6_isFact_6 (by decide) (by omega) (by omega) (fun h2 => ?_) (fun h2 => ?_)
    · skip
      refine i_iconst dX6_isFact_13 rfl ?_
      exact i_rf dX6_isFact_14 rfl (by decide) (by decide) (decide_eq_false (by omega)) rfl
    · skip
      refine i_iconst dX6_isFact_9 rfl ?_
      refine z_goto (tgt := 14) dX6_isFact_10 (by decide) ?_
      exact i_rt dX6_isFact_14 rfl (by decide) (by decide) (decide_eq_true (by omega)) rfl

