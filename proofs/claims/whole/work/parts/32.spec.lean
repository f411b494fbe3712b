/-! WHAT AN ATOM DOES, in numbers: a state is (leads, value, opinion); m the modulus (0: a SUM), e the edge, b the bound -/
abbrev St : Type := Bool × Int × Bool
def clamp (b v : Int) : Int := if v < -b then -b else if b < v then b else v
def red (m v : Int) : Int := if 0 < m then v % m else v
def opn (m e v : Int) : Bool := if 0 < m then decide (v = e) else decide (e ≤ v)
def kpt (m b v : Int) : Int := if 0 < m then v % m else clamp b v
def lft (m b v : Int) : Int := if 0 < m then 0 else v - clamp b v
def mt (m e b : Int) (x y : St) : St × St :=
  if x.1 = false ∧ y.1 = false then (x, y)
  else if x.1 = true then ((true, kpt m b (x.2.1 + y.2.1), opn m e (kpt m b (x.2.1 + y.2.1))), (false, lft m b (x.2.1 + y.2.1), opn m e (kpt m b (x.2.1 + y.2.1))))
  else ((false, lft m b (x.2.1 + y.2.1), opn m e (kpt m b (x.2.1 + y.2.1))), (true, kpt m b (x.2.1 + y.2.1), opn m e (kpt m b (x.2.1 + y.2.1))))
/-- the state with which an agent begins, its coefficient being v -/
def bgn (m e v : Int) : St := (true, red m v, opn m e (red m v))
def cdN (x : St) : Nat := (enc x.1 x.2.1 x.2.2).toNat
def mdN (x : St) : Nat := (86 * bI x.1 + 2 * (x.2.1 + 21) + bI x.2.2).toNat
def rg (x : St) : Prop := -21 ≤ x.2.1 ∧ x.2.1 ≤ 21
def okA (m e b : Int) : Prop := ((m = 0 ∧ -20 ≤ e ∧ e ≤ 20) ∨ (2 ≤ m ∧ m ≤ 16 ∧ 0 ≤ e ∧ e < m)) ∧ 1 ≤ b ∧ b ≤ 21
def okM (m b : Int) (x : St) : Prop := (0 < m → 0 ≤ x.2.1 ∧ x.2.1 < m) ∧ (¬ 0 < m → -b ≤ x.2.1 ∧ x.2.1 ≤ b)
theorem okM_rg {m e b : Int} {x : St} (ha : okA m e b) (h : okM m b x) : rg x := by
  unfold okA at ha
  unfold okM at h
  unfold rg
  by_cases hm : 0 < m
  · have := h.1 hm; omega
  · have := h.2 hm; omega
theorem cdN_i {x : St} (h : rg x) : ((cdN x : Nat) : Int) = enc x.1 x.2.1 x.2.2 := by
  unfold cdN rg at *
  have a := bI_r x.1
  have b := bI_r x.2.2
  unfold enc
  omega
theorem mdN_i {x : St} (h : rg x) : ((mdN x : Nat) : Int) = 86 * bI x.1 + 2 * (x.2.1 + 21) + bI x.2.2 := by
  unfold mdN rg at *
  have a := bI_r x.1
  have b := bI_r x.2.2
  omega
theorem cdN_lt {x : St} (h : rg x) : cdN x < 256 := by
  have e := cdN_i h
  unfold rg at h
  have a := bI_r x.1
  have b := bI_r x.2.2
  unfold enc at e
  omega
theorem mdN_lt {x : St} (h : rg x) : mdN x < 172 := by
  have e := mdN_i h
  unfold rg at h
  have a := bI_r x.1
  have b := bI_r x.2.2
  omega
theorem cdN_l {x : St} (h : rg x) : cdl (cdN x) = x.1 := by
  have e := cdN_i h
  unfold rg at h
  have b := bI_r x.2.2
  unfold enc at e
  unfold cdl
  cases hx : x.1 with
  | true => rw [hx, bI_t] at e; exact Nat.ble_eq.mpr (by omega)
  | false =>
    rw [hx, bI_f] at e
    cases hb : Nat.ble 128 (cdN x) with
    | true => have := Nat.ble_eq.mp hb; omega
    | false => rfl
theorem cdN_o {x : St} (h : rg x) : cdo (cdN x) = x.2.2 := by
  have e := cdN_i h
  unfold rg at h
  have b := bI_r x.1
  unfold enc at e
  unfold cdo
  cases hx : x.2.2 with
  | true =>
    rw [hx, bI_t] at e
    have : cdN x % 2 = 1 := by omega
    rw [this]; rfl
  | false =>
    rw [hx, bI_f] at e
    have : cdN x % 2 = 0 := by omega
    rw [this]; rfl
theorem cdN_v {x : St} (h : rg x) : cdv (cdN x) = x.2.1 := by
  have e := cdN_i h
  unfold rg at h
  unfold cdv
  unfold enc at e
  cases hx : x.1 <;> cases ho : x.2.2 <;> simp only [hx, ho, bI_t, bI_f] at e <;> omega
theorem cdN_inj {x y : St} (hx : rg x) (hy : rg y) (h : cdN x = cdN y) : x = y := by
  have a := cdN_l hx; have b := cdN_v hx; have c := cdN_o hx
  rw [h, cdN_l hy] at a; rw [h, cdN_v hy] at b; rw [h, cdN_o hy] at c
  exact Prod.ext a.symm (Prod.ext b.symm c.symm)
theorem clamp_r {b v : Int} (hb : 0 ≤ b) : -b ≤ clamp b v ∧ clamp b v ≤ b := by
  unfold clamp
  split
  · omega
  · split <;> omega
theorem kpt_ok {m e b v : Int} (ha : okA m e b) : (0 < m → 0 ≤ kpt m b v ∧ kpt m b v < m) ∧ (¬ 0 < m → -b ≤ kpt m b v ∧ kpt m b v ≤ b) := by
  unfold kpt
  refine ⟨fun hm => ?_, fun hm => ?_⟩
  · rw [if_pos hm]
    exact ⟨Int.emod_nonneg _ (by omega), Int.emod_lt_of_pos _ hm⟩
  · rw [if_neg hm]
    exact clamp_r (by unfold okA at ha; omega)
theorem lft_ok {m e b v : Int} (ha : okA m e b) (hv : ¬ 0 < m → -(2 * b) ≤ v ∧ v ≤ 2 * b) : (0 < m → 0 ≤ lft m b v ∧ lft m b v < m) ∧ (¬ 0 < m → -b ≤ lft m b v ∧ lft m b v ≤ b) := by
  unfold lft
  refine ⟨fun hm => ?_, fun hm => ?_⟩
  · rw [if_pos hm]; omega
  · rw [if_neg hm]
    have := hv hm
    unfold okA at ha
    unfold clamp
    split
    · omega
    · split <;> omega
theorem mt_ok {m e b : Int} {x y : St} (ha : okA m e b) (hx : okM m b x) (hy : okM m b y) : okM m b (mt m e b x y).1 ∧ okM m b (mt m e b x y).2 := by
  have hv : ¬ 0 < m → -(2 * b) ≤ x.2.1 + y.2.1 ∧ x.2.1 + y.2.1 ≤ 2 * b := fun hm => by
    have a := hx.2 hm; have c := hy.2 hm; omega
  have h1 := kpt_ok (v := x.2.1 + y.2.1) ha
  have h2 := lft_ok ha hv
  unfold mt
  split
  · exact ⟨hx, hy⟩
  · split
    · exact ⟨h1, h2⟩
    · exact ⟨h2, h1⟩
theorem bgn_ok {m e b v : Int} (ha : okA m e b) (hv : -b ≤ v ∧ v ≤ b) : okM m b (bgn m e v) := by
  unfold bgn okM red
  refine ⟨fun hm => ?_, fun hm => ?_⟩
  · simp only [if_pos hm]
    exact ⟨Int.emod_nonneg _ (by omega), Int.emod_lt_of_pos _ hm⟩
  · simp only [if_neg hm]
    exact hv

