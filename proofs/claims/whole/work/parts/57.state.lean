/-! the state that class and reference share -/
abbrev AS : Type := (Nat → Int) × (Nat) × (Nat) × (Bool) × (Nat → Int) × (Nat → Int) × (Nat → Int) × (Nat → Int) × (Nat → Int) × (Nat → Int) × (Nat → Nat → Int) × (Nat → Int) × (Nat) × (Nat → Nat → St) × (Option XS)
abbrev AS.pd (a : AS) : Nat → Int := a.1
abbrev AS.nc (a : AS) : Nat := a.2.1
abbrev AS.ac (a : AS) : Nat := a.2.2.1
abbrev AS.cp (a : AS) : Bool := a.2.2.2.1
abbrev AS.op (a : AS) : Nat → Int := a.2.2.2.2.1
abbrev AS.lf (a : AS) : Nat → Int := a.2.2.2.2.2.1
abbrev AS.rt (a : AS) : Nat → Int := a.2.2.2.2.2.2.1
abbrev AS.M (a : AS) : Nat → Int := a.2.2.2.2.2.2.2.1
abbrev AS.E (a : AS) : Nat → Int := a.2.2.2.2.2.2.2.2.1
abbrev AS.B (a : AS) : Nat → Int := a.2.2.2.2.2.2.2.2.2.1
abbrev AS.CF (a : AS) : Nat → Nat → Int := a.2.2.2.2.2.2.2.2.2.2.1
abbrev AS.lt (a : AS) : Nat → Int := a.2.2.2.2.2.2.2.2.2.2.2.1
abbrev AS.cnt (a : AS) : Nat := a.2.2.2.2.2.2.2.2.2.2.2.2.1
abbrev AS.ag (a : AS) : Nat → Nat → St := a.2.2.2.2.2.2.2.2.2.2.2.2.2.1
abbrev AS.ex (a : AS) : Option XS := a.2.2.2.2.2.2.2.2.2.2.2.2.2.2
abbrev mkA (pd : Nat → Int) (nc : Nat) (ac : Nat) (cp : Bool) (op : Nat → Int) (lf : Nat → Int) (rt : Nat → Int) (M : Nat → Int) (E : Nat → Int) (B : Nat → Int) (CF : Nat → Nat → Int) (lt : Nat → Int) (cnt : Nat) (ag : Nat → Nat → St) (ex : Option XS) : AS := (pd, nc, ac, cp, op, lf, rt, M, E, B, CF, lt, cnt, ag, ex)
def oClear (a : AS)  : AS := mkA (fun _ => 0) (0) (0) (false) (a.op) (a.lf) (a.rt) (a.M) (a.E) (a.B) (a.CF) (fun _ => 0) (0) (a.ag) (none)
def oCoef (a : AS) (l : Nat) (v : Int) : AS := mkA (va_up a.pd l v) (a.nc) (a.ac) (a.cp) (a.op) (a.lf) (a.rt) (a.M) (a.E) (a.B) (a.CF) (a.lt) (a.cnt) (a.ag) (a.ex)
def oAtom (a : AS) (m e : Int) : AS := mkA (fun _ => 0) (a.nc + 1) (a.ac + 1) (a.cp) (va_up a.op a.nc 3) (va_up a.lf a.nc (a.ac : Nat)) (va_up a.rt a.nc 0) (va_up a.M a.ac m) (va_up a.E a.ac e) (va_up a.B a.ac (bndF e a.pd 8)) (va_up a.CF a.ac a.pd) (a.lt) (a.cnt) (a.ag) (a.ex)
def oNode (a : AS) (x l r : Int) : AS := mkA (a.pd) (a.nc + 1) (a.ac) (a.cp) (va_up a.op a.nc x) (va_up a.lf a.nc l) (va_up a.rt a.nc (if x = 2 then -1 else r)) (a.M) (a.E) (a.B) (a.CF) (a.lt) (a.cnt) (a.ag) (a.ex)
def oComp (a : AS)  : AS := mkA (a.pd) (a.nc) (a.ac) (true) (a.op) (a.lf) (a.rt) (a.M) (a.E) (a.B) (a.CF) (a.lt) (a.cnt) (a.ag) (a.ex)
def oAdd (a : AS) (l n : Nat) : AS := mkA (a.pd) (a.nc) (a.ac) (a.cp) (a.op) (a.lf) (a.rt) (a.M) (a.E) (a.B) (a.CF) (va_up a.lt l (a.lt l + n)) (a.cnt + n) (fun i => if i < a.cnt then a.ag i else bgA a.M a.E a.CF l) (if n = 0 then a.ex else none)
def oMeet (a : AS) (i j : Nat) : AS := mkA (a.pd) (a.nc) (a.ac) (a.cp) (a.op) (a.lf) (a.rt) (a.M) (a.E) (a.B) (a.CF) (a.lt) (a.cnt) (mtg a.ac a.M a.E a.B a.ag i j) (bif chg a.ac a.M a.E a.B (a.ag i) (a.ag j) then none else a.ex)
def oSweep (a : AS) (t : Nat) : AS := mkA (a.pd) (a.nc) (a.ac) (a.cp) (a.op) (a.lf) (a.rt) (a.M) (a.E) (a.B) (a.CF) (a.lt) (a.cnt) ((swT a.ac a.M a.E a.B a.cnt t a.ag).1) (if (swT a.ac a.M a.E a.B a.cnt t a.ag).2 = 0 then a.ex else none)
noncomputable def oExpl (a : AS) (limit : Nat) : AS := mkA (a.pd) (a.nc) (a.ac) (a.cp) (a.op) (a.lf) (a.rt) (a.M) (a.E) (a.B) (a.CF) (a.lt) (a.cnt) (a.ag) (xAll a.ac a.M a.E a.B a.cnt limit a.ag)
def A0 : AS := mkA (fun _ => 0) 0 0 false (fun _ => 0) (fun _ => 0) (fun _ => 0) (fun _ => 0) (fun _ => 0) (fun _ => 0) (fun _ _ => 0) (fun _ => 0) 0 (fun _ _ => ((false, 0, false) : St)) none
/-- what always holds of it -/
def VL (a : AS) : Prop := (∀ l, l < 8 → -20 ≤ a.pd l ∧ a.pd l ≤ 20) ∧ a.nc ≤ 20 ∧ a.ac ≤ 5 ∧ (∀ k, k < a.nc → wfN a.op a.lf a.rt a.ac k) ∧ okAs a.ac a.M a.E a.B a.CF ∧ (a.cp = true → 0 < a.nc) ∧ a.cnt ≤ 200 ∧ (0 < a.cnt → a.cp = true) ∧ okC a.ac a.M a.B a.cnt a.ag ∧ (∀ l, l < 8 → 0 ≤ a.lt l ∧ a.lt l ≤ a.cnt) ∧ ∀ x, a.ex = some x → (1 ≤ a.cnt ∧ a.cnt ≤ 6) ∧ XG a.ac a.M a.B a.cnt x ∧ 1 ≤ x.2 ∧ x.2 ≤ 3000 ∧ XC a.ac a.M a.E a.B a.cnt x x.2
section VLS
variable {a : AS}
theorem VL.pd (h : VL a) {l : Nat} (hl : l < 8) : -20 ≤ a.pd l ∧ a.pd l ≤ 20 := h.1 l hl
theorem VL.nc (h : VL a) : a.nc ≤ 20 := h.2.1
theorem VL.ac (h : VL a) : a.ac ≤ 5 := h.2.2.1
theorem VL.wf (h : VL a) : ∀ k, k < a.nc → wfN a.op a.lf a.rt a.ac k := h.2.2.2.1
theorem VL.ok (h : VL a) : okAs a.ac a.M a.E a.B a.CF := h.2.2.2.2.1
theorem VL.cp (h : VL a) : a.cp = true → 0 < a.nc := h.2.2.2.2.2.1
theorem VL.cnt (h : VL a) : a.cnt ≤ 200 := h.2.2.2.2.2.2.1
theorem VL.cc (h : VL a) : 0 < a.cnt → a.cp = true := h.2.2.2.2.2.2.2.1
theorem VL.oc (h : VL a) : okC a.ac a.M a.B a.cnt a.ag := h.2.2.2.2.2.2.2.2.1
theorem VL.lt (h : VL a) : ∀ l, l < 8 → 0 ≤ a.lt l ∧ a.lt l ≤ a.cnt := h.2.2.2.2.2.2.2.2.2.1
theorem VL.ex (h : VL a) : ∀ x, a.ex = some x → (1 ≤ a.cnt ∧ a.cnt ≤ 6) ∧ XG a.ac a.M a.B a.cnt x ∧ 1 ≤ x.2 ∧ x.2 ≤ 3000 ∧ XC a.ac a.M a.E a.B a.cnt x x.2 := h.2.2.2.2.2.2.2.2.2.2
theorem VL.fv (h : VL a) (hc : a.cp = true) : FV a.nc a.ac a.op a.lf a.rt a.M a.E a.B a.CF := ⟨⟨h.cp hc, h.nc⟩, h.ac, h.wf, h.ok⟩
theorem v0 : VL A0 := by
  refine ⟨fun l _ => ⟨by show (-20 : Int) ≤ 0; decide, by show (0 : Int) ≤ 20; decide⟩, by decide, by decide, fun k hk => absurd hk (Nat.not_lt_zero k), fun a ha => absurd ha (Nat.not_lt_zero a), fun h => ?_, by decide, fun h => absurd h (Nat.lt_irrefl 0), fun i hi => absurd hi (Nat.not_lt_zero i), fun l _ => ⟨Int.le_refl 0, Int.le_refl 0⟩, fun x h => ?_⟩
  · cases h
  · cases h
theorem vClear (_ : VL a) : VL (oClear a) := by
  refine ⟨fun l _ => ⟨by show (-20 : Int) ≤ 0; decide, by show (0 : Int) ≤ 20; decide⟩, Nat.zero_le _, Nat.zero_le _, fun k hk => absurd hk (Nat.not_lt_zero k), fun a ha => absurd ha (Nat.not_lt_zero a), fun h => ?_, Nat.zero_le _, fun h => absurd h (Nat.lt_irrefl 0), fun i hi => absurd hi (Nat.not_lt_zero i), fun l _ => ⟨Int.le_refl 0, Int.le_refl 0⟩, fun x h => ?_⟩
  · cases h
  · cases h
theorem vCoef (h : VL a) {l : Nat} {v : Int} (hv : -20 ≤ v ∧ v ≤ 20) : VL (oCoef a l v) := by
  refine ⟨fun k hk => ?_, h.2⟩
  show -20 ≤ va_up a.pd l v k ∧ va_up a.pd l v k ≤ 20
  by_cases q : k = l
  · rw [q, va_up_self]; exact hv
  · rw [va_up_ne _ _ q]; exact h.pd hk
theorem noex {a : AS} (h : VL a) (hc : a.cp = false) : a.cnt = 0 ∧ a.ex = none := by
  have h1 : a.cnt = 0 := by
    have := h.cc
    by_cases q : 0 < a.cnt
    · rw [this q] at hc; cases hc
    · omega
  refine ⟨h1, ?_⟩
  cases e : a.ex with
  | none => rfl
  | some x => have := (h.ex x e).1; omega
theorem bnd_ok {e : Int} {pd : Nat → Int} (he : -20 ≤ e ∧ e ≤ 20) (hp : ∀ l, l < 8 → -20 ≤ pd l ∧ pd l ≤ 20) : ∀ n, n ≤ 8 → (1 ≤ bndF e pd n ∧ bndF e pd n ≤ 21) ∧ ∀ l, l < n → -(bndF e pd n) ≤ pd l ∧ pd l ≤ bndF e pd n
  | 0, h => ⟨bndF_r he hp 0 h, fun l hl => absurd hl (Nat.not_lt_zero l)⟩
  | n + 1, h => by
    refine ⟨bndF_r he hp (n + 1) h, fun l hl => ?_⟩
    have ih := (bnd_ok he hp n (by omega)).2
    have e1 : bndF e pd (n + 1) = mxI (bndF e pd n) (absI (pd n)) := rfl
    rw [e1]
    by_cases q : l = n
    · rw [q]; unfold mxI absI; split <;> split <;> omega
    · have := ih l (by omega)
      unfold mxI; split <;> omega
theorem vAtom (h : VL a) {m e : Int} (hn : a.nc < 20) (ha : a.ac < 5) (hc : a.cp = false) (hme : (m = 0 ∧ -20 ≤ e ∧ e ≤ 20) ∨ (2 ≤ m ∧ m ≤ 16 ∧ 0 ≤ e ∧ e < m)) : VL (oAtom a m e) := by
  obtain ⟨c0, e0⟩ := noex h hc
  have hb := bnd_ok (e := e) (pd := a.pd) (by omega) h.1 8 (Nat.le_refl _)
  refine ⟨fun l _ => ⟨by show (-20 : Int) ≤ 0; decide, by show (0 : Int) ≤ 20; decide⟩, by show a.nc + 1 ≤ 20; omega, by show a.ac + 1 ≤ 5; omega, fun k hk => ?_, fun b hb2 => ?_, fun q => ?_, h.cnt, h.cc, fun i hi => ?_, h.lt, fun x hx => ?_⟩
  · show wfN (va_up a.op a.nc 3) (va_up a.lf a.nc (a.ac : Nat)) (va_up a.rt a.nc 0) (a.ac + 1) k
    have hk : k < a.nc + 1 := hk
    unfold wfN
    by_cases q : k = a.nc
    · rw [q, va_up_self, va_up_self, va_up_self]
      refine ⟨by omega, fun _ => by omega, fun z => absurd rfl z, fun z => absurd z (by decide)⟩
    · rw [va_up_ne _ _ q, va_up_ne _ _ q, va_up_ne _ _ q]
      obtain ⟨w1, w2, w3, w4⟩ := h.wf k (by omega)
      exact ⟨w1, fun z => by have := w2 z; omega, w3, w4⟩
  · show okA (va_up a.M a.ac m b) (va_up a.E a.ac e b) (va_up a.B a.ac (bndF e a.pd 8) b) ∧ ∀ l, l < 8 → (-20 ≤ va_up a.CF a.ac a.pd b l ∧ va_up a.CF a.ac a.pd b l ≤ 20) ∧ -(va_up a.B a.ac (bndF e a.pd 8) b) ≤ va_up a.CF a.ac a.pd b l ∧ va_up a.CF a.ac a.pd b l ≤ va_up a.B a.ac (bndF e a.pd 8) b
    have hb2 : b < a.ac + 1 := hb2
    by_cases q : b = a.ac
    · rw [q, va_up_self, va_up_self, va_up_self, va_up_self]
      exact ⟨⟨hme, hb.1⟩, fun l hl => ⟨h.pd hl, hb.2 l hl⟩⟩
    · rw [va_up_ne _ _ q, va_up_ne _ _ q, va_up_ne _ _ q, va_up_ne _ _ q]
      exact h.ok b (by omega)
  · show 0 < a.nc + 1
    omega
  · have hi : i < a.cnt := hi
    omega
  · have hx : a.ex = some x := hx
    rw [e0] at hx; cases hx
theorem vNode (h : VL a) {x l r : Int} (hn : a.nc < 20) (hc : a.cp = false) (hx : 0 ≤ x ∧ x ≤ 2) (hl : 0 ≤ l ∧ l < a.nc) (hr : x < 2 → 0 ≤ r ∧ r < a.nc) : VL (oNode a x l r) := by
  refine ⟨h.1, by show a.nc + 1 ≤ 20; omega, h.ac, fun k hk => ?_, h.ok, fun q => by show 0 < a.nc + 1; omega, h.cnt, h.cc, h.oc, h.lt, h.ex⟩
  show wfN (va_up a.op a.nc x) (va_up a.lf a.nc l) (va_up a.rt a.nc (if x = 2 then -1 else r)) a.ac k
  have hk : k < a.nc + 1 := hk
  unfold wfN
  by_cases q : k = a.nc
  · rw [q, va_up_self, va_up_self, va_up_self]
    exact ⟨by omega, fun z => by omega, fun _ => hl, fun z => by rw [if_neg (by omega)]; exact hr z⟩
  · rw [va_up_ne _ _ q, va_up_ne _ _ q, va_up_ne _ _ q]; exact h.wf k (by omega)
theorem vComp (h : VL a) (hn : 0 < a.nc) : VL (oComp a) := ⟨h.1, h.nc, h.ac, h.wf, h.ok, fun _ => hn, h.cnt, fun _ => rfl, h.oc, h.lt, h.ex⟩
theorem vAdd (h : VL a) {l n : Nat} (hc : a.cp = true) (hl : l < 8) (hn : a.cnt + n ≤ 200) : VL (oAdd a l n) := by
  refine ⟨h.1, h.nc, h.ac, h.wf, h.ok, h.cp, hn, fun _ => hc, fun i hi => ?_, fun k hk => ?_, fun x hx => ?_⟩
  · show okG a.ac a.M a.B (if i < a.cnt then a.ag i else bgA a.M a.E a.CF l)
    by_cases q : i < a.cnt
    · rw [if_pos q]; exact h.oc i q
    · rw [if_neg q]; exact fun b hb => bgA_ok h.ok hl hb
  · show 0 ≤ va_up a.lt l (a.lt l + n) k ∧ va_up a.lt l (a.lt l + n) k ≤ ((a.cnt + n : Nat) : Int)
    by_cases q : k = l
    · rw [q, va_up_self]; have := h.lt l hl; omega
    · rw [va_up_ne _ _ q]; have := h.lt k hk; omega
  · have hx : (if n = 0 then a.ex else none) = some x := hx
    by_cases q : n = 0
    · rw [if_pos q] at hx
      obtain ⟨x1, x2, x3, x4, x5⟩ := h.ex x hx
      show (1 ≤ a.cnt + n ∧ a.cnt + n ≤ 6) ∧ XG a.ac a.M a.B (a.cnt + n) x ∧ 1 ≤ x.2 ∧ x.2 ≤ 3000 ∧ XC a.ac a.M a.E a.B (a.cnt + n) x x.2
      rw [q]; exact ⟨x1, x2, x3, x4, x5⟩
    · rw [if_neg q] at hx; cases hx
theorem vMeet (h : VL a) {i j : Nat} (hi : i < a.cnt) (hj : j < a.cnt) : VL (oMeet a i j) := by
  refine ⟨h.1, h.nc, h.ac, h.wf, h.ok, h.cp, h.cnt, h.cc, mtg_ok h.ok h.oc hi hj, h.lt, fun x hx => ?_⟩
  have hx : (bif chg a.ac a.M a.E a.B (a.ag i) (a.ag j) then none else a.ex) = some x := hx
  cases q : chg a.ac a.M a.E a.B (a.ag i) (a.ag j) with
  | true => rw [q] at hx; cases hx
  | false => rw [q] at hx; exact h.ex x hx
theorem vSweep (h : VL a) {t : Nat} : VL (oSweep a t) := by
  refine ⟨h.1, h.nc, h.ac, h.wf, h.ok, h.cp, h.cnt, h.cc, swT_ok h.ok t _ h.oc, h.lt, fun x hx => ?_⟩
  have hx : (if (swT a.ac a.M a.E a.B a.cnt t a.ag).2 = 0 then a.ex else none) = some x := hx
  by_cases q : (swT a.ac a.M a.E a.B a.cnt t a.ag).2 = 0
  · rw [if_pos q] at hx; exact h.ex x hx
  · rw [if_neg q] at hx; cases hx
theorem vExpl (h : VL a) {limit : Nat} (hl : 1 ≤ limit ∧ limit ≤ 3000) (hw : 1 ≤ a.cnt ∧ a.cnt ≤ 6) : VL (oExpl a limit) := by
  refine ⟨h.1, h.nc, h.ac, h.wf, h.ok, h.cp, h.cnt, h.cc, h.oc, h.lt, fun x hx => ?_⟩
  obtain ⟨x1, x2, x3, x4⟩ := xAll_ok h.ok h.oc hl.1 (show xAll a.ac a.M a.E a.B a.cnt limit a.ag = some x from hx)
  exact ⟨hw, x1, x2, Nat.le_trans x3 hl.2, x4⟩
end VLS

