/-! rows of a search: sorting, a table of rows, all rows that meetings lead to -/
noncomputable def bP (p : Prop) : Bool := @decide p (Classical.propDecidable p)
theorem bP_t {p : Prop} (h : p) : bP p = true := @decide_eq_true p (Classical.propDecidable p) h
theorem bP_f {p : Prop} (h : ¬ p) : bP p = false := @decide_eq_false p (Classical.propDecidable p) h
def sw2 {α : Type} (f : Nat → α) (k : Nat) : Nat → α := va_up (va_up f (k + 1) (f k)) k (f (k + 1))
def ins {α : Type} (ky : α → Nat) : Nat → (Nat → α) → (Nat → α)
  | 0, f => f
  | k + 1, f => if ky (f (k + 1)) < ky (f k) then ins ky k (sw2 f k) else f
def srt {α : Type} (ky : α → Nat) : Nat → (Nat → α) → (Nat → α)
  | 0, f => f
  | n + 1, f => ins ky n (srt ky n f)
theorem sw2_P {α : Type} {P : α → Prop} {f : Nat → α} {w k : Nat} (hk : k + 1 < w) (h : ∀ i, i < w → P (f i)) : ∀ i, i < w → P (sw2 f k i) := fun i hi => by
  unfold sw2
  by_cases q : i = k
  · rw [q, va_up_self]; exact h _ hk
  · rw [va_up_ne _ _ q]
    by_cases q2 : i = k + 1
    · rw [q2, va_up_self]; exact h _ (by omega)
    · rw [va_up_ne _ _ q2]; exact h i hi
theorem ins_P {α : Type} {P : α → Prop} {ky : α → Nat} {w : Nat} : ∀ (k : Nat) (f : Nat → α), k < w → (∀ i, i < w → P (f i)) → ∀ i, i < w → P (ins ky k f i)
  | 0, f, _, h => h
  | k + 1, f, hk, h => by
    unfold ins
    split
    · exact ins_P k _ (by omega) (sw2_P hk h)
    · exact h
theorem srt_P {α : Type} {P : α → Prop} {ky : α → Nat} {w : Nat} : ∀ (n : Nat) (f : Nat → α), n ≤ w → (∀ i, i < w → P (f i)) → ∀ i, i < w → P (srt ky n f i)
  | 0, f, _, h => h
  | n + 1, f, hn, h => ins_P n _ (by omega) (srt_P n f (by omega) h)
theorem ins_key {α : Type} {P : α → Prop} {ky kz : α → Nat} {w : Nat} (hk : ∀ x y, P x → P y → (ky x < ky y ↔ kz x < kz y)) : ∀ (k : Nat) (f : Nat → α), k < w → (∀ i, i < w → P (f i)) → ins ky k f = ins kz k f
  | 0, f, _, h => rfl
  | k + 1, f, hw, h => by
    have e := hk _ _ (h (k + 1) hw) (h k (by omega))
    show (if ky (f (k + 1)) < ky (f k) then ins ky k (sw2 f k) else f) = if kz (f (k + 1)) < kz (f k) then ins kz k (sw2 f k) else f
    by_cases q : ky (f (k + 1)) < ky (f k)
    · rw [if_pos q, if_pos (e.mp q)]; exact ins_key hk k _ (by omega) (sw2_P hw h)
    · rw [if_neg q, if_neg (fun z => q (e.mpr z))]
theorem srt_key {α : Type} {P : α → Prop} {ky kz : α → Nat} {w : Nat} (hk : ∀ x y, P x → P y → (ky x < ky y ↔ kz x < kz y)) : ∀ (n : Nat) (f : Nat → α), n ≤ w → (∀ i, i < w → P (f i)) → srt ky n f = srt kz n f
  | 0, f, _, h => rfl
  | n + 1, f, hn, h => by
    show ins ky n (srt ky n f) = ins kz n (srt kz n f)
    rw [← srt_key hk n f (by omega) h]
    exact ins_key hk n _ (by omega) (srt_P n f (by omega) h)
/-- a table of row numbers (0: free) -/
def TI (hs tb : Nat → Nat) (n : Nat) : Prop := (∀ p, p < 8192 → tb p ≤ n) ∧ (∀ p q, p < 8192 → q < 8192 → tb p = tb q → tb p ≠ 0 → p = q) ∧ ∀ r, r < n → ∃ d, d < 8192 ∧ tb ((hs r + d) % 8192) = r + 1 ∧ ∀ e, e < d → tb ((hs r + e) % 8192) ≠ 0
theorem TI_0 {hs : Nat → Nat} : TI hs (fun _ => 0) 0 := ⟨fun _ _ => Nat.le_refl _, fun _ _ _ _ _ h => absurd rfl h, fun r h => absurd h (Nat.not_lt_zero r)⟩
theorem TI.free {hs tb : Nat → Nat} {n : Nat} (h : TI hs tb n) (hn : n < 8192) : ∃ p, p < 8192 ∧ tb p = 0 := by
  refine Classical.byContradiction fun hc => ?_
  have h0 : ∀ p, p < 8192 → tb p ≠ 0 := fun p hp e => hc ⟨p, hp, e⟩
  have := pig n 8192 (fun p => tb p - 1) (fun p hp => by have := h.1 p hp; have := h0 p hp; omega) (fun i j hi hj e => h.2.1 i j hi hj (by have := h0 i hi; have := h0 j hj; have e : tb i - 1 = tb j - 1 := e; omega) (h0 i hi))
  omega
/-- d places were looked at -/
def PB (tb : Nat → Nat) (h : Nat) (same : Nat → Prop) (d : Nat) : Prop := ∀ e, e < d → tb ((h + e) % 8192) ≠ 0 ∧ ¬ same (tb ((h + e) % 8192) - 1)
theorem PB.lt {hs tb : Nat → Nat} {n h d : Nat} {same : Nat → Prop} (hT : TI hs tb n) (hn : n < 8192) (hh : h < 8192) (hp : PB tb h same d) : d < 8192 := by
  obtain ⟨p, p1, p2⟩ := hT.free hn
  refine Classical.byContradiction fun hc => ?_
  have := (hp ((p + 8192 - h) % 8192) (by omega)).1
  rw [show (h + (p + 8192 - h) % 8192) % 8192 = p by omega] at this
  exact this p2
theorem PB.s {tb : Nat → Nat} {h d : Nat} {same : Nat → Prop} (hp : PB tb h same d) (h1 : tb ((h + d) % 8192) ≠ 0) (h2 : ¬ same (tb ((h + d) % 8192) - 1)) : PB tb h same (d + 1) := fun e he => by
  by_cases q : e = d
  · rw [q]; exact ⟨h1, h2⟩
  · exact hp e (by omega)
theorem PB.none {hs tb : Nat → Nat} {n h d : Nat} {same : Nat → Prop} (hT : TI hs tb n) (hp : PB tb h same d) (hz : tb ((h + d) % 8192) = 0) (hsm : ∀ r, r < n → same r → hs r = h) : ∀ r, r < n → ¬ same r := fun r hr hs1 => by
  obtain ⟨d', _, e2, e3⟩ := hT.2.2 r hr
  rw [hsm r hr hs1] at e2 e3
  by_cases q : d' < d
  · have := (hp d' q).2
    rw [e2, Nat.add_sub_cancel] at this
    exact this hs1
  · by_cases q2 : d' = d
    · rw [q2, hz] at e2; omega
    · exact e3 d (by omega) hz
theorem TI.add {hs hs' tb : Nat → Nat} {n h d : Nat} {same : Nat → Prop} (hT : TI hs tb n) (hd : d < 8192) (hp : PB tb h same d) (hz : tb ((h + d) % 8192) = 0) (e1 : ∀ r, r < n → hs' r = hs r) (e2 : hs' n = h) : TI hs' (va_up tb ((h + d) % 8192) (n + 1)) (n + 1) := by
  have hP : (h + d) % 8192 < 8192 := Nat.mod_lt _ (by decide)
  refine ⟨fun p p1 => ?_, fun p q p1 q1 => ?_, fun r hr => ?_⟩
  · by_cases z : p = (h + d) % 8192
    · rw [z, va_up_self]; exact Nat.le_refl _
    · rw [va_up_ne _ _ z]; have := hT.1 p p1; omega
  · by_cases z : p = (h + d) % 8192
    · by_cases z2 : q = (h + d) % 8192
      · intro _ _; rw [z, z2]
      · rw [z, va_up_self, va_up_ne _ _ z2]
        intro e _
        have := hT.1 q q1
        omega
    · rw [va_up_ne _ _ z]
      by_cases z2 : q = (h + d) % 8192
      · rw [z2, va_up_self]
        intro e _
        have := hT.1 p p1
        omega
      · rw [va_up_ne _ _ z2]
        exact hT.2.1 p q p1 q1
  · have hne : ∀ p, tb p ≠ 0 → va_up tb ((h + d) % 8192) (n + 1) p ≠ 0 := fun p hp => by
      by_cases z : p = (h + d) % 8192
      · rw [z, va_up_self]; omega
      · rw [va_up_ne _ _ z]; exact hp
    by_cases z : r = n
    · rw [z, e2]
      exact ⟨d, hd, va_up_self _ _ _, fun e he => hne _ (hp e he).1⟩
    · obtain ⟨d', f1, f2, f3⟩ := hT.2.2 r (by omega)
      rw [e1 r (by omega)]
      refine ⟨d', f1, ?_, fun e he => hne _ (f3 e he)⟩
      have : (hs r + d') % 8192 ≠ (h + d) % 8192 := fun z2 => by rw [z2, hz] at f2; omega
      rw [va_up_ne _ _ this]; exact f2
def eqR (ac w : Nat) (f g : Nat → Nat → St) : Prop := ∀ k, k < w → ∀ a, a < ac → f k a = g k a
abbrev XS : Type := (Nat → Nat → Nat → St) × Nat
def Inn (ac w : Nat) (s : XS) (f : Nat → Nat → St) : Prop := ∃ r, r < s.2 ∧ eqR ac w (s.1 r) f
def stp (ac : Nat) (M E B : Nat → Int) (w : Nat) (f : Nat → Nat → St) (i j : Nat) : Nat → Nat → St := srt (fun x => pkC x ac) w (mtg ac M E B f i j)
noncomputable def xA (ac w limit : Nat) (f : Nat → Nat → St) (s : XS) : Option XS := bif bP (Inn ac w s f) then some s else if s.2 = limit then none else some (va_up s.1 s.2 f, s.2 + 1)
noncomputable def xJ (ac : Nat) (M E B : Nat → Int) (w limit c i : Nat) : Nat → XS → Option XS
  | 0, s => some s
  | j + 1, s => (xJ ac M E B w limit c i j s).bind fun s => if i ≠ j ∧ chg ac M E B (s.1 c i) (s.1 c j) = true then xA ac w limit (stp ac M E B w (s.1 c) i j) s else some s
noncomputable def xI (ac : Nat) (M E B : Nat → Int) (w limit c : Nat) : Nat → XS → Option XS
  | 0, s => some s
  | i + 1, s => (xI ac M E B w limit c i s).bind (xJ ac M E B w limit c i w)
noncomputable def xR (ac : Nat) (M E B : Nat → Int) (w limit : Nat) : Nat → Nat → XS → Option XS
  | 0, _, s => some s
  | t + 1, c, s => if c < s.2 then (xI ac M E B w limit c w s).bind (xR ac M E B w limit t (c + 1)) else some s
noncomputable def xAll (ac : Nat) (M E B : Nat → Int) (w limit : Nat) (ag : Nat → Nat → St) : Option XS := xR ac M E B w limit limit 0 (va_up (fun _ _ _ => ((false, 0, false) : St)) 0 (srt (fun x => pkC x ac) w ag), 1)
/-- rows that are good and all different -/
def XG (ac : Nat) (M B : Nat → Int) (w : Nat) (s : XS) : Prop := (∀ r, r < s.2 → okC ac M B w (s.1 r)) ∧ ∀ r q, r < s.2 → q < s.2 → eqR ac w (s.1 r) (s.1 q) → r = q
/-- later rows -/
def XL (s t : XS) : Prop := s.2 ≤ t.2 ∧ ∀ r, r < s.2 → t.1 r = s.1 r
theorem XL.rfl {s : XS} : XL s s := ⟨Nat.le_refl _, fun _ _ => by trivial⟩
theorem XL.trans {s t u : XS} (h : XL s t) (k : XL t u) : XL s u := ⟨Nat.le_trans h.1 k.1, fun r hr => (k.2 r (Nat.lt_of_lt_of_le hr h.1)).trans (h.2 r hr)⟩
theorem XL.inn {ac w : Nat} {s t : XS} {f : Nat → Nat → St} (h : XL s t) (k : Inn ac w s f) : Inn ac w t f := by
  obtain ⟨r, r1, r2⟩ := k
  exact ⟨r, Nat.lt_of_lt_of_le r1 h.1, by rw [h.2 r r1]; exact r2⟩
section XT
variable {ac : Nat} {M E B : Nat → Int} {CF : Nat → Nat → Int} {w limit : Nat}
theorem stp_ok (hA : okAs ac M E B CF) {f : Nat → Nat → St} (h : okC ac M B w f) {i j : Nat} (hi : i < w) (hj : j < w) : okC ac M B w (stp ac M E B w f i j) := srt_P (P := okG ac M B) w _ (Nat.le_refl _) (mtg_ok hA h hi hj)
theorem xA_f {f : Nat → Nat → St} {s : XS} (h : Inn ac w s f) : xA ac w limit f s = some s := by unfold xA; rw [bP_t h]; rfl
theorem xA_n {f : Nat → Nat → St} {s : XS} (h : ¬ Inn ac w s f) (h2 : s.2 = limit) : xA ac w limit f s = none := by unfold xA; rw [bP_f h]; exact if_pos h2
theorem xA_s {f : Nat → Nat → St} {s : XS} (h : ¬ Inn ac w s f) (h2 : s.2 ≠ limit) : xA ac w limit f s = some (va_up s.1 s.2 f, s.2 + 1) := by unfold xA; rw [bP_f h]; exact if_neg h2
theorem xA_ok {f : Nat → Nat → St} {s t : XS} (hf : okC ac M B w f) (hs : XG ac M B w s) (hl : s.2 ≤ limit) (h : xA ac w limit f s = some t) : XG ac M B w t ∧ XL s t ∧ t.2 ≤ limit ∧ Inn ac w t f := by
  by_cases q : Inn ac w s f
  · rw [xA_f q] at h
    cases h
    exact ⟨hs, XL.rfl, hl, q⟩
  · by_cases q2 : s.2 = limit
    · rw [xA_n q q2] at h; cases h
    · rw [xA_s q q2] at h
      cases h
      have hne : ∀ r, r < s.2 → r ≠ s.2 := fun r hr => by omega
      refine ⟨⟨fun r hr => ?_, fun r p hr hp he => ?_⟩, ⟨Nat.le_succ _, fun r hr => va_up_ne _ _ (hne r hr)⟩, by show s.2 + 1 ≤ limit; omega, ⟨s.2, Nat.lt_succ_self _, ?_⟩⟩
      · have hr : r < s.2 + 1 := hr
        by_cases z : r = s.2
        · show okC ac M B w (va_up s.1 s.2 f r); rw [z, va_up_self]; exact hf
        · show okC ac M B w (va_up s.1 s.2 f r); rw [va_up_ne _ _ z]; exact hs.1 r (by omega)
      · have hr : r < s.2 + 1 := hr
        have hp : p < s.2 + 1 := hp
        have he : eqR ac w (va_up s.1 s.2 f r) (va_up s.1 s.2 f p) := he
        by_cases z : r = s.2
        · by_cases z2 : p = s.2
          · omega
          · rw [z, va_up_self, va_up_ne _ _ z2] at he
            exact absurd ⟨p, by omega, fun k hk a ha => (he k hk a ha).symm⟩ q
        · rw [va_up_ne _ _ z] at he
          by_cases z2 : p = s.2
          · rw [z2, va_up_self] at he
            exact absurd ⟨r, by omega, he⟩ q
          · rw [va_up_ne _ _ z2] at he
            exact hs.2 r p (by omega) (by omega) he
      · show eqR ac w (va_up s.1 s.2 f s.2) f
        rw [va_up_self]; exact fun _ _ _ _ => rfl
theorem xJ_s {c i j : Nat} {s t : XS} (h : xJ ac M E B w limit c i j s = some t) : xJ ac M E B w limit c i (j + 1) s = if i ≠ j ∧ chg ac M E B (t.1 c i) (t.1 c j) = true then xA ac w limit (stp ac M E B w (t.1 c) i j) t else some t := by
  show (xJ ac M E B w limit c i j s).bind _ = _
  rw [h]; rfl
theorem xJ_none {c i : Nat} {s : XS} : ∀ (k j : Nat), xJ ac M E B w limit c i j s = none → xJ ac M E B w limit c i (j + k) s = none
  | 0, j, h => h
  | k + 1, j, h => by
    show (xJ ac M E B w limit c i (j + k) s).bind _ = none
    rw [xJ_none k j h]; rfl
theorem xI_s {c i : Nat} {s t : XS} (h : xI ac M E B w limit c i s = some t) : xI ac M E B w limit c (i + 1) s = xJ ac M E B w limit c i w t := by
  show (xI ac M E B w limit c i s).bind _ = _
  rw [h]; rfl
theorem xI_none {c : Nat} {s : XS} : ∀ (k i : Nat), xI ac M E B w limit c i s = none → xI ac M E B w limit c (i + k) s = none
  | 0, i, h => h
  | k + 1, i, h => by
    show (xI ac M E B w limit c (i + k) s).bind _ = none
    rw [xI_none k i h]; rfl
theorem xJ_ok (hA : okAs ac M E B CF) {c i : Nat} {s : XS} (hs : XG ac M B w s) (hl : s.2 ≤ limit) (hc : c < s.2) (hi : i < w) : ∀ (j : Nat) (t : XS), j ≤ w → xJ ac M E B w limit c i j s = some t → XG ac M B w t ∧ XL s t ∧ t.2 ≤ limit ∧ ∀ k, k < j → i ≠ k → chg ac M E B (s.1 c i) (s.1 c k) = true → Inn ac w t (stp ac M E B w (s.1 c) i k)
  | 0, t, _, h => by cases h; exact ⟨hs, XL.rfl, hl, fun k hk => absurd hk (Nat.not_lt_zero k)⟩
  | j + 1, t, hj, h => by
    cases e : xJ ac M E B w limit c i j s with
    | none => rw [xJ_none 1 j e] at h; cases h
    | some u =>
      obtain ⟨g1, g2, g3, g4⟩ := xJ_ok hA hs hl hc hi j u (by omega) e
      have hrow : u.1 c = s.1 c := g2.2 c hc
      rw [xJ_s e] at h
      by_cases q : i ≠ j ∧ chg ac M E B (u.1 c i) (u.1 c j) = true
      · rw [if_pos q] at h
        obtain ⟨k1, k2, k3, k4⟩ := xA_ok (stp_ok hA (g1.1 c (Nat.lt_of_lt_of_le hc g2.1)) hi (by omega)) g1 g3 h
        refine ⟨k1, g2.trans k2, k3, fun k hk hik hch => ?_⟩
        by_cases z : k = j
        · rw [hrow] at k4; rw [z]; exact k4
        · exact k2.inn (g4 k (by omega) hik hch)
      · rw [if_neg q] at h
        cases h
        refine ⟨g1, g2, g3, fun k hk hik hch => ?_⟩
        by_cases z : k = j
        · rw [z] at hik hch; rw [hrow] at q; exact absurd ⟨hik, hch⟩ q
        · exact g4 k (by omega) hik hch
theorem xI_ok (hA : okAs ac M E B CF) {c : Nat} {s : XS} (hs : XG ac M B w s) (hl : s.2 ≤ limit) (hc : c < s.2) : ∀ (i : Nat) (t : XS), i ≤ w → xI ac M E B w limit c i s = some t → XG ac M B w t ∧ XL s t ∧ t.2 ≤ limit ∧ ∀ l, l < i → ∀ k, k < w → l ≠ k → chg ac M E B (s.1 c l) (s.1 c k) = true → Inn ac w t (stp ac M E B w (s.1 c) l k)
  | 0, t, _, h => by cases h; exact ⟨hs, XL.rfl, hl, fun k hk => absurd hk (Nat.not_lt_zero k)⟩
  | i + 1, t, hi, h => by
    cases e : xI ac M E B w limit c i s with
    | none => rw [xI_none 1 i e] at h; cases h
    | some u =>
      obtain ⟨g1, g2, g3, g4⟩ := xI_ok hA hs hl hc i u (by omega) e
      have hrow : u.1 c = s.1 c := g2.2 c hc
      rw [xI_s e] at h
      obtain ⟨k1, k2, k3, k4⟩ := xJ_ok hA g1 g3 (Nat.lt_of_lt_of_le hc g2.1) (by omega) w t (Nat.le_refl _) h
      rw [hrow] at k4
      refine ⟨k1, g2.trans k2, k3, fun l hl k hk hik hch => ?_⟩
      by_cases z : l = i
      · rw [z] at hik hch ⊢; exact k4 k hk hik hch
      · exact k2.inn (g4 l (by omega) k hk hik hch)
/-- every row's meetings lead to rows -/
def XC (ac : Nat) (M E B : Nat → Int) (w : Nat) (s : XS) (n : Nat) : Prop := ∀ c, c < n → ∀ l, l < w → ∀ k, k < w → l ≠ k → chg ac M E B (s.1 c l) (s.1 c k) = true → Inn ac w s (stp ac M E B w (s.1 c) l k)
theorem xR_ok (hA : okAs ac M E B CF) : ∀ (t c : Nat) (s u : XS), c ≤ s.2 → c + t = limit → XG ac M B w s → s.2 ≤ limit → XC ac M E B w s c → xR ac M E B w limit t c s = some u → XG ac M B w u ∧ XL s u ∧ u.2 ≤ limit ∧ XC ac M E B w u u.2
  | 0, c, s, u, hc, ht, hs, hl, hx, h => by
    cases h
    have : c = s.2 := by omega
    exact ⟨hs, XL.rfl, hl, by rw [← this]; exact hx⟩
  | t + 1, c, s, u, hc, ht, hs, hl, hx, h => by
    unfold xR at h
    by_cases q : c < s.2
    · rw [if_pos q] at h
      cases e : xI ac M E B w limit c w s with
      | none => rw [e] at h; cases h
      | some v =>
        rw [e] at h
        have h : xR ac M E B w limit t (c + 1) v = some u := h
        obtain ⟨g1, g2, g3, g4⟩ := xI_ok hA hs hl q w v (Nat.le_refl _) e
        have hx2 : XC ac M E B w v (c + 1) := fun r hr l hl k hk hlk hch => by
          have hr2 : r < s.2 := by omega
          rw [g2.2 r hr2] at hch ⊢
          by_cases z : r = c
          · rw [z] at hch ⊢; exact g4 l hl k hk hlk hch
          · exact g2.inn (hx r (by omega) l hl k hk hlk hch)
        obtain ⟨k1, k2, k3, k4⟩ := xR_ok hA t (c + 1) v u (by have := g2.1; omega) (by omega) g1 g3 hx2 h
        exact ⟨k1, g2.trans k2, k3, k4⟩
    · rw [if_neg q] at h
      cases h
      have : c = s.2 := by omega
      exact ⟨hs, XL.rfl, hl, by rw [← this]; exact hx⟩
theorem x0_ok {ag : Nat → Nat → St} (h : okC ac M B w ag) : XG ac M B w (va_up (fun _ _ _ => ((false, 0, false) : St)) 0 (srt (fun x => pkC x ac) w ag), 1) := by
  refine ⟨fun r hr => ?_, fun r q hr hq _ => ?_⟩
  · have hr : r < 1 := hr
    have : r = 0 := by omega
    show okC ac M B w (va_up _ 0 _ r)
    rw [this, va_up_self]
    exact srt_P (P := okG ac M B) w _ (Nat.le_refl _) h
  · have hr : r < 1 := hr
    have hq : q < 1 := hq
    omega
theorem xAll_ok (hA : okAs ac M E B CF) {ag : Nat → Nat → St} (h : okC ac M B w ag) (hl : 1 ≤ limit) {u : XS} (e : xAll ac M E B w limit ag = some u) : XG ac M B w u ∧ 1 ≤ u.2 ∧ u.2 ≤ limit ∧ XC ac M E B w u u.2 := by
  obtain ⟨g1, g2, g3, g4⟩ := xR_ok hA limit 0 _ u (Nat.zero_le _) (Nat.zero_add _) (x0_ok h) hl (fun c hc => absurd hc (Nat.not_lt_zero c)) e
  exact ⟨g1, g2.1, g3, g4⟩
end XT
/-- rows from which meetings can end right -/
def LD (ac : Nat) (M E B : Nat → Int) (w : Nat) (s : XS) (g : Nat → Bool) (c : Nat) : Prop := ∃ i j r, i < w ∧ j < w ∧ i ≠ j ∧ chg ac M E B (s.1 c i) (s.1 c j) = true ∧ r < s.2 ∧ eqR ac w (s.1 r) (stp ac M E B w (s.1 c) i j) ∧ g r = true
noncomputable def gS (ac : Nat) (M E B : Nat → Int) (w : Nat) (s : XS) : Nat → (Nat → Bool) → (Nat → Bool)
  | 0, g => g
  | k + 1, g => gS ac M E B w s k (va_up g k (g k || bP (LD ac M E B w s g k)))
noncomputable def gI (ac : Nat) (M E B : Nat → Int) (w : Nat) (s : XS) (g : Nat → Bool) : Nat → Nat → Bool
  | 0 => g
  | t + 1 => gS ac M E B w s s.2 (gI ac M E B w s g t)
noncomputable def recB (ac : Nat) (M E B : Nat → Int) (w : Nat) (s : XS) (g : Nat → Bool) : Bool := bP (∃ t, ∀ c, c < s.2 → gI ac M E B w s g t c = true)
/-- how many of the first n are false -/
def cf (g : Nat → Bool) : Nat → Nat
  | 0 => 0
  | n + 1 => cf g n + (bif g n then 0 else 1)
theorem cf_le (g : Nat → Bool) : ∀ n, cf g n ≤ n
  | 0 => Nat.le_refl _
  | n + 1 => by have := cf_le g n; show cf g n + (bif g n then 0 else 1) ≤ n + 1; cases g n <;> simp <;> omega
theorem cf_0 (g : Nat → Bool) : ∀ n, cf g n = 0 ↔ ∀ c, c < n → g c = true
  | 0 => ⟨fun _ c h => absurd h (Nat.not_lt_zero c), fun _ => rfl⟩
  | n + 1 => by
    have ih := cf_0 g n
    constructor
    · intro h c hc
      have h : cf g n + (bif g n then 0 else 1) = 0 := h
      by_cases q : c = n
      · rw [q]; cases z : g n with
        | true => rfl
        | false => rw [z] at h; simp at h
      · exact ih.mp (by omega) c (by omega)
    · intro h
      show cf g n + (bif g n then 0 else 1) = 0
      rw [ih.mpr (fun c hc => h c (by omega)), h n (by omega)]; rfl
theorem cf_up {g : Nat → Bool} {k : Nat} (hg : g k = false) : ∀ n, cf (va_up g k true) n + (if k < n then 1 else 0) = cf g n
  | 0 => by rw [if_neg (Nat.not_lt_zero k)]; rfl
  | n + 1 => by
    have ih := cf_up hg n
    show cf (va_up g k true) n + (bif va_up g k true n then 0 else 1) + _ = cf g n + (bif g n then 0 else 1)
    by_cases q : n = k
    · rw [q, va_up_self, hg, if_pos (by omega)]
      rw [q, if_neg (by omega)] at ih
      simp; omega
    · rw [va_up_ne _ _ q]
      by_cases q2 : k < n
      · rw [if_pos q2] at ih; rw [if_pos (by omega)]; omega
      · rw [if_neg q2] at ih; rw [if_neg (by omega)]; omega
theorem va_id {α : Type} (f : Nat → α) (k : Nat) : va_up f k (f k) = f := funext fun i => by
  by_cases q : i = k
  · rw [q, va_up_self]
  · rw [va_up_ne _ _ q]
section GT
variable {ac : Nat} {M E B : Nat → Int} {w : Nat} {s : XS}
theorem gS_mono : ∀ (k : Nat) (g : Nat → Bool) (c : Nat), g c = true → gS ac M E B w s k g c = true
  | 0, g, c, h => h
  | k + 1, g, c, h => by
    refine gS_mono k _ c ?_
    by_cases q : c = k
    · rw [q, va_up_self, ← q, h]; rfl
    · rw [va_up_ne _ _ q]; exact h
theorem gS_t {k : Nat} {g : Nat → Bool} (h : g k = true) : gS ac M E B w s (k + 1) g = gS ac M E B w s k g := by
  show gS ac M E B w s k (va_up g k (g k || _)) = _
  rw [h, Bool.true_or, ← h, va_id]
theorem gS_n {k : Nat} {g : Nat → Bool} (h : ¬ LD ac M E B w s g k) : gS ac M E B w s (k + 1) g = gS ac M E B w s k g := by
  show gS ac M E B w s k (va_up g k (g k || _)) = _
  rw [bP_f h, Bool.or_false, va_id]
theorem gS_l {k : Nat} {g : Nat → Bool} (h : LD ac M E B w s g k) : gS ac M E B w s (k + 1) g = gS ac M E B w s k (va_up g k true) := by
  show gS ac M E B w s k (va_up g k (g k || _)) = _
  rw [bP_t h, Bool.or_true]
theorem gI_mono {g : Nat → Bool} {c : Nat} : ∀ (k t : Nat), gI ac M E B w s g t c = true → gI ac M E B w s g (t + k) c = true
  | 0, t, h => h
  | k + 1, t, h => gS_mono _ _ _ (gI_mono k t h)
theorem gI_fix {g : Nat → Bool} {t : Nat} (h : gI ac M E B w s g (t + 1) = gI ac M E B w s g t) : ∀ k, gI ac M E B w s g (t + k) = gI ac M E B w s g t
  | 0 => rfl
  | k + 1 => by
    show gS ac M E B w s s.2 (gI ac M E B w s g (t + k)) = _
    rw [gI_fix h k]; exact h
theorem rec_t {g : Nat → Bool} {t : Nat} (h : ∀ c, c < s.2 → gI ac M E B w s g t c = true) : recB ac M E B w s g = true := bP_t ⟨t, h⟩
theorem rec_f {g : Nat → Bool} {t c : Nat} (h : gI ac M E B w s g (t + 1) = gI ac M E B w s g t) (hc : c < s.2) (hg : gI ac M E B w s g t c = false) : recB ac M E B w s g = false := bP_f fun ⟨u, hu⟩ => by
  have := gI_mono t u (hu c hc)
  rw [Nat.add_comm, gI_fix h, hg] at this
  cases this
end GT

