/-! PIGEONS, counts, and the states of an atom -/
theorem pig : ∀ (N n : Nat) (f : Nat → Nat), (∀ k, k < n → f k < N) → (∀ i j, i < n → j < n → f i = f j → i = j) → n ≤ N
  | 0, n, f, hf, _ => by
    cases n with
    | zero => exact Nat.le_refl _
    | succ n => exact absurd (hf 0 (Nat.zero_lt_succ n)) (Nat.not_lt_zero _)
  | N + 1, n, f, hf, hi => by
    cases n with
    | zero => exact Nat.zero_le _
    | succ n =>
      refine Nat.succ_le_succ (pig N n (fun k => if f k = N then f n else f k) (fun k hk => ?_) (fun i j hik hjk e => ?_))
      · have h1 := hf k (by omega)
        have h2 := hf n (by omega)
        show (if f k = N then f n else f k) < N
        by_cases h : f k = N
        · rw [if_pos h]
          have : f n ≠ N := fun q => by have := hi k n (by omega) (by omega) (h.trans q.symm); omega
          omega
        · rw [if_neg h]; omega
      · have e : (if f i = N then f n else f i) = (if f j = N then f n else f j) := e
        by_cases h1 : f i = N
        · by_cases h2 : f j = N
          · exact hi i j (by omega) (by omega) (h1.trans h2.symm)
          · rw [if_pos h1, if_neg h2] at e
            have := hi n j (by omega) (by omega) e; omega
        · by_cases h2 : f j = N
          · rw [if_neg h1, if_pos h2] at e
            have := hi i n (by omega) (by omega) e; omega
          · rw [if_neg h1, if_neg h2] at e
            exact hi i j (by omega) (by omega) e
/-- x belongs to the atom's states: to all that hold the beginnings and are closed under meetings -/
def Rch (m e b : Int) (cf : Nat → Int) (x : St) : Prop := ∀ S : St → Prop, (∀ l, l < 8 → S (bgn m e (cf l))) → (∀ x y, S x → S y → S (mt m e b x y).1 ∧ S (mt m e b x y).2) → S x
theorem Rch_b {m e b : Int} {cf : Nat → Int} {l : Nat} (hl : l < 8) : Rch m e b cf (bgn m e (cf l)) := fun _ h _ => h l hl
theorem Rch_m {m e b : Int} {cf : Nat → Int} {x y : St} (hx : Rch m e b cf x) (hy : Rch m e b cf y) : Rch m e b cf (mt m e b x y).1 ∧ Rch m e b cf (mt m e b x y).2 :=
  ⟨fun S h1 h2 => (h2 x y (hx S h1 h2) (hy S h1 h2)).1, fun S h1 h2 => (h2 x y (hx S h1 h2) (hy S h1 h2)).2⟩
theorem Rch_ok {m e b : Int} {cf : Nat → Int} {x : St} (ha : okA m e b) (hcf : ∀ l, l < 8 → -b ≤ cf l ∧ cf l ≤ b) (hx : Rch m e b cf x) : okM m b x :=
  hx (okM m b) (fun l hl => bgn_ok ha (hcf l hl)) (fun x y h1 h2 => mt_ok ha h1 h2)
/-- a table of states as it grows: nb by codes, cd by numbers, n of them -/
def TIn (m e b : Int) (cf nb cd : Nat → Int) (n : Nat) : Prop :=
  (∀ k, k < n → ∃ x : St, Rch m e b cf x ∧ cd k = cdN x ∧ nb (cdN x) = k) ∧ ∀ c, c < 256 → nb c = -1 ∨ ∃ k, k < n ∧ nb c = (k : Int) ∧ cd k = c
theorem TIn.le {m e b : Int} {cf nb cd : Nat → Int} {n : Nat} (ha : okA m e b) (hcf : ∀ l, l < 8 → -b ≤ cf l ∧ cf l ≤ b) (h : TIn m e b cf nb cd n) : n ≤ 256 := by
  have k1 : ∀ k, ∃ c : Nat, k < n → c < 256 ∧ nb c = k := fun k => by
    by_cases hk : k < n
    · obtain ⟨x, hx, h1, h2⟩ := h.1 k hk
      exact ⟨cdN x, fun _ => ⟨cdN_lt (okM_rg ha (Rch_ok ha hcf hx)), h2⟩⟩
    · exact ⟨0, fun q => absurd q hk⟩
  refine pig 256 n (fun k => Classical.choose (k1 k)) (fun k hk => (Classical.choose_spec (k1 k) hk).1) (fun i j hi hj e => ?_)
  have a := (Classical.choose_spec (k1 i) hi).2
  have c := (Classical.choose_spec (k1 j) hj).2
  have e : Classical.choose (k1 i) = Classical.choose (k1 j) := e
  rw [e, c] at a
  omega
theorem TIn.lt {m e b : Int} {cf nb cd : Nat → Int} {n c : Nat} (ha : okA m e b) (hcf : ∀ l, l < 8 → -b ≤ cf l ∧ cf l ≤ b) (h : TIn m e b cf nb cd n) (hc : c < 256) (hn : nb c = -1) : n < 256 := by
  have k1 : ∀ k, ∃ d : Nat, k < n → d < 256 ∧ nb d = k := fun k => by
    by_cases hk : k < n
    · obtain ⟨x, hx, h1, h2⟩ := h.1 k hk
      exact ⟨cdN x, fun _ => ⟨cdN_lt (okM_rg ha (Rch_ok ha hcf hx)), h2⟩⟩
    · exact ⟨0, fun q => absurd q hk⟩
  have := pig 256 (n + 1) (fun k => if k = n then c else Classical.choose (k1 k)) (fun k hk => ?_) (fun i j hi hj e => ?_)
  · omega
  · show (if k = n then c else Classical.choose (k1 k)) < 256
    by_cases q : k = n
    · rw [if_pos q]; exact hc
    · rw [if_neg q]; exact (Classical.choose_spec (k1 k) (by omega)).1
  · have e : (if i = n then c else Classical.choose (k1 i)) = (if j = n then c else Classical.choose (k1 j)) := e
    by_cases q : i = n
    · by_cases q2 : j = n
      · omega
      · rw [if_pos q, if_neg q2] at e
        have := (Classical.choose_spec (k1 j) (by omega)).2
        rw [← e, hn] at this
        omega
    · by_cases q2 : j = n
      · rw [if_neg q, if_pos q2] at e
        have := (Classical.choose_spec (k1 i) (by omega)).2
        rw [e, hn] at this
        omega
      · rw [if_neg q, if_neg q2] at e
        have a := (Classical.choose_spec (k1 i) (by omega)).2
        have c := (Classical.choose_spec (k1 j) (by omega)).2
        rw [e, c] at a
        omega
/-- one code learned -/
def lrnB (nb : Nat → Int) (n c : Nat) : Nat → Int := if nb c = -1 then va_up nb c n else nb
def lrnD (nb cd : Nat → Int) (n c : Nat) : Nat → Int := if nb c = -1 then va_up cd n c else cd
def lrnN (nb : Nat → Int) (n c : Nat) : Nat := if nb c = -1 then n + 1 else n
theorem TIn.lrn {m e b : Int} {cf nb cd : Nat → Int} {n : Nat} {x : St} (ha : okA m e b) (hcf : ∀ l, l < 8 → -b ≤ cf l ∧ cf l ≤ b) (h : TIn m e b cf nb cd n) (hx : Rch m e b cf x) : TIn m e b cf (lrnB nb n (cdN x)) (lrnD nb cd n (cdN x)) (lrnN nb n (cdN x)) ∧ lrnB nb n (cdN x) (cdN x) ≠ -1 ∧ (∀ c, nb c ≠ -1 → lrnB nb n (cdN x) c = nb c) ∧ (∀ k, k < n → lrnD nb cd n (cdN x) k = cd k) ∧ n ≤ lrnN nb n (cdN x) := by
  unfold lrnB lrnD lrnN
  by_cases hn : nb (cdN x) = -1
  · rw [if_pos hn, if_pos hn, if_pos hn]
    refine ⟨⟨fun k hk => ?_, fun c hc => ?_⟩, ?_, fun c hc => ?_, fun k hk => va_up_ne _ _ (by omega), by omega⟩
    · by_cases q : k = n
      · subst q
        exact ⟨x, hx, va_up_self _ _ _, va_up_self _ _ _⟩
      · obtain ⟨z, h1, h2, h3⟩ := h.1 k (by omega)
        refine ⟨z, h1, by rw [va_up_ne _ _ q]; exact h2, ?_⟩
        rw [va_up_ne _ _ (fun w => by rw [w, hn] at h3; omega)]
        exact h3
    · by_cases q : c = cdN x
      · subst q
        exact Or.inr ⟨n, by omega, va_up_self _ _ _, va_up_self _ _ _⟩
      · rw [va_up_ne _ _ q]
        rcases h.2 c hc with h1 | ⟨k, h1, h2, h3⟩
        · exact Or.inl h1
        · exact Or.inr ⟨k, by omega, h2, by rw [va_up_ne _ _ (by omega)]; exact h3⟩
    · rw [va_up_self]; omega
    · exact va_up_ne _ _ (fun w => hc (by rw [w]; exact hn))
  · rw [if_neg hn, if_neg hn, if_neg hn]
    exact ⟨h, hn, fun _ _ => rfl, fun _ _ => rfl, Nat.le_refl _⟩

