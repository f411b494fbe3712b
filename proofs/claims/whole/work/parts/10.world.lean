/-! PURE WORLDS: a world sends names (numbers) to pure cells; references in pure values are names. 'ad' sends names to addresses. -/
abbrev pArr : Type := (Nat → Int32) ⊕ (Nat → Int64) ⊕ (Nat → Option Nat)
abbrev pCell : Type := (Nat × Nat × pArr) ⊕ (Nat × List Value)
abbrev Wd : Type := Nat → Option pCell
def aTy (k : Nat) : FieldType := match k with
  | 0 => .int
  | 1 => .long
  | 2 => .boolean
  | _ => .object RX0
abbrev tysOf (dA : Nat → ClassId) : List (ClassId × FieldType) := [(dA 0, .int), (dA 1, .long), (dA 2, .boolean), (dA 3, .object RX0)]
def vmv (ad : Nat → Nat) (v : Value) : Value := match v with
  | .ref n => .ref (ad n)
  | v => v
def pa (dA : Nat → ClassId) (ad : Nat → Nat) (c : pCell) : va_E := match c with
  | .inl (k, n, .inl f) => .inl (dA k, n, .inl f)
  | .inl (k, n, .inr (.inl f)) => .inl (dA k, n, .inr (.inl f))
  | .inl (k, n, .inr (.inr g)) => .inl (dA k, n, .inr (.inr (.inr (.inr (fun j => (g j).map ad)))))
  | .inr (ci, fs) => .inr (ci, fs.map (vmv ad))
def inD (σ : Wd) (v : Value) : Prop := ∀ n, v = .ref n → σ n ≠ none
def clS (σ : Wd) (st : List Value) : Prop := ∀ v ∈ st, inD σ v
def clC (σ : Wd) (c : pCell) : Prop := match c with
  | .inl (_, _, .inr (.inr g)) => ∀ j m, g j = some m → σ m ≠ none
  | .inl _ => True
  | .inr (_, fs) => clS σ fs
def up (σ : Wd) (n : Nat) (c : pCell) : Wd := fun j => bif Nat.beq j n then some c else σ j
theorem up_self (σ : Wd) (n : Nat) (c : pCell) : up σ n c n = some c := by simp [up]
theorem up_ne (σ : Wd) {n j : Nat} (c : pCell) (h : j ≠ n) : up σ n c j = σ j := by
  have : Nat.beq j n = false := by
    cases hb : Nat.beq j n with
    | true => exact absurd (Nat.eq_of_beq_eq_true hb) h
    | false => rfl
  simp [up, this]
theorem up_dom {σ : Wd} {n j : Nat} {c : pCell} (h : σ j ≠ none) : up σ n c j ≠ none := by
  by_cases e : j = n
  · subst e; rw [up_self]; exact fun h => by cases h
  · rw [up_ne σ c e]; exact h
theorem up_in {σ : Wd} {n : Nat} {c : pCell} {v : Value} (h : inD σ v) : inD (up σ n c) v := fun m e => up_dom (h m e)
theorem up_clS {σ : Wd} {n : Nat} {c : pCell} {st : List Value} (h : clS σ st) : clS (up σ n c) st := fun v hv => up_in (h v hv)
theorem up_clC {σ : Wd} {n : Nat} {c d : pCell} (h : clC σ d) : clC (up σ n c) d := by
  match d, h with
  | .inl (_, _, .inl _), _ => exact trivial
  | .inl (_, _, .inr (.inl _)), _ => exact trivial
  | .inl (_, _, .inr (.inr g)), h => exact fun j m e => up_dom (h j m e)
  | .inr (_, fs), h => exact up_clS (σ := σ) h
theorem cl_i {σ : Wd} {st : List Value} {x : Int32} (h : clS σ st) : clS σ (.int x :: st) := fun v hv => by
  rcases List.mem_cons.mp hv with rfl | hv
  · exact fun n e => by cases e
  · exact h v hv
theorem cl_l {σ : Wd} {st : List Value} {x : Int64} (h : clS σ st) : clS σ (.long x :: st) := fun v hv => by
  rcases List.mem_cons.mp hv with rfl | hv
  · exact fun n e => by cases e
  · exact h v hv
theorem cl_n {σ : Wd} {st : List Value} (h : clS σ st) : clS σ (.null :: st) := fun v hv => by
  rcases List.mem_cons.mp hv with rfl | hv
  · exact fun n e => by cases e
  · exact h v hv
theorem cl_c {σ : Wd} {st : List Value} {v : Value} (hv : inD σ v) (h : clS σ st) : clS σ (v :: st) := fun u hu => by
  rcases List.mem_cons.mp hu with rfl | hu
  · exact hv
  · exact h u hu
theorem cl_h {σ : Wd} {st : List Value} {v : Value} (h : clS σ (v :: st)) : inD σ v := h v List.mem_cons_self
theorem cl_t {σ : Wd} {st : List Value} {v : Value} (h : clS σ (v :: st)) : clS σ st := fun u hu => h u (List.mem_cons_of_mem _ hu)
theorem cl_r {σ : Wd} {n : Nat} (h : σ n ≠ none) : inD σ (.ref n) := fun m e => by cases e; exact h
theorem cl_app {σ : Wd} {a b : List Value} : clS σ (a ++ b) ↔ clS σ a ∧ clS σ b := by
  constructor
  · exact fun h => ⟨fun v hv => h v (List.mem_append_left _ hv), fun v hv => h v (List.mem_append_right _ hv)⟩
  · rintro ⟨h1, h2⟩ v hv
    rcases List.mem_append.mp hv with h | h
    · exact h1 v h
    · exact h2 v h
theorem cl_rev {σ : Wd} {a : List Value} (h : clS σ a.reverse) : clS σ a := fun v hv => h v (List.mem_reverse.mpr hv)
/-- a foreign cell: an array of ints that is only read (the law's script: a cell that was there before) -/
def fo (c : pCell) : Bool := match c with
  | .inl (k, _, _) => Nat.beq k 9
  | .inr _ => false
def nf (σ : Wd) (n : Nat) : Prop := ∃ c, σ n = some c ∧ fo c = false
theorem nf_of {σ : Wd} {n : Nat} {c : pCell} (h : σ n = some c) (hf : fo c = false) : nf σ n := ⟨c, h, hf⟩
theorem nf.ne {σ : Wd} {n : Nat} (h : nf σ n) : σ n ≠ none := fun z => by obtain ⟨c, h1, _⟩ := h; rw [z] at h1; cases h1
def fX (cA : ClassId) (a : Nat) (c : pCell) (H : Heap) : Prop := ∃ (n : Nat) (f : Nat → Int32) (scr : Cell), c = .inl (9, n, .inl f) ∧ H[a]? = some scr ∧ scr.cls = cA ∧ (∀ k, scr.vm ≠ .statics k) ∧ scr.vm ≠ .unknown ∧ scr.slots.size = n ∧ ∀ j : Nat, j < n → scr.slots[j]? = some (.int (f j))
def pAt (D : va_G) (dA : Nat → ClassId) (ad : Nat → Nat) (a : Nat) (c : pCell) (H : Heap) : Prop := bif fo c then fX (dA 9) a c H else va_at D vwCl (a, pa dA ad c) H
theorem pAt_of {D : va_G} {dA : Nat → ClassId} {ad : Nat → Nat} {a : Nat} {c : pCell} {H : Heap} (hf : fo c = false) (h : va_at D vwCl (a, pa dA ad c) H) : pAt D dA ad a c H := by
  unfold pAt; rw [hf]; exact h
theorem pAt.va {D : va_G} {dA : Nat → ClassId} {ad : Nat → Nat} {a : Nat} {c : pCell} {H : Heap} (h : pAt D dA ad a c H) (hf : fo c = false) : va_at D vwCl (a, pa dA ad c) H := by
  unfold pAt at h; rw [hf] at h; exact h
theorem pAt.kept {D : va_G} {dA : Nat → ClassId} {ad : Nat → Nat} {a : Nat} {c : pCell} {H H1 : Heap} (h : pAt D dA ad a c H) (hq : H1[a]? = H[a]?) : pAt D dA ad a c H1 := by
  unfold pAt at h ⊢
  cases hf : fo c with
  | true =>
    rw [hf] at h
    obtain ⟨n, f, scr, h1, h2, h3⟩ := h
    exact ⟨n, f, scr, h1, hq.trans h2, h3⟩
  | false =>
    rw [hf] at h
    exact va_at.kept (q := (a, pa dA ad c)) h hq
theorem pAt.lt {D : va_G} {dA : Nat → ClassId} {ad : Nat → Nat} {a : Nat} {c : pCell} {H : Heap} (h : pAt D dA ad a c H) : a < H.size := by
  unfold pAt at h
  cases hf : fo c with
  | true =>
    rw [hf] at h
    obtain ⟨n, f, scr, h1, h2, h3⟩ := h
    exact (Array.getElem?_eq_some_iff.mp h2).1
  | false =>
    rw [hf] at h
    exact va_at.lt (q := (a, pa dA ad c)) h
/-- the heap holds the world -/
def Rp (D : va_G) (dA : Nat → ClassId) (ad : Nat → Nat) (σ : Wd) (H : Heap) : Prop :=
  (∀ n c, σ n = some c → pAt D dA ad (ad n) c H) ∧ (∀ n m, σ n ≠ none → σ m ≠ none → ad n = ad m → n = m) ∧ ∀ n c, σ n = some c → clC σ c
def AA (ad : Nat → Nat) (σ : Wd) (sz : Nat) : Nat → Prop := fun q => (∃ n, nf σ n ∧ q = ad n) ∨ sz ≤ q
/-- .. and goes on from the world σ0 at ad0, in a heap of sz cells -/
def Sr (D : va_G) (dA : Nat → ClassId) (ad0 : Nat → Nat) (σ0 : Wd) (sz : Nat) (ad : Nat → Nat) (σ : Wd) (H : Heap) : Prop :=
  Rp D dA ad σ H ∧ (∀ n, σ0 n ≠ none → σ n ≠ none ∧ ad n = ad0 n) ∧ ∀ n, nf σ n → AA ad0 σ0 sz (ad n)
theorem Rp.lt {D : va_G} {dA : Nat → ClassId} {ad : Nat → Nat} {σ : Wd} {H : Heap} (h : Rp D dA ad σ H) {n : Nat} (hn : σ n ≠ none) : ad n < H.size := by
  cases hc : σ n with
  | none => exact absurd hc hn
  | some c => exact (h.1 n c hc).lt
theorem Rp.put {D : va_G} {dA : Nat → ClassId} {ad : Nat → Nat} {σ : Wd} {H H1 : Heap} (h : Rp D dA ad σ H) {n : Nat} {c : pCell} (hn : σ n ≠ none) (hc : clC σ c) (hv : pAt D dA ad (ad n) c H1) (hq : ∀ q, q ≠ ad n → H1[q]? = H[q]?) : Rp D dA ad (up σ n c) H1 := by
  refine ⟨fun m d hd => ?_, fun a b ha hb e => ?_, fun m d hd => ?_⟩
  · by_cases e : m = n
    · subst e; rw [up_self] at hd; cases hd; exact hv
    · rw [up_ne σ c e] at hd
      refine (h.1 m d hd).kept (hq _ fun z => e (h.2.1 m n (by rw [hd]; exact fun h => by cases h) hn z))
  · have k : ∀ z, up σ n c z ≠ none → σ z ≠ none := fun z hz => by
      by_cases e : z = n
      · subst e; exact hn
      · rw [up_ne σ c e] at hz; exact hz
    exact h.2.1 a b (k a ha) (k b hb) e
  · by_cases e : m = n
    · subst e; rw [up_self] at hd; cases hd; exact up_clC hc
    · rw [up_ne σ c e] at hd; exact up_clC (h.2.2 m d hd)
theorem vmv_up {ad : Nat → Nat} {σ : Wd} {n a : Nat} {v : Value} (hn : σ n = none) (h : inD σ v) : vmv (va_up ad n a) v = vmv ad v := by
  cases v with
  | ref m => show Value.ref _ = Value.ref _; rw [va_up_ne ad a (fun e : m = n => h m rfl (by rw [e]; exact hn))]
  | _ => rfl
theorem vmv_ups {ad : Nat → Nat} {σ : Wd} {n a : Nat} {st : List Value} (hn : σ n = none) (h : clS σ st) : st.map (vmv (va_up ad n a)) = st.map (vmv ad) := List.map_congr_left fun v hv => vmv_up hn (h v hv)
theorem pa_up {dA : Nat → ClassId} {ad : Nat → Nat} {σ : Wd} {n a : Nat} {c : pCell} (hn : σ n = none) (h : clC σ c) : pa dA (va_up ad n a) c = pa dA ad c := by
  match c, h with
  | .inl (_, _, .inl _), _ => rfl
  | .inl (_, _, .inr (.inl _)), _ => rfl
  | .inl (k, z, .inr (.inr g)), h =>
    show (Sum.inl (dA k, z, .inr (.inr (.inr (.inr (fun j => (g j).map (va_up ad n a)))))) : va_E) = Sum.inl (dA k, z, .inr (.inr (.inr (.inr (fun j => (g j).map ad)))))
    have e : (fun j => (g j).map (va_up ad n a)) = fun j => (g j).map ad := by
      funext j
      cases hg : g j with
      | none => rfl
      | some m => exact congrArg some (va_up_ne ad a fun e : m = n => h j m hg (by rw [e]; exact hn))
    rw [e]
  | .inr (ci, fs), h =>
    show (Sum.inr (ci, fs.map (vmv (va_up ad n a))) : va_E) = Sum.inr (ci, fs.map (vmv ad))
    rw [vmv_ups hn h]
theorem pAt_up {D : va_G} {dA : Nat → ClassId} {ad : Nat → Nat} {σ : Wd} {n a b : Nat} {c : pCell} {H : Heap} (hn : σ n = none) (h : clC σ c) : pAt D dA (va_up ad n a) b c H = pAt D dA ad b c H := by
  unfold pAt; rw [pa_up hn h]
theorem Rp.new {D : va_G} {dA : Nat → ClassId} {ad : Nat → Nat} {σ : Wd} {H H1 : Heap} (h : Rp D dA ad σ H) {n : Nat} {c : pCell} (hn : σ n = none) (hc : clC σ c) (hv : pAt D dA ad H.size c H1) (hq : ∀ q, q < H.size → H1[q]? = H[q]?) : Rp D dA (va_up ad n H.size) (up σ n c) H1 := by
  have k : ∀ z, up σ n c z ≠ none → z ≠ n → σ z ≠ none := fun z hz e => by rw [up_ne σ c e] at hz; exact hz
  refine ⟨fun m d hd => ?_, fun a b ha hb e => ?_, fun m d hd => ?_⟩
  · by_cases e : m = n
    · subst e; rw [up_self] at hd; cases hd
      rw [va_up_self, pAt_up hn hc]; exact hv
    · rw [up_ne σ c e] at hd
      rw [va_up_ne _ _ e, pAt_up hn (h.2.2 m d hd)]
      exact (h.1 m d hd).kept (hq _ (h.1 m d hd).lt)
  · by_cases ea : a = n
    · by_cases eb : b = n
      · rw [ea, eb]
      · exfalso
        rw [ea, va_up_self, va_up_ne _ _ eb] at e
        have := h.lt (k b hb eb)
        omega
    · by_cases eb : b = n
      · exfalso
        rw [eb, va_up_self, va_up_ne _ _ ea] at e
        have := h.lt (k a ha ea)
        omega
      · rw [va_up_ne _ _ ea, va_up_ne _ _ eb] at e
        exact h.2.1 a b (k a ha ea) (k b hb eb) e
  · by_cases e : m = n
    · subst e; rw [up_self] at hd; cases hd; exact up_clC hc
    · rw [up_ne σ c e] at hd; exact up_clC (h.2.2 m d hd)
theorem Sr.put {D : va_G} {dA : Nat → ClassId} {ad0 ad : Nat → Nat} {σ0 σ : Wd} {sz : Nat} {H H1 : Heap} (h : Sr D dA ad0 σ0 sz ad σ H) {n : Nat} {c : pCell} (hn : nf σ n) (hc : clC σ c) (hv : va_at D vwCl (ad n, pa dA ad c) H1) (hq : ∀ q, q ≠ ad n → H1[q]? = H[q]?) (hf : fo c = false := by rfl) : Sr D dA ad0 σ0 sz ad (up σ n c) H1 :=
  ⟨h.1.put hn.ne hc (pAt_of hf hv) hq, fun m hm => ⟨up_dom (h.2.1 m hm).1, (h.2.1 m hm).2⟩, fun m hm => h.2.2 m (by
    by_cases e : m = n
    · subst e; exact hn
    · obtain ⟨c9, h1, h2⟩ := hm
      rw [up_ne σ c e] at h1; exact ⟨c9, h1, h2⟩)⟩
theorem Sr.new {D : va_G} {dA : Nat → ClassId} {ad0 ad : Nat → Nat} {σ0 σ : Wd} {sz : Nat} {H H1 : Heap} (h : Sr D dA ad0 σ0 sz ad σ H) (hs : sz ≤ H.size) {n : Nat} {c : pCell} (hn : σ n = none) (hc : clC σ c) (hv : va_at D vwCl (H.size, pa dA ad c) H1) (hq : ∀ q, q < H.size → H1[q]? = H[q]?) (hf : fo c = false := by rfl) : Sr D dA ad0 σ0 sz (va_up ad n H.size) (up σ n c) H1 := by
  refine ⟨h.1.new hn hc (pAt_of hf hv) hq, fun m hm => ?_, fun m hm => ?_⟩
  · have hmn : m ≠ n := fun e => (h.2.1 m hm).1 (by rw [e]; exact hn)
    exact ⟨up_dom (h.2.1 m hm).1, by rw [va_up_ne _ _ hmn]; exact (h.2.1 m hm).2⟩
  · by_cases e : m = n
    · subst e; rw [va_up_self]; exact Or.inr hs
    · obtain ⟨c9, h1, h2⟩ := hm
      rw [up_ne σ c e] at h1; rw [va_up_ne _ _ e]; exact h.2.2 m ⟨c9, h1, h2⟩
def strTab : List (String × Nat × String) := [("CrowdDesk", 43, "no such letter"), ("CrowdDesk", 51, "v is not -20 .. 20"), ("CrowdDesk", 57, "c is not -20 .. 20"), ("CrowdDesk", 65, "compiled, or too many atoms or nodes"), ("CrowdDesk", 73, "m is not 2 .. 16"), ("CrowdDesk", 75, "r is not 0 .. m - 1"), ("CrowdDesk", 77, "no such op"), ("CrowdDesk", 82, "no such node"), ("CrowdDesk", 87, "compiled, or too many nodes"), ("CrowdDesk", 96, "compiled already"), ("CrowdDesk", 101, "no nodes"), ("CrowdDesk", 106, "a node is a part twice"), ("CrowdDesk", 112, "n is below 0"), ("CrowdDesk", 114, "not compiled"), ("CrowdDesk", 119, "more than 200 agents"), ("CrowdDesk", 125, "an agent does not meet itself"), ("CrowdDesk", 132, "no such agent"), ("CrowdDesk", 139, "times is not 1 .. 500"), ("CrowdDesk", 159, "no such agent, atom or what"), ("CrowdDesk", 184, "limit is not 1 .. 3000"), ("CrowdDesk", 186, "no agents, or more than 6"), ("CrowdDesk", 195, "the present crowd is not explored"), ("CrowdDesk", 215, "no such rule"), ("CrowdDesk", 220, "no such state"), ("CrowdDesk", 225, "no such atom or what")]
def ncTab : List (String × String) := [("java/lang/IllegalStateException", "java/lang/IllegalArgumentException"), ("java/lang/IndexOutOfBoundsException", "java/lang/IllegalArgumentException"), ("java/lang/IllegalStateException", "java/lang/IndexOutOfBoundsException")]
def fcTab : List Cond := [.castable "java/lang/IllegalArgumentException" "java/lang/IllegalArgumentException", .castable "java/lang/IllegalStateException" "java/lang/IllegalStateException", .castable "java/lang/IndexOutOfBoundsException" "java/lang/IndexOutOfBoundsException", .declares ⟨"java/lang/RuntimeException", "<init>", "(Ljava/lang/String;)V"⟩, .declares ⟨"java/lang/Exception", "<init>", "(Ljava/lang/String;)V"⟩, .declares ⟨"java/lang/Throwable", "<init>", "(Ljava/lang/String;)V"⟩]
theorem fc_ok : ∀ w ∈ fcTab, w.onTables = true ∧ w.faceAtom = true := by decide +kernel
theorem fc_warm {w : Cond} (hw : w ∈ fcTab) {s U : State} (hW : s.WarmedH U.vm) (h : va_Nw w s) : va_Nw w U := va_tabs (fc_ok w hw).1 (rfl : (s.setVm U.vm).vm = U.vm) (Cond.faceAtom_setVm hW.alike w (fc_ok w hw).2 h)
/-- the class of the foreign array -/
def foK (cA : ClassId) (U : State) : Prop := ∃ kA, U.vm.classes[cA]? = some kA ∧ ∃ comp, kA.kind = .array comp .int
theorem foK.moved {cA : ClassId} {u U : State} (hvm : u.vm.Alike U.vm) (h : foK cA u) : foK cA U := by
  obtain ⟨kA, h1, comp, h2⟩ := h
  obtain ⟨k', hk', he⟩ := hvm.2.2 _ _ h1
  exact ⟨k', hk', comp, by rw [he]; exact h2⟩
/-- what is known of the tables and of the heap's old part -/
def Kx (D : va_G) (dA : Nat → ClassId) (A : Nat → Prop) (U : State) (H : Heap) : Prop :=
  va_K D vwCl (tysOf dA) U ∧ va_AO RX0 U ∧ va_Nw (.methodLinkNest RX3 30 yX0_init RX6) U ∧ (∀ q ∈ strTab, ∃ a, vk_R q.1 q.2.1 q.2.2 a U) ∧ (∀ q ∈ ncTab, va_Nc q.1 q.2 U) ∧ (∀ w ∈ fcTab, va_Nw w U) ∧
  vx_Zq Bundle.tN "UNASSIGNED_STACK" Bundle.steD A U H ∧ (vx_Zq Bundle.tN "SUPPRESSED_SENTINEL" Bundle.listD A U H ∧ foK (dA 9) U)
theorem Kx.moved {D : va_G} {dA : Nat → ClassId} {A : Nat → Prop} {u U : State} {H : Heap} (hvm : u.vm.Alike U.vm) (hW : u.WarmedH U.vm) (h : Kx D dA A u H) : Kx D dA A U H :=
  ⟨h.1.moved hvm, va_AO.moved hvm h.2.1, va_Nw.warmM hW h.2.2.1, fun q hq => (h.2.2.2.1 q hq).imp fun a ha => vk_R.warm hW ha, fun q hq => (h.2.2.2.2.1 q hq).moved hvm, fun q hq => fc_warm hq hW (h.2.2.2.2.2.1 q hq), h.2.2.2.2.2.2.1.moved hvm, ⟨h.2.2.2.2.2.2.2.1.moved hvm, h.2.2.2.2.2.2.2.2.moved hvm⟩⟩
theorem Kx.kept {D : va_G} {dA : Nat → ClassId} {A : Nat → Prop} {U : State} {H H1 : Heap} (h : Kx D dA A U H) (hq : ∀ a : Nat, a < H.size → ¬ A a → H1[a]? = H[a]?) : Kx D dA A U H1 :=
  ⟨h.1, h.2.1, h.2.2.1, h.2.2.2.1, h.2.2.2.2.1, h.2.2.2.2.2.1, h.2.2.2.2.2.2.1.kept hq, ⟨h.2.2.2.2.2.2.2.1.kept hq, h.2.2.2.2.2.2.2.2⟩⟩
theorem Kx.narrow {D : va_G} {dA : Nat → ClassId} {A B : Nat → Prop} {U : State} {H : Heap} (h : Kx D dA A U H) (hAB : ∀ q, B q → A q) : Kx D dA B U H :=
  ⟨h.1, h.2.1, h.2.2.1, h.2.2.2.1, h.2.2.2.2.1, h.2.2.2.2.2.1, h.2.2.2.2.2.2.1.narrow hAB, ⟨h.2.2.2.2.2.2.2.1.narrow hAB, h.2.2.2.2.2.2.2.2⟩⟩
