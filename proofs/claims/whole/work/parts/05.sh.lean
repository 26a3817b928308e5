/-! WHAT THE MACHINE'S HEAP HAS TO DO WITH THE PURE ONE. G: the launch; class numbers and slots; the array classes (int, long, Cell, Value, Object); addresses that the statics hold (ArrayList's empty array; Object[]'s class object; PORTS, WANTED_X, WANTED_Y); the region that may change -/
abbrev hx_G : Type := Launch × va_G × (ClassId × ClassId × ClassId × ClassId × ClassId) × (Nat × Nat × Nat × Nat × Nat) × (Nat → Prop) × (State → Prop)
abbrev gL (G : hx_G) : Launch := G.1
abbrev gD (G : hx_G) : va_G := G.2.1
abbrev gI (G : hx_G) : ClassId := G.2.2.1.1
abbrev gJ (G : hx_G) : ClassId := G.2.2.1.2.1
abbrev gC (G : hx_G) : ClassId := G.2.2.1.2.2.1
abbrev gV (G : hx_G) : ClassId := G.2.2.1.2.2.2.1
abbrev gO (G : hx_G) : ClassId := G.2.2.1.2.2.2.2
abbrev gE (G : hx_G) : Nat := G.2.2.2.1.1
abbrev gM (G : hx_G) : Nat := G.2.2.2.1.2.1
abbrev gP (G : hx_G) : Nat := G.2.2.2.1.2.2.1
abbrev gX (G : hx_G) : Nat := G.2.2.2.1.2.2.2.1
abbrev gY (G : hx_G) : Nat := G.2.2.2.1.2.2.2.2
abbrev gA (G : hx_G) : Nat → Prop := G.2.2.2.2.1
/-- what else is known of every state (throws) -/
abbrev gK (G : hx_G) : State → Prop := G.2.2.2.2.2
/-- the array classes of references by their kind, and the class that each is over -/
def gR (G : hx_G) (k : Nat) : ClassId := if k = 0 then gC G else if k = 1 then gV G else gO G
def gN (k : Nat) : String := if k = 0 then "TokenHouse$Cell" else if k = 1 then "TokenHouse$Value" else "java/lang/Object"
abbrev gT (G : hx_G) : List (ClassId × FieldType) := [(gI G, .int), (gJ G, .long), (gC G, .object "TokenHouse$Cell"), (gV G, .object "TokenHouse$Value"), (gO G, .object "java/lang/Object")]
/-- a cell of the machine's heap as the pure heap has it -/
abbrev hc_o (G : hx_G) (ci a : Nat) (fs : List Value) (H : Heap) : Prop := va_at (gD G) vwCl (a, .inr (ci, fs)) H
abbrev hc_i (G : hx_G) (a n : Nat) (f : Nat → Int32) (H : Heap) : Prop := H[a]? = some (arrV (gI G) n (fun j => .int (f j)))
abbrev hc_j (G : hx_G) (a n : Nat) (f : Nat → Int64) (H : Heap) : Prop := H[a]? = some (arrV (gJ G) n (fun j => .long (f j)))
abbrev hc_r (G : hx_G) (k a n : Nat) (f : Nat → Option Nat) (H : Heap) : Prop := H[a]? = some (arrV (gR G k) n (fun j => va_rf (f j)))
/-- the object of a list, raw: a list of no capacity has the static empty array -/
abbrev qobj (G : hx_G) (x : List Nat × Nat × Nat × Int32) : List Value := [.int x.2.2.2, .ref (if x.2.1 = 0 then gE G else x.2.2.1), .int (nI x.1.length)]
abbrev hc_q (G : hx_G) (a : Nat) (x : List Nat × Nat × Nat × Int32) (H : Heap) : Prop :=
  hc_o G 0 a (qobj G x) H ∧ x.1.length ≤ x.2.1 ∧ (0 < x.2.1 → hc_r G 2 x.2.2.1 x.2.1 (fun j => x.1[j]?) H)
def Sh (G : hx_G) (M : hx_S) (H : Heap) : Prop :=
  H.size = Sz M ∧
  (∀ (ci a : Nat) (fs : List Value), So M ci a = some fs → Sk M a = ci ∧ ci < 20 ∧ gA G a ∧ hc_o G ci a fs H) ∧
  (∀ (a : Nat) (x : Nat × (Nat → Int32)), Si M a = some x → Sk M a = 20 ∧ gA G a ∧ hc_i G a x.1 x.2 H) ∧
  (∀ (a : Nat) (x : Nat × (Nat → Int64)), Sj M a = some x → Sk M a = 21 ∧ gA G a ∧ hc_j G a x.1 x.2 H) ∧
  (∀ (k a : Nat) (x : Nat × (Nat → Option Nat)), Sr M k a = some x → Sk M a = 22 + k ∧ k < 3 ∧ gA G a ∧ hc_r G k a x.1 x.2 H) ∧
  (∀ (a : Nat) (x : List Nat × Nat × Nat × Int32), Sq M a = some x → Sk M a = 50 ∧ gA G a ∧ hc_q G a x H ∧ (0 < x.2.1 → Sk M x.2.2.1 = 100 + a ∧ gA G x.2.2.1))
section SH
variable {G : hx_G} {M : hx_S} {H H1 : Heap}
theorem Sh.size (h : Sh G M H) : H.size = Sz M := h.1
theorem hc_o.lt {ci a : Nat} {fs : List Value} (h : hc_o G ci a fs H) : a < H.size := va_at.lt h
theorem hc_lt {a : Nat} {c : Cell} (h : H[a]? = some c) : a < H.size := (Array.getElem?_eq_some_iff.mp h).1
theorem hc_o.kept {ci a : Nat} {fs : List Value} (h : hc_o G ci a fs H) (hq : H1[a]? = H[a]?) : hc_o G ci a fs H1 := va_at.kept h hq
theorem hc_q.kept {a : Nat} {x : List Nat × Nat × Nat × Int32} (h : hc_q G a x H) (hq : H1[a]? = H[a]?) (hd : 0 < x.2.1 → H1[x.2.2.1]? = H[x.2.2.1]?) : hc_q G a x H1 := by
  exact ⟨hc_o.kept h.1 hq, h.2.1, fun z => (hd z).trans (h.2.2 z)⟩
/-- one cell changes, all else stays -/
theorem Sh.oset {ci a : Nat} {fs fs1 : List Value} (h : Sh G M H) (h0 : So M ci a = some fs) (hz : H1.size = H.size) (ho : ∀ q, q ≠ a → H1[q]? = H[q]?) (h1 : hc_o G ci a fs1 H1) : Sh G (oput M ci a (some fs1)) H1 := by
  obtain ⟨a1, a2, a3, a4, a5, a6⟩ := h
  obtain ⟨k0, k20, kA, kc⟩ := a2 ci a fs h0
  refine ⟨hz.trans a1, ?_, ?_, ?_, ?_, ?_⟩
  · intro c b gs hb
    rw [So_oput] at hb
    by_cases hc : c = ci ∧ b = a
    · obtain ⟨rfl, rfl⟩ := hc
      rw [if_pos ⟨rfl, rfl⟩] at hb
      cases hb
      exact ⟨k0, k20, kA, h1⟩
    · rw [if_neg hc] at hb
      obtain ⟨q1, q2, q3, q4⟩ := a2 c b gs hb
      refine ⟨q1, q2, q3, hc_o.kept q4 (ho b fun e => hc ⟨?_, e⟩)⟩
      subst e
      exact q1.symm.trans k0
  · intro b x hb
    obtain ⟨q1, q2, q3⟩ := a3 b x hb
    refine ⟨q1, q2, (ho b fun e => ?_).trans q3⟩
    subst e
    have := q1.symm.trans k0
    omega
  · intro b x hb
    obtain ⟨q1, q2, q3⟩ := a4 b x hb
    refine ⟨q1, q2, (ho b fun e => ?_).trans q3⟩
    subst e
    have := q1.symm.trans k0
    omega
  · intro k b x hb
    obtain ⟨q1, q2, q3, q4⟩ := a5 k b x hb
    refine ⟨q1, q2, q3, (ho b fun e => ?_).trans q4⟩
    subst e
    have := q1.symm.trans k0
    omega
  · intro b x hb
    obtain ⟨q1, q2, q3, q4⟩ := a6 b x hb
    refine ⟨q1, q2, hc_q.kept q3 (ho b fun e => ?_) (fun z => ho _ fun e => ?_), q4⟩
    · subst e
      have := q1.symm.trans k0
      omega
    · have := (q4 z).1
      rw [e, k0] at this
      omega
theorem Sh.iset {a : Nat} {x x1 : Nat × (Nat → Int32)} (h : Sh G M H) (h0 : Si M a = some x) (hz : H1.size = H.size) (ho : ∀ q, q ≠ a → H1[q]? = H[q]?) (h1 : hc_i G a x1.1 x1.2 H1) : Sh G (iput M a (some x1)) H1 := by
  obtain ⟨a1, a2, a3, a4, a5, a6⟩ := h
  obtain ⟨k0, kA, kc⟩ := a3 a x h0
  refine ⟨hz.trans a1, ?_, ?_, ?_, ?_, ?_⟩
  · intro c b gs hb
    obtain ⟨q1, q2, q3, q4⟩ := a2 c b gs hb
    refine ⟨q1, q2, q3, hc_o.kept q4 (ho b fun e => ?_)⟩
    subst e
    have := q1.symm.trans k0
    omega
  · intro b y hb
    rw [Si_iput] at hb
    by_cases hc : b = a
    · subst hc
      rw [if_pos rfl] at hb
      cases hb
      exact ⟨k0, kA, h1⟩
    · rw [if_neg hc] at hb
      obtain ⟨q1, q2, q3⟩ := a3 b y hb
      exact ⟨q1, q2, (ho b hc).trans q3⟩
  · intro b y hb
    obtain ⟨q1, q2, q3⟩ := a4 b y hb
    refine ⟨q1, q2, (ho b fun e => ?_).trans q3⟩
    subst e
    have := q1.symm.trans k0
    omega
  · intro k b y hb
    obtain ⟨q1, q2, q3, q4⟩ := a5 k b y hb
    refine ⟨q1, q2, q3, (ho b fun e => ?_).trans q4⟩
    subst e
    have := q1.symm.trans k0
    omega
  · intro b y hb
    obtain ⟨q1, q2, q3, q4⟩ := a6 b y hb
    refine ⟨q1, q2, hc_q.kept q3 (ho b fun e => ?_) (fun z => ho _ fun e => ?_), q4⟩
    · subst e
      have := q1.symm.trans k0
      omega
    · have := (q4 z).1
      rw [e, k0] at this
      omega
theorem Sh.jset {a : Nat} {x x1 : Nat × (Nat → Int64)} (h : Sh G M H) (h0 : Sj M a = some x) (hz : H1.size = H.size) (ho : ∀ q, q ≠ a → H1[q]? = H[q]?) (h1 : hc_j G a x1.1 x1.2 H1) : Sh G (jput M a (some x1)) H1 := by
  obtain ⟨a1, a2, a3, a4, a5, a6⟩ := h
  obtain ⟨k0, kA, kc⟩ := a4 a x h0
  refine ⟨hz.trans a1, ?_, ?_, ?_, ?_, ?_⟩
  · intro c b gs hb
    obtain ⟨q1, q2, q3, q4⟩ := a2 c b gs hb
    refine ⟨q1, q2, q3, hc_o.kept q4 (ho b fun e => ?_)⟩
    subst e
    have := q1.symm.trans k0
    omega
  · intro b y hb
    obtain ⟨q1, q2, q3⟩ := a3 b y hb
    refine ⟨q1, q2, (ho b fun e => ?_).trans q3⟩
    subst e
    have := q1.symm.trans k0
    omega
  · intro b y hb
    rw [Sj_jput] at hb
    by_cases hc : b = a
    · subst hc
      rw [if_pos rfl] at hb
      cases hb
      exact ⟨k0, kA, h1⟩
    · rw [if_neg hc] at hb
      obtain ⟨q1, q2, q3⟩ := a4 b y hb
      exact ⟨q1, q2, (ho b hc).trans q3⟩
  · intro k b y hb
    obtain ⟨q1, q2, q3, q4⟩ := a5 k b y hb
    refine ⟨q1, q2, q3, (ho b fun e => ?_).trans q4⟩
    subst e
    have := q1.symm.trans k0
    omega
  · intro b y hb
    obtain ⟨q1, q2, q3, q4⟩ := a6 b y hb
    refine ⟨q1, q2, hc_q.kept q3 (ho b fun e => ?_) (fun z => ho _ fun e => ?_), q4⟩
    · subst e
      have := q1.symm.trans k0
      omega
    · have := (q4 z).1
      rw [e, k0] at this
      omega
theorem Sh.rset {k a : Nat} {x x1 : Nat × (Nat → Option Nat)} (h : Sh G M H) (h0 : Sr M k a = some x) (hz : H1.size = H.size) (ho : ∀ q, q ≠ a → H1[q]? = H[q]?) (h1 : hc_r G k a x1.1 x1.2 H1) : Sh G (rput M k a (some x1)) H1 := by
  obtain ⟨a1, a2, a3, a4, a5, a6⟩ := h
  obtain ⟨k0, k3, kA, kc⟩ := a5 k a x h0
  refine ⟨hz.trans a1, ?_, ?_, ?_, ?_, ?_⟩
  · intro c b gs hb
    obtain ⟨q1, q2, q3, q4⟩ := a2 c b gs hb
    refine ⟨q1, q2, q3, hc_o.kept q4 (ho b fun e => ?_)⟩
    subst e
    have := q1.symm.trans k0
    omega
  · intro b y hb
    obtain ⟨q1, q2, q3⟩ := a3 b y hb
    refine ⟨q1, q2, (ho b fun e => ?_).trans q3⟩
    subst e
    have := q1.symm.trans k0
    omega
  · intro b y hb
    obtain ⟨q1, q2, q3⟩ := a4 b y hb
    refine ⟨q1, q2, (ho b fun e => ?_).trans q3⟩
    subst e
    have := q1.symm.trans k0
    omega
  · intro c b y hb
    rw [Sr_rput] at hb
    by_cases hc : c = k ∧ b = a
    · obtain ⟨rfl, rfl⟩ := hc
      rw [if_pos ⟨rfl, rfl⟩] at hb
      cases hb
      exact ⟨k0, k3, kA, h1⟩
    · rw [if_neg hc] at hb
      obtain ⟨q1, q2, q3, q4⟩ := a5 c b y hb
      refine ⟨q1, q2, q3, (ho b fun e => hc ⟨?_, e⟩).trans q4⟩
      subst e
      have := q1.symm.trans k0
      omega
  · intro b y hb
    obtain ⟨q1, q2, q3, q4⟩ := a6 b y hb
    refine ⟨q1, q2, hc_q.kept q3 (ho b fun e => ?_) (fun z => ho _ fun e => ?_), q4⟩
    · subst e
      have := q1.symm.trans k0
      omega
    · have := (q4 z).1
      rw [e, k0] at this
      omega
/-- a new cell at the end: the old ones stay -/
theorem Sh.grown {n k : Nat} (h : Sh G M H) (hz : H1.size = H.size + 1) (ho : ∀ q, q < H.size → H1[q]? = H[q]?) : Sh G (grow M n k) H1 := by
  obtain ⟨a1, a2, a3, a4, a5, a6⟩ := h
  have nk : ∀ b, b < H.size → Sk (grow M n k) b = Sk M b := fun b hb => by rw [Sk_grow, if_neg (by omega)]
  refine ⟨by rw [hz, a1]; rfl, ?_, ?_, ?_, ?_, ?_⟩
  · intro c b gs hb
    obtain ⟨q1, q2, q3, q4⟩ := a2 c b gs hb
    have hl := hc_o.lt q4
    exact ⟨(nk b hl).trans q1, q2, q3, hc_o.kept q4 (ho b hl)⟩
  · intro b y hb
    obtain ⟨q1, q2, q3⟩ := a3 b y hb
    exact ⟨(nk b (hc_lt q3)).trans q1, q2, (ho b (hc_lt q3)).trans q3⟩
  · intro b y hb
    obtain ⟨q1, q2, q3⟩ := a4 b y hb
    exact ⟨(nk b (hc_lt q3)).trans q1, q2, (ho b (hc_lt q3)).trans q3⟩
  · intro c b y hb
    obtain ⟨q1, q2, q3, q4⟩ := a5 c b y hb
    exact ⟨(nk b (hc_lt q4)).trans q1, q2, q3, (ho b (hc_lt q4)).trans q4⟩
  · intro b y hb
    obtain ⟨q1, q2, q3, q4⟩ := a6 b y hb
    have hl := hc_o.lt q3.1
    have hd : 0 < y.2.1 → y.2.2.1 < H.size := fun z => hc_lt (q3.2.2 z)
    exact ⟨(nk b hl).trans q1, q2, hc_q.kept q3 (ho b hl) (fun z => ho _ (hd z)), fun z => ⟨(nk _ (hd z)).trans (q4 z).1, (q4 z).2⟩⟩
/-- what stands at an address of no claim is new to all maps -/
theorem Sh.oin {ci a : Nat} {fs : List Value} (h : Sh G M H) (hA : gA G a) (hk : Sk M a = ci) (h20 : ci < 20) (h1 : hc_o G ci a fs H) : Sh G (oput M ci a (some fs)) H := by
  obtain ⟨a1, a2, a3, a4, a5, a6⟩ := h
  refine ⟨a1, ?_, a3, a4, a5, a6⟩
  intro c b gs hb
  rw [So_oput] at hb
  by_cases hc : c = ci ∧ b = a
  · obtain ⟨rfl, rfl⟩ := hc
    rw [if_pos ⟨rfl, rfl⟩] at hb
    cases hb
    exact ⟨hk, h20, hA, h1⟩
  · rw [if_neg hc] at hb
    exact a2 c b gs hb
theorem Sh.iin {a : Nat} {x : Nat × (Nat → Int32)} (h : Sh G M H) (hA : gA G a) (hk : Sk M a = 20) (h1 : hc_i G a x.1 x.2 H) : Sh G (iput M a (some x)) H := by
  obtain ⟨a1, a2, a3, a4, a5, a6⟩ := h
  refine ⟨a1, a2, ?_, a4, a5, a6⟩
  intro b y hb
  rw [Si_iput] at hb
  by_cases hc : b = a
  · subst hc
    rw [if_pos rfl] at hb
    cases hb
    exact ⟨hk, hA, h1⟩
  · rw [if_neg hc] at hb
    exact a3 b y hb
theorem Sh.jin {a : Nat} {x : Nat × (Nat → Int64)} (h : Sh G M H) (hA : gA G a) (hk : Sk M a = 21) (h1 : hc_j G a x.1 x.2 H) : Sh G (jput M a (some x)) H := by
  obtain ⟨a1, a2, a3, a4, a5, a6⟩ := h
  refine ⟨a1, a2, a3, ?_, a5, a6⟩
  intro b y hb
  rw [Sj_jput] at hb
  by_cases hc : b = a
  · subst hc
    rw [if_pos rfl] at hb
    cases hb
    exact ⟨hk, hA, h1⟩
  · rw [if_neg hc] at hb
    exact a4 b y hb
theorem Sh.rin {k a : Nat} {x : Nat × (Nat → Option Nat)} (h : Sh G M H) (hA : gA G a) (hk : Sk M a = 22 + k) (h3 : k < 3) (h1 : hc_r G k a x.1 x.2 H) : Sh G (rput M k a (some x)) H := by
  obtain ⟨a1, a2, a3, a4, a5, a6⟩ := h
  refine ⟨a1, a2, a3, a4, ?_, a6⟩
  intro c b y hb
  rw [Sr_rput] at hb
  by_cases hc : c = k ∧ b = a
  · obtain ⟨rfl, rfl⟩ := hc
    rw [if_pos ⟨rfl, rfl⟩] at hb
    cases hb
    exact ⟨hk, h3, hA, h1⟩
  · rw [if_neg hc] at hb
    exact a5 c b y hb
end SH
/-! what is true of the pure heap by itself: an address has one kind, and lies below the end -/
def Wf (M : hx_S) : Prop :=
  (∀ (ci a : Nat) (fs : List Value), So M ci a = some fs → Sk M a = ci ∧ ci < 20 ∧ a < Sz M) ∧
  (∀ (a : Nat) (x : Nat × (Nat → Int32)), Si M a = some x → Sk M a = 20 ∧ a < Sz M) ∧
  (∀ (a : Nat) (x : Nat × (Nat → Int64)), Sj M a = some x → Sk M a = 21 ∧ a < Sz M) ∧
  (∀ (k a : Nat) (x : Nat × (Nat → Option Nat)), Sr M k a = some x → Sk M a = 22 + k ∧ k < 3 ∧ a < Sz M) ∧
  (∀ (a : Nat) (x : List Nat × Nat × Nat × Int32), Sq M a = some x → Sk M a = 50 ∧ a < Sz M ∧ x.1.length ≤ x.2.1 ∧ (0 < x.2.1 → Sk M x.2.2.1 = 100 + a ∧ x.2.2.1 < Sz M))
section WF
variable {M : hx_S}
theorem Wf.oset {ci a : Nat} {fs fs1 : List Value} (h : Wf M) (h0 : So M ci a = some fs) : Wf (oput M ci a (some fs1)) := by
  obtain ⟨a2, a3, a4, a5, a6⟩ := h
  refine ⟨fun c b gs hb => ?_, a3, a4, a5, a6⟩
  rw [So_oput] at hb
  by_cases hc : c = ci ∧ b = a
  · obtain ⟨rfl, rfl⟩ := hc
    exact a2 _ _ _ h0
  · rw [if_neg hc] at hb
    exact a2 c b gs hb
theorem Wf.iset {a : Nat} {x x1 : Nat × (Nat → Int32)} (h : Wf M) (h0 : Si M a = some x) : Wf (iput M a (some x1)) := by
  obtain ⟨a2, a3, a4, a5, a6⟩ := h
  refine ⟨a2, fun b gs hb => ?_, a4, a5, a6⟩
  rw [Si_iput] at hb
  by_cases hc : b = a
  · subst hc
    exact a3 _ _ h0
  · rw [if_neg hc] at hb
    exact a3 b gs hb
theorem Wf.jset {a : Nat} {x x1 : Nat × (Nat → Int64)} (h : Wf M) (h0 : Sj M a = some x) : Wf (jput M a (some x1)) := by
  obtain ⟨a2, a3, a4, a5, a6⟩ := h
  refine ⟨a2, a3, fun b gs hb => ?_, a5, a6⟩
  rw [Sj_jput] at hb
  by_cases hc : b = a
  · subst hc
    exact a4 _ _ h0
  · rw [if_neg hc] at hb
    exact a4 b gs hb
theorem Wf.rset {k a : Nat} {x x1 : Nat × (Nat → Option Nat)} (h : Wf M) (h0 : Sr M k a = some x) : Wf (rput M k a (some x1)) := by
  obtain ⟨a2, a3, a4, a5, a6⟩ := h
  refine ⟨a2, a3, a4, fun c b gs hb => ?_, a6⟩
  rw [Sr_rput] at hb
  by_cases hc : c = k ∧ b = a
  · obtain ⟨rfl, rfl⟩ := hc
    exact a5 _ _ _ h0
  · rw [if_neg hc] at hb
    exact a5 c b gs hb
theorem Wf.grown {n k : Nat} (h : Wf M) : Wf (grow M n k) := by
  obtain ⟨a2, a3, a4, a5, a6⟩ := h
  have nk : ∀ b, b < Sz M → Sk (grow M n k) b = Sk M b := fun b hb => by rw [Sk_grow, if_neg (by omega)]
  have nz : ∀ b, b < Sz M → b < Sz (grow M n k) := fun b hb => by show b < Sz M + 1; omega
  refine ⟨fun c b gs hb => ?_, fun b x hb => ?_, fun b x hb => ?_, fun c b x hb => ?_, fun b x hb => ?_⟩
  · obtain ⟨q1, q2, q3⟩ := a2 c b gs hb
    exact ⟨(nk b q3).trans q1, q2, nz b q3⟩
  · obtain ⟨q1, q3⟩ := a3 b x hb
    exact ⟨(nk b q3).trans q1, nz b q3⟩
  · obtain ⟨q1, q3⟩ := a4 b x hb
    exact ⟨(nk b q3).trans q1, nz b q3⟩
  · obtain ⟨q1, q2, q3⟩ := a5 c b x hb
    exact ⟨(nk b q3).trans q1, q2, nz b q3⟩
  · obtain ⟨q1, q2, q3, q4⟩ := a6 b x hb
    exact ⟨(nk b q2).trans q1, nz b q2, q3, fun z => ⟨(nk _ (q4 z).2).trans (q4 z).1, nz _ (q4 z).2⟩⟩
theorem Wf.oin {ci a : Nat} {fs : List Value} (h : Wf M) (hk : Sk M a = ci) (h20 : ci < 20) (hz : a < Sz M) : Wf (oput M ci a (some fs)) := by
  obtain ⟨a2, a3, a4, a5, a6⟩ := h
  refine ⟨fun c b gs hb => ?_, a3, a4, a5, a6⟩
  rw [So_oput] at hb
  by_cases hc : c = ci ∧ b = a
  · obtain ⟨rfl, rfl⟩ := hc
    exact ⟨hk, h20, hz⟩
  · rw [if_neg hc] at hb
    exact a2 c b gs hb
theorem Wf.iin {a : Nat} {x : Nat × (Nat → Int32)} (h : Wf M) (hk : Sk M a = 20) (hz : a < Sz M) : Wf (iput M a (some x)) := by
  obtain ⟨a2, a3, a4, a5, a6⟩ := h
  refine ⟨a2, fun b gs hb => ?_, a4, a5, a6⟩
  rw [Si_iput] at hb
  by_cases hc : b = a
  · subst hc
    exact ⟨hk, hz⟩
  · rw [if_neg hc] at hb
    exact a3 b gs hb
theorem Wf.jin {a : Nat} {x : Nat × (Nat → Int64)} (h : Wf M) (hk : Sk M a = 21) (hz : a < Sz M) : Wf (jput M a (some x)) := by
  obtain ⟨a2, a3, a4, a5, a6⟩ := h
  refine ⟨a2, a3, fun b gs hb => ?_, a5, a6⟩
  rw [Sj_jput] at hb
  by_cases hc : b = a
  · subst hc
    exact ⟨hk, hz⟩
  · rw [if_neg hc] at hb
    exact a4 b gs hb
theorem Wf.rin {k a : Nat} {x : Nat × (Nat → Option Nat)} (h : Wf M) (hk : Sk M a = 22 + k) (h3 : k < 3) (hz : a < Sz M) : Wf (rput M k a (some x)) := by
  obtain ⟨a2, a3, a4, a5, a6⟩ := h
  refine ⟨a2, a3, a4, fun c b gs hb => ?_, a6⟩
  rw [Sr_rput] at hb
  by_cases hc : c = k ∧ b = a
  · obtain ⟨rfl, rfl⟩ := hc
    exact ⟨hk, h3, hz⟩
  · rw [if_neg hc] at hb
    exact a5 c b gs hb
theorem Wf.newo {ci n : Nat} {fs : List Value} (h : Wf M) (h20 : ci < 20) : Wf (oput (grow M n ci) ci (Sz M) (some fs)) := Wf.oin (Wf.grown h) (by rw [Sk_grow, if_pos rfl]) h20 (by show Sz M < Sz M + 1; omega)
theorem Wf.newi {n : Nat} {x : Nat × (Nat → Int32)} (h : Wf M) : Wf (iput (grow M n 20) (Sz M) (some x)) := Wf.iin (Wf.grown h) (by rw [Sk_grow, if_pos rfl]) (by show Sz M < Sz M + 1; omega)
theorem Wf.newj {n : Nat} {x : Nat × (Nat → Int64)} (h : Wf M) : Wf (jput (grow M n 21) (Sz M) (some x)) := Wf.jin (Wf.grown h) (by rw [Sk_grow, if_pos rfl]) (by show Sz M < Sz M + 1; omega)
theorem Wf.newr {n k : Nat} {x : Nat × (Nat → Option Nat)} (h : Wf M) (h3 : k < 3) : Wf (rput (grow M n (22 + k)) k (Sz M) (some x)) := Wf.rin (Wf.grown h) (by rw [Sk_grow, if_pos rfl]) h3 (by show Sz M < Sz M + 1; omega)
end WF
