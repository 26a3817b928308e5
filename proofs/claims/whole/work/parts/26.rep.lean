/-! THE STATE IN THE HEAP. A: fixed addresses; Γ: the graph's; γ: ghosts of frames and cells -/
abbrev hA : Type := Nat → Nat
abbrev N3 : Type := Nat × Nat × Nat
abbrev ND : Type := Nat × Int32 × List N3
abbrev R3 : Type := Nat × Nat × (Nat → Option V2)
abbrev hG : Type := Nat → Nat → Nat
abbrev aT (A : hA) : Nat := A 0
abbrev aV (A : hA) : Nat := A 1
abbrev aN (A : hA) : Nat := A 2
abbrev aF (A : hA) : Nat := A 3
abbrev aM (A : hA) : Nat := A 4
abbrev aE (A : hA) : Nat := A 5
abbrev aR (A : hA) : Nat := A 6
abbrev aX (A : hA) : Nat := A 7
abbrev aO (A : hA) : Nat := A 8
abbrev aS (A : hA) : Nat := A 9
abbrev aU (A : hA) : Nat := A 10
abbrev aC (A : hA) : Nat := A 11
abbrev aW (A : hA) : Nat := A 12
abbrev aL (A : hA) : Nat := A 13
abbrev aQ (A : hA) : Nat := A 14
abbrev aZ (A : hA) : Nat := A 15
abbrev nad (Γ : hG) (i : Nat) : Nat := Γ 0 i
abbrev nar (Γ : hG) (i : Nat) : Nat := Γ 1 i
abbrev nfr (Γ : hG) (i : Nat) : Nat := Γ 2 i
def prt (o : Nat) : Nat := ([1, 2, 2, 2, 2, 2, 1, 2, 1, 1, 1, 1, 1, 1, 1, 2, 3, 1] : List Nat).getD o 1
def nd (σ : hs_S) (i : Nat) : Nat × Int32 × List (Nat × Nat × Nat) := ((sN σ)[i]?).getD (0, 0, [])
def pts (σ : hs_S) (i : Nat) : Nat := prt (nd σ i).1
def cnt (t : Nat → Option V2) : Nat := (if (t 0).isSome then 1 else 0) + (if (t 1).isSome then 1 else 0) + (if (t 2).isSome then 1 else 0)
def no3 : Nat → Option V2 := fun _ => none
theorem cnt_no : cnt no3 = 0 := rfl
theorem cnt_le (t : Nat → Option V2) : cnt t ≤ 3 := by unfold cnt; split <;> split <;> split <;> omega
/-- those kept for cell c -/
def kf (σ : hs_S) (c : Nat) : List (Nat × Nat × Nat) := (sK σ).filter (fun x => x.2.2 == c)
/-- a reference at a port or in a cell -/
def OV (M : hx_S) (nv w : Nat) (o : Option V2) : Prop := (o = none ∧ w = nv) ∨ (∃ v : V2, o = some v ∧ So M 9 w = some [.int v.1, .long v.2] ∧ v.1 ≠ 3)
/-- a frame: f holds t for the node at na in c -/
def FRM (M : hx_S) (ro : Nat → Nat × Nat) (nv f na : Nat) (c : Int32) (t : Nat → Option V2) : Prop := ∃ va w0 w1 w2, ro va = (8, f) ∧ So M 5 f = some [.ref nv, .ref va, .ref na, .int c, .int (nI (cnt t))] ∧ Sr M 1 va = some (3, v3 (some w0) (some w1) (some w2)) ∧ OV M nv w0 (t 0) ∧ OV M nv w1 (t 1) ∧ OV M nv w2 (t 2)
def act (n : Nat) (γ : hf_S) (r : Nat × Nat) : Prop := r = (2, 0) ∨ r = (3, 0) ∨ (r.1 = 6 ∧ r.2 < n) ∨ (r.1 = 7 ∧ ∃ a, gcd γ r.2 = some a)
def ad (A : hA) (Γ : hG) (γ : hf_S) (r : Nat × Nat) : Nat := if r.1 = 2 then aE A else if r.1 = 3 then aR A else if r.1 = 6 then nfr Γ r.2 else gkl γ r.2
/-- the frames in the heap -/
def HF (M : hx_S) (A : hA) (Γ : hG) (n : Nat) (γ : hf_S) : Prop :=
  (LQ M (aM A) (gMD γ) ∧ gro γ (aM A) = (1, 0)) ∧
  (∀ r, act n γ r → LQ M (ad A Γ γ r) (gG γ r) ∧ gro γ (ad A Γ γ r) = r) ∧
  (∀ f, f ∈ gMD γ → FRM M (gro γ) (aV A) f (gna γ f) (gfc γ f) (gft γ f)) ∧
  So M 6 (aF A) = some [.ref (aV A), .ref (aM A), .ref (aE A)] ∧ So M 9 (aV A) = some [.int 3, .long 0]
/-- what the frames mean -/
def PF (Γ : hG) (σ : hs_S) (γ : hf_S) : Prop :=
  (gMD γ).Nodup ∧
  (∀ r, act (sN σ).length γ r → (gG γ r).Nodup ∧ ∀ f, f ∈ gG γ r → f ∈ gMD γ ∧ gpl γ f = r) ∧
  (∀ f, f ∈ gG γ (2, 0) → gft γ f = no3) ∧
  (∀ i, i < (sN σ).length → (∀ f, f ∈ gG γ (6, i) → gna γ f = nad Γ i ∧ ∃ c, c < 151 ∧ gfc γ f = nI c ∧ gft γ f = sT σ i c) ∧ (∀ f g, f ∈ gG γ (6, i) → g ∈ gG γ (6, i) → gfc γ f = gfc γ g → f = g) ∧ (∀ c, c < 151 → (∃ f, f ∈ gG γ (6, i) ∧ gfc γ f = nI c) ∨ sT σ i c = no3)) ∧
  (sR σ).map (fun x => (nad Γ x.1, nI x.2.1, x.2.2)) = (gG γ (3, 0)).map (fun f => (gna γ f, gfc γ f, gft γ f)) ∧
  (∀ c, (∃ a, gcd γ c = some a) → (kf σ c).map (fun x => (nad Γ x.1, nI x.2.1, no3)) = (gG γ (7, c)).map (fun f => (gna γ f, gfc γ f, gft γ f))) ∧
  (∀ c, gcd γ c = none → kf σ c = [])
/-- the graph -/
def GP (M : hx_S) (A : hA) (Γ : hG) (σ : hs_S) (γ : hf_S) : Prop :=
  LQ M (aN A) ((List.range (sN σ).length).map (nad Γ)) ∧ gro γ (aN A) = (0, 0) ∧
  (∀ (i : Nat) (x : ND), (sN σ)[i]? = some x → So M 7 (nad Γ i) = some [.int (nI i), .int (nI x.1), .int x.2.1, .int (nI (prt x.1)), .int (tabX.getD x.1 0), .int (tabY.getD x.1 0), .ref (nar Γ i), .ref (nfr Γ i)] ∧ gro γ (nar Γ i) = (5, i) ∧
    ∃ ys, LQ M (nar Γ i) ys ∧ ys.length = x.2.2.length ∧ ∀ (k a : Nat) (e : N3), ys[k]? = some a → x.2.2[k]? = some e → So M 1 a = some [.int (nI e.1), .ref (nad Γ e.2.1), .int (nI e.2.2)])
/-- the cells -/
def EP (M : hx_S) (A : hA) (σ : hs_S) (γ : hf_S) : Prop :=
  So M 3 (aC A) = some [.ref (aV A), .ref (aW A), .ref (aL A), .int (nI (sA σ))] ∧ (Sr M 0 (aW A) = some (320, gcd γ) ∧ gro γ (aW A) = (12, 0)) ∧
  (∃ fl, Si M (aL A) = some (40, fl) ∧ ∀ k, k < sA σ → fl k = nI (sLe σ k)) ∧ (gro γ (aL A) = (11, 3) ∧ gro γ (aO A) = (11, 0) ∧ gro γ (aS A) = (11, 1) ∧ gro γ (aU A) = (11, 2)) ∧
  (∀ c a, gcd γ c = some a → c < 320 ∧ gro γ a = (9, c) ∧ ∃ w, So M 2 a = some [.ref (gkl γ c), .ref w] ∧ OV M (aV A) w (sCe σ c)) ∧
  (∀ k i, k < sA σ → i < sLe σ k → ∃ a, gcd γ (8 * k + i) = some a)
/-- the results -/
def RP (M : hx_S) (A : hA) (σ : hs_S) (γ : hf_S) : Prop := gro γ (aQ A) = (4, 0) ∧ ∃ xs, LQ M (aQ A) xs ∧ xs.length = (sRs σ).length ∧ ∀ (k a : Nat) (x : V2 × Nat), xs[k]? = some a → (sRs σ)[k]? = some x → ∃ w, So M 8 a = some [.ref w, .int (nI x.2)] ∧ So M 9 w = some [.int x.1.1, .long x.1.2]
def HDf (A : hA) (σ : hs_S) : List Value := [.ref (aV A), .ref (aN A), .ref (aF A), .ref (aR A), .ref (aX A), .ref (aC A), .ref (aQ A), .int (nI (sNt σ)), .int (nI (sK σ).length), .int (nI (sTr σ)), .int (nI (sW σ)), .int (nI (sAl σ)), .int (nI (sB σ))]
/-- the account: m frames are made, k are kept -/
def AP (M : hx_S) (A : hA) (fre : List Nat) (m k b : Nat) : Prop := ∃ cap y, acc M (aE A) (aZ A) + pfr m cap + 1500 * k ≤ b ∧ aZ A ≤ Sz M ∧ Sq M (aE A) = some (fre, cap, y) ∧ (cap = 0 ∨ 10 ≤ cap) ∧ (∀ a x, Sq M a = some x → x.2.1 ≤ Sl M)
/-- a value that may be about: a number, an error of 1 .. 4, an array that there is -/
def GV (na : Nat) (v : V2) : Prop := v.1 = 0 ∨ (v.1 = 1 ∧ ∃ e : Nat, 1 ≤ e ∧ e ≤ 4 ∧ v.2 = lN e) ∨ (v.1 = 2 ∧ ∃ k : Nat, k < na ∧ v.2 = lN k)
theorem GV.ne3 {na : Nat} {v : V2} (h : GV na v) : v.1 ≠ 3 := by
  rcases h with h | h | h
  · rw [h]; decide
  · rw [h.1]; decide
  · rw [h.1]; decide
def GT (na n : Nat) (t : Nat → Option V2) : Prop := ∀ p v, t p = some v → p < n ∧ GV na v
/-- what is true of the state by itself -/
def GS (σ : hs_S) : Prop :=
  (sN σ).length ≤ 40 ∧
  (∀ (i : Nat) (x : ND), (sN σ)[i]? = some x → x.1 < 18 ∧ x.2.2.length ≤ 6 ∧ ∀ e : N3, e ∈ x.2.2 → e.1 ≤ 1 ∧ e.2.1 < (sN σ).length ∧ e.2.2 < pts σ e.2.1) ∧
  (1 ≤ (sC σ).length ∧ (sC σ).length ≤ 151 ∧ (sC σ)[0]? = some ((-1, 0, 0) : T3) ∧ ∀ (j : Nat) (e : T3), 0 < j → (sC σ)[j]? = some e → ∃ k, k < (sC σ).length ∧ e.1 = nI k) ∧
  (sA σ ≤ 40 ∧ (∀ k, k < sA σ → sLe σ k ≤ 8) ∧ (∀ (c : Nat) (v : V2), sCe σ c = some v → c < 8 * sA σ ∧ GV (sA σ) v)) ∧
  (∀ i c, GT (sA σ) (pts σ i) (sT σ i c) ∧ ((∃ p, sT σ i c p ≠ none) → i < (sN σ).length ∧ c < (sC σ).length)) ∧
  (∀ x : R3, x ∈ sR σ → x.1 < (sN σ).length ∧ x.2.1 < (sC σ).length ∧ GT (sA σ) (pts σ x.1) x.2.2 ∧ ∀ p, p < pts σ x.1 → x.2.2 p ≠ none) ∧
  (∀ x : N3, x ∈ sK σ → x.1 < (sN σ).length ∧ x.2.1 < (sC σ).length ∧ ∃ k i, k < sA σ ∧ i < sLe σ k ∧ x.2.2 = 8 * k + i) ∧
  (∀ x : V2 × Nat, x ∈ sRs σ → GV (sA σ) x.1 ∧ x.2 < (sC σ).length) ∧
  (sNt σ + (sR σ).length + (sK σ).length ≤ 300 ∧ sTr σ ≤ 3 ∧ sW σ ≤ sAl σ ∧ sAl σ ≤ 5000 ∧ (sRs σ).length ≤ sW σ ∧ sB σ ≤ 1) ∧
  (∃ T : List N3, T.Nodup ∧ (∀ i c p, (i, c, p) ∈ T ↔ (sT σ i c p).isSome = true) ∧ T.length = sNt σ)
/-- the object holds σ (but for its own fields); b: the account's bound -/
def RepB (M : hx_S) (A : hA) (Γ : hG) (σ : hs_S) (γ : hf_S) (b : Nat) : Prop :=
  GP M A Γ σ γ ∧ HF M A Γ (sN σ).length γ ∧ PF Γ σ γ ∧ CX M (aX A) (aO A) (aS A) (aU A) (sC σ) ∧ EP M A σ γ ∧ RP M A σ γ ∧ AP M A (gG γ (2, 0)) (gMD γ).length (sK σ).length b
def Rep (M : hx_S) (A : hA) (Γ : hG) (σ : hs_S) (γ : hf_S) (b : Nat) : Prop := So M 10 (aT A) = some (HDf A σ) ∧ RepB M A Γ σ γ b ∧ GS σ
section REP
variable {M M1 : hx_S} {A : hA} {Γ : hG} {σ : hs_S} {γ : hf_S} {b n : Nat} {r0 : Nat × Nat} {cs : Nat → Nat → Prop} {qs rs is : Nat → Prop}
theorem act_n0 {r : Nat × Nat} (h : act n γ r) : r.1 = 2 ∨ r.1 = 3 ∨ r.1 = 6 ∨ r.1 = 7 := by
  rcases h with h | h | h | h
  · rw [h]; exact Or.inl rfl
  · rw [h]; exact Or.inr (Or.inl rfl)
  · exact Or.inr (Or.inr (Or.inl h.1))
  · exact Or.inr (Or.inr (Or.inr h.1))
theorem OV.ext {nv w : Nat} {o : Option V2} (h : OV M nv w o) (e : Ext M M1 cs qs rs is) (h9 : ∀ x, ¬ cs 9 x) : OV M1 nv w o := by
  rcases h with h | ⟨v, h1, h2, h3⟩
  · exact Or.inl h
  · exact Or.inr ⟨v, h1, e.so h2 (h9 w), h3⟩
theorem FRM.ext {ro : Nat → Nat × Nat} {nv f na : Nat} {c : Int32} {t : Nat → Option V2} (h : FRM M ro nv f na c t) (e : Ext M M1 cs qs rs is) (h9 : ∀ x, ¬ cs 9 x) (h5 : ¬ cs 5 f) (hr : ∀ x, rs x → ro x ≠ (8, f)) : FRM M1 ro nv f na c t := by
  obtain ⟨va, w0, w1, w2, k1, k2, k3, k4, k5, k6⟩ := h
  exact ⟨va, w0, w1, w2, k1, e.so k2 h5, e.2.2.1 _ _ _ k3 (fun z => hr va z k1), k4.ext e h9, k5.ext e h9, k6.ext e h9⟩
theorem GP.ext (h : GP M A Γ σ γ) (e : Ext M M1 cs qs rs is) (h7 : ∀ x, ¬ cs 7 x) (h1 : ∀ x, ¬ cs 1 x) (hq : ∀ x, qs x → (gro γ x).1 ≠ 0 ∧ (gro γ x).1 ≠ 5) : GP M1 A Γ σ γ := by
  obtain ⟨k1, k2, k3⟩ := h
  refine ⟨e.lq k1 (fun z => (hq _ z).1 (by rw [k2])), k2, fun i x hi => ?_⟩
  obtain ⟨m1, m2, ys, m3, m4, m5⟩ := k3 i x hi
  exact ⟨e.so m1 (h7 _), m2, ys, e.lq m3 (fun z => (hq _ z).2 (by rw [m2])), m4, fun k a q u v => e.so (m5 k a q u v) (h1 _)⟩
theorem HF.ext (h : HF M A Γ n γ) (e : Ext M M1 cs qs rs is) (h9 : ∀ x, ¬ cs 9 x) (h5 : ∀ x, ¬ cs 5 x) (h6 : ∀ x, ¬ cs 6 x) (hr : ∀ x, rs x → (gro γ x).1 ≠ 8) (hq : ∀ x, qs x → (gro γ x).1 = 0 ∨ (gro γ x).1 = 4 ∨ (gro γ x).1 = 5) : HF M1 A Γ n γ := by
  obtain ⟨⟨k1, k2⟩, k3, k4, k5, k6⟩ := h
  refine ⟨⟨e.lq k1 (fun z => by have := hq _ z; rw [k2] at this; omega), k2⟩, fun r hr0 => ?_, fun f hf => (k4 f hf).ext e h9 (h5 f) (fun x hx hy => hr x hx (by rw [hy])), e.so k5 (h6 _), e.so k6 (h9 _)⟩
  obtain ⟨m1, m2⟩ := k3 r hr0
  exact ⟨e.lq m1 (fun z => by have := hq _ z; rw [m2] at this; have := act_n0 hr0; omega), m2⟩
theorem EP.ext (h : EP M A σ γ) (e : Ext M M1 cs qs rs is) (h9 : ∀ x, ¬ cs 9 x) (h3 : ∀ x, ¬ cs 3 x) (h2 : ∀ x, ¬ cs 2 x) (hr : ∀ x, rs x → (gro γ x).1 ≠ 12) (hi : ∀ x, is x → gro γ x ≠ (11, 3)) : EP M1 A σ γ := by
  obtain ⟨k1, ⟨k2, k3⟩, ⟨fl, k4, k5⟩, k6, k7, k8⟩ := h
  refine ⟨e.so k1 (h3 _), ⟨e.2.2.1 _ _ _ k2 (fun z => hr _ z (by rw [k3])), k3⟩, ⟨fl, e.2.2.2.1 _ _ k4 (fun z => hi _ z k6.1), k5⟩, k6, fun c a hc => ?_, k8⟩
  obtain ⟨m1, m2, w, m3, m4⟩ := k7 c a hc
  exact ⟨m1, m2, w, e.so m3 (h2 _), m4.ext e h9⟩
theorem RP.ext (h : RP M A σ γ) (e : Ext M M1 cs qs rs is) (h9 : ∀ x, ¬ cs 9 x) (h8 : ∀ x, ¬ cs 8 x) (hq : ∀ x, qs x → (gro γ x).1 ≠ 4) : RP M1 A σ γ := by
  obtain ⟨k0, xs, k1, k2, k3⟩ := h
  refine ⟨k0, xs, e.lq k1 (fun z => hq _ z (by rw [k0])), k2, fun k a x u v => ?_⟩
  obtain ⟨w, m1, m2⟩ := k3 k a x u v
  exact ⟨w, e.so m1 (h8 _), e.so m2 (h9 _)⟩
theorem CX.ext {cx co c2 cr : Nat} {L : List T3} (h : CX M cx co c2 cr L) (e : Ext M M1 cs qs rs is) (h4 : ∀ x, ¬ cs 4 x) (hi : ¬ is co ∧ ¬ is c2 ∧ ¬ is cr) : CX M1 cx co c2 cr L := by
  obtain ⟨k1, ⟨fo, fs, fr, k2, k3, k4, k5⟩, k6⟩ := h
  exact ⟨e.so k1 (h4 _), ⟨fo, fs, fr, e.2.2.2.1 _ _ k2 hi.1, e.2.2.2.1 _ _ k3 hi.2.1, e.2.2.2.1 _ _ k4 hi.2.2, k5⟩, k6⟩
/-- a list of frames has changed -/
theorem HF.list (h : HF M A Γ n γ) (e : Ext M M1 no2 (fun x => x = ad A Γ γ r0) no1 no1) {l : List Nat} (h0 : act n γ r0) (hl : LQ M1 (ad A Γ γ r0) l) : HF M1 A Γ n (wG γ (fun r => if r = r0 then l else gG γ r)) := by
  obtain ⟨⟨k1, k2⟩, k3, k4, k5, k6⟩ := h
  have e0 := (k3 r0 h0).2
  have n0 := act_n0 h0
  refine ⟨⟨e.lq k1 (fun z => by rw [z, e0] at k2; rw [k2] at n0; revert n0; decide), k2⟩, fun r hr => ?_, fun f hf => (k4 f hf).ext e (fun _ => id) id (fun _ => False.elim), e.so k5 id, e.so k6 id⟩
  have hr' : act n γ r := hr
  obtain ⟨m1, m2⟩ := k3 r hr'
  refine ⟨?_, m2⟩
  show LQ M1 (ad A Γ γ r) (if r = r0 then l else gG γ r)
  by_cases hrr : r = r0
  · rw [if_pos hrr, hrr]; exact hl
  · rw [if_neg hrr]; exact e.lq m1 (fun z => hrr (by rw [← m2, ← e0, z]))
/-- a frame has changed -/
theorem HF.frame (h : HF M A Γ n γ) {f va na : Nat} {c : Int32} {t : Nat → Option V2} (e : Ext M M1 (fun c' x => c' = 5 ∧ x = f) no1 (fun x => x = va) no1) (hva : gro γ va = (8, f)) (hf : FRM M1 (gro γ) (aV A) f na c t) : HF M1 A Γ n (wft (wfc (wna γ (fun x => if x = f then na else gna γ x)) (fun x => if x = f then c else gfc γ x)) (fun x => if x = f then t else gft γ x)) := by
  obtain ⟨⟨k1, k2⟩, k3, k4, k5, k6⟩ := h
  refine ⟨⟨e.lq k1 id, k2⟩, fun r hr => ?_, fun g hg => ?_, e.so k5 (fun z => absurd z.1 (by decide)), e.so k6 (fun z => absurd z.1 (by decide))⟩
  · have hr' : act n γ r := hr
    obtain ⟨m1, m2⟩ := k3 r hr'
    exact ⟨e.lq m1 id, m2⟩
  · show FRM M1 (gro γ) (aV A) g (if g = f then na else gna γ g) (if g = f then c else gfc γ g) (if g = f then t else gft γ g)
    by_cases hgf : g = f
    · rw [if_pos hgf, if_pos hgf, if_pos hgf, hgf]; exact hf
    · rw [if_neg hgf, if_neg hgf, if_neg hgf]
      exact (k4 g hg).ext e (fun _ z => absurd z.1 (by decide)) (fun z => hgf z.2) (fun x hx hy => hgf (by rw [hx, hva] at hy; exact (Prod.mk.inj hy).2.symm))
end REP
