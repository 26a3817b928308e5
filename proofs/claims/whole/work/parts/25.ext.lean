/-! WHAT STAYS: every cell of M stands in M1 as it was, but those named (objects, lists, arrays of references, int arrays) -/
def Ext (M M1 : hx_S) (cs : Nat → Nat → Prop) (qs rs is : Nat → Prop) : Prop :=
  (∀ c b v, So M c b = some v → ¬ cs c b → So M1 c b = some v) ∧
  (∀ b v, Sq M b = some v → ¬ qs b → Sq M1 b = some v) ∧
  (∀ k b v, Sr M k b = some v → ¬ rs b → Sr M1 k b = some v) ∧
  (∀ b v, Si M b = some v → ¬ is b → Si M1 b = some v) ∧
  (∀ b v, Sj M b = some v → Sj M1 b = some v) ∧ Sz M ≤ Sz M1
abbrev no1 : Nat → Prop := fun _ => False
abbrev no2 : Nat → Nat → Prop := fun _ _ => False
def LQ (M : hx_S) (a : Nat) (xs : List Nat) : Prop := ∃ y, Sq M a = some (xs, y)
section EXT
variable {M M1 M2 : hx_S} {cs cs' : Nat → Nat → Prop} {qs rs is qs' rs' is' : Nat → Prop}
theorem Ext.rf (M : hx_S) : Ext M M cs qs rs is := ⟨fun _ _ _ h _ => h, fun _ _ h _ => h, fun _ _ _ h _ => h, fun _ _ h _ => h, fun _ _ h => h, Nat.le_refl _⟩
theorem Ext.tr (h : Ext M M1 cs qs rs is) (k : Ext M1 M2 cs qs rs is) : Ext M M2 cs qs rs is :=
  ⟨fun c b v a n => k.1 c b v (h.1 c b v a n) n, fun b v a n => k.2.1 b v (h.2.1 b v a n) n, fun c b v a n => k.2.2.1 c b v (h.2.2.1 c b v a n) n, fun b v a n => k.2.2.2.1 b v (h.2.2.2.1 b v a n) n, fun b v a => k.2.2.2.2.1 b v (h.2.2.2.2.1 b v a), Nat.le_trans h.2.2.2.2.2 k.2.2.2.2.2⟩
theorem Ext.mono (h : Ext M M1 cs qs rs is) (h1 : ∀ c b, cs c b → cs' c b) (h2 : ∀ b, qs b → qs' b) (h3 : ∀ b, rs b → rs' b) (h4 : ∀ b, is b → is' b) : Ext M M1 cs' qs' rs' is' :=
  ⟨fun c b v a n => h.1 c b v a (fun z => n (h1 _ _ z)), fun b v a n => h.2.1 b v a (fun z => n (h2 _ z)), fun c b v a n => h.2.2.1 c b v a (fun z => n (h3 _ z)), fun b v a n => h.2.2.2.1 b v a (fun z => n (h4 _ z)), h.2.2.2.2.1, h.2.2.2.2.2⟩
theorem Ext.so (h : Ext M M1 cs qs rs is) {c b : Nat} {v : List Value} (k : So M c b = some v) (n : ¬ cs c b) : So M1 c b = some v := h.1 c b v k n
theorem Ext.lq (h : Ext M M1 cs qs rs is) {b : Nat} {xs : List Nat} (k : LQ M b xs) (n : ¬ qs b) : LQ M1 b xs := let ⟨y, hy⟩ := k; ⟨y, h.2.1 b _ hy n⟩
theorem ext_oput {c a : Nat} {x : Option (List Value)} : Ext M (oput M c a x) (fun c' b => c' = c ∧ b = a) no1 no1 no1 :=
  ⟨fun c' b v h n => by rw [So_oput, if_neg n]; exact h, fun _ _ h _ => h, fun _ _ _ h _ => h, fun _ _ h _ => h, fun _ _ h => h, Nat.le_refl _⟩
theorem ext_qput {a : Nat} {x : Option (List Nat × Nat × Nat × Int32)} : Ext M (qput M a x) no2 (fun b => b = a) no1 no1 :=
  ⟨fun _ _ _ h _ => h, fun b v h n => by rw [Sq_qput, if_neg n]; exact h, fun _ _ _ h _ => h, fun _ _ h _ => h, fun _ _ h => h, Nat.le_refl _⟩
theorem ext_rput {k a : Nat} {x : Option (Nat × (Nat → Option Nat))} : Ext M (rput M k a x) no2 no1 (fun b => b = a) no1 :=
  ⟨fun _ _ _ h _ => h, fun _ _ h _ => h, fun k' b v h n => by rw [Sr_rput, if_neg (fun z => n z.2)]; exact h, fun _ _ h _ => h, fun _ _ h => h, Nat.le_refl _⟩
theorem ext_iput {a : Nat} {x : Option (Nat × (Nat → Int32))} : Ext M (iput M a x) no2 no1 no1 (fun b => b = a) :=
  ⟨fun _ _ _ h _ => h, fun _ _ h _ => h, fun _ _ _ h _ => h, fun b v h n => by rw [Si_iput, if_neg n]; exact h, fun _ _ h => h, Nat.le_refl _⟩
theorem ext_grow {n k : Nat} : Ext M (grow M n k) no2 no1 no1 no1 :=
  ⟨fun _ _ _ h _ => h, fun _ _ h _ => h, fun _ _ _ h _ => h, fun _ _ h _ => h, fun _ _ h => h, Nat.le_succ _⟩
/-- what is new is new -/
theorem Wf.nso (h : Wf M) {c b : Nat} (hb : Sz M ≤ b) : So M c b = none := by
  cases e : So M c b with
  | none => rfl
  | some v => have := (h.1 c b v e).2.2; omega
theorem Wf.nsq (h : Wf M) {b : Nat} (hb : Sz M ≤ b) : Sq M b = none := by
  cases e : Sq M b with
  | none => rfl
  | some v => have := (h.2.2.2.2 b v e).2.1; omega
theorem Wf.nsr (h : Wf M) {k b : Nat} (hb : Sz M ≤ b) : Sr M k b = none := by
  cases e : Sr M k b with
  | none => rfl
  | some v => have := (h.2.2.2.1 k b v e).2.2; omega
theorem Wf.nsi (h : Wf M) {b : Nat} (hb : Sz M ≤ b) : Si M b = none := by
  cases e : Si M b with
  | none => rfl
  | some v => have := (h.2.1 b v e).2; omega
theorem ext_new (hw : Wf M) {c n : Nat} {x : Option (List Value)} : Ext M (oput (grow M n c) c (Sz M) x) no2 no1 no1 no1 :=
  ⟨fun c' b v h _ => by rw [So_oput, if_neg (fun z => by rw [z.1, z.2, hw.nso (Nat.le_refl _)] at h; cases h)]; exact h, fun _ _ h _ => h, fun _ _ _ h _ => h, fun _ _ h _ => h, fun _ _ h => h, Nat.le_succ _⟩
theorem ext_nq (hw : Wf M) : Ext M (nq M) no2 no1 no1 no1 :=
  ⟨fun _ _ _ h _ => h, fun b v h _ => by rw [Sq_nq, if_neg (fun z => by rw [z, hw.nsq (Nat.le_refl _)] at h; cases h)]; exact h, fun _ _ _ h _ => h, fun _ _ h _ => h, fun _ _ h => h, Nat.le_succ _⟩
theorem ext_nr (hw : Wf M) {k n : Nat} {f : Nat → Option Nat} : Ext M (nr M k n f) no2 no1 no1 no1 :=
  ⟨fun _ _ _ h _ => h, fun _ _ h _ => h, fun k' b v h _ => by unfold nr; rw [Sr_rput, if_neg (fun z => by rw [z.2, hw.nsr (Nat.le_refl _)] at h; cases h)]; exact h, fun _ _ h _ => h, fun _ _ h => h, Nat.le_succ _⟩
theorem Sz_addq {a v : Nat} {x : List Nat × Nat × Nat × Int32} : Sz (addq M a x v) = if x.1.length < x.2.1 then Sz M else Sz M + 1 := by unfold addq; split <;> rfl
theorem Sl_addq {a v : Nat} {x : List Nat × Nat × Nat × Int32} : Sl (addq M a x v) = if x.1.length < x.2.1 then Sl M else Sl M + ncap x.2.1 := by unfold addq; split <;> rfl
theorem Sq_addq {a v : Nat} {x : List Nat × Nat × Nat × Int32} (b : Nat) : Sq (addq M a x v) b = if b = a then some (x.1 ++ [v], (if x.1.length < x.2.1 then x.2.1 else ncap x.2.1), (if x.1.length < x.2.1 then x.2.2.1 else Sz M), x.2.2.2 + 1) else Sq M b := by unfold addq; split <;> rfl
theorem So_addq {a v : Nat} {x : List Nat × Nat × Nat × Int32} (c b : Nat) : So (addq M a x v) c b = So M c b := by unfold addq; split <;> rfl
theorem Si_addq {a v : Nat} {x : List Nat × Nat × Nat × Int32} (b : Nat) : Si (addq M a x v) b = Si M b := by unfold addq; split <;> rfl
theorem Sj_addq {a v : Nat} {x : List Nat × Nat × Nat × Int32} (b : Nat) : Sj (addq M a x v) b = Sj M b := by unfold addq; split <;> rfl
theorem Sr_addq {a v : Nat} {x : List Nat × Nat × Nat × Int32} (c b : Nat) : Sr (addq M a x v) c b = Sr M c b := by unfold addq; split <;> rfl
theorem ext_addq {a v : Nat} {x : List Nat × Nat × Nat × Int32} : Ext M (addq M a x v) no2 (fun b => b = a) no1 no1 :=
  ⟨fun _ _ _ h _ => by rw [So_addq]; exact h, fun b v h n => by rw [Sq_addq, if_neg n]; exact h, fun _ _ _ h _ => by rw [Sr_addq]; exact h, fun _ _ h _ => by rw [Si_addq]; exact h, fun _ _ h => by rw [Sj_addq]; exact h, by rw [Sz_addq]; split <;> omega⟩
theorem lq_addq {a v : Nat} {x : List Nat × Nat × Nat × Int32} : LQ (addq M a x v) a (x.1 ++ [v]) := ⟨_, by rw [Sq_addq, if_pos rfl]⟩
end EXT
/-! THE ACCOUNT: slots, cells, and what the lists have put by for growing -/
def psum (f : Nat → Nat) : Nat → Nat
  | 0 => 0
  | n + 1 => psum f n + f n
theorem psum_congr {f g : Nat → Nat} {n : Nat} (h : ∀ b, b < n → f b = g b) : psum f n = psum g n := by
  induction n with
  | zero => rfl
  | succ n ih => show psum f n + f n = psum g n + g n; rw [ih (fun b hb => h b (by omega)), h n (by omega)]
theorem psum_set {f g : Nat → Nat} {n a : Nat} (ha : a < n) (h : ∀ b, b ≠ a → f b = g b) : psum f n + g a = psum g n + f a := by
  induction n with
  | zero => omega
  | succ n ih =>
    show psum f n + f n + g a = psum g n + g n + f a
    by_cases e : a = n
    · subst e; rw [psum_congr (fun b hb => h b (by omega))]; omega
    · have := ih (by omega); have := h n (fun z => e z.symm); omega
def pt (x : Option (List Nat × Nat × Nat × Int32)) : Nat := match x with
  | none => 0
  | some x => if x.2.1 = 0 then 44 else 18 * x.1.length - 12 * x.2.1
/-- the account: fr is the list of the free frames, z0 where the heap ended at the beginning -/
def acc (M : hx_S) (fr z0 : Nat) : Nat := 2 * Sl M + 24 * (Sz M - z0) + psum (fun b => if b = fr then 0 else pt (Sq M b)) (Sz M)
/-- what is put by for the free frames, if m are made -/
def pfr (m cap : Nat) : Nat := if cap = 0 then 44 + 18 * m else 18 * m - 12 * cap
section ACC
variable {M M1 : hx_S} {fr z0 a : Nat}
theorem acc_same (h1 : Sz M1 = Sz M) (h2 : Sl M1 = Sl M) (h3 : ∀ b, Sq M1 b = Sq M b) : acc M1 fr z0 = acc M fr z0 := by
  unfold acc; rw [h1, h2, psum_congr (fun b _ => by rw [h3])]
/-- one cell more, of n slots, and no list -/
theorem acc_one {n : Nat} (hw : Wf M) (hz : z0 ≤ Sz M) (h1 : Sz M1 = Sz M + 1) (h2 : Sl M1 = Sl M + n) (h3 : ∀ b, Sq M1 b = Sq M b) : acc M1 fr z0 = acc M fr z0 + 24 + 2 * n := by
  unfold acc; rw [h1, h2, psum_congr (g := fun b => if b = fr then 0 else pt (Sq M b)) (fun b _ => by rw [h3])]
  show _ + (psum _ (Sz M) + (if Sz M = fr then 0 else pt (Sq M (Sz M)))) = _
  rw [hw.nsq (Nat.le_refl _)]
  have : (if Sz M = fr then 0 else pt none) = 0 := by split <;> rfl
  rw [this]; omega
theorem acc_nq (hw : Wf M) (hz : z0 ≤ Sz M) : acc (nq M) fr z0 ≤ acc M fr z0 + 74 := by
  unfold acc
  rw [Sz_nq, Sl_nq]
  show _ + (psum _ (Sz M) + (if Sz M = fr then 0 else pt (Sq (nq M) (Sz M)))) ≤ _
  rw [psum_congr (g := fun b => if b = fr then 0 else pt (Sq M b)) (fun b hb => by rw [Sq_nq, if_neg (show ¬ b = Sz M by omega)])]
  have : (if Sz M = fr then 0 else pt (Sq (nq M) (Sz M))) ≤ 44 := by
    split
    · omega
    · rw [Sq_nq, if_pos rfl]; exact Nat.le_refl _
  omega
/-- a list holds less than before -/
theorem acc_less {xs ys : List Nat} {cap e : Nat} {mc mc1 : Int32} (hw : Wf M) (hx : Sq M a = some (xs, cap, e, mc)) (hl : ys.length ≤ xs.length) : acc (qput M a (some (ys, cap, e, mc1))) fr z0 ≤ acc M fr z0 := by
  have ha := (hw.2.2.2.2 a _ hx).2.1
  unfold acc
  have k := psum_set (f := fun b => if b = fr then 0 else pt (Sq (qput M a (some (ys, cap, e, mc1))) b)) (g := fun b => if b = fr then 0 else pt (Sq M b)) ha (fun b hb => by simp only [Sq_qput, if_neg hb])
  have e1 : (if a = fr then 0 else pt (Sq (qput M a (some (ys, cap, e, mc1))) a)) ≤ (if a = fr then 0 else pt (Sq M a)) := by
    split
    · omega
    · rw [Sq_qput, if_pos rfl, hx]; unfold pt; simp only; split <;> omega
  rw [Sz_qput, Sl_qput]
  omega
theorem acc_fr_less {x : Option (List Nat × Nat × Nat × Int32)} : acc (qput M fr x) fr z0 = acc M fr z0 := by
  unfold acc
  rw [Sz_qput, Sl_qput, psum_congr (fun b _ => ?_)]
  by_cases h : b = fr
  · rw [if_pos h, if_pos h]
  · rw [if_neg h, if_neg h, Sq_qput, if_neg h]
theorem ncap_1 {cap : Nat} (h : cap ≠ 0) : ncap cap + ncap cap ≤ 3 * cap + 1 + 1 ∧ 3 * cap ≤ ncap cap + ncap cap + 1 := by
  unfold ncap; rw [if_neg h]
  have : max 1 (cap / 2) = if cap = 1 then 1 else cap / 2 := by
    split
    · next h => subst h; rfl
    · exact Nat.max_eq_right (by omega)
  rw [this]; split <;> omega
theorem acc_add {xs : List Nat} {cap e v : Nat} {mc : Int32} (hw : Wf M) (hz : z0 ≤ Sz M) (hn : a ≠ fr) (hx : Sq M a = some (xs, cap, e, mc)) : acc (addq M a (xs, cap, e, mc) v) fr z0 ≤ acc M fr z0 + 48 := by
  obtain ⟨-, ha, hle, -⟩ := hw.2.2.2.2 a _ hx
  simp only at hle
  unfold acc
  rw [Sz_addq, Sl_addq]
  simp only
  have hg : (if a = fr then 0 else pt (Sq M a)) = if cap = 0 then 44 else 18 * xs.length - 12 * cap := by
    rw [if_neg hn, hx]; rfl
  have k := psum_set (f := fun b => if b = fr then 0 else pt (Sq (addq M a (xs, cap, e, mc) v) b)) (g := fun b => if b = fr then 0 else pt (Sq M b)) ha (fun b hb => by simp only [Sq_addq, if_neg hb])
  rw [hg] at k
  by_cases h : xs.length < cap
  · have hf : (if a = fr then 0 else pt (Sq (addq M a (xs, cap, e, mc) v) a)) = 18 * (xs.length + 1) - 12 * cap := by
      rw [if_neg hn, Sq_addq, if_pos rfl]
      unfold pt
      simp only [if_pos h, List.length_append, List.length_singleton]
      rw [if_neg (by omega)]
    rw [hf, if_neg (by omega)] at k
    rw [if_pos h, if_pos h]
    omega
  · have hf : (if a = fr then 0 else pt (Sq (addq M a (xs, cap, e, mc) v) a)) = 18 * (xs.length + 1) - 12 * ncap cap := by
      rw [if_neg hn, Sq_addq, if_pos rfl]
      unfold pt
      simp only [if_neg h, List.length_append, List.length_singleton]
      rw [if_neg (by have := ncap_gt cap; omega)]
    rw [hf] at k
    rw [if_neg h, if_neg h]
    show _ + (psum _ (Sz M) + (if Sz M = fr then 0 else pt (Sq (addq M a (xs, cap, e, mc) v) (Sz M)))) ≤ _
    have h0 : (if Sz M = fr then 0 else pt (Sq (addq M a (xs, cap, e, mc) v) (Sz M))) = 0 := by
      rw [Sq_addq, if_neg (show ¬ Sz M = a by omega), hw.nsq (Nat.le_refl _)]; split <;> rfl
    rw [h0]
    by_cases hc : cap = 0
    · subst hc
      rw [if_pos rfl] at k
      have : ncap 0 = 10 := rfl
      have : xs.length = 0 := by omega
      omega
    · rw [if_neg hc] at k
      have := ncap_1 hc
      have : xs.length = cap := by omega
      omega
/-- a free frame more, and fewer are free than are made -/
theorem acc_addf {xs : List Nat} {cap e v m : Nat} {mc : Int32} (hw : Wf M) (hz : z0 ≤ Sz M) (hx : Sq M fr = some (xs, cap, e, mc)) (hm : xs.length < m) (hc : cap = 0 ∨ 10 ≤ cap) : acc (addq M fr (xs, cap, e, mc) v) fr z0 + pfr m (if xs.length < cap then cap else ncap cap) ≤ acc M fr z0 + pfr m cap ∧ 10 ≤ (if xs.length < cap then cap else ncap cap) := by
  obtain ⟨-, ha, hle, -⟩ := hw.2.2.2.2 fr _ hx
  simp only at hle
  unfold acc
  rw [Sz_addq, Sl_addq]
  simp only
  have kc : ∀ n, psum (fun b => if b = fr then 0 else pt (Sq (addq M fr (xs, cap, e, mc) v) b)) n = psum (fun b => if b = fr then 0 else pt (Sq M b)) n := fun n => psum_congr (fun b _ => by
    by_cases h : b = fr
    · rw [if_pos h, if_pos h]
    · rw [if_neg h, if_neg h, Sq_addq, if_neg h])
  by_cases h : xs.length < cap
  · rw [if_pos h, if_pos h, if_pos h, kc]
    exact ⟨Nat.le_refl _, by omega⟩
  · rw [if_neg h, if_neg h, if_neg h, kc]
    show _ + (psum _ (Sz M) + (if Sz M = fr then 0 else pt (Sq M (Sz M)))) + _ ≤ _ ∧ _
    have h0 : (if Sz M = fr then 0 else pt (Sq M (Sz M))) = 0 := by
      rw [hw.nsq (Nat.le_refl _)]; split <;> rfl
    rw [h0]
    unfold pfr
    have hg := ncap_gt cap
    rw [if_neg (show ¬ ncap cap = 0 by omega)]
    by_cases hc0 : cap = 0
    · subst hc0
      have : ncap 0 = 10 := rfl
      rw [if_pos rfl]
      omega
    · rw [if_neg hc0]
      have := ncap_1 hc0
      omega
theorem pfr_s (m cap : Nat) : pfr (m + 1) cap ≤ pfr m cap + 18 := by unfold pfr; split <;> omega
end ACC
