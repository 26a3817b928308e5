/-! THE BODY: rows for the parts of RepB -/
def same6 (σ σ' : hs_S) : Prop := sN σ' = sN σ ∧ sC σ' = sC σ ∧ sA σ' = sA σ ∧ sLe σ' = sLe σ ∧ sCe σ' = sCe σ ∧ sRs σ' = sRs σ
/-- only frames and lists have changed -/
def XF (M M1 : hx_S) : Prop := Ext M M1 (fun c _ => c = 5) (fun _ => True) (fun _ => True) no1
theorem XF.rf (M : hx_S) : XF M M := Ext.rf M
theorem XF.tr {M M1 M2 : hx_S} (h : XF M M1) (k : XF M1 M2) : XF M M2 := Ext.tr h k
section BODY
variable {M M1 : hx_S} {A : hA} {Γ : hG} {σ σ' : hs_S} {γ γ' : hf_S} {b b' n m k : Nat} {fre : List Nat} {r0 r1 : Nat × Nat} {l : List Nat} {f : Nat}
theorem GP.cg (h : GP M A Γ σ γ) (h1 : sN σ' = sN σ) (h2 : gro γ' = gro γ) : GP M A Γ σ' γ' := by unfold GP; rw [h1, h2]; exact h
theorem EP.cg (h : EP M A σ γ) (h1 : sA σ' = sA σ) (h2 : sLe σ' = sLe σ) (h3 : sCe σ' = sCe σ) (k1 : gro γ' = gro γ) (k2 : gcd γ' = gcd γ) (k3 : gkl γ' = gkl γ) : EP M A σ' γ' := by unfold EP; rw [h1, h2, h3, k1, k2, k3]; exact h
theorem RP.cg (h : RP M A σ γ) (h1 : sRs σ' = sRs σ) (k1 : gro γ' = gro γ) : RP M A σ' γ' := by unfold RP; rw [h1, k1]; exact h
theorem AP.kk (h : AP M A fre m k b) {k' : Nat} (hb : b + 1500 * k' ≤ b' + 1500 * k) : AP M A fre m k' b' := by
  obtain ⟨cap, y, h1, h2⟩ := h
  exact ⟨cap, y, by omega, h2⟩
theorem AP.mono (h : AP M A fre m k b) (hb : b ≤ b') : AP M A fre m k b' := h.kk (by omega)
theorem AP.made (h : AP M A fre m k b) : AP M A fre (m + 1) k (b + 18) := by
  obtain ⟨cap, y, h1, h2⟩ := h
  exact ⟨cap, y, by have := pfr_s m cap; omega, h2⟩
theorem AP.same (h : AP M A fre m k b) (h1 : Sz M1 = Sz M) (h2 : Sl M1 = Sl M) (h3 : ∀ q, Sq M1 q = Sq M q) : AP M1 A fre m k b := by
  obtain ⟨cap, y, k1, k2, k3, k4, k5⟩ := h
  exact ⟨cap, y, by rw [acc_same h1 h2 h3]; exact k1, by rw [h1]; exact k2, by rw [h3]; exact k3, k4, fun a x hx => by rw [h2]; rw [h3] at hx; exact k5 a x hx⟩
theorem AP.one {s : Nat} (h : AP M A fre m k b) (hw : Wf M) (h1 : Sz M1 = Sz M + 1) (h2 : Sl M1 = Sl M + s) (h3 : ∀ q, Sq M1 q = Sq M q) : AP M1 A fre m k (b + 24 + 2 * s) := by
  obtain ⟨cap, y, k1, k2, k3, k4, k5⟩ := h
  exact ⟨cap, y, by rw [acc_one hw k2 h1 h2 h3]; omega, by rw [h1]; omega, by rw [h3]; exact k3, k4, fun a x hx => by rw [h2]; rw [h3] at hx; have := k5 a x hx; omega⟩
theorem AP.nq (h : AP M A fre m k b) (hw : Wf M) (hne : aE A < Sz M) : AP (nq M) A fre m k (b + 74) := by
  obtain ⟨cap, y, k1, k2, k3, k4, k5⟩ := h
  refine ⟨cap, y, by have := acc_nq (fr := aE A) hw k2; omega, by rw [Sz_nq]; omega, by rw [Sq_nq, if_neg (by omega)]; exact k3, k4, fun a x hx => ?_⟩
  rw [Sq_nq] at hx
  rw [Sl_nq]
  split at hx
  · cases hx; exact Nat.zero_le _
  · have := k5 a x hx; omega
theorem AP.add {a v : Nat} {x : List Nat × Nat × Nat × Int32} (h : AP M A fre m k b) (hw : Wf M) (hx : Sq M a = some x) (hn : a ≠ aE A) : AP (addq M a x v) A fre m k (b + 48) := by
  obtain ⟨cap, y, k1, k2, k3, k4, k5⟩ := h
  obtain ⟨xs, cp, e, mc⟩ := x
  refine ⟨cap, y, by have := acc_add (v := v) hw k2 hn hx; omega, by rw [Sz_addq]; split <;> omega, by rw [Sq_addq, if_neg (fun z => hn z.symm)]; exact k3, k4, fun a' x' hx' => ?_⟩
  rw [Sq_addq] at hx'
  rw [Sl_addq]
  have hc := k5 a _ hx
  simp only at hc ⊢
  by_cases ha : a' = a
  · rw [if_pos ha] at hx'
    cases hx'
    simp only
    split <;> omega
  · rw [if_neg ha] at hx'
    have := k5 a' x' hx'
    split <;> omega
theorem AP.addF {v : Nat} {x : List Nat × Nat × Nat × Int32} (h : AP M A fre m k b) (hw : Wf M) (hx : Sq M (aE A) = some x) (hm : fre.length < m) : AP (addq M (aE A) x v) A (fre ++ [v]) m k b := by
  obtain ⟨cap, y, k1, k2, k3, k4, k5⟩ := h
  rw [hx] at k3
  cases k3
  obtain ⟨e, mc⟩ := y
  obtain ⟨q1, q2⟩ := acc_addf (v := v) hw k2 hx hm k4
  refine ⟨(if fre.length < cap then cap else ncap cap), _, by omega, by rw [Sz_addq]; split <;> omega, by rw [Sq_addq, if_pos rfl], Or.inr q2, fun a' x' hx' => ?_⟩
  rw [Sq_addq] at hx'
  rw [Sl_addq]
  have hc := k5 _ _ hx
  simp only at hc ⊢
  by_cases ha : a' = aE A
  · rw [if_pos ha] at hx'
    cases hx'
    simp only
    split <;> omega
  · rw [if_neg ha] at hx'
    have := k5 a' x' hx'
    split <;> omega
theorem AP.less {a : Nat} {xs ys : List Nat} {cp e : Nat} {mc mc1 : Int32} (h : AP M A fre m k b) (hw : Wf M) (hx : Sq M a = some (xs, cp, e, mc)) (hl : ys.length ≤ xs.length) (hn : a ≠ aE A) : AP (qput M a (some (ys, cp, e, mc1))) A fre m k b := by
  obtain ⟨cap, y, k1, k2, k3, k4, k5⟩ := h
  refine ⟨cap, y, by have := acc_less (fr := aE A) (z0 := aZ A) (mc1 := mc1) hw hx hl; omega, k2, by rw [Sq_qput, if_neg (fun z => hn z.symm)]; exact k3, k4, fun a' x' hx' => ?_⟩
  rw [Sq_qput] at hx'
  rw [Sl_qput]
  by_cases ha : a' = a
  · rw [if_pos ha] at hx'
    cases hx'
    have q := k5 _ _ hx
    exact q
  · rw [if_neg ha] at hx'
    exact k5 a' x' hx'
theorem AP.lessF {xs ys : List Nat} {cp e : Nat} {mc mc1 : Int32} (h : AP M A fre m k b) (hx : Sq M (aE A) = some (xs, cp, e, mc)) : AP (qput M (aE A) (some (ys, cp, e, mc1))) A ys m k b := by
  obtain ⟨cap, y, k1, k2, k3, k4, k5⟩ := h
  rw [hx] at k3
  cases k3
  refine ⟨cp, _, by rw [acc_fr_less]; exact k1, k2, by rw [Sq_qput, if_pos rfl], k4, fun a' x' hx' => ?_⟩
  rw [Sq_qput] at hx'
  rw [Sl_qput]
  by_cases ha : a' = aE A
  · rw [if_pos ha] at hx'
    cases hx'
    have q := k5 _ _ hx
    exact q
  · rw [if_neg ha] at hx'
    exact k5 a' x' hx'
/-- the lists are short enough to grow -/
theorem AP.cap {a : Nat} {x : List Nat × Nat × Nat × Int32} (h : AP M A fre m k b) (hb : b ≤ 14400000) (hx : Sq M a = some x) : x.2.1 ≤ 10000000 := by
  obtain ⟨cap, y, k1, k2, k3, k4, k5⟩ := h
  have := k5 a x hx
  unfold acc at k1
  omega
theorem RepB.list (h : RepB M A Γ σ γ b) (h0 : act (sN σ).length γ r0) (e : Ext M M1 no2 (fun x => x = ad A Γ γ r0) no1 no1) (hl : LQ M1 (ad A Γ γ r0) l) (hp : PF Γ σ' (mv γ r0 l f r1)) (hs : same6 σ σ') (ha : AP M1 A (if (2, 0) = r0 then l else gG γ (2, 0)) (gMD γ).length (sK σ').length b') : RepB M1 A Γ σ' (mv γ r0 l f r1) b' := by
  obtain ⟨h1, h2, h3, h4, h5, h6, h7⟩ := h
  obtain ⟨s1, s2, s3, s4, s5, s6⟩ := hs
  have hro := (h2.2.1 r0 h0).2
  have hn0 := act_n0 h0
  refine ⟨(h1.ext e (fun _ => id) (fun _ => id) (fun x hx => ?_)).cg s1 rfl, ?_, hp, ?_, (h5.ext e (fun _ => id) (fun _ => id) (fun _ => id) (fun _ => False.elim) (fun _ => False.elim)).cg s3 s4 s5 rfl rfl rfl, (h6.ext e (fun _ => id) (fun _ => id) (fun x hx => ?_)).cg s6 rfl, ha⟩
  · rw [show x = ad A Γ γ r0 from hx, hro]; omega
  · rw [s1]; exact h2.list e h0 hl
  · rw [s2]; exact h4.ext e (fun _ => id) ⟨id, id, id⟩
  · rw [show x = ad A Γ γ r0 from hx, hro]; omega
/-- a frame that nobody or a node has is filled -/
theorem RepB.filled {va na : Nat} {c : Int32} {t : Nat → Option V2} (h : RepB M A Γ σ γ b) (e : Ext M M1 (fun c' x => c' = 5 ∧ x = f) no1 (fun x => x = va) no1) (hva : gro γ va = (8, f)) (hf : FRM M1 (gro γ) (aV A) f na c t) (hp : PF Γ σ' (fill γ f na c t)) (hs : same6 σ σ') (hk : (sK σ').length = (sK σ).length) (h1 : Sz M1 = Sz M) (h2 : Sl M1 = Sl M) (h3 : ∀ q, Sq M1 q = Sq M q) : RepB M1 A Γ σ' (fill γ f na c t) b := by
  obtain ⟨k1, k2, k3, k4, k5, k6, k7⟩ := h
  obtain ⟨s1, s2, s3, s4, s5, s6⟩ := hs
  refine ⟨(k1.ext e (fun _ z => absurd z.1 (by decide)) (fun _ z => absurd z.1 (by decide)) (fun _ => False.elim)).cg s1 rfl, ?_, hp, ?_, (k5.ext e (fun _ z => absurd z.1 (by decide)) (fun _ z => absurd z.1 (by decide)) (fun _ z => absurd z.1 (by decide)) (fun x hx => ?_) (fun _ => False.elim)).cg s3 s4 s5 rfl rfl rfl, (k6.ext e (fun _ z => absurd z.1 (by decide)) (fun _ z => absurd z.1 (by decide)) (fun _ => False.elim)).cg s6 rfl, ?_⟩
  · rw [s1]; exact k2.frame e hva hf
  · rw [s2]; exact k4.ext e (fun _ z => absurd z.1 (by decide)) ⟨id, id, id⟩
  · rw [show x = va from hx, hva]; exact fun z => absurd z (by decide : ¬ 8 = 12)
  · rw [hk]; exact k7.same h1 h2 h3
/-- roles of what is not there yet may be chosen -/
theorem RepB.rero (h : RepB M A Γ σ γ b) (hw : Wf M) {ro : Nat → Nat × Nat} (hr : ∀ x, x < Sz M → ro x = gro γ x) : RepB M A Γ σ (wro γ ro) b := by
  obtain ⟨⟨g1, g2, g3⟩, ⟨⟨f1, f2⟩, f3, f4, f5, f6⟩, h3, h4, ⟨c1, ⟨c2, c3⟩, ⟨fl, c4, c5⟩, ⟨c6, c7, c8, c9⟩, c10, c11⟩, ⟨r1, xs, r2, r3⟩, h7⟩ := h
  have lq : ∀ {a : Nat} {xs : List Nat}, LQ M a xs → ro a = gro γ a := fun ⟨y, hy⟩ => hr _ (hw.2.2.2.2 _ _ hy).2.1
  obtain ⟨-, ⟨fo, fs, fr, x1, x2, x3, -⟩, -⟩ := id h4
  refine ⟨⟨g1, (lq g1).trans g2, fun i x hi => ?_⟩, ⟨⟨f1, (lq f1).trans f2⟩, fun r hr0 => ?_, fun f hf => ?_, f5, f6⟩, h3, h4, ⟨c1, ⟨c2, (hr _ (hw.2.2.2.1 _ _ _ c2).2.2).trans c3⟩, ⟨fl, c4, c5⟩, ⟨(hr _ (hw.2.1 _ _ c4).2).trans c6, (hr _ (hw.2.1 _ _ x1).2).trans c7, (hr _ (hw.2.1 _ _ x2).2).trans c8, (hr _ (hw.2.1 _ _ x3).2).trans c9⟩, fun c a hc => ?_, c11⟩, ⟨(lq r2).trans r1, xs, r2, r3⟩, h7⟩
  · obtain ⟨m1, m2, ys, m3, m4⟩ := g3 i x hi
    exact ⟨m1, (lq m3).trans m2, ys, m3, m4⟩
  · obtain ⟨m1, m2⟩ := f3 r hr0
    exact ⟨m1, (lq m1).trans m2⟩
  · obtain ⟨va, w0, w1, w2, m1, m2, m3, m4⟩ := f4 f hf
    exact ⟨va, w0, w1, w2, (hr _ (hw.2.2.2.1 _ _ _ m3).2.2).trans m1, m2, m3, m4⟩
  · obtain ⟨m1, m2, w, m3, m4⟩ := c10 c a hc
    exact ⟨m1, (hr _ (hw.1 _ _ _ m3).2.2).trans m2, w, m3, m4⟩
/-- something that is nobody's has come to the heap -/
theorem RepB.ext0 (h : RepB M A Γ σ γ b) {cs : Nat → Nat → Prop} (e : Ext M M1 cs no1 no1 no1) (hcs : ∀ c x, cs c x → c = 10 ∨ c = 11) (ha : AP M1 A (gG γ (2, 0)) (gMD γ).length (sK σ).length b') : RepB M1 A Γ σ γ b' := by
  obtain ⟨k1, k2, k3, k4, k5, k6, k7⟩ := h
  have hc : ∀ c, c < 10 → ∀ x, ¬ cs c x := fun c h x z => by have := hcs c x z; omega
  exact ⟨k1.ext e (hc 7 (by decide)) (hc 1 (by decide)) (fun _ => False.elim), k2.ext e (hc 9 (by decide)) (hc 5 (by decide)) (hc 6 (by decide)) (fun _ => False.elim) (fun _ => False.elim), k3, k4.ext e (hc 4 (by decide)) ⟨id, id, id⟩, k5.ext e (hc 9 (by decide)) (hc 3 (by decide)) (hc 2 (by decide)) (fun _ => False.elim) (fun _ => False.elim), k6.ext e (hc 9 (by decide)) (hc 8 (by decide)) (fun _ => False.elim), ha⟩
/-- a frame more -/
theorem RepB.newf {na : Nat} {c : Int32} {t : Nat → Option V2} (h : RepB M A Γ σ γ b) (hn : f ∉ gMD γ) (e : Ext M M1 no2 (fun x => x = aM A) no1 no1) (hl : LQ M1 (aM A) (gMD γ ++ [f])) (hf : FRM M1 (gro γ) (aV A) f na c t) (ha : AP M1 A (gG γ (2, 0)) ((gMD γ).length + 1) (sK σ).length b') : RepB M1 A Γ σ (fill (wpl (wMD γ (gMD γ ++ [f])) (fun x => if x = f then (4, 0) else gpl γ x)) f na c t) b' := by
  obtain ⟨k1, ⟨⟨f1, f2⟩, f3, f4, f5, f6⟩, k3, k4, k5, k6, k7⟩ := h
  have hp := PF.flown (k3.new hn) (f := f) (na := na) (c := c) (t := t) ⟨List.mem_append_right _ (by simp), by show (if f = f then (4, 0) else gpl γ f) = (4, 0); rw [if_pos rfl]⟩
  refine ⟨(k1.ext e (fun _ => id) (fun _ => id) (fun x hx => ?_)).cg rfl rfl, ⟨⟨hl, f2⟩, fun r hr => ?_, fun g hg => ?_, e.so f5 id, e.so f6 id⟩, hp, k4.ext e (fun _ => id) ⟨id, id, id⟩, (k5.ext e (fun _ => id) (fun _ => id) (fun _ => id) (fun _ => False.elim) (fun _ => False.elim)).cg rfl rfl rfl rfl rfl rfl, (k6.ext e (fun _ => id) (fun _ => id) (fun x hx => ?_)).cg rfl rfl, ?_⟩
  · rw [show x = aM A from hx, f2]; decide
  · have hr' : act (sN σ).length γ r := hr
    obtain ⟨m1, m2⟩ := f3 r hr'
    exact ⟨e.lq m1 (fun z => by rw [show ad A Γ γ r = aM A from z, f2] at m2; have := act_n0 hr'; rw [← m2] at this; revert this; decide), m2⟩
  · show FRM M1 (gro γ) (aV A) g (if g = f then na else gna γ g) (if g = f then c else gfc γ g) (if g = f then t else gft γ g)
    by_cases hgf : g = f
    · rw [if_pos hgf, if_pos hgf, if_pos hgf, hgf]; exact hf
    · rw [if_neg hgf, if_neg hgf, if_neg hgf]
      have hg' : g ∈ gMD γ := by
        rcases List.mem_append.mp (show g ∈ gMD γ ++ [f] from hg) with h | h
        · exact h
        · simp at h; exact absurd h hgf
      exact (f4 g hg').ext e (fun _ => id) id (fun _ => False.elim)
  · rw [show x = aM A from hx, f2]; decide
  · show AP M1 A (gG γ (2, 0)) (gMD γ ++ [f]).length (sK σ).length b'
    rw [List.length_append]; exact ha
theorem RepB.isF (h : RepB M A Γ σ γ b) {g : Nat} (hg : g ∈ gMD γ) : ∃ vs, So M 5 g = some vs := let ⟨_, _, _, _, _, h, _⟩ := h.2.1.2.2.1 g hg; ⟨_, h⟩
theorem RepB.inMD (h : RepB M A Γ σ γ b) (h0 : act (sN σ).length γ r0) {g : Nat} (hg : g ∈ gG γ r0) : g ∈ gMD γ := ((h.2.2.1.2.1 r0 h0).2 g hg).1
end BODY
