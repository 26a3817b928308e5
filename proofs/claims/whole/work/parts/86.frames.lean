/-! CLASS AND REFERENCE SIDE BY SIDE: neither changes the other's -/
section FRAMES
variable {M M1 : hx_S} {A : hA} {Γ : hG} {σ : hs_S} {γ : hf_S} {b m : Nat} {B : Nat → Nat} {th : Int32} {K : Nat → Int32} {V : Nat → Int64}
/-- the reference's arrays are none of the class's -/
def apart (A : hA) (B : Nat → Nat) : Prop := ∀ k, isI k = true → B k ≠ aO A ∧ B k ≠ aS A ∧ B k ≠ aU A ∧ B k ≠ aL A
theorem RM.xe (h : RM M m B σ th K V) (e : XE A M M1) (hB : apart A B) : RM M1 m B σ th K V := by
  obtain ⟨ρ, T, ⟨r1, r2, r3, r4⟩, h0, hAb, hT, hW⟩ := h
  refine ⟨ρ, T, ⟨Ext.so e r1 (by omega), fun k hk => ?_, fun k hk => ?_, r4⟩, h0, hAb, hT, hW⟩
  · obtain ⟨b1, b2, b3, b4⟩ := hB k hk
    exact e.2.2.2.1 _ _ (r2 k hk) (fun z => by rcases z with z | z | z | z; exact b1 z; exact b2 z; exact b3 z; exact b4 z)
  · exact e.2.2.2.2.1 _ _ (r3 k hk)
theorem Rep.ef (h : Rep M A Γ σ γ b) (e : EF M M1 m B) (hB : apart A B) : Rep M1 A Γ σ γ b := by
  obtain ⟨⟨z1, z2, z3, z4⟩, eo, ei, -⟩ := e
  have so : ∀ c x v, c ≠ 11 → So M c x = some v → So M1 c x = some v := fun c x v hc hv => by rw [eo c x (fun z => hc z.1)]; exact hv
  have lq : ∀ x xs, LQ M x xs → LQ M1 x xs := fun x xs ⟨y, hy⟩ => ⟨y, by rw [z4]; exact hy⟩
  have si : ∀ x v, (x = aO A ∨ x = aS A ∨ x = aU A ∨ x = aL A) → Si M x = some v → Si M1 x = some v := fun x v hx hv => by
    rw [ei x (fun k hk z => by obtain ⟨b1, b2, b3, b4⟩ := hB k hk; rcases hx with w | w | w | w <;> rw [w] at z; exact b1 z.symm; exact b2 z.symm; exact b3 z.symm; exact b4 z.symm)]
    exact hv
  have ov : ∀ w o, OV M (aV A) w o → OV M1 (aV A) w o := fun w o ho => by
    rcases ho with ho | ⟨v, h1, h2, h3⟩
    · exact Or.inl ho
    · exact Or.inr ⟨v, h1, so 9 _ _ (by decide) h2, h3⟩
  obtain ⟨hH, ⟨⟨g1, g2, g3⟩, ⟨⟨f1, f2⟩, f3, f4, f5, f6⟩, hP, ⟨x1, ⟨fo, fs, fr, x2, x3, x4, x5⟩, x6⟩, ⟨c1, ⟨c2, c3⟩, ⟨fl, c4, c5⟩, c6, c10, c11⟩, ⟨q0, xs, q1, q2, q3⟩, ⟨cap, y, a1, a2, a3, a4, a5⟩⟩, hG⟩ := h
  refine ⟨so 10 _ _ (by decide) hH, ⟨⟨lq _ _ g1, g2, fun i x hi => ?_⟩, ⟨⟨lq _ _ f1, f2⟩, fun r hr => ⟨lq _ _ (f3 r hr).1, (f3 r hr).2⟩, fun f hf => ?_, so 6 _ _ (by decide) f5, so 9 _ _ (by decide) f6⟩, hP, ⟨so 4 _ _ (by decide) x1, ⟨fo, fs, fr, si _ _ (Or.inl rfl) x2, si _ _ (Or.inr (Or.inl rfl)) x3, si _ _ (Or.inr (Or.inr (Or.inl rfl))) x4, x5⟩, x6⟩, ⟨so 3 _ _ (by decide) c1, ⟨by rw [z3]; exact c2, c3⟩, ⟨fl, si _ _ (Or.inr (Or.inr (Or.inr rfl))) c4, c5⟩, c6, fun c a hc => ?_, c11⟩, ⟨q0, xs, lq _ _ q1, q2, fun k a x hk hx => ?_⟩, ⟨cap, y, ?_, by rw [z1]; exact a2, by rw [z4]; exact a3, a4, fun a x hx => ?_⟩⟩, hG⟩
  · obtain ⟨m1, m2, ys, m3, m4, m5⟩ := g3 i x hi
    exact ⟨so 7 _ _ (by decide) m1, m2, ys, lq _ _ m3, m4, fun k a w hk hw => so 1 _ _ (by decide) (m5 k a w hk hw)⟩
  · obtain ⟨va, w0, w1, w2, p1, p2, p3, p4, p5, p6⟩ := f4 f hf
    exact ⟨va, w0, w1, w2, p1, so 5 _ _ (by decide) p2, by rw [z3]; exact p3, ov _ _ p4, ov _ _ p5, ov _ _ p6⟩
  · obtain ⟨m1, m2, w, m3, m4⟩ := c10 c a hc
    exact ⟨m1, m2, w, so 2 _ _ (by decide) m3, ov _ _ m4⟩
  · obtain ⟨w, m1, m2⟩ := q3 k a x hk hx
    exact ⟨w, so 8 _ _ (by decide) m1, so 9 _ _ (by decide) m2⟩
  · rw [acc_same z1 z2 (fun b => by rw [z4])]; exact a1
  · rw [z2]; rw [z4] at hx; exact a5 a x hx
end FRAMES
/-! what stays true of the graph and of those kept -/
section GNK
variable {σ : hs_S} {o : Nat} {nn : Int32}
theorem GN.addN (h : GN σ) : GN (addN σ o nn) := by
  intro i x hx h7 e he
  have hx' : (sN σ ++ [(o, nn, [])])[i]? = some x := hx
  by_cases hi : i < (sN σ).length
  · rw [List.getElem?_append_left hi] at hx'
    exact h i x hx' h7 e he
  · rw [List.getElem?_append_right (by omega)] at hx'
    have q := (List.getElem?_eq_some_iff.mp hx').1
    rw [List.length_singleton] at q
    rw [show i - (sN σ).length = 0 by omega] at hx'
    cases hx'
    cases he
theorem GK.addN (h : GK σ) (hG : GS σ) : GK (addN σ o nn) := fun x hx => by
  have hx' : x ∈ sK σ := hx
  rw [nd_new (hG.2.2.2.2.2.2.1 x hx').1]
  exact h x hx'
theorem GN.arcS {f sd t pt : Int32} (h : GN σ) (hG : GS σ) : GN (arcS σ f sd t pt) := by
  unfold _root_.Jvm.Pilot.CTokenHouseLaw_law_r5573_f6d1de.arcS
  split
  · next hc =>
    have h40 := hG.1
    obtain ⟨i, hi, hfi, -⟩ := pk_mu hc.2.1.1 (show ¬ nI (sN σ).length ≤ f from fun z => absurd hc.2.1.2 (by rw [Int32.not_lt]; exact z)) (show (sN σ).length < 2 ^ 31 by omega)
    have hfc : f.toNatClampNeg = i := by rw [hfi, nI_clamp (by omega)]
    have hsd := hc.2.2.2.1
    rw [hfc] at hsd ⊢
    intro k x hx h7 e he
    rw [at_arc k hi] at hx
    by_cases z : i = k
    · rw [if_pos z] at hx
      cases hx
      have h7' : (nd σ i).1 ≠ 7 := h7
      rcases List.mem_append.mp he with w | w
      · exact h i _ (nd_at hi) h7' e w
      · rw [List.mem_singleton.mp w]
        rcases hsd with s | s
        · show sd.toNatClampNeg = 0
          rw [s]; rfl
        · exact absurd s.2 h7'
    · rw [if_neg z] at hx
      exact h k x hx h7 e he
  · exact h
theorem GK.arcS {f sd t pt : Int32} (h : GK σ) (hG : GS σ) : GK (arcS σ f sd t pt) := by
  unfold _root_.Jvm.Pilot.CTokenHouseLaw_law_r5573_f6d1de.arcS
  split
  · next hc =>
    have h40 := hG.1
    obtain ⟨i, hi, hfi, -⟩ := pk_mu hc.2.1.1 (show ¬ nI (sN σ).length ≤ f from fun z => absurd hc.2.1.2 (by rw [Int32.not_lt]; exact z)) (show (sN σ).length < 2 ^ 31 by omega)
    have hfc : f.toNatClampNeg = i := by rw [hfi, nI_clamp (by omega)]
    rw [hfc]
    intro x hx
    have hx' : x ∈ sK σ := hx
    rw [nd_arc hi]
    exact h x hx'
  · exact h
theorem GN.tokS {k p : Int32} {v : Int64} (h : GN σ) : GN (tokS σ k p v) := by
  unfold _root_.Jvm.Pilot.CTokenHouseLaw_law_r5573_f6d1de.tokS
  split
  · exact h.cg ((come_same _ _ _ _ _).1.1.trans (sN_uB _ _))
  · exact h
theorem GK.tokS {k p : Int32} {v : Int64} (h : GK σ) : GK (tokS σ k p v) := by
  unfold _root_.Jvm.Pilot.CTokenHouseLaw_law_r5573_f6d1de.tokS
  split
  · exact h.sub ((come_same _ _ _ _ _).1.1.trans (sN_uB _ _)) (fun x hx => by rw [(come_same _ _ _ _ _).2.1, sK_uB] at hx; exact hx)
  · exact h
theorem GN.clr {L : List ND} (h : GN σ) (hL : L = sN σ ∨ L = []) : GN (clr σ L) := by
  intro i x hx h7 e he
  have hx' : L[i]? = some x := hx
  rcases hL with rfl | rfl
  · exact h i x hx' h7 e he
  · cases hx'
theorem GK.clr {L : List ND} : GK (clr σ L) := fun x hx => by cases hx
end GNK
