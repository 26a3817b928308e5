/-! THE REFERENCE: go -/
section MGO
variable {G : hx_G} {M M1 : hx_S} {m : Nat} {B : Nat → Nat} {ρ ρ' : hr_S} {σ σ' : hs_S} {T : List TK} {i c p s na k d : Nat} {v x y z : V2} {th : Int32} {K : Nat → Int32} {V : Nat → Int64} {t : Nat → Option V2}
theorem errOf_0 (v : V2) : errOf v 0 = 5 := by unfold errOf; rw [if_pos rfl]
theorem errs_0 {o : Nat} (hx : wX o = 0) (hy : wY o = 0) (x y : V2) : errs o x y = 5 := by unfold errs; rw [hx, hy, errOf_0, errOf_0]; rfl
theorem w0 : ∀ o, o < 18 → (o = 0 ∨ (7 ≤ o ∧ o ≤ 13) ∨ o = 17) → wX o = 0 ∧ wY o = 0 := by decide +kernel
theorem acts_0 (ho : wX (nd σ i).1 = 0 ∧ wY (nd σ i).1 = 0) : acts σ i c t = actBy (nd σ i).1 σ i c (vl t 0) (vl t 1) (vl t 2) := by
  unfold acts; rw [errs_0 ho.1 ho.2, if_neg (fun z => z rfl)]
theorem acts_rk (ho : (nd σ i).1 ≤ 6) : acts σ i c t = give σ i c (rk (nd σ i).1 (nd σ i).2.1 (vl t 0) (vl t 1)) := by
  unfold acts rk
  by_cases h : errs (nd σ i).1 (vl t 0) (vl t 1) ≠ 5
  · rw [if_pos h, if_pos h]
  · rw [if_neg h, if_neg h]; unfold actBy; rw [if_pos ho]
theorem acts_14 (ho : (nd σ i).1 = 14) (hx : GV na (vl t 0)) : acts σ i c t = mkd σ i c (vl t 0) := by
  have hw : wX 14 = 2 ∧ wY 14 = 0 := by decide +kernel
  have h5 := (errOf_b (wt := 2) (Or.inr hx)).2
  have he : errs (nd σ i).1 (vl t 0) (vl t 1) = errOf (vl t 0) 2 := by unfold errs; rw [ho, hw.1, hw.2, errOf_0, Nat.min_eq_left h5]
  unfold acts mkd
  rw [he]
  by_cases h : errOf (vl t 0) 2 ≠ 5
  · rw [if_pos h, if_pos h]
  · rw [if_neg h, if_neg h, ho]; rfl
theorem acts_c (ho : (nd σ i).1 = 15 ∨ (nd σ i).1 = 16) : acts σ i c t = atc σ i c (vl t 0) (vl t 1) (vl t 2) := by
  unfold acts atc
  by_cases h : errs (nd σ i).1 (vl t 0) (vl t 1) ≠ 5
  · rw [if_pos h, if_pos h]
  · rw [if_neg h, if_neg h]
    rcases ho with e | e
    · rw [if_neg (by omega), e]; rfl
    · rw [if_pos e, e]; rfl
theorem reck_gv {o : Nat} {n : Int32} (hx : GV na x) : GV na (reck o n x y) := by
  unfold reck
  split
  · exact Or.inl rfl
  · split
    · exact Or.inl rfl
    · split
      · exact Or.inl rfl
      · split
        · split
          · exact Or.inr (Or.inl ⟨rfl, 1, by decide, by decide, rfl⟩)
          · exact Or.inl rfl
        · split
          · exact Or.inl rfl
          · split
            · exact Or.inl rfl
            · exact hx
theorem GS.acts (h : GS σ) (hi : i < (sN σ).length) (hc : c < (sC σ).length) (ht : GT (sA σ) (pts σ i) t) (hfull : ∀ p, p < pts σ i → t p ≠ none) (hrm : sNt σ + (sR σ).length + (sK σ).length < 300) (hrs : (sRs σ).length < sW σ) : GS (acts σ i c t) := by
  have ho18 := (h.2.1 i _ (nd_at hi)).1
  obtain ⟨tx, ty, tx4, ty4, ty2⟩ := tabs _ ho18
  have hv0 : GV (sA σ) (vl t 0) := vl_gv ht (hfull 0 (pts_b σ i).1)
  have hv1 : wY (nd σ i).1 = 0 ∨ GV (sA σ) (vl t 1) := by
    by_cases hq : wY (nd σ i).1 = 0
    · exact Or.inl hq
    · exact Or.inr (vl_gv ht (hfull 1 (ty2 hq)))
  have e1 := errOf_b (Or.inr hv0 : wX (nd σ i).1 = 0 ∨ _)
  have e2 := errOf_b hv1
  have e5 : errs (nd σ i).1 (vl t 0) (vl t 1) ≤ 5 := Nat.le_trans (Nat.min_le_left _ _) e1.2
  have e0 : 1 ≤ errs (nd σ i).1 (vl t 0) (vl t 1) := Nat.le_min.mpr ⟨e1.1, e2.1⟩
  unfold _root_.Jvm.Pilot.CTokenHouseLaw_law_r5573_f6d1de.acts
  split
  · next he => exact h.give hi hc (Or.inr (Or.inl ⟨rfl, _, e0, by omega, rfl⟩))
  · unfold actBy
    split
    · exact h.give hi hc (reck_gv hv0)
    · split
      · next e => exact h.choose hi hc hv0 (vl_gv ht (hfull 1 (by unfold pts; rw [e]; decide)))
      · split
        · exact h.move hi hc hv0
        · split
          · exact h.enterAt (fun j hj => ndx_lt h hj) hc hv0
          · split
            · exact h.leave hc hv0
            · split
              · exact h.made hi hc
              · split
                · exact h.fetched hrm (fun d hd => cix_in h hd) hi hc
                · split
                  · next e => exact h.stored (fun d hd => cix_in h hd) hi hc (vl_gv ht (hfull 2 (by unfold pts; rw [e]; decide)))
                  · exact h.res hv0 hc hrs
theorem serves_K : ∀ (n : Nat) (σ' : hs_S) (q : N3), q ∈ sK (serves d z n σ') → q ∈ sK σ'
  | 0, σ', q, h => h
  | n + 1, σ', q, h => by
    have h' : q ∈ sK (if sTr σ' ≠ 0 then σ' else serves d z n (serveAt (kf σ' d).head? σ' d z)) := h
    split at h'
    · exact h'
    · have h2 := serves_K n _ q h'
      cases e : (kf σ' d).head? with
      | none => rw [e] at h2; exact h2
      | some w =>
        rw [e] at h2
        have h3 : q ∈ sK (give (uK σ' (kdrop d (sK σ'))) w.1 w.2.1 z) := h2
        rw [(give_same _ _ _ _).2.1, sK_uK] at h3
        exact kdrop_mem h3
theorem acts_K (σ : hs_S) (i c : Nat) (t : Nat → Option V2) : ∀ q, q ∈ sK (acts σ i c t) → q ∈ sK σ ∨ (q.1 = i ∧ (nd σ i).1 = 15) := by
  intro q hq
  have gK : ∀ σ' j e w, sK (give σ' j e w) = sK σ' := fun σ' j e w => (give_same σ' j e w).2.1
  have sKs : ∀ σ' j s' e w, sK (giveS σ' j s' e w) = sK σ' := fun σ' j s' e w => (gives_same _ _ _ _ σ').2.1
  unfold acts at hq
  split at hq
  · rw [gK] at hq; exact Or.inl hq
  · unfold actBy at hq
    split at hq
    · rw [gK] at hq; exact Or.inl hq
    · split at hq
      · unfold choose at hq
        split at hq
        · rw [sKs] at hq; exact Or.inl hq
        · rw [sKs, sKs] at hq; exact Or.inl hq
      · split at hq
        · left
          unfold move at hq
          cases e : (tgt σ i c).1 with
          | none =>
            rw [e] at hq
            have hq' : q ∈ sK (uTr (uC σ (tgt σ i c).2) 2) := hq
            rw [sK_uTr, sK_uC] at hq'; exact hq'
          | some d =>
            rw [e] at hq
            have hq' : q ∈ sK (give (uC σ (tgt σ i c).2) i d (vl t 0)) := hq
            rw [gK, sK_uC] at hq'; exact hq'
        · split at hq
          · left
            unfold enter at hq
            cases e : ndx σ (nd σ i).2.1 with
            | none => rw [e] at hq; exact hq
            | some j =>
              rw [e] at hq
              have hq' : q ∈ sK (callAt (cnum (sC σ) (nI c, -1 - nI i, 0)).1 (cnum (sC σ) (nI c, -1 - nI i, 0)).2 σ j (vl t 0)) := hq
              generalize cnum (sC σ) (nI c, -1 - nI i, 0) = cn at hq'
              obtain ⟨o, L⟩ := cn
              cases o with
              | none =>
                have h2 : q ∈ sK (uTr (uC σ L) 2) := hq'
                rw [sK_uTr, sK_uC] at h2; exact h2
              | some d =>
                have h2 : q ∈ sK (come (uC σ L) j 0 d (vl t 0)) := hq'
                rw [(come_same _ _ _ _ _).2.1, sK_uC] at h2; exact h2
          · split at hq
            · left
              unfold leave at hq
              generalize ndx σ (-1 - (ct3 σ c).2.1) = o at hq
              cases o with
              | none => exact hq
              | some j =>
                have h2 : q ∈ sK (give σ j (outc σ c) (vl t 0)) := hq
                rw [gK] at h2; exact h2
            · split at hq
              · left
                unfold made at hq
                split at hq
                · rw [gK] at hq; exact hq
                · split at hq
                  · rw [sK_uTr] at hq; exact hq
                  · rw [gK] at hq; exact hq
              · split at hq
                · next e15 =>
                  cases e : cix σ (vl t 0).2 (vl t 1).2 with
                  | none =>
                    rw [e] at hq
                    have h2 : q ∈ sK (give σ i c (1, 3)) := hq
                    rw [gK] at h2; exact Or.inl h2
                  | some d =>
                    rw [e] at hq
                    have h2 : q ∈ sK (fetchAt (sCe σ d) σ i c d) := hq
                    cases e2 : sCe σ d with
                    | none =>
                      rw [e2] at h2
                      have h3 : q ∈ sK (uK σ (sK σ ++ [(i, c, d)])) := h2
                      rw [sK_uK] at h3
                      rcases List.mem_append.mp h3 with w | w
                      · exact Or.inl w
                      · rw [List.mem_singleton.mp w]; exact Or.inr ⟨rfl, e15⟩
                    | some w =>
                      rw [e2] at h2
                      have h3 : q ∈ sK (give σ i c w) := h2
                      rw [gK] at h3; exact Or.inl h3
                · split at hq
                  · left
                    cases e : cix σ (vl t 0).2 (vl t 1).2 with
                    | none =>
                      rw [e] at hq
                      have h2 : q ∈ sK (give σ i c (1, 3)) := hq
                      rw [gK] at h2; exact h2
                    | some d =>
                      rw [e] at hq
                      have h2 : q ∈ sK (if (sCe σ d).isSome = true then uTr σ 3 else serves d (vl t 2) (kf σ d).length (give (cset σ d (vl t 2)) i c (vl t 2))) := hq
                      split at h2
                      · rw [sK_uTr] at h2; exact h2
                      · have h3 := serves_K _ _ q h2
                        rw [gK] at h3; exact h3
                  · rw [sK_uRs] at hq; exact Or.inl hq
theorem GK.acts (h : GK σ) : GK (acts σ i c t) := fun q hq => by
  rw [nd_cg (acts_k σ i c t).1]
  rcases acts_K σ i c t q hq with w | ⟨w1, w2⟩
  · exact h q w
  · rw [w1, w2]; decide
end MGO
