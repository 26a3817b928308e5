/-! WHAT IS TRUE OF THE STATE STAYS TRUE (the state alone) -/
section PURE2
variable {σ σ' : hs_S} {i c p s na k d : Nat} {v x y z : V2} {t : Nat → Option V2}
theorem GS.give (h : GS σ) (hi : i < (sN σ).length) (hc : c < (sC σ).length) (hv : GV (sA σ) v) : GS (give σ i c v) := GS.gives _ hv hc _ (h.arcs hi) h
theorem GS.giveS (h : GS σ) (hi : i < (sN σ).length) (hc : c < (sC σ).length) (hv : GV (sA σ) v) : GS (giveS σ i s c v) := GS.gives _ hv hc _ (h.arcs hi) h
theorem GS.choose (h : GS σ) (hi : i < (sN σ).length) (hc : c < (sC σ).length) (hx : GV (sA σ) x) (hy : GV (sA σ) y) : GS (choose σ i c x y) := by
  have he : GV (sA σ) (if y.1 = 1 then y else (1, 4)) := by
    split
    · exact hy
    · exact Or.inr (Or.inl ⟨rfl, 4, by decide, by decide, rfl⟩)
  unfold _root_.Jvm.Pilot.CTokenHouseLaw_law_r5573_f6d1de.choose
  split
  · exact h.giveS hi hc hx
  · have s1 : same9 σ (_root_.Jvm.Pilot.CTokenHouseLaw_law_r5573_f6d1de.giveS σ i 0 c (if y.1 = 1 then y else (1, 4))) := gives_same _ _ _ _ σ
    exact (h.giveS hi hc he).giveS (by rw [s1.1.1]; exact hi) (by rw [s1.1.2.1]; exact hc) (by rw [s1.1.2.2.1]; exact he)
theorem GS.moveAt {o : Option Nat} {L : List T3} (h : GS σ) (hL : GS (uC σ L)) (hd : ∀ d, o = some d → d < L.length) (hi : i < (sN σ).length) (hx : GV (sA σ) x) : GS (moveAt o L σ i x) := by
  cases o with
  | none => exact hL.tr (by decide)
  | some d => exact hL.give (by rw [sN_uC]; exact hi) (by rw [sC_uC]; exact hd d rfl) (by rw [sA_uC]; exact hx)
theorem GS.callAt {o : Option Nat} {L : List T3} (h : GS σ) (hL : GS (uC σ L)) (hd : ∀ d, o = some d → d < L.length) (hk : k < (sN σ).length) (hx : GV (sA σ) x) : GS (callAt o L σ k x) := by
  cases o with
  | none => exact hL.tr (by decide)
  | some d => exact hL.coming (by rw [sN_uC]; exact hk) (pts_b _ _).1 (by rw [sC_uC]; exact hd d rfl) (by rw [sA_uC]; exact hx)
theorem uC_same (σ : hs_S) : uC σ (sC σ) = σ := rfl
theorem cn_lt {t : T3} {d : Nat} (h : (cnum (sC σ) t).1 = some d) : d < (cnum (sC σ) t).2.length := (List.getElem?_eq_some_iff.mp (cnum_at h)).1
theorem GS.move (h : GS σ) (hi : i < (sN σ).length) (hc : c < (sC σ).length) (hx : GV (sA σ) x) : GS (move σ i c x) := by
  have key : GS (uC σ (tgt σ i c).2) ∧ ∀ d, (tgt σ i c).1 = some d → d < (tgt σ i c).2.length := by
    have l1 := h.2.2.1.1
    have l2 := h.2.2.1.2.1
    unfold tgt
    split
    · exact ⟨h.ctx ⟨c, hc, rfl⟩, fun d hd => cn_lt hd⟩
    · split
      · split
        · exact ⟨by rw [uC_same]; exact h, fun d hd => by cases hd; exact l1⟩
        · next c0 => exact ⟨h.ctx (h.out hc c0), fun d hd => cn_lt hd⟩
      · split
        · split
          · exact ⟨by rw [uC_same]; exact h, fun d hd => by cases hd; exact l1⟩
          · next c0 => exact ⟨h.ctx (h.out hc c0), fun d hd => cn_lt hd⟩
        · refine ⟨by rw [uC_same]; exact h, fun d hd => ?_⟩
          cases hd
          split
          · exact l1
          · next c0 =>
            obtain ⟨k, hk, hke⟩ := h.out hc c0
            rw [hke, nI_clamp (by omega)]
            exact hk
  exact GS.moveAt h key.1 key.2 hi hx
theorem ndx_lt {k : Int32} {j : Nat} (h : GS σ) (hj : ndx σ k = some j) : j < (sN σ).length := by
  unfold ndx at hj
  split at hj
  · next hk =>
    have h40 := h.1
    obtain ⟨q, hq, hqe, -⟩ := pk_mu hk.1 (show ¬ nI (sN σ).length ≤ k from fun z => absurd hk.2 (by rw [Int32.not_lt]; exact z)) (show (sN σ).length < 2 ^ 31 by omega)
    rw [hqe, nI_clamp (by omega)] at hj
    cases hj
    exact hq
  · cases hj
theorem GS.enterAt {o : Option Nat} (h : GS σ) (ho : ∀ j, o = some j → j < (sN σ).length) (hc : c < (sC σ).length) (hx : GV (sA σ) x) : GS (enterAt o σ i c x) := by
  cases o with
  | none => exact h
  | some j => exact GS.callAt h (h.ctx (t := (nI c, -1 - nI i, 0)) ⟨c, hc, rfl⟩) (fun d hd => cn_lt hd) (ho j rfl) hx
theorem GS.leaveAt {o : Option Nat} (h : GS σ) (ho : ∀ j, o = some j → j < (sN σ).length) (hc : c < (sC σ).length) (hx : GV (sA σ) x) : GS (leaveAt o σ c x) := by
  cases o with
  | none => exact h
  | some j =>
    refine h.give (ho j rfl) ?_ hx
    unfold outc
    split
    · exact h.2.2.1.1
    · next c0 =>
      obtain ⟨k, hk, hke⟩ := h.out hc c0
      have l2 := h.2.2.1.2.1
      rw [hke, nI_clamp (by omega)]
      exact hk
theorem GS.leave (h : GS σ) (hc : c < (sC σ).length) (hx : GV (sA σ) x) : GS (leave σ c x) := by
  unfold _root_.Jvm.Pilot.CTokenHouseLaw_law_r5573_f6d1de.leave
  generalize ho : ndx σ (-1 - (ct3 σ c).2.1) = o
  exact h.leaveAt (fun j hj => ndx_lt h (ho.trans hj)) hc hx
theorem GS.made (h : GS σ) (hi : i < (sN σ).length) (hc : c < (sC σ).length) : GS (made σ i c x) := by
  unfold _root_.Jvm.Pilot.CTokenHouseLaw_law_r5573_f6d1de.made
  split
  · exact h.give hi hc (Or.inr (Or.inl ⟨rfl, 2, by decide, by decide, rfl⟩))
  · next hb =>
    split
    · exact h.tr (by decide)
    · next ha =>
      have h1 : ¬ x.2 < 0 := fun z => hb (Or.inl z)
      obtain ⟨n, hn, hxn⟩ := pk_lOf h1
      have h8 : x.2 ≤ 8 := Int64.not_lt.mp (fun z => hb (Or.inr z))
      have hn8 : n ≤ 8 := by rw [hxn] at h8; exact (pk_lLE hn (by decide)).mp (show lN n ≤ lN 8 from h8)
      rw [hxn, lN_clamp hn]
      exact (h.mkA (by omega) hn8).give hi hc (Or.inr (Or.inr ⟨rfl, sA σ, Nat.lt_succ_self _, rfl⟩))
theorem GS.fetched {o : Option Nat} (h : GS σ) (hrm : sNt σ + (sR σ).length + (sK σ).length < 300) (ho : ∀ d, o = some d → ∃ k j, k < sA σ ∧ j < sLe σ k ∧ d = 8 * k + j) (hi : i < (sN σ).length) (hc : c < (sC σ).length) : GS (fetched o σ i c) := by
  cases o with
  | none => exact h.give hi hc (Or.inr (Or.inl ⟨rfl, 3, by decide, by decide, rfl⟩))
  | some d =>
    show GS (fetchAt (sCe σ d) σ i c d)
    cases e : sCe σ d with
    | none => exact h.keep hrm hi hc (ho d rfl)
    | some w => exact h.give hi hc (h.2.2.2.1.2.2 d w e).2
theorem kf_head {x : N3} (h : (kf σ d).head? = some x) : x ∈ sK σ := (List.mem_filter.mp (List.mem_of_mem_head? h)).1
theorem GS.serves (hz : ∀ σ', sA σ' = sA σ → GV (sA σ') z) : ∀ (n : Nat) (σ' : hs_S), sA σ' = sA σ → GS σ' → GS (serves d z n σ')
  | 0, σ', _, h => h
  | n + 1, σ', ha, h => by
    show GS (if sTr σ' ≠ 0 then σ' else _root_.Jvm.Pilot.CTokenHouseLaw_law_r5573_f6d1de.serves d z n (serveAt (kf σ' d).head? σ' d z))
    split
    · exact h
    · cases e : (kf σ' d).head? with
      | none => exact GS.serves hz n σ' ha h
      | some q =>
        obtain ⟨g1, g2, -⟩ := h.2.2.2.2.2.2.1 q (kf_head e)
        have hs := give_same (uK σ' (kdrop d (sK σ'))) q.1 q.2.1 z
        refine GS.serves hz n _ (by show sA (_root_.Jvm.Pilot.CTokenHouseLaw_law_r5573_f6d1de.give _ _ _ _) = _; rw [hs.1.2.2.1, sA_uK]; exact ha) ?_
        exact h.kd.give (by rw [sN_uK]; exact g1) (by rw [sC_uK]; exact g2) (by rw [sA_uK]; exact hz σ' ha)
theorem GS.stored {o : Option Nat} (h : GS σ) (ho : ∀ d, o = some d → ∃ k j, k < sA σ ∧ j < sLe σ k ∧ d = 8 * k + j) (hi : i < (sN σ).length) (hc : c < (sC σ).length) (hz : GV (sA σ) z) : GS (stored o σ i c z) := by
  cases o with
  | none => exact h.give hi hc (Or.inr (Or.inl ⟨rfl, 3, by decide, by decide, rfl⟩))
  | some d =>
    show GS (if (sCe σ d).isSome = true then uTr σ 3 else _)
    split
    · exact h.tr (by decide)
    · have hd8 : d < 8 * sA σ := by
        obtain ⟨a, b, h1, h2, h3⟩ := ho d rfl
        have := h.2.2.2.1.2.1 a h1
        omega
      have hs := give_same (cset σ d z) i c z
      exact GS.serves (σ := σ) (fun σ' e => by rw [e]; exact hz) _ _ hs.1.2.2.1 ((h.ce hd8 hz).give hi hc hz)
end PURE2
