/-! MOVES OF FRAMES: what the frames mean, as one goes from place to place -/
/-- f is in nobody's list -/
def fly (γ : hf_S) (f : Nat) : Prop := f ∈ gMD γ ∧ gpl γ f = (4, 0)
/-- list r0 is l now, f stands at r1 -/
def mv (γ : hf_S) (r0 : Nat × Nat) (l : List Nat) (f : Nat) (r1 : Nat × Nat) : hf_S := wpl (wG γ (fun r => if r = r0 then l else gG γ r)) (fun x => if x = f then r1 else gpl γ x)
/-- f holds this now -/
def fill (γ : hf_S) (f na : Nat) (c : Int32) (t : Nat → Option V2) : hf_S := wft (wfc (wna γ (fun x => if x = f then na else gna γ x)) (fun x => if x = f then c else gfc γ x)) (fun x => if x = f then t else gft γ x)
/-- at node i in context c now t waits -/
def tset (T : Nat → Nat → Nat → Option V2) (i c : Nat) (t : Nat → Option V2) : Nat → Nat → Nat → Option V2 := fun j d => if j = i ∧ d = c then t else T j d
theorem map_erase {α β : Type} (g : α → β) (l : List α) (k : Nat) : (l.eraseIdx k).map g = (l.map g).eraseIdx k := by
  induction l generalizing k with
  | nil => rfl
  | cons x xs ih =>
    cases k with
    | zero => rfl
    | succ k => show g x :: (xs.eraseIdx k).map g = g x :: (xs.map g).eraseIdx k; rw [ih]
section PFM
variable {Γ : hG} {σ : hs_S} {γ : hf_S} {f : Nat} {r0 r1 : Nat × Nat} {l : List Nat}
theorem fly.out {n : Nat} (h : PF Γ σ γ) (hf : fly γ f) {r : Nat × Nat} (hr : act (sN σ).length γ r) : f ∉ gG γ r := fun z => by
  have k := ((h.2.1 r hr).2 f z).2
  rw [hf.2] at k
  have := act_n0 hr
  rw [← k] at this
  revert this; decide
theorem mv_G (r : Nat × Nat) : gG (mv γ r0 l f r1) r = if r = r0 then l else gG γ r := rfl
theorem mv_pl (x : Nat) : gpl (mv γ r0 l f r1) x = if x = f then r1 else gpl γ x := rfl
theorem act_mv {n : Nat} {r : Nat × Nat} : act n (mv γ r0 l f r1) r ↔ act n γ r := Iff.rfl
theorem eraseIdx_mem {k : Nat} (hn : l.Nodup) (hk : l[k]? = some f) : f ∉ l.eraseIdx k ∧ (l.eraseIdx k).Nodup ∧ ∀ x, x ∈ l.eraseIdx k → x ∈ l := by
  refine ⟨fun z => ?_, hn.sublist (List.eraseIdx_sublist l k), fun x hx => (List.eraseIdx_sublist l k).subset hx⟩
  obtain ⟨hk1, hk2⟩ := List.getElem?_eq_some_iff.mp hk
  rw [List.mem_eraseIdx_iff_getElem] at z
  obtain ⟨j, hj, hne, he⟩ := z
  exact hne ((List.getElem_inj hn).mp (he.trans hk2.symm))
/-- the second part of PF, as f leaves list r0 -/
theorem pf_leave (h : PF Γ σ γ) (h0 : act (sN σ).length γ r0) {k : Nat} (hk : (gG γ r0)[k]? = some f) : ∀ r, act (sN σ).length γ r → ((gG (mv γ r0 ((gG γ r0).eraseIdx k) f (4, 0)) r)).Nodup ∧ ∀ g, g ∈ gG (mv γ r0 ((gG γ r0).eraseIdx k) f (4, 0)) r → g ∈ gMD γ ∧ gpl (mv γ r0 ((gG γ r0).eraseIdx k) f (4, 0)) g = r := by
  intro r hr
  have hfm : f ∈ gG γ r0 := List.mem_of_getElem? hk
  obtain ⟨e1, e2, e3⟩ := eraseIdx_mem (h.2.1 r0 h0).1 hk
  rw [mv_G]
  by_cases hrr : r = r0
  · rw [if_pos hrr]
    refine ⟨e2, fun g hg => ⟨((h.2.1 r0 h0).2 g (e3 g hg)).1, ?_⟩⟩
    rw [mv_pl, if_neg (show ¬ g = f from fun z => e1 (z ▸ hg)), hrr]
    exact ((h.2.1 r0 h0).2 g (e3 g hg)).2
  · rw [if_neg hrr]
    refine ⟨(h.2.1 r hr).1, fun g hg => ⟨((h.2.1 r hr).2 g hg).1, ?_⟩⟩
    have hp := ((h.2.1 r hr).2 g hg).2
    rw [mv_pl, if_neg (fun z => hrr ?_)]
    · exact hp
    · rw [← hp, z]; exact ((h.2.1 r0 h0).2 f hfm).2
/-- the same, as f comes to list r0 from nowhere -/
theorem pf_enter (h : PF Γ σ γ) (h0 : act (sN σ).length γ r0) (hf : fly γ f) : ∀ r, act (sN σ).length γ r → ((gG (mv γ r0 (gG γ r0 ++ [f]) f r0) r)).Nodup ∧ ∀ g, g ∈ gG (mv γ r0 (gG γ r0 ++ [f]) f r0) r → g ∈ gMD γ ∧ gpl (mv γ r0 (gG γ r0 ++ [f]) f r0) g = r := by
  intro r hr
  have ho := fly.out (n := 0) h hf hr
  rw [mv_G]
  by_cases hrr : r = r0
  · rw [if_pos hrr]
    rw [hrr] at ho
    refine ⟨List.nodup_append.mpr ⟨(h.2.1 r0 h0).1, by simp, fun a ha b hb => ?_⟩, fun g hg => ?_⟩
    · simp at hb; rw [hb]; exact fun z => ho (z ▸ ha)
    · rcases List.mem_append.mp hg with hg | hg
      · rw [mv_pl, if_neg (show ¬ g = f from fun z => ho (z ▸ hg)), hrr]
        exact (h.2.1 r0 h0).2 g hg
      · simp at hg
        rw [mv_pl, if_pos hg, hrr, hg]
        exact ⟨hf.1, rfl⟩
  · rw [if_neg hrr]
    refine ⟨(h.2.1 r hr).1, fun g hg => ⟨((h.2.1 r hr).2 g hg).1, ?_⟩⟩
    rw [mv_pl, if_neg (show ¬ g = f from fun z => ho (z ▸ hg))]
    exact ((h.2.1 r hr).2 g hg).2
theorem kf_same {σ' : hs_S} (h : sK σ' = sK σ) (c : Nat) : kf σ' c = kf σ c := by unfold kf; rw [h]
/-- out of the free ones -/
theorem PF.unfree (h : PF Γ σ γ) {k : Nat} (hk : (gG γ (2, 0))[k]? = some f) : PF Γ σ (mv γ (2, 0) ((gG γ (2, 0)).eraseIdx k) f (4, 0)) := by
  obtain ⟨h1, h2, h3, h4, h5, h6, h7⟩ := id h
  refine ⟨h1, pf_leave h (Or.inl rfl) hk, fun g hg => h3 g ?_, h4, h5, h6, h7⟩
  exact (List.eraseIdx_sublist _ k).subset hg
/-- to the free ones -/
theorem PF.free (h : PF Γ σ γ) (hf : fly γ f) (ht : gft γ f = no3) : PF Γ σ (mv γ (2, 0) (gG γ (2, 0) ++ [f]) f (2, 0)) := by
  obtain ⟨h1, h2, h3, h4, h5, h6, h7⟩ := id h
  refine ⟨h1, pf_enter h (Or.inl rfl) hf, fun g hg => ?_, h4, h5, h6, h7⟩
  rcases List.mem_append.mp (show g ∈ gG γ (2, 0) ++ [f] from hg) with hg | hg
  · exact h3 g hg
  · simp at hg; rw [hg]; exact ht
/-- out of the ready ones -/
theorem PF.unready (h : PF Γ σ γ) {k : Nat} (hk : (gG γ (3, 0))[k]? = some f) : PF Γ (uR σ ((sR σ).eraseIdx k)) (mv γ (3, 0) ((gG γ (3, 0)).eraseIdx k) f (4, 0)) := by
  obtain ⟨h1, h2, h3, h4, h5, h6, h7⟩ := id h
  refine ⟨h1, pf_leave h (Or.inr (Or.inl rfl)) hk, h3, h4, ?_, h6, h7⟩
  show ((sR σ).eraseIdx k).map _ = ((gG γ (3, 0)).eraseIdx k).map _
  rw [map_erase, h5, ← map_erase]
  rfl
/-- to the ready ones -/
theorem PF.ready (h : PF Γ σ γ) (hf : fly γ f) {i c : Nat} {t : Nat → Option V2} (ht : gna γ f = nad Γ i ∧ gfc γ f = nI c ∧ gft γ f = t) : PF Γ (uR σ (sR σ ++ [(i, c, t)])) (mv γ (3, 0) (gG γ (3, 0) ++ [f]) f (3, 0)) := by
  obtain ⟨h1, h2, h3, h4, h5, h6, h7⟩ := id h
  refine ⟨h1, pf_enter h (Or.inr (Or.inl rfl)) hf, h3, h4, ?_, h6, h7⟩
  show (sR σ ++ [(i, c, t)]).map _ = (gG γ (3, 0) ++ [f]).map _
  rw [List.map_append, List.map_append, h5]
  show _ ++ [(nad Γ i, nI c, t)] = _ ++ [(gna γ f, gfc γ f, gft γ f)]
  rw [ht.1, ht.2.1, ht.2.2]
  rfl
/-- to those that wait, with nothing yet -/
theorem PF.wait (h : PF Γ σ γ) (hf : fly γ f) {i c : Nat} (hi : i < (sN σ).length) (hc : c < 151) (ht : gna γ f = nad Γ i ∧ gfc γ f = nI c ∧ gft γ f = no3) (hno : ∀ g, g ∈ gG γ (6, i) → gfc γ g ≠ nI c) : PF Γ σ (mv γ (6, i) (gG γ (6, i) ++ [f]) f (6, i)) := by
  obtain ⟨h1, h2, h3, h4, h5, h6, h7⟩ := id h
  have hT : sT σ i c = no3 := by
    rcases (h4 i hi).2.2 c hc with ⟨g, hg, hg2⟩ | h
    · exact absurd hg2 (hno g hg)
    · exact h
  refine ⟨h1, pf_enter h (Or.inr (Or.inr (Or.inl ⟨rfl, hi⟩))) hf, h3, fun j hj => ?_, h5, fun c' hc' => ?_, h7⟩
  · rw [mv_G]
    by_cases hji : j = i
    · subst hji
      rw [if_pos rfl]
      refine ⟨fun g hg => ?_, fun g g' hg hg' hgg => ?_, fun d hd => ?_⟩
      · rcases List.mem_append.mp hg with hg | hg
        · exact (h4 j hj).1 g hg
        · simp at hg; subst hg
          exact ⟨ht.1, c, hc, ht.2.1, ht.2.2.trans hT.symm⟩
      · rcases List.mem_append.mp hg with hq | hq
        · rcases List.mem_append.mp hg' with hq' | hq'
          · exact (h4 j hj).2.1 g g' hq hq' hgg
          · simp at hq'
            exact absurd (hgg.trans (hq' ▸ ht.2.1)) (hno g hq)
        · simp at hq
          rcases List.mem_append.mp hg' with hq' | hq'
          · exact absurd (hgg.symm.trans (hq ▸ ht.2.1)) (hno g' hq')
          · simp at hq'; rw [hq, hq']
      · rcases (h4 j hj).2.2 d hd with ⟨g, hg, hg2⟩ | h
        · exact Or.inl ⟨g, List.mem_append_left _ hg, hg2⟩
        · exact Or.inr h
    · rw [if_neg (fun z => hji (Prod.mk.inj z).2)]
      exact h4 j hj
  · exact h6 c' hc'
/-- out of those that wait: what waited there is gone -/
theorem PF.unwait (h : PF Γ σ γ) {i c k : Nat} (hi : i < (sN σ).length) (hc : c < 151) (hk : (gG γ (6, i))[k]? = some f) (hfc : gfc γ f = nI c) : PF Γ (uT σ (tset (sT σ) i c no3)) (mv γ (6, i) ((gG γ (6, i)).eraseIdx k) f (4, 0)) := by
  obtain ⟨h1, h2, h3, h4, h5, h6, h7⟩ := id h
  have h0 : act (sN σ).length γ (6, i) := Or.inr (Or.inr (Or.inl ⟨rfl, hi⟩))
  obtain ⟨e1, e2, e3⟩ := eraseIdx_mem (h.2.1 _ h0).1 hk
  have hfm : f ∈ gG γ (6, i) := List.mem_of_getElem? hk
  refine ⟨h1, pf_leave h h0 hk, h3, fun j hj => ?_, h5, h6, h7⟩
  rw [mv_G]
  show _ ∧ _ ∧ ∀ d, d < 151 → _ ∨ tset (sT σ) i c no3 j d = no3
  by_cases hji : j = i
  · subst hji
    rw [if_pos rfl]
    refine ⟨fun g hg => ?_, fun g g' hg hg' hgg => (h4 j hj).2.1 g g' (e3 g hg) (e3 g' hg') hgg, fun d hd => ?_⟩
    · obtain ⟨m1, d, m2, m3, m4⟩ := (h4 j hj).1 g (e3 g hg)
      refine ⟨m1, d, m2, m3, ?_⟩
      show gft γ g = tset (sT σ) j c no3 j d
      unfold tset
      rw [if_neg (fun z => e1 ?_)]
      · exact m4
      · have : g = f := (h4 j hj).2.1 g f (e3 g hg) hfm (by rw [m3, hfc, z.2])
        exact this ▸ hg
    · by_cases hdc : d = c
      · exact Or.inr (by unfold tset; rw [if_pos ⟨rfl, hdc⟩])
      · rcases (h4 j hj).2.2 d hd with ⟨g, hg, hg2⟩ | h
        · refine Or.inl ⟨g, ?_, hg2⟩
          obtain ⟨q, hq, hqe⟩ := List.mem_iff_getElem.mp hg
          refine List.mem_eraseIdx_iff_getElem.mpr ⟨q, hq, fun z => hdc ?_, hqe⟩
          obtain ⟨hk1, hk2⟩ := List.getElem?_eq_some_iff.mp hk
          subst z
          have : g = f := hqe.symm.trans hk2
          rw [this, hfc] at hg2
          exact ((nI_eq (by omega) (by omega)).mp hg2).symm
        · exact Or.inr (by unfold tset; rw [if_neg (fun z => hdc z.2)]; exact h)
  · rw [if_neg (fun z => hji (Prod.mk.inj z).2)]
    have hT : ∀ d, tset (sT σ) i c no3 j d = sT σ j d := fun d => by unfold tset; rw [if_neg (fun z => hji z.1)]
    refine ⟨fun g hg => ?_, (h4 j hj).2.1, fun d hd => by rw [hT]; exact (h4 j hj).2.2 d hd⟩
    obtain ⟨m1, d, m2, m3, m4⟩ := (h4 j hj).1 g hg
    exact ⟨m1, d, m2, m3, m4.trans (hT d).symm⟩
/-- a frame that waits is filled -/
theorem PF.put (h : PF Γ σ γ) {i c : Nat} {t : Nat → Option V2} (hi : i < (sN σ).length) (hc : c < 151) (hf : f ∈ gG γ (6, i)) (hfc : gfc γ f = nI c) : PF Γ (uT σ (tset (sT σ) i c t)) (fill γ f (gna γ f) (gfc γ f) t) := by
  obtain ⟨h1, h2, h3, h4, h5, h6, h7⟩ := id h
  have h0 : act (sN σ).length γ (6, i) := Or.inr (Or.inr (Or.inl ⟨rfl, hi⟩))
  have hp := ((h2 _ h0).2 f hf).2
  have hne : ∀ r, act (sN σ).length γ r → r ≠ (6, i) → ∀ g, g ∈ gG γ r → g ≠ f := fun r hr hrr g hg z => hrr (by rw [← ((h2 r hr).2 g hg).2, z, hp])
  have hna : ∀ g, gna (fill γ f (gna γ f) (gfc γ f) t) g = gna γ g := fun g => by
    show (if g = f then gna γ f else gna γ g) = _
    split
    · next z => rw [z]
    · rfl
  have hfc2 : ∀ g, gfc (fill γ f (gna γ f) (gfc γ f) t) g = gfc γ g := fun g => by
    show (if g = f then gfc γ f else gfc γ g) = _
    split
    · next z => rw [z]
    · rfl
  have hft : ∀ g, g ≠ f → gft (fill γ f (gna γ f) (gfc γ f) t) g = gft γ g := fun g z => by
    show (if g = f then t else gft γ g) = _
    rw [if_neg z]
  have hmap : ∀ r, act (sN σ).length γ r → r ≠ (6, i) → (gG γ r).map (fun g => (gna (fill γ f (gna γ f) (gfc γ f) t) g, gfc (fill γ f (gna γ f) (gfc γ f) t) g, gft (fill γ f (gna γ f) (gfc γ f) t) g)) = (gG γ r).map (fun g => (gna γ g, gfc γ g, gft γ g)) := fun r hr hrr => List.map_congr_left (fun g hg => by rw [hna, hfc2, hft g (hne r hr hrr g hg)])
  refine ⟨h1, h2, fun g hg => ?_, fun j hj => ?_, ?_, fun c' hc' => ?_, h7⟩
  · rw [hft g (hne (2, 0) (Or.inl rfl) (by simp) g hg)]; exact h3 g hg
  · show _ ∧ _ ∧ ∀ d, d < 151 → (∃ g, g ∈ gG γ (6, j) ∧ _) ∨ tset (sT σ) i c t j d = no3
    refine ⟨fun g hg => ?_, fun g g' hg hg' hgg => ?_, fun d hd => ?_⟩
    · have hg' : g ∈ gG γ (6, j) := hg
      obtain ⟨m1, d, m2, m3, m4⟩ := (h4 j hj).1 g hg'
      refine ⟨(hna g).trans m1, d, m2, (hfc2 g).trans m3, ?_⟩
      show gft (fill γ f (gna γ f) (gfc γ f) t) g = tset (sT σ) i c t j d
      unfold tset
      by_cases hgf : g = f
      · subst hgf
        have hji : j = i := (Prod.mk.inj ((((h2 _ (Or.inr (Or.inr (Or.inl ⟨rfl, hj⟩)))).2 g hg').2).symm.trans hp)).2
        have hdc : d = c := (nI_eq (by omega) (by omega)).mp (m3.symm.trans hfc)
        rw [if_pos ⟨hji, hdc⟩]
        show (if g = g then t else gft γ g) = t
        rw [if_pos rfl]
      · rw [hft g hgf, m4, if_neg (fun z => hgf ?_)]
        obtain ⟨rfl, rfl⟩ := z
        exact (h4 j hj).2.1 g f hg' hf (m3.trans hfc.symm)
    · rw [hfc2, hfc2] at hgg
      exact (h4 j hj).2.1 g g' hg hg' hgg
    · by_cases hz : j = i ∧ d = c
      · obtain ⟨rfl, rfl⟩ := hz
        exact Or.inl ⟨f, hf, (hfc2 f).trans hfc⟩
      · rcases (h4 j hj).2.2 d hd with ⟨g, hg, hg2⟩ | h
        · exact Or.inl ⟨g, hg, (hfc2 g).trans hg2⟩
        · exact Or.inr (by unfold tset; rw [if_neg hz]; exact h)
  · exact h5.trans (hmap (3, 0) (Or.inr (Or.inl rfl)) (by simp)).symm
  · exact (h6 c' hc').trans (hmap (7, c') (Or.inr (Or.inr (Or.inr ⟨rfl, hc'⟩))) (by simp)).symm
/-- a frame in flight is filled -/
theorem PF.flown (h : PF Γ σ γ) (hf : fly γ f) {na : Nat} {c : Int32} {t : Nat → Option V2} : PF Γ σ (fill γ f na c t) := by
  obtain ⟨h1, h2, h3, h4, h5, h6, h7⟩ := id h
  have hne : ∀ r, act (sN σ).length γ r → ∀ g, g ∈ gG γ r → g ≠ f := fun r hr g hg z => fly.out (n := 0) h hf hr (z ▸ hg)
  have hna : ∀ g, g ≠ f → gna (fill γ f na c t) g = gna γ g := fun g z => by show (if g = f then na else gna γ g) = _; rw [if_neg z]
  have hfc : ∀ g, g ≠ f → gfc (fill γ f na c t) g = gfc γ g := fun g z => by show (if g = f then c else gfc γ g) = _; rw [if_neg z]
  have hft : ∀ g, g ≠ f → gft (fill γ f na c t) g = gft γ g := fun g z => by show (if g = f then t else gft γ g) = _; rw [if_neg z]
  have hmap : ∀ r, act (sN σ).length γ r → (gG γ r).map (fun g => (gna (fill γ f na c t) g, gfc (fill γ f na c t) g, gft (fill γ f na c t) g)) = (gG γ r).map (fun g => (gna γ g, gfc γ g, gft γ g)) := fun r hr => List.map_congr_left (fun g hg => by rw [hna g (hne r hr g hg), hfc g (hne r hr g hg), hft g (hne r hr g hg)])
  refine ⟨h1, h2, fun g hg => ?_, fun j hj => ?_, h5.trans (hmap (3, 0) (Or.inr (Or.inl rfl))).symm, fun c' hc' => (h6 c' hc').trans (hmap (7, c') (Or.inr (Or.inr (Or.inr ⟨rfl, hc'⟩)))).symm, h7⟩
  · rw [hft g (hne (2, 0) (Or.inl rfl) g hg)]; exact h3 g hg
  · have hj6 : act (sN σ).length γ (6, j) := Or.inr (Or.inr (Or.inl ⟨rfl, hj⟩))
    refine ⟨fun g hg => ?_, fun g g' hg hg' hgg => ?_, fun d hd => ?_⟩
    · rw [hna g (hne _ hj6 g hg), hfc g (hne _ hj6 g hg), hft g (hne _ hj6 g hg)]; exact (h4 j hj).1 g hg
    · rw [hfc g (hne _ hj6 g hg), hfc g' (hne _ hj6 g' hg')] at hgg
      exact (h4 j hj).2.1 g g' hg hg' hgg
    · rcases (h4 j hj).2.2 d hd with ⟨g, hg, hg2⟩ | h
      · exact Or.inl ⟨g, hg, (hfc g (hne _ hj6 g hg)).trans hg2⟩
      · exact Or.inr h
/-- a frame more is made -/
theorem PF.new (h : PF Γ σ γ) (hf : f ∉ gMD γ) : PF Γ σ (wpl (wMD γ (gMD γ ++ [f])) (fun x => if x = f then (4, 0) else gpl γ x)) := by
  obtain ⟨h1, h2, h3, h4, h5, h6, h7⟩ := id h
  refine ⟨?_, fun r hr => ?_, h3, h4, h5, h6, h7⟩
  · show (gMD γ ++ [f]).Nodup
    exact List.nodup_append.mpr ⟨h1, by simp, fun a ha b hb => by simp at hb; rw [hb]; exact fun z => hf (z ▸ ha)⟩
  · have hr' : act (sN σ).length γ r := hr
    refine ⟨(h2 r hr').1, fun g hg => ⟨List.mem_append_left _ ((h2 r hr').2 g hg).1, ?_⟩⟩
    show (if g = f then (4, 0) else gpl γ g) = r
    rw [if_neg (show ¬ g = f from fun z => hf (z ▸ ((h2 r hr').2 g hg).1))]
    exact ((h2 r hr').2 g hg).2
/-- to those kept for cell d -/
theorem PF.keep (h : PF Γ σ γ) (hf : fly γ f) {i c d a : Nat} (hd : gcd γ d = some a) (ht : gna γ f = nad Γ i ∧ gfc γ f = nI c ∧ gft γ f = no3) : PF Γ (uK σ (sK σ ++ [(i, c, d)])) (mv γ (7, d) (gG γ (7, d) ++ [f]) f (7, d)) := by
  obtain ⟨h1, h2, h3, h4, h5, h6, h7⟩ := id h
  have hk : ∀ e, kf (uK σ (sK σ ++ [(i, c, d)])) e = kf σ e ++ (if d = e then [(i, c, d)] else []) := fun e => by
    unfold kf
    show (sK σ ++ [(i, c, d)]).filter _ = _
    rw [List.filter_append]
    congr 1
    by_cases hde : d = e
    · rw [if_pos hde]; simp [hde]
    · rw [if_neg hde]; simp [hde]
  refine ⟨h1, pf_enter h (Or.inr (Or.inr (Or.inr ⟨rfl, a, hd⟩))) hf, h3, h4, h5, fun e he => ?_, fun e he => ?_⟩
  · rw [hk, mv_G]
    by_cases hde : d = e
    · subst hde
      rw [if_pos rfl, if_pos rfl, List.map_append, List.map_append, h6 d he]
      show _ ++ [(nad Γ i, nI c, no3)] = _ ++ [(gna γ f, gfc γ f, gft γ f)]
      rw [ht.1, ht.2.1, ht.2.2]
      rfl
    · rw [if_neg hde, if_neg (fun z => hde (Prod.mk.inj z).2.symm), List.append_nil]
      exact h6 e he
  · rw [hk, if_neg (fun z => by rw [← z] at he; have he' : gcd γ d = none := he; rw [hd] at he'; cases he'), List.append_nil]
    exact h7 e he
/-- the first of those kept for cell d goes -/
def kdrop (d : Nat) : List (Nat × Nat × Nat) → List (Nat × Nat × Nat)
  | [] => []
  | x :: xs => if x.2.2 == d then xs else x :: kdrop d xs
theorem kdrop_f (d e : Nat) (l : List (Nat × Nat × Nat)) : (kdrop d l).filter (fun x => x.2.2 == e) = if d = e then (l.filter (fun x => x.2.2 == e)).eraseIdx 0 else l.filter (fun x => x.2.2 == e) := by
  induction l with
  | nil => simp [kdrop]
  | cons x xs ih =>
    unfold kdrop
    by_cases hx : x.2.2 = d
    · rw [if_pos (by simp [hx])]
      by_cases hde : d = e
      · rw [if_pos hde, List.filter_cons_of_pos (by simp [hx, hde])]; rfl
      · rw [if_neg hde, List.filter_cons_of_neg (by simp [hx, hde])]
    · rw [if_neg (by simp [hx])]
      by_cases hxe : x.2.2 = e
      · rw [List.filter_cons_of_pos (by simp [hxe]), List.filter_cons_of_pos (by simp [hxe]), ih, if_neg (fun z => hx (hxe.trans z.symm)), if_neg (fun z => hx (hxe.trans z.symm))]
      · rw [List.filter_cons_of_neg (by simp [hxe]), List.filter_cons_of_neg (by simp [hxe]), ih]
theorem PF.unkeep (h : PF Γ σ γ) {d a : Nat} (hd : gcd γ d = some a) (hk : (gG γ (7, d))[0]? = some f) : PF Γ (uK σ (kdrop d (sK σ))) (mv γ (7, d) ((gG γ (7, d)).eraseIdx 0) f (4, 0)) := by
  obtain ⟨h1, h2, h3, h4, h5, h6, h7⟩ := id h
  have hkk : ∀ e, kf (uK σ (kdrop d (sK σ))) e = if d = e then (kf σ e).eraseIdx 0 else kf σ e := fun e => kdrop_f d e (sK σ)
  refine ⟨h1, pf_leave h (Or.inr (Or.inr (Or.inr ⟨rfl, a, hd⟩))) hk, h3, h4, h5, fun e he => ?_, fun e he => ?_⟩
  · rw [hkk, mv_G]
    by_cases hde : d = e
    · subst hde
      rw [if_pos rfl, if_pos rfl, map_erase, h6 d he, ← map_erase]
      rfl
    · rw [if_neg hde, if_neg (fun z => hde (Prod.mk.inj z).2.symm)]
      exact h6 e he
  · rw [hkk]
    by_cases hde : d = e
    · rw [← hde] at he; have he' : gcd γ d = none := he; rw [hd] at he'; cases he'
    · rw [if_neg hde]; exact h7 e he
end PFM
