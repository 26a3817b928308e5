/-! THE REFERENCE: gather -/
section RHO
variable {ρ : hr_S} {k j : Nat} {v : Int32} {f : Nat → Int32} {g : Nat → Int64}
theorem rS_1 : (rS ρ k v).1 j = if j = k then v else ρ.1 j := rfl
theorem rS_2 : (rS ρ k v).2.1 = ρ.2.1 := rfl
theorem rS_3 : (rS ρ k v).2.2 = ρ.2.2 := rfl
theorem rI_1 : (rI ρ k f).1 = ρ.1 := rfl
theorem rI_2 : (rI ρ k f).2.1 j = if j = k then f else ρ.2.1 j := rfl
theorem rI_3 : (rI ρ k f).2.2 = ρ.2.2 := rfl
theorem rJ_1 : (rJ ρ k g).1 = ρ.1 := rfl
theorem rJ_2 : (rJ ρ k g).2.1 = ρ.2.1 := rfl
theorem rJ_3 : (rJ ρ k g).2.2 j = if j = k then g else ρ.2.2 j := rfl
end RHO
/-- but for the fields of l nothing has changed -/
def AG (l : List Nat) (ρ ρ' : hr_S) : Prop := ∀ k, k ∉ l → ρ'.1 k = ρ.1 k ∧ ρ'.2.1 k = ρ.2.1 k ∧ ρ'.2.2 k = ρ.2.2 k
section AGS
variable {l l' : List Nat} {ρ ρ' ρ2 : hr_S} {k : Nat}
theorem AG.rf (l : List Nat) (ρ : hr_S) : AG l ρ ρ := fun _ _ => ⟨rfl, rfl, rfl⟩
theorem AG.tr (h : AG l ρ ρ') (h2 : AG l ρ' ρ2) : AG l ρ ρ2 := fun k hk => ⟨(h2 k hk).1.trans (h k hk).1, (h2 k hk).2.1.trans (h k hk).2.1, (h2 k hk).2.2.trans (h k hk).2.2⟩
theorem AG.mono (h : AG l ρ ρ') (hl : ∀ k, k ∈ l → k ∈ l') : AG l' ρ ρ' := fun k hk => h k (fun z => hk (hl k z))
theorem AG.s {v : Int32} (h : AG l ρ ρ') (hk : k ∈ l) : AG l ρ (rS ρ' k v) := fun j hj => ⟨by rw [rS_1, if_neg (fun z : j = k => hj (by rw [z]; exact hk))]; exact (h j hj).1, by rw [rS_2]; exact (h j hj).2.1, by rw [rS_3]; exact (h j hj).2.2⟩
theorem AG.i {f : Nat → Int32} (h : AG l ρ ρ') (hk : k ∈ l) : AG l ρ (rI ρ' k f) := fun j hj => ⟨by rw [rI_1]; exact (h j hj).1, by rw [rI_2, if_neg (fun z : j = k => hj (by rw [z]; exact hk))]; exact (h j hj).2.1, by rw [rI_3]; exact (h j hj).2.2⟩
theorem AG.j {f : Nat → Int64} (h : AG l ρ ρ') (hk : k ∈ l) : AG l ρ (rJ ρ' k f) := fun j hj => ⟨by rw [rJ_1]; exact (h j hj).1, by rw [rJ_2]; exact (h j hj).2.1, by rw [rJ_3, if_neg (fun z : j = k => hj (by rw [z]; exact hk))]; exact (h j hj).2.2⟩
theorem HNd.ag {L : List ND} (h : HNd ρ L) (a : AG l ρ ρ') (hl : ∀ k, k ∈ [1, 2, 3, 4, 5, 6, 7] → k ∉ l) : HNd ρ' L := by
  unfold HNd
  rw [(a 1 (hl 1 (by decide))).1, (a 2 (hl 2 (by decide))).2.1, (a 3 (hl 3 (by decide))).2.1, (a 4 (hl 4 (by decide))).2.1, (a 5 (hl 5 (by decide))).2.1, (a 6 (hl 6 (by decide))).2.1, (a 7 (hl 7 (by decide))).2.1]
  exact h
theorem HCx.ag {L : List T3} (h : HCx ρ L) (a : AG l ρ ρ') (hl : ∀ k, k ∈ [9, 10, 11, 12] → k ∉ l) : HCx ρ' L := by
  unfold HCx
  rw [(a 9 (hl 9 (by decide))).1, (a 10 (hl 10 (by decide))).2.1, (a 11 (hl 11 (by decide))).2.1, (a 12 (hl 12 (by decide))).2.1]
  exact h
theorem HAr.ag {n : Nat} {le : Nat → Nat} {ce : Nat → Option V2} (h : HAr ρ n le ce) (a : AG l ρ ρ') (hl : ∀ k, k ∈ [13, 14, 15, 16] → k ∉ l) : HAr ρ' n le ce := by
  unfold HAr
  rw [(a 13 (hl 13 (by decide))).1, (a 14 (hl 14 (by decide))).2.1, (a 15 (hl 15 (by decide))).2.1, (a 16 (hl 16 (by decide))).2.2]
  exact h
theorem HRd.ag {L : List R3} (h : HRd ρ L) (a : AG l ρ ρ') (hl : ∀ k, k ∈ [23, 24, 25, 26, 27] → k ∉ l) : HRd ρ' L := by
  unfold HRd
  rw [(a 23 (hl 23 (by decide))).1, (a 24 (hl 24 (by decide))).2.1, (a 25 (hl 25 (by decide))).2.1, (a 26 (hl 26 (by decide))).2.1, (a 27 (hl 27 (by decide))).2.2]
  exact h
theorem HKp.ag {L : List N3} (h : HKp ρ L) (a : AG l ρ ρ') (hl : ∀ k, k ∈ [28, 29, 30, 31] → k ∉ l) : HKp ρ' L := by
  unfold HKp
  rw [(a 28 (hl 28 (by decide))).1, (a 29 (hl 29 (by decide))).2.1, (a 30 (hl 30 (by decide))).2.1, (a 31 (hl 31 (by decide))).2.1]
  exact h
theorem HRs.ag {L : List (V2 × Nat)} (h : HRs ρ L) (a : AG l ρ ρ') (hl : ∀ k, k ∈ [32, 33, 34, 35] → k ∉ l) : HRs ρ' L := by
  unfold HRs
  rw [(a 32 (hl 32 (by decide))).1, (a 33 (hl 33 (by decide))).2.1, (a 34 (hl 34 (by decide))).2.2, (a 35 (hl 35 (by decide))).2.1]
  exact h
theorem HSc.ag {σ : hs_S} (h : HSc ρ σ) (a : AG l ρ ρ') (hl : ∀ k, k ∈ [8, 36, 37, 38] → k ∉ l) : HSc ρ' σ := by
  unfold HSc
  rw [(a 8 (hl 8 (by decide))).1, (a 36 (hl 36 (by decide))).1, (a 37 (hl 37 (by decide))).1, (a 38 (hl 38 (by decide))).1]
  exact h
theorem HT.ag {T : List TK} (h : HT ρ T) (a : AG l ρ ρ') (hl : ∀ k, k ∈ [17, 18, 19, 20, 21, 22] → k ∉ l) : HT ρ' T := by
  unfold HT
  rw [(a 17 (hl 17 (by decide))).1, (a 18 (hl 18 (by decide))).2.1, (a 19 (hl 19 (by decide))).2.1, (a 20 (hl 20 (by decide))).2.1, (a 21 (hl 21 (by decide))).2.1, (a 22 (hl 22 (by decide))).2.2]
  exact h
end AGS
/-! shifting -/
def sh {α : Type} (f : Nat → α) (k j : Nat) : Nat → α := fun x => if k ≤ x ∧ x < j then f (x + 1) else f x
theorem sh_0 {α : Type} (f : Nat → α) (k : Nat) : sh f k k = f := by
  funext x; unfold sh; rw [if_neg (by omega)]
theorem sh_s (f : Nat → Int32) {k j : Nat} (h : k ≤ j) : upd (sh f k j) j (sh f k j (j + 1)) = sh f k (j + 1) := by
  funext x
  unfold upd sh
  by_cases e : x = j
  · rw [if_pos e, if_neg (by omega), if_pos (by omega), e]
  · rw [if_neg e]
    by_cases z : k ≤ x ∧ x < j
    · rw [if_pos z, if_pos (by omega)]
    · rw [if_neg z, if_neg (by omega)]
theorem sh_sL (f : Nat → Int64) {k j : Nat} (h : k ≤ j) : vp_updL (sh f k j) j (sh f k j (j + 1)) = sh f k (j + 1) := by
  funext x
  unfold vp_updL sh
  by_cases e : x = j
  · rw [if_pos e, if_neg (by omega), if_pos (by omega), e]
  · rw [if_neg e]
    by_cases z : k ≤ x ∧ x < j
    · rw [if_pos z, if_pos (by omega)]
    · rw [if_neg z, if_neg (by omega)]
/-- the tokens' arrays from k to j one place down -/
def rT (ρ : hr_S) (k j : Nat) : hr_S := rJ (rI (rI (rI (rI ρ 18 (sh (ρ.2.1 18) k j)) 19 (sh (ρ.2.1 19) k j)) 20 (sh (ρ.2.1 20) k j)) 21 (sh (ρ.2.1 21) k j)) 22 (sh (ρ.2.2 22) k j)
theorem rT_ag (ρ : hr_S) (k j : Nat) : AG [18, 19, 20, 21, 22] ρ (rT ρ k j) := by
  unfold rT
  exact (((((AG.rf _ ρ).i (by decide)).i (by decide)).i (by decide)).i (by decide)).j (by decide)
theorem rT_v (ρ : hr_S) (k j : Nat) : (rT ρ k j).2.1 18 = sh (ρ.2.1 18) k j ∧ (rT ρ k j).2.1 19 = sh (ρ.2.1 19) k j ∧ (rT ρ k j).2.1 20 = sh (ρ.2.1 20) k j ∧ (rT ρ k j).2.1 21 = sh (ρ.2.1 21) k j ∧ (rT ρ k j).2.2 22 = sh (ρ.2.2 22) k j := by
  unfold rT
  simp [rS_1, rS_2, rS_3, rI_1, rI_2, rI_3, rJ_1, rJ_2, rJ_3]
theorem hr_ext {ρ ρ' : hr_S} (h1 : ∀ k, ρ.1 k = ρ'.1 k) (h2 : ∀ k, ρ.2.1 k = ρ'.2.1 k) (h3 : ∀ k, ρ.2.2 k = ρ'.2.2 k) : ρ = ρ' := Prod.ext (funext h1) (Prod.ext (funext h2) (funext h3))
theorem rT_0 (ρ : hr_S) (k : Nat) : rT ρ k k = ρ := by
  unfold rT
  simp only [sh_0]
  refine hr_ext (fun j => ?_) (fun j => ?_) (fun j => ?_)
  · simp only [rS_1, rS_2, rS_3, rI_1, rI_2, rI_3, rJ_1, rJ_2, rJ_3]
  · simp only [rS_1, rS_2, rS_3, rI_1, rI_2, rI_3, rJ_1, rJ_2, rJ_3]
    by_cases a : j = 21
    · simp [a]
    · by_cases a2 : j = 20
      · simp [a2]
      · by_cases a3 : j = 19
        · simp [a3]
        · by_cases a4 : j = 18
          · simp [a4]
          · simp [a, a2, a3, a4]
  · simp only [rS_1, rS_2, rS_3, rI_1, rI_2, rI_3, rJ_1, rJ_2, rJ_3]
    by_cases a : j = 22
    · simp [a]
    · simp [a]
/-- one more place -/
theorem rT_s (ρ R : hr_S) {k j : Nat} (h : k ≤ j) (hR : R = rT ρ k j) : rJ (rI (rI (rI (rI R 18 (upd (R.2.1 18) j (R.2.1 18 (j + 1)))) 19 (upd (R.2.1 19) j (R.2.1 19 (j + 1)))) 20 (upd (R.2.1 20) j (R.2.1 20 (j + 1)))) 21 (upd (R.2.1 21) j (R.2.1 21 (j + 1)))) 22 (vp_updL (R.2.2 22) j (R.2.2 22 (j + 1))) = rT ρ k (j + 1) := by
  obtain ⟨a1, a2, a3, a4, a5⟩ := rT_v ρ k j
  obtain ⟨b1, b2, b3, b4, b5⟩ := rT_v ρ k (j + 1)
  rw [hR, a1, a2, a3, a4, a5, sh_s _ h, sh_s _ h, sh_s _ h, sh_s _ h, sh_sL _ h]
  refine hr_ext (fun n => ?_) (fun n => ?_) (fun n => ?_)
  · simp only [rS_1, rS_2, rS_3, rI_1, rI_2, rI_3, rJ_1, rJ_2, rJ_3]
    unfold rT
    simp only [rS_1, rS_2, rS_3, rI_1, rI_2, rI_3, rJ_1, rJ_2, rJ_3]
  · simp only [rS_1, rS_2, rS_3, rI_1, rI_2, rI_3, rJ_1, rJ_2, rJ_3]
    by_cases z1 : n = 21
    · rw [if_pos z1, z1, b4]
    · by_cases z2 : n = 20
      · rw [if_neg z1, if_pos z2, z2, b3]
      · by_cases z3 : n = 19
        · rw [if_neg z1, if_neg z2, if_pos z3, z3, b2]
        · by_cases z4 : n = 18
          · rw [if_neg z1, if_neg z2, if_neg z3, if_pos z4, z4, b1]
          · rw [if_neg z1, if_neg z2, if_neg z3, if_neg z4]
            by_cases z5 : n = 22
            · unfold rT; simp [rS_1, rS_2, rS_3, rI_1, rI_2, rI_3, rJ_1, rJ_2, rJ_3, z5]
            · exact (rT_ag ρ k j n (by simp; omega)).2.1.trans (rT_ag ρ k (j + 1) n (by simp; omega)).2.1.symm
  · simp only [rS_1, rS_2, rS_3, rI_1, rI_2, rI_3, rJ_1, rJ_2, rJ_3]
    by_cases z1 : n = 22
    · rw [if_pos z1, z1, b5]
    · rw [if_neg z1]
      unfold rT
      simp [rS_1, rS_2, rS_3, rI_1, rI_2, rI_3, rJ_1, rJ_2, rJ_3, z1]
theorem HT.erase {ρ : hr_S} {T : List TK} {k n : Nat} (h : ∀ (j : Nat) (x : TK), T[j]? = some x → ρ.2.1 18 j = nI x.1.1 ∧ ρ.2.1 19 j = nI x.1.2.2 ∧ ρ.2.1 20 j = nI x.1.2.1 ∧ ρ.2.1 21 j = x.2.1 ∧ ρ.2.2 22 j = x.2.2) (hn : n + 1 = T.length) (h17 : ρ.1 17 = nI n) (hk : k < T.length) : HT (rT ρ k n) (T.eraseIdx k) := by
  obtain ⟨a1, a2, a3, a4, a5⟩ := rT_v ρ k n
  have hl : (T.eraseIdx k).length = n := by rw [List.length_eraseIdx_of_lt hk]; omega
  refine ⟨by rw [(rT_ag ρ k n 17 (by decide)).1, h17, hl], fun j x hx => ?_⟩
  have hj := (List.getElem?_eq_some_iff.mp hx).1
  rw [hl] at hj
  rw [List.getElem?_eraseIdx] at hx
  rw [a1, a2, a3, a4, a5]
  unfold sh
  by_cases z : j < k
  · rw [if_pos z] at hx
    rw [if_neg (by omega), if_neg (by omega), if_neg (by omega), if_neg (by omega), if_neg (by omega)]
    exact h j x hx
  · rw [if_neg z] at hx
    rw [if_pos (by omega), if_pos (by omega), if_pos (by omega), if_pos (by omega), if_pos (by omega)]
    exact h (j + 1) x hx
/-! the tokens of one node in one context, at ports below q, are gone -/
def Tq (T : List TK) (i c q : Nat) : List TK := T.filter (fun x => decide (¬ (x.1.1 = i ∧ x.1.2.1 = c ∧ x.1.2.2 < q)))
theorem Tq_0 (T : List TK) (i c : Nat) : Tq T i c 0 = T := by
  unfold Tq
  apply List.filter_eq_self.mpr
  intro x _
  simp
theorem erase_f : ∀ (T : List TK) (k : Nat) (x : TK), (T.map (fun x => x.1)).Nodup → T[k]? = some x → T.eraseIdx k = T.filter (fun y => decide (y.1 ≠ x.1))
  | [], k, x, _, h => by cases h
  | y :: ys, 0, x, hn, h => by
    cases h
    have h1 := List.nodup_cons.mp hn
    rw [List.filter_cons_of_neg (by simp)]
    show ys = _
    refine (List.filter_eq_self.mpr (fun z hz => ?_)).symm
    have : z.1 ≠ y.1 := fun e => h1.1 (by show y.1 ∈ _; rw [← e]; exact List.mem_map_of_mem (f := fun x : TK => x.1) hz)
    simp [this]
  | y :: ys, k + 1, x, hn, h => by
    have h1 := List.nodup_cons.mp hn
    have h2 : ys[k]? = some x := h
    have : y.1 ≠ x.1 := fun e => h1.1 (by show y.1 ∈ _; rw [e]; exact List.mem_map_of_mem (f := fun x : TK => x.1) (List.mem_of_getElem? h2))
    rw [List.filter_cons_of_pos (by simp [this])]
    show y :: ys.eraseIdx k = _
    rw [erase_f ys k x h1.2 h2]
theorem nd_filter {T : List TK} (f : TK → Bool) (h : (T.map (fun x => x.1)).Nodup) : ((T.filter f).map (fun x => x.1)).Nodup := (List.filter_sublist.map _).nodup h
theorem Tq_s {T : List TK} {i c q k : Nat} {v : V2} (hn : (T.map (fun x => x.1)).Nodup) (hk : (Tq T i c q)[k]? = some ((i, c, q), v)) : (Tq T i c q).eraseIdx k = Tq T i c (q + 1) := by
  rw [erase_f (Tq T i c q) k _ (nd_filter _ hn) hk]
  unfold Tq
  rw [List.filter_filter]
  apply List.filter_congr
  intro x _
  rw [← Bool.decide_and, decide_eq_decide]
  constructor
  · rintro ⟨h1, h2⟩ ⟨h3, h4, h5⟩
    by_cases e : x.1.2.2 = q
    · exact h1 (by rw [← h3, ← h4, ← e])
    · exact h2 ⟨h3, h4, by omega⟩
  · intro h
    exact ⟨fun e => h (by rw [e]; exact ⟨rfl, rfl, Nat.lt_succ_self q⟩), fun z => h ⟨z.1, z.2.1, by omega⟩⟩
theorem Tq_B {T : List TK} {i c q : Nat} (h : TB T) : TB (Tq T i c q) := ⟨Nat.le_trans (List.length_filter_le _ _) h.1, fun x hx => h.2 x (List.mem_filter.mp hx).1⟩
