/-! A TOKEN COMES (the state alone) -/
def tup (t : Nat → Option V2) (p : Nat) (v : V2) : Nat → Option V2 := fun q => if q = p then some v else t q
def come (σ : hs_S) (i p c : Nat) (v : V2) : hs_S :=
  if sTr σ ≠ 0 then σ
  else if (sT σ i c p).isSome = true then uTr σ 1
  else if 300 ≤ sNt σ + (sR σ).length + (sK σ).length then uTr σ 2
  else if cnt (tup (sT σ i c) p v) = pts σ i then uR (uNt (uT σ (tset (sT σ) i c no3)) (sNt σ + 1 - pts σ i)) (sR σ ++ [(i, c, tup (sT σ i c) p v)])
  else uNt (uT σ (tset (sT σ) i c (tup (sT σ i c) p v))) (sNt σ + 1)
theorem prt_b (o : Nat) : 1 ≤ prt o ∧ prt o ≤ 3 := by
  unfold prt
  rw [List.getD_eq_getElem?_getD]
  cases h : ([1, 2, 2, 2, 2, 2, 1, 2, 1, 1, 1, 1, 1, 1, 1, 2, 3, 1] : List Nat)[o]? with
  | none => exact ⟨Nat.le_refl _, by decide⟩
  | some x =>
    have hx := List.mem_of_getElem? h
    simp at hx
    show 1 ≤ x ∧ x ≤ 3
    omega
theorem pts_b (σ : hs_S) (i : Nat) : 1 ≤ pts σ i ∧ pts σ i ≤ 3 := prt_b _
theorem cnt_full {t : Nat → Option V2} {n : Nat} (h : cnt t = n) (hb : ∀ p v, t p = some v → p < n) : ∀ p, p < n → t p ≠ none := by
  intro p hp
  have h3 : n ≤ 3 := h ▸ cnt_le t
  have k : ∀ q, n ≤ q → t q = none := fun q hq => by
    cases e : t q with
    | none => rfl
    | some v => have := hb q v e; omega
  unfold cnt at h
  rcases (show n = 0 ∨ n = 1 ∨ n = 2 ∨ n = 3 by omega) with rfl | rfl | rfl | rfl
  · omega
  · rw [k 1 (by omega), k 2 (by omega)] at h
    obtain rfl : p = 0 := by omega
    intro z; rw [z] at h; cases h
  · rw [k 2 (by omega)] at h
    intro z
    rcases (show p = 0 ∨ p = 1 by omega) with rfl | rfl
    · rw [z] at h; simp at h; split at h <;> omega
    · rw [z] at h; simp at h; split at h <;> omega
  · intro z
    rcases (show p = 0 ∨ p = 1 ∨ p = 2 by omega) with rfl | rfl | rfl
    · rw [z] at h; simp at h; split at h <;> split at h <;> omega
    · rw [z] at h; simp at h; split at h <;> split at h <;> omega
    · rw [z] at h; simp at h; split at h <;> split at h <;> omega
theorem cnt_up {t : Nat → Option V2} {p : Nat} {v : V2} (hp : p < 3) (h : t p = none) : cnt (tup t p v) = cnt t + 1 := by
  unfold cnt tup
  rcases (show p = 0 ∨ p = 1 ∨ p = 2 by omega) with rfl | rfl | rfl
  · rw [h]; simp; omega
  · rw [h]; simp; omega
  · rw [h]; simp
theorem GT.up {na n p : Nat} {t : Nat → Option V2} {v : V2} (h : GT na n t) (hp : p < n) (hv : GV na v) : GT na n (tup t p v) := by
  intro q w hq
  unfold tup at hq
  split at hq
  · next z => cases hq; exact ⟨z ▸ hp, hv⟩
  · exact h q w hq
theorem GT.no {na n : Nat} : GT na n no3 := fun q w hq => by cases hq
theorem sub_len2 : ∀ (l m : List N3), l.Nodup → (∀ x, x ∈ l → x ∈ m) → l.length ≤ m.length
  | [], m, _, _ => Nat.zero_le _
  | x :: xs, m, hn, hs => by
    have h1 := List.nodup_cons.mp hn
    have hx : x ∈ m := hs x (by simp)
    have := sub_len2 xs (m.erase x) h1.2 (fun y hy => (List.mem_erase_of_ne (show y ≠ x from fun z => h1.1 (z ▸ hy))).mpr (hs y (by simp [hy])))
    rw [List.length_erase_of_mem hx] at this
    have h0 : 0 < m.length := List.length_pos_of_mem hx
    simp only [List.length_cons]
    omega
/-- the places of node i in context c that hold something -/
def places (t : Nat → Option V2) (i c : Nat) : List N3 := (if (t 0).isSome then [(i, c, 0)] else []) ++ (if (t 1).isSome then [(i, c, 1)] else []) ++ (if (t 2).isSome then [(i, c, 2)] else [])
theorem places_len (t : Nat → Option V2) (i c : Nat) : (places t i c).length = cnt t := by
  unfold places cnt
  rw [List.length_append, List.length_append]
  split <;> split <;> split <;> rfl
theorem places_nd (t : Nat → Option V2) (i c : Nat) : (places t i c).Nodup := by
  unfold places
  split <;> split <;> split <;> simp
theorem places_in {t : Nat → Option V2} {i c : Nat} {x : N3} : x ∈ places t i c ↔ x.1 = i ∧ x.2.1 = c ∧ x.2.2 < 3 ∧ (t x.2.2).isSome = true := by
  obtain ⟨j, d, p⟩ := x
  unfold places
  constructor
  · intro h
    simp only [List.mem_append] at h
    rcases h with (h | h) | h
    · split at h
      · next z => simp at h; obtain ⟨rfl, rfl, rfl⟩ := h; exact ⟨rfl, rfl, by simp, z⟩
      · cases h
    · split at h
      · next z => simp at h; obtain ⟨rfl, rfl, rfl⟩ := h; exact ⟨rfl, rfl, by simp, z⟩
      · cases h
    · split at h
      · next z => simp at h; obtain ⟨rfl, rfl, rfl⟩ := h; exact ⟨rfl, rfl, by simp, z⟩
      · cases h
  · rintro ⟨h1, h2, h3, h4⟩
    simp only at h1 h2 h3 h4
    subst h1 h2
    simp only [List.mem_append]
    rcases (show p = 0 ∨ p = 1 ∨ p = 2 by omega) with rfl | rfl | rfl
    · exact Or.inl (Or.inl (by rw [if_pos h4]; simp))
    · exact Or.inl (Or.inr (by rw [if_pos h4]; simp))
    · exact Or.inr (by rw [if_pos h4]; simp)
theorem filter_sum (f : N3 → Bool) (l : List N3) : (l.filter f).length + (l.filter (fun x => !f x)).length = l.length := by
  induction l with
  | nil => rfl
  | cons x xs ih =>
    by_cases hx : f x = true
    · rw [List.filter_cons_of_pos hx, List.filter_cons_of_neg (by simp [hx])]; simp only [List.length_cons]; omega
    · rw [List.filter_cons_of_neg hx, List.filter_cons_of_pos (by simpa using hx)]; simp only [List.length_cons]; omega
section GSC
variable {σ : hs_S} {i p c : Nat} {v : V2}
theorem GS.nt (h : GS σ) (i c : Nat) : cnt (sT σ i c) ≤ sNt σ := by
  obtain ⟨T, k1, k2, k3⟩ := h.2.2.2.2.2.2.2.2.2
  rw [← places_len (sT σ i c) i c, ← k3]
  refine sub_len2 _ _ (places_nd _ _ _) (fun x hx => ?_)
  obtain ⟨e1, e2, e3, e4⟩ := places_in.mp hx
  obtain ⟨a, b, d⟩ := x
  simp only at e1 e2 e4
  subst e1 e2
  exact (k2 a b d).mpr e4
theorem GS.tr (h : GS σ) {x : Nat} (hx : x ≤ 3) : GS (uTr σ x) := by
  obtain ⟨h1, h2, h3, h4, h5, h6, h7, h8, ⟨h9, h10, h11⟩, h12⟩ := h
  exact ⟨h1, h2, h3, h4, h5, h6, h7, h8, ⟨h9, hx, h11⟩, h12⟩
theorem tset_at (T : Nat → Nat → Nat → Option V2) (t : Nat → Option V2) : tset T i c t i c = t := by unfold tset; rw [if_pos ⟨rfl, rfl⟩]
theorem tset_ne {T : Nat → Nat → Nat → Option V2} {t : Nat → Option V2} {j d : Nat} (h : ¬ (j = i ∧ d = c)) : tset T i c t j d = T j d := by unfold tset; rw [if_neg h]
theorem tset_tset (T : Nat → Nat → Nat → Option V2) (t u : Nat → Option V2) : tset (tset T i c t) i c u = tset T i c u := by
  funext j d
  unfold tset
  split <;> rfl
theorem GS.coming (h : GS σ) (hi : i < (sN σ).length) (hp : p < pts σ i) (hc : c < (sC σ).length) (hv : GV (sA σ) v) : GS (come σ i p c v) := by
  unfold come
  by_cases t0 : sTr σ ≠ 0
  · rw [if_pos t0]; exact h
  rw [if_neg t0]
  by_cases t1 : (sT σ i c p).isSome = true
  · rw [if_pos t1]; exact h.tr (by decide)
  rw [if_neg t1]
  by_cases t2 : 300 ≤ sNt σ + (sR σ).length + (sK σ).length
  · rw [if_pos t2]; exact h.tr (by decide)
  rw [if_neg t2]
  have hnt := h.nt i c
  obtain ⟨h1, h2, h3, h4, h5, h6, h7, h8, ⟨h9, h10, h11⟩, T, k1, k2, k3⟩ := id h
  have hpb := pts_b σ i
  have hno : sT σ i c p = none := by
    cases e : sT σ i c p with
    | none => rfl
    | some x => rw [e] at t1; exact absurd rfl t1
  have hup := cnt_up (v := v) (show p < 3 by omega) hno
  have hgt : GT (sA σ) (pts σ i) (tup (sT σ i c) p v) := (h5 i c).1.up hp hv
  have hTn : (i, c, p) ∉ T := fun z => t1 ((k2 i c p).mp z)
  have hT1 : (T ++ [(i, c, p)]).Nodup := List.nodup_append.mpr ⟨k1, by simp, fun a ha b hb => by simp at hb; rw [hb]; exact fun z => hTn (z ▸ ha)⟩
  have hT2 : ∀ j d q, (j, d, q) ∈ T ++ [(i, c, p)] ↔ (tset (sT σ) i c (tup (sT σ i c) p v) j d q).isSome = true := by
    intro j d q
    rw [List.mem_append, k2 j d q]
    simp only [List.mem_singleton, Prod.mk.injEq]
    by_cases hjd : j = i ∧ d = c
    · obtain ⟨rfl, rfl⟩ := hjd
      rw [tset_at]
      unfold tup
      by_cases hq : q = p
      · rw [if_pos hq]; simp [hq]
      · rw [if_neg hq]; simp [hq]
    · rw [tset_ne hjd]
      constructor
      · rintro (z | z)
        · exact z
        · exact absurd ⟨z.1, z.2.1⟩ hjd
      · exact Or.inl
  by_cases t3 : cnt (tup (sT σ i c) p v) = pts σ i
  · rw [if_pos t3]
    refine ⟨h1, h2, h3, h4, fun j d => ?_, fun x hx => ?_, h7, h8, ⟨?_, h10, h11⟩, ?_⟩
    · show GT _ _ (tset (sT σ) i c no3 j d) ∧ ((∃ q, tset (sT σ) i c no3 j d q ≠ none) → _)
      by_cases hjd : j = i ∧ d = c
      · obtain ⟨rfl, rfl⟩ := hjd
        rw [tset_at]
        exact ⟨GT.no, fun ⟨q, hq⟩ => absurd rfl hq⟩
      · rw [tset_ne hjd]; exact h5 j d
    · rcases List.mem_append.mp (show x ∈ sR σ ++ [(i, c, tup (sT σ i c) p v)] from hx) with hx | hx
      · exact h6 x hx
      · simp at hx
        subst hx
        exact ⟨hi, hc, hgt, cnt_full t3 (fun q w hq => (hgt q w hq).1)⟩
    · show sNt σ + 1 - pts σ i + (sR σ ++ [(i, c, tup (sT σ i c) p v)]).length + (sK σ).length ≤ 300
      rw [List.length_append]
      simp only [List.length_singleton]
      omega
    · refine ⟨(T ++ [(i, c, p)]).filter (fun x => !(x.1 == i && x.2.1 == c)), hT1.filter _, fun j d q => ?_, ?_⟩
      · rw [List.mem_filter, hT2 j d q]
        show _ ↔ (tset (sT σ) i c no3 j d q).isSome = true
        by_cases hjd : j = i ∧ d = c
        · obtain ⟨rfl, rfl⟩ := hjd
          rw [tset_at, tset_at]
          simp [no3]
        · rw [tset_ne hjd, tset_ne hjd]
          simp only [Bool.not_eq_true', Bool.and_eq_false_iff, beq_eq_false_iff_ne]
          constructor
          · exact fun z => z.1
          · intro z
            refine ⟨z, ?_⟩
            by_cases hj : j = i
            · exact Or.inr (fun w => hjd ⟨hj, w⟩)
            · exact Or.inl hj
      · show _ = sNt σ + 1 - pts σ i
        have hin : ((T ++ [(i, c, p)]).filter (fun x => (x.1 == i && x.2.1 == c))).length = pts σ i := by
          rw [← t3, ← places_len (tup (sT σ i c) p v) i c]
          have hm : ∀ x, x ∈ (T ++ [(i, c, p)]).filter (fun x => (x.1 == i && x.2.1 == c)) ↔ x ∈ places (tup (sT σ i c) p v) i c := by
            intro x
            obtain ⟨j, d, q⟩ := x
            rw [List.mem_filter, hT2 j d q, places_in]
            simp only [Bool.and_eq_true, beq_iff_eq]
            constructor
            · rintro ⟨z, rfl, rfl⟩
              rw [tset_at] at z
              refine ⟨rfl, rfl, ?_, z⟩
              cases e : tup (sT σ j d) p v q with
              | none => rw [e] at z; cases z
              | some w => have := (hgt q w e).1; omega
            · rintro ⟨rfl, rfl, -, z⟩
              rw [tset_at]
              exact ⟨z, rfl, rfl⟩
          exact Nat.le_antisymm (sub_len2 _ _ (hT1.filter _) (fun x hx => (hm x).mp hx)) (sub_len2 _ _ (places_nd _ _ _) (fun x hx => (hm x).mpr hx))
        have hsum : ((T ++ [(i, c, p)]).filter (fun x => (x.1 == i && x.2.1 == c))).length + ((T ++ [(i, c, p)]).filter (fun x => !(x.1 == i && x.2.1 == c))).length = (T ++ [(i, c, p)]).length := by
          exact filter_sum _ _
        rw [List.length_append] at hsum
        simp only [List.length_singleton] at hsum
        omega
  · rw [if_neg t3]
    refine ⟨h1, h2, h3, h4, fun j d => ?_, h6, h7, h8, ⟨?_, h10, h11⟩, T ++ [(i, c, p)], hT1, hT2, ?_⟩
    · show GT _ _ (tset (sT σ) i c (tup (sT σ i c) p v) j d) ∧ ((∃ q, tset (sT σ) i c (tup (sT σ i c) p v) j d q ≠ none) → _)
      by_cases hjd : j = i ∧ d = c
      · obtain ⟨rfl, rfl⟩ := hjd
        rw [tset_at]
        exact ⟨hgt, fun _ => ⟨hi, hc⟩⟩
      · rw [tset_ne hjd]; exact h5 j d
    · show sNt σ + 1 + (sR σ).length + (sK σ).length ≤ 300
      omega
    · rw [List.length_append, k3]; rfl
end GSC
