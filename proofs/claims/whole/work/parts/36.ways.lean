/-! THE CLASS: choose, contexts behind, calls -/
def choose (σ : hs_S) (i c : Nat) (x y : V2) : hs_S := if y.1 = 0 then giveS σ i (if y.2 = 0 then 0 else 1) c x else giveS (giveS σ i 0 c (if y.1 = 1 then y else (1, 4))) i 1 c (if y.1 = 1 then y else (1, 4))
def ct3 (σ : hs_S) (c : Nat) : T3 := ((sC σ)[c]?).getD (0, 0, 0)
/-- the context that c is in -/
def outc (σ : hs_S) (c : Nat) : Nat := if c = 0 then 0 else (ct3 σ c).1.toNatClampNeg
/-- the context behind: its number and the contexts then -/
def tgt (σ : hs_S) (i c : Nat) : Option Nat × List T3 :=
  if (nd σ i).1 = 8 then cnum (sC σ) (nI c, (nd σ i).2.1, 0)
  else if (nd σ i).1 = 9 then (if c = 0 then (some 0, sC σ) else cnum (sC σ) ((ct3 σ c).1, (ct3 σ c).2.1, (ct3 σ c).2.2 + 1))
  else if (nd σ i).1 = 10 then (if c = 0 then (some 0, sC σ) else cnum (sC σ) ((ct3 σ c).1, (ct3 σ c).2.1, 0))
  else (some (if c = 0 then 0 else (ct3 σ c).1.toNatClampNeg), sC σ)
def moveAt (o : Option Nat) (L : List T3) (σ : hs_S) (i : Nat) (x : V2) : hs_S := match o with
  | none => uTr (uC σ L) 2
  | some d => give (uC σ L) i d x
def move (σ : hs_S) (i c : Nat) (x : V2) : hs_S := moveAt (tgt σ i c).1 (tgt σ i c).2 σ i x
/-- the node that an int names -/
def ndx (σ : hs_S) (k : Int32) : Option Nat := if ¬ k < 0 ∧ k < nI (sN σ).length then some k.toNatClampNeg else none
def callAt (o : Option Nat) (L : List T3) (σ : hs_S) (k : Nat) (x : V2) : hs_S := match o with
  | none => uTr (uC σ L) 2
  | some d => come (uC σ L) k 0 d x
def enterAt (o : Option Nat) (σ : hs_S) (i c : Nat) (x : V2) : hs_S := match o with
  | none => σ
  | some k => callAt (cnum (sC σ) (nI c, -1 - nI i, 0)).1 (cnum (sC σ) (nI c, -1 - nI i, 0)).2 σ k x
def enter (σ : hs_S) (i c : Nat) (x : V2) : hs_S := enterAt (ndx σ (nd σ i).2.1) σ i c x
def leaveAt (o : Option Nat) (σ : hs_S) (c : Nat) (x : V2) : hs_S := match o with
  | none => σ
  | some k => give σ k (outc σ c) x
def leave (σ : hs_S) (c : Nat) (x : V2) : hs_S := leaveAt (ndx σ (-1 - (ct3 σ c).2.1)) σ c x
section CNUM
variable {L : List T3} {t : T3}
theorem cfind_lt (L : List T3) (t : T3) : ∀ (k j n : Nat), cfind L t k j = some n → L[n]? = some t ∧ j ≤ n
  | 0, j, n, h => by cases h
  | k + 1, j, n, h => by
    unfold cfind at h
    split at h
    · next z => cases h; exact ⟨z, Nat.le_refl _⟩
    · have := cfind_lt L t k (j + 1) n h; exact ⟨this.1, by omega⟩
theorem cnum_pre (L : List T3) (t : T3) : ∃ l, (cnum L t).2 = L ++ l ∧ l.length ≤ 1 := by
  unfold cnum
  split
  · exact ⟨[], by simp, by simp⟩
  · split
    · exact ⟨[t], rfl, by simp⟩
    · exact ⟨[], by simp, by simp⟩
theorem cnum_at {d : Nat} (h : (cnum L t).1 = some d) : (cnum L t).2[d]? = some t := by
  unfold cnum at h ⊢
  split at h
  · next j hj => cases h; exact (cfind_lt _ _ _ _ _ hj).1
  · split at h
    · next hl => cases h; rw [if_pos hl]; simp
    · cases h
theorem cnum_len (h : L.length ≤ 151) : (cnum L t).2.length ≤ 151 := by
  unfold cnum
  split
  · exact h
  · split
    · simp; omega
    · exact h
theorem cnum_new {j : Nat} {e : T3} (h : (cnum L t).2[j]? = some e) : L[j]? = some e ∨ (e = t ∧ j = L.length) := by
  unfold cnum at h
  split at h
  · exact Or.inl h
  · split at h
    · by_cases hj : j < L.length
      · rw [List.getElem?_append_left hj] at h; exact Or.inl h
      · have hb : j < (L ++ [t]).length := (List.getElem?_eq_some_iff.mp h).1
        simp at hb
        have : j = L.length := by omega
        subst this
        simp at h
        exact Or.inr ⟨h.symm, rfl⟩
    · exact Or.inl h
end CNUM
section WAYS
variable {G : hx_G} {M M1 : hx_S} {A : hA} {Γ : hG} {σ : hs_S} {γ : hf_S} {b : Nat} {v : V2}
theorem ct3_at {c : Nat} (hc : c < (sC σ).length) : (sC σ)[c]? = some (ct3 σ c) := by unfold ct3; rw [List.getElem?_eq_getElem hc]; rfl
/-- contexts more -/
theorem GS.ctx {t : T3} (h : GS σ) (ht : ∃ k, k < (sC σ).length ∧ t.1 = nI k) : GS (uC σ (cnum (sC σ) t).2) := by
  obtain ⟨h1, h2, ⟨h3, h3b, h3c, h3d⟩, h4, h5, h6, h7, h8, h9, h10⟩ := h
  obtain ⟨l, hl, hl1⟩ := cnum_pre (sC σ) t
  have hle : (sC σ).length ≤ (cnum (sC σ) t).2.length := by rw [hl, List.length_append]; omega
  obtain ⟨k, hk1, hk2⟩ := ht
  refine ⟨h1, h2, ⟨Nat.le_trans h3 hle, cnum_len h3b, ?_, fun j e hj he => ?_⟩, h4, fun i c => ⟨(h5 i c).1, fun z => ⟨((h5 i c).2 z).1, Nat.lt_of_lt_of_le ((h5 i c).2 z).2 hle⟩⟩, fun x hx => ?_, fun x hx => ?_, fun x hx => ⟨(h8 x hx).1, Nat.lt_of_lt_of_le (h8 x hx).2 hle⟩, h9, h10⟩
  · show (cnum (sC σ) t).2[0]? = _
    rw [hl, List.getElem?_append_left (by omega)]; exact h3c
  · rcases cnum_new (show (cnum (sC σ) t).2[j]? = some e from he) with z | ⟨z, -⟩
    · obtain ⟨q, q1, q2⟩ := h3d j e hj z
      exact ⟨q, Nat.lt_of_lt_of_le q1 hle, q2⟩
    · exact ⟨k, Nat.lt_of_lt_of_le hk1 hle, by rw [z]; exact hk2⟩
  · obtain ⟨a1, a2, a3⟩ := h6 x hx
    exact ⟨a1, Nat.lt_of_lt_of_le a2 hle, a3⟩
  · obtain ⟨a1, a2, a3⟩ := h7 x hx
    exact ⟨a1, Nat.lt_of_lt_of_le a2 hle, a3⟩
/-- the contexts' cells have changed -/
theorem cxo_ext {cx co cs cr : Nat} (h : CXo M M1 cx co cs cr) : Ext M M1 (fun c x => c = 4 ∧ x = cx) no1 no1 (fun q => q = co ∨ q = cs ∨ q = cr) := by
  obtain ⟨h1, h2, h3, h4, h5, h6, h7⟩ := h
  refine ⟨fun c x u hu n => by rw [h3 c x n]; exact hu, fun x u hu _ => by rw [h7]; exact hu, fun k x u hu _ => by rw [h6]; exact hu, fun x u hu n => ?_, fun x u hu => by rw [h5]; exact hu, by rw [h1]; exact Nat.le_refl _⟩
  rw [h4 x (fun z => n (Or.inl z)) (fun z => n (Or.inr (Or.inl z))) (fun z => n (Or.inr (Or.inr z)))]; exact hu
theorem RepB.cx {L : List T3} (h : RepB M A Γ σ γ b) (hc : CX M1 (aX A) (aO A) (aS A) (aU A) L) (ho : CXo M M1 (aX A) (aO A) (aS A) (aU A)) : RepB M1 A Γ (uC σ L) γ b := by
  have e := cxo_ext ho
  obtain ⟨k1, k2, k3, k4, k5, k6, k7⟩ := h
  have n4 : ∀ c, c ≠ 4 → ∀ x, ¬ (c = 4 ∧ x = aX A) := fun c hc x z => hc z.1
  refine ⟨(k1.ext e (n4 7 (by decide)) (n4 1 (by decide)) (fun _ => False.elim)).cg rfl rfl, k2.ext e (n4 9 (by decide)) (n4 5 (by decide)) (n4 6 (by decide)) (fun _ => False.elim) (fun _ => False.elim), k3, hc, (k5.ext e (n4 9 (by decide)) (n4 3 (by decide)) (n4 2 (by decide)) (fun _ => False.elim) (fun x hx => ?_)).cg rfl rfl rfl rfl rfl rfl, (k6.ext e (n4 9 (by decide)) (n4 8 (by decide)) (fun _ => False.elim)).cg rfl rfl, k7.same ho.1 ho.2.1 (fun q => by rw [ho.2.2.2.2.2.2])⟩
  obtain ⟨r1, r2, r3, r4⟩ := k5.2.2.2.1
  rcases hx with rfl | rfl | rfl
  · rw [r2]; decide
  · rw [r3]; decide
  · rw [r4]; decide
theorem Rep.cx {t : T3} (h : Rep M A Γ σ γ b) (ht : ∃ k, k < (sC σ).length ∧ t.1 = nI k) (hc : CX M1 (aX A) (aO A) (aS A) (aU A) (cnum (sC σ) t).2) (ho : CXo M M1 (aX A) (aO A) (aS A) (aU A)) : Rep M1 A Γ (uC σ (cnum (sC σ) t).2) γ b ∧ XE A M M1 :=
  ⟨⟨(cxo_ext ho).so h.1 (fun z => absurd z.1 (by decide)), h.2.1.cx hc ho, h.2.2.ctx ht⟩, (cxo_ext ho).mono (fun _ _ z => Or.inr (Or.inr (Or.inr (Or.inl z.1)))) (fun _ => False.elim) (fun _ => False.elim) (fun _ z => by rcases z with z | z | z; exact Or.inl z; exact Or.inr (Or.inl z); exact Or.inr (Or.inr (Or.inl z)))⟩
theorem GS.out (h : GS σ) {c : Nat} (hc : c < (sC σ).length) (h0 : c ≠ 0) : ∃ k, k < (sC σ).length ∧ (ct3 σ c).1 = nI k := h.2.2.1.2.2.2 c _ (by omega) (ct3_at hc)
theorem onI_some {o : Option Nat} (h : ∀ d, o = some d → d < 2 ^ 31) : onI o = -1 ↔ o = none := by
  cases o with
  | none => exact ⟨fun _ => rfl, fun _ => rfl⟩
  | some d =>
    refine ⟨fun z => ?_, fun z => by cases z⟩
    have := nI_toInt (h d rfl)
    rw [show nI d = -1 from z] at this
    have e : (-1 : Int32).toInt = -1 := by decide
    omega
theorem ct_contextBehind (h : Rep M A Γ σ γ b) {i c : Nat} (hi : i < (sN σ).length) (ho : 8 ≤ (nd σ i).1 ∧ (nd σ i).1 ≤ 11) (hc : c < (sC σ).length) : CT G 2 45 mX9_contextBehind [.ref (aT A), .ref (nad Γ i), .int (nI c)] M (fun r M1 => r = some (.int (onI (tgt σ i c).1)) ∧ Rep M1 A Γ (uC σ (tgt σ i c).2) γ b ∧ XE A M M1 ∧ (∀ d, (tgt σ i c).1 = some d → d < (tgt σ i c).2.length) ∧ (tgt σ i c).2.length ≤ 151) := by
  refine ct_go (by decide +kernel) (Nat.le_of_ble_eq_true rfl) (L := [(0, .ref (aT A)), (1, .ref (nad Γ i)), (2, .int (nI c))]) rfl ?_
  have hnode := h.2.1.node hi
  have hH : So M 10 (aT A) = some [.ref (aV A), .ref (aN A), .ref (aF A), .ref (aR A), .ref (aX A), .ref (aC A), .ref (aQ A), .int (nI (sNt σ)), .int (nI (sK σ).length), .int (nI (sTr σ)), .int (nI (sW σ)), .int (nI (sAl σ)), .int (nI (sB σ))] := h.1
  have hX := h.2.1.2.2.2.1
  have h151 := h.2.2.2.2.1.2.1
  have hcx := ct3_at hc
  have self : Rep M A Γ (uC σ (sC σ)) γ b := h
  refine xw_aload_n dX9_contextBehind_0 rfl rfl ?_
  refine xw_get (ci := 7) (k := 1) (v := .int (nI (nd σ i).1)) dX9_contextBehind_1 hnode rfl inX6 (by decide) tw_576 (Or.inl rfl) rfl ?_
  rcases (show (nd σ i).1 = 8 ∨ (nd σ i).1 = 9 ∨ (nd σ i).1 = 10 ∨ (nd σ i).1 = 11 by omega) with e | e | e | e
  · refine Eq.mp (congrArg (fun z => XW G 2 45 mX9_contextBehind [.ref (aT A), .ref (nad Γ i), .int (nI c)] M _ _ _ _ [.int (nI z)]) e.symm) ?_
    have et : tgt σ i c = cnum (sC σ) (nI c, (nd σ i).2.1, 0) := by unfold tgt; rw [if_pos e]
    refine xw_tableIn (off := 28) (tgt := 32) dX9_contextBehind_4 (by decide +kernel) (by decide +kernel) (by decide +kernel) rfl ?_
    refine xw_aload_n dX9_contextBehind_32 rfl rfl ?_
    refine xw_get (ci := 10) (k := 4) (v := .ref (aX A)) dX9_contextBehind_33 hH rfl inX9 (by decide) tw_184 (Or.inl rfl) rfl ?_
    refine xw_iload_n dX9_contextBehind_36 rfl rfl ?_
    refine xw_aload_n dX9_contextBehind_37 rfl rfl ?_
    refine xw_get (ci := 7) (k := 2) (v := .int (nd σ i).2.1) dX9_contextBehind_38 hnode rfl inX6 (by decide) tw_578 (Or.inl rfl) rfl ?_
    refine xw_iconst (v := 0) dX9_contextBehind_41 (by decide) ?_
    refine xw_callV (q2 := mX3_numberOf) (n2 := 3) (ci := 4) (Bs := [.int (nI c), .int (nd σ i).2.1, .int 0]) (rest := []) (ct_numberOf hX) dX9_contextBehind_42 rfl (o_at hX.1) rfl rfl tw_649 tw_650 tw_651 tw_45 tw_652 (by decide +kernel) rfl (Nat.le_of_ble_eq_true rfl) (Nat.le_of_ble_eq_true rfl) (Nat.le_of_ble_eq_true rfl) (fun rr M1 hr hle1 => ?_)
    obtain ⟨rfl, k2, k3⟩ := hr
    obtain ⟨q1, q2⟩ := h.cx (t := (nI c, (nd σ i).2.1, 0)) ⟨c, hc, rfl⟩ k2 k3
    rw [et]
    refine xw_iret rfl dX9_contextBehind_45 ⟨rfl, q1, q2, fun d hd => (List.getElem?_eq_some_iff.mp (cnum_at hd)).1, cnum_len h151⟩
  · refine Eq.mp (congrArg (fun z => XW G 2 45 mX9_contextBehind [.ref (aT A), .ref (nad Γ i), .int (nI c)] M _ _ _ _ [.int (nI z)]) e.symm) ?_
    have et : tgt σ i c = (if c = 0 then (some 0, sC σ) else cnum (sC σ) ((ct3 σ c).1, (ct3 σ c).2.1, (ct3 σ c).2.2 + 1)) := by unfold tgt; rw [if_neg (by omega), if_pos e]
    refine xw_tableIn (off := 42) (tgt := 46) dX9_contextBehind_4 (by decide +kernel) (by decide +kernel) (by decide +kernel) rfl ?_
    refine xw_aload_n dX9_contextBehind_46 rfl rfl ?_
    refine xw_get (ci := 10) (k := 4) (v := .ref (aX A)) dX9_contextBehind_47 hH rfl inX9 (by decide) tw_184 (Or.inl rfl) rfl ?_
    refine xw_iload_n dX9_contextBehind_50 rfl rfl ?_
    refine xw_callV (q2 := mX3_nextRoundOf) (n2 := 1) (ci := 4) (Bs := [.int (nI c)]) (rest := []) (ct_nextRoundOf hX hcx) dX9_contextBehind_51 rfl (o_at hX.1) rfl rfl tw_653 tw_654 tw_655 tw_45 tw_656 (by decide +kernel) rfl (Nat.le_of_ble_eq_true rfl) (Nat.le_of_ble_eq_true rfl) (Nat.le_of_ble_eq_true rfl) (fun rr M1 hr hle1 => ?_)
    obtain ⟨rfl, k2, k3⟩ := hr
    by_cases h0 : c = 0
    · rw [if_pos h0] at k2 et ⊢
      rw [et]
      have k4 : Rep M1 A Γ (uC σ (sC σ)) γ b ∧ XE A M M1 := ⟨⟨(cxo_ext k3).so h.1 (fun z => absurd z.1 (by decide)), h.2.1.cx k2 k3, h.2.2⟩, (cxo_ext k3).mono (fun _ _ z => Or.inr (Or.inr (Or.inr (Or.inl z.1)))) (fun _ => False.elim) (fun _ => False.elim) (fun _ z => by rcases z with z | z | z; exact Or.inl z; exact Or.inr (Or.inl z); exact Or.inr (Or.inr (Or.inl z)))⟩
      exact xw_iret rfl dX9_contextBehind_54 ⟨rfl, k4.1, k4.2, fun d hd => by cases hd; exact Nat.lt_of_le_of_lt (Nat.zero_le _) hc, h151⟩
    · rw [if_neg h0] at k2 et ⊢
      rw [et]
      obtain ⟨q1, q2⟩ := h.cx (t := ((ct3 σ c).1, (ct3 σ c).2.1, (ct3 σ c).2.2 + 1)) (h.2.2.out hc h0) k2 k3
      refine xw_iret rfl dX9_contextBehind_54 ⟨rfl, q1, q2, fun d hd => (List.getElem?_eq_some_iff.mp (cnum_at hd)).1, cnum_len h151⟩
  · refine Eq.mp (congrArg (fun z => XW G 2 45 mX9_contextBehind [.ref (aT A), .ref (nad Γ i), .int (nI c)] M _ _ _ _ [.int (nI z)]) e.symm) ?_
    have et : tgt σ i c = (if c = 0 then (some 0, sC σ) else cnum (sC σ) ((ct3 σ c).1, (ct3 σ c).2.1, 0)) := by unfold tgt; rw [if_neg (by omega), if_neg (by omega), if_pos e]
    refine xw_tableIn (off := 51) (tgt := 55) dX9_contextBehind_4 (by decide +kernel) (by decide +kernel) (by decide +kernel) rfl ?_
    refine xw_aload_n dX9_contextBehind_55 rfl rfl ?_
    refine xw_get (ci := 10) (k := 4) (v := .ref (aX A)) dX9_contextBehind_56 hH rfl inX9 (by decide) tw_184 (Or.inl rfl) rfl ?_
    refine xw_iload_n dX9_contextBehind_59 rfl rfl ?_
    refine xw_pc (pc2 := 60) rfl ?_
    refine xw_callV (q2 := mX3_firstRoundOf) (n2 := 1) (ci := 4) (Bs := [.int (nI c)]) (rest := []) (ct_firstRoundOf hX hcx) dX9_contextBehind_60 rfl (o_at hX.1) rfl rfl tw_659 tw_660 tw_661 tw_45 tw_662 (by decide +kernel) rfl (Nat.le_of_ble_eq_true rfl) (Nat.le_of_ble_eq_true rfl) (Nat.le_of_ble_eq_true rfl) (fun rr M1 hr hle1 => ?_)
    obtain ⟨rfl, k2, k3⟩ := hr
    by_cases h0 : c = 0
    · rw [if_pos h0] at k2 et ⊢
      rw [et]
      have k4 : Rep M1 A Γ (uC σ (sC σ)) γ b ∧ XE A M M1 := ⟨⟨(cxo_ext k3).so h.1 (fun z => absurd z.1 (by decide)), h.2.1.cx k2 k3, h.2.2⟩, (cxo_ext k3).mono (fun _ _ z => Or.inr (Or.inr (Or.inr (Or.inl z.1)))) (fun _ => False.elim) (fun _ => False.elim) (fun _ z => by rcases z with z | z | z; exact Or.inl z; exact Or.inr (Or.inl z); exact Or.inr (Or.inr (Or.inl z)))⟩
      exact xw_iret rfl dX9_contextBehind_63 ⟨rfl, k4.1, k4.2, fun d hd => by cases hd; exact Nat.lt_of_le_of_lt (Nat.zero_le _) hc, h151⟩
    · rw [if_neg h0] at k2 et ⊢
      rw [et]
      obtain ⟨q1, q2⟩ := h.cx (t := ((ct3 σ c).1, (ct3 σ c).2.1, 0)) (h.2.2.out hc h0) k2 k3
      refine xw_iret rfl dX9_contextBehind_63 ⟨rfl, q1, q2, fun d hd => (List.getElem?_eq_some_iff.mp (cnum_at hd)).1, cnum_len h151⟩
  · refine Eq.mp (congrArg (fun z => XW G 2 45 mX9_contextBehind [.ref (aT A), .ref (nad Γ i), .int (nI c)] M _ _ _ _ [.int (nI z)]) e.symm) ?_
    have et : tgt σ i c = (some (if c = 0 then 0 else (ct3 σ c).1.toNatClampNeg), sC σ) := by unfold tgt; rw [if_neg (by omega), if_neg (by omega), if_neg (by omega)]
    refine xw_tableOut (tgt := 64) dX9_contextBehind_4 (Or.inr (by decide +kernel)) rfl ?_
    refine xw_aload_n dX9_contextBehind_64 rfl rfl ?_
    refine xw_get (ci := 10) (k := 4) (v := .ref (aX A)) dX9_contextBehind_65 hH rfl inX9 (by decide) tw_184 (Or.inl rfl) rfl ?_
    refine xw_iload_n dX9_contextBehind_68 rfl rfl ?_
    refine xw_callV (q2 := mX3_outsideOf) (n2 := 1) (ci := 4) (Bs := [.int (nI c)]) (rest := []) (ct_outsideOf hX hcx) dX9_contextBehind_69 rfl (o_at hX.1) rfl rfl tw_663 tw_664 tw_665 tw_45 tw_666 (by decide +kernel) rfl (Nat.le_of_ble_eq_true rfl) (Nat.le_of_ble_eq_true rfl) (Nat.le_of_ble_eq_true rfl) (fun rr M1 hr hle1 => ?_)
    obtain ⟨rfl, hM1⟩ := hr
    obtain rfl := hM1.symm
    rw [et]
    by_cases h0 : c = 0
    · rw [if_pos h0, if_pos h0]
      exact xw_iret rfl dX9_contextBehind_72 ⟨rfl, self, XE.rf _ _, fun d hd => by cases hd; exact Nat.lt_of_le_of_lt (Nat.zero_le _) hc, h151⟩
    · rw [if_neg h0, if_neg h0]
      obtain ⟨k, hk1, hk2⟩ := h.2.2.out hc h0
      rw [hk2, nI_clamp (by omega)]
      exact xw_iret rfl dX9_contextBehind_72 ⟨rfl, self, XE.rf _ _, fun d hd => by cases hd; exact hk1, h151⟩
end WAYS
