/-! THE CLASS: frames taken, given back, looked for -/
theorem xw_sub {G : hx_G} {d lo : Nat} {q : hx_M} {As : List Value} {M0 M : hx_S} {P : Option Value → hx_S → Prop} {pc : Nat} {L L2 : List (Nat × Value)} {st : List Value} (hs : L2.Sublist L) (k : XW G d lo q As M0 P M pc L2 st) : XW G d lo q As M0 P M pc L st :=
  xw_s (fun p e R s m below meth c Q k n H locs ls _ _ hl kk => kk ls ⟨hl.1, hl.2.1, fun x hx => hl.2.2 x (hs.subset hx)⟩) k
section TAKE
variable {G : hx_G} {M : hx_S} {A : hA} {Γ : hG} {σ : hs_S} {γ : hf_S} {b : Nat}
theorem ks_F : ∀ s : State, KS G s → va_Nw (.castable RX4 "java/lang/Object") s := fun s h => h.2.2.2.1.2.1
theorem ad_2 (A : hA) (Γ : hG) (γ : hf_S) : ad A Γ γ (2, 0) = aE A := rfl
theorem ad_3 (A : hA) (Γ : hG) (γ : hf_S) : ad A Γ γ (3, 0) = aR A := rfl
theorem ad_6 (A : hA) (Γ : hG) (γ : hf_S) (i : Nat) : ad A Γ γ (6, i) = nfr Γ i := rfl
theorem ad_7 (A : hA) (Γ : hG) (γ : hf_S) (i : Nat) : ad A Γ γ (7, i) = gkl γ i := rfl
theorem act_2 {n : Nat} : act n γ (2, 0) := Or.inl rfl
theorem act_3 {n : Nat} : act n γ (3, 0) := Or.inr (Or.inl rfl)
theorem act_6 {n i : Nat} (h : i < n) : act n γ (6, i) := Or.inr (Or.inr (Or.inl ⟨rfl, h⟩))
theorem act_7 {n c a : Nat} (h : gcd γ c = some a) : act n γ (7, c) := Or.inr (Or.inr (Or.inr ⟨rfl, a, h⟩))
theorem nd_at {i : Nat} (hi : i < (sN σ).length) : (sN σ)[i]? = some (nd σ i) := by unfold nd; rw [List.getElem?_eq_getElem hi]; rfl
theorem RepB.node (h : RepB M A Γ σ γ b) {i : Nat} (hi : i < (sN σ).length) : So M 7 (nad Γ i) = some [.int (nI i), .int (nI (nd σ i).1), .int (nd σ i).2.1, .int (nI (pts σ i)), .int (tabX.getD (nd σ i).1 0), .int (tabY.getD (nd σ i).1 0), .ref (nar Γ i), .ref (nfr Γ i)] := (h.1.2.2 i _ (nd_at hi)).1
theorem ct_frameIn (h : RepB M A Γ σ γ b) (hb : b ≤ 14400000) {i c : Nat} (hi : i < (sN σ).length) (hc : c < 151) : CT G 3 64 mX6_frameIn [.ref (nad Γ i), .int (nI c)] M (fun r M1 => M1 = M ∧ ((r = some .null ∧ ∀ g, g ∈ gG γ (6, i) → gfc γ g ≠ nI c) ∨ ∃ f, r = some (.ref f) ∧ f ∈ gG γ (6, i) ∧ gfc γ f = nI c)) := by
  have hnode := h.node hi
  obtain ⟨⟨y, hy⟩, hro⟩ := h.2.1.2.1 (6, i) (act_6 hi)
  rw [ad_6] at hy
  have hcap := h.2.2.2.2.2.2.cap hb hy
  refine ct_wf fun hw => ?_
  have hlen : (gG γ (6, i)).length ≤ y.1 := (hw.2.2.2.2 _ _ hy).2.2.1
  simp only at hcap
  have hl31 : (gG γ (6, i)).length < 2 ^ 31 := by omega
  have loop : ∀ (k j : Nat), j + k = (gG γ (6, i)).length → (∀ q, q < j → ∀ g, (gG γ (6, i))[q]? = some g → gfc γ g ≠ nI c) → XW G 3 64 mX6_frameIn [.ref (nad Γ i), .int (nI c)] M (fun r M1 => M1 = M ∧ ((r = some .null ∧ ∀ g, g ∈ gG γ (6, i) → gfc γ g ≠ nI c) ∨ ∃ f, r = some (.ref f) ∧ f ∈ gG γ (6, i) ∧ gfc γ f = nI c)) M 2 [(2, .int (nI j)), (0, .ref (nad Γ i)), (1, .int (nI c))] [] := by
    intro k
    induction k with
    | zero =>
      intro j hjk hno
      refine xw_iload_n dX6_frameIn_2 rfl rfl ?_
      refine xw_aload_n dX6_frameIn_3 rfl rfl ?_
      refine xw_get (ci := 7) (k := 7) (v := .ref (nfr Γ i)) dX6_frameIn_4 hnode rfl inX6 (by decide) tw_587 (Or.inl rfl) rfl ?_
      refine xw_callV (q2 := mJx4a65c_size_8abf5) (n2 := 0) (ci := 0) (Bs := []) (rest := [.int (nI j)]) (ct_size hy) dX6_frameIn_7 rfl (q_at hy) rfl rfl tw_259 tw_229 tw_230 tw_43 tw_231 (by decide +kernel) rfl (Nat.le_of_ble_eq_true rfl) (Nat.le_of_ble_eq_true rfl) (Nat.le_of_ble_eq_true rfl) (fun rr M1 hr hle1 => ?_)
      obtain ⟨rfl, hM1⟩ := hr
      obtain rfl := hM1.symm
      refine xw_icmp_ge (tgt := 41) dX6_frameIn_10 (by decide) (fun _ => ?_) (fun zz => absurd (nI_le (show (gG γ (6, i)).length ≤ j by omega) (by omega)) zz)
      refine xw_null dX6_frameIn_41 ?_
      refine xw_aret rfl (Or.inl ⟨_, rfl⟩) (Or.inl rfl) dX6_frameIn_42 ⟨rfl, Or.inl ⟨rfl, fun g hg => ?_⟩⟩
      obtain ⟨q, hqe⟩ := List.mem_iff_getElem?.mp hg
      exact hno q (by have := (List.getElem?_eq_some_iff.mp hqe).1; omega) g hqe
    | succ k ih =>
      intro j hjk hno
      have hjl : j < (gG γ (6, i)).length := by omega
      have hel : (gG γ (6, i))[j]? = some (gG γ (6, i))[j] := List.getElem?_eq_getElem hjl
      have hmem : (gG γ (6, i))[j] ∈ gG γ (6, i) := List.getElem_mem hjl
      obtain ⟨va, w0, w1, w2, p1, p2, p3⟩ := h.2.1.2.2.1 _ (h.inMD (act_6 hi) hmem)
      refine xw_iload_n dX6_frameIn_2 rfl rfl ?_
      refine xw_aload_n dX6_frameIn_3 rfl rfl ?_
      refine xw_get (ci := 7) (k := 7) (v := .ref (nfr Γ i)) dX6_frameIn_4 hnode rfl inX6 (by decide) tw_587 (Or.inl rfl) rfl ?_
      refine xw_callV (q2 := mJx4a65c_size_8abf5) (n2 := 0) (ci := 0) (Bs := []) (rest := [.int (nI j)]) (ct_size hy) dX6_frameIn_7 rfl (q_at hy) rfl rfl tw_259 tw_229 tw_230 tw_43 tw_231 (by decide +kernel) rfl (Nat.le_of_ble_eq_true rfl) (Nat.le_of_ble_eq_true rfl) (Nat.le_of_ble_eq_true rfl) (fun rr M1 hr hle1 => ?_)
      obtain ⟨rfl, hM1⟩ := hr
      obtain rfl := hM1.symm
      refine xw_icmp_ge (tgt := 41) dX6_frameIn_10 (by decide) (fun zz => absurd zz (nI_ge hjl hl31)) (fun _ => ?_)
      refine xw_aload_n dX6_frameIn_13 rfl rfl ?_
      refine xw_get (ci := 7) (k := 7) (v := .ref (nfr Γ i)) dX6_frameIn_14 hnode rfl inX6 (by decide) tw_587 (Or.inl rfl) rfl ?_
      refine xw_iload_n dX6_frameIn_17 rfl rfl ?_
      refine xw_callV (q2 := mJx4a65c_get_915e3) (n2 := 1) (ci := 0) (Bs := [.int (nI j)]) (rest := []) (ct_get hy hjl (by show y.1 < 2 ^ 31; omega)) dX6_frameIn_18 rfl (q_at hy) rfl rfl tw_353 tw_233 tw_234 tw_43 tw_235 (by decide +kernel) rfl (Nat.le_of_ble_eq_true rfl) (Nat.le_of_ble_eq_true rfl) (Nat.le_of_ble_eq_true rfl) (fun rr M1 hr hle1 => ?_)
      obtain ⟨rfl, hM1⟩ := hr
      obtain rfl := hM1.symm
      refine xw_cast (ci := 5) dX6_frameIn_21 p2 rfl tw_354 ?_
      refine xw_astore_n (L2 := [(3, .ref ((gG γ (6, i))[j])), (2, .int (nI j)), (0, .ref (nad Γ i)), (1, .int (nI c))]) dX6_frameIn_24 rfl (by decide) rfl ?_
      refine xw_aload_n dX6_frameIn_25 rfl rfl ?_
      refine xw_get (ci := 5) (k := 3) (v := .int (gfc γ (gG γ (6, i))[j])) dX6_frameIn_26 p2 rfl inX4 (by decide) tw_383 (Or.inl rfl) rfl ?_
      refine xw_iload_n dX6_frameIn_29 rfl rfl ?_
      refine xw_pc (pc2 := 30) rfl ?_
      refine xw_icmp_ne (tgt := 35) dX6_frameIn_30 (by decide) (fun c1 => ?_) (fun c1 => ?_)
      · skip
        refine xw_iinc (v := (nI j) + 1) (L2 := [(2, .int ((nI j) + 1)), (3, .ref ((gG γ (6, i))[j])), (0, .ref (nad Γ i)), (1, .int (nI c))]) dX6_frameIn_35 rfl rfl (by decide) rfl ?_
        refine xw_goto (tgt := 2) dX6_frameIn_38 (by decide) ?_
        rw [nI_1]
        refine xw_sub (L2 := [(2, .int (nI (j + 1))), (0, .ref (nad Γ i)), (1, .int (nI c))]) (.cons_cons _ (.cons _ (.cons_cons _ (.cons_cons _ .slnil)))) ?_
        exact ih (j + 1) (by omega) (fun q hq g hg => if e : q = j then by subst e; rw [hel] at hg; cases hg; exact c1 else hno q (by omega) g hg)
      · skip
        refine xw_aload_n dX6_frameIn_33 rfl rfl ?_
        exact xw_aret rfl (Or.inl ⟨_, rfl⟩) (Or.inr ⟨_, rfl⟩) dX6_frameIn_34 ⟨rfl, Or.inr ⟨_, rfl, hmem, c1⟩⟩
  refine ct_go (by decide +kernel) (Nat.le_of_ble_eq_true rfl) (L := [(0, .ref (nad Γ i)), (1, .int (nI c))]) rfl ?_
  refine xw_iconst (v := 0) dX6_frameIn_0 (by decide) ?_
  refine xw_istore_n (L2 := [(2, .int 0), (0, .ref (nad Γ i)), (1, .int (nI c))]) dX6_frameIn_1 rfl (by decide) rfl ?_
  exact xw_pc rfl (loop (gG γ (6, i)).length 0 (by omega) (fun q hq => absurd hq (by omega)))
theorem ct_dropFrameIn (h : RepB M A Γ σ γ b) (hb : b ≤ 14400000) {i c f : Nat} {y : Nat × Nat × Int32} (hi : i < (sN σ).length) (hc : c < 151) (hf : f ∈ gG γ (6, i)) (hfc : gfc γ f = nI c) (hy : Sq M (nfr Γ i) = some (gG γ (6, i), y)) : CT G 3 72 mX6_dropFrameIn [.ref (nad Γ i), .int (nI c)] M (fun r M1 => r = none ∧ ∃ k, (gG γ (6, i))[k]? = some f ∧ M1 = qput M (nfr Γ i) (some ((gG γ (6, i)).eraseIdx k, y.1, y.2.1, y.2.2 + 1))) := by
  have hnode := h.node hi
  have hcap := h.2.2.2.2.2.2.cap hb hy
  refine ct_wf fun hw => ?_
  have hlen : (gG γ (6, i)).length ≤ y.1 := (hw.2.2.2.2 _ _ hy).2.2.1
  simp only at hcap
  have hl31 : (gG γ (6, i)).length < 2 ^ 31 := by omega
  have loop : ∀ (k j : Nat), j + k = (gG γ (6, i)).length → (∀ q, q < j → ∀ g, (gG γ (6, i))[q]? = some g → gfc γ g ≠ nI c) → XW G 3 72 mX6_dropFrameIn [.ref (nad Γ i), .int (nI c)] M (fun r M1 => r = none ∧ ∃ k, (gG γ (6, i))[k]? = some f ∧ M1 = qput M (nfr Γ i) (some ((gG γ (6, i)).eraseIdx k, y.1, y.2.1, y.2.2 + 1))) M 2 [(2, .int (nI j)), (0, .ref (nad Γ i)), (1, .int (nI c))] [] := by
    intro k
    induction k with
    | zero =>
      intro j hjk hno
      obtain ⟨q, hqe⟩ := List.mem_iff_getElem?.mp hf
      exact absurd hfc (hno q (by have := (List.getElem?_eq_some_iff.mp hqe).1; omega) f hqe)
    | succ k ih =>
      intro j hjk hno
      have hjl : j < (gG γ (6, i)).length := by omega
      have hel : (gG γ (6, i))[j]? = some (gG γ (6, i))[j] := List.getElem?_eq_getElem hjl
      have hmem : (gG γ (6, i))[j] ∈ gG γ (6, i) := List.getElem_mem hjl
      obtain ⟨va, w0, w1, w2, p1, p2, p3⟩ := h.2.1.2.2.1 _ (h.inMD (act_6 hi) hmem)
      refine xw_iload_n dX6_dropFrameIn_2 rfl rfl ?_
      refine xw_aload_n dX6_dropFrameIn_3 rfl rfl ?_
      refine xw_get (ci := 7) (k := 7) (v := .ref (nfr Γ i)) dX6_dropFrameIn_4 hnode rfl inX6 (by decide) tw_587 (Or.inl rfl) rfl ?_
      refine xw_callV (q2 := mJx4a65c_size_8abf5) (n2 := 0) (ci := 0) (Bs := []) (rest := [.int (nI j)]) (ct_size hy) dX6_dropFrameIn_7 rfl (q_at hy) rfl rfl tw_259 tw_229 tw_230 tw_43 tw_231 (by decide +kernel) rfl (Nat.le_of_ble_eq_true rfl) (Nat.le_of_ble_eq_true rfl) (Nat.le_of_ble_eq_true rfl) (fun rr M1 hr hle1 => ?_)
      obtain ⟨rfl, hM1⟩ := hr
      obtain rfl := hM1.symm
      refine xw_icmp_ge (tgt := 47) dX6_dropFrameIn_10 (by decide) (fun zz => absurd zz (nI_ge hjl hl31)) (fun _ => ?_)
      refine xw_aload_n dX6_dropFrameIn_13 rfl rfl ?_
      refine xw_get (ci := 7) (k := 7) (v := .ref (nfr Γ i)) dX6_dropFrameIn_14 hnode rfl inX6 (by decide) tw_587 (Or.inl rfl) rfl ?_
      refine xw_iload_n dX6_dropFrameIn_17 rfl rfl ?_
      refine xw_callV (q2 := mJx4a65c_get_915e3) (n2 := 1) (ci := 0) (Bs := [.int (nI j)]) (rest := []) (ct_get hy hjl (by show y.1 < 2 ^ 31; omega)) dX6_dropFrameIn_18 rfl (q_at hy) rfl rfl tw_353 tw_233 tw_234 tw_43 tw_235 (by decide +kernel) rfl (Nat.le_of_ble_eq_true rfl) (Nat.le_of_ble_eq_true rfl) (Nat.le_of_ble_eq_true rfl) (fun rr M1 hr hle1 => ?_)
      obtain ⟨rfl, hM1⟩ := hr
      obtain rfl := hM1.symm
      refine xw_cast (ci := 5) dX6_dropFrameIn_21 p2 rfl tw_354 ?_
      refine xw_get (ci := 5) (k := 3) (v := .int (gfc γ (gG γ (6, i))[j])) dX6_dropFrameIn_24 p2 rfl inX4 (by decide) tw_383 (Or.inl rfl) rfl ?_
      refine xw_iload_n dX6_dropFrameIn_27 rfl rfl ?_
      refine xw_pc (pc2 := 28) rfl ?_
      refine xw_icmp_ne (tgt := 41) dX6_dropFrameIn_28 (by decide) (fun c1 => ?_) (fun c1 => ?_)
      · skip
        refine xw_iinc (v := (nI j) + 1) (L2 := [(2, .int ((nI j) + 1)), (0, .ref (nad Γ i)), (1, .int (nI c))]) dX6_dropFrameIn_41 rfl rfl (by decide) rfl ?_
        refine xw_goto (tgt := 2) dX6_dropFrameIn_44 (by decide) ?_
        rw [nI_1]
        exact ih (j + 1) (by omega) (fun q hq g hg => if e : q = j then by subst e; rw [hel] at hg; cases hg; exact c1 else hno q (by omega) g hg)
      · have hff : (gG γ (6, i))[j] = f := ((h.2.2.1.2.2.2.1 i hi).2.1 _ _ hmem hf (c1.trans hfc.symm))
        refine xw_aload_n dX6_dropFrameIn_31 rfl rfl ?_
        refine xw_get (ci := 7) (k := 7) (v := .ref (nfr Γ i)) dX6_dropFrameIn_32 hnode rfl inX6 (by decide) tw_587 (Or.inl rfl) rfl ?_
        refine xw_iload_n dX6_dropFrameIn_35 rfl rfl ?_
        refine xw_callV (q2 := mJx4a65c_remove_915e3) (n2 := 1) (ci := 0) (Bs := [.int (nI j)]) (rest := []) (ct_remove (ci := 5) hy hjl (by show y.1 ≤ 20000001; omega) (by decide) rfl ks_F (fun g hg => h.isF (h.inMD (act_6 hi) hg))) dX6_dropFrameIn_36 rfl (q_at hy) rfl rfl tw_418 tw_401 tw_402 tw_43 tw_403 (by decide +kernel) rfl (Nat.le_of_ble_eq_true rfl) (Nat.le_of_ble_eq_true rfl) (Nat.le_of_ble_eq_true rfl) (fun rr M1 hr hle1 => ?_)
        obtain ⟨rfl, rfl⟩ := hr
        refine xw_pop dX6_dropFrameIn_39 rfl ?_
        exact xw_vret rfl dX6_dropFrameIn_40 ⟨rfl, j, by rw [hel, hff], rfl⟩
  refine ct_go (by decide +kernel) (Nat.le_of_ble_eq_true rfl) (L := [(0, .ref (nad Γ i)), (1, .int (nI c))]) rfl ?_
  refine xw_iconst (v := 0) dX6_dropFrameIn_0 (by decide) ?_
  refine xw_istore_n (L2 := [(2, .int 0), (0, .ref (nad Γ i)), (1, .int (nI c))]) dX6_dropFrameIn_1 rfl (by decide) rfl ?_
  exact xw_pc rfl (loop (gG γ (6, i)).length 0 (by omega) (fun q hq => absurd hq (by omega)))
end TAKE
