/-! THE CLASS: Contexts, the rest; Cells: made, read -/
section CT4
variable {G : hx_G} {M : hx_S} {cx co cs cr : Nat} {L : List T3}
theorem ct_nextRoundOf {j : Nat} {e : T3} (h : CX M cx co cs cr L) (hj : L[j]? = some e) : CT G 1 24 mX3_nextRoundOf [.ref cx, .int (nI j)] M (fun r M1 => r = some (.int (onI (if j = 0 then some 0 else (cnum L (e.1, e.2.1, e.2.2 + 1)).1))) ∧ CX M1 cx co cs cr (if j = 0 then L else (cnum L (e.1, e.2.1, e.2.2 + 1)).2) ∧ CXo M M1 cx co cs cr) := by
  refine ct_go (by decide +kernel) (Nat.le_of_ble_eq_true rfl) (L := [(0, .ref cx), (1, .int (nI j))]) rfl ?_
  have hlt : j < L.length := (List.getElem?_eq_some_iff.mp hj).1
  obtain ⟨ho, ⟨fo, fs, fr, h1, h2, h3, h4⟩, hl1, hl2, -⟩ := id h
  obtain ⟨e1, e2, e3⟩ := h4 j e hj
  have hin : vp_in (nI j) 151 := vp_in_nI (show j < 151 by omega) (by decide)
  refine xw_iload_n dX3_nextRoundOf_0 rfl rfl ?_
  refine xw_if_eq (tgt := 12) dX3_nextRoundOf_1 (by decide) (fun c1 => ?_) (fun c1 => ?_)
  · have hj0 : j = 0 := (nI_eq (by omega) (by decide)).mp (show nI j = nI 0 from c1)
    refine xw_iconst (v := 0) dX3_nextRoundOf_12 (by decide) ?_
    exact xw_iret rfl dX3_nextRoundOf_13 ⟨by rw [if_pos hj0]; rfl, by rw [if_pos hj0]; exact h, CXo.rf _ _ _ _ _⟩
  · have hj0 : ¬ j = 0 := fun z => c1 (by rw [z]; rfl)
    refine xw_aload_n dX3_nextRoundOf_4 rfl rfl ?_
    refine xw_iload_n dX3_nextRoundOf_5 rfl rfl ?_
    refine xw_callV (q2 := mX3_has) (n2 := 1) (ci := 4) (Bs := [.int (nI j)]) (rest := []) (ct_has h) dX3_nextRoundOf_6 rfl (o_at ho) rfl rfl tw_657 tw_460 tw_461 tw_45 tw_462 (by decide +kernel) rfl (Nat.le_of_ble_eq_true rfl) (Nat.le_of_ble_eq_true rfl) (Nat.le_of_ble_eq_true rfl) (fun rr M1 hr hle1 => ?_)
    obtain ⟨rfl, hM1⟩ := hr
    obtain rfl := hM1.symm
    rw [if_pos (show ¬ nI j < 0 ∧ ¬ nI L.length ≤ nI j from ⟨nI_pos (by omega), nI_ge hlt (by omega)⟩)]
    refine xw_if_ne (tgt := 14) dX3_nextRoundOf_9 (by decide) (fun _ => ?_) (fun zz => absurd zz (by decide))
    refine xw_aload_n dX3_nextRoundOf_14 rfl rfl ?_
    refine xw_aload_n dX3_nextRoundOf_15 rfl rfl ?_
    refine xw_get (ci := 4) (k := 0) (v := .ref co) dX3_nextRoundOf_16 ho rfl inX3 (by decide) tw_140 (Or.inl rfl) rfl ?_
    refine xw_iload_n dX3_nextRoundOf_19 rfl rfl ?_
    refine xw_iald dX3_nextRoundOf_20 h1 hin ?_
    rw [nI_clamp (by omega), e1]
    refine xw_aload_n dX3_nextRoundOf_21 rfl rfl ?_
    refine xw_get (ci := 4) (k := 1) (v := .ref cs) dX3_nextRoundOf_22 ho rfl inX3 (by decide) tw_142 (Or.inl rfl) rfl ?_
    refine xw_iload_n dX3_nextRoundOf_25 rfl rfl ?_
    refine xw_iald dX3_nextRoundOf_26 h2 hin ?_
    rw [nI_clamp (by omega), e2]
    refine xw_aload_n dX3_nextRoundOf_27 rfl rfl ?_
    refine xw_get (ci := 4) (k := 2) (v := .ref cr) dX3_nextRoundOf_28 ho rfl inX3 (by decide) tw_144 (Or.inl rfl) rfl ?_
    refine xw_iload_n dX3_nextRoundOf_31 rfl rfl ?_
    refine xw_pc (pc2 := 32) rfl ?_
    refine xw_iald dX3_nextRoundOf_32 h3 hin ?_
    rw [nI_clamp (by omega), e3]
    refine xw_iconst (v := 1) dX3_nextRoundOf_33 (by decide) ?_
    refine xw_iadd dX3_nextRoundOf_34 ?_
    refine xw_callV (q2 := mX3_numberOf) (n2 := 3) (ci := 4) (Bs := [.int e.1, .int e.2.1, .int (e.2.2 + 1)]) (rest := []) (ct_numberOf h) dX3_nextRoundOf_35 rfl (o_at ho) rfl rfl tw_658 tw_650 tw_651 tw_45 tw_652 (by decide +kernel) rfl (Nat.le_of_ble_eq_true rfl) (Nat.le_of_ble_eq_true rfl) (Nat.le_of_ble_eq_true rfl) (fun rr M1 hr hle1 => ?_)
    obtain ⟨rfl, k2, k3⟩ := hr
    exact xw_iret rfl dX3_nextRoundOf_38 ⟨by rw [if_neg hj0], by rw [if_neg hj0]; exact k2, k3⟩
theorem ct_firstRoundOf {j : Nat} {e : T3} (h : CX M cx co cs cr L) (hj : L[j]? = some e) : CT G 1 24 mX3_firstRoundOf [.ref cx, .int (nI j)] M (fun r M1 => r = some (.int (onI (if j = 0 then some 0 else (cnum L (e.1, e.2.1, 0)).1))) ∧ CX M1 cx co cs cr (if j = 0 then L else (cnum L (e.1, e.2.1, 0)).2) ∧ CXo M M1 cx co cs cr) := by
  refine ct_go (by decide +kernel) (Nat.le_of_ble_eq_true rfl) (L := [(0, .ref cx), (1, .int (nI j))]) rfl ?_
  have hlt : j < L.length := (List.getElem?_eq_some_iff.mp hj).1
  obtain ⟨ho, ⟨fo, fs, fr, h1, h2, h3, h4⟩, hl1, hl2, -⟩ := id h
  obtain ⟨e1, e2, e3⟩ := h4 j e hj
  have hin : vp_in (nI j) 151 := vp_in_nI (show j < 151 by omega) (by decide)
  refine xw_iload_n dX3_firstRoundOf_0 rfl rfl ?_
  refine xw_if_eq (tgt := 12) dX3_firstRoundOf_1 (by decide) (fun c1 => ?_) (fun c1 => ?_)
  · have hj0 : j = 0 := (nI_eq (by omega) (by decide)).mp (show nI j = nI 0 from c1)
    refine xw_iconst (v := 0) dX3_firstRoundOf_12 (by decide) ?_
    exact xw_iret rfl dX3_firstRoundOf_13 ⟨by rw [if_pos hj0]; rfl, by rw [if_pos hj0]; exact h, CXo.rf _ _ _ _ _⟩
  · have hj0 : ¬ j = 0 := fun z => c1 (by rw [z]; rfl)
    refine xw_aload_n dX3_firstRoundOf_4 rfl rfl ?_
    refine xw_iload_n dX3_firstRoundOf_5 rfl rfl ?_
    refine xw_callV (q2 := mX3_has) (n2 := 1) (ci := 4) (Bs := [.int (nI j)]) (rest := []) (ct_has h) dX3_firstRoundOf_6 rfl (o_at ho) rfl rfl tw_657 tw_460 tw_461 tw_45 tw_462 (by decide +kernel) rfl (Nat.le_of_ble_eq_true rfl) (Nat.le_of_ble_eq_true rfl) (Nat.le_of_ble_eq_true rfl) (fun rr M1 hr hle1 => ?_)
    obtain ⟨rfl, hM1⟩ := hr
    obtain rfl := hM1.symm
    rw [if_pos (show ¬ nI j < 0 ∧ ¬ nI L.length ≤ nI j from ⟨nI_pos (by omega), nI_ge hlt (by omega)⟩)]
    refine xw_if_ne (tgt := 14) dX3_firstRoundOf_9 (by decide) (fun _ => ?_) (fun zz => absurd zz (by decide))
    refine xw_aload_n dX3_firstRoundOf_14 rfl rfl ?_
    refine xw_aload_n dX3_firstRoundOf_15 rfl rfl ?_
    refine xw_get (ci := 4) (k := 0) (v := .ref co) dX3_firstRoundOf_16 ho rfl inX3 (by decide) tw_140 (Or.inl rfl) rfl ?_
    refine xw_iload_n dX3_firstRoundOf_19 rfl rfl ?_
    refine xw_iald dX3_firstRoundOf_20 h1 hin ?_
    rw [nI_clamp (by omega), e1]
    refine xw_aload_n dX3_firstRoundOf_21 rfl rfl ?_
    refine xw_get (ci := 4) (k := 1) (v := .ref cs) dX3_firstRoundOf_22 ho rfl inX3 (by decide) tw_142 (Or.inl rfl) rfl ?_
    refine xw_iload_n dX3_firstRoundOf_25 rfl rfl ?_
    refine xw_pc (pc2 := 26) rfl ?_
    refine xw_iald dX3_firstRoundOf_26 h2 hin ?_
    rw [nI_clamp (by omega), e2]
    refine xw_iconst (v := 0) dX3_firstRoundOf_27 (by decide) ?_
    refine xw_callV (q2 := mX3_numberOf) (n2 := 3) (ci := 4) (Bs := [.int e.1, .int e.2.1, .int 0]) (rest := []) (ct_numberOf h) dX3_firstRoundOf_28 rfl (o_at ho) rfl rfl tw_658 tw_650 tw_651 tw_45 tw_652 (by decide +kernel) rfl (Nat.le_of_ble_eq_true rfl) (Nat.le_of_ble_eq_true rfl) (Nat.le_of_ble_eq_true rfl) (fun rr M1 hr hle1 => ?_)
    obtain ⟨rfl, k2, k3⟩ := hr
    exact xw_iret rfl dX3_firstRoundOf_31 ⟨by rw [if_neg hj0], by rw [if_neg hj0]; exact k2, k3⟩
theorem ct_cforget (h : CX M cx co cs cr L) : CT G 0 0 mX3_forgetAll [.ref cx] M (fun r M1 => r = none ∧ CX M1 cx co cs cr (L.take 1) ∧ CXo M M1 cx co cs cr) := by
  refine ct_go (by decide +kernel) (Nat.le_of_ble_eq_true rfl) (L := [(0, .ref cx)]) rfl ?_
  obtain ⟨ho, ⟨fo, fs, fr, h1, h2, h3, h4⟩, hl1, hl2, n1, n2, n3⟩ := id h
  refine xw_aload_n dX3_forgetAll_0 rfl rfl ?_
  refine xw_iconst (v := 1) dX3_forgetAll_1 (by decide) ?_
  refine xw_put (ci := 4) (k := 3) tyX3 dX3_forgetAll_2 ho rfl inX3 tyX3_ok nmX3 (by decide) tw_146 (Or.inl rfl) rfl rfl rfl rfl (Nat.le_of_ble_eq_true rfl) ?_
  dsimp only [List.set]
  have hlen : (L.take 1).length = 1 := by rw [List.length_take]; omega
  refine xw_vret rfl dX3_forgetAll_5 ⟨rfl, ⟨by rw [So_oput, if_pos ⟨rfl, rfl⟩, hlen]; rfl, ⟨fo, fs, fr, h1, h2, h3, fun i e hi => h4 i e ?_⟩, by rw [hlen]; decide, by rw [hlen]; decide, n1, n2, n3⟩, ⟨rfl, rfl, fun c b hcb => by rw [So_oput, if_neg hcb], fun _ _ _ _ => rfl, rfl, rfl, rfl⟩⟩
  rw [List.getElem?_take] at hi
  split at hi
  · exact hi
  · cases hi
theorem ct_Cells {a nv : Nat} {f1 f2 f3 : Value} (ho : So M 3 a = some [f1, f2, f3, .int 0]) : CT G 1 20 mX2_init [.ref a, .ref nv] M (fun r M1 => r = none ∧ M1 = oput (ni (nr M 0 320 (fun _ => none)) 40) 3 a (some [.ref nv, .ref (Sz M), .ref (Sz M + 1), .int 0])) := by
  refine ct_go (by decide +kernel) (Nat.le_of_ble_eq_true rfl) (L := [(0, .ref a), (1, .ref nv)]) rfl ?_
  refine xw_aload_n dX2_init_0 rfl rfl ?_
  refine xw_obj dX2_init_1 tw_163 tw_71 tw_72 (Nat.le_of_ble_eq_true rfl) (Nat.le_of_ble_eq_true rfl) ?_
  refine xw_aload_n dX2_init_4 rfl rfl ?_
  refine xw_aload_n dX2_init_5 rfl rfl ?_
  refine xw_putF (ci := 3) (k := 0) tyX2 dX2_init_6 ho rfl inX2 tyX2_ok nmX2 (by decide) tw_166 (Or.inl rfl) rfl rfl rfl rfl rfl rfl (Nat.le_of_ble_eq_true rfl) ?_
  dsimp only [List.set]
  refine xw_aload_n dX2_init_9 rfl rfl ?_
  refine xw_sipush (v := 320) dX2_init_10 (by decide) ?_
  refine xw_newR (k := 0) (by decide) tw_164 dX2_init_13 (N := 320) (by decide) (by decide) (by decide) ?_
  simp only [Sz_oput]
  refine Eq.mp (congrArg (fun z => XW G 1 20 mX2_init [.ref a, .ref nv] M _ z _ _ _) (show oput (nr M 0 320 (fun _ => none)) 3 a (some [.ref nv, f2, f3, .int 0]) = _ from rfl)) ?_
  refine xw_putF (ci := 3) (k := 1) tyX2 dX2_init_16 (show So (oput (nr M 0 320 (fun _ => none)) 3 a (some [.ref nv, f2, f3, .int 0])) 3 a = some [.ref nv, f2, f3, .int 0] by rw [So_oput, if_pos ⟨rfl, rfl⟩]) rfl inX2 tyX2_ok nmX2 (by decide) tw_167 (Or.inl rfl) rfl rfl rfl rfl rfl rfl (Nat.le_of_ble_eq_true rfl) ?_
  dsimp only [List.set]
  rw [oput_oput]
  refine xw_aload_n dX2_init_19 rfl rfl ?_
  refine xw_bipush (v := 40) dX2_init_20 (by decide) ?_
  refine xw_newI (N := 40) tw_157 dX2_init_22 (by decide) (by decide) (by decide) ?_
  simp only [Sz_oput]
  refine Eq.mp (congrArg (fun z => XW G 1 20 mX2_init [.ref a, .ref nv] M _ z _ _ _) (show oput (ni (nr M 0 320 (fun _ => none)) 40) 3 a (some [.ref nv, .ref (Sz M), f3, .int 0]) = _ from rfl)) ?_
  refine xw_putF (ci := 3) (k := 2) tyX2 dX2_init_24 (show So (oput (ni (nr M 0 320 (fun _ => none)) 40) 3 a (some [.ref nv, .ref (Sz M), f3, .int 0])) 3 a = some [.ref nv, .ref (Sz M), f3, .int 0] by rw [So_oput, if_pos ⟨rfl, rfl⟩]) rfl inX2 tyX2_ok nmX2 (by decide) tw_168 (Or.inl rfl) rfl rfl rfl rfl rfl rfl (Nat.le_of_ble_eq_true rfl) ?_
  dsimp only [List.set]
  rw [oput_oput]
  exact xw_vret rfl dX2_init_27 ⟨rfl, rfl⟩
end CT4
