/-! THE CLASS: Contexts -/
abbrev T3 : Type := Int32 × Int32 × Int32
/-- the contexts' cells hold L -/
def CX (M : hx_S) (cx co cs cr : Nat) (L : List T3) : Prop :=
  So M 4 cx = some [.ref co, .ref cs, .ref cr, .int (nI L.length)] ∧ (∃ fo fs fr : Nat → Int32, Si M co = some (151, fo) ∧ Si M cs = some (151, fs) ∧ Si M cr = some (151, fr) ∧ ∀ (j : Nat) (e : T3), L[j]? = some e → fo j = e.1 ∧ fs j = e.2.1 ∧ fr j = e.2.2) ∧ 1 ≤ L.length ∧ L.length ≤ 151 ∧ co ≠ cs ∧ co ≠ cr ∧ cs ≠ cr
/-- nothing but the contexts' cells has changed -/
def CXo (M M1 : hx_S) (cx co cs cr : Nat) : Prop := Sz M1 = Sz M ∧ Sl M1 = Sl M ∧ (∀ c b, ¬ (c = 4 ∧ b = cx) → So M1 c b = So M c b) ∧ (∀ b, b ≠ co → b ≠ cs → b ≠ cr → Si M1 b = Si M b) ∧ Sj M1 = Sj M ∧ Sr M1 = Sr M ∧ Sq M1 = Sq M
theorem CXo.rf (M : hx_S) (cx co cs cr : Nat) : CXo M M cx co cs cr := ⟨rfl, rfl, fun _ _ _ => rfl, fun _ _ _ _ => rfl, rfl, rfl, rfl⟩
/-- the first context from j on that is told by t -/
def cfind (L : List T3) (t : T3) : Nat → Nat → Option Nat
  | 0, _ => none
  | k + 1, j => if L[j]? = some t then some j else cfind L t k (j + 1)
/-- the context that is told by t: its number, if there may be one, and the contexts then -/
def cnum (L : List T3) (t : T3) : Option Nat × List T3 := match cfind L t (L.length - 1) 1 with
  | some j => (some j, L)
  | none => if L.length < 151 then (some L.length, L ++ [t]) else (none, L)
def onI (o : Option Nat) : Int32 := match o with
  | some j => nI j
  | none => -1
section CT3
variable {G : hx_G} {M : hx_S} {cx co cs cr : Nat} {L : List T3}
theorem ct_Contexts {a : Nat} {f1 f2 f3 f4 : Value} (ho : So M 4 a = some [f1, f2, f3, f4]) : CT G 1 20 mX3_init [.ref a] M (fun r M1 => r = none ∧ M1 = oput (iput (ni (ni (ni M 151) 151) 151) (Sz M) (some (151, upd (fun _ => 0) 0 (-1)))) 4 a (some [.ref (Sz M), .ref (Sz M + 1), .ref (Sz M + 2), .int 1])) := by
  refine ct_go (by decide +kernel) (Nat.le_of_ble_eq_true rfl) (L := [(0, .ref a)]) rfl ?_
  refine xw_aload_n dX3_init_0 rfl rfl ?_
  refine xw_obj dX3_init_1 tw_139 tw_71 tw_72 (Nat.le_of_ble_eq_true rfl) (Nat.le_of_ble_eq_true rfl) ?_
  refine xw_aload_n dX3_init_4 rfl rfl ?_
  refine xw_sipush (v := 151) dX3_init_5 (by decide) ?_
  refine xw_newI (N := 151) tw_157 dX3_init_8 (by decide) (by decide) (by decide) ?_
  refine xw_putF (ci := 4) (k := 0) tyX3 dX3_init_10 (show So _ 4 a = some [f1, f2, f3, f4] from ho) rfl inX3 tyX3_ok nmX3 (by decide) tw_140 (Or.inl rfl) rfl rfl rfl rfl rfl rfl (Nat.le_of_ble_eq_true rfl) ?_
  dsimp only [List.set]
  refine xw_aload_n dX3_init_13 rfl rfl ?_
  refine xw_sipush (v := 151) dX3_init_14 (by decide) ?_
  refine xw_newI (N := 151) tw_157 dX3_init_17 (by decide) (by decide) (by decide) ?_
  refine xw_putF (ci := 4) (k := 1) tyX3 dX3_init_19 (show So _ 4 a = some [.ref (Sz M), f2, f3, f4] by rw [So_iput, So_grow, So_oput, if_pos ⟨rfl, rfl⟩]) rfl inX3 tyX3_ok nmX3 (by decide) tw_142 (Or.inl rfl) rfl rfl rfl rfl rfl rfl (Nat.le_of_ble_eq_true rfl) ?_
  dsimp only [List.set]
  refine xw_aload_n dX3_init_22 rfl rfl ?_
  refine xw_sipush (v := 151) dX3_init_23 (by decide) ?_
  refine xw_newI (N := 151) tw_157 dX3_init_26 (by decide) (by decide) (by decide) ?_
  refine xw_putF (ci := 4) (k := 2) tyX3 dX3_init_28 (show So _ 4 a = some [.ref (Sz M), .ref (Sz M + 1), f3, f4] by rw [So_iput, So_grow, So_oput, if_pos ⟨rfl, rfl⟩]; rfl) rfl inX3 tyX3_ok nmX3 (by decide) tw_144 (Or.inl rfl) rfl rfl rfl rfl rfl rfl (Nat.le_of_ble_eq_true rfl) ?_
  dsimp only [List.set]
  refine xw_aload_n dX3_init_31 rfl rfl ?_
  refine xw_get (ci := 4) (k := 0) (v := .ref (Sz M)) dX3_init_32 (show So _ 4 a = some [.ref (Sz M), .ref (Sz M + 1), .ref (Sz M + 2), f4] by rw [So_oput, if_pos ⟨rfl, rfl⟩]; rfl) rfl inX3 (by decide) tw_140 (Or.inl rfl) rfl ?_
  refine xw_iconst (v := 0) dX3_init_35 (by decide) ?_
  refine xw_iconst (v := (-1)) dX3_init_36 (by decide) ?_
  have hz : ∀ (x y z : Option (List Value)), oput (iput (grow (oput (iput (grow (oput (iput (grow M 151 20) (Sz M) (some (151, fun _ => 0))) 4 a x) 151 20) (Sz M + 1) (some (151, fun _ => 0))) 4 a y) 151 20) (Sz M + 2) (some (151, fun _ => 0))) 4 a z = oput (oput (oput (ni (ni (ni M 151) 151) 151) 4 a x) 4 a y) 4 a z := fun x y z => rfl
  refine Eq.mp (congrArg (fun w => XW G 1 20 mX3_init [.ref a] M _ w _ _ _) (hz (some [.ref (Sz M), f2, f3, f4]) (some [.ref (Sz M), .ref (Sz M + 1), f3, f4]) (some [.ref (Sz M), .ref (Sz M + 1), .ref (Sz M + 2), f4])).symm) ?_
  rw [oput_oput, oput_oput]
  refine xw_iast dX3_init_37 (show Si (oput (ni (ni (ni M 151) 151) 151) 4 a (some [.ref (Sz M), .ref (Sz M + 1), .ref (Sz M + 2), f4])) (Sz M) = some (151, fun _ => 0) by rw [Si_oput]; unfold ni; simp only [Si_oput, Si_iput, Si_jput, Si_rput, Si_qput, Si_kput, Si_grow, Sz_oput, Sz_iput, Sz_jput, Sz_rput, Sz_qput, Sz_kput, Sz_grow]; rw [if_neg (by omega), if_neg (by omega)]; simp) (by unfold vp_in; decide) ?_
  refine xw_aload_n dX3_init_38 rfl rfl ?_
  refine xw_iconst (v := 1) dX3_init_39 (by decide) ?_
  refine xw_put (ci := 4) (k := 3) tyX3 dX3_init_40 (show So (iput (oput (ni (ni (ni M 151) 151) 151) 4 a (some [.ref (Sz M), .ref (Sz M + 1), .ref (Sz M + 2), f4])) (Sz M) _) 4 a = some [.ref (Sz M), .ref (Sz M + 1), .ref (Sz M + 2), f4] by rw [So_iput, So_oput, if_pos ⟨rfl, rfl⟩]) rfl inX3 tyX3_ok nmX3 (by decide) tw_146 (Or.inl rfl) rfl rfl rfl rfl (Nat.le_of_ble_eq_true rfl) ?_
  dsimp only [List.set]
  exact xw_vret rfl dX3_init_43 ⟨rfl, (oput_oput (iput (ni (ni (ni M 151) 151) 151) (Sz M) (some (151, upd (fun _ => 0) 0 (-1)))) 4 a _ _)⟩
theorem ct_has {c : Int32} (h : CX M cx co cs cr L) : CT G 0 0 mX3_has [.ref cx, .int c] M (fun r M1 => r = some (.int (if ¬ c < 0 ∧ ¬ nI L.length ≤ c then 1 else 0)) ∧ M1 = M) := by
  refine ct_go (by decide +kernel) (Nat.le_of_ble_eq_true rfl) (L := [(0, .ref cx), (1, .int c)]) rfl ?_
  obtain ⟨ho, -, hl1, hl2, -⟩ := h
  refine xw_iload_n dX3_has_0 rfl rfl ?_
  refine xw_pc (pc2 := 1) rfl ?_
  refine xw_if_lt (tgt := 23) dX3_has_1 (by decide) (fun c1 => ?_) (fun c1 => ?_)
  · skip
    refine xw_iconst (v := 0) dX3_has_23 (by decide) ?_
    exact xw_zret rfl rfl dX3_has_24 ⟨by rw [if_neg (fun z => z.1 c1)], rfl⟩
  · skip
    refine xw_iload_n dX3_has_4 rfl rfl ?_
    refine xw_aload_n dX3_has_5 rfl rfl ?_
    refine xw_get (ci := 4) (k := 3) (v := .int (nI L.length)) dX3_has_6 ho rfl inX3 (by decide) tw_146 (Or.inl rfl) rfl ?_
    refine xw_icmp_ge (tgt := 23) dX3_has_9 (by decide) (fun c2 => ?_) (fun c2 => ?_)
    · skip
      refine xw_iconst (v := 0) dX3_has_23 (by decide) ?_
      exact xw_zret rfl rfl dX3_has_24 ⟨by rw [if_neg (fun z => z.2 c2)], rfl⟩
    · obtain ⟨j, hj, rfl, -⟩ := pk_mu c1 c2 (show L.length < 2 ^ 31 by omega)
      refine xw_iload_n dX3_has_12 rfl rfl ?_
      refine xw_sipush (v := 151) dX3_has_13 (by decide) ?_
      refine xw_icmp_ge (tgt := 23) dX3_has_16 (by decide) (fun zz => absurd zz (show ¬ nI 151 ≤ nI j from nI_ge (by omega) (by decide))) (fun _ => ?_)
      refine xw_iconst (v := 1) dX3_has_19 (by decide) ?_
      refine xw_goto (tgt := 24) dX3_has_20 (by decide) ?_
      exact xw_zret rfl rfl dX3_has_24 ⟨by rw [if_pos ⟨c1, c2⟩], rfl⟩
theorem ct_outsideOf {j : Nat} {e : T3} (h : CX M cx co cs cr L) (hj : L[j]? = some e) : CT G 1 21 mX3_outsideOf [.ref cx, .int (nI j)] M (fun r M1 => r = some (.int (if j = 0 then 0 else e.1)) ∧ M1 = M) := by
  refine ct_go (by decide +kernel) (Nat.le_of_ble_eq_true rfl) (L := [(0, .ref cx), (1, .int (nI j))]) rfl ?_
  have hlt : j < L.length := (List.getElem?_eq_some_iff.mp hj).1
  obtain ⟨ho, ⟨fo, fs, fr, h1, h2, h3, h4⟩, hl1, hl2, -⟩ := id h
  have e1 := (h4 j e hj).1
  refine xw_iload_n dX3_outsideOf_0 rfl rfl ?_
  refine xw_if_eq (tgt := 12) dX3_outsideOf_1 (by decide) (fun c1 => ?_) (fun c1 => ?_)
  · have hj0 : j = 0 := (nI_eq (by omega) (by decide)).mp (show nI j = nI 0 from c1)
    refine xw_iconst (v := 0) dX3_outsideOf_12 (by decide) ?_
    refine xw_goto (tgt := 22) dX3_outsideOf_13 (by decide) ?_
    exact xw_iret rfl dX3_outsideOf_22 ⟨by rw [if_pos hj0], rfl⟩
  · have hj0 : ¬ j = 0 := fun z => c1 (by rw [z]; rfl)
    refine xw_aload_n dX3_outsideOf_4 rfl rfl ?_
    refine xw_iload_n dX3_outsideOf_5 rfl rfl ?_
    refine xw_pc (pc2 := 6) rfl ?_
    refine xw_callV (q2 := mX3_has) (n2 := 1) (ci := 4) (Bs := [.int (nI j)]) (rest := []) (ct_has h) dX3_outsideOf_6 rfl (o_at ho) rfl rfl tw_657 tw_460 tw_461 tw_45 tw_462 (by decide +kernel) rfl (Nat.le_of_ble_eq_true rfl) (Nat.le_of_ble_eq_true rfl) (Nat.le_of_ble_eq_true rfl) (fun rr M1 hr hle1 => ?_)
    obtain ⟨rfl, hM1⟩ := hr
    obtain rfl := hM1.symm
    rw [if_pos (show ¬ nI j < 0 ∧ ¬ nI L.length ≤ nI j from ⟨nI_pos (by omega), nI_ge hlt (by omega)⟩)]
    refine xw_if_ne (tgt := 16) dX3_outsideOf_9 (by decide) (fun _ => ?_) (fun zz => absurd zz (by decide))
    refine xw_aload_n dX3_outsideOf_16 rfl rfl ?_
    refine xw_get (ci := 4) (k := 0) (v := .ref co) dX3_outsideOf_17 ho rfl inX3 (by decide) tw_140 (Or.inl rfl) rfl ?_
    refine xw_iload_n dX3_outsideOf_20 rfl rfl ?_
    refine xw_iald dX3_outsideOf_21 h1 (vp_in_nI (show j < 151 by omega) (by decide)) ?_
    rw [nI_clamp (by omega), e1]
    exact xw_iret rfl dX3_outsideOf_22 ⟨by rw [if_neg hj0], rfl⟩
theorem ct_siteOf {j : Nat} {e : T3} (h : CX M cx co cs cr L) (hj : L[j]? = some e) : CT G 1 21 mX3_siteOf [.ref cx, .int (nI j)] M (fun r M1 => r = some (.int e.2.1) ∧ M1 = M) := by
  refine ct_go (by decide +kernel) (Nat.le_of_ble_eq_true rfl) (L := [(0, .ref cx), (1, .int (nI j))]) rfl ?_
  have hlt : j < L.length := (List.getElem?_eq_some_iff.mp hj).1
  obtain ⟨ho, ⟨fo, fs, fr, h1, h2, h3, h4⟩, hl1, hl2, -⟩ := id h
  have e1 := (h4 j e hj).2.1
  refine xw_aload_n dX3_siteOf_0 rfl rfl ?_
  refine xw_iload_n dX3_siteOf_1 rfl rfl ?_
  refine xw_callV (q2 := mX3_has) (n2 := 1) (ci := 4) (Bs := [.int (nI j)]) (rest := []) (ct_has h) dX3_siteOf_2 rfl (o_at ho) rfl rfl tw_657 tw_460 tw_461 tw_45 tw_462 (by decide +kernel) rfl (Nat.le_of_ble_eq_true rfl) (Nat.le_of_ble_eq_true rfl) (Nat.le_of_ble_eq_true rfl) (fun rr M1 hr hle1 => ?_)
  obtain ⟨rfl, hM1⟩ := hr
  obtain rfl := hM1.symm
  rw [if_pos (show ¬ nI j < 0 ∧ ¬ nI L.length ≤ nI j from ⟨nI_pos (by omega), nI_ge hlt (by omega)⟩)]
  refine xw_if_eq (tgt := 17) dX3_siteOf_5 (by decide) (fun zz => absurd zz (by decide)) (fun _ => ?_)
  refine xw_aload_n dX3_siteOf_8 rfl rfl ?_
  refine xw_get (ci := 4) (k := 1) (v := .ref cs) dX3_siteOf_9 ho rfl inX3 (by decide) tw_142 (Or.inl rfl) rfl ?_
  refine xw_iload_n dX3_siteOf_12 rfl rfl ?_
  refine xw_iald dX3_siteOf_13 h2 (vp_in_nI (show j < 151 by omega) (by decide)) ?_
  rw [nI_clamp (by omega), e1]
  refine xw_goto (tgt := 18) dX3_siteOf_14 (by decide) ?_
  exact xw_iret rfl dX3_siteOf_18 ⟨rfl, rfl⟩
theorem ct_numberOf {o s r0 : Int32} (h : CX M cx co cs cr L) : CT G 0 0 mX3_numberOf [.ref cx, .int o, .int s, .int r0] M (fun r M1 => r = some (.int (onI (cnum L (o, s, r0)).1)) ∧ CX M1 cx co cs cr (cnum L (o, s, r0)).2 ∧ CXo M M1 cx co cs cr) := by
  refine ct_go (by decide +kernel) (Nat.le_of_ble_eq_true rfl) (L := [(0, .ref cx), (1, .int o), (2, .int s), (3, .int r0)]) rfl ?_
  obtain ⟨ho, ⟨fo, fs, fr, h1, h2, h3, h4⟩, hl1, hl2, n1, n2, n3⟩ := id h
  have loop : ∀ (k j : Nat), 1 ≤ j → j + k = L.length → cfind L (o, s, r0) (L.length - 1) 1 = cfind L (o, s, r0) k j → XW G 0 0 mX3_numberOf [.ref cx, .int o, .int s, .int r0] M (fun r M1 => r = some (.int (onI (cnum L (o, s, r0)).1)) ∧ CX M1 cx co cs cr (cnum L (o, s, r0)).2 ∧ CXo M M1 cx co cs cr) M 3 [(4, .int (nI j)), (0, .ref cx), (1, .int o), (2, .int s), (3, .int r0)] [] := by
    intro k
    induction k with
    | zero =>
      intro j hj1 hjk hf
      have hc : cnum L (o, s, r0) = if L.length < 151 then (some L.length, L ++ [(o, s, r0)]) else (none, L) := by unfold cnum; rw [hf]; rfl
      refine xw_iload dX3_numberOf_3 rfl ?_
      refine xw_aload_n dX3_numberOf_5 rfl rfl ?_
      refine xw_get (ci := 4) (k := 3) (v := .int (nI L.length)) dX3_numberOf_6 ho rfl inX3 (by decide) tw_146 (Or.inl rfl) rfl ?_
      refine xw_icmp_ge (tgt := 62) dX3_numberOf_9 (by decide) (fun _ => ?_) (fun zz => absurd (nI_le (show L.length ≤ j by omega) (by omega)) zz)
      refine xw_aload_n dX3_numberOf_62 rfl rfl ?_
      refine xw_get (ci := 4) (k := 3) (v := .int (nI L.length)) dX3_numberOf_63 ho rfl inX3 (by decide) tw_146 (Or.inl rfl) rfl ?_
      refine xw_sipush (v := 151) dX3_numberOf_66 (by decide) ?_
      by_cases hf2 : L.length < 151
      · rw [if_pos hf2] at hc
        refine xw_icmp_lt (tgt := 74) dX3_numberOf_69 (by decide) (fun _ => ?_) (fun zz => absurd (show nI L.length < nI 151 from nI_lt hf2 (by decide)) zz)
        refine xw_aload_n dX3_numberOf_74 rfl rfl ?_
        refine xw_get (ci := 4) (k := 3) (v := .int (nI L.length)) dX3_numberOf_75 ho rfl inX3 (by decide) tw_146 (Or.inl rfl) rfl ?_
        refine xw_istore (L2 := [(4, .int (nI L.length)), (0, .ref cx), (1, .int o), (2, .int s), (3, .int r0)]) dX3_numberOf_78 (by decide) rfl ?_
        refine xw_aload_n dX3_numberOf_80 rfl rfl ?_
        refine xw_pc (pc2 := 81) rfl ?_
        refine xw_get (ci := 4) (k := 0) (v := .ref co) dX3_numberOf_81 ho rfl inX3 (by decide) tw_140 (Or.inl rfl) rfl ?_
        refine xw_iload dX3_numberOf_84 rfl ?_
        refine xw_iload_n dX3_numberOf_86 rfl rfl ?_
        refine xw_iast dX3_numberOf_87 h1 (vp_in_nI hf2 (by decide)) ?_
        refine xw_aload_n dX3_numberOf_88 rfl rfl ?_
        refine xw_get (ci := 4) (k := 1) (v := .ref cs) dX3_numberOf_89 (show So (iput M co _) 4 cx = _ from ho) rfl inX3 (by decide) tw_142 (Or.inl rfl) rfl ?_
        refine xw_iload dX3_numberOf_92 rfl ?_
        refine xw_iload_n dX3_numberOf_94 rfl rfl ?_
        refine xw_iast dX3_numberOf_95 (show Si (iput M co _) cs = some (151, fs) by rw [Si_iput, if_neg (fun z => n1 z.symm)]; exact h2) (vp_in_nI hf2 (by decide)) ?_
        refine xw_aload_n dX3_numberOf_96 rfl rfl ?_
        refine xw_get (ci := 4) (k := 2) (v := .ref cr) dX3_numberOf_97 (show So (iput (iput M co _) cs _) 4 cx = _ from ho) rfl inX3 (by decide) tw_144 (Or.inl rfl) rfl ?_
        refine xw_iload dX3_numberOf_100 rfl ?_
        refine xw_iload_n dX3_numberOf_102 rfl rfl ?_
        refine xw_iast dX3_numberOf_103 (show Si (iput (iput M co _) cs _) cr = some (151, fr) by rw [Si_iput, if_neg (fun z => n3 z.symm), Si_iput, if_neg (fun z => n2 z.symm)]; exact h3) (vp_in_nI hf2 (by decide)) ?_
        refine xw_aload_n dX3_numberOf_104 rfl rfl ?_
        refine xw_dup dX3_numberOf_105 rfl ?_
        refine xw_get (ci := 4) (k := 3) (v := .int (nI L.length)) dX3_numberOf_106 (show So (iput (iput (iput M co _) cs _) cr _) 4 cx = _ from ho) rfl inX3 (by decide) tw_146 (Or.inl rfl) rfl ?_
        refine xw_iconst (v := 1) dX3_numberOf_109 (by decide) ?_
        refine xw_iadd dX3_numberOf_110 ?_
        refine xw_put (ci := 4) (k := 3) tyX3 dX3_numberOf_111 (show So (iput (iput (iput M co _) cs _) cr _) 4 cx = _ from ho) rfl inX3 tyX3_ok nmX3 (by decide) tw_146 (Or.inl rfl) rfl rfl rfl rfl (Nat.le_of_ble_eq_true rfl) ?_
        dsimp only [List.set]
        rw [nI_clamp (show L.length < 2 ^ 31 by omega), nI_1]
        refine xw_iload dX3_numberOf_114 rfl ?_
        refine xw_pc (pc2 := 116) rfl ?_
        refine xw_iret rfl dX3_numberOf_116 ⟨by rw [hc]; rfl, ?_, ?_⟩
        · rw [hc]
          refine ⟨by rw [So_oput, if_pos ⟨rfl, rfl⟩]; simp, ⟨upd fo L.length o, upd fs L.length s, upd fr L.length r0, ?_, ?_, ?_, ?_⟩, by simp, by simp; omega, n1, n2, n3⟩
          · rw [Si_oput, Si_iput, if_neg n2, Si_iput, if_neg n1, Si_iput, if_pos rfl]
          · rw [Si_oput, Si_iput, if_neg n3, Si_iput, if_pos rfl]
          · rw [Si_oput, Si_iput, if_pos rfl]
          · intro i e hi
            by_cases hie : i = L.length
            · subst hie
              simp at hi
              subst hi
              exact ⟨pk_us, pk_us, pk_us⟩
            · have hi' : L[i]? = some e := by
                have hb : i < (L ++ [(o, s, r0)]).length := (List.getElem?_eq_some_iff.mp hi).1
                simp at hb
                rw [List.getElem?_append_left (by omega)] at hi
                exact hi
              rw [pk_un hie, pk_un hie, pk_un hie]
              exact h4 i e hi'
        · refine ⟨rfl, rfl, fun c b hcb => ?_, fun b b1 b2 b3 => ?_, rfl, rfl, rfl⟩
          · rw [So_oput, if_neg hcb]; rfl
          · rw [Si_oput, Si_iput, if_neg b3, Si_iput, if_neg b2, Si_iput, if_neg b1]
      · rw [if_neg hf2] at hc
        refine xw_icmp_lt (tgt := 74) dX3_numberOf_69 (by decide) (fun zz => absurd zz (show ¬ nI L.length < nI 151 from nI_nlt (by omega) (by omega))) (fun _ => ?_)
        refine xw_iconst (v := (-1)) dX3_numberOf_72 (by decide) ?_
        exact xw_iret rfl dX3_numberOf_73 ⟨by rw [hc]; rfl, by rw [hc]; exact h, CXo.rf _ _ _ _ _⟩
    | succ k ih =>
      intro j hj1 hjk hf
      have hjl : j < L.length := by omega
      obtain ⟨e, he⟩ : ∃ e, L[j]? = some e := ⟨L[j], List.getElem?_eq_getElem hjl⟩
      obtain ⟨q1, q2, q3⟩ := h4 j e he
      have hnext : ¬ e = (o, s, r0) → XW G 0 0 mX3_numberOf [.ref cx, .int o, .int s, .int r0] M (fun r M1 => r = some (.int (onI (cnum L (o, s, r0)).1)) ∧ CX M1 cx co cs cr (cnum L (o, s, r0)).2 ∧ CXo M M1 cx co cs cr) M 56 [(4, .int (nI j)), (0, .ref cx), (1, .int o), (2, .int s), (3, .int r0)] [] := by
        intro hne
        refine xw_iinc (v := (nI j) + 1) (L2 := [(4, .int ((nI j) + 1)), (0, .ref cx), (1, .int o), (2, .int s), (3, .int r0)]) dX3_numberOf_56 rfl rfl (by decide) rfl ?_
        refine xw_goto (tgt := 3) dX3_numberOf_59 (by decide) ?_
        rw [nI_1]
        refine ih (j + 1) (by omega) (by omega) (hf.trans ?_)
        show (if L[j]? = some (o, s, r0) then some j else cfind L (o, s, r0) k (j + 1)) = _
        rw [if_neg (fun z => hne (Option.some.inj (he.symm.trans z)))]
      have hin : vp_in (nI j) 151 := vp_in_nI (show j < 151 by omega) (by decide)
      refine xw_iload dX3_numberOf_3 rfl ?_
      refine xw_aload_n dX3_numberOf_5 rfl rfl ?_
      refine xw_get (ci := 4) (k := 3) (v := .int (nI L.length)) dX3_numberOf_6 ho rfl inX3 (by decide) tw_146 (Or.inl rfl) rfl ?_
      refine xw_icmp_ge (tgt := 62) dX3_numberOf_9 (by decide) (fun zz => absurd zz (nI_ge hjl (by omega))) (fun _ => ?_)
      refine xw_iload dX3_numberOf_12 rfl ?_
      refine xw_sipush (v := 151) dX3_numberOf_14 (by decide) ?_
      refine xw_icmp_ge (tgt := 62) dX3_numberOf_17 (by decide) (fun zz => absurd zz (show ¬ nI 151 ≤ nI j from nI_ge (by omega) (by decide))) (fun _ => ?_)
      refine xw_aload_n dX3_numberOf_20 rfl rfl ?_
      refine xw_get (ci := 4) (k := 0) (v := .ref co) dX3_numberOf_21 ho rfl inX3 (by decide) tw_140 (Or.inl rfl) rfl ?_
      refine xw_iload dX3_numberOf_24 rfl ?_
      refine xw_iald dX3_numberOf_26 h1 hin ?_
      rw [nI_clamp (by omega), q1]
      refine xw_iload_n dX3_numberOf_27 rfl rfl ?_
      refine xw_icmp_ne (tgt := 56) dX3_numberOf_28 (by decide) (fun c1 => ?_) (fun c1 => ?_)
      · exact xw_pc rfl (hnext (fun z => c1 (by rw [z])))
      · skip
        refine xw_aload_n dX3_numberOf_31 rfl rfl ?_
        refine xw_get (ci := 4) (k := 1) (v := .ref cs) dX3_numberOf_32 ho rfl inX3 (by decide) tw_142 (Or.inl rfl) rfl ?_
        refine xw_iload dX3_numberOf_35 rfl ?_
        refine xw_iald dX3_numberOf_37 h2 hin ?_
        rw [nI_clamp (by omega), q2]
        refine xw_iload_n dX3_numberOf_38 rfl rfl ?_
        refine xw_pc (pc2 := 39) rfl ?_
        refine xw_icmp_ne (tgt := 56) dX3_numberOf_39 (by decide) (fun c2 => ?_) (fun c2 => ?_)
        · exact xw_pc rfl (hnext (fun z => c2 (by rw [z])))
        · skip
          refine xw_aload_n dX3_numberOf_42 rfl rfl ?_
          refine xw_get (ci := 4) (k := 2) (v := .ref cr) dX3_numberOf_43 ho rfl inX3 (by decide) tw_144 (Or.inl rfl) rfl ?_
          refine xw_iload dX3_numberOf_46 rfl ?_
          refine xw_iald dX3_numberOf_48 h3 hin ?_
          rw [nI_clamp (by omega), q3]
          refine xw_iload_n dX3_numberOf_49 rfl rfl ?_
          refine xw_icmp_ne (tgt := 56) dX3_numberOf_50 (by decide) (fun c3 => ?_) (fun c3 => ?_)
          · exact xw_pc rfl (hnext (fun z => c3 (by rw [z])))
          · have hee : e = (o, s, r0) := by rw [← c1, ← c2, ← c3]
            have hc : cnum L (o, s, r0) = (some j, L) := by
              unfold cnum
              rw [hf, show cfind L (o, s, r0) (k + 1) j = some j from if_pos (by rw [he, hee])]
            refine xw_iload dX3_numberOf_53 rfl ?_
            exact xw_iret rfl dX3_numberOf_55 ⟨by rw [hc]; rfl, by rw [hc]; exact h, CXo.rf _ _ _ _ _⟩
  refine xw_iconst (v := 1) dX3_numberOf_0 (by decide) ?_
  refine xw_istore (L2 := [(4, .int 1), (0, .ref cx), (1, .int o), (2, .int s), (3, .int r0)]) dX3_numberOf_1 (by decide) rfl ?_
  have l := loop (L.length - 1) 1 (Nat.le_refl 1) (by omega) rfl
  rw [show nI 1 = 1 from by decide +kernel] at l
  exact xw_pc rfl l
end CT3
