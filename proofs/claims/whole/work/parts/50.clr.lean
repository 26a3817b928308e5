/-! THE CLASS: clear itself -/
def st8 (σ : hs_S) (L : List ND) (C : List T3) (a : Nat) (ce : Nat → Option V2) (T : Nat → Nat → Nat → Option V2) (R : List R3) (K : List N3) (Rs : List (V2 × Nat)) : hs_S := (L, sB σ, C, a, sLe σ, ce, T, sNt σ, R, K, Rs, sTr σ, sW σ, sAl σ)
def tj (T : Nat → Nat → Nat → Option V2) (j : Nat) : Nat → Nat → Nat → Option V2 := fun i c => if i < j then no3 else T i c
section ST8
variable (σ : hs_S) (L : List ND) (C : List T3) (a : Nat) (ce : Nat → Option V2) (T : Nat → Nat → Nat → Option V2) (R : List R3) (K : List N3) (Rs : List (V2 × Nat))
theorem sN_st8 : sN (st8 σ L C a ce T R K Rs) = L := rfl
theorem sC_st8 : sC (st8 σ L C a ce T R K Rs) = C := rfl
theorem sA_st8 : sA (st8 σ L C a ce T R K Rs) = a := rfl
theorem sLe_st8 : sLe (st8 σ L C a ce T R K Rs) = sLe σ := rfl
theorem sCe_st8 : sCe (st8 σ L C a ce T R K Rs) = ce := rfl
theorem sT_st8 : sT (st8 σ L C a ce T R K Rs) = T := rfl
theorem sR_st8 : sR (st8 σ L C a ce T R K Rs) = R := rfl
theorem sK_st8 : sK (st8 σ L C a ce T R K Rs) = K := rfl
theorem sRs_st8 : sRs (st8 σ L C a ce T R K Rs) = Rs := rfl
theorem uN_st8 : uN σ L = st8 σ L (sC σ) (sA σ) (sCe σ) (sT σ) (sR σ) (sK σ) (sRs σ) := rfl
theorem uR_st8 (R' : List R3) : uR (st8 σ L C a ce T R K Rs) R' = st8 σ L C a ce T R' K Rs := rfl
theorem uC_st8 (C' : List T3) : uC (st8 σ L C a ce T R K Rs) C' = st8 σ L C' a ce T R K Rs := rfl
theorem uRs_st8 (Rs' : List (V2 × Nat)) : uRs (st8 σ L C a ce T R K Rs) Rs' = st8 σ L C a ce T R K Rs' := rfl
theorem fk_st8 (j : Nat) : uA (fk (st8 σ L C a ce T R K Rs) j) 0 = st8 σ L C 0 (fun c => if c < j then none else ce c) T R (K.filter (fun x => decide (j ≤ x.2.2))) Rs := rfl
end ST8
section CLR
variable {G : hx_G} {M M1 : hx_S} {A : hA} {Γ : hG} {σ σ' : hs_S} {γ : hf_S} {b b' : Nat} {L : List ND}
theorem GS.clr (h : GS σ) (hL : L = sN σ ∨ L = []) : GS (clr σ L) := by
  obtain ⟨k1, k2, k3, k4, k5, k6, k7, k8, k9, k10⟩ := h
  refine ⟨?_, fun i x hx => ?_, ⟨?_, ?_, ?_, fun j e hj he => ?_⟩, ⟨?_, fun k hk => ?_, fun c v hv => ?_⟩, fun i c => ⟨?_, fun z => ?_⟩, fun x hx => ?_, fun x hx => ?_, fun x hx => ?_, ⟨?_, ?_, ?_, ?_, ?_, ?_⟩, ⟨[], List.nodup_nil, fun i c p => ⟨fun z => (by cases z), fun z => (by cases z)⟩, rfl⟩⟩
  · show L.length ≤ 40
    rcases hL with rfl | rfl
    · exact k1
    · exact Nat.zero_le _
  · have hx' : L[i]? = some x := hx
    rcases hL with rfl | rfl
    · exact k2 i x hx'
    · cases hx'
  · exact Nat.le_refl 1
  · show (1 : Nat) ≤ 151; decide
  · rfl
  · have he' : ([((-1, 0, 0) : T3)] : List T3)[j]? = some e := he
    have q := (List.getElem?_eq_some_iff.mp he').1
    rw [List.length_singleton] at q
    omega
  · exact Nat.zero_le _
  · exact absurd hk (Nat.not_lt_zero _)
  · cases hv
  · exact GT.no
  · obtain ⟨p, hp⟩ := z
    exact absurd rfl hp
  · cases hx
  · cases hx
  · cases hx
  · exact Nat.zero_le _
  · exact Nat.zero_le _
  · exact Nat.zero_le _
  · exact k9.2.2.2.1
  · exact Nat.zero_le _
  · exact Nat.zero_le _
theorem ct_clear (h : Rep M A Γ σ γ b) (hb : b ≤ 14400000) {al : Int32} : CT G 9 199 mX9_clear [.ref (aT A), .int al] M (fun r M1 => r = none ∧ ∃ γ1, Rep M1 A Γ (clr σ (if al = 0 then sN σ else [])) γ1 b ∧ XE A M M1) := by
  have hH := h.hdr
  have h40 := h.2.2.1
  have hA40 := h.2.2.2.2.2.1.1
  have hK0 : (sK σ).filter (fun x => decide (8 * sA σ ≤ x.2.2)) = [] := by
    apply List.filter_eq_nil_iff.mpr
    intro x hx
    obtain ⟨-, -, k, i, z1, z2, z3⟩ := h.2.2.2.2.2.2.2.2.1 x hx
    have := h.2.2.2.2.2.1.2.1 k z1
    simp only [decide_eq_true_eq]
    omega
  have hC0 : (fun c => if c < 8 * sA σ then none else sCe σ c) = (fun _ => none : Nat → Option V2) := by
    funext c
    by_cases z : c < 8 * sA σ
    · rw [if_pos z]
    · rw [if_neg z]
      cases e : sCe σ c with
      | none => rfl
      | some v => exact absurd (h.2.2.2.2.2.1.2.2 c v e).1 z
  have hX0 : (sC σ).take 1 = [((-1, 0, 0) : T3)] := by
    obtain ⟨z1, -, z2, -⟩ := h.2.2.2.2.1
    cases e : sC σ with
    | nil => rw [e] at z1; exact absurd z1 (by decide)
    | cons x xs => rw [e] at z2; cases z2; rfl
  have tail : ∀ (L : List ND), (L = sN σ ∨ L = []) → ∀ (j : Nat) (M' : hx_S) (γ' : hf_S), RepB M' A Γ (st8 σ L (sC σ) (sA σ) (sCe σ) (tj (sT σ) L.length) (sR σ) (sK σ) (sRs σ)) γ' b → (∀ i, i < L.length → gG γ' (6, i) = []) → So M' 10 (aT A) = some (HDf A σ) → XE A M M' → XW G 9 199 mX9_clear [.ref (aT A), .int al] M (fun r M1 => r = none ∧ ∃ γ1, Rep M1 A Γ (clr σ L) γ1 b ∧ XE A M M1) M' 47 [(2, .int (nI j)), (0, .ref (aT A)), (1, .int al)] [] := by
    intro L hL j M' γ' hR hem hH' hX
    have hHd : So M' 10 (aT A) = some [.ref (aV A), .ref (aN A), .ref (aF A), .ref (aR A), .ref (aX A), .ref (aC A), .ref (aQ A), .int (nI (sNt σ)), .int (nI (sK σ).length), .int (nI (sTr σ)), .int (nI (sW σ)), .int (nI (sAl σ)), .int (nI (sB σ))] := hH'
    refine xw_aload_n dX9_clear_47 rfl rfl ?_
    refine xw_get (ci := 10) (k := 3) (v := .ref (aR A)) dX9_clear_48 hHd rfl inX9 (by decide) tw_183 (Or.inl rfl) rfl ?_
    obtain ⟨⟨⟨cp, e, mc⟩, hy⟩, hro⟩ := hR.2.1.2.1 (3, 0) act_3
    rw [ad_3] at hy hro
    have hro2 := (hR.2.1.2.1 (2, 0) act_2).2
    have hcap := hR.2.2.2.2.2.2.cap hb hy
    simp only at hcap
    refine xw_wf fun hw => ?_
    refine xw_callV (q2 := mJx4a65c_clear_da8c8) (n2 := 0) (ci := 0) (Bs := []) (rest := []) (ct_lclear hy (by show cp ≤ 20000001; omega)) dX9_clear_51 rfl (q_at hy) rfl rfl tw_423 tw_424 tw_425 tw_43 tw_426 (by decide +kernel) rfl (Nat.le_of_ble_eq_true rfl) (Nat.le_of_ble_eq_true rfl) (Nat.le_of_ble_eq_true rfl) (fun rr M1 hr hle1 => ?_)
    obtain ⟨rfl, hM1⟩ := hr
    have hR1 : RepB M1 A Γ (st8 σ L (sC σ) (sA σ) (sCe σ) (tj (sT σ) L.length) [] (sK σ) (sRs σ)) (dl γ' (3, 0)) b := by
      rw [hM1]
      refine hR.dl (r0 := (3, 0)) act_3 ext_qput ⟨_, by rw [ad_3, Sq_qput, if_pos rfl]⟩ (hR.2.2.1.one (by rw [sN_st8, sN_st8]) (fun i hi => Or.inr ⟨fun z => absurd (show (6 : Nat) = 3 from congrArg Prod.fst z) (by decide), by rw [sT_st8, sT_st8]⟩) (Or.inl ⟨rfl, by rw [sR_st8]⟩) (fun c => Or.inr ⟨fun z => absurd (show (7 : Nat) = 3 from congrArg Prod.fst z) (by decide), by unfold kf; rw [sK_st8, sK_st8]⟩)) ⟨by rw [sN_st8, sN_st8], by rw [sC_st8, sC_st8], by rw [sA_st8, sA_st8], by rw [sLe_st8, sLe_st8], by rw [sCe_st8, sCe_st8], by rw [sRs_st8, sRs_st8]⟩ ?_
      rw [if_neg (fun z => absurd (show (2 : Nat) = 3 from congrArg Prod.fst z) (by decide)), sK_st8]
      have q := hR.2.2.2.2.2.2
      rw [sK_st8] at q
      refine q.less hw hy (Nat.zero_le _) (fun z => ?_)
      rw [ad_2, ← show aR A = aE A from z, hro] at hro2
      exact absurd (show (3 : Nat) = 2 from congrArg Prod.fst hro2) (by decide)
    have hX1 : XE A M M1 := hX.tr (by rw [hM1]; exact ext_qput.mono (fun _ _ => False.elim) (fun _ _ => trivial) (fun _ => False.elim) (fun _ => False.elim))
    have hH1 : So M1 10 (aT A) = some [.ref (aV A), .ref (aN A), .ref (aF A), .ref (aR A), .ref (aX A), .ref (aC A), .ref (aQ A), .int (nI (sNt σ)), .int (nI (sK σ).length), .int (nI (sTr σ)), .int (nI (sW σ)), .int (nI (sAl σ)), .int (nI (sB σ))] := by rw [hM1]; exact hHd
    clear hM1 hR hw hX hHd hH'
    generalize M1 = M2 at hR1 hX1 hH1 ⊢
    refine xw_aload_n dX9_clear_54 rfl rfl ?_
    refine xw_get (ci := 10) (k := 5) (v := .ref (aC A)) dX9_clear_55 hH1 rfl inX9 (by decide) tw_185 (Or.inl rfl) rfl ?_
    have h40' : sA (st8 σ L (sC σ) (sA σ) (sCe σ) (tj (sT σ) L.length) [] (sK σ) (sRs σ)) ≤ 40 := by rw [sA_st8]; exact hA40
    refine xw_callV (q2 := mX2_forgetAll) (n2 := 0) (ci := 3) (Bs := []) (rest := []) (ct_forgetAll hR1 h40' hb) dX9_clear_58 rfl (o_at hR1.2.2.2.2.1.1) rfl rfl tw_427 tw_428 tw_429 tw_46 tw_430 (by decide +kernel) rfl (Nat.le_of_ble_eq_true rfl) (Nat.le_of_ble_eq_true rfl) (Nat.le_of_ble_eq_true rfl) (fun rr M1 hr hle1 => ?_)
    obtain ⟨rfl, γ2, hR2, hG2, hcd2, hX2⟩ := hr
    rw [sA_st8, fk_st8, hK0, hC0] at hR2
    have hX3 : XE A M M1 := hX1.tr (hX2.mono (fun _ _ z => by omega) (fun _ _ => trivial) (fun _ => False.elim) (fun _ => False.elim))
    have hH3 := hX2.so hH1 (by omega)
    clear hX2 hX1 hH1
    have halone : alone (st8 σ L (sC σ) 0 (fun _ => none) (tj (sT σ) L.length) [] [] (sRs σ)) γ2 := by
      intro r hr hr2
      rw [sN_st8] at hr
      rcases hr with z | z | ⟨z1, z2⟩ | ⟨z1, a, z2⟩
      · exact absurd z hr2
      · have q := congrArg List.length hR2.2.2.1.2.2.2.2.1
        rw [List.length_map, List.length_map, sR_st8] at q
        rw [z]; exact List.eq_nil_of_length_eq_zero q.symm
      · obtain ⟨r1, i⟩ := r
        obtain rfl : r1 = 6 := z1
        rw [hG2 (6, i) (by show (6 : Nat) ≠ 7; decide), dl_G, if_neg (fun z => absurd (show (6 : Nat) = 3 from congrArg Prod.fst z) (by decide))]
        exact hem i z2
      · obtain ⟨r1, c⟩ := r
        obtain rfl : r1 = 7 := z1
        have q := congrArg List.length (hR2.2.2.1.2.2.2.2.2.1 c ⟨a, z2⟩)
        rw [List.length_map, List.length_map] at q
        unfold kf at q
        rw [sK_st8] at q
        exact List.eq_nil_of_length_eq_zero q.symm
    clear hG2 hcd2 hR1
    generalize M1 = M3 at hR2 hX3 hH3 ⊢
    refine xw_aload_n dX9_clear_61 rfl rfl ?_
    refine xw_get (ci := 10) (k := 2) (v := .ref (aF A)) dX9_clear_62 hH3 rfl inX9 (by decide) tw_182 (Or.inl rfl) rfl ?_
    refine xw_callV (q2 := mX5_takeAllBack) (n2 := 0) (ci := 6) (Bs := []) (rest := []) (ct_takeAllBack hR2 halone hb) dX9_clear_65 rfl (o_at hR2.2.1.2.2.2.1) rfl rfl tw_432 tw_433 tw_434 tw_44 tw_435 (by decide +kernel) rfl (Nat.le_of_ble_eq_true rfl) (Nat.le_of_ble_eq_true rfl) (Nat.le_of_ble_eq_true rfl) (fun rr M1 hr hle1 => ?_)
    obtain ⟨rfl, γ3, hR3, hXF⟩ := hr
    have hX4 : XE A M M1 := hX3.tr hXF.xe
    have hH4 := hXF.so hH3 (by decide)
    clear hXF hX3 hH3 hR2 halone
    generalize M1 = M4 at hR3 hX4 hH4 ⊢
    refine xw_aload_n dX9_clear_68 rfl rfl ?_
    refine xw_get (ci := 10) (k := 4) (v := .ref (aX A)) dX9_clear_69 hH4 rfl inX9 (by decide) tw_184 (Or.inl rfl) rfl ?_
    have hcx := hR3.2.2.2.1
    rw [sC_st8] at hcx
    refine xw_callV (q2 := mX3_forgetAll) (n2 := 0) (ci := 4) (Bs := []) (rest := []) (ct_cforget hcx) dX9_clear_72 rfl (o_at hcx.1) rfl rfl tw_446 tw_447 tw_448 tw_45 tw_449 (by decide +kernel) rfl (Nat.le_of_ble_eq_true rfl) (Nat.le_of_ble_eq_true rfl) (Nat.le_of_ble_eq_true rfl) (fun rr M1 hr hle1 => ?_)
    obtain ⟨rfl, hc5, ho5⟩ := hr
    rw [hX0] at hc5
    have hR5 := hR3.cx hc5 ho5
    rw [uC_st8] at hR5
    have hX5 : XE A M M1 := hX4.tr ((cxo_ext ho5).mono (fun _ _ z => Or.inr (Or.inr (Or.inr (Or.inl z.1)))) (fun _ => False.elim) (fun _ => False.elim) (fun _ z => by rcases z with z | z | z; exact Or.inl z; exact Or.inr (Or.inl z); exact Or.inr (Or.inr (Or.inl z))))
    have hH5 := (cxo_ext ho5).so hH4 (fun z => absurd z.1 (by decide))
    clear hc5 ho5 hX4 hH4 hR3 hcx
    generalize M1 = M5 at hR5 hX5 hH5 ⊢
    refine xw_aload_n dX9_clear_75 rfl rfl ?_
    refine xw_get (ci := 10) (k := 6) (v := .ref (aQ A)) dX9_clear_76 hH5 rfl inX9 (by decide) tw_186 (Or.inl rfl) rfl ?_
    obtain ⟨-, xs, ⟨⟨cp6, e6, mc6⟩, hy6⟩, -⟩ := hR5.2.2.2.2.2.1
    have hcap6 := hR5.2.2.2.2.2.2.cap hb hy6
    simp only at hcap6
    refine xw_wf fun hw5 => ?_
    refine xw_callV (q2 := mJx4a65c_clear_da8c8) (n2 := 0) (ci := 0) (Bs := []) (rest := []) (ct_lclear hy6 (by show cp6 ≤ 20000001; omega)) dX9_clear_79 rfl (q_at hy6) rfl rfl tw_423 tw_424 tw_425 tw_43 tw_426 (by decide +kernel) rfl (Nat.le_of_ble_eq_true rfl) (Nat.le_of_ble_eq_true rfl) (Nat.le_of_ble_eq_true rfl) (fun rr M1 hr hle1 => ?_)
    obtain ⟨rfl, hM1⟩ := hr
    have hR6 := hR5.noRs hw5 hy6
    rw [← hM1, uRs_st8] at hR6
    have hX6 : XE A M M1 := hX5.tr (by rw [hM1]; exact ext_qput.mono (fun _ _ => False.elim) (fun _ _ => trivial) (fun _ => False.elim) (fun _ => False.elim))
    have hH6 : So M1 10 (aT A) = some [.ref (aV A), .ref (aN A), .ref (aF A), .ref (aR A), .ref (aX A), .ref (aC A), .ref (aQ A), .int (nI (sNt σ)), .int (nI (sK σ).length), .int (nI (sTr σ)), .int (nI (sW σ)), .int (nI (sAl σ)), .int (nI (sB σ))] := by rw [hM1]; exact hH5
    clear hM1 hX5 hH5 hR5 hy6
    generalize M1 = M6 at hR6 hX6 hH6 ⊢
    refine xw_aload_n dX9_clear_82 rfl rfl ?_
    refine xw_iconst (v := 0) dX9_clear_83 (by decide) ?_
    refine xw_put (ci := 10) (k := 7) tyX9 dX9_clear_84 hH6 rfl inX9 tyX9_ok nmX9 (by decide) tw_187 (Or.inl rfl) rfl rfl rfl rfl (Nat.le_of_ble_eq_true rfl) ?_
    dsimp only [List.set]
    refine xw_aload_n dX9_clear_87 rfl rfl ?_
    refine xw_iconst (v := 0) dX9_clear_88 (by decide) ?_
    refine xw_pc (pc2 := 89) rfl ?_
    refine xw_put (ci := 10) (k := 8) tyX9 dX9_clear_89 (show So (oput M6 10 (aT A) (some [.ref (aV A), .ref (aN A), .ref (aF A), .ref (aR A), .ref (aX A), .ref (aC A), .ref (aQ A), .int (0), .int (nI (sK σ).length), .int (nI (sTr σ)), .int (nI (sW σ)), .int (nI (sAl σ)), .int (nI (sB σ))])) 10 (aT A) = _ by rw [So_oput, if_pos ⟨rfl, rfl⟩]) rfl inX9 tyX9_ok nmX9 (by decide) tw_188 (Or.inl rfl) rfl rfl rfl rfl (Nat.le_of_ble_eq_true rfl) ?_
    dsimp only [List.set]
    rw [oput_oput]
    refine xw_aload_n dX9_clear_92 rfl rfl ?_
    refine xw_iconst (v := 0) dX9_clear_93 (by decide) ?_
    refine xw_put (ci := 10) (k := 9) tyX9 dX9_clear_94 (show So (oput M6 10 (aT A) (some [.ref (aV A), .ref (aN A), .ref (aF A), .ref (aR A), .ref (aX A), .ref (aC A), .ref (aQ A), .int (0), .int (0), .int (nI (sTr σ)), .int (nI (sW σ)), .int (nI (sAl σ)), .int (nI (sB σ))])) 10 (aT A) = _ by rw [So_oput, if_pos ⟨rfl, rfl⟩]) rfl inX9 tyX9_ok nmX9 (by decide) tw_189 (Or.inl rfl) rfl rfl rfl rfl (Nat.le_of_ble_eq_true rfl) ?_
    dsimp only [List.set]
    rw [oput_oput]
    refine xw_aload_n dX9_clear_97 rfl rfl ?_
    refine xw_iconst (v := 0) dX9_clear_98 (by decide) ?_
    refine xw_put (ci := 10) (k := 10) tyX9 dX9_clear_99 (show So (oput M6 10 (aT A) (some [.ref (aV A), .ref (aN A), .ref (aF A), .ref (aR A), .ref (aX A), .ref (aC A), .ref (aQ A), .int (0), .int (0), .int (0), .int (nI (sW σ)), .int (nI (sAl σ)), .int (nI (sB σ))])) 10 (aT A) = _ by rw [So_oput, if_pos ⟨rfl, rfl⟩]) rfl inX9 tyX9_ok nmX9 (by decide) tw_190 (Or.inl rfl) rfl rfl rfl rfl (Nat.le_of_ble_eq_true rfl) ?_
    dsimp only [List.set]
    rw [oput_oput]
    refine xw_aload_n dX9_clear_102 rfl rfl ?_
    refine xw_iconst (v := 0) dX9_clear_103 (by decide) ?_
    refine xw_put (ci := 10) (k := 12) tyX9 dX9_clear_104 (show So (oput M6 10 (aT A) (some [.ref (aV A), .ref (aN A), .ref (aF A), .ref (aR A), .ref (aX A), .ref (aC A), .ref (aQ A), .int (0), .int (0), .int (0), .int (0), .int (nI (sAl σ)), .int (nI (sB σ))])) 10 (aT A) = _ by rw [So_oput, if_pos ⟨rfl, rfl⟩]) rfl inX9 tyX9_ok nmX9 (by decide) tw_192 (Or.inl rfl) rfl rfl rfl rfl (Nat.le_of_ble_eq_true rfl) ?_
    dsimp only [List.set]
    rw [oput_oput]
    refine xw_vret rfl dX9_clear_107 ⟨rfl, γ3, ⟨by rw [So_oput, if_pos ⟨rfl, rfl⟩]; rfl, (hR6.hd (a := aT A)).cg2 (σ' := clr σ L) ⟨?_, ?_, ?_, ?_, ?_, ?_⟩ ?_ ?_ (fun i hi => ?_), h.2.2.clr hL⟩, hX6.tr xe_hd⟩
    · rw [sN_st8]; rfl
    · rw [sC_st8]; rfl
    · rw [sA_st8]; rfl
    · rw [sLe_st8]; rfl
    · rw [sCe_st8]; rfl
    · rw [sRs_st8]; rfl
    · rw [sR_st8]; rfl
    · rw [sK_st8]; rfl
    · rw [sN_st8] at hi
      rw [sT_st8]
      funext c
      show no3 = (if i < L.length then no3 else sT σ i c)
      rw [if_pos hi]
  have loop : ∀ (L : List ND), (L = sN σ ∨ L = []) → ∀ (k j : Nat) (M' : hx_S) (γ' : hf_S), j + k = L.length → RepB M' A Γ (st8 σ L (sC σ) (sA σ) (sCe σ) (tj (sT σ) j) (sR σ) (sK σ) (sRs σ)) γ' b → (∀ i, i < j → gG γ' (6, i) = []) → So M' 10 (aT A) = some (HDf A σ) → XE A M M' → XW G 9 199 mX9_clear [.ref (aT A), .int al] M (fun r M1 => r = none ∧ ∃ γ1, Rep M1 A Γ (clr σ L) γ1 b ∧ XE A M M1) M' 13 [(2, .int (nI j)), (0, .ref (aT A)), (1, .int al)] [] := by
    intro L hL k
    have hL40 : L.length ≤ 40 := by rcases hL with rfl | rfl; exact h40; exact Nat.zero_le _
    induction k with
    | zero =>
      intro j M' γ' hjk hR hem hH' hX
      have hHd : So M' 10 (aT A) = some [.ref (aV A), .ref (aN A), .ref (aF A), .ref (aR A), .ref (aX A), .ref (aC A), .ref (aQ A), .int (nI (sNt σ)), .int (nI (sK σ).length), .int (nI (sTr σ)), .int (nI (sW σ)), .int (nI (sAl σ)), .int (nI (sB σ))] := hH'
      obtain ⟨⟨y, hy⟩, -⟩ := hR.1
      rw [sN_st8] at hy
      have hlen : ((List.range L.length).map (nad Γ)).length = L.length := by simp
      refine xw_iload_n dX9_clear_13 rfl rfl ?_
      refine xw_aload_n dX9_clear_14 rfl rfl ?_
      refine xw_get (ci := 10) (k := 1) (v := .ref (aN A)) dX9_clear_15 hHd rfl inX9 (by decide) tw_181 (Or.inl rfl) rfl ?_
      refine xw_callV (q2 := mJx4a65c_size_8abf5) (n2 := 0) (ci := 0) (Bs := []) (rest := [.int (nI j)]) (ct_size hy) dX9_clear_18 rfl (q_at hy) rfl rfl tw_228 tw_229 tw_230 tw_43 tw_231 (by decide +kernel) rfl (Nat.le_of_ble_eq_true rfl) (Nat.le_of_ble_eq_true rfl) (Nat.le_of_ble_eq_true rfl) (fun rr M1 hr hle1 => ?_)
      obtain ⟨rfl, hM1⟩ := hr
      obtain rfl := hM1.symm
      rw [show nI ((List.range L.length).map (nad Γ), y).1.length = nI L.length from congrArg nI hlen]
      refine xw_icmp_ge (tgt := 47) dX9_clear_21 (by decide) (fun _ => ?_) (fun zz => absurd (nI_le (show L.length ≤ j by omega) (by omega)) zz)
      obtain rfl : j = L.length := by omega
      exact xw_pc rfl (tail L hL L.length M' γ' hR hem hH' hX)
    | succ k ih =>
      intro j M' γ' hjk hR hem hH' hX
      have hHd : So M' 10 (aT A) = some [.ref (aV A), .ref (aN A), .ref (aF A), .ref (aR A), .ref (aX A), .ref (aC A), .ref (aQ A), .int (nI (sNt σ)), .int (nI (sK σ).length), .int (nI (sTr σ)), .int (nI (sW σ)), .int (nI (sAl σ)), .int (nI (sB σ))] := hH'
      obtain ⟨⟨y, hy⟩, -⟩ := hR.1
      rw [sN_st8] at hy
      have hlen : ((List.range L.length).map (nad Γ)).length = L.length := by simp
      have hcap := hR.2.2.2.2.2.2.cap hb hy
      simp only at hcap
      have hjL : j < (sN (st8 σ L (sC σ) (sA σ) (sCe σ) (tj (sT σ) j) (sR σ) (sK σ) (sRs σ))).length := by rw [sN_st8]; omega
      have hnode := hR.node hjL
      obtain ⟨⟨⟨cp, e, mc⟩, hy6⟩, hro⟩ := hR.2.1.2.1 (6, j) (act_6 hjL)
      rw [ad_6] at hy6 hro
      have hro2 := (hR.2.1.2.1 (2, 0) act_2).2
      have hcap6 := hR.2.2.2.2.2.2.cap hb hy6
      simp only at hcap6
      refine xw_iload_n dX9_clear_13 rfl rfl ?_
      refine xw_aload_n dX9_clear_14 rfl rfl ?_
      refine xw_get (ci := 10) (k := 1) (v := .ref (aN A)) dX9_clear_15 hHd rfl inX9 (by decide) tw_181 (Or.inl rfl) rfl ?_
      refine xw_callV (q2 := mJx4a65c_size_8abf5) (n2 := 0) (ci := 0) (Bs := []) (rest := [.int (nI j)]) (ct_size hy) dX9_clear_18 rfl (q_at hy) rfl rfl tw_228 tw_229 tw_230 tw_43 tw_231 (by decide +kernel) rfl (Nat.le_of_ble_eq_true rfl) (Nat.le_of_ble_eq_true rfl) (Nat.le_of_ble_eq_true rfl) (fun rr M1 hr hle1 => ?_)
      obtain ⟨rfl, hM1⟩ := hr
      obtain rfl := hM1.symm
      rw [show nI ((List.range L.length).map (nad Γ), y).1.length = nI L.length from congrArg nI hlen]
      refine xw_icmp_ge (tgt := 47) dX9_clear_21 (by decide) (fun zz => absurd zz (nI_ge (show j < L.length by omega) (by omega))) (fun _ => ?_)
      refine xw_aload_n dX9_clear_24 rfl rfl ?_
      refine xw_get (ci := 10) (k := 1) (v := .ref (aN A)) dX9_clear_25 hHd rfl inX9 (by decide) tw_181 (Or.inl rfl) rfl ?_
      refine xw_iload_n dX9_clear_28 rfl rfl ?_
      refine xw_pc (pc2 := 29) rfl ?_
      refine xw_callV (q2 := mJx4a65c_get_915e3) (n2 := 1) (ci := 0) (Bs := [.int (nI j)]) (rest := []) (ct_get hy (i := j) (by show j < ((List.range L.length).map (nad Γ)).length; omega) (by show y.1 < 2 ^ 31; omega)) dX9_clear_29 rfl (q_at hy) rfl rfl tw_232 tw_233 tw_234 tw_43 tw_235 (by decide +kernel) rfl (Nat.le_of_ble_eq_true rfl) (Nat.le_of_ble_eq_true rfl) (Nat.le_of_ble_eq_true rfl) (fun rr M1 hr hle1 => ?_)
      obtain ⟨rfl, hM1⟩ := hr
      obtain rfl := hM1.symm
      refine Eq.mp (congrArg (fun z => XW G 9 199 mX9_clear [.ref (aT A), .int al] M _ _ _ _ [.ref z]) (show nad Γ j = ((List.range L.length).map (nad Γ))[j] by simp)) ?_
      refine xw_cast (ci := 7) dX9_clear_32 hnode rfl tw_246 ?_
      refine xw_get (ci := 7) (k := 7) (v := .ref (nfr Γ j)) dX9_clear_35 hnode rfl inX6 (by decide) tw_588 (Or.inl rfl) rfl ?_
      refine xw_wf fun hw => ?_
      refine xw_callV (q2 := mJx4a65c_clear_da8c8) (n2 := 0) (ci := 0) (Bs := []) (rest := []) (ct_lclear hy6 (by show cp ≤ 20000001; omega)) dX9_clear_38 rfl (q_at hy6) rfl rfl tw_423 tw_424 tw_425 tw_43 tw_426 (by decide +kernel) rfl (Nat.le_of_ble_eq_true rfl) (Nat.le_of_ble_eq_true rfl) (Nat.le_of_ble_eq_true rfl) (fun rr M1 hr hle1 => ?_)
      obtain ⟨rfl, hM1⟩ := hr
      have hR1 : RepB M1 A Γ (st8 σ L (sC σ) (sA σ) (sCe σ) (tj (sT σ) (j + 1)) (sR σ) (sK σ) (sRs σ)) (dl γ' (6, j)) b := by
        rw [hM1]
        refine hR.dl (r0 := (6, j)) (act_6 hjL) ext_qput ⟨_, by rw [ad_6, Sq_qput, if_pos rfl]⟩ (hR.2.2.1.one (by rw [sN_st8, sN_st8]) (fun i hi => ?_) (Or.inr ⟨fun z => absurd (show (3 : Nat) = 6 from congrArg Prod.fst z) (by decide), by rw [sR_st8, sR_st8]⟩) (fun c => Or.inr ⟨fun z => absurd (show (7 : Nat) = 6 from congrArg Prod.fst z) (by decide), by unfold kf; rw [sK_st8, sK_st8]⟩)) ⟨by rw [sN_st8, sN_st8], by rw [sC_st8, sC_st8], by rw [sA_st8, sA_st8], by rw [sLe_st8, sLe_st8], by rw [sCe_st8, sCe_st8], by rw [sRs_st8, sRs_st8]⟩ ?_
        · by_cases hij : i = j
          · refine Or.inl ⟨by rw [hij], fun c => ?_⟩
            rw [sT_st8]
            show (if i < j + 1 then no3 else sT σ i c) = no3
            rw [if_pos (by omega)]
          · refine Or.inr ⟨fun z => hij (Prod.mk.inj z).2, ?_⟩
            rw [sT_st8, sT_st8]
            funext c
            show (if i < j + 1 then no3 else sT σ i c) = (if i < j then no3 else sT σ i c)
            by_cases z : i < j
            · rw [if_pos z, if_pos (by omega)]
            · rw [if_neg z, if_neg (by omega)]
        · rw [if_neg (fun z => absurd (show (2 : Nat) = 6 from congrArg Prod.fst z) (by decide)), sK_st8]
          have q := hR.2.2.2.2.2.2
          rw [sK_st8] at q
          refine q.less hw hy6 (Nat.zero_le _) (fun z => ?_)
          rw [ad_2, ← show nfr Γ j = aE A from z, hro] at hro2
          exact absurd (show (6 : Nat) = 2 from congrArg Prod.fst hro2) (by decide)
      have hX1 : XE A M M1 := hX.tr (by rw [hM1]; exact ext_qput.mono (fun _ _ => False.elim) (fun _ _ => trivial) (fun _ => False.elim) (fun _ => False.elim))
      have hH1 : So M1 10 (aT A) = some (HDf A σ) := by rw [hM1]; exact hH'
      clear hM1
      refine xw_iinc (v := (nI j) + 1) (L2 := [(2, .int ((nI j) + 1)), (0, .ref (aT A)), (1, .int al)]) dX9_clear_41 rfl rfl (by decide) rfl ?_
      refine xw_goto (tgt := 13) dX9_clear_44 (by decide) ?_
      rw [nI_1]
      refine ih (j + 1) M1 (dl γ' (6, j)) (by omega) hR1 (fun i hi => ?_) hH1 hX1
      rw [dl_G]
      by_cases z : i = j
      · rw [if_pos (by rw [z])]
      · rw [if_neg (fun w => z (Prod.mk.inj w).2)]
        exact hem i (by omega)
  have tj0 : tj (sT σ) 0 = sT σ := by
    funext i c
    show (if i < 0 then no3 else sT σ i c) = sT σ i c
    rw [if_neg (Nat.not_lt_zero _)]
  refine ct_go (by decide +kernel) (Nat.le_of_ble_eq_true rfl) (L := [(0, .ref (aT A)), (1, .int al)]) rfl ?_
  refine xw_iload_n dX9_clear_0 rfl rfl ?_
  refine xw_if_eq (tgt := 11) dX9_clear_1 (by decide) (fun c1 => ?_) (fun c1 => ?_)
  · rw [if_pos c1]
    refine xw_iconst (v := 0) dX9_clear_11 (by decide) ?_
    refine xw_istore_n (L2 := [(2, .int 0), (0, .ref (aT A)), (1, .int al)]) dX9_clear_12 rfl (by decide) rfl ?_
    refine xw_pc rfl (loop (sN σ) (Or.inl rfl) (sN σ).length 0 M γ (by omega) ?_ (fun i hi => absurd hi (Nat.not_lt_zero _)) h.1 (XE.rf _ _))
    rw [tj0, ← uN_st8]
    exact h.2.1.cg (σ' := uN σ (sN σ)) ⟨sN_uN _ _, sC_uN _ _, sA_uN _ _, sLe_uN _ _, sCe_uN _ _, sRs_uN _ _⟩ (sT_uN _ _) (sR_uN _ _) (sK_uN _ _)
  · rw [if_neg c1]
    refine xw_aload_n dX9_clear_4 rfl rfl ?_
    refine xw_get (ci := 10) (k := 1) (v := .ref (aN A)) dX9_clear_5 hH rfl inX9 (by decide) tw_181 (Or.inl rfl) rfl ?_
    obtain ⟨⟨⟨cp, e, mc⟩, hy⟩, -⟩ := h.2.1.1
    have hcap := h.2.1.2.2.2.2.2.2.cap hb hy
    simp only at hcap
    refine xw_wf fun hw => ?_
    refine xw_callV (q2 := mJx4a65c_clear_da8c8) (n2 := 0) (ci := 0) (Bs := []) (rest := []) (ct_lclear hy (by show cp ≤ 20000001; omega)) dX9_clear_8 rfl (q_at hy) rfl rfl tw_423 tw_424 tw_425 tw_43 tw_426 (by decide +kernel) rfl (Nat.le_of_ble_eq_true rfl) (Nat.le_of_ble_eq_true rfl) (Nat.le_of_ble_eq_true rfl) (fun rr M1 hr hle1 => ?_)
    obtain ⟨rfl, hM1⟩ := hr
    have hR1 : RepB M1 A Γ (st8 σ [] (sC σ) (sA σ) (sCe σ) (sT σ) (sR σ) (sK σ) (sRs σ)) γ b := by
      rw [hM1, ← uN_st8]
      exact h.2.1.noN hw hy
    have hX1 : XE A M M1 := by rw [hM1]; exact ext_qput.mono (fun _ _ => False.elim) (fun _ _ => trivial) (fun _ => False.elim) (fun _ => False.elim)
    have hH1 : So M1 10 (aT A) = some (HDf A σ) := by rw [hM1]; exact h.1
    refine xw_iconst (v := 0) dX9_clear_11 (by decide) ?_
    refine xw_istore_n (L2 := [(2, .int 0), (0, .ref (aT A)), (1, .int al)]) dX9_clear_12 rfl (by decide) rfl ?_
    refine xw_pc rfl (loop [] (Or.inr rfl) 0 0 M1 γ rfl ?_ (fun i hi => absurd hi (Nat.not_lt_zero _)) hH1 hX1)
    rw [tj0]
    exact hR1
end CLR
