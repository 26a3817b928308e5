/-! THE REFERENCE: store, atCell -/
section ATCELL
variable {G : hx_G} {M M1 : hx_S} {m : Nat} {B : Nat → Nat} {ρ ρ' : hr_S} {σ σ' : hs_S} {T : List TK} {i c p s na k d : Nat} {v x y z : V2} {th : Int32} {K : Nat → Int32} {V : Nat → Int64}
theorem GK.sub (h : GK σ) (hN : sN σ' = sN σ) (hK : ∀ x, x ∈ sK σ' → x ∈ sK σ) : GK σ' := fun x hx => by rw [nd_cg hN]; exact h x (hK x hx)
theorem ct_mstore (h : RM M m B σ th K V) (hG : GS σ) (hN : GN σ) (hK7 : GK σ) (hi : i < (sN σ).length) (h7 : (nd σ i).1 ≠ 7) (hc : c < (sC σ).length) (hdd : ∃ k j, k < sA σ ∧ j < sLe σ k ∧ d = 8 * k + j) (hz : GV (sA σ) z) (k2 : K 2 = z.1 ∧ V 2 = z.2) : CT G 5 128 mX10_store [.ref m, .int (nI i), .int (nI c), .int (nI d)] M (fun r M1 => r = none ∧ RM M1 m B (stored (some d) σ i c z) th K V ∧ EF M M1 m B) := by
  obtain ⟨ρ, T, hR, h0, hAb, hT, hW⟩ := id h
  obtain ⟨hNd, hC, hAr, hRd, hK, hRs, hS1, hS2, hS3, hS4⟩ := id hAb
  have hA40 := hG.2.2.2.1.1
  have hd8 : d < 8 * sA σ := by
    obtain ⟨a, b, h1, h2, h3⟩ := hdd
    have := hG.2.2.2.1.2.1 a h1
    omega
  obtain ⟨c1, c2⟩ := hAr.2.2 d hd8
  have ind : vp_in (nI d) 320 := vp_in_nI (by omega) (by decide)
  have d31 : d < 2 ^ 31 := by omega
  have in2 : vp_in (nI 2) 3 := vp_in_nI (by decide) (by decide)
  have loop : ∀ (n k : Nat) (M' : hx_S) (σ' : hs_S), (sK σ').length = k + n → RM M' m B σ' th K V → GS σ' → GN σ' → GK σ' → sCe σ' d = some z → (∀ j y, j < k → (sK σ')[j]? = some y → y.2.2 ≠ d) → EF M M' m B → XW G 5 128 mX10_store [.ref m, .int (nI i), .int (nI c), .int (nI d)] M (fun r M1 => r = none ∧ RM M1 m B (serves d z (kf σ' d).length σ') th K V ∧ EF M M1 m B) M' 62 [(4, .int (nI k)), (0, .ref m), (1, .int (nI i)), (2, .int (nI c)), (3, .int (nI d))] [] := by
    intro n
    induction n with
    | zero =>
      intro k M' σ' hk hRM hG' hN' hK' hce hno hE
      obtain ⟨ρ', T', hR', h0', hAb', -⟩ := id hRM
      have hq1 := hG'.2.2.2.2.2.2.2.2.1.1
      have h28 : ρ'.1 28 = nI (sK σ').length := hAb'.2.2.2.2.1.1
      have hkf : kf σ' d = [] := by
        unfold kf
        apply List.filter_eq_nil_iff.mpr
        intro x hx
        obtain ⟨j, hj⟩ := List.getElem?_of_mem hx
        have := hno j x (by have := (List.getElem?_eq_some_iff.mp hj).1; omega) hj
        simp [this]
      refine xw_iload dX10_store_62 rfl ?_
      refine xw_aload_n dX10_store_64 rfl rfl ?_
      refine xw_get (ci := 11) (k := 28) (v := .int (ρ'.1 28)) dX10_store_65 hR'.1 rfl inX10 (by decide) tw_819 (Or.inl rfl) rfl ?_
      rw [h28]
      refine xw_icmp_ge (tgt := 104) dX10_store_68 (by decide) (fun _ => ?_) (fun zz => absurd (nI_le (show (sK σ').length ≤ k by omega) (by omega)) zz)
      rw [hkf]
      exact xw_vret rfl dX10_store_104 ⟨rfl, hRM, hE⟩
    | succ n ih =>
      intro k M' σ' hk hRM hG' hN' hK' hce hno hE
      obtain ⟨ρ', T', hR', h0', hAb', -⟩ := id hRM
      have hq1 := hG'.2.2.2.2.2.2.2.2.1.1
      have htr := hG'.2.2.2.2.2.2.2.2.1.2.1
      have h28 : ρ'.1 28 = nI (sK σ').length := hAb'.2.2.2.2.1.1
      have h36 : ρ'.1 36 = nI (sTr σ') := hAb'.2.2.2.2.2.2.2.1
      have hkl : k < (sK σ').length := by omega
      obtain ⟨e, he⟩ : ∃ e, (sK σ')[k]? = some e := ⟨_, List.getElem?_eq_getElem hkl⟩
      obtain ⟨-, -, a3⟩ := hAb'.2.2.2.2.1.2 k e he
      have hmem := List.mem_of_getElem? he
      obtain ⟨g1, g2, ck, cj, g3, g4, g5⟩ := hG'.2.2.2.2.2.2.1 e hmem
      have h8' := hG'.2.2.2.1.2.1 ck g3
      have hA40' := hG'.2.2.2.1.1
      have ink : vp_in (nI k) 302 := vp_in_nI (by omega) (by decide)
      have k31 : k < 2 ^ 31 := by omega
      refine xw_iload dX10_store_62 rfl ?_
      refine xw_aload_n dX10_store_64 rfl rfl ?_
      refine xw_get (ci := 11) (k := 28) (v := .int (ρ'.1 28)) dX10_store_65 hR'.1 rfl inX10 (by decide) tw_819 (Or.inl rfl) rfl ?_
      rw [h28]
      refine xw_icmp_ge (tgt := 104) dX10_store_68 (by decide) (fun zz => absurd zz (nI_ge hkl (by omega))) (fun _ => ?_)
      refine xw_aload_n dX10_store_71 rfl rfl ?_
      refine xw_get (ci := 11) (k := 36) (v := .int (ρ'.1 36)) dX10_store_72 hR'.1 rfl inX10 (by decide) tw_827 (Or.inl rfl) rfl ?_
      rw [h36]
      refine xw_if_ne (tgt := 104) dX10_store_75 (by decide) (fun d1 => ?_) (fun d1 => ?_)
      · have t0 : sTr σ' ≠ 0 := fun zz => d1 (by rw [zz]; rfl)
        have hs : serves d z (kf σ' d).length σ' = σ' := by
          cases (kf σ' d).length with
          | zero => rfl
          | succ q => unfold serves; rw [if_pos t0]
        rw [hs]
        exact xw_vret rfl dX10_store_104 ⟨rfl, hRM, hE⟩
      · have t0 : sTr σ' = 0 := (nI_eq (by omega) (by decide)).mp (show nI (sTr σ') = nI 0 from d1)
        refine xw_aload_n dX10_store_78 rfl rfl ?_
        refine xw_get (ci := 11) (k := 31) (v := .ref (B 31)) dX10_store_79 hR'.1 rfl inX10 (by decide) tw_822 (Or.inl rfl) rfl ?_
        refine xw_iload dX10_store_82 rfl ?_
        refine xw_iald dX10_store_84 (hR'.2.1 31 rfl) ink ?_
        rw [nI_clamp k31]
        rw [a3]
        refine xw_iload_n dX10_store_85 rfl rfl ?_
        refine xw_icmp_ne (tgt := 98) dX10_store_86 (by decide) (fun d2 => ?_) (fun d2 => ?_)
        · have hne : e.2.2 ≠ d := fun zz => d2 (by rw [zz])
          refine xw_iinc (v := (nI k) + 1) (L2 := [(4, .int ((nI k) + 1)), (0, .ref m), (1, .int (nI i)), (2, .int (nI c)), (3, .int (nI d))]) dX10_store_98 rfl rfl (by decide) rfl ?_
          refine xw_goto (tgt := 62) dX10_store_101 (by decide) ?_
          refine xw_pc (pc2 := 62) rfl ?_
          rw [nI_1]
          refine ih (k + 1) M' σ' (by omega) hRM hG' hN' hK' hce (fun j y hj hy => ?_) hE
          by_cases e' : j = k
          · rw [e', he] at hy; cases hy; exact hne
          · exact hno j y (by omega) hy
        · have hed : e.2.2 = d := (nI_eq (by omega) d31).mp d2
          obtain ⟨r1, r2, r3⟩ := kdrop_at (sK σ') k e hno he hed
          have q1 := ct_mserve (G := G) (k := k) (v := z) hRM hG' hN' hK' he (by rw [hed]; exact hce)
          refine xw_aload_n dX10_store_89 rfl rfl ?_
          refine xw_iload dX10_store_90 rfl ?_
          refine xw_callV (q2 := mX10_serve) (n2 := 1) (ci := 11) (Bs := [.int (nI k)]) (rest := []) (q1) dX10_store_92 rfl (o_at hR'.1) rfl rfl tw_1020 tw_1022 tw_37 tw_47 tw_1023 (by decide +kernel) rfl (Nat.le_of_ble_eq_true rfl) (Nat.le_of_ble_eq_true rfl) (Nat.le_of_ble_eq_true rfl) (fun rr M1 hr hle1 => ?_)
          obtain ⟨rfl, hR2, hE2⟩ := hr
          refine xw_goto (tgt := 62) dX10_store_95 (by decide) ?_
          have hsm := give_same (uK σ' ((sK σ').eraseIdx k)) e.1 e.2.1 z
          have sK1 : sK (give (uK σ' ((sK σ').eraseIdx k)) e.1 e.2.1 z) = (sK σ').eraseIdx k := by rw [hsm.2.1, sK_uK]
          have sN1 : sN (give (uK σ' ((sK σ').eraseIdx k)) e.1 e.2.1 z) = sN σ' := by rw [hsm.1.1, sN_uK]
          have sC1 : sCe (give (uK σ' ((sK σ').eraseIdx k)) e.1 e.2.1 z) = sCe σ' := by rw [hsm.1.2.2.2.2.1, sCe_uK]
          have hgv : GV (sA σ') z := (hG'.2.2.2.1.2.2 d z hce).2
          have hG2 : GS (give (uK σ' ((sK σ').eraseIdx k)) e.1 e.2.1 z) := GS.gives _ (by rw [sA_uK]; exact hgv) (by rw [sC_uK]; exact g2) _ (GS.arcs hG'.er (by rw [sN_uK]; exact g1)) hG'.er
          have kl1 : (kf σ' d).length = (kf (give (uK σ' ((sK σ').eraseIdx k)) e.1 e.2.1 z) d).length + 1 := by
            unfold kf
            rw [sK1]
            exact r3.symm
          have hsv : serves d z (kf σ' d).length σ' = serves d z (kf (give (uK σ' ((sK σ').eraseIdx k)) e.1 e.2.1 z) d).length (give (uK σ' ((sK σ').eraseIdx k)) e.1 e.2.1 z) := by
            rw [kl1]
            show (if sTr σ' ≠ 0 then σ' else serves d z _ (serveAt (kf σ' d).head? σ' d z)) = _
            rw [if_neg (by omega), show (kf σ' d).head? = some e from r2]
            show serves d z _ (give (uK σ' (kdrop d (sK σ'))) e.1 e.2.1 z) = _
            rw [r1]
          rw [hsv]
          refine ih k M1 _ ?_ hR2 hG2 (hN'.cg sN1) (hK'.sub sN1 (fun x hx => by rw [sK1] at hx; exact List.mem_of_mem_eraseIdx hx)) (by rw [sC1]; exact hce) (fun j y hj hy => ?_) (hE.tr hE2)
          · rw [sK1, List.length_eraseIdx_of_lt hkl]; omega
          · rw [sK1, List.getElem?_eraseIdx, if_pos hj] at hy
            exact hno j y hj hy
  refine ct_go (by decide +kernel) (Nat.le_of_ble_eq_true rfl) (L := [(0, .ref m), (1, .int (nI i)), (2, .int (nI c)), (3, .int (nI d))]) rfl ?_
  refine xw_aload_n dX10_store_0 rfl rfl ?_
  refine xw_get (ci := 11) (k := 15) (v := .ref (B 15)) dX10_store_1 hR.1 rfl inX10 (by decide) tw_806 (Or.inl rfl) rfl ?_
  refine xw_iload_n dX10_store_4 rfl rfl ?_
  refine xw_iald dX10_store_5 (hR.2.1 15 rfl) ind ?_
  rw [nI_clamp d31]
  rw [c1]
  refine xw_iconst (v := 3) dX10_store_6 (by decide) ?_
  refine xw_icmp_eq (tgt := 16) dX10_store_7 (by decide) (fun d1 => ?_) (fun d1 => ?_)
  · have hn : sCe σ d = none := by
      cases e : sCe σ d with
      | none => rfl
      | some w => rw [e] at d1; exact absurd d1 (hG.2.2.2.1.2.2 d w e).2.ne3
    have hst : stored (some d) σ i c z = serves d z (kf σ d).length (give (cset σ d z) i c z) := by
      show (if (sCe σ d).isSome = true then _ else _) = _
      rw [hn]; rfl
    refine xw_aload_n dX10_store_16 rfl rfl ?_
    refine xw_get (ci := 11) (k := 15) (v := .ref (B 15)) dX10_store_17 hR.1 rfl inX10 (by decide) tw_806 (Or.inl rfl) rfl ?_
    refine xw_iload_n dX10_store_20 rfl rfl ?_
    refine xw_aload_n dX10_store_21 rfl rfl ?_
    refine xw_get (ci := 11) (k := 39) (v := .ref (B 39)) dX10_store_22 hR.1 rfl inX10 (by decide) tw_830 (Or.inl rfl) rfl ?_
    refine xw_iconst (v := 2) dX10_store_25 (by decide) ?_
    refine xw_pc (pc2 := 26) rfl ?_
    refine xw_iald dX10_store_26 (hR.2.1 39 rfl) in2 ?_
    rw [cl2]
    rw [h0.2.1, k2.1]
    refine xw_iast dX10_store_27 (hR.2.1 15 rfl) ind ?_
    rw [nI_clamp d31]
    have hR1 : RW (iput M (B 15) (some (ilen 15, upd (ρ.2.1 15) d z.1))) m B (rI ρ 15 (upd (ρ.2.1 15) d z.1)) := hR.iset rfl
    have hE1 : EF M (iput M (B 15) (some (ilen 15, upd (ρ.2.1 15) d z.1))) m B := (EF.rf M m B).tr (EF.i rfl)
    generalize iput M (B 15) (some (ilen 15, upd (ρ.2.1 15) d z.1)) = M1 at hR1 hE1 ⊢
    have hA1 := (AG.rf [15, 16] ρ).i (k := 15) (f := (upd (ρ.2.1 15) d z.1)) (by decide)
    refine xw_aload_n dX10_store_28 rfl rfl ?_
    refine xw_get (ci := 11) (k := 16) (v := .ref (B 16)) dX10_store_29 hR1.1 rfl inX10 (by decide) tw_807 (Or.inl rfl) rfl ?_
    refine xw_iload_n dX10_store_32 rfl rfl ?_
    refine xw_aload_n dX10_store_33 rfl rfl ?_
    refine xw_get (ci := 11) (k := 40) (v := .ref (B 40)) dX10_store_34 hR1.1 rfl inX10 (by decide) tw_831 (Or.inl rfl) rfl ?_
    refine xw_iconst (v := 2) dX10_store_37 (by decide) ?_
    refine xw_lald dX10_store_38 (hR1.2.2.1 40 rfl) in2 ?_
    rw [cl2]
    rw [rI_3, h0.2.2, k2.2]
    refine xw_last dX10_store_39 (hR1.2.2.1 16 rfl) ind ?_
    rw [nI_clamp d31]
    have hR2 : RW (jput M1 (B 16) (some (jlen 16, vp_updL ((rI ρ 15 (upd (ρ.2.1 15) d z.1)).2.2 16) d z.2))) m B (rJ (rI ρ 15 (upd (ρ.2.1 15) d z.1)) 16 (vp_updL ((rI ρ 15 (upd (ρ.2.1 15) d z.1)).2.2 16) d z.2)) := hR1.jset rfl
    have hE2 : EF M (jput M1 (B 16) (some (jlen 16, vp_updL ((rI ρ 15 (upd (ρ.2.1 15) d z.1)).2.2 16) d z.2))) m B := hE1.tr (EF.j rfl)
    generalize jput M1 (B 16) (some (jlen 16, vp_updL ((rI ρ 15 (upd (ρ.2.1 15) d z.1)).2.2 16) d z.2)) = M2 at hR2 hE2 ⊢
    have hA2 := hA1.j (k := 16) (f := (vp_updL ((rI ρ 15 (upd (ρ.2.1 15) d z.1)).2.2 16) d z.2)) (by decide)
    obtain ⟨ρ2, hρ2⟩ : ∃ ρ2, ρ2 = rJ (rI ρ 15 (upd (ρ.2.1 15) d z.1)) 16 (vp_updL ((rI ρ 15 (upd (ρ.2.1 15) d z.1)).2.2 16) d z.2) := ⟨_, rfl⟩
    rw [← hρ2] at hR2 hA2
    have g2 : ρ2.2.1 15 = upd (ρ.2.1 15) d z.1 ∧ ρ2.2.2 16 = vp_updL (ρ.2.2 16) d z.2 := by rw [hρ2]; simp [rS_1, rS_2, rS_3, rI_1, rI_2, rI_3, rJ_1, rJ_2, rJ_3]
    clear hρ2 hR1 hA1
    have hRM : RM M2 m B (cset σ d z) th K V := by
      refine ⟨ρ2, T, hR2, ⟨(hA2 0 (by decide)).1.trans h0.1, (hA2 39 (by decide)).2.1.trans h0.2.1, (hA2 40 (by decide)).2.2.trans h0.2.2⟩, ⟨hNd.ag hA2 (by decide), hC.ag hA2 (by decide), ⟨(hA2 13 (by decide)).1.trans hAr.1, fun a ha => ?_, fun a ha => ?_⟩, hRd.ag hA2 (by decide), hK.ag hA2 (by decide), hRs.ag hA2 (by decide), HSc.ag (σ := σ) ⟨hS1, hS2, hS3, hS4⟩ hA2 (by decide)⟩, hT.ag hA2 (by decide), hW⟩
      · rw [(hA2 14 (by decide)).2.1]; exact hAr.2.1 a ha
      · show ρ2.2.1 15 a = ((if a = d then some z else sCe σ a).getD (3, 0)).1 ∧ ρ2.2.2 16 a = ((if a = d then some z else sCe σ a).getD (3, 0)).2
        rw [g2.1, g2.2]
        unfold upd vp_updL
        by_cases e : a = d
        · rw [if_pos e, if_pos e, if_pos e]; exact ⟨rfl, rfl⟩
        · rw [if_neg e, if_neg e, if_neg e]; exact hAr.2.2 a ha
    have hG2 := hG.ce hd8 hz
    refine xw_aload_n dX10_store_40 rfl rfl ?_
    refine xw_iload_n dX10_store_41 rfl rfl ?_
    refine xw_iconst (v := 0) dX10_store_42 (by decide) ?_
    refine xw_iload_n dX10_store_43 rfl rfl ?_
    refine xw_aload_n dX10_store_44 rfl rfl ?_
    refine xw_get (ci := 11) (k := 15) (v := .ref (B 15)) dX10_store_45 hR2.1 rfl inX10 (by decide) tw_806 (Or.inl rfl) rfl ?_
    refine xw_iload_n dX10_store_48 rfl rfl ?_
    refine xw_pc (pc2 := 49) rfl ?_
    refine xw_iald dX10_store_49 (hR2.2.1 15 rfl) ind ?_
    rw [nI_clamp d31]
    rw [show ρ2.2.1 15 d = z.1 by rw [g2.1]; exact pk_us]
    refine xw_aload_n dX10_store_50 rfl rfl ?_
    refine xw_get (ci := 11) (k := 16) (v := .ref (B 16)) dX10_store_51 hR2.1 rfl inX10 (by decide) tw_807 (Or.inl rfl) rfl ?_
    refine xw_iload_n dX10_store_54 rfl rfl ?_
    refine xw_lald dX10_store_55 (hR2.2.2.1 16 rfl) ind ?_
    rw [nI_clamp d31]
    rw [show ρ2.2.2 16 d = z.2 by rw [g2.2]; unfold vp_updL; rw [if_pos rfl]]
    have q1 := ct_msend (G := G) (i := i) (s := 0) (c := c) (v := z) hRM hG2 hi hc (by decide) hz
    refine xw_callV (q2 := mX10_send) (n2 := 5) (ci := 11) (Bs := [.int (nI i), .int (nI 0), .int (nI c), .int z.1, .long z.2]) (rest := []) (q1) dX10_store_56 rfl (o_at hR2.1) rfl rfl tw_969 tw_971 tw_25 tw_47 tw_972 (by decide +kernel) rfl (Nat.le_of_ble_eq_true rfl) (Nat.le_of_ble_eq_true rfl) (Nat.le_of_ble_eq_true rfl) (fun rr M1 hr hle1 => ?_)
    obtain ⟨rfl, hR3, hE3⟩ := hr
    rw [send_0 (σ := cset σ d z) (hN.cg rfl) hi h7] at hR3
    have hsm := give_same (cset σ d z) i c z
    have hkf : kf (give (cset σ d z) i c z) d = kf σ d := (kf_same (σ := cset σ d z) hsm.2.1 d).trans rfl
    have hG3 : GS (give (cset σ d z) i c z) := GS.gives (σ := cset σ d z) _ hz hc _ (GS.arcs hG2 hi) hG2
    rw [hst, ← hkf]
    refine xw_iconst (v := 0) dX10_store_59 (by decide) ?_
    refine xw_istore (L2 := [(4, .int 0), (0, .ref m), (1, .int (nI i)), (2, .int (nI c)), (3, .int (nI d))]) dX10_store_60 (by decide) rfl ?_
    exact xw_pc rfl (loop (sK (give (cset σ d z) i c z)).length 0 M1 _ (by omega) hR3 hG3 (hN.cg hsm.1.1) (hK7.sub hsm.1.1 (fun x hx => by rw [hsm.2.1] at hx; exact hx)) (by rw [hsm.1.2.2.2.2.1]; exact if_pos rfl) (fun j y hj => absurd hj (Nat.not_lt_zero _)) (hE2.tr hE3))
  · have hs : ∃ w, sCe σ d = some w := by
      cases e : sCe σ d with
      | none => rw [e] at d1; exact absurd rfl d1
      | some w => exact ⟨w, rfl⟩
    obtain ⟨w, hw⟩ := hs
    have hst : stored (some d) σ i c z = uTr σ 3 := by
      show (if (sCe σ d).isSome = true then _ else _) = _
      rw [hw]; rfl
    rw [hst]
    refine xw_aload_n dX10_store_10 rfl rfl ?_
    refine xw_iconst (v := 3) dX10_store_11 (by decide) ?_
    refine xw_put (ci := 11) (k := 36) tyX10 dX10_store_12 hR.1 rfl inX10 tyX10_ok nmX10 (by decide) tw_827 (Or.inl rfl) rfl rfl rfl rfl (Nat.le_of_ble_eq_true rfl) ?_
    dsimp only [flM, List.set]
    have hR1 : RW (oput M 11 m (some [.int (ρ.1 0), .int (ρ.1 1), .ref (B 2), .ref (B 3), .ref (B 4), .ref (B 5), .ref (B 6), .ref (B 7), .int (ρ.1 8), .int (ρ.1 9), .ref (B 10), .ref (B 11), .ref (B 12), .int (ρ.1 13), .ref (B 14), .ref (B 15), .ref (B 16), .int (ρ.1 17), .ref (B 18), .ref (B 19), .ref (B 20), .ref (B 21), .ref (B 22), .int (ρ.1 23), .ref (B 24), .ref (B 25), .ref (B 26), .ref (B 27), .int (ρ.1 28), .ref (B 29), .ref (B 30), .ref (B 31), .int (ρ.1 32), .ref (B 33), .ref (B 34), .ref (B 35), .int (3), .int (ρ.1 37), .int (ρ.1 38), .ref (B 39), .ref (B 40)])) m B (rS ρ 36 3) := hR.sset (k := 36) (v := 3)
    have hE1 : EF M (oput M 11 m (some [.int (ρ.1 0), .int (ρ.1 1), .ref (B 2), .ref (B 3), .ref (B 4), .ref (B 5), .ref (B 6), .ref (B 7), .int (ρ.1 8), .int (ρ.1 9), .ref (B 10), .ref (B 11), .ref (B 12), .int (ρ.1 13), .ref (B 14), .ref (B 15), .ref (B 16), .int (ρ.1 17), .ref (B 18), .ref (B 19), .ref (B 20), .ref (B 21), .ref (B 22), .int (ρ.1 23), .ref (B 24), .ref (B 25), .ref (B 26), .ref (B 27), .int (ρ.1 28), .ref (B 29), .ref (B 30), .ref (B 31), .int (ρ.1 32), .ref (B 33), .ref (B 34), .ref (B 35), .int (3), .int (ρ.1 37), .int (ρ.1 38), .ref (B 39), .ref (B 40)])) m B := (EF.rf M m B).tr EF.o
    generalize oput M 11 m (some [.int (ρ.1 0), .int (ρ.1 1), .ref (B 2), .ref (B 3), .ref (B 4), .ref (B 5), .ref (B 6), .ref (B 7), .int (ρ.1 8), .int (ρ.1 9), .ref (B 10), .ref (B 11), .ref (B 12), .int (ρ.1 13), .ref (B 14), .ref (B 15), .ref (B 16), .int (ρ.1 17), .ref (B 18), .ref (B 19), .ref (B 20), .ref (B 21), .ref (B 22), .int (ρ.1 23), .ref (B 24), .ref (B 25), .ref (B 26), .ref (B 27), .int (ρ.1 28), .ref (B 29), .ref (B 30), .ref (B 31), .int (ρ.1 32), .ref (B 33), .ref (B 34), .ref (B 35), .int (3), .int (ρ.1 37), .int (ρ.1 38), .ref (B 39), .ref (B 40)]) = M1 at hR1 hE1 ⊢
    have hA1 := (AG.rf [36] ρ).s (k := 36) (v := 3) (by decide)
    refine xw_vret rfl dX10_store_15 ⟨rfl, ⟨rS ρ 36 3, T, hR1, h0, ⟨?_, ?_, ?_, ?_, ?_, ?_, ?_⟩, hT.ag hA1 (by decide), hW.1, ?_⟩, hE1⟩
    · rw [sN_uTr]; exact hNd.ag hA1 (by decide)
    · rw [sC_uTr]; exact hC.ag hA1 (by decide)
    · rw [sA_uTr, sLe_uTr, sCe_uTr]; exact hAr.ag hA1 (by decide)
    · rw [sR_uTr]; exact hRd.ag hA1 (by decide)
    · rw [sK_uTr]; exact hK.ag hA1 (by decide)
    · rw [sRs_uTr]; exact hRs.ag hA1 (by decide)
    · unfold HSc
      rw [sB_uTr, sTr_uTr, sW_uTr, sAl_uTr, (hA1 8 (by decide)).1, (hA1 37 (by decide)).1, (hA1 38 (by decide)).1]
      exact ⟨hS1, rfl, hS3, hS4⟩
    · intro a b c' d; rw [sT_uTr]; exact hW.2 a b c' d
end ATCELL
