/-! THE REFERENCE: serve, store -/
/-- the kept ones' arrays from k to j one place down -/
def rP (ρ : hr_S) (k j : Nat) : hr_S := rI (rI (rI ρ 29 (sk 1 (ρ.2.1 29) k j)) 30 (sk 1 (ρ.2.1 30) k j)) 31 (sk 1 (ρ.2.1 31) k j)
theorem rP_ag (ρ : hr_S) (k j : Nat) : AG [29, 30, 31] ρ (rP ρ k j) := by
  unfold rP
  exact (((AG.rf _ ρ).i (by decide)).i (by decide)).i (by decide)
theorem rP_v (ρ : hr_S) (k j : Nat) : (rP ρ k j).2.1 29 = sk 1 (ρ.2.1 29) k j ∧ (rP ρ k j).2.1 30 = sk 1 (ρ.2.1 30) k j ∧ (rP ρ k j).2.1 31 = sk 1 (ρ.2.1 31) k j := by
  unfold rP
  simp [rS_1, rS_2, rS_3, rI_1, rI_2, rI_3, rJ_1, rJ_2, rJ_3]
theorem rP_n (ρ : hr_S) (k j n : Nat) (h : n ≠ 29 ∧ n ≠ 30 ∧ n ≠ 31) : (rP ρ k j).2.1 n = ρ.2.1 n := by
  unfold rP
  simp [rS_1, rS_2, rS_3, rI_1, rI_2, rI_3, rJ_1, rJ_2, rJ_3, h.1, h.2.1, h.2.2]
theorem hr_ext3 {ρ ρ' : hr_S} (h29 : ρ.2.1 29 = ρ'.2.1 29) (h30 : ρ.2.1 30 = ρ'.2.1 30) (h31 : ρ.2.1 31 = ρ'.2.1 31) (h1 : ρ.1 = ρ'.1) (h2 : ∀ k, k ≠ 29 → k ≠ 30 → k ≠ 31 → ρ.2.1 k = ρ'.2.1 k) (h3 : ρ.2.2 = ρ'.2.2) : ρ = ρ' := by
  refine hr_ext (fun k => by rw [h1]) (fun k => ?_) (fun k => by rw [h3])
  by_cases z1 : k = 29
  · rw [z1, h29]
  · by_cases z2 : k = 30
    · rw [z2, h30]
    · by_cases z3 : k = 31
      · rw [z3, h31]
      · exact h2 k z1 z2 z3
theorem rP_0 (ρ : hr_S) (k : Nat) : rP ρ k k = ρ := by
  obtain ⟨a1, a2, a3⟩ := rP_v ρ k k
  rw [sk_0] at a1 a2 a3
  exact hr_ext3 a1 a2 a3 rfl (fun n z1 z2 z3 => rP_n ρ k k n ⟨z1, z2, z3⟩) rfl
theorem rP_s (ρ R : hr_S) {k j : Nat} (h : k ≤ j) (hR : R = rP ρ k j) : rI (rI (rI R 29 (upd (R.2.1 29) j (R.2.1 29 (j + 1)))) 30 (upd (R.2.1 30) j (R.2.1 30 (j + 1)))) 31 (upd (R.2.1 31) j (R.2.1 31 (j + 1))) = rP ρ k (j + 1) := by
  obtain ⟨a1, a2, a3⟩ := rP_v ρ k j
  obtain ⟨b1, b2, b3⟩ := rP_v ρ k (j + 1)
  rw [hR, a1, a2, a3, sk_s _ _ h, sk_s _ _ h, sk_s _ _ h]
  refine hr_ext3 ?_ ?_ ?_ rfl (fun n z1 z2 z3 => ?_) rfl
  · rw [b1]; simp [rS_1, rS_2, rS_3, rI_1, rI_2, rI_3, rJ_1, rJ_2, rJ_3]
  · rw [b2]; simp [rS_1, rS_2, rS_3, rI_1, rI_2, rI_3, rJ_1, rJ_2, rJ_3]
  · rw [b3]; simp [rS_1, rS_2, rS_3, rI_1, rI_2, rI_3, rJ_1, rJ_2, rJ_3]
  · rw [rP_n ρ k (j + 1) n ⟨z1, z2, z3⟩]
    simp only [rS_1, rS_2, rS_3, rI_1, rI_2, rI_3, rJ_1, rJ_2, rJ_3, if_neg z1, if_neg z2, if_neg z3]
    exact rP_n ρ k j n ⟨z1, z2, z3⟩
/-- those kept are no SWITCHES -/
def GK (σ : hs_S) : Prop := ∀ x : N3, x ∈ sK σ → (nd σ x.1).1 ≠ 7
theorem kdrop_at {d : Nat} : ∀ (l : List N3) (k : Nat) (x : N3), (∀ j y, j < k → l[j]? = some y → y.2.2 ≠ d) → l[k]? = some x → x.2.2 = d → kdrop d l = l.eraseIdx k ∧ (l.filter (fun x => x.2.2 == d)).head? = some x ∧ ((l.eraseIdx k).filter (fun x => x.2.2 == d)).length + 1 = (l.filter (fun x => x.2.2 == d)).length
  | [], _, _, _, h, _ => by cases h
  | y :: ys, 0, x, _, h, hx => by
    cases h
    unfold kdrop
    rw [if_pos (by simp [hx]), List.filter_cons_of_pos (by simp [hx])]
    exact ⟨rfl, rfl, rfl⟩
  | y :: ys, k + 1, x, hb, h, hx => by
    have hy : y.2.2 ≠ d := hb 0 y (by omega) rfl
    obtain ⟨h1, h2, h3⟩ := kdrop_at ys k x (fun j z hj hz => hb (j + 1) z (by omega) hz) h hx
    unfold kdrop
    rw [if_neg (by simp [hy]), List.filter_cons_of_neg (by simp [hy])]
    refine ⟨by rw [h1]; rfl, h2, ?_⟩
    show ((y :: ys.eraseIdx k).filter _).length + 1 = _
    rw [List.filter_cons_of_neg (by simp [hy])]
    exact h3
section SERVE
variable {G : hx_G} {M M1 : hx_S} {m : Nat} {B : Nat → Nat} {ρ ρ' : hr_S} {σ σ' : hs_S} {T : List TK} {i c p s na k d : Nat} {v x y z : V2} {th : Int32} {K : Nat → Int32} {V : Nat → Int64}
theorem GS.er (h : GS σ) : GS (uK σ ((sK σ).eraseIdx k)) := by
  obtain ⟨k1, k2, k3, k4, k5, k6, k7, k8, k9, k10⟩ := h
  refine ⟨k1, k2, k3, k4, k5, k6, fun x hx => k7 x (List.mem_of_mem_eraseIdx hx), k8, ⟨?_, k9.2⟩, k10⟩
  show sNt σ + (sR σ).length + ((sK σ).eraseIdx k).length ≤ 300
  have := List.length_eraseIdx_le (sK σ) k
  omega
theorem ct_mserve {e : N3} (h : RM M m B σ th K V) (hG : GS σ) (hN : GN σ) (hK7 : GK σ) (he : (sK σ)[k]? = some e) (hv : sCe σ e.2.2 = some v) : CT G 4 103 mX10_serve [.ref m, .int (nI k)] M (fun r M1 => r = none ∧ RM M1 m B (give (uK σ ((sK σ).eraseIdx k)) e.1 e.2.1 v) th K V ∧ EF M M1 m B) := by
  obtain ⟨P, hP⟩ : ∃ P : Option Value → hx_S → Prop, P = (fun r M1 => r = none ∧ RM M1 m B (give (uK σ ((sK σ).eraseIdx k)) e.1 e.2.1 v) th K V ∧ EF M M1 m B) := ⟨_, rfl⟩
  rw [← hP]
  obtain ⟨ρ, T, hR, h0, hAb, hT, hW⟩ := id h
  obtain ⟨hNd, hC, hAr, hRd, hK, hRs, hS1, hS2, hS3, hS4⟩ := id hAb
  have hmem := List.mem_of_getElem? he
  obtain ⟨g1, g2, ck, cj, g3, g4, g5⟩ := hG.2.2.2.2.2.2.1 e hmem
  have h8 := hG.2.2.2.1.2.1 ck g3
  have hA40 := hG.2.2.2.1.1
  have hq1 := hG.2.2.2.2.2.2.2.2.1.1
  have hkl := (List.getElem?_eq_some_iff.mp he).1
  obtain ⟨a1, a2, a3⟩ := hK.2 k e he
  obtain ⟨L, hL⟩ : ∃ L, L + 1 = (sK σ).length := ⟨(sK σ).length - 1, by omega⟩
  have hcell : e.2.2 < 8 * sA σ := by omega
  obtain ⟨c1, c2⟩ := hAr.2.2 e.2.2 hcell
  rw [hv] at c1 c2
  have hgv := (hG.2.2.2.1.2.2 _ v hv).2
  have ink : vp_in (nI k) 302 := vp_in_nI (by omega) (by decide)
  have k31 : k < 2 ^ 31 := by omega
  have fin : ∀ M2 ρ2, RW M2 m B ρ2 → EF M M2 m B → AG [28, 29, 30, 31] ρ ρ2 → HKp ρ2 ((sK σ).eraseIdx k) → XW G 4 103 mX10_serve [.ref m, .int (nI k)] M P M2 98 [(5, .int (nI L)), (4, .int (nI e.2.2)), (3, .int (nI e.2.1)), (2, .int (nI e.1)), (0, .ref m), (1, .int (nI k))] [] := by
    intro M2 ρ2 hR2 hE2 hA2 hK2
    have hRM : RM M2 m B (uK σ ((sK σ).eraseIdx k)) th K V := by
      refine ⟨ρ2, T, hR2, ⟨(hA2 0 (by decide)).1.trans h0.1, (hA2 39 (by decide)).2.1.trans h0.2.1, (hA2 40 (by decide)).2.2.trans h0.2.2⟩, ⟨?_, ?_, ?_, ?_, ?_, ?_, ?_⟩, hT.ag hA2 (by decide), hW.1, ?_⟩
      · rw [sN_uK]; exact hNd.ag hA2 (by decide)
      · rw [sC_uK]; exact hC.ag hA2 (by decide)
      · rw [sA_uK, sLe_uK, sCe_uK]; exact hAr.ag hA2 (by decide)
      · rw [sR_uK]; exact hRd.ag hA2 (by decide)
      · rw [sK_uK]; exact hK2
      · rw [sRs_uK]; exact hRs.ag hA2 (by decide)
      · have q := HSc.ag (σ := σ) ⟨hS1, hS2, hS3, hS4⟩ hA2 (by decide)
        unfold HSc at q ⊢
        rw [sB_uK, sTr_uK, sW_uK, sAl_uK]; exact q
      · intro a b c' d; rw [sT_uK]; exact hW.2 a b c' d
    have inc : vp_in (nI e.2.2) 320 := vp_in_nI (by omega) (by decide)
    have c31 : e.2.2 < 2 ^ 31 := by omega
    refine xw_aload_n dX10_serve_98 rfl rfl ?_
    refine xw_iload_n dX10_serve_99 rfl rfl ?_
    refine xw_iconst (v := 0) dX10_serve_100 (by decide) ?_
    refine xw_iload_n dX10_serve_101 rfl rfl ?_
    refine xw_aload_n dX10_serve_102 rfl rfl ?_
    refine xw_get (ci := 11) (k := 15) (v := .ref (B 15)) dX10_serve_103 hR2.1 rfl inX10 (by decide) tw_806 (Or.inl rfl) rfl ?_
    refine xw_iload dX10_serve_106 rfl ?_
    refine xw_iald dX10_serve_108 (hR2.2.1 15 rfl) inc ?_
    rw [nI_clamp c31]
    rw [(hA2 15 (by decide)).2.1, c1]
    refine xw_aload_n dX10_serve_109 rfl rfl ?_
    refine xw_get (ci := 11) (k := 16) (v := .ref (B 16)) dX10_serve_110 hR2.1 rfl inX10 (by decide) tw_807 (Or.inl rfl) rfl ?_
    refine xw_iload dX10_serve_113 rfl ?_
    refine xw_lald dX10_serve_115 (hR2.2.2.1 16 rfl) inc ?_
    rw [nI_clamp c31]
    rw [(hA2 16 (by decide)).2.2, c2]
    have q1 := ct_msend (G := G) (i := e.1) (s := 0) (c := e.2.1) (v := v) hRM hG.er (by rw [sN_uK]; exact g1) (by rw [sC_uK]; exact g2) (by decide) (by rw [sA_uK]; exact hgv)
    refine xw_callV (q2 := mX10_send) (n2 := 5) (ci := 11) (Bs := [.int (nI e.1), .int (nI 0), .int (nI e.2.1), .int v.1, .long v.2]) (rest := []) (q1) dX10_serve_116 rfl (o_at hR2.1) rfl rfl tw_969 tw_971 tw_25 tw_47 tw_972 (by decide +kernel) rfl (Nat.le_of_ble_eq_true rfl) (Nat.le_of_ble_eq_true rfl) (Nat.le_of_ble_eq_true rfl) (fun rr M1 hr hle1 => ?_)
    obtain ⟨rfl, hR3, hE3⟩ := hr
    rw [send_0 (hN.cg (sN_uK _ _)) (by rw [sN_uK]; exact g1) (by rw [nd_cg (sN_uK σ _)]; exact hK7 e hmem)] at hR3
    rw [hP]
    exact xw_vret rfl dX10_serve_119 ⟨rfl, hR3, hE2.tr hE3⟩
  have shift : ∀ (ρs : hr_S), ρs.1 28 = nI L → (∀ M2, RW M2 m B (rP ρs k L) → EF M M2 m B → XW G 4 103 mX10_serve [.ref m, .int (nI k)] M P M2 98 [(5, .int (nI L)), (4, .int (nI e.2.2)), (3, .int (nI e.2.1)), (2, .int (nI e.1)), (0, .ref m), (1, .int (nI k))] []) → ∀ (q j : Nat) (M' : hx_S), k ≤ j → j + q = L → RW M' m B (rP ρs k j) → EF M M' m B → XW G 4 103 mX10_serve [.ref m, .int (nI k)] M P M' 35 [(5, .int (nI j)), (4, .int (nI e.2.2)), (3, .int (nI e.2.1)), (2, .int (nI e.1)), (0, .ref m), (1, .int (nI k))] [] := by
    intro ρs h28 fin q
    induction q with
    | zero =>
      intro j M' hkj hj hR' hE'
      obtain rfl : j = L := by omega
      have h28' : (rP ρs k j).1 28 = nI j := (rP_ag ρs k j 28 (by decide)).1.trans h28
      refine xw_iload dX10_serve_35 rfl ?_
      refine xw_aload_n dX10_serve_37 rfl rfl ?_
      refine xw_get (ci := 11) (k := 28) (v := .int ((rP ρs k j).1 28)) dX10_serve_38 hR'.1 rfl inX10 (by decide) tw_819 (Or.inl rfl) rfl ?_
      refine xw_pc (pc2 := 41) rfl ?_
      rw [h28']
      refine xw_icmp_ge (tgt := 98) dX10_serve_41 (by decide) (fun _ => ?_) (fun zz => absurd (nI_le (Nat.le_refl j) (by omega)) zz)
      exact xw_pc rfl (fin M' hR' hE')
    | succ q ih =>
      intro j M' hkj hj hR' hE'
      obtain ⟨R, hRe⟩ : ∃ R, R = rP ρs k j := ⟨_, rfl⟩
      have h28' : R.1 28 = nI L := by rw [hRe]; exact (rP_ag ρs k j 28 (by decide)).1.trans h28
      rw [← hRe] at hR'
      have hin : vp_in (nI j) 302 := vp_in_nI (by omega) (by decide)
      have hin1 : vp_in (nI (j + 1)) 302 := vp_in_nI (by omega) (by decide)
      have j0 : j < 2 ^ 31 := by omega
      have j1 : j + 1 < 2 ^ 31 := by omega
      refine xw_iload dX10_serve_35 rfl ?_
      refine xw_aload_n dX10_serve_37 rfl rfl ?_
      refine xw_get (ci := 11) (k := 28) (v := .int (R.1 28)) dX10_serve_38 hR'.1 rfl inX10 (by decide) tw_819 (Or.inl rfl) rfl ?_
      rw [h28']
      refine xw_icmp_ge (tgt := 98) dX10_serve_41 (by decide) (fun zz => absurd zz (nI_ge (show j < L by omega) (by omega))) (fun _ => ?_)
      refine xw_aload_n dX10_serve_44 rfl rfl ?_
      refine xw_get (ci := 11) (k := 29) (v := .ref (B 29)) dX10_serve_45 hR'.1 rfl inX10 (by decide) tw_820 (Or.inl rfl) rfl ?_
      refine xw_iload dX10_serve_48 rfl ?_
      refine xw_aload_n dX10_serve_50 rfl rfl ?_
      refine xw_get (ci := 11) (k := 29) (v := .ref (B 29)) dX10_serve_51 hR'.1 rfl inX10 (by decide) tw_820 (Or.inl rfl) rfl ?_
      refine xw_iload dX10_serve_54 rfl ?_
      refine xw_iconst (v := 1) dX10_serve_56 (by decide) ?_
      refine xw_iadd dX10_serve_57 ?_
      rw [nI_1]
      refine xw_iald dX10_serve_58 (hR'.2.1 29 rfl) hin1 ?_
      rw [nI_clamp j1]
      refine xw_iast dX10_serve_59 (hR'.2.1 29 rfl) hin ?_
      rw [nI_clamp j0]
      have hR1 : RW (iput M' (B 29) (some (ilen 29, upd (R.2.1 29) j (R.2.1 29 (j + 1))))) m B (rI R 29 (upd (R.2.1 29) j (R.2.1 29 (j + 1)))) := hR'.iset rfl
      have hE1 : EF M (iput M' (B 29) (some (ilen 29, upd (R.2.1 29) j (R.2.1 29 (j + 1))))) m B := hE'.tr (EF.i rfl)
      generalize iput M' (B 29) (some (ilen 29, upd (R.2.1 29) j (R.2.1 29 (j + 1)))) = M1 at hR1 hE1 ⊢
      refine xw_aload_n dX10_serve_60 rfl rfl ?_
      refine xw_get (ci := 11) (k := 30) (v := .ref (B 30)) dX10_serve_61 hR1.1 rfl inX10 (by decide) tw_821 (Or.inl rfl) rfl ?_
      refine xw_iload dX10_serve_64 rfl ?_
      refine xw_aload_n dX10_serve_66 rfl rfl ?_
      refine xw_get (ci := 11) (k := 30) (v := .ref (B 30)) dX10_serve_67 hR1.1 rfl inX10 (by decide) tw_821 (Or.inl rfl) rfl ?_
      refine xw_iload dX10_serve_70 rfl ?_
      refine xw_iconst (v := 1) dX10_serve_72 (by decide) ?_
      refine xw_iadd dX10_serve_73 ?_
      refine xw_pc (pc2 := 74) rfl ?_
      rw [nI_1]
      refine xw_iald dX10_serve_74 (hR1.2.1 30 rfl) hin1 ?_
      rw [nI_clamp j1]
      refine xw_iast dX10_serve_75 (hR1.2.1 30 rfl) hin ?_
      rw [nI_clamp j0]
      have hR2 : RW (iput M1 (B 30) (some (ilen 30, upd ((rI R 29 (upd (R.2.1 29) j (R.2.1 29 (j + 1)))).2.1 30) j ((rI R 29 (upd (R.2.1 29) j (R.2.1 29 (j + 1)))).2.1 30 (j + 1))))) m B (rI (rI R 29 (upd (R.2.1 29) j (R.2.1 29 (j + 1)))) 30 (upd ((rI R 29 (upd (R.2.1 29) j (R.2.1 29 (j + 1)))).2.1 30) j ((rI R 29 (upd (R.2.1 29) j (R.2.1 29 (j + 1)))).2.1 30 (j + 1)))) := hR1.iset rfl
      have hE2 : EF M (iput M1 (B 30) (some (ilen 30, upd ((rI R 29 (upd (R.2.1 29) j (R.2.1 29 (j + 1)))).2.1 30) j ((rI R 29 (upd (R.2.1 29) j (R.2.1 29 (j + 1)))).2.1 30 (j + 1))))) m B := hE1.tr (EF.i rfl)
      generalize iput M1 (B 30) (some (ilen 30, upd ((rI R 29 (upd (R.2.1 29) j (R.2.1 29 (j + 1)))).2.1 30) j ((rI R 29 (upd (R.2.1 29) j (R.2.1 29 (j + 1)))).2.1 30 (j + 1)))) = M2 at hR2 hE2 ⊢
      refine xw_aload_n dX10_serve_76 rfl rfl ?_
      refine xw_get (ci := 11) (k := 31) (v := .ref (B 31)) dX10_serve_77 hR2.1 rfl inX10 (by decide) tw_822 (Or.inl rfl) rfl ?_
      refine xw_iload dX10_serve_80 rfl ?_
      refine xw_aload_n dX10_serve_82 rfl rfl ?_
      refine xw_get (ci := 11) (k := 31) (v := .ref (B 31)) dX10_serve_83 hR2.1 rfl inX10 (by decide) tw_822 (Or.inl rfl) rfl ?_
      refine xw_iload dX10_serve_86 rfl ?_
      refine xw_iconst (v := 1) dX10_serve_88 (by decide) ?_
      refine xw_iadd dX10_serve_89 ?_
      rw [nI_1]
      refine xw_iald dX10_serve_90 (hR2.2.1 31 rfl) hin1 ?_
      rw [nI_clamp j1]
      refine xw_iast dX10_serve_91 (hR2.2.1 31 rfl) hin ?_
      rw [nI_clamp j0]
      have hR3 : RW (iput M2 (B 31) (some (ilen 31, upd ((rI (rI R 29 (upd (R.2.1 29) j (R.2.1 29 (j + 1)))) 30 (upd ((rI R 29 (upd (R.2.1 29) j (R.2.1 29 (j + 1)))).2.1 30) j ((rI R 29 (upd (R.2.1 29) j (R.2.1 29 (j + 1)))).2.1 30 (j + 1)))).2.1 31) j ((rI (rI R 29 (upd (R.2.1 29) j (R.2.1 29 (j + 1)))) 30 (upd ((rI R 29 (upd (R.2.1 29) j (R.2.1 29 (j + 1)))).2.1 30) j ((rI R 29 (upd (R.2.1 29) j (R.2.1 29 (j + 1)))).2.1 30 (j + 1)))).2.1 31 (j + 1))))) m B (rI (rI (rI R 29 (upd (R.2.1 29) j (R.2.1 29 (j + 1)))) 30 (upd ((rI R 29 (upd (R.2.1 29) j (R.2.1 29 (j + 1)))).2.1 30) j ((rI R 29 (upd (R.2.1 29) j (R.2.1 29 (j + 1)))).2.1 30 (j + 1)))) 31 (upd ((rI (rI R 29 (upd (R.2.1 29) j (R.2.1 29 (j + 1)))) 30 (upd ((rI R 29 (upd (R.2.1 29) j (R.2.1 29 (j + 1)))).2.1 30) j ((rI R 29 (upd (R.2.1 29) j (R.2.1 29 (j + 1)))).2.1 30 (j + 1)))).2.1 31) j ((rI (rI R 29 (upd (R.2.1 29) j (R.2.1 29 (j + 1)))) 30 (upd ((rI R 29 (upd (R.2.1 29) j (R.2.1 29 (j + 1)))).2.1 30) j ((rI R 29 (upd (R.2.1 29) j (R.2.1 29 (j + 1)))).2.1 30 (j + 1)))).2.1 31 (j + 1)))) := hR2.iset rfl
      have hE3 : EF M (iput M2 (B 31) (some (ilen 31, upd ((rI (rI R 29 (upd (R.2.1 29) j (R.2.1 29 (j + 1)))) 30 (upd ((rI R 29 (upd (R.2.1 29) j (R.2.1 29 (j + 1)))).2.1 30) j ((rI R 29 (upd (R.2.1 29) j (R.2.1 29 (j + 1)))).2.1 30 (j + 1)))).2.1 31) j ((rI (rI R 29 (upd (R.2.1 29) j (R.2.1 29 (j + 1)))) 30 (upd ((rI R 29 (upd (R.2.1 29) j (R.2.1 29 (j + 1)))).2.1 30) j ((rI R 29 (upd (R.2.1 29) j (R.2.1 29 (j + 1)))).2.1 30 (j + 1)))).2.1 31 (j + 1))))) m B := hE2.tr (EF.i rfl)
      generalize iput M2 (B 31) (some (ilen 31, upd ((rI (rI R 29 (upd (R.2.1 29) j (R.2.1 29 (j + 1)))) 30 (upd ((rI R 29 (upd (R.2.1 29) j (R.2.1 29 (j + 1)))).2.1 30) j ((rI R 29 (upd (R.2.1 29) j (R.2.1 29 (j + 1)))).2.1 30 (j + 1)))).2.1 31) j ((rI (rI R 29 (upd (R.2.1 29) j (R.2.1 29 (j + 1)))) 30 (upd ((rI R 29 (upd (R.2.1 29) j (R.2.1 29 (j + 1)))).2.1 30) j ((rI R 29 (upd (R.2.1 29) j (R.2.1 29 (j + 1)))).2.1 30 (j + 1)))).2.1 31 (j + 1)))) = M3 at hR3 hE3 ⊢
      refine xw_iinc (v := (nI j) + 1) (L2 := [(5, .int ((nI j) + 1)), (4, .int (nI e.2.2)), (3, .int (nI e.2.1)), (2, .int (nI e.1)), (0, .ref m), (1, .int (nI k))]) dX10_serve_92 rfl rfl (by decide) rfl ?_
      refine xw_goto (tgt := 35) dX10_serve_95 (by decide) ?_
      rw [nI_1]
      have hfin : RW M3 m B (rP ρs k (j + 1)) := by
        have e' := rP_s ρs R hkj hRe
        simp only [rS_1, rS_2, rS_3, rI_1, rI_2, rI_3, rJ_1, rJ_2, rJ_3] at hR3
        simp at hR3
        rw [← e']
        exact hR3
      exact ih (j + 1) M3 (by omega) (by omega) hfin hE3
  refine ct_go (by decide +kernel) (Nat.le_of_ble_eq_true rfl) (L := [(0, .ref m), (1, .int (nI k))]) rfl ?_
  refine xw_aload_n dX10_serve_0 rfl rfl ?_
  refine xw_get (ci := 11) (k := 29) (v := .ref (B 29)) dX10_serve_1 hR.1 rfl inX10 (by decide) tw_820 (Or.inl rfl) rfl ?_
  refine xw_iload_n dX10_serve_4 rfl rfl ?_
  refine xw_pc (pc2 := 5) rfl ?_
  refine xw_iald dX10_serve_5 (hR.2.1 29 rfl) ink ?_
  rw [nI_clamp k31]
  rw [a1]
  refine xw_istore_n (L2 := [(2, .int (nI e.1)), (0, .ref m), (1, .int (nI k))]) dX10_serve_6 rfl (by decide) rfl ?_
  refine xw_aload_n dX10_serve_7 rfl rfl ?_
  refine xw_get (ci := 11) (k := 30) (v := .ref (B 30)) dX10_serve_8 hR.1 rfl inX10 (by decide) tw_821 (Or.inl rfl) rfl ?_
  refine xw_iload_n dX10_serve_11 rfl rfl ?_
  refine xw_iald dX10_serve_12 (hR.2.1 30 rfl) ink ?_
  rw [nI_clamp k31]
  rw [a2]
  refine xw_istore_n (L2 := [(3, .int (nI e.2.1)), (2, .int (nI e.1)), (0, .ref m), (1, .int (nI k))]) dX10_serve_13 rfl (by decide) rfl ?_
  refine xw_aload_n dX10_serve_14 rfl rfl ?_
  refine xw_get (ci := 11) (k := 31) (v := .ref (B 31)) dX10_serve_15 hR.1 rfl inX10 (by decide) tw_822 (Or.inl rfl) rfl ?_
  refine xw_iload_n dX10_serve_18 rfl rfl ?_
  refine xw_iald dX10_serve_19 (hR.2.1 31 rfl) ink ?_
  rw [nI_clamp k31]
  rw [a3]
  refine xw_istore (L2 := [(4, .int (nI e.2.2)), (3, .int (nI e.2.1)), (2, .int (nI e.1)), (0, .ref m), (1, .int (nI k))]) dX10_serve_20 (by decide) rfl ?_
  refine xw_aload_n dX10_serve_22 rfl rfl ?_
  refine xw_dup dX10_serve_23 rfl ?_
  refine xw_get (ci := 11) (k := 28) (v := .int (ρ.1 28)) dX10_serve_24 hR.1 rfl inX10 (by decide) tw_819 (Or.inl rfl) rfl ?_
  refine xw_iconst (v := 1) dX10_serve_27 (by decide) ?_
  refine xw_isub dX10_serve_28 ?_
  refine xw_pc (pc2 := 29) rfl ?_
  rw [show ρ.1 28 = nI (L + 1) by rw [hK.1, hL], nI_pred]
  refine xw_put (ci := 11) (k := 28) tyX10 dX10_serve_29 hR.1 rfl inX10 tyX10_ok nmX10 (by decide) tw_819 (Or.inl rfl) rfl rfl rfl rfl (Nat.le_of_ble_eq_true rfl) ?_
  dsimp only [flM, List.set]
  have hR1 : RW (oput M 11 m (some [.int (ρ.1 0), .int (ρ.1 1), .ref (B 2), .ref (B 3), .ref (B 4), .ref (B 5), .ref (B 6), .ref (B 7), .int (ρ.1 8), .int (ρ.1 9), .ref (B 10), .ref (B 11), .ref (B 12), .int (ρ.1 13), .ref (B 14), .ref (B 15), .ref (B 16), .int (ρ.1 17), .ref (B 18), .ref (B 19), .ref (B 20), .ref (B 21), .ref (B 22), .int (ρ.1 23), .ref (B 24), .ref (B 25), .ref (B 26), .ref (B 27), .int ((nI L)), .ref (B 29), .ref (B 30), .ref (B 31), .int (ρ.1 32), .ref (B 33), .ref (B 34), .ref (B 35), .int (ρ.1 36), .int (ρ.1 37), .int (ρ.1 38), .ref (B 39), .ref (B 40)])) m B (rS ρ 28 (nI L)) := hR.sset (k := 28) (v := (nI L))
  have hE1 : EF M (oput M 11 m (some [.int (ρ.1 0), .int (ρ.1 1), .ref (B 2), .ref (B 3), .ref (B 4), .ref (B 5), .ref (B 6), .ref (B 7), .int (ρ.1 8), .int (ρ.1 9), .ref (B 10), .ref (B 11), .ref (B 12), .int (ρ.1 13), .ref (B 14), .ref (B 15), .ref (B 16), .int (ρ.1 17), .ref (B 18), .ref (B 19), .ref (B 20), .ref (B 21), .ref (B 22), .int (ρ.1 23), .ref (B 24), .ref (B 25), .ref (B 26), .ref (B 27), .int ((nI L)), .ref (B 29), .ref (B 30), .ref (B 31), .int (ρ.1 32), .ref (B 33), .ref (B 34), .ref (B 35), .int (ρ.1 36), .int (ρ.1 37), .int (ρ.1 38), .ref (B 39), .ref (B 40)])) m B := (EF.rf M m B).tr EF.o
  generalize oput M 11 m (some [.int (ρ.1 0), .int (ρ.1 1), .ref (B 2), .ref (B 3), .ref (B 4), .ref (B 5), .ref (B 6), .ref (B 7), .int (ρ.1 8), .int (ρ.1 9), .ref (B 10), .ref (B 11), .ref (B 12), .int (ρ.1 13), .ref (B 14), .ref (B 15), .ref (B 16), .int (ρ.1 17), .ref (B 18), .ref (B 19), .ref (B 20), .ref (B 21), .ref (B 22), .int (ρ.1 23), .ref (B 24), .ref (B 25), .ref (B 26), .ref (B 27), .int ((nI L)), .ref (B 29), .ref (B 30), .ref (B 31), .int (ρ.1 32), .ref (B 33), .ref (B 34), .ref (B 35), .int (ρ.1 36), .int (ρ.1 37), .int (ρ.1 38), .ref (B 39), .ref (B 40)]) = M1 at hR1 hE1 ⊢
  have hA1 := (AG.rf [28] ρ).s (k := 28) (v := (nI L)) (by decide)
  refine xw_iload_n dX10_serve_32 rfl rfl ?_
  refine xw_istore (L2 := [(5, .int (nI k)), (4, .int (nI e.2.2)), (3, .int (nI e.2.1)), (2, .int (nI e.1)), (0, .ref m), (1, .int (nI k))]) dX10_serve_33 (by decide) rfl ?_
  refine xw_pc rfl (shift (rS ρ 28 (nI L)) (by rw [rS_1, if_pos rfl]) (fun M2 hR2 hE2 => ?_) (L - k) k M1 (Nat.le_refl k) (by omega) (by rw [rP_0]; exact hR1) hE1)
  refine fin M2 _ hR2 hE2 ((hA1.mono (by decide)).tr ((rP_ag _ k L).mono (by decide))) ?_
  have hl : ((sK σ).eraseIdx k).length = L := by rw [List.length_eraseIdx_of_lt hkl]; omega
  obtain ⟨w1, w2, w3⟩ := rP_v (rS ρ 28 (nI L)) k L
  rw [rS_2] at w1 w2 w3
  refine ⟨by rw [(rP_ag _ k L 28 (by decide)).1, rS_1, if_pos rfl, hl], fun j y hy => ?_⟩
  have hj := (List.getElem?_eq_some_iff.mp hy).1
  rw [hl] at hj
  rw [List.getElem?_eraseIdx] at hy
  rw [w1, w2, w3]
  unfold sk
  by_cases hjk : j < k
  · rw [if_pos hjk] at hy
    rw [if_neg (by omega), if_neg (by omega), if_neg (by omega)]
    exact hK.2 j y hy
  · rw [if_neg hjk] at hy
    rw [if_pos (by omega), if_pos (by omega), if_pos (by omega)]
    exact hK.2 (j + 1) y hy
end SERVE
