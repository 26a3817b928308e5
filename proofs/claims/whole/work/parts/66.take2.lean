/-! THE REFERENCE: take, keepResult -/
theorem cl0 : Int32.toNatClampNeg 0 = 0 := by decide
theorem cl1 : Int32.toNatClampNeg 1 = 1 := by decide
theorem cl2 : Int32.toNatClampNeg 2 = 2 := by decide
section RTAKE2
variable {G : hx_G} {M M1 : hx_S} {m : Nat} {B : Nat → Nat} {ρ ρ' : hr_S} {σ σ' : hs_S} {T : List TK} {i c p s na k : Nat} {v x y : V2} {th : Int32} {K : Nat → Int32} {V : Nat → Int64}
theorem ct_mtake {z : R3} (h : RM M m B σ th K V) (hG : GS σ) (hz : (sR σ)[k]? = some z) : CT G 0 0 mX10_take [.ref m, .int (nI k)] M (fun r M1 => r = none ∧ ∃ K1 V1, RM M1 m B (uR σ ((sR σ).eraseIdx k)) th K1 V1 ∧ (∀ p w, p < 3 → z.2.2 p = some w → K1 p = w.1 ∧ V1 p = w.2) ∧ EF M M1 m B) := by
  obtain ⟨ρ, T, hR, h0, hAb, hT, hW⟩ := h
  obtain ⟨hN, hC, hAr, hRd, hK, hRs, hS1, hS2, hS3, hS4⟩ := id hAb
  have hq1 := hG.2.2.2.2.2.2.2.2.1.1
  have hkl := (List.getElem?_eq_some_iff.mp hz).1
  obtain ⟨P, hP⟩ : ∃ P : Option Value → hx_S → Prop, P = (fun r M1 => r = none ∧ ∃ K1 V1, RM M1 m B (uR σ ((sR σ).eraseIdx k)) th K1 V1 ∧ (∀ p w, p < 3 → z.2.2 p = some w → K1 p = w.1 ∧ V1 p = w.2) ∧ EF M M1 m B) := ⟨_, rfl⟩
  rw [← hP]
  obtain ⟨L, hL⟩ : ∃ L, L + 1 = (sR σ).length := ⟨(sR σ).length - 1, by omega⟩
  have m3 : ∀ a b, 3 * nI a + nI b = nI (3 * a + b) := fun a b => by rw [show (3 : Int32) = nI 3 from by decide +kernel, pk_mul, nI_add]
  have m33 : ∀ a b, 3 * nI a + 3 + nI b = nI (3 * a + b + 3) := fun a b => by rw [show (3 : Int32) = nI 3 from by decide +kernel, pk_mul, nI_add, nI_add]; congr 1; omega
  -- the values of one that moves down
  have vals : ∀ (ρs : hr_S) (j : Nat), k ≤ j → j < L → (∀ M2, RW M2 m B (rR ρs k (j + 1) (3 * (j + 1))) → EF M M2 m B → XW G 0 0 mX10_take [.ref m, .int (nI k)] M P M2 150 [(3, .int (nI 3)), (2, .int (nI j)), (0, .ref m), (1, .int (nI k))] []) → ∀ (q p : Nat) (M' : hx_S), p + q = 3 → RW M' m B (rR ρs k (j + 1) (3 * j + p)) → EF M M' m B → XW G 0 0 mX10_take [.ref m, .int (nI k)] M P M' 95 [(3, .int (nI p)), (2, .int (nI j)), (0, .ref m), (1, .int (nI k))] [] := by
    intro ρs j hkj hjL fin q
    induction q with
    | zero =>
      intro p M' hp hR' hE'
      obtain rfl : p = 3 := by omega
      refine xw_iload_n dX10_take_95 rfl rfl ?_
      refine xw_iconst (v := 3) dX10_take_96 (by decide) ?_
      refine xw_icmp_ge (tgt := 150) dX10_take_97 (by decide) (fun _ => ?_) (fun zz => absurd (show (3 : Int32) ≤ nI 3 by decide +kernel) zz)
      exact xw_pc rfl (fin M' hR' hE')
    | succ q ih =>
      intro p M' hp hR' hE'
      obtain ⟨R, hRe⟩ : ∃ R, R = rR ρs k (j + 1) (3 * j + p) := ⟨_, rfl⟩
      rw [← hRe] at hR'
      have hin : vp_in (nI (3 * j + p)) 906 := vp_in_nI (by omega) (by decide)
      have hin3 : vp_in (nI (3 * j + p + 3)) 906 := vp_in_nI (by omega) (by decide)
      have b1 : 3 * j + p < 2 ^ 31 := by omega
      have b3 : 3 * j + p + 3 < 2 ^ 31 := by omega
      refine xw_iload_n dX10_take_95 rfl rfl ?_
      refine xw_iconst (v := 3) dX10_take_96 (by decide) ?_
      refine xw_icmp_ge (tgt := 150) dX10_take_97 (by decide) (fun zz => absurd zz (show ¬ nI 3 ≤ nI p from nI_ge (by omega) (by decide))) (fun _ => ?_)
      refine xw_aload_n dX10_take_100 rfl rfl ?_
      refine xw_get (ci := 11) (k := 26) (v := .ref (B 26)) dX10_take_101 hR'.1 rfl inX10 (by decide) tw_817 (Or.inl rfl) rfl ?_
      refine xw_iconst (v := 3) dX10_take_104 (by decide) ?_
      refine xw_iload_n dX10_take_105 rfl rfl ?_
      refine xw_imul dX10_take_106 ?_
      refine xw_iload_n dX10_take_107 rfl rfl ?_
      refine xw_iadd dX10_take_108 ?_
      refine xw_aload_n dX10_take_109 rfl rfl ?_
      refine xw_get (ci := 11) (k := 26) (v := .ref (B 26)) dX10_take_110 hR'.1 rfl inX10 (by decide) tw_817 (Or.inl rfl) rfl ?_
      refine xw_iconst (v := 3) dX10_take_113 (by decide) ?_
      refine xw_iload_n dX10_take_114 rfl rfl ?_
      refine xw_imul dX10_take_115 ?_
      refine xw_iconst (v := 3) dX10_take_116 (by decide) ?_
      refine xw_iadd dX10_take_117 ?_
      refine xw_iload_n dX10_take_118 rfl rfl ?_
      refine xw_iadd dX10_take_119 ?_
      refine xw_pc (pc2 := 120) rfl ?_
      rw [m3, m33]
      refine xw_iald dX10_take_120 (hR'.2.1 26 rfl) hin3 ?_
      rw [nI_clamp b3]
      refine xw_iast dX10_take_121 (hR'.2.1 26 rfl) hin ?_
      rw [nI_clamp b1]
      have hR1 : RW (iput M' (B 26) (some (ilen 26, upd (R.2.1 26) (3 * j + p) (R.2.1 26 (3 * j + p + 3))))) m B (rI R 26 (upd (R.2.1 26) (3 * j + p) (R.2.1 26 (3 * j + p + 3)))) := hR'.iset rfl
      have hE1 : EF M (iput M' (B 26) (some (ilen 26, upd (R.2.1 26) (3 * j + p) (R.2.1 26 (3 * j + p + 3))))) m B := hE'.tr (EF.i rfl)
      generalize iput M' (B 26) (some (ilen 26, upd (R.2.1 26) (3 * j + p) (R.2.1 26 (3 * j + p + 3)))) = M1 at hR1 hE1 ⊢
      refine xw_aload_n dX10_take_122 rfl rfl ?_
      refine xw_get (ci := 11) (k := 27) (v := .ref (B 27)) dX10_take_123 hR1.1 rfl inX10 (by decide) tw_818 (Or.inl rfl) rfl ?_
      refine xw_iconst (v := 3) dX10_take_126 (by decide) ?_
      refine xw_iload_n dX10_take_127 rfl rfl ?_
      refine xw_imul dX10_take_128 ?_
      refine xw_iload_n dX10_take_129 rfl rfl ?_
      refine xw_iadd dX10_take_130 ?_
      refine xw_aload_n dX10_take_131 rfl rfl ?_
      refine xw_get (ci := 11) (k := 27) (v := .ref (B 27)) dX10_take_132 hR1.1 rfl inX10 (by decide) tw_818 (Or.inl rfl) rfl ?_
      refine xw_iconst (v := 3) dX10_take_135 (by decide) ?_
      refine xw_iload_n dX10_take_136 rfl rfl ?_
      refine xw_imul dX10_take_137 ?_
      refine xw_iconst (v := 3) dX10_take_138 (by decide) ?_
      refine xw_iadd dX10_take_139 ?_
      refine xw_iload_n dX10_take_140 rfl rfl ?_
      refine xw_iadd dX10_take_141 ?_
      refine xw_pc (pc2 := 142) rfl ?_
      rw [m3, m33]
      refine xw_lald dX10_take_142 (hR1.2.2.1 27 rfl) hin3 ?_
      rw [nI_clamp b3]
      refine xw_last dX10_take_143 (hR1.2.2.1 27 rfl) hin ?_
      rw [nI_clamp b1]
      have hR2 : RW (jput M1 (B 27) (some (jlen 27, vp_updL ((rI R 26 (upd (R.2.1 26) (3 * j + p) (R.2.1 26 (3 * j + p + 3)))).2.2 27) (3 * j + p) ((rI R 26 (upd (R.2.1 26) (3 * j + p) (R.2.1 26 (3 * j + p + 3)))).2.2 27 (3 * j + p + 3))))) m B (rJ (rI R 26 (upd (R.2.1 26) (3 * j + p) (R.2.1 26 (3 * j + p + 3)))) 27 (vp_updL ((rI R 26 (upd (R.2.1 26) (3 * j + p) (R.2.1 26 (3 * j + p + 3)))).2.2 27) (3 * j + p) ((rI R 26 (upd (R.2.1 26) (3 * j + p) (R.2.1 26 (3 * j + p + 3)))).2.2 27 (3 * j + p + 3)))) := hR1.jset rfl
      have hE2 : EF M (jput M1 (B 27) (some (jlen 27, vp_updL ((rI R 26 (upd (R.2.1 26) (3 * j + p) (R.2.1 26 (3 * j + p + 3)))).2.2 27) (3 * j + p) ((rI R 26 (upd (R.2.1 26) (3 * j + p) (R.2.1 26 (3 * j + p + 3)))).2.2 27 (3 * j + p + 3))))) m B := hE1.tr (EF.j rfl)
      generalize jput M1 (B 27) (some (jlen 27, vp_updL ((rI R 26 (upd (R.2.1 26) (3 * j + p) (R.2.1 26 (3 * j + p + 3)))).2.2 27) (3 * j + p) ((rI R 26 (upd (R.2.1 26) (3 * j + p) (R.2.1 26 (3 * j + p + 3)))).2.2 27 (3 * j + p + 3)))) = M2 at hR2 hE2 ⊢
      refine xw_iinc (v := (nI p) + 1) (L2 := [(3, .int ((nI p) + 1)), (2, .int (nI j)), (0, .ref m), (1, .int (nI k))]) dX10_take_144 rfl rfl (by decide) rfl ?_
      refine xw_goto (tgt := 95) dX10_take_147 (by decide) ?_
      rw [nI_1]
      have hfin : RW M2 m B (rR ρs k (j + 1) (3 * j + (p + 1))) := by
        have e := rR_s2 ρs R (show 3 * k ≤ 3 * j + p by omega) hRe
        simp only [rS_1, rS_2, rS_3, rI_1, rI_2, rI_3, rJ_1, rJ_2, rJ_3] at hR2
        rw [show 3 * j + (p + 1) = 3 * j + p + 1 by omega, ← e]
        exact hR2
      exact ih (p + 1) M2 (by omega) hfin hE2
  have shift : ∀ (ρs : hr_S), ρs.1 23 = nI L → (∀ M2, RW M2 m B (rR ρs k L (3 * L)) → EF M M2 m B → P none M2) → ∀ (q j : Nat) (M' : hx_S), k ≤ j → j + q = L → RW M' m B (rR ρs k j (3 * j)) → EF M M' m B → XW G 0 0 mX10_take [.ref m, .int (nI k)] M P M' 57 [(2, .int (nI j)), (0, .ref m), (1, .int (nI k))] [] := by
    intro ρs h23 fin q
    induction q with
    | zero =>
      intro j M' hkj hj hR' hE'
      obtain rfl : j = L := by omega
      refine xw_iload_n dX10_take_57 rfl rfl ?_
      refine xw_aload_n dX10_take_58 rfl rfl ?_
      refine xw_get (ci := 11) (k := 23) (v := .int ((rR ρs k j (3 * j)).1 23)) dX10_take_59 hR'.1 rfl inX10 (by decide) tw_814 (Or.inl rfl) rfl ?_
      rw [rR_1, h23]
      refine xw_icmp_ge (tgt := 156) dX10_take_62 (by decide) (fun _ => ?_) (fun zz => absurd (nI_le (Nat.le_refl j) (by omega)) zz)
      exact xw_vret rfl dX10_take_156 (fin M' hR' hE')
    | succ q ih =>
      intro j M' hkj hj hR' hE'
      obtain ⟨R, hRe⟩ : ∃ R, R = rR ρs k j (3 * j) := ⟨_, rfl⟩
      have hR23 : R.1 23 = nI L := by rw [hRe, rR_1]; exact h23
      rw [← hRe] at hR'
      have hin : vp_in (nI j) 302 := vp_in_nI (by omega) (by decide)
      have hin1 : vp_in (nI (j + 1)) 302 := vp_in_nI (by omega) (by decide)
      have j0 : j < 2 ^ 31 := by omega
      have j1 : j + 1 < 2 ^ 31 := by omega
      refine xw_iload_n dX10_take_57 rfl rfl ?_
      refine xw_aload_n dX10_take_58 rfl rfl ?_
      refine xw_get (ci := 11) (k := 23) (v := .int (R.1 23)) dX10_take_59 hR'.1 rfl inX10 (by decide) tw_814 (Or.inl rfl) rfl ?_
      rw [hR23]
      refine xw_icmp_ge (tgt := 156) dX10_take_62 (by decide) (fun zz => absurd zz (nI_ge (show j < L by omega) (by omega))) (fun _ => ?_)
      refine xw_aload_n dX10_take_65 rfl rfl ?_
      refine xw_get (ci := 11) (k := 24) (v := .ref (B 24)) dX10_take_66 hR'.1 rfl inX10 (by decide) tw_815 (Or.inl rfl) rfl ?_
      refine xw_iload_n dX10_take_69 rfl rfl ?_
      refine xw_aload_n dX10_take_70 rfl rfl ?_
      refine xw_get (ci := 11) (k := 24) (v := .ref (B 24)) dX10_take_71 hR'.1 rfl inX10 (by decide) tw_815 (Or.inl rfl) rfl ?_
      refine xw_iload_n dX10_take_74 rfl rfl ?_
      refine xw_iconst (v := 1) dX10_take_75 (by decide) ?_
      refine xw_iadd dX10_take_76 ?_
      refine xw_pc (pc2 := 77) rfl ?_
      rw [nI_1]
      refine xw_iald dX10_take_77 (hR'.2.1 24 rfl) hin1 ?_
      rw [nI_clamp j1]
      refine xw_iast dX10_take_78 (hR'.2.1 24 rfl) hin ?_
      rw [nI_clamp j0]
      have hR1 : RW (iput M' (B 24) (some (ilen 24, upd (R.2.1 24) j (R.2.1 24 (j + 1))))) m B (rI R 24 (upd (R.2.1 24) j (R.2.1 24 (j + 1)))) := hR'.iset rfl
      have hE1 : EF M (iput M' (B 24) (some (ilen 24, upd (R.2.1 24) j (R.2.1 24 (j + 1))))) m B := hE'.tr (EF.i rfl)
      generalize iput M' (B 24) (some (ilen 24, upd (R.2.1 24) j (R.2.1 24 (j + 1)))) = M1 at hR1 hE1 ⊢
      refine xw_aload_n dX10_take_79 rfl rfl ?_
      refine xw_get (ci := 11) (k := 25) (v := .ref (B 25)) dX10_take_80 hR1.1 rfl inX10 (by decide) tw_816 (Or.inl rfl) rfl ?_
      refine xw_iload_n dX10_take_83 rfl rfl ?_
      refine xw_aload_n dX10_take_84 rfl rfl ?_
      refine xw_get (ci := 11) (k := 25) (v := .ref (B 25)) dX10_take_85 hR1.1 rfl inX10 (by decide) tw_816 (Or.inl rfl) rfl ?_
      refine xw_iload_n dX10_take_88 rfl rfl ?_
      refine xw_iconst (v := 1) dX10_take_89 (by decide) ?_
      refine xw_iadd dX10_take_90 ?_
      rw [nI_1]
      refine xw_iald dX10_take_91 (hR1.2.1 25 rfl) hin1 ?_
      rw [nI_clamp j1]
      refine xw_iast dX10_take_92 (hR1.2.1 25 rfl) hin ?_
      rw [nI_clamp j0]
      have hR2 : RW (iput M1 (B 25) (some (ilen 25, upd ((rI R 24 (upd (R.2.1 24) j (R.2.1 24 (j + 1)))).2.1 25) j ((rI R 24 (upd (R.2.1 24) j (R.2.1 24 (j + 1)))).2.1 25 (j + 1))))) m B (rI (rI R 24 (upd (R.2.1 24) j (R.2.1 24 (j + 1)))) 25 (upd ((rI R 24 (upd (R.2.1 24) j (R.2.1 24 (j + 1)))).2.1 25) j ((rI R 24 (upd (R.2.1 24) j (R.2.1 24 (j + 1)))).2.1 25 (j + 1)))) := hR1.iset rfl
      have hE2 : EF M (iput M1 (B 25) (some (ilen 25, upd ((rI R 24 (upd (R.2.1 24) j (R.2.1 24 (j + 1)))).2.1 25) j ((rI R 24 (upd (R.2.1 24) j (R.2.1 24 (j + 1)))).2.1 25 (j + 1))))) m B := hE1.tr (EF.i rfl)
      generalize iput M1 (B 25) (some (ilen 25, upd ((rI R 24 (upd (R.2.1 24) j (R.2.1 24 (j + 1)))).2.1 25) j ((rI R 24 (upd (R.2.1 24) j (R.2.1 24 (j + 1)))).2.1 25 (j + 1)))) = M2 at hR2 hE2 ⊢
      refine xw_iconst (v := 0) dX10_take_93 (by decide) ?_
      refine xw_istore_n (L2 := [(3, .int 0), (2, .int (nI j)), (0, .ref m), (1, .int (nI k))]) dX10_take_94 rfl (by decide) rfl ?_
      have hfin : RW M2 m B (rR ρs k (j + 1) (3 * j)) := by
        have e := rR_s1 ρs R hkj hRe
        simp only [rS_1, rS_2, rS_3, rI_1, rI_2, rI_3, rJ_1, rJ_2, rJ_3] at hR2
        rw [← e]
        exact hR2
      refine xw_pc rfl (vals ρs j hkj (by omega) (fun M4 hR4 hE4 => ?_) 3 0 M2 (by omega) hfin hE2)
      refine xw_iinc (v := (nI j) + 1) (L2 := [(2, .int ((nI j) + 1)), (3, .int (nI 3)), (0, .ref m), (1, .int (nI k))]) dX10_take_150 rfl rfl (by decide) rfl ?_
      refine xw_goto (tgt := 57) dX10_take_153 (by decide) ?_
      rw [nI_1]
      refine xw_sub (L2 := [(2, .int (nI (j + 1))), (0, .ref m), (1, .int (nI k))]) (.cons_cons _ (.cons _ (.cons_cons _ (.cons_cons _ .slnil)))) ?_
      exact ih (j + 1) M4 (by omega) (by omega) hR4 hE4
  have copy : ∀ (q p : Nat) (M' : hx_S) (ρ' : hr_S), p + q = 3 → RW M' m B ρ' → EF M M' m B → AG [39, 40] ρ ρ' → (∀ a, a < p → ρ'.2.1 39 a = ρ.2.1 26 (3 * k + a) ∧ ρ'.2.2 40 a = ρ.2.2 27 (3 * k + a)) → XW G 0 0 mX10_take [.ref m, .int (nI k)] M P M' 2 [(2, .int (nI p)), (0, .ref m), (1, .int (nI k))] [] := by
    intro q
    induction q with
    | zero =>
      intro p M' ρ' hp hR' hE' hA' hv
      obtain rfl : p = 3 := by omega
      refine xw_iload_n dX10_take_2 rfl rfl ?_
      refine xw_iconst (v := 3) dX10_take_3 (by decide) ?_
      refine xw_pc (pc2 := 4) rfl ?_
      refine xw_icmp_ge (tgt := 45) dX10_take_4 (by decide) (fun _ => ?_) (fun zz => absurd (show (3 : Int32) ≤ nI 3 by decide +kernel) zz)
      refine xw_aload_n dX10_take_45 rfl rfl ?_
      refine xw_dup dX10_take_46 rfl ?_
      refine xw_get (ci := 11) (k := 23) (v := .int (ρ'.1 23)) dX10_take_47 hR'.1 rfl inX10 (by decide) tw_814 (Or.inl rfl) rfl ?_
      refine xw_iconst (v := 1) dX10_take_50 (by decide) ?_
      refine xw_isub dX10_take_51 ?_
      rw [show ρ'.1 23 = nI (L + 1) by rw [(hA' 23 (by decide)).1, hRd.1, hL], nI_pred]
      refine xw_put (ci := 11) (k := 23) tyX10 dX10_take_52 hR'.1 rfl inX10 tyX10_ok nmX10 (by decide) tw_814 (Or.inl rfl) rfl rfl rfl rfl (Nat.le_of_ble_eq_true rfl) ?_
      dsimp only [flM, List.set]
      have hR1 : RW (oput M' 11 m (some [.int (ρ'.1 0), .int (ρ'.1 1), .ref (B 2), .ref (B 3), .ref (B 4), .ref (B 5), .ref (B 6), .ref (B 7), .int (ρ'.1 8), .int (ρ'.1 9), .ref (B 10), .ref (B 11), .ref (B 12), .int (ρ'.1 13), .ref (B 14), .ref (B 15), .ref (B 16), .int (ρ'.1 17), .ref (B 18), .ref (B 19), .ref (B 20), .ref (B 21), .ref (B 22), .int ((nI L)), .ref (B 24), .ref (B 25), .ref (B 26), .ref (B 27), .int (ρ'.1 28), .ref (B 29), .ref (B 30), .ref (B 31), .int (ρ'.1 32), .ref (B 33), .ref (B 34), .ref (B 35), .int (ρ'.1 36), .int (ρ'.1 37), .int (ρ'.1 38), .ref (B 39), .ref (B 40)])) m B (rS ρ' 23 (nI L)) := hR'.sset (k := 23) (v := (nI L))
      have hE1 : EF M (oput M' 11 m (some [.int (ρ'.1 0), .int (ρ'.1 1), .ref (B 2), .ref (B 3), .ref (B 4), .ref (B 5), .ref (B 6), .ref (B 7), .int (ρ'.1 8), .int (ρ'.1 9), .ref (B 10), .ref (B 11), .ref (B 12), .int (ρ'.1 13), .ref (B 14), .ref (B 15), .ref (B 16), .int (ρ'.1 17), .ref (B 18), .ref (B 19), .ref (B 20), .ref (B 21), .ref (B 22), .int ((nI L)), .ref (B 24), .ref (B 25), .ref (B 26), .ref (B 27), .int (ρ'.1 28), .ref (B 29), .ref (B 30), .ref (B 31), .int (ρ'.1 32), .ref (B 33), .ref (B 34), .ref (B 35), .int (ρ'.1 36), .int (ρ'.1 37), .int (ρ'.1 38), .ref (B 39), .ref (B 40)])) m B := hE'.tr EF.o
      generalize oput M' 11 m (some [.int (ρ'.1 0), .int (ρ'.1 1), .ref (B 2), .ref (B 3), .ref (B 4), .ref (B 5), .ref (B 6), .ref (B 7), .int (ρ'.1 8), .int (ρ'.1 9), .ref (B 10), .ref (B 11), .ref (B 12), .int (ρ'.1 13), .ref (B 14), .ref (B 15), .ref (B 16), .int (ρ'.1 17), .ref (B 18), .ref (B 19), .ref (B 20), .ref (B 21), .ref (B 22), .int ((nI L)), .ref (B 24), .ref (B 25), .ref (B 26), .ref (B 27), .int (ρ'.1 28), .ref (B 29), .ref (B 30), .ref (B 31), .int (ρ'.1 32), .ref (B 33), .ref (B 34), .ref (B 35), .int (ρ'.1 36), .int (ρ'.1 37), .int (ρ'.1 38), .ref (B 39), .ref (B 40)]) = M1 at hR1 hE1 ⊢
      refine xw_iload_n dX10_take_55 rfl rfl ?_
      refine xw_istore_n (L2 := [(2, .int (nI k)), (0, .ref m), (1, .int (nI k))]) dX10_take_56 rfl (by decide) rfl ?_
      refine xw_pc rfl (shift (rS ρ' 23 (nI L)) (by rw [rS_1, if_pos rfl]) (fun M2 hR2 hE2 => ?_) (L - k) k M1 (Nat.le_refl k) (by omega) (by rw [rR_0]; exact hR1) hE1)
      have agA : AG [23, 24, 25, 26, 27, 39, 40] ρ (rR (rS ρ' 23 (nI L)) k L (3 * L)) := ((hA'.mono (by decide)).s (by decide)).tr ((rR_ag _ k L (3 * L)).mono (by decide))
      obtain ⟨w1, w2, w3, w4⟩ := rR_v (rS ρ' 23 (nI L)) k L (3 * L)
      rw [rS_2] at w1 w2 w3
      rw [rS_3] at w4
      rw [(hA' 24 (by decide)).2.1] at w1
      rw [(hA' 25 (by decide)).2.1] at w2
      rw [(hA' 26 (by decide)).2.1] at w3
      rw [(hA' 27 (by decide)).2.2] at w4
      have k39 : (rR (rS ρ' 23 (nI L)) k L (3 * L)).2.1 39 = ρ'.2.1 39 := by rw [rR_n _ _ _ _ 39 (by decide), rS_2]
      have k40 : (rR (rS ρ' 23 (nI L)) k L (3 * L)).2.2 40 = ρ'.2.2 40 := by rw [rR_m _ _ _ _ 40 (by decide), rS_3]
      have hl : ((sR σ).eraseIdx k).length = L := by rw [List.length_eraseIdx_of_lt hkl]; omega
      rw [hP]
      refine ⟨rfl, ρ'.2.1 39, ρ'.2.2 40, ⟨rR (rS ρ' 23 (nI L)) k L (3 * L), T, hR2, ⟨(agA 0 (by decide)).1.trans h0.1, k39, k40⟩, ⟨?_, ?_, ?_, ?_, ?_, ?_, ?_⟩, hT.ag agA (by decide), hW.1, ?_⟩, fun p w hp hw => ?_, hE2⟩
      · rw [sN_uR]; exact hN.ag agA (by decide)
      · rw [sC_uR]; exact hC.ag agA (by decide)
      · rw [sA_uR, sLe_uR, sCe_uR]; exact hAr.ag agA (by decide)
      · rw [sR_uR]
        refine ⟨by rw [rR_1, rS_1, if_pos rfl, hl], fun j y hy => ?_⟩
        have hj := (List.getElem?_eq_some_iff.mp hy).1
        rw [hl] at hj
        rw [List.getElem?_eraseIdx] at hy
        rw [w1, w2, w3, w4]
        unfold sk
        by_cases hjk : j < k
        · rw [if_pos hjk] at hy
          obtain ⟨y1, y2, y3⟩ := hRd.2 j y hy
          rw [if_neg (by omega), if_neg (by omega)]
          refine ⟨y1, y2, fun p w hp hw => ?_⟩
          rw [if_neg (by omega), if_neg (by omega)]
          exact y3 p w hp hw
        · rw [if_neg hjk] at hy
          obtain ⟨y1, y2, y3⟩ := hRd.2 (j + 1) y hy
          rw [if_pos (by omega), if_pos (by omega)]
          refine ⟨y1, y2, fun p w hp hw => ?_⟩
          rw [if_pos (by omega), if_pos (by omega), show 3 * j + p + 3 = 3 * (j + 1) + p by omega]
          exact y3 p w hp hw
      · rw [sK_uR]; exact hK.ag agA (by decide)
      · rw [sRs_uR]; exact hRs.ag agA (by decide)
      · have q := HSc.ag (σ := σ) ⟨hS1, hS2, hS3, hS4⟩ agA (by decide)
        unfold HSc at q ⊢
        rw [sB_uR, sTr_uR, sW_uR, sAl_uR]; exact q
      · intro a b c' d; rw [sT_uR]; exact hW.2 a b c' d
      · obtain ⟨u1, u2⟩ := hv p hp
        rw [u1, u2]
        exact (hRd.2 k z hz).2.2 p w hp hw
    | succ q ih =>
      intro p M' ρ' hp hR' hE' hA' hv
      have hin : vp_in (nI p) 3 := vp_in_nI (by omega) (by decide)
      have hin3 : vp_in (nI (3 * k + p)) 906 := vp_in_nI (by omega) (by decide)
      have b1 : p < 2 ^ 31 := by omega
      have b3 : 3 * k + p < 2 ^ 31 := by omega
      refine xw_iload_n dX10_take_2 rfl rfl ?_
      refine xw_iconst (v := 3) dX10_take_3 (by decide) ?_
      refine xw_icmp_ge (tgt := 45) dX10_take_4 (by decide) (fun zz => absurd zz (show ¬ nI 3 ≤ nI p from nI_ge (by omega) (by decide))) (fun _ => ?_)
      refine xw_aload_n dX10_take_7 rfl rfl ?_
      refine xw_get (ci := 11) (k := 39) (v := .ref (B 39)) dX10_take_8 hR'.1 rfl inX10 (by decide) tw_830 (Or.inl rfl) rfl ?_
      refine xw_iload_n dX10_take_11 rfl rfl ?_
      refine xw_aload_n dX10_take_12 rfl rfl ?_
      refine xw_get (ci := 11) (k := 26) (v := .ref (B 26)) dX10_take_13 hR'.1 rfl inX10 (by decide) tw_817 (Or.inl rfl) rfl ?_
      refine xw_iconst (v := 3) dX10_take_16 (by decide) ?_
      refine xw_iload_n dX10_take_17 rfl rfl ?_
      refine xw_imul dX10_take_18 ?_
      refine xw_iload_n dX10_take_19 rfl rfl ?_
      refine xw_iadd dX10_take_20 ?_
      refine xw_pc (pc2 := 21) rfl ?_
      rw [m3]
      refine xw_iald dX10_take_21 (hR'.2.1 26 rfl) hin3 ?_
      rw [nI_clamp b3]
      rw [(hA' 26 (by decide)).2.1]
      refine xw_iast dX10_take_22 (hR'.2.1 39 rfl) hin ?_
      rw [nI_clamp b1]
      have hR1 : RW (iput M' (B 39) (some (ilen 39, upd (ρ'.2.1 39) p (ρ.2.1 26 (3 * k + p))))) m B (rI ρ' 39 (upd (ρ'.2.1 39) p (ρ.2.1 26 (3 * k + p)))) := hR'.iset rfl
      have hE1 : EF M (iput M' (B 39) (some (ilen 39, upd (ρ'.2.1 39) p (ρ.2.1 26 (3 * k + p))))) m B := hE'.tr (EF.i rfl)
      generalize iput M' (B 39) (some (ilen 39, upd (ρ'.2.1 39) p (ρ.2.1 26 (3 * k + p)))) = M1 at hR1 hE1 ⊢
      have hA1 := hA'.i (k := 39) (f := (upd (ρ'.2.1 39) p (ρ.2.1 26 (3 * k + p)))) (by decide)
      refine xw_aload_n dX10_take_23 rfl rfl ?_
      refine xw_get (ci := 11) (k := 40) (v := .ref (B 40)) dX10_take_24 hR1.1 rfl inX10 (by decide) tw_831 (Or.inl rfl) rfl ?_
      refine xw_iload_n dX10_take_27 rfl rfl ?_
      refine xw_aload_n dX10_take_28 rfl rfl ?_
      refine xw_get (ci := 11) (k := 27) (v := .ref (B 27)) dX10_take_29 hR1.1 rfl inX10 (by decide) tw_818 (Or.inl rfl) rfl ?_
      refine xw_iconst (v := 3) dX10_take_32 (by decide) ?_
      refine xw_iload_n dX10_take_33 rfl rfl ?_
      refine xw_imul dX10_take_34 ?_
      refine xw_iload_n dX10_take_35 rfl rfl ?_
      refine xw_iadd dX10_take_36 ?_
      rw [m3]
      refine xw_lald dX10_take_37 (hR1.2.2.1 27 rfl) hin3 ?_
      rw [nI_clamp b3]
      rw [rI_3, (hA' 27 (by decide)).2.2]
      refine xw_last dX10_take_38 (hR1.2.2.1 40 rfl) hin ?_
      rw [nI_clamp b1]
      have hR2 : RW (jput M1 (B 40) (some (jlen 40, vp_updL ((rI ρ' 39 (upd (ρ'.2.1 39) p (ρ.2.1 26 (3 * k + p)))).2.2 40) p (ρ.2.2 27 (3 * k + p))))) m B (rJ (rI ρ' 39 (upd (ρ'.2.1 39) p (ρ.2.1 26 (3 * k + p)))) 40 (vp_updL ((rI ρ' 39 (upd (ρ'.2.1 39) p (ρ.2.1 26 (3 * k + p)))).2.2 40) p (ρ.2.2 27 (3 * k + p)))) := hR1.jset rfl
      have hE2 : EF M (jput M1 (B 40) (some (jlen 40, vp_updL ((rI ρ' 39 (upd (ρ'.2.1 39) p (ρ.2.1 26 (3 * k + p)))).2.2 40) p (ρ.2.2 27 (3 * k + p))))) m B := hE1.tr (EF.j rfl)
      generalize jput M1 (B 40) (some (jlen 40, vp_updL ((rI ρ' 39 (upd (ρ'.2.1 39) p (ρ.2.1 26 (3 * k + p)))).2.2 40) p (ρ.2.2 27 (3 * k + p)))) = M2 at hR2 hE2 ⊢
      have hA2 := hA1.j (k := 40) (f := (vp_updL ((rI ρ' 39 (upd (ρ'.2.1 39) p (ρ.2.1 26 (3 * k + p)))).2.2 40) p (ρ.2.2 27 (3 * k + p)))) (by decide)
      refine xw_iinc (v := (nI p) + 1) (L2 := [(2, .int ((nI p) + 1)), (0, .ref m), (1, .int (nI k))]) dX10_take_39 rfl rfl (by decide) rfl ?_
      refine xw_goto (tgt := 2) dX10_take_42 (by decide) ?_
      rw [nI_1]
      refine ih (p + 1) M2 _ (by omega) hR2 hE2 hA2 (fun a ha => ?_)
      show upd (ρ'.2.1 39) p (ρ.2.1 26 (3 * k + p)) a = _ ∧ vp_updL (ρ'.2.2 40) p (ρ.2.2 27 (3 * k + p)) a = _
      unfold upd vp_updL
      by_cases e : a = p
      · rw [if_pos e, if_pos e, e]; exact ⟨rfl, rfl⟩
      · rw [if_neg e, if_neg e]; exact hv a (by omega)
  refine ct_go (by decide +kernel) (Nat.le_of_ble_eq_true rfl) (L := [(0, .ref m), (1, .int (nI k))]) rfl ?_
  refine xw_iconst (v := 0) dX10_take_0 (by decide) ?_
  refine xw_istore_n (L2 := [(2, .int 0), (0, .ref m), (1, .int (nI k))]) dX10_take_1 rfl (by decide) rfl ?_
  refine xw_pc (pc2 := 2) rfl ?_
  exact xw_pc rfl (copy 3 0 M ρ (by omega) hR (EF.rf M m B) (AG.rf _ ρ) (fun a ha => absurd ha (Nat.not_lt_zero _)))
theorem ct_mkeep (h : RM M m B σ th K V) (hrs : (sRs σ).length < 5001) (k0 : K 0 = x.1 ∧ V 0 = x.2) : CT G 0 0 mX10_keepResult [.ref m, .int (nI c)] M (fun r M1 => r = none ∧ RM M1 m B (uRs σ (sRs σ ++ [(x, c)])) th K V ∧ EF M M1 m B) := by
  obtain ⟨ρ, T, hR, h0, hAb, hT, hW⟩ := h
  obtain ⟨hN, hC, hAr, hRd, hK, hRs, hS1, hS2, hS3, hS4⟩ := id hAb
  have hin : vp_in (nI (sRs σ).length) 5001 := vp_in_nI hrs (by decide)
  have b1 : (sRs σ).length < 2 ^ 31 := by omega
  have in0 : vp_in (nI 0) 3 := vp_in_nI (by decide) (by decide)
  refine ct_go (by decide +kernel) (Nat.le_of_ble_eq_true rfl) (L := [(0, .ref m), (1, .int (nI c))]) rfl ?_
  refine xw_aload_n dX10_keepResult_0 rfl rfl ?_
  refine xw_get (ci := 11) (k := 33) (v := .ref (B 33)) dX10_keepResult_1 hR.1 rfl inX10 (by decide) tw_824 (Or.inl rfl) rfl ?_
  refine xw_aload_n dX10_keepResult_4 rfl rfl ?_
  refine xw_get (ci := 11) (k := 32) (v := .int (ρ.1 32)) dX10_keepResult_5 hR.1 rfl inX10 (by decide) tw_823 (Or.inl rfl) rfl ?_
  refine xw_aload_n dX10_keepResult_8 rfl rfl ?_
  refine xw_get (ci := 11) (k := 39) (v := .ref (B 39)) dX10_keepResult_9 hR.1 rfl inX10 (by decide) tw_830 (Or.inl rfl) rfl ?_
  refine xw_iconst (v := 0) dX10_keepResult_12 (by decide) ?_
  refine xw_iald dX10_keepResult_13 (hR.2.1 39 rfl) in0 ?_
  rw [cl0]
  rw [h0.2.1, k0.1, hRs.1]
  refine xw_iast dX10_keepResult_14 (hR.2.1 33 rfl) hin ?_
  rw [nI_clamp b1]
  have hR1 : RW (iput M (B 33) (some (ilen 33, upd (ρ.2.1 33) ((sRs σ).length) x.1))) m B (rI ρ 33 (upd (ρ.2.1 33) ((sRs σ).length) x.1)) := hR.iset rfl
  have hE1 : EF M (iput M (B 33) (some (ilen 33, upd (ρ.2.1 33) ((sRs σ).length) x.1))) m B := (EF.rf M m B).tr (EF.i rfl)
  generalize iput M (B 33) (some (ilen 33, upd (ρ.2.1 33) ((sRs σ).length) x.1)) = M1 at hR1 hE1 ⊢
  have hA1 := (AG.rf [32, 33, 34, 35] ρ).i (k := 33) (f := (upd (ρ.2.1 33) ((sRs σ).length) x.1)) (by decide)
  refine xw_aload_n dX10_keepResult_15 rfl rfl ?_
  refine xw_get (ci := 11) (k := 34) (v := .ref (B 34)) dX10_keepResult_16 hR1.1 rfl inX10 (by decide) tw_825 (Or.inl rfl) rfl ?_
  refine xw_aload_n dX10_keepResult_19 rfl rfl ?_
  refine xw_get (ci := 11) (k := 32) (v := .int ((rI ρ 33 (upd (ρ.2.1 33) ((sRs σ).length) x.1)).1 32)) dX10_keepResult_20 hR1.1 rfl inX10 (by decide) tw_823 (Or.inl rfl) rfl ?_
  refine xw_aload_n dX10_keepResult_23 rfl rfl ?_
  refine xw_get (ci := 11) (k := 40) (v := .ref (B 40)) dX10_keepResult_24 hR1.1 rfl inX10 (by decide) tw_831 (Or.inl rfl) rfl ?_
  refine xw_iconst (v := 0) dX10_keepResult_27 (by decide) ?_
  refine xw_pc (pc2 := 28) rfl ?_
  refine xw_lald dX10_keepResult_28 (hR1.2.2.1 40 rfl) in0 ?_
  rw [cl0]
  rw [show (rI ρ 33 (upd (ρ.2.1 33) (sRs σ).length x.1)).2.2 40 0 = x.2 by rw [rI_3, h0.2.2, k0.2], show (rI ρ 33 (upd (ρ.2.1 33) (sRs σ).length x.1)).1 32 = nI (sRs σ).length from hRs.1]
  refine xw_last dX10_keepResult_29 (hR1.2.2.1 34 rfl) hin ?_
  rw [nI_clamp b1]
  have hR2 : RW (jput M1 (B 34) (some (jlen 34, vp_updL ((rI ρ 33 (upd (ρ.2.1 33) ((sRs σ).length) x.1)).2.2 34) ((sRs σ).length) x.2))) m B (rJ (rI ρ 33 (upd (ρ.2.1 33) ((sRs σ).length) x.1)) 34 (vp_updL ((rI ρ 33 (upd (ρ.2.1 33) ((sRs σ).length) x.1)).2.2 34) ((sRs σ).length) x.2)) := hR1.jset rfl
  have hE2 : EF M (jput M1 (B 34) (some (jlen 34, vp_updL ((rI ρ 33 (upd (ρ.2.1 33) ((sRs σ).length) x.1)).2.2 34) ((sRs σ).length) x.2))) m B := hE1.tr (EF.j rfl)
  generalize jput M1 (B 34) (some (jlen 34, vp_updL ((rI ρ 33 (upd (ρ.2.1 33) ((sRs σ).length) x.1)).2.2 34) ((sRs σ).length) x.2)) = M2 at hR2 hE2 ⊢
  have hA2 := hA1.j (k := 34) (f := (vp_updL ((rI ρ 33 (upd (ρ.2.1 33) ((sRs σ).length) x.1)).2.2 34) ((sRs σ).length) x.2)) (by decide)
  refine xw_aload_n dX10_keepResult_30 rfl rfl ?_
  refine xw_get (ci := 11) (k := 35) (v := .ref (B 35)) dX10_keepResult_31 hR2.1 rfl inX10 (by decide) tw_826 (Or.inl rfl) rfl ?_
  refine xw_aload_n dX10_keepResult_34 rfl rfl ?_
  refine xw_get (ci := 11) (k := 32) (v := .int ((rJ (rI ρ 33 (upd (ρ.2.1 33) ((sRs σ).length) x.1)) 34 (vp_updL ((rI ρ 33 (upd (ρ.2.1 33) ((sRs σ).length) x.1)).2.2 34) ((sRs σ).length) x.2)).1 32)) dX10_keepResult_35 hR2.1 rfl inX10 (by decide) tw_823 (Or.inl rfl) rfl ?_
  refine xw_iload_n dX10_keepResult_38 rfl rfl ?_
  rw [show (rJ (rI ρ 33 (upd (ρ.2.1 33) (sRs σ).length x.1)) 34 (vp_updL ((rI ρ 33 (upd (ρ.2.1 33) (sRs σ).length x.1)).2.2 34) (sRs σ).length x.2)).1 32 = nI (sRs σ).length from hRs.1]
  refine xw_iast dX10_keepResult_39 (hR2.2.1 35 rfl) hin ?_
  rw [nI_clamp b1]
  have hR3 : RW (iput M2 (B 35) (some (ilen 35, upd ((rJ (rI ρ 33 (upd (ρ.2.1 33) ((sRs σ).length) x.1)) 34 (vp_updL ((rI ρ 33 (upd (ρ.2.1 33) ((sRs σ).length) x.1)).2.2 34) ((sRs σ).length) x.2)).2.1 35) ((sRs σ).length) (nI c)))) m B (rI (rJ (rI ρ 33 (upd (ρ.2.1 33) ((sRs σ).length) x.1)) 34 (vp_updL ((rI ρ 33 (upd (ρ.2.1 33) ((sRs σ).length) x.1)).2.2 34) ((sRs σ).length) x.2)) 35 (upd ((rJ (rI ρ 33 (upd (ρ.2.1 33) ((sRs σ).length) x.1)) 34 (vp_updL ((rI ρ 33 (upd (ρ.2.1 33) ((sRs σ).length) x.1)).2.2 34) ((sRs σ).length) x.2)).2.1 35) ((sRs σ).length) (nI c))) := hR2.iset rfl
  have hE3 : EF M (iput M2 (B 35) (some (ilen 35, upd ((rJ (rI ρ 33 (upd (ρ.2.1 33) ((sRs σ).length) x.1)) 34 (vp_updL ((rI ρ 33 (upd (ρ.2.1 33) ((sRs σ).length) x.1)).2.2 34) ((sRs σ).length) x.2)).2.1 35) ((sRs σ).length) (nI c)))) m B := hE2.tr (EF.i rfl)
  generalize iput M2 (B 35) (some (ilen 35, upd ((rJ (rI ρ 33 (upd (ρ.2.1 33) ((sRs σ).length) x.1)) 34 (vp_updL ((rI ρ 33 (upd (ρ.2.1 33) ((sRs σ).length) x.1)).2.2 34) ((sRs σ).length) x.2)).2.1 35) ((sRs σ).length) (nI c))) = M3 at hR3 hE3 ⊢
  have hA3 := hA2.i (k := 35) (f := (upd ((rJ (rI ρ 33 (upd (ρ.2.1 33) ((sRs σ).length) x.1)) 34 (vp_updL ((rI ρ 33 (upd (ρ.2.1 33) ((sRs σ).length) x.1)).2.2 34) ((sRs σ).length) x.2)).2.1 35) ((sRs σ).length) (nI c))) (by decide)
  obtain ⟨ρ3, hρ3⟩ : ∃ ρ3, ρ3 = rI (rJ (rI ρ 33 (upd (ρ.2.1 33) (sRs σ).length x.1)) 34 (vp_updL ((rI ρ 33 (upd (ρ.2.1 33) (sRs σ).length x.1)).2.2 34) (sRs σ).length x.2)) 35 (upd ((rJ (rI ρ 33 (upd (ρ.2.1 33) (sRs σ).length x.1)) 34 (vp_updL ((rI ρ 33 (upd (ρ.2.1 33) (sRs σ).length x.1)).2.2 34) (sRs σ).length x.2)).2.1 35) (sRs σ).length (nI c)) := ⟨_, rfl⟩
  rw [← hρ3] at hR3 hA3
  have g3 : ρ3.1 = ρ.1 ∧ ρ3.2.1 33 = upd (ρ.2.1 33) (sRs σ).length x.1 ∧ ρ3.2.2 34 = vp_updL (ρ.2.2 34) (sRs σ).length x.2 ∧ ρ3.2.1 35 = upd (ρ.2.1 35) (sRs σ).length (nI c) := by rw [hρ3]; simp [rS_1, rS_2, rS_3, rI_1, rI_2, rI_3, rJ_1, rJ_2, rJ_3]
  clear hρ3 hR1 hR2 hA1 hA2
  refine xw_aload_n dX10_keepResult_40 rfl rfl ?_
  refine xw_dup dX10_keepResult_41 rfl ?_
  refine xw_get (ci := 11) (k := 32) (v := .int (ρ3.1 32)) dX10_keepResult_42 hR3.1 rfl inX10 (by decide) tw_823 (Or.inl rfl) rfl ?_
  refine xw_iconst (v := 1) dX10_keepResult_45 (by decide) ?_
  refine xw_iadd dX10_keepResult_46 ?_
  rw [show ρ3.1 32 = nI (sRs σ).length by rw [g3.1]; exact hRs.1, nI_1]
  refine xw_put (ci := 11) (k := 32) tyX10 dX10_keepResult_47 hR3.1 rfl inX10 tyX10_ok nmX10 (by decide) tw_823 (Or.inl rfl) rfl rfl rfl rfl (Nat.le_of_ble_eq_true rfl) ?_
  dsimp only [flM, List.set]
  have hR4 : RW (oput M3 11 m (some [.int (ρ3.1 0), .int (ρ3.1 1), .ref (B 2), .ref (B 3), .ref (B 4), .ref (B 5), .ref (B 6), .ref (B 7), .int (ρ3.1 8), .int (ρ3.1 9), .ref (B 10), .ref (B 11), .ref (B 12), .int (ρ3.1 13), .ref (B 14), .ref (B 15), .ref (B 16), .int (ρ3.1 17), .ref (B 18), .ref (B 19), .ref (B 20), .ref (B 21), .ref (B 22), .int (ρ3.1 23), .ref (B 24), .ref (B 25), .ref (B 26), .ref (B 27), .int (ρ3.1 28), .ref (B 29), .ref (B 30), .ref (B 31), .int ((nI ((sRs σ).length + 1))), .ref (B 33), .ref (B 34), .ref (B 35), .int (ρ3.1 36), .int (ρ3.1 37), .int (ρ3.1 38), .ref (B 39), .ref (B 40)])) m B (rS ρ3 32 (nI ((sRs σ).length + 1))) := hR3.sset (k := 32) (v := (nI ((sRs σ).length + 1)))
  have hE4 : EF M (oput M3 11 m (some [.int (ρ3.1 0), .int (ρ3.1 1), .ref (B 2), .ref (B 3), .ref (B 4), .ref (B 5), .ref (B 6), .ref (B 7), .int (ρ3.1 8), .int (ρ3.1 9), .ref (B 10), .ref (B 11), .ref (B 12), .int (ρ3.1 13), .ref (B 14), .ref (B 15), .ref (B 16), .int (ρ3.1 17), .ref (B 18), .ref (B 19), .ref (B 20), .ref (B 21), .ref (B 22), .int (ρ3.1 23), .ref (B 24), .ref (B 25), .ref (B 26), .ref (B 27), .int (ρ3.1 28), .ref (B 29), .ref (B 30), .ref (B 31), .int ((nI ((sRs σ).length + 1))), .ref (B 33), .ref (B 34), .ref (B 35), .int (ρ3.1 36), .int (ρ3.1 37), .int (ρ3.1 38), .ref (B 39), .ref (B 40)])) m B := hE3.tr EF.o
  generalize oput M3 11 m (some [.int (ρ3.1 0), .int (ρ3.1 1), .ref (B 2), .ref (B 3), .ref (B 4), .ref (B 5), .ref (B 6), .ref (B 7), .int (ρ3.1 8), .int (ρ3.1 9), .ref (B 10), .ref (B 11), .ref (B 12), .int (ρ3.1 13), .ref (B 14), .ref (B 15), .ref (B 16), .int (ρ3.1 17), .ref (B 18), .ref (B 19), .ref (B 20), .ref (B 21), .ref (B 22), .int (ρ3.1 23), .ref (B 24), .ref (B 25), .ref (B 26), .ref (B 27), .int (ρ3.1 28), .ref (B 29), .ref (B 30), .ref (B 31), .int ((nI ((sRs σ).length + 1))), .ref (B 33), .ref (B 34), .ref (B 35), .int (ρ3.1 36), .int (ρ3.1 37), .int (ρ3.1 38), .ref (B 39), .ref (B 40)]) = M4 at hR4 hE4 ⊢
  have hA4 := hA3.s (k := 32) (v := (nI ((sRs σ).length + 1))) (by decide)
  refine xw_vret rfl dX10_keepResult_50 ⟨rfl, ⟨rS ρ3 32 (nI ((sRs σ).length + 1)), T, hR4, ⟨(hA4 0 (by decide)).1.trans h0.1, (hA4 39 (by decide)).2.1.trans h0.2.1, (hA4 40 (by decide)).2.2.trans h0.2.2⟩, ⟨?_, ?_, ?_, ?_, ?_, ?_, ?_⟩, hT.ag hA4 (by decide), hW.1, ?_⟩, hE4⟩
  · rw [sN_uRs]; exact hN.ag hA4 (by decide)
  · rw [sC_uRs]; exact hC.ag hA4 (by decide)
  · rw [sA_uRs, sLe_uRs, sCe_uRs]; exact hAr.ag hA4 (by decide)
  · rw [sR_uRs]; exact hRd.ag hA4 (by decide)
  · rw [sK_uRs]; exact hK.ag hA4 (by decide)
  · rw [sRs_uRs]
    refine ⟨by rw [rS_1, if_pos rfl, List.length_append, List.length_singleton], fun j y hy => ?_⟩
    rw [rS_2, rS_3, g3.2.1, g3.2.2.1, g3.2.2.2]
    unfold upd vp_updL
    by_cases hk : j < (sRs σ).length
    · rw [List.getElem?_append_left hk] at hy
      rw [if_neg (by omega), if_neg (by omega), if_neg (by omega)]
      exact hRs.2 j y hy
    · rw [List.getElem?_append_right (by omega)] at hy
      have z := (List.getElem?_eq_some_iff.mp hy).1
      rw [List.length_singleton] at z
      obtain rfl : j = (sRs σ).length := by omega
      rw [show (sRs σ).length - (sRs σ).length = 0 by omega] at hy
      cases hy
      rw [if_pos rfl, if_pos rfl, if_pos rfl]
      exact ⟨rfl, rfl, rfl⟩
  · have q := HSc.ag (σ := σ) ⟨hS1, hS2, hS3, hS4⟩ hA4 (by decide)
    unfold HSc at q ⊢
    rw [sB_uRs, sTr_uRs, sW_uRs, sAl_uRs]; exact q
  · intro a b c' d; rw [sT_uRs]; exact hW.2 a b c' d
end RTAKE2
