/-! THE REFERENCE: make -/
section MAKE
variable {G : hx_G} {M M1 : hx_S} {m : Nat} {B : Nat → Nat} {ρ ρ' : hr_S} {σ σ' : hs_S} {T : List TK} {i c p s na k : Nat} {v x y : V2} {th : Int32} {K : Nat → Int32} {V : Nat → Int64}
/-- what a node that makes arrays does -/
def mkd (σ : hs_S) (i c : Nat) (x : V2) : hs_S := if errOf x 2 ≠ 5 then give σ i c (1, lN (errOf x 2)) else made σ i c x
theorem ct_mmake (h : RM M m B σ th K V) (hG : GS σ) (hN : GN σ) (hi : i < (sN σ).length) (hc : c < (sC σ).length) (h7 : (nd σ i).1 ≠ 7) (hx : GV (sA σ) x) (k0 : K 0 = x.1 ∧ V 0 = x.2) : CT G 5 126 mX10_make [.ref m, .int (nI i), .int (nI c)] M (fun r M1 => r = none ∧ RM M1 m B (mkd σ i c x) th K V ∧ EF M M1 m B) := by
  obtain ⟨P, hP⟩ : ∃ P : Option Value → hx_S → Prop, P = (fun r M1 => r = none ∧ RM M1 m B (mkd σ i c x) th K V ∧ EF M M1 m B) := ⟨_, rfl⟩
  rw [← hP]
  obtain ⟨ρ, T, hR, h0, hAb, hT, hW⟩ := id h
  obtain ⟨hNd, hC, hAr, hRd, hK, hRs, hS1, hS2, hS3, hS4⟩ := id hAb
  have h40 := hG.1
  have hA40 := hG.2.2.2.1.1
  have in0 : vp_in (nI 0) 3 := vp_in_nI (by decide) (by decide)
  have s0 : ∀ w, gives σ (nd σ i).2.2 (fS 0) c w = give σ i c w := fun w => send_0 hN hi h7
  have kk0 : ρ.2.1 39 0 = x.1 ∧ ρ.2.2 40 0 = x.2 := by rw [h0.2.1, h0.2.2]; exact k0
  have bad : ∀ e : Nat, 1 ≤ e → e ≤ 4 → mkd σ i c x = give σ i c (1, lN e) → XW G 5 126 mX10_make [.ref m, .int (nI i), .int (nI c)] M P M 52 [(3, .int (nI e)), (0, .ref m), (1, .int (nI i)), (2, .int (nI c))] [] := by
    intro e b1 b2 hrk
    refine xw_iload_n dX10_make_52 rfl rfl ?_
    refine xw_if_le (tgt := 64) dX10_make_53 (by decide) (fun zz => absurd zz (show ¬ nI e ≤ nI 0 from nI_ge (by omega) (by omega))) (fun _ => ?_)
    refine xw_aload_n dX10_make_56 rfl rfl ?_
    refine xw_iload_n dX10_make_57 rfl rfl ?_
    refine xw_iload_n dX10_make_58 rfl rfl ?_
    refine xw_iload_n dX10_make_59 rfl rfl ?_
    refine xw_callV (q2 := mX10_sendError) (n2 := 3) (ci := 11) (Bs := [.int (nI i), .int (nI c), .int (nI e)]) (rest := []) (ct_msendError h hG hi hc ⟨b1, b2⟩) dX10_make_60 rfl (o_at hR.1) rfl rfl tw_981 tw_983 tw_28 tw_47 tw_984 (by decide +kernel) rfl (Nat.le_of_ble_eq_true rfl) (Nat.le_of_ble_eq_true rfl) (Nat.le_of_ble_eq_true rfl) (fun rr M1 hr hle1 => ?_)
    obtain ⟨rfl, hR1, hE1⟩ := hr
    rw [s0] at hR1
    rw [hP, hrk]
    exact xw_vret rfl dX10_make_63 ⟨rfl, hR1, hE1⟩
  -- an array is made
  have doit : ∀ n, x.2 = lN n → n ≤ 8 → mkd σ i c x = (if 40 ≤ sA σ then uTr σ 2 else give (mkA σ n) i c (2, lN (sA σ))) → XW G 5 126 mX10_make [.ref m, .int (nI i), .int (nI c)] M P M 64 [(3, .int (nI 0)), (0, .ref m), (1, .int (nI i)), (2, .int (nI c))] [] := by
    intro n hn hn8 hmk
    have m8 : ∀ j, 8 * nI (sA σ) + nI j = nI (8 * sA σ + j) := fun j => by rw [show (8 : Int32) = nI 8 from by decide +kernel, pk_mul, nI_add]
    have loop : sA σ < 40 → ∀ (q j : Nat) (M' : hx_S) (ρ' : hr_S), j + q = 8 → RW M' m B ρ' → EF M M' m B → AG [14, 15, 16] ρ ρ' → ρ'.2.1 14 = upd (ρ.2.1 14) (sA σ) (nI n) → (∀ a, a < 8 * sA σ → ρ'.2.1 15 a = ρ.2.1 15 a ∧ ρ'.2.2 16 a = ρ.2.2 16 a) → (∀ a, a < j → ρ'.2.1 15 (8 * sA σ + a) = 3 ∧ ρ'.2.2 16 (8 * sA σ + a) = 0) → XW G 5 126 mX10_make [.ref m, .int (nI i), .int (nI c)] M P M' 98 [(4, .int (nI j)), (3, .int (nI 0)), (0, .ref m), (1, .int (nI i)), (2, .int (nI c))] [] := by
      intro ha q
      induction q with
      | zero =>
        intro j M' ρ' hj hR' hE' hA' h14 hold hnew
        obtain rfl : j = 8 := by omega
        refine xw_iload dX10_make_98 rfl ?_
        refine xw_bipush (v := 8) dX10_make_100 (by decide) ?_
        refine xw_icmp_ge (tgt := 143) dX10_make_102 (by decide) (fun _ => ?_) (fun zz => absurd (show (8 : Int32) ≤ nI 8 by decide +kernel) zz)
        refine xw_aload_n dX10_make_143 rfl rfl ?_
        refine xw_dup dX10_make_144 rfl ?_
        refine xw_get (ci := 11) (k := 13) (v := .int (ρ'.1 13)) dX10_make_145 hR'.1 rfl inX10 (by decide) tw_804 (Or.inl rfl) rfl ?_
        refine xw_iconst (v := 1) dX10_make_148 (by decide) ?_
        refine xw_iadd dX10_make_149 ?_
        rw [show ρ'.1 13 = nI (sA σ) by rw [(hA' 13 (by decide)).1]; exact hAr.1, nI_1]
        refine xw_put (ci := 11) (k := 13) tyX10 dX10_make_150 hR'.1 rfl inX10 tyX10_ok nmX10 (by decide) tw_804 (Or.inl rfl) rfl rfl rfl rfl (Nat.le_of_ble_eq_true rfl) ?_
        dsimp only [flM, List.set]
        have hR1 : RW (oput M' 11 m (some [.int (ρ'.1 0), .int (ρ'.1 1), .ref (B 2), .ref (B 3), .ref (B 4), .ref (B 5), .ref (B 6), .ref (B 7), .int (ρ'.1 8), .int (ρ'.1 9), .ref (B 10), .ref (B 11), .ref (B 12), .int ((nI (sA σ + 1))), .ref (B 14), .ref (B 15), .ref (B 16), .int (ρ'.1 17), .ref (B 18), .ref (B 19), .ref (B 20), .ref (B 21), .ref (B 22), .int (ρ'.1 23), .ref (B 24), .ref (B 25), .ref (B 26), .ref (B 27), .int (ρ'.1 28), .ref (B 29), .ref (B 30), .ref (B 31), .int (ρ'.1 32), .ref (B 33), .ref (B 34), .ref (B 35), .int (ρ'.1 36), .int (ρ'.1 37), .int (ρ'.1 38), .ref (B 39), .ref (B 40)])) m B (rS ρ' 13 (nI (sA σ + 1))) := hR'.sset (k := 13) (v := (nI (sA σ + 1)))
        have hE1 : EF M (oput M' 11 m (some [.int (ρ'.1 0), .int (ρ'.1 1), .ref (B 2), .ref (B 3), .ref (B 4), .ref (B 5), .ref (B 6), .ref (B 7), .int (ρ'.1 8), .int (ρ'.1 9), .ref (B 10), .ref (B 11), .ref (B 12), .int ((nI (sA σ + 1))), .ref (B 14), .ref (B 15), .ref (B 16), .int (ρ'.1 17), .ref (B 18), .ref (B 19), .ref (B 20), .ref (B 21), .ref (B 22), .int (ρ'.1 23), .ref (B 24), .ref (B 25), .ref (B 26), .ref (B 27), .int (ρ'.1 28), .ref (B 29), .ref (B 30), .ref (B 31), .int (ρ'.1 32), .ref (B 33), .ref (B 34), .ref (B 35), .int (ρ'.1 36), .int (ρ'.1 37), .int (ρ'.1 38), .ref (B 39), .ref (B 40)])) m B := hE'.tr EF.o
        generalize oput M' 11 m (some [.int (ρ'.1 0), .int (ρ'.1 1), .ref (B 2), .ref (B 3), .ref (B 4), .ref (B 5), .ref (B 6), .ref (B 7), .int (ρ'.1 8), .int (ρ'.1 9), .ref (B 10), .ref (B 11), .ref (B 12), .int ((nI (sA σ + 1))), .ref (B 14), .ref (B 15), .ref (B 16), .int (ρ'.1 17), .ref (B 18), .ref (B 19), .ref (B 20), .ref (B 21), .ref (B 22), .int (ρ'.1 23), .ref (B 24), .ref (B 25), .ref (B 26), .ref (B 27), .int (ρ'.1 28), .ref (B 29), .ref (B 30), .ref (B 31), .int (ρ'.1 32), .ref (B 33), .ref (B 34), .ref (B 35), .int (ρ'.1 36), .int (ρ'.1 37), .int (ρ'.1 38), .ref (B 39), .ref (B 40)]) = M1 at hR1 hE1 ⊢
        have hA1 := (hA'.mono (l' := [13, 14, 15, 16]) (by decide)).s (k := 13) (v := (nI (sA σ + 1))) (by decide)
        have hRM : RM M1 m B (mkA σ n) th K V := by
          refine ⟨rS ρ' 13 (nI (sA σ + 1)), T, hR1, ⟨(hA1 0 (by decide)).1.trans h0.1, (hA1 39 (by decide)).2.1.trans h0.2.1, (hA1 40 (by decide)).2.2.trans h0.2.2⟩, ⟨hNd.ag hA1 (by decide), hC.ag hA1 (by decide), ⟨by rw [rS_1, if_pos rfl]; rfl, fun k hk => ?_, fun a ha' => ?_⟩, hRd.ag hA1 (by decide), hK.ag hA1 (by decide), hRs.ag hA1 (by decide), HSc.ag (σ := σ) ⟨hS1, hS2, hS3, hS4⟩ hA1 (by decide)⟩, hT.ag hA1 (by decide), hW⟩
          · have hk' : k < sA σ + 1 := hk
            show (rS ρ' 13 (nI (sA σ + 1))).2.1 14 k = nI (if k = sA σ then n else sLe σ k)
            rw [rS_2, h14]
            by_cases e : k = sA σ
            · rw [e, pk_us, if_pos rfl]
            · rw [pk_un e, if_neg e]; exact hAr.2.1 k (by omega)
          · have ha2 : a < 8 * (sA σ + 1) := ha'
            show (rS ρ' 13 (nI (sA σ + 1))).2.1 15 a = ((sCe σ a).getD (3, 0)).1 ∧ (rS ρ' 13 (nI (sA σ + 1))).2.2 16 a = ((sCe σ a).getD (3, 0)).2
            rw [rS_2, rS_3]
            by_cases e : a < 8 * sA σ
            · rw [(hold a e).1, (hold a e).2]; exact hAr.2.2 a e
            · have hno : sCe σ a = none := by
                cases z : sCe σ a with
                | none => rfl
                | some w => exact absurd (hG.2.2.2.1.2.2 a w z).1 e
              obtain ⟨b, hb, rfl⟩ : ∃ b, b < 8 ∧ a = 8 * sA σ + b := ⟨a - 8 * sA σ, by omega, by omega⟩
              rw [hno, (hnew b hb).1, (hnew b hb).2]
              exact ⟨rfl, rfl⟩
        have hG1 := hG.mkA ha hn8
        refine xw_aload_n dX10_make_153 rfl rfl ?_
        refine xw_iload_n dX10_make_154 rfl rfl ?_
        refine xw_iconst (v := 0) dX10_make_155 (by decide) ?_
        refine xw_iload_n dX10_make_156 rfl rfl ?_
        refine xw_iconst (v := 2) dX10_make_157 (by decide) ?_
        refine xw_aload_n dX10_make_158 rfl rfl ?_
        refine xw_get (ci := 11) (k := 13) (v := .int ((rS ρ' 13 (nI (sA σ + 1))).1 13)) dX10_make_159 hR1.1 rfl inX10 (by decide) tw_804 (Or.inl rfl) rfl ?_
        refine xw_iconst (v := 1) dX10_make_162 (by decide) ?_
        refine xw_isub dX10_make_163 ?_
        refine xw_i2l dX10_make_164 ?_
        refine xw_pc (pc2 := 165) rfl ?_
        rw [show (rS ρ' 13 (nI (sA σ + 1))).1 13 = nI (sA σ + 1) by rw [rS_1, if_pos rfl], nI_pred, nI_l (show sA σ < 2 ^ 31 by omega)]
        have q1 := ct_msend (G := G) (i := i) (s := 0) (c := c) (v := ((2 : Int32), lN (sA σ))) hRM hG1 hi hc (by decide) (Or.inr (Or.inr ⟨rfl, sA σ, Nat.lt_succ_self _, rfl⟩))
        refine xw_callV (q2 := mX10_send) (n2 := 5) (ci := 11) (Bs := [.int (nI i), .int (nI 0), .int (nI c), .int 2, .long (lN (sA σ))]) (rest := []) (q1) dX10_make_165 rfl (o_at hR1.1) rfl rfl tw_969 tw_971 tw_25 tw_47 tw_972 (by decide +kernel) rfl (Nat.le_of_ble_eq_true rfl) (Nat.le_of_ble_eq_true rfl) (Nat.le_of_ble_eq_true rfl) (fun rr M1 hr hle1 => ?_)
        obtain ⟨rfl, hR2, hE2⟩ := hr
        rw [send_0 (σ := mkA σ n) (hN.cg rfl) hi h7] at hR2
        rw [hP, hmk, if_neg (by omega)]
        exact xw_vret rfl dX10_make_168 ⟨rfl, hR2, hE1.tr hE2⟩
      | succ q ih =>
        intro j M' ρ' hj hR' hE' hA' h14 hold hnew
        have hin : vp_in (nI (8 * sA σ + j)) 320 := vp_in_nI (by omega) (by decide)
        have b31 : 8 * sA σ + j < 2 ^ 31 := by omega
        have h13 : ρ'.1 13 = nI (sA σ) := by rw [(hA' 13 (by decide)).1]; exact hAr.1
        refine xw_iload dX10_make_98 rfl ?_
        refine xw_bipush (v := 8) dX10_make_100 (by decide) ?_
        refine xw_icmp_ge (tgt := 143) dX10_make_102 (by decide) (fun zz => absurd zz (show ¬ nI 8 ≤ nI j from nI_ge (by omega) (by decide))) (fun _ => ?_)
        refine xw_aload_n dX10_make_105 rfl rfl ?_
        refine xw_get (ci := 11) (k := 15) (v := .ref (B 15)) dX10_make_106 hR'.1 rfl inX10 (by decide) tw_806 (Or.inl rfl) rfl ?_
        refine xw_bipush (v := 8) dX10_make_109 (by decide) ?_
        refine xw_aload_n dX10_make_111 rfl rfl ?_
        refine xw_get (ci := 11) (k := 13) (v := .int (ρ'.1 13)) dX10_make_112 hR'.1 rfl inX10 (by decide) tw_804 (Or.inl rfl) rfl ?_
        refine xw_imul dX10_make_115 ?_
        refine xw_iload dX10_make_116 rfl ?_
        refine xw_iadd dX10_make_118 ?_
        refine xw_iconst (v := 3) dX10_make_119 (by decide) ?_
        rw [h13, m8]
        refine xw_iast dX10_make_120 (hR'.2.1 15 rfl) hin ?_
        rw [nI_clamp b31]
        have hR1 : RW (iput M' (B 15) (some (ilen 15, upd (ρ'.2.1 15) (8 * sA σ + j) 3))) m B (rI ρ' 15 (upd (ρ'.2.1 15) (8 * sA σ + j) 3)) := hR'.iset rfl
        have hE1 : EF M (iput M' (B 15) (some (ilen 15, upd (ρ'.2.1 15) (8 * sA σ + j) 3))) m B := hE'.tr (EF.i rfl)
        generalize iput M' (B 15) (some (ilen 15, upd (ρ'.2.1 15) (8 * sA σ + j) 3)) = M1 at hR1 hE1 ⊢
        have hA1 := hA'.i (k := 15) (f := (upd (ρ'.2.1 15) (8 * sA σ + j) 3)) (by decide)
        refine xw_aload_n dX10_make_121 rfl rfl ?_
        refine xw_get (ci := 11) (k := 16) (v := .ref (B 16)) dX10_make_122 hR1.1 rfl inX10 (by decide) tw_807 (Or.inl rfl) rfl ?_
        refine xw_bipush (v := 8) dX10_make_125 (by decide) ?_
        refine xw_aload_n dX10_make_127 rfl rfl ?_
        refine xw_get (ci := 11) (k := 13) (v := .int ((rI ρ' 15 (upd (ρ'.2.1 15) (8 * sA σ + j) 3)).1 13)) dX10_make_128 hR1.1 rfl inX10 (by decide) tw_804 (Or.inl rfl) rfl ?_
        refine xw_imul dX10_make_131 ?_
        refine xw_iload dX10_make_132 rfl ?_
        refine xw_iadd dX10_make_134 ?_
        refine xw_lconst (v := 0) dX10_make_135 (by decide) ?_
        refine xw_pc (pc2 := 136) rfl ?_
        rw [show (rI ρ' 15 (upd (ρ'.2.1 15) (8 * sA σ + j) 3)).1 13 = nI (sA σ) from h13, m8]
        refine xw_last dX10_make_136 (hR1.2.2.1 16 rfl) hin ?_
        rw [nI_clamp b31]
        have hR2 : RW (jput M1 (B 16) (some (jlen 16, vp_updL ((rI ρ' 15 (upd (ρ'.2.1 15) (8 * sA σ + j) 3)).2.2 16) (8 * sA σ + j) 0))) m B (rJ (rI ρ' 15 (upd (ρ'.2.1 15) (8 * sA σ + j) 3)) 16 (vp_updL ((rI ρ' 15 (upd (ρ'.2.1 15) (8 * sA σ + j) 3)).2.2 16) (8 * sA σ + j) 0)) := hR1.jset rfl
        have hE2 : EF M (jput M1 (B 16) (some (jlen 16, vp_updL ((rI ρ' 15 (upd (ρ'.2.1 15) (8 * sA σ + j) 3)).2.2 16) (8 * sA σ + j) 0))) m B := hE1.tr (EF.j rfl)
        generalize jput M1 (B 16) (some (jlen 16, vp_updL ((rI ρ' 15 (upd (ρ'.2.1 15) (8 * sA σ + j) 3)).2.2 16) (8 * sA σ + j) 0)) = M2 at hR2 hE2 ⊢
        have hA2 := hA1.j (k := 16) (f := (vp_updL ((rI ρ' 15 (upd (ρ'.2.1 15) (8 * sA σ + j) 3)).2.2 16) (8 * sA σ + j) 0)) (by decide)
        refine xw_iinc (v := (nI j) + 1) (L2 := [(4, .int ((nI j) + 1)), (3, .int (nI 0)), (0, .ref m), (1, .int (nI i)), (2, .int (nI c))]) dX10_make_137 rfl rfl (by decide) rfl ?_
        refine xw_goto (tgt := 98) dX10_make_140 (by decide) ?_
        rw [nI_1]
        refine ih (j + 1) M2 _ (by omega) hR2 hE2 hA2 h14 (fun a ha' => ?_) (fun a ha' => ?_)
        · show upd (ρ'.2.1 15) (8 * sA σ + j) 3 a = _ ∧ vp_updL (ρ'.2.2 16) (8 * sA σ + j) 0 a = _
          unfold upd vp_updL
          rw [if_neg (by omega), if_neg (by omega)]
          exact hold a ha'
        · show upd (ρ'.2.1 15) (8 * sA σ + j) 3 (8 * sA σ + a) = _ ∧ vp_updL (ρ'.2.2 16) (8 * sA σ + j) 0 (8 * sA σ + a) = _
          unfold upd vp_updL
          by_cases e : a = j
          · rw [if_pos (by rw [e]), if_pos (by rw [e])]; exact ⟨rfl, rfl⟩
          · rw [if_neg (by omega), if_neg (by omega)]; exact hnew a (by omega)
    refine xw_aload_n dX10_make_64 rfl rfl ?_
    refine xw_get (ci := 11) (k := 13) (v := .int (ρ.1 13)) dX10_make_65 hR.1 rfl inX10 (by decide) tw_804 (Or.inl rfl) rfl ?_
    refine xw_bipush (v := 40) dX10_make_68 (by decide) ?_
    rw [hAr.1]
    refine xw_icmp_ne (tgt := 79) dX10_make_70 (by decide) (fun d1 => ?_) (fun d1 => ?_)
    · have ha : sA σ < 40 := by
        rcases Nat.lt_or_ge (sA σ) 40 with z | z
        · exact z
        · exact absurd (show nI (sA σ) = nI 40 by rw [show sA σ = 40 by omega]) d1
      refine xw_aload_n dX10_make_79 rfl rfl ?_
      refine xw_get (ci := 11) (k := 14) (v := .ref (B 14)) dX10_make_80 hR.1 rfl inX10 (by decide) tw_805 (Or.inl rfl) rfl ?_
      refine xw_aload_n dX10_make_83 rfl rfl ?_
      refine xw_get (ci := 11) (k := 13) (v := .int (ρ.1 13)) dX10_make_84 hR.1 rfl inX10 (by decide) tw_804 (Or.inl rfl) rfl ?_
      refine xw_aload_n dX10_make_87 rfl rfl ?_
      refine xw_get (ci := 11) (k := 40) (v := .ref (B 40)) dX10_make_88 hR.1 rfl inX10 (by decide) tw_831 (Or.inl rfl) rfl ?_
      refine xw_iconst (v := 0) dX10_make_91 (by decide) ?_
      refine xw_lald dX10_make_92 (hR.2.2.1 40 rfl) in0 ?_
      rw [cl0]
      rw [kk0.2, hn, hAr.1]
      refine xw_l2i dX10_make_93 ?_
      refine xw_pc (pc2 := 94) rfl ?_
      rw [lN_i]
      refine xw_iast dX10_make_94 (hR.2.1 14 rfl) (vp_in_nI ha (by decide)) ?_
      rw [nI_clamp (by omega)]
      have hR1 : RW (iput M (B 14) (some (ilen 14, upd (ρ.2.1 14) (sA σ) (nI n)))) m B (rI ρ 14 (upd (ρ.2.1 14) (sA σ) (nI n))) := hR.iset rfl
      have hE1 : EF M (iput M (B 14) (some (ilen 14, upd (ρ.2.1 14) (sA σ) (nI n)))) m B := (EF.rf M m B).tr (EF.i rfl)
      generalize iput M (B 14) (some (ilen 14, upd (ρ.2.1 14) (sA σ) (nI n))) = M1 at hR1 hE1 ⊢
      have hA1 := (AG.rf [14, 15, 16] ρ).i (k := 14) (f := (upd (ρ.2.1 14) (sA σ) (nI n))) (by decide)
      refine xw_iconst (v := 0) dX10_make_95 (by decide) ?_
      refine xw_istore (L2 := [(4, .int 0), (3, .int (nI 0)), (0, .ref m), (1, .int (nI i)), (2, .int (nI c))]) dX10_make_96 (by decide) rfl ?_
      refine xw_mem (L2 := [(4, .int 0), (3, .int (nI 0)), (0, .ref m), (1, .int (nI i)), (2, .int (nI c))]) (by simp) ?_
      exact xw_pc rfl (loop ha 8 0 M1 _ (by omega) hR1 hE1 hA1 rfl (fun a _ => ⟨rfl, rfl⟩) (fun a ha' => absurd ha' (Nat.not_lt_zero _)))
    · have ha : sA σ = 40 := (nI_eq (by omega) (by decide)).mp (show nI (sA σ) = nI 40 from d1)
      refine xw_aload_n dX10_make_73 rfl rfl ?_
      refine xw_iconst (v := 2) dX10_make_74 (by decide) ?_
      refine xw_put (ci := 11) (k := 36) tyX10 dX10_make_75 hR.1 rfl inX10 tyX10_ok nmX10 (by decide) tw_827 (Or.inl rfl) rfl rfl rfl rfl (Nat.le_of_ble_eq_true rfl) ?_
      dsimp only [flM, List.set]
      have hR1 : RW (oput M 11 m (some [.int (ρ.1 0), .int (ρ.1 1), .ref (B 2), .ref (B 3), .ref (B 4), .ref (B 5), .ref (B 6), .ref (B 7), .int (ρ.1 8), .int (ρ.1 9), .ref (B 10), .ref (B 11), .ref (B 12), .int (ρ.1 13), .ref (B 14), .ref (B 15), .ref (B 16), .int (ρ.1 17), .ref (B 18), .ref (B 19), .ref (B 20), .ref (B 21), .ref (B 22), .int (ρ.1 23), .ref (B 24), .ref (B 25), .ref (B 26), .ref (B 27), .int (ρ.1 28), .ref (B 29), .ref (B 30), .ref (B 31), .int (ρ.1 32), .ref (B 33), .ref (B 34), .ref (B 35), .int (2), .int (ρ.1 37), .int (ρ.1 38), .ref (B 39), .ref (B 40)])) m B (rS ρ 36 2) := hR.sset (k := 36) (v := 2)
      have hE1 : EF M (oput M 11 m (some [.int (ρ.1 0), .int (ρ.1 1), .ref (B 2), .ref (B 3), .ref (B 4), .ref (B 5), .ref (B 6), .ref (B 7), .int (ρ.1 8), .int (ρ.1 9), .ref (B 10), .ref (B 11), .ref (B 12), .int (ρ.1 13), .ref (B 14), .ref (B 15), .ref (B 16), .int (ρ.1 17), .ref (B 18), .ref (B 19), .ref (B 20), .ref (B 21), .ref (B 22), .int (ρ.1 23), .ref (B 24), .ref (B 25), .ref (B 26), .ref (B 27), .int (ρ.1 28), .ref (B 29), .ref (B 30), .ref (B 31), .int (ρ.1 32), .ref (B 33), .ref (B 34), .ref (B 35), .int (2), .int (ρ.1 37), .int (ρ.1 38), .ref (B 39), .ref (B 40)])) m B := (EF.rf M m B).tr EF.o
      generalize oput M 11 m (some [.int (ρ.1 0), .int (ρ.1 1), .ref (B 2), .ref (B 3), .ref (B 4), .ref (B 5), .ref (B 6), .ref (B 7), .int (ρ.1 8), .int (ρ.1 9), .ref (B 10), .ref (B 11), .ref (B 12), .int (ρ.1 13), .ref (B 14), .ref (B 15), .ref (B 16), .int (ρ.1 17), .ref (B 18), .ref (B 19), .ref (B 20), .ref (B 21), .ref (B 22), .int (ρ.1 23), .ref (B 24), .ref (B 25), .ref (B 26), .ref (B 27), .int (ρ.1 28), .ref (B 29), .ref (B 30), .ref (B 31), .int (ρ.1 32), .ref (B 33), .ref (B 34), .ref (B 35), .int (2), .int (ρ.1 37), .int (ρ.1 38), .ref (B 39), .ref (B 40)]) = M1 at hR1 hE1 ⊢
      have hA1 := (AG.rf [36] ρ).s (k := 36) (v := 2) (by decide)
      rw [hP, hmk, if_pos (by omega)]
      refine xw_vret rfl dX10_make_78 ⟨rfl, ⟨rS ρ 36 2, T, hR1, h0, ⟨?_, ?_, ?_, ?_, ?_, ?_, ?_⟩, hT.ag hA1 (by decide), hW.1, ?_⟩, hE1⟩
      · rw [sN_uTr]; exact hNd.ag hA1 (by decide)
      · rw [sC_uTr]; exact hC.ag hA1 (by decide)
      · rw [sA_uTr, sLe_uTr, sCe_uTr]; exact hAr.ag hA1 (by decide)
      · rw [sR_uTr]; exact hRd.ag hA1 (by decide)
      · rw [sK_uTr]; exact hK.ag hA1 (by decide)
      · rw [sRs_uTr]; exact hRs.ag hA1 (by decide)
      · unfold HSc
        rw [sB_uTr, sTr_uTr, sW_uTr, sAl_uTr, (hA1 8 (by decide)).1, (hA1 37 (by decide)).1, (hA1 38 (by decide)).1]
        exact ⟨hS1, rfl, hS3, hS4⟩
      · intro a b c' d; rw [sT_uTr]; exact hW.2 a b c' d
  have q0 := ct_merrorOf (G := G) (n := 1) (y := x) hR (Or.inl rfl) hx (fun z => absurd z (by decide)) kk0 (fun z => absurd z (by decide))
  rw [if_neg (by decide)] at q0
  refine ct_go (by decide +kernel) (Nat.le_of_ble_eq_true rfl) (L := [(0, .ref m), (1, .int (nI i)), (2, .int (nI c))]) rfl ?_
  refine xw_aload_n dX10_make_0 rfl rfl ?_
  refine xw_iconst (v := 1) dX10_make_1 (by decide) ?_
  refine xw_callV (q2 := mX10_errorOf) (n2 := 1) (ci := 11) (Bs := [.int (nI 1)]) (rest := []) (q0) dX10_make_2 rfl (o_at hR.1) rfl rfl tw_977 tw_979 tw_27 tw_47 tw_980 (by decide +kernel) rfl (Nat.le_of_ble_eq_true rfl) (Nat.le_of_ble_eq_true rfl) (Nat.le_of_ble_eq_true rfl) (fun rr M1 hr hle1 => ?_)
  obtain ⟨rfl, hM1⟩ := hr
  obtain rfl := hM1.symm
  rcases hx.cases with hx0 | ⟨a, ha⟩ | hx2
  · have x1 : ¬ x.1 = 1 := by rw [hx0]; decide
    have herr : errOf x 2 = 5 := by rw [errOf_2 x1, if_pos hx0]
    have hmd : mkd σ i c x = made σ i c x := by unfold mkd; rw [if_neg (fun z => z herr)]
    have two : x.2 < 0 ∨ 8 < x.2 → XW G 5 126 mX10_make [.ref m, .int (nI i), .int (nI c)] M P M 50 [(3, .int (nI 0)), (0, .ref m), (1, .int (nI i)), (2, .int (nI c))] [] := by
      intro hb
      refine xw_iconst (v := 2) dX10_make_50 (by decide) ?_
      refine xw_istore_n (L2 := [(3, .int 2), (0, .ref m), (1, .int (nI i)), (2, .int (nI c))]) dX10_make_51 rfl (by decide) rfl ?_
      exact xw_pc rfl (bad 2 (by decide) (by decide) (by rw [hmd]; unfold made; rw [if_pos hb]; rfl))
    rw [er1_N x1]
    refine xw_istore_n (L2 := [(3, .int (nI 0)), (0, .ref m), (1, .int (nI i)), (2, .int (nI c))]) dX10_make_5 rfl (by decide) rfl ?_
    refine xw_iload_n dX10_make_6 rfl rfl ?_
    refine xw_if_ne (tgt := 22) dX10_make_7 (by decide) (fun zz => absurd rfl zz) (fun _ => ?_)
    refine xw_aload_n dX10_make_10 rfl rfl ?_
    refine xw_get (ci := 11) (k := 39) (v := .ref (B 39)) dX10_make_11 hR.1 rfl inX10 (by decide) tw_830 (Or.inl rfl) rfl ?_
    refine xw_iconst (v := 0) dX10_make_14 (by decide) ?_
    refine xw_pc (pc2 := 15) rfl ?_
    refine xw_iald dX10_make_15 (hR.2.1 39 rfl) in0 ?_
    rw [cl0]
    rw [kk0.1]
    refine xw_iconst (v := 2) dX10_make_16 (by decide) ?_
    refine xw_icmp_ne (tgt := 22) dX10_make_17 (by decide) (fun _ => ?_) (fun zz => absurd zz (show ¬ x.1 = 2 by rw [hx0]; decide))
    refine xw_iload_n dX10_make_22 rfl rfl ?_
    refine xw_if_ne (tgt := 52) dX10_make_23 (by decide) (fun zz => absurd rfl zz) (fun _ => ?_)
    refine xw_aload_n dX10_make_26 rfl rfl ?_
    refine xw_get (ci := 11) (k := 40) (v := .ref (B 40)) dX10_make_27 hR.1 rfl inX10 (by decide) tw_831 (Or.inl rfl) rfl ?_
    refine xw_iconst (v := 0) dX10_make_30 (by decide) ?_
    refine xw_lald dX10_make_31 (hR.2.2.1 40 rfl) in0 ?_
    rw [cl0]
    rw [kk0.2]
    refine xw_lconst (v := 0) dX10_make_32 (by decide) ?_
    refine xw_lcmp dX10_make_33 ?_
    refine xw_if_lt (tgt := 50) dX10_make_34 (by decide) (fun d1 => ?_) (fun d1 => ?_)
    · exact xw_pc rfl (two (Or.inl ((lg_cmp_lt _ _).mp d1)))
    · have h1 : ¬ x.2 < 0 := fun z => d1 ((lg_cmp_lt _ _).mpr z)
      refine xw_aload_n dX10_make_37 rfl rfl ?_
      refine xw_get (ci := 11) (k := 40) (v := .ref (B 40)) dX10_make_38 hR.1 rfl inX10 (by decide) tw_831 (Or.inl rfl) rfl ?_
      refine xw_iconst (v := 0) dX10_make_41 (by decide) ?_
      refine xw_lald dX10_make_42 (hR.2.2.1 40 rfl) in0 ?_
      rw [cl0]
      rw [kk0.2]
      refine xw_ldc2 (v := 8) tw_1007 dX10_make_43 ?_
      refine xw_lcmp dX10_make_46 ?_
      refine xw_if_le (tgt := 52) dX10_make_47 (by decide) (fun d2 => ?_) (fun d2 => ?_)
      · have h2 : x.2 ≤ 8 := (lg_cmp_le _ _).mp d2
        have hnb : ¬ (x.2 < 0 ∨ 8 < x.2) := fun z => z.elim h1 (fun z => absurd h2 (by rw [Int64.not_le]; exact z))
        obtain ⟨n, hn, hxn⟩ := pk_lOf h1
        have hn8 : n ≤ 8 := by rw [hxn] at h2; exact (pk_lLE hn (by decide)).mp (show lN n ≤ lN 8 from h2)
        have hcl : x.2.toNatClampNeg = n := by rw [hxn]; exact lN_clamp hn
        refine xw_iload_n dX10_make_52 rfl rfl ?_
        refine xw_pc (pc2 := 53) rfl ?_
        refine xw_if_le (tgt := 64) dX10_make_53 (by decide) (fun _ => ?_) (fun zz => absurd (by decide) zz)
        exact xw_pc rfl (doit n hxn hn8 (by rw [hmd]; unfold made; rw [if_neg hnb, hcl]))
      · exact xw_pc rfl (two (Or.inr (Int64.not_le.mp (fun z => d2 ((lg_cmp_le _ _).mpr z)))))
  · obtain ⟨-, -, a1, a2⟩ := id ha
    have herr : errOf x 2 = a := errOf_E (by decide) ha
    have ne0 : ¬ nI a = nI 0 := fun z => by have := (nI_eq (by omega) (by decide)).mp z; omega
    rw [er1_E ha, if_pos (Or.inl rfl)]
    refine xw_istore_n (L2 := [(3, .int (nI a)), (0, .ref m), (1, .int (nI i)), (2, .int (nI c))]) dX10_make_5 rfl (by decide) rfl ?_
    refine xw_iload_n dX10_make_6 rfl rfl ?_
    refine xw_if_ne (tgt := 22) dX10_make_7 (by decide) (fun _ => ?_) (fun zz => absurd zz ne0)
    refine xw_iload_n dX10_make_22 rfl rfl ?_
    refine xw_if_ne (tgt := 52) dX10_make_23 (by decide) (fun _ => ?_) (fun zz => absurd zz ne0)
    exact xw_pc rfl (bad a a1 a2 (by unfold mkd; rw [herr, if_pos (by omega)]))
  · have x1 : ¬ x.1 = 1 := by rw [hx2]; decide
    have herr : errOf x 2 = 4 := by rw [errOf_2 x1, if_neg (by rw [hx2]; decide)]
    rw [er1_N x1]
    refine xw_istore_n (L2 := [(3, .int (nI 0)), (0, .ref m), (1, .int (nI i)), (2, .int (nI c))]) dX10_make_5 rfl (by decide) rfl ?_
    refine xw_iload_n dX10_make_6 rfl rfl ?_
    refine xw_if_ne (tgt := 22) dX10_make_7 (by decide) (fun zz => absurd rfl zz) (fun _ => ?_)
    refine xw_aload_n dX10_make_10 rfl rfl ?_
    refine xw_get (ci := 11) (k := 39) (v := .ref (B 39)) dX10_make_11 hR.1 rfl inX10 (by decide) tw_830 (Or.inl rfl) rfl ?_
    refine xw_iconst (v := 0) dX10_make_14 (by decide) ?_
    refine xw_iald dX10_make_15 (hR.2.1 39 rfl) in0 ?_
    rw [cl0]
    rw [kk0.1]
    refine xw_iconst (v := 2) dX10_make_16 (by decide) ?_
    refine xw_icmp_ne (tgt := 22) dX10_make_17 (by decide) (fun zz => absurd hx2 zz) (fun _ => ?_)
    refine xw_iconst (v := 4) dX10_make_20 (by decide) ?_
    refine xw_istore_n (L2 := [(3, .int 4), (0, .ref m), (1, .int (nI i)), (2, .int (nI c))]) dX10_make_21 rfl (by decide) rfl ?_
    refine xw_iload_n dX10_make_22 rfl rfl ?_
    refine xw_if_ne (tgt := 52) dX10_make_23 (by decide) (fun _ => ?_) (fun zz => absurd zz (by decide))
    exact xw_pc rfl (bad 4 (by decide) (by decide) (by unfold mkd; rw [herr, if_pos (by decide)]))
end MAKE
