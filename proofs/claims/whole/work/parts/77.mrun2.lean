/-! THE REFERENCE: run -/
section MRUN2
variable {G : hx_G} {M M1 : hx_S} {m : Nat} {B : Nat → Nat} {ρ ρ' : hr_S} {σ σ' : hs_S} {T : List TK} {i c p s na k d : Nat} {v x y z : V2} {th : Int32} {K : Nat → Int32} {V : Nat → Int64} {t : Nat → Option V2}
/-- thrown is another -/
theorem RM.th' {e : Int32} (hR : RW M m B ρ) (h0 : ρ.2.1 39 = K ∧ ρ.2.2 40 = V) (hAb : Ab ρ σ) (hT : HT ρ T) (hW : WT σ T) (h1 : RW M1 m B (rS ρ 0 e)) : RM M1 m B σ e K V := by
  have a : AG [0] ρ (rS ρ 0 e) := (AG.rf _ ρ).s (by decide)
  obtain ⟨hN, hC, hAr, hRd, hK, hRs, hS⟩ := hAb
  exact ⟨rS ρ 0 e, T, h1, ⟨by rw [rS_1, if_pos rfl], by rw [rS_2]; exact h0.1, by rw [rS_3]; exact h0.2⟩, ⟨hN.ag a (by decide), hC.ag a (by decide), hAr.ag a (by decide), hRd.ag a (by decide), hK.ag a (by decide), hRs.ag a (by decide), HSc.ag hS a (by decide)⟩, hT.ag a (by decide), hW⟩
theorem ct_mthrown (h : RM M m B σ th K V) : CT G 0 0 mX10_thrown [.ref m] M (fun r M1 => r = some (.int th) ∧ M1 = M) := by
  obtain ⟨ρ, T, hR, h0, -⟩ := id h
  refine ct_go (by decide +kernel) (Nat.le_of_ble_eq_true rfl) (L := [(0, .ref m)]) rfl ?_
  refine xw_aload_n dX10_thrown_0 rfl rfl ?_
  refine xw_get (ci := 11) (k := 0) (v := .int (ρ.1 0)) dX10_thrown_1 hR.1 rfl inX10 (by decide) tw_791 (Or.inl rfl) rfl ?_
  exact xw_iret rfl dX10_thrown_4 ⟨by rw [h0.1], rfl⟩
theorem ct_mraise {e : Int32} (h : RM M m B σ th K V) : CT G 0 0 mX10_raise [.ref m, .int e] M (fun r M1 => r = some (.int 0) ∧ RM M1 m B σ e K V ∧ EF M M1 m B) := by
  obtain ⟨ρ, T, hR, h0, hAb, hT, hW⟩ := id h
  refine ct_go (by decide +kernel) (Nat.le_of_ble_eq_true rfl) (L := [(0, .ref m), (1, .int e)]) rfl ?_
  refine xw_aload_n dX10_raise_0 rfl rfl ?_
  refine xw_iload_n dX10_raise_1 rfl rfl ?_
  refine xw_put (ci := 11) (k := 0) tyX10 dX10_raise_2 hR.1 rfl inX10 tyX10_ok nmX10 (by decide) tw_791 (Or.inl rfl) rfl rfl rfl rfl (Nat.le_of_ble_eq_true rfl) ?_
  dsimp only [flM, List.set]
  have hR1 : RW (oput M 11 m (some [.int (e), .int (ρ.1 1), .ref (B 2), .ref (B 3), .ref (B 4), .ref (B 5), .ref (B 6), .ref (B 7), .int (ρ.1 8), .int (ρ.1 9), .ref (B 10), .ref (B 11), .ref (B 12), .int (ρ.1 13), .ref (B 14), .ref (B 15), .ref (B 16), .int (ρ.1 17), .ref (B 18), .ref (B 19), .ref (B 20), .ref (B 21), .ref (B 22), .int (ρ.1 23), .ref (B 24), .ref (B 25), .ref (B 26), .ref (B 27), .int (ρ.1 28), .ref (B 29), .ref (B 30), .ref (B 31), .int (ρ.1 32), .ref (B 33), .ref (B 34), .ref (B 35), .int (ρ.1 36), .int (ρ.1 37), .int (ρ.1 38), .ref (B 39), .ref (B 40)])) m B (rS ρ 0 e) := hR.sset (k := 0) (v := e)
  have hE1 : EF M (oput M 11 m (some [.int (e), .int (ρ.1 1), .ref (B 2), .ref (B 3), .ref (B 4), .ref (B 5), .ref (B 6), .ref (B 7), .int (ρ.1 8), .int (ρ.1 9), .ref (B 10), .ref (B 11), .ref (B 12), .int (ρ.1 13), .ref (B 14), .ref (B 15), .ref (B 16), .int (ρ.1 17), .ref (B 18), .ref (B 19), .ref (B 20), .ref (B 21), .ref (B 22), .int (ρ.1 23), .ref (B 24), .ref (B 25), .ref (B 26), .ref (B 27), .int (ρ.1 28), .ref (B 29), .ref (B 30), .ref (B 31), .int (ρ.1 32), .ref (B 33), .ref (B 34), .ref (B 35), .int (ρ.1 36), .int (ρ.1 37), .int (ρ.1 38), .ref (B 39), .ref (B 40)])) m B := (EF.rf M m B).tr EF.o
  generalize oput M 11 m (some [.int (e), .int (ρ.1 1), .ref (B 2), .ref (B 3), .ref (B 4), .ref (B 5), .ref (B 6), .ref (B 7), .int (ρ.1 8), .int (ρ.1 9), .ref (B 10), .ref (B 11), .ref (B 12), .int (ρ.1 13), .ref (B 14), .ref (B 15), .ref (B 16), .int (ρ.1 17), .ref (B 18), .ref (B 19), .ref (B 20), .ref (B 21), .ref (B 22), .int (ρ.1 23), .ref (B 24), .ref (B 25), .ref (B 26), .ref (B 27), .int (ρ.1 28), .ref (B 29), .ref (B 30), .ref (B 31), .int (ρ.1 32), .ref (B 33), .ref (B 34), .ref (B 35), .int (ρ.1 36), .int (ρ.1 37), .int (ρ.1 38), .ref (B 39), .ref (B 40)]) = M1 at hR1 hE1 ⊢
  refine xw_iconst (v := 0) dX10_raise_5 (by decide) ?_
  exact xw_iret rfl dX10_raise_6 ⟨rfl, RM.th' hR h0.2 hAb hT hW hR1, hE1⟩
theorem ct_mrunA {n : Int32} {p : Int64} (h : RM M m B σ th K V) (hn : n < 1 ∨ 500 < n) : CT G 8 200 mX10_run [.ref m, .int n, .long p] M (fun r M1 => r = some (.int 0) ∧ RM M1 m B σ 1 K V ∧ EF M M1 m B) := by
  obtain ⟨ρ, T, hR, -⟩ := id h
  have out : XW G 8 200 mX10_run [.ref m, .int n, .long p] M (fun r M1 => r = some (.int 0) ∧ RM M1 m B σ 1 K V ∧ EF M M1 m B) M 12 [(0, .ref m), (1, .int n), (2, .long p)] [] := by
    refine xw_aload_n dX10_run_12 rfl rfl ?_
    refine xw_iconst (v := 1) dX10_run_13 (by decide) ?_
    refine xw_callV (q2 := mX10_raise) (n2 := 1) (ci := 11) (Bs := [.int 1]) (rest := []) (ct_mraise h) dX10_run_14 rfl (o_at hR.1) rfl rfl tw_924 tw_926 tw_18 tw_47 tw_927 (by decide +kernel) rfl (Nat.le_of_ble_eq_true rfl) (Nat.le_of_ble_eq_true rfl) (Nat.le_of_ble_eq_true rfl) (fun rr M1 hr hle1 => ?_)
    obtain ⟨rfl, hR1, hE1⟩ := hr
    exact xw_iret rfl dX10_run_17 ⟨rfl, hR1, hE1⟩
  refine ct_go (by decide +kernel) (Nat.le_of_ble_eq_true rfl) (L := [(0, .ref m), (1, .int n), (2, .long p)]) rfl ?_
  refine xw_iload_n dX10_run_0 rfl rfl ?_
  refine xw_iconst (v := 1) dX10_run_1 (by decide) ?_
  refine xw_icmp_lt (tgt := 12) dX10_run_2 (by decide) (fun d1 => ?_) (fun d1 => ?_)
  · exact xw_pc rfl out
  · skip
    refine xw_iload_n dX10_run_5 rfl rfl ?_
    refine xw_sipush (v := 500) dX10_run_6 (by decide) ?_
    refine xw_icmp_le (tgt := 18) dX10_run_9 (by decide) (fun zz => absurd zz (show ¬ n ≤ 500 from fun zz => hn.elim d1 (fun w => absurd zz (by rw [Int32.not_le]; exact w)))) (fun _ => ?_)
    exact xw_pc rfl out
theorem ct_mrunB {n : Nat} {p : Int64} (h : RM M m B σ th K V) (hG : GS σ) (hn : 1 ≤ n ∧ n ≤ 500) (hal : sAl σ = 5000) : CT G 8 200 mX10_run [.ref m, .int (nI n), .long p] M (fun r M1 => r = some (.int 0) ∧ RM M1 m B σ 2 K V ∧ EF M M1 m B) := by
  obtain ⟨ρ, T, hR, h0, hAb, -⟩ := id h
  refine ct_go (by decide +kernel) (Nat.le_of_ble_eq_true rfl) (L := [(0, .ref m), (1, .int (nI n)), (2, .long p)]) rfl ?_
  refine xw_iload_n dX10_run_0 rfl rfl ?_
  refine xw_iconst (v := 1) dX10_run_1 (by decide) ?_
  refine xw_pc (pc2 := 2) rfl ?_
  refine xw_icmp_lt (tgt := 12) dX10_run_2 (by decide) (fun zz => absurd zz (show ¬ nI n < nI 1 from nI_nlt (by omega) (by omega))) (fun _ => ?_)
  refine xw_iload_n dX10_run_5 rfl rfl ?_
  refine xw_sipush (v := 500) dX10_run_6 (by decide) ?_
  refine xw_icmp_le (tgt := 18) dX10_run_9 (by decide) (fun _ => ?_) (fun zz => absurd (show nI n ≤ nI 500 from nI_le (by omega) (by decide)) zz)
  refine xw_aload_n dX10_run_18 rfl rfl ?_
  refine xw_get (ci := 11) (k := 38) (v := .int (ρ.1 38)) dX10_run_19 hR.1 rfl inX10 (by decide) tw_829 (Or.inl rfl) rfl ?_
  refine xw_sipush (v := 5000) dX10_run_22 (by decide) ?_
  rw [hAb.2.2.2.2.2.2.2.2.2]
  refine xw_icmp_ne (tgt := 34) dX10_run_25 (by decide) (fun zz => absurd (show nI (sAl σ) = nI 5000 by rw [hal]) zz) (fun _ => ?_)
  refine xw_aload_n dX10_run_28 rfl rfl ?_
  refine xw_iconst (v := 2) dX10_run_29 (by decide) ?_
  refine xw_callV (q2 := mX10_raise) (n2 := 1) (ci := 11) (Bs := [.int 2]) (rest := []) (ct_mraise h) dX10_run_30 rfl (o_at hR.1) rfl rfl tw_924 tw_926 tw_18 tw_47 tw_927 (by decide +kernel) rfl (Nat.le_of_ble_eq_true rfl) (Nat.le_of_ble_eq_true rfl) (Nat.le_of_ble_eq_true rfl) (fun rr M1 hr hle1 => ?_)
  obtain ⟨rfl, hR1, hE1⟩ := hr
  exact xw_iret rfl dX10_run_33 ⟨rfl, hR1, hE1⟩
theorem GS.up2 (h : GS σ) (hal : sAl σ < 5000) : GS (uAl (uW σ (sW σ + 1)) (sAl σ + 1)) := by
  obtain ⟨k1, k2, k3, k4, k5, k6, k7, k8, ⟨q1, q2, q3, q4, q5, q6⟩, k10⟩ := h
  refine ⟨k1, k2, k3, k4, k5, k6, k7, k8, ⟨q1, q2, ?_, ?_, ?_, q6⟩, k10⟩
  · show sW σ + 1 ≤ sAl σ + 1
    omega
  · show sAl σ + 1 ≤ 5000
    omega
  · show (sRs σ).length ≤ sW σ + 1
    omega
theorem ct_mrun {n : Nat} {p : Int64} (h : RM M m B σ th K V) (hG : GS σ) (hN : GN σ) (hK7 : GK σ) (hn : 1 ≤ n ∧ n ≤ 500) (hal : sAl σ < 5000) : CT G 8 200 mX10_run [.ref m, .int (nI n), .long p] M (fun r M1 => r = some (.int (nI (runs n p 0 σ).1)) ∧ (∃ K1 V1, RM M1 m B (runs n p 0 σ).2 0 K1 V1) ∧ GN (runs n p 0 σ).2 ∧ GK (runs n p 0 σ).2 ∧ EF M M1 m B) := by
  have loop : ∀ (S : Nat × hs_S) (k w : Nat) (q : Int64) (M' : hx_S) (σ' : hs_S) (K' : Nat → Int32) (V' : Nat → Int64), w + k = n → RM M' m B σ' 0 K' V' → GS σ' → GN σ' → GK σ' → runs k q w σ' = S → EF M M' m B → XW G 8 200 mX10_run [.ref m, .int (nI n), .long p] M (fun r M1 => r = some (.int (nI S.1)) ∧ (∃ K1 V1, RM M1 m B S.2 0 K1 V1) ∧ GN S.2 ∧ GK S.2 ∧ EF M M1 m B) M' 45 [(6, .int (nI w)), (4, .long q), (0, .ref m), (1, .int (nI n)), (2, .long p)] [] := by
    intro S k
    induction k with
    | zero =>
      intro w q M' σ' K' V' hwk hRM hG' hN' hK' hS hE
      refine xw_iload dX10_run_45 rfl ?_
      refine xw_iload_n dX10_run_47 rfl rfl ?_
      refine xw_icmp_ge (tgt := 132) dX10_run_48 (by decide) (fun _ => ?_) (fun zz => absurd (nI_le (show n ≤ w by omega) (by omega)) zz)
      refine xw_iload dX10_run_132 rfl ?_
      rw [← hS]
      exact xw_iret rfl dX10_run_134 ⟨rfl, ⟨K', V', hRM⟩, hN', hK', hE⟩
    | succ k ih =>
      intro w q M' σ' K' V' hwk hRM hG' hN' hK' hS hE
      obtain ⟨ρ, T, hR, h0, hAb, hT, hW⟩ := id hRM
      obtain ⟨hNd, hC, hAr, hRd, hK, hRs, hS1, hS2, hS3, hS4⟩ := id hAb
      obtain ⟨q1, q2, q3, q4, q5, q6⟩ := hG'.2.2.2.2.2.2.2.2.1
      have stop : sTr σ' ≠ 0 ∨ 5000 ≤ sAl σ' ∨ (sR σ').length = 0 → S = (w, σ') := fun z => by rw [← hS, runs_s, if_pos z]
      have out : S = (w, σ') → XW G 8 200 mX10_run [.ref m, .int (nI n), .long p] M (fun r M1 => r = some (.int (nI S.1)) ∧ (∃ K1 V1, RM M1 m B S.2 0 K1 V1) ∧ GN S.2 ∧ GK S.2 ∧ EF M M1 m B) M' 132 [(6, .int (nI w)), (4, .long q), (0, .ref m), (1, .int (nI n)), (2, .long p)] [] := by
        intro hs
        refine xw_iload dX10_run_132 rfl ?_
        rw [hs]
        exact xw_iret rfl dX10_run_134 ⟨rfl, ⟨K', V', hRM⟩, hN', hK', hE⟩
      refine xw_iload dX10_run_45 rfl ?_
      refine xw_iload_n dX10_run_47 rfl rfl ?_
      refine xw_pc (pc2 := 48) rfl ?_
      refine xw_icmp_ge (tgt := 132) dX10_run_48 (by decide) (fun zz => absurd zz (nI_ge (show w < n by omega) (by omega))) (fun _ => ?_)
      refine xw_aload_n dX10_run_51 rfl rfl ?_
      refine xw_get (ci := 11) (k := 23) (v := .int (ρ.1 23)) dX10_run_52 hR.1 rfl inX10 (by decide) tw_814 (Or.inl rfl) rfl ?_
      rw [hRd.1]
      refine xw_if_le (tgt := 132) dX10_run_55 (by decide) (fun d1 => ?_) (fun d1 => ?_)
      · have t2 : (sR σ').length = 0 := Nat.eq_zero_of_not_pos (fun z => absurd d1 (show ¬ nI (sR σ').length ≤ nI 0 from nI_ge z (by omega)))
        exact xw_pc rfl (out (stop (Or.inr (Or.inr t2))))
      · have t2 : 0 < (sR σ').length := Nat.pos_of_ne_zero (fun z => d1 (show nI (sR σ').length ≤ nI 0 from nI_le (by omega) (by decide)))
        refine xw_aload_n dX10_run_58 rfl rfl ?_
        refine xw_get (ci := 11) (k := 36) (v := .int (ρ.1 36)) dX10_run_59 hR.1 rfl inX10 (by decide) tw_827 (Or.inl rfl) rfl ?_
        rw [hS2]
        refine xw_if_ne (tgt := 132) dX10_run_62 (by decide) (fun d2 => ?_) (fun d2 => ?_)
        · exact xw_pc rfl (out (stop (Or.inl (fun zz => d2 (by rw [zz]; rfl)))))
        · have t0 : sTr σ' = 0 := (nI_eq (by omega) (by decide)).mp (show nI (sTr σ') = nI 0 from d2)
          refine xw_aload_n dX10_run_65 rfl rfl ?_
          refine xw_get (ci := 11) (k := 38) (v := .int (ρ.1 38)) dX10_run_66 hR.1 rfl inX10 (by decide) tw_829 (Or.inl rfl) rfl ?_
          refine xw_sipush (v := 5000) dX10_run_69 (by decide) ?_
          rw [hS4]
          refine xw_icmp_ge (tgt := 132) dX10_run_72 (by decide) (fun d3 => ?_) (fun d3 => ?_)
          · have t1 : 5000 ≤ sAl σ' := Nat.le_of_not_lt (fun zz => absurd d3 (show ¬ nI 5000 ≤ nI (sAl σ') from nI_ge zz (by decide)))
            exact xw_pc rfl (out (stop (Or.inr (Or.inl t1))))
          · have t1 : sAl σ' < 5000 := Nat.lt_of_not_le (fun zz => d3 (show nI 5000 ≤ nI (sAl σ') from nI_le zz (by omega)))
            have hm : (sR σ').length < 2 ^ 31 := by omega
            have hne0 : ¬ (nI (sR σ').length).toInt64 = 0 := by
              intro zz
              rw [nI_l hm] at zz
              have q := congrArg Int64.toInt zz
              rw [pk_lT (show (sR σ').length < 2 ^ 63 by omega)] at q
              have q0 : (0 : Int64).toInt = 0 := by decide
              omega
            refine xw_lload dX10_run_75 rfl ?_
            refine xw_iconst (v := 1) dX10_run_77 (by decide) ?_
            refine xw_lushr dX10_run_78 ?_
            refine xw_aload_n dX10_run_79 rfl rfl ?_
            refine xw_get (ci := 11) (k := 23) (v := .int (ρ.1 23)) dX10_run_80 hR.1 rfl inX10 (by decide) tw_814 (Or.inl rfl) rfl ?_
            rw [hRd.1]
            refine xw_i2l dX10_run_83 ?_
            refine xw_pc (pc2 := 84) rfl ?_
            refine xw_lrem dX10_run_84 hne0 ?_
            refine xw_l2i dX10_run_85 ?_
            obtain ⟨hj, hje⟩ := pick_ok q t2 hm
            refine Eq.mp (congrArg (fun z => XW G 8 200 mX10_run [.ref m, .int (nI n), .long p] M _ _ _ _ [.int z]) hje.symm) ?_
            obtain ⟨j, hjd⟩ : ∃ j, j = pick q (sR σ').length := ⟨_, rfl⟩
            rw [← hjd] at hj ⊢
            refine xw_istore (L2 := [(7, .int (nI j)), (6, .int (nI w)), (4, .long q), (0, .ref m), (1, .int (nI n)), (2, .long p)]) dX10_run_86 (by decide) rfl ?_
            refine xw_lload dX10_run_88 rfl ?_
            refine xw_ldc2 (v := 25214903917) tw_959 dX10_run_90 ?_
            refine xw_lmul dX10_run_93 ?_
            refine xw_ldc2 (v := 11) tw_960 dX10_run_94 ?_
            refine xw_ladd dX10_run_97 ?_
            refine xw_lstore (L2 := [(4, .long ((q * 25214903917) + 11)), (7, .int (nI j)), (6, .int (nI w)), (0, .ref m), (1, .int (nI n)), (2, .long p)]) dX10_run_98 (by decide) rfl ?_
            refine xw_iinc (v := (nI w) + 1) (L2 := [(6, .int ((nI w) + 1)), (4, .long ((q * 25214903917) + 11)), (7, .int (nI j)), (0, .ref m), (1, .int (nI n)), (2, .long p)]) dX10_run_100 rfl rfl (by decide) rfl ?_
            refine xw_aload_n dX10_run_103 rfl rfl ?_
            refine xw_dup dX10_run_104 rfl ?_
            refine xw_get (ci := 11) (k := 37) (v := .int (ρ.1 37)) dX10_run_105 hR.1 rfl inX10 (by decide) tw_828 (Or.inl rfl) rfl ?_
            refine xw_iconst (v := 1) dX10_run_108 (by decide) ?_
            refine xw_iadd dX10_run_109 ?_
            refine xw_pc (pc2 := 110) rfl ?_
            rw [hS3, nI_1, nI_1]
            refine xw_put (ci := 11) (k := 37) tyX10 dX10_run_110 hR.1 rfl inX10 tyX10_ok nmX10 (by decide) tw_828 (Or.inl rfl) rfl rfl rfl rfl (Nat.le_of_ble_eq_true rfl) ?_
            dsimp only [flM, List.set]
            have hR1 : RW (oput M' 11 m (some [.int (ρ.1 0), .int (ρ.1 1), .ref (B 2), .ref (B 3), .ref (B 4), .ref (B 5), .ref (B 6), .ref (B 7), .int (ρ.1 8), .int (ρ.1 9), .ref (B 10), .ref (B 11), .ref (B 12), .int (ρ.1 13), .ref (B 14), .ref (B 15), .ref (B 16), .int (ρ.1 17), .ref (B 18), .ref (B 19), .ref (B 20), .ref (B 21), .ref (B 22), .int (ρ.1 23), .ref (B 24), .ref (B 25), .ref (B 26), .ref (B 27), .int (ρ.1 28), .ref (B 29), .ref (B 30), .ref (B 31), .int (ρ.1 32), .ref (B 33), .ref (B 34), .ref (B 35), .int (ρ.1 36), .int ((nI (sW σ' + 1))), .int (ρ.1 38), .ref (B 39), .ref (B 40)])) m B (rS ρ 37 (nI (sW σ' + 1))) := hR.sset (k := 37) (v := (nI (sW σ' + 1)))
            have hE1 : EF M (oput M' 11 m (some [.int (ρ.1 0), .int (ρ.1 1), .ref (B 2), .ref (B 3), .ref (B 4), .ref (B 5), .ref (B 6), .ref (B 7), .int (ρ.1 8), .int (ρ.1 9), .ref (B 10), .ref (B 11), .ref (B 12), .int (ρ.1 13), .ref (B 14), .ref (B 15), .ref (B 16), .int (ρ.1 17), .ref (B 18), .ref (B 19), .ref (B 20), .ref (B 21), .ref (B 22), .int (ρ.1 23), .ref (B 24), .ref (B 25), .ref (B 26), .ref (B 27), .int (ρ.1 28), .ref (B 29), .ref (B 30), .ref (B 31), .int (ρ.1 32), .ref (B 33), .ref (B 34), .ref (B 35), .int (ρ.1 36), .int ((nI (sW σ' + 1))), .int (ρ.1 38), .ref (B 39), .ref (B 40)])) m B := hE.tr EF.o
            generalize oput M' 11 m (some [.int (ρ.1 0), .int (ρ.1 1), .ref (B 2), .ref (B 3), .ref (B 4), .ref (B 5), .ref (B 6), .ref (B 7), .int (ρ.1 8), .int (ρ.1 9), .ref (B 10), .ref (B 11), .ref (B 12), .int (ρ.1 13), .ref (B 14), .ref (B 15), .ref (B 16), .int (ρ.1 17), .ref (B 18), .ref (B 19), .ref (B 20), .ref (B 21), .ref (B 22), .int (ρ.1 23), .ref (B 24), .ref (B 25), .ref (B 26), .ref (B 27), .int (ρ.1 28), .ref (B 29), .ref (B 30), .ref (B 31), .int (ρ.1 32), .ref (B 33), .ref (B 34), .ref (B 35), .int (ρ.1 36), .int ((nI (sW σ' + 1))), .int (ρ.1 38), .ref (B 39), .ref (B 40)]) = M1 at hR1 hE1 ⊢
            have hA1 := (AG.rf [37, 38] ρ).s (k := 37) (v := (nI (sW σ' + 1))) (by decide)
            refine xw_aload_n dX10_run_113 rfl rfl ?_
            refine xw_dup dX10_run_114 rfl ?_
            refine xw_get (ci := 11) (k := 38) (v := .int ((rS ρ 37 (nI (sW σ' + 1))).1 38)) dX10_run_115 hR1.1 rfl inX10 (by decide) tw_829 (Or.inl rfl) rfl ?_
            refine xw_iconst (v := 1) dX10_run_118 (by decide) ?_
            refine xw_iadd dX10_run_119 ?_
            rw [show (rS ρ 37 (nI (sW σ' + 1))).1 38 = nI (sAl σ') from hS4, nI_1]
            refine xw_put (ci := 11) (k := 38) tyX10 dX10_run_120 hR1.1 rfl inX10 tyX10_ok nmX10 (by decide) tw_829 (Or.inl rfl) rfl rfl rfl rfl (Nat.le_of_ble_eq_true rfl) ?_
            dsimp only [flM, List.set]
            have hR2 : RW (oput M1 11 m (some [.int ((rS ρ 37 (nI (sW σ' + 1))).1 0), .int ((rS ρ 37 (nI (sW σ' + 1))).1 1), .ref (B 2), .ref (B 3), .ref (B 4), .ref (B 5), .ref (B 6), .ref (B 7), .int ((rS ρ 37 (nI (sW σ' + 1))).1 8), .int ((rS ρ 37 (nI (sW σ' + 1))).1 9), .ref (B 10), .ref (B 11), .ref (B 12), .int ((rS ρ 37 (nI (sW σ' + 1))).1 13), .ref (B 14), .ref (B 15), .ref (B 16), .int ((rS ρ 37 (nI (sW σ' + 1))).1 17), .ref (B 18), .ref (B 19), .ref (B 20), .ref (B 21), .ref (B 22), .int ((rS ρ 37 (nI (sW σ' + 1))).1 23), .ref (B 24), .ref (B 25), .ref (B 26), .ref (B 27), .int ((rS ρ 37 (nI (sW σ' + 1))).1 28), .ref (B 29), .ref (B 30), .ref (B 31), .int ((rS ρ 37 (nI (sW σ' + 1))).1 32), .ref (B 33), .ref (B 34), .ref (B 35), .int ((rS ρ 37 (nI (sW σ' + 1))).1 36), .int ((rS ρ 37 (nI (sW σ' + 1))).1 37), .int ((nI (sAl σ' + 1))), .ref (B 39), .ref (B 40)])) m B (rS (rS ρ 37 (nI (sW σ' + 1))) 38 (nI (sAl σ' + 1))) := hR1.sset (k := 38) (v := (nI (sAl σ' + 1)))
            have hE2 : EF M (oput M1 11 m (some [.int ((rS ρ 37 (nI (sW σ' + 1))).1 0), .int ((rS ρ 37 (nI (sW σ' + 1))).1 1), .ref (B 2), .ref (B 3), .ref (B 4), .ref (B 5), .ref (B 6), .ref (B 7), .int ((rS ρ 37 (nI (sW σ' + 1))).1 8), .int ((rS ρ 37 (nI (sW σ' + 1))).1 9), .ref (B 10), .ref (B 11), .ref (B 12), .int ((rS ρ 37 (nI (sW σ' + 1))).1 13), .ref (B 14), .ref (B 15), .ref (B 16), .int ((rS ρ 37 (nI (sW σ' + 1))).1 17), .ref (B 18), .ref (B 19), .ref (B 20), .ref (B 21), .ref (B 22), .int ((rS ρ 37 (nI (sW σ' + 1))).1 23), .ref (B 24), .ref (B 25), .ref (B 26), .ref (B 27), .int ((rS ρ 37 (nI (sW σ' + 1))).1 28), .ref (B 29), .ref (B 30), .ref (B 31), .int ((rS ρ 37 (nI (sW σ' + 1))).1 32), .ref (B 33), .ref (B 34), .ref (B 35), .int ((rS ρ 37 (nI (sW σ' + 1))).1 36), .int ((rS ρ 37 (nI (sW σ' + 1))).1 37), .int ((nI (sAl σ' + 1))), .ref (B 39), .ref (B 40)])) m B := hE1.tr EF.o
            generalize oput M1 11 m (some [.int ((rS ρ 37 (nI (sW σ' + 1))).1 0), .int ((rS ρ 37 (nI (sW σ' + 1))).1 1), .ref (B 2), .ref (B 3), .ref (B 4), .ref (B 5), .ref (B 6), .ref (B 7), .int ((rS ρ 37 (nI (sW σ' + 1))).1 8), .int ((rS ρ 37 (nI (sW σ' + 1))).1 9), .ref (B 10), .ref (B 11), .ref (B 12), .int ((rS ρ 37 (nI (sW σ' + 1))).1 13), .ref (B 14), .ref (B 15), .ref (B 16), .int ((rS ρ 37 (nI (sW σ' + 1))).1 17), .ref (B 18), .ref (B 19), .ref (B 20), .ref (B 21), .ref (B 22), .int ((rS ρ 37 (nI (sW σ' + 1))).1 23), .ref (B 24), .ref (B 25), .ref (B 26), .ref (B 27), .int ((rS ρ 37 (nI (sW σ' + 1))).1 28), .ref (B 29), .ref (B 30), .ref (B 31), .int ((rS ρ 37 (nI (sW σ' + 1))).1 32), .ref (B 33), .ref (B 34), .ref (B 35), .int ((rS ρ 37 (nI (sW σ' + 1))).1 36), .int ((rS ρ 37 (nI (sW σ' + 1))).1 37), .int ((nI (sAl σ' + 1))), .ref (B 39), .ref (B 40)]) = M2 at hR2 hE2 ⊢
            have hA2 := hA1.s (k := 38) (v := (nI (sAl σ' + 1))) (by decide)
            obtain ⟨σ2, hσ2⟩ : ∃ σ2, σ2 = uAl (uW σ' (sW σ' + 1)) (sAl σ' + 1) := ⟨_, rfl⟩
            have sR2 : sR σ2 = sR σ' := by rw [hσ2, sR_uAl, sR_uW]
            have sN2 : sN σ2 = sN σ' := by rw [hσ2, sN_uAl, sN_uW]
            have sK2 : sK σ2 = sK σ' := by rw [hσ2, sK_uAl, sK_uW]
            have hG2 : GS σ2 := by rw [hσ2]; exact hG'.up2 t1
            have hN2 : GN σ2 := hN'.cg sN2
            have hK2 : GK σ2 := hK'.sub sN2 (fun x hx => by rw [sK2] at hx; exact hx)
            have hRM2 : RM M2 m B σ2 0 K' V' := by
              refine ⟨_, T, hR2, ⟨(hA2 0 (by decide)).1.trans h0.1, (hA2 39 (by decide)).2.1.trans h0.2.1, (hA2 40 (by decide)).2.2.trans h0.2.2⟩, ⟨?_, ?_, ?_, ?_, ?_, ?_, ?_⟩, hT.ag hA2 (by decide), hW.1, ?_⟩
              · rw [sN2]; exact hNd.ag hA2 (by decide)
              · rw [hσ2, sC_uAl, sC_uW]; exact hC.ag hA2 (by decide)
              · rw [hσ2, sA_uAl, sA_uW, sLe_uAl, sLe_uW, sCe_uAl, sCe_uW]; exact hAr.ag hA2 (by decide)
              · rw [sR2]; exact hRd.ag hA2 (by decide)
              · rw [sK2]; exact hK.ag hA2 (by decide)
              · rw [hσ2, sRs_uAl, sRs_uW]; exact hRs.ag hA2 (by decide)
              · unfold HSc
                rw [hσ2, sB_uAl, sB_uW, sTr_uAl, sTr_uW, sW_uAl, sW_uW, sAl_uAl, (hA2 8 (by decide)).1, (hA2 36 (by decide)).1]
                exact ⟨hS1, hS2, rfl, rfl⟩
              · intro a b c' d; rw [hσ2, sT_uAl, sT_uW]; exact hW.2 a b c' d
            obtain ⟨x, hx⟩ : ∃ x, (sR σ')[j]? = some x := ⟨_, List.getElem?_eq_getElem hj⟩
            obtain ⟨g1, g2, g3, g4⟩ := hG'.2.2.2.2.2.1 x (List.mem_of_getElem? hx)
            have hrs2 : (sRs σ2).length < 5001 := by rw [hσ2, sRs_uAl, sRs_uW]; omega
            have hup : uR σ2 ((sR σ2).eraseIdx j) = upW σ' j := by rw [sR2, hσ2]; rfl
            have qg := ct_mgo (G := G) (k := j) (w := x) hRM2 hG2 hN2 hK2 (by rw [sR2]; exact hx) hrs2
            rw [hup] at qg
            refine xw_aload_n dX10_run_123 rfl rfl ?_
            refine xw_iload dX10_run_124 rfl ?_
            refine xw_callV (q2 := mX10_go) (n2 := 1) (ci := 11) (Bs := [.int (nI j)]) (rest := []) (qg) dX10_run_126 rfl (o_at hR2.1) rfl rfl tw_961 tw_963 tw_23 tw_47 tw_964 (by decide +kernel) rfl (Nat.le_of_ble_eq_true rfl) (Nat.le_of_ble_eq_true rfl) (Nat.le_of_ble_eq_true rfl) (fun rr M1 hr hle1 => ?_)
            obtain ⟨rfl, K3, V3, hRM3, hE3⟩ := hr
            refine xw_goto (tgt := 45) dX10_run_129 (by decide) ?_
            refine xw_sub (L2 := [(6, .int (nI (w + 1))), (4, .long ((q * 25214903917) + 11)), (0, .ref m), (1, .int (nI n)), (2, .long p)]) (.cons_cons _ (.cons_cons _ (.cons _ (.cons_cons _ (.cons_cons _ (.cons_cons _ .slnil)))))) ?_
            have hrl : ((sR σ').eraseIdx j).length + 1 = (sR σ').length := by rw [List.length_eraseIdx_of_lt hj]; omega
            have u6 := upW_6 σ' j
            have hGu : GS (upW σ' j) := hG'.up t1
            have hGa : GS (acts (upW σ' j) x.1 x.2.1 x.2.2) := by
              refine GS.acts hGu ?_ ?_ ?_ ?_ ?_ ?_
              · show x.1 < (sN (upW σ' j)).length
                rw [u6.1, sN_uR]; exact g1
              · rw [u6.2.1, sC_uR]; exact g2
              · rw [u6.2.2.1, sA_uR, pts_cg (u6.1.trans (sN_uR _ _))]; exact g3
              · rw [pts_cg (u6.1.trans (sN_uR _ _))]; exact g4
              · show sNt σ' + ((sR σ').eraseIdx j).length + (sK σ').length < 300
                omega
              · show (sRs σ').length < sW σ' + 1
                omega
            have hNa : GN (acts (upW σ' j) x.1 x.2.1 x.2.2) := hN'.cg ((acts_k _ _ _ _).1.trans (u6.1.trans (sN_uR _ _)))
            have hKu : GK (upW σ' j) := hK'.sub (u6.1.trans (sN_uR _ _)) (fun y hy => by rw [(upW_3 σ' j).2.2, sK_uR] at hy; exact hy)
            refine ih (w + 1) _ M1 _ K3 V3 (by omega) hRM3 hGa hNa hKu.acts ?_ (hE2.tr hE3)
            rw [← hS, runs_s, if_neg (by omega), ← hjd, hx, goAt_some]
  obtain ⟨ρ, T, hR, h0, hAb, hT, hW⟩ := id h
  refine ct_go (by decide +kernel) (Nat.le_of_ble_eq_true rfl) (L := [(0, .ref m), (1, .int (nI n)), (2, .long p)]) rfl ?_
  refine xw_iload_n dX10_run_0 rfl rfl ?_
  refine xw_iconst (v := 1) dX10_run_1 (by decide) ?_
  refine xw_icmp_lt (tgt := 12) dX10_run_2 (by decide) (fun zz => absurd zz (show ¬ nI n < nI 1 from nI_nlt (by omega) (by omega))) (fun _ => ?_)
  refine xw_iload_n dX10_run_5 rfl rfl ?_
  refine xw_sipush (v := 500) dX10_run_6 (by decide) ?_
  refine xw_icmp_le (tgt := 18) dX10_run_9 (by decide) (fun _ => ?_) (fun zz => absurd (show nI n ≤ nI 500 from nI_le (by omega) (by decide)) zz)
  refine xw_aload_n dX10_run_18 rfl rfl ?_
  refine xw_get (ci := 11) (k := 38) (v := .int (ρ.1 38)) dX10_run_19 hR.1 rfl inX10 (by decide) tw_829 (Or.inl rfl) rfl ?_
  refine xw_sipush (v := 5000) dX10_run_22 (by decide) ?_
  refine xw_pc (pc2 := 25) rfl ?_
  rw [hAb.2.2.2.2.2.2.2.2.2]
  refine xw_icmp_ne (tgt := 34) dX10_run_25 (by decide) (fun _ => ?_) (fun zz => absurd zz (show ¬ nI (sAl σ) = nI 5000 from fun zz => by have := (nI_eq (by omega) (by decide)).mp zz; omega))
  refine xw_aload_n dX10_run_34 rfl rfl ?_
  refine xw_iconst (v := 0) dX10_run_35 (by decide) ?_
  refine xw_put (ci := 11) (k := 0) tyX10 dX10_run_36 hR.1 rfl inX10 tyX10_ok nmX10 (by decide) tw_791 (Or.inl rfl) rfl rfl rfl rfl (Nat.le_of_ble_eq_true rfl) ?_
  dsimp only [flM, List.set]
  have hR1 : RW (oput M 11 m (some [.int (0), .int (ρ.1 1), .ref (B 2), .ref (B 3), .ref (B 4), .ref (B 5), .ref (B 6), .ref (B 7), .int (ρ.1 8), .int (ρ.1 9), .ref (B 10), .ref (B 11), .ref (B 12), .int (ρ.1 13), .ref (B 14), .ref (B 15), .ref (B 16), .int (ρ.1 17), .ref (B 18), .ref (B 19), .ref (B 20), .ref (B 21), .ref (B 22), .int (ρ.1 23), .ref (B 24), .ref (B 25), .ref (B 26), .ref (B 27), .int (ρ.1 28), .ref (B 29), .ref (B 30), .ref (B 31), .int (ρ.1 32), .ref (B 33), .ref (B 34), .ref (B 35), .int (ρ.1 36), .int (ρ.1 37), .int (ρ.1 38), .ref (B 39), .ref (B 40)])) m B (rS ρ 0 0) := hR.sset (k := 0) (v := 0)
  have hE1 : EF M (oput M 11 m (some [.int (0), .int (ρ.1 1), .ref (B 2), .ref (B 3), .ref (B 4), .ref (B 5), .ref (B 6), .ref (B 7), .int (ρ.1 8), .int (ρ.1 9), .ref (B 10), .ref (B 11), .ref (B 12), .int (ρ.1 13), .ref (B 14), .ref (B 15), .ref (B 16), .int (ρ.1 17), .ref (B 18), .ref (B 19), .ref (B 20), .ref (B 21), .ref (B 22), .int (ρ.1 23), .ref (B 24), .ref (B 25), .ref (B 26), .ref (B 27), .int (ρ.1 28), .ref (B 29), .ref (B 30), .ref (B 31), .int (ρ.1 32), .ref (B 33), .ref (B 34), .ref (B 35), .int (ρ.1 36), .int (ρ.1 37), .int (ρ.1 38), .ref (B 39), .ref (B 40)])) m B := (EF.rf M m B).tr EF.o
  generalize oput M 11 m (some [.int (0), .int (ρ.1 1), .ref (B 2), .ref (B 3), .ref (B 4), .ref (B 5), .ref (B 6), .ref (B 7), .int (ρ.1 8), .int (ρ.1 9), .ref (B 10), .ref (B 11), .ref (B 12), .int (ρ.1 13), .ref (B 14), .ref (B 15), .ref (B 16), .int (ρ.1 17), .ref (B 18), .ref (B 19), .ref (B 20), .ref (B 21), .ref (B 22), .int (ρ.1 23), .ref (B 24), .ref (B 25), .ref (B 26), .ref (B 27), .int (ρ.1 28), .ref (B 29), .ref (B 30), .ref (B 31), .int (ρ.1 32), .ref (B 33), .ref (B 34), .ref (B 35), .int (ρ.1 36), .int (ρ.1 37), .int (ρ.1 38), .ref (B 39), .ref (B 40)]) = M1 at hR1 hE1 ⊢
  refine xw_lload_n dX10_run_39 rfl rfl ?_
  refine xw_lstore (L2 := [(4, .long p), (0, .ref m), (1, .int (nI n)), (2, .long p)]) dX10_run_40 (by decide) rfl ?_
  refine xw_iconst (v := 0) dX10_run_42 (by decide) ?_
  refine xw_istore (L2 := [(6, .int 0), (4, .long p), (0, .ref m), (1, .int (nI n)), (2, .long p)]) dX10_run_43 (by decide) rfl ?_
  exact xw_pc rfl (loop (runs n p 0 σ) n 0 p M1 σ K V (by omega) (RM.th' hR h0.2 hAb hT hW hR1) hG hN hK7 rfl hE1)
end MRUN2
