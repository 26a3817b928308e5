/-! THE REFERENCE: total, ready, token, clear -/
section MPUB
variable {G : hx_G} {M M1 : hx_S} {m : Nat} {B : Nat → Nat} {ρ ρ' : hr_S} {σ σ' : hs_S} {T : List TK} {i c s na d : Nat} {x y z : V2} {th : Int32} {K : Nat → Int32} {V : Nat → Int64} {t : Nat → Option V2}
theorem ct_mtotal {w : Int32} (h : RM M m B σ th K V) (hG : GS σ) : CT G 0 0 mX10_total [.ref m, .int w] M (fun r M1 => r = some (.int (tot σ w)) ∧ RM M1 m B σ 0 K V ∧ EF M M1 m B) := by
  obtain ⟨ρ0, T0, hR0, h00, hAb0, hT0, hW0⟩ := id h
  refine ct_go (by decide +kernel) (Nat.le_of_ble_eq_true rfl) (L := [(0, .ref m), (1, .int w)]) rfl ?_
  refine xw_aload_n dX10_total_0 rfl rfl ?_
  refine xw_iconst (v := 0) dX10_total_1 (by decide) ?_
  refine xw_put (ci := 11) (k := 0) tyX10 dX10_total_2 hR0.1 rfl inX10 tyX10_ok nmX10 (by decide) tw_791 (Or.inl rfl) rfl rfl rfl rfl (Nat.le_of_ble_eq_true rfl) ?_
  dsimp only [flM, List.set]
  have hR1 : RW (oput M 11 m (some [.int (0), .int (ρ0.1 1), .ref (B 2), .ref (B 3), .ref (B 4), .ref (B 5), .ref (B 6), .ref (B 7), .int (ρ0.1 8), .int (ρ0.1 9), .ref (B 10), .ref (B 11), .ref (B 12), .int (ρ0.1 13), .ref (B 14), .ref (B 15), .ref (B 16), .int (ρ0.1 17), .ref (B 18), .ref (B 19), .ref (B 20), .ref (B 21), .ref (B 22), .int (ρ0.1 23), .ref (B 24), .ref (B 25), .ref (B 26), .ref (B 27), .int (ρ0.1 28), .ref (B 29), .ref (B 30), .ref (B 31), .int (ρ0.1 32), .ref (B 33), .ref (B 34), .ref (B 35), .int (ρ0.1 36), .int (ρ0.1 37), .int (ρ0.1 38), .ref (B 39), .ref (B 40)])) m B (rS ρ0 0 0) := hR0.sset (k := 0) (v := 0)
  have hE1 : EF M (oput M 11 m (some [.int (0), .int (ρ0.1 1), .ref (B 2), .ref (B 3), .ref (B 4), .ref (B 5), .ref (B 6), .ref (B 7), .int (ρ0.1 8), .int (ρ0.1 9), .ref (B 10), .ref (B 11), .ref (B 12), .int (ρ0.1 13), .ref (B 14), .ref (B 15), .ref (B 16), .int (ρ0.1 17), .ref (B 18), .ref (B 19), .ref (B 20), .ref (B 21), .ref (B 22), .int (ρ0.1 23), .ref (B 24), .ref (B 25), .ref (B 26), .ref (B 27), .int (ρ0.1 28), .ref (B 29), .ref (B 30), .ref (B 31), .int (ρ0.1 32), .ref (B 33), .ref (B 34), .ref (B 35), .int (ρ0.1 36), .int (ρ0.1 37), .int (ρ0.1 38), .ref (B 39), .ref (B 40)])) m B := (EF.rf M m B).tr EF.o
  generalize oput M 11 m (some [.int (0), .int (ρ0.1 1), .ref (B 2), .ref (B 3), .ref (B 4), .ref (B 5), .ref (B 6), .ref (B 7), .int (ρ0.1 8), .int (ρ0.1 9), .ref (B 10), .ref (B 11), .ref (B 12), .int (ρ0.1 13), .ref (B 14), .ref (B 15), .ref (B 16), .int (ρ0.1 17), .ref (B 18), .ref (B 19), .ref (B 20), .ref (B 21), .ref (B 22), .int (ρ0.1 23), .ref (B 24), .ref (B 25), .ref (B 26), .ref (B 27), .int (ρ0.1 28), .ref (B 29), .ref (B 30), .ref (B 31), .int (ρ0.1 32), .ref (B 33), .ref (B 34), .ref (B 35), .int (ρ0.1 36), .int (ρ0.1 37), .int (ρ0.1 38), .ref (B 39), .ref (B 40)]) = M1 at hR1 hE1 ⊢
  have hRM : RM M1 m B σ 0 K V := RM.th' hR0 h00.2 hAb0 hT0 hW0 hR1
  obtain ⟨ρ, T, hR, h0, hAb, hT, hW⟩ := id hRM
  have hT17 : ρ.1 17 = nI (sNt σ) := by rw [hT.1, hW.len hG]
  refine xw_iload_n dX10_total_5 rfl rfl ?_
  by_cases v0 : w = nI 0
  · have ht : tot σ w = tot σ (nI 0) := by rw [v0]
    rw [ht]
    rw [v0]
    refine xw_tableIn (off := 54) (tgt := 60) dX10_total_6 (by decide +kernel) (by decide +kernel) (by decide +kernel) rfl ?_
    refine xw_aload_n dX10_total_60 rfl rfl ?_
    refine xw_get (ci := 11) (k := 1) (v := .int (ρ.1 1)) dX10_total_61 hR.1 rfl inX10 (by decide) tw_792 (Or.inl rfl) rfl ?_
    rw [hAb.1.1]
    exact xw_iret rfl dX10_total_64 ⟨rfl, hRM, hE1⟩
  · skip
    by_cases v1 : w = nI 1
    · have ht : tot σ w = tot σ (nI 1) := by rw [v1]
      rw [ht]
      rw [v1]
      refine xw_tableIn (off := 59) (tgt := 65) dX10_total_6 (by decide +kernel) (by decide +kernel) (by decide +kernel) rfl ?_
      refine xw_aload_n dX10_total_65 rfl rfl ?_
      refine xw_get (ci := 11) (k := 23) (v := .int (ρ.1 23)) dX10_total_66 hR.1 rfl inX10 (by decide) tw_814 (Or.inl rfl) rfl ?_
      rw [hAb.2.2.2.1.1]
      exact xw_iret rfl dX10_total_69 ⟨rfl, hRM, hE1⟩
    · skip
      by_cases v2 : w = nI 2
      · have ht : tot σ w = tot σ (nI 2) := by rw [v2]
        rw [ht]
        rw [v2]
        refine xw_tableIn (off := 64) (tgt := 70) dX10_total_6 (by decide +kernel) (by decide +kernel) (by decide +kernel) rfl ?_
        refine xw_aload_n dX10_total_70 rfl rfl ?_
        refine xw_get (ci := 11) (k := 17) (v := .int (ρ.1 17)) dX10_total_71 hR.1 rfl inX10 (by decide) tw_808 (Or.inl rfl) rfl ?_
        rw [hT17]
        exact xw_iret rfl dX10_total_74 ⟨rfl, hRM, hE1⟩
      · skip
        by_cases v3 : w = nI 3
        · have ht : tot σ w = tot σ (nI 3) := by rw [v3]
          rw [ht]
          rw [v3]
          refine xw_tableIn (off := 69) (tgt := 75) dX10_total_6 (by decide +kernel) (by decide +kernel) (by decide +kernel) rfl ?_
          refine xw_aload_n dX10_total_75 rfl rfl ?_
          refine xw_get (ci := 11) (k := 32) (v := .int (ρ.1 32)) dX10_total_76 hR.1 rfl inX10 (by decide) tw_823 (Or.inl rfl) rfl ?_
          rw [hAb.2.2.2.2.2.1.1]
          exact xw_iret rfl dX10_total_79 ⟨rfl, hRM, hE1⟩
        · skip
          by_cases v4 : w = nI 4
          · have ht : tot σ w = tot σ (nI 4) := by rw [v4]
            rw [ht]
            rw [v4]
            refine xw_tableIn (off := 74) (tgt := 80) dX10_total_6 (by decide +kernel) (by decide +kernel) (by decide +kernel) rfl ?_
            refine xw_aload_n dX10_total_80 rfl rfl ?_
            refine xw_get (ci := 11) (k := 9) (v := .int (ρ.1 9)) dX10_total_81 hR.1 rfl inX10 (by decide) tw_800 (Or.inl rfl) rfl ?_
            refine xw_pc (pc2 := 84) rfl ?_
            rw [hAb.2.1.1]
            exact xw_iret rfl dX10_total_84 ⟨rfl, hRM, hE1⟩
          · skip
            by_cases v5 : w = nI 5
            · have ht : tot σ w = tot σ (nI 5) := by rw [v5]
              rw [ht]
              rw [v5]
              refine xw_tableIn (off := 79) (tgt := 85) dX10_total_6 (by decide +kernel) (by decide +kernel) (by decide +kernel) rfl ?_
              refine xw_aload_n dX10_total_85 rfl rfl ?_
              refine xw_get (ci := 11) (k := 13) (v := .int (ρ.1 13)) dX10_total_86 hR.1 rfl inX10 (by decide) tw_804 (Or.inl rfl) rfl ?_
              rw [hAb.2.2.1.1]
              exact xw_iret rfl dX10_total_89 ⟨rfl, hRM, hE1⟩
            · skip
              by_cases v6 : w = nI 6
              · have ht : tot σ w = tot σ (nI 6) := by rw [v6]
                rw [ht]
                rw [v6]
                refine xw_tableIn (off := 84) (tgt := 90) dX10_total_6 (by decide +kernel) (by decide +kernel) (by decide +kernel) rfl ?_
                refine xw_aload_n dX10_total_90 rfl rfl ?_
                refine xw_get (ci := 11) (k := 28) (v := .int (ρ.1 28)) dX10_total_91 hR.1 rfl inX10 (by decide) tw_819 (Or.inl rfl) rfl ?_
                rw [hAb.2.2.2.2.1.1]
                exact xw_iret rfl dX10_total_94 ⟨rfl, hRM, hE1⟩
              · skip
                by_cases v7 : w = nI 7
                · have ht : tot σ w = tot σ (nI 7) := by rw [v7]
                  rw [ht]
                  rw [v7]
                  refine xw_tableIn (off := 89) (tgt := 95) dX10_total_6 (by decide +kernel) (by decide +kernel) (by decide +kernel) rfl ?_
                  refine xw_aload_n dX10_total_95 rfl rfl ?_
                  refine xw_get (ci := 11) (k := 36) (v := .int (ρ.1 36)) dX10_total_96 hR.1 rfl inX10 (by decide) tw_827 (Or.inl rfl) rfl ?_
                  rw [hAb.2.2.2.2.2.2.2.1]
                  exact xw_iret rfl dX10_total_99 ⟨rfl, hRM, hE1⟩
                · skip
                  by_cases v8 : w = nI 8
                  · have ht : tot σ w = tot σ (nI 8) := by rw [v8]
                    rw [ht]
                    rw [v8]
                    refine xw_tableIn (off := 94) (tgt := 100) dX10_total_6 (by decide +kernel) (by decide +kernel) (by decide +kernel) rfl ?_
                    refine xw_aload_n dX10_total_100 rfl rfl ?_
                    refine xw_get (ci := 11) (k := 37) (v := .int (ρ.1 37)) dX10_total_101 hR.1 rfl inX10 (by decide) tw_828 (Or.inl rfl) rfl ?_
                    rw [hAb.2.2.2.2.2.2.2.2.1]
                    exact xw_iret rfl dX10_total_104 ⟨rfl, hRM, hE1⟩
                  · skip
                    by_cases v9 : w = nI 9
                    · have ht : tot σ w = tot σ (nI 9) := by rw [v9]
                      rw [ht]
                      rw [v9]
                      refine xw_tableIn (off := 99) (tgt := 105) dX10_total_6 (by decide +kernel) (by decide +kernel) (by decide +kernel) rfl ?_
                      refine xw_aload_n dX10_total_105 rfl rfl ?_
                      refine xw_get (ci := 11) (k := 38) (v := .int (ρ.1 38)) dX10_total_106 hR.1 rfl inX10 (by decide) tw_829 (Or.inl rfl) rfl ?_
                      rw [hAb.2.2.2.2.2.2.2.2.2]
                      exact xw_iret rfl dX10_total_109 ⟨rfl, hRM, hE1⟩
                    · skip
                      refine xw_tableOut (tgt := 110) dX10_total_6 (show w.toInt < 0 ∨ 9 < w.toInt by have z0 := w_ne (n := 0) (by decide) v0; have z1 := w_ne (n := 1) (by decide) v1; have z2 := w_ne (n := 2) (by decide) v2; have z3 := w_ne (n := 3) (by decide) v3; have z4 := w_ne (n := 4) (by decide) v4; have z5 := w_ne (n := 5) (by decide) v5; have z6 := w_ne (n := 6) (by decide) v6; have z7 := w_ne (n := 7) (by decide) v7; have z8 := w_ne (n := 8) (by decide) v8; have z9 := w_ne (n := 9) (by decide) v9; omega) rfl ?_
                      refine xw_iconst (v := (-1)) dX10_total_110 (by decide) ?_
                      exact xw_iret rfl dX10_total_111 ⟨by unfold tot; rw [if_neg (show ¬ w = 0 from v0), if_neg (show ¬ w = 1 from v1), if_neg (show ¬ w = 2 from v2), if_neg (show ¬ w = 3 from v3), if_neg (show ¬ w = 4 from v4), if_neg (show ¬ w = 5 from v5), if_neg (show ¬ w = 6 from v6), if_neg (show ¬ w = 7 from v7), if_neg (show ¬ w = 8 from v8), if_neg (show ¬ w = 9 from v9)], hRM, hE1⟩
theorem ct_mready {a w : Int32} (h : RM M m B σ th K V) (hG : GS σ) : CT G 0 0 mX10_ready [.ref m, .int a, .int w] M (fun r M1 => r = some (.int (rdy σ a w)) ∧ RM M1 m B σ 0 K V ∧ EF M M1 m B) := by
  obtain ⟨ρ0, T0, hR0, h00, hAb0, hT0, hW0⟩ := id h
  have hq1 := hG.2.2.2.2.2.2.2.2.1.1
  refine ct_go (by decide +kernel) (Nat.le_of_ble_eq_true rfl) (L := [(0, .ref m), (1, .int a), (2, .int w)]) rfl ?_
  refine xw_aload_n dX10_ready_0 rfl rfl ?_
  refine xw_iconst (v := 0) dX10_ready_1 (by decide) ?_
  refine xw_pc (pc2 := 2) rfl ?_
  refine xw_put (ci := 11) (k := 0) tyX10 dX10_ready_2 hR0.1 rfl inX10 tyX10_ok nmX10 (by decide) tw_791 (Or.inl rfl) rfl rfl rfl rfl (Nat.le_of_ble_eq_true rfl) ?_
  dsimp only [flM, List.set]
  have hR1 : RW (oput M 11 m (some [.int (0), .int (ρ0.1 1), .ref (B 2), .ref (B 3), .ref (B 4), .ref (B 5), .ref (B 6), .ref (B 7), .int (ρ0.1 8), .int (ρ0.1 9), .ref (B 10), .ref (B 11), .ref (B 12), .int (ρ0.1 13), .ref (B 14), .ref (B 15), .ref (B 16), .int (ρ0.1 17), .ref (B 18), .ref (B 19), .ref (B 20), .ref (B 21), .ref (B 22), .int (ρ0.1 23), .ref (B 24), .ref (B 25), .ref (B 26), .ref (B 27), .int (ρ0.1 28), .ref (B 29), .ref (B 30), .ref (B 31), .int (ρ0.1 32), .ref (B 33), .ref (B 34), .ref (B 35), .int (ρ0.1 36), .int (ρ0.1 37), .int (ρ0.1 38), .ref (B 39), .ref (B 40)])) m B (rS ρ0 0 0) := hR0.sset (k := 0) (v := 0)
  have hE1 : EF M (oput M 11 m (some [.int (0), .int (ρ0.1 1), .ref (B 2), .ref (B 3), .ref (B 4), .ref (B 5), .ref (B 6), .ref (B 7), .int (ρ0.1 8), .int (ρ0.1 9), .ref (B 10), .ref (B 11), .ref (B 12), .int (ρ0.1 13), .ref (B 14), .ref (B 15), .ref (B 16), .int (ρ0.1 17), .ref (B 18), .ref (B 19), .ref (B 20), .ref (B 21), .ref (B 22), .int (ρ0.1 23), .ref (B 24), .ref (B 25), .ref (B 26), .ref (B 27), .int (ρ0.1 28), .ref (B 29), .ref (B 30), .ref (B 31), .int (ρ0.1 32), .ref (B 33), .ref (B 34), .ref (B 35), .int (ρ0.1 36), .int (ρ0.1 37), .int (ρ0.1 38), .ref (B 39), .ref (B 40)])) m B := (EF.rf M m B).tr EF.o
  generalize oput M 11 m (some [.int (0), .int (ρ0.1 1), .ref (B 2), .ref (B 3), .ref (B 4), .ref (B 5), .ref (B 6), .ref (B 7), .int (ρ0.1 8), .int (ρ0.1 9), .ref (B 10), .ref (B 11), .ref (B 12), .int (ρ0.1 13), .ref (B 14), .ref (B 15), .ref (B 16), .int (ρ0.1 17), .ref (B 18), .ref (B 19), .ref (B 20), .ref (B 21), .ref (B 22), .int (ρ0.1 23), .ref (B 24), .ref (B 25), .ref (B 26), .ref (B 27), .int (ρ0.1 28), .ref (B 29), .ref (B 30), .ref (B 31), .int (ρ0.1 32), .ref (B 33), .ref (B 34), .ref (B 35), .int (ρ0.1 36), .int (ρ0.1 37), .int (ρ0.1 38), .ref (B 39), .ref (B 40)]) = M1 at hR1 hE1 ⊢
  have hRM : RM M1 m B σ 0 K V := RM.th' hR0 h00.2 hAb0 hT0 hW0 hR1
  obtain ⟨ρ, T, hR, h0, hAb, hT, hW⟩ := id hRM
  have hRd := hAb.2.2.2.1
  refine xw_iload_n dX10_ready_5 rfl rfl ?_
  refine xw_if_lt (tgt := 17) dX10_ready_6 (by decide) (fun c1 => ?_) (fun c1 => ?_)
  · skip
    refine xw_iconst (v := (-1)) dX10_ready_17 (by decide) ?_
    exact xw_iret rfl dX10_ready_18 ⟨by unfold rdy; rw [if_neg (fun z => z.1 c1)], hRM, hE1⟩
  · skip
    refine xw_iload_n dX10_ready_9 rfl rfl ?_
    refine xw_aload_n dX10_ready_10 rfl rfl ?_
    refine xw_get (ci := 11) (k := 23) (v := .int (ρ.1 23)) dX10_ready_11 hR.1 rfl inX10 (by decide) tw_814 (Or.inl rfl) rfl ?_
    rw [hRd.1]
    refine xw_icmp_lt (tgt := 19) dX10_ready_14 (by decide) (fun c2 => ?_) (fun c2 => ?_)
    · obtain ⟨j, hj, hij, -⟩ := pk_mu c1 (show ¬ nI (sR σ).length ≤ a from fun z => absurd c2 (by rw [Int32.not_lt]; exact z)) (show (sR σ).length < 2 ^ 31 by omega)
      obtain ⟨x, hx⟩ : ∃ x, (sR σ)[j]? = some x := ⟨_, List.getElem?_eq_getElem hj⟩
      obtain ⟨b1, b2, -⟩ := hRd.2 j x hx
      have hin : ¬ a < 0 ∧ a < nI (sR σ).length := ⟨c1, c2⟩
      have hxg : ((sR σ)[a.toNatClampNeg]?).getD (0, 0, no3) = x := by rw [hij, nI_clamp (by omega), hx]; rfl
      have inj : vp_in (nI j) 302 := vp_in_nI (by omega) (by decide)
      have j31 : j < 2 ^ 31 := by omega
      refine xw_iload_n dX10_ready_19 rfl rfl ?_
      refine xw_if_ne (tgt := 32) dX10_ready_20 (by decide) (fun v0 => ?_) (fun v0 => ?_)
      · skip
        refine xw_iload_n dX10_ready_32 rfl rfl ?_
        refine xw_iconst (v := 1) dX10_ready_33 (by decide) ?_
        refine xw_icmp_ne (tgt := 46) dX10_ready_34 (by decide) (fun v1 => ?_) (fun v1 => ?_)
        · skip
          refine xw_iconst (v := (-1)) dX10_ready_46 (by decide) ?_
          exact xw_iret rfl dX10_ready_47 ⟨by unfold rdy; rw [if_pos hin, if_neg v0, if_neg v1], hRM, hE1⟩
        · skip
          refine xw_aload_n dX10_ready_37 rfl rfl ?_
          refine xw_get (ci := 11) (k := 25) (v := .ref (B 25)) dX10_ready_38 hR.1 rfl inX10 (by decide) tw_816 (Or.inl rfl) rfl ?_
          refine xw_iload_n dX10_ready_41 rfl rfl ?_
          have hres : rdy σ a w = nI x.2.1 := by unfold rdy; rw [if_pos hin, if_neg v0, if_pos v1, hxg]
          rw [hres]
          rw [hij]
          refine xw_iald dX10_ready_42 (hR.2.1 25 rfl) inj ?_
          rw [nI_clamp j31]
          rw [b2]
          refine xw_goto (tgt := 47) dX10_ready_43 (by decide) ?_
          refine xw_pc (pc2 := 47) rfl ?_
          exact xw_iret rfl dX10_ready_47 ⟨rfl, hRM, hE1⟩
      · skip
        refine xw_aload_n dX10_ready_23 rfl rfl ?_
        refine xw_get (ci := 11) (k := 24) (v := .ref (B 24)) dX10_ready_24 hR.1 rfl inX10 (by decide) tw_815 (Or.inl rfl) rfl ?_
        refine xw_iload_n dX10_ready_27 rfl rfl ?_
        have hres : rdy σ a w = nI x.1 := by unfold rdy; rw [if_pos hin, if_pos v0, hxg]
        rw [hres]
        rw [hij]
        refine xw_iald dX10_ready_28 (hR.2.1 24 rfl) inj ?_
        rw [nI_clamp j31]
        rw [b1]
        refine xw_goto (tgt := 47) dX10_ready_29 (by decide) ?_
        exact xw_iret rfl dX10_ready_47 ⟨rfl, hRM, hE1⟩
    · skip
      refine xw_iconst (v := (-1)) dX10_ready_17 (by decide) ?_
      exact xw_iret rfl dX10_ready_18 ⟨by unfold rdy; rw [if_neg (fun z => c2 z.2)], hRM, hE1⟩
theorem ct_mtoken {k p : Int32} {v : Int64} (h : RM M m B σ th K V) (hG : GS σ) : CT G 3 76 mX10_token [.ref m, .int k, .int p, .long v] M (fun r M1 => r = some (.int (if tokC σ k p then 1 else 0)) ∧ RM M1 m B (tokS σ k p v) 0 K V ∧ EF M M1 m B) := by
  obtain ⟨ρ0, T0, hR0, h00, hAb0, hT0, hW0⟩ := id h
  have h40 := hG.1
  have htr := hG.2.2.2.2.2.2.2.2.1.2.1
  refine ct_go (by decide +kernel) (Nat.le_of_ble_eq_true rfl) (L := [(0, .ref m), (1, .int k), (2, .int p), (3, .long v)]) rfl ?_
  refine xw_aload_n dX10_token_0 rfl rfl ?_
  refine xw_iconst (v := 0) dX10_token_1 (by decide) ?_
  refine xw_put (ci := 11) (k := 0) tyX10 dX10_token_2 hR0.1 rfl inX10 tyX10_ok nmX10 (by decide) tw_791 (Or.inl rfl) rfl rfl rfl rfl (Nat.le_of_ble_eq_true rfl) ?_
  dsimp only [flM, List.set]
  have hR1 : RW (oput M 11 m (some [.int (0), .int (ρ0.1 1), .ref (B 2), .ref (B 3), .ref (B 4), .ref (B 5), .ref (B 6), .ref (B 7), .int (ρ0.1 8), .int (ρ0.1 9), .ref (B 10), .ref (B 11), .ref (B 12), .int (ρ0.1 13), .ref (B 14), .ref (B 15), .ref (B 16), .int (ρ0.1 17), .ref (B 18), .ref (B 19), .ref (B 20), .ref (B 21), .ref (B 22), .int (ρ0.1 23), .ref (B 24), .ref (B 25), .ref (B 26), .ref (B 27), .int (ρ0.1 28), .ref (B 29), .ref (B 30), .ref (B 31), .int (ρ0.1 32), .ref (B 33), .ref (B 34), .ref (B 35), .int (ρ0.1 36), .int (ρ0.1 37), .int (ρ0.1 38), .ref (B 39), .ref (B 40)])) m B (rS ρ0 0 0) := hR0.sset (k := 0) (v := 0)
  have hE1 : EF M (oput M 11 m (some [.int (0), .int (ρ0.1 1), .ref (B 2), .ref (B 3), .ref (B 4), .ref (B 5), .ref (B 6), .ref (B 7), .int (ρ0.1 8), .int (ρ0.1 9), .ref (B 10), .ref (B 11), .ref (B 12), .int (ρ0.1 13), .ref (B 14), .ref (B 15), .ref (B 16), .int (ρ0.1 17), .ref (B 18), .ref (B 19), .ref (B 20), .ref (B 21), .ref (B 22), .int (ρ0.1 23), .ref (B 24), .ref (B 25), .ref (B 26), .ref (B 27), .int (ρ0.1 28), .ref (B 29), .ref (B 30), .ref (B 31), .int (ρ0.1 32), .ref (B 33), .ref (B 34), .ref (B 35), .int (ρ0.1 36), .int (ρ0.1 37), .int (ρ0.1 38), .ref (B 39), .ref (B 40)])) m B := (EF.rf M m B).tr EF.o
  generalize oput M 11 m (some [.int (0), .int (ρ0.1 1), .ref (B 2), .ref (B 3), .ref (B 4), .ref (B 5), .ref (B 6), .ref (B 7), .int (ρ0.1 8), .int (ρ0.1 9), .ref (B 10), .ref (B 11), .ref (B 12), .int (ρ0.1 13), .ref (B 14), .ref (B 15), .ref (B 16), .int (ρ0.1 17), .ref (B 18), .ref (B 19), .ref (B 20), .ref (B 21), .ref (B 22), .int (ρ0.1 23), .ref (B 24), .ref (B 25), .ref (B 26), .ref (B 27), .int (ρ0.1 28), .ref (B 29), .ref (B 30), .ref (B 31), .int (ρ0.1 32), .ref (B 33), .ref (B 34), .ref (B 35), .int (ρ0.1 36), .int (ρ0.1 37), .int (ρ0.1 38), .ref (B 39), .ref (B 40)]) = M1 at hR1 hE1 ⊢
  have hRM : RM M1 m B σ 0 K V := RM.th' hR0 h00.2 hAb0 hT0 hW0 hR1
  obtain ⟨ρ, T, hR, h0, hAb, hT, hW⟩ := id hRM
  obtain ⟨hNd, hC, hAr, hRd, hK, hRs, hS1, hS2, hS3, hS4⟩ := id hAb
  have no : ¬ tokC σ k p → (some (Value.int 0) = some (Value.int (if tokC σ k p then 1 else 0)) ∧ RM M1 m B (tokS σ k p v) 0 K V ∧ EF M M1 m B) := fun hn => ⟨by rw [if_neg hn], by unfold tokS; rw [if_neg hn]; exact hRM, hE1⟩
  generalize hMM : M1 = M2 at hRM hE1 hR no ⊢
  clear hMM hR1
  refine xw_aload_n dX10_token_5 rfl rfl ?_
  refine xw_iload_n dX10_token_6 rfl rfl ?_
  refine xw_callV (q2 := mX10_isNode) (n2 := 1) (ci := 11) (Bs := [.int k]) (rest := []) (ct_misNode hR hNd.1) dX10_token_7 rfl (o_at hR.1) rfl rfl tw_932 tw_934 tw_19 tw_47 tw_935 (by decide +kernel) rfl (Nat.le_of_ble_eq_true rfl) (Nat.le_of_ble_eq_true rfl) (Nat.le_of_ble_eq_true rfl) (fun rr M1 hr hle1 => ?_)
  obtain ⟨rfl, hM1⟩ := hr
  obtain rfl := hM1.symm
  by_cases hin : inN σ k
  · obtain ⟨j, hj, hkj, -⟩ := pk_mu hin.1 (show ¬ nI (sN σ).length ≤ k from fun z => absurd hin.2 (by rw [Int32.not_lt]; exact z)) (show (sN σ).length < 2 ^ 31 by omega)
    have hkc : k.toNatClampNeg = j := by rw [hkj, nI_clamp (by omega)]
    obtain ⟨n1, -⟩ := hNd.2 j _ (nd_at hj)
    have hp3 := pts_b σ j
    have ho := (hG.2.1 j _ (nd_at hj)).1
    rw [if_pos hin]
    refine xw_if_eq (tgt := 37) dX10_token_10 (by decide) (fun zz => absurd zz (by decide)) (fun _ => ?_)
    refine xw_iload_n dX10_token_13 rfl rfl ?_
    refine xw_if_lt (tgt := 37) dX10_token_14 (by decide) (fun d1 => ?_) (fun d1 => ?_)
    · skip
      refine xw_iconst (v := 0) dX10_token_37 (by decide) ?_
      exact xw_zret rfl (by rfl) dX10_token_38 (no (fun z => z.2.1.1 d1))
    · skip
      refine xw_iload_n dX10_token_17 rfl rfl ?_
      refine xw_aload_n dX10_token_18 rfl rfl ?_
      refine xw_get (ci := 11) (k := 2) (v := .ref (B 2)) dX10_token_19 hR.1 rfl inX10 (by decide) tw_793 (Or.inl rfl) rfl ?_
      refine xw_iload_n dX10_token_22 rfl rfl ?_
      refine xw_pc (pc2 := 23) rfl ?_
      rw [hkj]
      refine xw_iald dX10_token_23 (hR.2.1 2 rfl) (vp_in_nI (show j < 40 by omega) (by decide)) ?_
      rw [show ρ.2.1 2 (nI j).toNatClampNeg = nI (nd σ j).1 by rw [nI_clamp (by omega)]; exact n1]
      refine xw_callS (q2 := mX10_ports) (n2 := 1) (Bs := [.int (nI (nd σ j).1)]) (rest := [.int p]) (ct_mports ho) dX10_token_24 rfl tw_936 tw_937 tw_47 tw_938 (by decide +kernel) rfl (Nat.le_of_ble_eq_true rfl) (Nat.le_of_ble_eq_true rfl) (Nat.le_of_ble_eq_true rfl) (fun rr M1 hr hle1 => ?_)
      obtain ⟨rfl, hM1⟩ := hr
      obtain rfl := hM1.symm
      rw [← hkj]
      refine xw_icmp_ge (tgt := 37) dX10_token_27 (by decide) (fun d2 => ?_) (fun d2 => ?_)
      · skip
        refine xw_iconst (v := 0) dX10_token_37 (by decide) ?_
        exact xw_zret rfl (by rfl) dX10_token_38 (no (fun z => z.2.1.2 (by rw [hkc]; exact d2)))
      · obtain ⟨pp, hpp, hpe, -⟩ := pk_mu d1 (show ¬ nI (pts σ j) ≤ p from d2) (show pts σ j < 2 ^ 31 by omega)
        have hpc : p.toNatClampNeg = pp := by rw [hpe, nI_clamp (by omega)]
        refine xw_aload_n dX10_token_30 rfl rfl ?_
        refine xw_get (ci := 11) (k := 36) (v := .int (ρ.1 36)) dX10_token_31 hR.1 rfl inX10 (by decide) tw_827 (Or.inl rfl) rfl ?_
        rw [hS2]
        refine xw_if_le (tgt := 39) dX10_token_34 (by decide) (fun d3 => ?_) (fun d3 => ?_)
        · have t0 : sTr σ = 0 := Nat.eq_zero_of_not_pos (fun z => absurd d3 (show ¬ nI (sTr σ) ≤ nI 0 from nI_ge z (by omega)))
          have hC' : tokC σ k p := ⟨hin, ⟨d1, by rw [hkc]; exact d2⟩, t0⟩
          refine xw_aload_n dX10_token_39 rfl rfl ?_
          refine xw_iconst (v := 1) dX10_token_40 (by decide) ?_
          refine xw_put (ci := 11) (k := 8) tyX10 dX10_token_41 hR.1 rfl inX10 tyX10_ok nmX10 (by decide) tw_799 (Or.inl rfl) rfl rfl rfl rfl (Nat.le_of_ble_eq_true rfl) ?_
          dsimp only [flM, List.set]
          have hR3 : RW (oput M2 11 m (some [.int (ρ.1 0), .int (ρ.1 1), .ref (B 2), .ref (B 3), .ref (B 4), .ref (B 5), .ref (B 6), .ref (B 7), .int (1), .int (ρ.1 9), .ref (B 10), .ref (B 11), .ref (B 12), .int (ρ.1 13), .ref (B 14), .ref (B 15), .ref (B 16), .int (ρ.1 17), .ref (B 18), .ref (B 19), .ref (B 20), .ref (B 21), .ref (B 22), .int (ρ.1 23), .ref (B 24), .ref (B 25), .ref (B 26), .ref (B 27), .int (ρ.1 28), .ref (B 29), .ref (B 30), .ref (B 31), .int (ρ.1 32), .ref (B 33), .ref (B 34), .ref (B 35), .int (ρ.1 36), .int (ρ.1 37), .int (ρ.1 38), .ref (B 39), .ref (B 40)])) m B (rS ρ 8 1) := hR.sset (k := 8) (v := 1)
          have hE3 : EF M (oput M2 11 m (some [.int (ρ.1 0), .int (ρ.1 1), .ref (B 2), .ref (B 3), .ref (B 4), .ref (B 5), .ref (B 6), .ref (B 7), .int (1), .int (ρ.1 9), .ref (B 10), .ref (B 11), .ref (B 12), .int (ρ.1 13), .ref (B 14), .ref (B 15), .ref (B 16), .int (ρ.1 17), .ref (B 18), .ref (B 19), .ref (B 20), .ref (B 21), .ref (B 22), .int (ρ.1 23), .ref (B 24), .ref (B 25), .ref (B 26), .ref (B 27), .int (ρ.1 28), .ref (B 29), .ref (B 30), .ref (B 31), .int (ρ.1 32), .ref (B 33), .ref (B 34), .ref (B 35), .int (ρ.1 36), .int (ρ.1 37), .int (ρ.1 38), .ref (B 39), .ref (B 40)])) m B := hE1.tr EF.o
          generalize oput M2 11 m (some [.int (ρ.1 0), .int (ρ.1 1), .ref (B 2), .ref (B 3), .ref (B 4), .ref (B 5), .ref (B 6), .ref (B 7), .int (1), .int (ρ.1 9), .ref (B 10), .ref (B 11), .ref (B 12), .int (ρ.1 13), .ref (B 14), .ref (B 15), .ref (B 16), .int (ρ.1 17), .ref (B 18), .ref (B 19), .ref (B 20), .ref (B 21), .ref (B 22), .int (ρ.1 23), .ref (B 24), .ref (B 25), .ref (B 26), .ref (B 27), .int (ρ.1 28), .ref (B 29), .ref (B 30), .ref (B 31), .int (ρ.1 32), .ref (B 33), .ref (B 34), .ref (B 35), .int (ρ.1 36), .int (ρ.1 37), .int (ρ.1 38), .ref (B 39), .ref (B 40)]) = M3 at hR3 hE3 ⊢
          have hA3 := (AG.rf [8] ρ).s (k := 8) (v := 1) (by decide)
          have hRM3 : RM M3 m B (uB σ 1) 0 K V := by
            refine ⟨_, T, hR3, h0, ⟨?_, ?_, ?_, ?_, ?_, ?_, ?_⟩, hT.ag hA3 (by decide), hW.1, ?_⟩
            · rw [sN_uB]; exact hNd.ag hA3 (by decide)
            · rw [sC_uB]; exact hC.ag hA3 (by decide)
            · rw [sA_uB, sLe_uB, sCe_uB]; exact hAr.ag hA3 (by decide)
            · rw [sR_uB]; exact hRd.ag hA3 (by decide)
            · rw [sK_uB]; exact hK.ag hA3 (by decide)
            · rw [sRs_uB]; exact hRs.ag hA3 (by decide)
            · unfold HSc
              rw [sB_uB, sTr_uB, sW_uB, sAl_uB, (hA3 36 (by decide)).1, (hA3 37 (by decide)).1, (hA3 38 (by decide)).1]
              exact ⟨rfl, hS2, hS3, hS4⟩
            · intro a b c' d; rw [sT_uB]; exact hW.2 a b c' d
          have q1 := ct_mcomes (G := G) (i := j) (p := pp) (c := 0) (v := ((0 : Int32), v)) hRM3 (hG.beg (Nat.le_refl _)) hj hpp hG.2.2.1.1 (Or.inl rfl)
          refine xw_aload_n dX10_token_44 rfl rfl ?_
          refine xw_iload_n dX10_token_45 rfl rfl ?_
          refine xw_iload_n dX10_token_46 rfl rfl ?_
          refine xw_iconst (v := 0) dX10_token_47 (by decide) ?_
          refine xw_iconst (v := 0) dX10_token_48 (by decide) ?_
          refine xw_lload_n dX10_token_49 rfl rfl ?_
          rw [hkj, hpe]
          refine xw_callV (q2 := mX10_comes) (n2 := 5) (ci := 11) (Bs := [.int (nI j), .int (nI pp), .int (nI 0), .int 0, .long v]) (rest := []) (q1) dX10_token_50 rfl (o_at hR3.1) rfl rfl tw_943 tw_945 tw_20 tw_47 tw_946 (by decide +kernel) rfl (Nat.le_of_ble_eq_true rfl) (Nat.le_of_ble_eq_true rfl) (Nat.le_of_ble_eq_true rfl) (fun rr M1 hr hle1 => ?_)
          obtain ⟨rfl, hR4, hE4⟩ := hr
          rw [← hkj, ← hpe]
          refine xw_iconst (v := 1) dX10_token_53 (by decide) ?_
          refine xw_zret rfl (by rfl) dX10_token_54 ⟨by rw [if_pos hC'], ?_, hE3.tr hE4⟩
          unfold tokS
          rw [if_pos hC', hkc, hpc]
          exact hR4
        · have t0 : ¬ sTr σ = 0 := fun zz => d3 (show nI (sTr σ) ≤ nI 0 from nI_le (by omega) (by decide))
          refine xw_iconst (v := 0) dX10_token_37 (by decide) ?_
          refine xw_pc (pc2 := 38) rfl ?_
          exact xw_zret rfl (by rfl) dX10_token_38 (no (fun z => t0 z.2.2))
  · rw [if_neg hin]
    refine xw_if_eq (tgt := 37) dX10_token_10 (by decide) (fun _ => ?_) (fun zz => absurd (by decide) zz)
    refine xw_iconst (v := 0) dX10_token_37 (by decide) ?_
    exact xw_zret rfl (by rfl) dX10_token_38 (no (fun z => hin z.1))
end MPUB
